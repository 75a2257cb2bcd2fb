/-! the survey serves as long as nothing changes -/
theorem g_survey {N V S h s t : Nat} {kd wk wa wb fl am bm : Nat → Nat} {gu wi st here struck told sv : Int32} {gK wK wA wB wN floors ah be : Nat → Int32}
    (hO : SlOK N V S kd wk wa wb) (hX : SlX N V S kd wk wa wb gu wi st gK wK wA wB wN) (hNt : NtOK N V fl h s) (hNx : NtX fl h s floors here struck)
    (hMo : MoOK N t am bm) (hMx : MoX t am bm told ah be) (sta good soon woken size endI : Int32) (KS B W order waits wak places times FG SG E L : Nat → Int32)
    (hSv : sv = 0 ∨ sv = 1 ∧ sta = nI (mkb (stB wk wa wb h s) V) ∧ SvP V S kd wk wa wb fl h (mkb (stB wk wa wb h s) V) t am bm (rds h).length good soon woken KS FG SG E L B W) :
    ∃ good' soon' woken' size' endI' KS' B' W' order' waits' wak' places' times' FG' SG' E' L', fX8_surveyIfChanged KK sv sta good soon woken KS B W size endI order waits wak places times FG SG E L here struck wi st wN wK wA wB gK floors told ah be =
      some (1, nI (mkb (stB wk wa wb h s) V), good', soon', woken', KS', B', W', size', endI', order', waits', wak', places', times', FG', SG', E', L') ∧
      SvP V S kd wk wa wb fl h (mkb (stB wk wa wb h s) V) t am bm (rds h).length good' soon' woken' KS' FG' SG' E' L' B' W' := by
  unfold fX8_surveyIfChanged
  rcases hSv with rfl | ⟨rfl, rfl, hSv⟩
  · obtain ⟨n1, n2, n3⟩ := hNx
    obtain ⟨good', soon', woken', size', endI', KS', B', W', order', waits', wak', places', times', FG', SG', E', L', e1, e2⟩ := g_through hO hX hNt.1 hNt.2.1 (fun g hg => ⟨n3 g hg, hNt.2.2.2 g hg⟩) n1 n2 hMo hMx sta good soon woken size endI KS B W order waits wak places times FG SG E L
    rw [if_pos rfl, e1, bd18_eq]
    exact ⟨good', soon', woken', size', endI', KS', B', W', order', waits', wak', places', times', FG', SG', E', L', rfl, e2⟩
  · rw [if_neg q_n10]
    exact ⟨good, soon, woken, size, endI, KS, B, W, order, waits, wak, places, times, FG, SG, E, L, rfl, hSv⟩
def oI : Option Nat → Int32
  | none => -1
  | some i => nI i
theorem bc_h (K : Nat) : ∀ h, h < 64 → fJ6_bitCount_0f7a4 K (nI h) = some (nI (mem h).length) := by
  have : ∀ h, h < 64 → fJ6_bitCount_0f7a4 0 (nI h) = some (nI (mem h).length) := by decide +kernel
  exact this
theorem m_isGood {K i m n : Nat} {kp : Nat → Nat} {keptBy : Nat → Int32} (hi : i < n) (hn : n ≤ 720) (hk : ∀ j, j < n → keptBy j = nI (kp j) ∧ kp j < 512) (hm : m < 512) : fX9_isGood K (nI i) (nI m) keptBy = some (bI (decide (kp i = m))) := by
  unfold fX9_isGood
  rw [p_gd (show i < 720 by omega) (by omega), nI_clamp (by omega), (hk i hi).1]
  exact bI_eq _ _ (by have := (hk i hi).2; omega) (by omega)
theorem m_good {K m n : Nat} {kp : Nat → Nat} {keptBy : Nat → Int32} (hn : n ≤ 720) (hk : ∀ j, j < n → keptBy j = nI (kp j) ∧ kp j < 512) (hm : m < 512) :
    ∀ i q a x3, i ≤ n → i < q → fX9_good_L34 K (nI m) keptBy q (nI a) x3 (nI i - 1) = some (nI (a + cntI (fun i => decide (kp i = m)) i), match fstI (fun i => decide (kp i = m)) i with | some j => nI j | none => x3) := by
  intro i
  induction i with
  | zero =>
    intro q a x3 hi hq
    obtain ⟨q, rfl⟩ : ∃ y, q = y + 1 := ⟨q - 1, by omega⟩
    rw [fX9_good_L34, if_pos (by decide)]
    rfl
  | succ i ih =>
    intro q a x3 hi hq
    obtain ⟨q, rfl⟩ : ∃ y, q = y + 1 := ⟨q - 1, by omega⟩
    rw [nI_pred, fX9_good_L34, if_neg (nI_pos (by omega)), m_isGood (show i < n by omega) hn hk hm, bd1_eq]
    cases hp : decide (kp i = m) with
    | false =>
      rw [bI_f, if_pos rfl, bd1_eq]
      simp only [nm]
      rw [bd1_eq, if_pos rfl, bd1_eq, x_pm, Int32.add_zero, ih q a x3 (by omega) (by omega), cntI, fstI]
      simp only [hp, Bool.false_eq_true, if_false, Nat.add_zero]
      cases fstI (fun i => decide (kp i = m)) i <;> rfl
    | true =>
      rw [bI_t, if_neg q_n10, bd1_eq]
      simp only [nm]
      rw [bd1_eq, if_neg q_n10, bd1_eq, x_pm, nI_1, ih q (a + 1) (nI i) (by omega) (by omega), cntI, fstI]
      simp only [hp, if_true]
      rw [show a + 1 + cntI (fun i => decide (kp i = m)) i = a + (cntI (fun i => decide (kp i = m)) i + 1) by omega]
      cases fstI (fun i => decide (kp i = m)) i <;> rfl
theorem m_soonest {K m n : Nat} {kp E : Nat → Nat} {keptBy endsAt : Nat → Int32} (hK : 1000 ≤ K) (hn : n ≤ 720) (hk : ∀ j, j < n → keptBy j = nI (kp j) ∧ kp j < 512) (hE : ∀ j, j < n → endsAt j = nI (E j) ∧ E j ≤ 1000) (hm : m < 512) :
    fX9_soonestRound K (nI m) (nI n) keptBy endsAt = some (oI (bstI (fun i => decide (kp i = m)) E n)) := by
  have key : ∀ d i q, i + d = n → d < q → fX9_soonestRound_L4 K (nI m) (nI n) keptBy endsAt q (oI (bstI (fun i => decide (kp i = m)) E i)) (nI i) = some (oI (bstI (fun i => decide (kp i = m)) E n)) := by
    intro d
    induction d with
    | zero =>
      intro i q hi hq
      obtain ⟨q, rfl⟩ : ∃ y, q = y + 1 := ⟨q - 1, by omega⟩
      have : i = n := by omega
      subst this
      rw [fX9_soonestRound_L4, if_pos (nI_le (Nat.le_refl _) (by omega))]
    | succ d ih =>
      intro i q hi hq
      obtain ⟨q, rfl⟩ : ∃ y, q = y + 1 := ⟨q - 1, by omega⟩
      have ih' := ih (i + 1) q (by omega) (by omega)
      rw [bstI] at ih'
      rw [fX9_soonestRound_L4, if_neg (nI_ge (by omega) (by omega)), m_isGood (show i < n by omega) hn hk hm, bd1_eq]
      cases hp : decide (kp i = m) with
      | false =>
        simp only [hp, Bool.false_eq_true, if_false] at ih'
        rw [bI_f, if_pos rfl, bd1_eq]
        simp only [nm, nI_1]
        exact ih'
      | true =>
        simp only [hp, if_true] at ih'
        rw [bI_t, if_neg q_n10]
        rcases cnt_two (fun i => decide (kp i = m)) i with ⟨-, -, c, -⟩ | ⟨-, -, c, -⟩
        · rw [c E] at ih' ⊢
          rw [oI, if_pos (by decide)]
          simp only [bs0, bd1_eq, nm, nI_1]
          exact ih'
        · obtain ⟨b, hb, -, c2⟩ := c E
          rw [c2] at ih' ⊢
          rw [oI, if_neg (nI_pos (by omega)), p_gd (show i < 720 by omega) (by omega), p_gd (show b < 720 by omega) (by omega), nI_clamp (show i < 2 ^ 31 by omega), nI_clamp (show b < 2 ^ 31 by omega), (hE i (by omega)).1, (hE b (by omega)).1]
          have h1 := (hE i (by omega)).2
          have h2 := (hE b (by omega)).2
          by_cases hlt : E i < E b
          · simp only [hlt, if_true] at ih'
            rw [if_neg (nI_ge hlt (by omega))]
            simp only [bs0, bd1_eq, nm, nI_1]
            exact ih'
          · simp only [hlt, if_false] at ih'
            rw [if_pos (nI_le (by omega) (by omega))]
            simp only [bs0, bd1_eq, nm, nI_1]
            exact ih'
  unfold fX9_soonestRound
  have e := key n 0 K (by omega) (by omega)
  change fX9_soonestRound_L4 _ _ _ _ _ _ (-1) 0 = _ at e
  rw [e, bd1_eq]
/-- the k-th guest of a round that the survey keeps -/
theorem g_guestOf {K c h k : Nat} {FG : Nat → Int32} (hh : h < 64) (hc : c ≤ 720) (hk1 : 1 ≤ k) (hk : k ≤ 6) : fX8_guestOfGoodRound K 6 (nI k) (nI c) (nI h) FG = some (if c = 0 ∨ (mem h).length < k then -4 else FG (k - 1)) := by
  unfold fX8_guestOfGoodRound
  have hl := mem_len h
  by_cases h0 : c = 0
  · subst h0
    rw [if_pos (by decide), bd1_eq, if_pos rfl, if_pos (Or.inl rfl)]
  · rw [if_neg (nI_nle (by omega) (by omega)), bc_h K h hh, bd1_eq]
    by_cases hlt : (mem h).length < k
    · rw [if_pos (nI_lt hlt (by omega)), bd1_eq, if_pos rfl, if_pos (Or.inr hlt)]
    · obtain ⟨k, rfl⟩ : ∃ y, k = y + 1 := ⟨k - 1, by omega⟩
      rw [if_neg (nI_nlt (by omega) (by omega)), bd1_eq, if_neg q_n10, if_neg (fun z => z.elim h0 hlt), nI_pred, q_at (show k < 6 by omega) (by omega), bd1_eq]
      rfl
