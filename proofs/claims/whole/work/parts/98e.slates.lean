/-- some good round that is as was told has a before b -/
def slP (gd wo : Nat → Bool) (o : Nat → List Nat) (a b : Nat) (i : Nat) : Bool := gd i && wo i && decide ((o i).idxOf a < (o i).idxOf b)
def anI (p : Nat → Bool) : Nat → Bool
  | 0 => false
  | n + 1 => anI p n || p n
theorem or_tb (p : Nat → Bool) (x : Nat → Nat) (b : Nat) : ∀ n, (orI p x n).testBit b = anI (fun i => p i && (x i).testBit b) n
  | 0 => by simp [orI, anI]
  | n + 1 => by
    have ih := or_tb p x b n
    rw [orI, anI]
    cases hp : p n with
    | false => simp [ih]
    | true => simp [ih, Nat.testBit_or]
theorem an_ext {p q : Nat → Bool} : ∀ n, (∀ i, i < n → p i = q i) → anI p n = anI q n
  | 0 => fun _ => rfl
  | n + 1 => fun h => by rw [anI, anI, an_ext n (fun i hi => h i (by omega)), h n (by omega)]
/-- the class's bit of behindAsWoken is the same -/
theorem sl_bit {gd wo : Nat → Bool} {o : Nat → List Nat} {a b n : Nat} (ha : a < 6) (hb : b < 6) (hm : ∀ j, j < n → a ∈ o j ∧ b ∈ o j) : (orI (fun i => gd i && wo i) (fun i => aftO (o i) a) n).testBit b = anI (slP gd wo o a b) n := by
  rw [or_tb]
  apply an_ext
  intro i hi
  obtain ⟨h1, h2⟩ := hm i hi
  unfold slP
  rw [aft_tb hb h1 h2]
theorem sl_out {gd wo : Nat → Bool} {o : Nat → List Nat} {a b n : Nat} (hm : ∀ j, j < n → a ∉ o j ∨ b ∉ o j) : (orI (fun i => gd i && wo i) (fun i => aftO (o i) a) n).testBit b = false := by
  rw [or_tb]
  have : ∀ m, m ≤ n → anI (fun i => gd i && wo i && (aftO (o i) a).testBit b) m = false := by
    intro m
    induction m with
    | zero => intro _; rfl
    | succ m ih =>
      intro h
      rw [anI, ih (by omega), Bool.false_or]
      have hx : (aftO (o m) a).testBit b = false := by
        unfold aftO
        rw [mkb_test]
        rcases hm m (by omega) with q | q <;> simp [q]
      simp only [hx, Bool.and_false]
  exact this n (Nat.le_refl _)
theorem cnt_10 (p : Nat → Bool) (n : Nat) : ∀ k, cntI p (n + k) = cntI p n + cntI (fun b => p (n + b)) k
  | 0 => rfl
  | k + 1 => by
    rw [show n + (k + 1) = (n + k) + 1 by omega, cntI, cnt_10 p n k, cntI]
    omega
theorem an_mono (p : Nat → Bool) {i : Nat} (h : anI p i = true) : ∀ k, anI p (i + k) = true
  | 0 => h
  | k + 1 => by rw [show i + (k + 1) = (i + k) + 1 by omega, anI, an_mono p h k]; rfl
theorem m_slate {K N h m t n l a b : Nat} {am bm : Nat → Nat} {kp : Nat → Nat} {o : Nat → List Nat} {st woke keptBy come : Nat → Int32} (hK : 1000 ≤ K) (hN : N ≤ 6) (hst : st 0 = nI h) (hh : h < 64) (hO : MoOK N t am bm) (hw : ∀ i, i < t → woke (2 * i) = nI (am i) ∧ woke (2 * i + 1) = nI (bm i))
    (hn : n ≤ 720) (hm : m < 512) (hl : l ≤ 6) (hF : FoP kp o n l keptBy come) (hmo : ∀ j, j < n → ∀ g, g ∈ o j ↔ g ∈ mem h) (ha : a < N) (hb : b < N) (hab : a ≠ b) (hha : h.testBit a = true) (hhb : h.testBit b = true) :
    fX9_slates_L55 K (nI a) (nI b) (nI N) (nI t) (nI m) (nI n) st keptBy come woke K 0 0 = some (bI (anI (slP (fun i => decide (kp i = m)) (fun i => wkO h t am bm (o i)) o a b) n)) := by
  have hma : a ∈ mem h := mem_6.mpr ⟨by omega, hha⟩
  have hmb : b ∈ mem h := mem_6.mpr ⟨by omega, hhb⟩
  have gst : ∀ c, c < N → fX9_isGuest K (nI c) (nI N) = some 1 := by
    intro c hc
    rcases q_guest (K := K) hN (nI c) with ⟨e, e'⟩ | ⟨g, hg, he, e, e'⟩
    · exfalso
      unfold fX9_isGuest at e'
      have := e'
      unfold fX9_in at this
      rw [if_neg (nI_pos (by omega)), if_neg (show ¬ (nI N - 1 < nI c) by
        obtain ⟨N, rfl⟩ : ∃ y, N = y + 1 := ⟨N - 1, by omega⟩
        rw [nI_pred]
        exact Int32.not_lt.mpr (nI_le (by omega) (by omega)))] at this
      revert this
      decide
    · exact e'
  have hne : ¬ nI a = nI b := fun q => hab ((nI_eq (by omega) (by omega)).mp q)
  have key : ∀ d i q, i + d = n → d < q → fX9_slates_L55 K (nI a) (nI b) (nI N) (nI t) (nI m) (nI n) st keptBy come woke q (bI (anI (slP (fun i => decide (kp i = m)) (fun i => wkO h t am bm (o i)) o a b) i)) (nI i) = some (bI (anI (slP (fun i => decide (kp i = m)) (fun i => wkO h t am bm (o i)) o a b) n)) := by
    intro d
    induction d with
    | zero =>
      intro i q hi hq
      obtain ⟨q, rfl⟩ : ∃ y, q = y + 1 := ⟨q - 1, by omega⟩
      have hi' : i = n := by omega
      subst hi'
      rw [fX9_slates_L55, if_pos (nI_le (Nat.le_refl _) (by omega))]
    | succ d ih =>
      intro i q hi hq
      obtain ⟨q, rfl⟩ : ∃ y, q = y + 1 := ⟨q - 1, by omega⟩
      have ih' := ih (i + 1) q (by omega) (by omega)
      rw [anI] at ih'
      obtain ⟨f1, f2, f3, f4, f5, f6⟩ := hF i (by omega)
      have oa := (hmo i (by omega) a).mpr hma
      have ob := (hmo i (by omega) b).mpr hmb
      have la := List.idxOf_lt_length_of_mem oa
      have lb := List.idxOf_lt_length_of_mem ob
      rw [fX9_slates_L55, if_neg (nI_ge (show i < n by omega) (by omega)), if_neg hne, gst a ha, gst b hb, bd1_eq, if_neg q_n10, bd1_eq, if_neg q_n10, m_isHere hst hh (by omega), m_isHere hst hh (by omega), hha, hhb, bI_t, bd1_eq, if_neg q_n10, bd1_eq, if_neg q_n10]
      cases han : anI (slP (fun i => decide (kp i = m)) (fun i => wkO h t am bm (o i)) o a b) i with
      | true =>
        have := an_mono _ han d
        have h2 := an_mono _ han (d + 1)
        rw [hi] at h2
        rw [h2, bI_t, if_neg q_n10]
      | false =>
        rw [han, Bool.false_or] at ih'
        rw [bI_f, if_pos rfl, m_isGood (show i < n by omega) hn (fun j hj => ⟨(hF j hj).1, (hF j hj).2.1⟩) hm, bd1_eq]
        simp only [nm, nI_1]
        rw [slP] at ih'
        cases hp : decide (kp i = m) with
        | false =>
          rw [hp, Bool.false_and, Bool.false_and] at ih'
          rw [bI_f, if_pos rfl, bd1_eq]
          exact ih'
        | true =>
          rw [hp, Bool.true_and] at ih'
          rw [bI_t, if_neg q_n10, m_placeIn hK (by omega) (by omega) f4 oa f6 f5, m_placeIn hK (by omega) (by omega) f4 ob f6 f5, bd1_eq, bd1_eq]
          by_cases hlt : (o i).idxOf a < (o i).idxOf b
          · rw [decide_eq_true hlt, Bool.and_true] at ih'
            rw [if_neg (nI_ge hlt (by omega)), m_isWoken hK hN hst hh hO hw (by omega) (by omega) f4 (hmo i (by omega)) f6, bd1_eq]
            cases hwo : wkO h t am bm (o i) with
            | false =>
              rw [hwo] at ih'
              rw [bI_f, if_pos rfl, bs0, bd1_eq]
              exact ih'
            | true =>
              rw [hwo] at ih'
              rw [bI_t, if_neg q_n10, bs0, bd1_eq]
              exact ih'
          · rw [decide_eq_false hlt, Bool.and_false] at ih'
            rw [if_pos (nI_le (by omega) (by omega)), bs0, bd1_eq]
            exact ih'
  exact key n 0 K (by omega) (by omega)
