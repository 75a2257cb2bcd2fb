/-! what has been read so far: the class's draft and the model's told -/
def DrOK (N V S : Nat) (kd wk wa wb : Nat → Nat) : Prop := N ≤ 6 ∧ V ≤ 9 ∧ S ≤ 99 ∧ (∀ g, g < N → kd g < 4) ∧ ∀ w, w < V → wk w < 5 ∧ wa w < N ∧ (wk w ≤ 1 → wb w < N ∧ wa w ≠ wb w) ∧ wb w ≤ 99
def FlD (gF : Nat → Int32) : Prop := ∀ g, g < 6 → ∃ x, x < 10 ∧ gF g = nI x
def DrR (gu wi st : Int32) (gK gF wK wA wB wN : Nat → Int32) (gu' wi' st' : Int32) (gK' gF' wK' wA' wB' : Nat → Int32) : Prop :=
  ∃ (N V S : Nat) (kd wk wa wb : Nat → Nat), DrOK N V S kd wk wa wb ∧ SlX N V S kd wk wa wb gu wi st gK wK wA wB wN ∧ SlM N V S kd wk wa wb gu' wi' st' gK' wK' wA' wB' ∧ ∀ g, g < N → gF g = gF' g
def upN (f : Nat → Nat) (k v : Nat) : Nat → Nat := fun j => if j = k then v else f j
theorem upN_S (f : Nat → Nat) (k v : Nat) : upN f k v k = v := by simp [upN]
theorem upN_N {f : Nat → Nat} {k j v : Nat} (h : j ≠ k) : upN f k v j = f j := by simp [upN, h]
/-- may a wish of kind k be told? -/
def wsOK (N V k v w : Nat) : Prop := V < 9 ∧ v < N ∧ (k ≤ 1 → w < N ∧ v ≠ w)
theorem q_isG {K N x : Nat} (hN : N ≤ 6) (hx : x < 1000) : fX5_isGuest K (nI x) (nI N) = some (bI (decide (x < N))) := by
  unfold fX5_isGuest
  rw [if_neg (nI_pos (by omega))]
  by_cases h : x < N
  · rw [if_neg (nI_ge h (by omega)), decide_eq_true h] <;> rfl
  · rw [if_pos (nI_le (by omega) (by omega)), decide_eq_false h] <;> rfl
theorem q_inN {K N x : Nat} (hN : N ≤ 6) (hx : x < 1000) : fX9_in K (nI x) 0 (nI N - 1) = some (bI (decide (x < N))) := by
  unfold fX9_in
  rw [if_neg (nI_pos (by omega))]
  by_cases h0 : N = 0
  · subst h0
    rw [if_pos (show nI 0 - 1 < nI x from Int32.lt_of_lt_of_le (show nI 0 - 1 < (0 : Int32) by decide) (nI_pos' (by omega)))] <;> rfl
  · obtain ⟨N, rfl⟩ : ∃ y, N = y + 1 := ⟨N - 1, by omega⟩
    rw [nI_pred]
    by_cases h : x < N + 1
    · rw [if_neg (nI_nlt (by omega) (by omega)), decide_eq_true h] <;> rfl
    · rw [if_pos (nI_lt (by omega) (by omega)), decide_eq_false h] <;> rfl
theorem bl_0 : vp_nar .boolean 0 = 0 := by decide
theorem bl_1 : vp_nar .boolean 1 = 1 := by decide
/-- the class: a wish told, or not -/
theorem g_addWish {K N V S k v w : Nat} {kd wk wa wb : Nat → Nat} {gu wi st : Int32} {gK wK wA wB wN : Nat → Int32} (hO : DrOK N V S kd wk wa wb) (hX : SlX N V S kd wk wa wb gu wi st gK wK wA wB wN) (hk : k < 5) (hv : v ≤ 99) (hw : w ≤ 99) :
    (¬ wsOK N V k v w ∧ fX5_addWish K (nI k) (nI v) (wbI k w) gu wi wN wK wA wB = some (0, wi, wN, wK, wA, wB)) ∨
    (wsOK N V k v w ∧ ∃ wN' wK' wA' wB', fX5_addWish K (nI k) (nI v) (wbI k w) gu wi wN wK wA wB = some (1, nI (V + 1), wN', wK', wA', wB') ∧
      SlX N (V + 1) S kd (upN wk V k) (upN wa V v) (upN wb V w) gu (nI (V + 1)) st gK wK' wA' wB' wN') := by
  obtain ⟨hN, hV, hS, hkd, hwd⟩ := hO
  obtain ⟨x1, x2, x3, x4, x5⟩ := hX
  subst x1 x2
  unfold fX5_addWish
  rw [q_two5 hk, bd1_eq]
  by_cases h9 : V < 9
  · rw [if_neg (show ¬ (9 : Int32) ≤ nI V from nI_ge (b := 9) h9 (by omega)), q_isG hN (by omega), bd1_eq]
    by_cases hvN : v < N
    · rw [decide_eq_true hvN, bI_t, if_neg q_n10]
      have fin : ∀ (y : Nat), y = (if k ≤ 1 then 2 ^ v ||| 2 ^ w else 2 ^ v) →
          ∃ wN' wK' wA' wB', (bd1 (fX8_put K 9 (nI V) (nI y) wN) fun T_wishNames_1 => bd1 (fX8_put K 9 (nI V) (nI k) wK) fun T_wishKind_1 => bd1 (fX8_put K 9 (nI V) (nI v) wA) fun T_wishA_1 => bd1 (fX8_put K 9 (nI V) (wbI k w) wB) fun T_wishB_1 => nm (nI V + 1) fun T_wishes_1 => some ((1 : Int32), T_wishes_1, T_wishNames_1, T_wishKind_1, T_wishA_1, T_wishB_1)) = some (1, nI (V + 1), wN', wK', wA', wB') ∧
          SlX N (V + 1) S kd (upN wk V k) (upN wa V v) (upN wb V w) (nI N) (nI (V + 1)) st gK wK' wA' wB' wN' := by
        intro y hy
        rw [q_put h9 (by omega), bd1_eq, q_put h9 (by omega), bd1_eq, q_put h9 (by omega), bd1_eq, q_put h9 (by omega), bd1_eq]
        simp only [nm]
        rw [nI_1]
        refine ⟨_, _, _, _, rfl, rfl, rfl, x3, x4, fun u hu => ?_⟩
        by_cases huV : u = V
        · subst huV
          rw [q_updS, q_updS, q_updS, q_updS, upN_S, upN_S, upN_S]
          refine ⟨rfl, rfl, rfl, ?_⟩
          unfold nmM
          rw [upN_S, upN_S, upN_S, hy]
        · rw [q_updN huV, q_updN huV, q_updN huV, q_updN huV, upN_N huV, upN_N huV, upN_N huV]
          have := x5 u (by omega)
          unfold nmM at this ⊢
          rw [upN_N huV, upN_N huV, upN_N huV]
          exact this
      by_cases hk1 : k ≤ 1
      · have hwb : wbI k w = nI w := by unfold wbI; rw [if_neg (by omega)]
        rw [decide_eq_true hk1, bI_t, if_neg q_n10]
        rw [hwb, q_isG hN (by omega), bd1_eq]
        by_cases hwN : w < N
        · rw [decide_eq_true hwN, bI_t, if_neg q_n10]
          by_cases hvw : v = w
          · left
            refine ⟨fun q => (q.2.2 hk1).2 hvw, ?_⟩
            rw [if_pos (by rw [hvw])] <;> rfl
          · right
            refine ⟨⟨h9, hvN, fun _ => ⟨hwN, hvw⟩⟩, ?_⟩
            rw [if_neg (fun q => hvw ((nI_eq (by omega) (by omega)).mp q)), bs0, if_neg q_n10, bd1_eq, q_shl (show v < 31 by omega), q_shl (show w < 31 by omega), q_or, ← hwb]
            exact fin _ (by rw [if_pos hk1])
        · left
          refine ⟨fun q => hwN (q.2.2 hk1).1, ?_⟩
          rw [decide_eq_false hwN, bI_f, if_pos rfl] <;> rfl
      · right
        refine ⟨⟨h9, hvN, fun q => absurd q hk1⟩, ?_⟩
        rw [decide_eq_false hk1, bI_f, if_pos rfl, bs0, if_pos rfl, bd1_eq, q_shl (show v < 31 by omega)]
        exact fin _ (by rw [if_neg hk1])
    · left
      refine ⟨fun q => hvN q.2.1, ?_⟩
      rw [decide_eq_false hvN, bI_f, if_pos rfl]
  · left
    refine ⟨fun q => h9 q.1, ?_⟩
    rw [if_pos (show (9 : Int32) ≤ nI V from nI_le (a := 9) (by omega) (by omega))]
/-- the model: a wish read, or not -/
theorem m_readWish {n i N V S k : Nat} {c : Nat → Nat} {le te : Nat → Int32} {kd wk wa wb : Nat → Nat} {gu wi st : Int32} {gK wK wA wB : Nat → Int32} (h : TxO n c le te) (hi : i < 700) (hO : DrOK N V S kd wk wa wb) (hX : SlM N V S kd wk wa wb gu wi st gK wK wA wB) (hk : k < 5) (told : Nat → Int32) :
    ((∀ v w j, (if k = 2 then prs1 n c i = some (v, j) ∧ w = 0 else prs2 n c i = some (v, w, j)) → ¬ wsOK N V k v w) ∧ ∃ at' told', fX9_readWishOf KK (nI k) (nI n) (nI i) gu wi te told wK wA wB = some (0, at', wi, told', wK, wA, wB)) ∨
    ∃ v w j, (if k = 2 then prs1 n c i = some (v, j) ∧ w = 0 else prs2 n c i = some (v, w, j)) ∧ wsOK N V k v w ∧ ∃ told' wK' wA' wB', fX9_readWishOf KK (nI k) (nI n) (nI i) gu wi te told wK wA wB = some (1, nI j, nI (V + 1), told', wK', wA', wB') ∧
      SlM N (V + 1) S kd (upN wk V k) (upN wa V v) (upN wb V w) gu (nI (V + 1)) st gK wK' wA' wB' := by
  obtain ⟨hN, hV, hS, hkd, hwd⟩ := hO
  obtain ⟨x1, x2, x3, x4, x5⟩ := hX
  subst x1 x2
  unfold fX9_readWishOf
  have hk2 : (nI k = 2) = (k = 2) := propext (nI_eq (b := 2) (by omega) (by omega))
  have hk0 : (nI k = 0) = (k = 0) := propext (nI_eq (b := 0) (by omega) (by omega))
  have hk1 : (nI k = 1) = (k = 1) := propext (nI_eq (b := 1) (by omega) (by omega))
  have hV9 : (nI V = 9) = (V = 9) := propext (nI_eq (b := 9) (by omega) (by omega))
  simp only [hk2, hk0, hk1, hV9]
  -- what is told when all is well
  have fin : ∀ (v w j : Nat) (told' : Nat → Int32) (y : Int32), V < 9 → y = wbI k w →
      ∃ wK' wA' wB', (bd4 (fX9_tellsWish KK (nI k) (nI v) y (nI V) wK wA wB) fun T_readWishes_1 T_readWishKind_1 T_readWishA_1 T_readWishB_1 => some ((1 : Int32), nI j, T_readWishes_1, told', T_readWishKind_1, T_readWishA_1, T_readWishB_1)) = some (1, nI j, nI (V + 1), told', wK', wA', wB') ∧
      SlM N (V + 1) S kd (upN wk V k) (upN wa V v) (upN wb V w) (nI N) (nI (V + 1)) st gK wK' wA' wB' := by
    intro v w j told' y h9 hy
    unfold fX9_tellsWish
    simp only [nI_clamp (show V < 2 ^ 31 by omega), nm]
    rw [q_gdc h9 (by omega), q_gdc h9 (by omega), q_gdc h9 (by omega), bd4_eq, nI_1]
    refine ⟨_, _, _, rfl, rfl, rfl, x3, x4, fun u hu => ?_⟩
    by_cases huV : u = V
    · subst huV
      rw [q_updS, q_updS, q_updS, upN_S, upN_S, upN_S]
      exact ⟨rfl, rfl, hy⟩
    · rw [q_updN huV, q_updN huV, q_updN huV, upN_N huV, upN_N huV, upN_N huV]
      exact x5 u (by omega)
  by_cases h9 : V = 9
  · left
    refine ⟨fun v w j _ q => by have := q.1; omega, nI i, told, ?_⟩
    by_cases h2 : k = 2
    · rw [if_pos h2, bd1_eq, if_pos h9]
    · rw [if_neg h2, bd1_eq, if_pos h9]
  have h9' : V < 9 := by omega
  by_cases h2 : k = 2
  · simp only [if_pos h2]
    rw [bd1_eq, if_neg h9]
    have e := m_read1 h hi told
    cases hr : prs1 n c i with
    | none =>
      rw [hr] at e
      obtain ⟨a', t', e⟩ := e
      left
      refine ⟨fun v w j q => (by cases q.1), a', t', ?_⟩
      rw [e, bd3_eq, if_pos rfl]
    | some p =>
      obtain ⟨v, j⟩ := p
      have hrg := prs1_rg hr
      rw [hr] at e
      obtain ⟨told', t1, e⟩ := e
      rw [e, bd3_eq, if_neg q_n10]
      unfold fX9_isTold
      simp only [gd_pos (show ¬ ((0 : Int32) < 0 ∨ 2 ≤ (0 : Int32).toNatClampNeg) by decide)]
      rw [show (0 : Int32).toNatClampNeg = 0 from rfl, t1, q_inN hN (by omega), bd1_eq]
      by_cases hvN : v < N
      · right
        obtain ⟨wK', wA', wB', f1, f2⟩ := fin v 0 j told' (-4) h9' (by unfold wbI; rw [if_pos h2])
        refine ⟨v, 0, j, ⟨rfl, rfl⟩, ⟨h9', hvN, fun q => absurd q (by omega)⟩, told', wK', wA', wB', ?_, f2⟩
        rw [decide_eq_true hvN, bI_t, gd_pos bl_1, bd1_eq, if_neg q_n10, if_neg (show ¬ k = 0 by omega), if_neg (show ¬ k = 1 by omega), bd1_eq, if_pos rfl, bs0, bd1_eq]
        exact f1
      · left
        refine ⟨fun v' w' j' q q2 => ?_, nI j, told', ?_⟩
        · obtain ⟨q, -⟩ := q
          cases q
          exact hvN q2.2.1
        · rw [decide_eq_false hvN, bI_f, gd_pos bl_0, bd1_eq, if_pos rfl]
  · simp only [if_neg h2]
    rw [bd1_eq, if_neg h9]
    have e := m_read2 h hi told
    cases hr : prs2 n c i with
    | none =>
      rw [hr] at e
      obtain ⟨a', t', e⟩ := e
      left
      refine ⟨fun v w j q => (by cases q), a', t', ?_⟩
      rw [e, bd3_eq, if_pos rfl]
    | some p =>
      obtain ⟨v, w, j⟩ := p
      have hrg := prs2_rg hr
      rw [hr] at e
      obtain ⟨told', t1, t2, e⟩ := e
      rw [e, bd3_eq, if_neg q_n10]
      unfold fX9_isTold
      simp only [gd_pos (show ¬ ((0 : Int32) < 0 ∨ 2 ≤ (0 : Int32).toNatClampNeg) by decide), gd_pos (show ¬ ((1 : Int32) < 0 ∨ 2 ≤ (1 : Int32).toNatClampNeg) by decide)]
      rw [show (0 : Int32).toNatClampNeg = 0 from rfl, show (1 : Int32).toNatClampNeg = 1 from rfl, t1, t2, q_inN hN (by omega), q_inN hN (by omega), bd1_eq, bd1_eq]
      by_cases hvN : v < N
      · rw [decide_eq_true hvN, bI_t, gd_pos bl_1, bd1_eq, if_neg q_n10]
        by_cases hk1' : k ≤ 1
        · have hy1 : (if k = 0 then (some 1 : Option Int32) else if k = 1 then some 1 else some 0) = some 1 := by
            by_cases q : k = 0
            · rw [if_pos q]
            · rw [if_neg q, if_pos (by omega)]
          rw [hy1, bd1_eq, if_neg q_n10]
          by_cases hwN : w < N
          · rw [decide_eq_true hwN, bI_t, gd_pos bl_1, bd1_eq, if_neg q_n10]
            by_cases hvw : v = w
            · left
              refine ⟨fun v' w' j' q q2 => ?_, nI j, told', ?_⟩
              · cases q
                exact (q2.2.2 hk1').2 hvw
              · rw [if_pos (by rw [hvw])] <;> rfl
            · right
              obtain ⟨wK', wA', wB', f1, f2⟩ := fin v w j told' (nI w) h9' (by unfold wbI; rw [if_neg h2])
              refine ⟨v, w, j, rfl, ⟨h9', hvN, fun _ => ⟨hwN, hvw⟩⟩, told', wK', wA', wB', ?_, f2⟩
              rw [if_neg (fun q => hvw ((nI_eq (by omega) (by omega)).mp q)), bs0, bd1_eq]
              exact f1
          · left
            refine ⟨fun v' w' j' q q2 => ?_, nI j, told', ?_⟩
            · cases q
              exact hwN (q2.2.2 hk1').1
            · rw [decide_eq_false hwN, bI_f, gd_pos bl_0, bd1_eq, if_pos rfl] <;> rfl
        · right
          obtain ⟨wK', wA', wB', f1, f2⟩ := fin v w j told' (nI w) h9' (by unfold wbI; rw [if_neg h2])
          refine ⟨v, w, j, rfl, ⟨h9', hvN, fun q => absurd q hk1'⟩, told', wK', wA', wB', ?_, f2⟩
          rw [if_neg (show ¬ k = 0 by omega), if_neg (show ¬ k = 1 by omega), bd1_eq, if_pos rfl, bs0, bd1_eq]
          exact f1
      · left
        refine ⟨fun v' w' j' q q2 => ?_, nI j, told', ?_⟩
        · cases q
          exact hvN q2.2.1
        · rw [decide_eq_false hvN, bI_f, gd_pos bl_0, bd1_eq, if_pos rfl]
