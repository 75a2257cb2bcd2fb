/-! an item, letter by letter -/
theorem dr_guest {N V S v : Nat} {kd wk wa wb : Nat → Nat} (hO : DrOK N V S kd wk wa wb) (hN : N < 6) (hv : v ≤ 3) : DrOK (N + 1) V S (upN kd N v) wk wa wb := by
  obtain ⟨-, hV, hS, hkd, hwd⟩ := hO
  refine ⟨by omega, hV, hS, fun g hg => ?_, fun u hu => ?_⟩
  · by_cases hgN : g = N
    · subst hgN; rw [upN_S]; omega
    · rw [upN_N hgN]; exact hkd g (by omega)
  · obtain ⟨h1, h2, h3, h4⟩ := hwd u hu
    exact ⟨h1, by omega, fun q => by have := h3 q; omega, h4⟩
theorem g_both {n i : Nat} {c : Nat → Nat} {le te : Nat → Int32} {CI MI : Option (Int32 × Int32 × Int32 × Int32 × Int32 × (Nat → Int32) × (Nat → Int32) × (Nat → Int32) × (Nat → Int32) × (Nat → Int32) × (Nat → Int32))} (gu : Int32) (wi : Int32) (st : Int32) (wN : (Nat → Int32)) (wK : (Nat → Int32)) (wA : (Nat → Int32)) (wB : (Nat → Int32)) (gK : (Nat → Int32)) (gF : (Nat → Int32)) (gu' : Int32) (wi' : Int32) (be' : Int32) (told : (Nat → Int32)) (rwK : (Nat → Int32)) (rwA : (Nat → Int32)) (rwB : (Nat → Int32)) (rK : (Nat → Int32)) (rF : (Nat → Int32)) (h : TxO n c le te) (hi : i + 1 < 700) (hR : DrR gu wi st gK gF wK wA wB wN gu' wi' be' rK rF rwK rwA rwB) (hF : FlD gF)
    (hC0 : prs2 n c (i + 1) = none → ∃ nx, CI = some (0, nx, gu, wi, st, wN, wK, wA, wB, gK, gF))
    (hC1 : ∀ v w j, prs2 n c (i + 1) = some (v, w, j) → CI = bd10 (bd4 (fX5_addGuest KK (nI v) (nI w) gu gK gF) fun r gu1 gK1 gF1 => gd (vp_nar .boolean r = r) (some (r, gu1, wi, st, wN, wK, wA, wB, gK1, gF1))) fun r_5 a1 a2 a3 a4 a5 a6 a7 a8 a9 => if (r_5 : Int32) = 0 then some (0, nI j, a1, a2, a3, a4, a5, a6, a7, a8, a9) else some (1, nI j, a1, a2, a3, a4, a5, a6, a7, a8, a9))
    (hM : MI = bd6 (fX9_readGuestOf KK (nI n) (nI (i + 1)) gu' te told rK rF) fun r a1 g1 t1 k1 b1 => gd (vp_nar .boolean r = r) (some (r, a1, g1, wi', be', t1, rwK, rwA, rwB, k1, b1))) : ItR n i CI MI := by
  obtain ⟨N, V, S, kd, wk, wa, wb, hO, hX, hY, hfl⟩ := hR
  have hN := hO.1
  obtain ⟨x1, x2, x3, x4, x5⟩ := hX
  obtain ⟨y1, y2, y3, y4, y5⟩ := hY
  subst x1 y1
  have e := m_read2 (i := i + 1) h hi told
  have hN6 : (nI N = 6) = (N = 6) := propext (nI_eq (b := 6) (by omega) (by omega))
  -- what the class says
  have hcg : ∀ v w, v ≤ 99 → w ≤ 99 → fX5_addGuest KK (nI v) (nI w) (nI N) gK gF = if N < 6 ∧ v ≤ 3 ∧ w ≤ 9 then some (1, nI (N + 1), upd gK N (nI v), upd gF N (nI w)) else some (0, nI N, gK, gF) := by
    intro v w hv hw
    unfold fX5_addGuest
    by_cases h6 : N < 6
    · rw [if_neg (show ¬ (6 : Int32) ≤ nI N from nI_ge (b := 6) h6 (by omega))]
      by_cases h3 : v ≤ 3
      · rw [if_neg (show ¬ (3 : Int32) < nI v from nI_nlt (a := 3) h3 (by omega))]
        by_cases h9 : w ≤ 9
        · rw [if_pos (show nI w ≤ 9 from nI_le (b := 9) h9 (by omega)), q_put h6 (by omega), bd1_eq, q_put h6 (by omega), bd1_eq, if_pos ⟨h6, h3, h9⟩]
          simp only [nm]
          rw [nI_1]
        · rw [if_neg (show ¬ nI w ≤ 9 from nI_ge (a := 9) (by omega) (by omega)), if_neg (fun q => h9 q.2.2)]
      · rw [if_pos (show (3 : Int32) < nI v from nI_lt (a := 3) (by omega) (by omega)), if_neg (fun q => h3 q.2.1)]
    · rw [if_pos (show (6 : Int32) ≤ nI N from nI_le (a := 6) (by omega) (by omega)), if_neg (fun q => h6 q.1)]
  -- the class says no
  have hno : (∀ v w j, prs2 n c (i + 1) = some (v, w, j) → ¬ (N < 6 ∧ v ≤ 3 ∧ w ≤ 9)) → ∃ nx, CI = some (0, nx, nI N, wi, st, wN, wK, wA, wB, gK, gF) := by
    intro q
    cases hp : prs2 n c (i + 1) with
    | none => exact hC0 hp
    | some p =>
      obtain ⟨v, w, j⟩ := p
      obtain ⟨g1, g2, g3, g4⟩ := prs2_rg hp
      refine ⟨nI j, ?_⟩
      rw [hC1 v w j hp, hcg v w g1 g2, if_neg (q v w j hp), bd4_eq, gd_pos bl_0, bd10_eq, if_pos rfl]
  unfold fX9_readGuestOf at hM
  simp only [hN6] at hM
  by_cases h6 : N = 6
  · left
    obtain ⟨nx, e2⟩ := hno (fun v w j _ q => by omega)
    rw [if_pos h6, bd6_eq, gd_pos bl_0] at hM
    exact ⟨nx, _, _, _, _, _, _, _, _, _, e2, hF, _, _, _, _, _, _, _, _, _, _, hM⟩
  rw [if_neg h6] at hM
  have h6' : N < 6 := by omega
  cases hp : prs2 n c (i + 1) with
  | none =>
    left
    rw [hp] at e
    obtain ⟨a', t', e⟩ := e
    obtain ⟨nx, e2⟩ := hC0 hp
    rw [e, bd3_eq, if_pos rfl, bd6_eq, gd_pos bl_0] at hM
    exact ⟨nx, _, _, _, _, _, _, _, _, _, e2, hF, _, _, _, _, _, _, _, _, _, _, hM⟩
  | some p =>
    obtain ⟨v, w, j⟩ := p
    obtain ⟨g1, g2, g3, g4⟩ := prs2_rg hp
    rw [hp] at e
    obtain ⟨told', t1, t2, e⟩ := e
    rw [e, bd3_eq, if_neg q_n10] at hM
    unfold fX9_isTold at hM
    simp only [gd_pos (show ¬ ((0 : Int32) < 0 ∨ 2 ≤ (0 : Int32).toNatClampNeg) by decide), gd_pos (show ¬ ((1 : Int32) < 0 ∨ 2 ≤ (1 : Int32).toNatClampNeg) by decide)] at hM
    have i3 := q_inN (K := KK) (N := 4) (x := v) (by omega) (by omega)
    have i9 : fX9_in KK (nI w) 0 9 = some (bI (decide (w ≤ 9))) := by
      unfold fX9_in
      rw [if_neg (nI_pos (by omega))]
      by_cases q : w ≤ 9
      · rw [if_neg (show ¬ (9 : Int32) < nI w from nI_nlt (a := 9) q (by omega)), decide_eq_true q] <;> rfl
      · rw [if_pos (show (9 : Int32) < nI w from nI_lt (a := 9) (by omega) (by omega)), decide_eq_false q] <;> rfl
    change fX9_in KK (nI v) 0 3 = _ at i3
    rw [show (0 : Int32).toNatClampNeg = 0 from rfl, show (1 : Int32).toNatClampNeg = 1 from rfl, t1, t2, i3, i9, bd1_eq, bd1_eq] at hM
    by_cases h3 : v ≤ 3
    · rw [decide_eq_true (show v < 4 by omega), bI_t, gd_pos bl_1, bd1_eq, if_neg q_n10] at hM
      by_cases h9 : w ≤ 9
      · rw [decide_eq_true h9, bI_t, gd_pos bl_1, bd1_eq, if_neg q_n10] at hM
        unfold fX9_tellsGuest at hM
        simp only [nI_clamp (show N < 2 ^ 31 by omega), nm] at hM
        rw [q_gdc h6' (by omega), q_gdc h6' (by omega), bd3_eq, bd6_eq, gd_pos bl_1, nI_1] at hM
        right
        refine ⟨j, nI (N + 1), wi, st, wN, wK, wA, wB, upd gK N (nI v), upd gF N (nI w), _, _, _, _, _, _, _, _, _, by omega, g4, ?_, hM, ?_, N + 1, V, S, upN kd N v, wk, wa, wb, dr_guest hO h6' h3, ⟨rfl, x2, x3, fun g hg => ?_, x5⟩, ⟨rfl, y2, y3, fun g hg => ?_, y5⟩, fun g hg => ?_⟩
        · rw [hC1 v w j hp, hcg v w g1 g2, if_pos ⟨h6', h3, h9⟩, bd4_eq, gd_pos bl_1, bd10_eq, if_neg q_n10]
        · intro g hg
          by_cases hgN : g = N
          · subst hgN; exact ⟨w, by omega, q_updS _ _ _⟩
          · rw [q_updN hgN]; exact hF g hg
        · by_cases hgN : g = N
          · subst hgN; rw [q_updS, upN_S]
          · rw [q_updN hgN, upN_N hgN]; exact x4 g (by omega)
        · by_cases hgN : g = N
          · subst hgN; rw [q_updS, upN_S]
          · rw [q_updN hgN, upN_N hgN]; exact y4 g (by omega)
        · by_cases hgN : g = N
          · subst hgN; rw [q_updS, q_updS]
          · rw [q_updN hgN, q_updN hgN]; exact hfl g (by omega)
      · left
        obtain ⟨nx, e2⟩ := hno (fun v' w' j' q q2 => by rw [hp] at q; cases q; omega)
        rw [decide_eq_false h9, bI_f, gd_pos bl_0, bd1_eq, if_pos rfl, bd6_eq, gd_pos bl_0] at hM
        exact ⟨nx, _, _, _, _, _, _, _, _, _, e2, hF, _, _, _, _, _, _, _, _, _, _, hM⟩
    · left
      obtain ⟨nx, e2⟩ := hno (fun v' w' j' q q2 => by rw [hp] at q; cases q; omega)
      rw [decide_eq_false (show ¬ v < 4 by omega), bI_f, gd_pos bl_0, bd1_eq, if_pos rfl, bd6_eq, gd_pos bl_0] at hM
      exact ⟨nx, _, _, _, _, _, _, _, _, _, e2, hF, _, _, _, _, _, _, _, _, _, _, hM⟩
theorem dr_both {n i : Nat} {c : Nat → Nat} {le te : Nat → Int32} (gu : Int32) (wi : Int32) (st : Int32) (wN : (Nat → Int32)) (wK : (Nat → Int32)) (wA : (Nat → Int32)) (wB : (Nat → Int32)) (gK : (Nat → Int32)) (gF : (Nat → Int32)) (gu' : Int32) (wi' : Int32) (be' : Int32) (told : (Nat → Int32)) (rwK : (Nat → Int32)) (rwA : (Nat → Int32)) (rwB : (Nat → Int32)) (rK : (Nat → Int32)) (rF : (Nat → Int32)) (h : TxO n c le te) (hi : i < n) (hR : DrR gu wi st gK gF wK wA wB wN gu' wi' be' rK rF rwK rwA rwB) (hF : FlD gF) :
    ItR n i (fX3_readItem KK (nI i) (nI n) le gu wi st wN wK wA wB gK gF) (fX9_readItem KK (nI n) (nI i) gu' wi' be' te told rwK rwA rwB rK rF) := by
  have hn := h.1
  have hl := lt_le h i
  have l9 : lt9 n c i = nI (ltA n c i) := by unfold lt9 ltA; rw [if_pos hi, if_pos hi]
  have hM : fX9_readItem KK (nI n) (nI i) gu' wi' be' te told rwK rwA rwB rK rF = fX9_readItem KK (nI n) (nI i) gu' wi' be' te told rwK rwA rwB rK rF := rfl
  conv at hM => rhs; unfold fX9_readItem
  rw [m_letterAt h (by omega), bd1_eq, l9] at hM
  simp only [nm] at hM
  rw [nI_1] at hM
  by_cases h97 : ltA n c i = 97
  · rw [h97, if_pos (show nI 97 = 97 from rfl)] at hM
    obtain ⟨c0, c1⟩ := g_item2 gu wi st wN wK wA wB gK gF h (show i < 600 by omega) (by omega) (by omega)
    refine w_item (k := 1) gu wi st wN wK wA wB gK gF gu' wi' be' told rwK rwA rwB rK rF h (by omega) (by omega) hR hF (fun q => ?_) (fun v w j q => ?_) hM
    · cases hp : prs2 n c (i + 1) with
      | none => exact c0 hp
      | some p => obtain ⟨v, w, j⟩ := p; exact absurd (show prK n c 1 (i + 1) v w j from hp) (q v w j)
    · rw [c1 v w j (show prK n c 1 (i + 1) v w j from q)]
      unfold fX3_draw
      rw [h97, if_pos (show nI 97 = 97 from rfl)]
      rfl
  by_cases h98 : ltA n c i = 98
  · rw [h98, if_neg (show ¬ nI 98 = 97 by decide), if_pos (show nI 98 = 98 from rfl)] at hM
    obtain ⟨c0, c1⟩ := g_item2 gu wi st wN wK wA wB gK gF h (show i < 600 by omega) (by omega) (by omega)
    refine w_item (k := 0) gu wi st wN wK wA wB gK gF gu' wi' be' told rwK rwA rwB rK rF h (by omega) (by omega) hR hF (fun q => ?_) (fun v w j q => ?_) hM
    · cases hp : prs2 n c (i + 1) with
      | none => exact c0 hp
      | some p => obtain ⟨v, w, j⟩ := p; exact absurd (show prK n c 0 (i + 1) v w j from hp) (q v w j)
    · rw [c1 v w j (show prK n c 0 (i + 1) v w j from q)]
      unfold fX3_draw
      rw [h98, if_neg (show ¬ nI 98 = 97 by decide), if_pos (show nI 98 = 98 from rfl)]
      rfl
  by_cases h102 : ltA n c i = 102
  · rw [h102, if_neg (show ¬ nI 102 = 97 by decide), if_neg (show ¬ nI 102 = 98 by decide), if_pos (show nI 102 = 102 from rfl)] at hM
    obtain ⟨c0, c1⟩ := g_item1 gu wi st wN wK wA wB gK gF h (show i < 600 by omega) (Or.inl h102)
    refine w_item (k := 2) gu wi st wN wK wA wB gK gF gu' wi' be' told rwK rwA rwB rK rF h (by omega) (by omega) hR hF (fun q => ?_) (fun v w j q => ?_) hM
    · cases hp : prs1 n c (i + 1) with
      | none => exact c0 hp
      | some p => obtain ⟨v, j⟩ := p; exact absurd (show prK n c 2 (i + 1) v 0 j from (show prs1 n c (i + 1) = some (v, j) ∧ (0 : Nat) = 0 from ⟨hp, rfl⟩)) (q v 0 j)
    · rw [c1 v j (show prs1 n c (i + 1) = some (v, j) ∧ w = 0 from q).1]
      unfold fX3_draw
      rw [h102, if_neg (show ¬ nI 102 = 97 by decide), if_neg (show ¬ nI 102 = 98 by decide), if_pos (show nI 102 = 102 from rfl)]
      rfl
  by_cases h103 : ltA n c i = 103
  · rw [h103, if_neg (show ¬ nI 103 = 97 by decide), if_neg (show ¬ nI 103 = 98 by decide), if_neg (show ¬ nI 103 = 102 by decide), if_pos (show nI 103 = 103 from rfl)] at hM
    obtain ⟨c0, c1⟩ := g_item2 gu wi st wN wK wA wB gK gF h (show i < 600 by omega) (by omega) (by omega)
    refine g_both gu wi st wN wK wA wB gK gF gu' wi' be' told rwK rwA rwB rK rF h (by omega) hR hF c0 (fun v w j q => ?_) hM
    rw [c1 v w j q]
    unfold fX3_draw
    rw [h103, if_neg (show ¬ nI 103 = 97 by decide), if_neg (show ¬ nI 103 = 98 by decide), if_neg (show ¬ nI 103 = 102 by decide), if_pos (show nI 103 = 103 from rfl)]
  by_cases h110 : ltA n c i = 110
  · rw [h110, if_neg (show ¬ nI 110 = 97 by decide), if_neg (show ¬ nI 110 = 98 by decide), if_neg (show ¬ nI 110 = 102 by decide), if_neg (show ¬ nI 110 = 103 by decide), if_pos (show nI 110 = 110 from rfl)] at hM
    obtain ⟨c0, c1⟩ := g_item2 gu wi st wN wK wA wB gK gF h (show i < 600 by omega) (by omega) (by omega)
    refine w_item (k := 3) gu wi st wN wK wA wB gK gF gu' wi' be' told rwK rwA rwB rK rF h (by omega) (by omega) hR hF (fun q => ?_) (fun v w j q => ?_) hM
    · cases hp : prs2 n c (i + 1) with
      | none => exact c0 hp
      | some p => obtain ⟨v, w, j⟩ := p; exact absurd (show prK n c 3 (i + 1) v w j from hp) (q v w j)
    · rw [c1 v w j (show prK n c 3 (i + 1) v w j from q)]
      unfold fX3_draw
      rw [h110, if_neg (show ¬ nI 110 = 97 by decide), if_neg (show ¬ nI 110 = 98 by decide), if_neg (show ¬ nI 110 = 102 by decide), if_neg (show ¬ nI 110 = 103 by decide), if_pos (show nI 110 = 110 from rfl)]
      rfl
  by_cases h115 : ltA n c i = 115
  · rw [h115, if_neg (show ¬ nI 115 = 97 by decide), if_neg (show ¬ nI 115 = 98 by decide), if_neg (show ¬ nI 115 = 102 by decide), if_neg (show ¬ nI 115 = 103 by decide), if_neg (show ¬ nI 115 = 110 by decide), if_pos (show nI 115 = 115 from rfl)] at hM
    obtain ⟨c0, c1⟩ := g_item1 gu wi st wN wK wA wB gK gF h (show i < 600 by omega) (Or.inr h115)
    have e := m_read1 (i := i + 1) h (by omega) told
    unfold fX9_readBeginsOf at hM
    cases hp : prs1 n c (i + 1) with
    | none =>
      rw [hp] at e
      obtain ⟨a', t', e⟩ := e
      obtain ⟨nx, e2⟩ := c0 hp
      rw [e, bd3_eq, if_pos rfl, bd1_eq, gd_pos bl_0, bd4_eq, gd_pos bl_0] at hM
      exact Or.inl ⟨nx, _, _, _, _, _, _, _, _, _, e2, hF, _, _, _, _, _, _, _, _, _, _, hM⟩
    | some p =>
      obtain ⟨v, j⟩ := p
      obtain ⟨g1, g3, g4⟩ := prs1_rg hp
      rw [hp] at e
      obtain ⟨told', t1, e⟩ := e
      rw [e, bd3_eq, if_neg q_n10, gd_pos (by decide), show (0 : Int32).toNatClampNeg = 0 from rfl, t1, bd1_eq, gd_pos bl_1, bd4_eq, gd_pos bl_1] at hM
      obtain ⟨N, V, S, kd, wk, wa, wb, ⟨o1, o2, o3, o4, o5⟩, ⟨x1, x2, x3, x4, x5⟩, ⟨y1, y2, y3, y4, y5⟩, hfl⟩ := hR
      refine Or.inr ⟨j, gu, wi, nI v, wN, wK, wA, wB, gK, gF, _, _, _, _, _, _, _, _, _, by omega, g4, ?_, hM, hF, N, V, v, kd, wk, wa, wb, ⟨o1, o2, g1, o4, o5⟩, ⟨x1, x2, rfl, x4, x5⟩, ⟨y1, y2, rfl, y4, y5⟩, hfl⟩
      rw [c1 v j hp]
      unfold fX3_draw
      rw [h115, if_neg (show ¬ nI 115 = 97 by decide), if_neg (show ¬ nI 115 = 98 by decide), if_neg (show ¬ nI 115 = 102 by decide), if_neg (show ¬ nI 115 = 103 by decide), if_neg (show ¬ nI 115 = 110 by decide), if_pos (show nI 115 = 115 from rfl), bd10_eq, if_neg q_n10]
  by_cases h117 : ltA n c i = 117
  · rw [h117, if_neg (show ¬ nI 117 = 97 by decide), if_neg (show ¬ nI 117 = 98 by decide), if_neg (show ¬ nI 117 = 102 by decide), if_neg (show ¬ nI 117 = 103 by decide), if_neg (show ¬ nI 117 = 110 by decide), if_neg (show ¬ nI 117 = 115 by decide), if_pos (show nI 117 = 117 from rfl)] at hM
    obtain ⟨c0, c1⟩ := g_item2 gu wi st wN wK wA wB gK gF h (show i < 600 by omega) (by omega) (by omega)
    refine w_item (k := 4) gu wi st wN wK wA wB gK gF gu' wi' be' told rwK rwA rwB rK rF h (by omega) (by omega) hR hF (fun q => ?_) (fun v w j q => ?_) hM
    · cases hp : prs2 n c (i + 1) with
      | none => exact c0 hp
      | some p => obtain ⟨v, w, j⟩ := p; exact absurd (show prK n c 4 (i + 1) v w j from hp) (q v w j)
    · rw [c1 v w j (show prK n c 4 (i + 1) v w j from q)]
      unfold fX3_draw
      rw [h117, if_neg (show ¬ nI 117 = 97 by decide), if_neg (show ¬ nI 117 = 98 by decide), if_neg (show ¬ nI 117 = 102 by decide), if_neg (show ¬ nI 117 = 103 by decide), if_neg (show ¬ nI 117 = 110 by decide), if_neg (show ¬ nI 117 = 115 by decide), if_pos (show nI 117 = 117 from rfl)]
      rfl
  have hx : ∀ k, k < 1000 → ¬ ltA n c i = k → ¬ nI (ltA n c i) = nI k := fun k hk hne q => hne ((nI_eq (by omega) (by omega)).mp q)
  have q97 : ¬ nI (ltA n c i) = 97 := hx 97 (by omega) h97
  have q98 : ¬ nI (ltA n c i) = 98 := hx 98 (by omega) h98
  have q102 : ¬ nI (ltA n c i) = 102 := hx 102 (by omega) h102
  have q103 : ¬ nI (ltA n c i) = 103 := hx 103 (by omega) h103
  have q110 : ¬ nI (ltA n c i) = 110 := hx 110 (by omega) h110
  have q115 : ¬ nI (ltA n c i) = 115 := hx 115 (by omega) h115
  have q117 : ¬ nI (ltA n c i) = 117 := hx 117 (by omega) h117
  rw [if_neg q97, if_neg q98, if_neg q102, if_neg q103, if_neg q110, if_neg q115, if_neg q117] at hM
  obtain ⟨c0, c1⟩ := g_item2 gu wi st wN wK wA wB gK gF h (show i < 600 by omega) h102 h115
  left
  cases hp : prs2 n c (i + 1) with
  | none =>
    obtain ⟨nx, e2⟩ := c0 hp
    exact ⟨nx, _, _, _, _, _, _, _, _, _, e2, hF, _, _, _, _, _, _, _, _, _, _, hM⟩
  | some p =>
    obtain ⟨v, w, j⟩ := p
    refine ⟨nI j, gu, wi, st, wN, wK, wA, wB, gK, gF, ?_, hF, _, _, _, _, _, _, _, _, _, _, hM⟩
    rw [c1 v w j hp]
    unfold fX3_draw
    rw [if_neg q97, if_neg q98, if_neg q102, if_neg q103, if_neg q110, if_neg q115, if_neg q117, bd10_eq, if_pos rfl]
