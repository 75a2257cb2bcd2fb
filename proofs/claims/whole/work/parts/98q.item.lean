/-! an item -/
def ItR (n i : Nat) (CI MI : Option (Int32 × Int32 × Int32 × Int32 × Int32 × (Nat → Int32) × (Nat → Int32) × (Nat → Int32) × (Nat → Int32) × (Nat → Int32) × (Nat → Int32))) : Prop :=
  (∃ nx gu wi st wN wK wA wB gK gF, CI = some (0, nx, gu, wi, st, wN, wK, wA, wB, gK, gF) ∧ FlD gF ∧ ∃ at' gu' wi' be' told rwK rwA rwB rK rF, MI = some (0, at', gu', wi', be', told, rwK, rwA, rwB, rK, rF)) ∨
  ∃ j gu wi st wN wK wA wB gK gF gu' wi' be' told rwK rwA rwB rK rF, i < j ∧ j ≤ n ∧ CI = some (1, nI j, gu, wi, st, wN, wK, wA, wB, gK, gF) ∧ MI = some (1, nI j, gu', wi', be', told, rwK, rwA, rwB, rK, rF) ∧ FlD gF ∧ DrR gu wi st gK gF wK wA wB wN gu' wi' be' rK rF rwK rwA rwB
theorem dr_wish {N V S k v w : Nat} {kd wk wa wb : Nat → Nat} (hO : DrOK N V S kd wk wa wb) (hk : k < 5) (hw : w ≤ 99) (h : wsOK N V k v w) : DrOK N (V + 1) S kd (upN wk V k) (upN wa V v) (upN wb V w) := by
  obtain ⟨hN, hV, hS, hkd, hwd⟩ := hO
  refine ⟨hN, by have := h.1; omega, hS, hkd, fun u hu => ?_⟩
  by_cases huV : u = V
  · subst huV
    rw [upN_S, upN_S, upN_S]
    exact ⟨hk, h.2.1, h.2.2, hw⟩
  · rw [upN_N huV, upN_N huV, upN_N huV]
    exact hwd u (by omega)
def prK (n : Nat) (c : Nat → Nat) (k i v w j : Nat) : Prop := if k = 2 then prs1 n c i = some (v, j) ∧ w = 0 else prs2 n c i = some (v, w, j)
theorem prK_rg {n k i v w j : Nat} {c : Nat → Nat} (h : prK n c k i v w j) : v ≤ 99 ∧ w ≤ 99 ∧ i < j ∧ j ≤ n := by
  unfold prK at h
  by_cases hk : k = 2
  · rw [if_pos hk] at h
    have := prs1_rg h.1
    omega
  · rw [if_neg hk] at h
    have := prs2_rg h
    omega
theorem prK_uni {n k i v w j v' w' j' : Nat} {c : Nat → Nat} (h : prK n c k i v w j) (h' : prK n c k i v' w' j') : v = v' ∧ w = w' ∧ j = j' := by
  unfold prK at h h'
  by_cases hk : k = 2
  · rw [if_pos hk] at h h'
    obtain ⟨a, b⟩ := h
    obtain ⟨a', b'⟩ := h'
    rw [a] at a'
    cases a'
    exact ⟨rfl, by omega, rfl⟩
  · rw [if_neg hk] at h h'
    rw [h] at h'
    cases h'
    exact ⟨rfl, rfl, rfl⟩
theorem w_item {n i k : Nat} {c : Nat → Nat} {le te : Nat → Int32} {CI MI : Option (Int32 × Int32 × Int32 × Int32 × Int32 × (Nat → Int32) × (Nat → Int32) × (Nat → Int32) × (Nat → Int32) × (Nat → Int32) × (Nat → Int32))} (gu : Int32) (wi : Int32) (st : Int32) (wN : (Nat → Int32)) (wK : (Nat → Int32)) (wA : (Nat → Int32)) (wB : (Nat → Int32)) (gK : (Nat → Int32)) (gF : (Nat → Int32)) (gu' : Int32) (wi' : Int32) (be' : Int32) (told : (Nat → Int32)) (rwK : (Nat → Int32)) (rwA : (Nat → Int32)) (rwB : (Nat → Int32)) (rK : (Nat → Int32)) (rF : (Nat → Int32)) (h : TxO n c le te) (hi : i + 1 < 700) (hk : k < 5) (hR : DrR gu wi st gK gF wK wA wB wN gu' wi' be' rK rF rwK rwA rwB) (hF : FlD gF)
    (hC0 : (∀ v w j, ¬ prK n c k (i + 1) v w j) → ∃ nx, CI = some (0, nx, gu, wi, st, wN, wK, wA, wB, gK, gF))
    (hC1 : ∀ v w j, prK n c k (i + 1) v w j → CI = bd10 (bd6 (fX5_addWish KK (nI k) (nI v) (wbI k w) gu wi wN wK wA wB) fun r wi1 wN1 wK1 wA1 wB1 => gd (vp_nar .boolean r = r) (some (r, gu, wi1, st, wN1, wK1, wA1, wB1, gK, gF))) fun r_5 a1 a2 a3 a4 a5 a6 a7 a8 a9 => if (r_5 : Int32) = 0 then some (0, nI j, a1, a2, a3, a4, a5, a6, a7, a8, a9) else some (1, nI j, a1, a2, a3, a4, a5, a6, a7, a8, a9))
    (hM : MI = bd7 (fX9_readWishOf KK (nI k) (nI n) (nI (i + 1)) gu' wi' te told rwK rwA rwB) fun r a1 w1 t1 k1 b1 b2 => gd (vp_nar .boolean r = r) (some (r, a1, gu', w1, be', t1, k1, b1, b2, rK, rF))) : ItR n i CI MI := by
  obtain ⟨N, V, S, kd, wk, wa, wb, hO, hX, hY, hfl⟩ := hR
  rcases m_readWish (k := k) h hi hO hY hk told with ⟨hno, at', told', e⟩ | ⟨v, w, j, hp, hok, told', wK', wA', wB', e, hY'⟩
  · left
    have hMI : MI = some (0, at', gu', wi', be', told', rwK, rwA, rwB, rK, rF) := by rw [hM, e, bd7_eq, gd_pos bl_0]
    by_cases hex : ∃ v w j, prK n c k (i + 1) v w j
    · obtain ⟨v, w, j, hp⟩ := hex
      obtain ⟨g1, g2, g3, g4⟩ := prK_rg hp
      rcases g_addWish (K := KK) (k := k) (v := v) (w := w) hO hX hk g1 g2 with ⟨-, e2⟩ | ⟨hok, -⟩
      · refine ⟨nI j, gu, wi, st, wN, wK, wA, wB, gK, gF, ?_, hF, at', _, _, _, _, _, _, _, _, _, hMI⟩
        rw [hC1 v w j hp, e2, bd6_eq, gd_pos bl_0, bd10_eq, if_pos rfl]
      · exact absurd hok (hno v w j hp)
    · obtain ⟨nx, e2⟩ := hC0 (fun v w j q => hex ⟨v, w, j, q⟩)
      exact ⟨nx, gu, wi, st, wN, wK, wA, wB, gK, gF, e2, hF, at', _, _, _, _, _, _, _, _, _, hMI⟩
  · right
    have hp' : prK n c k (i + 1) v w j := hp
    obtain ⟨g1, g2, g3, g4⟩ := prK_rg hp'
    rcases g_addWish (K := KK) (k := k) (v := v) (w := w) hO hX hk g1 g2 with ⟨hno, -⟩ | ⟨-, wN2, wK2, wA2, wB2, e2, hX'⟩
    · exact absurd hok hno
    · refine ⟨j, gu, nI (V + 1), st, wN2, wK2, wA2, wB2, gK, gF, gu', nI (V + 1), be', told', wK', wA', wB', rK, rF, by omega, g4, ?_, ?_, hF, ⟨N, V + 1, S, kd, _, _, _, dr_wish hO hk g2 hok, hX', hY', hfl⟩⟩
      · rw [hC1 v w j hp, e2, bd6_eq, gd_pos bl_1, bd10_eq, if_neg q_n10]
      · rw [hM, e, bd7_eq, gd_pos bl_1]
/-! the class's item: the letter, the numbers, the sign -/
theorem g_rdn {K n i : Nat} {c : Nat → Nat} {le te : Nat → Int32} (h : TxO n c le te) (hi : i < 900) (hd : rdN n c i = none) : fX3_readNumber K (nI i) (nI n) le = some (-4, nI i) := by
  rw [g_readNumber h hi, hd]
theorem g_rds {K n i v j : Nat} {c : Nat → Nat} {le te : Nat → Int32} (h : TxO n c le te) (hi : i < 900) (hd : rdN n c i = some (v, j)) : fX3_readNumber K (nI i) (nI n) le = some (nI v, nI j) := by
  rw [g_readNumber h hi, hd]
theorem g_item1 {n i : Nat} {c : Nat → Nat} {le te : Nat → Int32} (gu : Int32) (wi : Int32) (st : Int32) (wN : (Nat → Int32)) (wK : (Nat → Int32)) (wA : (Nat → Int32)) (wB : (Nat → Int32)) (gK : (Nat → Int32)) (gF : (Nat → Int32)) (h : TxO n c le te) (hi : i < 600) (hr : ltA n c i = 102 ∨ ltA n c i = 115) :
    (prs1 n c (i + 1) = none → ∃ nx, fX3_readItem KK (nI i) (nI n) le gu wi st wN wK wA wB gK gF = some (0, nx, gu, wi, st, wN, wK, wA, wB, gK, gF)) ∧
    ∀ v j, prs1 n c (i + 1) = some (v, j) → fX3_readItem KK (nI i) (nI n) le gu wi st wN wK wA wB gK gF = bd10 (fX3_draw KK (nI (ltA n c i)) (nI v) (-4) gu wi st wN wK wA wB gK gF) fun r_5 a1 a2 a3 a4 a5 a6 a7 a8 a9 => if (r_5 : Int32) = 0 then some (0, nI j, a1, a2, a3, a4, a5, a6, a7, a8, a9) else some (1, nI j, a1, a2, a3, a4, a5, a6, a7, a8, a9) := by
  have e : ∀ (x : Int32 × Int32) (B : Option ((Int32 × Int32 × Int32 × Int32 × Int32 × (Nat → Int32) × (Nat → Int32) × (Nat → Int32) × (Nat → Int32) × (Nat → Int32) × (Nat → Int32)) ⊕ (Int32 × Int32))), (if nI (ltA n c i) = 102 then (some (.inr x) : Option ((Int32 × Int32 × Int32 × Int32 × Int32 × (Nat → Int32) × (Nat → Int32) × (Nat → Int32) × (Nat → Int32) × (Nat → Int32) × (Nat → Int32)) ⊕ (Int32 × Int32))) else if nI (ltA n c i) = 115 then some (.inr x) else B) = some (.inr x) := by
    intro x B
    rcases hr with hr | hr
    · rw [hr, if_pos (show nI 102 = 102 from rfl)]
    · rw [hr, if_neg (show ¬ nI 115 = 102 by decide), if_pos (show nI 115 = 115 from rfl)]
  have hn := h.1
  unfold fX3_readItem prs1
  rw [g_letterAt h (by omega), bd1_eq]
  simp only [nm]
  rw [nI_1]
  cases hd : rdN n c (i + 1) with
  | none =>
    rw [g_rdn h (by omega) hd, bd2_eq, e]
    refine ⟨fun _ => ⟨nI (i + 1), ?_⟩, fun v j q => by cases q⟩
    rw [bs2, if_pos (show (-4 : Int32) < 0 by decide)]
  | some p =>
    obtain ⟨v, j⟩ := p
    obtain ⟨r1, r2, r3⟩ := rdN_rg hd
    rw [g_rds h (by omega) hd, bd2_eq, e]
    simp only
    rw [bs2, if_neg (nI_pos (show v < 2 ^ 31 by omega)), show (59 : Int32) = nI 59 from rfl, g_readSign h (by omega) (by omega), bd2_eq]
    by_cases h5 : ltA n c j = 59
    · rw [if_pos h5, decide_eq_true h5, bI_t, if_neg q_n10]
      refine ⟨fun q => (by cases q), fun v' j' q => ?_⟩
      cases q
      rfl
    · rw [if_neg h5, decide_eq_false h5, bI_f, if_pos rfl]
      exact ⟨fun _ => ⟨_, rfl⟩, fun v' j' q => by cases q⟩
theorem g_item2 {n i : Nat} {c : Nat → Nat} {le te : Nat → Int32} (gu : Int32) (wi : Int32) (st : Int32) (wN : (Nat → Int32)) (wK : (Nat → Int32)) (wA : (Nat → Int32)) (wB : (Nat → Int32)) (gK : (Nat → Int32)) (gF : (Nat → Int32)) (h : TxO n c le te) (hi : i < 600) (hr1 : ¬ ltA n c i = 102) (hr2 : ¬ ltA n c i = 115) :
    (prs2 n c (i + 1) = none → ∃ nx, fX3_readItem KK (nI i) (nI n) le gu wi st wN wK wA wB gK gF = some (0, nx, gu, wi, st, wN, wK, wA, wB, gK, gF)) ∧
    ∀ v w j, prs2 n c (i + 1) = some (v, w, j) → fX3_readItem KK (nI i) (nI n) le gu wi st wN wK wA wB gK gF = bd10 (fX3_draw KK (nI (ltA n c i)) (nI v) (nI w) gu wi st wN wK wA wB gK gF) fun r_5 a1 a2 a3 a4 a5 a6 a7 a8 a9 => if (r_5 : Int32) = 0 then some (0, nI j, a1, a2, a3, a4, a5, a6, a7, a8, a9) else some (1, nI j, a1, a2, a3, a4, a5, a6, a7, a8, a9) := by
  have hl := (lt_le h i).1
  have q1 : ¬ nI (ltA n c i) = 102 := fun q => hr1 ((nI_eq (b := 102) (by omega) (by omega)).mp q)
  have q2 : ¬ nI (ltA n c i) = 115 := fun q => hr2 ((nI_eq (b := 115) (by omega) (by omega)).mp q)
  have hn := h.1
  unfold fX3_readItem prs2
  rw [g_letterAt h (by omega), bd1_eq]
  simp only [nm]
  rw [nI_1]
  cases hd : rdN n c (i + 1) with
  | none =>
    rw [g_rdn h (by omega) hd, bd2_eq, if_neg q1, if_neg q2, show (44 : Int32) = nI 44 from rfl, g_readSign h (by omega) (by omega), bd2_eq]
    refine ⟨fun _ => ?_, fun v w j q => by cases q⟩
    cases decide (ltA n c (i + 1) = 44) with
    | false => rw [bI_f, if_pos rfl]; exact ⟨_, rfl⟩
    | true =>
      cases hd2 : rdN n c (i + 1 + 1) with
      | none =>
        rw [bI_t, if_neg q_n10, g_rdn h (by omega) hd2, bd2_eq, if_neg (show ¬ (0 : Int32) ≤ -4 by decide)]
        exact ⟨_, rfl⟩
      | some p =>
        obtain ⟨v, j⟩ := p
        obtain ⟨r1, r2, r3⟩ := rdN_rg hd2
        rw [bI_t, if_neg q_n10, g_rds h (by omega) hd2, bd2_eq, if_pos (nI_pos' (show v < 2 ^ 31 by omega)), bs2, if_pos (show (-4 : Int32) < 0 by decide)]
        exact ⟨_, rfl⟩
  | some p =>
    obtain ⟨v, j⟩ := p
    obtain ⟨r1, r2, r3⟩ := rdN_rg hd
    rw [g_rds h (by omega) hd, bd2_eq, if_neg q1, if_neg q2, show (44 : Int32) = nI 44 from rfl]
    simp only
    rw [g_readSign h (by omega) (by omega), bd2_eq]
    by_cases h5 : ltA n c j = 44
    · rw [if_pos h5, decide_eq_true h5, bI_t, if_neg q_n10]
      cases hd2 : rdN n c (j + 1) with
      | none =>
        rw [g_rdn h (by omega) hd2, bd2_eq, if_neg (show ¬ (0 : Int32) ≤ -4 by decide)]
        exact ⟨fun _ => ⟨_, rfl⟩, fun v w j q => by cases q⟩
      | some p =>
        obtain ⟨w, k⟩ := p
        obtain ⟨s1, s2, s3⟩ := rdN_rg hd2
        rw [g_rds h (by omega) hd2, bd2_eq, if_pos (nI_pos' (show w < 2 ^ 31 by omega)), bs2, if_neg (nI_pos (show v < 2 ^ 31 by omega)), show (59 : Int32) = nI 59 from rfl, g_readSign h (by omega) (by omega), bd2_eq]
        simp only
        by_cases h6 : ltA n c k = 59
        · rw [if_pos h6, decide_eq_true h6, bI_t, if_neg q_n10]
          refine ⟨fun q => (by cases q), fun v' w' j' q => ?_⟩
          cases q
          rfl
        · rw [if_neg h6, decide_eq_false h6, bI_f, if_pos rfl]
          exact ⟨fun _ => ⟨_, rfl⟩, fun v' w' j' q => by cases q⟩
    · rw [if_neg h5, decide_eq_false h5, bI_f, if_pos rfl]
      exact ⟨fun _ => ⟨_, rfl⟩, fun v' w' j' q => by cases q⟩
