theorem q_r1 {K : Nat} (x : Int32) : ((x < 0 ∨ (¬ x < 0 ∧ ¬ x ≤ 1)) ∧ fX9_in K x 0 1 = some 0) ∨ ∃ g, g ≤ 1 ∧ x = nI g ∧ ¬ nI g < 0 ∧ nI g ≤ 1 ∧ fX9_in K (nI g) 0 1 = some 1 := by
  have h := q_in9 (K := K) (N := 2) (by omega) x
  rw [show (nI 2 - 1 : Int32) = 1 by decide] at h
  rcases h with ⟨e, hx⟩ | ⟨g, hg, rfl, e⟩
  · left
    refine ⟨?_, e⟩
    rcases hx with hx | hx
    · exact Or.inl hx
    · have h7 : (0 : Int32) < nI 2 := by decide
      have h6 : (1 : Int32) < nI 2 := by decide
      exact Or.inr ⟨fun q => Int32.lt_irrefl (Int32.lt_trans (Int32.lt_of_lt_of_le h7 hx) q), fun q => Int32.lt_irrefl (Int32.lt_of_lt_of_le h6 (Int32.le_trans hx q))⟩
  · exact Or.inr ⟨g, by omega, rfl, nI_pos (by omega), nI_le (b := 1) (by omega) (by omega), e⟩
theorem m_isHere {K h g : Nat} {st : Nat → Int32} (hst : st 0 = nI h) (hh : h < 64) (hg : g < 6) : fX9_isHere K (nI g) st = some (bI (h.testBit g)) := by
  unfold fX9_isHere
  rw [gd_pos (by decide), show (0 : Int32).toNatClampNeg = 0 from rfl, hst, q_has9 (by omega) (by omega), bd1_eq]
  cases h.testBit g <;> rfl
theorem m_placeIn {K j g : Nat} {o : List Nat} {come : Nat → Int32} (hK : 1000 ≤ K) (hj : j < 720) (ho : o.length ≤ 6) (hnd : o.Nodup) (hg : g ∈ o) (hc : ∀ k, k < o.length → come (6 * j + k) = nI (o.getD k 0)) (h6 : ∀ x, x ∈ o → x < 6) :
    fX9_placeIn K (nI j) (nI g) come = some (nI (o.idxOf g)) := by
  have hlt : o.idxOf g < o.length := List.idxOf_lt_length_of_mem hg
  have key : ∀ d k q, k + d = o.idxOf g → d < q → fX9_placeIn_L2 K (nI j) (nI g) come q (nI k) = some (nI (o.idxOf g)) := by
    intro d
    induction d with
    | zero =>
      intro k q hk hq
      obtain ⟨q, rfl⟩ : ∃ y, q = y + 1 := ⟨q - 1, by omega⟩
      have hk' : k = o.idxOf g := by omega
      subst hk'
      rw [fX9_placeIn_L2, show (6 : Int32) * nI j = nI (6 * j) from pk_mul 6 j, nI_add, p_gd (show 6 * j + o.idxOf g < 4320 by omega) (by omega), nI_clamp (by omega), hc _ hlt, List.getD_eq_getElem?_getD, List.getElem?_eq_getElem hlt, Option.getD_some, List.getElem_idxOf hlt, if_pos rfl]
    | succ d ih =>
      intro k q hk hq
      obtain ⟨q, rfl⟩ : ∃ y, q = y + 1 := ⟨q - 1, by omega⟩
      have hkl : k < o.length := by omega
      have hne : ¬ nI (o.getD k 0) = nI g := by
        intro q
        rw [List.getD_eq_getElem?_getD, List.getElem?_eq_getElem hkl, Option.getD_some] at q
        have h1 := h6 _ (List.getElem_mem hkl)
        have h2 := h6 g hg
        have := (nI_eq (by omega) (by omega)).mp q
        have h3 := q_idxget o k hkl hnd
        rw [this] at h3
        omega
      rw [fX9_placeIn_L2, show (6 : Int32) * nI j = nI (6 * j) from pk_mul 6 j, nI_add, p_gd (show 6 * j + k < 4320 by omega) (by omega), nI_clamp (by omega), hc k hkl, if_neg hne]
      simp only [nm, nI_1]
      exact ih (k + 1) q (by omega) (by omega)
  unfold fX9_placeIn
  have e := key (o.idxOf g) 0 K (by omega) (by omega)
  change fX9_placeIn_L2 _ _ _ _ _ 0 = _ at e
  rw [e, bd1_eq]
theorem wk_out {h i : Nat} {am bm : Nat → Nat} {o : List Nat} (hx : h.testBit (am i) = false ∨ h.testBit (bm i) = false) : wkP h am bm o i = true := by
  unfold wkP
  rcases hx with q | q <;> rw [q] <;> simp
theorem m_isWoken {K N h j t : Nat} {am bm : Nat → Nat} {o : List Nat} {st woke come : Nat → Int32} (hK : 1000 ≤ K) (hN : N ≤ 6) (hst : st 0 = nI h) (hh : h < 64) (hO : MoOK N t am bm) (hw : ∀ i, i < t → woke (2 * i) = nI (am i) ∧ woke (2 * i + 1) = nI (bm i))
    (hj : j < 720) (ho : o.length ≤ 6) (hnd : o.Nodup) (hm : ∀ g, g ∈ o ↔ g ∈ mem h) (hc : ∀ k, k < o.length → come (6 * j + k) = nI (o.getD k 0)) :
    fX9_isWoken K (nI j) (nI t) woke st come = some (bI (wkO h t am bm o)) := by
  obtain ⟨ht, hO⟩ := hO
  have h6 : ∀ x, x ∈ o → x < 6 := fun x hx => (mem_6.mp ((hm x).mp hx)).1
  have key : ∀ d i q, i + d = t → d < q → fX9_isWoken_L4 K (nI j) (nI t) woke st come q (bI (alI (wkP h am bm o) i)) (nI i) = some (bI (wkO h t am bm o)) := by
    intro d
    induction d with
    | zero =>
      intro i q hi hq
      obtain ⟨q, rfl⟩ : ∃ y, q = y + 1 := ⟨q - 1, by omega⟩
      have hi' : i = t := by omega
      subst hi'
      rw [fX9_isWoken_L4, if_pos (nI_le (Nat.le_refl _) (by omega))]
      rfl
    | succ d ih =>
      intro i q hi hq
      obtain ⟨q, rfl⟩ : ∃ y, q = y + 1 := ⟨q - 1, by omega⟩
      obtain ⟨a1, a2, a3⟩ := hO i (by omega)
      have ih' := ih (i + 1) q (by omega) (by omega)
      rw [alI] at ih'
      rw [fX9_isWoken_L4, if_neg (nI_ge (show i < t by omega) (by omega)), show (2 : Int32) * nI i = nI (2 * i) from pk_mul 2 i, p_gd (show 2 * i < 12 by omega) (by omega), nI_clamp (by omega), (hw i (by omega)).1]
      simp only [nm]
      rw [nI_1, p_gd (show 2 * i + 1 < 12 by omega) (by omega), nI_clamp (by omega), (hw i (by omega)).2, m_isHere hst hh (by omega), m_isHere hst hh (by omega), bd1_eq, bd1_eq, nI_1]
      cases hal : alI (wkP h am bm o) i with
      | false =>
        rw [hal] at ih'
        rw [bI_f, if_pos rfl, bd1_eq]
        exact ih'
      | true =>
        rw [hal, Bool.true_and] at ih'
        rw [bI_t, if_neg q_n10]
        cases ha : h.testBit (am i) with
        | false =>
          rw [wk_out (Or.inl ha)] at ih'
          rw [bI_f, if_pos rfl]
          exact ih'
        | true =>
          rw [bI_t, if_neg q_n10]
          cases hb : h.testBit (bm i) with
          | false =>
            rw [wk_out (Or.inr hb)] at ih'
            rw [bI_f, if_pos rfl]
            exact ih'
          | true =>
            have ma : am i ∈ o := (hm _).mpr (mem_6.mpr ⟨by omega, ha⟩)
            have mb : bm i ∈ o := (hm _).mpr (mem_6.mpr ⟨by omega, hb⟩)
            have la := List.idxOf_lt_length_of_mem ma
            have lb := List.idxOf_lt_length_of_mem mb
            rw [bI_t, if_neg q_n10, m_placeIn hK hj ho hnd ma hc h6, m_placeIn hK hj ho hnd mb hc h6, bd1_eq, bd1_eq]
            rw [wkP, ha, hb] at ih'
            by_cases hlt : o.idxOf (am i) < o.idxOf (bm i)
            · rw [if_neg (nI_ge hlt (by omega))]
              rw [decide_eq_true hlt] at ih'
              exact ih'
            · rw [if_pos (nI_le (by omega) (by omega))]
              rw [decide_eq_false hlt] at ih'
              exact ih'
  unfold fX9_isWoken
  have e := key t 0 K (by omega) (by omega)
  change fX9_isWoken_L4 _ _ _ _ _ _ _ 1 0 = _ at e
  rw [e, bd1_eq]
  cases wkO h t am bm o <;> rfl
