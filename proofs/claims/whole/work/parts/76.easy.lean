theorem q_n10 : ¬ (1 : Int32) = 0 := by decide
/-! a guest's number, a wish's number: such as there are -/
theorem q_in9 {K : Nat} {N : Nat} (hN : N ≤ 9) (x : Int32) : (fX9_in K x 0 (nI N - 1) = some 0 ∧ (x < 0 ∨ nI N ≤ x)) ∨ ∃ g, g < N ∧ x = nI g ∧ fX9_in K x 0 (nI N - 1) = some 1 := by
  unfold fX9_in
  have e : (nI N - nI 1).toInt = (N : Int) - 1 := pk_sub_toInt (by omega) (by omega)
  have e' : (nI N - 1 : Int32) = nI N - nI 1 := rfl
  rcases pk_ix x (n := N) (by omega) with h | h | ⟨g, hg, rfl⟩
  · rw [if_pos h]; exact Or.inl ⟨rfl, Or.inl h⟩
  · by_cases h0 : x < 0
    · rw [if_pos h0]; exact Or.inl ⟨rfl, Or.inl h0⟩
    · rw [if_neg h0, if_pos]
      · exact Or.inl ⟨rfl, Or.inr h⟩
      · rw [e', Int32.lt_iff_toInt_lt, e]
        have h2 := Int32.le_iff_toInt_le.mp h
        rw [nI_toInt (by omega)] at h2
        omega
  · rw [if_neg (nI_pos (by omega)), if_neg]
    · exact Or.inr ⟨g, hg, rfl, rfl⟩
    · rw [e', Int32.lt_iff_toInt_lt, e, nI_toInt (by omega)]
      omega
theorem q_guest {K N : Nat} (hN : N ≤ 6) (x : Int32) : (fX5_isGuest K x (nI N) = some 0 ∧ fX9_isGuest K x (nI N) = some 0) ∨ ∃ g, g < N ∧ x = nI g ∧ fX5_isGuest K x (nI N) = some 1 ∧ fX9_isGuest K x (nI N) = some 1 := by
  unfold fX5_isGuest fX9_isGuest
  rcases q_in9 (K := K) (N := N) (by omega) x with ⟨h, h2⟩ | ⟨g, hg, rfl, h⟩
  · left
    rw [h]
    refine ⟨?_, rfl⟩
    rcases h2 with h2 | h2
    · rw [if_pos h2]
    · by_cases h0 : x < 0
      · rw [if_pos h0]
      · rw [if_neg h0, if_pos h2]
  · right
    refine ⟨g, hg, rfl, ?_, ?_⟩
    · rw [if_neg (nI_pos (by omega)), if_neg (nI_ge hg (by omega))]
    · rw [h]; rfl
theorem q_wish {K V : Nat} (hV : V ≤ 9) (x : Int32) : (fX5_isWish K x (nI V) = some 0 ∧ fX9_in K x 0 (nI V - 1) = some 0) ∨ ∃ w, w < V ∧ x = nI w ∧ fX5_isWish K x (nI V) = some 1 ∧ fX9_in K x 0 (nI V - 1) = some 1 := by
  unfold fX5_isWish
  rcases q_in9 (K := K) (N := V) (by omega) x with ⟨h, h2⟩ | ⟨g, hg, rfl, h⟩
  · left
    refine ⟨?_, h⟩
    rcases h2 with h2 | h2
    · rw [if_pos h2]
    · by_cases h0 : x < 0
      · rw [if_pos h0]
      · rw [if_neg h0, if_pos h2]
  · right
    refine ⟨g, hg, rfl, ?_, h⟩
    rw [if_neg (nI_pos (by omega)), if_neg (nI_ge hg (by omega))]
/-! the text -/
theorem a_wipe {len len' : Int32} {le te : Nat → Int32} (h : TxR len le len' te) : ∃ r l1 l2, fX8_wipe KK len = some (r, l1) ∧ fX9_wipe KK len' = some (r, l2) ∧ TxR l1 le l2 te := by
  obtain ⟨n, c, hn, rfl, rfl, hc⟩ := h
  exact ⟨nI n, 0, 0, rfl, rfl, 0, c, Nat.zero_le _, rfl, rfl, fun i hi => absurd hi (by omega)⟩
theorem q_char {c : Nat} (hc : c ≤ 126) : vp_nar .char (((nI c).toUInt32 % 65536).toInt32) = nI c := by
  have : ∀ c : Nat, c < 127 → vp_nar .char (((nI c).toUInt32 % 65536).toInt32) = nI c := by decide +kernel
  exact this c (by omega)
theorem a_write {len len' : Int32} {le te : Nat → Int32} (h : TxR len le len' te) (x : Int32) : ∃ r l1 a1 l2 a2, fX8_write KK x len le = some (r, l1, a1) ∧ fX9_write KK x len' te = some (r, l2, a2) ∧ TxR l1 a1 l2 a2 := by
  obtain ⟨n, c, hn, rfl, rfl, hc⟩ := h
  have hT : TxR (nI n) le (nI n) te := ⟨n, c, hn, rfl, rfl, hc⟩
  unfold fX8_write fX9_write fX9_in fX7_isFull fX7_add
  by_cases h1 : x < 32
  · rw [if_pos h1, if_pos h1]; exact ⟨-1, nI n, le, nI n, te, rfl, rfl, hT⟩
  · rw [if_neg h1, if_neg h1]
    by_cases h2 : x ≤ 126
    · have h2' : ¬ 126 < x := Int32.not_lt.mpr h2
      rw [if_pos h2, if_neg h2', bd1_eq, if_neg q_n10]
      obtain ⟨d, hd, rfl⟩ := nI_of2 (n := 126) (M := 126) (by decide) (x := x) (fun q => h1 (Int32.lt_of_lt_of_le q (by decide))) h2
      have hd32 : 32 ≤ d := by
        have h3 : ¬ nI d < nI 32 := h1
        rw [nI_ltI (by omega) (by omega)] at h3
        omega
      by_cases hf : n = 200
      · subst hf
        rw [if_neg (show ¬ nI 200 < nI 200 by decide), bd1_eq, if_neg q_n10, if_pos (show nI 200 = 200 from rfl)]
        exact ⟨-3, nI 200, le, nI 200, te, rfl, rfl, hT⟩
      · have hl : nI n < nI 200 := nI_lt (by omega) (by omega)
        have hne : ¬ nI n = 200 := fun q => hf ((nI_eq (b := 200) (by omega) (by omega)).mp q)
        rw [if_pos hl, bd1_eq, if_pos (show (0 : Int32) = 0 from rfl), if_neg (nI_pos (by omega)), if_neg (Int32.not_le.mpr hl), gd_pos (nI_in (by omega) (by omega)), if_neg hne, gd_pos (nI_in (by omega) (by omega)), nI_clamp (by omega), q_char hd]
        refine ⟨nI n + 1, nI n + 1, upd le n (nI d), nI n + 1, upd te n (nI d), rfl, rfl, n + 1, fun i => if i = n then d else c i, by omega, nI_1 n, nI_1 n, fun i hi => ?_⟩
        by_cases hi2 : i = n
        · subst hi2
          simp only [if_true, q_updS]
          exact ⟨hd32, hd, trivial, trivial⟩
        · rw [q_updN hi2, q_updN hi2]
          simp only [if_neg hi2]
          exact hc i (by omega)
    · have h2' : 126 < x := Int32.not_le.mp h2
      rw [if_neg h2, if_pos h2', bd1_eq, if_pos (show (0 : Int32) = 0 from rfl)]
      exact ⟨-1, nI n, le, nI n, te, rfl, rfl, hT⟩
/-! other mornings -/
theorem a_woken {N t : Nat} {am bm : Nat → Nat} {sv told wokes : Int32} {ah be woke : Nat → Int32} (hN : N ≤ 6) (hO : MoOK N t am bm) (hX : MoX t am bm told ah be) (hM : MoM t am bm wokes woke) (x y : Int32) :
    (∃ r, fX8_woken KK x y sv (nI N) told ah be = some (r, sv, told, ah, be) ∧ fX9_woken KK x y (nI N) wokes woke = some (r, wokes, woke)) ∨
    ∃ r t' am' bm' told' ah' be' wokes' woke', fX8_woken KK x y sv (nI N) told ah be = some (r, 0, told', ah', be') ∧ fX9_woken KK x y (nI N) wokes woke = some (r, wokes', woke') ∧ MoOK N t' am' bm' ∧ MoX t' am' bm' told' ah' be' ∧ MoM t' am' bm' wokes' woke' := by
  obtain ⟨ht, hO⟩ := hO
  obtain ⟨rfl, hX⟩ := hX
  obtain ⟨rfl, hM⟩ := hM
  unfold fX8_woken fX9_woken
  rcases q_guest (K := KK) hN x with ⟨e1, e2⟩ | ⟨a, ha, rfl, e1, e2⟩
  · rw [e1, e2]; exact Or.inl ⟨-1, rfl, rfl⟩
  · rw [e1, e2, bd1_eq, bd1_eq, if_neg q_n10, if_neg q_n10]
    rcases q_guest (K := KK) hN y with ⟨e3, e4⟩ | ⟨b, hb, rfl, e3, e4⟩
    · rw [e3, e4]; exact Or.inl ⟨-1, rfl, rfl⟩
    · rw [e3, e4, bd1_eq, bd1_eq, if_neg q_n10, if_neg q_n10]
      by_cases hab : a = b
      · subst hab
        rw [if_pos (show nI a = nI a from rfl), if_pos (show nI a = nI a from rfl)]; exact Or.inl ⟨-1, rfl, rfl⟩
      · have hne : ¬ nI a = nI b := fun q => hab ((nI_eq (by omega) (by omega)).mp q)
        rw [if_neg hne, if_neg hne]
        unfold fX0_isFull fX0_add
        by_cases h6 : t = 6
        · subst h6
          rw [if_neg (show ¬ nI 6 < 6 by decide), bd1_eq, if_neg q_n10, if_pos (show nI 6 = 6 from rfl)]
          exact Or.inl ⟨-3, rfl, rfl⟩
        · have hlt : nI t < (6 : Int32) := nI_lt (b := 6) (by omega) (by omega)
          have h6' : ¬ nI t = (6 : Int32) := fun q => h6 ((nI_eq (b := 6) (by omega) (by omega)).mp q)
          have e5 : (2 : Int32) * nI t = nI (2 * t) := pk_mul 2 t
          have e6 : nI (2 * t) + 1 = nI (2 * t + 1) := nI_1 _
          rw [if_pos hlt, bd1_eq, if_pos (show (0 : Int32) = 0 from rfl), q_put (by omega) (by omega), q_put (by omega) (by omega), bd1_eq, bd1_eq, if_neg h6', e5, gd_pos (nI_in (show 2 * t < 12 by omega) (by omega))]
          simp only [nm, e6, q_gdc (show 2 * t + 1 < 12 by omega) (show 12 < 2 ^ 31 by omega), nI_clamp (show 2 * t < 2 ^ 31 by omega), nI_clamp (show 2 * t + 1 < 2 ^ 31 by omega), bd3_eq]
          refine Or.inr ⟨nI t + 1, t + 1, fun i => if i = t then a else am i, fun i => if i = t then b else bm i, nI t + 1, upd ah t (nI a), upd be t (nI b), nI t + 1, upd (upd woke (2 * t) (nI a)) (2 * t + 1) (nI b), rfl, rfl, ⟨by omega, fun i hi => ?_⟩, ⟨nI_1 t, fun i hi => ?_⟩, ⟨nI_1 t, fun i hi => ?_⟩⟩
          · by_cases hi2 : i = t
            · subst hi2; simp only [if_true]; exact ⟨ha, hb, hab⟩
            · simp only [if_neg hi2]; exact hO i (by omega)
          · by_cases hi2 : i = t
            · subst hi2; simp only [if_true, q_updS]; exact ⟨trivial, trivial⟩
            · rw [q_updN hi2, q_updN hi2]; simp only [if_neg hi2]; exact hX i (by omega)
          · by_cases hi2 : i = t
            · subst hi2
              rw [q_updN (show 2 * i ≠ 2 * i + 1 by omega), q_updS, q_updS]; simp only [if_true]; exact ⟨trivial, trivial⟩
            · rw [q_updN (show 2 * i ≠ 2 * t + 1 by omega), q_updN (show 2 * i ≠ 2 * t by omega), q_updN (show 2 * i + 1 ≠ 2 * t + 1 by omega), q_updN (show 2 * i + 1 ≠ 2 * t by omega)]
              simp only [if_neg hi2]
              exact hM i (by omega)
