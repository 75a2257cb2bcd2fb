theorem an_f {p : Nat → Bool} : ∀ n, (∀ i, i < n → p i = false) → anI p n = false
  | 0 => fun _ => rfl
  | n + 1 => fun h => by rw [anI, an_f n (fun i hi => h i (by omega)), h n (by omega)]; rfl
theorem m_slateA {K N h m t n l a b : Nat} {am bm : Nat → Nat} {kp : Nat → Nat} {o : Nat → List Nat} {st woke keptBy come : Nat → Int32} (hK : 1000 ≤ K) (hN : N ≤ 6) (hst : st 0 = nI h) (hh : h < 64) (hhN : h < 2 ^ N) (hO : MoOK N t am bm) (hw : ∀ i, i < t → woke (2 * i) = nI (am i) ∧ woke (2 * i + 1) = nI (bm i))
    (hn : n ≤ 720) (hn0 : 0 < n) (hm : m < 512) (hl : l ≤ 6) (hF : FoP kp o n l keptBy come) (hmo : ∀ j, j < n → ∀ g, g ∈ o j ↔ g ∈ mem h) (ha : a < 10) (hb : b < 10) :
    fX9_slates_L55 K (nI a) (nI b) (nI N) (nI t) (nI m) (nI n) st keptBy come woke K 0 0 = some (bI (decide (a < 6) && decide (b < 6) && (orI (fun i => decide (kp i = m) && wkO h t am bm (o i)) (fun i => aftO (o i) a) n).testBit b)) := by
  obtain ⟨K', rfl⟩ : ∃ y, K = y + 1 := ⟨K - 1, by omega⟩
  by_cases hab : a = b
  · subst hab
    have hv : (decide (a < 6) && decide (a < 6) && (orI (fun i => decide (kp i = m) && wkO h t am bm (o i)) (fun i => aftO (o i) a) n).testBit a) = false := by
      rw [or_tb, an_f n (fun i hi => by
        unfold aftO
        rw [mkb_test, decide_eq_false (show ¬ (o i).idxOf a < (o i).idxOf a by omega)]
        simp)]
      simp
    rw [hv, fX9_slates_L55, if_neg (show ¬ nI n ≤ 0 from nI_nle (by omega) (by omega)), if_pos rfl, bI_f]
  · by_cases hin : a ∈ mem h ∧ b ∈ mem h
    · obtain ⟨h1, h2⟩ := hin
      have a6 := (mem_6.mp h1)
      have b6 := (mem_6.mp h2)
      have lt : ∀ c, h.testBit c = true → c < N := fun c hc => by
        apply Decidable.byContradiction
        intro z
        have : (2 : Nat) ^ N ≤ 2 ^ c := Nat.pow_le_pow_right (by omega) (by omega)
        rw [Nat.testBit_lt_two_pow (by omega)] at hc
        cases hc
      rw [m_slate hK hN hst hh hO hw hn hm hl hF hmo (lt a a6.2) (lt b b6.2) hab a6.2 b6.2, sl_bit (gd := fun i => decide (kp i = m)) (wo := fun i => wkO h t am bm (o i)) a6.1 b6.1 (fun j hj => ⟨(hmo j hj a).mpr h1, (hmo j hj b).mpr h2⟩), decide_eq_true a6.1, decide_eq_true b6.1]
      rfl
    · have hv : (orI (fun i => decide (kp i = m) && wkO h t am bm (o i)) (fun i => aftO (o i) a) n).testBit b = false := sl_out (gd := fun i => decide (kp i = m)) (wo := fun i => wkO h t am bm (o i)) (fun j hj => by
        by_cases h1 : a ∈ mem h
        · exact Or.inr (fun z => hin ⟨h1, (hmo j hj b).mp z⟩)
        · exact Or.inl (fun z => h1 ((hmo j hj a).mp z)))
      have hne : ¬ nI a = nI b := fun q => hab ((nI_eq (by omega) (by omega)).mp q)
      rw [hv, Bool.and_false, fX9_slates_L55, if_neg (show ¬ nI n ≤ 0 from nI_nle (by omega) (by omega)), if_neg hne, bI_f]
      rcases q_guest (K := K' + 1) hN (nI a) with ⟨-, e⟩ | ⟨g, hg, he, -, e⟩
      · rw [e, bd1_eq, if_pos rfl]
      rw [e, bd1_eq, if_neg q_n10]
      rcases q_guest (K := K' + 1) hN (nI b) with ⟨-, e'⟩ | ⟨g', hg', he', -, e'⟩
      · rw [e', bd1_eq, if_pos rfl]
      rw [e', bd1_eq, if_neg q_n10]
      have ha' : a = g := (nI_eq (by omega) (by omega)).mp he
      have hb' : b = g' := (nI_eq (by omega) (by omega)).mp he'
      rw [m_isHere hst hh (show a < 6 by omega), m_isHere hst hh (show b < 6 by omega), bd1_eq]
      cases hha : h.testBit a with
      | false => rw [bI_f, if_pos rfl]
      | true =>
        rw [bI_t, if_neg q_n10, bd1_eq]
        cases hhb : h.testBit b with
        | false => rw [bI_f, if_pos rfl]
        | true => exact absurd ⟨mem_6.mpr ⟨by omega, hha⟩, mem_6.mpr ⟨by omega, hhb⟩⟩ hin
