theorem a_fs {N V h s : Nat} {fl : Nat → Nat} {floors : Nat → Int32} {here struck : Int32} (hN : N ≤ 6) (hV : V ≤ 9) (hNt : NtOK N V fl h s) (hNx : NtX fl h s floors here struck) : h < 64 ∧ s < 512 ∧ (∀ g, g < 6 → floors g = nI (fl g) ∧ fl g < 16) ∧ ∀ g, g < 6 → fl g < 16 :=
  ⟨h_64 hNt.1 hN, Nat.lt_of_lt_of_le hNt.2.1 (Nat.pow_le_pow_right (n := 2) (by omega) hV), fun g hg => ⟨hNx.2.2 g hg, hNt.2.2.2 g hg⟩, hNt.2.2.2⟩
/-- one night more on a pile -/
theorem pi_push {N V mx u h s : Nat} {fl : Nat → Nat} {nights : Nat → Int64} {was st : Nat → Int32} (hN : N ≤ 6) (hU : PiR N V mx (nI u) nights (nI u) was) (hux : u < mx) (hmx : mx ≤ 8) (hu31 : u < 100) (hNt : NtOK N V fl h s) (hNm : NtM N fl h s st)
    {was' : Nat → Int32} (w1 : ∀ k, k < 8 → was' (8 * u + k) = st (0 + k)) (w2 : ∀ j, j < 8 * u ∨ 8 * u + 8 ≤ j → was' j = was j) : PiR N V mx (nI (u + 1)) (vp_updL nights u (lN (pkN fl h s))) (nI (u + 1)) was' := by
  obtain ⟨u', hs, ss, fs, h1, h2, h3, h4⟩ := hU
  have : u' = u := ((nI_eq (by omega) (by omega)).mp h2).symm
  subst this
  refine ⟨u' + 1, fun i => if i = u' then h else hs i, fun i => if i = u' then s else ss i, fun i => if i = u' then fl else fs i, by omega, rfl, rfl, fun i hi => ?_⟩
  by_cases hiu : i = u'
  · subst hiu
    simp only [if_true]
    refine ⟨hNt, pk_uLs, ?_, ?_, fun g hg => ?_⟩
    · rw [show 8 * i = 8 * i + 0 by omega, w1 0 (by omega)]; exact hNm.1
    · rw [w1 1 (by omega)]; exact hNm.2.1
    · rw [show 8 * i + 2 + g = 8 * i + (2 + g) by omega, w1 (2 + g) (by omega), Nat.zero_add]; exact hNm.2.2 g hg
  · obtain ⟨g1, g2, g3, g4, g5⟩ := h4 i (by omega)
    simp only [if_neg hiu]
    refine ⟨g1, by rw [pk_uLn hiu]; exact g2, by rw [w2 _ (by omega)]; exact g3, by rw [w2 _ (by omega)]; exact g4, fun g hg => by rw [w2 _ (by omega)]; exact g5 g hg⟩
theorem g_drop {K : Nat} {nights : Nat → Int64} {size : Int32} (hK : 1000 ≤ K) : ∃ n', fX2_dropOldest K 8 size nights = some (nI 7, n') ∧ ∀ i, i < 7 → n' i = nights (i + 1) := by
  have key : ∀ d i q (T : Nat → Int64), i + d = 8 → 1 ≤ i → d < q → (∀ j, j + 1 < i → T j = nights (j + 1)) → (∀ j, i ≤ j → T j = nights j) → ∃ n', fX2_dropOldest_L2 K 8 q (nI i) T = some n' ∧ ∀ j, j < 7 → n' j = nights (j + 1) := by
    intro d
    induction d with
    | zero =>
      intro i q T hi h1 hq hA hB
      obtain ⟨q, rfl⟩ : ∃ y, q = y + 1 := ⟨q - 1, by omega⟩
      have hi' : i = 8 := by omega
      subst hi'
      rw [fX2_dropOldest_L2, if_pos (by decide)]
      exact ⟨T, rfl, fun j hj => hA j (by omega)⟩
    | succ d ih =>
      intro i q T hi h1 hq hA hB
      obtain ⟨q, rfl⟩ : ∃ y, q = y + 1 := ⟨q - 1, by omega⟩
      obtain ⟨i, rfl⟩ : ∃ y, i = y + 1 := ⟨i - 1, by omega⟩
      rw [fX2_dropOldest_L2, if_neg (nI_ge (show i + 1 < 8 by omega) (by omega)), p_gd (show i + 1 < 8 by omega) (by omega), nI_pred, p_gd (show i < 8 by omega) (by omega), nI_clamp (by omega), nI_clamp (by omega)]
      simp only [nm, nI_1]
      refine ih (i + 2) q _ (by omega) (by omega) (by omega) (fun j hj => ?_) (fun j hj => ?_)
      · by_cases hji : j = i
        · subst hji; rw [pk_uLs]; exact hB _ (by omega)
        · rw [pk_uLn hji]; exact hA j (by omega)
      · rw [pk_uLn (show j ≠ i by omega)]; exact hB j (by omega)
  unfold fX2_dropOldest
  obtain ⟨n', e, h1⟩ := key 7 1 K nights (by omega) (by omega) (by omega) (fun j hj => by omega) (fun j hj => rfl)
  change fX2_dropOldest_L2 _ _ _ 1 _ = _ at e
  rw [e, bd1_eq]
  exact ⟨n', rfl, h1⟩
theorem m_shift {K : Nat} {was : Nat → Int32} (hK : 1000 ≤ K) : ∃ w', fX9_remembers_L11 K K 0 was = some w' ∧ ∀ j, j < 56 → w' j = was (j + 8) := by
  have key : ∀ d i q (T : Nat → Int32), i + d = 56 → d < q → (∀ j, j < i → T j = was (j + 8)) → (∀ j, i ≤ j → T j = was j) → ∃ w', fX9_remembers_L11 K q (nI i) T = some w' ∧ ∀ j, j < 56 → w' j = was (j + 8) := by
    intro d
    induction d with
    | zero =>
      intro i q T hi hq hA hB
      obtain ⟨q, rfl⟩ : ∃ y, q = y + 1 := ⟨q - 1, by omega⟩
      have hi' : i = 56 := by omega
      subst hi'
      rw [fX9_remembers_L11, if_pos (by decide)]
      exact ⟨T, rfl, hA⟩
    | succ d ih =>
      intro i q T hi hq hA hB
      obtain ⟨q, rfl⟩ : ∃ y, q = y + 1 := ⟨q - 1, by omega⟩
      rw [fX9_remembers_L11, if_neg (show ¬ (56 : Int32) ≤ nI i from Int32.not_le.mpr (nI_lt (b := 56) (show i < 56 by omega) (by omega))), show nI i + 8 = nI (i + 8) from nI_add i 8, p_gd (show i + 8 < 64 by omega) (by omega), p_gd (show i < 64 by omega) (by omega), nI_clamp (by omega), nI_clamp (by omega)]
      simp only [nm, nI_1]
      refine ih (i + 1) q _ (by omega) (by omega) (fun j hj => ?_) (fun j hj => ?_)
      · by_cases hji : j = i
        · subst hji; rw [q_updS]; exact hB _ (by omega)
        · rw [q_updN hji]; exact hA j (by omega)
      · rw [q_updN (show j ≠ i by omega)]; exact hB j (by omega)
  exact key 56 0 K was (by omega) (by omega) (fun j hj => by omega) (fun j hj => rfl)
theorem a_remember {N V h s : Nat} {fl : Nat → Nat} {sv size acts here struck : Int32} {nights : Nat → Int64} {was st floors : Nat → Int32} (hN : N ≤ 6) (hV : V ≤ 9) (hU : PiR N V 8 size nights acts was) (hNt : NtOK N V fl h s) (hNx : NtX fl h s floors here struck) (hNm : NtM N fl h s st) :
    ∃ size' nights' acts' was', fX8_rememberForUndo KK sv here struck floors size nights = some (0, size', nights') ∧ fX9_remembers KK acts was st = some (acts', was') ∧ PiR N V 8 size' nights' acts' was' := by
  obtain ⟨f1, f2, f3, f4⟩ := a_fs hN hV hNt hNx
  obtain ⟨x1, x2, -⟩ := hNx
  subst x1 x2
  have hU0 := hU
  obtain ⟨u, hs, ss, fs, u1, rfl, rfl, u4⟩ := hU
  unfold fX8_rememberForUndo fX9_remembers fX2_add fX2_isFull
  rw [a_packed KK_ge f1 f2 f3, bd1_eq]
  by_cases hu : u = 8
  · subst hu
    obtain ⟨n', e1, hn'⟩ := g_drop (K := KK) (nights := nights) (size := nI 8) KK_ge
    obtain ⟨w', e2, hw'⟩ := m_shift (K := KK) (was := was) KK_ge
    obtain ⟨w2, e3, c1, c2⟩ := a_copy (K := KK) (n0 := 64) (n2 := 8) (a := 8 * 7) (b := 0) (P0 := w') (P2 := st) KK_ge (by omega) (by omega) (by omega) (by omega)
    rw [if_neg (show ¬ nI 8 < nI 8 by decide), bd1_eq, if_neg q_n10, e1, bd2_eq, bd2_eq, if_neg (show ¬ nI 7 < 0 by decide), if_neg (show ¬ nI 8 ≤ nI 7 by decide), p_gd (show 7 < 8 by omega) (by omega), nI_clamp (by omega), if_pos (show nI 8 = 8 from rfl), e2, bd1_eq]
    simp only [nm]
    rw [bd2_eq, bd2_eq, show (8 : Int32) * (nI 8 - 1) = nI (8 * 7) by decide]
    change fX9_copy KK 64 8 (nI (8 * 7)) 0 w' st = _ at e3
    rw [e3, bd1_eq, show nI 8 - 1 + 1 = nI 8 by decide, show nI 7 + 1 = nI 8 by decide]
    refine ⟨_, _, _, _, rfl, rfl, pi_push (u := 7) hN ?_ (by omega) (by omega) (by omega) hNt hNm c1 c2⟩
    refine ⟨7, fun i => hs (i + 1), fun i => ss (i + 1), fun i => fs (i + 1), by omega, rfl, rfl, fun i hi => ?_⟩
    obtain ⟨g1, g2, g3, g4, g5⟩ := u4 (i + 1) (by omega)
    refine ⟨g1, by rw [hn' i hi]; exact g2, ?_, ?_, fun g hg => ?_⟩
    · rw [hw' _ (by omega), show 8 * i + 8 = 8 * (i + 1) by omega]; exact g3
    · rw [hw' _ (by omega), show 8 * i + 1 + 8 = 8 * (i + 1) + 1 by omega]; exact g4
    · rw [hw' _ (by omega), show 8 * i + 2 + g + 8 = 8 * (i + 1) + 2 + g by omega]; exact g5 g hg
  · obtain ⟨w2, e3, c1, c2⟩ := a_copy (K := KK) (n0 := 64) (n2 := 8) (a := 8 * u) (b := 0) (P0 := was) (P2 := st) KK_ge (by omega) (by omega) (by omega) (by omega)
    change fX9_copy KK 64 8 (nI (8 * u)) 0 was st = _ at e3
    rw [if_pos (nI_lt (by omega) (by omega)), bd1_eq, if_pos rfl, bd2_eq, if_neg (nI_pos (by omega)), if_neg (Int32.not_le.mpr (nI_lt (show u < 8 by omega) (by omega))), p_gd (show u < 8 by omega) (by omega), nI_clamp (by omega), if_neg (show ¬ nI u = 8 from fun q => hu ((nI_eq (b := 8) (by omega) (by omega)).mp q))]
    simp only [nm]
    rw [bd2_eq, bd2_eq, show (8 : Int32) * nI u = nI (8 * u) from pk_mul 8 u, e3, bd1_eq, nI_1]
    exact ⟨_, _, _, _, rfl, rfl, pi_push (u := u) hN hU0 (by omega) (by omega) (by omega) hNt hNm c1 c2⟩
