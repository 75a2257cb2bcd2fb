theorem l_tn {n : Nat} (h : n < 2 ^ 64) : (lN n).toBitVec.toNat = n := Nat.mod_eq_of_lt h
theorem l_shl {n : Nat} (s : Int64) (k : Nat) (hs : (s.toBitVec.smod 64).toNat = k) (h : n * 2 ^ k < 2 ^ 64) : lN n <<< s = lN (n * 2 ^ k) := by
  apply Int64.toBitVec_inj.mp
  apply BitVec.eq_of_toNat_eq
  have hn : n < 2 ^ 64 := Nat.lt_of_le_of_lt (Nat.le_mul_of_pos_right n (Nat.two_pow_pos k)) h
  show ((lN n).toBitVec <<< (s.toBitVec.smod 64).toNat).toNat = _
  rw [hs, BitVec.toNat_shiftLeft, Nat.shiftLeft_eq, l_tn hn, l_tn h, Nat.mod_eq_of_lt h]
theorem l_shr {n : Nat} (h : n < 2 ^ 63) (s : Int64) (k : Nat) (hs : (s.toBitVec.smod 64).toNat = k) : lN n >>> s = lN (n / 2 ^ k) := by
  apply Int64.toInt_inj.mp
  have h2 : n / 2 ^ k ≤ n := Nat.div_le_self _ _
  show (((lN n).toBitVec).sshiftRight (s.toBitVec.smod 64).toNat).toInt = _
  rw [hs, BitVec.toInt_sshiftRight]
  change (lN n).toInt >>> k = _
  rw [pk_lT h, pk_lT (by omega), Int.shiftRight_eq_div_pow]
  rfl
theorem l_or (a b : Nat) : lN a ||| lN b = lN (a ||| b) := by
  apply Int64.toBitVec_inj.1
  show BitVec.ofNat 64 a ||| BitVec.ofNat 64 b = BitVec.ofNat 64 (a ||| b)
  apply BitVec.eq_of_getLsbD_eq
  intro i hi
  simp [hi]
theorem n_or {a b k : Nat} (h : b < 2 ^ k) : a * 2 ^ k ||| b = a * 2 ^ k + b := by
  rw [Nat.mul_comm]
  exact (Nat.two_pow_add_eq_or_of_lt h a).symm
theorem pkF_lt {f : Nat → Nat} : ∀ n, (∀ i, i < n → f i < 16) → pkF f n < 16 ^ n
  | 0 => fun _ => by simp [pkF]
  | n + 1 => fun h => by
    have := pkF_lt n (fun i hi => h i (by omega))
    have := h n (by omega)
    rw [pkF, Nat.pow_succ]
    omega
theorem a_packed {K h s : Nat} {f : Nat → Nat} {floors : Nat → Int32} (hK : 1000 ≤ K) (hh : h < 64) (hs : s < 512) (hf : ∀ g, g < 6 → floors g = nI (f g) ∧ f g < 16) : fX1_packed K (nI h) (nI s) floors = some (lN (pkN f h s)) := by
  have key : ∀ d i q, i + d = 6 → d < q → fX1_packed_L4 K floors q (lN (pkF f i)) (nI i) = some (lN (pkF f 6)) := by
    intro d
    induction d with
    | zero =>
      intro i q hi hq
      obtain ⟨q, rfl⟩ : ∃ y, q = y + 1 := ⟨q - 1, by omega⟩
      have hi' : i = 6 := by omega
      subst hi'
      rw [fX1_packed_L4, if_pos (nI_le (Nat.le_refl _) (by omega))]
    | succ d ih =>
      intro i q hi hq
      obtain ⟨q, rfl⟩ : ∃ y, q = y + 1 := ⟨q - 1, by omega⟩
      obtain ⟨h1, h2⟩ := hf i (by omega)
      have h3 := pkF_lt (f := f) i (fun j hj => (hf j (by omega)).2)
      have h4 : (16 : Nat) ^ i ≤ 16 ^ 6 := Nat.pow_le_pow_right (by omega) (by omega)
      have h5 : (16 : Nat) ^ 6 = 16777216 := by decide
      rw [fX1_packed_L4, if_neg (nI_ge (show i < 6 by omega) (by omega)), p_gd6 (by omega), nI_clamp (by omega), h1, nI_l (by omega), l_shl (n := pkF f i) _ 4 (by decide) (by omega), l_or, n_or (k := 4) h2]
      simp only [nm, nI_1]
      exact ih (i + 1) q (by omega) (by omega)
  unfold fX1_packed
  have e := key 6 0 K (by omega) (by omega)
  have h3 := pkF_lt (f := f) 6 (fun j hj => (hf j (by omega)).2)
  have h5 : (16 : Nat) ^ 6 = 16777216 := by decide
  change fX1_packed_L4 _ _ _ 0 0 = _ at e
  rw [e, bd1_eq, pk_shlN (n := s) _ 6 (by decide) (by omega), nI_l (by omega), nI_l (by omega), l_shl _ 15 (by decide) (by omega), l_or, n_or (k := 15) (by omega), l_or]
  rw [show pkF f 6 * 2 ^ 15 + s * 2 ^ 6 = (pkF f 6 * 512 + s) * 2 ^ 6 by omega, n_or (k := 6) hh]
  unfold pkN
  congr 2
  omega
theorem a_low {K n : Nat} (x : Int32) (k : Nat) (hx : (((1 : Int32) <<< (x &&& 31)) - 1).toBitVec.toNat = 2 ^ k - 1) (hk : k ≤ 32) : fX1_lowBits K (lN n) x = some (nI (n % 2 ^ k)) := by
  unfold fX1_lowBits
  rw [lN_i, pk_and _ k hx]
  congr 2
  show n % 2 ^ 32 % 2 ^ k = n % 2 ^ k
  exact Nat.mod_mod_of_dvd n (Nat.pow_dvd_pow 2 hk)
theorem a_unpack {K h s : Nat} {f : Nat → Nat} {here struck : Int32} {floors : Nat → Int32} (hK : 1000 ≤ K) (hh : h < 64) (hs : s < 512) (hf : ∀ g, g < 6 → f g < 16) : ∃ fl', fX1_unpack K (lN (pkN f h s)) here struck floors = some (nI h, nI s, fl') ∧ ∀ g, g < 6 → fl' g = nI (f g) := by
  have h3 := pkF_lt (f := f) 6 hf
  have h5 : (16 : Nat) ^ 6 = 16777216 := by decide
  have key : ∀ i q (T : Nat → Int32), i ≤ 6 → i < q → (∀ g, i ≤ g → g < 6 → T g = nI (f g)) → ∃ fl', fX1_unpack_L37 K q (lN (pkF f i)) (nI i - 1) T = some fl' ∧ ∀ g, g < 6 → fl' g = nI (f g) := by
    intro i
    induction i with
    | zero =>
      intro q T hi hq hT
      obtain ⟨q, rfl⟩ : ∃ y, q = y + 1 := ⟨q - 1, by omega⟩
      rw [fX1_unpack_L37, if_pos (by decide)]
      exact ⟨T, rfl, fun g hg => hT g (by omega) hg⟩
    | succ i ih =>
      intro q T hi hq hT
      obtain ⟨q, rfl⟩ : ∃ y, q = y + 1 := ⟨q - 1, by omega⟩
      have h6 := pkF_lt (f := f) i (fun j hj => hf j (by omega))
      have h4 : (16 : Nat) ^ i ≤ 16 ^ 6 := Nat.pow_le_pow_right (by omega) (by omega)
      have h7 := hf i (by omega)
      rw [nI_pred, fX1_unpack_L37, if_neg (nI_pos (by omega)), a_low 4 4 (by decide) (by omega), bd1_eq, p_gd6 (by omega), nI_clamp (by omega)]
      simp only [nm]
      rw [pkF, l_shr (by omega) _ 4 (by decide), show (pkF f i * 16 + f i) / 2 ^ 4 = pkF f i by omega, show (pkF f i * 16 + f i) % 2 ^ 4 = f i by omega, x_pm]
      exact ih q _ (by omega) (by omega) (fun g hg1 hg2 => by
        by_cases hgi : g = i
        · subst hgi; rw [q_updS]
        · rw [q_updN hgi]; exact hT g (by omega) hg2)
  unfold fX1_unpack
  obtain ⟨fl', e, hfl⟩ := key 6 K floors (by omega) (by omega) (fun g hg1 hg2 => by omega)
  refine ⟨fl', ?_, hfl⟩
  rw [a_low 6 6 (by decide) (by omega), bd1_eq]
  unfold pkN
  rw [l_shr (by omega) _ 6 (by decide), l_shr (by omega) _ 15 (by decide), a_low 9 9 (by decide) (by omega), bd1_eq]
  simp only [nm]
  rw [show (pkF f 6 * 32768 + s * 64 + h) / 2 ^ 15 = pkF f 6 by omega, show (pkF f 6 * 32768 + s * 64 + h) % 2 ^ 6 = h by omega, show (pkF f 6 * 32768 + s * 64 + h) / 2 ^ 6 % 2 ^ 9 = s by omega, e, bd1_eq]
theorem a_copy {K n0 n2 a b : Nat} {P0 P2 : Nat → Int32} (hK : 1000 ≤ K) (ha : a + 8 ≤ n0) (hb : b + 8 ≤ n2) (h0 : n0 ≤ 100) (h2 : n2 ≤ 100) : ∃ P', fX9_copy K n0 n2 (nI a) (nI b) P0 P2 = some P' ∧ (∀ k, k < 8 → P' (a + k) = P2 (b + k)) ∧ ∀ j, j < a ∨ a + 8 ≤ j → P' j = P0 j := by
  have key : ∀ d i q (T : Nat → Int32), i + d = 8 → d < q → (∀ k, k < i → T (a + k) = P2 (b + k)) → (∀ j, j < a ∨ a + 8 ≤ j → T j = P0 j) → ∃ P', fX9_copy_L3 K n0 n2 (nI a) (nI b) P2 q (nI i) T = some P' ∧ (∀ k, k < 8 → P' (a + k) = P2 (b + k)) ∧ ∀ j, j < a ∨ a + 8 ≤ j → P' j = P0 j := by
    intro d
    induction d with
    | zero =>
      intro i q T hi hq h1 h2
      obtain ⟨q, rfl⟩ : ∃ y, q = y + 1 := ⟨q - 1, by omega⟩
      have hi' : i = 8 := by omega
      subst hi'
      rw [fX9_copy_L3, if_pos (by decide)]
      exact ⟨T, rfl, h1, h2⟩
    | succ d ih =>
      intro i q T hi hq h1 h2
      obtain ⟨q, rfl⟩ : ∃ y, q = y + 1 := ⟨q - 1, by omega⟩
      rw [fX9_copy_L3, if_neg (show ¬ (8 : Int32) ≤ nI i from Int32.not_le.mpr (nI_lt (b := 8) (show i < 8 by omega) (by omega))), nI_add, nI_add, p_gd (show b + i < n2 by omega) (by omega), p_gd (show a + i < n0 by omega) (by omega), nI_clamp (by omega), nI_clamp (by omega)]
      simp only [nm, nI_1]
      refine ih (i + 1) q _ (by omega) (by omega) (fun k hk => ?_) (fun j hj => ?_)
      · by_cases hki : k = i
        · subst hki; rw [q_updS]
        · rw [q_updN (show a + k ≠ a + i by omega)]; exact h1 k (by omega)
      · rw [q_updN (show j ≠ a + i by omega)]; exact h2 j hj
  unfold fX9_copy
  obtain ⟨P', e, h1, h2⟩ := key 8 0 K P0 (by omega) (by omega) (fun k hk => by omega) (fun j hj => rfl)
  change fX9_copy_L3 _ _ _ _ _ _ _ 0 _ = _ at e
  rw [e, bd1_eq]
  exact ⟨P', rfl, h1, h2⟩
