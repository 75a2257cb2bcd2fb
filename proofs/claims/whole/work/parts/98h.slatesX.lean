theorem cnt_ext {p q : Nat → Bool} : ∀ n, (∀ i, i < n → p i = q i) → cntI p n = cntI q n
  | 0 => fun _ => rfl
  | n + 1 => fun h => by rw [cntI, cntI, cnt_ext n (fun i hi => h i (by omega)), h n (by omega)]
theorem cnt_f {p : Nat → Bool} : ∀ n, (∀ i, i < n → p i = false) → cntI p n = 0
  | 0 => fun _ => rfl
  | n + 1 => fun h => by rw [cntI, cnt_f n (fun i hi => h i (by omega)), h n (by omega)]; rfl
theorem sl_row {W : Nat → Nat} {a : Nat} (ha : a < 6) (hW : W a < 64) : cntI (fun b => sl2 W (10 * a + b)) 10 = bc (W a) := by
  unfold bc
  rw [cntI, cnt_ext (q := fun i => (W a).testBit i) 9 (fun b hb => by
    unfold sl2
    rw [show (10 * a + b) / 10 = a by omega, show (10 * a + b) % 10 = b by omega, decide_eq_true ha]
    by_cases hb6 : b < 6
    · rw [decide_eq_true hb6]; rfl
    · have : (64 : Nat) ≤ 2 ^ b := Nat.pow_le_pow_right (n := 2) (i := 6) (by omega) (by omega)
      rw [Nat.testBit_lt_two_pow (by omega), Bool.and_false])]
  have : sl2 W (10 * a + 9) = false := by
    unfold sl2
    rw [show (10 * a + 9) % 10 = 9 by omega]
    simp
  simp [this]
theorem g_twos {K : Nat} {W : Nat → Nat} {bW : Nat → Int32} (hK : 1000 ≤ K) (hW : ∀ g, g < 6 → bW g = nI (W g) ∧ W g < 64) : fX6_twosAsWoken K bW = some (nI (cntI (sl2 W) 100)) := by
  have key : ∀ d i q, i + d = 6 → d < q → fX6_twosAsWoken_L4 K bW q (nI (cntI (sl2 W) (10 * i))) (nI i) = some (nI (cntI (sl2 W) 60)) := by
    intro d
    induction d with
    | zero =>
      intro i q hi hq
      obtain ⟨q, rfl⟩ : ∃ y, q = y + 1 := ⟨q - 1, by omega⟩
      have hi' : i = 6 := by rw [e6, e7]; rfl
      subst hi'
      rw [fX6_twosAsWoken_L4, if_pos (nI_le (Nat.le_refl _) (by omega))]
    | succ d ih =>
      intro i q hi hq
      obtain ⟨q, rfl⟩ : ∃ y, q = y + 1 := ⟨q - 1, by omega⟩
      obtain ⟨w1, w2⟩ := hW i (by omega)
      rw [fX6_twosAsWoken_L4, if_neg (nI_ge (show i < 6 by omega) (by omega)), p_gd6 (by omega), nI_clamp (by omega), w1, bc_j K (by omega), bd1_eq]
      simp only [nm]
      rw [nI_add, nI_1, ← sl_row (show i < 6 by omega) w2, ← cnt_10, show 10 * i + 10 = 10 * (i + 1) by omega]
      exact ih (i + 1) q (by omega) (by omega)
  unfold fX6_twosAsWoken
  have e := key 6 0 K (by omega) (by omega)
  change fX6_twosAsWoken_L4 _ _ _ 0 0 = _ at e
  have e6 : cntI (sl2 W) 100 = cntI (sl2 W) 60 + cntI (fun b => sl2 W (60 + b)) 40 := cnt_10 (sl2 W) 60 40
  have e7 : cntI (fun b => sl2 W (60 + b)) 40 = 0 := cnt_f (p := fun b => sl2 W (60 + b)) 40 (fun b hb => by
    unfold sl2
    rw [decide_eq_false (show ¬ (60 + b) / 10 < 6 by omega)]
    rfl)
  have e8 : cntI (sl2 W) 100 = cntI (sl2 W) 60 := by rw [e6, e7]; rfl
  rw [e8, e, bd1_eq]
