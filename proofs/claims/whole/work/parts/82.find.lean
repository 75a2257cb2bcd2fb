/-! the reference goes through all rounds -/
def memN (h g : Nat) : List Nat := (List.range g).filter (fun g => h.testBit g)
theorem memN_succ (h g : Nat) : memN h (g + 1) = memN h g ++ (if h.testBit g = true then [g] else []) := by
  unfold memN
  rw [List.range_succ, List.filter_append]
  congr 1
  cases hb : h.testBit g <;> simp [hb]
theorem memN_le (h g : Nat) : (memN h g).length ≤ g := by
  have := List.length_filter_le (fun g => h.testBit g) (List.range g)
  simpa [memN] using this
theorem memN_6 {h N : Nat} (hh : h < 2 ^ N) (hN : N ≤ 6) : memN h N = mem h := by
  have : ∀ d, N + d ≤ 6 → memN h (N + d) = memN h N := by
    intro d
    induction d with
    | zero => intro _; rfl
    | succ d ih =>
      intro hd
      have hb : h.testBit (N + d) = false := Nat.testBit_lt_two_pow (Nat.lt_of_lt_of_le hh (Nat.pow_le_pow_right (by omega) (by omega)))
      rw [← Nat.add_assoc, memN_succ, hb]
      simpa using ih (by omega)
  have h6 := this (6 - N) (by omega)
  rw [show N + (6 - N) = 6 by omega] at h6
  rw [← h6]
  rfl
theorem la_app {T : Nat → Int32} {l : List Nat} {g : Nat} (h : agr l.length T (la l)) : agr (l ++ [g]).length (upd T l.length (nI g)) (la (l ++ [g])) := by
  intro k hk
  rw [List.length_append, List.length_singleton] at hk
  unfold la
  by_cases hkl : k = l.length
  · subst hkl
    rw [q_updS, List.getD_eq_getElem?_getD, List.getElem?_append_right (Nat.le_refl _), Nat.sub_self]
    rfl
  · rw [q_updN hkl, h k (by omega), la, List.getD_eq_getElem?_getD, List.getD_eq_getElem?_getD, List.getElem?_append_left (by omega)]
theorem f_order {K N h : Nat} {T : Nat → Int32} (hK : 1000 ≤ K) (hN : N ≤ 6) (hh : h < 2 ^ N) :
    ∃ T', fX9_findRounds_L21 K (nI h) (nI N) K 0 0 T = some (nI (mem h).length, T') ∧ agr (mem h).length T' (la (mem h)) := by
  have h31 : h < 2 ^ 31 := q_lt9 hh (by omega)
  have key : ∀ k g n T, g + k = N → k < n → agr (memN h g).length T (la (memN h g)) → ∃ T', fX9_findRounds_L21 K (nI h) (nI N) n (nI g) (nI (memN h g).length) T = some (nI (mem h).length, T') ∧ agr (mem h).length T' (la (mem h)) := by
    intro k
    induction k with
    | zero =>
      intro g n T hg hn hA
      obtain ⟨n, rfl⟩ : ∃ q, n = q + 1 := ⟨n - 1, by omega⟩
      have : g = N := by omega
      subst this
      rw [memN_6 hh hN] at hA ⊢
      exact ⟨T, by rw [fX9_findRounds_L21, if_pos (nI_le (Nat.le_refl _) (by omega))], hA⟩
    | succ k ih =>
      intro g n T hg hn hA
      obtain ⟨n, rfl⟩ : ∃ q, n = q + 1 := ⟨n - 1, by omega⟩
      have hl := memN_le h g
      rw [fX9_findRounds_L21, if_neg (nI_ge (by omega) (by omega)), q_has9 h31 (by omega), bd1_eq]
      have ih' := ih (g + 1) n
      rw [memN_succ] at ih'
      cases hb : h.testBit g with
      | false =>
        simp only [hb, Bool.false_eq_true, if_false, List.append_nil] at ih'
        rw [bI_f, if_pos rfl, bd2_eq]
        simp only [nm, nI_1]
        exact ih' T (by omega) (by omega) hA
      | true =>
        simp only [hb, if_true] at ih'
        rw [bI_t, if_neg q_n10, p_gd6 (show (memN h g).length < 6 by omega)]
        simp only [nm, bd2_eq, nI_1, nI_clamp (show (memN h g).length < 2 ^ 31 by omega)]
        have := ih' (upd T (memN h g).length (nI g)) (by omega) (by omega) (la_app hA)
        rw [List.length_append, List.length_singleton] at this
        exact this
  exact key N 0 K T (by omega) (by omega) (fun k hk => absurd hk (by simp [memN]))
theorem f_kept {K V m j : Nat} {wk wa wb tm : Nat → Nat} {o : List Nat} {wK wA wB places times : Nat → Int32} (hV : V ≤ 9) (hm : m < 2 ^ 31) (hj : j < 720) (ho : o.length ≤ 6) (h : ∀ w, w < V → m.testBit w = true → WiO wk wa wb tm o wK wA wB places times w) :
    ∀ k w n (T : Nat → Int32), w + k = V → k < n → T j = nI (mkb (fun w => m.testBit w && okW wk wa wb tm o w) w) →
    ∃ T', fX9_findRounds_L99 K (nI V) (nI m) (nI j) wA wK wB times places n (nI w) T = some T' ∧ T' j = nI (mkb (fun w => m.testBit w && okW wk wa wb tm o w) V) ∧ ∀ i, i ≠ j → T' i = T i := by
  intro k
  induction k with
  | zero =>
    intro w n T hw hn hT
    obtain ⟨n, rfl⟩ : ∃ q, n = q + 1 := ⟨n - 1, by omega⟩
    have : w = V := by omega
    subst this
    exact ⟨T, by rw [fX9_findRounds_L99, if_pos (nI_le (Nat.le_refl _) (by omega))], hT, fun _ _ => rfl⟩
  | succ k ih =>
    intro w n T hw hn hT
    obtain ⟨n, rfl⟩ : ∃ q, n = q + 1 := ⟨n - 1, by omega⟩
    rw [fX9_findRounds_L99, if_neg (nI_ge (by omega) (by omega)), p_gd (show j < 720 by omega) (by omega), q_has9 hm (by omega), bd1_eq]
    have ih' := ih (w + 1) n
    rw [mkb] at ih'
    have fin : ∀ y, nI (mkb (fun w => m.testBit w && okW wk wa wb tm o w) w) ||| y = nI (mkb (fun w => m.testBit w && okW wk wa wb tm o w) w ||| if (m.testBit w && okW wk wa wb tm o w) = true then 2 ^ w else 0) →
        ∃ T', (bd1 (τ0 := Int32) (some y) fun y => gd (¬ ((nI j : Int32) < 0 ∨ 720 ≤ (nI j).toNatClampNeg)) (nm (upd T (nI j).toNatClampNeg (T (nI j).toNatClampNeg ||| y)) fun T_keptBy_6 => nm (nI w + 1) fun x3_1 => fX9_findRounds_L99 K (nI V) (nI m) (nI j) wA wK wB times places n x3_1 T_keptBy_6)) = some T' ∧ T' j = nI (mkb (fun w => m.testBit w && okW wk wa wb tm o w) V) ∧ ∀ i, i ≠ j → T' i = T i := by
      intro y hy
      rw [bd1_eq, p_gd (show j < 720 by omega) (by omega)]
      simp only [nm, nI_1, nI_clamp (show j < 2 ^ 31 by omega)]
      obtain ⟨T', e1, e2, e3⟩ := ih' (upd T j (T j ||| y)) (by omega) (by omega) (by rw [q_updS, hT, hy])
      exact ⟨T', e1, e2, fun i hi => by rw [e3 i hi, q_updN hi]⟩
    cases hmb : m.testBit w with
    | false =>
      rw [bI_f, if_pos rfl]
      exact fin 0 (by rw [hmb, q_or0]; simp)
    | true =>
      rw [bI_t, if_neg q_n10, p_isKept9 (by omega) ho (h w (by omega) hmb), bd1_eq]
      cases hok : okW wk wa wb tm o w with
      | false =>
        rw [bI_f, if_pos rfl]
        exact fin 0 (by rw [hmb, hok, q_or0]; simp)
      | true =>
        rw [bI_t, if_neg q_n10]
        exact fin _ (by rw [hmb, hok, q_or1 (show w < 31 by omega)]; simp)
theorem f_come {K n j : Nat} {order : Nat → Int32} (hn : n ≤ 6) (hj : j < 720) : ∀ k i q (C : Nat → Int32), i + k = n → k < q → (∀ x, x < i → C (6 * j + x) = order x) →
    ∃ C', fX9_findRounds_L153 K (nI n) (nI j) order q (nI i) C = some C' ∧ (∀ x, x < n → C' (6 * j + x) = order x) ∧ ∀ y, (y < 6 * j ∨ 6 * j + 6 ≤ y) → C' y = C y := by
  intro k
  induction k with
  | zero =>
    intro i q C hi hq hC
    obtain ⟨q, rfl⟩ : ∃ m, q = m + 1 := ⟨q - 1, by omega⟩
    have : i = n := by omega
    subst this
    exact ⟨C, by rw [fX9_findRounds_L153, if_pos (nI_le (Nat.le_refl _) (by omega))], hC, fun _ _ => rfl⟩
  | succ k ih =>
    intro i q C hi hq hC
    obtain ⟨q, rfl⟩ : ∃ m, q = m + 1 := ⟨q - 1, by omega⟩
    have e6 : (6 : Int32) * nI j + nI i = nI (6 * j + i) := by rw [show (6 : Int32) = nI 6 from rfl, pk_mul, nI_add]
    rw [fX9_findRounds_L153, if_neg (nI_ge (by omega) (by omega)), p_gd6 (show i < 6 by omega), e6, p_gd (show 6 * j + i < 4320 by omega) (by omega)]
    simp only [nm, nI_1, nI_clamp (show i < 2 ^ 31 by omega), nI_clamp (show 6 * j + i < 2 ^ 31 by omega)]
    obtain ⟨C', e1, e2, e3⟩ := ih (i + 1) q (upd C (6 * j + i) (order i)) (by omega) (by omega) (fun x hx => by
      by_cases hxi : x = i
      · subst hxi; rw [q_updS]
      · rw [q_updN (by omega)]; exact hC x (by omega))
    exact ⟨C', e1, e2, fun y hy => by rw [e3 y hy, q_updN (by omega)]⟩
