/-! the next order: the class's and the reference's go alike, over rows that are alike on the first n places -/
def agr (n : Nat) (T M : Nat → Int32) : Prop := ∀ k, k < n → T k = M k
theorem x_pm (c : Nat) : nI c + (-1) = nI c - 1 := (Int32.sub_eq_add_neg _ _).symm
theorem x_piv {K n : Nat} {T M : Nat → Int32} (hn : n ≤ 6) (hA : agr n T M) : ∀ c f f', c < n → c < f → c < f' →
    ∃ c', c' ≤ c ∧ fX4_turnToNext_L7 K T f (nI c - 1) = some (nI c' - 1) ∧ fX9_nextOrder_L7 K M f' (nI c - 1) = some (nI c' - 1) ∧ ∀ i, c' = i + 1 → T i ≤ T (i + 1) := by
  intro c
  induction c with
  | zero =>
    intro f f' h1 h2 h3
    obtain ⟨f, rfl⟩ : ∃ m, f = m + 1 := ⟨f - 1, by omega⟩
    obtain ⟨f', rfl⟩ : ∃ m, f' = m + 1 := ⟨f' - 1, by omega⟩
    refine ⟨0, Nat.le_refl _, ?_, ?_, fun i h => absurd h (by omega)⟩
    · rw [fX4_turnToNext_L7, if_pos (by decide)]
    · rw [fX9_nextOrder_L7, if_pos (by decide)]
  | succ c ih =>
    intro f f' h1 h2 h3
    obtain ⟨f, rfl⟩ : ∃ m, f = m + 1 := ⟨f - 1, by omega⟩
    obtain ⟨f', rfl⟩ : ∃ m, f' = m + 1 := ⟨f' - 1, by omega⟩
    rw [nI_pred, fX4_turnToNext_L7, fX9_nextOrder_L7, if_neg (nI_pos (by omega)), if_neg (nI_pos (by omega)), nI_1, q_at (show c < 6 by omega) (by omega), bd1_eq, q_at (show c + 1 < 6 by omega) (by omega), bd1_eq, gd_pos (nI_in (show c < 6 by omega) (by omega)), gd_pos (nI_in (show c + 1 < 6 by omega) (by omega)), nI_clamp (show c < 2 ^ 31 by omega), nI_clamp (show c + 1 < 2 ^ 31 by omega), ← hA c (by omega), ← hA (c + 1) (by omega)]
    by_cases hT : T c ≤ T (c + 1)
    · rw [if_pos hT, if_pos hT]
      refine ⟨c + 1, Nat.le_refl _, by rw [nI_pred], by rw [nI_pred], fun i h => ?_⟩
      have : c = i := by omega
      subst this
      exact hT
    · rw [if_neg hT, if_neg hT]
      simp only [nm, x_pm]
      obtain ⟨c', g1, g2, g3, g4⟩ := ih f f' (by omega) (by omega) (by omega)
      exact ⟨c', by omega, g2, g3, g4⟩
theorem x_suc {K n i : Nat} {T M : Nat → Int32} (hn : n ≤ 6) (hA : agr n T M) (hp : T i ≤ T (i + 1)) : ∀ d f f', i + 1 + d < n → d < f → d < f' →
    ∃ j, i + 1 ≤ j ∧ j < n ∧ fX4_turnToNext_L51 K (nI i) T f (nI (i + 1 + d)) = some (nI j) ∧ fX9_nextOrder_L47 K (nI i) M f' (nI (i + 1 + d)) = some (nI j) := by
  intro d
  induction d with
  | zero =>
    intro f f' h1 h2 h3
    obtain ⟨f, rfl⟩ : ∃ m, f = m + 1 := ⟨f - 1, by omega⟩
    obtain ⟨f', rfl⟩ : ∃ m, f' = m + 1 := ⟨f' - 1, by omega⟩
    refine ⟨i + 1, Nat.le_refl _, by omega, ?_, ?_⟩
    · rw [fX4_turnToNext_L51, if_neg (nI_ge (show i < i + 1 + 0 by omega) (by omega)), Nat.add_zero, q_at (show i + 1 < 6 by omega) (by omega), bd1_eq, q_at (show i < 6 by omega) (by omega), bd1_eq, if_pos hp]
    · rw [fX9_nextOrder_L47, Nat.add_zero, gd_pos (nI_in (show i + 1 < 6 by omega) (by omega)), gd_pos (nI_in (show i < 6 by omega) (by omega)), nI_clamp (show i < 2 ^ 31 by omega), nI_clamp (show i + 1 < 2 ^ 31 by omega), ← hA i (by omega), ← hA (i + 1) (by omega), if_pos hp]
  | succ d ih =>
    intro f f' h1 h2 h3
    obtain ⟨f, rfl⟩ : ∃ m, f = m + 1 := ⟨f - 1, by omega⟩
    obtain ⟨f', rfl⟩ : ∃ m, f' = m + 1 := ⟨f' - 1, by omega⟩
    rw [fX4_turnToNext_L51, if_neg (nI_ge (show i < i + 1 + (d + 1) by omega) (by omega)), q_at (show i + 1 + (d + 1) < 6 by omega) (by omega), bd1_eq, q_at (show i < 6 by omega) (by omega), bd1_eq, fX9_nextOrder_L47, gd_pos (nI_in (show i + 1 + (d + 1) < 6 by omega) (by omega)), gd_pos (nI_in (show i < 6 by omega) (by omega)), nI_clamp (show i < 2 ^ 31 by omega), nI_clamp (show i + 1 + (d + 1) < 2 ^ 31 by omega), ← hA i (by omega), ← hA (i + 1 + (d + 1)) (by omega)]
    by_cases hT : T i ≤ T (i + 1 + (d + 1))
    · rw [if_pos hT, if_pos hT]
      exact ⟨i + 1 + (d + 1), by omega, by omega, rfl, rfl⟩
    · rw [if_neg hT, if_neg hT]
      simp only [nm, x_pm]
      rw [show i + 1 + (d + 1) = (i + 1 + d) + 1 from rfl, nI_pred]
      exact ih f f' (by omega) (by omega) (by omega)
def swp (T : Nat → Int32) (i j : Nat) : Nat → Int32 := upd (upd T i (T j)) j (T i)
theorem x_swap {K i j : Nat} {T : Nat → Int32} (hi : i < 6) (hj : j < 6) : fX4_swap K (nI i) (nI j) T = some (swp T i j) := by
  unfold fX4_swap
  rw [q_at hi (by omega), bd1_eq, q_at hj (by omega), bd1_eq, q_put hi (by omega), bd1_eq, q_put hj (by omega)]
  rfl
theorem x_trades {K i j : Nat} {T : Nat → Int32} (hi : i < 6) (hj : j < 6) : fX9_trades K (nI i) (nI j) T = some (swp T i j) := by
  unfold fX9_trades
  simp only [nm, nI_clamp (show i < 2 ^ 31 by omega), nI_clamp (show j < 2 ^ 31 by omega), q_gdc hi (show 6 < 2 ^ 31 by omega), q_gdc hj (show 6 < 2 ^ 31 by omega)]
  rfl
theorem x_agr {n i j : Nat} {T M : Nat → Int32} (hi : i < n) (hj : j < n) (h : agr n T M) : agr n (swp T i j) (swp M i j) := by
  intro k hk
  unfold swp upd
  rw [h i hi, h j hj, h k hk]
theorem x_rev {K n : Nat} (hn : n ≤ 6) : ∀ d a b f f' (T M : Nat → Int32), a ≤ 7 → b ≤ a + d → b < n → d < f → d < f' → agr n T M →
    ∃ T' M', fX4_turnToNext_L99 K f (nI a) (nI b) T = some T' ∧ fX9_nextOrder_L86 K f' (nI a) (nI b) M = some M' ∧ agr n T' M' := by
  intro d
  induction d with
  | zero =>
    intro a b f f' T M ha h1 hb h2 h3 hA
    obtain ⟨f, rfl⟩ : ∃ m, f = m + 1 := ⟨f - 1, by omega⟩
    obtain ⟨f', rfl⟩ : ∃ m, f' = m + 1 := ⟨f' - 1, by omega⟩
    refine ⟨T, M, ?_, ?_, hA⟩
    · rw [fX4_turnToNext_L99, if_pos (nI_le (by omega) (by omega))]
    · rw [fX9_nextOrder_L86, if_pos (nI_le (by omega) (by omega))]
  | succ d ih =>
    intro a b f f' T M ha h1 hb h2 h3 hA
    obtain ⟨f, rfl⟩ : ∃ m, f = m + 1 := ⟨f - 1, by omega⟩
    obtain ⟨f', rfl⟩ : ∃ m, f' = m + 1 := ⟨f' - 1, by omega⟩
    by_cases hab : b ≤ a
    · refine ⟨T, M, ?_, ?_, hA⟩
      · rw [fX4_turnToNext_L99, if_pos (nI_le hab (by omega))]
      · rw [fX9_nextOrder_L86, if_pos (nI_le hab (by omega))]
    · obtain ⟨b, rfl⟩ : ∃ m, b = m + 1 := ⟨b - 1, by omega⟩
      rw [fX4_turnToNext_L99, if_neg (nI_ge (by omega) (by omega)), x_swap (by omega) (by omega), bd1_eq, fX9_nextOrder_L86, if_neg (nI_ge (by omega) (by omega)), x_trades (by omega) (by omega), bd1_eq]
      simp only [nm, nI_1, x_pm, nI_pred]
      exact ih (a + 1) b f f' _ _ (by omega) (by omega) (by omega) (by omega) (by omega) (x_agr (by omega) (by omega) hA)
/-- the next order, the class's and the reference's -/
theorem x_next {K n : Nat} {T M : Nat → Int32} (hK : 1000 ≤ K) (hn : n ≤ 6) (hA : agr n T M) :
    ∃ (b : Bool) (T' M' : Nat → Int32), fX4_turnToNext K (nI n) T = some (bI b, T') ∧ fX9_nextOrder K (nI n) M = some (bI b, M') ∧ agr n T' M' := by
  unfold fX4_turnToNext fX9_nextOrder
  simp only [nm]
  by_cases h0 : n = 0
  · subst h0
    obtain ⟨k, rfl⟩ : ∃ m, K = m + 1 := ⟨K - 1, by omega⟩
    refine ⟨false, T, M, ?_, ?_, hA⟩
    · rw [fX4_turnToNext_L7, if_pos (by decide), bd1_eq, if_neg (by decide)]; rfl
    · rw [fX9_nextOrder_L7, if_pos (by decide), bd1_eq, if_neg (by decide)]; rfl
  · obtain ⟨n, rfl⟩ : ∃ m, n = m + 1 := ⟨n - 1, by omega⟩
    have e2 : nI (n + 1) - 2 = nI n - 1 := by
      rw [← nI_pred n, Int32.sub_eq_add_neg, Int32.sub_eq_add_neg, Int32.sub_eq_add_neg, Int32.add_assoc]
      rfl
    obtain ⟨c, hc, e3, e4, hp⟩ := x_piv (K := K) hn hA n K K (by omega) (by omega) (by omega)
    rw [e2, e3, e4, bd1_eq, bd1_eq]
    cases c with
    | zero =>
      refine ⟨false, T, M, ?_, ?_, hA⟩
      · rw [if_neg (by decide)]; rfl
      · rw [if_neg (by decide)]; rfl
    | succ i =>
      have hp' := hp i rfl
      rw [nI_pred, if_pos (nI_pos' (by omega)), if_pos (nI_pos' (by omega)), nI_pred]
      obtain ⟨j, hj, hj2, e5, e6⟩ := x_suc (K := K) (d := n - (i + 1)) hn hA hp' K K (by omega) (by omega) (by omega)
      rw [show i + 1 + (n - (i + 1)) = n by omega] at e5 e6
      rw [e5, e6, bd1_eq, bd1_eq, x_swap (by omega) (by omega), x_trades (by omega) (by omega), bd1_eq, bd1_eq, nI_1]
      obtain ⟨T', M', e7, e8, hA'⟩ := x_rev (K := K) hn 6 (i + 1) n K K _ _ (by omega) (by omega) (by omega) (by omega) (by omega) (x_agr (show i < n + 1 by omega) hj2 hA)
      rw [e7, e8, bd1_eq, bd1_eq]
      exact ⟨true, T', M', rfl, rfl, hA'⟩
