theorem sub_le {a b : Nat} (h : subm a b) : a ≤ b := by
  have : a &&& b = a := Nat.eq_of_testBit_eq (fun i => by
    rw [Nat.testBit_and]
    cases ha : a.testBit i with
    | false => rfl
    | true => rw [h i ha]; rfl)
  rw [← this]; exact Nat.and_le_right
theorem sub_and {a b : Nat} : b &&& a = a ↔ subm a b := by
  constructor
  · intro h i hi
    have := congrArg (fun z => z.testBit i) h
    simp only [Nat.testBit_and, hi, Bool.and_true] at this
    exact this
  · intro h
    apply Nat.eq_of_testBit_eq
    intro i
    rw [Nat.testBit_and]
    cases ha : a.testBit i with
    | false => simp
    | true => rw [h i ha]; rfl
theorem cnt_mono {p q : Nat → Bool} : ∀ n, (∀ i, i < n → p i = true → q i = true) → cntI p n ≤ cntI q n ∧ (cntI p n = cntI q n → ∀ i, i < n → p i = q i)
  | 0 => fun _ => ⟨Nat.le_refl _, fun _ i hi => by omega⟩
  | n + 1 => fun h => by
    obtain ⟨h1, h2⟩ := cnt_mono (p := p) (q := q) n (fun i hi => h i (by omega))
    have hn := h n (by omega)
    rw [cntI, cntI]
    cases hp : p n with
    | true =>
      rw [hn hp]
      simp only [if_true]
      refine ⟨by omega, fun e i hi => ?_⟩
      by_cases hin : i = n
      · subst hin; rw [hp, hn hp]
      · exact h2 (by omega) i (by omega)
    | false =>
      cases hq : q n with
      | true =>
        simp only [if_true, Bool.false_eq_true, if_false]
        exact ⟨by omega, fun e => by omega⟩
      | false =>
        simp only [Bool.false_eq_true, if_false]
        refine ⟨by omega, fun e i hi => ?_⟩
        by_cases hin : i = n
        · subst hin; rw [hp, hq]
        · exact h2 (by omega) i (by omega)
theorem bc_sub {k m : Nat} (hm : m < 512) (h : subm k m) : bc k ≤ bc m ∧ (bc k = bc m → k = m) := by
  obtain ⟨h1, h2⟩ := cnt_mono (p := fun i => k.testBit i) (q := fun i => m.testBit i) 9 (fun i _ hi => h i hi)
  refine ⟨h1, fun e => Nat.eq_of_testBit_eq (fun i => ?_)⟩
  by_cases hi : i < 9
  · exact h2 e i hi
  · have hkm := sub_le h
    have h9 : (512 : Nat) ≤ 2 ^ i := Nat.pow_le_pow_right (n := 2) (i := 9) (by omega) (by omega)
    rw [Nat.testBit_lt_two_pow (by omega), Nat.testBit_lt_two_pow (by omega)]
theorem g_keptOne {K x : Nat} {P : Nat → Bool} {KS : Nat → Int32} (hK : 1000 ≤ K) (hP : ∀ k, k < 512 → KS k = bI (P k)) (hx : x < 512) : ∃ b, fX6_isKeptByOne K (nI x) KS = some (bI b) ∧ (b = true ↔ ∃ k, k < 512 ∧ P k = true ∧ subm x k) := by
  have key : ∀ d i q, i + d = 512 → x ≤ i → d < q → (∀ k, x ≤ k → k < i → P k = true → ¬ subm x k) → ∃ b, bs0 (fX6_isKeptByOne_L2 K (nI x) KS q (nI i)) (some 0) = some (bI b) ∧ (b = true ↔ ∃ k, k < 512 ∧ P k = true ∧ subm x k) := by
    intro d
    induction d with
    | zero =>
      intro i q hi hxi hq hall
      obtain ⟨q, rfl⟩ : ∃ y, q = y + 1 := ⟨q - 1, by omega⟩
      rw [fX6_isKeptByOne_L2, if_neg (nI_pos (by omega)), if_pos (nI_le (by omega) (by omega))]
      refine ⟨false, rfl, ⟨fun z => (by cases z), fun ⟨k, hk, hp, hs⟩ => ?_⟩⟩
      exact absurd hs (hall k (sub_le hs) (by omega) hp)
    | succ d ih =>
      intro i q hi hxi hq hall
      obtain ⟨q, rfl⟩ : ∃ y, q = y + 1 := ⟨q - 1, by omega⟩
      rw [fX6_isKeptByOne_L2, if_neg (nI_pos (by omega)), if_neg (nI_ge (show i < 512 by omega) (by omega)), p_gd (show i < 512 by omega) (by omega), nI_clamp (by omega), hP i (by omega)]
      simp only [nm, nI_1]
      cases hp : P i with
      | false =>
        rw [bI_f, if_neg (show ¬ (0 : Int32) = 1 by decide)]
        exact ih (i + 1) q (by omega) (by omega) (by omega) (fun k h1 h2 h3 => by
          by_cases hki : k = i
          · subst hki; rw [hp] at h3; cases h3
          · exact hall k h1 (by omega) h3)
      | true =>
        rw [bI_t, if_pos rfl]
        by_cases hs : subm x i
        · rw [if_pos (show (nI x &&& (nI i ^^^ (-1)) : Int32) = 0 by rw [q_nsub (by omega)]; exact hs)]
          exact ⟨true, rfl, fun _ => ⟨i, by omega, hp, hs⟩, fun _ => rfl⟩
        · rw [if_neg (show ¬ (nI x &&& (nI i ^^^ (-1)) : Int32) = 0 by rw [q_nsub (by omega)]; exact hs)]
          exact ih (i + 1) q (by omega) (by omega) (by omega) (fun k h1 h2 h3 => by
            by_cases hki : k = i
            · subst hki; exact hs
            · exact hall k h1 (by omega) h3)
  obtain ⟨b, e, hb⟩ := key (512 - x) x K (by omega) (Nat.le_refl _) (by omega) (fun k h1 h2 => by omega)
  exact ⟨b, e, hb⟩
theorem m_keptSet {K x n : Nat} {kp : Nat → Nat} {keptBy : Nat → Int32} (hK : 1000 ≤ K) (hn : n ≤ 720) (hk : ∀ j, j < n → keptBy j = nI (kp j) ∧ kp j < 512) (hx : x < 512) : ∃ b, fX9_isKeptSet K (nI x) (nI n) keptBy = some (bI b) ∧ (b = true ↔ ∃ j, j < n ∧ subm x (kp j)) := by
  have key : ∀ d i q, i + d = n → d < q → (∀ j, j < i → ¬ subm x (kp j)) → ∃ b, bs0 (fX9_isKeptSet_L2 K (nI x) (nI n) keptBy q (nI i)) (some 0) = some (bI b) ∧ (b = true ↔ ∃ j, j < n ∧ subm x (kp j)) := by
    intro d
    induction d with
    | zero =>
      intro i q hi hq hall
      obtain ⟨q, rfl⟩ : ∃ y, q = y + 1 := ⟨q - 1, by omega⟩
      rw [fX9_isKeptSet_L2, if_pos (nI_le (by omega) (by omega))]
      exact ⟨false, rfl, fun z => (by cases z), fun ⟨j, hj, hs⟩ => absurd hs (hall j (by omega))⟩
    | succ d ih =>
      intro i q hi hq hall
      obtain ⟨q, rfl⟩ : ∃ y, q = y + 1 := ⟨q - 1, by omega⟩
      obtain ⟨k1, k2⟩ := hk i (by omega)
      have hle : kp i &&& x ≤ x := Nat.and_le_right
      rw [fX9_isKeptSet_L2, if_neg (nI_ge (show i < n by omega) (by omega)), p_gd (show i < 720 by omega) (by omega), nI_clamp (by omega), k1, q_and]
      simp only [nm, nI_1]
      by_cases hs : subm x (kp i)
      · rw [if_pos (congrArg nI (sub_and.mpr hs))]
        exact ⟨true, rfl, fun _ => ⟨i, by omega, hs⟩, fun _ => rfl⟩
      · rw [if_neg (fun z => hs (sub_and.mp ((nI_eq (by omega) (by omega)).mp z)))]
        exact ih (i + 1) q (by omega) (by omega) (fun j hj => by
          by_cases hji : j = i
          · subst hji; exact hs
          · exact hall j (by omega))
  exact key n 0 K (by omega) (by omega) (fun j hj => by omega)
/-- the first of the smallest -/
def LeS (P : Nat → Prop) (r : Nat) : Prop := P r ∧ ∀ k, P k → bc r < bc k ∨ bc r = bc k ∧ r ≤ k
theorem le_uni {P : Nat → Prop} {r m : Nat} (h1 : LeS P r) (h2 : LeS P m) : r = m := by
  have a := h1.2 m h2.1
  have b := h2.2 r h1.1
  omega
theorem g_smallest {K m : Nat} {P : Nat → Bool} {KS : Nat → Int32} (hK : 1000 ≤ K) (hP : ∀ k, k < 512 → KS k = bI (P k)) (hm : m < 512) (hmU : ¬ ∃ k, k < 512 ∧ P k = true ∧ subm m k) :
    ∃ r, fX6_smallestNeverKept K (nI m) KS = some (nI r) ∧ LeS (fun x => subm x m ∧ ¬ ∃ k, k < 512 ∧ P k = true ∧ subm x k) r := by
  have key : ∀ d i q r, i + d = m → d < q → (subm r m ∧ ¬ ∃ k, k < 512 ∧ P k = true ∧ subm r k) → (∀ x, x < i ∨ x = m → (subm x m ∧ ¬ ∃ k, k < 512 ∧ P k = true ∧ subm x k) → bc r < bc x ∨ bc r = bc x ∧ r ≤ x) →
      ∃ r', fX6_smallestNeverKept_L7 K (nI m) KS q (nI r) (nI i) = some (nI r') ∧ LeS (fun x => subm x m ∧ ¬ ∃ k, k < 512 ∧ P k = true ∧ subm x k) r' := by
    intro d
    induction d with
    | zero =>
      intro i q r hi hq hr hall
      obtain ⟨q, rfl⟩ : ∃ y, q = y + 1 := ⟨q - 1, by omega⟩
      rw [fX6_smallestNeverKept_L7, if_pos (nI_le (by omega) (by omega))]
      exact ⟨r, rfl, hr, fun k hk => hall k (by have := sub_le hk.1; omega) hk⟩
    | succ d ih =>
      intro i q r hi hq hr hall
      obtain ⟨q, rfl⟩ : ∃ y, q = y + 1 := ⟨q - 1, by omega⟩
      have hrm := sub_le hr.1
      have hb1 := bc_le i
      have hb2 := bc_le r
      rw [fX6_smallestNeverKept_L7, if_neg (nI_ge (show i < m by omega) (by omega)), bc_j K (show i < 512 by omega), bc_j K (show r < 512 by omega), bd1_eq, bd1_eq]
      simp only [nm, nI_1]
      by_cases hs : subm i m
      · rw [if_pos (show (nI i &&& (nI m ^^^ (-1)) : Int32) = 0 by rw [q_nsub (by omega)]; exact hs), bd1_eq, if_neg q_n10]
        by_cases hle : bc r ≤ bc i
        · rw [if_pos (nI_le hle (by omega)), bd1_eq]
          refine ih (i + 1) q r (by omega) (by omega) hr (fun x hx hpx => ?_)
          by_cases hxi : x = i
          · subst hxi
            by_cases he : bc r = bc x
            · by_cases hrm2 : r ≤ x
              · exact Or.inr ⟨he, hrm2⟩
              · exfalso
                -- r is m or less than i
                have hrr : r < x ∨ r = m := by
                  by_cases h1 : r < x
                  · exact Or.inl h1
                  · sorry
                sorry
            · exact Or.inl (by omega)
          · exact hall x (by omega) hpx
        · sorry
      · sorry
  sorry
