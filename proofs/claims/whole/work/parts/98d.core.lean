theorem sub_le {a b : Nat} (h : subm a b) : a ≤ b := by
  have : a &&& b = a := Nat.eq_of_testBit_eq (fun i => by
    rw [Nat.testBit_and]
    cases ha : a.testBit i with
    | false => rfl
    | true => rw [h i ha]; rfl)
  rw [← this]; exact Nat.and_le_right
theorem sub_and {a b : Nat} : b &&& a = a ↔ subm a b := by
  constructor
  · intro h i hi
    have := congrArg (fun z => z.testBit i) h
    simp only [Nat.testBit_and, hi, Bool.and_true] at this
    exact this
  · intro h
    apply Nat.eq_of_testBit_eq
    intro i
    rw [Nat.testBit_and]
    cases ha : a.testBit i with
    | false => simp
    | true => rw [h i ha]; rfl
theorem cnt_mono {p q : Nat → Bool} : ∀ n, (∀ i, i < n → p i = true → q i = true) → cntI p n ≤ cntI q n ∧ (cntI p n = cntI q n → ∀ i, i < n → p i = q i)
  | 0 => fun _ => ⟨Nat.le_refl _, fun _ i hi => by omega⟩
  | n + 1 => fun h => by
    obtain ⟨h1, h2⟩ := cnt_mono (p := p) (q := q) n (fun i hi => h i (by omega))
    have hn := h n (by omega)
    rw [cntI, cntI]
    cases hp : p n with
    | true =>
      rw [hn hp]
      simp only [if_true]
      refine ⟨by omega, fun e i hi => ?_⟩
      by_cases hin : i = n
      · subst hin; rw [hp, hn hp]
      · exact h2 (by omega) i (by omega)
    | false =>
      cases hq : q n with
      | true =>
        simp only [if_true, Bool.false_eq_true, if_false]
        exact ⟨by omega, fun e => by omega⟩
      | false =>
        simp only [Bool.false_eq_true, if_false]
        refine ⟨by omega, fun e i hi => ?_⟩
        by_cases hin : i = n
        · subst hin; rw [hp, hq]
        · exact h2 (by omega) i (by omega)
theorem bc_sub {k m : Nat} (hm : m < 512) (h : subm k m) : bc k ≤ bc m ∧ (bc k = bc m → k = m) := by
  obtain ⟨h1, h2⟩ := cnt_mono (p := fun i => k.testBit i) (q := fun i => m.testBit i) 9 (fun i _ hi => h i hi)
  refine ⟨h1, fun e => Nat.eq_of_testBit_eq (fun i => ?_)⟩
  by_cases hi : i < 9
  · exact h2 e i hi
  · have hkm := sub_le h
    have h9 : (512 : Nat) ≤ 2 ^ i := Nat.pow_le_pow_right (n := 2) (i := 9) (by omega) (by omega)
    rw [Nat.testBit_lt_two_pow (by omega), Nat.testBit_lt_two_pow (by omega)]
theorem g_keptOne {K x : Nat} {P : Nat → Bool} {KS : Nat → Int32} (hK : 1000 ≤ K) (hP : ∀ k, k < 512 → KS k = bI (P k)) (hx : x < 512) : ∃ b, fX6_isKeptByOne K (nI x) KS = some (bI b) ∧ (b = true ↔ ∃ k, k < 512 ∧ P k = true ∧ subm x k) := by
  have key : ∀ d i q, i + d = 512 → x ≤ i → d < q → (∀ k, x ≤ k → k < i → P k = true → ¬ subm x k) → ∃ b, bs0 (fX6_isKeptByOne_L2 K (nI x) KS q (nI i)) (some 0) = some (bI b) ∧ (b = true ↔ ∃ k, k < 512 ∧ P k = true ∧ subm x k) := by
    intro d
    induction d with
    | zero =>
      intro i q hi hxi hq hall
      obtain ⟨q, rfl⟩ : ∃ y, q = y + 1 := ⟨q - 1, by omega⟩
      rw [fX6_isKeptByOne_L2, if_neg (nI_pos (by omega)), if_pos (nI_le (by omega) (by omega))]
      refine ⟨false, rfl, ⟨fun z => (by cases z), fun ⟨k, hk, hp, hs⟩ => ?_⟩⟩
      exact absurd hs (hall k (sub_le hs) (by omega) hp)
    | succ d ih =>
      intro i q hi hxi hq hall
      obtain ⟨q, rfl⟩ : ∃ y, q = y + 1 := ⟨q - 1, by omega⟩
      rw [fX6_isKeptByOne_L2, if_neg (nI_pos (by omega)), if_neg (nI_ge (show i < 512 by omega) (by omega)), p_gd (show i < 512 by omega) (by omega), nI_clamp (by omega), hP i (by omega)]
      simp only [nm, nI_1]
      cases hp : P i with
      | false =>
        rw [bI_f, if_neg (show ¬ (0 : Int32) = 1 by decide)]
        exact ih (i + 1) q (by omega) (by omega) (by omega) (fun k h1 h2 h3 => by
          by_cases hki : k = i
          · subst hki; rw [hp] at h3; cases h3
          · exact hall k h1 (by omega) h3)
      | true =>
        rw [bI_t, if_pos rfl]
        by_cases hs : subm x i
        · rw [if_pos (show (nI x &&& (nI i ^^^ (-1)) : Int32) = 0 by rw [q_nsub (by omega)]; exact hs)]
          exact ⟨true, rfl, fun _ => ⟨i, by omega, hp, hs⟩, fun _ => rfl⟩
        · rw [if_neg (show ¬ (nI x &&& (nI i ^^^ (-1)) : Int32) = 0 by rw [q_nsub (by omega)]; exact hs)]
          exact ih (i + 1) q (by omega) (by omega) (by omega) (fun k h1 h2 h3 => by
            by_cases hki : k = i
            · subst hki; exact hs
            · exact hall k h1 (by omega) h3)
  obtain ⟨b, e, hb⟩ := key (512 - x) x K (by omega) (Nat.le_refl _) (by omega) (fun k h1 h2 => by omega)
  exact ⟨b, e, hb⟩
theorem m_keptSet {K x n : Nat} {kp : Nat → Nat} {keptBy : Nat → Int32} (hK : 1000 ≤ K) (hn : n ≤ 720) (hk : ∀ j, j < n → keptBy j = nI (kp j) ∧ kp j < 512) (hx : x < 512) : ∃ b, fX9_isKeptSet K (nI x) (nI n) keptBy = some (bI b) ∧ (b = true ↔ ∃ j, j < n ∧ subm x (kp j)) := by
  have key : ∀ d i q, i + d = n → d < q → (∀ j, j < i → ¬ subm x (kp j)) → ∃ b, bs0 (fX9_isKeptSet_L2 K (nI x) (nI n) keptBy q (nI i)) (some 0) = some (bI b) ∧ (b = true ↔ ∃ j, j < n ∧ subm x (kp j)) := by
    intro d
    induction d with
    | zero =>
      intro i q hi hq hall
      obtain ⟨q, rfl⟩ : ∃ y, q = y + 1 := ⟨q - 1, by omega⟩
      rw [fX9_isKeptSet_L2, if_pos (nI_le (by omega) (by omega))]
      exact ⟨false, rfl, fun z => (by cases z), fun ⟨j, hj, hs⟩ => absurd hs (hall j (by omega))⟩
    | succ d ih =>
      intro i q hi hq hall
      obtain ⟨q, rfl⟩ : ∃ y, q = y + 1 := ⟨q - 1, by omega⟩
      obtain ⟨k1, k2⟩ := hk i (by omega)
      have hle : kp i &&& x ≤ x := Nat.and_le_right
      rw [fX9_isKeptSet_L2, if_neg (nI_ge (show i < n by omega) (by omega)), p_gd (show i < 720 by omega) (by omega), nI_clamp (by omega), k1, q_and]
      simp only [nm, nI_1]
      by_cases hs : subm x (kp i)
      · rw [if_pos (congrArg nI (sub_and.mpr hs))]
        exact ⟨true, rfl, fun _ => ⟨i, by omega, hs⟩, fun _ => rfl⟩
      · rw [if_neg (fun z => hs (sub_and.mp ((nI_eq (by omega) (by omega)).mp z)))]
        exact ih (i + 1) q (by omega) (by omega) (fun j hj => by
          by_cases hji : j = i
          · subst hji; exact hs
          · exact hall j (by omega))
  exact key n 0 K (by omega) (by omega) (fun j hj => by omega)
/-- the first of the smallest -/
def LeS (P : Nat → Prop) (r : Nat) : Prop := P r ∧ ∀ k, P k → bc r < bc k ∨ bc r = bc k ∧ r ≤ k
theorem le_uni {P : Nat → Prop} {r m : Nat} (h1 : LeS P r) (h2 : LeS P m) : r = m := by
  have a := h1.2 m h2.1
  have b := h2.2 r h1.1
  omega
theorem g_smallest {K m : Nat} {P : Nat → Bool} {KS : Nat → Int32} (hK : 1000 ≤ K) (hP : ∀ k, k < 512 → KS k = bI (P k)) (hm : m < 512) (hmU : ¬ ∃ k, k < 512 ∧ P k = true ∧ subm m k) :
    ∃ r, fX6_smallestNeverKept K (nI m) KS = some (nI r) ∧ LeS (fun x => subm x m ∧ ¬ ∃ k, k < 512 ∧ P k = true ∧ subm x k) r := by
  have key : ∀ d i q r, i + d = m → d < q → (r < i ∨ r = m) → (subm r m ∧ ¬ ∃ k, k < 512 ∧ P k = true ∧ subm r k) → (∀ x, x < i ∨ x = m → (subm x m ∧ ¬ ∃ k, k < 512 ∧ P k = true ∧ subm x k) → bc r < bc x ∨ bc r = bc x ∧ r ≤ x) →
      ∃ r', fX6_smallestNeverKept_L7 K (nI m) KS q (nI r) (nI i) = some (nI r') ∧ LeS (fun x => subm x m ∧ ¬ ∃ k, k < 512 ∧ P k = true ∧ subm x k) r' := by
    intro d
    induction d with
    | zero =>
      intro i q r hi hq hri hr hall
      obtain ⟨q, rfl⟩ : ∃ y, q = y + 1 := ⟨q - 1, by omega⟩
      rw [fX6_smallestNeverKept_L7, if_pos (nI_le (by omega) (by omega))]
      exact ⟨r, rfl, hr, fun k hk => hall k (by have := sub_le hk.1; omega) hk⟩
    | succ d ih =>
      intro i q r hi hq hri hr hall
      obtain ⟨q, rfl⟩ : ∃ y, q = y + 1 := ⟨q - 1, by omega⟩
      have hrm := sub_le hr.1
      have hb1 := bc_le i
      have hb2 := bc_le r
      -- i is passed over
      have pass : (subm i m → (∃ k, k < 512 ∧ P k = true ∧ subm i k) ∨ bc r ≤ bc i) → ∃ r', fX6_smallestNeverKept_L7 K (nI m) KS q (nI r) (nI (i + 1)) = some (nI r') ∧ LeS (fun x => subm x m ∧ ¬ ∃ k, k < 512 ∧ P k = true ∧ subm x k) r' := by
        intro hpass
        refine ih (i + 1) q r (by omega) (by omega) (by omega) hr (fun x hx hpx => ?_)
        by_cases hxi : x = i
        · subst hxi
          rcases hpass hpx.1 with h1 | h1
          · exact absurd h1 hpx.2
          · by_cases he : bc r = bc x
            · refine Or.inr ⟨he, ?_⟩
              rcases hri with h2 | h2
              · omega
              · subst h2
                have := (bc_sub hm hpx.1).2 he.symm
                omega
            · exact Or.inl (by omega)
        · exact hall x (by omega) hpx
      rw [fX6_smallestNeverKept_L7, if_neg (nI_ge (show i < m by omega) (by omega)), bc_j K (show i < 512 by omega), bc_j K (show r < 512 by omega), bd1_eq, bd1_eq]
      simp only [nm, nI_1]
      by_cases hs : subm i m
      · rw [if_pos (show (nI i &&& (nI m ^^^ (-1)) : Int32) = 0 by rw [q_nsub (by omega)]; exact hs), bd1_eq, if_neg q_n10]
        by_cases hle : bc r ≤ bc i
        · rw [if_pos (nI_le hle (by omega)), bd1_eq]
          exact pass (fun _ => Or.inr hle)
        · obtain ⟨b, e, hb⟩ := g_keptOne (K := K) (x := i) hK hP (by omega)
          rw [if_neg (Int32.not_le.mpr (nI_lt (by omega) (by omega))), e, bd1_eq]
          cases b with
          | true =>
            rw [bI_t, if_neg q_n10, bd1_eq]
            exact pass (fun _ => Or.inl (hb.mp rfl))
          | false =>
            have hno : ¬ ∃ k, k < 512 ∧ P k = true ∧ subm i k := fun z => by have := hb.mpr z; cases this
            rw [bI_f, if_pos rfl, bd1_eq]
            refine ih (i + 1) q i (by omega) (by omega) (by omega) ⟨hs, hno⟩ (fun x hx hpx => ?_)
            by_cases hxi : x = i
            · subst hxi; exact Or.inr ⟨rfl, Nat.le_refl _⟩
            · have := hall x (by omega) hpx
              omega
      · rw [if_neg (show ¬ (nI i &&& (nI m ^^^ (-1)) : Int32) = 0 by rw [q_nsub (by omega)]; exact hs), bd1_eq, if_pos rfl, bd1_eq]
        exact pass (fun z => absurd z hs)
  obtain ⟨r, e, hr⟩ := key m 0 K m (by omega) (by omega) (Or.inr rfl) ⟨fun _ z => z, hmU⟩ (fun x hx hpx => by
    have : x = m := by omega
    subst this; exact Or.inr ⟨rfl, Nat.le_refl _⟩)
  unfold fX6_smallestNeverKept
  change fX6_smallestNeverKept_L7 _ _ _ _ _ 0 = _ at e
  rw [e, bd1_eq]
  exact ⟨r, rfl, hr⟩
theorem m_core {V m n : Nat} {kp : Nat → Nat} {keptBy : Nat → Int32} (hV : V ≤ 9) (hn : n ≤ 720) (hk : ∀ j, j < n → keptBy j = nI (kp j) ∧ kp j < 512) (hm : m < 512) :
    ((∀ x, x < 2 ^ V → ¬ (subm x m ∧ ¬ ∃ j, j < n ∧ subm x (kp j))) ∧ fX9_core_L15 KK (nI V) (nI m) (nI n) keptBy KK (-4) 0 = some (-4)) ∨
    ∃ r, fX9_core_L15 KK (nI V) (nI m) (nI n) keptBy KK (-4) 0 = some (nI r) ∧ r < 2 ^ V ∧ (subm r m ∧ ¬ ∃ j, j < n ∧ subm r (kp j)) ∧ ∀ x, x < 2 ^ V → (subm x m ∧ ¬ ∃ j, j < n ∧ subm x (kp j)) → bc r < bc x ∨ bc r = bc x ∧ r ≤ x := by
  have h29 : 2 ^ V ≤ 2 ^ 9 := Nat.pow_le_pow_right (by omega) hV
  have h29' : (2 : Nat) ^ 9 = 512 := by decide
  have key : ∀ d i q x1, i + d = 2 ^ V → d < q → (x1 = (-4 : Int32) ∧ (∀ x, x < i → ¬ (subm x m ∧ ¬ ∃ j, j < n ∧ subm x (kp j))) ∨ ∃ r, x1 = nI r ∧ r < i ∧ (subm r m ∧ ¬ ∃ j, j < n ∧ subm r (kp j)) ∧ ∀ x, x < i → (subm x m ∧ ¬ ∃ j, j < n ∧ subm x (kp j)) → bc r < bc x ∨ bc r = bc x ∧ r ≤ x) →
      ((∀ x, x < 2 ^ V → ¬ (subm x m ∧ ¬ ∃ j, j < n ∧ subm x (kp j))) ∧ fX9_core_L15 KK (nI V) (nI m) (nI n) keptBy q x1 (nI i) = some (-4)) ∨
      ∃ r, fX9_core_L15 KK (nI V) (nI m) (nI n) keptBy q x1 (nI i) = some (nI r) ∧ r < 2 ^ V ∧ (subm r m ∧ ¬ ∃ j, j < n ∧ subm r (kp j)) ∧ ∀ x, x < 2 ^ V → (subm x m ∧ ¬ ∃ j, j < n ∧ subm x (kp j)) → bc r < bc x ∨ bc r = bc x ∧ r ≤ x := by
    intro d
    induction d with
    | zero =>
      intro i q x1 hi hq hI
      obtain ⟨q, rfl⟩ : ∃ y, q = y + 1 := ⟨q - 1, by omega⟩
      have hi' : i = 2 ^ V := by omega
      rw [fX9_core_L15, q_shl (by omega), if_pos (nI_le (by omega) (by omega))]
      rcases hI with ⟨rfl, h1⟩ | ⟨r, rfl, h1, h2, h3⟩
      · exact Or.inl ⟨fun x hx => h1 x (by omega), rfl⟩
      · exact Or.inr ⟨r, rfl, by omega, h2, fun x hx => h3 x (by omega)⟩
    | succ d ih =>
      intro i q x1 hi hq hI
      obtain ⟨q, rfl⟩ : ∃ y, q = y + 1 := ⟨q - 1, by omega⟩
      have hb1 := bc_le i
      obtain ⟨b, e, hb⟩ := m_keptSet (K := KK) (x := i) KK_ge hn hk (by omega)
      rw [fX9_core_L15, q_shl (by omega), if_neg (nI_ge (show i < 2 ^ V by omega) (by omega)), bc_9 (show i < 512 by omega), e, bd1_eq, bd1_eq]
      simp only [nm, nI_1]
      by_cases hs : subm i m
      · rw [if_pos (show (nI i &&& (nI m ^^^ (-1)) : Int32) = 0 by rw [q_nsub (by omega)]; exact hs)]
        have hcase : (b = true → ∃ j, j < n ∧ subm i (kp j)) ∧ (b = false → ¬ ∃ j, j < n ∧ subm i (kp j)) := ⟨fun z => hb.mp z, fun z y => by have := hb.mpr y; rw [z] at this; cases this⟩
        rcases hI with ⟨rfl, h1⟩ | ⟨r, rfl, h1, h2, h3⟩
        · rw [if_pos (show (-4 : Int32) < 0 by decide), bs0, bd1_eq, if_neg q_n10]
          cases b with
          | true =>
            rw [bI_t, if_neg q_n10, bd1_eq, bd1_eq]
            exact ih (i + 1) q _ (by omega) (by omega) (Or.inl ⟨rfl, fun x hx => by
              by_cases hxi : x = i
              · subst hxi; exact fun z => z.2 (hcase.1 rfl)
              · exact h1 x (by omega)⟩)
          | false =>
            rw [bI_f, if_pos rfl, bd1_eq, bd1_eq]
            exact ih (i + 1) q _ (by omega) (by omega) (Or.inr ⟨i, rfl, by omega, ⟨hs, hcase.2 rfl⟩, fun x hx hpx => by
              by_cases hxi : x = i
              · subst hxi; exact Or.inr ⟨rfl, Nat.le_refl _⟩
              · exact absurd hpx (h1 x (by omega))⟩)
        · have hb2 := bc_le r
          rw [if_neg (nI_pos (show r < 2 ^ 31 by omega)), bc_9 (show r < 512 by omega), bd1_eq]
          by_cases hle : bc r ≤ bc i
          · rw [if_pos (nI_le hle (by omega)), bs0, bd1_eq, if_pos rfl, bd1_eq]
            exact ih (i + 1) q _ (by omega) (by omega) (Or.inr ⟨r, rfl, by omega, h2, fun x hx hpx => by
              by_cases hxi : x = i
              · subst hxi; omega
              · exact h3 x (by omega) hpx⟩)
          · rw [if_neg (Int32.not_le.mpr (nI_lt (by omega) (by omega))), bs0, bd1_eq, if_neg q_n10]
            cases b with
            | true =>
              rw [bI_t, if_neg q_n10, bd1_eq, bd1_eq]
              exact ih (i + 1) q _ (by omega) (by omega) (Or.inr ⟨r, rfl, by omega, h2, fun x hx hpx => by
                by_cases hxi : x = i
                · subst hxi; exact absurd (hcase.1 rfl) hpx.2
                · exact h3 x (by omega) hpx⟩)
            | false =>
              rw [bI_f, if_pos rfl, bd1_eq, bd1_eq]
              exact ih (i + 1) q _ (by omega) (by omega) (Or.inr ⟨i, rfl, by omega, ⟨hs, hcase.2 rfl⟩, fun x hx hpx => by
                by_cases hxi : x = i
                · subst hxi; exact Or.inr ⟨rfl, Nat.le_refl _⟩
                · have := h3 x (by omega) hpx; omega⟩)
      · rw [if_neg (show ¬ (nI i &&& (nI m ^^^ (-1)) : Int32) = 0 by rw [q_nsub (by omega)]; exact hs), bd1_eq, if_pos rfl, bd1_eq]
        refine ih (i + 1) q _ (by omega) (by omega) ?_
        rcases hI with ⟨rfl, h1⟩ | ⟨r, rfl, h1, h2, h3⟩
        · exact Or.inl ⟨rfl, fun x hx => by
            by_cases hxi : x = i
            · subst hxi; exact fun z => hs z.1
            · exact h1 x (by omega)⟩
        · exact Or.inr ⟨r, rfl, by omega, h2, fun x hx hpx => by
            by_cases hxi : x = i
            · subst hxi; exact absurd hpx.1 hs
            · exact h3 x (by omega) hpx⟩
  exact key (2 ^ V) 0 KK (-4) (by omega) (by have := KK_ge; omega) (Or.inl ⟨rfl, fun x hx => by omega⟩)
set_option maxHeartbeats 1000000 in
theorem s_core {X_surveyed X_text_length : Int32} {X_text_letters : (Nat → Int32)} {X_draft_guests X_draft_wishes X_draft_start : Int32} {X_draft_guestKind X_draft_guestFloor X_draft_wishKind X_draft_wishA X_draft_wishB X_draft_wishNames : (Nat → Int32)} {X_reader_next X_slate_guests X_slate_wishes X_slate_start : Int32} {X_slate_guestKind X_slate_guestFloor X_slate_wishKind X_slate_wishA X_slate_wishB X_slate_wishNames : (Nat → Int32)} {X_tonight_here X_tonight_struck : Int32} {X_tonight_floors : (Nat → Int32)} {X_otherNight_here X_otherNight_struck : Int32} {X_otherNight_floors : (Nat → Int32)} {X_undoable_size : Int32} {X_undoable_nights : (Nat → Int64)} {X_kept_size : Int32} {X_kept_nights : (Nat → Int64)} {X_mornings_told : Int32} {X_mornings_ahead X_mornings_behind : (Nat → Int32)} {X_survey_standing X_survey_goodRounds X_survey_soonestEnd X_survey_roundsAsWoken X_survey_round_size X_survey_round_end : Int32} {X_survey_round_order X_survey_round_places X_survey_round_times X_survey_round_waits X_survey_round_wakings X_survey_keptSets X_survey_firstGood X_survey_soonestGood X_survey_earliest X_survey_latest X_survey_behind X_survey_behindAsWoken : (Nat → Int32)} {X_otherSurvey_standing X_otherSurvey_goodRounds X_otherSurvey_soonestEnd X_otherSurvey_roundsAsWoken X_otherSurvey_round_size X_otherSurvey_round_end : Int32} {X_otherSurvey_round_order X_otherSurvey_round_places X_otherSurvey_round_times X_otherSurvey_round_waits X_otherSurvey_round_wakings X_otherSurvey_keptSets X_otherSurvey_firstGood X_otherSurvey_soonestGood X_otherSurvey_earliest X_otherSurvey_latest X_otherSurvey_behind X_otherSurvey_behindAsWoken X_endsWithout : (Nat → Int32)} {M_guests M_wishes M_begins M_acts M_keeps M_wokes M_texted M_at M_readGuests M_readWishes M_readBegins M_here M_stands M_many M_rounds : Int32} {M_kinds M_wishKind M_wishA M_wishB M_st M_was M_kept M_woke M_text M_told M_readKinds M_readFloors M_readWishKind M_readWishA M_readWishB M_come M_keptBy M_endsAt M_order M_time M_place : (Nat → Int32)} (h : Rel X_surveyed X_text_length X_text_letters X_draft_guests X_draft_wishes X_draft_start X_draft_guestKind X_draft_guestFloor X_draft_wishKind X_draft_wishA X_draft_wishB X_draft_wishNames X_reader_next X_slate_guests X_slate_wishes X_slate_start X_slate_guestKind X_slate_guestFloor X_slate_wishKind X_slate_wishA X_slate_wishB X_slate_wishNames X_tonight_here X_tonight_struck X_tonight_floors X_otherNight_here X_otherNight_struck X_otherNight_floors X_undoable_size X_undoable_nights X_kept_size X_kept_nights X_mornings_told X_mornings_ahead X_mornings_behind X_survey_standing X_survey_goodRounds X_survey_soonestEnd X_survey_roundsAsWoken X_survey_round_size X_survey_round_end X_survey_round_order X_survey_round_places X_survey_round_times X_survey_round_waits X_survey_round_wakings X_survey_keptSets X_survey_firstGood X_survey_soonestGood X_survey_earliest X_survey_latest X_survey_behind X_survey_behindAsWoken X_otherSurvey_standing X_otherSurvey_goodRounds X_otherSurvey_soonestEnd X_otherSurvey_roundsAsWoken X_otherSurvey_round_size X_otherSurvey_round_end X_otherSurvey_round_order X_otherSurvey_round_places X_otherSurvey_round_times X_otherSurvey_round_waits X_otherSurvey_round_wakings X_otherSurvey_keptSets X_otherSurvey_firstGood X_otherSurvey_soonestGood X_otherSurvey_earliest X_otherSurvey_latest X_otherSurvey_behind X_otherSurvey_behindAsWoken X_endsWithout M_guests M_wishes M_begins M_acts M_keeps M_wokes M_texted M_at M_readGuests M_readWishes M_readBegins M_here M_stands M_many M_rounds M_kinds M_wishKind M_wishA M_wishB M_st M_was M_kept M_woke M_text M_told M_readKinds M_readFloors M_readWishKind M_readWishA M_readWishB M_come M_keptBy M_endsAt M_order M_time M_place) : ∃ (r : Int32) (X_surveyed' : Int32) (X_survey_standing' : Int32) (X_survey_goodRounds' : Int32) (X_survey_soonestEnd' : Int32) (X_survey_roundsAsWoken' : Int32) (X_survey_keptSets' : (Nat → Int32)) (X_survey_behind' : (Nat → Int32)) (X_survey_behindAsWoken' : (Nat → Int32)) (X_survey_round_size' : Int32) (X_survey_round_end' : Int32) (X_survey_round_order' : (Nat → Int32)) (X_survey_round_waits' : (Nat → Int32)) (X_survey_round_wakings' : (Nat → Int32)) (X_survey_round_places' : (Nat → Int32)) (X_survey_round_times' : (Nat → Int32)) (X_survey_firstGood' : (Nat → Int32)) (X_survey_soonestGood' : (Nat → Int32)) (X_survey_earliest' : (Nat → Int32)) (X_survey_latest' : (Nat → Int32)) (M_here' : Int32) (M_stands' : Int32) (M_many' : Int32) (M_rounds' : Int32) (M_order' : (Nat → Int32)) (M_time' : (Nat → Int32)) (M_place' : (Nat → Int32)) (M_endsAt' : (Nat → Int32)) (M_keptBy' : (Nat → Int32)) (M_come' : (Nat → Int32)), fX8_core KK X_surveyed X_survey_standing X_survey_goodRounds X_survey_soonestEnd X_survey_roundsAsWoken X_survey_keptSets X_survey_behind X_survey_behindAsWoken X_survey_round_size X_survey_round_end X_survey_round_order X_survey_round_waits X_survey_round_wakings X_survey_round_places X_survey_round_times X_survey_firstGood X_survey_soonestGood X_survey_earliest X_survey_latest X_tonight_here X_tonight_struck X_slate_wishes X_slate_start X_slate_wishNames X_slate_wishKind X_slate_wishA X_slate_wishB X_slate_guestKind X_tonight_floors X_mornings_told X_mornings_ahead X_mornings_behind = some (r, X_surveyed', X_survey_standing', X_survey_goodRounds', X_survey_soonestEnd', X_survey_roundsAsWoken', X_survey_keptSets', X_survey_behind', X_survey_behindAsWoken', X_survey_round_size', X_survey_round_end', X_survey_round_order', X_survey_round_waits', X_survey_round_wakings', X_survey_round_places', X_survey_round_times', X_survey_firstGood', X_survey_soonestGood', X_survey_earliest', X_survey_latest') ∧ fX9_core KK M_guests M_wishes M_begins M_here M_stands M_many M_rounds M_st M_wishA M_wishKind M_wishB M_order M_time M_place M_kinds M_endsAt M_keptBy M_come = some (r, M_here', M_stands', M_many', M_rounds', M_order', M_time', M_place', M_endsAt', M_keptBy', M_come') ∧ Rel X_surveyed' X_text_length X_text_letters X_draft_guests X_draft_wishes X_draft_start X_draft_guestKind X_draft_guestFloor X_draft_wishKind X_draft_wishA X_draft_wishB X_draft_wishNames X_reader_next X_slate_guests X_slate_wishes X_slate_start X_slate_guestKind X_slate_guestFloor X_slate_wishKind X_slate_wishA X_slate_wishB X_slate_wishNames X_tonight_here X_tonight_struck X_tonight_floors X_otherNight_here X_otherNight_struck X_otherNight_floors X_undoable_size X_undoable_nights X_kept_size X_kept_nights X_mornings_told X_mornings_ahead X_mornings_behind X_survey_standing' X_survey_goodRounds' X_survey_soonestEnd' X_survey_roundsAsWoken' X_survey_round_size' X_survey_round_end' X_survey_round_order' X_survey_round_places' X_survey_round_times' X_survey_round_waits' X_survey_round_wakings' X_survey_keptSets' X_survey_firstGood' X_survey_soonestGood' X_survey_earliest' X_survey_latest' X_survey_behind' X_survey_behindAsWoken' X_otherSurvey_standing X_otherSurvey_goodRounds X_otherSurvey_soonestEnd X_otherSurvey_roundsAsWoken X_otherSurvey_round_size X_otherSurvey_round_end X_otherSurvey_round_order X_otherSurvey_round_places X_otherSurvey_round_times X_otherSurvey_round_waits X_otherSurvey_round_wakings X_otherSurvey_keptSets X_otherSurvey_firstGood X_otherSurvey_soonestGood X_otherSurvey_earliest X_otherSurvey_latest X_otherSurvey_behind X_otherSurvey_behindAsWoken X_endsWithout M_guests M_wishes M_begins M_acts M_keeps M_wokes M_texted M_at M_readGuests M_readWishes M_readBegins M_here' M_stands' M_many' M_rounds' M_kinds M_wishKind M_wishA M_wishB M_st M_was M_kept M_woke M_text M_told M_readKinds M_readFloors M_readWishKind M_readWishA M_readWishB M_come' M_keptBy' M_endsAt' M_order' M_time' M_place' := by
  obtain ⟨N,V,S,kd,wk,wa,wb,fl,h,s,t,am,bm,hO,hX,hM,hNt,hNx,hNm,hMo,hMx,hMm,hT,hU,hKp,hD,hSv⟩ := h
  obtain ⟨good', soon', woken', size', endI', KS', B', W', order', waits', wak', places', times', FG', SG', E', L', e1, hS1⟩ := g_survey hO hX hNt hNx hMo hMx X_survey_standing X_survey_goodRounds X_survey_soonestEnd X_survey_roundsAsWoken X_survey_round_size X_survey_round_end X_survey_keptSets X_survey_behind X_survey_behindAsWoken X_survey_round_order X_survey_round_waits X_survey_round_wakings X_survey_round_places X_survey_round_times X_survey_firstGood X_survey_soonestGood X_survey_earliest X_survey_latest hSv
  obtain ⟨o2, t2, p2, en2, k2, c2, e2, hF⟩ := find9 hO hM hNt.1 hNt.2.1 hNm.2.1 (fun g hg => ⟨hNm.2.2 g hg, by have := hNt.2.2.1 g hg; omega⟩) M_here M_stands M_many M_rounds M_order M_time M_place M_endsAt M_keptBy M_come
  have h64 : h < 64 := h_64 hNt.1 hO.2.1
  obtain ⟨r1, r2, -⟩ := rds_len h64
  have hV : V ≤ 9 := hO.2.2.1
  have hN6 : N ≤ 6 := hO.2.1
  have hl := mem_len h
  have hn1 := hNx.1
  subst hn1
  have hS0 := hS1.1
  subst hS0
  have hcl : cntI (fun i => decide (kpO V S kd wk wa wb fl (mkb (stB wk wa wb h s) V) (rho h i) = mkb (stB wk wa wb h s) V)) (rds h).length ≤ 720 := Nat.le_trans (cnt_le _ _) r2
  unfold fX8_core fX9_core
  have hmV : mkb (stB wk wa wb h s) V < 2 ^ V := mkb_lt _ _
  have hfr := q_frK hV hF
  have hz8 := hM.2.1
  subst hz8
  have e3 := m_core (V := V) (m := mkb (stB wk wa wb h s) V) (kp := fun j => kpO V S kd wk wa wb fl (mkb (stB wk wa wb h s) V) (rho h j)) hV r2 hfr (q_nm2 hV _)
  rw [e1, bd19_eq, gd_pos (by decide), show (0 : Int32).toNatClampNeg = 0 from rfl, hNm.1, e2, bd10_eq]
  have hsub : ∀ j, subm (kpO V S kd wk wa wb fl (mkb (stB wk wa wb h s) V) (rho h j)) (mkb (stB wk wa wb h s) V) := by
    intro j i hi
    unfold kpO at hi
    rw [mkb_test] at hi
    simp only [Bool.and_eq_true] at hi
    exact hi.2.1
  by_cases hc0 : cntI (fun i => decide (kpO V S kd wk wa wb fl (mkb (stB wk wa wb h s) V) (rho h i) = mkb (stB wk wa wb h s) V)) (rds h).length = 0
  · have hnone : ∀ j, j < (rds h).length → kpO V S kd wk wa wb fl (mkb (stB wk wa wb h s) V) (rho h j) ≠ mkb (stB wk wa wb h s) V := by
      intro j hj he
      have : ∀ n, j < n → 0 < cntI (fun i => decide (kpO V S kd wk wa wb fl (mkb (stB wk wa wb h s) V) (rho h i) = mkb (stB wk wa wb h s) V)) n := by
        intro n
        induction n with
        | zero => intro z; omega
        | succ n ih =>
          intro z
          rw [cntI]
          by_cases hjn : j = n
          · subst hjn; rw [if_pos (decide_eq_true he)]; omega
          · have := ih (by omega); omega
      have := this _ hj
      omega
    have hiff : ∀ x, (∃ k, k < 512 ∧ exI (fun j => kpO V S kd wk wa wb fl (mkb (stB wk wa wb h s) V) (rho h j)) k (rds h).length = true ∧ subm x k) ↔ ∃ j, j < (rds h).length ∧ subm x (kpO V S kd wk wa wb fl (mkb (stB wk wa wb h s) V) (rho h j)) := by
      intro x
      constructor
      · rintro ⟨k, -, hk, hs⟩
        obtain ⟨j, hj, rfl⟩ := (ex_iff _).mp hk
        exact ⟨j, hj, hs⟩
      · rintro ⟨j, hj, hs⟩
        exact ⟨_, (hfr j hj).2, (ex_iff _).mpr ⟨j, hj, rfl⟩, hs⟩
    have hmU : ¬ ∃ j, j < (rds h).length ∧ subm (mkb (stB wk wa wb h s) V) (kpO V S kd wk wa wb fl (mkb (stB wk wa wb h s) V) (rho h j)) := by
      rintro ⟨j, hj, hs⟩
      exact hnone j hj (Nat.le_antisymm (sub_le (hsub j)) (sub_le hs))
    obtain ⟨r, e4, hr⟩ := g_smallest (K := KK) (P := fun k => exI (fun j => kpO V S kd wk wa wb fl (mkb (stB wk wa wb h s) V) (rho h j)) k (rds h).length) KK_ge hS1.2.2.1 (q_nm2 hV (stB wk wa wb h s)) (fun z => hmU ((hiff _).mp z))
    rw [if_pos (show nI (cntI _ _) ≤ 0 by rw [hc0]; decide), e4, bd1_eq]
    rcases e3 with ⟨h1, -⟩ | ⟨r', e5, h1, h2, h3⟩
    · exact absurd ⟨fun _ z => z, hmU⟩ (h1 _ hmV)
    · have hrr : r = r' := le_uni (P := fun x => subm x (mkb (stB wk wa wb h s) V) ∧ ¬ ∃ j, j < (rds h).length ∧ subm x (kpO V S kd wk wa wb fl (mkb (stB wk wa wb h s) V) (rho h j))) ⟨⟨hr.1.1, fun z => hr.1.2 ((hiff _).mpr z)⟩, fun k hk => hr.2 k ⟨hk.1, fun z => hk.2 ((hiff _).mp z)⟩⟩ ⟨h2, fun k hk => h3 k (Nat.lt_of_le_of_lt (sub_le hk.1) hmV) hk⟩
      subst hrr
      rw [e5, bd1_eq]
      exact ⟨_, _, _, _, _, _, _, _, _, _, _, _, _, _, _, _, _, _, _, _, _, _, _, _, _, _, _, _, _, _, rfl, rfl, N,V,S,kd,wk,wa,wb,fl,h,s,t,am,bm,hO,hX,hM,hNt,hNx,hNm,hMo,hMx,hMm,hT,hU,hKp,hD,Or.inr ⟨rfl, rfl, hS1⟩⟩
  · obtain ⟨i, hi, hp⟩ : ∃ i, i < (rds h).length ∧ kpO V S kd wk wa wb fl (mkb (stB wk wa wb h s) V) (rho h i) = mkb (stB wk wa wb h s) V := by
      rcases cnt_two (fun i => decide (kpO V S kd wk wa wb fl (mkb (stB wk wa wb h s) V) (rho h i) = mkb (stB wk wa wb h s) V)) (rds h).length with ⟨c1, -, -, -⟩ | ⟨-, ⟨i, hi, hp, -⟩, -, -⟩
      · exact absurd c1 hc0
      · exact ⟨i, hi, of_decide_eq_true hp⟩
    rw [if_neg (show ¬ nI (cntI (fun i => decide (kpO V S kd wk wa wb fl (mkb (stB wk wa wb h s) V) (rho h i) = mkb (stB wk wa wb h s) V)) (rds h).length) ≤ 0 from nI_nle (by omega) (by omega))]
    rcases e3 with ⟨-, e5⟩ | ⟨r', -, h1, h2, h3⟩
    · rw [e5, bd1_eq]
      exact ⟨_, _, _, _, _, _, _, _, _, _, _, _, _, _, _, _, _, _, _, _, _, _, _, _, _, _, _, _, _, _, rfl, rfl, N,V,S,kd,wk,wa,wb,fl,h,s,t,am,bm,hO,hX,hM,hNt,hNx,hNm,hMo,hMx,hMm,hT,hU,hKp,hD,Or.inr ⟨rfl, rfl, hS1⟩⟩
    · exact absurd ⟨i, hi, by rw [hp]; exact h2.1⟩ h2.2
