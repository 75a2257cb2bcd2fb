theorem cnt_0 {p : Nat → Bool} : ∀ n, cntI p n = 0 → ∀ i, i < n → p i = false
  | 0 => fun _ i hi => absurd hi (by omega)
  | n + 1 => fun h i hi => by
    rw [cntI] at h
    cases hp : p n with
    | true => rw [hp, if_pos rfl] at h; omega
    | false =>
      rw [hp, if_neg (by decide)] at h
      rcases Nat.lt_or_ge i n with q | q
      · exact cnt_0 n (by omega) i q
      · have : i = n := by omega
        subst this
        exact hp
/-! who hangs on whom: the least closed set -/
def hgE (wk : Nat → Nat) (st : Nat → Bool) (w : Nat) : Bool := decide (wk w ≤ 1) && st w
def hgF (wk wa wb : Nat → Nat) (w : Nat) : Nat := if wk w = 0 then wa w else wb w
def hgT (wk wa wb : Nat → Nat) (w : Nat) : Nat := if wk w = 0 then wb w else wa w
def Cls (V : Nat) (e : Nat → Bool) (f t : Nat → Nat) (M : Nat) : Prop := ∀ w, w < V → e w = true → M.testBit (f w) = true → M.testBit (t w) = true
def rbN (e : Nat → Bool) (f t : Nat → Nat) (M : Nat) : Nat → Nat
  | 0 => 0
  | n + 1 => if (e n && M.testBit (f n)) = true then rbN e f t M n ||| 2 ^ t n else rbN e f t M n
def ipN (e : Nat → Bool) (f t : Nat → Nat) (M : Nat) : Nat → Nat
  | 0 => M
  | n + 1 => if (e n && (ipN e f t M n).testBit (f n)) = true then ipN e f t M n ||| 2 ^ t n else ipN e f t M n
def itr (P : Nat → Nat) : Nat → Nat → Nat
  | 0, M => M
  | k + 1, M => P (itr P k M)
theorem tb_or (a t i : Nat) : (a ||| 2 ^ t).testBit i = (a.testBit i || decide (t = i)) := by
  rw [Nat.testBit_or, Nat.testBit_two_pow]
theorem sub_refl (a : Nat) : subm a a := fun _ h => h
theorem sub_eq {a b : Nat} (h1 : subm a b) (h2 : subm b a) : a = b := by
  apply Nat.eq_of_testBit_eq
  intro i
  cases ha : a.testBit i with
  | true => exact (h1 i ha).symm
  | false =>
    cases hb : b.testBit i with
    | false => rfl
    | true => rw [h2 i hb] at ha; cases ha
/-- a pass: it adds, it stays in what is closed, it stops only at what is closed -/
def Pas (N V : Nat) (e : Nat → Bool) (f t : Nat → Nat) (P : Nat → Nat) : Prop := (∀ M, subm M (P M)) ∧ (∀ M C, Cls V e f t C → subm M C → subm (P M) C) ∧ (∀ M, P M = M → Cls V e f t M) ∧ ∀ M, M < 2 ^ N → P M < 2 ^ N
theorem bc_N {M N : Nat} (hN : N ≤ 6) (h : M < 2 ^ N) : bc M ≤ N := by
  unfold bc
  rw [cnt_up (p := fun i => M.testBit i) (n := N) (m := 9) (by omega) (fun b h1 h2 => Nat.testBit_lt_two_pow (Nat.lt_of_lt_of_le h (Nat.pow_le_pow_right (by omega) h1)))]
  exact cnt_le _ _
theorem bc_pos {M g : Nat} (hg : g < 9) (h : M.testBit g = true) : 1 ≤ bc M := by
  rcases Nat.eq_zero_or_pos (bc M) with h0 | h0
  · exfalso
    have h2 := cnt_0 (p := fun i => M.testBit i) 9 h0 g hg
    simp only [h] at h2
    cases h2
  · exact h0
theorem itr_lt {N V : Nat} {e : Nat → Bool} {f t : Nat → Nat} {P : Nat → Nat} (hP : Pas N V e f t P) {M : Nat} (h : M < 2 ^ N) : ∀ k, itr P k M < 2 ^ N
  | 0 => h
  | k + 1 => hP.2.2.2 _ (itr_lt hP h k)
theorem itr_in {N V : Nat} {e : Nat → Bool} {f t : Nat → Nat} {P : Nat → Nat} (hP : Pas N V e f t P) {M C : Nat} (hC : Cls V e f t C) (h : subm M C) : ∀ k, subm (itr P k M) C
  | 0 => h
  | k + 1 => hP.2.1 _ _ hC (itr_in hP hC h k)
theorem itr_up {N V : Nat} {e : Nat → Bool} {f t : Nat → Nat} {P : Nat → Nat} (hP : Pas N V e f t P) {M : Nat} : ∀ k, subm M (itr P k M)
  | 0 => sub_refl M
  | k + 1 => fun i hi => hP.1 _ i (itr_up hP k i hi)
theorem itr_cl {N V : Nat} {e : Nat → Bool} {f t : Nat → Nat} {P : Nat → Nat} (hN : N ≤ 6) (hP : Pas N V e f t P) {M : Nat} (h : M < 2 ^ N) : ∀ k, Cls V e f t (itr P k M) ∨ bc M + k ≤ bc (itr P k M)
  | 0 => Or.inr (Nat.le_refl _)
  | k + 1 => by
    have h64 : 2 ^ N ≤ 2 ^ 6 := Nat.pow_le_pow_right (by omega) hN
    have l1 := itr_lt hP h k
    have l2 := itr_lt hP h (k + 1)
    rcases itr_cl hN hP h k with q | q
    · left
      have : subm (itr P (k + 1) M) (itr P k M) := hP.2.1 _ _ q (sub_refl _)
      rw [sub_eq this (hP.1 _)]
      exact q
    · obtain ⟨b1, b2⟩ := bc_sub (k := itr P k M) (m := itr P (k + 1) M) (by omega) (hP.1 _)
      by_cases hb : bc (itr P k M) = bc (itr P (k + 1) M)
      · left
        have e1 := b2 hb
        rw [← e1]
        exact hP.2.2.1 _ e1.symm
      · right; omega
theorem hg_uni {N V g : Nat} {e : Nat → Bool} {f t : Nat → Nat} {P Q : Nat → Nat} (hN : N ≤ 6) (hP : Pas N V e f t P) (hQ : Pas N V e f t Q) (hg : g < N) : itr P N (2 ^ g) = itr Q 6 (2 ^ g) := by
  have hM : 2 ^ g < 2 ^ N := Nat.pow_lt_pow_right (by omega) hg
  have h1 : 1 ≤ bc (2 ^ g) := bc_pos (g := g) (by omega) (by rw [Nat.testBit_two_pow]; simp)
  have c1 : Cls V e f t (itr P N (2 ^ g)) := by
    rcases itr_cl hN hP hM N with q | q
    · exact q
    · have := bc_N hN (itr_lt hP hM N)
      omega
  have c2 : Cls V e f t (itr Q 6 (2 ^ g)) := by
    rcases itr_cl hN hQ hM 6 with q | q
    · exact q
    · have := bc_N hN (itr_lt hQ hM 6)
      omega
  exact sub_eq (itr_in hP c2 (itr_up hQ 6) N) (itr_in hQ c1 (itr_up hP N) 6)
/-! the class's pass and the model's are passes -/
theorem rb_tb {e : Nat → Bool} {f t : Nat → Nat} {M i : Nat} : ∀ n, ((rbN e f t M n).testBit i = true ↔ ∃ w, w < n ∧ e w = true ∧ M.testBit (f w) = true ∧ t w = i)
  | 0 => by
    rw [rbN, Nat.zero_testBit]
    constructor
    · intro h; cases h
    · rintro ⟨w, h, -⟩; omega
  | n + 1 => by
    have ih := rb_tb (e := e) (f := f) (t := t) (M := M) (i := i) n
    rw [rbN]
    cases hb : (e n && M.testBit (f n)) with
    | false =>
      rw [if_neg (by decide), ih]
      constructor
      · rintro ⟨w, h, r⟩; exact ⟨w, by omega, r⟩
      · rintro ⟨w, h, r1, r2, r3⟩
        rcases Nat.lt_or_ge w n with q | q
        · exact ⟨w, q, r1, r2, r3⟩
        · have : w = n := by omega
          subst this
          rw [r1, r2] at hb
          cases hb
    | true =>
      rw [if_pos rfl, tb_or, Bool.or_eq_true, decide_eq_true_iff, ih]
      rw [Bool.and_eq_true] at hb
      constructor
      · rintro (⟨w, h, r⟩ | h)
        · exact ⟨w, by omega, r⟩
        · exact ⟨n, by omega, hb.1, hb.2, h⟩
      · rintro ⟨w, h, r1, r2, r3⟩
        rcases Nat.lt_or_ge w n with q | q
        · exact Or.inl ⟨w, q, r1, r2, r3⟩
        · have : w = n := by omega
          subst this
          exact Or.inr r3
theorem rb_lt {N V : Nat} {e : Nat → Bool} {f t : Nat → Nat} {M : Nat} (ht : ∀ w, w < V → e w = true → t w < N) : ∀ n, n ≤ V → rbN e f t M n < 2 ^ N
  | 0 => fun _ => by rw [rbN]; exact Nat.two_pow_pos N
  | n + 1 => fun h => by
    have ih := rb_lt (f := f) (M := M) ht n (by omega)
    rw [rbN]
    cases hb : (e n && M.testBit (f n)) with
    | false => rw [if_neg (by decide)]; exact ih
    | true =>
      rw [if_pos rfl]
      rw [Bool.and_eq_true] at hb
      exact Nat.or_lt_two_pow ih (Nat.pow_lt_pow_right (by omega) (ht n (by omega) hb.1))
theorem rb_pas {N V : Nat} {e : Nat → Bool} {f t : Nat → Nat} (ht : ∀ w, w < V → e w = true → t w < N) : Pas N V e f t (fun M => M ||| rbN e f t M V) := by
  refine ⟨fun M i hi => by rw [Nat.testBit_or, hi, Bool.true_or], fun M C hC hs i hi => ?_, fun M hM w hw he hf => ?_, fun M hM => Nat.or_lt_two_pow hM (rb_lt ht V (Nat.le_refl _))⟩
  · rw [Nat.testBit_or, Bool.or_eq_true, rb_tb] at hi
    rcases hi with hi | ⟨w, h1, h2, h3, rfl⟩
    · exact hs i hi
    · exact hC w h1 h2 (hs _ h3)
  · have h1 : (rbN e f t M V).testBit (t w) = true := (rb_tb V).mpr ⟨w, hw, he, hf, rfl⟩
    have h2 : (M ||| rbN e f t M V).testBit (t w) = true := by rw [Nat.testBit_or, h1, Bool.or_true]
    simp only at hM
    rw [hM] at h2
    exact h2
theorem ip_up {e : Nat → Bool} {f t : Nat → Nat} {M : Nat} : ∀ n, subm M (ipN e f t M n)
  | 0 => sub_refl M
  | n + 1 => fun i hi => by
    have ih := ip_up (e := e) (f := f) (t := t) n i hi
    rw [ipN]
    cases hb : (e n && (ipN e f t M n).testBit (f n)) with
    | false => rw [if_neg (by decide)]; exact ih
    | true => rw [if_pos rfl, tb_or, ih, Bool.true_or]
theorem ip_in {V : Nat} {e : Nat → Bool} {f t : Nat → Nat} {M C : Nat} (hC : Cls V e f t C) (hs : subm M C) : ∀ n, n ≤ V → subm (ipN e f t M n) C
  | 0 => fun _ => hs
  | n + 1 => fun hn i hi => by
    have ih := ip_in hC hs n (by omega)
    rw [ipN] at hi
    cases hb : (e n && (ipN e f t M n).testBit (f n)) with
    | false => rw [hb, if_neg (by decide)] at hi; exact ih i hi
    | true =>
      rw [hb, if_pos rfl, tb_or, Bool.or_eq_true, decide_eq_true_iff] at hi
      rw [Bool.and_eq_true] at hb
      rcases hi with hi | rfl
      · exact ih i hi
      · exact hC n (by omega) hb.1 (ih _ hb.2)
theorem ip_lt {N V : Nat} {e : Nat → Bool} {f t : Nat → Nat} {M : Nat} (ht : ∀ w, w < V → e w = true → t w < N) (hM : M < 2 ^ N) : ∀ n, n ≤ V → ipN e f t M n < 2 ^ N
  | 0 => fun _ => hM
  | n + 1 => fun h => by
    have ih := ip_lt (f := f) ht hM n (by omega)
    rw [ipN]
    cases hb : (e n && (ipN e f t M n).testBit (f n)) with
    | false => rw [if_neg (by decide)]; exact ih
    | true =>
      rw [if_pos rfl]
      rw [Bool.and_eq_true] at hb
      exact Nat.or_lt_two_pow ih (Nat.pow_lt_pow_right (by omega) (ht n (by omega) hb.1))
theorem ip_mo {e : Nat → Bool} {f t : Nat → Nat} {M n : Nat} : ∀ k, subm (ipN e f t M n) (ipN e f t M (n + k))
  | 0 => sub_refl _
  | k + 1 => fun i hi => by
    have ih := ip_mo (e := e) (f := f) (t := t) (M := M) (n := n) k i hi
    rw [show n + (k + 1) = (n + k) + 1 by omega, ipN]
    cases hb : (e (n + k) && (ipN e f t M (n + k)).testBit (f (n + k))) with
    | false => rw [if_neg (by decide)]; exact ih
    | true => rw [if_pos rfl, tb_or, ih, Bool.true_or]
theorem ip_pas {N V : Nat} {e : Nat → Bool} {f t : Nat → Nat} (ht : ∀ w, w < V → e w = true → t w < N) : Pas N V e f t (fun M => ipN e f t M V) := by
  refine ⟨fun M => ip_up V, fun M C hC hs => ip_in hC hs V (Nat.le_refl _), fun M hM w hw he hf => ?_, fun M hM => ip_lt ht hM V (Nat.le_refl _)⟩
  have h1 : (ipN e f t M w).testBit (f w) = true := ip_up w _ hf
  have h2 : (ipN e f t M (w + 1)).testBit (t w) = true := by
    rw [ipN, he, h1, Bool.true_and, if_pos rfl, tb_or, decide_eq_true rfl, Bool.or_true]
  have h3 := ip_mo (V - (w + 1)) (t w) h2
  rw [show w + 1 + (V - (w + 1)) = V by omega] at h3
  simp only at hM
  rw [hM] at h3
  exact h3
