/-! PURE ROWS: what the small helpers answer, bits as numbers -/
theorem q_and (a b : Nat) : nI a &&& nI b = nI (a &&& b) := by
  apply Int32.toBitVec_inj.1
  show BitVec.ofNat 32 a &&& BitVec.ofNat 32 b = BitVec.ofNat 32 (a &&& b)
  apply BitVec.eq_of_getLsbD_eq
  intro i hi
  simp [hi]
theorem q_or (a b : Nat) : nI a ||| nI b = nI (a ||| b) := by
  apply Int32.toBitVec_inj.1
  show BitVec.ofNat 32 a ||| BitVec.ofNat 32 b = BitVec.ofNat 32 (a ||| b)
  apply BitVec.eq_of_getLsbD_eq
  intro i hi
  simp [hi]
theorem q_xor (a b : Nat) : nI a ^^^ nI b = nI (a ^^^ b) := by
  apply Int32.toBitVec_inj.1
  show BitVec.ofNat 32 a ^^^ BitVec.ofNat 32 b = BitVec.ofNat 32 (a ^^^ b)
  apply BitVec.eq_of_getLsbD_eq
  intro i hi
  simp [hi]
theorem q_sl : ∀ n, n < 32 → ((nI n &&& 31).toBitVec.smod 32).toNat = n := by decide +kernel
theorem q_shl {w : Nat} (hw : w < 31) : (1 : Int32) <<< (nI w &&& 31) = nI (2 ^ w) := by
  have h := pk_shlN (n := 1) (nI w &&& 31) w (q_sl w (by omega)) (by
    have : 2 ^ w ≤ 2 ^ 30 := Nat.pow_le_pow_right (by omega) (by omega)
    omega)
  rw [Nat.one_mul] at h
  exact h
theorem q_or1 {a w : Nat} (hw : w < 31) : nI a ||| ((1 : Int32) <<< (nI w &&& 31)) = nI (a ||| 2 ^ w) := by rw [q_shl hw, q_or]
theorem q_bit {m i : Nat} (hm : m < 2 ^ 31) (hi : i < 31) : (nI m >>> (nI i &&& 31)) &&& 1 = nI (m / 2 ^ i % 2) := by
  rw [pk_shrN hm _ i (q_sl i (by omega))]
  have h : m / 2 ^ i < 2 ^ 32 := Nat.lt_of_le_of_lt (Nat.div_le_self _ _) (by omega)
  exact pk_andN h 1 (by decide)
theorem q_tb (m i : Nat) : (m / 2 ^ i % 2 = 1) = (m.testBit i = true) := by
  rw [Nat.testBit_eq_decide_div_mod_eq]
  simp
/-- a truth value as the machine has it -/
def bI (b : Bool) : Int32 := if b then 1 else 0
theorem bI_0 (b : Bool) : (bI b = 0) = (b = false) := by cases b <;> simp [bI]
theorem q_hasC {m i : Nat} (hm : m < 2 ^ 31) (hi : i < 31) : ((nI m >>> (nI i &&& 31)) &&& 1 = 1) = (m.testBit i = true) := by
  rw [q_bit hm hi]
  have h2 : m / 2 ^ i % 2 < 2 := Nat.mod_lt _ (by omega)
  have h3 : (nI (m / 2 ^ i % 2) = 1) = (m / 2 ^ i % 2 = 1) := propext (nI_eq (b := 1) (by omega) (by omega))
  rw [h3, q_tb]
theorem q_has {K m i : Nat} (hm : m < 2 ^ 31) (hi : i < 31) : fX8_has K (nI m) (nI i) = some (bI (m.testBit i)) := by
  unfold fX8_has
  simp only [q_hasC hm hi]
  cases m.testBit i <;> rfl
theorem q_has9 {K m i : Nat} (hm : m < 2 ^ 31) (hi : i < 31) : fX9_has K (nI m) (nI i) = some (bI (m.testBit i)) := by
  unfold fX9_has
  simp only [q_hasC hm hi]
  cases m.testBit i <;> rfl
theorem q_at {K n j : Nat} {f : Nat → Int32} (hj : j < n) (hn : n < 2 ^ 31) : fX8_at K n (nI j) f = some (f j) := by
  unfold fX8_at
  rw [if_neg (nI_pos (by omega)), if_neg (nI_ge hj hn), gd_pos (nI_in hj hn), nI_clamp (by omega)]
theorem q_put {K n j : Nat} {f : Nat → Int32} {v : Int32} (hj : j < n) (hn : n < 2 ^ 31) : fX8_put K n (nI j) v f = some (upd f j v) := by
  unfold fX8_put
  rw [if_neg (nI_pos (by omega)), if_neg (nI_ge hj hn), gd_pos (nI_in hj hn)]
  simp only [nm, nI_clamp (show j < 2 ^ 31 by omega)]
theorem q_updS (f : Nat → Int32) (k : Nat) (v : Int32) : upd f k v k = v := by simp [upd]
theorem q_updN {f : Nat → Int32} {k j : Nat} {v : Int32} (h : j ≠ k) : upd f k v j = f j := by simp [upd, h]
/-- a mask out of a test of each place -/
def mkb (p : Nat → Bool) : Nat → Nat
  | 0 => 0
  | n + 1 => mkb p n ||| (if p n then 2 ^ n else 0)
theorem mkb_test (p : Nat → Bool) (n i : Nat) : (mkb p n).testBit i = (decide (i < n) && p i) := by
  induction n with
  | zero => simp [mkb]
  | succ n ih =>
    rw [mkb, Nat.testBit_or, ih]
    by_cases hp : p n = true
    · rw [if_pos hp, Nat.testBit_two_pow]
      by_cases h : n = i
      · subst h; simp [hp]
      · have : (i < n + 1) = (i < n) := by apply propext; omega
        simp [h, this]
    · rw [if_neg hp, Nat.zero_testBit]
      by_cases h : n = i
      · subst h; simp [hp]
      · have : (i < n + 1) = (i < n) := by apply propext; omega
        simp [this]
theorem mkb_lt (p : Nat → Bool) (n : Nat) : mkb p n < 2 ^ n := by
  apply Nat.lt_pow_two_of_testBit
  intro i hi
  rw [mkb_test]
  have : ¬ i < n := by omega
  simp [this]
theorem mkb_ext {p q : Nat → Bool} {n : Nat} (h : ∀ i, i < n → p i = q i) : mkb p n = mkb q n := by
  apply Nat.eq_of_testBit_eq
  intro i
  rw [mkb_test, mkb_test]
  by_cases hi : i < n
  · simp [hi, h i hi]
  · simp [hi]
theorem q_lt9 {m n : Nat} (h : m < 2 ^ n) (hn : n ≤ 9) : m < 2 ^ 31 := Nat.lt_of_lt_of_le h (Nat.pow_le_pow_right (by omega) (by omega))
/-- two loops that begin alike end alike: what a loop answers, by its measure -/
theorem q_fuel {K n : Nat} (h : n < K) : ∃ k, K = n + 1 + k := ⟨K - n - 1, by omega⟩
/-- a &&& not b = 0 : a lies in b -/
def subm (a b : Nat) : Prop := ∀ i, a.testBit i = true → b.testBit i = true
theorem q_m1 : (-1 : Int32) = nI (2 ^ 32 - 1) := by decide
theorem q_nsub {a b : Nat} (ha : a < 2 ^ 31) : (nI a &&& (nI b ^^^ (-1)) = 0) = subm a b := by
  rw [q_m1, q_xor, q_and]
  have hlt : a &&& (b ^^^ (2 ^ 32 - 1)) < 2 ^ 31 := Nat.lt_of_le_of_lt Nat.and_le_left ha
  have h0 : (nI (a &&& (b ^^^ (2 ^ 32 - 1))) = 0) = (a &&& (b ^^^ (2 ^ 32 - 1)) = 0) := propext (nI_eq (b := 0) hlt (by omega))
  rw [h0]
  apply propext
  constructor
  · intro h i hi
    have h2 : (a &&& (b ^^^ (2 ^ 32 - 1))).testBit i = false := by rw [h, Nat.zero_testBit]
    rw [Nat.testBit_and, hi, Bool.true_and, Nat.testBit_xor, Nat.testBit_two_pow_sub_one] at h2
    have hi32 : i < 32 := by
      rcases Nat.lt_or_ge i 32 with q | q
      · exact q
      · have : a < 2 ^ i := Nat.lt_of_lt_of_le ha (Nat.pow_le_pow_right (by omega) (by omega))
        rw [Nat.testBit_lt_two_pow this] at hi
        cases hi
    simpa [hi32] using h2
  · intro h
    apply Nat.eq_of_testBit_eq
    intro i
    rw [Nat.zero_testBit, Nat.testBit_and, Nat.testBit_xor, Nat.testBit_two_pow_sub_one]
    by_cases hi : a.testBit i = true
    · have hi32 : i < 32 := by
        rcases Nat.lt_or_ge i 32 with q | q
        · exact q
        · have : a < 2 ^ i := Nat.lt_of_lt_of_le ha (Nat.pow_le_pow_right (by omega) (by omega))
          rw [Nat.testBit_lt_two_pow this] at hi
          cases hi
      simp [h i hi, hi32]
    · simp [hi]
theorem nI_0' : (0 : Int32) = nI 0 := rfl
theorem nI_1' : (1 : Int32) = nI 1 := rfl
theorem bI_f : bI false = 0 := rfl
theorem bI_t : bI true = 1 := rfl
theorem q_10 : ((1 : Int32) = 0) = False := eq_false (by decide)
theorem q_01 : ((0 : Int32) = 1) = False := eq_false (by decide)
theorem q_gdc {α : Type} {j n : Nat} (hj : j < n) (hn : n < 2 ^ 31) (k : Option α) : gd (¬ ((nI j : Int32) < 0 ∨ n ≤ j)) k = k := by
  have h : ¬ ((nI j : Int32) < 0 ∨ n ≤ j) := fun h => by
    rcases h with h | h
    · exact nI_pos (by omega) h
    · omega
  exact gd_pos h k
