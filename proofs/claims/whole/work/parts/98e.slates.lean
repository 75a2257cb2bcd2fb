/-- some good round that is as was told has a before b -/
def slP (gd wo : Nat → Bool) (o : Nat → List Nat) (a b : Nat) (i : Nat) : Bool := gd i && wo i && decide ((o i).idxOf a < (o i).idxOf b)
def anI (p : Nat → Bool) : Nat → Bool
  | 0 => false
  | n + 1 => anI p n || p n
theorem or_tb (p : Nat → Bool) (x : Nat → Nat) (b : Nat) : ∀ n, (orI p x n).testBit b = anI (fun i => p i && (x i).testBit b) n
  | 0 => by simp [orI, anI]
  | n + 1 => by
    have ih := or_tb p x b n
    rw [orI, anI]
    cases hp : p n with
    | false => simp [ih]
    | true => simp [ih, Nat.testBit_or]
theorem an_ext {p q : Nat → Bool} : ∀ n, (∀ i, i < n → p i = q i) → anI p n = anI q n
  | 0 => fun _ => rfl
  | n + 1 => fun h => by rw [anI, anI, an_ext n (fun i hi => h i (by omega)), h n (by omega)]
/-- the class's bit of behindAsWoken is the same -/
theorem sl_bit {gd wo : Nat → Bool} {o : Nat → List Nat} {a b n : Nat} (ha : a < 6) (hb : b < 6) (hm : ∀ j, j < n → a ∈ o j ∧ b ∈ o j) : (orI (fun i => gd i && wo i) (fun i => aftO (o i) a) n).testBit b = anI (slP gd wo o a b) n := by
  rw [or_tb]
  apply an_ext
  intro i hi
  obtain ⟨h1, h2⟩ := hm i hi
  unfold slP
  rw [aft_tb hb h1 h2]
theorem sl_out {gd wo : Nat → Bool} {o : Nat → List Nat} {a b n : Nat} (hm : ∀ j, j < n → a ∉ o j ∨ b ∉ o j) : (orI (fun i => gd i && wo i) (fun i => aftO (o i) a) n).testBit b = false := by
  rw [or_tb]
  have : ∀ m, m ≤ n → anI (fun i => gd i && wo i && (aftO (o i) a).testBit b) m = false := by
    intro m
    induction m with
    | zero => intro _; rfl
    | succ m ih =>
      intro h
      rw [anI, ih (by omega), Bool.false_or]
      have hx : (aftO (o m) a).testBit b = false := by
        unfold aftO
        rw [mkb_test]
        rcases hm m (by omega) with q | q <;> simp [q]
      simp only [hx, Bool.and_false]
  exact this n (Nat.le_refl _)
theorem cnt_10 (p : Nat → Bool) (n : Nat) : ∀ k, cntI p (n + k) = cntI p n + cntI (fun b => p (n + b)) k
  | 0 => rfl
  | k + 1 => by
    rw [show n + (k + 1) = (n + k) + 1 by omega, cntI, cnt_10 p n k, cntI]
    omega
