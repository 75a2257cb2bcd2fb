/-! what the world says, in numbers: the night, the text, other mornings, the piles, the rounds -/
def NtOK (N V : Nat) (fl : Nat → Nat) (h s : Nat) : Prop := h < 2 ^ N ∧ s < 2 ^ V ∧ (∀ g, g < N → fl g < 10) ∧ ∀ g, g < 6 → fl g < 16
def NtX (fl : Nat → Nat) (h s : Nat) (floors : Nat → Int32) (here struck : Int32) : Prop := here = nI h ∧ struck = nI s ∧ ∀ g, g < 6 → floors g = nI (fl g)
def NtM (N : Nat) (fl : Nat → Nat) (h s : Nat) (st : Nat → Int32) : Prop := st 0 = nI h ∧ st 1 = nI s ∧ ∀ g, g < N → st (2 + g) = nI (fl g)
def TxR (len : Int32) (let_ : Nat → Int32) (len' : Int32) (text : Nat → Int32) : Prop := ∃ (n : Nat) (c : Nat → Nat), n ≤ 200 ∧ len = nI n ∧ len' = nI n ∧ ∀ i, i < n → 32 ≤ c i ∧ c i ≤ 126 ∧ let_ i = nI (c i) ∧ text i = nI (c i)
def MoOK (N t : Nat) (am bm : Nat → Nat) : Prop := t ≤ 6 ∧ ∀ i, i < t → am i < N ∧ bm i < N ∧ am i ≠ bm i
def MoX (t : Nat) (am bm : Nat → Nat) (told : Int32) (ah be : Nat → Int32) : Prop := told = nI t ∧ ∀ i, i < t → ah i = nI (am i) ∧ be i = nI (bm i)
def MoM (t : Nat) (am bm : Nat → Nat) (wokes : Int32) (woke : Nat → Int32) : Prop := wokes = nI t ∧ ∀ i, i < t → woke (2 * i) = nI (am i) ∧ woke (2 * i + 1) = nI (bm i)
/-- a night in one number -/
def pkF (f : Nat → Nat) : Nat → Nat
  | 0 => 0
  | n + 1 => pkF f n * 16 + f n
def pkN (f : Nat → Nat) (h s : Nat) : Nat := pkF f 6 * 32768 + s * 64 + h
def PiR (N V mx : Nat) (size : Int32) (nights : Nat → Int64) (acts : Int32) (was : Nat → Int32) : Prop :=
  ∃ (u : Nat) (hs ss : Nat → Nat) (fs : Nat → Nat → Nat), u ≤ mx ∧ size = nI u ∧ acts = nI u ∧ ∀ i, i < u → NtOK N V (fs i) (hs i) (ss i) ∧ nights i = lN (pkN (fs i) (hs i) (ss i)) ∧ was (8 * i) = nI (hs i) ∧ was (8 * i + 1) = nI (ss i) ∧ ∀ g, g < N → was (8 * i + 2 + g) = nI (fs i g)
/-! rounds -/
def mem (h : Nat) : List Nat := (List.range 6).filter (fun g => h.testBit g)
def prm : Nat → List Nat → List (List Nat)
  | 0, _ => [[]]
  | n + 1, l => l.flatMap (fun x => (prm n (l.erase x)).map (fun r => x :: r))
def rds (h : Nat) : List (List Nat) := prm (mem h).length (mem h)
def rho (h i : Nat) : List Nat := (rds h).getD i []
def dst (a b : Nat) : Nat := if a ≤ b then b - a else a - b
def wnS (kd fl : Nat → Nat) (g : Nat) : Nat := if kd g = 1 then 3 else if kd g = 2 then 0 else if kd g = 3 then 2 + fl g else 1
/-- until when the boots waits: of the wishes of m -/
def wtS (wk wa wb : Nat → Nat) (m g : Nat) : Nat → Nat
  | 0 => 0
  | w + 1 => if m.testBit w = true ∧ wk w = 3 ∧ wa w = g then max (wtS wk wa wb m g w) (wb w) else wtS wk wa wb m g w
def wlkT (fl wt wn : Nat → Nat) : List Nat → Nat → Nat → Nat → Nat
  | [], _, _, _ => 0
  | x :: r, f, t, g => if g = x then max (t + dst f (fl x)) (wt x) else wlkT fl wt wn r (fl x) (max (t + dst f (fl x)) (wt x) + wn x) g
def wlkE (fl wt wn : Nat → Nat) : List Nat → Nat → Nat → Nat
  | [], _, t => t
  | x :: r, f, t => wlkE fl wt wn r (fl x) (max (t + dst f (fl x)) (wt x) + wn x)
def okW (wk wa wb tm : Nat → Nat) (o : List Nat) (w : Nat) : Bool := if wk w = 0 then decide (o.idxOf (wa w) < o.idxOf (wb w)) else if wk w = 1 then decide (o.idxOf (wa w) = o.idxOf (wb w) + 1) else if wk w = 2 then decide (o.idxOf (wa w) = 0) else if wk w = 4 then decide (tm (wa w) ≤ wb w) else true
def kpO (V S : Nat) (kd wk wa wb fl : Nat → Nat) (m : Nat) (o : List Nat) : Nat := mkb (fun w => m.testBit w && okW wk wa wb (wlkT fl (fun g => wtS wk wa wb m g V) (wnS kd fl) o 0 S) o w) V
def enO (V S : Nat) (kd wk wa wb fl : Nat → Nat) (m : Nat) (o : List Nat) : Nat := wlkE fl (fun g => wtS wk wa wb m g V) (wnS kd fl) o 0 S
/-- a round is as was told of other mornings -/
def alI (p : Nat → Bool) : Nat → Bool
  | 0 => true
  | n + 1 => alI p n && p n
def wkP (h : Nat) (am bm : Nat → Nat) (o : List Nat) (i : Nat) : Bool := !(h.testBit (am i)) || !(h.testBit (bm i)) || decide (o.idxOf (am i) < o.idxOf (bm i))
def wkO (h t : Nat) (am bm : Nat → Nat) (o : List Nat) : Bool := alI (wkP h am bm o) t
def aftO (o : List Nat) (g : Nat) : Nat := mkb (fun b => decide (g ∈ o) && decide (b ∈ o) && decide (o.idxOf g < o.idxOf b)) 6
/-! going through a row from its first place on -/
def cntI (p : Nat → Bool) : Nat → Nat
  | 0 => 0
  | n + 1 => cntI p n + (if p n = true then 1 else 0)
def fstI (p : Nat → Bool) : Nat → Option Nat
  | 0 => none
  | n + 1 => match fstI p n with
    | some i => some i
    | none => if p n = true then some n else none
def bstI (p : Nat → Bool) (E : Nat → Nat) : Nat → Option Nat
  | 0 => none
  | n + 1 => if p n = true then (match bstI p E n with
    | none => some n
    | some b => if E n < E b then some n else some b) else bstI p E n
def minI (p : Nat → Bool) (x : Nat → Nat) : Nat → Option Nat
  | 0 => none
  | n + 1 => if p n = true then (match minI p x n with
    | none => some (x n)
    | some b => some (min b (x n))) else minI p x n
def maxI (p : Nat → Bool) (x : Nat → Nat) : Nat → Option Nat
  | 0 => none
  | n + 1 => if p n = true then (match maxI p x n with
    | none => some (x n)
    | some b => some (max b (x n))) else maxI p x n
def orI (p : Nat → Bool) (x : Nat → Nat) : Nat → Nat
  | 0 => 0
  | n + 1 => if p n = true then orI p x n ||| x n else orI p x n
def exI (x : Nat → Nat) (k : Nat) : Nat → Bool
  | 0 => false
  | n + 1 => exI x k n || decide (x n = k)
/-- what the class's survey holds when n rounds have been gone through -/
def SvP (V S : Nat) (kd wk wa wb fl : Nat → Nat) (h m t : Nat) (am bm : Nat → Nat) (n : Nat) (good soon woken : Int32) (keptSets firstGood soonestGood earliest latest behind behindW : Nat → Int32) : Prop :=
  let kp := fun i => kpO V S kd wk wa wb fl m (rho h i)
  let gd' := fun i => decide (kp i = m)
  let E := fun i => enO V S kd wk wa wb fl m (rho h i)
  let wo := fun i => wkO h t am bm (rho h i)
  good = nI (cntI gd' n) ∧ woken = nI (cntI wo n) ∧ (∀ k, k < 512 → keptSets k = bI (exI kp k n)) ∧
  (∀ i, fstI gd' n = some i → ∀ k, k < (rho h i).length → firstGood k = nI ((rho h i).getD k 0)) ∧
  (∀ i, bstI gd' E n = some i → soon = nI (E i) ∧ ∀ k, k < (rho h i).length → soonestGood k = nI ((rho h i).getD k 0)) ∧
  (∀ g, g ∈ mem h → ∀ x, minI gd' (fun i => (rho h i).idxOf g + 1) n = some x → earliest g = nI x) ∧
  (∀ g, g ∈ mem h → ∀ x, maxI gd' (fun i => (rho h i).idxOf g + 1) n = some x → latest g = nI x) ∧
  (∀ g, g < 6 → behind g = nI (orI gd' (fun i => aftO (rho h i) g) n)) ∧
  (∀ g, g < 6 → behindW g = nI (orI (fun i => gd' i && wo i) (fun i => aftO (rho h i) g) n))
