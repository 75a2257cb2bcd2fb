def oO : Option Nat → Int32
  | none => -4
  | some i => nI i
theorem oO_n : oO none = -4 := rfl
theorem oO_s (i : Nat) : oO (some i) = nI i := rfl
theorem min_le (p : Nat → Bool) (x : Nat → Nat) (B : Nat) : ∀ n, (∀ i, i < n → x i ≤ B) → ∀ v, (minI p x n = some v → v ≤ B) ∧ (maxI p x n = some v → v ≤ B)
  | 0 => fun _ v => ⟨fun q => by simp [minI] at q, fun q => by simp [maxI] at q⟩
  | n + 1 => fun hx v => by
    have ih := min_le p x B n (fun i hi => hx i (by omega))
    have hn := hx n (by omega)
    rw [minI, maxI]
    cases p n with
    | false => simp only [Bool.false_eq_true, if_false]; exact ih v
    | true =>
      simp only [if_true]
      constructor
      · cases hm : minI p x n with
        | none => simp only []; intro q; cases q; exact hn
        | some b => simp only []; intro q; cases q; have := (ih b).1 hm; omega
      · cases hm : maxI p x n with
        | none => simp only []; intro q; cases q; exact hn
        | some b => simp only []; intro q; cases q; have := (ih b).2 hm; omega
theorem min_max (p : Nat → Bool) (x : Nat → Nat) : ∀ n, (minI p x n = none ↔ maxI p x n = none)
  | 0 => by simp [minI, maxI]
  | n + 1 => by
    have ih := min_max p x n
    rw [minI, maxI]
    cases p n with
    | false => simpa using ih
    | true => cases minI p x n <;> cases maxI p x n <;> simp
/-- what is known of the rounds that the reference has found -/
def FoP (kp : Nat → Nat) (o : Nat → List Nat) (n l : Nat) (keptBy come : Nat → Int32) : Prop :=
  ∀ j, j < n → keptBy j = nI (kp j) ∧ kp j < 512 ∧ (o j).length = l ∧ (o j).Nodup ∧ (∀ x, x ∈ o j → x < 6) ∧ ∀ k, k < (o j).length → come (6 * j + k) = nI ((o j).getD k 0)
theorem q_fo {V S : Nat} {kd wk wa wb fl : Nat → Nat} {h m : Nat} {e k c : Nat → Int32} (hV : V ≤ 9) (hh : h < 64) (hF : FrP V S kd wk wa wb fl h m (rds h).length e k c) : FoP (fun j => kpO V S kd wk wa wb fl m (rho h j)) (rho h) (rds h).length (mem h).length k c := by
  intro j hj
  obtain ⟨y1, y2, y3⟩ := rho_ok hh hj
  obtain ⟨z1, z2⟩ := q_frK hV hF j hj
  exact ⟨z1, z2, y1, y2, fun x hx => (mem_6.mp ((y3 x).mp hx)).1, fun k hk => (hF j hj).2.2 k (by omega)⟩
theorem m_place {K m n l g : Nat} {kp : Nat → Nat} {o : Nat → List Nat} {keptBy come : Nat → Int32} (hK : 1000 ≤ K) (hn : n ≤ 720) (hm : m < 512) (hl : l ≤ 6) (hF : FoP kp o n l keptBy come) (hg : ∀ j, j < n → g ∈ o j) :
    fX9_place_L50 K (nI g) (nI m) (nI n) keptBy come K (-4) (-4) 0 = some (oO (minI (fun i => decide (kp i = m)) (fun i => (o i).idxOf g + 1) n), oO (maxI (fun i => decide (kp i = m)) (fun i => (o i).idxOf g + 1) n)) := by
  have key : ∀ d i q, i + d = n → d < q → fX9_place_L50 K (nI g) (nI m) (nI n) keptBy come q (oO (minI (fun i => decide (kp i = m)) (fun i => (o i).idxOf g + 1) i)) (oO (maxI (fun i => decide (kp i = m)) (fun i => (o i).idxOf g + 1) i)) (nI i) = some (oO (minI (fun i => decide (kp i = m)) (fun i => (o i).idxOf g + 1) n), oO (maxI (fun i => decide (kp i = m)) (fun i => (o i).idxOf g + 1) n)) := by
    intro d
    induction d with
    | zero =>
      intro i q hi hq
      obtain ⟨q, rfl⟩ : ∃ y, q = y + 1 := ⟨q - 1, by omega⟩
      have hi' : i = n := by omega
      subst hi'
      rw [fX9_place_L50, if_pos (nI_le (Nat.le_refl _) (by omega))]
    | succ d ih =>
      intro i q hi hq
      obtain ⟨q, rfl⟩ : ∃ y, q = y + 1 := ⟨q - 1, by omega⟩
      have ih' := ih (i + 1) q (by omega) (by omega)
      rw [minI, maxI] at ih'
      obtain ⟨f1, f2, f3, f4, f5, f6⟩ := hF i (by omega)
      rw [fX9_place_L50, if_neg (nI_ge (show i < n by omega) (by omega)), m_isGood (show i < n by omega) hn (fun j hj => ⟨(hF j hj).1, (hF j hj).2.1⟩) hm, bd1_eq]
      cases hp : decide (kp i = m) with
      | false =>
        simp only [hp, Bool.false_eq_true, if_false] at ih'
        rw [bI_f, if_pos rfl, bd2_eq]
        simp only [nm, nI_1]
        exact ih'
      | true =>
        simp only [hp, if_true] at ih'
        have hlt := List.idxOf_lt_length_of_mem (hg i (by omega))
        rw [bI_t, if_neg q_n10, m_placeIn hK (by omega) (by omega) f4 (hg i (by omega)) f6 f5, bd1_eq]
        simp only [nm, nI_1]
        have hbd := min_le (fun i => decide (kp i = m)) (fun i => (o i).idxOf g + 1) 6 i (fun j hj => by
          have := List.idxOf_lt_length_of_mem (hg j (by omega))
          have := (hF j (by omega)).2.2.1
          omega)
        have hmm := min_max (fun i => decide (kp i = m)) (fun i => (o i).idxOf g + 1) i
        cases hmi : minI (fun i => decide (kp i = m)) (fun i => (o i).idxOf g + 1) i with
        | none =>
          have hma := hmm.mp hmi
          rw [hmi, hma] at ih'
          rw [hma, oO_n, if_pos (by decide), if_neg (show ¬ nI ((o i).idxOf g + 1) ≤ -4 from Int32.not_le.mpr (Int32.lt_of_lt_of_le (b := 0) (by decide) (Int32.not_lt.mp (nI_pos (by omega))))), bd1_eq, bd1_eq, bd2_eq]
          exact ih'
        | some b =>
          cases hma : maxI (fun i => decide (kp i = m)) (fun i => (o i).idxOf g + 1) i with
          | none => rw [hmm.mpr hma] at hmi; cases hmi
          | some c =>
            have hb := (hbd b).1 hmi
            have hc := (hbd c).2 hma
            rw [hmi, hma] at ih'
            rw [oO_s, oO_s] at ih' ⊢
            rw [if_neg (nI_pos (show b < 2 ^ 31 by omega))]
            have e1 : (if nI b ≤ nI ((o i).idxOf g + 1) then some (nI b) else some (nI ((o i).idxOf g + 1))) = some (nI (min b ((o i).idxOf g + 1))) := by
              by_cases hlt2 : b ≤ (o i).idxOf g + 1
              · rw [if_pos (nI_le hlt2 (by omega)), Nat.min_eq_left hlt2]
              · rw [if_neg (Int32.not_le.mpr (nI_lt (by omega) (by omega))), Nat.min_eq_right (by omega)]
            have e2 : (if nI ((o i).idxOf g + 1) ≤ nI c then some (nI c) else some (nI ((o i).idxOf g + 1))) = some (nI (max c ((o i).idxOf g + 1))) := by
              by_cases hlt2 : (o i).idxOf g + 1 ≤ c
              · rw [if_pos (nI_le hlt2 (by omega)), Nat.max_eq_left hlt2]
              · rw [if_neg (Int32.not_le.mpr (nI_lt (by omega) (by omega))), Nat.max_eq_right (by omega)]
            rw [e1, e2, bd1_eq, bd1_eq, bd2_eq]
            exact ih'
  have e := key n 0 K (by omega) (by omega)
  exact e
theorem or_lt (p : Nat → Bool) (x : Nat → Nat) : ∀ n, (∀ i, i < n → x i < 64) → orI p x n < 64
  | 0 => fun _ => by simp [orI]
  | n + 1 => fun hx => by
    have ih := or_lt p x n (fun i hi => hx i (by omega))
    rw [orI]
    cases p n with
    | false => simpa using ih
    | true => simp only [if_true]; exact Nat.or_lt_two_pow (n := 6) ih (hx n (by omega))
theorem aft_lt (o : List Nat) (g : Nat) : aftO o g < 64 := mkb_lt _ 6
theorem aft_tb {o : List Nat} {a b : Nat} (ha : a < 6) (hb : b ∈ o) (ha' : a ∈ o) : (aftO o b).testBit a = decide (o.idxOf b < o.idxOf a) := by
  unfold aftO
  rw [mkb_test, decide_eq_true ha, decide_eq_true hb, decide_eq_true ha']
  rfl
theorem or_0 {kp : Nat → Bool} {x : Nat → Nat} : ∀ n, cntI kp n = 0 → orI kp x n = 0
  | 0 => fun _ => rfl
  | n + 1 => fun h => by
    have ih := or_0 (kp := kp) (x := x) n
    rw [cntI] at h
    rw [orI]
    cases hp : kp n with
    | true => rw [hp] at h; simp at h
    | false => rw [hp] at h; simp only [Bool.false_eq_true, if_false] at h ⊢; exact ih h
/-- the one never behind the other: the least over the good rounds -/
theorem ah_eq {kp : Nat → Bool} {o : Nat → List Nat} {a b : Nat} (ha : a < 6) (hb : b < 6) (hab : a ≠ b) : ∀ n, (∀ j, j < n → (o j).Nodup ∧ a ∈ o j ∧ b ∈ o j) →
    minI kp (fun i => if (o i).idxOf a < (o i).idxOf b then 1 else 0) n = if cntI kp n = 0 then none else some (if (orI kp (fun i => aftO (o i) b) n).testBit a = true then 0 else 1)
  | 0 => fun _ => rfl
  | n + 1 => fun hn => by
    have ih := ah_eq (kp := kp) ha hb hab n (fun j hj => hn j (by omega))
    obtain ⟨n1, n2, n3⟩ := hn n (by omega)
    rw [minI, cntI, orI]
    cases hp : kp n with
    | false => simp only [Bool.false_eq_true, if_false, Nat.add_zero]; exact ih
    | true =>
      simp only [if_true]
      rw [ih, if_neg (show ¬ cntI kp n + 1 = 0 by omega), Nat.testBit_or, aft_tb ha n3 n2]
      have hne : (o n).idxOf a ≠ (o n).idxOf b := by
        intro q
        have h1 := List.getElem_idxOf (List.idxOf_lt_length_of_mem n2)
        have h2 := List.getElem_idxOf (List.idxOf_lt_length_of_mem n3)
        simp only [q] at h1
        rw [h1] at h2
        exact hab h2
      by_cases hc : cntI kp n = 0
      · rw [if_pos hc]
        have h0 : orI kp (fun i => aftO (o i) b) n = 0 := or_0 n hc
        rw [h0]
        by_cases hlt : (o n).idxOf a < (o n).idxOf b
        · simp [hlt, Nat.lt_asymm hlt]
        · simp [hlt, show (o n).idxOf b < (o n).idxOf a by omega]
      · rw [if_neg hc]
        by_cases hlt : (o n).idxOf a < (o n).idxOf b
        · have := Nat.lt_asymm hlt
          cases (orI kp (fun i => aftO (o i) b) n).testBit a <;> simp [hlt, this]
        · have : (o n).idxOf b < (o n).idxOf a := by omega
          cases (orI kp (fun i => aftO (o i) b) n).testBit a <;> simp [hlt, this]
