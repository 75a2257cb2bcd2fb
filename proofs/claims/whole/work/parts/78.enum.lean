/-! all orders of all who can be here, one behind the other: looked at by the kernel -/
def la (l : List Nat) : Nat → Int32 := fun i => nI (l.getD i 0)
def nxOK (n : Nat) (l l' : List Nat) : Bool := match fX9_nextOrder KK (nI n) (la l) with
  | some (f, T) => decide (f = 1) && (List.range n).all (fun i => decide (T i = nI (l'.getD i 0)))
  | none => false
def nxEnd (n : Nat) (l : List Nat) : Bool := match fX9_nextOrder KK (nI n) (la l) with
  | some (f, _) => decide (f = 0)
  | none => false
def chkL (n : Nat) : List (List Nat) → Bool
  | [] => false
  | [l] => nxEnd n l
  | l :: l' :: r => nxOK n l l' && chkL n (l' :: r)
def chkO (h : Nat) (o : List Nat) : Bool := decide (o.length = (mem h).length) && decide o.Nodup && o.all (fun g => decide (g < 6) && h.testBit g) && (mem h).all (fun g => decide (g ∈ o))
def chkH (h : Nat) : Bool := chkL (mem h).length (rds h) && (rds h).all (chkO h) && decide ((rds h).length ≤ 720) && decide ((rds h).getD 0 [] = mem h)
set_option maxRecDepth 100000 in
theorem chk_0 : ∀ h, h < 32 → chkH h = true := by decide +kernel
set_option maxRecDepth 100000 in
theorem chk_1 : ∀ h, h < 31 → chkH (32 + h) = true := by decide +kernel
set_option maxRecDepth 100000 in
theorem chk_2 : chkH 63 = true := by decide +kernel
theorem chk_all {h : Nat} (hh : h < 64) : chkH h = true := by
  rcases Nat.lt_or_ge h 32 with q | q
  · exact chk_0 h q
  · by_cases q2 : h = 63
    · subst q2; exact chk_2
    · have := chk_1 (h - 32) (by omega)
      rwa [show 32 + (h - 32) = h by omega] at this
theorem chkL_step {n : Nat} : ∀ (l : List (List Nat)) (i : Nat), chkL n l = true → i + 1 < l.length → nxOK n (l.getD i []) (l.getD (i + 1) []) = true
  | [], _, h, _ => by cases h
  | [a], i, _, hi => by simp at hi
  | a :: b :: r, 0, h, _ => by
    rw [chkL, Bool.and_eq_true] at h
    exact h.1
  | a :: b :: r, i + 1, h, hi => by
    rw [chkL, Bool.and_eq_true] at h
    have := chkL_step (b :: r) i h.2 (by simp at hi ⊢; omega)
    simpa using this
theorem chkL_end {n : Nat} : ∀ (l : List (List Nat)), chkL n l = true → 0 < l.length ∧ nxEnd n (l.getD (l.length - 1) []) = true
  | [], h => by cases h
  | [a], h => ⟨by simp, by simpa [chkL] using h⟩
  | a :: b :: r, h => by
    rw [chkL, Bool.and_eq_true] at h
    have := chkL_end (b :: r) h.2
    refine ⟨by simp, ?_⟩
    simpa using this.2
/-- what every order is -/
theorem rho_ok {h i : Nat} (hh : h < 64) (hi : i < (rds h).length) : (rho h i).length = (mem h).length ∧ (rho h i).Nodup ∧ ∀ g, g ∈ rho h i ↔ g ∈ mem h := by
  have hc := chk_all hh
  simp only [chkH, Bool.and_eq_true] at hc
  have h1 := List.all_eq_true.mp hc.1.1.2 (rho h i) (by
    unfold rho
    rw [List.getD_eq_getElem?_getD, List.getElem?_eq_getElem hi]
    exact List.getElem_mem hi)
  simp only [chkO, Bool.and_eq_true, decide_eq_true_eq] at h1
  refine ⟨h1.1.1.1, h1.1.1.2, fun g => ⟨fun hg => ?_, fun hg => ?_⟩⟩
  · have := List.all_eq_true.mp h1.1.2 g hg
    simp only [Bool.and_eq_true, decide_eq_true_eq] at this
    unfold mem
    rw [List.mem_filter]
    exact ⟨List.mem_range.mpr this.1, this.2⟩
  · have := List.all_eq_true.mp h1.2 g hg
    simpa using this
theorem rds_len {h : Nat} (hh : h < 64) : 0 < (rds h).length ∧ (rds h).length ≤ 720 ∧ rho h 0 = mem h := by
  have hc := chk_all hh
  simp only [chkH, Bool.and_eq_true, decide_eq_true_eq] at hc
  exact ⟨(chkL_end _ hc.1.1.1).1, hc.1.2, hc.2⟩
theorem mem_6 {h g : Nat} : g ∈ mem h ↔ g < 6 ∧ h.testBit g = true := by
  unfold mem
  rw [List.mem_filter, List.mem_range]
theorem mem_len (h : Nat) : (mem h).length ≤ 6 := by
  have := List.length_filter_le (fun g => h.testBit g) (List.range 6)
  simpa [mem] using this
/-- from an order to the next, over any rows that hold it -/
theorem rho_next {h i : Nat} {T M : Nat → Int32} (hh : h < 64) (hi : i + 1 < (rds h).length) (hT : agr (mem h).length T (la (rho h i))) (hM : agr (mem h).length M (la (rho h i))) :
    ∃ T' M', fX4_turnToNext KK (nI (mem h).length) T = some (1, T') ∧ fX9_nextOrder KK (nI (mem h).length) M = some (1, M') ∧ agr (mem h).length T' (la (rho h (i + 1))) ∧ agr (mem h).length M' (la (rho h (i + 1))) := by
  have hc := chk_all hh
  simp only [chkH, Bool.and_eq_true] at hc
  have hs := chkL_step _ i hc.1.1.1 hi
  obtain ⟨b, T', U, e1, e2, hA⟩ := x_next (K := KK) KK_ge (mem_len h) hT
  obtain ⟨b2, M', U2, e3, e4, hA2⟩ := x_next (K := KK) KK_ge (mem_len h) hM
  obtain ⟨b3, M3, U3, e5, e6, hA3⟩ := x_next (K := KK) KK_ge (mem_len h) (T := M) (M := M) (fun _ _ => rfl)
  have hs' : nxOK (mem h).length (rho h i) (rho h (i + 1)) = true := hs
  unfold nxOK at hs'
  rw [e2] at hs'
  simp only [Bool.and_eq_true, decide_eq_true_eq] at hs'
  have hb : b = true := by
    cases b
    · exact absurd hs'.1 (by decide)
    · rfl
  subst hb
  have hU : agr (mem h).length U (la (rho h (i + 1))) := by
    intro k hk
    have := List.all_eq_true.mp hs'.2 k (List.mem_range.mpr hk)
    simpa [la] using this
  have h4 := Option.some.inj (e2.symm.trans e4)
  have h5 := Option.some.inj (e3.symm.trans e5)
  have hb3 : bI b3 = 1 := (congrArg Prod.fst h5).symm.trans (congrArg Prod.fst h4).symm
  have hM3 : M' = M3 := congrArg Prod.snd h5
  have hU2 : U = U2 := congrArg Prod.snd h4
  subst hM3
  subst hU2
  rw [hb3] at e6
  refine ⟨T', U3, e1, e6, fun k hk => (hA k hk).trans (hU k hk), fun k hk => ?_⟩
  rw [← hA3 k hk, hA2 k hk]
  exact hU k hk
theorem rho_last {h i : Nat} {T M : Nat → Int32} (hh : h < 64) (hi : i + 1 = (rds h).length) (hT : agr (mem h).length T (la (rho h i))) (hM : agr (mem h).length M (la (rho h i))) :
    ∃ T' M', fX4_turnToNext KK (nI (mem h).length) T = some (0, T') ∧ fX9_nextOrder KK (nI (mem h).length) M = some (0, M') := by
  have hc := chk_all hh
  simp only [chkH, Bool.and_eq_true] at hc
  have hs := (chkL_end _ hc.1.1.1).2
  rw [← hi, Nat.add_sub_cancel] at hs
  obtain ⟨b, T', U, e1, e2, hA⟩ := x_next (K := KK) KK_ge (mem_len h) hT
  obtain ⟨b2, M', U2, e3, e4, hA2⟩ := x_next (K := KK) KK_ge (mem_len h) hM
  obtain ⟨b3, M3, U3, e5, e6, hA3⟩ := x_next (K := KK) KK_ge (mem_len h) (T := M) (M := M) (fun _ _ => rfl)
  have hs' : nxEnd (mem h).length (rho h i) = true := hs
  unfold nxEnd at hs'
  rw [e2] at hs'
  simp only [decide_eq_true_eq] at hs'
  have hb : b = false := by
    cases b
    · rfl
    · exact absurd hs' (by decide)
  subst hb
  have h4 := Option.some.inj (e2.symm.trans e4)
  have h5 := Option.some.inj (e3.symm.trans e5)
  have hb3 : bI b3 = 0 := (congrArg Prod.fst h5).symm.trans (congrArg Prod.fst h4).symm
  rw [hb3] at e6
  exact ⟨T', U3, e1, e6⟩
