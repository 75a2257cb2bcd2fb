def fX6_smallestNeverKept_L7 (K : Nat) (T_standing : Int32) (T_keptSets : (Nat → Int32)) : Nat → Int32 → Int32 → Option (Int32)
  | 0, _, _ => none
  | n1 + 1, x1, x2 =>
    if T_standing ≤ (x2 : Int32) then (
    some x1)
    else (
    bd1 (
    if ((x2 &&& (T_standing ^^^ (-1))) : Int32) = 0 then (
    some 1)
    else (
    some 0)) fun y =>
    bd1 (
    if (y : Int32) = 0 then (
    some x1)
    else (
    bd1 (fJ6_bitCount_0f7a4 K x2) fun r =>
    bd1 (fJ6_bitCount_0f7a4 K x1) fun r_1 =>
    if r_1 ≤ (r : Int32) then (
    some x1)
    else (
    bd1 (fX6_isKeptByOne K x2 T_keptSets) fun r_2 =>
    if (r_2 : Int32) = 0 then (
    some x2)
    else (
    some x1)))) fun x1_2 =>
    nm (x2 + 1) fun x2_1 =>
    fX6_smallestNeverKept_L7 K T_standing T_keptSets n1 x1_2 x2_1)
def fX6_smallestNeverKept (K : Nat) (T_standing : Int32) (T_keptSets : (Nat → Int32)) : Option (Int32) :=
    bd1 (fX6_smallestNeverKept_L7 K T_standing T_keptSets K T_standing 0) fun x1_1 =>
    some x1_1
theorem mbX6_smallestNeverKept_0 : Cond.fieldLink RX6 49 "BootsAtDawn$Survey" "standing" "I" ∈ wsX6_smallestNeverKept := List.mem_of_getElem? (i := 1) rfl
theorem inX6_smallestNeverKept_X6 : ∀ w ∈ u_ws RX6 TX6 12, w ∈ wsX6_smallestNeverKept := fun _ h => (List.mem_cons_of_mem _ (List.mem_append_right _ h))
abbrev rmX6_smallestNeverKept : Room := { frames := 1, cells := 0, slots := 0, locals := 22 }
set_option maxHeartbeats 8000000 in
set_option maxRecDepth 100000 in
theorem kX6_smallestNeverKept (l : Launch) (dC : Nat → ClassId) (dI : Nat → Nat → Nat) (cC cI cJ : ClassId) (sz : Nat) (K : Nat) (a_T a_T_round a_T_keptSets a_T_firstGood a_T_soonestGood a_T_earliest a_T_latest a_T_behind a_T_behindAsWoken : Nat) (T_standing : Int32) (T_goodRounds : Int32) (T_soonestEnd : Int32) (T_roundsAsWoken : Int32) (T_keptSets : (Nat → Int32)) (R : Int32) (hr : fX6_smallestNeverKept K T_standing T_keptSets = some R) : Met l yX6_smallestNeverKept wsX6_smallestNeverKept rmX6_smallestNeverKept (va_Pc ([.ref a_T] : List Value) (PcW (dC, dI) (tysA cC cI cJ) sz [(a_T, .inr (6, [.ref a_T_round, .ref a_T_keptSets, .ref a_T_firstGood, .ref a_T_soonestGood, .ref a_T_earliest, .ref a_T_latest, .ref a_T_behind, .ref a_T_behindAsWoken, .int T_standing, .int T_goodRounds, .int T_soonestEnd, .int T_roundsAsWoken])), (a_T_keptSets, .inl (cI, 512, .inl T_keptSets))])) (va_Qi (fun r (_ : Unit) => r = R) (fun _ => BW (dC, dI) (tysA cC cI cJ) (va_A [(a_T, .inr (6, [.ref a_T_round, .ref a_T_keptSets, .ref a_T_firstGood, .ref a_T_soonestGood, .ref a_T_earliest, .ref a_T_latest, .ref a_T_behind, .ref a_T_behindAsWoken, .int T_standing, .int T_goodRounds, .int T_soonestEnd, .int T_roundsAsWoken])), (a_T_keptSets, .inl (cI, 512, .inl T_keptSets))] sz) [(a_T, .inr (6, [.ref a_T_round, .ref a_T_keptSets, .ref a_T_firstGood, .ref a_T_soonestGood, .ref a_T_earliest, .ref a_T_latest, .ref a_T_behind, .ref a_T_behindAsWoken, .int T_standing, .int T_goodRounds, .int T_soonestEnd, .int T_roundsAsWoken])), (a_T_keptSets, .inl (cI, 512, .inl T_keptSets))]) (va_A [(a_T, .inr (6, [.ref a_T_round, .ref a_T_keptSets, .ref a_T_firstGood, .ref a_T_soonestGood, .ref a_T_earliest, .ref a_T_latest, .ref a_T_behind, .ref a_T_behindAsWoken, .int T_standing, .int T_goodRounds, .int T_soonestEnd, .int T_roundsAsWoken])), (a_T_keptSets, .inl (cI, 512, .inl T_keptSets))] sz)) 0 0 (va_A [(a_T, .inr (6, [.ref a_T_round, .ref a_T_keptSets, .ref a_T_firstGood, .ref a_T_soonestGood, .ref a_T_earliest, .ref a_T_latest, .ref a_T_behind, .ref a_T_behindAsWoken, .int T_standing, .int T_goodRounds, .int T_soonestEnd, .int T_roundsAsWoken])), (a_T_keptSets, .inl (cI, 512, .inl T_keptSets))] sz) := by
  refine Met.ofW (cc := cX6_smallestNeverKept) (maxL := 4) (ret := (some .int)) (by decide) rfl ?_
  intro p e s m args below meth c s₁ B hml hv
  obtain ⟨rfl, hsz, hP, hK, hD0, hN⟩ := hv
  have hx := B.exec
  have hb := B.bytes
  have hrt := B.returns
  have hts := atoms_spec (ws := wsX6_smallestNeverKept) B.pre
  have hown : s.vm.findClass RX6 = some m.cls := findClass_of_methodNamed B.named
  have hlocks := B.notSynchronized
  subst hsz
  have hD := hD0.self (sz := s.heap.size)
  generalize hAe : va_A [(a_T, .inr (6, [.ref a_T_round, .ref a_T_keptSets, .ref a_T_firstGood, .ref a_T_soonestGood, .ref a_T_earliest, .ref a_T_latest, .ref a_T_behind, .ref a_T_behindAsWoken, .int T_standing, .int T_goodRounds, .int T_soonestEnd, .int T_roundsAsWoken])), (a_T_keptSets, .inl (cI, 512, .inl T_keptSets))] s.heap.size = A at hD ⊢
  have hA : ∀ q : Nat, s.heap.size ≤ q → A q := fun q h => by rw [← hAe]; exact Or.inr h
  have hS : va_S A s.heap s.heap [] := va_S.rf
  have hl := lv_entry ([.ref a_T] : List Value) (n := 4) (Nat.le_of_ble_eq_true rfl)
  rw [lg_entry_eq]
  generalize (lg_sl ([.ref a_T] : List Value) ++ List.replicate (4 - (lg_sl ([.ref a_T] : List Value)).length) Slot.unset).toArray = ls at hl ⊢
  replace hl : lv_has ls 4 [(0, .ref a_T)] := hl
  obtain ⟨Q, hQ⟩ : ∃ Q, Q = MQ below (va_Qi (fun r (_ : Unit) => r = R) (fun _ => BW (dC, dI) (tysA cC cI cJ) A [(a_T, .inr (6, [.ref a_T_round, .ref a_T_keptSets, .ref a_T_firstGood, .ref a_T_soonestGood, .ref a_T_earliest, .ref a_T_latest, .ref a_T_behind, .ref a_T_behindAsWoken, .int T_standing, .int T_goodRounds, .int T_soonestEnd, .int T_roundsAsWoken])), (a_T_keptSets, .inl (cI, 512, .inl T_keptSets))]) A) ([.ref a_T] : List Value).toArray s 0 0 A := ⟨_, rfl⟩
  rw [← hQ]
  suffices hE : WG p l e rmX6_smallestNeverKept s m ([.ref a_T] : List Value).toArray below meth c 0 0 Q (dC, dI) A 0 4 [(a_T, .inr (6, [.ref a_T_round, .ref a_T_keptSets, .ref a_T_firstGood, .ref a_T_soonestGood, .ref a_T_earliest, .ref a_T_latest, .ref a_T_behind, .ref a_T_behindAsWoken, .int T_standing, .int T_goodRounds, .int T_soonestEnd, .int T_roundsAsWoken])), (a_T_keptSets, .inl (cI, 512, .inl T_keptSets))] [(0, .ref a_T)] [] from hE _ _ _ hP hD hS hl
  clear hP hD hS hl hD0 hAe
  intro H locs ls hP hD hS hl
  unfold fX6_smallestNeverKept at hr
  refine lv_aload_n hx hb dX6_smallestNeverKept_0 rfl (lv_at hl 0 rfl) ?_
  refine va_get (D := (dC, dI)) (ci := 6) (v := .int T_standing) (C := RX6) (T := TX6) (N := 12) hx hb hts inX6_smallestNeverKept_X6 hown hK hP 0 rfl rfl 8 (by decide) (hts _ mbX6_smallestNeverKept_0) (fun _ h9 => h9) rfl dX6_smallestNeverKept_1 ?_
  refine lv_istore_n (lv' := [(1, .int T_standing), (0, .ref a_T)]) hx hb dX6_smallestNeverKept_4 rfl hl (by decide) rfl (fun ls hl => ?_)
  refine lv_iconst (v := 0) hx hb dX6_smallestNeverKept_5 (by decide) ?_
  refine lv_istore_n (lv' := [(2, .int 0), (1, .int T_standing), (0, .ref a_T)]) hx hb dX6_smallestNeverKept_6 rfl hl (by decide) rfl (fun ls hl => ?_)
  have hL1 : ∀ (n1 : Nat) (x1 : Int32) (x2 : Int32) (x1_1 : Int32), fX6_smallestNeverKept_L7 K T_standing T_keptSets n1 x1 x2 = some x1_1 → WG p l e rmX6_smallestNeverKept s m ([.ref a_T] : List Value).toArray below meth c 0 0 Q (dC, dI) A 63 4 [(a_T, .inr (6, [.ref a_T_round, .ref a_T_keptSets, .ref a_T_firstGood, .ref a_T_soonestGood, .ref a_T_earliest, .ref a_T_latest, .ref a_T_behind, .ref a_T_behindAsWoken, .int T_standing, .int T_goodRounds, .int T_soonestEnd, .int T_roundsAsWoken])), (a_T_keptSets, .inl (cI, 512, .inl T_keptSets))] [(1, .int x1_1)] [] → WG p l e rmX6_smallestNeverKept s m ([.ref a_T] : List Value).toArray below meth c 0 0 Q (dC, dI) A 7 4 [(a_T, .inr (6, [.ref a_T_round, .ref a_T_keptSets, .ref a_T_firstGood, .ref a_T_soonestGood, .ref a_T_earliest, .ref a_T_latest, .ref a_T_behind, .ref a_T_behindAsWoken, .int T_standing, .int T_goodRounds, .int T_soonestEnd, .int T_roundsAsWoken])), (a_T_keptSets, .inl (cI, 512, .inl T_keptSets))] [(0, .ref a_T), (1, .int x1), (2, .int x2)] [] := by
    intro n1
    induction n1 with
    | zero =>
      intro x1 x2 x1_1 hr
      rw [fX6_smallestNeverKept_L7] at hr
      cases hr
    | succ n1 ih7 =>
      intro x1 x2 x1_1 hr hX1 H locs ls hP hD hS hl
      rw [fX6_smallestNeverKept_L7] at hr
      refine lv_iload_n hx hb dX6_smallestNeverKept_7 rfl (lv_at hl 2 rfl) ?_
      refine lv_aload_n hx hb dX6_smallestNeverKept_8 rfl (lv_at hl 0 rfl) ?_
      refine va_get (D := (dC, dI)) (ci := 6) (v := .int T_standing) (C := RX6) (T := TX6) (N := 12) hx hb hts inX6_smallestNeverKept_X6 hown hK hP 0 rfl rfl 8 (by decide) (hts _ mbX6_smallestNeverKept_0) (fun _ h9 => h9) rfl dX6_smallestNeverKept_9 ?_
      refine lv_icmp_ge (tgt := 63) hx hb dX6_smallestNeverKept_12 (by decide) (fun c1 => ?_) (fun c1 => ?_)
      · replace hr := it_t hr c1
        have he := Option.some.inj hr
        cases he
        exact hX1 H locs ls hP hD hS (lv_sub hl [1] rfl)
      · replace hr := it_f hr c1
        refine lv_iload_n hx hb dX6_smallestNeverKept_15 rfl (lv_at hl 2 rfl) ?_
        refine lv_aload_n hx hb dX6_smallestNeverKept_16 rfl (lv_at hl 0 rfl) ?_
        refine va_get (D := (dC, dI)) (ci := 6) (v := .int T_standing) (C := RX6) (T := TX6) (N := 12) hx hb hts inX6_smallestNeverKept_X6 hown hK hP 0 rfl rfl 8 (by decide) (hts _ mbX6_smallestNeverKept_0) (fun _ h9 => h9) rfl dX6_smallestNeverKept_17 ?_
        refine lv_iconst (v := (-1)) hx hb dX6_smallestNeverKept_20 (by decide) ?_
        refine lv_ixor hx hb dX6_smallestNeverKept_21 ?_
        refine lv_iand hx hb dX6_smallestNeverKept_22 ?_
        obtain ⟨y, hj2, hr⟩ := bd1_some hr
        have hJ1 : WG p l e rmX6_smallestNeverKept s m ([.ref a_T] : List Value).toArray below meth c 0 0 Q (dC, dI) A 31 4 [(a_T, .inr (6, [.ref a_T_round, .ref a_T_keptSets, .ref a_T_firstGood, .ref a_T_soonestGood, .ref a_T_earliest, .ref a_T_latest, .ref a_T_behind, .ref a_T_behindAsWoken, .int T_standing, .int T_goodRounds, .int T_soonestEnd, .int T_roundsAsWoken])), (a_T_keptSets, .inl (cI, 512, .inl T_keptSets))] [(0, .ref a_T), (1, .int x1), (2, .int x2)] [.int y] := by
          intro H locs ls hP hD hS hl
          refine lv_istore_n (lv' := [(3, .int y), (0, .ref a_T), (1, .int x1), (2, .int x2)]) hx hb dX6_smallestNeverKept_31 rfl hl (by decide) rfl (fun ls hl => ?_)
          refine lv_iload_n hx hb dX6_smallestNeverKept_32 rfl (lv_at hl 0 rfl) ?_
          obtain ⟨x1_2, hj1, hr⟩ := bd1_some hr
          have hJ2 : WG p l e rmX6_smallestNeverKept s m ([.ref a_T] : List Value).toArray below meth c 0 0 Q (dC, dI) A 57 4 [(a_T, .inr (6, [.ref a_T_round, .ref a_T_keptSets, .ref a_T_firstGood, .ref a_T_soonestGood, .ref a_T_earliest, .ref a_T_latest, .ref a_T_behind, .ref a_T_behindAsWoken, .int T_standing, .int T_goodRounds, .int T_soonestEnd, .int T_roundsAsWoken])), (a_T_keptSets, .inl (cI, 512, .inl T_keptSets))] [(0, .ref a_T), (1, .int x1_2), (2, .int x2)] [] := by
            intro H locs ls hP hD hS hl
            obtain ⟨x2_1, e1, hr⟩ := nm_el hr
            refine lv_iinc (v := x2_1) (lv' := [(2, .int x2_1), (0, .ref a_T), (1, .int x1_2)]) hx hb dX6_smallestNeverKept_57 hl (k := 2) rfl e1.symm (by decide) rfl (fun ls hl => ?_)
            refine lv_goto (tgt := 7) hx hb dX6_smallestNeverKept_60 (by decide) ?_
            exact ih7 _ _ _ hr hX1 H locs ls hP hD hS (lv_sub hl [1, 2, 0] rfl)
          replace hr := hj1
          refine lv_if_eq (tgt := 57) hx hb dX6_smallestNeverKept_33 (by decide) (fun c3 => ?_) (fun c3 => ?_)
          · replace hr := it_t hr c3
            cases hr
            exact hJ2 H locs ls hP hD hS (lv_sub hl [1, 2, 3] rfl)
          · replace hr := it_f hr c3
            refine lv_iload_n hx hb dX6_smallestNeverKept_36 rfl (lv_at hl 3 rfl) ?_
            obtain ⟨r, hc1, hr⟩ := bd1_some hr
            refine call_i (D := (dC, dI)) (tys := tysA cC cI cJ) (wc := []) (wr := [(a_T, .inr (6, [.ref a_T_round, .ref a_T_keptSets, .ref a_T_firstGood, .ref a_T_soonestGood, .ref a_T_earliest, .ref a_T_latest, .ref a_T_behind, .ref a_T_behindAsWoken, .int T_standing, .int T_goodRounds, .int T_soonestEnd, .int T_roundsAsWoken])), (a_T_keptSets, .inl (cI, 512, .inl T_keptSets))]) (w1 := []) (wn := [(a_T, .inr (6, [.ref a_T_round, .ref a_T_keptSets, .ref a_T_firstGood, .ref a_T_soonestGood, .ref a_T_earliest, .ref a_T_latest, .ref a_T_behind, .ref a_T_behindAsWoken, .int T_standing, .int T_goodRounds, .int T_soonestEnd, .int T_roundsAsWoken])), (a_T_keptSets, .inl (cI, 512, .inl T_keptSets))]) (r0 := r) hP hD hS hA [] [0, 1] [0, 1] rfl rfl (by decide +kernel) (by decide +kernel) rfl (by decide +kernel) (va_runS (As := [.int x2]) (rest := []) ⟨hx, hb, hml, hown, hts⟩ (kJ6_bitCount_0f7a4 l dC dI cC cI cJ H.size K x2 r hc1) (va_cwS 1 hts gX6_smallestNeverKept_J6_bitCount_0f7a4 rfl rfl rfl (by decide +kernel) ⟨Nat.le_of_ble_eq_true rfl, Nat.le_of_ble_eq_true rfl⟩) ⟨fbW, preW hP hD hK hN [] rfl (by decide +kernel)⟩ rfl rfl hl.1 rfl (lv_room (Nat.le_of_ble_eq_true rfl)) dX6_smallestNeverKept_37 ⟨Nat.zero_le _, Nat.zero_le _⟩) (fun H locs hP hD hS => ?_)
            refine lv_iload_n hx hb dX6_smallestNeverKept_40 rfl (lv_at hl 2 rfl) ?_
            obtain ⟨r_1, hc2, hr⟩ := bd1_some hr
            refine call_i (D := (dC, dI)) (tys := tysA cC cI cJ) (wc := []) (wr := [(a_T, .inr (6, [.ref a_T_round, .ref a_T_keptSets, .ref a_T_firstGood, .ref a_T_soonestGood, .ref a_T_earliest, .ref a_T_latest, .ref a_T_behind, .ref a_T_behindAsWoken, .int T_standing, .int T_goodRounds, .int T_soonestEnd, .int T_roundsAsWoken])), (a_T_keptSets, .inl (cI, 512, .inl T_keptSets))]) (w1 := []) (wn := [(a_T, .inr (6, [.ref a_T_round, .ref a_T_keptSets, .ref a_T_firstGood, .ref a_T_soonestGood, .ref a_T_earliest, .ref a_T_latest, .ref a_T_behind, .ref a_T_behindAsWoken, .int T_standing, .int T_goodRounds, .int T_soonestEnd, .int T_roundsAsWoken])), (a_T_keptSets, .inl (cI, 512, .inl T_keptSets))]) (r0 := r_1) hP hD hS hA [] [0, 1] [0, 1] rfl rfl (by decide +kernel) (by decide +kernel) rfl (by decide +kernel) (va_runS (As := [.int x1]) (rest := [.int r]) ⟨hx, hb, hml, hown, hts⟩ (kJ6_bitCount_0f7a4 l dC dI cC cI cJ H.size K x1 r_1 hc2) (va_cwS 1 hts gX6_smallestNeverKept_J6_bitCount_0f7a4 rfl rfl rfl (by decide +kernel) ⟨Nat.le_of_ble_eq_true rfl, Nat.le_of_ble_eq_true rfl⟩) ⟨fbW, preW hP hD hK hN [] rfl (by decide +kernel)⟩ rfl rfl hl.1 rfl (lv_room (Nat.le_of_ble_eq_true rfl)) dX6_smallestNeverKept_41 ⟨Nat.zero_le _, Nat.zero_le _⟩) (fun H locs hP hD hS => ?_)
            refine lv_icmp_ge (tgt := 57) hx hb dX6_smallestNeverKept_44 (by decide) (fun c4 => ?_) (fun c4 => ?_)
            · replace hr := it_t hr c4
              cases hr
              exact hJ2 H locs ls hP hD hS (lv_sub hl [1, 2, 3] rfl)
            · replace hr := it_f hr c4
              refine lv_aload_n hx hb dX6_smallestNeverKept_47 rfl (lv_at hl 1 rfl) ?_
              refine lv_iload_n hx hb dX6_smallestNeverKept_48 rfl (lv_at hl 3 rfl) ?_
              obtain ⟨r_2, hc3, hr⟩ := bd1_some hr
              refine call_i (D := (dC, dI)) (tys := tysA cC cI cJ) (wc := [(a_T, .inr (6, [.ref a_T_round, .ref a_T_keptSets, .ref a_T_firstGood, .ref a_T_soonestGood, .ref a_T_earliest, .ref a_T_latest, .ref a_T_behind, .ref a_T_behindAsWoken, .int T_standing, .int T_goodRounds, .int T_soonestEnd, .int T_roundsAsWoken])), (a_T_keptSets, .inl (cI, 512, .inl T_keptSets))]) (wr := []) (w1 := [(a_T, .inr (6, [.ref a_T_round, .ref a_T_keptSets, .ref a_T_firstGood, .ref a_T_soonestGood, .ref a_T_earliest, .ref a_T_latest, .ref a_T_behind, .ref a_T_behindAsWoken, .int T_standing, .int T_goodRounds, .int T_soonestEnd, .int T_roundsAsWoken])), (a_T_keptSets, .inl (cI, 512, .inl T_keptSets))]) (wn := [(a_T, .inr (6, [.ref a_T_round, .ref a_T_keptSets, .ref a_T_firstGood, .ref a_T_soonestGood, .ref a_T_earliest, .ref a_T_latest, .ref a_T_behind, .ref a_T_behindAsWoken, .int T_standing, .int T_goodRounds, .int T_soonestEnd, .int T_roundsAsWoken])), (a_T_keptSets, .inl (cI, 512, .inl T_keptSets))]) (r0 := r_2) hP hD hS hA [0, 1] [] [0, 1] rfl rfl (by decide +kernel) (by decide +kernel) rfl (by decide +kernel) (va_runV (As := [.int x2]) (rest := []) ⟨hx, hb, hml, hown, hts⟩ (kX6_isKeptByOne l dC dI cC cI cJ H.size K a_T a_T_round a_T_keptSets a_T_firstGood a_T_soonestGood a_T_earliest a_T_latest a_T_behind a_T_behindAsWoken x2 T_standing T_goodRounds T_soonestEnd T_roundsAsWoken T_keptSets r_2 hc3) (cwV 1 hts gX6_smallestNeverKept_X6_isKeptByOne rfl rfl rfl (by decide +kernel) ⟨Nat.le_of_ble_eq_true rfl, Nat.le_of_ble_eq_true rfl⟩) ⟨fbW, va_recv hK hP (ci := 6) (q0 := 0) rfl rfl, preW hP hD hK hN [0, 1] rfl (by decide +kernel)⟩ rfl rfl hl.1 rfl (lv_room (Nat.le_of_ble_eq_true rfl)) dX6_smallestNeverKept_49 ⟨Nat.zero_le _, Nat.zero_le _⟩) (fun H locs hP hD hS => ?_)
              refine lv_if_ne (tgt := 57) hx hb dX6_smallestNeverKept_52 (by decide) (fun c5 => ?_) (fun c5 => ?_)
              · replace hr := it_f hr c5
                cases hr
                exact hJ2 H locs ls hP hD hS (lv_sub hl [1, 2, 3] rfl)
              · replace hr := it_t hr c5
                refine lv_iload_n hx hb dX6_smallestNeverKept_55 rfl (lv_at hl 3 rfl) ?_
                refine lv_istore_n (lv' := [(1, .int x2), (3, .int y), (0, .ref a_T), (2, .int x2)]) hx hb dX6_smallestNeverKept_56 rfl hl (by decide) rfl (fun ls hl => ?_)
                cases hr
                exact hJ2 H locs ls hP hD hS (lv_sub hl [2, 0, 3] rfl)
        replace hr := hj2
        refine lv_if_ne (tgt := 30) hx hb dX6_smallestNeverKept_23 (by decide) (fun c2 => ?_) (fun c2 => ?_)
        · replace hr := it_f hr c2
          refine lv_iconst (v := 0) hx hb dX6_smallestNeverKept_30 (by decide) ?_
          cases hr
          exact hJ1 H locs ls hP hD hS (lv_sub hl [0, 1, 2] rfl)
        · replace hr := it_t hr c2
          refine lv_iconst (v := 1) hx hb dX6_smallestNeverKept_26 (by decide) ?_
          refine lv_goto (tgt := 31) hx hb dX6_smallestNeverKept_27 (by decide) ?_
          cases hr
          exact hJ1 H locs ls hP hD hS (lv_sub hl [0, 1, 2] rfl)
  obtain ⟨x1_1, hE, hr⟩ := bd1_some hr
  refine hL1 K T_standing 0 x1_1 hE ?_ H locs ls hP hD hS (lv_sub hl [2, 1, 0] rfl)
  intro H locs ls hP hD hS hl
  refine lv_iload_n hx hb dX6_smallestNeverKept_63 rfl (lv_at hl 0 rfl) ?_
  have he := Option.some.inj hr
  subst he
  subst hQ
  exact ret_i hx hb hrt hK hP hD hS hlocks dX6_smallestNeverKept_64
def fX6_twosAsWoken_L4 (K : Nat) (T_behindAsWoken : (Nat → Int32)) : Nat → Int32 → Int32 → Option (Int32)
  | 0, _, _ => none
  | n1 + 1, x1, x2 =>
    if (nI 6) ≤ (x2 : Int32) then (
    some x1)
    else (
    gd (¬ ((x2 : Int32) < 0 ∨ 6 ≤ x2.toNatClampNeg)) (
    bd1 (fJ6_bitCount_0f7a4 K (T_behindAsWoken x2.toNatClampNeg)) fun r =>
    nm (x1 + r) fun x1_2 =>
    nm (x2 + 1) fun x2_1 =>
    fX6_twosAsWoken_L4 K T_behindAsWoken n1 x1_2 x2_1))
def fX6_twosAsWoken (K : Nat) (T_behindAsWoken : (Nat → Int32)) : Option (Int32) :=
    bd1 (fX6_twosAsWoken_L4 K T_behindAsWoken K 0 0) fun x1_1 =>
    some x1_1
theorem mbX6_twosAsWoken_0 : Cond.fieldLink RX6 37 "BootsAtDawn$Survey" "behindAsWoken" "[I" ∈ wsX6_twosAsWoken := List.mem_of_getElem? (i := 1) rfl
theorem inX6_twosAsWoken_X6 : ∀ w ∈ u_ws RX6 TX6 12, w ∈ wsX6_twosAsWoken := fun _ h => (List.mem_cons_of_mem _ (List.mem_append_right _ h))
abbrev rmX6_twosAsWoken : Room := { frames := 1, cells := 0, slots := 0, locals := 20 }
set_option maxHeartbeats 8000000 in
set_option maxRecDepth 100000 in
theorem kX6_twosAsWoken (l : Launch) (dC : Nat → ClassId) (dI : Nat → Nat → Nat) (cC cI cJ : ClassId) (sz : Nat) (K : Nat) (a_T a_T_round a_T_keptSets a_T_firstGood a_T_soonestGood a_T_earliest a_T_latest a_T_behind a_T_behindAsWoken : Nat) (T_standing : Int32) (T_goodRounds : Int32) (T_soonestEnd : Int32) (T_roundsAsWoken : Int32) (T_behindAsWoken : (Nat → Int32)) (R : Int32) (hr : fX6_twosAsWoken K T_behindAsWoken = some R) : Met l yX6_twosAsWoken wsX6_twosAsWoken rmX6_twosAsWoken (va_Pc ([.ref a_T] : List Value) (PcW (dC, dI) (tysA cC cI cJ) sz [(a_T, .inr (6, [.ref a_T_round, .ref a_T_keptSets, .ref a_T_firstGood, .ref a_T_soonestGood, .ref a_T_earliest, .ref a_T_latest, .ref a_T_behind, .ref a_T_behindAsWoken, .int T_standing, .int T_goodRounds, .int T_soonestEnd, .int T_roundsAsWoken])), (a_T_behindAsWoken, .inl (cI, 6, .inl T_behindAsWoken))])) (va_Qi (fun r (_ : Unit) => r = R) (fun _ => BW (dC, dI) (tysA cC cI cJ) (va_A [(a_T, .inr (6, [.ref a_T_round, .ref a_T_keptSets, .ref a_T_firstGood, .ref a_T_soonestGood, .ref a_T_earliest, .ref a_T_latest, .ref a_T_behind, .ref a_T_behindAsWoken, .int T_standing, .int T_goodRounds, .int T_soonestEnd, .int T_roundsAsWoken])), (a_T_behindAsWoken, .inl (cI, 6, .inl T_behindAsWoken))] sz) [(a_T, .inr (6, [.ref a_T_round, .ref a_T_keptSets, .ref a_T_firstGood, .ref a_T_soonestGood, .ref a_T_earliest, .ref a_T_latest, .ref a_T_behind, .ref a_T_behindAsWoken, .int T_standing, .int T_goodRounds, .int T_soonestEnd, .int T_roundsAsWoken])), (a_T_behindAsWoken, .inl (cI, 6, .inl T_behindAsWoken))]) (va_A [(a_T, .inr (6, [.ref a_T_round, .ref a_T_keptSets, .ref a_T_firstGood, .ref a_T_soonestGood, .ref a_T_earliest, .ref a_T_latest, .ref a_T_behind, .ref a_T_behindAsWoken, .int T_standing, .int T_goodRounds, .int T_soonestEnd, .int T_roundsAsWoken])), (a_T_behindAsWoken, .inl (cI, 6, .inl T_behindAsWoken))] sz)) 0 0 (va_A [(a_T, .inr (6, [.ref a_T_round, .ref a_T_keptSets, .ref a_T_firstGood, .ref a_T_soonestGood, .ref a_T_earliest, .ref a_T_latest, .ref a_T_behind, .ref a_T_behindAsWoken, .int T_standing, .int T_goodRounds, .int T_soonestEnd, .int T_roundsAsWoken])), (a_T_behindAsWoken, .inl (cI, 6, .inl T_behindAsWoken))] sz) := by
  refine Met.ofW (cc := cX6_twosAsWoken) (maxL := 3) (ret := (some .int)) (by decide) rfl ?_
  intro p e s m args below meth c s₁ B hml hv
  obtain ⟨rfl, hsz, hP, hK, hD0, hN⟩ := hv
  have hx := B.exec
  have hb := B.bytes
  have hrt := B.returns
  have hts := atoms_spec (ws := wsX6_twosAsWoken) B.pre
  have hown : s.vm.findClass RX6 = some m.cls := findClass_of_methodNamed B.named
  have hlocks := B.notSynchronized
  subst hsz
  have hD := hD0.self (sz := s.heap.size)
  generalize hAe : va_A [(a_T, .inr (6, [.ref a_T_round, .ref a_T_keptSets, .ref a_T_firstGood, .ref a_T_soonestGood, .ref a_T_earliest, .ref a_T_latest, .ref a_T_behind, .ref a_T_behindAsWoken, .int T_standing, .int T_goodRounds, .int T_soonestEnd, .int T_roundsAsWoken])), (a_T_behindAsWoken, .inl (cI, 6, .inl T_behindAsWoken))] s.heap.size = A at hD ⊢
  have hA : ∀ q : Nat, s.heap.size ≤ q → A q := fun q h => by rw [← hAe]; exact Or.inr h
  have hS : va_S A s.heap s.heap [] := va_S.rf
  have hl := lv_entry ([.ref a_T] : List Value) (n := 3) (Nat.le_of_ble_eq_true rfl)
  rw [lg_entry_eq]
  generalize (lg_sl ([.ref a_T] : List Value) ++ List.replicate (3 - (lg_sl ([.ref a_T] : List Value)).length) Slot.unset).toArray = ls at hl ⊢
  replace hl : lv_has ls 3 [(0, .ref a_T)] := hl
  obtain ⟨Q, hQ⟩ : ∃ Q, Q = MQ below (va_Qi (fun r (_ : Unit) => r = R) (fun _ => BW (dC, dI) (tysA cC cI cJ) A [(a_T, .inr (6, [.ref a_T_round, .ref a_T_keptSets, .ref a_T_firstGood, .ref a_T_soonestGood, .ref a_T_earliest, .ref a_T_latest, .ref a_T_behind, .ref a_T_behindAsWoken, .int T_standing, .int T_goodRounds, .int T_soonestEnd, .int T_roundsAsWoken])), (a_T_behindAsWoken, .inl (cI, 6, .inl T_behindAsWoken))]) A) ([.ref a_T] : List Value).toArray s 0 0 A := ⟨_, rfl⟩
  rw [← hQ]
  suffices hE : WG p l e rmX6_twosAsWoken s m ([.ref a_T] : List Value).toArray below meth c 0 0 Q (dC, dI) A 0 3 [(a_T, .inr (6, [.ref a_T_round, .ref a_T_keptSets, .ref a_T_firstGood, .ref a_T_soonestGood, .ref a_T_earliest, .ref a_T_latest, .ref a_T_behind, .ref a_T_behindAsWoken, .int T_standing, .int T_goodRounds, .int T_soonestEnd, .int T_roundsAsWoken])), (a_T_behindAsWoken, .inl (cI, 6, .inl T_behindAsWoken))] [(0, .ref a_T)] [] from hE _ _ _ hP hD hS hl
  clear hP hD hS hl hD0 hAe
  intro H locs ls hP hD hS hl
  unfold fX6_twosAsWoken at hr
  refine lv_iconst (v := 0) hx hb dX6_twosAsWoken_0 (by decide) ?_
  refine lv_istore_n (lv' := [(1, .int 0), (0, .ref a_T)]) hx hb dX6_twosAsWoken_1 rfl hl (by decide) rfl (fun ls hl => ?_)
  refine lv_iconst (v := 0) hx hb dX6_twosAsWoken_2 (by decide) ?_
  refine lv_istore_n (lv' := [(2, .int 0), (1, .int 0), (0, .ref a_T)]) hx hb dX6_twosAsWoken_3 rfl hl (by decide) rfl (fun ls hl => ?_)
  have hL1 : ∀ (n1 : Nat) (x1 : Int32) (x2 : Int32) (x1_1 : Int32), fX6_twosAsWoken_L4 K T_behindAsWoken n1 x1 x2 = some x1_1 → WG p l e rmX6_twosAsWoken s m ([.ref a_T] : List Value).toArray below meth c 0 0 Q (dC, dI) A 31 3 [(a_T, .inr (6, [.ref a_T_round, .ref a_T_keptSets, .ref a_T_firstGood, .ref a_T_soonestGood, .ref a_T_earliest, .ref a_T_latest, .ref a_T_behind, .ref a_T_behindAsWoken, .int T_standing, .int T_goodRounds, .int T_soonestEnd, .int T_roundsAsWoken])), (a_T_behindAsWoken, .inl (cI, 6, .inl T_behindAsWoken))] [(1, .int x1_1)] [] → WG p l e rmX6_twosAsWoken s m ([.ref a_T] : List Value).toArray below meth c 0 0 Q (dC, dI) A 4 3 [(a_T, .inr (6, [.ref a_T_round, .ref a_T_keptSets, .ref a_T_firstGood, .ref a_T_soonestGood, .ref a_T_earliest, .ref a_T_latest, .ref a_T_behind, .ref a_T_behindAsWoken, .int T_standing, .int T_goodRounds, .int T_soonestEnd, .int T_roundsAsWoken])), (a_T_behindAsWoken, .inl (cI, 6, .inl T_behindAsWoken))] [(0, .ref a_T), (1, .int x1), (2, .int x2)] [] := by
    intro n1
    induction n1 with
    | zero =>
      intro x1 x2 x1_1 hr
      rw [fX6_twosAsWoken_L4] at hr
      cases hr
    | succ n1 ih4 =>
      intro x1 x2 x1_1 hr hX1 H locs ls hP hD hS hl
      rw [fX6_twosAsWoken_L4] at hr
      refine lv_iload_n hx hb dX6_twosAsWoken_4 rfl (lv_at hl 2 rfl) ?_
      refine lv_aload_n hx hb dX6_twosAsWoken_5 rfl (lv_at hl 0 rfl) ?_
      refine va_get (D := (dC, dI)) (ci := 6) (v := .ref a_T_behindAsWoken) (C := RX6) (T := TX6) (N := 12) hx hb hts inX6_twosAsWoken_X6 hown hK hP 0 rfl rfl 7 (by decide) (hts _ mbX6_twosAsWoken_0) (fun _ h9 => h9) rfl dX6_twosAsWoken_6 ?_
      refine va_alen (v := nI 6) hx hb hK hP 1 1 rfl rfl rfl dX6_twosAsWoken_9 ?_
      refine lv_icmp_ge (tgt := 31) hx hb dX6_twosAsWoken_10 (by decide) (fun c1 => ?_) (fun c1 => ?_)
      · replace hr := it_t hr c1
        have he := Option.some.inj hr
        cases he
        exact hX1 H locs ls hP hD hS (lv_sub hl [1] rfl)
      · replace hr := it_f hr c1
        refine lv_iload_n hx hb dX6_twosAsWoken_13 rfl (lv_at hl 1 rfl) ?_
        refine lv_aload_n hx hb dX6_twosAsWoken_14 rfl (lv_at hl 0 rfl) ?_
        refine va_get (D := (dC, dI)) (ci := 6) (v := .ref a_T_behindAsWoken) (C := RX6) (T := TX6) (N := 12) hx hb hts inX6_twosAsWoken_X6 hown hK hP 0 rfl rfl 7 (by decide) (hts _ mbX6_twosAsWoken_0) (fun _ h9 => h9) rfl dX6_twosAsWoken_15 ?_
        refine lv_iload_n hx hb dX6_twosAsWoken_18 rfl (lv_at hl 2 rfl) ?_
        obtain ⟨g1, hr⟩ := gd_some hr
        refine va_iald hx hb hK hP 1 1 rfl rfl g1 dX6_twosAsWoken_19 ?_
        obtain ⟨r, hc1, hr⟩ := bd1_some hr
        refine call_i (D := (dC, dI)) (tys := tysA cC cI cJ) (wc := []) (wr := [(a_T, .inr (6, [.ref a_T_round, .ref a_T_keptSets, .ref a_T_firstGood, .ref a_T_soonestGood, .ref a_T_earliest, .ref a_T_latest, .ref a_T_behind, .ref a_T_behindAsWoken, .int T_standing, .int T_goodRounds, .int T_soonestEnd, .int T_roundsAsWoken])), (a_T_behindAsWoken, .inl (cI, 6, .inl T_behindAsWoken))]) (w1 := []) (wn := [(a_T, .inr (6, [.ref a_T_round, .ref a_T_keptSets, .ref a_T_firstGood, .ref a_T_soonestGood, .ref a_T_earliest, .ref a_T_latest, .ref a_T_behind, .ref a_T_behindAsWoken, .int T_standing, .int T_goodRounds, .int T_soonestEnd, .int T_roundsAsWoken])), (a_T_behindAsWoken, .inl (cI, 6, .inl T_behindAsWoken))]) (r0 := r) hP hD hS hA [] [0, 1] [0, 1] rfl rfl (by decide +kernel) (by decide +kernel) rfl (by decide +kernel) (va_runS (As := [.int (T_behindAsWoken x2.toNatClampNeg)]) (rest := [.int x1]) ⟨hx, hb, hml, hown, hts⟩ (kJ6_bitCount_0f7a4 l dC dI cC cI cJ H.size K (T_behindAsWoken x2.toNatClampNeg) r hc1) (va_cwS 1 hts gX6_twosAsWoken_J6_bitCount_0f7a4 rfl rfl rfl (by decide +kernel) ⟨Nat.le_of_ble_eq_true rfl, Nat.le_of_ble_eq_true rfl⟩) ⟨fbW, preW hP hD hK hN [] rfl (by decide +kernel)⟩ rfl rfl hl.1 rfl (lv_room (Nat.le_of_ble_eq_true rfl)) dX6_twosAsWoken_20 ⟨Nat.zero_le _, Nat.zero_le _⟩) (fun H locs hP hD hS => ?_)
        refine lv_iadd hx hb dX6_twosAsWoken_23 ?_
        obtain ⟨x1_2, e1, hr⟩ := nm_el hr
        refine lv_nmi e1 ?_
        refine lv_istore_n (lv' := [(1, .int x1_2), (0, .ref a_T), (2, .int x2)]) hx hb dX6_twosAsWoken_24 rfl hl (by decide) rfl (fun ls hl => ?_)
        obtain ⟨x2_1, e2, hr⟩ := nm_el hr
        refine lv_iinc (v := x2_1) (lv' := [(2, .int x2_1), (1, .int x1_2), (0, .ref a_T)]) hx hb dX6_twosAsWoken_25 hl (k := 2) rfl e2.symm (by decide) rfl (fun ls hl => ?_)
        refine lv_goto (tgt := 4) hx hb dX6_twosAsWoken_28 (by decide) ?_
        exact ih4 _ _ _ hr hX1 H locs ls hP hD hS (lv_sub hl [2, 1, 0] rfl)
  obtain ⟨x1_1, hE, hr⟩ := bd1_some hr
  refine hL1 K 0 0 x1_1 hE ?_ H locs ls hP hD hS (lv_sub hl [2, 1, 0] rfl)
  intro H locs ls hP hD hS hl
  refine lv_iload_n hx hb dX6_twosAsWoken_31 rfl (lv_at hl 0 rfl) ?_
  have he := Option.some.inj hr
  subst he
  subst hQ
  exact ret_i hx hb hrt hK hP hD hS hlocks dX6_twosAsWoken_32
def fX6_firstTwoAsWoken_L13 (K : Nat) (x1 : Int32) (T_behindAsWoken : (Nat → Int32)) : Nat → Int32 → Option (((Int32) ⊕ (Unit)) ⊕ (Unit))
  | 0, _ => none
  | n2 + 1, x2 =>
    if 6 ≤ (x2 : Int32) then (
    some (.inr ()))
    else (
    gd (¬ ((x1 : Int32) < 0 ∨ 6 ≤ x1.toNatClampNeg)) (
    bd1 (fX8_has K (T_behindAsWoken x1.toNatClampNeg) x2) fun r =>
    if (r : Int32) = 0 then (
    nm (x2 + 1) fun x2_1 =>
    fX6_firstTwoAsWoken_L13 K x1 T_behindAsWoken n2 x2_1)
    else (
    some (.inl (.inl ((10 * x1) + x2))))))
def fX6_firstTwoAsWoken_L2 (K : Nat) (T_behindAsWoken : (Nat → Int32)) : Nat → Int32 → Option ((Int32) ⊕ (Unit))
  | 0, _ => none
  | n1 + 1, x1 =>
    if (nI 6) ≤ (x1 : Int32) then (
    some (.inr ()))
    else (
    bs0 (fX6_firstTwoAsWoken_L13 K x1 T_behindAsWoken K 0) (
    nm (x1 + 1) fun x1_1 =>
    fX6_firstTwoAsWoken_L2 K T_behindAsWoken n1 x1_1))
def fX6_firstTwoAsWoken (K : Nat) (T_behindAsWoken : (Nat → Int32)) : Option (Int32) :=
    bs0 (fX6_firstTwoAsWoken_L2 K T_behindAsWoken K 0) (
    some (-4))
theorem mbX6_firstTwoAsWoken_0 : Cond.fieldLink RX6 37 "BootsAtDawn$Survey" "behindAsWoken" "[I" ∈ wsX6_firstTwoAsWoken := List.mem_of_getElem? (i := 1) rfl
theorem inX6_firstTwoAsWoken_X6 : ∀ w ∈ u_ws RX6 TX6 12, w ∈ wsX6_firstTwoAsWoken := fun _ h => (List.mem_cons_of_mem _ (List.mem_append_right _ h))
theorem mbX6_firstTwoAsWoken_2 : Cond.initialized RX8 ∈ wsX6_firstTwoAsWoken := List.mem_of_getElem? (i := 3) rfl
theorem mbX6_firstTwoAsWoken_3 : Cond.static yX8_has ∈ wsX6_firstTwoAsWoken := List.mem_of_getElem? (i := 2) rfl
abbrev rmX6_firstTwoAsWoken : Room := { frames := 1, cells := 0, slots := 0, locals := 21 }
set_option maxHeartbeats 8000000 in
set_option maxRecDepth 100000 in
theorem kX6_firstTwoAsWoken (l : Launch) (dC : Nat → ClassId) (dI : Nat → Nat → Nat) (cC cI cJ : ClassId) (sz : Nat) (K : Nat) (a_T a_T_round a_T_keptSets a_T_firstGood a_T_soonestGood a_T_earliest a_T_latest a_T_behind a_T_behindAsWoken : Nat) (T_standing : Int32) (T_goodRounds : Int32) (T_soonestEnd : Int32) (T_roundsAsWoken : Int32) (T_behindAsWoken : (Nat → Int32)) (R : Int32) (hr : fX6_firstTwoAsWoken K T_behindAsWoken = some R) : Met l yX6_firstTwoAsWoken wsX6_firstTwoAsWoken rmX6_firstTwoAsWoken (va_Pc ([.ref a_T] : List Value) (PcW (dC, dI) (tysA cC cI cJ) sz [(a_T, .inr (6, [.ref a_T_round, .ref a_T_keptSets, .ref a_T_firstGood, .ref a_T_soonestGood, .ref a_T_earliest, .ref a_T_latest, .ref a_T_behind, .ref a_T_behindAsWoken, .int T_standing, .int T_goodRounds, .int T_soonestEnd, .int T_roundsAsWoken])), (a_T_behindAsWoken, .inl (cI, 6, .inl T_behindAsWoken))])) (va_Qi (fun r (_ : Unit) => r = R) (fun _ => BW (dC, dI) (tysA cC cI cJ) (va_A [(a_T, .inr (6, [.ref a_T_round, .ref a_T_keptSets, .ref a_T_firstGood, .ref a_T_soonestGood, .ref a_T_earliest, .ref a_T_latest, .ref a_T_behind, .ref a_T_behindAsWoken, .int T_standing, .int T_goodRounds, .int T_soonestEnd, .int T_roundsAsWoken])), (a_T_behindAsWoken, .inl (cI, 6, .inl T_behindAsWoken))] sz) [(a_T, .inr (6, [.ref a_T_round, .ref a_T_keptSets, .ref a_T_firstGood, .ref a_T_soonestGood, .ref a_T_earliest, .ref a_T_latest, .ref a_T_behind, .ref a_T_behindAsWoken, .int T_standing, .int T_goodRounds, .int T_soonestEnd, .int T_roundsAsWoken])), (a_T_behindAsWoken, .inl (cI, 6, .inl T_behindAsWoken))]) (va_A [(a_T, .inr (6, [.ref a_T_round, .ref a_T_keptSets, .ref a_T_firstGood, .ref a_T_soonestGood, .ref a_T_earliest, .ref a_T_latest, .ref a_T_behind, .ref a_T_behindAsWoken, .int T_standing, .int T_goodRounds, .int T_soonestEnd, .int T_roundsAsWoken])), (a_T_behindAsWoken, .inl (cI, 6, .inl T_behindAsWoken))] sz)) 0 0 (va_A [(a_T, .inr (6, [.ref a_T_round, .ref a_T_keptSets, .ref a_T_firstGood, .ref a_T_soonestGood, .ref a_T_earliest, .ref a_T_latest, .ref a_T_behind, .ref a_T_behindAsWoken, .int T_standing, .int T_goodRounds, .int T_soonestEnd, .int T_roundsAsWoken])), (a_T_behindAsWoken, .inl (cI, 6, .inl T_behindAsWoken))] sz) := by
  refine Met.ofW (cc := cX6_firstTwoAsWoken) (maxL := 3) (ret := (some .int)) (by decide) rfl ?_
  intro p e s m args below meth c s₁ B hml hv
  obtain ⟨rfl, hsz, hP, hK, hD0, hN⟩ := hv
  have hx := B.exec
  have hb := B.bytes
  have hrt := B.returns
  have hts := atoms_spec (ws := wsX6_firstTwoAsWoken) B.pre
  have hown : s.vm.findClass RX6 = some m.cls := findClass_of_methodNamed B.named
  have hlocks := B.notSynchronized
  subst hsz
  have hD := hD0.self (sz := s.heap.size)
  generalize hAe : va_A [(a_T, .inr (6, [.ref a_T_round, .ref a_T_keptSets, .ref a_T_firstGood, .ref a_T_soonestGood, .ref a_T_earliest, .ref a_T_latest, .ref a_T_behind, .ref a_T_behindAsWoken, .int T_standing, .int T_goodRounds, .int T_soonestEnd, .int T_roundsAsWoken])), (a_T_behindAsWoken, .inl (cI, 6, .inl T_behindAsWoken))] s.heap.size = A at hD ⊢
  have hA : ∀ q : Nat, s.heap.size ≤ q → A q := fun q h => by rw [← hAe]; exact Or.inr h
  have hS : va_S A s.heap s.heap [] := va_S.rf
  have hl := lv_entry ([.ref a_T] : List Value) (n := 3) (Nat.le_of_ble_eq_true rfl)
  rw [lg_entry_eq]
  generalize (lg_sl ([.ref a_T] : List Value) ++ List.replicate (3 - (lg_sl ([.ref a_T] : List Value)).length) Slot.unset).toArray = ls at hl ⊢
  replace hl : lv_has ls 3 [(0, .ref a_T)] := hl
  obtain ⟨Q, hQ⟩ : ∃ Q, Q = MQ below (va_Qi (fun r (_ : Unit) => r = R) (fun _ => BW (dC, dI) (tysA cC cI cJ) A [(a_T, .inr (6, [.ref a_T_round, .ref a_T_keptSets, .ref a_T_firstGood, .ref a_T_soonestGood, .ref a_T_earliest, .ref a_T_latest, .ref a_T_behind, .ref a_T_behindAsWoken, .int T_standing, .int T_goodRounds, .int T_soonestEnd, .int T_roundsAsWoken])), (a_T_behindAsWoken, .inl (cI, 6, .inl T_behindAsWoken))]) A) ([.ref a_T] : List Value).toArray s 0 0 A := ⟨_, rfl⟩
  rw [← hQ]
  suffices hE : WG p l e rmX6_firstTwoAsWoken s m ([.ref a_T] : List Value).toArray below meth c 0 0 Q (dC, dI) A 0 3 [(a_T, .inr (6, [.ref a_T_round, .ref a_T_keptSets, .ref a_T_firstGood, .ref a_T_soonestGood, .ref a_T_earliest, .ref a_T_latest, .ref a_T_behind, .ref a_T_behindAsWoken, .int T_standing, .int T_goodRounds, .int T_soonestEnd, .int T_roundsAsWoken])), (a_T_behindAsWoken, .inl (cI, 6, .inl T_behindAsWoken))] [(0, .ref a_T)] [] from hE _ _ _ hP hD hS hl
  clear hP hD hS hl hD0 hAe
  intro H locs ls hP hD hS hl
  unfold fX6_firstTwoAsWoken at hr
  refine lv_iconst (v := 0) hx hb dX6_firstTwoAsWoken_0 (by decide) ?_
  refine lv_istore_n (lv' := [(1, .int 0), (0, .ref a_T)]) hx hb dX6_firstTwoAsWoken_1 rfl hl (by decide) rfl (fun ls hl => ?_)
  have hL2 : ∀ (n1 : Nat) (x1 : Int32) (X1 : (Int32) ⊕ (Unit)), fX6_firstTwoAsWoken_L2 K T_behindAsWoken n1 x1 = some X1 → (∀ t, X1 = .inl t → t = R) → (X1 = .inr () → WG p l e rmX6_firstTwoAsWoken s m ([.ref a_T] : List Value).toArray below meth c 0 0 Q (dC, dI) A 51 3 [(a_T, .inr (6, [.ref a_T_round, .ref a_T_keptSets, .ref a_T_firstGood, .ref a_T_soonestGood, .ref a_T_earliest, .ref a_T_latest, .ref a_T_behind, .ref a_T_behindAsWoken, .int T_standing, .int T_goodRounds, .int T_soonestEnd, .int T_roundsAsWoken])), (a_T_behindAsWoken, .inl (cI, 6, .inl T_behindAsWoken))] [] []) → WG p l e rmX6_firstTwoAsWoken s m ([.ref a_T] : List Value).toArray below meth c 0 0 Q (dC, dI) A 2 3 [(a_T, .inr (6, [.ref a_T_round, .ref a_T_keptSets, .ref a_T_firstGood, .ref a_T_soonestGood, .ref a_T_earliest, .ref a_T_latest, .ref a_T_behind, .ref a_T_behindAsWoken, .int T_standing, .int T_goodRounds, .int T_soonestEnd, .int T_roundsAsWoken])), (a_T_behindAsWoken, .inl (cI, 6, .inl T_behindAsWoken))] [(0, .ref a_T), (1, .int x1)] [] := by
    intro n1
    induction n1 with
    | zero =>
      intro x1 X1 hr
      rw [fX6_firstTwoAsWoken_L2] at hr
      cases hr
    | succ n1 ih2 =>
      intro x1 X1 hr hi1 hX1 H locs ls hP hD hS hl
      rw [fX6_firstTwoAsWoken_L2] at hr
      refine lv_iload_n hx hb dX6_firstTwoAsWoken_2 rfl (lv_at hl 1 rfl) ?_
      refine lv_aload_n hx hb dX6_firstTwoAsWoken_3 rfl (lv_at hl 0 rfl) ?_
      refine va_get (D := (dC, dI)) (ci := 6) (v := .ref a_T_behindAsWoken) (C := RX6) (T := TX6) (N := 12) hx hb hts inX6_firstTwoAsWoken_X6 hown hK hP 0 rfl rfl 7 (by decide) (hts _ mbX6_firstTwoAsWoken_0) (fun _ h9 => h9) rfl dX6_firstTwoAsWoken_4 ?_
      refine va_alen (v := nI 6) hx hb hK hP 1 1 rfl rfl rfl dX6_firstTwoAsWoken_7 ?_
      refine lv_icmp_ge (tgt := 51) hx hb dX6_firstTwoAsWoken_8 (by decide) (fun c1 => ?_) (fun c1 => ?_)
      · replace hr := it_t hr c1
        have he := Option.some.inj hr
        exact hX1 he.symm H locs ls hP hD hS (lv_sub hl [] rfl)
      · replace hr := it_f hr c1
        refine lv_iconst (v := 0) hx hb dX6_firstTwoAsWoken_11 (by decide) ?_
        refine lv_istore_n (lv' := [(2, .int 0), (0, .ref a_T), (1, .int x1)]) hx hb dX6_firstTwoAsWoken_12 rfl hl (by decide) rfl (fun ls hl => ?_)
        have hL1 : ∀ (n2 : Nat) (x2 : Int32) (X2 : ((Int32) ⊕ (Unit)) ⊕ (Unit)), fX6_firstTwoAsWoken_L13 K x1 T_behindAsWoken n2 x2 = some X2 → (∀ t, X2 = .inl t → t = X1) → (X2 = .inr () → WG p l e rmX6_firstTwoAsWoken s m ([.ref a_T] : List Value).toArray below meth c 0 0 Q (dC, dI) A 45 3 [(a_T, .inr (6, [.ref a_T_round, .ref a_T_keptSets, .ref a_T_firstGood, .ref a_T_soonestGood, .ref a_T_earliest, .ref a_T_latest, .ref a_T_behind, .ref a_T_behindAsWoken, .int T_standing, .int T_goodRounds, .int T_soonestEnd, .int T_roundsAsWoken])), (a_T_behindAsWoken, .inl (cI, 6, .inl T_behindAsWoken))] [(0, .ref a_T), (1, .int x1)] []) → WG p l e rmX6_firstTwoAsWoken s m ([.ref a_T] : List Value).toArray below meth c 0 0 Q (dC, dI) A 13 3 [(a_T, .inr (6, [.ref a_T_round, .ref a_T_keptSets, .ref a_T_firstGood, .ref a_T_soonestGood, .ref a_T_earliest, .ref a_T_latest, .ref a_T_behind, .ref a_T_behindAsWoken, .int T_standing, .int T_goodRounds, .int T_soonestEnd, .int T_roundsAsWoken])), (a_T_behindAsWoken, .inl (cI, 6, .inl T_behindAsWoken))] [(0, .ref a_T), (1, .int x1), (2, .int x2)] [] := by
          intro n2
          induction n2 with
          | zero =>
            intro x2 X2 hr
            rw [fX6_firstTwoAsWoken_L13] at hr
            cases hr
          | succ n2 ih13 =>
            intro x2 X2 hr hi2 hX2 H locs ls hP hD hS hl
            rw [fX6_firstTwoAsWoken_L13] at hr
            refine lv_iload_n hx hb dX6_firstTwoAsWoken_13 rfl (lv_at hl 2 rfl) ?_
            refine lv_bipush (v := 6) hx hb dX6_firstTwoAsWoken_14 (by decide) ?_
            refine lv_icmp_ge (tgt := 45) hx hb dX6_firstTwoAsWoken_16 (by decide) (fun c2 => ?_) (fun c2 => ?_)
            · replace hr := it_t hr c2
              have he := Option.some.inj hr
              exact hX2 he.symm H locs ls hP hD hS (lv_sub hl [0, 1] rfl)
            · replace hr := it_f hr c2
              refine lv_aload_n hx hb dX6_firstTwoAsWoken_19 rfl (lv_at hl 0 rfl) ?_
              refine va_get (D := (dC, dI)) (ci := 6) (v := .ref a_T_behindAsWoken) (C := RX6) (T := TX6) (N := 12) hx hb hts inX6_firstTwoAsWoken_X6 hown hK hP 0 rfl rfl 7 (by decide) (hts _ mbX6_firstTwoAsWoken_0) (fun _ h9 => h9) rfl dX6_firstTwoAsWoken_20 ?_
              refine lv_iload_n hx hb dX6_firstTwoAsWoken_23 rfl (lv_at hl 1 rfl) ?_
              obtain ⟨g1, hr⟩ := gd_some hr
              refine va_iald hx hb hK hP 1 1 rfl rfl g1 dX6_firstTwoAsWoken_24 ?_
              refine lv_iload_n hx hb dX6_firstTwoAsWoken_25 rfl (lv_at hl 2 rfl) ?_
              obtain ⟨r, hc1, hr⟩ := bd1_some hr
              refine call_i (D := (dC, dI)) (tys := tysA cC cI cJ) (wc := []) (wr := [(a_T, .inr (6, [.ref a_T_round, .ref a_T_keptSets, .ref a_T_firstGood, .ref a_T_soonestGood, .ref a_T_earliest, .ref a_T_latest, .ref a_T_behind, .ref a_T_behindAsWoken, .int T_standing, .int T_goodRounds, .int T_soonestEnd, .int T_roundsAsWoken])), (a_T_behindAsWoken, .inl (cI, 6, .inl T_behindAsWoken))]) (w1 := []) (wn := [(a_T, .inr (6, [.ref a_T_round, .ref a_T_keptSets, .ref a_T_firstGood, .ref a_T_soonestGood, .ref a_T_earliest, .ref a_T_latest, .ref a_T_behind, .ref a_T_behindAsWoken, .int T_standing, .int T_goodRounds, .int T_soonestEnd, .int T_roundsAsWoken])), (a_T_behindAsWoken, .inl (cI, 6, .inl T_behindAsWoken))]) (r0 := r) hP hD hS hA [] [0, 1] [0, 1] rfl rfl (by decide +kernel) (by decide +kernel) rfl (by decide +kernel) (va_runSN (host := "BootsAtDawn") (As := [.int (T_behindAsWoken x1.toNatClampNeg), .int x2]) (rest := []) ⟨hx, hb, hml, hown, hts⟩ (kX8_has l dC dI cC cI cJ H.size K (T_behindAsWoken x1.toNatClampNeg) x2 r hc1) ⟨va_cnB 2 hts gX6_firstTwoAsWoken_X8_has_n143 rfl rfl rfl (hN _ nw_105) (hts _ mbX6_firstTwoAsWoken_2) (by decide +kernel) ⟨Nat.le_of_ble_eq_true rfl, Nat.le_of_ble_eq_true rfl⟩, (hts _ mbX6_firstTwoAsWoken_3), trivial⟩ ⟨fbW, preW hP hD hK hN [] rfl (by decide +kernel)⟩ rfl rfl hl.1 rfl (lv_room (Nat.le_of_ble_eq_true rfl)) dX6_firstTwoAsWoken_26 ⟨Nat.zero_le _, Nat.zero_le _⟩) (fun H locs hP hD hS => ?_)
              refine lv_if_eq (tgt := 39) hx hb dX6_firstTwoAsWoken_29 (by decide) (fun c3 => ?_) (fun c3 => ?_)
              · replace hr := it_t hr c3
                obtain ⟨x2_1, e1, hr⟩ := nm_el hr
                refine lv_iinc (v := x2_1) (lv' := [(2, .int x2_1), (0, .ref a_T), (1, .int x1)]) hx hb dX6_firstTwoAsWoken_39 hl (k := 2) rfl e1.symm (by decide) rfl (fun ls hl => ?_)
                refine lv_goto (tgt := 13) hx hb dX6_firstTwoAsWoken_42 (by decide) ?_
                exact ih13 _ _ hr hi2 hX2 H locs ls hP hD hS (lv_sub hl [1, 2, 0] rfl)
              · replace hr := it_f hr c3
                refine lv_bipush (v := 10) hx hb dX6_firstTwoAsWoken_32 (by decide) ?_
                refine lv_iload_n hx hb dX6_firstTwoAsWoken_34 rfl (lv_at hl 1 rfl) ?_
                refine lv_imul hx hb dX6_firstTwoAsWoken_35 ?_
                refine lv_iload_n hx hb dX6_firstTwoAsWoken_36 rfl (lv_at hl 2 rfl) ?_
                refine lv_iadd hx hb dX6_firstTwoAsWoken_37 ?_
                have he := Option.some.inj hr
                replace he := hi2 _ he.symm
                replace he := hi1 _ he.symm
                subst he
                subst hQ
                exact ret_i hx hb hrt hK hP hD hS hlocks dX6_firstTwoAsWoken_38
        obtain ⟨XE, hE, hi0, hk⟩ := bs0_some hr
        refine hL1 K 0 XE hE hi0 ?_ H locs ls hP hD hS (lv_sub hl [1, 2, 0] rfl)
        intro he H locs ls hP hD hS hl
        replace hr := hk he
        obtain ⟨x1_1, e2, hr⟩ := nm_el hr
        refine lv_iinc (v := x1_1) (lv' := [(1, .int x1_1), (0, .ref a_T)]) hx hb dX6_firstTwoAsWoken_45 hl (k := 1) rfl e2.symm (by decide) rfl (fun ls hl => ?_)
        refine lv_goto (tgt := 2) hx hb dX6_firstTwoAsWoken_48 (by decide) ?_
        exact ih2 _ _ hr hi1 hX1 H locs ls hP hD hS (lv_sub hl [1, 0] rfl)
  obtain ⟨XE, hE, hi0, hk⟩ := bs0_some hr
  refine hL2 K 0 XE hE hi0 ?_ H locs ls hP hD hS (lv_sub hl [1, 0] rfl)
  intro he H locs ls hP hD hS hl
  replace hr := hk he
  refine lv_bipush (v := (-4)) hx hb dX6_firstTwoAsWoken_51 (by decide) ?_
  have he := Option.some.inj hr
  subst he
  subst hQ
  exact ret_i hx hb hrt hK hP hD hS hlocks dX6_firstTwoAsWoken_53
def fX7_isFull (K : Nat) (T_length : Int32) : Option (Int32) :=
    if (T_length : Int32) < (nI 200) then (
    some 0)
    else (
    some 1)
theorem mbX7_isFull_0 : Cond.fieldLink RX7 15 "BootsAtDawn$Text" "length" "I" ∈ wsX7_isFull := List.mem_of_getElem? (i := 1) rfl
theorem inX7_isFull_X7 : ∀ w ∈ u_ws RX7 TX7 2, w ∈ wsX7_isFull := fun _ h => (List.mem_cons_of_mem _ (List.mem_append_right _ h))
theorem mbX7_isFull_2 : Cond.fieldLink RX7 9 "BootsAtDawn$Text" "letters" "[C" ∈ wsX7_isFull := List.mem_of_getElem? (i := 2) rfl
abbrev rmX7_isFull : Room := { frames := 0, cells := 0, slots := 0, locals := 0 }
set_option maxHeartbeats 8000000 in
set_option maxRecDepth 100000 in
theorem kX7_isFull (l : Launch) (dC : Nat → ClassId) (dI : Nat → Nat → Nat) (cC cI cJ : ClassId) (sz : Nat) (K : Nat) (a_T a_T_letters : Nat) (T_length : Int32) (T_letters : (Nat → Int32)) (R : Int32) (hr : fX7_isFull K T_length = some R) : Met l yX7_isFull wsX7_isFull rmX7_isFull (va_Pc ([.ref a_T] : List Value) (PcW (dC, dI) (tysA cC cI cJ) sz [(a_T, .inr (7, [.ref a_T_letters, .int T_length])), (a_T_letters, .inl (cC, 200, .inl T_letters))])) (va_Qi (fun r (_ : Unit) => r = R) (fun _ => BW (dC, dI) (tysA cC cI cJ) (va_A [(a_T, .inr (7, [.ref a_T_letters, .int T_length])), (a_T_letters, .inl (cC, 200, .inl T_letters))] sz) [(a_T, .inr (7, [.ref a_T_letters, .int T_length])), (a_T_letters, .inl (cC, 200, .inl T_letters))]) (va_A [(a_T, .inr (7, [.ref a_T_letters, .int T_length])), (a_T_letters, .inl (cC, 200, .inl T_letters))] sz)) 0 0 (va_A [(a_T, .inr (7, [.ref a_T_letters, .int T_length])), (a_T_letters, .inl (cC, 200, .inl T_letters))] sz) := by
  refine Met.ofW (cc := cX7_isFull) (maxL := 1) (ret := (some .boolean)) (by decide) rfl ?_
  intro p e s m args below meth c s₁ B hml hv
  obtain ⟨rfl, hsz, hP, hK, hD0, hN⟩ := hv
  have hx := B.exec
  have hb := B.bytes
  have hrt := B.returns
  have hts := atoms_spec (ws := wsX7_isFull) B.pre
  have hown : s.vm.findClass RX7 = some m.cls := findClass_of_methodNamed B.named
  have hlocks := B.notSynchronized
  subst hsz
  have hD := hD0.self (sz := s.heap.size)
  generalize hAe : va_A [(a_T, .inr (7, [.ref a_T_letters, .int T_length])), (a_T_letters, .inl (cC, 200, .inl T_letters))] s.heap.size = A at hD ⊢
  have hA : ∀ q : Nat, s.heap.size ≤ q → A q := fun q h => by rw [← hAe]; exact Or.inr h
  have hS : va_S A s.heap s.heap [] := va_S.rf
  have hl := lv_entry ([.ref a_T] : List Value) (n := 1) (Nat.le_of_ble_eq_true rfl)
  rw [lg_entry_eq]
  generalize (lg_sl ([.ref a_T] : List Value) ++ List.replicate (1 - (lg_sl ([.ref a_T] : List Value)).length) Slot.unset).toArray = ls at hl ⊢
  replace hl : lv_has ls 1 [(0, .ref a_T)] := hl
  obtain ⟨Q, hQ⟩ : ∃ Q, Q = MQ below (va_Qi (fun r (_ : Unit) => r = R) (fun _ => BW (dC, dI) (tysA cC cI cJ) A [(a_T, .inr (7, [.ref a_T_letters, .int T_length])), (a_T_letters, .inl (cC, 200, .inl T_letters))]) A) ([.ref a_T] : List Value).toArray s 0 0 A := ⟨_, rfl⟩
  rw [← hQ]
  suffices hE : WG p l e rmX7_isFull s m ([.ref a_T] : List Value).toArray below meth c 0 0 Q (dC, dI) A 0 1 [(a_T, .inr (7, [.ref a_T_letters, .int T_length])), (a_T_letters, .inl (cC, 200, .inl T_letters))] [(0, .ref a_T)] [] from hE _ _ _ hP hD hS hl
  clear hP hD hS hl hD0 hAe
  intro H locs ls hP hD hS hl
  unfold fX7_isFull at hr
  refine lv_aload_n hx hb dX7_isFull_0 rfl (lv_at hl 0 rfl) ?_
  refine va_get (D := (dC, dI)) (ci := 7) (v := .int T_length) (C := RX7) (T := TX7) (N := 2) hx hb hts inX7_isFull_X7 hown hK hP 0 rfl rfl 1 (by decide) (hts _ mbX7_isFull_0) (fun _ h9 => h9) rfl dX7_isFull_1 ?_
  refine lv_aload_n hx hb dX7_isFull_4 rfl (lv_at hl 0 rfl) ?_
  refine va_get (D := (dC, dI)) (ci := 7) (v := .ref a_T_letters) (C := RX7) (T := TX7) (N := 2) hx hb hts inX7_isFull_X7 hown hK hP 0 rfl rfl 0 (by decide) (hts _ mbX7_isFull_2) (fun _ h9 => h9) rfl dX7_isFull_5 ?_
  refine va_alen (v := nI 200) hx hb hK hP 1 0 rfl rfl rfl dX7_isFull_8 ?_
  refine lv_icmp_lt (tgt := 16) hx hb dX7_isFull_9 (by decide) (fun c1 => ?_) (fun c1 => ?_)
  · replace hr := it_t hr c1
    refine lv_iconst (v := 0) hx hb dX7_isFull_16 (by decide) ?_
    have he := Option.some.inj hr
    subst he
    subst hQ
    exact ret_z hx hb hrt (show narrow .boolean (.int 0) = .int 0 from rfl) hK hP hD hS hlocks dX7_isFull_17
  · replace hr := it_f hr c1
    refine lv_iconst (v := 1) hx hb dX7_isFull_12 (by decide) ?_
    refine lv_goto (tgt := 17) hx hb dX7_isFull_13 (by decide) ?_
    have he := Option.some.inj hr
    subst he
    subst hQ
    exact ret_z hx hb hrt (show narrow .boolean (.int 1) = .int 1 from rfl) hK hP hD hS hlocks dX7_isFull_17
def fX7_add (K : Nat) (x1 : Int32) (T_length : Int32) (T_letters : (Nat → Int32)) : Option (Int32 × (Nat → Int32)) :=
    if (T_length : Int32) < 0 then (
    some (T_length, T_letters))
    else (
    if (nI 200) ≤ (T_length : Int32) then (
    some (T_length, T_letters))
    else (
    gd (¬ ((T_length : Int32) < 0 ∨ 200 ≤ T_length.toNatClampNeg)) (
    nm (upd T_letters T_length.toNatClampNeg (vp_nar .char x1)) fun T_letters_1 =>
    nm (T_length + 1) fun T_length_1 =>
    some (T_length_1, T_letters_1))))
theorem mbX7_add_0 : Cond.fieldLink RX7 15 "BootsAtDawn$Text" "length" "I" ∈ wsX7_add := List.mem_of_getElem? (i := 1) rfl
theorem inX7_add_X7 : ∀ w ∈ u_ws RX7 TX7 2, w ∈ wsX7_add := fun _ h => (List.mem_cons_of_mem _ (List.mem_append_right _ h))
theorem mbX7_add_2 : Cond.fieldLink RX7 9 "BootsAtDawn$Text" "letters" "[C" ∈ wsX7_add := List.mem_of_getElem? (i := 2) rfl
abbrev rmX7_add : Room := { frames := 0, cells := 0, slots := 0, locals := 0 }
set_option maxHeartbeats 8000000 in
set_option maxRecDepth 100000 in
theorem kX7_add (l : Launch) (dC : Nat → ClassId) (dI : Nat → Nat → Nat) (cC cI cJ : ClassId) (sz : Nat) (K : Nat) (a_T a_T_letters : Nat) (x1 : Int32) (T_length : Int32) (T_letters : (Nat → Int32)) (R : Int32 × (Nat → Int32)) (hr : fX7_add K x1 T_length T_letters = some R) : Met l yX7_add wsX7_add rmX7_add (va_Pc ([.ref a_T, .int x1] : List Value) (PcW (dC, dI) (tysA cC cI cJ) sz [(a_T, .inr (7, [.ref a_T_letters, .int T_length])), (a_T_letters, .inl (cC, 200, .inl T_letters))])) (va_Qv (fun (_ : Unit) => True) (fun _ => BW (dC, dI) (tysA cC cI cJ) (va_A [(a_T, .inr (7, [.ref a_T_letters, .int T_length])), (a_T_letters, .inl (cC, 200, .inl T_letters))] sz) [(a_T, .inr (7, [.ref a_T_letters, .int R.1])), (a_T_letters, .inl (cC, 200, .inl R.2))]) (va_A [(a_T, .inr (7, [.ref a_T_letters, .int T_length])), (a_T_letters, .inl (cC, 200, .inl T_letters))] sz)) 0 0 (va_A [(a_T, .inr (7, [.ref a_T_letters, .int T_length])), (a_T_letters, .inl (cC, 200, .inl T_letters))] sz) := by
  refine Met.ofW (cc := cX7_add) (maxL := 2) (ret := none) (by decide) rfl ?_
  intro p e s m args below meth c s₁ B hml hv
  obtain ⟨rfl, hsz, hP, hK, hD0, hN⟩ := hv
  have hx := B.exec
  have hb := B.bytes
  have hrt := B.returns
  have hts := atoms_spec (ws := wsX7_add) B.pre
  have hown : s.vm.findClass RX7 = some m.cls := findClass_of_methodNamed B.named
  have hlocks := B.notSynchronized
  subst hsz
  have hD := hD0.self (sz := s.heap.size)
  generalize hAe : va_A [(a_T, .inr (7, [.ref a_T_letters, .int T_length])), (a_T_letters, .inl (cC, 200, .inl T_letters))] s.heap.size = A at hD ⊢
  have hA : ∀ q : Nat, s.heap.size ≤ q → A q := fun q h => by rw [← hAe]; exact Or.inr h
  have hS : va_S A s.heap s.heap [] := va_S.rf
  have hl := lv_entry ([.ref a_T, .int x1] : List Value) (n := 2) (Nat.le_of_ble_eq_true rfl)
  rw [lg_entry_eq]
  generalize (lg_sl ([.ref a_T, .int x1] : List Value) ++ List.replicate (2 - (lg_sl ([.ref a_T, .int x1] : List Value)).length) Slot.unset).toArray = ls at hl ⊢
  replace hl : lv_has ls 2 [(0, .ref a_T), (1, .int x1)] := hl
  obtain ⟨Q, hQ⟩ : ∃ Q, Q = MQ below (va_Qv (fun (_ : Unit) => True) (fun _ => BW (dC, dI) (tysA cC cI cJ) A [(a_T, .inr (7, [.ref a_T_letters, .int R.1])), (a_T_letters, .inl (cC, 200, .inl R.2))]) A) ([.ref a_T, .int x1] : List Value).toArray s 0 0 A := ⟨_, rfl⟩
  rw [← hQ]
  suffices hE : WG p l e rmX7_add s m ([.ref a_T, .int x1] : List Value).toArray below meth c 0 0 Q (dC, dI) A 0 2 [(a_T, .inr (7, [.ref a_T_letters, .int T_length])), (a_T_letters, .inl (cC, 200, .inl T_letters))] [(0, .ref a_T), (1, .int x1)] [] from hE _ _ _ hP hD hS hl
  clear hP hD hS hl hD0 hAe
  intro H locs ls hP hD hS hl
  unfold fX7_add at hr
  refine lv_aload_n hx hb dX7_add_0 rfl (lv_at hl 0 rfl) ?_
  refine va_get (D := (dC, dI)) (ci := 7) (v := .int T_length) (C := RX7) (T := TX7) (N := 2) hx hb hts inX7_add_X7 hown hK hP 0 rfl rfl 1 (by decide) (hts _ mbX7_add_0) (fun _ h9 => h9) rfl dX7_add_1 ?_
  refine lv_if_lt (tgt := 39) hx hb dX7_add_4 (by decide) (fun c1 => ?_) (fun c1 => ?_)
  · replace hr := it_t hr c1
    have he := Option.some.inj hr
    subst he
    subst hQ
    exact ret_v hx hb hrt hK hP hD hS hlocks dX7_add_39
  · replace hr := it_f hr c1
    refine lv_aload_n hx hb dX7_add_7 rfl (lv_at hl 0 rfl) ?_
    refine va_get (D := (dC, dI)) (ci := 7) (v := .int T_length) (C := RX7) (T := TX7) (N := 2) hx hb hts inX7_add_X7 hown hK hP 0 rfl rfl 1 (by decide) (hts _ mbX7_add_0) (fun _ h9 => h9) rfl dX7_add_8 ?_
    refine lv_aload_n hx hb dX7_add_11 rfl (lv_at hl 0 rfl) ?_
    refine va_get (D := (dC, dI)) (ci := 7) (v := .ref a_T_letters) (C := RX7) (T := TX7) (N := 2) hx hb hts inX7_add_X7 hown hK hP 0 rfl rfl 0 (by decide) (hts _ mbX7_add_2) (fun _ h9 => h9) rfl dX7_add_12 ?_
    refine va_alen (v := nI 200) hx hb hK hP 1 0 rfl rfl rfl dX7_add_15 ?_
    refine lv_icmp_ge (tgt := 39) hx hb dX7_add_16 (by decide) (fun c2 => ?_) (fun c2 => ?_)
    · replace hr := it_t hr c2
      have he := Option.some.inj hr
      subst he
      subst hQ
      exact ret_v hx hb hrt hK hP hD hS hlocks dX7_add_39
    · replace hr := it_f hr c2
      refine lv_aload_n hx hb dX7_add_19 rfl (lv_at hl 0 rfl) ?_
      refine va_get (D := (dC, dI)) (ci := 7) (v := .ref a_T_letters) (C := RX7) (T := TX7) (N := 2) hx hb hts inX7_add_X7 hown hK hP 0 rfl rfl 0 (by decide) (hts _ mbX7_add_2) (fun _ h9 => h9) rfl dX7_add_20 ?_
      refine lv_aload_n hx hb dX7_add_23 rfl (lv_at hl 0 rfl) ?_
      refine va_get (D := (dC, dI)) (ci := 7) (v := .int T_length) (C := RX7) (T := TX7) (N := 2) hx hb hts inX7_add_X7 hown hK hP 0 rfl rfl 1 (by decide) (hts _ mbX7_add_0) (fun _ h9 => h9) rfl dX7_add_24 ?_
      refine lv_iload_n hx hb dX7_add_27 rfl (lv_at hl 1 rfl) ?_
      obtain ⟨g1, hr⟩ := gd_some hr
      obtain ⟨T_letters_1, e1, hr⟩ := nm_el hr
      refine va_cast hx hb hK hP hD hS 1 0 rfl rfl g1 dX7_add_28 (fun H locs hP hD hS => ?_)
      rw [← e1] at hP hD
      replace hP : va_P (dC, dI) vwCl [(a_T, .inr (7, [.ref a_T_letters, .int T_length])), (a_T_letters, .inl (cC, 200, .inl T_letters_1))] H := hP
      replace hD : va_D A [(a_T, .inr (7, [.ref a_T_letters, .int T_length])), (a_T_letters, .inl (cC, 200, .inl T_letters_1))] := hD
      refine lv_aload_n hx hb dX7_add_29 rfl (lv_at hl 0 rfl) ?_
      refine lv_dup hx hb dX7_add_30 rfl ?_
      refine va_get (D := (dC, dI)) (ci := 7) (v := .int T_length) (C := RX7) (T := TX7) (N := 2) hx hb hts inX7_add_X7 hown hK hP 0 rfl rfl 1 (by decide) (hts _ mbX7_add_0) (fun _ h9 => h9) rfl dX7_add_31 ?_
      refine lv_iconst (v := 1) hx hb dX7_add_34 (by decide) ?_
      refine lv_iadd hx hb dX7_add_35 ?_
      obtain ⟨T_length_1, e2, hr⟩ := nm_el hr
      refine lv_nmi e2 ?_
      refine va_put (D := (dC, dI)) (ci := 7) (v := .int T_length_1) (ty := .int) (C := RX7) (T := TX7) (N := 2) hx hb hts inX7_add_X7 tyX7 tyX7_ok nmX7 hown hK hP hD hS 0 rfl rfl 1 (by decide) (hts _ mbX7_add_0) (fun _ h9 => h9) rfl (by decide +kernel) rfl rfl (Nat.le_of_ble_eq_true rfl) dX7_add_36 (fun H locs hP hD hS => ?_)
      replace hP : va_P (dC, dI) vwCl [(a_T, .inr (7, [.ref a_T_letters, .int T_length_1])), (a_T_letters, .inl (cC, 200, .inl T_letters_1))] H := hP
      replace hD : va_D A [(a_T, .inr (7, [.ref a_T_letters, .int T_length_1])), (a_T_letters, .inl (cC, 200, .inl T_letters_1))] := hD
      have he := Option.some.inj hr
      subst he
      subst hQ
      exact ret_v hx hb hrt hK hP hD hS hlocks dX7_add_39
def fX7_clear (K : Nat) (T_length : Int32) : Option (Int32) :=
    some 0
theorem mbX7_clear_0 : Cond.fieldLink RX7 15 "BootsAtDawn$Text" "length" "I" ∈ wsX7_clear := List.mem_of_getElem? (i := 1) rfl
theorem inX7_clear_X7 : ∀ w ∈ u_ws RX7 TX7 2, w ∈ wsX7_clear := fun _ h => (List.mem_cons_of_mem _ (List.mem_append_right _ h))
abbrev rmX7_clear : Room := { frames := 0, cells := 0, slots := 0, locals := 0 }
set_option maxHeartbeats 8000000 in
set_option maxRecDepth 100000 in
theorem kX7_clear (l : Launch) (dC : Nat → ClassId) (dI : Nat → Nat → Nat) (cC cI cJ : ClassId) (sz : Nat) (K : Nat) (a_T a_T_letters : Nat) (T_length : Int32) (R : Int32) (hr : fX7_clear K T_length = some R) : Met l yX7_clear wsX7_clear rmX7_clear (va_Pc ([.ref a_T] : List Value) (PcW (dC, dI) (tysA cC cI cJ) sz [(a_T, .inr (7, [.ref a_T_letters, .int T_length]))])) (va_Qv (fun (_ : Unit) => True) (fun _ => BW (dC, dI) (tysA cC cI cJ) (va_A [(a_T, .inr (7, [.ref a_T_letters, .int T_length]))] sz) [(a_T, .inr (7, [.ref a_T_letters, .int R]))]) (va_A [(a_T, .inr (7, [.ref a_T_letters, .int T_length]))] sz)) 0 0 (va_A [(a_T, .inr (7, [.ref a_T_letters, .int T_length]))] sz) := by
  refine Met.ofW (cc := cX7_clear) (maxL := 1) (ret := none) (by decide) rfl ?_
  intro p e s m args below meth c s₁ B hml hv
  obtain ⟨rfl, hsz, hP, hK, hD0, hN⟩ := hv
  have hx := B.exec
  have hb := B.bytes
  have hrt := B.returns
  have hts := atoms_spec (ws := wsX7_clear) B.pre
  have hown : s.vm.findClass RX7 = some m.cls := findClass_of_methodNamed B.named
  have hlocks := B.notSynchronized
  subst hsz
  have hD := hD0.self (sz := s.heap.size)
  generalize hAe : va_A [(a_T, .inr (7, [.ref a_T_letters, .int T_length]))] s.heap.size = A at hD ⊢
  have hA : ∀ q : Nat, s.heap.size ≤ q → A q := fun q h => by rw [← hAe]; exact Or.inr h
  have hS : va_S A s.heap s.heap [] := va_S.rf
  have hl := lv_entry ([.ref a_T] : List Value) (n := 1) (Nat.le_of_ble_eq_true rfl)
  rw [lg_entry_eq]
  generalize (lg_sl ([.ref a_T] : List Value) ++ List.replicate (1 - (lg_sl ([.ref a_T] : List Value)).length) Slot.unset).toArray = ls at hl ⊢
  replace hl : lv_has ls 1 [(0, .ref a_T)] := hl
  obtain ⟨Q, hQ⟩ : ∃ Q, Q = MQ below (va_Qv (fun (_ : Unit) => True) (fun _ => BW (dC, dI) (tysA cC cI cJ) A [(a_T, .inr (7, [.ref a_T_letters, .int R]))]) A) ([.ref a_T] : List Value).toArray s 0 0 A := ⟨_, rfl⟩
  rw [← hQ]
  suffices hE : WG p l e rmX7_clear s m ([.ref a_T] : List Value).toArray below meth c 0 0 Q (dC, dI) A 0 1 [(a_T, .inr (7, [.ref a_T_letters, .int T_length]))] [(0, .ref a_T)] [] from hE _ _ _ hP hD hS hl
  clear hP hD hS hl hD0 hAe
  intro H locs ls hP hD hS hl
  unfold fX7_clear at hr
  refine lv_aload_n hx hb dX7_clear_0 rfl (lv_at hl 0 rfl) ?_
  refine lv_iconst (v := 0) hx hb dX7_clear_1 (by decide) ?_
  refine va_put (D := (dC, dI)) (ci := 7) (v := .int 0) (ty := .int) (C := RX7) (T := TX7) (N := 2) hx hb hts inX7_clear_X7 tyX7 tyX7_ok nmX7 hown hK hP hD hS 0 rfl rfl 1 (by decide) (hts _ mbX7_clear_0) (fun _ h9 => h9) rfl (by decide +kernel) rfl rfl (Nat.le_of_ble_eq_true rfl) dX7_clear_2 (fun H locs hP hD hS => ?_)
  replace hP : va_P (dC, dI) vwCl [(a_T, .inr (7, [.ref a_T_letters, .int 0]))] H := hP
  replace hD : va_D A [(a_T, .inr (7, [.ref a_T_letters, .int 0]))] := hD
  have he := Option.some.inj hr
  subst he
  subst hQ
  exact ret_v hx hb hrt hK hP hD hS hlocks dX7_clear_5
def fX8_write (K : Nat) (x1 : Int32) (T_text_length : Int32) (T_text_letters : (Nat → Int32)) : Option (Int32 × Int32 × (Nat → Int32)) :=
    if (x1 : Int32) < 32 then (
    some ((-1), T_text_length, T_text_letters))
    else (
    if (x1 : Int32) ≤ 126 then (
    bd1 (fX7_isFull K T_text_length) fun r =>
    if (r : Int32) = 0 then (
    bd2 (fX7_add K ((x1.toUInt32 % 65536).toInt32) T_text_length T_text_letters) fun T_text_length_1 T_text_letters_1 =>
    some (T_text_length_1, T_text_length_1, T_text_letters_1))
    else (
    some ((-3), T_text_length, T_text_letters)))
    else (
    some ((-1), T_text_length, T_text_letters)))
theorem mbX8_write_0 : Cond.fieldLink RX8 10 "BootsAtDawn" "text" "LBootsAtDawn$Text;" ∈ wsX8_write := List.mem_of_getElem? (i := 1) rfl
theorem inX8_write_X8 : ∀ w ∈ u_ws RX8 TX8 13, w ∈ wsX8_write := fun _ h => (List.mem_cons_of_mem _ (List.mem_append_left _ (List.mem_append_right _ h)))
theorem mbX8_write_2 : Cond.initialized RX7 ∈ wsX8_write := List.mem_of_getElem? (i := 3) rfl
theorem mbX8_write_3 : Cond.instanceMethod yX7_isFull ∈ wsX8_write := List.mem_of_getElem? (i := 2) rfl
theorem mbX8_write_4 : Cond.selects RX7 yX7_isFull yX7_isFull ∈ wsX8_write := List.mem_of_getElem? (i := 4) rfl
theorem mbX8_write_5 : Cond.instanceMethod yX7_add ∈ wsX8_write := List.mem_of_getElem? (i := 8) rfl
theorem mbX8_write_6 : Cond.selects RX7 yX7_add yX7_add ∈ wsX8_write := List.mem_of_getElem? (i := 9) rfl
theorem inX8_write_X7 : ∀ w ∈ u_ws RX7 TX7 2, w ∈ wsX8_write := fun _ h => (List.mem_cons_of_mem _ (List.mem_append_right _ h))
abbrev rmX8_write : Room := { frames := 1, cells := 0, slots := 0, locals := 21 }
set_option maxHeartbeats 8000000 in
set_option maxRecDepth 100000 in
theorem kX8_write (l : Launch) (dC : Nat → ClassId) (dI : Nat → Nat → Nat) (cC cI cJ : ClassId) (sz : Nat) (K : Nat) (a_T a_T_text a_T_draft a_T_reader a_T_slate a_T_tonight a_T_otherNight a_T_undoable a_T_kept a_T_mornings a_T_survey a_T_otherSurvey a_T_endsWithout a_T_text_letters : Nat) (x1 : Int32) (T_surveyed : Int32) (T_text_length : Int32) (T_text_letters : (Nat → Int32)) (R : Int32 × Int32 × (Nat → Int32)) (hr : fX8_write K x1 T_text_length T_text_letters = some R) : Met l yX8_write wsX8_write rmX8_write (va_Pc ([.ref a_T, .int x1] : List Value) (PcW (dC, dI) (tysA cC cI cJ) sz [(a_T, .inr (8, [.ref a_T_text, .ref a_T_draft, .ref a_T_reader, .ref a_T_slate, .ref a_T_tonight, .ref a_T_otherNight, .ref a_T_undoable, .ref a_T_kept, .ref a_T_mornings, .ref a_T_survey, .ref a_T_otherSurvey, .ref a_T_endsWithout, .int T_surveyed])), (a_T_text, .inr (7, [.ref a_T_text_letters, .int T_text_length])), (a_T_text_letters, .inl (cC, 200, .inl T_text_letters))])) (va_Qi (fun r (_ : Unit) => r = R.1) (fun _ => BW (dC, dI) (tysA cC cI cJ) (va_A [(a_T, .inr (8, [.ref a_T_text, .ref a_T_draft, .ref a_T_reader, .ref a_T_slate, .ref a_T_tonight, .ref a_T_otherNight, .ref a_T_undoable, .ref a_T_kept, .ref a_T_mornings, .ref a_T_survey, .ref a_T_otherSurvey, .ref a_T_endsWithout, .int T_surveyed])), (a_T_text, .inr (7, [.ref a_T_text_letters, .int T_text_length])), (a_T_text_letters, .inl (cC, 200, .inl T_text_letters))] sz) [(a_T, .inr (8, [.ref a_T_text, .ref a_T_draft, .ref a_T_reader, .ref a_T_slate, .ref a_T_tonight, .ref a_T_otherNight, .ref a_T_undoable, .ref a_T_kept, .ref a_T_mornings, .ref a_T_survey, .ref a_T_otherSurvey, .ref a_T_endsWithout, .int T_surveyed])), (a_T_text, .inr (7, [.ref a_T_text_letters, .int R.2.1])), (a_T_text_letters, .inl (cC, 200, .inl R.2.2))]) (va_A [(a_T, .inr (8, [.ref a_T_text, .ref a_T_draft, .ref a_T_reader, .ref a_T_slate, .ref a_T_tonight, .ref a_T_otherNight, .ref a_T_undoable, .ref a_T_kept, .ref a_T_mornings, .ref a_T_survey, .ref a_T_otherSurvey, .ref a_T_endsWithout, .int T_surveyed])), (a_T_text, .inr (7, [.ref a_T_text_letters, .int T_text_length])), (a_T_text_letters, .inl (cC, 200, .inl T_text_letters))] sz)) 0 0 (va_A [(a_T, .inr (8, [.ref a_T_text, .ref a_T_draft, .ref a_T_reader, .ref a_T_slate, .ref a_T_tonight, .ref a_T_otherNight, .ref a_T_undoable, .ref a_T_kept, .ref a_T_mornings, .ref a_T_survey, .ref a_T_otherSurvey, .ref a_T_endsWithout, .int T_surveyed])), (a_T_text, .inr (7, [.ref a_T_text_letters, .int T_text_length])), (a_T_text_letters, .inl (cC, 200, .inl T_text_letters))] sz) := by
  refine Met.ofW (cc := cX8_write) (maxL := 2) (ret := (some .int)) (by decide) rfl ?_
  intro p e s m args below meth c s₁ B hml hv
  obtain ⟨rfl, hsz, hP, hK, hD0, hN⟩ := hv
  have hx := B.exec
  have hb := B.bytes
  have hrt := B.returns
  have hts := atoms_spec (ws := wsX8_write) B.pre
  have hown : s.vm.findClass RX8 = some m.cls := findClass_of_methodNamed B.named
  have hlocks := B.notSynchronized
  subst hsz
  have hD := hD0.self (sz := s.heap.size)
  generalize hAe : va_A [(a_T, .inr (8, [.ref a_T_text, .ref a_T_draft, .ref a_T_reader, .ref a_T_slate, .ref a_T_tonight, .ref a_T_otherNight, .ref a_T_undoable, .ref a_T_kept, .ref a_T_mornings, .ref a_T_survey, .ref a_T_otherSurvey, .ref a_T_endsWithout, .int T_surveyed])), (a_T_text, .inr (7, [.ref a_T_text_letters, .int T_text_length])), (a_T_text_letters, .inl (cC, 200, .inl T_text_letters))] s.heap.size = A at hD ⊢
  have hA : ∀ q : Nat, s.heap.size ≤ q → A q := fun q h => by rw [← hAe]; exact Or.inr h
  have hS : va_S A s.heap s.heap [] := va_S.rf
  have hl := lv_entry ([.ref a_T, .int x1] : List Value) (n := 2) (Nat.le_of_ble_eq_true rfl)
  rw [lg_entry_eq]
  generalize (lg_sl ([.ref a_T, .int x1] : List Value) ++ List.replicate (2 - (lg_sl ([.ref a_T, .int x1] : List Value)).length) Slot.unset).toArray = ls at hl ⊢
  replace hl : lv_has ls 2 [(0, .ref a_T), (1, .int x1)] := hl
  obtain ⟨Q, hQ⟩ : ∃ Q, Q = MQ below (va_Qi (fun r (_ : Unit) => r = R.1) (fun _ => BW (dC, dI) (tysA cC cI cJ) A [(a_T, .inr (8, [.ref a_T_text, .ref a_T_draft, .ref a_T_reader, .ref a_T_slate, .ref a_T_tonight, .ref a_T_otherNight, .ref a_T_undoable, .ref a_T_kept, .ref a_T_mornings, .ref a_T_survey, .ref a_T_otherSurvey, .ref a_T_endsWithout, .int T_surveyed])), (a_T_text, .inr (7, [.ref a_T_text_letters, .int R.2.1])), (a_T_text_letters, .inl (cC, 200, .inl R.2.2))]) A) ([.ref a_T, .int x1] : List Value).toArray s 0 0 A := ⟨_, rfl⟩
  rw [← hQ]
  suffices hE : WG p l e rmX8_write s m ([.ref a_T, .int x1] : List Value).toArray below meth c 0 0 Q (dC, dI) A 0 2 [(a_T, .inr (8, [.ref a_T_text, .ref a_T_draft, .ref a_T_reader, .ref a_T_slate, .ref a_T_tonight, .ref a_T_otherNight, .ref a_T_undoable, .ref a_T_kept, .ref a_T_mornings, .ref a_T_survey, .ref a_T_otherSurvey, .ref a_T_endsWithout, .int T_surveyed])), (a_T_text, .inr (7, [.ref a_T_text_letters, .int T_text_length])), (a_T_text_letters, .inl (cC, 200, .inl T_text_letters))] [(0, .ref a_T), (1, .int x1)] [] from hE _ _ _ hP hD hS hl
  clear hP hD hS hl hD0 hAe
  intro H locs ls hP hD hS hl
  unfold fX8_write at hr
  refine lv_iload_n hx hb dX8_write_0 rfl (lv_at hl 1 rfl) ?_
  refine lv_bipush (v := 32) hx hb dX8_write_1 (by decide) ?_
  refine lv_icmp_lt (tgt := 12) hx hb dX8_write_3 (by decide) (fun c1 => ?_) (fun c1 => ?_)
  · replace hr := it_t hr c1
    refine lv_iconst (v := (-1)) hx hb dX8_write_12 (by decide) ?_
    have he := Option.some.inj hr
    subst he
    subst hQ
    exact ret_i hx hb hrt hK hP hD hS hlocks dX8_write_13
  · replace hr := it_f hr c1
    refine lv_iload_n hx hb dX8_write_6 rfl (lv_at hl 1 rfl) ?_
    refine lv_bipush (v := 126) hx hb dX8_write_7 (by decide) ?_
    refine lv_icmp_le (tgt := 14) hx hb dX8_write_9 (by decide) (fun c2 => ?_) (fun c2 => ?_)
    · replace hr := it_t hr c2
      refine lv_aload_n hx hb dX8_write_14 rfl (lv_at hl 0 rfl) ?_
      refine va_get (D := (dC, dI)) (ci := 8) (v := .ref a_T_text) (C := RX8) (T := TX8) (N := 13) hx hb hts inX8_write_X8 hown hK hP 0 rfl rfl 0 (by decide) (hts _ mbX8_write_0) (fun _ h9 => h9) rfl dX8_write_15 ?_
      obtain ⟨r, hc1, hr⟩ := bd1_some hr
      refine call_i (D := (dC, dI)) (tys := tysA cC cI cJ) (wc := [(a_T_text, .inr (7, [.ref a_T_text_letters, .int T_text_length])), (a_T_text_letters, .inl (cC, 200, .inl T_text_letters))]) (wr := [(a_T, .inr (8, [.ref a_T_text, .ref a_T_draft, .ref a_T_reader, .ref a_T_slate, .ref a_T_tonight, .ref a_T_otherNight, .ref a_T_undoable, .ref a_T_kept, .ref a_T_mornings, .ref a_T_survey, .ref a_T_otherSurvey, .ref a_T_endsWithout, .int T_surveyed]))]) (w1 := [(a_T_text, .inr (7, [.ref a_T_text_letters, .int T_text_length])), (a_T_text_letters, .inl (cC, 200, .inl T_text_letters))]) (wn := [(a_T, .inr (8, [.ref a_T_text, .ref a_T_draft, .ref a_T_reader, .ref a_T_slate, .ref a_T_tonight, .ref a_T_otherNight, .ref a_T_undoable, .ref a_T_kept, .ref a_T_mornings, .ref a_T_survey, .ref a_T_otherSurvey, .ref a_T_endsWithout, .int T_surveyed])), (a_T_text, .inr (7, [.ref a_T_text_letters, .int T_text_length])), (a_T_text_letters, .inl (cC, 200, .inl T_text_letters))]) (r0 := r) hP hD hS hA [1, 2] [0] [0, 1, 2] rfl rfl (by decide +kernel) (by decide +kernel) rfl (by decide +kernel) (va_runVN (C := RX7) (host := "BootsAtDawn") (As := []) (rest := []) ⟨hx, hb, hml, hown, hts⟩ (kX7_isFull l dC dI cC cI cJ H.size K a_T_text a_T_text_letters T_text_length T_text_letters r hc1) ⟨va_cnB 0 hts gX8_write_X7_isFull_n103 rfl rfl rfl (hN _ nw_66) (hts _ mbX8_write_2) (by decide +kernel) ⟨Nat.le_of_ble_eq_true rfl, Nat.le_of_ble_eq_true rfl⟩, (hts _ mbX8_write_3), (hts _ mbX8_write_4)⟩ ⟨fbW, va_recv hK hP (ci := 7) (q0 := 1) rfl rfl, preW hP hD hK hN [1, 2] rfl (by decide +kernel)⟩ rfl rfl hl.1 rfl (lv_room (Nat.le_of_ble_eq_true rfl)) dX8_write_18 ⟨Nat.zero_le _, Nat.zero_le _⟩) (fun H locs hP hD hS => ?_)
      refine lv_if_eq (tgt := 27) hx hb dX8_write_21 (by decide) (fun c3 => ?_) (fun c3 => ?_)
      · replace hr := it_t hr c3
        refine lv_aload_n hx hb dX8_write_27 rfl (lv_at hl 0 rfl) ?_
        refine va_get (D := (dC, dI)) (ci := 8) (v := .ref a_T_text) (C := RX8) (T := TX8) (N := 13) hx hb hts inX8_write_X8 hown hK hP 0 rfl rfl 0 (by decide) (hts _ mbX8_write_0) (fun _ h9 => h9) rfl dX8_write_28 ?_
        refine lv_iload_n hx hb dX8_write_31 rfl (lv_at hl 1 rfl) ?_
        refine lv_i2c hx hb dX8_write_32 rfl ?_
        obtain ⟨T_text_length_1, T_text_letters_1, hc2, hr⟩ := bd2_some hr
        refine call_v (D := (dC, dI)) (tys := tysA cC cI cJ) (wc := [(a_T_text, .inr (7, [.ref a_T_text_letters, .int T_text_length])), (a_T_text_letters, .inl (cC, 200, .inl T_text_letters))]) (wr := [(a_T, .inr (8, [.ref a_T_text, .ref a_T_draft, .ref a_T_reader, .ref a_T_slate, .ref a_T_tonight, .ref a_T_otherNight, .ref a_T_undoable, .ref a_T_kept, .ref a_T_mornings, .ref a_T_survey, .ref a_T_otherSurvey, .ref a_T_endsWithout, .int T_surveyed]))]) (w1 := [(a_T_text, .inr (7, [.ref a_T_text_letters, .int T_text_length_1])), (a_T_text_letters, .inl (cC, 200, .inl T_text_letters_1))]) (wn := [(a_T, .inr (8, [.ref a_T_text, .ref a_T_draft, .ref a_T_reader, .ref a_T_slate, .ref a_T_tonight, .ref a_T_otherNight, .ref a_T_undoable, .ref a_T_kept, .ref a_T_mornings, .ref a_T_survey, .ref a_T_otherSurvey, .ref a_T_endsWithout, .int T_surveyed])), (a_T_text, .inr (7, [.ref a_T_text_letters, .int T_text_length_1])), (a_T_text_letters, .inl (cC, 200, .inl T_text_letters_1))]) hP hD hS hA [1, 2] [0] [0, 1, 2] rfl rfl (by decide +kernel) (by decide +kernel) rfl (by decide +kernel) (va_runVN (C := RX7) (host := "BootsAtDawn") (As := [.int ((x1.toUInt32 % 65536).toInt32)]) (rest := []) ⟨hx, hb, hml, hown, hts⟩ (kX7_add l dC dI cC cI cJ H.size K a_T_text a_T_text_letters ((x1.toUInt32 % 65536).toInt32) T_text_length T_text_letters (T_text_length_1, T_text_letters_1) hc2) ⟨va_cnB 1 hts gX8_write_X7_add_n92 rfl rfl rfl (hN _ nw_52) (hts _ mbX8_write_2) (by decide +kernel) ⟨Nat.le_of_ble_eq_true rfl, Nat.le_of_ble_eq_true rfl⟩, (hts _ mbX8_write_5), (hts _ mbX8_write_6)⟩ ⟨fbW, va_recv hK hP (ci := 7) (q0 := 1) rfl rfl, preW hP hD hK hN [1, 2] rfl (by decide +kernel)⟩ rfl rfl hl.1 rfl (lv_room (Nat.le_of_ble_eq_true rfl)) dX8_write_33 ⟨Nat.zero_le _, Nat.zero_le _⟩) (fun H locs hP hD hS => ?_)
        refine lv_aload_n hx hb dX8_write_36 rfl (lv_at hl 0 rfl) ?_
        refine va_get (D := (dC, dI)) (ci := 8) (v := .ref a_T_text) (C := RX8) (T := TX8) (N := 13) hx hb hts inX8_write_X8 hown hK hP 0 rfl rfl 0 (by decide) (hts _ mbX8_write_0) (fun _ h9 => h9) rfl dX8_write_37 ?_
        refine va_getN (D := (dC, dI)) (ci := 7) (v := .int T_text_length_1) (C := RX7) (T := TX7) (N := 2) hx hb hts inX8_write_X7 hown hK hP 1 rfl rfl 1 (by decide) (nk_use hN nw_1) (fun _ h9 => h9) rfl dX8_write_40 ?_
        have he := Option.some.inj hr
        subst he
        subst hQ
        exact ret_i hx hb hrt hK hP hD hS hlocks dX8_write_43
      · replace hr := it_f hr c3
        refine lv_bipush (v := (-3)) hx hb dX8_write_24 (by decide) ?_
        have he := Option.some.inj hr
        subst he
        subst hQ
        exact ret_i hx hb hrt hK hP hD hS hlocks dX8_write_26
    · replace hr := it_f hr c2
      refine lv_iconst (v := (-1)) hx hb dX8_write_12 (by decide) ?_
      have he := Option.some.inj hr
      subst he
      subst hQ
      exact ret_i hx hb hrt hK hP hD hS hlocks dX8_write_13
def fX8_wipe (K : Nat) (T_text_length : Int32) : Option (Int32 × Int32) :=
    bd1 (fX7_clear K T_text_length) fun T_text_length_1 =>
    some (T_text_length, T_text_length_1)
theorem mbX8_wipe_0 : Cond.fieldLink RX8 10 "BootsAtDawn" "text" "LBootsAtDawn$Text;" ∈ wsX8_wipe := List.mem_of_getElem? (i := 1) rfl
theorem inX8_wipe_X8 : ∀ w ∈ u_ws RX8 TX8 13, w ∈ wsX8_wipe := fun _ h => (List.mem_cons_of_mem _ (List.mem_append_left _ (List.mem_append_right _ h)))
theorem inX8_wipe_X7 : ∀ w ∈ u_ws RX7 TX7 2, w ∈ wsX8_wipe := fun _ h => (List.mem_cons_of_mem _ (List.mem_append_right _ h))
theorem mbX8_wipe_3 : Cond.initialized RX7 ∈ wsX8_wipe := List.mem_of_getElem? (i := 3) rfl
theorem mbX8_wipe_4 : Cond.instanceMethod yX7_clear ∈ wsX8_wipe := List.mem_of_getElem? (i := 2) rfl
theorem mbX8_wipe_5 : Cond.selects RX7 yX7_clear yX7_clear ∈ wsX8_wipe := List.mem_of_getElem? (i := 4) rfl
abbrev rmX8_wipe : Room := { frames := 1, cells := 0, slots := 0, locals := 20 }
set_option maxHeartbeats 8000000 in
set_option maxRecDepth 100000 in
theorem kX8_wipe (l : Launch) (dC : Nat → ClassId) (dI : Nat → Nat → Nat) (cC cI cJ : ClassId) (sz : Nat) (K : Nat) (a_T a_T_text a_T_draft a_T_reader a_T_slate a_T_tonight a_T_otherNight a_T_undoable a_T_kept a_T_mornings a_T_survey a_T_otherSurvey a_T_endsWithout a_T_text_letters : Nat) (T_surveyed : Int32) (T_text_length : Int32) (R : Int32 × Int32) (hr : fX8_wipe K T_text_length = some R) : Met l yX8_wipe wsX8_wipe rmX8_wipe (va_Pc ([.ref a_T] : List Value) (PcW (dC, dI) (tysA cC cI cJ) sz [(a_T, .inr (8, [.ref a_T_text, .ref a_T_draft, .ref a_T_reader, .ref a_T_slate, .ref a_T_tonight, .ref a_T_otherNight, .ref a_T_undoable, .ref a_T_kept, .ref a_T_mornings, .ref a_T_survey, .ref a_T_otherSurvey, .ref a_T_endsWithout, .int T_surveyed])), (a_T_text, .inr (7, [.ref a_T_text_letters, .int T_text_length]))])) (va_Qi (fun r (_ : Unit) => r = R.1) (fun _ => BW (dC, dI) (tysA cC cI cJ) (va_A [(a_T, .inr (8, [.ref a_T_text, .ref a_T_draft, .ref a_T_reader, .ref a_T_slate, .ref a_T_tonight, .ref a_T_otherNight, .ref a_T_undoable, .ref a_T_kept, .ref a_T_mornings, .ref a_T_survey, .ref a_T_otherSurvey, .ref a_T_endsWithout, .int T_surveyed])), (a_T_text, .inr (7, [.ref a_T_text_letters, .int T_text_length]))] sz) [(a_T, .inr (8, [.ref a_T_text, .ref a_T_draft, .ref a_T_reader, .ref a_T_slate, .ref a_T_tonight, .ref a_T_otherNight, .ref a_T_undoable, .ref a_T_kept, .ref a_T_mornings, .ref a_T_survey, .ref a_T_otherSurvey, .ref a_T_endsWithout, .int T_surveyed])), (a_T_text, .inr (7, [.ref a_T_text_letters, .int R.2]))]) (va_A [(a_T, .inr (8, [.ref a_T_text, .ref a_T_draft, .ref a_T_reader, .ref a_T_slate, .ref a_T_tonight, .ref a_T_otherNight, .ref a_T_undoable, .ref a_T_kept, .ref a_T_mornings, .ref a_T_survey, .ref a_T_otherSurvey, .ref a_T_endsWithout, .int T_surveyed])), (a_T_text, .inr (7, [.ref a_T_text_letters, .int T_text_length]))] sz)) 0 0 (va_A [(a_T, .inr (8, [.ref a_T_text, .ref a_T_draft, .ref a_T_reader, .ref a_T_slate, .ref a_T_tonight, .ref a_T_otherNight, .ref a_T_undoable, .ref a_T_kept, .ref a_T_mornings, .ref a_T_survey, .ref a_T_otherSurvey, .ref a_T_endsWithout, .int T_surveyed])), (a_T_text, .inr (7, [.ref a_T_text_letters, .int T_text_length]))] sz) := by
  refine Met.ofW (cc := cX8_wipe) (maxL := 2) (ret := (some .int)) (by decide) rfl ?_
  intro p e s m args below meth c s₁ B hml hv
  obtain ⟨rfl, hsz, hP, hK, hD0, hN⟩ := hv
  have hx := B.exec
  have hb := B.bytes
  have hrt := B.returns
  have hts := atoms_spec (ws := wsX8_wipe) B.pre
  have hown : s.vm.findClass RX8 = some m.cls := findClass_of_methodNamed B.named
  have hlocks := B.notSynchronized
  subst hsz
  have hD := hD0.self (sz := s.heap.size)
  generalize hAe : va_A [(a_T, .inr (8, [.ref a_T_text, .ref a_T_draft, .ref a_T_reader, .ref a_T_slate, .ref a_T_tonight, .ref a_T_otherNight, .ref a_T_undoable, .ref a_T_kept, .ref a_T_mornings, .ref a_T_survey, .ref a_T_otherSurvey, .ref a_T_endsWithout, .int T_surveyed])), (a_T_text, .inr (7, [.ref a_T_text_letters, .int T_text_length]))] s.heap.size = A at hD ⊢
  have hA : ∀ q : Nat, s.heap.size ≤ q → A q := fun q h => by rw [← hAe]; exact Or.inr h
  have hS : va_S A s.heap s.heap [] := va_S.rf
  have hl := lv_entry ([.ref a_T] : List Value) (n := 2) (Nat.le_of_ble_eq_true rfl)
  rw [lg_entry_eq]
  generalize (lg_sl ([.ref a_T] : List Value) ++ List.replicate (2 - (lg_sl ([.ref a_T] : List Value)).length) Slot.unset).toArray = ls at hl ⊢
  replace hl : lv_has ls 2 [(0, .ref a_T)] := hl
  obtain ⟨Q, hQ⟩ : ∃ Q, Q = MQ below (va_Qi (fun r (_ : Unit) => r = R.1) (fun _ => BW (dC, dI) (tysA cC cI cJ) A [(a_T, .inr (8, [.ref a_T_text, .ref a_T_draft, .ref a_T_reader, .ref a_T_slate, .ref a_T_tonight, .ref a_T_otherNight, .ref a_T_undoable, .ref a_T_kept, .ref a_T_mornings, .ref a_T_survey, .ref a_T_otherSurvey, .ref a_T_endsWithout, .int T_surveyed])), (a_T_text, .inr (7, [.ref a_T_text_letters, .int R.2]))]) A) ([.ref a_T] : List Value).toArray s 0 0 A := ⟨_, rfl⟩
  rw [← hQ]
  suffices hE : WG p l e rmX8_wipe s m ([.ref a_T] : List Value).toArray below meth c 0 0 Q (dC, dI) A 0 2 [(a_T, .inr (8, [.ref a_T_text, .ref a_T_draft, .ref a_T_reader, .ref a_T_slate, .ref a_T_tonight, .ref a_T_otherNight, .ref a_T_undoable, .ref a_T_kept, .ref a_T_mornings, .ref a_T_survey, .ref a_T_otherSurvey, .ref a_T_endsWithout, .int T_surveyed])), (a_T_text, .inr (7, [.ref a_T_text_letters, .int T_text_length]))] [(0, .ref a_T)] [] from hE _ _ _ hP hD hS hl
  clear hP hD hS hl hD0 hAe
  intro H locs ls hP hD hS hl
  unfold fX8_wipe at hr
  refine lv_aload_n hx hb dX8_wipe_0 rfl (lv_at hl 0 rfl) ?_
  refine va_get (D := (dC, dI)) (ci := 8) (v := .ref a_T_text) (C := RX8) (T := TX8) (N := 13) hx hb hts inX8_wipe_X8 hown hK hP 0 rfl rfl 0 (by decide) (hts _ mbX8_wipe_0) (fun _ h9 => h9) rfl dX8_wipe_1 ?_
  refine va_getN (D := (dC, dI)) (ci := 7) (v := .int T_text_length) (C := RX7) (T := TX7) (N := 2) hx hb hts inX8_wipe_X7 hown hK hP 1 rfl rfl 1 (by decide) (nk_use hN nw_1) (fun _ h9 => h9) rfl dX8_wipe_4 ?_
  refine lv_istore_n (lv' := [(1, .int T_text_length), (0, .ref a_T)]) hx hb dX8_wipe_7 rfl hl (by decide) rfl (fun ls hl => ?_)
  refine lv_aload_n hx hb dX8_wipe_8 rfl (lv_at hl 1 rfl) ?_
  refine va_get (D := (dC, dI)) (ci := 8) (v := .ref a_T_text) (C := RX8) (T := TX8) (N := 13) hx hb hts inX8_wipe_X8 hown hK hP 0 rfl rfl 0 (by decide) (hts _ mbX8_wipe_0) (fun _ h9 => h9) rfl dX8_wipe_9 ?_
  obtain ⟨T_text_length_1, hc1, hr⟩ := bd1_some hr
  refine call_v (D := (dC, dI)) (tys := tysA cC cI cJ) (wc := [(a_T_text, .inr (7, [.ref a_T_text_letters, .int T_text_length]))]) (wr := [(a_T, .inr (8, [.ref a_T_text, .ref a_T_draft, .ref a_T_reader, .ref a_T_slate, .ref a_T_tonight, .ref a_T_otherNight, .ref a_T_undoable, .ref a_T_kept, .ref a_T_mornings, .ref a_T_survey, .ref a_T_otherSurvey, .ref a_T_endsWithout, .int T_surveyed]))]) (w1 := [(a_T_text, .inr (7, [.ref a_T_text_letters, .int T_text_length_1]))]) (wn := [(a_T, .inr (8, [.ref a_T_text, .ref a_T_draft, .ref a_T_reader, .ref a_T_slate, .ref a_T_tonight, .ref a_T_otherNight, .ref a_T_undoable, .ref a_T_kept, .ref a_T_mornings, .ref a_T_survey, .ref a_T_otherSurvey, .ref a_T_endsWithout, .int T_surveyed])), (a_T_text, .inr (7, [.ref a_T_text_letters, .int T_text_length_1]))]) hP hD hS hA [1] [0] [0, 1] rfl rfl (by decide +kernel) (by decide +kernel) rfl (by decide +kernel) (va_runVN (C := RX7) (host := "BootsAtDawn") (As := []) (rest := []) ⟨hx, hb, hml, hown, hts⟩ (kX7_clear l dC dI cC cI cJ H.size K a_T_text a_T_text_letters T_text_length T_text_length_1 hc1) ⟨va_cnB 0 hts gX8_wipe_X7_clear_n100 rfl rfl rfl (hN _ nw_65) (hts _ mbX8_wipe_3) (by decide +kernel) ⟨Nat.le_of_ble_eq_true rfl, Nat.le_of_ble_eq_true rfl⟩, (hts _ mbX8_wipe_4), (hts _ mbX8_wipe_5)⟩ ⟨fbW, va_recv hK hP (ci := 7) (q0 := 1) rfl rfl, preW hP hD hK hN [1] rfl (by decide +kernel)⟩ rfl rfl hl.1 rfl (lv_room (Nat.le_of_ble_eq_true rfl)) dX8_wipe_12 ⟨Nat.zero_le _, Nat.zero_le _⟩) (fun H locs hP hD hS => ?_)
  refine lv_iload_n hx hb dX8_wipe_15 rfl (lv_at hl 0 rfl) ?_
  have he := Option.some.inj hr
  subst he
  subst hQ
  exact ret_i hx hb hrt hK hP hD hS hlocks dX8_wipe_16
def fX8_fault (K : Nat) (T_reader_next : Int32) (T_draft_guests : Int32) (T_draft_wishes : Int32) (T_draft_start : Int32) (T_text_length : Int32) (T_text_letters : (Nat → Int32)) (T_draft_wishNames : (Nat → Int32)) (T_draft_wishKind : (Nat → Int32)) (T_draft_wishA : (Nat → Int32)) (T_draft_wishB : (Nat → Int32)) (T_draft_guestKind : (Nat → Int32)) (T_draft_guestFloor : (Nat → Int32)) : Option (Int32 × Int32 × Int32 × Int32 × Int32 × (Nat → Int32) × (Nat → Int32) × (Nat → Int32) × (Nat → Int32) × (Nat → Int32) × (Nat → Int32)) :=
    bd11 (fX3_readAll K T_reader_next T_draft_guests T_draft_wishes T_draft_start T_text_length T_text_letters T_draft_wishNames T_draft_wishKind T_draft_wishA T_draft_wishB T_draft_guestKind T_draft_guestFloor) fun r T_reader_next_1 T_draft_guests_1 T_draft_wishes_1 T_draft_start_1 T_draft_wishNames_1 T_draft_wishKind_1 T_draft_wishA_1 T_draft_wishB_1 T_draft_guestKind_1 T_draft_guestFloor_1 =>
    some (r, T_reader_next_1, T_draft_guests_1, T_draft_wishes_1, T_draft_start_1, T_draft_wishNames_1, T_draft_wishKind_1, T_draft_wishA_1, T_draft_wishB_1, T_draft_guestKind_1, T_draft_guestFloor_1)
theorem mbX8_fault_0 : Cond.fieldLink RX8 28 "BootsAtDawn" "reader" "LBootsAtDawn$Reader;" ∈ wsX8_fault := List.mem_of_getElem? (i := 1) rfl
theorem inX8_fault_X8 : ∀ w ∈ u_ws RX8 TX8 13, w ∈ wsX8_fault := fun _ h => (List.mem_cons_of_mem _ (List.mem_append_left _ (List.mem_append_left _ (List.mem_append_left _ (List.mem_append_right _ h)))))
theorem mbX8_fault_2 : Cond.initialized RX3 ∈ wsX8_fault := List.mem_of_getElem? (i := 3) rfl
theorem mbX8_fault_3 : Cond.instanceMethod yX3_readAll ∈ wsX8_fault := List.mem_of_getElem? (i := 2) rfl
theorem mbX8_fault_4 : Cond.selects RX3 yX3_readAll yX3_readAll ∈ wsX8_fault := List.mem_of_getElem? (i := 4) rfl
abbrev rmX8_fault : Room := { frames := 5, cells := 0, slots := 0, locals := 114 }
set_option maxHeartbeats 8000000 in
set_option maxRecDepth 100000 in
theorem kX8_fault (l : Launch) (dC : Nat → ClassId) (dI : Nat → Nat → Nat) (cC cI cJ : ClassId) (sz : Nat) (K : Nat) (a_T a_T_text a_T_draft a_T_reader a_T_slate a_T_tonight a_T_otherNight a_T_undoable a_T_kept a_T_mornings a_T_survey a_T_otherSurvey a_T_endsWithout a_T_draft_guestKind a_T_draft_guestFloor a_T_draft_wishKind a_T_draft_wishA a_T_draft_wishB a_T_draft_wishNames a_T_text_letters : Nat) (T_surveyed : Int32) (T_reader_next : Int32) (T_draft_guests : Int32) (T_draft_wishes : Int32) (T_draft_start : Int32) (T_text_length : Int32) (T_text_letters : (Nat → Int32)) (T_draft_wishNames : (Nat → Int32)) (T_draft_wishKind : (Nat → Int32)) (T_draft_wishA : (Nat → Int32)) (T_draft_wishB : (Nat → Int32)) (T_draft_guestKind : (Nat → Int32)) (T_draft_guestFloor : (Nat → Int32)) (R : Int32 × Int32 × Int32 × Int32 × Int32 × (Nat → Int32) × (Nat → Int32) × (Nat → Int32) × (Nat → Int32) × (Nat → Int32) × (Nat → Int32)) (hr : fX8_fault K T_reader_next T_draft_guests T_draft_wishes T_draft_start T_text_length T_text_letters T_draft_wishNames T_draft_wishKind T_draft_wishA T_draft_wishB T_draft_guestKind T_draft_guestFloor = some R) : Met l yX8_fault wsX8_fault rmX8_fault (va_Pc ([.ref a_T] : List Value) (PcW (dC, dI) (tysA cC cI cJ) sz [(a_T, .inr (8, [.ref a_T_text, .ref a_T_draft, .ref a_T_reader, .ref a_T_slate, .ref a_T_tonight, .ref a_T_otherNight, .ref a_T_undoable, .ref a_T_kept, .ref a_T_mornings, .ref a_T_survey, .ref a_T_otherSurvey, .ref a_T_endsWithout, .int T_surveyed])), (a_T_reader, .inr (3, [.ref a_T_text, .ref a_T_draft, .int T_reader_next])), (a_T_draft, .inr (5, [.ref a_T_draft_guestKind, .ref a_T_draft_guestFloor, .ref a_T_draft_wishKind, .ref a_T_draft_wishA, .ref a_T_draft_wishB, .ref a_T_draft_wishNames, .int T_draft_guests, .int T_draft_wishes, .int T_draft_start])), (a_T_text, .inr (7, [.ref a_T_text_letters, .int T_text_length])), (a_T_text_letters, .inl (cC, 200, .inl T_text_letters)), (a_T_draft_wishNames, .inl (cI, 9, .inl T_draft_wishNames)), (a_T_draft_wishKind, .inl (cI, 9, .inl T_draft_wishKind)), (a_T_draft_wishA, .inl (cI, 9, .inl T_draft_wishA)), (a_T_draft_wishB, .inl (cI, 9, .inl T_draft_wishB)), (a_T_draft_guestKind, .inl (cI, 6, .inl T_draft_guestKind)), (a_T_draft_guestFloor, .inl (cI, 6, .inl T_draft_guestFloor))])) (va_Qi (fun r (_ : Unit) => r = R.1) (fun _ => BW (dC, dI) (tysA cC cI cJ) (va_A [(a_T, .inr (8, [.ref a_T_text, .ref a_T_draft, .ref a_T_reader, .ref a_T_slate, .ref a_T_tonight, .ref a_T_otherNight, .ref a_T_undoable, .ref a_T_kept, .ref a_T_mornings, .ref a_T_survey, .ref a_T_otherSurvey, .ref a_T_endsWithout, .int T_surveyed])), (a_T_reader, .inr (3, [.ref a_T_text, .ref a_T_draft, .int T_reader_next])), (a_T_draft, .inr (5, [.ref a_T_draft_guestKind, .ref a_T_draft_guestFloor, .ref a_T_draft_wishKind, .ref a_T_draft_wishA, .ref a_T_draft_wishB, .ref a_T_draft_wishNames, .int T_draft_guests, .int T_draft_wishes, .int T_draft_start])), (a_T_text, .inr (7, [.ref a_T_text_letters, .int T_text_length])), (a_T_text_letters, .inl (cC, 200, .inl T_text_letters)), (a_T_draft_wishNames, .inl (cI, 9, .inl T_draft_wishNames)), (a_T_draft_wishKind, .inl (cI, 9, .inl T_draft_wishKind)), (a_T_draft_wishA, .inl (cI, 9, .inl T_draft_wishA)), (a_T_draft_wishB, .inl (cI, 9, .inl T_draft_wishB)), (a_T_draft_guestKind, .inl (cI, 6, .inl T_draft_guestKind)), (a_T_draft_guestFloor, .inl (cI, 6, .inl T_draft_guestFloor))] sz) [(a_T, .inr (8, [.ref a_T_text, .ref a_T_draft, .ref a_T_reader, .ref a_T_slate, .ref a_T_tonight, .ref a_T_otherNight, .ref a_T_undoable, .ref a_T_kept, .ref a_T_mornings, .ref a_T_survey, .ref a_T_otherSurvey, .ref a_T_endsWithout, .int T_surveyed])), (a_T_reader, .inr (3, [.ref a_T_text, .ref a_T_draft, .int R.2.1])), (a_T_draft, .inr (5, [.ref a_T_draft_guestKind, .ref a_T_draft_guestFloor, .ref a_T_draft_wishKind, .ref a_T_draft_wishA, .ref a_T_draft_wishB, .ref a_T_draft_wishNames, .int R.2.2.1, .int R.2.2.2.1, .int R.2.2.2.2.1])), (a_T_text, .inr (7, [.ref a_T_text_letters, .int T_text_length])), (a_T_text_letters, .inl (cC, 200, .inl T_text_letters)), (a_T_draft_wishNames, .inl (cI, 9, .inl R.2.2.2.2.2.1)), (a_T_draft_wishKind, .inl (cI, 9, .inl R.2.2.2.2.2.2.1)), (a_T_draft_wishA, .inl (cI, 9, .inl R.2.2.2.2.2.2.2.1)), (a_T_draft_wishB, .inl (cI, 9, .inl R.2.2.2.2.2.2.2.2.1)), (a_T_draft_guestKind, .inl (cI, 6, .inl R.2.2.2.2.2.2.2.2.2.1)), (a_T_draft_guestFloor, .inl (cI, 6, .inl R.2.2.2.2.2.2.2.2.2.2))]) (va_A [(a_T, .inr (8, [.ref a_T_text, .ref a_T_draft, .ref a_T_reader, .ref a_T_slate, .ref a_T_tonight, .ref a_T_otherNight, .ref a_T_undoable, .ref a_T_kept, .ref a_T_mornings, .ref a_T_survey, .ref a_T_otherSurvey, .ref a_T_endsWithout, .int T_surveyed])), (a_T_reader, .inr (3, [.ref a_T_text, .ref a_T_draft, .int T_reader_next])), (a_T_draft, .inr (5, [.ref a_T_draft_guestKind, .ref a_T_draft_guestFloor, .ref a_T_draft_wishKind, .ref a_T_draft_wishA, .ref a_T_draft_wishB, .ref a_T_draft_wishNames, .int T_draft_guests, .int T_draft_wishes, .int T_draft_start])), (a_T_text, .inr (7, [.ref a_T_text_letters, .int T_text_length])), (a_T_text_letters, .inl (cC, 200, .inl T_text_letters)), (a_T_draft_wishNames, .inl (cI, 9, .inl T_draft_wishNames)), (a_T_draft_wishKind, .inl (cI, 9, .inl T_draft_wishKind)), (a_T_draft_wishA, .inl (cI, 9, .inl T_draft_wishA)), (a_T_draft_wishB, .inl (cI, 9, .inl T_draft_wishB)), (a_T_draft_guestKind, .inl (cI, 6, .inl T_draft_guestKind)), (a_T_draft_guestFloor, .inl (cI, 6, .inl T_draft_guestFloor))] sz)) 0 0 (va_A [(a_T, .inr (8, [.ref a_T_text, .ref a_T_draft, .ref a_T_reader, .ref a_T_slate, .ref a_T_tonight, .ref a_T_otherNight, .ref a_T_undoable, .ref a_T_kept, .ref a_T_mornings, .ref a_T_survey, .ref a_T_otherSurvey, .ref a_T_endsWithout, .int T_surveyed])), (a_T_reader, .inr (3, [.ref a_T_text, .ref a_T_draft, .int T_reader_next])), (a_T_draft, .inr (5, [.ref a_T_draft_guestKind, .ref a_T_draft_guestFloor, .ref a_T_draft_wishKind, .ref a_T_draft_wishA, .ref a_T_draft_wishB, .ref a_T_draft_wishNames, .int T_draft_guests, .int T_draft_wishes, .int T_draft_start])), (a_T_text, .inr (7, [.ref a_T_text_letters, .int T_text_length])), (a_T_text_letters, .inl (cC, 200, .inl T_text_letters)), (a_T_draft_wishNames, .inl (cI, 9, .inl T_draft_wishNames)), (a_T_draft_wishKind, .inl (cI, 9, .inl T_draft_wishKind)), (a_T_draft_wishA, .inl (cI, 9, .inl T_draft_wishA)), (a_T_draft_wishB, .inl (cI, 9, .inl T_draft_wishB)), (a_T_draft_guestKind, .inl (cI, 6, .inl T_draft_guestKind)), (a_T_draft_guestFloor, .inl (cI, 6, .inl T_draft_guestFloor))] sz) := by
  refine Met.ofW (cc := cX8_fault) (maxL := 1) (ret := (some .int)) (by decide) rfl ?_
  intro p e s m args below meth c s₁ B hml hv
  obtain ⟨rfl, hsz, hP, hK, hD0, hN⟩ := hv
  have hx := B.exec
  have hb := B.bytes
  have hrt := B.returns
  have hts := atoms_spec (ws := wsX8_fault) B.pre
  have hown : s.vm.findClass RX8 = some m.cls := findClass_of_methodNamed B.named
  have hlocks := B.notSynchronized
  subst hsz
  have hD := hD0.self (sz := s.heap.size)
  generalize hAe : va_A [(a_T, .inr (8, [.ref a_T_text, .ref a_T_draft, .ref a_T_reader, .ref a_T_slate, .ref a_T_tonight, .ref a_T_otherNight, .ref a_T_undoable, .ref a_T_kept, .ref a_T_mornings, .ref a_T_survey, .ref a_T_otherSurvey, .ref a_T_endsWithout, .int T_surveyed])), (a_T_reader, .inr (3, [.ref a_T_text, .ref a_T_draft, .int T_reader_next])), (a_T_draft, .inr (5, [.ref a_T_draft_guestKind, .ref a_T_draft_guestFloor, .ref a_T_draft_wishKind, .ref a_T_draft_wishA, .ref a_T_draft_wishB, .ref a_T_draft_wishNames, .int T_draft_guests, .int T_draft_wishes, .int T_draft_start])), (a_T_text, .inr (7, [.ref a_T_text_letters, .int T_text_length])), (a_T_text_letters, .inl (cC, 200, .inl T_text_letters)), (a_T_draft_wishNames, .inl (cI, 9, .inl T_draft_wishNames)), (a_T_draft_wishKind, .inl (cI, 9, .inl T_draft_wishKind)), (a_T_draft_wishA, .inl (cI, 9, .inl T_draft_wishA)), (a_T_draft_wishB, .inl (cI, 9, .inl T_draft_wishB)), (a_T_draft_guestKind, .inl (cI, 6, .inl T_draft_guestKind)), (a_T_draft_guestFloor, .inl (cI, 6, .inl T_draft_guestFloor))] s.heap.size = A at hD ⊢
  have hA : ∀ q : Nat, s.heap.size ≤ q → A q := fun q h => by rw [← hAe]; exact Or.inr h
  have hS : va_S A s.heap s.heap [] := va_S.rf
  have hl := lv_entry ([.ref a_T] : List Value) (n := 1) (Nat.le_of_ble_eq_true rfl)
  rw [lg_entry_eq]
  generalize (lg_sl ([.ref a_T] : List Value) ++ List.replicate (1 - (lg_sl ([.ref a_T] : List Value)).length) Slot.unset).toArray = ls at hl ⊢
  replace hl : lv_has ls 1 [(0, .ref a_T)] := hl
  obtain ⟨Q, hQ⟩ : ∃ Q, Q = MQ below (va_Qi (fun r (_ : Unit) => r = R.1) (fun _ => BW (dC, dI) (tysA cC cI cJ) A [(a_T, .inr (8, [.ref a_T_text, .ref a_T_draft, .ref a_T_reader, .ref a_T_slate, .ref a_T_tonight, .ref a_T_otherNight, .ref a_T_undoable, .ref a_T_kept, .ref a_T_mornings, .ref a_T_survey, .ref a_T_otherSurvey, .ref a_T_endsWithout, .int T_surveyed])), (a_T_reader, .inr (3, [.ref a_T_text, .ref a_T_draft, .int R.2.1])), (a_T_draft, .inr (5, [.ref a_T_draft_guestKind, .ref a_T_draft_guestFloor, .ref a_T_draft_wishKind, .ref a_T_draft_wishA, .ref a_T_draft_wishB, .ref a_T_draft_wishNames, .int R.2.2.1, .int R.2.2.2.1, .int R.2.2.2.2.1])), (a_T_text, .inr (7, [.ref a_T_text_letters, .int T_text_length])), (a_T_text_letters, .inl (cC, 200, .inl T_text_letters)), (a_T_draft_wishNames, .inl (cI, 9, .inl R.2.2.2.2.2.1)), (a_T_draft_wishKind, .inl (cI, 9, .inl R.2.2.2.2.2.2.1)), (a_T_draft_wishA, .inl (cI, 9, .inl R.2.2.2.2.2.2.2.1)), (a_T_draft_wishB, .inl (cI, 9, .inl R.2.2.2.2.2.2.2.2.1)), (a_T_draft_guestKind, .inl (cI, 6, .inl R.2.2.2.2.2.2.2.2.2.1)), (a_T_draft_guestFloor, .inl (cI, 6, .inl R.2.2.2.2.2.2.2.2.2.2))]) A) ([.ref a_T] : List Value).toArray s 0 0 A := ⟨_, rfl⟩
  rw [← hQ]
  suffices hE : WG p l e rmX8_fault s m ([.ref a_T] : List Value).toArray below meth c 0 0 Q (dC, dI) A 0 1 [(a_T, .inr (8, [.ref a_T_text, .ref a_T_draft, .ref a_T_reader, .ref a_T_slate, .ref a_T_tonight, .ref a_T_otherNight, .ref a_T_undoable, .ref a_T_kept, .ref a_T_mornings, .ref a_T_survey, .ref a_T_otherSurvey, .ref a_T_endsWithout, .int T_surveyed])), (a_T_reader, .inr (3, [.ref a_T_text, .ref a_T_draft, .int T_reader_next])), (a_T_draft, .inr (5, [.ref a_T_draft_guestKind, .ref a_T_draft_guestFloor, .ref a_T_draft_wishKind, .ref a_T_draft_wishA, .ref a_T_draft_wishB, .ref a_T_draft_wishNames, .int T_draft_guests, .int T_draft_wishes, .int T_draft_start])), (a_T_text, .inr (7, [.ref a_T_text_letters, .int T_text_length])), (a_T_text_letters, .inl (cC, 200, .inl T_text_letters)), (a_T_draft_wishNames, .inl (cI, 9, .inl T_draft_wishNames)), (a_T_draft_wishKind, .inl (cI, 9, .inl T_draft_wishKind)), (a_T_draft_wishA, .inl (cI, 9, .inl T_draft_wishA)), (a_T_draft_wishB, .inl (cI, 9, .inl T_draft_wishB)), (a_T_draft_guestKind, .inl (cI, 6, .inl T_draft_guestKind)), (a_T_draft_guestFloor, .inl (cI, 6, .inl T_draft_guestFloor))] [(0, .ref a_T)] [] from hE _ _ _ hP hD hS hl
  clear hP hD hS hl hD0 hAe
  intro H locs ls hP hD hS hl
  unfold fX8_fault at hr
  refine lv_aload_n hx hb dX8_fault_0 rfl (lv_at hl 0 rfl) ?_
  refine va_get (D := (dC, dI)) (ci := 8) (v := .ref a_T_reader) (C := RX8) (T := TX8) (N := 13) hx hb hts inX8_fault_X8 hown hK hP 0 rfl rfl 2 (by decide) (hts _ mbX8_fault_0) (fun _ h9 => h9) rfl dX8_fault_1 ?_
  obtain ⟨r, T_reader_next_1, T_draft_guests_1, T_draft_wishes_1, T_draft_start_1, T_draft_wishNames_1, T_draft_wishKind_1, T_draft_wishA_1, T_draft_wishB_1, T_draft_guestKind_1, T_draft_guestFloor_1, hc1, hr⟩ := bd11_some hr
  refine call_i (D := (dC, dI)) (tys := tysA cC cI cJ) (wc := [(a_T_reader, .inr (3, [.ref a_T_text, .ref a_T_draft, .int T_reader_next])), (a_T_draft, .inr (5, [.ref a_T_draft_guestKind, .ref a_T_draft_guestFloor, .ref a_T_draft_wishKind, .ref a_T_draft_wishA, .ref a_T_draft_wishB, .ref a_T_draft_wishNames, .int T_draft_guests, .int T_draft_wishes, .int T_draft_start])), (a_T_text, .inr (7, [.ref a_T_text_letters, .int T_text_length])), (a_T_text_letters, .inl (cC, 200, .inl T_text_letters)), (a_T_draft_wishNames, .inl (cI, 9, .inl T_draft_wishNames)), (a_T_draft_wishKind, .inl (cI, 9, .inl T_draft_wishKind)), (a_T_draft_wishA, .inl (cI, 9, .inl T_draft_wishA)), (a_T_draft_wishB, .inl (cI, 9, .inl T_draft_wishB)), (a_T_draft_guestKind, .inl (cI, 6, .inl T_draft_guestKind)), (a_T_draft_guestFloor, .inl (cI, 6, .inl T_draft_guestFloor))]) (wr := [(a_T, .inr (8, [.ref a_T_text, .ref a_T_draft, .ref a_T_reader, .ref a_T_slate, .ref a_T_tonight, .ref a_T_otherNight, .ref a_T_undoable, .ref a_T_kept, .ref a_T_mornings, .ref a_T_survey, .ref a_T_otherSurvey, .ref a_T_endsWithout, .int T_surveyed]))]) (w1 := [(a_T_reader, .inr (3, [.ref a_T_text, .ref a_T_draft, .int T_reader_next_1])), (a_T_draft, .inr (5, [.ref a_T_draft_guestKind, .ref a_T_draft_guestFloor, .ref a_T_draft_wishKind, .ref a_T_draft_wishA, .ref a_T_draft_wishB, .ref a_T_draft_wishNames, .int T_draft_guests_1, .int T_draft_wishes_1, .int T_draft_start_1])), (a_T_text, .inr (7, [.ref a_T_text_letters, .int T_text_length])), (a_T_text_letters, .inl (cC, 200, .inl T_text_letters)), (a_T_draft_wishNames, .inl (cI, 9, .inl T_draft_wishNames_1)), (a_T_draft_wishKind, .inl (cI, 9, .inl T_draft_wishKind_1)), (a_T_draft_wishA, .inl (cI, 9, .inl T_draft_wishA_1)), (a_T_draft_wishB, .inl (cI, 9, .inl T_draft_wishB_1)), (a_T_draft_guestKind, .inl (cI, 6, .inl T_draft_guestKind_1)), (a_T_draft_guestFloor, .inl (cI, 6, .inl T_draft_guestFloor_1))]) (wn := [(a_T, .inr (8, [.ref a_T_text, .ref a_T_draft, .ref a_T_reader, .ref a_T_slate, .ref a_T_tonight, .ref a_T_otherNight, .ref a_T_undoable, .ref a_T_kept, .ref a_T_mornings, .ref a_T_survey, .ref a_T_otherSurvey, .ref a_T_endsWithout, .int T_surveyed])), (a_T_reader, .inr (3, [.ref a_T_text, .ref a_T_draft, .int T_reader_next_1])), (a_T_draft, .inr (5, [.ref a_T_draft_guestKind, .ref a_T_draft_guestFloor, .ref a_T_draft_wishKind, .ref a_T_draft_wishA, .ref a_T_draft_wishB, .ref a_T_draft_wishNames, .int T_draft_guests_1, .int T_draft_wishes_1, .int T_draft_start_1])), (a_T_text, .inr (7, [.ref a_T_text_letters, .int T_text_length])), (a_T_text_letters, .inl (cC, 200, .inl T_text_letters)), (a_T_draft_wishNames, .inl (cI, 9, .inl T_draft_wishNames_1)), (a_T_draft_wishKind, .inl (cI, 9, .inl T_draft_wishKind_1)), (a_T_draft_wishA, .inl (cI, 9, .inl T_draft_wishA_1)), (a_T_draft_wishB, .inl (cI, 9, .inl T_draft_wishB_1)), (a_T_draft_guestKind, .inl (cI, 6, .inl T_draft_guestKind_1)), (a_T_draft_guestFloor, .inl (cI, 6, .inl T_draft_guestFloor_1))]) (r0 := r) hP hD hS hA [1, 2, 3, 4, 5, 6, 7, 8, 9, 10] [0] [0, 1, 2, 3, 4, 5, 6, 7, 8, 9, 10] rfl rfl (by decide +kernel) (by decide +kernel) rfl (by decide +kernel) (va_runVN (C := RX3) (host := "BootsAtDawn") (As := []) (rest := []) ⟨hx, hb, hml, hown, hts⟩ (kX3_readAll l dC dI cC cI cJ H.size K a_T_reader a_T_text a_T_draft a_T_draft_guestKind a_T_draft_guestFloor a_T_draft_wishKind a_T_draft_wishA a_T_draft_wishB a_T_draft_wishNames a_T_text_letters T_reader_next T_draft_guests T_draft_wishes T_draft_start T_text_length T_text_letters T_draft_wishNames T_draft_wishKind T_draft_wishA T_draft_wishB T_draft_guestKind T_draft_guestFloor (r, T_reader_next_1, T_draft_guests_1, T_draft_wishes_1, T_draft_start_1, T_draft_wishNames_1, T_draft_wishKind_1, T_draft_wishA_1, T_draft_wishB_1, T_draft_guestKind_1, T_draft_guestFloor_1) hc1) ⟨va_cnB 0 hts gX8_fault_X3_readAll_n109 rfl rfl rfl (hN _ nw_53) (hts _ mbX8_fault_2) (by decide +kernel) ⟨Nat.le_of_ble_eq_true rfl, Nat.le_of_ble_eq_true rfl⟩, (hts _ mbX8_fault_3), (hts _ mbX8_fault_4)⟩ ⟨fbW, va_recv hK hP (ci := 3) (q0 := 1) rfl rfl, preW hP hD hK hN [1, 2, 3, 4, 5, 6, 7, 8, 9, 10] rfl (by decide +kernel)⟩ rfl rfl hl.1 rfl (lv_room (Nat.le_of_ble_eq_true rfl)) dX8_fault_4 ⟨Nat.zero_le _, Nat.zero_le _⟩) (fun H locs hP hD hS => ?_)
  have he := Option.some.inj hr
  subst he
  subst hQ
  exact ret_i hx hb hrt hK hP hD hS hlocks dX8_fault_7
def fX8_layText (K : Nat) (T_surveyed : Int32) (T_reader_next : Int32) (T_draft_guests : Int32) (T_draft_wishes : Int32) (T_draft_start : Int32) (T_text_length : Int32) (T_text_letters : (Nat → Int32)) (T_draft_wishNames : (Nat → Int32)) (T_draft_wishKind : (Nat → Int32)) (T_draft_wishA : (Nat → Int32)) (T_draft_wishB : (Nat → Int32)) (T_draft_guestKind : (Nat → Int32)) (T_draft_guestFloor : (Nat → Int32)) (T_slate_guests : Int32) (T_slate_wishes : Int32) (T_slate_start : Int32) (T_slate_guestKind : (Nat → Int32)) (T_slate_guestFloor : (Nat → Int32)) (T_slate_wishKind : (Nat → Int32)) (T_slate_wishA : (Nat → Int32)) (T_slate_wishB : (Nat → Int32)) (T_slate_wishNames : (Nat → Int32)) (T_tonight_here : Int32) (T_tonight_struck : Int32) (T_tonight_floors : (Nat → Int32)) (T_undoable_size : Int32) (T_kept_size : Int32) (T_mornings_told : Int32) : Option (Int32 × Int32 × Int32 × Int32 × Int32 × Int32 × (Nat → Int32) × (Nat → Int32) × (Nat → Int32) × (Nat → Int32) × (Nat → Int32) × (Nat → Int32) × Int32 × Int32 × Int32 × (Nat → Int32) × (Nat → Int32) × (Nat → Int32) × (Nat → Int32) × (Nat → Int32) × (Nat → Int32) × Int32 × Int32 × (Nat → Int32) × Int32 × Int32 × Int32) :=
    bd11 (fX3_readAll K T_reader_next T_draft_guests T_draft_wishes T_draft_start T_text_length T_text_letters T_draft_wishNames T_draft_wishKind T_draft_wishA T_draft_wishB T_draft_guestKind T_draft_guestFloor) fun r T_reader_next_1 T_draft_guests_1 T_draft_wishes_1 T_draft_start_1 T_draft_wishNames_1 T_draft_wishKind_1 T_draft_wishA_1 T_draft_wishB_1 T_draft_guestKind_1 T_draft_guestFloor_1 =>
    if (r : Int32) = (-4) then (
    if 1 ≤ (T_draft_guests_1 : Int32) then (
    bd9 (fX5_takeFrom K T_slate_guests T_slate_wishes T_slate_start T_slate_guestKind T_slate_guestFloor T_slate_wishKind T_slate_wishA T_slate_wishB T_slate_wishNames T_draft_guests_1 T_draft_wishes_1 T_draft_start_1 T_draft_guestKind_1 T_draft_guestFloor_1 T_draft_wishKind_1 T_draft_wishA_1 T_draft_wishB_1 T_draft_wishNames_1) fun T_slate_guests_1 T_slate_wishes_1 T_slate_start_1 T_slate_guestKind_1 T_slate_guestFloor_1 T_slate_wishKind_1 T_slate_wishA_1 T_slate_wishB_1 T_slate_wishNames_1 =>
    bd3 (fX1_begin K T_tonight_here T_tonight_struck T_slate_guests_1 T_slate_guestFloor_1 T_tonight_floors) fun T_tonight_here_1 T_tonight_struck_1 T_tonight_floors_1 =>
    bd1 (fX2_clear K T_undoable_size) fun T_undoable_size_1 =>
    bd1 (fX2_clear K T_kept_size) fun T_kept_size_1 =>
    bd1 (fX0_clear K T_mornings_told) fun T_mornings_told_1 =>
    some (1, 0, T_reader_next_1, T_draft_guests_1, T_draft_wishes_1, T_draft_start_1, T_draft_wishNames_1, T_draft_wishKind_1, T_draft_wishA_1, T_draft_wishB_1, T_draft_guestKind_1, T_draft_guestFloor_1, T_slate_guests_1, T_slate_wishes_1, T_slate_start_1, T_slate_guestKind_1, T_slate_guestFloor_1, T_slate_wishKind_1, T_slate_wishA_1, T_slate_wishB_1, T_slate_wishNames_1, T_tonight_here_1, T_tonight_struck_1, T_tonight_floors_1, T_undoable_size_1, T_kept_size_1, T_mornings_told_1))
    else (
    some (0, T_surveyed, T_reader_next_1, T_draft_guests_1, T_draft_wishes_1, T_draft_start_1, T_draft_wishNames_1, T_draft_wishKind_1, T_draft_wishA_1, T_draft_wishB_1, T_draft_guestKind_1, T_draft_guestFloor_1, T_slate_guests, T_slate_wishes, T_slate_start, T_slate_guestKind, T_slate_guestFloor, T_slate_wishKind, T_slate_wishA, T_slate_wishB, T_slate_wishNames, T_tonight_here, T_tonight_struck, T_tonight_floors, T_undoable_size, T_kept_size, T_mornings_told)))
    else (
    some (0, T_surveyed, T_reader_next_1, T_draft_guests_1, T_draft_wishes_1, T_draft_start_1, T_draft_wishNames_1, T_draft_wishKind_1, T_draft_wishA_1, T_draft_wishB_1, T_draft_guestKind_1, T_draft_guestFloor_1, T_slate_guests, T_slate_wishes, T_slate_start, T_slate_guestKind, T_slate_guestFloor, T_slate_wishKind, T_slate_wishA, T_slate_wishB, T_slate_wishNames, T_tonight_here, T_tonight_struck, T_tonight_floors, T_undoable_size, T_kept_size, T_mornings_told))
theorem mbX8_layText_0 : Cond.fieldLink RX8 28 "BootsAtDawn" "reader" "LBootsAtDawn$Reader;" ∈ wsX8_layText := List.mem_of_getElem? (i := 1) rfl
theorem inX8_layText_X8 : ∀ w ∈ u_ws RX8 TX8 13, w ∈ wsX8_layText := fun _ h => (List.mem_cons_of_mem _ (List.mem_append_left _ (List.mem_append_left _ (List.mem_append_left _ (List.mem_append_left _ (List.mem_append_left _ (List.mem_append_left _ (List.mem_append_right _ h))))))))
theorem mbX8_layText_2 : Cond.initialized RX3 ∈ wsX8_layText := List.mem_of_getElem? (i := 10) rfl
theorem mbX8_layText_3 : Cond.instanceMethod yX3_readAll ∈ wsX8_layText := List.mem_of_getElem? (i := 9) rfl
theorem mbX8_layText_4 : Cond.selects RX3 yX3_readAll yX3_readAll ∈ wsX8_layText := List.mem_of_getElem? (i := 11) rfl
theorem mbX8_layText_5 : Cond.fieldLink RX8 19 "BootsAtDawn" "draft" "LBootsAtDawn$Slate;" ∈ wsX8_layText := List.mem_of_getElem? (i := 2) rfl
theorem inX8_layText_X5 : ∀ w ∈ u_ws RX5 TX5 9, w ∈ wsX8_layText := fun _ h => (List.mem_cons_of_mem _ (List.mem_append_left _ (List.mem_append_left _ (List.mem_append_left _ (List.mem_append_left _ (List.mem_append_left _ (List.mem_append_right _ h)))))))
theorem mbX8_layText_7 : Cond.fieldLink RX8 32 "BootsAtDawn" "slate" "LBootsAtDawn$Slate;" ∈ wsX8_layText := List.mem_of_getElem? (i := 3) rfl
theorem mbX8_layText_8 : Cond.initialized RX5 ∈ wsX8_layText := List.mem_of_getElem? (i := 17) rfl
theorem mbX8_layText_9 : Cond.instanceMethod yX5_takeFrom ∈ wsX8_layText := List.mem_of_getElem? (i := 71) rfl
theorem mbX8_layText_10 : Cond.selects RX5 yX5_takeFrom yX5_takeFrom ∈ wsX8_layText := List.mem_of_getElem? (i := 72) rfl
theorem mbX8_layText_11 : Cond.fieldLink RX8 40 "BootsAtDawn" "tonight" "LBootsAtDawn$Night;" ∈ wsX8_layText := List.mem_of_getElem? (i := 4) rfl
theorem mbX8_layText_12 : Cond.initialized RX1 ∈ wsX8_layText := List.mem_of_getElem? (i := 77) rfl
theorem mbX8_layText_13 : Cond.instanceMethod yX1_begin ∈ wsX8_layText := List.mem_of_getElem? (i := 76) rfl
theorem mbX8_layText_14 : Cond.selects RX1 yX1_begin yX1_begin ∈ wsX8_layText := List.mem_of_getElem? (i := 78) rfl
theorem mbX8_layText_15 : Cond.fieldLink RX8 52 "BootsAtDawn" "undoable" "LBootsAtDawn$Pile;" ∈ wsX8_layText := List.mem_of_getElem? (i := 5) rfl
theorem mbX8_layText_16 : Cond.initialized RX2 ∈ wsX8_layText := List.mem_of_getElem? (i := 85) rfl
theorem mbX8_layText_17 : Cond.instanceMethod yX2_clear ∈ wsX8_layText := List.mem_of_getElem? (i := 84) rfl
theorem mbX8_layText_18 : Cond.selects RX2 yX2_clear yX2_clear ∈ wsX8_layText := List.mem_of_getElem? (i := 86) rfl
theorem mbX8_layText_19 : Cond.fieldLink RX8 56 "BootsAtDawn" "kept" "LBootsAtDawn$Pile;" ∈ wsX8_layText := List.mem_of_getElem? (i := 6) rfl
theorem mbX8_layText_20 : Cond.fieldLink RX8 62 "BootsAtDawn" "mornings" "LBootsAtDawn$Mornings;" ∈ wsX8_layText := List.mem_of_getElem? (i := 7) rfl
theorem mbX8_layText_21 : Cond.initialized RX0 ∈ wsX8_layText := List.mem_of_getElem? (i := 90) rfl
theorem mbX8_layText_22 : Cond.instanceMethod yX0_clear ∈ wsX8_layText := List.mem_of_getElem? (i := 89) rfl
theorem mbX8_layText_23 : Cond.selects RX0 yX0_clear yX0_clear ∈ wsX8_layText := List.mem_of_getElem? (i := 91) rfl
theorem mbX8_layText_24 : Cond.fieldLink RX8 221 "BootsAtDawn" "surveyed" "Z" ∈ wsX8_layText := List.mem_of_getElem? (i := 8) rfl
abbrev rmX8_layText : Room := { frames := 5, cells := 0, slots := 0, locals := 114 }
set_option maxHeartbeats 8000000 in
set_option maxRecDepth 100000 in
theorem kX8_layText (l : Launch) (dC : Nat → ClassId) (dI : Nat → Nat → Nat) (cC cI cJ : ClassId) (sz : Nat) (K : Nat) (a_T a_T_text a_T_draft a_T_reader a_T_slate a_T_tonight a_T_otherNight a_T_undoable a_T_kept a_T_mornings a_T_survey a_T_otherSurvey a_T_endsWithout a_T_draft_guestKind a_T_draft_guestFloor a_T_draft_wishKind a_T_draft_wishA a_T_draft_wishB a_T_draft_wishNames a_T_text_letters a_T_slate_guestKind a_T_slate_guestFloor a_T_slate_wishKind a_T_slate_wishA a_T_slate_wishB a_T_slate_wishNames a_T_tonight_floors a_T_undoable_nights a_T_kept_nights a_T_mornings_ahead a_T_mornings_behind : Nat) (T_surveyed : Int32) (T_reader_next : Int32) (T_draft_guests : Int32) (T_draft_wishes : Int32) (T_draft_start : Int32) (T_text_length : Int32) (T_text_letters : (Nat → Int32)) (T_draft_wishNames : (Nat → Int32)) (T_draft_wishKind : (Nat → Int32)) (T_draft_wishA : (Nat → Int32)) (T_draft_wishB : (Nat → Int32)) (T_draft_guestKind : (Nat → Int32)) (T_draft_guestFloor : (Nat → Int32)) (T_slate_guests : Int32) (T_slate_wishes : Int32) (T_slate_start : Int32) (T_slate_guestKind : (Nat → Int32)) (T_slate_guestFloor : (Nat → Int32)) (T_slate_wishKind : (Nat → Int32)) (T_slate_wishA : (Nat → Int32)) (T_slate_wishB : (Nat → Int32)) (T_slate_wishNames : (Nat → Int32)) (T_tonight_here : Int32) (T_tonight_struck : Int32) (T_tonight_floors : (Nat → Int32)) (T_undoable_size : Int32) (T_kept_size : Int32) (T_mornings_told : Int32) (R : Int32 × Int32 × Int32 × Int32 × Int32 × Int32 × (Nat → Int32) × (Nat → Int32) × (Nat → Int32) × (Nat → Int32) × (Nat → Int32) × (Nat → Int32) × Int32 × Int32 × Int32 × (Nat → Int32) × (Nat → Int32) × (Nat → Int32) × (Nat → Int32) × (Nat → Int32) × (Nat → Int32) × Int32 × Int32 × (Nat → Int32) × Int32 × Int32 × Int32) (hr : fX8_layText K T_surveyed T_reader_next T_draft_guests T_draft_wishes T_draft_start T_text_length T_text_letters T_draft_wishNames T_draft_wishKind T_draft_wishA T_draft_wishB T_draft_guestKind T_draft_guestFloor T_slate_guests T_slate_wishes T_slate_start T_slate_guestKind T_slate_guestFloor T_slate_wishKind T_slate_wishA T_slate_wishB T_slate_wishNames T_tonight_here T_tonight_struck T_tonight_floors T_undoable_size T_kept_size T_mornings_told = some R) : Met l yX8_layText wsX8_layText rmX8_layText (va_Pc ([.ref a_T] : List Value) (PcW (dC, dI) (tysA cC cI cJ) sz [(a_T, .inr (8, [.ref a_T_text, .ref a_T_draft, .ref a_T_reader, .ref a_T_slate, .ref a_T_tonight, .ref a_T_otherNight, .ref a_T_undoable, .ref a_T_kept, .ref a_T_mornings, .ref a_T_survey, .ref a_T_otherSurvey, .ref a_T_endsWithout, .int T_surveyed])), (a_T_reader, .inr (3, [.ref a_T_text, .ref a_T_draft, .int T_reader_next])), (a_T_draft, .inr (5, [.ref a_T_draft_guestKind, .ref a_T_draft_guestFloor, .ref a_T_draft_wishKind, .ref a_T_draft_wishA, .ref a_T_draft_wishB, .ref a_T_draft_wishNames, .int T_draft_guests, .int T_draft_wishes, .int T_draft_start])), (a_T_text, .inr (7, [.ref a_T_text_letters, .int T_text_length])), (a_T_text_letters, .inl (cC, 200, .inl T_text_letters)), (a_T_draft_wishNames, .inl (cI, 9, .inl T_draft_wishNames)), (a_T_draft_wishKind, .inl (cI, 9, .inl T_draft_wishKind)), (a_T_draft_wishA, .inl (cI, 9, .inl T_draft_wishA)), (a_T_draft_wishB, .inl (cI, 9, .inl T_draft_wishB)), (a_T_draft_guestKind, .inl (cI, 6, .inl T_draft_guestKind)), (a_T_draft_guestFloor, .inl (cI, 6, .inl T_draft_guestFloor)), (a_T_slate, .inr (5, [.ref a_T_slate_guestKind, .ref a_T_slate_guestFloor, .ref a_T_slate_wishKind, .ref a_T_slate_wishA, .ref a_T_slate_wishB, .ref a_T_slate_wishNames, .int T_slate_guests, .int T_slate_wishes, .int T_slate_start])), (a_T_slate_guestKind, .inl (cI, 6, .inl T_slate_guestKind)), (a_T_slate_guestFloor, .inl (cI, 6, .inl T_slate_guestFloor)), (a_T_slate_wishKind, .inl (cI, 9, .inl T_slate_wishKind)), (a_T_slate_wishA, .inl (cI, 9, .inl T_slate_wishA)), (a_T_slate_wishB, .inl (cI, 9, .inl T_slate_wishB)), (a_T_slate_wishNames, .inl (cI, 9, .inl T_slate_wishNames)), (a_T_tonight, .inr (1, [.ref a_T_slate, .ref a_T_tonight_floors, .int T_tonight_here, .int T_tonight_struck])), (a_T_tonight_floors, .inl (cI, 6, .inl T_tonight_floors)), (a_T_undoable, .inr (2, [.ref a_T_undoable_nights, .int T_undoable_size])), (a_T_kept, .inr (2, [.ref a_T_kept_nights, .int T_kept_size])), (a_T_mornings, .inr (0, [.ref a_T_mornings_ahead, .ref a_T_mornings_behind, .int T_mornings_told]))])) (va_Qi (fun r (_ : Unit) => r = R.1) (fun _ => BW (dC, dI) (tysA cC cI cJ) (va_A [(a_T, .inr (8, [.ref a_T_text, .ref a_T_draft, .ref a_T_reader, .ref a_T_slate, .ref a_T_tonight, .ref a_T_otherNight, .ref a_T_undoable, .ref a_T_kept, .ref a_T_mornings, .ref a_T_survey, .ref a_T_otherSurvey, .ref a_T_endsWithout, .int T_surveyed])), (a_T_reader, .inr (3, [.ref a_T_text, .ref a_T_draft, .int T_reader_next])), (a_T_draft, .inr (5, [.ref a_T_draft_guestKind, .ref a_T_draft_guestFloor, .ref a_T_draft_wishKind, .ref a_T_draft_wishA, .ref a_T_draft_wishB, .ref a_T_draft_wishNames, .int T_draft_guests, .int T_draft_wishes, .int T_draft_start])), (a_T_text, .inr (7, [.ref a_T_text_letters, .int T_text_length])), (a_T_text_letters, .inl (cC, 200, .inl T_text_letters)), (a_T_draft_wishNames, .inl (cI, 9, .inl T_draft_wishNames)), (a_T_draft_wishKind, .inl (cI, 9, .inl T_draft_wishKind)), (a_T_draft_wishA, .inl (cI, 9, .inl T_draft_wishA)), (a_T_draft_wishB, .inl (cI, 9, .inl T_draft_wishB)), (a_T_draft_guestKind, .inl (cI, 6, .inl T_draft_guestKind)), (a_T_draft_guestFloor, .inl (cI, 6, .inl T_draft_guestFloor)), (a_T_slate, .inr (5, [.ref a_T_slate_guestKind, .ref a_T_slate_guestFloor, .ref a_T_slate_wishKind, .ref a_T_slate_wishA, .ref a_T_slate_wishB, .ref a_T_slate_wishNames, .int T_slate_guests, .int T_slate_wishes, .int T_slate_start])), (a_T_slate_guestKind, .inl (cI, 6, .inl T_slate_guestKind)), (a_T_slate_guestFloor, .inl (cI, 6, .inl T_slate_guestFloor)), (a_T_slate_wishKind, .inl (cI, 9, .inl T_slate_wishKind)), (a_T_slate_wishA, .inl (cI, 9, .inl T_slate_wishA)), (a_T_slate_wishB, .inl (cI, 9, .inl T_slate_wishB)), (a_T_slate_wishNames, .inl (cI, 9, .inl T_slate_wishNames)), (a_T_tonight, .inr (1, [.ref a_T_slate, .ref a_T_tonight_floors, .int T_tonight_here, .int T_tonight_struck])), (a_T_tonight_floors, .inl (cI, 6, .inl T_tonight_floors)), (a_T_undoable, .inr (2, [.ref a_T_undoable_nights, .int T_undoable_size])), (a_T_kept, .inr (2, [.ref a_T_kept_nights, .int T_kept_size])), (a_T_mornings, .inr (0, [.ref a_T_mornings_ahead, .ref a_T_mornings_behind, .int T_mornings_told]))] sz) [(a_T, .inr (8, [.ref a_T_text, .ref a_T_draft, .ref a_T_reader, .ref a_T_slate, .ref a_T_tonight, .ref a_T_otherNight, .ref a_T_undoable, .ref a_T_kept, .ref a_T_mornings, .ref a_T_survey, .ref a_T_otherSurvey, .ref a_T_endsWithout, .int R.2.1])), (a_T_reader, .inr (3, [.ref a_T_text, .ref a_T_draft, .int R.2.2.1])), (a_T_draft, .inr (5, [.ref a_T_draft_guestKind, .ref a_T_draft_guestFloor, .ref a_T_draft_wishKind, .ref a_T_draft_wishA, .ref a_T_draft_wishB, .ref a_T_draft_wishNames, .int R.2.2.2.1, .int R.2.2.2.2.1, .int R.2.2.2.2.2.1])), (a_T_text, .inr (7, [.ref a_T_text_letters, .int T_text_length])), (a_T_text_letters, .inl (cC, 200, .inl T_text_letters)), (a_T_draft_wishNames, .inl (cI, 9, .inl R.2.2.2.2.2.2.1)), (a_T_draft_wishKind, .inl (cI, 9, .inl R.2.2.2.2.2.2.2.1)), (a_T_draft_wishA, .inl (cI, 9, .inl R.2.2.2.2.2.2.2.2.1)), (a_T_draft_wishB, .inl (cI, 9, .inl R.2.2.2.2.2.2.2.2.2.1)), (a_T_draft_guestKind, .inl (cI, 6, .inl R.2.2.2.2.2.2.2.2.2.2.1)), (a_T_draft_guestFloor, .inl (cI, 6, .inl R.2.2.2.2.2.2.2.2.2.2.2.1)), (a_T_slate, .inr (5, [.ref a_T_slate_guestKind, .ref a_T_slate_guestFloor, .ref a_T_slate_wishKind, .ref a_T_slate_wishA, .ref a_T_slate_wishB, .ref a_T_slate_wishNames, .int R.2.2.2.2.2.2.2.2.2.2.2.2.1, .int R.2.2.2.2.2.2.2.2.2.2.2.2.2.1, .int R.2.2.2.2.2.2.2.2.2.2.2.2.2.2.1])), (a_T_slate_guestKind, .inl (cI, 6, .inl R.2.2.2.2.2.2.2.2.2.2.2.2.2.2.2.1)), (a_T_slate_guestFloor, .inl (cI, 6, .inl R.2.2.2.2.2.2.2.2.2.2.2.2.2.2.2.2.1)), (a_T_slate_wishKind, .inl (cI, 9, .inl R.2.2.2.2.2.2.2.2.2.2.2.2.2.2.2.2.2.1)), (a_T_slate_wishA, .inl (cI, 9, .inl R.2.2.2.2.2.2.2.2.2.2.2.2.2.2.2.2.2.2.1)), (a_T_slate_wishB, .inl (cI, 9, .inl R.2.2.2.2.2.2.2.2.2.2.2.2.2.2.2.2.2.2.2.1)), (a_T_slate_wishNames, .inl (cI, 9, .inl R.2.2.2.2.2.2.2.2.2.2.2.2.2.2.2.2.2.2.2.2.1)), (a_T_tonight, .inr (1, [.ref a_T_slate, .ref a_T_tonight_floors, .int R.2.2.2.2.2.2.2.2.2.2.2.2.2.2.2.2.2.2.2.2.2.1, .int R.2.2.2.2.2.2.2.2.2.2.2.2.2.2.2.2.2.2.2.2.2.2.1])), (a_T_tonight_floors, .inl (cI, 6, .inl R.2.2.2.2.2.2.2.2.2.2.2.2.2.2.2.2.2.2.2.2.2.2.2.1)), (a_T_undoable, .inr (2, [.ref a_T_undoable_nights, .int R.2.2.2.2.2.2.2.2.2.2.2.2.2.2.2.2.2.2.2.2.2.2.2.2.1])), (a_T_kept, .inr (2, [.ref a_T_kept_nights, .int R.2.2.2.2.2.2.2.2.2.2.2.2.2.2.2.2.2.2.2.2.2.2.2.2.2.1])), (a_T_mornings, .inr (0, [.ref a_T_mornings_ahead, .ref a_T_mornings_behind, .int R.2.2.2.2.2.2.2.2.2.2.2.2.2.2.2.2.2.2.2.2.2.2.2.2.2.2]))]) (va_A [(a_T, .inr (8, [.ref a_T_text, .ref a_T_draft, .ref a_T_reader, .ref a_T_slate, .ref a_T_tonight, .ref a_T_otherNight, .ref a_T_undoable, .ref a_T_kept, .ref a_T_mornings, .ref a_T_survey, .ref a_T_otherSurvey, .ref a_T_endsWithout, .int T_surveyed])), (a_T_reader, .inr (3, [.ref a_T_text, .ref a_T_draft, .int T_reader_next])), (a_T_draft, .inr (5, [.ref a_T_draft_guestKind, .ref a_T_draft_guestFloor, .ref a_T_draft_wishKind, .ref a_T_draft_wishA, .ref a_T_draft_wishB, .ref a_T_draft_wishNames, .int T_draft_guests, .int T_draft_wishes, .int T_draft_start])), (a_T_text, .inr (7, [.ref a_T_text_letters, .int T_text_length])), (a_T_text_letters, .inl (cC, 200, .inl T_text_letters)), (a_T_draft_wishNames, .inl (cI, 9, .inl T_draft_wishNames)), (a_T_draft_wishKind, .inl (cI, 9, .inl T_draft_wishKind)), (a_T_draft_wishA, .inl (cI, 9, .inl T_draft_wishA)), (a_T_draft_wishB, .inl (cI, 9, .inl T_draft_wishB)), (a_T_draft_guestKind, .inl (cI, 6, .inl T_draft_guestKind)), (a_T_draft_guestFloor, .inl (cI, 6, .inl T_draft_guestFloor)), (a_T_slate, .inr (5, [.ref a_T_slate_guestKind, .ref a_T_slate_guestFloor, .ref a_T_slate_wishKind, .ref a_T_slate_wishA, .ref a_T_slate_wishB, .ref a_T_slate_wishNames, .int T_slate_guests, .int T_slate_wishes, .int T_slate_start])), (a_T_slate_guestKind, .inl (cI, 6, .inl T_slate_guestKind)), (a_T_slate_guestFloor, .inl (cI, 6, .inl T_slate_guestFloor)), (a_T_slate_wishKind, .inl (cI, 9, .inl T_slate_wishKind)), (a_T_slate_wishA, .inl (cI, 9, .inl T_slate_wishA)), (a_T_slate_wishB, .inl (cI, 9, .inl T_slate_wishB)), (a_T_slate_wishNames, .inl (cI, 9, .inl T_slate_wishNames)), (a_T_tonight, .inr (1, [.ref a_T_slate, .ref a_T_tonight_floors, .int T_tonight_here, .int T_tonight_struck])), (a_T_tonight_floors, .inl (cI, 6, .inl T_tonight_floors)), (a_T_undoable, .inr (2, [.ref a_T_undoable_nights, .int T_undoable_size])), (a_T_kept, .inr (2, [.ref a_T_kept_nights, .int T_kept_size])), (a_T_mornings, .inr (0, [.ref a_T_mornings_ahead, .ref a_T_mornings_behind, .int T_mornings_told]))] sz)) 0 0 (va_A [(a_T, .inr (8, [.ref a_T_text, .ref a_T_draft, .ref a_T_reader, .ref a_T_slate, .ref a_T_tonight, .ref a_T_otherNight, .ref a_T_undoable, .ref a_T_kept, .ref a_T_mornings, .ref a_T_survey, .ref a_T_otherSurvey, .ref a_T_endsWithout, .int T_surveyed])), (a_T_reader, .inr (3, [.ref a_T_text, .ref a_T_draft, .int T_reader_next])), (a_T_draft, .inr (5, [.ref a_T_draft_guestKind, .ref a_T_draft_guestFloor, .ref a_T_draft_wishKind, .ref a_T_draft_wishA, .ref a_T_draft_wishB, .ref a_T_draft_wishNames, .int T_draft_guests, .int T_draft_wishes, .int T_draft_start])), (a_T_text, .inr (7, [.ref a_T_text_letters, .int T_text_length])), (a_T_text_letters, .inl (cC, 200, .inl T_text_letters)), (a_T_draft_wishNames, .inl (cI, 9, .inl T_draft_wishNames)), (a_T_draft_wishKind, .inl (cI, 9, .inl T_draft_wishKind)), (a_T_draft_wishA, .inl (cI, 9, .inl T_draft_wishA)), (a_T_draft_wishB, .inl (cI, 9, .inl T_draft_wishB)), (a_T_draft_guestKind, .inl (cI, 6, .inl T_draft_guestKind)), (a_T_draft_guestFloor, .inl (cI, 6, .inl T_draft_guestFloor)), (a_T_slate, .inr (5, [.ref a_T_slate_guestKind, .ref a_T_slate_guestFloor, .ref a_T_slate_wishKind, .ref a_T_slate_wishA, .ref a_T_slate_wishB, .ref a_T_slate_wishNames, .int T_slate_guests, .int T_slate_wishes, .int T_slate_start])), (a_T_slate_guestKind, .inl (cI, 6, .inl T_slate_guestKind)), (a_T_slate_guestFloor, .inl (cI, 6, .inl T_slate_guestFloor)), (a_T_slate_wishKind, .inl (cI, 9, .inl T_slate_wishKind)), (a_T_slate_wishA, .inl (cI, 9, .inl T_slate_wishA)), (a_T_slate_wishB, .inl (cI, 9, .inl T_slate_wishB)), (a_T_slate_wishNames, .inl (cI, 9, .inl T_slate_wishNames)), (a_T_tonight, .inr (1, [.ref a_T_slate, .ref a_T_tonight_floors, .int T_tonight_here, .int T_tonight_struck])), (a_T_tonight_floors, .inl (cI, 6, .inl T_tonight_floors)), (a_T_undoable, .inr (2, [.ref a_T_undoable_nights, .int T_undoable_size])), (a_T_kept, .inr (2, [.ref a_T_kept_nights, .int T_kept_size])), (a_T_mornings, .inr (0, [.ref a_T_mornings_ahead, .ref a_T_mornings_behind, .int T_mornings_told]))] sz) := by
  refine Met.ofW (cc := cX8_layText) (maxL := 1) (ret := (some .boolean)) (by decide) rfl ?_
  intro p e s m args below meth c s₁ B hml hv
  obtain ⟨rfl, hsz, hP, hK, hD0, hN⟩ := hv
  have hx := B.exec
  have hb := B.bytes
  have hrt := B.returns
  have hts := atoms_spec (ws := wsX8_layText) B.pre
  have hown : s.vm.findClass RX8 = some m.cls := findClass_of_methodNamed B.named
  have hlocks := B.notSynchronized
  subst hsz
  have hD := hD0.self (sz := s.heap.size)
  generalize hAe : va_A [(a_T, .inr (8, [.ref a_T_text, .ref a_T_draft, .ref a_T_reader, .ref a_T_slate, .ref a_T_tonight, .ref a_T_otherNight, .ref a_T_undoable, .ref a_T_kept, .ref a_T_mornings, .ref a_T_survey, .ref a_T_otherSurvey, .ref a_T_endsWithout, .int T_surveyed])), (a_T_reader, .inr (3, [.ref a_T_text, .ref a_T_draft, .int T_reader_next])), (a_T_draft, .inr (5, [.ref a_T_draft_guestKind, .ref a_T_draft_guestFloor, .ref a_T_draft_wishKind, .ref a_T_draft_wishA, .ref a_T_draft_wishB, .ref a_T_draft_wishNames, .int T_draft_guests, .int T_draft_wishes, .int T_draft_start])), (a_T_text, .inr (7, [.ref a_T_text_letters, .int T_text_length])), (a_T_text_letters, .inl (cC, 200, .inl T_text_letters)), (a_T_draft_wishNames, .inl (cI, 9, .inl T_draft_wishNames)), (a_T_draft_wishKind, .inl (cI, 9, .inl T_draft_wishKind)), (a_T_draft_wishA, .inl (cI, 9, .inl T_draft_wishA)), (a_T_draft_wishB, .inl (cI, 9, .inl T_draft_wishB)), (a_T_draft_guestKind, .inl (cI, 6, .inl T_draft_guestKind)), (a_T_draft_guestFloor, .inl (cI, 6, .inl T_draft_guestFloor)), (a_T_slate, .inr (5, [.ref a_T_slate_guestKind, .ref a_T_slate_guestFloor, .ref a_T_slate_wishKind, .ref a_T_slate_wishA, .ref a_T_slate_wishB, .ref a_T_slate_wishNames, .int T_slate_guests, .int T_slate_wishes, .int T_slate_start])), (a_T_slate_guestKind, .inl (cI, 6, .inl T_slate_guestKind)), (a_T_slate_guestFloor, .inl (cI, 6, .inl T_slate_guestFloor)), (a_T_slate_wishKind, .inl (cI, 9, .inl T_slate_wishKind)), (a_T_slate_wishA, .inl (cI, 9, .inl T_slate_wishA)), (a_T_slate_wishB, .inl (cI, 9, .inl T_slate_wishB)), (a_T_slate_wishNames, .inl (cI, 9, .inl T_slate_wishNames)), (a_T_tonight, .inr (1, [.ref a_T_slate, .ref a_T_tonight_floors, .int T_tonight_here, .int T_tonight_struck])), (a_T_tonight_floors, .inl (cI, 6, .inl T_tonight_floors)), (a_T_undoable, .inr (2, [.ref a_T_undoable_nights, .int T_undoable_size])), (a_T_kept, .inr (2, [.ref a_T_kept_nights, .int T_kept_size])), (a_T_mornings, .inr (0, [.ref a_T_mornings_ahead, .ref a_T_mornings_behind, .int T_mornings_told]))] s.heap.size = A at hD ⊢
  have hA : ∀ q : Nat, s.heap.size ≤ q → A q := fun q h => by rw [← hAe]; exact Or.inr h
  have hS : va_S A s.heap s.heap [] := va_S.rf
  have hl := lv_entry ([.ref a_T] : List Value) (n := 1) (Nat.le_of_ble_eq_true rfl)
  rw [lg_entry_eq]
  generalize (lg_sl ([.ref a_T] : List Value) ++ List.replicate (1 - (lg_sl ([.ref a_T] : List Value)).length) Slot.unset).toArray = ls at hl ⊢
  replace hl : lv_has ls 1 [(0, .ref a_T)] := hl
  obtain ⟨Q, hQ⟩ : ∃ Q, Q = MQ below (va_Qi (fun r (_ : Unit) => r = R.1) (fun _ => BW (dC, dI) (tysA cC cI cJ) A [(a_T, .inr (8, [.ref a_T_text, .ref a_T_draft, .ref a_T_reader, .ref a_T_slate, .ref a_T_tonight, .ref a_T_otherNight, .ref a_T_undoable, .ref a_T_kept, .ref a_T_mornings, .ref a_T_survey, .ref a_T_otherSurvey, .ref a_T_endsWithout, .int R.2.1])), (a_T_reader, .inr (3, [.ref a_T_text, .ref a_T_draft, .int R.2.2.1])), (a_T_draft, .inr (5, [.ref a_T_draft_guestKind, .ref a_T_draft_guestFloor, .ref a_T_draft_wishKind, .ref a_T_draft_wishA, .ref a_T_draft_wishB, .ref a_T_draft_wishNames, .int R.2.2.2.1, .int R.2.2.2.2.1, .int R.2.2.2.2.2.1])), (a_T_text, .inr (7, [.ref a_T_text_letters, .int T_text_length])), (a_T_text_letters, .inl (cC, 200, .inl T_text_letters)), (a_T_draft_wishNames, .inl (cI, 9, .inl R.2.2.2.2.2.2.1)), (a_T_draft_wishKind, .inl (cI, 9, .inl R.2.2.2.2.2.2.2.1)), (a_T_draft_wishA, .inl (cI, 9, .inl R.2.2.2.2.2.2.2.2.1)), (a_T_draft_wishB, .inl (cI, 9, .inl R.2.2.2.2.2.2.2.2.2.1)), (a_T_draft_guestKind, .inl (cI, 6, .inl R.2.2.2.2.2.2.2.2.2.2.1)), (a_T_draft_guestFloor, .inl (cI, 6, .inl R.2.2.2.2.2.2.2.2.2.2.2.1)), (a_T_slate, .inr (5, [.ref a_T_slate_guestKind, .ref a_T_slate_guestFloor, .ref a_T_slate_wishKind, .ref a_T_slate_wishA, .ref a_T_slate_wishB, .ref a_T_slate_wishNames, .int R.2.2.2.2.2.2.2.2.2.2.2.2.1, .int R.2.2.2.2.2.2.2.2.2.2.2.2.2.1, .int R.2.2.2.2.2.2.2.2.2.2.2.2.2.2.1])), (a_T_slate_guestKind, .inl (cI, 6, .inl R.2.2.2.2.2.2.2.2.2.2.2.2.2.2.2.1)), (a_T_slate_guestFloor, .inl (cI, 6, .inl R.2.2.2.2.2.2.2.2.2.2.2.2.2.2.2.2.1)), (a_T_slate_wishKind, .inl (cI, 9, .inl R.2.2.2.2.2.2.2.2.2.2.2.2.2.2.2.2.2.1)), (a_T_slate_wishA, .inl (cI, 9, .inl R.2.2.2.2.2.2.2.2.2.2.2.2.2.2.2.2.2.2.1)), (a_T_slate_wishB, .inl (cI, 9, .inl R.2.2.2.2.2.2.2.2.2.2.2.2.2.2.2.2.2.2.2.1)), (a_T_slate_wishNames, .inl (cI, 9, .inl R.2.2.2.2.2.2.2.2.2.2.2.2.2.2.2.2.2.2.2.2.1)), (a_T_tonight, .inr (1, [.ref a_T_slate, .ref a_T_tonight_floors, .int R.2.2.2.2.2.2.2.2.2.2.2.2.2.2.2.2.2.2.2.2.2.1, .int R.2.2.2.2.2.2.2.2.2.2.2.2.2.2.2.2.2.2.2.2.2.2.1])), (a_T_tonight_floors, .inl (cI, 6, .inl R.2.2.2.2.2.2.2.2.2.2.2.2.2.2.2.2.2.2.2.2.2.2.2.1)), (a_T_undoable, .inr (2, [.ref a_T_undoable_nights, .int R.2.2.2.2.2.2.2.2.2.2.2.2.2.2.2.2.2.2.2.2.2.2.2.2.1])), (a_T_kept, .inr (2, [.ref a_T_kept_nights, .int R.2.2.2.2.2.2.2.2.2.2.2.2.2.2.2.2.2.2.2.2.2.2.2.2.2.1])), (a_T_mornings, .inr (0, [.ref a_T_mornings_ahead, .ref a_T_mornings_behind, .int R.2.2.2.2.2.2.2.2.2.2.2.2.2.2.2.2.2.2.2.2.2.2.2.2.2.2]))]) A) ([.ref a_T] : List Value).toArray s 0 0 A := ⟨_, rfl⟩
  rw [← hQ]
  suffices hE : WG p l e rmX8_layText s m ([.ref a_T] : List Value).toArray below meth c 0 0 Q (dC, dI) A 0 1 [(a_T, .inr (8, [.ref a_T_text, .ref a_T_draft, .ref a_T_reader, .ref a_T_slate, .ref a_T_tonight, .ref a_T_otherNight, .ref a_T_undoable, .ref a_T_kept, .ref a_T_mornings, .ref a_T_survey, .ref a_T_otherSurvey, .ref a_T_endsWithout, .int T_surveyed])), (a_T_reader, .inr (3, [.ref a_T_text, .ref a_T_draft, .int T_reader_next])), (a_T_draft, .inr (5, [.ref a_T_draft_guestKind, .ref a_T_draft_guestFloor, .ref a_T_draft_wishKind, .ref a_T_draft_wishA, .ref a_T_draft_wishB, .ref a_T_draft_wishNames, .int T_draft_guests, .int T_draft_wishes, .int T_draft_start])), (a_T_text, .inr (7, [.ref a_T_text_letters, .int T_text_length])), (a_T_text_letters, .inl (cC, 200, .inl T_text_letters)), (a_T_draft_wishNames, .inl (cI, 9, .inl T_draft_wishNames)), (a_T_draft_wishKind, .inl (cI, 9, .inl T_draft_wishKind)), (a_T_draft_wishA, .inl (cI, 9, .inl T_draft_wishA)), (a_T_draft_wishB, .inl (cI, 9, .inl T_draft_wishB)), (a_T_draft_guestKind, .inl (cI, 6, .inl T_draft_guestKind)), (a_T_draft_guestFloor, .inl (cI, 6, .inl T_draft_guestFloor)), (a_T_slate, .inr (5, [.ref a_T_slate_guestKind, .ref a_T_slate_guestFloor, .ref a_T_slate_wishKind, .ref a_T_slate_wishA, .ref a_T_slate_wishB, .ref a_T_slate_wishNames, .int T_slate_guests, .int T_slate_wishes, .int T_slate_start])), (a_T_slate_guestKind, .inl (cI, 6, .inl T_slate_guestKind)), (a_T_slate_guestFloor, .inl (cI, 6, .inl T_slate_guestFloor)), (a_T_slate_wishKind, .inl (cI, 9, .inl T_slate_wishKind)), (a_T_slate_wishA, .inl (cI, 9, .inl T_slate_wishA)), (a_T_slate_wishB, .inl (cI, 9, .inl T_slate_wishB)), (a_T_slate_wishNames, .inl (cI, 9, .inl T_slate_wishNames)), (a_T_tonight, .inr (1, [.ref a_T_slate, .ref a_T_tonight_floors, .int T_tonight_here, .int T_tonight_struck])), (a_T_tonight_floors, .inl (cI, 6, .inl T_tonight_floors)), (a_T_undoable, .inr (2, [.ref a_T_undoable_nights, .int T_undoable_size])), (a_T_kept, .inr (2, [.ref a_T_kept_nights, .int T_kept_size])), (a_T_mornings, .inr (0, [.ref a_T_mornings_ahead, .ref a_T_mornings_behind, .int T_mornings_told]))] [(0, .ref a_T)] [] from hE _ _ _ hP hD hS hl
  clear hP hD hS hl hD0 hAe
  intro H locs ls hP hD hS hl
  unfold fX8_layText at hr
  refine lv_aload_n hx hb dX8_layText_0 rfl (lv_at hl 0 rfl) ?_
  refine va_get (D := (dC, dI)) (ci := 8) (v := .ref a_T_reader) (C := RX8) (T := TX8) (N := 13) hx hb hts inX8_layText_X8 hown hK hP 0 rfl rfl 2 (by decide) (hts _ mbX8_layText_0) (fun _ h9 => h9) rfl dX8_layText_1 ?_
  obtain ⟨r, T_reader_next_1, T_draft_guests_1, T_draft_wishes_1, T_draft_start_1, T_draft_wishNames_1, T_draft_wishKind_1, T_draft_wishA_1, T_draft_wishB_1, T_draft_guestKind_1, T_draft_guestFloor_1, hc1, hr⟩ := bd11_some hr
  refine call_i (D := (dC, dI)) (tys := tysA cC cI cJ) (wc := [(a_T_reader, .inr (3, [.ref a_T_text, .ref a_T_draft, .int T_reader_next])), (a_T_draft, .inr (5, [.ref a_T_draft_guestKind, .ref a_T_draft_guestFloor, .ref a_T_draft_wishKind, .ref a_T_draft_wishA, .ref a_T_draft_wishB, .ref a_T_draft_wishNames, .int T_draft_guests, .int T_draft_wishes, .int T_draft_start])), (a_T_text, .inr (7, [.ref a_T_text_letters, .int T_text_length])), (a_T_text_letters, .inl (cC, 200, .inl T_text_letters)), (a_T_draft_wishNames, .inl (cI, 9, .inl T_draft_wishNames)), (a_T_draft_wishKind, .inl (cI, 9, .inl T_draft_wishKind)), (a_T_draft_wishA, .inl (cI, 9, .inl T_draft_wishA)), (a_T_draft_wishB, .inl (cI, 9, .inl T_draft_wishB)), (a_T_draft_guestKind, .inl (cI, 6, .inl T_draft_guestKind)), (a_T_draft_guestFloor, .inl (cI, 6, .inl T_draft_guestFloor))]) (wr := [(a_T, .inr (8, [.ref a_T_text, .ref a_T_draft, .ref a_T_reader, .ref a_T_slate, .ref a_T_tonight, .ref a_T_otherNight, .ref a_T_undoable, .ref a_T_kept, .ref a_T_mornings, .ref a_T_survey, .ref a_T_otherSurvey, .ref a_T_endsWithout, .int T_surveyed])), (a_T_slate, .inr (5, [.ref a_T_slate_guestKind, .ref a_T_slate_guestFloor, .ref a_T_slate_wishKind, .ref a_T_slate_wishA, .ref a_T_slate_wishB, .ref a_T_slate_wishNames, .int T_slate_guests, .int T_slate_wishes, .int T_slate_start])), (a_T_slate_guestKind, .inl (cI, 6, .inl T_slate_guestKind)), (a_T_slate_guestFloor, .inl (cI, 6, .inl T_slate_guestFloor)), (a_T_slate_wishKind, .inl (cI, 9, .inl T_slate_wishKind)), (a_T_slate_wishA, .inl (cI, 9, .inl T_slate_wishA)), (a_T_slate_wishB, .inl (cI, 9, .inl T_slate_wishB)), (a_T_slate_wishNames, .inl (cI, 9, .inl T_slate_wishNames)), (a_T_tonight, .inr (1, [.ref a_T_slate, .ref a_T_tonight_floors, .int T_tonight_here, .int T_tonight_struck])), (a_T_tonight_floors, .inl (cI, 6, .inl T_tonight_floors)), (a_T_undoable, .inr (2, [.ref a_T_undoable_nights, .int T_undoable_size])), (a_T_kept, .inr (2, [.ref a_T_kept_nights, .int T_kept_size])), (a_T_mornings, .inr (0, [.ref a_T_mornings_ahead, .ref a_T_mornings_behind, .int T_mornings_told]))]) (w1 := [(a_T_reader, .inr (3, [.ref a_T_text, .ref a_T_draft, .int T_reader_next_1])), (a_T_draft, .inr (5, [.ref a_T_draft_guestKind, .ref a_T_draft_guestFloor, .ref a_T_draft_wishKind, .ref a_T_draft_wishA, .ref a_T_draft_wishB, .ref a_T_draft_wishNames, .int T_draft_guests_1, .int T_draft_wishes_1, .int T_draft_start_1])), (a_T_text, .inr (7, [.ref a_T_text_letters, .int T_text_length])), (a_T_text_letters, .inl (cC, 200, .inl T_text_letters)), (a_T_draft_wishNames, .inl (cI, 9, .inl T_draft_wishNames_1)), (a_T_draft_wishKind, .inl (cI, 9, .inl T_draft_wishKind_1)), (a_T_draft_wishA, .inl (cI, 9, .inl T_draft_wishA_1)), (a_T_draft_wishB, .inl (cI, 9, .inl T_draft_wishB_1)), (a_T_draft_guestKind, .inl (cI, 6, .inl T_draft_guestKind_1)), (a_T_draft_guestFloor, .inl (cI, 6, .inl T_draft_guestFloor_1))]) (wn := [(a_T, .inr (8, [.ref a_T_text, .ref a_T_draft, .ref a_T_reader, .ref a_T_slate, .ref a_T_tonight, .ref a_T_otherNight, .ref a_T_undoable, .ref a_T_kept, .ref a_T_mornings, .ref a_T_survey, .ref a_T_otherSurvey, .ref a_T_endsWithout, .int T_surveyed])), (a_T_reader, .inr (3, [.ref a_T_text, .ref a_T_draft, .int T_reader_next_1])), (a_T_draft, .inr (5, [.ref a_T_draft_guestKind, .ref a_T_draft_guestFloor, .ref a_T_draft_wishKind, .ref a_T_draft_wishA, .ref a_T_draft_wishB, .ref a_T_draft_wishNames, .int T_draft_guests_1, .int T_draft_wishes_1, .int T_draft_start_1])), (a_T_text, .inr (7, [.ref a_T_text_letters, .int T_text_length])), (a_T_text_letters, .inl (cC, 200, .inl T_text_letters)), (a_T_draft_wishNames, .inl (cI, 9, .inl T_draft_wishNames_1)), (a_T_draft_wishKind, .inl (cI, 9, .inl T_draft_wishKind_1)), (a_T_draft_wishA, .inl (cI, 9, .inl T_draft_wishA_1)), (a_T_draft_wishB, .inl (cI, 9, .inl T_draft_wishB_1)), (a_T_draft_guestKind, .inl (cI, 6, .inl T_draft_guestKind_1)), (a_T_draft_guestFloor, .inl (cI, 6, .inl T_draft_guestFloor_1)), (a_T_slate, .inr (5, [.ref a_T_slate_guestKind, .ref a_T_slate_guestFloor, .ref a_T_slate_wishKind, .ref a_T_slate_wishA, .ref a_T_slate_wishB, .ref a_T_slate_wishNames, .int T_slate_guests, .int T_slate_wishes, .int T_slate_start])), (a_T_slate_guestKind, .inl (cI, 6, .inl T_slate_guestKind)), (a_T_slate_guestFloor, .inl (cI, 6, .inl T_slate_guestFloor)), (a_T_slate_wishKind, .inl (cI, 9, .inl T_slate_wishKind)), (a_T_slate_wishA, .inl (cI, 9, .inl T_slate_wishA)), (a_T_slate_wishB, .inl (cI, 9, .inl T_slate_wishB)), (a_T_slate_wishNames, .inl (cI, 9, .inl T_slate_wishNames)), (a_T_tonight, .inr (1, [.ref a_T_slate, .ref a_T_tonight_floors, .int T_tonight_here, .int T_tonight_struck])), (a_T_tonight_floors, .inl (cI, 6, .inl T_tonight_floors)), (a_T_undoable, .inr (2, [.ref a_T_undoable_nights, .int T_undoable_size])), (a_T_kept, .inr (2, [.ref a_T_kept_nights, .int T_kept_size])), (a_T_mornings, .inr (0, [.ref a_T_mornings_ahead, .ref a_T_mornings_behind, .int T_mornings_told]))]) (r0 := r) hP hD hS hA [1, 2, 3, 4, 5, 6, 7, 8, 9, 10] [0, 11, 12, 13, 14, 15, 16, 17, 18, 19, 20, 21, 22] [0, 13, 14, 15, 16, 17, 18, 19, 20, 21, 22, 1, 2, 3, 4, 5, 6, 7, 8, 9, 10, 11, 12] rfl rfl (by decide +kernel) (by decide +kernel) rfl (by decide +kernel) (va_runVN (C := RX3) (host := "BootsAtDawn") (As := []) (rest := []) ⟨hx, hb, hml, hown, hts⟩ (kX3_readAll l dC dI cC cI cJ H.size K a_T_reader a_T_text a_T_draft a_T_draft_guestKind a_T_draft_guestFloor a_T_draft_wishKind a_T_draft_wishA a_T_draft_wishB a_T_draft_wishNames a_T_text_letters T_reader_next T_draft_guests T_draft_wishes T_draft_start T_text_length T_text_letters T_draft_wishNames T_draft_wishKind T_draft_wishA T_draft_wishB T_draft_guestKind T_draft_guestFloor (r, T_reader_next_1, T_draft_guests_1, T_draft_wishes_1, T_draft_start_1, T_draft_wishNames_1, T_draft_wishKind_1, T_draft_wishA_1, T_draft_wishB_1, T_draft_guestKind_1, T_draft_guestFloor_1) hc1) ⟨va_cnB 0 hts gX8_layText_X3_readAll_n109 rfl rfl rfl (hN _ nw_53) (hts _ mbX8_layText_2) (by decide +kernel) ⟨Nat.le_of_ble_eq_true rfl, Nat.le_of_ble_eq_true rfl⟩, (hts _ mbX8_layText_3), (hts _ mbX8_layText_4)⟩ ⟨fbW, va_recv hK hP (ci := 3) (q0 := 1) rfl rfl, preW hP hD hK hN [1, 2, 3, 4, 5, 6, 7, 8, 9, 10] rfl (by decide +kernel)⟩ rfl rfl hl.1 rfl (lv_room (Nat.le_of_ble_eq_true rfl)) dX8_layText_4 ⟨Nat.zero_le _, Nat.zero_le _⟩) (fun H locs hP hD hS => ?_)
  refine lv_bipush (v := (-4)) hx hb dX8_layText_7 (by decide) ?_
  refine lv_icmp_ne (tgt := 23) hx hb dX8_layText_9 (by decide) (fun c1 => ?_) (fun c1 => ?_)
  · replace hr := it_f hr c1
    refine lv_iconst (v := 0) hx hb dX8_layText_23 (by decide) ?_
    have he := Option.some.inj hr
    subst he
    subst hQ
    exact ret_z hx hb hrt (show narrow .boolean (.int 0) = .int 0 from rfl) hK hP hD hS hlocks dX8_layText_24
  · replace hr := it_t hr c1
    refine lv_aload_n hx hb dX8_layText_12 rfl (lv_at hl 0 rfl) ?_
    refine va_get (D := (dC, dI)) (ci := 8) (v := .ref a_T_draft) (C := RX8) (T := TX8) (N := 13) hx hb hts inX8_layText_X8 hown hK hP 0 rfl rfl 1 (by decide) (hts _ mbX8_layText_5) (fun _ h9 => h9) rfl dX8_layText_13 ?_
    refine va_getN (D := (dC, dI)) (ci := 5) (v := .int T_draft_guests_1) (C := RX5) (T := TX5) (N := 9) hx hb hts inX8_layText_X5 hown hK hP 2 rfl rfl 6 (by decide) (nk_use hN nw_16) (fun _ h9 => h9) rfl dX8_layText_16 ?_
    refine lv_iconst (v := 1) hx hb dX8_layText_19 (by decide) ?_
    refine lv_icmp_ge (tgt := 25) hx hb dX8_layText_20 (by decide) (fun c2 => ?_) (fun c2 => ?_)
    · replace hr := it_t hr c2
      refine lv_aload_n hx hb dX8_layText_25 rfl (lv_at hl 0 rfl) ?_
      refine va_get (D := (dC, dI)) (ci := 8) (v := .ref a_T_slate) (C := RX8) (T := TX8) (N := 13) hx hb hts inX8_layText_X8 hown hK hP 0 rfl rfl 3 (by decide) (hts _ mbX8_layText_7) (fun _ h9 => h9) rfl dX8_layText_26 ?_
      refine lv_aload_n hx hb dX8_layText_29 rfl (lv_at hl 0 rfl) ?_
      refine va_get (D := (dC, dI)) (ci := 8) (v := .ref a_T_draft) (C := RX8) (T := TX8) (N := 13) hx hb hts inX8_layText_X8 hown hK hP 0 rfl rfl 1 (by decide) (hts _ mbX8_layText_5) (fun _ h9 => h9) rfl dX8_layText_30 ?_
      obtain ⟨T_slate_guests_1, T_slate_wishes_1, T_slate_start_1, T_slate_guestKind_1, T_slate_guestFloor_1, T_slate_wishKind_1, T_slate_wishA_1, T_slate_wishB_1, T_slate_wishNames_1, hc2, hr⟩ := bd9_some hr
      refine call_v (D := (dC, dI)) (tys := tysA cC cI cJ) (wc := [(a_T_slate, .inr (5, [.ref a_T_slate_guestKind, .ref a_T_slate_guestFloor, .ref a_T_slate_wishKind, .ref a_T_slate_wishA, .ref a_T_slate_wishB, .ref a_T_slate_wishNames, .int T_slate_guests, .int T_slate_wishes, .int T_slate_start])), (a_T_slate_guestKind, .inl (cI, 6, .inl T_slate_guestKind)), (a_T_slate_guestFloor, .inl (cI, 6, .inl T_slate_guestFloor)), (a_T_slate_wishKind, .inl (cI, 9, .inl T_slate_wishKind)), (a_T_slate_wishA, .inl (cI, 9, .inl T_slate_wishA)), (a_T_slate_wishB, .inl (cI, 9, .inl T_slate_wishB)), (a_T_slate_wishNames, .inl (cI, 9, .inl T_slate_wishNames)), (a_T_draft, .inr (5, [.ref a_T_draft_guestKind, .ref a_T_draft_guestFloor, .ref a_T_draft_wishKind, .ref a_T_draft_wishA, .ref a_T_draft_wishB, .ref a_T_draft_wishNames, .int T_draft_guests_1, .int T_draft_wishes_1, .int T_draft_start_1])), (a_T_draft_guestKind, .inl (cI, 6, .inl T_draft_guestKind_1)), (a_T_draft_guestFloor, .inl (cI, 6, .inl T_draft_guestFloor_1)), (a_T_draft_wishKind, .inl (cI, 9, .inl T_draft_wishKind_1)), (a_T_draft_wishA, .inl (cI, 9, .inl T_draft_wishA_1)), (a_T_draft_wishB, .inl (cI, 9, .inl T_draft_wishB_1)), (a_T_draft_wishNames, .inl (cI, 9, .inl T_draft_wishNames_1))]) (wr := [(a_T, .inr (8, [.ref a_T_text, .ref a_T_draft, .ref a_T_reader, .ref a_T_slate, .ref a_T_tonight, .ref a_T_otherNight, .ref a_T_undoable, .ref a_T_kept, .ref a_T_mornings, .ref a_T_survey, .ref a_T_otherSurvey, .ref a_T_endsWithout, .int T_surveyed])), (a_T_reader, .inr (3, [.ref a_T_text, .ref a_T_draft, .int T_reader_next_1])), (a_T_text, .inr (7, [.ref a_T_text_letters, .int T_text_length])), (a_T_text_letters, .inl (cC, 200, .inl T_text_letters)), (a_T_tonight, .inr (1, [.ref a_T_slate, .ref a_T_tonight_floors, .int T_tonight_here, .int T_tonight_struck])), (a_T_tonight_floors, .inl (cI, 6, .inl T_tonight_floors)), (a_T_undoable, .inr (2, [.ref a_T_undoable_nights, .int T_undoable_size])), (a_T_kept, .inr (2, [.ref a_T_kept_nights, .int T_kept_size])), (a_T_mornings, .inr (0, [.ref a_T_mornings_ahead, .ref a_T_mornings_behind, .int T_mornings_told]))]) (w1 := [(a_T_slate, .inr (5, [.ref a_T_slate_guestKind, .ref a_T_slate_guestFloor, .ref a_T_slate_wishKind, .ref a_T_slate_wishA, .ref a_T_slate_wishB, .ref a_T_slate_wishNames, .int T_slate_guests_1, .int T_slate_wishes_1, .int T_slate_start_1])), (a_T_slate_guestKind, .inl (cI, 6, .inl T_slate_guestKind_1)), (a_T_slate_guestFloor, .inl (cI, 6, .inl T_slate_guestFloor_1)), (a_T_slate_wishKind, .inl (cI, 9, .inl T_slate_wishKind_1)), (a_T_slate_wishA, .inl (cI, 9, .inl T_slate_wishA_1)), (a_T_slate_wishB, .inl (cI, 9, .inl T_slate_wishB_1)), (a_T_slate_wishNames, .inl (cI, 9, .inl T_slate_wishNames_1)), (a_T_draft, .inr (5, [.ref a_T_draft_guestKind, .ref a_T_draft_guestFloor, .ref a_T_draft_wishKind, .ref a_T_draft_wishA, .ref a_T_draft_wishB, .ref a_T_draft_wishNames, .int T_draft_guests_1, .int T_draft_wishes_1, .int T_draft_start_1])), (a_T_draft_guestKind, .inl (cI, 6, .inl T_draft_guestKind_1)), (a_T_draft_guestFloor, .inl (cI, 6, .inl T_draft_guestFloor_1)), (a_T_draft_wishKind, .inl (cI, 9, .inl T_draft_wishKind_1)), (a_T_draft_wishA, .inl (cI, 9, .inl T_draft_wishA_1)), (a_T_draft_wishB, .inl (cI, 9, .inl T_draft_wishB_1)), (a_T_draft_wishNames, .inl (cI, 9, .inl T_draft_wishNames_1))]) (wn := [(a_T, .inr (8, [.ref a_T_text, .ref a_T_draft, .ref a_T_reader, .ref a_T_slate, .ref a_T_tonight, .ref a_T_otherNight, .ref a_T_undoable, .ref a_T_kept, .ref a_T_mornings, .ref a_T_survey, .ref a_T_otherSurvey, .ref a_T_endsWithout, .int T_surveyed])), (a_T_reader, .inr (3, [.ref a_T_text, .ref a_T_draft, .int T_reader_next_1])), (a_T_draft, .inr (5, [.ref a_T_draft_guestKind, .ref a_T_draft_guestFloor, .ref a_T_draft_wishKind, .ref a_T_draft_wishA, .ref a_T_draft_wishB, .ref a_T_draft_wishNames, .int T_draft_guests_1, .int T_draft_wishes_1, .int T_draft_start_1])), (a_T_text, .inr (7, [.ref a_T_text_letters, .int T_text_length])), (a_T_text_letters, .inl (cC, 200, .inl T_text_letters)), (a_T_draft_wishNames, .inl (cI, 9, .inl T_draft_wishNames_1)), (a_T_draft_wishKind, .inl (cI, 9, .inl T_draft_wishKind_1)), (a_T_draft_wishA, .inl (cI, 9, .inl T_draft_wishA_1)), (a_T_draft_wishB, .inl (cI, 9, .inl T_draft_wishB_1)), (a_T_draft_guestKind, .inl (cI, 6, .inl T_draft_guestKind_1)), (a_T_draft_guestFloor, .inl (cI, 6, .inl T_draft_guestFloor_1)), (a_T_slate, .inr (5, [.ref a_T_slate_guestKind, .ref a_T_slate_guestFloor, .ref a_T_slate_wishKind, .ref a_T_slate_wishA, .ref a_T_slate_wishB, .ref a_T_slate_wishNames, .int T_slate_guests_1, .int T_slate_wishes_1, .int T_slate_start_1])), (a_T_slate_guestKind, .inl (cI, 6, .inl T_slate_guestKind_1)), (a_T_slate_guestFloor, .inl (cI, 6, .inl T_slate_guestFloor_1)), (a_T_slate_wishKind, .inl (cI, 9, .inl T_slate_wishKind_1)), (a_T_slate_wishA, .inl (cI, 9, .inl T_slate_wishA_1)), (a_T_slate_wishB, .inl (cI, 9, .inl T_slate_wishB_1)), (a_T_slate_wishNames, .inl (cI, 9, .inl T_slate_wishNames_1)), (a_T_tonight, .inr (1, [.ref a_T_slate, .ref a_T_tonight_floors, .int T_tonight_here, .int T_tonight_struck])), (a_T_tonight_floors, .inl (cI, 6, .inl T_tonight_floors)), (a_T_undoable, .inr (2, [.ref a_T_undoable_nights, .int T_undoable_size])), (a_T_kept, .inr (2, [.ref a_T_kept_nights, .int T_kept_size])), (a_T_mornings, .inr (0, [.ref a_T_mornings_ahead, .ref a_T_mornings_behind, .int T_mornings_told]))]) hP hD hS hA [11, 12, 13, 14, 15, 16, 17, 2, 9, 10, 6, 7, 8, 5] [0, 1, 3, 4, 18, 19, 20, 21, 22] [0, 1, 16, 2, 3, 22, 19, 20, 21, 17, 18, 9, 10, 11, 12, 13, 14, 15, 4, 5, 6, 7, 8] rfl rfl (by decide +kernel) (by decide +kernel) rfl (by decide +kernel) (va_runVN (C := RX5) (host := "BootsAtDawn") (As := [.ref a_T_draft]) (rest := []) ⟨hx, hb, hml, hown, hts⟩ (kX5_takeFrom l dC dI cC cI cJ H.size K a_T_slate a_T_slate_guestKind a_T_slate_guestFloor a_T_slate_wishKind a_T_slate_wishA a_T_slate_wishB a_T_slate_wishNames a_T_draft a_T_draft_guestKind a_T_draft_guestFloor a_T_draft_wishKind a_T_draft_wishA a_T_draft_wishB a_T_draft_wishNames T_slate_guests T_slate_wishes T_slate_start T_slate_guestKind T_slate_guestFloor T_slate_wishKind T_slate_wishA T_slate_wishB T_slate_wishNames T_draft_guests_1 T_draft_wishes_1 T_draft_start_1 T_draft_guestKind_1 T_draft_guestFloor_1 T_draft_wishKind_1 T_draft_wishA_1 T_draft_wishB_1 T_draft_wishNames_1 (T_slate_guests_1, T_slate_wishes_1, T_slate_start_1, T_slate_guestKind_1, T_slate_guestFloor_1, T_slate_wishKind_1, T_slate_wishA_1, T_slate_wishB_1, T_slate_wishNames_1) hc2) ⟨va_cnB 1 hts gX8_layText_X5_takeFrom_n270 rfl rfl rfl (hN _ nw_59) (hts _ mbX8_layText_8) (by decide +kernel) ⟨Nat.le_of_ble_eq_true rfl, Nat.le_of_ble_eq_true rfl⟩, (hts _ mbX8_layText_9), (hts _ mbX8_layText_10)⟩ ⟨fbW, va_recv hK hP (ci := 5) (q0 := 11) rfl rfl, preW hP hD hK hN [11, 12, 13, 14, 15, 16, 17, 2, 9, 10, 6, 7, 8, 5] rfl (by decide +kernel)⟩ rfl rfl hl.1 rfl (lv_room (Nat.le_of_ble_eq_true rfl)) dX8_layText_33 ⟨Nat.zero_le _, Nat.zero_le _⟩) (fun H locs hP hD hS => ?_)
      refine lv_aload_n hx hb dX8_layText_36 rfl (lv_at hl 0 rfl) ?_
      refine va_get (D := (dC, dI)) (ci := 8) (v := .ref a_T_tonight) (C := RX8) (T := TX8) (N := 13) hx hb hts inX8_layText_X8 hown hK hP 0 rfl rfl 4 (by decide) (hts _ mbX8_layText_11) (fun _ h9 => h9) rfl dX8_layText_37 ?_
      obtain ⟨T_tonight_here_1, T_tonight_struck_1, T_tonight_floors_1, hc3, hr⟩ := bd3_some hr
      refine call_v (D := (dC, dI)) (tys := tysA cC cI cJ) (wc := [(a_T_tonight, .inr (1, [.ref a_T_slate, .ref a_T_tonight_floors, .int T_tonight_here, .int T_tonight_struck])), (a_T_slate, .inr (5, [.ref a_T_slate_guestKind, .ref a_T_slate_guestFloor, .ref a_T_slate_wishKind, .ref a_T_slate_wishA, .ref a_T_slate_wishB, .ref a_T_slate_wishNames, .int T_slate_guests_1, .int T_slate_wishes_1, .int T_slate_start_1])), (a_T_slate_guestFloor, .inl (cI, 6, .inl T_slate_guestFloor_1)), (a_T_tonight_floors, .inl (cI, 6, .inl T_tonight_floors))]) (wr := [(a_T, .inr (8, [.ref a_T_text, .ref a_T_draft, .ref a_T_reader, .ref a_T_slate, .ref a_T_tonight, .ref a_T_otherNight, .ref a_T_undoable, .ref a_T_kept, .ref a_T_mornings, .ref a_T_survey, .ref a_T_otherSurvey, .ref a_T_endsWithout, .int T_surveyed])), (a_T_reader, .inr (3, [.ref a_T_text, .ref a_T_draft, .int T_reader_next_1])), (a_T_draft, .inr (5, [.ref a_T_draft_guestKind, .ref a_T_draft_guestFloor, .ref a_T_draft_wishKind, .ref a_T_draft_wishA, .ref a_T_draft_wishB, .ref a_T_draft_wishNames, .int T_draft_guests_1, .int T_draft_wishes_1, .int T_draft_start_1])), (a_T_text, .inr (7, [.ref a_T_text_letters, .int T_text_length])), (a_T_text_letters, .inl (cC, 200, .inl T_text_letters)), (a_T_draft_wishNames, .inl (cI, 9, .inl T_draft_wishNames_1)), (a_T_draft_wishKind, .inl (cI, 9, .inl T_draft_wishKind_1)), (a_T_draft_wishA, .inl (cI, 9, .inl T_draft_wishA_1)), (a_T_draft_wishB, .inl (cI, 9, .inl T_draft_wishB_1)), (a_T_draft_guestKind, .inl (cI, 6, .inl T_draft_guestKind_1)), (a_T_draft_guestFloor, .inl (cI, 6, .inl T_draft_guestFloor_1)), (a_T_slate_guestKind, .inl (cI, 6, .inl T_slate_guestKind_1)), (a_T_slate_wishKind, .inl (cI, 9, .inl T_slate_wishKind_1)), (a_T_slate_wishA, .inl (cI, 9, .inl T_slate_wishA_1)), (a_T_slate_wishB, .inl (cI, 9, .inl T_slate_wishB_1)), (a_T_slate_wishNames, .inl (cI, 9, .inl T_slate_wishNames_1)), (a_T_undoable, .inr (2, [.ref a_T_undoable_nights, .int T_undoable_size])), (a_T_kept, .inr (2, [.ref a_T_kept_nights, .int T_kept_size])), (a_T_mornings, .inr (0, [.ref a_T_mornings_ahead, .ref a_T_mornings_behind, .int T_mornings_told]))]) (w1 := [(a_T_tonight, .inr (1, [.ref a_T_slate, .ref a_T_tonight_floors, .int T_tonight_here_1, .int T_tonight_struck_1])), (a_T_slate, .inr (5, [.ref a_T_slate_guestKind, .ref a_T_slate_guestFloor, .ref a_T_slate_wishKind, .ref a_T_slate_wishA, .ref a_T_slate_wishB, .ref a_T_slate_wishNames, .int T_slate_guests_1, .int T_slate_wishes_1, .int T_slate_start_1])), (a_T_slate_guestFloor, .inl (cI, 6, .inl T_slate_guestFloor_1)), (a_T_tonight_floors, .inl (cI, 6, .inl T_tonight_floors_1))]) (wn := [(a_T, .inr (8, [.ref a_T_text, .ref a_T_draft, .ref a_T_reader, .ref a_T_slate, .ref a_T_tonight, .ref a_T_otherNight, .ref a_T_undoable, .ref a_T_kept, .ref a_T_mornings, .ref a_T_survey, .ref a_T_otherSurvey, .ref a_T_endsWithout, .int T_surveyed])), (a_T_reader, .inr (3, [.ref a_T_text, .ref a_T_draft, .int T_reader_next_1])), (a_T_draft, .inr (5, [.ref a_T_draft_guestKind, .ref a_T_draft_guestFloor, .ref a_T_draft_wishKind, .ref a_T_draft_wishA, .ref a_T_draft_wishB, .ref a_T_draft_wishNames, .int T_draft_guests_1, .int T_draft_wishes_1, .int T_draft_start_1])), (a_T_text, .inr (7, [.ref a_T_text_letters, .int T_text_length])), (a_T_text_letters, .inl (cC, 200, .inl T_text_letters)), (a_T_draft_wishNames, .inl (cI, 9, .inl T_draft_wishNames_1)), (a_T_draft_wishKind, .inl (cI, 9, .inl T_draft_wishKind_1)), (a_T_draft_wishA, .inl (cI, 9, .inl T_draft_wishA_1)), (a_T_draft_wishB, .inl (cI, 9, .inl T_draft_wishB_1)), (a_T_draft_guestKind, .inl (cI, 6, .inl T_draft_guestKind_1)), (a_T_draft_guestFloor, .inl (cI, 6, .inl T_draft_guestFloor_1)), (a_T_slate, .inr (5, [.ref a_T_slate_guestKind, .ref a_T_slate_guestFloor, .ref a_T_slate_wishKind, .ref a_T_slate_wishA, .ref a_T_slate_wishB, .ref a_T_slate_wishNames, .int T_slate_guests_1, .int T_slate_wishes_1, .int T_slate_start_1])), (a_T_slate_guestKind, .inl (cI, 6, .inl T_slate_guestKind_1)), (a_T_slate_guestFloor, .inl (cI, 6, .inl T_slate_guestFloor_1)), (a_T_slate_wishKind, .inl (cI, 9, .inl T_slate_wishKind_1)), (a_T_slate_wishA, .inl (cI, 9, .inl T_slate_wishA_1)), (a_T_slate_wishB, .inl (cI, 9, .inl T_slate_wishB_1)), (a_T_slate_wishNames, .inl (cI, 9, .inl T_slate_wishNames_1)), (a_T_tonight, .inr (1, [.ref a_T_slate, .ref a_T_tonight_floors, .int T_tonight_here_1, .int T_tonight_struck_1])), (a_T_tonight_floors, .inl (cI, 6, .inl T_tonight_floors_1)), (a_T_undoable, .inr (2, [.ref a_T_undoable_nights, .int T_undoable_size])), (a_T_kept, .inr (2, [.ref a_T_kept_nights, .int T_kept_size])), (a_T_mornings, .inr (0, [.ref a_T_mornings_ahead, .ref a_T_mornings_behind, .int T_mornings_told]))]) hP hD hS hA [18, 11, 13, 19] [0, 1, 2, 3, 4, 5, 6, 7, 8, 9, 10, 12, 14, 15, 16, 17, 20, 21, 22] [0, 1, 2, 3, 4, 5, 6, 7, 8, 9, 10, 20, 11, 21, 12, 13, 14, 15, 19, 22, 16, 17, 18] rfl rfl (by decide +kernel) (by decide +kernel) rfl (by decide +kernel) (va_runVN (C := RX1) (host := "BootsAtDawn") (As := []) (rest := []) ⟨hx, hb, hml, hown, hts⟩ (kX1_begin l dC dI cC cI cJ H.size K a_T_tonight a_T_slate a_T_tonight_floors a_T_slate_guestKind a_T_slate_guestFloor a_T_slate_wishKind a_T_slate_wishA a_T_slate_wishB a_T_slate_wishNames T_tonight_here T_tonight_struck T_slate_guests_1 T_slate_wishes_1 T_slate_start_1 T_slate_guestFloor_1 T_tonight_floors (T_tonight_here_1, T_tonight_struck_1, T_tonight_floors_1) hc3) ⟨va_cnB 0 hts gX8_layText_X1_begin_n273 rfl rfl rfl (hN _ nw_61) (hts _ mbX8_layText_12) (by decide +kernel) ⟨Nat.le_of_ble_eq_true rfl, Nat.le_of_ble_eq_true rfl⟩, (hts _ mbX8_layText_13), (hts _ mbX8_layText_14)⟩ ⟨fbW, va_recv hK hP (ci := 1) (q0 := 18) rfl rfl, preW hP hD hK hN [18, 11, 13, 19] rfl (by decide +kernel)⟩ rfl rfl hl.1 rfl (lv_room (Nat.le_of_ble_eq_true rfl)) dX8_layText_40 ⟨Nat.zero_le _, Nat.zero_le _⟩) (fun H locs hP hD hS => ?_)
      refine lv_aload_n hx hb dX8_layText_43 rfl (lv_at hl 0 rfl) ?_
      refine va_get (D := (dC, dI)) (ci := 8) (v := .ref a_T_undoable) (C := RX8) (T := TX8) (N := 13) hx hb hts inX8_layText_X8 hown hK hP 0 rfl rfl 6 (by decide) (hts _ mbX8_layText_15) (fun _ h9 => h9) rfl dX8_layText_44 ?_
      obtain ⟨T_undoable_size_1, hc4, hr⟩ := bd1_some hr
      refine call_v (D := (dC, dI)) (tys := tysA cC cI cJ) (wc := [(a_T_undoable, .inr (2, [.ref a_T_undoable_nights, .int T_undoable_size]))]) (wr := [(a_T, .inr (8, [.ref a_T_text, .ref a_T_draft, .ref a_T_reader, .ref a_T_slate, .ref a_T_tonight, .ref a_T_otherNight, .ref a_T_undoable, .ref a_T_kept, .ref a_T_mornings, .ref a_T_survey, .ref a_T_otherSurvey, .ref a_T_endsWithout, .int T_surveyed])), (a_T_reader, .inr (3, [.ref a_T_text, .ref a_T_draft, .int T_reader_next_1])), (a_T_draft, .inr (5, [.ref a_T_draft_guestKind, .ref a_T_draft_guestFloor, .ref a_T_draft_wishKind, .ref a_T_draft_wishA, .ref a_T_draft_wishB, .ref a_T_draft_wishNames, .int T_draft_guests_1, .int T_draft_wishes_1, .int T_draft_start_1])), (a_T_text, .inr (7, [.ref a_T_text_letters, .int T_text_length])), (a_T_text_letters, .inl (cC, 200, .inl T_text_letters)), (a_T_draft_wishNames, .inl (cI, 9, .inl T_draft_wishNames_1)), (a_T_draft_wishKind, .inl (cI, 9, .inl T_draft_wishKind_1)), (a_T_draft_wishA, .inl (cI, 9, .inl T_draft_wishA_1)), (a_T_draft_wishB, .inl (cI, 9, .inl T_draft_wishB_1)), (a_T_draft_guestKind, .inl (cI, 6, .inl T_draft_guestKind_1)), (a_T_draft_guestFloor, .inl (cI, 6, .inl T_draft_guestFloor_1)), (a_T_slate, .inr (5, [.ref a_T_slate_guestKind, .ref a_T_slate_guestFloor, .ref a_T_slate_wishKind, .ref a_T_slate_wishA, .ref a_T_slate_wishB, .ref a_T_slate_wishNames, .int T_slate_guests_1, .int T_slate_wishes_1, .int T_slate_start_1])), (a_T_slate_guestKind, .inl (cI, 6, .inl T_slate_guestKind_1)), (a_T_slate_guestFloor, .inl (cI, 6, .inl T_slate_guestFloor_1)), (a_T_slate_wishKind, .inl (cI, 9, .inl T_slate_wishKind_1)), (a_T_slate_wishA, .inl (cI, 9, .inl T_slate_wishA_1)), (a_T_slate_wishB, .inl (cI, 9, .inl T_slate_wishB_1)), (a_T_slate_wishNames, .inl (cI, 9, .inl T_slate_wishNames_1)), (a_T_tonight, .inr (1, [.ref a_T_slate, .ref a_T_tonight_floors, .int T_tonight_here_1, .int T_tonight_struck_1])), (a_T_tonight_floors, .inl (cI, 6, .inl T_tonight_floors_1)), (a_T_kept, .inr (2, [.ref a_T_kept_nights, .int T_kept_size])), (a_T_mornings, .inr (0, [.ref a_T_mornings_ahead, .ref a_T_mornings_behind, .int T_mornings_told]))]) (w1 := [(a_T_undoable, .inr (2, [.ref a_T_undoable_nights, .int T_undoable_size_1]))]) (wn := [(a_T, .inr (8, [.ref a_T_text, .ref a_T_draft, .ref a_T_reader, .ref a_T_slate, .ref a_T_tonight, .ref a_T_otherNight, .ref a_T_undoable, .ref a_T_kept, .ref a_T_mornings, .ref a_T_survey, .ref a_T_otherSurvey, .ref a_T_endsWithout, .int T_surveyed])), (a_T_reader, .inr (3, [.ref a_T_text, .ref a_T_draft, .int T_reader_next_1])), (a_T_draft, .inr (5, [.ref a_T_draft_guestKind, .ref a_T_draft_guestFloor, .ref a_T_draft_wishKind, .ref a_T_draft_wishA, .ref a_T_draft_wishB, .ref a_T_draft_wishNames, .int T_draft_guests_1, .int T_draft_wishes_1, .int T_draft_start_1])), (a_T_text, .inr (7, [.ref a_T_text_letters, .int T_text_length])), (a_T_text_letters, .inl (cC, 200, .inl T_text_letters)), (a_T_draft_wishNames, .inl (cI, 9, .inl T_draft_wishNames_1)), (a_T_draft_wishKind, .inl (cI, 9, .inl T_draft_wishKind_1)), (a_T_draft_wishA, .inl (cI, 9, .inl T_draft_wishA_1)), (a_T_draft_wishB, .inl (cI, 9, .inl T_draft_wishB_1)), (a_T_draft_guestKind, .inl (cI, 6, .inl T_draft_guestKind_1)), (a_T_draft_guestFloor, .inl (cI, 6, .inl T_draft_guestFloor_1)), (a_T_slate, .inr (5, [.ref a_T_slate_guestKind, .ref a_T_slate_guestFloor, .ref a_T_slate_wishKind, .ref a_T_slate_wishA, .ref a_T_slate_wishB, .ref a_T_slate_wishNames, .int T_slate_guests_1, .int T_slate_wishes_1, .int T_slate_start_1])), (a_T_slate_guestKind, .inl (cI, 6, .inl T_slate_guestKind_1)), (a_T_slate_guestFloor, .inl (cI, 6, .inl T_slate_guestFloor_1)), (a_T_slate_wishKind, .inl (cI, 9, .inl T_slate_wishKind_1)), (a_T_slate_wishA, .inl (cI, 9, .inl T_slate_wishA_1)), (a_T_slate_wishB, .inl (cI, 9, .inl T_slate_wishB_1)), (a_T_slate_wishNames, .inl (cI, 9, .inl T_slate_wishNames_1)), (a_T_tonight, .inr (1, [.ref a_T_slate, .ref a_T_tonight_floors, .int T_tonight_here_1, .int T_tonight_struck_1])), (a_T_tonight_floors, .inl (cI, 6, .inl T_tonight_floors_1)), (a_T_undoable, .inr (2, [.ref a_T_undoable_nights, .int T_undoable_size_1])), (a_T_kept, .inr (2, [.ref a_T_kept_nights, .int T_kept_size])), (a_T_mornings, .inr (0, [.ref a_T_mornings_ahead, .ref a_T_mornings_behind, .int T_mornings_told]))]) hP hD hS hA [20] [0, 1, 2, 3, 4, 5, 6, 7, 8, 9, 10, 11, 12, 13, 14, 15, 16, 17, 18, 19, 21, 22] [0, 1, 2, 3, 4, 5, 6, 7, 8, 9, 10, 11, 12, 13, 14, 15, 16, 17, 18, 19, 22, 20, 21] rfl rfl (by decide +kernel) (by decide +kernel) rfl (by decide +kernel) (va_runVN (C := RX2) (host := "BootsAtDawn") (As := []) (rest := []) ⟨hx, hb, hml, hown, hts⟩ (kX2_clear l dC dI cC cI cJ H.size K a_T_undoable a_T_undoable_nights T_undoable_size T_undoable_size_1 hc4) ⟨va_cnB 0 hts gX8_layText_X2_clear_n260 rfl rfl rfl (hN _ nw_63) (hts _ mbX8_layText_16) (by decide +kernel) ⟨Nat.le_of_ble_eq_true rfl, Nat.le_of_ble_eq_true rfl⟩, (hts _ mbX8_layText_17), (hts _ mbX8_layText_18)⟩ ⟨fbW, va_recv hK hP (ci := 2) (q0 := 20) rfl rfl, preW hP hD hK hN [20] rfl (by decide +kernel)⟩ rfl rfl hl.1 rfl (lv_room (Nat.le_of_ble_eq_true rfl)) dX8_layText_47 ⟨Nat.zero_le _, Nat.zero_le _⟩) (fun H locs hP hD hS => ?_)
      refine lv_aload_n hx hb dX8_layText_50 rfl (lv_at hl 0 rfl) ?_
      refine va_get (D := (dC, dI)) (ci := 8) (v := .ref a_T_kept) (C := RX8) (T := TX8) (N := 13) hx hb hts inX8_layText_X8 hown hK hP 0 rfl rfl 7 (by decide) (hts _ mbX8_layText_19) (fun _ h9 => h9) rfl dX8_layText_51 ?_
      obtain ⟨T_kept_size_1, hc5, hr⟩ := bd1_some hr
      refine call_v (D := (dC, dI)) (tys := tysA cC cI cJ) (wc := [(a_T_kept, .inr (2, [.ref a_T_kept_nights, .int T_kept_size]))]) (wr := [(a_T, .inr (8, [.ref a_T_text, .ref a_T_draft, .ref a_T_reader, .ref a_T_slate, .ref a_T_tonight, .ref a_T_otherNight, .ref a_T_undoable, .ref a_T_kept, .ref a_T_mornings, .ref a_T_survey, .ref a_T_otherSurvey, .ref a_T_endsWithout, .int T_surveyed])), (a_T_reader, .inr (3, [.ref a_T_text, .ref a_T_draft, .int T_reader_next_1])), (a_T_draft, .inr (5, [.ref a_T_draft_guestKind, .ref a_T_draft_guestFloor, .ref a_T_draft_wishKind, .ref a_T_draft_wishA, .ref a_T_draft_wishB, .ref a_T_draft_wishNames, .int T_draft_guests_1, .int T_draft_wishes_1, .int T_draft_start_1])), (a_T_text, .inr (7, [.ref a_T_text_letters, .int T_text_length])), (a_T_text_letters, .inl (cC, 200, .inl T_text_letters)), (a_T_draft_wishNames, .inl (cI, 9, .inl T_draft_wishNames_1)), (a_T_draft_wishKind, .inl (cI, 9, .inl T_draft_wishKind_1)), (a_T_draft_wishA, .inl (cI, 9, .inl T_draft_wishA_1)), (a_T_draft_wishB, .inl (cI, 9, .inl T_draft_wishB_1)), (a_T_draft_guestKind, .inl (cI, 6, .inl T_draft_guestKind_1)), (a_T_draft_guestFloor, .inl (cI, 6, .inl T_draft_guestFloor_1)), (a_T_slate, .inr (5, [.ref a_T_slate_guestKind, .ref a_T_slate_guestFloor, .ref a_T_slate_wishKind, .ref a_T_slate_wishA, .ref a_T_slate_wishB, .ref a_T_slate_wishNames, .int T_slate_guests_1, .int T_slate_wishes_1, .int T_slate_start_1])), (a_T_slate_guestKind, .inl (cI, 6, .inl T_slate_guestKind_1)), (a_T_slate_guestFloor, .inl (cI, 6, .inl T_slate_guestFloor_1)), (a_T_slate_wishKind, .inl (cI, 9, .inl T_slate_wishKind_1)), (a_T_slate_wishA, .inl (cI, 9, .inl T_slate_wishA_1)), (a_T_slate_wishB, .inl (cI, 9, .inl T_slate_wishB_1)), (a_T_slate_wishNames, .inl (cI, 9, .inl T_slate_wishNames_1)), (a_T_tonight, .inr (1, [.ref a_T_slate, .ref a_T_tonight_floors, .int T_tonight_here_1, .int T_tonight_struck_1])), (a_T_tonight_floors, .inl (cI, 6, .inl T_tonight_floors_1)), (a_T_undoable, .inr (2, [.ref a_T_undoable_nights, .int T_undoable_size_1])), (a_T_mornings, .inr (0, [.ref a_T_mornings_ahead, .ref a_T_mornings_behind, .int T_mornings_told]))]) (w1 := [(a_T_kept, .inr (2, [.ref a_T_kept_nights, .int T_kept_size_1]))]) (wn := [(a_T, .inr (8, [.ref a_T_text, .ref a_T_draft, .ref a_T_reader, .ref a_T_slate, .ref a_T_tonight, .ref a_T_otherNight, .ref a_T_undoable, .ref a_T_kept, .ref a_T_mornings, .ref a_T_survey, .ref a_T_otherSurvey, .ref a_T_endsWithout, .int T_surveyed])), (a_T_reader, .inr (3, [.ref a_T_text, .ref a_T_draft, .int T_reader_next_1])), (a_T_draft, .inr (5, [.ref a_T_draft_guestKind, .ref a_T_draft_guestFloor, .ref a_T_draft_wishKind, .ref a_T_draft_wishA, .ref a_T_draft_wishB, .ref a_T_draft_wishNames, .int T_draft_guests_1, .int T_draft_wishes_1, .int T_draft_start_1])), (a_T_text, .inr (7, [.ref a_T_text_letters, .int T_text_length])), (a_T_text_letters, .inl (cC, 200, .inl T_text_letters)), (a_T_draft_wishNames, .inl (cI, 9, .inl T_draft_wishNames_1)), (a_T_draft_wishKind, .inl (cI, 9, .inl T_draft_wishKind_1)), (a_T_draft_wishA, .inl (cI, 9, .inl T_draft_wishA_1)), (a_T_draft_wishB, .inl (cI, 9, .inl T_draft_wishB_1)), (a_T_draft_guestKind, .inl (cI, 6, .inl T_draft_guestKind_1)), (a_T_draft_guestFloor, .inl (cI, 6, .inl T_draft_guestFloor_1)), (a_T_slate, .inr (5, [.ref a_T_slate_guestKind, .ref a_T_slate_guestFloor, .ref a_T_slate_wishKind, .ref a_T_slate_wishA, .ref a_T_slate_wishB, .ref a_T_slate_wishNames, .int T_slate_guests_1, .int T_slate_wishes_1, .int T_slate_start_1])), (a_T_slate_guestKind, .inl (cI, 6, .inl T_slate_guestKind_1)), (a_T_slate_guestFloor, .inl (cI, 6, .inl T_slate_guestFloor_1)), (a_T_slate_wishKind, .inl (cI, 9, .inl T_slate_wishKind_1)), (a_T_slate_wishA, .inl (cI, 9, .inl T_slate_wishA_1)), (a_T_slate_wishB, .inl (cI, 9, .inl T_slate_wishB_1)), (a_T_slate_wishNames, .inl (cI, 9, .inl T_slate_wishNames_1)), (a_T_tonight, .inr (1, [.ref a_T_slate, .ref a_T_tonight_floors, .int T_tonight_here_1, .int T_tonight_struck_1])), (a_T_tonight_floors, .inl (cI, 6, .inl T_tonight_floors_1)), (a_T_undoable, .inr (2, [.ref a_T_undoable_nights, .int T_undoable_size_1])), (a_T_kept, .inr (2, [.ref a_T_kept_nights, .int T_kept_size_1])), (a_T_mornings, .inr (0, [.ref a_T_mornings_ahead, .ref a_T_mornings_behind, .int T_mornings_told]))]) hP hD hS hA [21] [0, 1, 2, 3, 4, 5, 6, 7, 8, 9, 10, 11, 12, 13, 14, 15, 16, 17, 18, 19, 20, 22] [0, 1, 2, 3, 4, 5, 6, 7, 8, 9, 10, 11, 12, 13, 14, 15, 16, 17, 18, 19, 20, 22, 21] rfl rfl (by decide +kernel) (by decide +kernel) rfl (by decide +kernel) (va_runVN (C := RX2) (host := "BootsAtDawn") (As := []) (rest := []) ⟨hx, hb, hml, hown, hts⟩ (kX2_clear l dC dI cC cI cJ H.size K a_T_kept a_T_kept_nights T_kept_size T_kept_size_1 hc5) ⟨va_cnB 0 hts gX8_layText_X2_clear_n260 rfl rfl rfl (hN _ nw_63) (hts _ mbX8_layText_16) (by decide +kernel) ⟨Nat.le_of_ble_eq_true rfl, Nat.le_of_ble_eq_true rfl⟩, (hts _ mbX8_layText_17), (hts _ mbX8_layText_18)⟩ ⟨fbW, va_recv hK hP (ci := 2) (q0 := 21) rfl rfl, preW hP hD hK hN [21] rfl (by decide +kernel)⟩ rfl rfl hl.1 rfl (lv_room (Nat.le_of_ble_eq_true rfl)) dX8_layText_54 ⟨Nat.zero_le _, Nat.zero_le _⟩) (fun H locs hP hD hS => ?_)
      refine lv_aload_n hx hb dX8_layText_57 rfl (lv_at hl 0 rfl) ?_
      refine va_get (D := (dC, dI)) (ci := 8) (v := .ref a_T_mornings) (C := RX8) (T := TX8) (N := 13) hx hb hts inX8_layText_X8 hown hK hP 0 rfl rfl 8 (by decide) (hts _ mbX8_layText_20) (fun _ h9 => h9) rfl dX8_layText_58 ?_
      obtain ⟨T_mornings_told_1, hc6, hr⟩ := bd1_some hr
      refine call_v (D := (dC, dI)) (tys := tysA cC cI cJ) (wc := [(a_T_mornings, .inr (0, [.ref a_T_mornings_ahead, .ref a_T_mornings_behind, .int T_mornings_told]))]) (wr := [(a_T, .inr (8, [.ref a_T_text, .ref a_T_draft, .ref a_T_reader, .ref a_T_slate, .ref a_T_tonight, .ref a_T_otherNight, .ref a_T_undoable, .ref a_T_kept, .ref a_T_mornings, .ref a_T_survey, .ref a_T_otherSurvey, .ref a_T_endsWithout, .int T_surveyed])), (a_T_reader, .inr (3, [.ref a_T_text, .ref a_T_draft, .int T_reader_next_1])), (a_T_draft, .inr (5, [.ref a_T_draft_guestKind, .ref a_T_draft_guestFloor, .ref a_T_draft_wishKind, .ref a_T_draft_wishA, .ref a_T_draft_wishB, .ref a_T_draft_wishNames, .int T_draft_guests_1, .int T_draft_wishes_1, .int T_draft_start_1])), (a_T_text, .inr (7, [.ref a_T_text_letters, .int T_text_length])), (a_T_text_letters, .inl (cC, 200, .inl T_text_letters)), (a_T_draft_wishNames, .inl (cI, 9, .inl T_draft_wishNames_1)), (a_T_draft_wishKind, .inl (cI, 9, .inl T_draft_wishKind_1)), (a_T_draft_wishA, .inl (cI, 9, .inl T_draft_wishA_1)), (a_T_draft_wishB, .inl (cI, 9, .inl T_draft_wishB_1)), (a_T_draft_guestKind, .inl (cI, 6, .inl T_draft_guestKind_1)), (a_T_draft_guestFloor, .inl (cI, 6, .inl T_draft_guestFloor_1)), (a_T_slate, .inr (5, [.ref a_T_slate_guestKind, .ref a_T_slate_guestFloor, .ref a_T_slate_wishKind, .ref a_T_slate_wishA, .ref a_T_slate_wishB, .ref a_T_slate_wishNames, .int T_slate_guests_1, .int T_slate_wishes_1, .int T_slate_start_1])), (a_T_slate_guestKind, .inl (cI, 6, .inl T_slate_guestKind_1)), (a_T_slate_guestFloor, .inl (cI, 6, .inl T_slate_guestFloor_1)), (a_T_slate_wishKind, .inl (cI, 9, .inl T_slate_wishKind_1)), (a_T_slate_wishA, .inl (cI, 9, .inl T_slate_wishA_1)), (a_T_slate_wishB, .inl (cI, 9, .inl T_slate_wishB_1)), (a_T_slate_wishNames, .inl (cI, 9, .inl T_slate_wishNames_1)), (a_T_tonight, .inr (1, [.ref a_T_slate, .ref a_T_tonight_floors, .int T_tonight_here_1, .int T_tonight_struck_1])), (a_T_tonight_floors, .inl (cI, 6, .inl T_tonight_floors_1)), (a_T_undoable, .inr (2, [.ref a_T_undoable_nights, .int T_undoable_size_1])), (a_T_kept, .inr (2, [.ref a_T_kept_nights, .int T_kept_size_1]))]) (w1 := [(a_T_mornings, .inr (0, [.ref a_T_mornings_ahead, .ref a_T_mornings_behind, .int T_mornings_told_1]))]) (wn := [(a_T, .inr (8, [.ref a_T_text, .ref a_T_draft, .ref a_T_reader, .ref a_T_slate, .ref a_T_tonight, .ref a_T_otherNight, .ref a_T_undoable, .ref a_T_kept, .ref a_T_mornings, .ref a_T_survey, .ref a_T_otherSurvey, .ref a_T_endsWithout, .int T_surveyed])), (a_T_reader, .inr (3, [.ref a_T_text, .ref a_T_draft, .int T_reader_next_1])), (a_T_draft, .inr (5, [.ref a_T_draft_guestKind, .ref a_T_draft_guestFloor, .ref a_T_draft_wishKind, .ref a_T_draft_wishA, .ref a_T_draft_wishB, .ref a_T_draft_wishNames, .int T_draft_guests_1, .int T_draft_wishes_1, .int T_draft_start_1])), (a_T_text, .inr (7, [.ref a_T_text_letters, .int T_text_length])), (a_T_text_letters, .inl (cC, 200, .inl T_text_letters)), (a_T_draft_wishNames, .inl (cI, 9, .inl T_draft_wishNames_1)), (a_T_draft_wishKind, .inl (cI, 9, .inl T_draft_wishKind_1)), (a_T_draft_wishA, .inl (cI, 9, .inl T_draft_wishA_1)), (a_T_draft_wishB, .inl (cI, 9, .inl T_draft_wishB_1)), (a_T_draft_guestKind, .inl (cI, 6, .inl T_draft_guestKind_1)), (a_T_draft_guestFloor, .inl (cI, 6, .inl T_draft_guestFloor_1)), (a_T_slate, .inr (5, [.ref a_T_slate_guestKind, .ref a_T_slate_guestFloor, .ref a_T_slate_wishKind, .ref a_T_slate_wishA, .ref a_T_slate_wishB, .ref a_T_slate_wishNames, .int T_slate_guests_1, .int T_slate_wishes_1, .int T_slate_start_1])), (a_T_slate_guestKind, .inl (cI, 6, .inl T_slate_guestKind_1)), (a_T_slate_guestFloor, .inl (cI, 6, .inl T_slate_guestFloor_1)), (a_T_slate_wishKind, .inl (cI, 9, .inl T_slate_wishKind_1)), (a_T_slate_wishA, .inl (cI, 9, .inl T_slate_wishA_1)), (a_T_slate_wishB, .inl (cI, 9, .inl T_slate_wishB_1)), (a_T_slate_wishNames, .inl (cI, 9, .inl T_slate_wishNames_1)), (a_T_tonight, .inr (1, [.ref a_T_slate, .ref a_T_tonight_floors, .int T_tonight_here_1, .int T_tonight_struck_1])), (a_T_tonight_floors, .inl (cI, 6, .inl T_tonight_floors_1)), (a_T_undoable, .inr (2, [.ref a_T_undoable_nights, .int T_undoable_size_1])), (a_T_kept, .inr (2, [.ref a_T_kept_nights, .int T_kept_size_1])), (a_T_mornings, .inr (0, [.ref a_T_mornings_ahead, .ref a_T_mornings_behind, .int T_mornings_told_1]))]) hP hD hS hA [22] [0, 1, 2, 3, 4, 5, 6, 7, 8, 9, 10, 11, 12, 13, 14, 15, 16, 17, 18, 19, 20, 21] [0, 1, 2, 3, 4, 5, 6, 7, 8, 9, 10, 11, 12, 13, 14, 15, 16, 17, 18, 19, 20, 21, 22] rfl rfl (by decide +kernel) (by decide +kernel) rfl (by decide +kernel) (va_runVN (C := RX0) (host := "BootsAtDawn") (As := []) (rest := []) ⟨hx, hb, hml, hown, hts⟩ (kX0_clear l dC dI cC cI cJ H.size K a_T_mornings a_T_mornings_ahead a_T_mornings_behind T_mornings_told T_mornings_told_1 hc6) ⟨va_cnB 0 hts gX8_layText_X0_clear_n228 rfl rfl rfl (hN _ nw_64) (hts _ mbX8_layText_21) (by decide +kernel) ⟨Nat.le_of_ble_eq_true rfl, Nat.le_of_ble_eq_true rfl⟩, (hts _ mbX8_layText_22), (hts _ mbX8_layText_23)⟩ ⟨fbW, va_recv hK hP (ci := 0) (q0 := 22) rfl rfl, preW hP hD hK hN [22] rfl (by decide +kernel)⟩ rfl rfl hl.1 rfl (lv_room (Nat.le_of_ble_eq_true rfl)) dX8_layText_61 ⟨Nat.zero_le _, Nat.zero_le _⟩) (fun H locs hP hD hS => ?_)
      refine lv_aload_n hx hb dX8_layText_64 rfl (lv_at hl 0 rfl) ?_
      refine lv_iconst (v := 0) hx hb dX8_layText_65 (by decide) ?_
      refine va_put (D := (dC, dI)) (ci := 8) (v := .int 0) (ty := .boolean) (C := RX8) (T := TX8) (N := 13) hx hb hts inX8_layText_X8 tyX8 tyX8_ok nmX8 hown hK hP hD hS 0 rfl rfl 12 (by decide) (hts _ mbX8_layText_24) (fun _ h9 => h9) rfl (by decide +kernel) rfl rfl (Nat.le_of_ble_eq_true rfl) dX8_layText_66 (fun H locs hP hD hS => ?_)
      replace hP : va_P (dC, dI) vwCl [(a_T, .inr (8, [.ref a_T_text, .ref a_T_draft, .ref a_T_reader, .ref a_T_slate, .ref a_T_tonight, .ref a_T_otherNight, .ref a_T_undoable, .ref a_T_kept, .ref a_T_mornings, .ref a_T_survey, .ref a_T_otherSurvey, .ref a_T_endsWithout, .int 0])), (a_T_reader, .inr (3, [.ref a_T_text, .ref a_T_draft, .int T_reader_next_1])), (a_T_draft, .inr (5, [.ref a_T_draft_guestKind, .ref a_T_draft_guestFloor, .ref a_T_draft_wishKind, .ref a_T_draft_wishA, .ref a_T_draft_wishB, .ref a_T_draft_wishNames, .int T_draft_guests_1, .int T_draft_wishes_1, .int T_draft_start_1])), (a_T_text, .inr (7, [.ref a_T_text_letters, .int T_text_length])), (a_T_text_letters, .inl (cC, 200, .inl T_text_letters)), (a_T_draft_wishNames, .inl (cI, 9, .inl T_draft_wishNames_1)), (a_T_draft_wishKind, .inl (cI, 9, .inl T_draft_wishKind_1)), (a_T_draft_wishA, .inl (cI, 9, .inl T_draft_wishA_1)), (a_T_draft_wishB, .inl (cI, 9, .inl T_draft_wishB_1)), (a_T_draft_guestKind, .inl (cI, 6, .inl T_draft_guestKind_1)), (a_T_draft_guestFloor, .inl (cI, 6, .inl T_draft_guestFloor_1)), (a_T_slate, .inr (5, [.ref a_T_slate_guestKind, .ref a_T_slate_guestFloor, .ref a_T_slate_wishKind, .ref a_T_slate_wishA, .ref a_T_slate_wishB, .ref a_T_slate_wishNames, .int T_slate_guests_1, .int T_slate_wishes_1, .int T_slate_start_1])), (a_T_slate_guestKind, .inl (cI, 6, .inl T_slate_guestKind_1)), (a_T_slate_guestFloor, .inl (cI, 6, .inl T_slate_guestFloor_1)), (a_T_slate_wishKind, .inl (cI, 9, .inl T_slate_wishKind_1)), (a_T_slate_wishA, .inl (cI, 9, .inl T_slate_wishA_1)), (a_T_slate_wishB, .inl (cI, 9, .inl T_slate_wishB_1)), (a_T_slate_wishNames, .inl (cI, 9, .inl T_slate_wishNames_1)), (a_T_tonight, .inr (1, [.ref a_T_slate, .ref a_T_tonight_floors, .int T_tonight_here_1, .int T_tonight_struck_1])), (a_T_tonight_floors, .inl (cI, 6, .inl T_tonight_floors_1)), (a_T_undoable, .inr (2, [.ref a_T_undoable_nights, .int T_undoable_size_1])), (a_T_kept, .inr (2, [.ref a_T_kept_nights, .int T_kept_size_1])), (a_T_mornings, .inr (0, [.ref a_T_mornings_ahead, .ref a_T_mornings_behind, .int T_mornings_told_1]))] H := hP
      replace hD : va_D A [(a_T, .inr (8, [.ref a_T_text, .ref a_T_draft, .ref a_T_reader, .ref a_T_slate, .ref a_T_tonight, .ref a_T_otherNight, .ref a_T_undoable, .ref a_T_kept, .ref a_T_mornings, .ref a_T_survey, .ref a_T_otherSurvey, .ref a_T_endsWithout, .int 0])), (a_T_reader, .inr (3, [.ref a_T_text, .ref a_T_draft, .int T_reader_next_1])), (a_T_draft, .inr (5, [.ref a_T_draft_guestKind, .ref a_T_draft_guestFloor, .ref a_T_draft_wishKind, .ref a_T_draft_wishA, .ref a_T_draft_wishB, .ref a_T_draft_wishNames, .int T_draft_guests_1, .int T_draft_wishes_1, .int T_draft_start_1])), (a_T_text, .inr (7, [.ref a_T_text_letters, .int T_text_length])), (a_T_text_letters, .inl (cC, 200, .inl T_text_letters)), (a_T_draft_wishNames, .inl (cI, 9, .inl T_draft_wishNames_1)), (a_T_draft_wishKind, .inl (cI, 9, .inl T_draft_wishKind_1)), (a_T_draft_wishA, .inl (cI, 9, .inl T_draft_wishA_1)), (a_T_draft_wishB, .inl (cI, 9, .inl T_draft_wishB_1)), (a_T_draft_guestKind, .inl (cI, 6, .inl T_draft_guestKind_1)), (a_T_draft_guestFloor, .inl (cI, 6, .inl T_draft_guestFloor_1)), (a_T_slate, .inr (5, [.ref a_T_slate_guestKind, .ref a_T_slate_guestFloor, .ref a_T_slate_wishKind, .ref a_T_slate_wishA, .ref a_T_slate_wishB, .ref a_T_slate_wishNames, .int T_slate_guests_1, .int T_slate_wishes_1, .int T_slate_start_1])), (a_T_slate_guestKind, .inl (cI, 6, .inl T_slate_guestKind_1)), (a_T_slate_guestFloor, .inl (cI, 6, .inl T_slate_guestFloor_1)), (a_T_slate_wishKind, .inl (cI, 9, .inl T_slate_wishKind_1)), (a_T_slate_wishA, .inl (cI, 9, .inl T_slate_wishA_1)), (a_T_slate_wishB, .inl (cI, 9, .inl T_slate_wishB_1)), (a_T_slate_wishNames, .inl (cI, 9, .inl T_slate_wishNames_1)), (a_T_tonight, .inr (1, [.ref a_T_slate, .ref a_T_tonight_floors, .int T_tonight_here_1, .int T_tonight_struck_1])), (a_T_tonight_floors, .inl (cI, 6, .inl T_tonight_floors_1)), (a_T_undoable, .inr (2, [.ref a_T_undoable_nights, .int T_undoable_size_1])), (a_T_kept, .inr (2, [.ref a_T_kept_nights, .int T_kept_size_1])), (a_T_mornings, .inr (0, [.ref a_T_mornings_ahead, .ref a_T_mornings_behind, .int T_mornings_told_1]))] := hD
      refine lv_iconst (v := 1) hx hb dX8_layText_69 (by decide) ?_
      have he := Option.some.inj hr
      subst he
      subst hQ
      exact ret_z hx hb hrt (show narrow .boolean (.int 1) = .int 1 from rfl) hK hP hD hS hlocks dX8_layText_70
    · replace hr := it_f hr c2
      refine lv_iconst (v := 0) hx hb dX8_layText_23 (by decide) ?_
      have he := Option.some.inj hr
      subst he
      subst hQ
      exact ret_z hx hb hrt (show narrow .boolean (.int 0) = .int 0 from rfl) hK hP hD hS hlocks dX8_layText_24
