def fX1_rightBehind_L4 (K : Nat) (x1 : Int32) (T_here : Int32) (T_struck : Int32) (T_slate_wishes : Int32) (T_slate_wishKind : (Nat → Int32)) (T_slate_wishNames : (Nat → Int32)) (T_slate_wishA : (Nat → Int32)) (T_slate_wishB : (Nat → Int32)) : Nat → Int32 → Int32 → Option (Int32)
  | 0, _, _ => none
  | n1 + 1, x2, x3 =>
    if T_slate_wishes ≤ (x3 : Int32) then (
    some x2)
    else (
    bd1 (fX8_at K 9 x3 T_slate_wishKind) fun r =>
    bd1 (fX5_isOfTwo K r) fun r_1 =>
    bd1 (
    if (r_1 : Int32) = 0 then (
    some x2)
    else (
    bd1 (fX1_stands K x3 T_here T_struck T_slate_wishNames) fun r_2 =>
    if (r_2 : Int32) = 0 then (
    some x2)
    else (
    bd1 (
    if (r : Int32) = 0 then (
    some 1)
    else (
    some 0)) fun y =>
    bd1 (
    if (y : Int32) = 0 then (
    bd1 (fX8_at K 9 x3 T_slate_wishB) fun r_3 =>
    some r_3)
    else (
    bd1 (fX8_at K 9 x3 T_slate_wishA) fun r_4 =>
    some r_4)) fun y_1 =>
    bd1 (
    if (y : Int32) = 0 then (
    bd1 (fX8_at K 9 x3 T_slate_wishA) fun r_5 =>
    some r_5)
    else (
    bd1 (fX8_at K 9 x3 T_slate_wishB) fun r_6 =>
    some r_6)) fun y_2 =>
    bd1 (fX8_has K x1 y_1) fun r_7 =>
    if (r_7 : Int32) = 0 then (
    some x2)
    else (
    nm (x2 ||| (1 <<< (y_2 &&& 31))) fun x2_2 =>
    some x2_2)))) fun x2_3 =>
    nm (x3 + 1) fun x3_1 =>
    fX1_rightBehind_L4 K x1 T_here T_struck T_slate_wishes T_slate_wishKind T_slate_wishNames T_slate_wishA T_slate_wishB n1 x2_3 x3_1)
def fX1_rightBehind (K : Nat) (x1 : Int32) (T_here : Int32) (T_struck : Int32) (T_slate_wishes : Int32) (T_slate_wishKind : (Nat → Int32)) (T_slate_wishNames : (Nat → Int32)) (T_slate_wishA : (Nat → Int32)) (T_slate_wishB : (Nat → Int32)) : Option (Int32) :=
    bd1 (fX1_rightBehind_L4 K x1 T_here T_struck T_slate_wishes T_slate_wishKind T_slate_wishNames T_slate_wishA T_slate_wishB K 0 0) fun x2_1 =>
    some x2_1
theorem mbX1_rightBehind_0 : Cond.fieldLink RX1 15 "BootsAtDawn$Night" "slate" "LBootsAtDawn$Slate;" ∈ wsX1_rightBehind := List.mem_of_getElem? (i := 1) rfl
theorem inX1_rightBehind_X1 : ∀ w ∈ u_ws RX1 TX1 4, w ∈ wsX1_rightBehind := fun _ h => (List.mem_cons_of_mem _ (List.mem_append_left _ (List.mem_append_right _ h)))
theorem inX1_rightBehind_X5 : ∀ w ∈ u_ws RX5 TX5 9, w ∈ wsX1_rightBehind := fun _ h => (List.mem_cons_of_mem _ (List.mem_append_right _ h))
theorem mbX1_rightBehind_3 : Cond.initialized RX8 ∈ wsX1_rightBehind := List.mem_of_getElem? (i := 3) rfl
theorem mbX1_rightBehind_4 : Cond.static yX8_at ∈ wsX1_rightBehind := List.mem_of_getElem? (i := 2) rfl
theorem mbX1_rightBehind_5 : Cond.initialized RX5 ∈ wsX1_rightBehind := List.mem_of_getElem? (i := 6) rfl
theorem mbX1_rightBehind_6 : Cond.static yX5_isOfTwo ∈ wsX1_rightBehind := List.mem_of_getElem? (i := 5) rfl
theorem mbX1_rightBehind_7 : Cond.static yX8_has ∈ wsX1_rightBehind := List.mem_of_getElem? (i := 15) rfl
abbrev rmX1_rightBehind : Room := { frames := 2, cells := 0, slots := 0, locals := 43 }
set_option maxHeartbeats 8000000 in
set_option maxRecDepth 100000 in
theorem kX1_rightBehind (l : Launch) (dC : Nat → ClassId) (dI : Nat → Nat → Nat) (cC cI cJ : ClassId) (sz : Nat) (K : Nat) (a_T a_T_slate a_T_floors a_T_slate_guestKind a_T_slate_guestFloor a_T_slate_wishKind a_T_slate_wishA a_T_slate_wishB a_T_slate_wishNames : Nat) (x1 : Int32) (T_here : Int32) (T_struck : Int32) (T_slate_guests : Int32) (T_slate_wishes : Int32) (T_slate_start : Int32) (T_slate_wishKind : (Nat → Int32)) (T_slate_wishNames : (Nat → Int32)) (T_slate_wishA : (Nat → Int32)) (T_slate_wishB : (Nat → Int32)) (R : Int32) (hr : fX1_rightBehind K x1 T_here T_struck T_slate_wishes T_slate_wishKind T_slate_wishNames T_slate_wishA T_slate_wishB = some R) : Met l yX1_rightBehind wsX1_rightBehind rmX1_rightBehind (va_Pc ([.ref a_T, .int x1] : List Value) (PcW (dC, dI) (tysA cC cI cJ) sz [(a_T, .inr (1, [.ref a_T_slate, .ref a_T_floors, .int T_here, .int T_struck])), (a_T_slate, .inr (5, [.ref a_T_slate_guestKind, .ref a_T_slate_guestFloor, .ref a_T_slate_wishKind, .ref a_T_slate_wishA, .ref a_T_slate_wishB, .ref a_T_slate_wishNames, .int T_slate_guests, .int T_slate_wishes, .int T_slate_start])), (a_T_slate_wishKind, .inl (cI, 9, .inl T_slate_wishKind)), (a_T_slate_wishNames, .inl (cI, 9, .inl T_slate_wishNames)), (a_T_slate_wishA, .inl (cI, 9, .inl T_slate_wishA)), (a_T_slate_wishB, .inl (cI, 9, .inl T_slate_wishB))])) (va_Qi (fun r (_ : Unit) => r = R) (fun _ => BW (dC, dI) (tysA cC cI cJ) (va_A [(a_T, .inr (1, [.ref a_T_slate, .ref a_T_floors, .int T_here, .int T_struck])), (a_T_slate, .inr (5, [.ref a_T_slate_guestKind, .ref a_T_slate_guestFloor, .ref a_T_slate_wishKind, .ref a_T_slate_wishA, .ref a_T_slate_wishB, .ref a_T_slate_wishNames, .int T_slate_guests, .int T_slate_wishes, .int T_slate_start])), (a_T_slate_wishKind, .inl (cI, 9, .inl T_slate_wishKind)), (a_T_slate_wishNames, .inl (cI, 9, .inl T_slate_wishNames)), (a_T_slate_wishA, .inl (cI, 9, .inl T_slate_wishA)), (a_T_slate_wishB, .inl (cI, 9, .inl T_slate_wishB))] sz) [(a_T, .inr (1, [.ref a_T_slate, .ref a_T_floors, .int T_here, .int T_struck])), (a_T_slate, .inr (5, [.ref a_T_slate_guestKind, .ref a_T_slate_guestFloor, .ref a_T_slate_wishKind, .ref a_T_slate_wishA, .ref a_T_slate_wishB, .ref a_T_slate_wishNames, .int T_slate_guests, .int T_slate_wishes, .int T_slate_start])), (a_T_slate_wishKind, .inl (cI, 9, .inl T_slate_wishKind)), (a_T_slate_wishNames, .inl (cI, 9, .inl T_slate_wishNames)), (a_T_slate_wishA, .inl (cI, 9, .inl T_slate_wishA)), (a_T_slate_wishB, .inl (cI, 9, .inl T_slate_wishB))]) (va_A [(a_T, .inr (1, [.ref a_T_slate, .ref a_T_floors, .int T_here, .int T_struck])), (a_T_slate, .inr (5, [.ref a_T_slate_guestKind, .ref a_T_slate_guestFloor, .ref a_T_slate_wishKind, .ref a_T_slate_wishA, .ref a_T_slate_wishB, .ref a_T_slate_wishNames, .int T_slate_guests, .int T_slate_wishes, .int T_slate_start])), (a_T_slate_wishKind, .inl (cI, 9, .inl T_slate_wishKind)), (a_T_slate_wishNames, .inl (cI, 9, .inl T_slate_wishNames)), (a_T_slate_wishA, .inl (cI, 9, .inl T_slate_wishA)), (a_T_slate_wishB, .inl (cI, 9, .inl T_slate_wishB))] sz)) 0 0 (va_A [(a_T, .inr (1, [.ref a_T_slate, .ref a_T_floors, .int T_here, .int T_struck])), (a_T_slate, .inr (5, [.ref a_T_slate_guestKind, .ref a_T_slate_guestFloor, .ref a_T_slate_wishKind, .ref a_T_slate_wishA, .ref a_T_slate_wishB, .ref a_T_slate_wishNames, .int T_slate_guests, .int T_slate_wishes, .int T_slate_start])), (a_T_slate_wishKind, .inl (cI, 9, .inl T_slate_wishKind)), (a_T_slate_wishNames, .inl (cI, 9, .inl T_slate_wishNames)), (a_T_slate_wishA, .inl (cI, 9, .inl T_slate_wishA)), (a_T_slate_wishB, .inl (cI, 9, .inl T_slate_wishB))] sz) := by
  refine Met.ofW (cc := cX1_rightBehind) (maxL := 8) (ret := (some .int)) (by decide) rfl ?_
  intro p e s m args below meth c s₁ B hml hv
  obtain ⟨rfl, hsz, hP, hK, hD0, hN⟩ := hv
  have hx := B.exec
  have hb := B.bytes
  have hrt := B.returns
  have hts := atoms_spec (ws := wsX1_rightBehind) B.pre
  have hown : s.vm.findClass RX1 = some m.cls := findClass_of_methodNamed B.named
  have hlocks := B.notSynchronized
  subst hsz
  have hD := hD0.self (sz := s.heap.size)
  generalize hAe : va_A [(a_T, .inr (1, [.ref a_T_slate, .ref a_T_floors, .int T_here, .int T_struck])), (a_T_slate, .inr (5, [.ref a_T_slate_guestKind, .ref a_T_slate_guestFloor, .ref a_T_slate_wishKind, .ref a_T_slate_wishA, .ref a_T_slate_wishB, .ref a_T_slate_wishNames, .int T_slate_guests, .int T_slate_wishes, .int T_slate_start])), (a_T_slate_wishKind, .inl (cI, 9, .inl T_slate_wishKind)), (a_T_slate_wishNames, .inl (cI, 9, .inl T_slate_wishNames)), (a_T_slate_wishA, .inl (cI, 9, .inl T_slate_wishA)), (a_T_slate_wishB, .inl (cI, 9, .inl T_slate_wishB))] s.heap.size = A at hD ⊢
  have hA : ∀ q : Nat, s.heap.size ≤ q → A q := fun q h => by rw [← hAe]; exact Or.inr h
  have hS : va_S A s.heap s.heap [] := va_S.rf
  have hl := lv_entry ([.ref a_T, .int x1] : List Value) (n := 8) (Nat.le_of_ble_eq_true rfl)
  rw [lg_entry_eq]
  generalize (lg_sl ([.ref a_T, .int x1] : List Value) ++ List.replicate (8 - (lg_sl ([.ref a_T, .int x1] : List Value)).length) Slot.unset).toArray = ls at hl ⊢
  replace hl : lv_has ls 8 [(0, .ref a_T), (1, .int x1)] := hl
  obtain ⟨Q, hQ⟩ : ∃ Q, Q = MQ below (va_Qi (fun r (_ : Unit) => r = R) (fun _ => BW (dC, dI) (tysA cC cI cJ) A [(a_T, .inr (1, [.ref a_T_slate, .ref a_T_floors, .int T_here, .int T_struck])), (a_T_slate, .inr (5, [.ref a_T_slate_guestKind, .ref a_T_slate_guestFloor, .ref a_T_slate_wishKind, .ref a_T_slate_wishA, .ref a_T_slate_wishB, .ref a_T_slate_wishNames, .int T_slate_guests, .int T_slate_wishes, .int T_slate_start])), (a_T_slate_wishKind, .inl (cI, 9, .inl T_slate_wishKind)), (a_T_slate_wishNames, .inl (cI, 9, .inl T_slate_wishNames)), (a_T_slate_wishA, .inl (cI, 9, .inl T_slate_wishA)), (a_T_slate_wishB, .inl (cI, 9, .inl T_slate_wishB))]) A) ([.ref a_T, .int x1] : List Value).toArray s 0 0 A := ⟨_, rfl⟩
  rw [← hQ]
  suffices hE : WG p l e rmX1_rightBehind s m ([.ref a_T, .int x1] : List Value).toArray below meth c 0 0 Q (dC, dI) A 0 8 [(a_T, .inr (1, [.ref a_T_slate, .ref a_T_floors, .int T_here, .int T_struck])), (a_T_slate, .inr (5, [.ref a_T_slate_guestKind, .ref a_T_slate_guestFloor, .ref a_T_slate_wishKind, .ref a_T_slate_wishA, .ref a_T_slate_wishB, .ref a_T_slate_wishNames, .int T_slate_guests, .int T_slate_wishes, .int T_slate_start])), (a_T_slate_wishKind, .inl (cI, 9, .inl T_slate_wishKind)), (a_T_slate_wishNames, .inl (cI, 9, .inl T_slate_wishNames)), (a_T_slate_wishA, .inl (cI, 9, .inl T_slate_wishA)), (a_T_slate_wishB, .inl (cI, 9, .inl T_slate_wishB))] [(0, .ref a_T), (1, .int x1)] [] from hE _ _ _ hP hD hS hl
  clear hP hD hS hl hD0 hAe
  intro H locs ls hP hD hS hl
  unfold fX1_rightBehind at hr
  refine lv_iconst (v := 0) hx hb dX1_rightBehind_0 (by decide) ?_
  refine lv_istore_n (lv' := [(2, .int 0), (0, .ref a_T), (1, .int x1)]) hx hb dX1_rightBehind_1 rfl hl (by decide) rfl (fun ls hl => ?_)
  refine lv_iconst (v := 0) hx hb dX1_rightBehind_2 (by decide) ?_
  refine lv_istore_n (lv' := [(3, .int 0), (2, .int 0), (0, .ref a_T), (1, .int x1)]) hx hb dX1_rightBehind_3 rfl hl (by decide) rfl (fun ls hl => ?_)
  have hL1 : ∀ (n1 : Nat) (x2 : Int32) (x3 : Int32) (x2_1 : Int32), fX1_rightBehind_L4 K x1 T_here T_struck T_slate_wishes T_slate_wishKind T_slate_wishNames T_slate_wishA T_slate_wishB n1 x2 x3 = some x2_1 → WG p l e rmX1_rightBehind s m ([.ref a_T, .int x1] : List Value).toArray below meth c 0 0 Q (dC, dI) A 142 8 [(a_T, .inr (1, [.ref a_T_slate, .ref a_T_floors, .int T_here, .int T_struck])), (a_T_slate, .inr (5, [.ref a_T_slate_guestKind, .ref a_T_slate_guestFloor, .ref a_T_slate_wishKind, .ref a_T_slate_wishA, .ref a_T_slate_wishB, .ref a_T_slate_wishNames, .int T_slate_guests, .int T_slate_wishes, .int T_slate_start])), (a_T_slate_wishKind, .inl (cI, 9, .inl T_slate_wishKind)), (a_T_slate_wishNames, .inl (cI, 9, .inl T_slate_wishNames)), (a_T_slate_wishA, .inl (cI, 9, .inl T_slate_wishA)), (a_T_slate_wishB, .inl (cI, 9, .inl T_slate_wishB))] [(2, .int x2_1)] [] → WG p l e rmX1_rightBehind s m ([.ref a_T, .int x1] : List Value).toArray below meth c 0 0 Q (dC, dI) A 4 8 [(a_T, .inr (1, [.ref a_T_slate, .ref a_T_floors, .int T_here, .int T_struck])), (a_T_slate, .inr (5, [.ref a_T_slate_guestKind, .ref a_T_slate_guestFloor, .ref a_T_slate_wishKind, .ref a_T_slate_wishA, .ref a_T_slate_wishB, .ref a_T_slate_wishNames, .int T_slate_guests, .int T_slate_wishes, .int T_slate_start])), (a_T_slate_wishKind, .inl (cI, 9, .inl T_slate_wishKind)), (a_T_slate_wishNames, .inl (cI, 9, .inl T_slate_wishNames)), (a_T_slate_wishA, .inl (cI, 9, .inl T_slate_wishA)), (a_T_slate_wishB, .inl (cI, 9, .inl T_slate_wishB))] [(0, .ref a_T), (1, .int x1), (2, .int x2), (3, .int x3)] [] := by
    intro n1
    induction n1 with
    | zero =>
      intro x2 x3 x2_1 hr
      rw [fX1_rightBehind_L4] at hr
      cases hr
    | succ n1 ih4 =>
      intro x2 x3 x2_1 hr hX1 H locs ls hP hD hS hl
      rw [fX1_rightBehind_L4] at hr
      refine lv_iload_n hx hb dX1_rightBehind_4 rfl (lv_at hl 3 rfl) ?_
      refine lv_aload_n hx hb dX1_rightBehind_5 rfl (lv_at hl 0 rfl) ?_
      refine va_get (D := (dC, dI)) (ci := 1) (v := .ref a_T_slate) (C := RX1) (T := TX1) (N := 4) hx hb hts inX1_rightBehind_X1 hown hK hP 0 rfl rfl 0 (by decide) (hts _ mbX1_rightBehind_0) (fun _ h9 => h9) rfl dX1_rightBehind_6 ?_
      refine va_getN (D := (dC, dI)) (ci := 5) (v := .int T_slate_wishes) (C := RX5) (T := TX5) (N := 9) hx hb hts inX1_rightBehind_X5 hown hK hP 1 rfl rfl 7 (by decide) (nk_use hN nw_18) (fun _ h9 => h9) rfl dX1_rightBehind_9 ?_
      refine lv_icmp_ge (tgt := 142) hx hb dX1_rightBehind_12 (by decide) (fun c1 => ?_) (fun c1 => ?_)
      · replace hr := it_t hr c1
        have he := Option.some.inj hr
        cases he
        exact hX1 H locs ls hP hD hS (lv_sub hl [2] rfl)
      · replace hr := it_f hr c1
        refine lv_aload_n hx hb dX1_rightBehind_15 rfl (lv_at hl 0 rfl) ?_
        refine va_get (D := (dC, dI)) (ci := 1) (v := .ref a_T_slate) (C := RX1) (T := TX1) (N := 4) hx hb hts inX1_rightBehind_X1 hown hK hP 0 rfl rfl 0 (by decide) (hts _ mbX1_rightBehind_0) (fun _ h9 => h9) rfl dX1_rightBehind_16 ?_
        refine va_getN (D := (dC, dI)) (ci := 5) (v := .ref a_T_slate_wishKind) (C := RX5) (T := TX5) (N := 9) hx hb hts inX1_rightBehind_X5 hown hK hP 1 rfl rfl 2 (by decide) (nk_use hN nw_7) (fun _ h9 => h9) rfl dX1_rightBehind_19 ?_
        refine lv_iload_n hx hb dX1_rightBehind_22 rfl (lv_at hl 3 rfl) ?_
        obtain ⟨r, hc1, hr⟩ := bd1_some hr
        refine call_i (D := (dC, dI)) (tys := tysA cC cI cJ) (wc := [(a_T_slate_wishKind, .inl (cI, 9, .inl T_slate_wishKind))]) (wr := [(a_T, .inr (1, [.ref a_T_slate, .ref a_T_floors, .int T_here, .int T_struck])), (a_T_slate, .inr (5, [.ref a_T_slate_guestKind, .ref a_T_slate_guestFloor, .ref a_T_slate_wishKind, .ref a_T_slate_wishA, .ref a_T_slate_wishB, .ref a_T_slate_wishNames, .int T_slate_guests, .int T_slate_wishes, .int T_slate_start])), (a_T_slate_wishNames, .inl (cI, 9, .inl T_slate_wishNames)), (a_T_slate_wishA, .inl (cI, 9, .inl T_slate_wishA)), (a_T_slate_wishB, .inl (cI, 9, .inl T_slate_wishB))]) (w1 := [(a_T_slate_wishKind, .inl (cI, 9, .inl T_slate_wishKind))]) (wn := [(a_T, .inr (1, [.ref a_T_slate, .ref a_T_floors, .int T_here, .int T_struck])), (a_T_slate, .inr (5, [.ref a_T_slate_guestKind, .ref a_T_slate_guestFloor, .ref a_T_slate_wishKind, .ref a_T_slate_wishA, .ref a_T_slate_wishB, .ref a_T_slate_wishNames, .int T_slate_guests, .int T_slate_wishes, .int T_slate_start])), (a_T_slate_wishKind, .inl (cI, 9, .inl T_slate_wishKind)), (a_T_slate_wishNames, .inl (cI, 9, .inl T_slate_wishNames)), (a_T_slate_wishA, .inl (cI, 9, .inl T_slate_wishA)), (a_T_slate_wishB, .inl (cI, 9, .inl T_slate_wishB))]) (r0 := r) hP hD hS hA [2] [0, 1, 3, 4, 5] [0, 1, 5, 2, 3, 4] rfl rfl (by decide +kernel) (by decide +kernel) rfl (by decide +kernel) (va_runSN (host := "BootsAtDawn") (As := [.ref a_T_slate_wishKind, .int x3]) (rest := []) ⟨hx, hb, hml, hown, hts⟩ (kX8_at l dC dI cC cI cJ H.size K a_T_slate_wishKind 9 x3 T_slate_wishKind r hc1) ⟨va_cnB 2 hts gX1_rightBehind_X8_at_n45 rfl rfl rfl (hN _ nw_69) (hts _ mbX1_rightBehind_3) (by decide +kernel) ⟨Nat.le_of_ble_eq_true rfl, Nat.le_of_ble_eq_true rfl⟩, (hts _ mbX1_rightBehind_4), trivial⟩ ⟨fbW, preW hP hD hK hN [2] rfl (by decide +kernel)⟩ rfl rfl hl.1 rfl (lv_room (Nat.le_of_ble_eq_true rfl)) dX1_rightBehind_23 ⟨Nat.zero_le _, Nat.zero_le _⟩) (fun H locs hP hD hS => ?_)
        refine lv_istore (lv' := [(4, .int r), (0, .ref a_T), (1, .int x1), (2, .int x2), (3, .int x3)]) hx hb dX1_rightBehind_26 hl (by decide) rfl (fun ls hl => ?_)
        refine lv_iload hx hb dX1_rightBehind_28 (lv_at hl 0 rfl) ?_
        obtain ⟨r_1, hc2, hr⟩ := bd1_some hr
        refine call_i (D := (dC, dI)) (tys := tysA cC cI cJ) (wc := []) (wr := [(a_T, .inr (1, [.ref a_T_slate, .ref a_T_floors, .int T_here, .int T_struck])), (a_T_slate, .inr (5, [.ref a_T_slate_guestKind, .ref a_T_slate_guestFloor, .ref a_T_slate_wishKind, .ref a_T_slate_wishA, .ref a_T_slate_wishB, .ref a_T_slate_wishNames, .int T_slate_guests, .int T_slate_wishes, .int T_slate_start])), (a_T_slate_wishKind, .inl (cI, 9, .inl T_slate_wishKind)), (a_T_slate_wishNames, .inl (cI, 9, .inl T_slate_wishNames)), (a_T_slate_wishA, .inl (cI, 9, .inl T_slate_wishA)), (a_T_slate_wishB, .inl (cI, 9, .inl T_slate_wishB))]) (w1 := []) (wn := [(a_T, .inr (1, [.ref a_T_slate, .ref a_T_floors, .int T_here, .int T_struck])), (a_T_slate, .inr (5, [.ref a_T_slate_guestKind, .ref a_T_slate_guestFloor, .ref a_T_slate_wishKind, .ref a_T_slate_wishA, .ref a_T_slate_wishB, .ref a_T_slate_wishNames, .int T_slate_guests, .int T_slate_wishes, .int T_slate_start])), (a_T_slate_wishKind, .inl (cI, 9, .inl T_slate_wishKind)), (a_T_slate_wishNames, .inl (cI, 9, .inl T_slate_wishNames)), (a_T_slate_wishA, .inl (cI, 9, .inl T_slate_wishA)), (a_T_slate_wishB, .inl (cI, 9, .inl T_slate_wishB))]) (r0 := r_1) hP hD hS hA [] [0, 1, 2, 3, 4, 5] [0, 1, 2, 3, 4, 5] rfl rfl (by decide +kernel) (by decide +kernel) rfl (by decide +kernel) (va_runSN (host := "BootsAtDawn") (As := [.int r]) (rest := []) ⟨hx, hb, hml, hown, hts⟩ (kX5_isOfTwo l dC dI cC cI cJ H.size K r r_1 hc2) ⟨va_cnB 1 hts gX1_rightBehind_X5_isOfTwo_n82 rfl rfl rfl (hN _ nw_99) (hts _ mbX1_rightBehind_5) (by decide +kernel) ⟨Nat.le_of_ble_eq_true rfl, Nat.le_of_ble_eq_true rfl⟩, (hts _ mbX1_rightBehind_6), trivial⟩ ⟨fbW, preW hP hD hK hN [] rfl (by decide +kernel)⟩ rfl rfl hl.1 rfl (lv_room (Nat.le_of_ble_eq_true rfl)) dX1_rightBehind_30 ⟨Nat.zero_le _, Nat.zero_le _⟩) (fun H locs hP hD hS => ?_)
        obtain ⟨x2_3, hj4, hr⟩ := bd1_some hr
        have hJ1 : WG p l e rmX1_rightBehind s m ([.ref a_T, .int x1] : List Value).toArray below meth c 0 0 Q (dC, dI) A 136 8 [(a_T, .inr (1, [.ref a_T_slate, .ref a_T_floors, .int T_here, .int T_struck])), (a_T_slate, .inr (5, [.ref a_T_slate_guestKind, .ref a_T_slate_guestFloor, .ref a_T_slate_wishKind, .ref a_T_slate_wishA, .ref a_T_slate_wishB, .ref a_T_slate_wishNames, .int T_slate_guests, .int T_slate_wishes, .int T_slate_start])), (a_T_slate_wishKind, .inl (cI, 9, .inl T_slate_wishKind)), (a_T_slate_wishNames, .inl (cI, 9, .inl T_slate_wishNames)), (a_T_slate_wishA, .inl (cI, 9, .inl T_slate_wishA)), (a_T_slate_wishB, .inl (cI, 9, .inl T_slate_wishB))] [(0, .ref a_T), (1, .int x1), (2, .int x2_3), (3, .int x3)] [] := by
          intro H locs ls hP hD hS hl
          obtain ⟨x3_1, e2, hr⟩ := nm_el hr
          refine lv_iinc (v := x3_1) (lv' := [(3, .int x3_1), (0, .ref a_T), (1, .int x1), (2, .int x2_3)]) hx hb dX1_rightBehind_136 hl (k := 3) rfl e2.symm (by decide) rfl (fun ls hl => ?_)
          refine lv_goto (tgt := 4) hx hb dX1_rightBehind_139 (by decide) ?_
          exact ih4 _ _ _ hr hX1 H locs ls hP hD hS (lv_sub hl [1, 2, 3, 0] rfl)
        replace hr := hj4
        refine lv_if_eq (tgt := 136) hx hb dX1_rightBehind_33 (by decide) (fun c2 => ?_) (fun c2 => ?_)
        · replace hr := it_t hr c2
          cases hr
          exact hJ1 H locs ls hP hD hS (lv_sub hl [1, 2, 3, 4] rfl)
        · replace hr := it_f hr c2
          refine lv_aload_n hx hb dX1_rightBehind_36 rfl (lv_at hl 1 rfl) ?_
          refine lv_iload_n hx hb dX1_rightBehind_37 rfl (lv_at hl 4 rfl) ?_
          obtain ⟨r_2, hc3, hr⟩ := bd1_some hr
          refine call_i (D := (dC, dI)) (tys := tysA cC cI cJ) (wc := [(a_T, .inr (1, [.ref a_T_slate, .ref a_T_floors, .int T_here, .int T_struck])), (a_T_slate, .inr (5, [.ref a_T_slate_guestKind, .ref a_T_slate_guestFloor, .ref a_T_slate_wishKind, .ref a_T_slate_wishA, .ref a_T_slate_wishB, .ref a_T_slate_wishNames, .int T_slate_guests, .int T_slate_wishes, .int T_slate_start])), (a_T_slate_wishNames, .inl (cI, 9, .inl T_slate_wishNames))]) (wr := [(a_T_slate_wishKind, .inl (cI, 9, .inl T_slate_wishKind)), (a_T_slate_wishA, .inl (cI, 9, .inl T_slate_wishA)), (a_T_slate_wishB, .inl (cI, 9, .inl T_slate_wishB))]) (w1 := [(a_T, .inr (1, [.ref a_T_slate, .ref a_T_floors, .int T_here, .int T_struck])), (a_T_slate, .inr (5, [.ref a_T_slate_guestKind, .ref a_T_slate_guestFloor, .ref a_T_slate_wishKind, .ref a_T_slate_wishA, .ref a_T_slate_wishB, .ref a_T_slate_wishNames, .int T_slate_guests, .int T_slate_wishes, .int T_slate_start])), (a_T_slate_wishNames, .inl (cI, 9, .inl T_slate_wishNames))]) (wn := [(a_T, .inr (1, [.ref a_T_slate, .ref a_T_floors, .int T_here, .int T_struck])), (a_T_slate, .inr (5, [.ref a_T_slate_guestKind, .ref a_T_slate_guestFloor, .ref a_T_slate_wishKind, .ref a_T_slate_wishA, .ref a_T_slate_wishB, .ref a_T_slate_wishNames, .int T_slate_guests, .int T_slate_wishes, .int T_slate_start])), (a_T_slate_wishKind, .inl (cI, 9, .inl T_slate_wishKind)), (a_T_slate_wishNames, .inl (cI, 9, .inl T_slate_wishNames)), (a_T_slate_wishA, .inl (cI, 9, .inl T_slate_wishA)), (a_T_slate_wishB, .inl (cI, 9, .inl T_slate_wishB))]) (r0 := r_2) hP hD hS hA [0, 1, 3] [2, 4, 5] [3, 4, 0, 5, 1, 2] rfl rfl (by decide +kernel) (by decide +kernel) rfl (by decide +kernel) (va_runV (As := [.int x3]) (rest := []) ⟨hx, hb, hml, hown, hts⟩ (kX1_stands l dC dI cC cI cJ H.size K a_T a_T_slate a_T_floors a_T_slate_guestKind a_T_slate_guestFloor a_T_slate_wishKind a_T_slate_wishA a_T_slate_wishB a_T_slate_wishNames x3 T_here T_struck T_slate_guests T_slate_wishes T_slate_start T_slate_wishNames r_2 hc3) (cwV 1 hts gX1_rightBehind_X1_stands rfl rfl rfl (by decide +kernel) ⟨Nat.le_of_ble_eq_true rfl, Nat.le_of_ble_eq_true rfl⟩) ⟨fbW, va_recv hK hP (ci := 1) (q0 := 0) rfl rfl, preW hP hD hK hN [0, 1, 3] rfl (by decide +kernel)⟩ rfl rfl hl.1 rfl (lv_room (Nat.le_of_ble_eq_true rfl)) dX1_rightBehind_38 ⟨Nat.zero_le _, Nat.zero_le _⟩) (fun H locs hP hD hS => ?_)
          refine lv_if_eq (tgt := 136) hx hb dX1_rightBehind_41 (by decide) (fun c3 => ?_) (fun c3 => ?_)
          · replace hr := it_t hr c3
            cases hr
            exact hJ1 H locs ls hP hD hS (lv_sub hl [1, 2, 3, 4] rfl)
          · replace hr := it_f hr c3
            refine lv_iload hx hb dX1_rightBehind_44 (lv_at hl 0 rfl) ?_
            obtain ⟨y, hj3, hr⟩ := bd1_some hr
            have hJ2 : WG p l e rmX1_rightBehind s m ([.ref a_T, .int x1] : List Value).toArray below meth c 0 0 Q (dC, dI) A 54 8 [(a_T, .inr (1, [.ref a_T_slate, .ref a_T_floors, .int T_here, .int T_struck])), (a_T_slate, .inr (5, [.ref a_T_slate_guestKind, .ref a_T_slate_guestFloor, .ref a_T_slate_wishKind, .ref a_T_slate_wishA, .ref a_T_slate_wishB, .ref a_T_slate_wishNames, .int T_slate_guests, .int T_slate_wishes, .int T_slate_start])), (a_T_slate_wishKind, .inl (cI, 9, .inl T_slate_wishKind)), (a_T_slate_wishNames, .inl (cI, 9, .inl T_slate_wishNames)), (a_T_slate_wishA, .inl (cI, 9, .inl T_slate_wishA)), (a_T_slate_wishB, .inl (cI, 9, .inl T_slate_wishB))] [(0, .ref a_T), (1, .int x1), (2, .int x2), (3, .int x3)] [.int y] := by
              intro H locs ls hP hD hS hl
              refine lv_istore (lv' := [(5, .int y), (0, .ref a_T), (1, .int x1), (2, .int x2), (3, .int x3)]) hx hb dX1_rightBehind_54 hl (by decide) rfl (fun ls hl => ?_)
              refine lv_iload hx hb dX1_rightBehind_56 (lv_at hl 0 rfl) ?_
              obtain ⟨y_1, hj2, hr⟩ := bd1_some hr
              have hJ3 : WG p l e rmX1_rightBehind s m ([.ref a_T, .int x1] : List Value).toArray below meth c 0 0 Q (dC, dI) A 86 8 [(a_T, .inr (1, [.ref a_T_slate, .ref a_T_floors, .int T_here, .int T_struck])), (a_T_slate, .inr (5, [.ref a_T_slate_guestKind, .ref a_T_slate_guestFloor, .ref a_T_slate_wishKind, .ref a_T_slate_wishA, .ref a_T_slate_wishB, .ref a_T_slate_wishNames, .int T_slate_guests, .int T_slate_wishes, .int T_slate_start])), (a_T_slate_wishKind, .inl (cI, 9, .inl T_slate_wishKind)), (a_T_slate_wishNames, .inl (cI, 9, .inl T_slate_wishNames)), (a_T_slate_wishA, .inl (cI, 9, .inl T_slate_wishA)), (a_T_slate_wishB, .inl (cI, 9, .inl T_slate_wishB))] [(0, .ref a_T), (1, .int x1), (2, .int x2), (3, .int x3), (5, .int y)] [.int y_1] := by
                intro H locs ls hP hD hS hl
                refine lv_istore (lv' := [(6, .int y_1), (0, .ref a_T), (1, .int x1), (2, .int x2), (3, .int x3), (5, .int y)]) hx hb dX1_rightBehind_86 hl (by decide) rfl (fun ls hl => ?_)
                refine lv_iload hx hb dX1_rightBehind_88 (lv_at hl 5 rfl) ?_
                obtain ⟨y_2, hj1, hr⟩ := bd1_some hr
                have hJ4 : WG p l e rmX1_rightBehind s m ([.ref a_T, .int x1] : List Value).toArray below meth c 0 0 Q (dC, dI) A 118 8 [(a_T, .inr (1, [.ref a_T_slate, .ref a_T_floors, .int T_here, .int T_struck])), (a_T_slate, .inr (5, [.ref a_T_slate_guestKind, .ref a_T_slate_guestFloor, .ref a_T_slate_wishKind, .ref a_T_slate_wishA, .ref a_T_slate_wishB, .ref a_T_slate_wishNames, .int T_slate_guests, .int T_slate_wishes, .int T_slate_start])), (a_T_slate_wishKind, .inl (cI, 9, .inl T_slate_wishKind)), (a_T_slate_wishNames, .inl (cI, 9, .inl T_slate_wishNames)), (a_T_slate_wishA, .inl (cI, 9, .inl T_slate_wishA)), (a_T_slate_wishB, .inl (cI, 9, .inl T_slate_wishB))] [(0, .ref a_T), (1, .int x1), (2, .int x2), (3, .int x3), (6, .int y_1)] [.int y_2] := by
                  intro H locs ls hP hD hS hl
                  refine lv_istore (lv' := [(7, .int y_2), (0, .ref a_T), (1, .int x1), (2, .int x2), (3, .int x3), (6, .int y_1)]) hx hb dX1_rightBehind_118 hl (by decide) rfl (fun ls hl => ?_)
                  refine lv_iload_n hx hb dX1_rightBehind_120 rfl (lv_at hl 2 rfl) ?_
                  refine lv_iload hx hb dX1_rightBehind_121 (lv_at hl 5 rfl) ?_
                  obtain ⟨r_7, hc8, hr⟩ := bd1_some hr
                  refine call_i (D := (dC, dI)) (tys := tysA cC cI cJ) (wc := []) (wr := [(a_T, .inr (1, [.ref a_T_slate, .ref a_T_floors, .int T_here, .int T_struck])), (a_T_slate, .inr (5, [.ref a_T_slate_guestKind, .ref a_T_slate_guestFloor, .ref a_T_slate_wishKind, .ref a_T_slate_wishA, .ref a_T_slate_wishB, .ref a_T_slate_wishNames, .int T_slate_guests, .int T_slate_wishes, .int T_slate_start])), (a_T_slate_wishKind, .inl (cI, 9, .inl T_slate_wishKind)), (a_T_slate_wishNames, .inl (cI, 9, .inl T_slate_wishNames)), (a_T_slate_wishA, .inl (cI, 9, .inl T_slate_wishA)), (a_T_slate_wishB, .inl (cI, 9, .inl T_slate_wishB))]) (w1 := []) (wn := [(a_T, .inr (1, [.ref a_T_slate, .ref a_T_floors, .int T_here, .int T_struck])), (a_T_slate, .inr (5, [.ref a_T_slate_guestKind, .ref a_T_slate_guestFloor, .ref a_T_slate_wishKind, .ref a_T_slate_wishA, .ref a_T_slate_wishB, .ref a_T_slate_wishNames, .int T_slate_guests, .int T_slate_wishes, .int T_slate_start])), (a_T_slate_wishKind, .inl (cI, 9, .inl T_slate_wishKind)), (a_T_slate_wishNames, .inl (cI, 9, .inl T_slate_wishNames)), (a_T_slate_wishA, .inl (cI, 9, .inl T_slate_wishA)), (a_T_slate_wishB, .inl (cI, 9, .inl T_slate_wishB))]) (r0 := r_7) hP hD hS hA [] [0, 1, 2, 3, 4, 5] [0, 1, 2, 3, 4, 5] rfl rfl (by decide +kernel) (by decide +kernel) rfl (by decide +kernel) (va_runSN (host := "BootsAtDawn") (As := [.int x1, .int y_1]) (rest := []) ⟨hx, hb, hml, hown, hts⟩ (kX8_has l dC dI cC cI cJ H.size K x1 y_1 r_7 hc8) ⟨va_cnB 2 hts gX1_rightBehind_X8_has_n52 rfl rfl rfl (hN _ nw_72) (hts _ mbX1_rightBehind_3) (by decide +kernel) ⟨Nat.le_of_ble_eq_true rfl, Nat.le_of_ble_eq_true rfl⟩, (hts _ mbX1_rightBehind_7), trivial⟩ ⟨fbW, preW hP hD hK hN [] rfl (by decide +kernel)⟩ rfl rfl hl.1 rfl (lv_room (Nat.le_of_ble_eq_true rfl)) dX1_rightBehind_123 ⟨Nat.zero_le _, Nat.zero_le _⟩) (fun H locs hP hD hS => ?_)
                  refine lv_if_eq (tgt := 136) hx hb dX1_rightBehind_126 (by decide) (fun c7 => ?_) (fun c7 => ?_)
                  · replace hr := it_t hr c7
                    cases hr
                    exact hJ1 H locs ls hP hD hS (lv_sub hl [1, 2, 3, 4] rfl)
                  · replace hr := it_f hr c7
                    refine lv_iload_n hx hb dX1_rightBehind_129 rfl (lv_at hl 3 rfl) ?_
                    refine lv_iconst (v := 1) hx hb dX1_rightBehind_130 (by decide) ?_
                    refine lv_iload hx hb dX1_rightBehind_131 (lv_at hl 0 rfl) ?_
                    refine lv_ishl hx hb dX1_rightBehind_133 ?_
                    refine lv_ior hx hb dX1_rightBehind_134 ?_
                    obtain ⟨x2_2, e1, hr⟩ := nm_el hr
                    refine lv_nmi e1 ?_
                    refine lv_istore_n (lv' := [(2, .int x2_2), (7, .int y_2), (0, .ref a_T), (1, .int x1), (3, .int x3), (6, .int y_1)]) hx hb dX1_rightBehind_135 rfl hl (by decide) rfl (fun ls hl => ?_)
                    cases hr
                    exact hJ1 H locs ls hP hD hS (lv_sub hl [2, 3, 0, 4] rfl)
                replace hr := hj1
                refine lv_if_eq (tgt := 107) hx hb dX1_rightBehind_90 (by decide) (fun c6 => ?_) (fun c6 => ?_)
                · replace hr := it_t hr c6
                  refine lv_aload_n hx hb dX1_rightBehind_107 rfl (lv_at hl 1 rfl) ?_
                  refine va_get (D := (dC, dI)) (ci := 1) (v := .ref a_T_slate) (C := RX1) (T := TX1) (N := 4) hx hb hts inX1_rightBehind_X1 hown hK hP 0 rfl rfl 0 (by decide) (hts _ mbX1_rightBehind_0) (fun _ h9 => h9) rfl dX1_rightBehind_108 ?_
                  refine va_getN (D := (dC, dI)) (ci := 5) (v := .ref a_T_slate_wishA) (C := RX5) (T := TX5) (N := 9) hx hb hts inX1_rightBehind_X5 hown hK hP 1 rfl rfl 3 (by decide) (nk_use hN nw_10) (fun _ h9 => h9) rfl dX1_rightBehind_111 ?_
                  refine lv_iload_n hx hb dX1_rightBehind_114 rfl (lv_at hl 4 rfl) ?_
                  obtain ⟨r_5, hc6, hr⟩ := bd1_some hr
                  refine call_i (D := (dC, dI)) (tys := tysA cC cI cJ) (wc := [(a_T_slate_wishA, .inl (cI, 9, .inl T_slate_wishA))]) (wr := [(a_T, .inr (1, [.ref a_T_slate, .ref a_T_floors, .int T_here, .int T_struck])), (a_T_slate, .inr (5, [.ref a_T_slate_guestKind, .ref a_T_slate_guestFloor, .ref a_T_slate_wishKind, .ref a_T_slate_wishA, .ref a_T_slate_wishB, .ref a_T_slate_wishNames, .int T_slate_guests, .int T_slate_wishes, .int T_slate_start])), (a_T_slate_wishKind, .inl (cI, 9, .inl T_slate_wishKind)), (a_T_slate_wishNames, .inl (cI, 9, .inl T_slate_wishNames)), (a_T_slate_wishB, .inl (cI, 9, .inl T_slate_wishB))]) (w1 := [(a_T_slate_wishA, .inl (cI, 9, .inl T_slate_wishA))]) (wn := [(a_T, .inr (1, [.ref a_T_slate, .ref a_T_floors, .int T_here, .int T_struck])), (a_T_slate, .inr (5, [.ref a_T_slate_guestKind, .ref a_T_slate_guestFloor, .ref a_T_slate_wishKind, .ref a_T_slate_wishA, .ref a_T_slate_wishB, .ref a_T_slate_wishNames, .int T_slate_guests, .int T_slate_wishes, .int T_slate_start])), (a_T_slate_wishKind, .inl (cI, 9, .inl T_slate_wishKind)), (a_T_slate_wishNames, .inl (cI, 9, .inl T_slate_wishNames)), (a_T_slate_wishA, .inl (cI, 9, .inl T_slate_wishA)), (a_T_slate_wishB, .inl (cI, 9, .inl T_slate_wishB))]) (r0 := r_5) hP hD hS hA [4] [0, 1, 2, 3, 5] [0, 1, 2, 3, 5, 4] rfl rfl (by decide +kernel) (by decide +kernel) rfl (by decide +kernel) (va_runSN (host := "BootsAtDawn") (As := [.ref a_T_slate_wishA, .int x3]) (rest := []) ⟨hx, hb, hml, hown, hts⟩ (kX8_at l dC dI cC cI cJ H.size K a_T_slate_wishA 9 x3 T_slate_wishA r_5 hc6) ⟨va_cnB 2 hts gX1_rightBehind_X8_at_n45 rfl rfl rfl (hN _ nw_69) (hts _ mbX1_rightBehind_3) (by decide +kernel) ⟨Nat.le_of_ble_eq_true rfl, Nat.le_of_ble_eq_true rfl⟩, (hts _ mbX1_rightBehind_4), trivial⟩ ⟨fbW, preW hP hD hK hN [4] rfl (by decide +kernel)⟩ rfl rfl hl.1 rfl (lv_room (Nat.le_of_ble_eq_true rfl)) dX1_rightBehind_115 ⟨Nat.zero_le _, Nat.zero_le _⟩) (fun H locs hP hD hS => ?_)
                  cases hr
                  exact hJ4 H locs ls hP hD hS (lv_sub hl [1, 2, 3, 4, 0] rfl)
                · replace hr := it_f hr c6
                  refine lv_aload_n hx hb dX1_rightBehind_93 rfl (lv_at hl 1 rfl) ?_
                  refine va_get (D := (dC, dI)) (ci := 1) (v := .ref a_T_slate) (C := RX1) (T := TX1) (N := 4) hx hb hts inX1_rightBehind_X1 hown hK hP 0 rfl rfl 0 (by decide) (hts _ mbX1_rightBehind_0) (fun _ h9 => h9) rfl dX1_rightBehind_94 ?_
                  refine va_getN (D := (dC, dI)) (ci := 5) (v := .ref a_T_slate_wishB) (C := RX5) (T := TX5) (N := 9) hx hb hts inX1_rightBehind_X5 hown hK hP 1 rfl rfl 4 (by decide) (nk_use hN nw_13) (fun _ h9 => h9) rfl dX1_rightBehind_97 ?_
                  refine lv_iload_n hx hb dX1_rightBehind_100 rfl (lv_at hl 4 rfl) ?_
                  obtain ⟨r_6, hc7, hr⟩ := bd1_some hr
                  refine call_i (D := (dC, dI)) (tys := tysA cC cI cJ) (wc := [(a_T_slate_wishB, .inl (cI, 9, .inl T_slate_wishB))]) (wr := [(a_T, .inr (1, [.ref a_T_slate, .ref a_T_floors, .int T_here, .int T_struck])), (a_T_slate, .inr (5, [.ref a_T_slate_guestKind, .ref a_T_slate_guestFloor, .ref a_T_slate_wishKind, .ref a_T_slate_wishA, .ref a_T_slate_wishB, .ref a_T_slate_wishNames, .int T_slate_guests, .int T_slate_wishes, .int T_slate_start])), (a_T_slate_wishKind, .inl (cI, 9, .inl T_slate_wishKind)), (a_T_slate_wishNames, .inl (cI, 9, .inl T_slate_wishNames)), (a_T_slate_wishA, .inl (cI, 9, .inl T_slate_wishA))]) (w1 := [(a_T_slate_wishB, .inl (cI, 9, .inl T_slate_wishB))]) (wn := [(a_T, .inr (1, [.ref a_T_slate, .ref a_T_floors, .int T_here, .int T_struck])), (a_T_slate, .inr (5, [.ref a_T_slate_guestKind, .ref a_T_slate_guestFloor, .ref a_T_slate_wishKind, .ref a_T_slate_wishA, .ref a_T_slate_wishB, .ref a_T_slate_wishNames, .int T_slate_guests, .int T_slate_wishes, .int T_slate_start])), (a_T_slate_wishKind, .inl (cI, 9, .inl T_slate_wishKind)), (a_T_slate_wishNames, .inl (cI, 9, .inl T_slate_wishNames)), (a_T_slate_wishA, .inl (cI, 9, .inl T_slate_wishA)), (a_T_slate_wishB, .inl (cI, 9, .inl T_slate_wishB))]) (r0 := r_6) hP hD hS hA [5] [0, 1, 2, 3, 4] [0, 1, 2, 3, 4, 5] rfl rfl (by decide +kernel) (by decide +kernel) rfl (by decide +kernel) (va_runSN (host := "BootsAtDawn") (As := [.ref a_T_slate_wishB, .int x3]) (rest := []) ⟨hx, hb, hml, hown, hts⟩ (kX8_at l dC dI cC cI cJ H.size K a_T_slate_wishB 9 x3 T_slate_wishB r_6 hc7) ⟨va_cnB 2 hts gX1_rightBehind_X8_at_n45 rfl rfl rfl (hN _ nw_69) (hts _ mbX1_rightBehind_3) (by decide +kernel) ⟨Nat.le_of_ble_eq_true rfl, Nat.le_of_ble_eq_true rfl⟩, (hts _ mbX1_rightBehind_4), trivial⟩ ⟨fbW, preW hP hD hK hN [5] rfl (by decide +kernel)⟩ rfl rfl hl.1 rfl (lv_room (Nat.le_of_ble_eq_true rfl)) dX1_rightBehind_101 ⟨Nat.zero_le _, Nat.zero_le _⟩) (fun H locs hP hD hS => ?_)
                  refine lv_goto (tgt := 118) hx hb dX1_rightBehind_104 (by decide) ?_
                  cases hr
                  exact hJ4 H locs ls hP hD hS (lv_sub hl [1, 2, 3, 4, 0] rfl)
              replace hr := hj2
              refine lv_if_eq (tgt := 75) hx hb dX1_rightBehind_58 (by decide) (fun c5 => ?_) (fun c5 => ?_)
              · replace hr := it_t hr c5
                refine lv_aload_n hx hb dX1_rightBehind_75 rfl (lv_at hl 1 rfl) ?_
                refine va_get (D := (dC, dI)) (ci := 1) (v := .ref a_T_slate) (C := RX1) (T := TX1) (N := 4) hx hb hts inX1_rightBehind_X1 hown hK hP 0 rfl rfl 0 (by decide) (hts _ mbX1_rightBehind_0) (fun _ h9 => h9) rfl dX1_rightBehind_76 ?_
                refine va_getN (D := (dC, dI)) (ci := 5) (v := .ref a_T_slate_wishB) (C := RX5) (T := TX5) (N := 9) hx hb hts inX1_rightBehind_X5 hown hK hP 1 rfl rfl 4 (by decide) (nk_use hN nw_13) (fun _ h9 => h9) rfl dX1_rightBehind_79 ?_
                refine lv_iload_n hx hb dX1_rightBehind_82 rfl (lv_at hl 4 rfl) ?_
                obtain ⟨r_3, hc4, hr⟩ := bd1_some hr
                refine call_i (D := (dC, dI)) (tys := tysA cC cI cJ) (wc := [(a_T_slate_wishB, .inl (cI, 9, .inl T_slate_wishB))]) (wr := [(a_T, .inr (1, [.ref a_T_slate, .ref a_T_floors, .int T_here, .int T_struck])), (a_T_slate, .inr (5, [.ref a_T_slate_guestKind, .ref a_T_slate_guestFloor, .ref a_T_slate_wishKind, .ref a_T_slate_wishA, .ref a_T_slate_wishB, .ref a_T_slate_wishNames, .int T_slate_guests, .int T_slate_wishes, .int T_slate_start])), (a_T_slate_wishKind, .inl (cI, 9, .inl T_slate_wishKind)), (a_T_slate_wishNames, .inl (cI, 9, .inl T_slate_wishNames)), (a_T_slate_wishA, .inl (cI, 9, .inl T_slate_wishA))]) (w1 := [(a_T_slate_wishB, .inl (cI, 9, .inl T_slate_wishB))]) (wn := [(a_T, .inr (1, [.ref a_T_slate, .ref a_T_floors, .int T_here, .int T_struck])), (a_T_slate, .inr (5, [.ref a_T_slate_guestKind, .ref a_T_slate_guestFloor, .ref a_T_slate_wishKind, .ref a_T_slate_wishA, .ref a_T_slate_wishB, .ref a_T_slate_wishNames, .int T_slate_guests, .int T_slate_wishes, .int T_slate_start])), (a_T_slate_wishKind, .inl (cI, 9, .inl T_slate_wishKind)), (a_T_slate_wishNames, .inl (cI, 9, .inl T_slate_wishNames)), (a_T_slate_wishA, .inl (cI, 9, .inl T_slate_wishA)), (a_T_slate_wishB, .inl (cI, 9, .inl T_slate_wishB))]) (r0 := r_3) hP hD hS hA [5] [0, 1, 2, 3, 4] [0, 1, 2, 3, 4, 5] rfl rfl (by decide +kernel) (by decide +kernel) rfl (by decide +kernel) (va_runSN (host := "BootsAtDawn") (As := [.ref a_T_slate_wishB, .int x3]) (rest := []) ⟨hx, hb, hml, hown, hts⟩ (kX8_at l dC dI cC cI cJ H.size K a_T_slate_wishB 9 x3 T_slate_wishB r_3 hc4) ⟨va_cnB 2 hts gX1_rightBehind_X8_at_n45 rfl rfl rfl (hN _ nw_69) (hts _ mbX1_rightBehind_3) (by decide +kernel) ⟨Nat.le_of_ble_eq_true rfl, Nat.le_of_ble_eq_true rfl⟩, (hts _ mbX1_rightBehind_4), trivial⟩ ⟨fbW, preW hP hD hK hN [5] rfl (by decide +kernel)⟩ rfl rfl hl.1 rfl (lv_room (Nat.le_of_ble_eq_true rfl)) dX1_rightBehind_83 ⟨Nat.zero_le _, Nat.zero_le _⟩) (fun H locs hP hD hS => ?_)
                cases hr
                exact hJ3 H locs ls hP hD hS (lv_sub hl [1, 2, 3, 4, 0] rfl)
              · replace hr := it_f hr c5
                refine lv_aload_n hx hb dX1_rightBehind_61 rfl (lv_at hl 1 rfl) ?_
                refine va_get (D := (dC, dI)) (ci := 1) (v := .ref a_T_slate) (C := RX1) (T := TX1) (N := 4) hx hb hts inX1_rightBehind_X1 hown hK hP 0 rfl rfl 0 (by decide) (hts _ mbX1_rightBehind_0) (fun _ h9 => h9) rfl dX1_rightBehind_62 ?_
                refine va_getN (D := (dC, dI)) (ci := 5) (v := .ref a_T_slate_wishA) (C := RX5) (T := TX5) (N := 9) hx hb hts inX1_rightBehind_X5 hown hK hP 1 rfl rfl 3 (by decide) (nk_use hN nw_10) (fun _ h9 => h9) rfl dX1_rightBehind_65 ?_
                refine lv_iload_n hx hb dX1_rightBehind_68 rfl (lv_at hl 4 rfl) ?_
                obtain ⟨r_4, hc5, hr⟩ := bd1_some hr
                refine call_i (D := (dC, dI)) (tys := tysA cC cI cJ) (wc := [(a_T_slate_wishA, .inl (cI, 9, .inl T_slate_wishA))]) (wr := [(a_T, .inr (1, [.ref a_T_slate, .ref a_T_floors, .int T_here, .int T_struck])), (a_T_slate, .inr (5, [.ref a_T_slate_guestKind, .ref a_T_slate_guestFloor, .ref a_T_slate_wishKind, .ref a_T_slate_wishA, .ref a_T_slate_wishB, .ref a_T_slate_wishNames, .int T_slate_guests, .int T_slate_wishes, .int T_slate_start])), (a_T_slate_wishKind, .inl (cI, 9, .inl T_slate_wishKind)), (a_T_slate_wishNames, .inl (cI, 9, .inl T_slate_wishNames)), (a_T_slate_wishB, .inl (cI, 9, .inl T_slate_wishB))]) (w1 := [(a_T_slate_wishA, .inl (cI, 9, .inl T_slate_wishA))]) (wn := [(a_T, .inr (1, [.ref a_T_slate, .ref a_T_floors, .int T_here, .int T_struck])), (a_T_slate, .inr (5, [.ref a_T_slate_guestKind, .ref a_T_slate_guestFloor, .ref a_T_slate_wishKind, .ref a_T_slate_wishA, .ref a_T_slate_wishB, .ref a_T_slate_wishNames, .int T_slate_guests, .int T_slate_wishes, .int T_slate_start])), (a_T_slate_wishKind, .inl (cI, 9, .inl T_slate_wishKind)), (a_T_slate_wishNames, .inl (cI, 9, .inl T_slate_wishNames)), (a_T_slate_wishA, .inl (cI, 9, .inl T_slate_wishA)), (a_T_slate_wishB, .inl (cI, 9, .inl T_slate_wishB))]) (r0 := r_4) hP hD hS hA [4] [0, 1, 2, 3, 5] [0, 1, 2, 3, 5, 4] rfl rfl (by decide +kernel) (by decide +kernel) rfl (by decide +kernel) (va_runSN (host := "BootsAtDawn") (As := [.ref a_T_slate_wishA, .int x3]) (rest := []) ⟨hx, hb, hml, hown, hts⟩ (kX8_at l dC dI cC cI cJ H.size K a_T_slate_wishA 9 x3 T_slate_wishA r_4 hc5) ⟨va_cnB 2 hts gX1_rightBehind_X8_at_n45 rfl rfl rfl (hN _ nw_69) (hts _ mbX1_rightBehind_3) (by decide +kernel) ⟨Nat.le_of_ble_eq_true rfl, Nat.le_of_ble_eq_true rfl⟩, (hts _ mbX1_rightBehind_4), trivial⟩ ⟨fbW, preW hP hD hK hN [4] rfl (by decide +kernel)⟩ rfl rfl hl.1 rfl (lv_room (Nat.le_of_ble_eq_true rfl)) dX1_rightBehind_69 ⟨Nat.zero_le _, Nat.zero_le _⟩) (fun H locs hP hD hS => ?_)
                refine lv_goto (tgt := 86) hx hb dX1_rightBehind_72 (by decide) ?_
                cases hr
                exact hJ3 H locs ls hP hD hS (lv_sub hl [1, 2, 3, 4, 0] rfl)
            replace hr := hj3
            refine lv_if_ne (tgt := 53) hx hb dX1_rightBehind_46 (by decide) (fun c4 => ?_) (fun c4 => ?_)
            · replace hr := it_f hr c4
              refine lv_iconst (v := 0) hx hb dX1_rightBehind_53 (by decide) ?_
              cases hr
              exact hJ2 H locs ls hP hD hS (lv_sub hl [1, 2, 3, 4] rfl)
            · replace hr := it_t hr c4
              refine lv_iconst (v := 1) hx hb dX1_rightBehind_49 (by decide) ?_
              refine lv_goto (tgt := 54) hx hb dX1_rightBehind_50 (by decide) ?_
              cases hr
              exact hJ2 H locs ls hP hD hS (lv_sub hl [1, 2, 3, 4] rfl)
  obtain ⟨x2_1, hE, hr⟩ := bd1_some hr
  refine hL1 K 0 0 x2_1 hE ?_ H locs ls hP hD hS (lv_sub hl [2, 3, 1, 0] rfl)
  intro H locs ls hP hD hS hl
  refine lv_iload_n hx hb dX1_rightBehind_142 rfl (lv_at hl 0 rfl) ?_
  have he := Option.some.inj hr
  subst he
  subst hQ
  exact ret_i hx hb hrt hK hP hD hS hlocks dX1_rightBehind_143
def fX1_hangingOn_L6 (K : Nat) (T_here : Int32) (T_struck : Int32) (T_slate_guests : Int32) (T_slate_wishes : Int32) (T_slate_wishKind : (Nat → Int32)) (T_slate_wishNames : (Nat → Int32)) (T_slate_wishA : (Nat → Int32)) (T_slate_wishB : (Nat → Int32)) : Nat → Int32 → Int32 → Option (Int32)
  | 0, _, _ => none
  | n1 + 1, x2_1, x3 =>
    if T_slate_guests ≤ (x3 : Int32) then (
    some x2_1)
    else (
    bd1 (fX1_rightBehind K x2_1 T_here T_struck T_slate_wishes T_slate_wishKind T_slate_wishNames T_slate_wishA T_slate_wishB) fun r =>
    nm (x2_1 ||| r) fun x2_3 =>
    nm (x3 + 1) fun x3_1 =>
    fX1_hangingOn_L6 K T_here T_struck T_slate_guests T_slate_wishes T_slate_wishKind T_slate_wishNames T_slate_wishA T_slate_wishB n1 x2_3 x3_1)
def fX1_hangingOn (K : Nat) (x1 : Int32) (T_here : Int32) (T_struck : Int32) (T_slate_guests : Int32) (T_slate_wishes : Int32) (T_slate_wishKind : (Nat → Int32)) (T_slate_wishNames : (Nat → Int32)) (T_slate_wishA : (Nat → Int32)) (T_slate_wishB : (Nat → Int32)) : Option (Int32) :=
    nm (1 <<< (x1 &&& 31)) fun x2 =>
    bd1 (fX1_hangingOn_L6 K T_here T_struck T_slate_guests T_slate_wishes T_slate_wishKind T_slate_wishNames T_slate_wishA T_slate_wishB K x2 0) fun x2_2 =>
    some (x2_2 &&& ((1 <<< (x1 &&& 31)) ^^^ (-1)))
theorem mbX1_hangingOn_0 : Cond.fieldLink RX1 15 "BootsAtDawn$Night" "slate" "LBootsAtDawn$Slate;" ∈ wsX1_hangingOn := List.mem_of_getElem? (i := 1) rfl
theorem inX1_hangingOn_X1 : ∀ w ∈ u_ws RX1 TX1 4, w ∈ wsX1_hangingOn := fun _ h => (List.mem_cons_of_mem _ (List.mem_append_left _ (List.mem_append_right _ h)))
theorem inX1_hangingOn_X5 : ∀ w ∈ u_ws RX5 TX5 9, w ∈ wsX1_hangingOn := fun _ h => (List.mem_cons_of_mem _ (List.mem_append_right _ h))
abbrev rmX1_hangingOn : Room := { frames := 3, cells := 0, slots := 0, locals := 70 }
set_option maxHeartbeats 8000000 in
set_option maxRecDepth 100000 in
theorem kX1_hangingOn (l : Launch) (dC : Nat → ClassId) (dI : Nat → Nat → Nat) (cC cI cJ : ClassId) (sz : Nat) (K : Nat) (a_T a_T_slate a_T_floors a_T_slate_guestKind a_T_slate_guestFloor a_T_slate_wishKind a_T_slate_wishA a_T_slate_wishB a_T_slate_wishNames : Nat) (x1 : Int32) (T_here : Int32) (T_struck : Int32) (T_slate_guests : Int32) (T_slate_wishes : Int32) (T_slate_start : Int32) (T_slate_wishKind : (Nat → Int32)) (T_slate_wishNames : (Nat → Int32)) (T_slate_wishA : (Nat → Int32)) (T_slate_wishB : (Nat → Int32)) (R : Int32) (hr : fX1_hangingOn K x1 T_here T_struck T_slate_guests T_slate_wishes T_slate_wishKind T_slate_wishNames T_slate_wishA T_slate_wishB = some R) : Met l yX1_hangingOn wsX1_hangingOn rmX1_hangingOn (va_Pc ([.ref a_T, .int x1] : List Value) (PcW (dC, dI) (tysA cC cI cJ) sz [(a_T, .inr (1, [.ref a_T_slate, .ref a_T_floors, .int T_here, .int T_struck])), (a_T_slate, .inr (5, [.ref a_T_slate_guestKind, .ref a_T_slate_guestFloor, .ref a_T_slate_wishKind, .ref a_T_slate_wishA, .ref a_T_slate_wishB, .ref a_T_slate_wishNames, .int T_slate_guests, .int T_slate_wishes, .int T_slate_start])), (a_T_slate_wishKind, .inl (cI, 9, .inl T_slate_wishKind)), (a_T_slate_wishNames, .inl (cI, 9, .inl T_slate_wishNames)), (a_T_slate_wishA, .inl (cI, 9, .inl T_slate_wishA)), (a_T_slate_wishB, .inl (cI, 9, .inl T_slate_wishB))])) (va_Qi (fun r (_ : Unit) => r = R) (fun _ => BW (dC, dI) (tysA cC cI cJ) (va_A [(a_T, .inr (1, [.ref a_T_slate, .ref a_T_floors, .int T_here, .int T_struck])), (a_T_slate, .inr (5, [.ref a_T_slate_guestKind, .ref a_T_slate_guestFloor, .ref a_T_slate_wishKind, .ref a_T_slate_wishA, .ref a_T_slate_wishB, .ref a_T_slate_wishNames, .int T_slate_guests, .int T_slate_wishes, .int T_slate_start])), (a_T_slate_wishKind, .inl (cI, 9, .inl T_slate_wishKind)), (a_T_slate_wishNames, .inl (cI, 9, .inl T_slate_wishNames)), (a_T_slate_wishA, .inl (cI, 9, .inl T_slate_wishA)), (a_T_slate_wishB, .inl (cI, 9, .inl T_slate_wishB))] sz) [(a_T, .inr (1, [.ref a_T_slate, .ref a_T_floors, .int T_here, .int T_struck])), (a_T_slate, .inr (5, [.ref a_T_slate_guestKind, .ref a_T_slate_guestFloor, .ref a_T_slate_wishKind, .ref a_T_slate_wishA, .ref a_T_slate_wishB, .ref a_T_slate_wishNames, .int T_slate_guests, .int T_slate_wishes, .int T_slate_start])), (a_T_slate_wishKind, .inl (cI, 9, .inl T_slate_wishKind)), (a_T_slate_wishNames, .inl (cI, 9, .inl T_slate_wishNames)), (a_T_slate_wishA, .inl (cI, 9, .inl T_slate_wishA)), (a_T_slate_wishB, .inl (cI, 9, .inl T_slate_wishB))]) (va_A [(a_T, .inr (1, [.ref a_T_slate, .ref a_T_floors, .int T_here, .int T_struck])), (a_T_slate, .inr (5, [.ref a_T_slate_guestKind, .ref a_T_slate_guestFloor, .ref a_T_slate_wishKind, .ref a_T_slate_wishA, .ref a_T_slate_wishB, .ref a_T_slate_wishNames, .int T_slate_guests, .int T_slate_wishes, .int T_slate_start])), (a_T_slate_wishKind, .inl (cI, 9, .inl T_slate_wishKind)), (a_T_slate_wishNames, .inl (cI, 9, .inl T_slate_wishNames)), (a_T_slate_wishA, .inl (cI, 9, .inl T_slate_wishA)), (a_T_slate_wishB, .inl (cI, 9, .inl T_slate_wishB))] sz)) 0 0 (va_A [(a_T, .inr (1, [.ref a_T_slate, .ref a_T_floors, .int T_here, .int T_struck])), (a_T_slate, .inr (5, [.ref a_T_slate_guestKind, .ref a_T_slate_guestFloor, .ref a_T_slate_wishKind, .ref a_T_slate_wishA, .ref a_T_slate_wishB, .ref a_T_slate_wishNames, .int T_slate_guests, .int T_slate_wishes, .int T_slate_start])), (a_T_slate_wishKind, .inl (cI, 9, .inl T_slate_wishKind)), (a_T_slate_wishNames, .inl (cI, 9, .inl T_slate_wishNames)), (a_T_slate_wishA, .inl (cI, 9, .inl T_slate_wishA)), (a_T_slate_wishB, .inl (cI, 9, .inl T_slate_wishB))] sz) := by
  refine Met.ofW (cc := cX1_hangingOn) (maxL := 4) (ret := (some .int)) (by decide) rfl ?_
  intro p e s m args below meth c s₁ B hml hv
  obtain ⟨rfl, hsz, hP, hK, hD0, hN⟩ := hv
  have hx := B.exec
  have hb := B.bytes
  have hrt := B.returns
  have hts := atoms_spec (ws := wsX1_hangingOn) B.pre
  have hown : s.vm.findClass RX1 = some m.cls := findClass_of_methodNamed B.named
  have hlocks := B.notSynchronized
  subst hsz
  have hD := hD0.self (sz := s.heap.size)
  generalize hAe : va_A [(a_T, .inr (1, [.ref a_T_slate, .ref a_T_floors, .int T_here, .int T_struck])), (a_T_slate, .inr (5, [.ref a_T_slate_guestKind, .ref a_T_slate_guestFloor, .ref a_T_slate_wishKind, .ref a_T_slate_wishA, .ref a_T_slate_wishB, .ref a_T_slate_wishNames, .int T_slate_guests, .int T_slate_wishes, .int T_slate_start])), (a_T_slate_wishKind, .inl (cI, 9, .inl T_slate_wishKind)), (a_T_slate_wishNames, .inl (cI, 9, .inl T_slate_wishNames)), (a_T_slate_wishA, .inl (cI, 9, .inl T_slate_wishA)), (a_T_slate_wishB, .inl (cI, 9, .inl T_slate_wishB))] s.heap.size = A at hD ⊢
  have hA : ∀ q : Nat, s.heap.size ≤ q → A q := fun q h => by rw [← hAe]; exact Or.inr h
  have hS : va_S A s.heap s.heap [] := va_S.rf
  have hl := lv_entry ([.ref a_T, .int x1] : List Value) (n := 4) (Nat.le_of_ble_eq_true rfl)
  rw [lg_entry_eq]
  generalize (lg_sl ([.ref a_T, .int x1] : List Value) ++ List.replicate (4 - (lg_sl ([.ref a_T, .int x1] : List Value)).length) Slot.unset).toArray = ls at hl ⊢
  replace hl : lv_has ls 4 [(0, .ref a_T), (1, .int x1)] := hl
  obtain ⟨Q, hQ⟩ : ∃ Q, Q = MQ below (va_Qi (fun r (_ : Unit) => r = R) (fun _ => BW (dC, dI) (tysA cC cI cJ) A [(a_T, .inr (1, [.ref a_T_slate, .ref a_T_floors, .int T_here, .int T_struck])), (a_T_slate, .inr (5, [.ref a_T_slate_guestKind, .ref a_T_slate_guestFloor, .ref a_T_slate_wishKind, .ref a_T_slate_wishA, .ref a_T_slate_wishB, .ref a_T_slate_wishNames, .int T_slate_guests, .int T_slate_wishes, .int T_slate_start])), (a_T_slate_wishKind, .inl (cI, 9, .inl T_slate_wishKind)), (a_T_slate_wishNames, .inl (cI, 9, .inl T_slate_wishNames)), (a_T_slate_wishA, .inl (cI, 9, .inl T_slate_wishA)), (a_T_slate_wishB, .inl (cI, 9, .inl T_slate_wishB))]) A) ([.ref a_T, .int x1] : List Value).toArray s 0 0 A := ⟨_, rfl⟩
  rw [← hQ]
  suffices hE : WG p l e rmX1_hangingOn s m ([.ref a_T, .int x1] : List Value).toArray below meth c 0 0 Q (dC, dI) A 0 4 [(a_T, .inr (1, [.ref a_T_slate, .ref a_T_floors, .int T_here, .int T_struck])), (a_T_slate, .inr (5, [.ref a_T_slate_guestKind, .ref a_T_slate_guestFloor, .ref a_T_slate_wishKind, .ref a_T_slate_wishA, .ref a_T_slate_wishB, .ref a_T_slate_wishNames, .int T_slate_guests, .int T_slate_wishes, .int T_slate_start])), (a_T_slate_wishKind, .inl (cI, 9, .inl T_slate_wishKind)), (a_T_slate_wishNames, .inl (cI, 9, .inl T_slate_wishNames)), (a_T_slate_wishA, .inl (cI, 9, .inl T_slate_wishA)), (a_T_slate_wishB, .inl (cI, 9, .inl T_slate_wishB))] [(0, .ref a_T), (1, .int x1)] [] from hE _ _ _ hP hD hS hl
  clear hP hD hS hl hD0 hAe
  intro H locs ls hP hD hS hl
  unfold fX1_hangingOn at hr
  refine lv_iconst (v := 1) hx hb dX1_hangingOn_0 (by decide) ?_
  refine lv_iload_n hx hb dX1_hangingOn_1 rfl (lv_at hl 1 rfl) ?_
  refine lv_ishl hx hb dX1_hangingOn_2 ?_
  obtain ⟨x2, e1, hr⟩ := nm_el hr
  refine lv_nmi e1 ?_
  refine lv_istore_n (lv' := [(2, .int x2), (0, .ref a_T), (1, .int x1)]) hx hb dX1_hangingOn_3 rfl hl (by decide) rfl (fun ls hl => ?_)
  refine lv_iconst (v := 0) hx hb dX1_hangingOn_4 (by decide) ?_
  refine lv_istore_n (lv' := [(3, .int 0), (2, .int x2), (0, .ref a_T), (1, .int x1)]) hx hb dX1_hangingOn_5 rfl hl (by decide) rfl (fun ls hl => ?_)
  have hL1 : ∀ (n1 : Nat) (x2_1 : Int32) (x3 : Int32) (x2_2 : Int32), fX1_hangingOn_L6 K T_here T_struck T_slate_guests T_slate_wishes T_slate_wishKind T_slate_wishNames T_slate_wishA T_slate_wishB n1 x2_1 x3 = some x2_2 → WG p l e rmX1_hangingOn s m ([.ref a_T, .int x1] : List Value).toArray below meth c 0 0 Q (dC, dI) A 31 4 [(a_T, .inr (1, [.ref a_T_slate, .ref a_T_floors, .int T_here, .int T_struck])), (a_T_slate, .inr (5, [.ref a_T_slate_guestKind, .ref a_T_slate_guestFloor, .ref a_T_slate_wishKind, .ref a_T_slate_wishA, .ref a_T_slate_wishB, .ref a_T_slate_wishNames, .int T_slate_guests, .int T_slate_wishes, .int T_slate_start])), (a_T_slate_wishKind, .inl (cI, 9, .inl T_slate_wishKind)), (a_T_slate_wishNames, .inl (cI, 9, .inl T_slate_wishNames)), (a_T_slate_wishA, .inl (cI, 9, .inl T_slate_wishA)), (a_T_slate_wishB, .inl (cI, 9, .inl T_slate_wishB))] [(1, .int x1), (2, .int x2_2)] [] → WG p l e rmX1_hangingOn s m ([.ref a_T, .int x1] : List Value).toArray below meth c 0 0 Q (dC, dI) A 6 4 [(a_T, .inr (1, [.ref a_T_slate, .ref a_T_floors, .int T_here, .int T_struck])), (a_T_slate, .inr (5, [.ref a_T_slate_guestKind, .ref a_T_slate_guestFloor, .ref a_T_slate_wishKind, .ref a_T_slate_wishA, .ref a_T_slate_wishB, .ref a_T_slate_wishNames, .int T_slate_guests, .int T_slate_wishes, .int T_slate_start])), (a_T_slate_wishKind, .inl (cI, 9, .inl T_slate_wishKind)), (a_T_slate_wishNames, .inl (cI, 9, .inl T_slate_wishNames)), (a_T_slate_wishA, .inl (cI, 9, .inl T_slate_wishA)), (a_T_slate_wishB, .inl (cI, 9, .inl T_slate_wishB))] [(0, .ref a_T), (1, .int x1), (2, .int x2_1), (3, .int x3)] [] := by
    intro n1
    induction n1 with
    | zero =>
      intro x2_1 x3 x2_2 hr
      rw [fX1_hangingOn_L6] at hr
      cases hr
    | succ n1 ih6 =>
      intro x2_1 x3 x2_2 hr hX1 H locs ls hP hD hS hl
      rw [fX1_hangingOn_L6] at hr
      refine lv_iload_n hx hb dX1_hangingOn_6 rfl (lv_at hl 3 rfl) ?_
      refine lv_aload_n hx hb dX1_hangingOn_7 rfl (lv_at hl 0 rfl) ?_
      refine va_get (D := (dC, dI)) (ci := 1) (v := .ref a_T_slate) (C := RX1) (T := TX1) (N := 4) hx hb hts inX1_hangingOn_X1 hown hK hP 0 rfl rfl 0 (by decide) (hts _ mbX1_hangingOn_0) (fun _ h9 => h9) rfl dX1_hangingOn_8 ?_
      refine va_getN (D := (dC, dI)) (ci := 5) (v := .int T_slate_guests) (C := RX5) (T := TX5) (N := 9) hx hb hts inX1_hangingOn_X5 hown hK hP 1 rfl rfl 6 (by decide) (nk_use hN nw_15) (fun _ h9 => h9) rfl dX1_hangingOn_11 ?_
      refine lv_icmp_ge (tgt := 31) hx hb dX1_hangingOn_14 (by decide) (fun c1 => ?_) (fun c1 => ?_)
      · replace hr := it_t hr c1
        have he := Option.some.inj hr
        cases he
        exact hX1 H locs ls hP hD hS (lv_sub hl [1, 2] rfl)
      · replace hr := it_f hr c1
        refine lv_iload_n hx hb dX1_hangingOn_17 rfl (lv_at hl 2 rfl) ?_
        refine lv_aload_n hx hb dX1_hangingOn_18 rfl (lv_at hl 0 rfl) ?_
        refine lv_iload_n hx hb dX1_hangingOn_19 rfl (lv_at hl 2 rfl) ?_
        obtain ⟨r, hc1, hr⟩ := bd1_some hr
        refine call_i (D := (dC, dI)) (tys := tysA cC cI cJ) (wc := [(a_T, .inr (1, [.ref a_T_slate, .ref a_T_floors, .int T_here, .int T_struck])), (a_T_slate, .inr (5, [.ref a_T_slate_guestKind, .ref a_T_slate_guestFloor, .ref a_T_slate_wishKind, .ref a_T_slate_wishA, .ref a_T_slate_wishB, .ref a_T_slate_wishNames, .int T_slate_guests, .int T_slate_wishes, .int T_slate_start])), (a_T_slate_wishKind, .inl (cI, 9, .inl T_slate_wishKind)), (a_T_slate_wishNames, .inl (cI, 9, .inl T_slate_wishNames)), (a_T_slate_wishA, .inl (cI, 9, .inl T_slate_wishA)), (a_T_slate_wishB, .inl (cI, 9, .inl T_slate_wishB))]) (wr := []) (w1 := [(a_T, .inr (1, [.ref a_T_slate, .ref a_T_floors, .int T_here, .int T_struck])), (a_T_slate, .inr (5, [.ref a_T_slate_guestKind, .ref a_T_slate_guestFloor, .ref a_T_slate_wishKind, .ref a_T_slate_wishA, .ref a_T_slate_wishB, .ref a_T_slate_wishNames, .int T_slate_guests, .int T_slate_wishes, .int T_slate_start])), (a_T_slate_wishKind, .inl (cI, 9, .inl T_slate_wishKind)), (a_T_slate_wishNames, .inl (cI, 9, .inl T_slate_wishNames)), (a_T_slate_wishA, .inl (cI, 9, .inl T_slate_wishA)), (a_T_slate_wishB, .inl (cI, 9, .inl T_slate_wishB))]) (wn := [(a_T, .inr (1, [.ref a_T_slate, .ref a_T_floors, .int T_here, .int T_struck])), (a_T_slate, .inr (5, [.ref a_T_slate_guestKind, .ref a_T_slate_guestFloor, .ref a_T_slate_wishKind, .ref a_T_slate_wishA, .ref a_T_slate_wishB, .ref a_T_slate_wishNames, .int T_slate_guests, .int T_slate_wishes, .int T_slate_start])), (a_T_slate_wishKind, .inl (cI, 9, .inl T_slate_wishKind)), (a_T_slate_wishNames, .inl (cI, 9, .inl T_slate_wishNames)), (a_T_slate_wishA, .inl (cI, 9, .inl T_slate_wishA)), (a_T_slate_wishB, .inl (cI, 9, .inl T_slate_wishB))]) (r0 := r) hP hD hS hA [0, 1, 2, 3, 4, 5] [] [0, 1, 2, 3, 4, 5] rfl rfl (by decide +kernel) (by decide +kernel) rfl (by decide +kernel) (va_runV (As := [.int x2_1]) (rest := [.int x2_1]) ⟨hx, hb, hml, hown, hts⟩ (kX1_rightBehind l dC dI cC cI cJ H.size K a_T a_T_slate a_T_floors a_T_slate_guestKind a_T_slate_guestFloor a_T_slate_wishKind a_T_slate_wishA a_T_slate_wishB a_T_slate_wishNames x2_1 T_here T_struck T_slate_guests T_slate_wishes T_slate_start T_slate_wishKind T_slate_wishNames T_slate_wishA T_slate_wishB r hc1) (cwV 1 hts gX1_hangingOn_X1_rightBehind rfl rfl rfl (by decide +kernel) ⟨Nat.le_of_ble_eq_true rfl, Nat.le_of_ble_eq_true rfl⟩) ⟨fbW, va_recv hK hP (ci := 1) (q0 := 0) rfl rfl, preW hP hD hK hN [0, 1, 2, 3, 4, 5] rfl (by decide +kernel)⟩ rfl rfl hl.1 rfl (lv_room (Nat.le_of_ble_eq_true rfl)) dX1_hangingOn_20 ⟨Nat.zero_le _, Nat.zero_le _⟩) (fun H locs hP hD hS => ?_)
        refine lv_ior hx hb dX1_hangingOn_23 ?_
        obtain ⟨x2_3, e2, hr⟩ := nm_el hr
        refine lv_nmi e2 ?_
        refine lv_istore_n (lv' := [(2, .int x2_3), (0, .ref a_T), (1, .int x1), (3, .int x3)]) hx hb dX1_hangingOn_24 rfl hl (by decide) rfl (fun ls hl => ?_)
        obtain ⟨x3_1, e3, hr⟩ := nm_el hr
        refine lv_iinc (v := x3_1) (lv' := [(3, .int x3_1), (2, .int x2_3), (0, .ref a_T), (1, .int x1)]) hx hb dX1_hangingOn_25 hl (k := 3) rfl e3.symm (by decide) rfl (fun ls hl => ?_)
        refine lv_goto (tgt := 6) hx hb dX1_hangingOn_28 (by decide) ?_
        exact ih6 _ _ _ hr hX1 H locs ls hP hD hS (lv_sub hl [2, 3, 1, 0] rfl)
  obtain ⟨x2_2, hE, hr⟩ := bd1_some hr
  refine hL1 K x2 0 x2_2 hE ?_ H locs ls hP hD hS (lv_sub hl [2, 3, 1, 0] rfl)
  intro H locs ls hP hD hS hl
  refine lv_iload_n hx hb dX1_hangingOn_31 rfl (lv_at hl 1 rfl) ?_
  refine lv_iconst (v := 1) hx hb dX1_hangingOn_32 (by decide) ?_
  refine lv_iload_n hx hb dX1_hangingOn_33 rfl (lv_at hl 0 rfl) ?_
  refine lv_ishl hx hb dX1_hangingOn_34 ?_
  refine lv_iconst (v := (-1)) hx hb dX1_hangingOn_35 (by decide) ?_
  refine lv_ixor hx hb dX1_hangingOn_36 ?_
  refine lv_iand hx hb dX1_hangingOn_37 ?_
  have he := Option.some.inj hr
  subst he
  subst hQ
  exact ret_i hx hb hrt hK hP hD hS hlocks dX1_hangingOn_38
def fX1_endOfBoots_L7 (K : Nat) (x1 : Int32) (T_floors : (Nat → Int32)) (T_slate_guestKind : (Nat → Int32)) : Nat → Int32 → Int32 → Int32 → Option (Int32 × Int32)
  | 0, _, _, _ => none
  | n1 + 1, x2, x3, x4 =>
    if (nI 6) ≤ (x4 : Int32) then (
    some (x2, x3))
    else (
    bd1 (fX8_has K x1 x4) fun r =>
    bd2 (
    if (r : Int32) = 0 then (
    some (x2, x3))
    else (
    gd (¬ ((x4 : Int32) < 0 ∨ 6 ≤ x4.toNatClampNeg)) (
    nm (if x2 < (T_floors x4.toNatClampNeg) then (T_floors x4.toNatClampNeg) else x2) fun x2_2 =>
    bd1 (fX1_wakingOf K x4 T_slate_guestKind T_floors) fun r_1 =>
    nm (x3 + r_1) fun x3_2 =>
    some (x2_2, x3_2)))) fun x2_3 x3_3 =>
    nm (x4 + 1) fun x4_1 =>
    fX1_endOfBoots_L7 K x1 T_floors T_slate_guestKind n1 x2_3 x3_3 x4_1)
def fX1_endOfBoots (K : Nat) (x1 : Int32) (T_floors : (Nat → Int32)) (T_slate_start : Int32) (T_slate_guestKind : (Nat → Int32)) : Option (Int32) :=
    bd2 (fX1_endOfBoots_L7 K x1 T_floors T_slate_guestKind K 0 0 0) fun x2_1 x3_1 =>
    some ((T_slate_start + x2_1) + x3_1)
theorem mbX1_endOfBoots_0 : Cond.fieldLink RX1 9 "BootsAtDawn$Night" "floors" "[I" ∈ wsX1_endOfBoots := List.mem_of_getElem? (i := 1) rfl
theorem inX1_endOfBoots_X1 : ∀ w ∈ u_ws RX1 TX1 4, w ∈ wsX1_endOfBoots := fun _ h => (List.mem_cons_of_mem _ (List.mem_append_left _ (List.mem_append_right _ h)))
theorem mbX1_endOfBoots_2 : Cond.initialized RX8 ∈ wsX1_endOfBoots := List.mem_of_getElem? (i := 8) rfl
theorem mbX1_endOfBoots_3 : Cond.static yX8_has ∈ wsX1_endOfBoots := List.mem_of_getElem? (i := 7) rfl
theorem mbX1_endOfBoots_4 : Cond.methodLink RX1 72 Lib.Math.max.name ∈ wsX1_endOfBoots := List.mem_of_getElem? (i := 2) rfl
theorem mbX1_endOfBoots_5 : Cond.static Lib.Math.max.name ∈ wsX1_endOfBoots := List.mem_of_getElem? (i := 3) rfl
theorem mbX1_endOfBoots_6 : Cond.initialized "java/lang/Math" ∈ wsX1_endOfBoots := List.mem_of_getElem? (i := 4) rfl
theorem mbX1_endOfBoots_7 : Cond.code Lib.Math.max.name Lib.Math.max.code 2 (some .int) ∈ wsX1_endOfBoots := List.mem_of_getElem? (i := 5) rfl
theorem mbX1_endOfBoots_8 : Cond.fieldLink RX1 15 "BootsAtDawn$Night" "slate" "LBootsAtDawn$Slate;" ∈ wsX1_endOfBoots := List.mem_of_getElem? (i := 6) rfl
theorem inX1_endOfBoots_X5 : ∀ w ∈ u_ws RX5 TX5 9, w ∈ wsX1_endOfBoots := fun _ h => (List.mem_cons_of_mem _ (List.mem_append_right _ h))
abbrev rmX1_endOfBoots : Room := { frames := 2, cells := 0, slots := 0, locals := 42 }
set_option maxHeartbeats 8000000 in
set_option maxRecDepth 100000 in
theorem kX1_endOfBoots (l : Launch) (dC : Nat → ClassId) (dI : Nat → Nat → Nat) (cC cI cJ : ClassId) (sz : Nat) (K : Nat) (a_T a_T_slate a_T_floors a_T_slate_guestKind a_T_slate_guestFloor a_T_slate_wishKind a_T_slate_wishA a_T_slate_wishB a_T_slate_wishNames : Nat) (x1 : Int32) (T_here : Int32) (T_struck : Int32) (T_floors : (Nat → Int32)) (T_slate_guests : Int32) (T_slate_wishes : Int32) (T_slate_start : Int32) (T_slate_guestKind : (Nat → Int32)) (R : Int32) (hr : fX1_endOfBoots K x1 T_floors T_slate_start T_slate_guestKind = some R) : Met l yX1_endOfBoots wsX1_endOfBoots rmX1_endOfBoots (va_Pc ([.ref a_T, .int x1] : List Value) (PcW (dC, dI) (tysA cC cI cJ) sz [(a_T, .inr (1, [.ref a_T_slate, .ref a_T_floors, .int T_here, .int T_struck])), (a_T_floors, .inl (cI, 6, .inl T_floors)), (a_T_slate, .inr (5, [.ref a_T_slate_guestKind, .ref a_T_slate_guestFloor, .ref a_T_slate_wishKind, .ref a_T_slate_wishA, .ref a_T_slate_wishB, .ref a_T_slate_wishNames, .int T_slate_guests, .int T_slate_wishes, .int T_slate_start])), (a_T_slate_guestKind, .inl (cI, 6, .inl T_slate_guestKind))])) (va_Qi (fun r (_ : Unit) => r = R) (fun _ => BW (dC, dI) (tysA cC cI cJ) (va_A [(a_T, .inr (1, [.ref a_T_slate, .ref a_T_floors, .int T_here, .int T_struck])), (a_T_floors, .inl (cI, 6, .inl T_floors)), (a_T_slate, .inr (5, [.ref a_T_slate_guestKind, .ref a_T_slate_guestFloor, .ref a_T_slate_wishKind, .ref a_T_slate_wishA, .ref a_T_slate_wishB, .ref a_T_slate_wishNames, .int T_slate_guests, .int T_slate_wishes, .int T_slate_start])), (a_T_slate_guestKind, .inl (cI, 6, .inl T_slate_guestKind))] sz) [(a_T, .inr (1, [.ref a_T_slate, .ref a_T_floors, .int T_here, .int T_struck])), (a_T_floors, .inl (cI, 6, .inl T_floors)), (a_T_slate, .inr (5, [.ref a_T_slate_guestKind, .ref a_T_slate_guestFloor, .ref a_T_slate_wishKind, .ref a_T_slate_wishA, .ref a_T_slate_wishB, .ref a_T_slate_wishNames, .int T_slate_guests, .int T_slate_wishes, .int T_slate_start])), (a_T_slate_guestKind, .inl (cI, 6, .inl T_slate_guestKind))]) (va_A [(a_T, .inr (1, [.ref a_T_slate, .ref a_T_floors, .int T_here, .int T_struck])), (a_T_floors, .inl (cI, 6, .inl T_floors)), (a_T_slate, .inr (5, [.ref a_T_slate_guestKind, .ref a_T_slate_guestFloor, .ref a_T_slate_wishKind, .ref a_T_slate_wishA, .ref a_T_slate_wishB, .ref a_T_slate_wishNames, .int T_slate_guests, .int T_slate_wishes, .int T_slate_start])), (a_T_slate_guestKind, .inl (cI, 6, .inl T_slate_guestKind))] sz)) 0 0 (va_A [(a_T, .inr (1, [.ref a_T_slate, .ref a_T_floors, .int T_here, .int T_struck])), (a_T_floors, .inl (cI, 6, .inl T_floors)), (a_T_slate, .inr (5, [.ref a_T_slate_guestKind, .ref a_T_slate_guestFloor, .ref a_T_slate_wishKind, .ref a_T_slate_wishA, .ref a_T_slate_wishB, .ref a_T_slate_wishNames, .int T_slate_guests, .int T_slate_wishes, .int T_slate_start])), (a_T_slate_guestKind, .inl (cI, 6, .inl T_slate_guestKind))] sz) := by
  refine Met.ofW (cc := cX1_endOfBoots) (maxL := 5) (ret := (some .int)) (by decide) rfl ?_
  intro p e s m args below meth c s₁ B hml hv
  obtain ⟨rfl, hsz, hP, hK, hD0, hN⟩ := hv
  have hx := B.exec
  have hb := B.bytes
  have hrt := B.returns
  have hts := atoms_spec (ws := wsX1_endOfBoots) B.pre
  have hown : s.vm.findClass RX1 = some m.cls := findClass_of_methodNamed B.named
  have hlocks := B.notSynchronized
  subst hsz
  have hD := hD0.self (sz := s.heap.size)
  generalize hAe : va_A [(a_T, .inr (1, [.ref a_T_slate, .ref a_T_floors, .int T_here, .int T_struck])), (a_T_floors, .inl (cI, 6, .inl T_floors)), (a_T_slate, .inr (5, [.ref a_T_slate_guestKind, .ref a_T_slate_guestFloor, .ref a_T_slate_wishKind, .ref a_T_slate_wishA, .ref a_T_slate_wishB, .ref a_T_slate_wishNames, .int T_slate_guests, .int T_slate_wishes, .int T_slate_start])), (a_T_slate_guestKind, .inl (cI, 6, .inl T_slate_guestKind))] s.heap.size = A at hD ⊢
  have hA : ∀ q : Nat, s.heap.size ≤ q → A q := fun q h => by rw [← hAe]; exact Or.inr h
  have hS : va_S A s.heap s.heap [] := va_S.rf
  have hl := lv_entry ([.ref a_T, .int x1] : List Value) (n := 5) (Nat.le_of_ble_eq_true rfl)
  rw [lg_entry_eq]
  generalize (lg_sl ([.ref a_T, .int x1] : List Value) ++ List.replicate (5 - (lg_sl ([.ref a_T, .int x1] : List Value)).length) Slot.unset).toArray = ls at hl ⊢
  replace hl : lv_has ls 5 [(0, .ref a_T), (1, .int x1)] := hl
  obtain ⟨Q, hQ⟩ : ∃ Q, Q = MQ below (va_Qi (fun r (_ : Unit) => r = R) (fun _ => BW (dC, dI) (tysA cC cI cJ) A [(a_T, .inr (1, [.ref a_T_slate, .ref a_T_floors, .int T_here, .int T_struck])), (a_T_floors, .inl (cI, 6, .inl T_floors)), (a_T_slate, .inr (5, [.ref a_T_slate_guestKind, .ref a_T_slate_guestFloor, .ref a_T_slate_wishKind, .ref a_T_slate_wishA, .ref a_T_slate_wishB, .ref a_T_slate_wishNames, .int T_slate_guests, .int T_slate_wishes, .int T_slate_start])), (a_T_slate_guestKind, .inl (cI, 6, .inl T_slate_guestKind))]) A) ([.ref a_T, .int x1] : List Value).toArray s 0 0 A := ⟨_, rfl⟩
  rw [← hQ]
  suffices hE : WG p l e rmX1_endOfBoots s m ([.ref a_T, .int x1] : List Value).toArray below meth c 0 0 Q (dC, dI) A 0 5 [(a_T, .inr (1, [.ref a_T_slate, .ref a_T_floors, .int T_here, .int T_struck])), (a_T_floors, .inl (cI, 6, .inl T_floors)), (a_T_slate, .inr (5, [.ref a_T_slate_guestKind, .ref a_T_slate_guestFloor, .ref a_T_slate_wishKind, .ref a_T_slate_wishA, .ref a_T_slate_wishB, .ref a_T_slate_wishNames, .int T_slate_guests, .int T_slate_wishes, .int T_slate_start])), (a_T_slate_guestKind, .inl (cI, 6, .inl T_slate_guestKind))] [(0, .ref a_T), (1, .int x1)] [] from hE _ _ _ hP hD hS hl
  clear hP hD hS hl hD0 hAe
  intro H locs ls hP hD hS hl
  unfold fX1_endOfBoots at hr
  refine lv_iconst (v := 0) hx hb dX1_endOfBoots_0 (by decide) ?_
  refine lv_istore_n (lv' := [(2, .int 0), (0, .ref a_T), (1, .int x1)]) hx hb dX1_endOfBoots_1 rfl hl (by decide) rfl (fun ls hl => ?_)
  refine lv_iconst (v := 0) hx hb dX1_endOfBoots_2 (by decide) ?_
  refine lv_istore_n (lv' := [(3, .int 0), (2, .int 0), (0, .ref a_T), (1, .int x1)]) hx hb dX1_endOfBoots_3 rfl hl (by decide) rfl (fun ls hl => ?_)
  refine lv_iconst (v := 0) hx hb dX1_endOfBoots_4 (by decide) ?_
  refine lv_istore (lv' := [(4, .int 0), (3, .int 0), (2, .int 0), (0, .ref a_T), (1, .int x1)]) hx hb dX1_endOfBoots_5 hl (by decide) rfl (fun ls hl => ?_)
  have hL1 : ∀ (n1 : Nat) (x2 : Int32) (x3 : Int32) (x4 : Int32) (x2_1 : Int32) (x3_1 : Int32), fX1_endOfBoots_L7 K x1 T_floors T_slate_guestKind n1 x2 x3 x4 = some (x2_1, x3_1) → WG p l e rmX1_endOfBoots s m ([.ref a_T, .int x1] : List Value).toArray below meth c 0 0 Q (dC, dI) A 53 5 [(a_T, .inr (1, [.ref a_T_slate, .ref a_T_floors, .int T_here, .int T_struck])), (a_T_floors, .inl (cI, 6, .inl T_floors)), (a_T_slate, .inr (5, [.ref a_T_slate_guestKind, .ref a_T_slate_guestFloor, .ref a_T_slate_wishKind, .ref a_T_slate_wishA, .ref a_T_slate_wishB, .ref a_T_slate_wishNames, .int T_slate_guests, .int T_slate_wishes, .int T_slate_start])), (a_T_slate_guestKind, .inl (cI, 6, .inl T_slate_guestKind))] [(0, .ref a_T), (2, .int x2_1), (3, .int x3_1)] [] → WG p l e rmX1_endOfBoots s m ([.ref a_T, .int x1] : List Value).toArray below meth c 0 0 Q (dC, dI) A 7 5 [(a_T, .inr (1, [.ref a_T_slate, .ref a_T_floors, .int T_here, .int T_struck])), (a_T_floors, .inl (cI, 6, .inl T_floors)), (a_T_slate, .inr (5, [.ref a_T_slate_guestKind, .ref a_T_slate_guestFloor, .ref a_T_slate_wishKind, .ref a_T_slate_wishA, .ref a_T_slate_wishB, .ref a_T_slate_wishNames, .int T_slate_guests, .int T_slate_wishes, .int T_slate_start])), (a_T_slate_guestKind, .inl (cI, 6, .inl T_slate_guestKind))] [(0, .ref a_T), (1, .int x1), (2, .int x2), (3, .int x3), (4, .int x4)] [] := by
    intro n1
    induction n1 with
    | zero =>
      intro x2 x3 x4 x2_1 x3_1 hr
      rw [fX1_endOfBoots_L7] at hr
      cases hr
    | succ n1 ih7 =>
      intro x2 x3 x4 x2_1 x3_1 hr hX1 H locs ls hP hD hS hl
      rw [fX1_endOfBoots_L7] at hr
      refine lv_iload hx hb dX1_endOfBoots_7 (lv_at hl 4 rfl) ?_
      refine lv_aload_n hx hb dX1_endOfBoots_9 rfl (lv_at hl 0 rfl) ?_
      refine va_get (D := (dC, dI)) (ci := 1) (v := .ref a_T_floors) (C := RX1) (T := TX1) (N := 4) hx hb hts inX1_endOfBoots_X1 hown hK hP 0 rfl rfl 1 (by decide) (hts _ mbX1_endOfBoots_0) (fun _ h9 => h9) rfl dX1_endOfBoots_10 ?_
      refine va_alen (v := nI 6) hx hb hK hP 1 1 rfl rfl rfl dX1_endOfBoots_13 ?_
      refine lv_icmp_ge (tgt := 53) hx hb dX1_endOfBoots_14 (by decide) (fun c1 => ?_) (fun c1 => ?_)
      · replace hr := it_t hr c1
        have he := Option.some.inj hr
        cases he
        exact hX1 H locs ls hP hD hS (lv_sub hl [0, 2, 3] rfl)
      · replace hr := it_f hr c1
        refine lv_iload_n hx hb dX1_endOfBoots_17 rfl (lv_at hl 1 rfl) ?_
        refine lv_iload hx hb dX1_endOfBoots_18 (lv_at hl 4 rfl) ?_
        obtain ⟨r, hc1, hr⟩ := bd1_some hr
        refine call_i (D := (dC, dI)) (tys := tysA cC cI cJ) (wc := []) (wr := [(a_T, .inr (1, [.ref a_T_slate, .ref a_T_floors, .int T_here, .int T_struck])), (a_T_floors, .inl (cI, 6, .inl T_floors)), (a_T_slate, .inr (5, [.ref a_T_slate_guestKind, .ref a_T_slate_guestFloor, .ref a_T_slate_wishKind, .ref a_T_slate_wishA, .ref a_T_slate_wishB, .ref a_T_slate_wishNames, .int T_slate_guests, .int T_slate_wishes, .int T_slate_start])), (a_T_slate_guestKind, .inl (cI, 6, .inl T_slate_guestKind))]) (w1 := []) (wn := [(a_T, .inr (1, [.ref a_T_slate, .ref a_T_floors, .int T_here, .int T_struck])), (a_T_floors, .inl (cI, 6, .inl T_floors)), (a_T_slate, .inr (5, [.ref a_T_slate_guestKind, .ref a_T_slate_guestFloor, .ref a_T_slate_wishKind, .ref a_T_slate_wishA, .ref a_T_slate_wishB, .ref a_T_slate_wishNames, .int T_slate_guests, .int T_slate_wishes, .int T_slate_start])), (a_T_slate_guestKind, .inl (cI, 6, .inl T_slate_guestKind))]) (r0 := r) hP hD hS hA [] [0, 1, 2, 3] [0, 1, 2, 3] rfl rfl (by decide +kernel) (by decide +kernel) rfl (by decide +kernel) (va_runSN (host := "BootsAtDawn") (As := [.int x1, .int x4]) (rest := []) ⟨hx, hb, hml, hown, hts⟩ (kX8_has l dC dI cC cI cJ H.size K x1 x4 r hc1) ⟨va_cnB 2 hts gX1_endOfBoots_X8_has_n52 rfl rfl rfl (hN _ nw_72) (hts _ mbX1_endOfBoots_2) (by decide +kernel) ⟨Nat.le_of_ble_eq_true rfl, Nat.le_of_ble_eq_true rfl⟩, (hts _ mbX1_endOfBoots_3), trivial⟩ ⟨fbW, preW hP hD hK hN [] rfl (by decide +kernel)⟩ rfl rfl hl.1 rfl (lv_room (Nat.le_of_ble_eq_true rfl)) dX1_endOfBoots_20 ⟨Nat.zero_le _, Nat.zero_le _⟩) (fun H locs hP hD hS => ?_)
        obtain ⟨x2_3, x3_3, hj1, hr⟩ := bd2_some hr
        have hJ1 : WG p l e rmX1_endOfBoots s m ([.ref a_T, .int x1] : List Value).toArray below meth c 0 0 Q (dC, dI) A 47 5 [(a_T, .inr (1, [.ref a_T_slate, .ref a_T_floors, .int T_here, .int T_struck])), (a_T_floors, .inl (cI, 6, .inl T_floors)), (a_T_slate, .inr (5, [.ref a_T_slate_guestKind, .ref a_T_slate_guestFloor, .ref a_T_slate_wishKind, .ref a_T_slate_wishA, .ref a_T_slate_wishB, .ref a_T_slate_wishNames, .int T_slate_guests, .int T_slate_wishes, .int T_slate_start])), (a_T_slate_guestKind, .inl (cI, 6, .inl T_slate_guestKind))] [(0, .ref a_T), (1, .int x1), (2, .int x2_3), (3, .int x3_3), (4, .int x4)] [] := by
          intro H locs ls hP hD hS hl
          obtain ⟨x4_1, e3, hr⟩ := nm_el hr
          refine lv_iinc (v := x4_1) (lv' := [(4, .int x4_1), (0, .ref a_T), (1, .int x1), (2, .int x2_3), (3, .int x3_3)]) hx hb dX1_endOfBoots_47 hl (k := 4) rfl e3.symm (by decide) rfl (fun ls hl => ?_)
          refine lv_goto (tgt := 7) hx hb dX1_endOfBoots_50 (by decide) ?_
          exact ih7 _ _ _ _ _ hr hX1 H locs ls hP hD hS (lv_sub hl [1, 2, 3, 4, 0] rfl)
        replace hr := hj1
        refine lv_if_eq (tgt := 47) hx hb dX1_endOfBoots_23 (by decide) (fun c2 => ?_) (fun c2 => ?_)
        · replace hr := it_t hr c2
          cases hr
          exact hJ1 H locs ls hP hD hS (lv_sub hl [0, 1, 2, 3, 4] rfl)
        · replace hr := it_f hr c2
          refine lv_iload_n hx hb dX1_endOfBoots_26 rfl (lv_at hl 2 rfl) ?_
          refine lv_aload_n hx hb dX1_endOfBoots_27 rfl (lv_at hl 0 rfl) ?_
          refine va_get (D := (dC, dI)) (ci := 1) (v := .ref a_T_floors) (C := RX1) (T := TX1) (N := 4) hx hb hts inX1_endOfBoots_X1 hown hK hP 0 rfl rfl 1 (by decide) (hts _ mbX1_endOfBoots_0) (fun _ h9 => h9) rfl dX1_endOfBoots_28 ?_
          refine lv_iload hx hb dX1_endOfBoots_31 (lv_at hl 4 rfl) ?_
          obtain ⟨g1, hr⟩ := gd_some hr
          refine va_iald hx hb hK hP 1 1 rfl rfl g1 dX1_endOfBoots_33 ?_
          refine va_mmax hx hb (hml.trans hl.1.symm) hown (hts _ mbX1_endOfBoots_4) (hts _ mbX1_endOfBoots_5) (hts _ mbX1_endOfBoots_6) (hts _ mbX1_endOfBoots_7) (Nat.le_of_ble_eq_true rfl) (Nat.le_of_ble_eq_true rfl) (Nat.zero_le _) (Nat.zero_le _) dX1_endOfBoots_34 ?_
          obtain ⟨x2_2, e1, hr⟩ := nm_el hr
          refine lv_nmi e1 ?_
          refine lv_istore_n (lv' := [(2, .int x2_2), (0, .ref a_T), (1, .int x1), (3, .int x3), (4, .int x4)]) hx hb dX1_endOfBoots_37 rfl hl (by decide) rfl (fun ls hl => ?_)
          refine lv_iload_n hx hb dX1_endOfBoots_38 rfl (lv_at hl 3 rfl) ?_
          refine lv_aload_n hx hb dX1_endOfBoots_39 rfl (lv_at hl 1 rfl) ?_
          refine lv_iload hx hb dX1_endOfBoots_40 (lv_at hl 4 rfl) ?_
          obtain ⟨r_1, hc2, hr⟩ := bd1_some hr
          refine call_i (D := (dC, dI)) (tys := tysA cC cI cJ) (wc := [(a_T, .inr (1, [.ref a_T_slate, .ref a_T_floors, .int T_here, .int T_struck])), (a_T_slate, .inr (5, [.ref a_T_slate_guestKind, .ref a_T_slate_guestFloor, .ref a_T_slate_wishKind, .ref a_T_slate_wishA, .ref a_T_slate_wishB, .ref a_T_slate_wishNames, .int T_slate_guests, .int T_slate_wishes, .int T_slate_start])), (a_T_slate_guestKind, .inl (cI, 6, .inl T_slate_guestKind)), (a_T_floors, .inl (cI, 6, .inl T_floors))]) (wr := []) (w1 := [(a_T, .inr (1, [.ref a_T_slate, .ref a_T_floors, .int T_here, .int T_struck])), (a_T_slate, .inr (5, [.ref a_T_slate_guestKind, .ref a_T_slate_guestFloor, .ref a_T_slate_wishKind, .ref a_T_slate_wishA, .ref a_T_slate_wishB, .ref a_T_slate_wishNames, .int T_slate_guests, .int T_slate_wishes, .int T_slate_start])), (a_T_slate_guestKind, .inl (cI, 6, .inl T_slate_guestKind)), (a_T_floors, .inl (cI, 6, .inl T_floors))]) (wn := [(a_T, .inr (1, [.ref a_T_slate, .ref a_T_floors, .int T_here, .int T_struck])), (a_T_floors, .inl (cI, 6, .inl T_floors)), (a_T_slate, .inr (5, [.ref a_T_slate_guestKind, .ref a_T_slate_guestFloor, .ref a_T_slate_wishKind, .ref a_T_slate_wishA, .ref a_T_slate_wishB, .ref a_T_slate_wishNames, .int T_slate_guests, .int T_slate_wishes, .int T_slate_start])), (a_T_slate_guestKind, .inl (cI, 6, .inl T_slate_guestKind))]) (r0 := r_1) hP hD hS hA [0, 2, 3, 1] [] [0, 3, 1, 2] rfl rfl (by decide +kernel) (by decide +kernel) rfl (by decide +kernel) (va_runV (As := [.int x4]) (rest := [.int x3]) ⟨hx, hb, hml, hown, hts⟩ (kX1_wakingOf l dC dI cC cI cJ H.size K a_T a_T_slate a_T_floors a_T_slate_guestKind a_T_slate_guestFloor a_T_slate_wishKind a_T_slate_wishA a_T_slate_wishB a_T_slate_wishNames x4 T_here T_struck T_slate_guests T_slate_wishes T_slate_start T_slate_guestKind T_floors r_1 hc2) (cwV 1 hts gX1_endOfBoots_X1_wakingOf rfl rfl rfl (by decide +kernel) ⟨Nat.le_of_ble_eq_true rfl, Nat.le_of_ble_eq_true rfl⟩) ⟨fbW, va_recv hK hP (ci := 1) (q0 := 0) rfl rfl, preW hP hD hK hN [0, 2, 3, 1] rfl (by decide +kernel)⟩ rfl rfl hl.1 rfl (lv_room (Nat.le_of_ble_eq_true rfl)) dX1_endOfBoots_42 ⟨Nat.zero_le _, Nat.zero_le _⟩) (fun H locs hP hD hS => ?_)
          refine lv_iadd hx hb dX1_endOfBoots_45 ?_
          obtain ⟨x3_2, e2, hr⟩ := nm_el hr
          refine lv_nmi e2 ?_
          refine lv_istore_n (lv' := [(3, .int x3_2), (2, .int x2_2), (0, .ref a_T), (1, .int x1), (4, .int x4)]) hx hb dX1_endOfBoots_46 rfl hl (by decide) rfl (fun ls hl => ?_)
          cases hr
          exact hJ1 H locs ls hP hD hS (lv_sub hl [2, 3, 1, 0, 4] rfl)
  obtain ⟨x2_1, x3_1, hE, hr⟩ := bd2_some hr
  refine hL1 K 0 0 0 x2_1 x3_1 hE ?_ H locs ls hP hD hS (lv_sub hl [3, 4, 2, 1, 0] rfl)
  intro H locs ls hP hD hS hl
  refine lv_aload_n hx hb dX1_endOfBoots_53 rfl (lv_at hl 0 rfl) ?_
  refine va_get (D := (dC, dI)) (ci := 1) (v := .ref a_T_slate) (C := RX1) (T := TX1) (N := 4) hx hb hts inX1_endOfBoots_X1 hown hK hP 0 rfl rfl 0 (by decide) (hts _ mbX1_endOfBoots_8) (fun _ h9 => h9) rfl dX1_endOfBoots_54 ?_
  refine va_getN (D := (dC, dI)) (ci := 5) (v := .int T_slate_start) (C := RX5) (T := TX5) (N := 9) hx hb hts inX1_endOfBoots_X5 hown hK hP 2 rfl rfl 8 (by decide) (nk_use hN nw_22) (fun _ h9 => h9) rfl dX1_endOfBoots_57 ?_
  refine lv_iload_n hx hb dX1_endOfBoots_60 rfl (lv_at hl 1 rfl) ?_
  refine lv_iadd hx hb dX1_endOfBoots_61 ?_
  refine lv_iload_n hx hb dX1_endOfBoots_62 rfl (lv_at hl 2 rfl) ?_
  refine lv_iadd hx hb dX1_endOfBoots_63 ?_
  have he := Option.some.inj hr
  subst he
  subst hQ
  exact ret_i hx hb hrt hK hP hD hS hlocks dX1_endOfBoots_64
def fX1_laterEnd (K : Nat) (x1 : Int32) (T_here : Int32) (T_floors : (Nat → Int32)) (T_slate_start : Int32) (T_slate_guestKind : (Nat → Int32)) : Option (Int32) :=
    bd1 (fX1_endOfBoots K x1 T_floors T_slate_start T_slate_guestKind) fun r =>
    bd1 (fX1_endOfBoots K (T_here &&& (x1 ^^^ (-1))) T_floors T_slate_start T_slate_guestKind) fun r_1 =>
    some (if r < r_1 then r_1 else r)
theorem mbX1_laterEnd_0 : Cond.fieldLink RX1 32 "BootsAtDawn$Night" "here" "I" ∈ wsX1_laterEnd := List.mem_of_getElem? (i := 1) rfl
theorem inX1_laterEnd_X1 : ∀ w ∈ u_ws RX1 TX1 4, w ∈ wsX1_laterEnd := fun _ h => (List.mem_cons_of_mem _ (List.mem_append_left _ (List.mem_append_right _ h)))
theorem mbX1_laterEnd_2 : Cond.methodLink RX1 72 Lib.Math.max.name ∈ wsX1_laterEnd := List.mem_of_getElem? (i := 2) rfl
theorem mbX1_laterEnd_3 : Cond.static Lib.Math.max.name ∈ wsX1_laterEnd := List.mem_of_getElem? (i := 3) rfl
theorem mbX1_laterEnd_4 : Cond.initialized "java/lang/Math" ∈ wsX1_laterEnd := List.mem_of_getElem? (i := 4) rfl
theorem mbX1_laterEnd_5 : Cond.code Lib.Math.max.name Lib.Math.max.code 2 (some .int) ∈ wsX1_laterEnd := List.mem_of_getElem? (i := 5) rfl
abbrev rmX1_laterEnd : Room := { frames := 3, cells := 0, slots := 0, locals := 66 }
set_option maxHeartbeats 8000000 in
set_option maxRecDepth 100000 in
theorem kX1_laterEnd (l : Launch) (dC : Nat → ClassId) (dI : Nat → Nat → Nat) (cC cI cJ : ClassId) (sz : Nat) (K : Nat) (a_T a_T_slate a_T_floors a_T_slate_guestKind a_T_slate_guestFloor a_T_slate_wishKind a_T_slate_wishA a_T_slate_wishB a_T_slate_wishNames : Nat) (x1 : Int32) (T_here : Int32) (T_struck : Int32) (T_floors : (Nat → Int32)) (T_slate_guests : Int32) (T_slate_wishes : Int32) (T_slate_start : Int32) (T_slate_guestKind : (Nat → Int32)) (R : Int32) (hr : fX1_laterEnd K x1 T_here T_floors T_slate_start T_slate_guestKind = some R) : Met l yX1_laterEnd wsX1_laterEnd rmX1_laterEnd (va_Pc ([.ref a_T, .int x1] : List Value) (PcW (dC, dI) (tysA cC cI cJ) sz [(a_T, .inr (1, [.ref a_T_slate, .ref a_T_floors, .int T_here, .int T_struck])), (a_T_floors, .inl (cI, 6, .inl T_floors)), (a_T_slate, .inr (5, [.ref a_T_slate_guestKind, .ref a_T_slate_guestFloor, .ref a_T_slate_wishKind, .ref a_T_slate_wishA, .ref a_T_slate_wishB, .ref a_T_slate_wishNames, .int T_slate_guests, .int T_slate_wishes, .int T_slate_start])), (a_T_slate_guestKind, .inl (cI, 6, .inl T_slate_guestKind))])) (va_Qi (fun r (_ : Unit) => r = R) (fun _ => BW (dC, dI) (tysA cC cI cJ) (va_A [(a_T, .inr (1, [.ref a_T_slate, .ref a_T_floors, .int T_here, .int T_struck])), (a_T_floors, .inl (cI, 6, .inl T_floors)), (a_T_slate, .inr (5, [.ref a_T_slate_guestKind, .ref a_T_slate_guestFloor, .ref a_T_slate_wishKind, .ref a_T_slate_wishA, .ref a_T_slate_wishB, .ref a_T_slate_wishNames, .int T_slate_guests, .int T_slate_wishes, .int T_slate_start])), (a_T_slate_guestKind, .inl (cI, 6, .inl T_slate_guestKind))] sz) [(a_T, .inr (1, [.ref a_T_slate, .ref a_T_floors, .int T_here, .int T_struck])), (a_T_floors, .inl (cI, 6, .inl T_floors)), (a_T_slate, .inr (5, [.ref a_T_slate_guestKind, .ref a_T_slate_guestFloor, .ref a_T_slate_wishKind, .ref a_T_slate_wishA, .ref a_T_slate_wishB, .ref a_T_slate_wishNames, .int T_slate_guests, .int T_slate_wishes, .int T_slate_start])), (a_T_slate_guestKind, .inl (cI, 6, .inl T_slate_guestKind))]) (va_A [(a_T, .inr (1, [.ref a_T_slate, .ref a_T_floors, .int T_here, .int T_struck])), (a_T_floors, .inl (cI, 6, .inl T_floors)), (a_T_slate, .inr (5, [.ref a_T_slate_guestKind, .ref a_T_slate_guestFloor, .ref a_T_slate_wishKind, .ref a_T_slate_wishA, .ref a_T_slate_wishB, .ref a_T_slate_wishNames, .int T_slate_guests, .int T_slate_wishes, .int T_slate_start])), (a_T_slate_guestKind, .inl (cI, 6, .inl T_slate_guestKind))] sz)) 0 0 (va_A [(a_T, .inr (1, [.ref a_T_slate, .ref a_T_floors, .int T_here, .int T_struck])), (a_T_floors, .inl (cI, 6, .inl T_floors)), (a_T_slate, .inr (5, [.ref a_T_slate_guestKind, .ref a_T_slate_guestFloor, .ref a_T_slate_wishKind, .ref a_T_slate_wishA, .ref a_T_slate_wishB, .ref a_T_slate_wishNames, .int T_slate_guests, .int T_slate_wishes, .int T_slate_start])), (a_T_slate_guestKind, .inl (cI, 6, .inl T_slate_guestKind))] sz) := by
  refine Met.ofW (cc := cX1_laterEnd) (maxL := 2) (ret := (some .int)) (by decide) rfl ?_
  intro p e s m args below meth c s₁ B hml hv
  obtain ⟨rfl, hsz, hP, hK, hD0, hN⟩ := hv
  have hx := B.exec
  have hb := B.bytes
  have hrt := B.returns
  have hts := atoms_spec (ws := wsX1_laterEnd) B.pre
  have hown : s.vm.findClass RX1 = some m.cls := findClass_of_methodNamed B.named
  have hlocks := B.notSynchronized
  subst hsz
  have hD := hD0.self (sz := s.heap.size)
  generalize hAe : va_A [(a_T, .inr (1, [.ref a_T_slate, .ref a_T_floors, .int T_here, .int T_struck])), (a_T_floors, .inl (cI, 6, .inl T_floors)), (a_T_slate, .inr (5, [.ref a_T_slate_guestKind, .ref a_T_slate_guestFloor, .ref a_T_slate_wishKind, .ref a_T_slate_wishA, .ref a_T_slate_wishB, .ref a_T_slate_wishNames, .int T_slate_guests, .int T_slate_wishes, .int T_slate_start])), (a_T_slate_guestKind, .inl (cI, 6, .inl T_slate_guestKind))] s.heap.size = A at hD ⊢
  have hA : ∀ q : Nat, s.heap.size ≤ q → A q := fun q h => by rw [← hAe]; exact Or.inr h
  have hS : va_S A s.heap s.heap [] := va_S.rf
  have hl := lv_entry ([.ref a_T, .int x1] : List Value) (n := 2) (Nat.le_of_ble_eq_true rfl)
  rw [lg_entry_eq]
  generalize (lg_sl ([.ref a_T, .int x1] : List Value) ++ List.replicate (2 - (lg_sl ([.ref a_T, .int x1] : List Value)).length) Slot.unset).toArray = ls at hl ⊢
  replace hl : lv_has ls 2 [(0, .ref a_T), (1, .int x1)] := hl
  obtain ⟨Q, hQ⟩ : ∃ Q, Q = MQ below (va_Qi (fun r (_ : Unit) => r = R) (fun _ => BW (dC, dI) (tysA cC cI cJ) A [(a_T, .inr (1, [.ref a_T_slate, .ref a_T_floors, .int T_here, .int T_struck])), (a_T_floors, .inl (cI, 6, .inl T_floors)), (a_T_slate, .inr (5, [.ref a_T_slate_guestKind, .ref a_T_slate_guestFloor, .ref a_T_slate_wishKind, .ref a_T_slate_wishA, .ref a_T_slate_wishB, .ref a_T_slate_wishNames, .int T_slate_guests, .int T_slate_wishes, .int T_slate_start])), (a_T_slate_guestKind, .inl (cI, 6, .inl T_slate_guestKind))]) A) ([.ref a_T, .int x1] : List Value).toArray s 0 0 A := ⟨_, rfl⟩
  rw [← hQ]
  suffices hE : WG p l e rmX1_laterEnd s m ([.ref a_T, .int x1] : List Value).toArray below meth c 0 0 Q (dC, dI) A 0 2 [(a_T, .inr (1, [.ref a_T_slate, .ref a_T_floors, .int T_here, .int T_struck])), (a_T_floors, .inl (cI, 6, .inl T_floors)), (a_T_slate, .inr (5, [.ref a_T_slate_guestKind, .ref a_T_slate_guestFloor, .ref a_T_slate_wishKind, .ref a_T_slate_wishA, .ref a_T_slate_wishB, .ref a_T_slate_wishNames, .int T_slate_guests, .int T_slate_wishes, .int T_slate_start])), (a_T_slate_guestKind, .inl (cI, 6, .inl T_slate_guestKind))] [(0, .ref a_T), (1, .int x1)] [] from hE _ _ _ hP hD hS hl
  clear hP hD hS hl hD0 hAe
  intro H locs ls hP hD hS hl
  unfold fX1_laterEnd at hr
  refine lv_aload_n hx hb dX1_laterEnd_0 rfl (lv_at hl 0 rfl) ?_
  refine lv_iload_n hx hb dX1_laterEnd_1 rfl (lv_at hl 1 rfl) ?_
  obtain ⟨r, hc1, hr⟩ := bd1_some hr
  refine call_i (D := (dC, dI)) (tys := tysA cC cI cJ) (wc := [(a_T, .inr (1, [.ref a_T_slate, .ref a_T_floors, .int T_here, .int T_struck])), (a_T_floors, .inl (cI, 6, .inl T_floors)), (a_T_slate, .inr (5, [.ref a_T_slate_guestKind, .ref a_T_slate_guestFloor, .ref a_T_slate_wishKind, .ref a_T_slate_wishA, .ref a_T_slate_wishB, .ref a_T_slate_wishNames, .int T_slate_guests, .int T_slate_wishes, .int T_slate_start])), (a_T_slate_guestKind, .inl (cI, 6, .inl T_slate_guestKind))]) (wr := []) (w1 := [(a_T, .inr (1, [.ref a_T_slate, .ref a_T_floors, .int T_here, .int T_struck])), (a_T_floors, .inl (cI, 6, .inl T_floors)), (a_T_slate, .inr (5, [.ref a_T_slate_guestKind, .ref a_T_slate_guestFloor, .ref a_T_slate_wishKind, .ref a_T_slate_wishA, .ref a_T_slate_wishB, .ref a_T_slate_wishNames, .int T_slate_guests, .int T_slate_wishes, .int T_slate_start])), (a_T_slate_guestKind, .inl (cI, 6, .inl T_slate_guestKind))]) (wn := [(a_T, .inr (1, [.ref a_T_slate, .ref a_T_floors, .int T_here, .int T_struck])), (a_T_floors, .inl (cI, 6, .inl T_floors)), (a_T_slate, .inr (5, [.ref a_T_slate_guestKind, .ref a_T_slate_guestFloor, .ref a_T_slate_wishKind, .ref a_T_slate_wishA, .ref a_T_slate_wishB, .ref a_T_slate_wishNames, .int T_slate_guests, .int T_slate_wishes, .int T_slate_start])), (a_T_slate_guestKind, .inl (cI, 6, .inl T_slate_guestKind))]) (r0 := r) hP hD hS hA [0, 1, 2, 3] [] [0, 1, 2, 3] rfl rfl (by decide +kernel) (by decide +kernel) rfl (by decide +kernel) (va_runV (As := [.int x1]) (rest := []) ⟨hx, hb, hml, hown, hts⟩ (kX1_endOfBoots l dC dI cC cI cJ H.size K a_T a_T_slate a_T_floors a_T_slate_guestKind a_T_slate_guestFloor a_T_slate_wishKind a_T_slate_wishA a_T_slate_wishB a_T_slate_wishNames x1 T_here T_struck T_floors T_slate_guests T_slate_wishes T_slate_start T_slate_guestKind r hc1) (cwV 1 hts gX1_laterEnd_X1_endOfBoots rfl rfl rfl (by decide +kernel) ⟨Nat.le_of_ble_eq_true rfl, Nat.le_of_ble_eq_true rfl⟩) ⟨fbW, va_recv hK hP (ci := 1) (q0 := 0) rfl rfl, preW hP hD hK hN [0, 1, 2, 3] rfl (by decide +kernel)⟩ rfl rfl hl.1 rfl (lv_room (Nat.le_of_ble_eq_true rfl)) dX1_laterEnd_2 ⟨Nat.zero_le _, Nat.zero_le _⟩) (fun H locs hP hD hS => ?_)
  refine lv_aload_n hx hb dX1_laterEnd_5 rfl (lv_at hl 0 rfl) ?_
  refine lv_aload_n hx hb dX1_laterEnd_6 rfl (lv_at hl 0 rfl) ?_
  refine va_get (D := (dC, dI)) (ci := 1) (v := .int T_here) (C := RX1) (T := TX1) (N := 4) hx hb hts inX1_laterEnd_X1 hown hK hP 0 rfl rfl 2 (by decide) (hts _ mbX1_laterEnd_0) (fun _ h9 => h9) rfl dX1_laterEnd_7 ?_
  refine lv_iload_n hx hb dX1_laterEnd_10 rfl (lv_at hl 1 rfl) ?_
  refine lv_iconst (v := (-1)) hx hb dX1_laterEnd_11 (by decide) ?_
  refine lv_ixor hx hb dX1_laterEnd_12 ?_
  refine lv_iand hx hb dX1_laterEnd_13 ?_
  obtain ⟨r_1, hc2, hr⟩ := bd1_some hr
  refine call_i (D := (dC, dI)) (tys := tysA cC cI cJ) (wc := [(a_T, .inr (1, [.ref a_T_slate, .ref a_T_floors, .int T_here, .int T_struck])), (a_T_floors, .inl (cI, 6, .inl T_floors)), (a_T_slate, .inr (5, [.ref a_T_slate_guestKind, .ref a_T_slate_guestFloor, .ref a_T_slate_wishKind, .ref a_T_slate_wishA, .ref a_T_slate_wishB, .ref a_T_slate_wishNames, .int T_slate_guests, .int T_slate_wishes, .int T_slate_start])), (a_T_slate_guestKind, .inl (cI, 6, .inl T_slate_guestKind))]) (wr := []) (w1 := [(a_T, .inr (1, [.ref a_T_slate, .ref a_T_floors, .int T_here, .int T_struck])), (a_T_floors, .inl (cI, 6, .inl T_floors)), (a_T_slate, .inr (5, [.ref a_T_slate_guestKind, .ref a_T_slate_guestFloor, .ref a_T_slate_wishKind, .ref a_T_slate_wishA, .ref a_T_slate_wishB, .ref a_T_slate_wishNames, .int T_slate_guests, .int T_slate_wishes, .int T_slate_start])), (a_T_slate_guestKind, .inl (cI, 6, .inl T_slate_guestKind))]) (wn := [(a_T, .inr (1, [.ref a_T_slate, .ref a_T_floors, .int T_here, .int T_struck])), (a_T_floors, .inl (cI, 6, .inl T_floors)), (a_T_slate, .inr (5, [.ref a_T_slate_guestKind, .ref a_T_slate_guestFloor, .ref a_T_slate_wishKind, .ref a_T_slate_wishA, .ref a_T_slate_wishB, .ref a_T_slate_wishNames, .int T_slate_guests, .int T_slate_wishes, .int T_slate_start])), (a_T_slate_guestKind, .inl (cI, 6, .inl T_slate_guestKind))]) (r0 := r_1) hP hD hS hA [0, 1, 2, 3] [] [0, 1, 2, 3] rfl rfl (by decide +kernel) (by decide +kernel) rfl (by decide +kernel) (va_runV (As := [.int (T_here &&& (x1 ^^^ (-1)))]) (rest := [.int r]) ⟨hx, hb, hml, hown, hts⟩ (kX1_endOfBoots l dC dI cC cI cJ H.size K a_T a_T_slate a_T_floors a_T_slate_guestKind a_T_slate_guestFloor a_T_slate_wishKind a_T_slate_wishA a_T_slate_wishB a_T_slate_wishNames (T_here &&& (x1 ^^^ (-1))) T_here T_struck T_floors T_slate_guests T_slate_wishes T_slate_start T_slate_guestKind r_1 hc2) (cwV 1 hts gX1_laterEnd_X1_endOfBoots rfl rfl rfl (by decide +kernel) ⟨Nat.le_of_ble_eq_true rfl, Nat.le_of_ble_eq_true rfl⟩) ⟨fbW, va_recv hK hP (ci := 1) (q0 := 0) rfl rfl, preW hP hD hK hN [0, 1, 2, 3] rfl (by decide +kernel)⟩ rfl rfl hl.1 rfl (lv_room (Nat.le_of_ble_eq_true rfl)) dX1_laterEnd_14 ⟨Nat.zero_le _, Nat.zero_le _⟩) (fun H locs hP hD hS => ?_)
  refine va_mmax hx hb (hml.trans hl.1.symm) hown (hts _ mbX1_laterEnd_2) (hts _ mbX1_laterEnd_3) (hts _ mbX1_laterEnd_4) (hts _ mbX1_laterEnd_5) (Nat.le_of_ble_eq_true rfl) (Nat.le_of_ble_eq_true rfl) (Nat.zero_le _) (Nat.zero_le _) dX1_laterEnd_17 ?_
  have he := Option.some.inj hr
  subst he
  subst hQ
  exact ret_i hx hb hrt hK hP hD hS hlocks dX1_laterEnd_20
def fX2_isFull (K : Nat) (n_T_nights : Nat) (T_size : Int32) : Option (Int32) :=
    if (T_size : Int32) < (nI n_T_nights) then (
    some 0)
    else (
    some 1)
theorem mbX2_isFull_0 : Cond.fieldLink RX2 13 "BootsAtDawn$Pile" "size" "I" ∈ wsX2_isFull := List.mem_of_getElem? (i := 1) rfl
theorem inX2_isFull_X2 : ∀ w ∈ u_ws RX2 TX2 2, w ∈ wsX2_isFull := fun _ h => (List.mem_cons_of_mem _ (List.mem_append_right _ h))
theorem mbX2_isFull_2 : Cond.fieldLink RX2 7 "BootsAtDawn$Pile" "nights" "[J" ∈ wsX2_isFull := List.mem_of_getElem? (i := 2) rfl
abbrev rmX2_isFull : Room := { frames := 0, cells := 0, slots := 0, locals := 0 }
set_option maxHeartbeats 8000000 in
set_option maxRecDepth 100000 in
theorem kX2_isFull (l : Launch) (dC : Nat → ClassId) (dI : Nat → Nat → Nat) (cC cI cJ : ClassId) (sz : Nat) (K : Nat) (a_T a_T_nights : Nat) (n_T_nights : Nat) (T_size : Int32) (T_nights : (Nat → Int64)) (R : Int32) (hr : fX2_isFull K n_T_nights T_size = some R) : Met l yX2_isFull wsX2_isFull rmX2_isFull (va_Pc ([.ref a_T] : List Value) (PcW (dC, dI) (tysA cC cI cJ) sz [(a_T, .inr (2, [.ref a_T_nights, .int T_size])), (a_T_nights, .inl (cJ, n_T_nights, .inr (.inl T_nights)))])) (va_Qi (fun r (_ : Unit) => r = R) (fun _ => BW (dC, dI) (tysA cC cI cJ) (va_A [(a_T, .inr (2, [.ref a_T_nights, .int T_size])), (a_T_nights, .inl (cJ, n_T_nights, .inr (.inl T_nights)))] sz) [(a_T, .inr (2, [.ref a_T_nights, .int T_size])), (a_T_nights, .inl (cJ, n_T_nights, .inr (.inl T_nights)))]) (va_A [(a_T, .inr (2, [.ref a_T_nights, .int T_size])), (a_T_nights, .inl (cJ, n_T_nights, .inr (.inl T_nights)))] sz)) 0 0 (va_A [(a_T, .inr (2, [.ref a_T_nights, .int T_size])), (a_T_nights, .inl (cJ, n_T_nights, .inr (.inl T_nights)))] sz) := by
  refine Met.ofW (cc := cX2_isFull) (maxL := 1) (ret := (some .boolean)) (by decide) rfl ?_
  intro p e s m args below meth c s₁ B hml hv
  obtain ⟨rfl, hsz, hP, hK, hD0, hN⟩ := hv
  have hx := B.exec
  have hb := B.bytes
  have hrt := B.returns
  have hts := atoms_spec (ws := wsX2_isFull) B.pre
  have hown : s.vm.findClass RX2 = some m.cls := findClass_of_methodNamed B.named
  have hlocks := B.notSynchronized
  subst hsz
  have hD := hD0.self (sz := s.heap.size)
  generalize hAe : va_A [(a_T, .inr (2, [.ref a_T_nights, .int T_size])), (a_T_nights, .inl (cJ, n_T_nights, .inr (.inl T_nights)))] s.heap.size = A at hD ⊢
  have hA : ∀ q : Nat, s.heap.size ≤ q → A q := fun q h => by rw [← hAe]; exact Or.inr h
  have hS : va_S A s.heap s.heap [] := va_S.rf
  have hl := lv_entry ([.ref a_T] : List Value) (n := 1) (Nat.le_of_ble_eq_true rfl)
  rw [lg_entry_eq]
  generalize (lg_sl ([.ref a_T] : List Value) ++ List.replicate (1 - (lg_sl ([.ref a_T] : List Value)).length) Slot.unset).toArray = ls at hl ⊢
  replace hl : lv_has ls 1 [(0, .ref a_T)] := hl
  obtain ⟨Q, hQ⟩ : ∃ Q, Q = MQ below (va_Qi (fun r (_ : Unit) => r = R) (fun _ => BW (dC, dI) (tysA cC cI cJ) A [(a_T, .inr (2, [.ref a_T_nights, .int T_size])), (a_T_nights, .inl (cJ, n_T_nights, .inr (.inl T_nights)))]) A) ([.ref a_T] : List Value).toArray s 0 0 A := ⟨_, rfl⟩
  rw [← hQ]
  suffices hE : WG p l e rmX2_isFull s m ([.ref a_T] : List Value).toArray below meth c 0 0 Q (dC, dI) A 0 1 [(a_T, .inr (2, [.ref a_T_nights, .int T_size])), (a_T_nights, .inl (cJ, n_T_nights, .inr (.inl T_nights)))] [(0, .ref a_T)] [] from hE _ _ _ hP hD hS hl
  clear hP hD hS hl hD0 hAe
  intro H locs ls hP hD hS hl
  unfold fX2_isFull at hr
  refine lv_aload_n hx hb dX2_isFull_0 rfl (lv_at hl 0 rfl) ?_
  refine va_get (D := (dC, dI)) (ci := 2) (v := .int T_size) (C := RX2) (T := TX2) (N := 2) hx hb hts inX2_isFull_X2 hown hK hP 0 rfl rfl 1 (by decide) (hts _ mbX2_isFull_0) (fun _ h9 => h9) rfl dX2_isFull_1 ?_
  refine lv_aload_n hx hb dX2_isFull_4 rfl (lv_at hl 0 rfl) ?_
  refine va_get (D := (dC, dI)) (ci := 2) (v := .ref a_T_nights) (C := RX2) (T := TX2) (N := 2) hx hb hts inX2_isFull_X2 hown hK hP 0 rfl rfl 0 (by decide) (hts _ mbX2_isFull_2) (fun _ h9 => h9) rfl dX2_isFull_5 ?_
  refine va_alen (v := nI n_T_nights) hx hb hK hP 1 2 rfl rfl rfl dX2_isFull_8 ?_
  refine lv_icmp_lt (tgt := 16) hx hb dX2_isFull_9 (by decide) (fun c1 => ?_) (fun c1 => ?_)
  · replace hr := it_t hr c1
    refine lv_iconst (v := 0) hx hb dX2_isFull_16 (by decide) ?_
    have he := Option.some.inj hr
    subst he
    subst hQ
    exact ret_z hx hb hrt (show narrow .boolean (.int 0) = .int 0 from rfl) hK hP hD hS hlocks dX2_isFull_17
  · replace hr := it_f hr c1
    refine lv_iconst (v := 1) hx hb dX2_isFull_12 (by decide) ?_
    refine lv_goto (tgt := 17) hx hb dX2_isFull_13 (by decide) ?_
    have he := Option.some.inj hr
    subst he
    subst hQ
    exact ret_z hx hb hrt (show narrow .boolean (.int 1) = .int 1 from rfl) hK hP hD hS hlocks dX2_isFull_17
def fX2_dropOldest_L2 (K : Nat) (n_T_nights : Nat) : Nat → Int32 → (Nat → Int64) → Option ((Nat → Int64))
  | 0, _, _ => none
  | n1 + 1, x1, T_nights_1 =>
    if (nI n_T_nights) ≤ (x1 : Int32) then (
    some T_nights_1)
    else (
    gd (¬ ((x1 : Int32) < 0 ∨ n_T_nights ≤ x1.toNatClampNeg)) (
    gd (¬ (((x1 - 1) : Int32) < 0 ∨ n_T_nights ≤ (x1 - 1).toNatClampNeg)) (
    nm (vp_updL T_nights_1 (x1 - 1).toNatClampNeg (T_nights_1 x1.toNatClampNeg)) fun T_nights_3 =>
    nm (x1 + 1) fun x1_1 =>
    fX2_dropOldest_L2 K n_T_nights n1 x1_1 T_nights_3)))
def fX2_dropOldest (K : Nat) (n_T_nights : Nat) (T_size : Int32) (T_nights : (Nat → Int64)) : Option (Int32 × (Nat → Int64)) :=
    bd1 (fX2_dropOldest_L2 K n_T_nights K 1 T_nights) fun T_nights_2 =>
    nm ((nI n_T_nights) - 1) fun T_size_1 =>
    some (T_size_1, T_nights_2)
theorem mbX2_dropOldest_0 : Cond.fieldLink RX2 7 "BootsAtDawn$Pile" "nights" "[J" ∈ wsX2_dropOldest := List.mem_of_getElem? (i := 1) rfl
theorem inX2_dropOldest_X2 : ∀ w ∈ u_ws RX2 TX2 2, w ∈ wsX2_dropOldest := fun _ h => (List.mem_cons_of_mem _ (List.mem_append_right _ h))
theorem mbX2_dropOldest_2 : Cond.fieldLink RX2 13 "BootsAtDawn$Pile" "size" "I" ∈ wsX2_dropOldest := List.mem_of_getElem? (i := 2) rfl
abbrev rmX2_dropOldest : Room := { frames := 0, cells := 0, slots := 0, locals := 0 }
set_option maxHeartbeats 8000000 in
set_option maxRecDepth 100000 in
theorem kX2_dropOldest (l : Launch) (dC : Nat → ClassId) (dI : Nat → Nat → Nat) (cC cI cJ : ClassId) (sz : Nat) (K : Nat) (a_T a_T_nights : Nat) (n_T_nights : Nat) (T_size : Int32) (T_nights : (Nat → Int64)) (R : Int32 × (Nat → Int64)) (hr : fX2_dropOldest K n_T_nights T_size T_nights = some R) : Met l yX2_dropOldest wsX2_dropOldest rmX2_dropOldest (va_Pc ([.ref a_T] : List Value) (PcW (dC, dI) (tysA cC cI cJ) sz [(a_T, .inr (2, [.ref a_T_nights, .int T_size])), (a_T_nights, .inl (cJ, n_T_nights, .inr (.inl T_nights)))])) (va_Qv (fun (_ : Unit) => True) (fun _ => BW (dC, dI) (tysA cC cI cJ) (va_A [(a_T, .inr (2, [.ref a_T_nights, .int T_size])), (a_T_nights, .inl (cJ, n_T_nights, .inr (.inl T_nights)))] sz) [(a_T, .inr (2, [.ref a_T_nights, .int R.1])), (a_T_nights, .inl (cJ, n_T_nights, .inr (.inl R.2)))]) (va_A [(a_T, .inr (2, [.ref a_T_nights, .int T_size])), (a_T_nights, .inl (cJ, n_T_nights, .inr (.inl T_nights)))] sz)) 0 0 (va_A [(a_T, .inr (2, [.ref a_T_nights, .int T_size])), (a_T_nights, .inl (cJ, n_T_nights, .inr (.inl T_nights)))] sz) := by
  refine Met.ofW (cc := cX2_dropOldest) (maxL := 2) (ret := none) (by decide) rfl ?_
  intro p e s m args below meth c s₁ B hml hv
  obtain ⟨rfl, hsz, hP, hK, hD0, hN⟩ := hv
  have hx := B.exec
  have hb := B.bytes
  have hrt := B.returns
  have hts := atoms_spec (ws := wsX2_dropOldest) B.pre
  have hown : s.vm.findClass RX2 = some m.cls := findClass_of_methodNamed B.named
  have hlocks := B.notSynchronized
  subst hsz
  have hD := hD0.self (sz := s.heap.size)
  generalize hAe : va_A [(a_T, .inr (2, [.ref a_T_nights, .int T_size])), (a_T_nights, .inl (cJ, n_T_nights, .inr (.inl T_nights)))] s.heap.size = A at hD ⊢
  have hA : ∀ q : Nat, s.heap.size ≤ q → A q := fun q h => by rw [← hAe]; exact Or.inr h
  have hS : va_S A s.heap s.heap [] := va_S.rf
  have hl := lv_entry ([.ref a_T] : List Value) (n := 2) (Nat.le_of_ble_eq_true rfl)
  rw [lg_entry_eq]
  generalize (lg_sl ([.ref a_T] : List Value) ++ List.replicate (2 - (lg_sl ([.ref a_T] : List Value)).length) Slot.unset).toArray = ls at hl ⊢
  replace hl : lv_has ls 2 [(0, .ref a_T)] := hl
  obtain ⟨Q, hQ⟩ : ∃ Q, Q = MQ below (va_Qv (fun (_ : Unit) => True) (fun _ => BW (dC, dI) (tysA cC cI cJ) A [(a_T, .inr (2, [.ref a_T_nights, .int R.1])), (a_T_nights, .inl (cJ, n_T_nights, .inr (.inl R.2)))]) A) ([.ref a_T] : List Value).toArray s 0 0 A := ⟨_, rfl⟩
  rw [← hQ]
  suffices hE : WG p l e rmX2_dropOldest s m ([.ref a_T] : List Value).toArray below meth c 0 0 Q (dC, dI) A 0 2 [(a_T, .inr (2, [.ref a_T_nights, .int T_size])), (a_T_nights, .inl (cJ, n_T_nights, .inr (.inl T_nights)))] [(0, .ref a_T)] [] from hE _ _ _ hP hD hS hl
  clear hP hD hS hl hD0 hAe
  intro H locs ls hP hD hS hl
  unfold fX2_dropOldest at hr
  refine lv_iconst (v := 1) hx hb dX2_dropOldest_0 (by decide) ?_
  refine lv_istore_n (lv' := [(1, .int 1), (0, .ref a_T)]) hx hb dX2_dropOldest_1 rfl hl (by decide) rfl (fun ls hl => ?_)
  have hL1 : ∀ (n1 : Nat) (x1 : Int32) (T_nights_1 : (Nat → Int64)) (T_nights_2 : (Nat → Int64)), fX2_dropOldest_L2 K n_T_nights n1 x1 T_nights_1 = some T_nights_2 → WG p l e rmX2_dropOldest s m ([.ref a_T] : List Value).toArray below meth c 0 0 Q (dC, dI) A 31 2 [(a_T, .inr (2, [.ref a_T_nights, .int T_size])), (a_T_nights, .inl (cJ, n_T_nights, .inr (.inl T_nights_2)))] [(0, .ref a_T)] [] → WG p l e rmX2_dropOldest s m ([.ref a_T] : List Value).toArray below meth c 0 0 Q (dC, dI) A 2 2 [(a_T, .inr (2, [.ref a_T_nights, .int T_size])), (a_T_nights, .inl (cJ, n_T_nights, .inr (.inl T_nights_1)))] [(0, .ref a_T), (1, .int x1)] [] := by
    intro n1
    induction n1 with
    | zero =>
      intro x1 T_nights_1 T_nights_2 hr
      rw [fX2_dropOldest_L2] at hr
      cases hr
    | succ n1 ih2 =>
      intro x1 T_nights_1 T_nights_2 hr hX1 H locs ls hP hD hS hl
      rw [fX2_dropOldest_L2] at hr
      refine lv_iload_n hx hb dX2_dropOldest_2 rfl (lv_at hl 1 rfl) ?_
      refine lv_aload_n hx hb dX2_dropOldest_3 rfl (lv_at hl 0 rfl) ?_
      refine va_get (D := (dC, dI)) (ci := 2) (v := .ref a_T_nights) (C := RX2) (T := TX2) (N := 2) hx hb hts inX2_dropOldest_X2 hown hK hP 0 rfl rfl 0 (by decide) (hts _ mbX2_dropOldest_0) (fun _ h9 => h9) rfl dX2_dropOldest_4 ?_
      refine va_alen (v := nI n_T_nights) hx hb hK hP 1 2 rfl rfl rfl dX2_dropOldest_7 ?_
      refine lv_icmp_ge (tgt := 31) hx hb dX2_dropOldest_8 (by decide) (fun c1 => ?_) (fun c1 => ?_)
      · replace hr := it_t hr c1
        have he := Option.some.inj hr
        cases he
        exact hX1 H locs ls hP hD hS (lv_sub hl [0] rfl)
      · replace hr := it_f hr c1
        refine lv_aload_n hx hb dX2_dropOldest_11 rfl (lv_at hl 0 rfl) ?_
        refine va_get (D := (dC, dI)) (ci := 2) (v := .ref a_T_nights) (C := RX2) (T := TX2) (N := 2) hx hb hts inX2_dropOldest_X2 hown hK hP 0 rfl rfl 0 (by decide) (hts _ mbX2_dropOldest_0) (fun _ h9 => h9) rfl dX2_dropOldest_12 ?_
        refine lv_iload_n hx hb dX2_dropOldest_15 rfl (lv_at hl 1 rfl) ?_
        refine lv_iconst (v := 1) hx hb dX2_dropOldest_16 (by decide) ?_
        refine lv_isub hx hb dX2_dropOldest_17 ?_
        refine lv_aload_n hx hb dX2_dropOldest_18 rfl (lv_at hl 0 rfl) ?_
        refine va_get (D := (dC, dI)) (ci := 2) (v := .ref a_T_nights) (C := RX2) (T := TX2) (N := 2) hx hb hts inX2_dropOldest_X2 hown hK hP 0 rfl rfl 0 (by decide) (hts _ mbX2_dropOldest_0) (fun _ h9 => h9) rfl dX2_dropOldest_19 ?_
        refine lv_iload_n hx hb dX2_dropOldest_22 rfl (lv_at hl 1 rfl) ?_
        obtain ⟨g1, hr⟩ := gd_some hr
        refine va_lald hx hb hK hP 1 2 rfl rfl g1 dX2_dropOldest_23 ?_
        obtain ⟨g2, hr⟩ := gd_some hr
        obtain ⟨T_nights_3, e1, hr⟩ := nm_el hr
        refine va_last hx hb hK hP hD hS 1 2 rfl rfl g2 dX2_dropOldest_24 (fun H locs hP hD hS => ?_)
        rw [← e1] at hP hD
        replace hP : va_P (dC, dI) vwCl [(a_T, .inr (2, [.ref a_T_nights, .int T_size])), (a_T_nights, .inl (cJ, n_T_nights, .inr (.inl T_nights_3)))] H := hP
        replace hD : va_D A [(a_T, .inr (2, [.ref a_T_nights, .int T_size])), (a_T_nights, .inl (cJ, n_T_nights, .inr (.inl T_nights_3)))] := hD
        obtain ⟨x1_1, e2, hr⟩ := nm_el hr
        refine lv_iinc (v := x1_1) (lv' := [(1, .int x1_1), (0, .ref a_T)]) hx hb dX2_dropOldest_25 hl (k := 1) rfl e2.symm (by decide) rfl (fun ls hl => ?_)
        refine lv_goto (tgt := 2) hx hb dX2_dropOldest_28 (by decide) ?_
        exact ih2 _ _ _ hr hX1 H locs ls hP hD hS (lv_sub hl [1, 0] rfl)
  obtain ⟨T_nights_2, hE, hr⟩ := bd1_some hr
  refine hL1 K 1 T_nights T_nights_2 hE ?_ H locs ls hP hD hS (lv_sub hl [1, 0] rfl)
  intro H locs ls hP hD hS hl
  refine lv_aload_n hx hb dX2_dropOldest_31 rfl (lv_at hl 0 rfl) ?_
  refine lv_aload_n hx hb dX2_dropOldest_32 rfl (lv_at hl 0 rfl) ?_
  refine va_get (D := (dC, dI)) (ci := 2) (v := .ref a_T_nights) (C := RX2) (T := TX2) (N := 2) hx hb hts inX2_dropOldest_X2 hown hK hP 0 rfl rfl 0 (by decide) (hts _ mbX2_dropOldest_0) (fun _ h9 => h9) rfl dX2_dropOldest_33 ?_
  refine va_alen (v := nI n_T_nights) hx hb hK hP 1 2 rfl rfl rfl dX2_dropOldest_36 ?_
  refine lv_iconst (v := 1) hx hb dX2_dropOldest_37 (by decide) ?_
  refine lv_isub hx hb dX2_dropOldest_38 ?_
  obtain ⟨T_size_1, e3, hr⟩ := nm_el hr
  refine lv_nmi e3 ?_
  refine va_put (D := (dC, dI)) (ci := 2) (v := .int T_size_1) (ty := .int) (C := RX2) (T := TX2) (N := 2) hx hb hts inX2_dropOldest_X2 tyX2 tyX2_ok nmX2 hown hK hP hD hS 0 rfl rfl 1 (by decide) (hts _ mbX2_dropOldest_2) (fun _ h9 => h9) rfl (by decide +kernel) rfl rfl (Nat.le_of_ble_eq_true rfl) dX2_dropOldest_39 (fun H locs hP hD hS => ?_)
  replace hP : va_P (dC, dI) vwCl [(a_T, .inr (2, [.ref a_T_nights, .int T_size_1])), (a_T_nights, .inl (cJ, n_T_nights, .inr (.inl T_nights_2)))] H := hP
  replace hD : va_D A [(a_T, .inr (2, [.ref a_T_nights, .int T_size_1])), (a_T_nights, .inl (cJ, n_T_nights, .inr (.inl T_nights_2)))] := hD
  have he := Option.some.inj hr
  subst he
  subst hQ
  exact ret_v hx hb hrt hK hP hD hS hlocks dX2_dropOldest_42
def fX2_add (K : Nat) (n_T_nights : Nat) (x1 : Int64) (T_size : Int32) (T_nights : (Nat → Int64)) : Option (Int32 × (Nat → Int64)) :=
    bd1 (fX2_isFull K n_T_nights T_size) fun r =>
    bd2 (
    if (r : Int32) = 0 then (
    some (T_size, T_nights))
    else (
    bd2 (fX2_dropOldest K n_T_nights T_size T_nights) fun T_size_1 T_nights_1 =>
    some (T_size_1, T_nights_1))) fun T_size_2 T_nights_2 =>
    if (T_size_2 : Int32) < 0 then (
    some (T_size_2, T_nights_2))
    else (
    if (nI n_T_nights) ≤ (T_size_2 : Int32) then (
    some (T_size_2, T_nights_2))
    else (
    gd (¬ ((T_size_2 : Int32) < 0 ∨ n_T_nights ≤ T_size_2.toNatClampNeg)) (
    nm (vp_updL T_nights_2 T_size_2.toNatClampNeg x1) fun T_nights_3 =>
    nm (T_size_2 + 1) fun T_size_3 =>
    some (T_size_3, T_nights_3))))
theorem mbX2_add_0 : Cond.fieldLink RX2 13 "BootsAtDawn$Pile" "size" "I" ∈ wsX2_add := List.mem_of_getElem? (i := 1) rfl
theorem inX2_add_X2 : ∀ w ∈ u_ws RX2 TX2 2, w ∈ wsX2_add := fun _ h => (List.mem_cons_of_mem _ (List.mem_append_right _ h))
theorem mbX2_add_2 : Cond.fieldLink RX2 7 "BootsAtDawn$Pile" "nights" "[J" ∈ wsX2_add := List.mem_of_getElem? (i := 2) rfl
abbrev rmX2_add : Room := { frames := 1, cells := 0, slots := 0, locals := 21 }
set_option maxHeartbeats 8000000 in
set_option maxRecDepth 100000 in
theorem kX2_add (l : Launch) (dC : Nat → ClassId) (dI : Nat → Nat → Nat) (cC cI cJ : ClassId) (sz : Nat) (K : Nat) (a_T a_T_nights : Nat) (n_T_nights : Nat) (x1 : Int64) (T_size : Int32) (T_nights : (Nat → Int64)) (R : Int32 × (Nat → Int64)) (hr : fX2_add K n_T_nights x1 T_size T_nights = some R) : Met l yX2_add wsX2_add rmX2_add (va_Pc ([.ref a_T, .long x1] : List Value) (PcW (dC, dI) (tysA cC cI cJ) sz [(a_T, .inr (2, [.ref a_T_nights, .int T_size])), (a_T_nights, .inl (cJ, n_T_nights, .inr (.inl T_nights)))])) (va_Qv (fun (_ : Unit) => True) (fun _ => BW (dC, dI) (tysA cC cI cJ) (va_A [(a_T, .inr (2, [.ref a_T_nights, .int T_size])), (a_T_nights, .inl (cJ, n_T_nights, .inr (.inl T_nights)))] sz) [(a_T, .inr (2, [.ref a_T_nights, .int R.1])), (a_T_nights, .inl (cJ, n_T_nights, .inr (.inl R.2)))]) (va_A [(a_T, .inr (2, [.ref a_T_nights, .int T_size])), (a_T_nights, .inl (cJ, n_T_nights, .inr (.inl T_nights)))] sz)) 0 0 (va_A [(a_T, .inr (2, [.ref a_T_nights, .int T_size])), (a_T_nights, .inl (cJ, n_T_nights, .inr (.inl T_nights)))] sz) := by
  refine Met.ofW (cc := cX2_add) (maxL := 3) (ret := none) (by decide) rfl ?_
  intro p e s m args below meth c s₁ B hml hv
  obtain ⟨rfl, hsz, hP, hK, hD0, hN⟩ := hv
  have hx := B.exec
  have hb := B.bytes
  have hrt := B.returns
  have hts := atoms_spec (ws := wsX2_add) B.pre
  have hown : s.vm.findClass RX2 = some m.cls := findClass_of_methodNamed B.named
  have hlocks := B.notSynchronized
  subst hsz
  have hD := hD0.self (sz := s.heap.size)
  generalize hAe : va_A [(a_T, .inr (2, [.ref a_T_nights, .int T_size])), (a_T_nights, .inl (cJ, n_T_nights, .inr (.inl T_nights)))] s.heap.size = A at hD ⊢
  have hA : ∀ q : Nat, s.heap.size ≤ q → A q := fun q h => by rw [← hAe]; exact Or.inr h
  have hS : va_S A s.heap s.heap [] := va_S.rf
  have hl := lv_entry ([.ref a_T, .long x1] : List Value) (n := 3) (Nat.le_of_ble_eq_true rfl)
  rw [lg_entry_eq]
  generalize (lg_sl ([.ref a_T, .long x1] : List Value) ++ List.replicate (3 - (lg_sl ([.ref a_T, .long x1] : List Value)).length) Slot.unset).toArray = ls at hl ⊢
  replace hl : lv_has ls 3 [(0, .ref a_T), (1, .long x1)] := hl
  obtain ⟨Q, hQ⟩ : ∃ Q, Q = MQ below (va_Qv (fun (_ : Unit) => True) (fun _ => BW (dC, dI) (tysA cC cI cJ) A [(a_T, .inr (2, [.ref a_T_nights, .int R.1])), (a_T_nights, .inl (cJ, n_T_nights, .inr (.inl R.2)))]) A) ([.ref a_T, .long x1] : List Value).toArray s 0 0 A := ⟨_, rfl⟩
  rw [← hQ]
  suffices hE : WG p l e rmX2_add s m ([.ref a_T, .long x1] : List Value).toArray below meth c 0 0 Q (dC, dI) A 0 3 [(a_T, .inr (2, [.ref a_T_nights, .int T_size])), (a_T_nights, .inl (cJ, n_T_nights, .inr (.inl T_nights)))] [(0, .ref a_T), (1, .long x1)] [] from hE _ _ _ hP hD hS hl
  clear hP hD hS hl hD0 hAe
  intro H locs ls hP hD hS hl
  unfold fX2_add at hr
  refine lv_aload_n hx hb dX2_add_0 rfl (lv_at hl 0 rfl) ?_
  obtain ⟨r, hc1, hr⟩ := bd1_some hr
  refine call_i (D := (dC, dI)) (tys := tysA cC cI cJ) (wc := [(a_T, .inr (2, [.ref a_T_nights, .int T_size])), (a_T_nights, .inl (cJ, n_T_nights, .inr (.inl T_nights)))]) (wr := []) (w1 := [(a_T, .inr (2, [.ref a_T_nights, .int T_size])), (a_T_nights, .inl (cJ, n_T_nights, .inr (.inl T_nights)))]) (wn := [(a_T, .inr (2, [.ref a_T_nights, .int T_size])), (a_T_nights, .inl (cJ, n_T_nights, .inr (.inl T_nights)))]) (r0 := r) hP hD hS hA [0, 1] [] [0, 1] rfl rfl (by decide +kernel) (by decide +kernel) rfl (by decide +kernel) (va_runV (As := []) (rest := []) ⟨hx, hb, hml, hown, hts⟩ (kX2_isFull l dC dI cC cI cJ H.size K a_T a_T_nights n_T_nights T_size T_nights r hc1) (cwV 0 hts gX2_add_X2_isFull rfl rfl rfl (by decide +kernel) ⟨Nat.le_of_ble_eq_true rfl, Nat.le_of_ble_eq_true rfl⟩) ⟨fbW, va_recv hK hP (ci := 2) (q0 := 0) rfl rfl, preW hP hD hK hN [0, 1] rfl (by decide +kernel)⟩ rfl rfl hl.1 rfl (lv_room (Nat.le_of_ble_eq_true rfl)) dX2_add_1 ⟨Nat.zero_le _, Nat.zero_le _⟩) (fun H locs hP hD hS => ?_)
  obtain ⟨T_size_2, T_nights_2, hj1, hr⟩ := bd2_some hr
  have hJ1 : WG p l e rmX2_add s m ([.ref a_T, .long x1] : List Value).toArray below meth c 0 0 Q (dC, dI) A 11 3 [(a_T, .inr (2, [.ref a_T_nights, .int T_size_2])), (a_T_nights, .inl (cJ, n_T_nights, .inr (.inl T_nights_2)))] [(0, .ref a_T), (1, .long x1)] [] := by
    intro H locs ls hP hD hS hl
    refine lv_aload_n hx hb dX2_add_11 rfl (lv_at hl 0 rfl) ?_
    refine va_get (D := (dC, dI)) (ci := 2) (v := .int T_size_2) (C := RX2) (T := TX2) (N := 2) hx hb hts inX2_add_X2 hown hK hP 0 rfl rfl 1 (by decide) (hts _ mbX2_add_0) (fun _ h9 => h9) rfl dX2_add_12 ?_
    refine lv_if_lt (tgt := 50) hx hb dX2_add_15 (by decide) (fun c2 => ?_) (fun c2 => ?_)
    · replace hr := it_t hr c2
      have he := Option.some.inj hr
      subst he
      subst hQ
      exact ret_v hx hb hrt hK hP hD hS hlocks dX2_add_50
    · replace hr := it_f hr c2
      refine lv_aload_n hx hb dX2_add_18 rfl (lv_at hl 0 rfl) ?_
      refine va_get (D := (dC, dI)) (ci := 2) (v := .int T_size_2) (C := RX2) (T := TX2) (N := 2) hx hb hts inX2_add_X2 hown hK hP 0 rfl rfl 1 (by decide) (hts _ mbX2_add_0) (fun _ h9 => h9) rfl dX2_add_19 ?_
      refine lv_aload_n hx hb dX2_add_22 rfl (lv_at hl 0 rfl) ?_
      refine va_get (D := (dC, dI)) (ci := 2) (v := .ref a_T_nights) (C := RX2) (T := TX2) (N := 2) hx hb hts inX2_add_X2 hown hK hP 0 rfl rfl 0 (by decide) (hts _ mbX2_add_2) (fun _ h9 => h9) rfl dX2_add_23 ?_
      refine va_alen (v := nI n_T_nights) hx hb hK hP 1 2 rfl rfl rfl dX2_add_26 ?_
      refine lv_icmp_ge (tgt := 50) hx hb dX2_add_27 (by decide) (fun c3 => ?_) (fun c3 => ?_)
      · replace hr := it_t hr c3
        have he := Option.some.inj hr
        subst he
        subst hQ
        exact ret_v hx hb hrt hK hP hD hS hlocks dX2_add_50
      · replace hr := it_f hr c3
        refine lv_aload_n hx hb dX2_add_30 rfl (lv_at hl 0 rfl) ?_
        refine va_get (D := (dC, dI)) (ci := 2) (v := .ref a_T_nights) (C := RX2) (T := TX2) (N := 2) hx hb hts inX2_add_X2 hown hK hP 0 rfl rfl 0 (by decide) (hts _ mbX2_add_2) (fun _ h9 => h9) rfl dX2_add_31 ?_
        refine lv_aload_n hx hb dX2_add_34 rfl (lv_at hl 0 rfl) ?_
        refine va_get (D := (dC, dI)) (ci := 2) (v := .int T_size_2) (C := RX2) (T := TX2) (N := 2) hx hb hts inX2_add_X2 hown hK hP 0 rfl rfl 1 (by decide) (hts _ mbX2_add_0) (fun _ h9 => h9) rfl dX2_add_35 ?_
        refine lv_lload_n hx hb dX2_add_38 rfl (lv_at hl 1 rfl) ?_
        obtain ⟨g1, hr⟩ := gd_some hr
        obtain ⟨T_nights_3, e1, hr⟩ := nm_el hr
        refine va_last hx hb hK hP hD hS 1 2 rfl rfl g1 dX2_add_39 (fun H locs hP hD hS => ?_)
        rw [← e1] at hP hD
        replace hP : va_P (dC, dI) vwCl [(a_T, .inr (2, [.ref a_T_nights, .int T_size_2])), (a_T_nights, .inl (cJ, n_T_nights, .inr (.inl T_nights_3)))] H := hP
        replace hD : va_D A [(a_T, .inr (2, [.ref a_T_nights, .int T_size_2])), (a_T_nights, .inl (cJ, n_T_nights, .inr (.inl T_nights_3)))] := hD
        refine lv_aload_n hx hb dX2_add_40 rfl (lv_at hl 0 rfl) ?_
        refine lv_dup hx hb dX2_add_41 rfl ?_
        refine va_get (D := (dC, dI)) (ci := 2) (v := .int T_size_2) (C := RX2) (T := TX2) (N := 2) hx hb hts inX2_add_X2 hown hK hP 0 rfl rfl 1 (by decide) (hts _ mbX2_add_0) (fun _ h9 => h9) rfl dX2_add_42 ?_
        refine lv_iconst (v := 1) hx hb dX2_add_45 (by decide) ?_
        refine lv_iadd hx hb dX2_add_46 ?_
        obtain ⟨T_size_3, e2, hr⟩ := nm_el hr
        refine lv_nmi e2 ?_
        refine va_put (D := (dC, dI)) (ci := 2) (v := .int T_size_3) (ty := .int) (C := RX2) (T := TX2) (N := 2) hx hb hts inX2_add_X2 tyX2 tyX2_ok nmX2 hown hK hP hD hS 0 rfl rfl 1 (by decide) (hts _ mbX2_add_0) (fun _ h9 => h9) rfl (by decide +kernel) rfl rfl (Nat.le_of_ble_eq_true rfl) dX2_add_47 (fun H locs hP hD hS => ?_)
        replace hP : va_P (dC, dI) vwCl [(a_T, .inr (2, [.ref a_T_nights, .int T_size_3])), (a_T_nights, .inl (cJ, n_T_nights, .inr (.inl T_nights_3)))] H := hP
        replace hD : va_D A [(a_T, .inr (2, [.ref a_T_nights, .int T_size_3])), (a_T_nights, .inl (cJ, n_T_nights, .inr (.inl T_nights_3)))] := hD
        have he := Option.some.inj hr
        subst he
        subst hQ
        exact ret_v hx hb hrt hK hP hD hS hlocks dX2_add_50
  replace hr := hj1
  refine lv_if_eq (tgt := 11) hx hb dX2_add_4 (by decide) (fun c1 => ?_) (fun c1 => ?_)
  · replace hr := it_t hr c1
    cases hr
    exact hJ1 H locs ls hP hD hS (lv_sub hl [0, 1] rfl)
  · replace hr := it_f hr c1
    refine lv_aload_n hx hb dX2_add_7 rfl (lv_at hl 0 rfl) ?_
    obtain ⟨T_size_1, T_nights_1, hc2, hr⟩ := bd2_some hr
    refine call_v (D := (dC, dI)) (tys := tysA cC cI cJ) (wc := [(a_T, .inr (2, [.ref a_T_nights, .int T_size])), (a_T_nights, .inl (cJ, n_T_nights, .inr (.inl T_nights)))]) (wr := []) (w1 := [(a_T, .inr (2, [.ref a_T_nights, .int T_size_1])), (a_T_nights, .inl (cJ, n_T_nights, .inr (.inl T_nights_1)))]) (wn := [(a_T, .inr (2, [.ref a_T_nights, .int T_size_1])), (a_T_nights, .inl (cJ, n_T_nights, .inr (.inl T_nights_1)))]) hP hD hS hA [0, 1] [] [0, 1] rfl rfl (by decide +kernel) (by decide +kernel) rfl (by decide +kernel) (va_runV (As := []) (rest := []) ⟨hx, hb, hml, hown, hts⟩ (kX2_dropOldest l dC dI cC cI cJ H.size K a_T a_T_nights n_T_nights T_size T_nights (T_size_1, T_nights_1) hc2) (cwV 0 hts gX2_add_X2_dropOldest rfl rfl rfl (by decide +kernel) ⟨Nat.le_of_ble_eq_true rfl, Nat.le_of_ble_eq_true rfl⟩) ⟨fbW, va_recv hK hP (ci := 2) (q0 := 0) rfl rfl, preW hP hD hK hN [0, 1] rfl (by decide +kernel)⟩ rfl rfl hl.1 rfl (lv_room (Nat.le_of_ble_eq_true rfl)) dX2_add_8 ⟨Nat.zero_le _, Nat.zero_le _⟩) (fun H locs hP hD hS => ?_)
    cases hr
    exact hJ1 H locs ls hP hD hS (lv_sub hl [0, 1] rfl)
def fX2_takeLast (K : Nat) (n_T_nights : Nat) (T_size : Int32) (T_nights : (Nat → Int64)) : Option (Int64 × Int32) :=
    bs1 (
    if (T_size : Int32) < 1 then (
    some (.inr T_size))
    else (
    if (T_size : Int32) ≤ (nI n_T_nights) then (
    nm (T_size - 1) fun T_size_1 =>
    gd (¬ ((T_size_1 : Int32) < 0 ∨ n_T_nights ≤ T_size_1.toNatClampNeg)) (
    some (.inl ((T_nights T_size_1.toNatClampNeg), T_size_1))))
    else (
    some (.inr T_size)))) fun T_size_2 =>
    some (0, T_size_2)
theorem mbX2_takeLast_0 : Cond.fieldLink RX2 13 "BootsAtDawn$Pile" "size" "I" ∈ wsX2_takeLast := List.mem_of_getElem? (i := 1) rfl
theorem inX2_takeLast_X2 : ∀ w ∈ u_ws RX2 TX2 2, w ∈ wsX2_takeLast := fun _ h => (List.mem_cons_of_mem _ (List.mem_append_right _ h))
theorem mbX2_takeLast_2 : Cond.fieldLink RX2 7 "BootsAtDawn$Pile" "nights" "[J" ∈ wsX2_takeLast := List.mem_of_getElem? (i := 2) rfl
abbrev rmX2_takeLast : Room := { frames := 0, cells := 0, slots := 0, locals := 0 }
set_option maxHeartbeats 8000000 in
set_option maxRecDepth 100000 in
theorem kX2_takeLast (l : Launch) (dC : Nat → ClassId) (dI : Nat → Nat → Nat) (cC cI cJ : ClassId) (sz : Nat) (K : Nat) (a_T a_T_nights : Nat) (n_T_nights : Nat) (T_size : Int32) (T_nights : (Nat → Int64)) (R : Int64 × Int32) (hr : fX2_takeLast K n_T_nights T_size T_nights = some R) : Met l yX2_takeLast wsX2_takeLast rmX2_takeLast (va_Pc ([.ref a_T] : List Value) (PcW (dC, dI) (tysA cC cI cJ) sz [(a_T, .inr (2, [.ref a_T_nights, .int T_size])), (a_T_nights, .inl (cJ, n_T_nights, .inr (.inl T_nights)))])) (va_Ql (fun r (_ : Unit) => r = R.1) (fun _ => BW (dC, dI) (tysA cC cI cJ) (va_A [(a_T, .inr (2, [.ref a_T_nights, .int T_size])), (a_T_nights, .inl (cJ, n_T_nights, .inr (.inl T_nights)))] sz) [(a_T, .inr (2, [.ref a_T_nights, .int R.2])), (a_T_nights, .inl (cJ, n_T_nights, .inr (.inl T_nights)))]) (va_A [(a_T, .inr (2, [.ref a_T_nights, .int T_size])), (a_T_nights, .inl (cJ, n_T_nights, .inr (.inl T_nights)))] sz)) 0 0 (va_A [(a_T, .inr (2, [.ref a_T_nights, .int T_size])), (a_T_nights, .inl (cJ, n_T_nights, .inr (.inl T_nights)))] sz) := by
  refine Met.ofW (cc := cX2_takeLast) (maxL := 1) (ret := (some .long)) (by decide) rfl ?_
  intro p e s m args below meth c s₁ B hml hv
  obtain ⟨rfl, hsz, hP, hK, hD0, hN⟩ := hv
  have hx := B.exec
  have hb := B.bytes
  have hrt := B.returns
  have hts := atoms_spec (ws := wsX2_takeLast) B.pre
  have hown : s.vm.findClass RX2 = some m.cls := findClass_of_methodNamed B.named
  have hlocks := B.notSynchronized
  subst hsz
  have hD := hD0.self (sz := s.heap.size)
  generalize hAe : va_A [(a_T, .inr (2, [.ref a_T_nights, .int T_size])), (a_T_nights, .inl (cJ, n_T_nights, .inr (.inl T_nights)))] s.heap.size = A at hD ⊢
  have hA : ∀ q : Nat, s.heap.size ≤ q → A q := fun q h => by rw [← hAe]; exact Or.inr h
  have hS : va_S A s.heap s.heap [] := va_S.rf
  have hl := lv_entry ([.ref a_T] : List Value) (n := 1) (Nat.le_of_ble_eq_true rfl)
  rw [lg_entry_eq]
  generalize (lg_sl ([.ref a_T] : List Value) ++ List.replicate (1 - (lg_sl ([.ref a_T] : List Value)).length) Slot.unset).toArray = ls at hl ⊢
  replace hl : lv_has ls 1 [(0, .ref a_T)] := hl
  obtain ⟨Q, hQ⟩ : ∃ Q, Q = MQ below (va_Ql (fun r (_ : Unit) => r = R.1) (fun _ => BW (dC, dI) (tysA cC cI cJ) A [(a_T, .inr (2, [.ref a_T_nights, .int R.2])), (a_T_nights, .inl (cJ, n_T_nights, .inr (.inl T_nights)))]) A) ([.ref a_T] : List Value).toArray s 0 0 A := ⟨_, rfl⟩
  rw [← hQ]
  suffices hE : WG p l e rmX2_takeLast s m ([.ref a_T] : List Value).toArray below meth c 0 0 Q (dC, dI) A 0 1 [(a_T, .inr (2, [.ref a_T_nights, .int T_size])), (a_T_nights, .inl (cJ, n_T_nights, .inr (.inl T_nights)))] [(0, .ref a_T)] [] from hE _ _ _ hP hD hS hl
  clear hP hD hS hl hD0 hAe
  intro H locs ls hP hD hS hl
  unfold fX2_takeLast at hr
  refine lv_aload_n hx hb dX2_takeLast_0 rfl (lv_at hl 0 rfl) ?_
  refine va_get (D := (dC, dI)) (ci := 2) (v := .int T_size) (C := RX2) (T := TX2) (N := 2) hx hb hts inX2_takeLast_X2 hown hK hP 0 rfl rfl 1 (by decide) (hts _ mbX2_takeLast_0) (fun _ h9 => h9) rfl dX2_takeLast_1 ?_
  refine lv_iconst (v := 1) hx hb dX2_takeLast_4 (by decide) ?_
  obtain ⟨X1, hj, hi1, hk⟩ := bs1_some hr
  have hJ1 : ∀ (T_size_2 : Int32), X1 = .inr T_size_2 → WG p l e rmX2_takeLast s m ([.ref a_T] : List Value).toArray below meth c 0 0 Q (dC, dI) A 20 1 [(a_T, .inr (2, [.ref a_T_nights, .int T_size_2])), (a_T_nights, .inl (cJ, n_T_nights, .inr (.inl T_nights)))] [] [] := by
    intro T_size_2 he
    replace hr := hk T_size_2 he
    intro H locs ls hP hD hS hl
    refine lv_lconst (v := 0) hx hb dX2_takeLast_20 (by decide) ?_
    have he := Option.some.inj hr
    subst he
    subst hQ
    exact ret_l hx hb hrt hK hP hD hS hlocks dX2_takeLast_21
  replace hr := hj
  refine lv_icmp_lt (tgt := 20) hx hb dX2_takeLast_5 (by decide) (fun c1 => ?_) (fun c1 => ?_)
  · replace hr := it_t hr c1
    exact hJ1 _ (Option.some.inj hr).symm H locs ls hP hD hS (lv_sub hl [] rfl)
  · replace hr := it_f hr c1
    refine lv_aload_n hx hb dX2_takeLast_8 rfl (lv_at hl 0 rfl) ?_
    refine va_get (D := (dC, dI)) (ci := 2) (v := .int T_size) (C := RX2) (T := TX2) (N := 2) hx hb hts inX2_takeLast_X2 hown hK hP 0 rfl rfl 1 (by decide) (hts _ mbX2_takeLast_0) (fun _ h9 => h9) rfl dX2_takeLast_9 ?_
    refine lv_aload_n hx hb dX2_takeLast_12 rfl (lv_at hl 0 rfl) ?_
    refine va_get (D := (dC, dI)) (ci := 2) (v := .ref a_T_nights) (C := RX2) (T := TX2) (N := 2) hx hb hts inX2_takeLast_X2 hown hK hP 0 rfl rfl 0 (by decide) (hts _ mbX2_takeLast_2) (fun _ h9 => h9) rfl dX2_takeLast_13 ?_
    refine va_alen (v := nI n_T_nights) hx hb hK hP 1 2 rfl rfl rfl dX2_takeLast_16 ?_
    refine lv_icmp_le (tgt := 22) hx hb dX2_takeLast_17 (by decide) (fun c2 => ?_) (fun c2 => ?_)
    · replace hr := it_t hr c2
      refine lv_aload_n hx hb dX2_takeLast_22 rfl (lv_at hl 0 rfl) ?_
      refine lv_dup hx hb dX2_takeLast_23 rfl ?_
      refine va_get (D := (dC, dI)) (ci := 2) (v := .int T_size) (C := RX2) (T := TX2) (N := 2) hx hb hts inX2_takeLast_X2 hown hK hP 0 rfl rfl 1 (by decide) (hts _ mbX2_takeLast_0) (fun _ h9 => h9) rfl dX2_takeLast_24 ?_
      refine lv_iconst (v := 1) hx hb dX2_takeLast_27 (by decide) ?_
      refine lv_isub hx hb dX2_takeLast_28 ?_
      obtain ⟨T_size_1, e1, hr⟩ := nm_el hr
      refine lv_nmi e1 ?_
      refine va_put (D := (dC, dI)) (ci := 2) (v := .int T_size_1) (ty := .int) (C := RX2) (T := TX2) (N := 2) hx hb hts inX2_takeLast_X2 tyX2 tyX2_ok nmX2 hown hK hP hD hS 0 rfl rfl 1 (by decide) (hts _ mbX2_takeLast_0) (fun _ h9 => h9) rfl (by decide +kernel) rfl rfl (Nat.le_of_ble_eq_true rfl) dX2_takeLast_29 (fun H locs hP hD hS => ?_)
      replace hP : va_P (dC, dI) vwCl [(a_T, .inr (2, [.ref a_T_nights, .int T_size_1])), (a_T_nights, .inl (cJ, n_T_nights, .inr (.inl T_nights)))] H := hP
      replace hD : va_D A [(a_T, .inr (2, [.ref a_T_nights, .int T_size_1])), (a_T_nights, .inl (cJ, n_T_nights, .inr (.inl T_nights)))] := hD
      refine lv_aload_n hx hb dX2_takeLast_32 rfl (lv_at hl 0 rfl) ?_
      refine va_get (D := (dC, dI)) (ci := 2) (v := .ref a_T_nights) (C := RX2) (T := TX2) (N := 2) hx hb hts inX2_takeLast_X2 hown hK hP 0 rfl rfl 0 (by decide) (hts _ mbX2_takeLast_2) (fun _ h9 => h9) rfl dX2_takeLast_33 ?_
      refine lv_aload_n hx hb dX2_takeLast_36 rfl (lv_at hl 0 rfl) ?_
      refine va_get (D := (dC, dI)) (ci := 2) (v := .int T_size_1) (C := RX2) (T := TX2) (N := 2) hx hb hts inX2_takeLast_X2 hown hK hP 0 rfl rfl 1 (by decide) (hts _ mbX2_takeLast_0) (fun _ h9 => h9) rfl dX2_takeLast_37 ?_
      obtain ⟨g1, hr⟩ := gd_some hr
      refine va_lald hx hb hK hP 1 2 rfl rfl g1 dX2_takeLast_40 ?_
      have he := Option.some.inj hr
      replace he := hi1 _ he.symm
      subst he
      subst hQ
      exact ret_l hx hb hrt hK hP hD hS hlocks dX2_takeLast_41
    · replace hr := it_f hr c2
      exact hJ1 _ (Option.some.inj hr).symm H locs ls hP hD hS (lv_sub hl [] rfl)
def fX2_clear (K : Nat) (T_size : Int32) : Option (Int32) :=
    some 0
theorem mbX2_clear_0 : Cond.fieldLink RX2 13 "BootsAtDawn$Pile" "size" "I" ∈ wsX2_clear := List.mem_of_getElem? (i := 1) rfl
theorem inX2_clear_X2 : ∀ w ∈ u_ws RX2 TX2 2, w ∈ wsX2_clear := fun _ h => (List.mem_cons_of_mem _ (List.mem_append_right _ h))
abbrev rmX2_clear : Room := { frames := 0, cells := 0, slots := 0, locals := 0 }
set_option maxHeartbeats 8000000 in
set_option maxRecDepth 100000 in
theorem kX2_clear (l : Launch) (dC : Nat → ClassId) (dI : Nat → Nat → Nat) (cC cI cJ : ClassId) (sz : Nat) (K : Nat) (a_T a_T_nights : Nat) (T_size : Int32) (R : Int32) (hr : fX2_clear K T_size = some R) : Met l yX2_clear wsX2_clear rmX2_clear (va_Pc ([.ref a_T] : List Value) (PcW (dC, dI) (tysA cC cI cJ) sz [(a_T, .inr (2, [.ref a_T_nights, .int T_size]))])) (va_Qv (fun (_ : Unit) => True) (fun _ => BW (dC, dI) (tysA cC cI cJ) (va_A [(a_T, .inr (2, [.ref a_T_nights, .int T_size]))] sz) [(a_T, .inr (2, [.ref a_T_nights, .int R]))]) (va_A [(a_T, .inr (2, [.ref a_T_nights, .int T_size]))] sz)) 0 0 (va_A [(a_T, .inr (2, [.ref a_T_nights, .int T_size]))] sz) := by
  refine Met.ofW (cc := cX2_clear) (maxL := 1) (ret := none) (by decide) rfl ?_
  intro p e s m args below meth c s₁ B hml hv
  obtain ⟨rfl, hsz, hP, hK, hD0, hN⟩ := hv
  have hx := B.exec
  have hb := B.bytes
  have hrt := B.returns
  have hts := atoms_spec (ws := wsX2_clear) B.pre
  have hown : s.vm.findClass RX2 = some m.cls := findClass_of_methodNamed B.named
  have hlocks := B.notSynchronized
  subst hsz
  have hD := hD0.self (sz := s.heap.size)
  generalize hAe : va_A [(a_T, .inr (2, [.ref a_T_nights, .int T_size]))] s.heap.size = A at hD ⊢
  have hA : ∀ q : Nat, s.heap.size ≤ q → A q := fun q h => by rw [← hAe]; exact Or.inr h
  have hS : va_S A s.heap s.heap [] := va_S.rf
  have hl := lv_entry ([.ref a_T] : List Value) (n := 1) (Nat.le_of_ble_eq_true rfl)
  rw [lg_entry_eq]
  generalize (lg_sl ([.ref a_T] : List Value) ++ List.replicate (1 - (lg_sl ([.ref a_T] : List Value)).length) Slot.unset).toArray = ls at hl ⊢
  replace hl : lv_has ls 1 [(0, .ref a_T)] := hl
  obtain ⟨Q, hQ⟩ : ∃ Q, Q = MQ below (va_Qv (fun (_ : Unit) => True) (fun _ => BW (dC, dI) (tysA cC cI cJ) A [(a_T, .inr (2, [.ref a_T_nights, .int R]))]) A) ([.ref a_T] : List Value).toArray s 0 0 A := ⟨_, rfl⟩
  rw [← hQ]
  suffices hE : WG p l e rmX2_clear s m ([.ref a_T] : List Value).toArray below meth c 0 0 Q (dC, dI) A 0 1 [(a_T, .inr (2, [.ref a_T_nights, .int T_size]))] [(0, .ref a_T)] [] from hE _ _ _ hP hD hS hl
  clear hP hD hS hl hD0 hAe
  intro H locs ls hP hD hS hl
  unfold fX2_clear at hr
  refine lv_aload_n hx hb dX2_clear_0 rfl (lv_at hl 0 rfl) ?_
  refine lv_iconst (v := 0) hx hb dX2_clear_1 (by decide) ?_
  refine va_put (D := (dC, dI)) (ci := 2) (v := .int 0) (ty := .int) (C := RX2) (T := TX2) (N := 2) hx hb hts inX2_clear_X2 tyX2 tyX2_ok nmX2 hown hK hP hD hS 0 rfl rfl 1 (by decide) (hts _ mbX2_clear_0) (fun _ h9 => h9) rfl (by decide +kernel) rfl rfl (Nat.le_of_ble_eq_true rfl) dX2_clear_2 (fun H locs hP hD hS => ?_)
  replace hP : va_P (dC, dI) vwCl [(a_T, .inr (2, [.ref a_T_nights, .int 0]))] H := hP
  replace hD : va_D A [(a_T, .inr (2, [.ref a_T_nights, .int 0]))] := hD
  have he := Option.some.inj hr
  subst he
  subst hQ
  exact ret_v hx hb hrt hK hP hD hS hlocks dX2_clear_5
def fX7_letterAt (K : Nat) (x1 : Int32) (T_length : Int32) (T_letters : (Nat → Int32)) : Option (Int32) :=
    if (x1 : Int32) < 0 then (
    some 0)
    else (
    if T_length ≤ (x1 : Int32) then (
    some 0)
    else (
    if (nI 200) ≤ (x1 : Int32) then (
    some 0)
    else (
    gd (¬ ((x1 : Int32) < 0 ∨ 200 ≤ x1.toNatClampNeg)) (
    gd (vp_nar .char (T_letters x1.toNatClampNeg) = (T_letters x1.toNatClampNeg)) (
    some (T_letters x1.toNatClampNeg))))))
theorem mbX7_letterAt_0 : Cond.fieldLink RX7 15 "BootsAtDawn$Text" "length" "I" ∈ wsX7_letterAt := List.mem_of_getElem? (i := 1) rfl
theorem inX7_letterAt_X7 : ∀ w ∈ u_ws RX7 TX7 2, w ∈ wsX7_letterAt := fun _ h => (List.mem_cons_of_mem _ (List.mem_append_right _ h))
theorem mbX7_letterAt_2 : Cond.fieldLink RX7 9 "BootsAtDawn$Text" "letters" "[C" ∈ wsX7_letterAt := List.mem_of_getElem? (i := 2) rfl
abbrev rmX7_letterAt : Room := { frames := 0, cells := 0, slots := 0, locals := 0 }
set_option maxHeartbeats 8000000 in
set_option maxRecDepth 100000 in
theorem kX7_letterAt (l : Launch) (dC : Nat → ClassId) (dI : Nat → Nat → Nat) (cC cI cJ : ClassId) (sz : Nat) (K : Nat) (a_T a_T_letters : Nat) (x1 : Int32) (T_length : Int32) (T_letters : (Nat → Int32)) (R : Int32) (hr : fX7_letterAt K x1 T_length T_letters = some R) : Met l yX7_letterAt wsX7_letterAt rmX7_letterAt (va_Pc ([.ref a_T, .int x1] : List Value) (PcW (dC, dI) (tysA cC cI cJ) sz [(a_T, .inr (7, [.ref a_T_letters, .int T_length])), (a_T_letters, .inl (cC, 200, .inl T_letters))])) (va_Qi (fun r (_ : Unit) => r = R) (fun _ => BW (dC, dI) (tysA cC cI cJ) (va_A [(a_T, .inr (7, [.ref a_T_letters, .int T_length])), (a_T_letters, .inl (cC, 200, .inl T_letters))] sz) [(a_T, .inr (7, [.ref a_T_letters, .int T_length])), (a_T_letters, .inl (cC, 200, .inl T_letters))]) (va_A [(a_T, .inr (7, [.ref a_T_letters, .int T_length])), (a_T_letters, .inl (cC, 200, .inl T_letters))] sz)) 0 0 (va_A [(a_T, .inr (7, [.ref a_T_letters, .int T_length])), (a_T_letters, .inl (cC, 200, .inl T_letters))] sz) := by
  refine Met.ofW (cc := cX7_letterAt) (maxL := 2) (ret := (some .char)) (by decide) rfl ?_
  intro p e s m args below meth c s₁ B hml hv
  obtain ⟨rfl, hsz, hP, hK, hD0, hN⟩ := hv
  have hx := B.exec
  have hb := B.bytes
  have hrt := B.returns
  have hts := atoms_spec (ws := wsX7_letterAt) B.pre
  have hown : s.vm.findClass RX7 = some m.cls := findClass_of_methodNamed B.named
  have hlocks := B.notSynchronized
  subst hsz
  have hD := hD0.self (sz := s.heap.size)
  generalize hAe : va_A [(a_T, .inr (7, [.ref a_T_letters, .int T_length])), (a_T_letters, .inl (cC, 200, .inl T_letters))] s.heap.size = A at hD ⊢
  have hA : ∀ q : Nat, s.heap.size ≤ q → A q := fun q h => by rw [← hAe]; exact Or.inr h
  have hS : va_S A s.heap s.heap [] := va_S.rf
  have hl := lv_entry ([.ref a_T, .int x1] : List Value) (n := 2) (Nat.le_of_ble_eq_true rfl)
  rw [lg_entry_eq]
  generalize (lg_sl ([.ref a_T, .int x1] : List Value) ++ List.replicate (2 - (lg_sl ([.ref a_T, .int x1] : List Value)).length) Slot.unset).toArray = ls at hl ⊢
  replace hl : lv_has ls 2 [(0, .ref a_T), (1, .int x1)] := hl
  obtain ⟨Q, hQ⟩ : ∃ Q, Q = MQ below (va_Qi (fun r (_ : Unit) => r = R) (fun _ => BW (dC, dI) (tysA cC cI cJ) A [(a_T, .inr (7, [.ref a_T_letters, .int T_length])), (a_T_letters, .inl (cC, 200, .inl T_letters))]) A) ([.ref a_T, .int x1] : List Value).toArray s 0 0 A := ⟨_, rfl⟩
  rw [← hQ]
  suffices hE : WG p l e rmX7_letterAt s m ([.ref a_T, .int x1] : List Value).toArray below meth c 0 0 Q (dC, dI) A 0 2 [(a_T, .inr (7, [.ref a_T_letters, .int T_length])), (a_T_letters, .inl (cC, 200, .inl T_letters))] [(0, .ref a_T), (1, .int x1)] [] from hE _ _ _ hP hD hS hl
  clear hP hD hS hl hD0 hAe
  intro H locs ls hP hD hS hl
  unfold fX7_letterAt at hr
  refine lv_iload_n hx hb dX7_letterAt_0 rfl (lv_at hl 1 rfl) ?_
  refine lv_if_lt (tgt := 30) hx hb dX7_letterAt_1 (by decide) (fun c1 => ?_) (fun c1 => ?_)
  · replace hr := it_t hr c1
    refine lv_iconst (v := 0) hx hb dX7_letterAt_30 (by decide) ?_
    have he := Option.some.inj hr
    subst he
    subst hQ
    exact ret_z hx hb hrt (show narrow .char (.int 0) = .int 0 from rfl) hK hP hD hS hlocks dX7_letterAt_31
  · replace hr := it_f hr c1
    refine lv_iload_n hx hb dX7_letterAt_4 rfl (lv_at hl 1 rfl) ?_
    refine lv_aload_n hx hb dX7_letterAt_5 rfl (lv_at hl 0 rfl) ?_
    refine va_get (D := (dC, dI)) (ci := 7) (v := .int T_length) (C := RX7) (T := TX7) (N := 2) hx hb hts inX7_letterAt_X7 hown hK hP 0 rfl rfl 1 (by decide) (hts _ mbX7_letterAt_0) (fun _ h9 => h9) rfl dX7_letterAt_6 ?_
    refine lv_icmp_ge (tgt := 30) hx hb dX7_letterAt_9 (by decide) (fun c2 => ?_) (fun c2 => ?_)
    · replace hr := it_t hr c2
      refine lv_iconst (v := 0) hx hb dX7_letterAt_30 (by decide) ?_
      have he := Option.some.inj hr
      subst he
      subst hQ
      exact ret_z hx hb hrt (show narrow .char (.int 0) = .int 0 from rfl) hK hP hD hS hlocks dX7_letterAt_31
    · replace hr := it_f hr c2
      refine lv_iload_n hx hb dX7_letterAt_12 rfl (lv_at hl 1 rfl) ?_
      refine lv_aload_n hx hb dX7_letterAt_13 rfl (lv_at hl 0 rfl) ?_
      refine va_get (D := (dC, dI)) (ci := 7) (v := .ref a_T_letters) (C := RX7) (T := TX7) (N := 2) hx hb hts inX7_letterAt_X7 hown hK hP 0 rfl rfl 0 (by decide) (hts _ mbX7_letterAt_2) (fun _ h9 => h9) rfl dX7_letterAt_14 ?_
      refine va_alen (v := nI 200) hx hb hK hP 1 0 rfl rfl rfl dX7_letterAt_17 ?_
      refine lv_icmp_ge (tgt := 30) hx hb dX7_letterAt_18 (by decide) (fun c3 => ?_) (fun c3 => ?_)
      · replace hr := it_t hr c3
        refine lv_iconst (v := 0) hx hb dX7_letterAt_30 (by decide) ?_
        have he := Option.some.inj hr
        subst he
        subst hQ
        exact ret_z hx hb hrt (show narrow .char (.int 0) = .int 0 from rfl) hK hP hD hS hlocks dX7_letterAt_31
      · replace hr := it_f hr c3
        refine lv_aload_n hx hb dX7_letterAt_21 rfl (lv_at hl 0 rfl) ?_
        refine va_get (D := (dC, dI)) (ci := 7) (v := .ref a_T_letters) (C := RX7) (T := TX7) (N := 2) hx hb hts inX7_letterAt_X7 hown hK hP 0 rfl rfl 0 (by decide) (hts _ mbX7_letterAt_2) (fun _ h9 => h9) rfl dX7_letterAt_22 ?_
        refine lv_iload_n hx hb dX7_letterAt_25 rfl (lv_at hl 1 rfl) ?_
        obtain ⟨g1, hr⟩ := gd_some hr
        refine va_cald hx hb hK hP 1 0 rfl rfl g1 dX7_letterAt_26 ?_
        refine lv_goto (tgt := 31) hx hb dX7_letterAt_27 (by decide) ?_
        obtain ⟨g2, hr⟩ := gd_some hr
        have he := Option.some.inj hr
        subst he
        subst hQ
        exact ret_z hx hb hrt (vp_narC g2) hK hP hD hS hlocks dX7_letterAt_31
def fX3_figureAt (K : Nat) (x1 : Int32) (T_text_length : Int32) (T_text_letters : (Nat → Int32)) : Option (Int32) :=
    bd1 (fX7_letterAt K x1 T_text_length T_text_letters) fun r =>
    if (r : Int32) < 48 then (
    some (-4))
    else (
    if 57 < (r : Int32) then (
    some (-4))
    else (
    some (r - 48)))
theorem mbX3_figureAt_0 : Cond.fieldLink RX3 9 "BootsAtDawn$Reader" "text" "LBootsAtDawn$Text;" ∈ wsX3_figureAt := List.mem_of_getElem? (i := 1) rfl
theorem inX3_figureAt_X3 : ∀ w ∈ u_ws RX3 TX3 3, w ∈ wsX3_figureAt := fun _ h => (List.mem_cons_of_mem _ (List.mem_append_left _ (List.mem_append_right _ h)))
theorem mbX3_figureAt_2 : Cond.initialized RX7 ∈ wsX3_figureAt := List.mem_of_getElem? (i := 3) rfl
theorem mbX3_figureAt_3 : Cond.instanceMethod yX7_letterAt ∈ wsX3_figureAt := List.mem_of_getElem? (i := 2) rfl
theorem mbX3_figureAt_4 : Cond.selects RX7 yX7_letterAt yX7_letterAt ∈ wsX3_figureAt := List.mem_of_getElem? (i := 4) rfl
abbrev rmX3_figureAt : Room := { frames := 1, cells := 0, slots := 0, locals := 21 }
set_option maxHeartbeats 8000000 in
set_option maxRecDepth 100000 in
theorem kX3_figureAt (l : Launch) (dC : Nat → ClassId) (dI : Nat → Nat → Nat) (cC cI cJ : ClassId) (sz : Nat) (K : Nat) (a_T a_T_text a_T_draft a_T_text_letters : Nat) (x1 : Int32) (T_next : Int32) (T_text_length : Int32) (T_text_letters : (Nat → Int32)) (R : Int32) (hr : fX3_figureAt K x1 T_text_length T_text_letters = some R) : Met l yX3_figureAt wsX3_figureAt rmX3_figureAt (va_Pc ([.ref a_T, .int x1] : List Value) (PcW (dC, dI) (tysA cC cI cJ) sz [(a_T, .inr (3, [.ref a_T_text, .ref a_T_draft, .int T_next])), (a_T_text, .inr (7, [.ref a_T_text_letters, .int T_text_length])), (a_T_text_letters, .inl (cC, 200, .inl T_text_letters))])) (va_Qi (fun r (_ : Unit) => r = R) (fun _ => BW (dC, dI) (tysA cC cI cJ) (va_A [(a_T, .inr (3, [.ref a_T_text, .ref a_T_draft, .int T_next])), (a_T_text, .inr (7, [.ref a_T_text_letters, .int T_text_length])), (a_T_text_letters, .inl (cC, 200, .inl T_text_letters))] sz) [(a_T, .inr (3, [.ref a_T_text, .ref a_T_draft, .int T_next])), (a_T_text, .inr (7, [.ref a_T_text_letters, .int T_text_length])), (a_T_text_letters, .inl (cC, 200, .inl T_text_letters))]) (va_A [(a_T, .inr (3, [.ref a_T_text, .ref a_T_draft, .int T_next])), (a_T_text, .inr (7, [.ref a_T_text_letters, .int T_text_length])), (a_T_text_letters, .inl (cC, 200, .inl T_text_letters))] sz)) 0 0 (va_A [(a_T, .inr (3, [.ref a_T_text, .ref a_T_draft, .int T_next])), (a_T_text, .inr (7, [.ref a_T_text_letters, .int T_text_length])), (a_T_text_letters, .inl (cC, 200, .inl T_text_letters))] sz) := by
  refine Met.ofW (cc := cX3_figureAt) (maxL := 3) (ret := (some .int)) (by decide) rfl ?_
  intro p e s m args below meth c s₁ B hml hv
  obtain ⟨rfl, hsz, hP, hK, hD0, hN⟩ := hv
  have hx := B.exec
  have hb := B.bytes
  have hrt := B.returns
  have hts := atoms_spec (ws := wsX3_figureAt) B.pre
  have hown : s.vm.findClass RX3 = some m.cls := findClass_of_methodNamed B.named
  have hlocks := B.notSynchronized
  subst hsz
  have hD := hD0.self (sz := s.heap.size)
  generalize hAe : va_A [(a_T, .inr (3, [.ref a_T_text, .ref a_T_draft, .int T_next])), (a_T_text, .inr (7, [.ref a_T_text_letters, .int T_text_length])), (a_T_text_letters, .inl (cC, 200, .inl T_text_letters))] s.heap.size = A at hD ⊢
  have hA : ∀ q : Nat, s.heap.size ≤ q → A q := fun q h => by rw [← hAe]; exact Or.inr h
  have hS : va_S A s.heap s.heap [] := va_S.rf
  have hl := lv_entry ([.ref a_T, .int x1] : List Value) (n := 3) (Nat.le_of_ble_eq_true rfl)
  rw [lg_entry_eq]
  generalize (lg_sl ([.ref a_T, .int x1] : List Value) ++ List.replicate (3 - (lg_sl ([.ref a_T, .int x1] : List Value)).length) Slot.unset).toArray = ls at hl ⊢
  replace hl : lv_has ls 3 [(0, .ref a_T), (1, .int x1)] := hl
  obtain ⟨Q, hQ⟩ : ∃ Q, Q = MQ below (va_Qi (fun r (_ : Unit) => r = R) (fun _ => BW (dC, dI) (tysA cC cI cJ) A [(a_T, .inr (3, [.ref a_T_text, .ref a_T_draft, .int T_next])), (a_T_text, .inr (7, [.ref a_T_text_letters, .int T_text_length])), (a_T_text_letters, .inl (cC, 200, .inl T_text_letters))]) A) ([.ref a_T, .int x1] : List Value).toArray s 0 0 A := ⟨_, rfl⟩
  rw [← hQ]
  suffices hE : WG p l e rmX3_figureAt s m ([.ref a_T, .int x1] : List Value).toArray below meth c 0 0 Q (dC, dI) A 0 3 [(a_T, .inr (3, [.ref a_T_text, .ref a_T_draft, .int T_next])), (a_T_text, .inr (7, [.ref a_T_text_letters, .int T_text_length])), (a_T_text_letters, .inl (cC, 200, .inl T_text_letters))] [(0, .ref a_T), (1, .int x1)] [] from hE _ _ _ hP hD hS hl
  clear hP hD hS hl hD0 hAe
  intro H locs ls hP hD hS hl
  unfold fX3_figureAt at hr
  refine lv_aload_n hx hb dX3_figureAt_0 rfl (lv_at hl 0 rfl) ?_
  refine va_get (D := (dC, dI)) (ci := 3) (v := .ref a_T_text) (C := RX3) (T := TX3) (N := 3) hx hb hts inX3_figureAt_X3 hown hK hP 0 rfl rfl 0 (by decide) (hts _ mbX3_figureAt_0) (fun _ h9 => h9) rfl dX3_figureAt_1 ?_
  refine lv_iload_n hx hb dX3_figureAt_4 rfl (lv_at hl 1 rfl) ?_
  obtain ⟨r, hc1, hr⟩ := bd1_some hr
  refine call_i (D := (dC, dI)) (tys := tysA cC cI cJ) (wc := [(a_T_text, .inr (7, [.ref a_T_text_letters, .int T_text_length])), (a_T_text_letters, .inl (cC, 200, .inl T_text_letters))]) (wr := [(a_T, .inr (3, [.ref a_T_text, .ref a_T_draft, .int T_next]))]) (w1 := [(a_T_text, .inr (7, [.ref a_T_text_letters, .int T_text_length])), (a_T_text_letters, .inl (cC, 200, .inl T_text_letters))]) (wn := [(a_T, .inr (3, [.ref a_T_text, .ref a_T_draft, .int T_next])), (a_T_text, .inr (7, [.ref a_T_text_letters, .int T_text_length])), (a_T_text_letters, .inl (cC, 200, .inl T_text_letters))]) (r0 := r) hP hD hS hA [1, 2] [0] [0, 1, 2] rfl rfl (by decide +kernel) (by decide +kernel) rfl (by decide +kernel) (va_runVN (C := RX7) (host := "BootsAtDawn") (As := [.int x1]) (rest := []) ⟨hx, hb, hml, hown, hts⟩ (kX7_letterAt l dC dI cC cI cJ H.size K a_T_text a_T_text_letters x1 T_text_length T_text_letters r hc1) ⟨va_cnB 1 hts gX3_figureAt_X7_letterAt_n37 rfl rfl rfl (hN _ nw_55) (hts _ mbX3_figureAt_2) (by decide +kernel) ⟨Nat.le_of_ble_eq_true rfl, Nat.le_of_ble_eq_true rfl⟩, (hts _ mbX3_figureAt_3), (hts _ mbX3_figureAt_4)⟩ ⟨fbW, va_recv hK hP (ci := 7) (q0 := 1) rfl rfl, preW hP hD hK hN [1, 2] rfl (by decide +kernel)⟩ rfl rfl hl.1 rfl (lv_room (Nat.le_of_ble_eq_true rfl)) dX3_figureAt_5 ⟨Nat.zero_le _, Nat.zero_le _⟩) (fun H locs hP hD hS => ?_)
  refine lv_istore_n (lv' := [(2, .int r), (0, .ref a_T), (1, .int x1)]) hx hb dX3_figureAt_8 rfl hl (by decide) rfl (fun ls hl => ?_)
  refine lv_iload_n hx hb dX3_figureAt_9 rfl (lv_at hl 0 rfl) ?_
  refine lv_bipush (v := 48) hx hb dX3_figureAt_10 (by decide) ?_
  refine lv_icmp_lt (tgt := 28) hx hb dX3_figureAt_12 (by decide) (fun c1 => ?_) (fun c1 => ?_)
  · replace hr := it_t hr c1
    refine lv_bipush (v := (-4)) hx hb dX3_figureAt_28 (by decide) ?_
    have he := Option.some.inj hr
    subst he
    subst hQ
    exact ret_i hx hb hrt hK hP hD hS hlocks dX3_figureAt_30
  · replace hr := it_f hr c1
    refine lv_iload_n hx hb dX3_figureAt_15 rfl (lv_at hl 0 rfl) ?_
    refine lv_bipush (v := 57) hx hb dX3_figureAt_16 (by decide) ?_
    refine lv_icmp_gt (tgt := 28) hx hb dX3_figureAt_18 (by decide) (fun c2 => ?_) (fun c2 => ?_)
    · replace hr := it_t hr c2
      refine lv_bipush (v := (-4)) hx hb dX3_figureAt_28 (by decide) ?_
      have he := Option.some.inj hr
      subst he
      subst hQ
      exact ret_i hx hb hrt hK hP hD hS hlocks dX3_figureAt_30
    · replace hr := it_f hr c2
      refine lv_iload_n hx hb dX3_figureAt_21 rfl (lv_at hl 0 rfl) ?_
      refine lv_bipush (v := 48) hx hb dX3_figureAt_22 (by decide) ?_
      refine lv_isub hx hb dX3_figureAt_24 ?_
      refine lv_goto (tgt := 30) hx hb dX3_figureAt_25 (by decide) ?_
      have he := Option.some.inj hr
      subst he
      subst hQ
      exact ret_i hx hb hrt hK hP hD hS hlocks dX3_figureAt_30
def fX3_readNumber (K : Nat) (T_next : Int32) (T_text_length : Int32) (T_text_letters : (Nat → Int32)) : Option (Int32 × Int32) :=
    bd1 (fX3_figureAt K T_next T_text_length T_text_letters) fun r =>
    if 0 ≤ (r : Int32) then (
    nm (T_next + 1) fun T_next_1 =>
    bd1 (fX3_figureAt K T_next_1 T_text_length T_text_letters) fun r_1 =>
    if (r_1 : Int32) < 0 then (
    some (r, T_next_1))
    else (
    nm ((10 * r) + r_1) fun x1 =>
    nm (T_next_1 + 1) fun T_next_2 =>
    some (x1, T_next_2)))
    else (
    some ((-4), T_next))
theorem mbX3_readNumber_0 : Cond.fieldLink RX3 24 "BootsAtDawn$Reader" "next" "I" ∈ wsX3_readNumber := List.mem_of_getElem? (i := 1) rfl
theorem inX3_readNumber_X3 : ∀ w ∈ u_ws RX3 TX3 3, w ∈ wsX3_readNumber := fun _ h => (List.mem_cons_of_mem _ (List.mem_append_left _ (List.mem_append_right _ h)))
abbrev rmX3_readNumber : Room := { frames := 2, cells := 0, slots := 0, locals := 43 }
set_option maxHeartbeats 8000000 in
set_option maxRecDepth 100000 in
theorem kX3_readNumber (l : Launch) (dC : Nat → ClassId) (dI : Nat → Nat → Nat) (cC cI cJ : ClassId) (sz : Nat) (K : Nat) (a_T a_T_text a_T_draft a_T_text_letters : Nat) (T_next : Int32) (T_text_length : Int32) (T_text_letters : (Nat → Int32)) (R : Int32 × Int32) (hr : fX3_readNumber K T_next T_text_length T_text_letters = some R) : Met l yX3_readNumber wsX3_readNumber rmX3_readNumber (va_Pc ([.ref a_T] : List Value) (PcW (dC, dI) (tysA cC cI cJ) sz [(a_T, .inr (3, [.ref a_T_text, .ref a_T_draft, .int T_next])), (a_T_text, .inr (7, [.ref a_T_text_letters, .int T_text_length])), (a_T_text_letters, .inl (cC, 200, .inl T_text_letters))])) (va_Qi (fun r (_ : Unit) => r = R.1) (fun _ => BW (dC, dI) (tysA cC cI cJ) (va_A [(a_T, .inr (3, [.ref a_T_text, .ref a_T_draft, .int T_next])), (a_T_text, .inr (7, [.ref a_T_text_letters, .int T_text_length])), (a_T_text_letters, .inl (cC, 200, .inl T_text_letters))] sz) [(a_T, .inr (3, [.ref a_T_text, .ref a_T_draft, .int R.2])), (a_T_text, .inr (7, [.ref a_T_text_letters, .int T_text_length])), (a_T_text_letters, .inl (cC, 200, .inl T_text_letters))]) (va_A [(a_T, .inr (3, [.ref a_T_text, .ref a_T_draft, .int T_next])), (a_T_text, .inr (7, [.ref a_T_text_letters, .int T_text_length])), (a_T_text_letters, .inl (cC, 200, .inl T_text_letters))] sz)) 0 0 (va_A [(a_T, .inr (3, [.ref a_T_text, .ref a_T_draft, .int T_next])), (a_T_text, .inr (7, [.ref a_T_text_letters, .int T_text_length])), (a_T_text_letters, .inl (cC, 200, .inl T_text_letters))] sz) := by
  refine Met.ofW (cc := cX3_readNumber) (maxL := 3) (ret := (some .int)) (by decide) rfl ?_
  intro p e s m args below meth c s₁ B hml hv
  obtain ⟨rfl, hsz, hP, hK, hD0, hN⟩ := hv
  have hx := B.exec
  have hb := B.bytes
  have hrt := B.returns
  have hts := atoms_spec (ws := wsX3_readNumber) B.pre
  have hown : s.vm.findClass RX3 = some m.cls := findClass_of_methodNamed B.named
  have hlocks := B.notSynchronized
  subst hsz
  have hD := hD0.self (sz := s.heap.size)
  generalize hAe : va_A [(a_T, .inr (3, [.ref a_T_text, .ref a_T_draft, .int T_next])), (a_T_text, .inr (7, [.ref a_T_text_letters, .int T_text_length])), (a_T_text_letters, .inl (cC, 200, .inl T_text_letters))] s.heap.size = A at hD ⊢
  have hA : ∀ q : Nat, s.heap.size ≤ q → A q := fun q h => by rw [← hAe]; exact Or.inr h
  have hS : va_S A s.heap s.heap [] := va_S.rf
  have hl := lv_entry ([.ref a_T] : List Value) (n := 3) (Nat.le_of_ble_eq_true rfl)
  rw [lg_entry_eq]
  generalize (lg_sl ([.ref a_T] : List Value) ++ List.replicate (3 - (lg_sl ([.ref a_T] : List Value)).length) Slot.unset).toArray = ls at hl ⊢
  replace hl : lv_has ls 3 [(0, .ref a_T)] := hl
  obtain ⟨Q, hQ⟩ : ∃ Q, Q = MQ below (va_Qi (fun r (_ : Unit) => r = R.1) (fun _ => BW (dC, dI) (tysA cC cI cJ) A [(a_T, .inr (3, [.ref a_T_text, .ref a_T_draft, .int R.2])), (a_T_text, .inr (7, [.ref a_T_text_letters, .int T_text_length])), (a_T_text_letters, .inl (cC, 200, .inl T_text_letters))]) A) ([.ref a_T] : List Value).toArray s 0 0 A := ⟨_, rfl⟩
  rw [← hQ]
  suffices hE : WG p l e rmX3_readNumber s m ([.ref a_T] : List Value).toArray below meth c 0 0 Q (dC, dI) A 0 3 [(a_T, .inr (3, [.ref a_T_text, .ref a_T_draft, .int T_next])), (a_T_text, .inr (7, [.ref a_T_text_letters, .int T_text_length])), (a_T_text_letters, .inl (cC, 200, .inl T_text_letters))] [(0, .ref a_T)] [] from hE _ _ _ hP hD hS hl
  clear hP hD hS hl hD0 hAe
  intro H locs ls hP hD hS hl
  unfold fX3_readNumber at hr
  refine lv_aload_n hx hb dX3_readNumber_0 rfl (lv_at hl 0 rfl) ?_
  refine lv_aload_n hx hb dX3_readNumber_1 rfl (lv_at hl 0 rfl) ?_
  refine va_get (D := (dC, dI)) (ci := 3) (v := .int T_next) (C := RX3) (T := TX3) (N := 3) hx hb hts inX3_readNumber_X3 hown hK hP 0 rfl rfl 2 (by decide) (hts _ mbX3_readNumber_0) (fun _ h9 => h9) rfl dX3_readNumber_2 ?_
  obtain ⟨r, hc1, hr⟩ := bd1_some hr
  refine call_i (D := (dC, dI)) (tys := tysA cC cI cJ) (wc := [(a_T, .inr (3, [.ref a_T_text, .ref a_T_draft, .int T_next])), (a_T_text, .inr (7, [.ref a_T_text_letters, .int T_text_length])), (a_T_text_letters, .inl (cC, 200, .inl T_text_letters))]) (wr := []) (w1 := [(a_T, .inr (3, [.ref a_T_text, .ref a_T_draft, .int T_next])), (a_T_text, .inr (7, [.ref a_T_text_letters, .int T_text_length])), (a_T_text_letters, .inl (cC, 200, .inl T_text_letters))]) (wn := [(a_T, .inr (3, [.ref a_T_text, .ref a_T_draft, .int T_next])), (a_T_text, .inr (7, [.ref a_T_text_letters, .int T_text_length])), (a_T_text_letters, .inl (cC, 200, .inl T_text_letters))]) (r0 := r) hP hD hS hA [0, 1, 2] [] [0, 1, 2] rfl rfl (by decide +kernel) (by decide +kernel) rfl (by decide +kernel) (va_runV (As := [.int T_next]) (rest := []) ⟨hx, hb, hml, hown, hts⟩ (kX3_figureAt l dC dI cC cI cJ H.size K a_T a_T_text a_T_draft a_T_text_letters T_next T_next T_text_length T_text_letters r hc1) (cwV 1 hts gX3_readNumber_X3_figureAt rfl rfl rfl (by decide +kernel) ⟨Nat.le_of_ble_eq_true rfl, Nat.le_of_ble_eq_true rfl⟩) ⟨fbW, va_recv hK hP (ci := 3) (q0 := 0) rfl rfl, preW hP hD hK hN [0, 1, 2] rfl (by decide +kernel)⟩ rfl rfl hl.1 rfl (lv_room (Nat.le_of_ble_eq_true rfl)) dX3_readNumber_5 ⟨Nat.zero_le _, Nat.zero_le _⟩) (fun H locs hP hD hS => ?_)
  refine lv_istore_n (lv' := [(1, .int r), (0, .ref a_T)]) hx hb dX3_readNumber_8 rfl hl (by decide) rfl (fun ls hl => ?_)
  refine lv_iload_n hx hb dX3_readNumber_9 rfl (lv_at hl 0 rfl) ?_
  refine lv_if_ge (tgt := 16) hx hb dX3_readNumber_10 (by decide) (fun c1 => ?_) (fun c1 => ?_)
  · replace hr := it_t hr c1
    refine lv_aload_n hx hb dX3_readNumber_16 rfl (lv_at hl 1 rfl) ?_
    refine lv_dup hx hb dX3_readNumber_17 rfl ?_
    refine va_get (D := (dC, dI)) (ci := 3) (v := .int T_next) (C := RX3) (T := TX3) (N := 3) hx hb hts inX3_readNumber_X3 hown hK hP 0 rfl rfl 2 (by decide) (hts _ mbX3_readNumber_0) (fun _ h9 => h9) rfl dX3_readNumber_18 ?_
    refine lv_iconst (v := 1) hx hb dX3_readNumber_21 (by decide) ?_
    refine lv_iadd hx hb dX3_readNumber_22 ?_
    obtain ⟨T_next_1, e1, hr⟩ := nm_el hr
    refine lv_nmi e1 ?_
    refine va_put (D := (dC, dI)) (ci := 3) (v := .int T_next_1) (ty := .int) (C := RX3) (T := TX3) (N := 3) hx hb hts inX3_readNumber_X3 tyX3 tyX3_ok nmX3 hown hK hP hD hS 0 rfl rfl 2 (by decide) (hts _ mbX3_readNumber_0) (fun _ h9 => h9) rfl (by decide +kernel) rfl rfl (Nat.le_of_ble_eq_true rfl) dX3_readNumber_23 (fun H locs hP hD hS => ?_)
    replace hP : va_P (dC, dI) vwCl [(a_T, .inr (3, [.ref a_T_text, .ref a_T_draft, .int T_next_1])), (a_T_text, .inr (7, [.ref a_T_text_letters, .int T_text_length])), (a_T_text_letters, .inl (cC, 200, .inl T_text_letters))] H := hP
    replace hD : va_D A [(a_T, .inr (3, [.ref a_T_text, .ref a_T_draft, .int T_next_1])), (a_T_text, .inr (7, [.ref a_T_text_letters, .int T_text_length])), (a_T_text_letters, .inl (cC, 200, .inl T_text_letters))] := hD
    refine lv_aload_n hx hb dX3_readNumber_26 rfl (lv_at hl 1 rfl) ?_
    refine lv_aload_n hx hb dX3_readNumber_27 rfl (lv_at hl 1 rfl) ?_
    refine va_get (D := (dC, dI)) (ci := 3) (v := .int T_next_1) (C := RX3) (T := TX3) (N := 3) hx hb hts inX3_readNumber_X3 hown hK hP 0 rfl rfl 2 (by decide) (hts _ mbX3_readNumber_0) (fun _ h9 => h9) rfl dX3_readNumber_28 ?_
    obtain ⟨r_1, hc2, hr⟩ := bd1_some hr
    refine call_i (D := (dC, dI)) (tys := tysA cC cI cJ) (wc := [(a_T, .inr (3, [.ref a_T_text, .ref a_T_draft, .int T_next_1])), (a_T_text, .inr (7, [.ref a_T_text_letters, .int T_text_length])), (a_T_text_letters, .inl (cC, 200, .inl T_text_letters))]) (wr := []) (w1 := [(a_T, .inr (3, [.ref a_T_text, .ref a_T_draft, .int T_next_1])), (a_T_text, .inr (7, [.ref a_T_text_letters, .int T_text_length])), (a_T_text_letters, .inl (cC, 200, .inl T_text_letters))]) (wn := [(a_T, .inr (3, [.ref a_T_text, .ref a_T_draft, .int T_next_1])), (a_T_text, .inr (7, [.ref a_T_text_letters, .int T_text_length])), (a_T_text_letters, .inl (cC, 200, .inl T_text_letters))]) (r0 := r_1) hP hD hS hA [0, 1, 2] [] [0, 1, 2] rfl rfl (by decide +kernel) (by decide +kernel) rfl (by decide +kernel) (va_runV (As := [.int T_next_1]) (rest := []) ⟨hx, hb, hml, hown, hts⟩ (kX3_figureAt l dC dI cC cI cJ H.size K a_T a_T_text a_T_draft a_T_text_letters T_next_1 T_next_1 T_text_length T_text_letters r_1 hc2) (cwV 1 hts gX3_readNumber_X3_figureAt rfl rfl rfl (by decide +kernel) ⟨Nat.le_of_ble_eq_true rfl, Nat.le_of_ble_eq_true rfl⟩) ⟨fbW, va_recv hK hP (ci := 3) (q0 := 0) rfl rfl, preW hP hD hK hN [0, 1, 2] rfl (by decide +kernel)⟩ rfl rfl hl.1 rfl (lv_room (Nat.le_of_ble_eq_true rfl)) dX3_readNumber_31 ⟨Nat.zero_le _, Nat.zero_le _⟩) (fun H locs hP hD hS => ?_)
    refine lv_istore_n (lv' := [(2, .int r_1), (1, .int r), (0, .ref a_T)]) hx hb dX3_readNumber_34 rfl hl (by decide) rfl (fun ls hl => ?_)
    refine lv_iload_n hx hb dX3_readNumber_35 rfl (lv_at hl 0 rfl) ?_
    refine lv_if_lt (tgt := 56) hx hb dX3_readNumber_36 (by decide) (fun c2 => ?_) (fun c2 => ?_)
    · replace hr := it_t hr c2
      refine lv_iload_n hx hb dX3_readNumber_56 rfl (lv_at hl 1 rfl) ?_
      have he := Option.some.inj hr
      subst he
      subst hQ
      exact ret_i hx hb hrt hK hP hD hS hlocks dX3_readNumber_57
    · replace hr := it_f hr c2
      refine lv_bipush (v := 10) hx hb dX3_readNumber_39 (by decide) ?_
      refine lv_iload_n hx hb dX3_readNumber_41 rfl (lv_at hl 1 rfl) ?_
      refine lv_imul hx hb dX3_readNumber_42 ?_
      refine lv_iload_n hx hb dX3_readNumber_43 rfl (lv_at hl 0 rfl) ?_
      refine lv_iadd hx hb dX3_readNumber_44 ?_
      obtain ⟨x1, e2, hr⟩ := nm_el hr
      refine lv_nmi e2 ?_
      refine lv_istore_n (lv' := [(1, .int x1), (2, .int r_1), (0, .ref a_T)]) hx hb dX3_readNumber_45 rfl hl (by decide) rfl (fun ls hl => ?_)
      refine lv_aload_n hx hb dX3_readNumber_46 rfl (lv_at hl 2 rfl) ?_
      refine lv_dup hx hb dX3_readNumber_47 rfl ?_
      refine va_get (D := (dC, dI)) (ci := 3) (v := .int T_next_1) (C := RX3) (T := TX3) (N := 3) hx hb hts inX3_readNumber_X3 hown hK hP 0 rfl rfl 2 (by decide) (hts _ mbX3_readNumber_0) (fun _ h9 => h9) rfl dX3_readNumber_48 ?_
      refine lv_iconst (v := 1) hx hb dX3_readNumber_51 (by decide) ?_
      refine lv_iadd hx hb dX3_readNumber_52 ?_
      obtain ⟨T_next_2, e3, hr⟩ := nm_el hr
      refine lv_nmi e3 ?_
      refine va_put (D := (dC, dI)) (ci := 3) (v := .int T_next_2) (ty := .int) (C := RX3) (T := TX3) (N := 3) hx hb hts inX3_readNumber_X3 tyX3 tyX3_ok nmX3 hown hK hP hD hS 0 rfl rfl 2 (by decide) (hts _ mbX3_readNumber_0) (fun _ h9 => h9) rfl (by decide +kernel) rfl rfl (Nat.le_of_ble_eq_true rfl) dX3_readNumber_53 (fun H locs hP hD hS => ?_)
      replace hP : va_P (dC, dI) vwCl [(a_T, .inr (3, [.ref a_T_text, .ref a_T_draft, .int T_next_2])), (a_T_text, .inr (7, [.ref a_T_text_letters, .int T_text_length])), (a_T_text_letters, .inl (cC, 200, .inl T_text_letters))] H := hP
      replace hD : va_D A [(a_T, .inr (3, [.ref a_T_text, .ref a_T_draft, .int T_next_2])), (a_T_text, .inr (7, [.ref a_T_text_letters, .int T_text_length])), (a_T_text_letters, .inl (cC, 200, .inl T_text_letters))] := hD
      refine lv_iload_n hx hb dX3_readNumber_56 rfl (lv_at hl 0 rfl) ?_
      have he := Option.some.inj hr
      subst he
      subst hQ
      exact ret_i hx hb hrt hK hP hD hS hlocks dX3_readNumber_57
  · replace hr := it_f hr c1
    refine lv_bipush (v := (-4)) hx hb dX3_readNumber_13 (by decide) ?_
    have he := Option.some.inj hr
    subst he
    subst hQ
    exact ret_i hx hb hrt hK hP hD hS hlocks dX3_readNumber_15
def fX3_readSign (K : Nat) (x1 : Int32) (T_next : Int32) (T_text_length : Int32) (T_text_letters : (Nat → Int32)) : Option (Int32 × Int32) :=
    bd1 (fX7_letterAt K T_next T_text_length T_text_letters) fun r =>
    bd1 (
    if (r : Int32) = x1 then (
    some 1)
    else (
    some 0)) fun y =>
    nm (T_next + 1) fun T_next_1 =>
    gd (vp_nar .boolean y = y) (
    some (y, T_next_1))
theorem mbX3_readSign_0 : Cond.fieldLink RX3 9 "BootsAtDawn$Reader" "text" "LBootsAtDawn$Text;" ∈ wsX3_readSign := List.mem_of_getElem? (i := 1) rfl
theorem inX3_readSign_X3 : ∀ w ∈ u_ws RX3 TX3 3, w ∈ wsX3_readSign := fun _ h => (List.mem_cons_of_mem _ (List.mem_append_left _ (List.mem_append_right _ h)))
theorem mbX3_readSign_2 : Cond.fieldLink RX3 24 "BootsAtDawn$Reader" "next" "I" ∈ wsX3_readSign := List.mem_of_getElem? (i := 2) rfl
theorem mbX3_readSign_3 : Cond.initialized RX7 ∈ wsX3_readSign := List.mem_of_getElem? (i := 4) rfl
theorem mbX3_readSign_4 : Cond.instanceMethod yX7_letterAt ∈ wsX3_readSign := List.mem_of_getElem? (i := 3) rfl
theorem mbX3_readSign_5 : Cond.selects RX7 yX7_letterAt yX7_letterAt ∈ wsX3_readSign := List.mem_of_getElem? (i := 5) rfl
abbrev rmX3_readSign : Room := { frames := 1, cells := 0, slots := 0, locals := 21 }
set_option maxHeartbeats 8000000 in
set_option maxRecDepth 100000 in
theorem kX3_readSign (l : Launch) (dC : Nat → ClassId) (dI : Nat → Nat → Nat) (cC cI cJ : ClassId) (sz : Nat) (K : Nat) (a_T a_T_text a_T_draft a_T_text_letters : Nat) (x1 : Int32) (T_next : Int32) (T_text_length : Int32) (T_text_letters : (Nat → Int32)) (R : Int32 × Int32) (hr : fX3_readSign K x1 T_next T_text_length T_text_letters = some R) : Met l yX3_readSign wsX3_readSign rmX3_readSign (va_Pc ([.ref a_T, .int x1] : List Value) (PcW (dC, dI) (tysA cC cI cJ) sz [(a_T, .inr (3, [.ref a_T_text, .ref a_T_draft, .int T_next])), (a_T_text, .inr (7, [.ref a_T_text_letters, .int T_text_length])), (a_T_text_letters, .inl (cC, 200, .inl T_text_letters))])) (va_Qi (fun r (_ : Unit) => r = R.1) (fun _ => BW (dC, dI) (tysA cC cI cJ) (va_A [(a_T, .inr (3, [.ref a_T_text, .ref a_T_draft, .int T_next])), (a_T_text, .inr (7, [.ref a_T_text_letters, .int T_text_length])), (a_T_text_letters, .inl (cC, 200, .inl T_text_letters))] sz) [(a_T, .inr (3, [.ref a_T_text, .ref a_T_draft, .int R.2])), (a_T_text, .inr (7, [.ref a_T_text_letters, .int T_text_length])), (a_T_text_letters, .inl (cC, 200, .inl T_text_letters))]) (va_A [(a_T, .inr (3, [.ref a_T_text, .ref a_T_draft, .int T_next])), (a_T_text, .inr (7, [.ref a_T_text_letters, .int T_text_length])), (a_T_text_letters, .inl (cC, 200, .inl T_text_letters))] sz)) 0 0 (va_A [(a_T, .inr (3, [.ref a_T_text, .ref a_T_draft, .int T_next])), (a_T_text, .inr (7, [.ref a_T_text_letters, .int T_text_length])), (a_T_text_letters, .inl (cC, 200, .inl T_text_letters))] sz) := by
  refine Met.ofW (cc := cX3_readSign) (maxL := 3) (ret := (some .boolean)) (by decide) rfl ?_
  intro p e s m args below meth c s₁ B hml hv
  obtain ⟨rfl, hsz, hP, hK, hD0, hN⟩ := hv
  have hx := B.exec
  have hb := B.bytes
  have hrt := B.returns
  have hts := atoms_spec (ws := wsX3_readSign) B.pre
  have hown : s.vm.findClass RX3 = some m.cls := findClass_of_methodNamed B.named
  have hlocks := B.notSynchronized
  subst hsz
  have hD := hD0.self (sz := s.heap.size)
  generalize hAe : va_A [(a_T, .inr (3, [.ref a_T_text, .ref a_T_draft, .int T_next])), (a_T_text, .inr (7, [.ref a_T_text_letters, .int T_text_length])), (a_T_text_letters, .inl (cC, 200, .inl T_text_letters))] s.heap.size = A at hD ⊢
  have hA : ∀ q : Nat, s.heap.size ≤ q → A q := fun q h => by rw [← hAe]; exact Or.inr h
  have hS : va_S A s.heap s.heap [] := va_S.rf
  have hl := lv_entry ([.ref a_T, .int x1] : List Value) (n := 3) (Nat.le_of_ble_eq_true rfl)
  rw [lg_entry_eq]
  generalize (lg_sl ([.ref a_T, .int x1] : List Value) ++ List.replicate (3 - (lg_sl ([.ref a_T, .int x1] : List Value)).length) Slot.unset).toArray = ls at hl ⊢
  replace hl : lv_has ls 3 [(0, .ref a_T), (1, .int x1)] := hl
  obtain ⟨Q, hQ⟩ : ∃ Q, Q = MQ below (va_Qi (fun r (_ : Unit) => r = R.1) (fun _ => BW (dC, dI) (tysA cC cI cJ) A [(a_T, .inr (3, [.ref a_T_text, .ref a_T_draft, .int R.2])), (a_T_text, .inr (7, [.ref a_T_text_letters, .int T_text_length])), (a_T_text_letters, .inl (cC, 200, .inl T_text_letters))]) A) ([.ref a_T, .int x1] : List Value).toArray s 0 0 A := ⟨_, rfl⟩
  rw [← hQ]
  suffices hE : WG p l e rmX3_readSign s m ([.ref a_T, .int x1] : List Value).toArray below meth c 0 0 Q (dC, dI) A 0 3 [(a_T, .inr (3, [.ref a_T_text, .ref a_T_draft, .int T_next])), (a_T_text, .inr (7, [.ref a_T_text_letters, .int T_text_length])), (a_T_text_letters, .inl (cC, 200, .inl T_text_letters))] [(0, .ref a_T), (1, .int x1)] [] from hE _ _ _ hP hD hS hl
  clear hP hD hS hl hD0 hAe
  intro H locs ls hP hD hS hl
  unfold fX3_readSign at hr
  refine lv_aload_n hx hb dX3_readSign_0 rfl (lv_at hl 0 rfl) ?_
  refine va_get (D := (dC, dI)) (ci := 3) (v := .ref a_T_text) (C := RX3) (T := TX3) (N := 3) hx hb hts inX3_readSign_X3 hown hK hP 0 rfl rfl 0 (by decide) (hts _ mbX3_readSign_0) (fun _ h9 => h9) rfl dX3_readSign_1 ?_
  refine lv_aload_n hx hb dX3_readSign_4 rfl (lv_at hl 0 rfl) ?_
  refine va_get (D := (dC, dI)) (ci := 3) (v := .int T_next) (C := RX3) (T := TX3) (N := 3) hx hb hts inX3_readSign_X3 hown hK hP 0 rfl rfl 2 (by decide) (hts _ mbX3_readSign_2) (fun _ h9 => h9) rfl dX3_readSign_5 ?_
  obtain ⟨r, hc1, hr⟩ := bd1_some hr
  refine call_i (D := (dC, dI)) (tys := tysA cC cI cJ) (wc := [(a_T_text, .inr (7, [.ref a_T_text_letters, .int T_text_length])), (a_T_text_letters, .inl (cC, 200, .inl T_text_letters))]) (wr := [(a_T, .inr (3, [.ref a_T_text, .ref a_T_draft, .int T_next]))]) (w1 := [(a_T_text, .inr (7, [.ref a_T_text_letters, .int T_text_length])), (a_T_text_letters, .inl (cC, 200, .inl T_text_letters))]) (wn := [(a_T, .inr (3, [.ref a_T_text, .ref a_T_draft, .int T_next])), (a_T_text, .inr (7, [.ref a_T_text_letters, .int T_text_length])), (a_T_text_letters, .inl (cC, 200, .inl T_text_letters))]) (r0 := r) hP hD hS hA [1, 2] [0] [0, 1, 2] rfl rfl (by decide +kernel) (by decide +kernel) rfl (by decide +kernel) (va_runVN (C := RX7) (host := "BootsAtDawn") (As := [.int T_next]) (rest := []) ⟨hx, hb, hml, hown, hts⟩ (kX7_letterAt l dC dI cC cI cJ H.size K a_T_text a_T_text_letters T_next T_text_length T_text_letters r hc1) ⟨va_cnB 1 hts gX3_readSign_X7_letterAt_n37 rfl rfl rfl (hN _ nw_55) (hts _ mbX3_readSign_3) (by decide +kernel) ⟨Nat.le_of_ble_eq_true rfl, Nat.le_of_ble_eq_true rfl⟩, (hts _ mbX3_readSign_4), (hts _ mbX3_readSign_5)⟩ ⟨fbW, va_recv hK hP (ci := 7) (q0 := 1) rfl rfl, preW hP hD hK hN [1, 2] rfl (by decide +kernel)⟩ rfl rfl hl.1 rfl (lv_room (Nat.le_of_ble_eq_true rfl)) dX3_readSign_8 ⟨Nat.zero_le _, Nat.zero_le _⟩) (fun H locs hP hD hS => ?_)
  refine lv_iload_n hx hb dX3_readSign_11 rfl (lv_at hl 1 rfl) ?_
  obtain ⟨y, hj1, hr⟩ := bd1_some hr
  have hJ1 : WG p l e rmX3_readSign s m ([.ref a_T, .int x1] : List Value).toArray below meth c 0 0 Q (dC, dI) A 20 3 [(a_T, .inr (3, [.ref a_T_text, .ref a_T_draft, .int T_next])), (a_T_text, .inr (7, [.ref a_T_text_letters, .int T_text_length])), (a_T_text_letters, .inl (cC, 200, .inl T_text_letters))] [(0, .ref a_T)] [.int y] := by
    intro H locs ls hP hD hS hl
    refine lv_istore_n (lv' := [(2, .int y), (0, .ref a_T)]) hx hb dX3_readSign_20 rfl hl (by decide) rfl (fun ls hl => ?_)
    refine lv_aload_n hx hb dX3_readSign_21 rfl (lv_at hl 1 rfl) ?_
    refine lv_dup hx hb dX3_readSign_22 rfl ?_
    refine va_get (D := (dC, dI)) (ci := 3) (v := .int T_next) (C := RX3) (T := TX3) (N := 3) hx hb hts inX3_readSign_X3 hown hK hP 0 rfl rfl 2 (by decide) (hts _ mbX3_readSign_2) (fun _ h9 => h9) rfl dX3_readSign_23 ?_
    refine lv_iconst (v := 1) hx hb dX3_readSign_26 (by decide) ?_
    refine lv_iadd hx hb dX3_readSign_27 ?_
    obtain ⟨T_next_1, e1, hr⟩ := nm_el hr
    refine lv_nmi e1 ?_
    refine va_put (D := (dC, dI)) (ci := 3) (v := .int T_next_1) (ty := .int) (C := RX3) (T := TX3) (N := 3) hx hb hts inX3_readSign_X3 tyX3 tyX3_ok nmX3 hown hK hP hD hS 0 rfl rfl 2 (by decide) (hts _ mbX3_readSign_2) (fun _ h9 => h9) rfl (by decide +kernel) rfl rfl (Nat.le_of_ble_eq_true rfl) dX3_readSign_28 (fun H locs hP hD hS => ?_)
    replace hP : va_P (dC, dI) vwCl [(a_T, .inr (3, [.ref a_T_text, .ref a_T_draft, .int T_next_1])), (a_T_text, .inr (7, [.ref a_T_text_letters, .int T_text_length])), (a_T_text_letters, .inl (cC, 200, .inl T_text_letters))] H := hP
    replace hD : va_D A [(a_T, .inr (3, [.ref a_T_text, .ref a_T_draft, .int T_next_1])), (a_T_text, .inr (7, [.ref a_T_text_letters, .int T_text_length])), (a_T_text_letters, .inl (cC, 200, .inl T_text_letters))] := hD
    refine lv_iload_n hx hb dX3_readSign_31 rfl (lv_at hl 0 rfl) ?_
    obtain ⟨g1, hr⟩ := gd_some hr
    have he := Option.some.inj hr
    subst he
    subst hQ
    exact ret_z hx hb hrt (vp_narZ g1) hK hP hD hS hlocks dX3_readSign_32
  replace hr := hj1
  refine lv_icmp_ne (tgt := 19) hx hb dX3_readSign_12 (by decide) (fun c1 => ?_) (fun c1 => ?_)
  · replace hr := it_f hr c1
    refine lv_iconst (v := 0) hx hb dX3_readSign_19 (by decide) ?_
    cases hr
    exact hJ1 H locs ls hP hD hS (lv_sub hl [0] rfl)
  · replace hr := it_t hr c1
    refine lv_iconst (v := 1) hx hb dX3_readSign_15 (by decide) ?_
    refine lv_goto (tgt := 20) hx hb dX3_readSign_16 (by decide) ?_
    cases hr
    exact hJ1 H locs ls hP hD hS (lv_sub hl [0] rfl)
def fX5_addGuest (K : Nat) (x1 : Int32) (x2 : Int32) (T_guests : Int32) (T_guestKind : (Nat → Int32)) (T_guestFloor : (Nat → Int32)) : Option (Int32 × Int32 × (Nat → Int32) × (Nat → Int32)) :=
    if 6 ≤ (T_guests : Int32) then (
    some (0, T_guests, T_guestKind, T_guestFloor))
    else (
    if 3 < (x1 : Int32) then (
    some (0, T_guests, T_guestKind, T_guestFloor))
    else (
    if (x2 : Int32) ≤ 9 then (
    bd1 (fX8_put K 6 T_guests x1 T_guestKind) fun T_guestKind_1 =>
    bd1 (fX8_put K 6 T_guests x2 T_guestFloor) fun T_guestFloor_1 =>
    nm (T_guests + 1) fun T_guests_1 =>
    some (1, T_guests_1, T_guestKind_1, T_guestFloor_1))
    else (
    some (0, T_guests, T_guestKind, T_guestFloor))))
theorem mbX5_addGuest_0 : Cond.fieldLink RX5 30 "BootsAtDawn$Slate" "guests" "I" ∈ wsX5_addGuest := List.mem_of_getElem? (i := 1) rfl
theorem inX5_addGuest_X5 : ∀ w ∈ u_ws RX5 TX5 9, w ∈ wsX5_addGuest := fun _ h => (List.mem_cons_of_mem _ (List.mem_append_right _ h))
theorem mbX5_addGuest_2 : Cond.fieldLink RX5 9 "BootsAtDawn$Slate" "guestKind" "[I" ∈ wsX5_addGuest := List.mem_of_getElem? (i := 2) rfl
theorem mbX5_addGuest_3 : Cond.initialized RX8 ∈ wsX5_addGuest := List.mem_of_getElem? (i := 5) rfl
theorem mbX5_addGuest_4 : Cond.static yX8_put ∈ wsX5_addGuest := List.mem_of_getElem? (i := 4) rfl
theorem mbX5_addGuest_5 : Cond.fieldLink RX5 15 "BootsAtDawn$Slate" "guestFloor" "[I" ∈ wsX5_addGuest := List.mem_of_getElem? (i := 3) rfl
abbrev rmX5_addGuest : Room := { frames := 1, cells := 0, slots := 0, locals := 22 }
set_option maxHeartbeats 8000000 in
set_option maxRecDepth 100000 in
theorem kX5_addGuest (l : Launch) (dC : Nat → ClassId) (dI : Nat → Nat → Nat) (cC cI cJ : ClassId) (sz : Nat) (K : Nat) (a_T a_T_guestKind a_T_guestFloor a_T_wishKind a_T_wishA a_T_wishB a_T_wishNames : Nat) (x1 : Int32) (x2 : Int32) (T_guests : Int32) (T_wishes : Int32) (T_start : Int32) (T_guestKind : (Nat → Int32)) (T_guestFloor : (Nat → Int32)) (R : Int32 × Int32 × (Nat → Int32) × (Nat → Int32)) (hr : fX5_addGuest K x1 x2 T_guests T_guestKind T_guestFloor = some R) : Met l yX5_addGuest wsX5_addGuest rmX5_addGuest (va_Pc ([.ref a_T, .int x1, .int x2] : List Value) (PcW (dC, dI) (tysA cC cI cJ) sz [(a_T, .inr (5, [.ref a_T_guestKind, .ref a_T_guestFloor, .ref a_T_wishKind, .ref a_T_wishA, .ref a_T_wishB, .ref a_T_wishNames, .int T_guests, .int T_wishes, .int T_start])), (a_T_guestKind, .inl (cI, 6, .inl T_guestKind)), (a_T_guestFloor, .inl (cI, 6, .inl T_guestFloor))])) (va_Qi (fun r (_ : Unit) => r = R.1) (fun _ => BW (dC, dI) (tysA cC cI cJ) (va_A [(a_T, .inr (5, [.ref a_T_guestKind, .ref a_T_guestFloor, .ref a_T_wishKind, .ref a_T_wishA, .ref a_T_wishB, .ref a_T_wishNames, .int T_guests, .int T_wishes, .int T_start])), (a_T_guestKind, .inl (cI, 6, .inl T_guestKind)), (a_T_guestFloor, .inl (cI, 6, .inl T_guestFloor))] sz) [(a_T, .inr (5, [.ref a_T_guestKind, .ref a_T_guestFloor, .ref a_T_wishKind, .ref a_T_wishA, .ref a_T_wishB, .ref a_T_wishNames, .int R.2.1, .int T_wishes, .int T_start])), (a_T_guestKind, .inl (cI, 6, .inl R.2.2.1)), (a_T_guestFloor, .inl (cI, 6, .inl R.2.2.2))]) (va_A [(a_T, .inr (5, [.ref a_T_guestKind, .ref a_T_guestFloor, .ref a_T_wishKind, .ref a_T_wishA, .ref a_T_wishB, .ref a_T_wishNames, .int T_guests, .int T_wishes, .int T_start])), (a_T_guestKind, .inl (cI, 6, .inl T_guestKind)), (a_T_guestFloor, .inl (cI, 6, .inl T_guestFloor))] sz)) 0 0 (va_A [(a_T, .inr (5, [.ref a_T_guestKind, .ref a_T_guestFloor, .ref a_T_wishKind, .ref a_T_wishA, .ref a_T_wishB, .ref a_T_wishNames, .int T_guests, .int T_wishes, .int T_start])), (a_T_guestKind, .inl (cI, 6, .inl T_guestKind)), (a_T_guestFloor, .inl (cI, 6, .inl T_guestFloor))] sz) := by
  refine Met.ofW (cc := cX5_addGuest) (maxL := 3) (ret := (some .boolean)) (by decide) rfl ?_
  intro p e s m args below meth c s₁ B hml hv
  obtain ⟨rfl, hsz, hP, hK, hD0, hN⟩ := hv
  have hx := B.exec
  have hb := B.bytes
  have hrt := B.returns
  have hts := atoms_spec (ws := wsX5_addGuest) B.pre
  have hown : s.vm.findClass RX5 = some m.cls := findClass_of_methodNamed B.named
  have hlocks := B.notSynchronized
  subst hsz
  have hD := hD0.self (sz := s.heap.size)
  generalize hAe : va_A [(a_T, .inr (5, [.ref a_T_guestKind, .ref a_T_guestFloor, .ref a_T_wishKind, .ref a_T_wishA, .ref a_T_wishB, .ref a_T_wishNames, .int T_guests, .int T_wishes, .int T_start])), (a_T_guestKind, .inl (cI, 6, .inl T_guestKind)), (a_T_guestFloor, .inl (cI, 6, .inl T_guestFloor))] s.heap.size = A at hD ⊢
  have hA : ∀ q : Nat, s.heap.size ≤ q → A q := fun q h => by rw [← hAe]; exact Or.inr h
  have hS : va_S A s.heap s.heap [] := va_S.rf
  have hl := lv_entry ([.ref a_T, .int x1, .int x2] : List Value) (n := 3) (Nat.le_of_ble_eq_true rfl)
  rw [lg_entry_eq]
  generalize (lg_sl ([.ref a_T, .int x1, .int x2] : List Value) ++ List.replicate (3 - (lg_sl ([.ref a_T, .int x1, .int x2] : List Value)).length) Slot.unset).toArray = ls at hl ⊢
  replace hl : lv_has ls 3 [(0, .ref a_T), (1, .int x1), (2, .int x2)] := hl
  obtain ⟨Q, hQ⟩ : ∃ Q, Q = MQ below (va_Qi (fun r (_ : Unit) => r = R.1) (fun _ => BW (dC, dI) (tysA cC cI cJ) A [(a_T, .inr (5, [.ref a_T_guestKind, .ref a_T_guestFloor, .ref a_T_wishKind, .ref a_T_wishA, .ref a_T_wishB, .ref a_T_wishNames, .int R.2.1, .int T_wishes, .int T_start])), (a_T_guestKind, .inl (cI, 6, .inl R.2.2.1)), (a_T_guestFloor, .inl (cI, 6, .inl R.2.2.2))]) A) ([.ref a_T, .int x1, .int x2] : List Value).toArray s 0 0 A := ⟨_, rfl⟩
  rw [← hQ]
  suffices hE : WG p l e rmX5_addGuest s m ([.ref a_T, .int x1, .int x2] : List Value).toArray below meth c 0 0 Q (dC, dI) A 0 3 [(a_T, .inr (5, [.ref a_T_guestKind, .ref a_T_guestFloor, .ref a_T_wishKind, .ref a_T_wishA, .ref a_T_wishB, .ref a_T_wishNames, .int T_guests, .int T_wishes, .int T_start])), (a_T_guestKind, .inl (cI, 6, .inl T_guestKind)), (a_T_guestFloor, .inl (cI, 6, .inl T_guestFloor))] [(0, .ref a_T), (1, .int x1), (2, .int x2)] [] from hE _ _ _ hP hD hS hl
  clear hP hD hS hl hD0 hAe
  intro H locs ls hP hD hS hl
  unfold fX5_addGuest at hr
  refine lv_aload_n hx hb dX5_addGuest_0 rfl (lv_at hl 0 rfl) ?_
  refine va_get (D := (dC, dI)) (ci := 5) (v := .int T_guests) (C := RX5) (T := TX5) (N := 9) hx hb hts inX5_addGuest_X5 hown hK hP 0 rfl rfl 6 (by decide) (hts _ mbX5_addGuest_0) (fun _ h9 => h9) rfl dX5_addGuest_1 ?_
  refine lv_bipush (v := 6) hx hb dX5_addGuest_4 (by decide) ?_
  refine lv_icmp_ge (tgt := 20) hx hb dX5_addGuest_6 (by decide) (fun c1 => ?_) (fun c1 => ?_)
  · replace hr := it_t hr c1
    refine lv_iconst (v := 0) hx hb dX5_addGuest_20 (by decide) ?_
    have he := Option.some.inj hr
    subst he
    subst hQ
    exact ret_z hx hb hrt (show narrow .boolean (.int 0) = .int 0 from rfl) hK hP hD hS hlocks dX5_addGuest_21
  · replace hr := it_f hr c1
    refine lv_iload_n hx hb dX5_addGuest_9 rfl (lv_at hl 1 rfl) ?_
    refine lv_iconst (v := 3) hx hb dX5_addGuest_10 (by decide) ?_
    refine lv_icmp_gt (tgt := 20) hx hb dX5_addGuest_11 (by decide) (fun c2 => ?_) (fun c2 => ?_)
    · replace hr := it_t hr c2
      refine lv_iconst (v := 0) hx hb dX5_addGuest_20 (by decide) ?_
      have he := Option.some.inj hr
      subst he
      subst hQ
      exact ret_z hx hb hrt (show narrow .boolean (.int 0) = .int 0 from rfl) hK hP hD hS hlocks dX5_addGuest_21
    · replace hr := it_f hr c2
      refine lv_iload_n hx hb dX5_addGuest_14 rfl (lv_at hl 2 rfl) ?_
      refine lv_bipush (v := 9) hx hb dX5_addGuest_15 (by decide) ?_
      refine lv_icmp_le (tgt := 22) hx hb dX5_addGuest_17 (by decide) (fun c3 => ?_) (fun c3 => ?_)
      · replace hr := it_t hr c3
        refine lv_aload_n hx hb dX5_addGuest_22 rfl (lv_at hl 0 rfl) ?_
        refine va_get (D := (dC, dI)) (ci := 5) (v := .ref a_T_guestKind) (C := RX5) (T := TX5) (N := 9) hx hb hts inX5_addGuest_X5 hown hK hP 0 rfl rfl 0 (by decide) (hts _ mbX5_addGuest_2) (fun _ h9 => h9) rfl dX5_addGuest_23 ?_
        refine lv_aload_n hx hb dX5_addGuest_26 rfl (lv_at hl 0 rfl) ?_
        refine va_get (D := (dC, dI)) (ci := 5) (v := .int T_guests) (C := RX5) (T := TX5) (N := 9) hx hb hts inX5_addGuest_X5 hown hK hP 0 rfl rfl 6 (by decide) (hts _ mbX5_addGuest_0) (fun _ h9 => h9) rfl dX5_addGuest_27 ?_
        refine lv_iload_n hx hb dX5_addGuest_30 rfl (lv_at hl 1 rfl) ?_
        obtain ⟨T_guestKind_1, hc1, hr⟩ := bd1_some hr
        refine call_v (D := (dC, dI)) (tys := tysA cC cI cJ) (wc := [(a_T_guestKind, .inl (cI, 6, .inl T_guestKind))]) (wr := [(a_T, .inr (5, [.ref a_T_guestKind, .ref a_T_guestFloor, .ref a_T_wishKind, .ref a_T_wishA, .ref a_T_wishB, .ref a_T_wishNames, .int T_guests, .int T_wishes, .int T_start])), (a_T_guestFloor, .inl (cI, 6, .inl T_guestFloor))]) (w1 := [(a_T_guestKind, .inl (cI, 6, .inl T_guestKind_1))]) (wn := [(a_T, .inr (5, [.ref a_T_guestKind, .ref a_T_guestFloor, .ref a_T_wishKind, .ref a_T_wishA, .ref a_T_wishB, .ref a_T_wishNames, .int T_guests, .int T_wishes, .int T_start])), (a_T_guestKind, .inl (cI, 6, .inl T_guestKind_1)), (a_T_guestFloor, .inl (cI, 6, .inl T_guestFloor))]) hP hD hS hA [1] [0, 2] [0, 2, 1] rfl rfl (by decide +kernel) (by decide +kernel) rfl (by decide +kernel) (va_runSN (host := "BootsAtDawn") (As := [.ref a_T_guestKind, .int T_guests, .int x1]) (rest := []) ⟨hx, hb, hml, hown, hts⟩ (kX8_put l dC dI cC cI cJ H.size K a_T_guestKind 6 T_guests x1 T_guestKind T_guestKind_1 hc1) ⟨va_cnB 3 hts gX5_addGuest_X8_put_n40 rfl rfl rfl (hN _ nw_57) (hts _ mbX5_addGuest_3) (by decide +kernel) ⟨Nat.le_of_ble_eq_true rfl, Nat.le_of_ble_eq_true rfl⟩, (hts _ mbX5_addGuest_4), trivial⟩ ⟨fbW, preW hP hD hK hN [1] rfl (by decide +kernel)⟩ rfl rfl hl.1 rfl (lv_room (Nat.le_of_ble_eq_true rfl)) dX5_addGuest_31 ⟨Nat.zero_le _, Nat.zero_le _⟩) (fun H locs hP hD hS => ?_)
        refine lv_aload_n hx hb dX5_addGuest_34 rfl (lv_at hl 0 rfl) ?_
        refine va_get (D := (dC, dI)) (ci := 5) (v := .ref a_T_guestFloor) (C := RX5) (T := TX5) (N := 9) hx hb hts inX5_addGuest_X5 hown hK hP 0 rfl rfl 1 (by decide) (hts _ mbX5_addGuest_5) (fun _ h9 => h9) rfl dX5_addGuest_35 ?_
        refine lv_aload_n hx hb dX5_addGuest_38 rfl (lv_at hl 0 rfl) ?_
        refine va_get (D := (dC, dI)) (ci := 5) (v := .int T_guests) (C := RX5) (T := TX5) (N := 9) hx hb hts inX5_addGuest_X5 hown hK hP 0 rfl rfl 6 (by decide) (hts _ mbX5_addGuest_0) (fun _ h9 => h9) rfl dX5_addGuest_39 ?_
        refine lv_iload_n hx hb dX5_addGuest_42 rfl (lv_at hl 2 rfl) ?_
        obtain ⟨T_guestFloor_1, hc2, hr⟩ := bd1_some hr
        refine call_v (D := (dC, dI)) (tys := tysA cC cI cJ) (wc := [(a_T_guestFloor, .inl (cI, 6, .inl T_guestFloor))]) (wr := [(a_T, .inr (5, [.ref a_T_guestKind, .ref a_T_guestFloor, .ref a_T_wishKind, .ref a_T_wishA, .ref a_T_wishB, .ref a_T_wishNames, .int T_guests, .int T_wishes, .int T_start])), (a_T_guestKind, .inl (cI, 6, .inl T_guestKind_1))]) (w1 := [(a_T_guestFloor, .inl (cI, 6, .inl T_guestFloor_1))]) (wn := [(a_T, .inr (5, [.ref a_T_guestKind, .ref a_T_guestFloor, .ref a_T_wishKind, .ref a_T_wishA, .ref a_T_wishB, .ref a_T_wishNames, .int T_guests, .int T_wishes, .int T_start])), (a_T_guestKind, .inl (cI, 6, .inl T_guestKind_1)), (a_T_guestFloor, .inl (cI, 6, .inl T_guestFloor_1))]) hP hD hS hA [2] [0, 1] [0, 1, 2] rfl rfl (by decide +kernel) (by decide +kernel) rfl (by decide +kernel) (va_runSN (host := "BootsAtDawn") (As := [.ref a_T_guestFloor, .int T_guests, .int x2]) (rest := []) ⟨hx, hb, hml, hown, hts⟩ (kX8_put l dC dI cC cI cJ H.size K a_T_guestFloor 6 T_guests x2 T_guestFloor T_guestFloor_1 hc2) ⟨va_cnB 3 hts gX5_addGuest_X8_put_n40 rfl rfl rfl (hN _ nw_57) (hts _ mbX5_addGuest_3) (by decide +kernel) ⟨Nat.le_of_ble_eq_true rfl, Nat.le_of_ble_eq_true rfl⟩, (hts _ mbX5_addGuest_4), trivial⟩ ⟨fbW, preW hP hD hK hN [2] rfl (by decide +kernel)⟩ rfl rfl hl.1 rfl (lv_room (Nat.le_of_ble_eq_true rfl)) dX5_addGuest_43 ⟨Nat.zero_le _, Nat.zero_le _⟩) (fun H locs hP hD hS => ?_)
        refine lv_aload_n hx hb dX5_addGuest_46 rfl (lv_at hl 0 rfl) ?_
        refine lv_dup hx hb dX5_addGuest_47 rfl ?_
        refine va_get (D := (dC, dI)) (ci := 5) (v := .int T_guests) (C := RX5) (T := TX5) (N := 9) hx hb hts inX5_addGuest_X5 hown hK hP 0 rfl rfl 6 (by decide) (hts _ mbX5_addGuest_0) (fun _ h9 => h9) rfl dX5_addGuest_48 ?_
        refine lv_iconst (v := 1) hx hb dX5_addGuest_51 (by decide) ?_
        refine lv_iadd hx hb dX5_addGuest_52 ?_
        obtain ⟨T_guests_1, e1, hr⟩ := nm_el hr
        refine lv_nmi e1 ?_
        refine va_put (D := (dC, dI)) (ci := 5) (v := .int T_guests_1) (ty := .int) (C := RX5) (T := TX5) (N := 9) hx hb hts inX5_addGuest_X5 tyX5 tyX5_ok nmX5 hown hK hP hD hS 0 rfl rfl 6 (by decide) (hts _ mbX5_addGuest_0) (fun _ h9 => h9) rfl (by decide +kernel) rfl rfl (Nat.le_of_ble_eq_true rfl) dX5_addGuest_53 (fun H locs hP hD hS => ?_)
        replace hP : va_P (dC, dI) vwCl [(a_T, .inr (5, [.ref a_T_guestKind, .ref a_T_guestFloor, .ref a_T_wishKind, .ref a_T_wishA, .ref a_T_wishB, .ref a_T_wishNames, .int T_guests_1, .int T_wishes, .int T_start])), (a_T_guestKind, .inl (cI, 6, .inl T_guestKind_1)), (a_T_guestFloor, .inl (cI, 6, .inl T_guestFloor_1))] H := hP
        replace hD : va_D A [(a_T, .inr (5, [.ref a_T_guestKind, .ref a_T_guestFloor, .ref a_T_wishKind, .ref a_T_wishA, .ref a_T_wishB, .ref a_T_wishNames, .int T_guests_1, .int T_wishes, .int T_start])), (a_T_guestKind, .inl (cI, 6, .inl T_guestKind_1)), (a_T_guestFloor, .inl (cI, 6, .inl T_guestFloor_1))] := hD
        refine lv_iconst (v := 1) hx hb dX5_addGuest_56 (by decide) ?_
        have he := Option.some.inj hr
        subst he
        subst hQ
        exact ret_z hx hb hrt (show narrow .boolean (.int 1) = .int 1 from rfl) hK hP hD hS hlocks dX5_addGuest_57
      · replace hr := it_f hr c3
        refine lv_iconst (v := 0) hx hb dX5_addGuest_20 (by decide) ?_
        have he := Option.some.inj hr
        subst he
        subst hQ
        exact ret_z hx hb hrt (show narrow .boolean (.int 0) = .int 0 from rfl) hK hP hD hS hlocks dX5_addGuest_21
