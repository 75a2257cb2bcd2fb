def fX8_two_L25 (K : Nat) (T_tonight_here : Int32) (T_tonight_floors : (Nat → Int32)) (T_slate_start : Int32) (T_slate_guestKind : (Nat → Int32)) : Nat → Int32 → Int32 → Int32 → Option (Int32 × Int32)
  | 0, _, _, _ => none
  | n1 + 1, x2, x3, x4 =>
    if 64 ≤ (x4 : Int32) then (
    some (x2, x3))
    else (
    bd1 (
    if ((x4 &&& (T_tonight_here ^^^ (-1))) : Int32) = 0 then (
    some 1)
    else (
    some 0)) fun y =>
    bd1 (fX1_laterEnd K x4 T_tonight_here T_tonight_floors T_slate_start T_slate_guestKind) fun r_1 =>
    bd2 (
    if (y : Int32) = 0 then (
    some (x2, x3))
    else (
    if x3 ≤ (r_1 : Int32) then (
    some (x2, x3))
    else (
    some (x4, r_1)))) fun x2_2 x3_2 =>
    nm (x4 + 1) fun x4_1 =>
    fX8_two_L25 K T_tonight_here T_tonight_floors T_slate_start T_slate_guestKind n1 x2_2 x3_2 x4_1)
def fX8_two (K : Nat) (x1 : Int32) (T_tonight_here : Int32) (T_tonight_floors : (Nat → Int32)) (T_slate_start : Int32) (T_slate_guestKind : (Nat → Int32)) : Option (Int32) :=
    if (x1 : Int32) < 0 then (
    some (-1))
    else (
    if (x1 : Int32) ≤ 1 then (
    bd1 (fX1_laterEnd K 0 T_tonight_here T_tonight_floors T_slate_start T_slate_guestKind) fun r =>
    bd2 (fX8_two_L25 K T_tonight_here T_tonight_floors T_slate_start T_slate_guestKind K 0 r 1) fun x2_1 x3_1 =>
    if (x1 : Int32) = 0 then (
    some x3_1)
    else (
    some x2_1))
    else (
    some (-1)))
theorem mbX8_two_0 : Cond.fieldLink RX8 40 "BootsAtDawn" "tonight" "LBootsAtDawn$Night;" ∈ wsX8_two := List.mem_of_getElem? (i := 1) rfl
theorem inX8_two_X8 : ∀ w ∈ u_ws RX8 TX8 13, w ∈ wsX8_two := fun _ h => (List.mem_cons_of_mem _ (List.mem_append_left _ (List.mem_append_left _ (List.mem_append_right _ h))))
theorem mbX8_two_2 : Cond.initialized RX1 ∈ wsX8_two := List.mem_of_getElem? (i := 3) rfl
theorem mbX8_two_3 : Cond.instanceMethod yX1_laterEnd ∈ wsX8_two := List.mem_of_getElem? (i := 2) rfl
theorem mbX8_two_4 : Cond.selects RX1 yX1_laterEnd yX1_laterEnd ∈ wsX8_two := List.mem_of_getElem? (i := 4) rfl
theorem inX8_two_X1 : ∀ w ∈ u_ws RX1 TX1 4, w ∈ wsX8_two := fun _ h => (List.mem_cons_of_mem _ (List.mem_append_left _ (List.mem_append_right _ h)))
abbrev rmX8_two : Room := { frames := 4, cells := 0, slots := 0, locals := 87 }
set_option maxHeartbeats 8000000 in
set_option maxRecDepth 100000 in
theorem kX8_two (l : Launch) (dC : Nat → ClassId) (dI : Nat → Nat → Nat) (cC cI cJ : ClassId) (sz : Nat) (K : Nat) (a_T a_T_text a_T_draft a_T_reader a_T_slate a_T_tonight a_T_otherNight a_T_undoable a_T_kept a_T_mornings a_T_survey a_T_otherSurvey a_T_endsWithout a_T_tonight_floors a_T_slate_guestKind a_T_slate_guestFloor a_T_slate_wishKind a_T_slate_wishA a_T_slate_wishB a_T_slate_wishNames : Nat) (x1 : Int32) (T_surveyed : Int32) (T_tonight_here : Int32) (T_tonight_struck : Int32) (T_tonight_floors : (Nat → Int32)) (T_slate_guests : Int32) (T_slate_wishes : Int32) (T_slate_start : Int32) (T_slate_guestKind : (Nat → Int32)) (R : Int32) (hr : fX8_two K x1 T_tonight_here T_tonight_floors T_slate_start T_slate_guestKind = some R) : Met l yX8_two wsX8_two rmX8_two (va_Pc ([.ref a_T, .int x1] : List Value) (PcW (dC, dI) (tysA cC cI cJ) sz [(a_T, .inr (8, [.ref a_T_text, .ref a_T_draft, .ref a_T_reader, .ref a_T_slate, .ref a_T_tonight, .ref a_T_otherNight, .ref a_T_undoable, .ref a_T_kept, .ref a_T_mornings, .ref a_T_survey, .ref a_T_otherSurvey, .ref a_T_endsWithout, .int T_surveyed])), (a_T_tonight, .inr (1, [.ref a_T_slate, .ref a_T_tonight_floors, .int T_tonight_here, .int T_tonight_struck])), (a_T_tonight_floors, .inl (cI, 6, .inl T_tonight_floors)), (a_T_slate, .inr (5, [.ref a_T_slate_guestKind, .ref a_T_slate_guestFloor, .ref a_T_slate_wishKind, .ref a_T_slate_wishA, .ref a_T_slate_wishB, .ref a_T_slate_wishNames, .int T_slate_guests, .int T_slate_wishes, .int T_slate_start])), (a_T_slate_guestKind, .inl (cI, 6, .inl T_slate_guestKind))])) (va_Qi (fun r (_ : Unit) => r = R) (fun _ => BW (dC, dI) (tysA cC cI cJ) (va_A [(a_T, .inr (8, [.ref a_T_text, .ref a_T_draft, .ref a_T_reader, .ref a_T_slate, .ref a_T_tonight, .ref a_T_otherNight, .ref a_T_undoable, .ref a_T_kept, .ref a_T_mornings, .ref a_T_survey, .ref a_T_otherSurvey, .ref a_T_endsWithout, .int T_surveyed])), (a_T_tonight, .inr (1, [.ref a_T_slate, .ref a_T_tonight_floors, .int T_tonight_here, .int T_tonight_struck])), (a_T_tonight_floors, .inl (cI, 6, .inl T_tonight_floors)), (a_T_slate, .inr (5, [.ref a_T_slate_guestKind, .ref a_T_slate_guestFloor, .ref a_T_slate_wishKind, .ref a_T_slate_wishA, .ref a_T_slate_wishB, .ref a_T_slate_wishNames, .int T_slate_guests, .int T_slate_wishes, .int T_slate_start])), (a_T_slate_guestKind, .inl (cI, 6, .inl T_slate_guestKind))] sz) [(a_T, .inr (8, [.ref a_T_text, .ref a_T_draft, .ref a_T_reader, .ref a_T_slate, .ref a_T_tonight, .ref a_T_otherNight, .ref a_T_undoable, .ref a_T_kept, .ref a_T_mornings, .ref a_T_survey, .ref a_T_otherSurvey, .ref a_T_endsWithout, .int T_surveyed])), (a_T_tonight, .inr (1, [.ref a_T_slate, .ref a_T_tonight_floors, .int T_tonight_here, .int T_tonight_struck])), (a_T_tonight_floors, .inl (cI, 6, .inl T_tonight_floors)), (a_T_slate, .inr (5, [.ref a_T_slate_guestKind, .ref a_T_slate_guestFloor, .ref a_T_slate_wishKind, .ref a_T_slate_wishA, .ref a_T_slate_wishB, .ref a_T_slate_wishNames, .int T_slate_guests, .int T_slate_wishes, .int T_slate_start])), (a_T_slate_guestKind, .inl (cI, 6, .inl T_slate_guestKind))]) (va_A [(a_T, .inr (8, [.ref a_T_text, .ref a_T_draft, .ref a_T_reader, .ref a_T_slate, .ref a_T_tonight, .ref a_T_otherNight, .ref a_T_undoable, .ref a_T_kept, .ref a_T_mornings, .ref a_T_survey, .ref a_T_otherSurvey, .ref a_T_endsWithout, .int T_surveyed])), (a_T_tonight, .inr (1, [.ref a_T_slate, .ref a_T_tonight_floors, .int T_tonight_here, .int T_tonight_struck])), (a_T_tonight_floors, .inl (cI, 6, .inl T_tonight_floors)), (a_T_slate, .inr (5, [.ref a_T_slate_guestKind, .ref a_T_slate_guestFloor, .ref a_T_slate_wishKind, .ref a_T_slate_wishA, .ref a_T_slate_wishB, .ref a_T_slate_wishNames, .int T_slate_guests, .int T_slate_wishes, .int T_slate_start])), (a_T_slate_guestKind, .inl (cI, 6, .inl T_slate_guestKind))] sz)) 0 0 (va_A [(a_T, .inr (8, [.ref a_T_text, .ref a_T_draft, .ref a_T_reader, .ref a_T_slate, .ref a_T_tonight, .ref a_T_otherNight, .ref a_T_undoable, .ref a_T_kept, .ref a_T_mornings, .ref a_T_survey, .ref a_T_otherSurvey, .ref a_T_endsWithout, .int T_surveyed])), (a_T_tonight, .inr (1, [.ref a_T_slate, .ref a_T_tonight_floors, .int T_tonight_here, .int T_tonight_struck])), (a_T_tonight_floors, .inl (cI, 6, .inl T_tonight_floors)), (a_T_slate, .inr (5, [.ref a_T_slate_guestKind, .ref a_T_slate_guestFloor, .ref a_T_slate_wishKind, .ref a_T_slate_wishA, .ref a_T_slate_wishB, .ref a_T_slate_wishNames, .int T_slate_guests, .int T_slate_wishes, .int T_slate_start])), (a_T_slate_guestKind, .inl (cI, 6, .inl T_slate_guestKind))] sz) := by
  refine Met.ofW (cc := cX8_two) (maxL := 7) (ret := (some .int)) (by decide) rfl ?_
  intro p e s m args below meth c s₁ B hml hv
  obtain ⟨rfl, hsz, hP, hK, hD0, hN⟩ := hv
  have hx := B.exec
  have hb := B.bytes
  have hrt := B.returns
  have hts := atoms_spec (ws := wsX8_two) B.pre
  have hown : s.vm.findClass RX8 = some m.cls := findClass_of_methodNamed B.named
  have hlocks := B.notSynchronized
  subst hsz
  have hD := hD0.self (sz := s.heap.size)
  generalize hAe : va_A [(a_T, .inr (8, [.ref a_T_text, .ref a_T_draft, .ref a_T_reader, .ref a_T_slate, .ref a_T_tonight, .ref a_T_otherNight, .ref a_T_undoable, .ref a_T_kept, .ref a_T_mornings, .ref a_T_survey, .ref a_T_otherSurvey, .ref a_T_endsWithout, .int T_surveyed])), (a_T_tonight, .inr (1, [.ref a_T_slate, .ref a_T_tonight_floors, .int T_tonight_here, .int T_tonight_struck])), (a_T_tonight_floors, .inl (cI, 6, .inl T_tonight_floors)), (a_T_slate, .inr (5, [.ref a_T_slate_guestKind, .ref a_T_slate_guestFloor, .ref a_T_slate_wishKind, .ref a_T_slate_wishA, .ref a_T_slate_wishB, .ref a_T_slate_wishNames, .int T_slate_guests, .int T_slate_wishes, .int T_slate_start])), (a_T_slate_guestKind, .inl (cI, 6, .inl T_slate_guestKind))] s.heap.size = A at hD ⊢
  have hA : ∀ q : Nat, s.heap.size ≤ q → A q := fun q h => by rw [← hAe]; exact Or.inr h
  have hS : va_S A s.heap s.heap [] := va_S.rf
  have hl := lv_entry ([.ref a_T, .int x1] : List Value) (n := 7) (Nat.le_of_ble_eq_true rfl)
  rw [lg_entry_eq]
  generalize (lg_sl ([.ref a_T, .int x1] : List Value) ++ List.replicate (7 - (lg_sl ([.ref a_T, .int x1] : List Value)).length) Slot.unset).toArray = ls at hl ⊢
  replace hl : lv_has ls 7 [(0, .ref a_T), (1, .int x1)] := hl
  obtain ⟨Q, hQ⟩ : ∃ Q, Q = MQ below (va_Qi (fun r (_ : Unit) => r = R) (fun _ => BW (dC, dI) (tysA cC cI cJ) A [(a_T, .inr (8, [.ref a_T_text, .ref a_T_draft, .ref a_T_reader, .ref a_T_slate, .ref a_T_tonight, .ref a_T_otherNight, .ref a_T_undoable, .ref a_T_kept, .ref a_T_mornings, .ref a_T_survey, .ref a_T_otherSurvey, .ref a_T_endsWithout, .int T_surveyed])), (a_T_tonight, .inr (1, [.ref a_T_slate, .ref a_T_tonight_floors, .int T_tonight_here, .int T_tonight_struck])), (a_T_tonight_floors, .inl (cI, 6, .inl T_tonight_floors)), (a_T_slate, .inr (5, [.ref a_T_slate_guestKind, .ref a_T_slate_guestFloor, .ref a_T_slate_wishKind, .ref a_T_slate_wishA, .ref a_T_slate_wishB, .ref a_T_slate_wishNames, .int T_slate_guests, .int T_slate_wishes, .int T_slate_start])), (a_T_slate_guestKind, .inl (cI, 6, .inl T_slate_guestKind))]) A) ([.ref a_T, .int x1] : List Value).toArray s 0 0 A := ⟨_, rfl⟩
  rw [← hQ]
  suffices hE : WG p l e rmX8_two s m ([.ref a_T, .int x1] : List Value).toArray below meth c 0 0 Q (dC, dI) A 0 7 [(a_T, .inr (8, [.ref a_T_text, .ref a_T_draft, .ref a_T_reader, .ref a_T_slate, .ref a_T_tonight, .ref a_T_otherNight, .ref a_T_undoable, .ref a_T_kept, .ref a_T_mornings, .ref a_T_survey, .ref a_T_otherSurvey, .ref a_T_endsWithout, .int T_surveyed])), (a_T_tonight, .inr (1, [.ref a_T_slate, .ref a_T_tonight_floors, .int T_tonight_here, .int T_tonight_struck])), (a_T_tonight_floors, .inl (cI, 6, .inl T_tonight_floors)), (a_T_slate, .inr (5, [.ref a_T_slate_guestKind, .ref a_T_slate_guestFloor, .ref a_T_slate_wishKind, .ref a_T_slate_wishA, .ref a_T_slate_wishB, .ref a_T_slate_wishNames, .int T_slate_guests, .int T_slate_wishes, .int T_slate_start])), (a_T_slate_guestKind, .inl (cI, 6, .inl T_slate_guestKind))] [(0, .ref a_T), (1, .int x1)] [] from hE _ _ _ hP hD hS hl
  clear hP hD hS hl hD0 hAe
  intro H locs ls hP hD hS hl
  unfold fX8_two at hr
  refine lv_iload_n hx hb dX8_two_0 rfl (lv_at hl 1 rfl) ?_
  refine lv_if_lt (tgt := 9) hx hb dX8_two_1 (by decide) (fun c1 => ?_) (fun c1 => ?_)
  · replace hr := it_t hr c1
    refine lv_iconst (v := (-1)) hx hb dX8_two_9 (by decide) ?_
    have he := Option.some.inj hr
    subst he
    subst hQ
    exact ret_i hx hb hrt hK hP hD hS hlocks dX8_two_10
  · replace hr := it_f hr c1
    refine lv_iload_n hx hb dX8_two_4 rfl (lv_at hl 1 rfl) ?_
    refine lv_iconst (v := 1) hx hb dX8_two_5 (by decide) ?_
    refine lv_icmp_le (tgt := 11) hx hb dX8_two_6 (by decide) (fun c2 => ?_) (fun c2 => ?_)
    · replace hr := it_t hr c2
      refine lv_iconst (v := 0) hx hb dX8_two_11 (by decide) ?_
      refine lv_istore_n (lv' := [(2, .int 0), (0, .ref a_T), (1, .int x1)]) hx hb dX8_two_12 rfl hl (by decide) rfl (fun ls hl => ?_)
      refine lv_aload_n hx hb dX8_two_13 rfl (lv_at hl 1 rfl) ?_
      refine va_get (D := (dC, dI)) (ci := 8) (v := .ref a_T_tonight) (C := RX8) (T := TX8) (N := 13) hx hb hts inX8_two_X8 hown hK hP 0 rfl rfl 4 (by decide) (hts _ mbX8_two_0) (fun _ h9 => h9) rfl dX8_two_14 ?_
      refine lv_iload_n hx hb dX8_two_17 rfl (lv_at hl 0 rfl) ?_
      obtain ⟨r, hc1, hr⟩ := bd1_some hr
      refine call_i (D := (dC, dI)) (tys := tysA cC cI cJ) (wc := [(a_T_tonight, .inr (1, [.ref a_T_slate, .ref a_T_tonight_floors, .int T_tonight_here, .int T_tonight_struck])), (a_T_tonight_floors, .inl (cI, 6, .inl T_tonight_floors)), (a_T_slate, .inr (5, [.ref a_T_slate_guestKind, .ref a_T_slate_guestFloor, .ref a_T_slate_wishKind, .ref a_T_slate_wishA, .ref a_T_slate_wishB, .ref a_T_slate_wishNames, .int T_slate_guests, .int T_slate_wishes, .int T_slate_start])), (a_T_slate_guestKind, .inl (cI, 6, .inl T_slate_guestKind))]) (wr := [(a_T, .inr (8, [.ref a_T_text, .ref a_T_draft, .ref a_T_reader, .ref a_T_slate, .ref a_T_tonight, .ref a_T_otherNight, .ref a_T_undoable, .ref a_T_kept, .ref a_T_mornings, .ref a_T_survey, .ref a_T_otherSurvey, .ref a_T_endsWithout, .int T_surveyed]))]) (w1 := [(a_T_tonight, .inr (1, [.ref a_T_slate, .ref a_T_tonight_floors, .int T_tonight_here, .int T_tonight_struck])), (a_T_tonight_floors, .inl (cI, 6, .inl T_tonight_floors)), (a_T_slate, .inr (5, [.ref a_T_slate_guestKind, .ref a_T_slate_guestFloor, .ref a_T_slate_wishKind, .ref a_T_slate_wishA, .ref a_T_slate_wishB, .ref a_T_slate_wishNames, .int T_slate_guests, .int T_slate_wishes, .int T_slate_start])), (a_T_slate_guestKind, .inl (cI, 6, .inl T_slate_guestKind))]) (wn := [(a_T, .inr (8, [.ref a_T_text, .ref a_T_draft, .ref a_T_reader, .ref a_T_slate, .ref a_T_tonight, .ref a_T_otherNight, .ref a_T_undoable, .ref a_T_kept, .ref a_T_mornings, .ref a_T_survey, .ref a_T_otherSurvey, .ref a_T_endsWithout, .int T_surveyed])), (a_T_tonight, .inr (1, [.ref a_T_slate, .ref a_T_tonight_floors, .int T_tonight_here, .int T_tonight_struck])), (a_T_tonight_floors, .inl (cI, 6, .inl T_tonight_floors)), (a_T_slate, .inr (5, [.ref a_T_slate_guestKind, .ref a_T_slate_guestFloor, .ref a_T_slate_wishKind, .ref a_T_slate_wishA, .ref a_T_slate_wishB, .ref a_T_slate_wishNames, .int T_slate_guests, .int T_slate_wishes, .int T_slate_start])), (a_T_slate_guestKind, .inl (cI, 6, .inl T_slate_guestKind))]) (r0 := r) hP hD hS hA [1, 2, 3, 4] [0] [0, 1, 2, 3, 4] rfl rfl (by decide +kernel) (by decide +kernel) rfl (by decide +kernel) (va_runVN (C := RX1) (host := "BootsAtDawn") (As := [.int 0]) (rest := []) ⟨hx, hb, hml, hown, hts⟩ (kX1_laterEnd l dC dI cC cI cJ H.size K a_T_tonight a_T_slate a_T_tonight_floors a_T_slate_guestKind a_T_slate_guestFloor a_T_slate_wishKind a_T_slate_wishA a_T_slate_wishB a_T_slate_wishNames 0 T_tonight_here T_tonight_struck T_tonight_floors T_slate_guests T_slate_wishes T_slate_start T_slate_guestKind r hc1) ⟨va_cnB 1 hts gX8_two_X1_laterEnd_n238 rfl rfl rfl (hN _ nw_106) (hts _ mbX8_two_2) (by decide +kernel) ⟨Nat.le_of_ble_eq_true rfl, Nat.le_of_ble_eq_true rfl⟩, (hts _ mbX8_two_3), (hts _ mbX8_two_4)⟩ ⟨fbW, va_recv hK hP (ci := 1) (q0 := 1) rfl rfl, preW hP hD hK hN [1, 2, 3, 4] rfl (by decide +kernel)⟩ rfl rfl hl.1 rfl (lv_room (Nat.le_of_ble_eq_true rfl)) dX8_two_18 ⟨Nat.zero_le _, Nat.zero_le _⟩) (fun H locs hP hD hS => ?_)
      refine lv_istore_n (lv' := [(3, .int r), (2, .int 0), (0, .ref a_T), (1, .int x1)]) hx hb dX8_two_21 rfl hl (by decide) rfl (fun ls hl => ?_)
      refine lv_iconst (v := 1) hx hb dX8_two_22 (by decide) ?_
      refine lv_istore (lv' := [(4, .int 1), (3, .int r), (2, .int 0), (0, .ref a_T), (1, .int x1)]) hx hb dX8_two_23 hl (by decide) rfl (fun ls hl => ?_)
      have hL1 : ∀ (n1 : Nat) (x2 : Int32) (x3 : Int32) (x4 : Int32) (x2_1 : Int32) (x3_1 : Int32), fX8_two_L25 K T_tonight_here T_tonight_floors T_slate_start T_slate_guestKind n1 x2 x3 x4 = some (x2_1, x3_1) → WG p l e rmX8_two s m ([.ref a_T, .int x1] : List Value).toArray below meth c 0 0 Q (dC, dI) A 88 7 [(a_T, .inr (8, [.ref a_T_text, .ref a_T_draft, .ref a_T_reader, .ref a_T_slate, .ref a_T_tonight, .ref a_T_otherNight, .ref a_T_undoable, .ref a_T_kept, .ref a_T_mornings, .ref a_T_survey, .ref a_T_otherSurvey, .ref a_T_endsWithout, .int T_surveyed])), (a_T_tonight, .inr (1, [.ref a_T_slate, .ref a_T_tonight_floors, .int T_tonight_here, .int T_tonight_struck])), (a_T_tonight_floors, .inl (cI, 6, .inl T_tonight_floors)), (a_T_slate, .inr (5, [.ref a_T_slate_guestKind, .ref a_T_slate_guestFloor, .ref a_T_slate_wishKind, .ref a_T_slate_wishA, .ref a_T_slate_wishB, .ref a_T_slate_wishNames, .int T_slate_guests, .int T_slate_wishes, .int T_slate_start])), (a_T_slate_guestKind, .inl (cI, 6, .inl T_slate_guestKind))] [(1, .int x1), (2, .int x2_1), (3, .int x3_1)] [] → WG p l e rmX8_two s m ([.ref a_T, .int x1] : List Value).toArray below meth c 0 0 Q (dC, dI) A 25 7 [(a_T, .inr (8, [.ref a_T_text, .ref a_T_draft, .ref a_T_reader, .ref a_T_slate, .ref a_T_tonight, .ref a_T_otherNight, .ref a_T_undoable, .ref a_T_kept, .ref a_T_mornings, .ref a_T_survey, .ref a_T_otherSurvey, .ref a_T_endsWithout, .int T_surveyed])), (a_T_tonight, .inr (1, [.ref a_T_slate, .ref a_T_tonight_floors, .int T_tonight_here, .int T_tonight_struck])), (a_T_tonight_floors, .inl (cI, 6, .inl T_tonight_floors)), (a_T_slate, .inr (5, [.ref a_T_slate_guestKind, .ref a_T_slate_guestFloor, .ref a_T_slate_wishKind, .ref a_T_slate_wishA, .ref a_T_slate_wishB, .ref a_T_slate_wishNames, .int T_slate_guests, .int T_slate_wishes, .int T_slate_start])), (a_T_slate_guestKind, .inl (cI, 6, .inl T_slate_guestKind))] [(0, .ref a_T), (1, .int x1), (2, .int x2), (3, .int x3), (4, .int x4)] [] := by
        intro n1
        induction n1 with
        | zero =>
          intro x2 x3 x4 x2_1 x3_1 hr
          rw [fX8_two_L25] at hr
          cases hr
        | succ n1 ih25 =>
          intro x2 x3 x4 x2_1 x3_1 hr hX1 H locs ls hP hD hS hl
          rw [fX8_two_L25] at hr
          refine lv_iload hx hb dX8_two_25 (lv_at hl 4 rfl) ?_
          refine lv_bipush (v := 64) hx hb dX8_two_27 (by decide) ?_
          refine lv_icmp_ge (tgt := 88) hx hb dX8_two_29 (by decide) (fun c3 => ?_) (fun c3 => ?_)
          · replace hr := it_t hr c3
            have he := Option.some.inj hr
            cases he
            exact hX1 H locs ls hP hD hS (lv_sub hl [1, 2, 3] rfl)
          · replace hr := it_f hr c3
            refine lv_iload hx hb dX8_two_32 (lv_at hl 4 rfl) ?_
            refine lv_aload_n hx hb dX8_two_34 rfl (lv_at hl 0 rfl) ?_
            refine va_get (D := (dC, dI)) (ci := 8) (v := .ref a_T_tonight) (C := RX8) (T := TX8) (N := 13) hx hb hts inX8_two_X8 hown hK hP 0 rfl rfl 4 (by decide) (hts _ mbX8_two_0) (fun _ h9 => h9) rfl dX8_two_35 ?_
            refine va_getN (D := (dC, dI)) (ci := 1) (v := .int T_tonight_here) (C := RX1) (T := TX1) (N := 4) hx hb hts inX8_two_X1 hown hK hP 1 rfl rfl 2 (by decide) (nk_use hN nw_30) (fun _ h9 => h9) rfl dX8_two_38 ?_
            refine lv_iconst (v := (-1)) hx hb dX8_two_41 (by decide) ?_
            refine lv_ixor hx hb dX8_two_42 ?_
            refine lv_iand hx hb dX8_two_43 ?_
            obtain ⟨y, hj2, hr⟩ := bd1_some hr
            have hJ1 : WG p l e rmX8_two s m ([.ref a_T, .int x1] : List Value).toArray below meth c 0 0 Q (dC, dI) A 52 7 [(a_T, .inr (8, [.ref a_T_text, .ref a_T_draft, .ref a_T_reader, .ref a_T_slate, .ref a_T_tonight, .ref a_T_otherNight, .ref a_T_undoable, .ref a_T_kept, .ref a_T_mornings, .ref a_T_survey, .ref a_T_otherSurvey, .ref a_T_endsWithout, .int T_surveyed])), (a_T_tonight, .inr (1, [.ref a_T_slate, .ref a_T_tonight_floors, .int T_tonight_here, .int T_tonight_struck])), (a_T_tonight_floors, .inl (cI, 6, .inl T_tonight_floors)), (a_T_slate, .inr (5, [.ref a_T_slate_guestKind, .ref a_T_slate_guestFloor, .ref a_T_slate_wishKind, .ref a_T_slate_wishA, .ref a_T_slate_wishB, .ref a_T_slate_wishNames, .int T_slate_guests, .int T_slate_wishes, .int T_slate_start])), (a_T_slate_guestKind, .inl (cI, 6, .inl T_slate_guestKind))] [(0, .ref a_T), (1, .int x1), (2, .int x2), (3, .int x3), (4, .int x4)] [.int y] := by
              intro H locs ls hP hD hS hl
              refine lv_istore (lv' := [(5, .int y), (0, .ref a_T), (1, .int x1), (2, .int x2), (3, .int x3), (4, .int x4)]) hx hb dX8_two_52 hl (by decide) rfl (fun ls hl => ?_)
              refine lv_aload_n hx hb dX8_two_54 rfl (lv_at hl 1 rfl) ?_
              refine va_get (D := (dC, dI)) (ci := 8) (v := .ref a_T_tonight) (C := RX8) (T := TX8) (N := 13) hx hb hts inX8_two_X8 hown hK hP 0 rfl rfl 4 (by decide) (hts _ mbX8_two_0) (fun _ h9 => h9) rfl dX8_two_55 ?_
              refine lv_iload hx hb dX8_two_58 (lv_at hl 5 rfl) ?_
              obtain ⟨r_1, hc2, hr⟩ := bd1_some hr
              refine call_i (D := (dC, dI)) (tys := tysA cC cI cJ) (wc := [(a_T_tonight, .inr (1, [.ref a_T_slate, .ref a_T_tonight_floors, .int T_tonight_here, .int T_tonight_struck])), (a_T_tonight_floors, .inl (cI, 6, .inl T_tonight_floors)), (a_T_slate, .inr (5, [.ref a_T_slate_guestKind, .ref a_T_slate_guestFloor, .ref a_T_slate_wishKind, .ref a_T_slate_wishA, .ref a_T_slate_wishB, .ref a_T_slate_wishNames, .int T_slate_guests, .int T_slate_wishes, .int T_slate_start])), (a_T_slate_guestKind, .inl (cI, 6, .inl T_slate_guestKind))]) (wr := [(a_T, .inr (8, [.ref a_T_text, .ref a_T_draft, .ref a_T_reader, .ref a_T_slate, .ref a_T_tonight, .ref a_T_otherNight, .ref a_T_undoable, .ref a_T_kept, .ref a_T_mornings, .ref a_T_survey, .ref a_T_otherSurvey, .ref a_T_endsWithout, .int T_surveyed]))]) (w1 := [(a_T_tonight, .inr (1, [.ref a_T_slate, .ref a_T_tonight_floors, .int T_tonight_here, .int T_tonight_struck])), (a_T_tonight_floors, .inl (cI, 6, .inl T_tonight_floors)), (a_T_slate, .inr (5, [.ref a_T_slate_guestKind, .ref a_T_slate_guestFloor, .ref a_T_slate_wishKind, .ref a_T_slate_wishA, .ref a_T_slate_wishB, .ref a_T_slate_wishNames, .int T_slate_guests, .int T_slate_wishes, .int T_slate_start])), (a_T_slate_guestKind, .inl (cI, 6, .inl T_slate_guestKind))]) (wn := [(a_T, .inr (8, [.ref a_T_text, .ref a_T_draft, .ref a_T_reader, .ref a_T_slate, .ref a_T_tonight, .ref a_T_otherNight, .ref a_T_undoable, .ref a_T_kept, .ref a_T_mornings, .ref a_T_survey, .ref a_T_otherSurvey, .ref a_T_endsWithout, .int T_surveyed])), (a_T_tonight, .inr (1, [.ref a_T_slate, .ref a_T_tonight_floors, .int T_tonight_here, .int T_tonight_struck])), (a_T_tonight_floors, .inl (cI, 6, .inl T_tonight_floors)), (a_T_slate, .inr (5, [.ref a_T_slate_guestKind, .ref a_T_slate_guestFloor, .ref a_T_slate_wishKind, .ref a_T_slate_wishA, .ref a_T_slate_wishB, .ref a_T_slate_wishNames, .int T_slate_guests, .int T_slate_wishes, .int T_slate_start])), (a_T_slate_guestKind, .inl (cI, 6, .inl T_slate_guestKind))]) (r0 := r_1) hP hD hS hA [1, 2, 3, 4] [0] [0, 1, 2, 3, 4] rfl rfl (by decide +kernel) (by decide +kernel) rfl (by decide +kernel) (va_runVN (C := RX1) (host := "BootsAtDawn") (As := [.int x4]) (rest := []) ⟨hx, hb, hml, hown, hts⟩ (kX1_laterEnd l dC dI cC cI cJ H.size K a_T_tonight a_T_slate a_T_tonight_floors a_T_slate_guestKind a_T_slate_guestFloor a_T_slate_wishKind a_T_slate_wishA a_T_slate_wishB a_T_slate_wishNames x4 T_tonight_here T_tonight_struck T_tonight_floors T_slate_guests T_slate_wishes T_slate_start T_slate_guestKind r_1 hc2) ⟨va_cnB 1 hts gX8_two_X1_laterEnd_n238 rfl rfl rfl (hN _ nw_106) (hts _ mbX8_two_2) (by decide +kernel) ⟨Nat.le_of_ble_eq_true rfl, Nat.le_of_ble_eq_true rfl⟩, (hts _ mbX8_two_3), (hts _ mbX8_two_4)⟩ ⟨fbW, va_recv hK hP (ci := 1) (q0 := 1) rfl rfl, preW hP hD hK hN [1, 2, 3, 4] rfl (by decide +kernel)⟩ rfl rfl hl.1 rfl (lv_room (Nat.le_of_ble_eq_true rfl)) dX8_two_60 ⟨Nat.zero_le _, Nat.zero_le _⟩) (fun H locs hP hD hS => ?_)
              refine lv_istore (lv' := [(6, .int r_1), (5, .int y), (0, .ref a_T), (1, .int x1), (2, .int x2), (3, .int x3), (4, .int x4)]) hx hb dX8_two_63 hl (by decide) rfl (fun ls hl => ?_)
              refine lv_iload hx hb dX8_two_65 (lv_at hl 1 rfl) ?_
              obtain ⟨x2_2, x3_2, hj1, hr⟩ := bd2_some hr
              have hJ2 : WG p l e rmX8_two s m ([.ref a_T, .int x1] : List Value).toArray below meth c 0 0 Q (dC, dI) A 82 7 [(a_T, .inr (8, [.ref a_T_text, .ref a_T_draft, .ref a_T_reader, .ref a_T_slate, .ref a_T_tonight, .ref a_T_otherNight, .ref a_T_undoable, .ref a_T_kept, .ref a_T_mornings, .ref a_T_survey, .ref a_T_otherSurvey, .ref a_T_endsWithout, .int T_surveyed])), (a_T_tonight, .inr (1, [.ref a_T_slate, .ref a_T_tonight_floors, .int T_tonight_here, .int T_tonight_struck])), (a_T_tonight_floors, .inl (cI, 6, .inl T_tonight_floors)), (a_T_slate, .inr (5, [.ref a_T_slate_guestKind, .ref a_T_slate_guestFloor, .ref a_T_slate_wishKind, .ref a_T_slate_wishA, .ref a_T_slate_wishB, .ref a_T_slate_wishNames, .int T_slate_guests, .int T_slate_wishes, .int T_slate_start])), (a_T_slate_guestKind, .inl (cI, 6, .inl T_slate_guestKind))] [(0, .ref a_T), (1, .int x1), (2, .int x2_2), (3, .int x3_2), (4, .int x4)] [] := by
                intro H locs ls hP hD hS hl
                obtain ⟨x4_1, e1, hr⟩ := nm_el hr
                refine lv_iinc (v := x4_1) (lv' := [(4, .int x4_1), (0, .ref a_T), (1, .int x1), (2, .int x2_2), (3, .int x3_2)]) hx hb dX8_two_82 hl (k := 4) rfl e1.symm (by decide) rfl (fun ls hl => ?_)
                refine lv_goto (tgt := 25) hx hb dX8_two_85 (by decide) ?_
                exact ih25 _ _ _ _ _ hr hX1 H locs ls hP hD hS (lv_sub hl [1, 2, 3, 4, 0] rfl)
              replace hr := hj1
              refine lv_if_eq (tgt := 82) hx hb dX8_two_67 (by decide) (fun c5 => ?_) (fun c5 => ?_)
              · replace hr := it_t hr c5
                cases hr
                exact hJ2 H locs ls hP hD hS (lv_sub hl [2, 3, 4, 5, 6] rfl)
              · replace hr := it_f hr c5
                refine lv_iload hx hb dX8_two_70 (lv_at hl 0 rfl) ?_
                refine lv_iload_n hx hb dX8_two_72 rfl (lv_at hl 5 rfl) ?_
                refine lv_icmp_ge (tgt := 82) hx hb dX8_two_73 (by decide) (fun c6 => ?_) (fun c6 => ?_)
                · replace hr := it_t hr c6
                  cases hr
                  exact hJ2 H locs ls hP hD hS (lv_sub hl [2, 3, 4, 5, 6] rfl)
                · replace hr := it_f hr c6
                  refine lv_iload hx hb dX8_two_76 (lv_at hl 6 rfl) ?_
                  refine lv_istore_n (lv' := [(2, .int x4), (6, .int r_1), (5, .int y), (0, .ref a_T), (1, .int x1), (3, .int x3), (4, .int x4)]) hx hb dX8_two_78 rfl hl (by decide) rfl (fun ls hl => ?_)
                  refine lv_iload hx hb dX8_two_79 (lv_at hl 1 rfl) ?_
                  refine lv_istore_n (lv' := [(3, .int r_1), (2, .int x4), (6, .int r_1), (5, .int y), (0, .ref a_T), (1, .int x1), (4, .int x4)]) hx hb dX8_two_81 rfl hl (by decide) rfl (fun ls hl => ?_)
                  cases hr
                  exact hJ2 H locs ls hP hD hS (lv_sub hl [4, 5, 1, 0, 6] rfl)
            replace hr := hj2
            refine lv_if_ne (tgt := 51) hx hb dX8_two_44 (by decide) (fun c4 => ?_) (fun c4 => ?_)
            · replace hr := it_f hr c4
              refine lv_iconst (v := 0) hx hb dX8_two_51 (by decide) ?_
              cases hr
              exact hJ1 H locs ls hP hD hS (lv_sub hl [0, 1, 2, 3, 4] rfl)
            · replace hr := it_t hr c4
              refine lv_iconst (v := 1) hx hb dX8_two_47 (by decide) ?_
              refine lv_goto (tgt := 52) hx hb dX8_two_48 (by decide) ?_
              cases hr
              exact hJ1 H locs ls hP hD hS (lv_sub hl [0, 1, 2, 3, 4] rfl)
      obtain ⟨x2_1, x3_1, hE, hr⟩ := bd2_some hr
      refine hL1 K 0 r 1 x2_1 x3_1 hE ?_ H locs ls hP hD hS (lv_sub hl [3, 4, 2, 1, 0] rfl)
      intro H locs ls hP hD hS hl
      refine lv_iload_n hx hb dX8_two_88 rfl (lv_at hl 0 rfl) ?_
      refine lv_if_ne (tgt := 96) hx hb dX8_two_89 (by decide) (fun c7 => ?_) (fun c7 => ?_)
      · replace hr := it_f hr c7
        refine lv_iload_n hx hb dX8_two_96 rfl (lv_at hl 1 rfl) ?_
        have he := Option.some.inj hr
        subst he
        subst hQ
        exact ret_i hx hb hrt hK hP hD hS hlocks dX8_two_97
      · replace hr := it_t hr c7
        refine lv_iload_n hx hb dX8_two_92 rfl (lv_at hl 2 rfl) ?_
        refine lv_goto (tgt := 97) hx hb dX8_two_93 (by decide) ?_
        have he := Option.some.inj hr
        subst he
        subst hQ
        exact ret_i hx hb hrt hK hP hD hS hlocks dX8_two_97
    · replace hr := it_f hr c2
      refine lv_iconst (v := (-1)) hx hb dX8_two_9 (by decide) ?_
      have he := Option.some.inj hr
      subst he
      subst hQ
      exact ret_i hx hb hrt hK hP hD hS hlocks dX8_two_10
def fX8_othersHungOnBy_L4 (K : Nat) (x1 : Int32) (T_slate_guests : Int32) (T_slate_wishes : Int32) (T_tonight_here : Int32) (T_tonight_struck : Int32) (T_slate_wishKind : (Nat → Int32)) (T_slate_wishNames : (Nat → Int32)) (T_slate_wishA : (Nat → Int32)) (T_slate_wishB : (Nat → Int32)) : Nat → Int32 → Int32 → Option (Int32)
  | 0, _, _ => none
  | n1 + 1, x2, x3 =>
    if T_slate_guests ≤ (x3 : Int32) then (
    some x2)
    else (
    bd1 (fX8_has K T_tonight_here x3) fun r =>
    bd1 (
    if (r : Int32) = 0 then (
    some x2)
    else (
    bd1 (fX1_hangingOn K x3 T_tonight_here T_tonight_struck T_slate_guests T_slate_wishes T_slate_wishKind T_slate_wishNames T_slate_wishA T_slate_wishB) fun r_1 =>
    bd1 (fX8_has K r_1 x1) fun r_2 =>
    if (r_2 : Int32) = 0 then (
    some x2)
    else (
    nm (x2 + 1) fun x2_2 =>
    some x2_2))) fun x2_3 =>
    nm (x3 + 1) fun x3_1 =>
    fX8_othersHungOnBy_L4 K x1 T_slate_guests T_slate_wishes T_tonight_here T_tonight_struck T_slate_wishKind T_slate_wishNames T_slate_wishA T_slate_wishB n1 x2_3 x3_1)
def fX8_othersHungOnBy (K : Nat) (x1 : Int32) (T_slate_guests : Int32) (T_slate_wishes : Int32) (T_tonight_here : Int32) (T_tonight_struck : Int32) (T_slate_wishKind : (Nat → Int32)) (T_slate_wishNames : (Nat → Int32)) (T_slate_wishA : (Nat → Int32)) (T_slate_wishB : (Nat → Int32)) : Option (Int32) :=
    bd1 (fX8_othersHungOnBy_L4 K x1 T_slate_guests T_slate_wishes T_tonight_here T_tonight_struck T_slate_wishKind T_slate_wishNames T_slate_wishA T_slate_wishB K 0 0) fun x2_1 =>
    some x2_1
theorem mbX8_othersHungOnBy_0 : Cond.fieldLink RX8 32 "BootsAtDawn" "slate" "LBootsAtDawn$Slate;" ∈ wsX8_othersHungOnBy := List.mem_of_getElem? (i := 1) rfl
theorem inX8_othersHungOnBy_X8 : ∀ w ∈ u_ws RX8 TX8 13, w ∈ wsX8_othersHungOnBy := fun _ h => (List.mem_cons_of_mem _ (List.mem_append_left _ (List.mem_append_left _ (List.mem_append_right _ h))))
theorem inX8_othersHungOnBy_X5 : ∀ w ∈ u_ws RX5 TX5 9, w ∈ wsX8_othersHungOnBy := fun _ h => (List.mem_cons_of_mem _ (List.mem_append_left _ (List.mem_append_right _ h)))
theorem mbX8_othersHungOnBy_3 : Cond.fieldLink RX8 40 "BootsAtDawn" "tonight" "LBootsAtDawn$Night;" ∈ wsX8_othersHungOnBy := List.mem_of_getElem? (i := 2) rfl
theorem inX8_othersHungOnBy_X1 : ∀ w ∈ u_ws RX1 TX1 4, w ∈ wsX8_othersHungOnBy := fun _ h => (List.mem_cons_of_mem _ (List.mem_append_right _ h))
theorem mbX8_othersHungOnBy_5 : Cond.initialized RX1 ∈ wsX8_othersHungOnBy := List.mem_of_getElem? (i := 8) rfl
theorem mbX8_othersHungOnBy_6 : Cond.instanceMethod yX1_hangingOn ∈ wsX8_othersHungOnBy := List.mem_of_getElem? (i := 7) rfl
theorem mbX8_othersHungOnBy_7 : Cond.selects RX1 yX1_hangingOn yX1_hangingOn ∈ wsX8_othersHungOnBy := List.mem_of_getElem? (i := 9) rfl
abbrev rmX8_othersHungOnBy : Room := { frames := 4, cells := 0, slots := 0, locals := 93 }
set_option maxHeartbeats 8000000 in
set_option maxRecDepth 100000 in
theorem kX8_othersHungOnBy (l : Launch) (dC : Nat → ClassId) (dI : Nat → Nat → Nat) (cC cI cJ : ClassId) (sz : Nat) (K : Nat) (a_T a_T_text a_T_draft a_T_reader a_T_slate a_T_tonight a_T_otherNight a_T_undoable a_T_kept a_T_mornings a_T_survey a_T_otherSurvey a_T_endsWithout a_T_slate_guestKind a_T_slate_guestFloor a_T_slate_wishKind a_T_slate_wishA a_T_slate_wishB a_T_slate_wishNames a_T_tonight_floors : Nat) (x1 : Int32) (T_surveyed : Int32) (T_slate_guests : Int32) (T_slate_wishes : Int32) (T_slate_start : Int32) (T_tonight_here : Int32) (T_tonight_struck : Int32) (T_slate_wishKind : (Nat → Int32)) (T_slate_wishNames : (Nat → Int32)) (T_slate_wishA : (Nat → Int32)) (T_slate_wishB : (Nat → Int32)) (R : Int32) (hr : fX8_othersHungOnBy K x1 T_slate_guests T_slate_wishes T_tonight_here T_tonight_struck T_slate_wishKind T_slate_wishNames T_slate_wishA T_slate_wishB = some R) : Met l yX8_othersHungOnBy wsX8_othersHungOnBy rmX8_othersHungOnBy (va_Pc ([.ref a_T, .int x1] : List Value) (PcW (dC, dI) (tysA cC cI cJ) sz [(a_T, .inr (8, [.ref a_T_text, .ref a_T_draft, .ref a_T_reader, .ref a_T_slate, .ref a_T_tonight, .ref a_T_otherNight, .ref a_T_undoable, .ref a_T_kept, .ref a_T_mornings, .ref a_T_survey, .ref a_T_otherSurvey, .ref a_T_endsWithout, .int T_surveyed])), (a_T_slate, .inr (5, [.ref a_T_slate_guestKind, .ref a_T_slate_guestFloor, .ref a_T_slate_wishKind, .ref a_T_slate_wishA, .ref a_T_slate_wishB, .ref a_T_slate_wishNames, .int T_slate_guests, .int T_slate_wishes, .int T_slate_start])), (a_T_tonight, .inr (1, [.ref a_T_slate, .ref a_T_tonight_floors, .int T_tonight_here, .int T_tonight_struck])), (a_T_slate_wishKind, .inl (cI, 9, .inl T_slate_wishKind)), (a_T_slate_wishNames, .inl (cI, 9, .inl T_slate_wishNames)), (a_T_slate_wishA, .inl (cI, 9, .inl T_slate_wishA)), (a_T_slate_wishB, .inl (cI, 9, .inl T_slate_wishB))])) (va_Qi (fun r (_ : Unit) => r = R) (fun _ => BW (dC, dI) (tysA cC cI cJ) (va_A [(a_T, .inr (8, [.ref a_T_text, .ref a_T_draft, .ref a_T_reader, .ref a_T_slate, .ref a_T_tonight, .ref a_T_otherNight, .ref a_T_undoable, .ref a_T_kept, .ref a_T_mornings, .ref a_T_survey, .ref a_T_otherSurvey, .ref a_T_endsWithout, .int T_surveyed])), (a_T_slate, .inr (5, [.ref a_T_slate_guestKind, .ref a_T_slate_guestFloor, .ref a_T_slate_wishKind, .ref a_T_slate_wishA, .ref a_T_slate_wishB, .ref a_T_slate_wishNames, .int T_slate_guests, .int T_slate_wishes, .int T_slate_start])), (a_T_tonight, .inr (1, [.ref a_T_slate, .ref a_T_tonight_floors, .int T_tonight_here, .int T_tonight_struck])), (a_T_slate_wishKind, .inl (cI, 9, .inl T_slate_wishKind)), (a_T_slate_wishNames, .inl (cI, 9, .inl T_slate_wishNames)), (a_T_slate_wishA, .inl (cI, 9, .inl T_slate_wishA)), (a_T_slate_wishB, .inl (cI, 9, .inl T_slate_wishB))] sz) [(a_T, .inr (8, [.ref a_T_text, .ref a_T_draft, .ref a_T_reader, .ref a_T_slate, .ref a_T_tonight, .ref a_T_otherNight, .ref a_T_undoable, .ref a_T_kept, .ref a_T_mornings, .ref a_T_survey, .ref a_T_otherSurvey, .ref a_T_endsWithout, .int T_surveyed])), (a_T_slate, .inr (5, [.ref a_T_slate_guestKind, .ref a_T_slate_guestFloor, .ref a_T_slate_wishKind, .ref a_T_slate_wishA, .ref a_T_slate_wishB, .ref a_T_slate_wishNames, .int T_slate_guests, .int T_slate_wishes, .int T_slate_start])), (a_T_tonight, .inr (1, [.ref a_T_slate, .ref a_T_tonight_floors, .int T_tonight_here, .int T_tonight_struck])), (a_T_slate_wishKind, .inl (cI, 9, .inl T_slate_wishKind)), (a_T_slate_wishNames, .inl (cI, 9, .inl T_slate_wishNames)), (a_T_slate_wishA, .inl (cI, 9, .inl T_slate_wishA)), (a_T_slate_wishB, .inl (cI, 9, .inl T_slate_wishB))]) (va_A [(a_T, .inr (8, [.ref a_T_text, .ref a_T_draft, .ref a_T_reader, .ref a_T_slate, .ref a_T_tonight, .ref a_T_otherNight, .ref a_T_undoable, .ref a_T_kept, .ref a_T_mornings, .ref a_T_survey, .ref a_T_otherSurvey, .ref a_T_endsWithout, .int T_surveyed])), (a_T_slate, .inr (5, [.ref a_T_slate_guestKind, .ref a_T_slate_guestFloor, .ref a_T_slate_wishKind, .ref a_T_slate_wishA, .ref a_T_slate_wishB, .ref a_T_slate_wishNames, .int T_slate_guests, .int T_slate_wishes, .int T_slate_start])), (a_T_tonight, .inr (1, [.ref a_T_slate, .ref a_T_tonight_floors, .int T_tonight_here, .int T_tonight_struck])), (a_T_slate_wishKind, .inl (cI, 9, .inl T_slate_wishKind)), (a_T_slate_wishNames, .inl (cI, 9, .inl T_slate_wishNames)), (a_T_slate_wishA, .inl (cI, 9, .inl T_slate_wishA)), (a_T_slate_wishB, .inl (cI, 9, .inl T_slate_wishB))] sz)) 0 0 (va_A [(a_T, .inr (8, [.ref a_T_text, .ref a_T_draft, .ref a_T_reader, .ref a_T_slate, .ref a_T_tonight, .ref a_T_otherNight, .ref a_T_undoable, .ref a_T_kept, .ref a_T_mornings, .ref a_T_survey, .ref a_T_otherSurvey, .ref a_T_endsWithout, .int T_surveyed])), (a_T_slate, .inr (5, [.ref a_T_slate_guestKind, .ref a_T_slate_guestFloor, .ref a_T_slate_wishKind, .ref a_T_slate_wishA, .ref a_T_slate_wishB, .ref a_T_slate_wishNames, .int T_slate_guests, .int T_slate_wishes, .int T_slate_start])), (a_T_tonight, .inr (1, [.ref a_T_slate, .ref a_T_tonight_floors, .int T_tonight_here, .int T_tonight_struck])), (a_T_slate_wishKind, .inl (cI, 9, .inl T_slate_wishKind)), (a_T_slate_wishNames, .inl (cI, 9, .inl T_slate_wishNames)), (a_T_slate_wishA, .inl (cI, 9, .inl T_slate_wishA)), (a_T_slate_wishB, .inl (cI, 9, .inl T_slate_wishB))] sz) := by
  refine Met.ofW (cc := cX8_othersHungOnBy) (maxL := 4) (ret := (some .int)) (by decide) rfl ?_
  intro p e s m args below meth c s₁ B hml hv
  obtain ⟨rfl, hsz, hP, hK, hD0, hN⟩ := hv
  have hx := B.exec
  have hb := B.bytes
  have hrt := B.returns
  have hts := atoms_spec (ws := wsX8_othersHungOnBy) B.pre
  have hown : s.vm.findClass RX8 = some m.cls := findClass_of_methodNamed B.named
  have hlocks := B.notSynchronized
  subst hsz
  have hD := hD0.self (sz := s.heap.size)
  generalize hAe : va_A [(a_T, .inr (8, [.ref a_T_text, .ref a_T_draft, .ref a_T_reader, .ref a_T_slate, .ref a_T_tonight, .ref a_T_otherNight, .ref a_T_undoable, .ref a_T_kept, .ref a_T_mornings, .ref a_T_survey, .ref a_T_otherSurvey, .ref a_T_endsWithout, .int T_surveyed])), (a_T_slate, .inr (5, [.ref a_T_slate_guestKind, .ref a_T_slate_guestFloor, .ref a_T_slate_wishKind, .ref a_T_slate_wishA, .ref a_T_slate_wishB, .ref a_T_slate_wishNames, .int T_slate_guests, .int T_slate_wishes, .int T_slate_start])), (a_T_tonight, .inr (1, [.ref a_T_slate, .ref a_T_tonight_floors, .int T_tonight_here, .int T_tonight_struck])), (a_T_slate_wishKind, .inl (cI, 9, .inl T_slate_wishKind)), (a_T_slate_wishNames, .inl (cI, 9, .inl T_slate_wishNames)), (a_T_slate_wishA, .inl (cI, 9, .inl T_slate_wishA)), (a_T_slate_wishB, .inl (cI, 9, .inl T_slate_wishB))] s.heap.size = A at hD ⊢
  have hA : ∀ q : Nat, s.heap.size ≤ q → A q := fun q h => by rw [← hAe]; exact Or.inr h
  have hS : va_S A s.heap s.heap [] := va_S.rf
  have hl := lv_entry ([.ref a_T, .int x1] : List Value) (n := 4) (Nat.le_of_ble_eq_true rfl)
  rw [lg_entry_eq]
  generalize (lg_sl ([.ref a_T, .int x1] : List Value) ++ List.replicate (4 - (lg_sl ([.ref a_T, .int x1] : List Value)).length) Slot.unset).toArray = ls at hl ⊢
  replace hl : lv_has ls 4 [(0, .ref a_T), (1, .int x1)] := hl
  obtain ⟨Q, hQ⟩ : ∃ Q, Q = MQ below (va_Qi (fun r (_ : Unit) => r = R) (fun _ => BW (dC, dI) (tysA cC cI cJ) A [(a_T, .inr (8, [.ref a_T_text, .ref a_T_draft, .ref a_T_reader, .ref a_T_slate, .ref a_T_tonight, .ref a_T_otherNight, .ref a_T_undoable, .ref a_T_kept, .ref a_T_mornings, .ref a_T_survey, .ref a_T_otherSurvey, .ref a_T_endsWithout, .int T_surveyed])), (a_T_slate, .inr (5, [.ref a_T_slate_guestKind, .ref a_T_slate_guestFloor, .ref a_T_slate_wishKind, .ref a_T_slate_wishA, .ref a_T_slate_wishB, .ref a_T_slate_wishNames, .int T_slate_guests, .int T_slate_wishes, .int T_slate_start])), (a_T_tonight, .inr (1, [.ref a_T_slate, .ref a_T_tonight_floors, .int T_tonight_here, .int T_tonight_struck])), (a_T_slate_wishKind, .inl (cI, 9, .inl T_slate_wishKind)), (a_T_slate_wishNames, .inl (cI, 9, .inl T_slate_wishNames)), (a_T_slate_wishA, .inl (cI, 9, .inl T_slate_wishA)), (a_T_slate_wishB, .inl (cI, 9, .inl T_slate_wishB))]) A) ([.ref a_T, .int x1] : List Value).toArray s 0 0 A := ⟨_, rfl⟩
  rw [← hQ]
  suffices hE : WG p l e rmX8_othersHungOnBy s m ([.ref a_T, .int x1] : List Value).toArray below meth c 0 0 Q (dC, dI) A 0 4 [(a_T, .inr (8, [.ref a_T_text, .ref a_T_draft, .ref a_T_reader, .ref a_T_slate, .ref a_T_tonight, .ref a_T_otherNight, .ref a_T_undoable, .ref a_T_kept, .ref a_T_mornings, .ref a_T_survey, .ref a_T_otherSurvey, .ref a_T_endsWithout, .int T_surveyed])), (a_T_slate, .inr (5, [.ref a_T_slate_guestKind, .ref a_T_slate_guestFloor, .ref a_T_slate_wishKind, .ref a_T_slate_wishA, .ref a_T_slate_wishB, .ref a_T_slate_wishNames, .int T_slate_guests, .int T_slate_wishes, .int T_slate_start])), (a_T_tonight, .inr (1, [.ref a_T_slate, .ref a_T_tonight_floors, .int T_tonight_here, .int T_tonight_struck])), (a_T_slate_wishKind, .inl (cI, 9, .inl T_slate_wishKind)), (a_T_slate_wishNames, .inl (cI, 9, .inl T_slate_wishNames)), (a_T_slate_wishA, .inl (cI, 9, .inl T_slate_wishA)), (a_T_slate_wishB, .inl (cI, 9, .inl T_slate_wishB))] [(0, .ref a_T), (1, .int x1)] [] from hE _ _ _ hP hD hS hl
  clear hP hD hS hl hD0 hAe
  intro H locs ls hP hD hS hl
  unfold fX8_othersHungOnBy at hr
  refine lv_iconst (v := 0) hx hb dX8_othersHungOnBy_0 (by decide) ?_
  refine lv_istore_n (lv' := [(2, .int 0), (0, .ref a_T), (1, .int x1)]) hx hb dX8_othersHungOnBy_1 rfl hl (by decide) rfl (fun ls hl => ?_)
  refine lv_iconst (v := 0) hx hb dX8_othersHungOnBy_2 (by decide) ?_
  refine lv_istore_n (lv' := [(3, .int 0), (2, .int 0), (0, .ref a_T), (1, .int x1)]) hx hb dX8_othersHungOnBy_3 rfl hl (by decide) rfl (fun ls hl => ?_)
  have hL1 : ∀ (n1 : Nat) (x2 : Int32) (x3 : Int32) (x2_1 : Int32), fX8_othersHungOnBy_L4 K x1 T_slate_guests T_slate_wishes T_tonight_here T_tonight_struck T_slate_wishKind T_slate_wishNames T_slate_wishA T_slate_wishB n1 x2 x3 = some x2_1 → WG p l e rmX8_othersHungOnBy s m ([.ref a_T, .int x1] : List Value).toArray below meth c 0 0 Q (dC, dI) A 53 4 [(a_T, .inr (8, [.ref a_T_text, .ref a_T_draft, .ref a_T_reader, .ref a_T_slate, .ref a_T_tonight, .ref a_T_otherNight, .ref a_T_undoable, .ref a_T_kept, .ref a_T_mornings, .ref a_T_survey, .ref a_T_otherSurvey, .ref a_T_endsWithout, .int T_surveyed])), (a_T_slate, .inr (5, [.ref a_T_slate_guestKind, .ref a_T_slate_guestFloor, .ref a_T_slate_wishKind, .ref a_T_slate_wishA, .ref a_T_slate_wishB, .ref a_T_slate_wishNames, .int T_slate_guests, .int T_slate_wishes, .int T_slate_start])), (a_T_tonight, .inr (1, [.ref a_T_slate, .ref a_T_tonight_floors, .int T_tonight_here, .int T_tonight_struck])), (a_T_slate_wishKind, .inl (cI, 9, .inl T_slate_wishKind)), (a_T_slate_wishNames, .inl (cI, 9, .inl T_slate_wishNames)), (a_T_slate_wishA, .inl (cI, 9, .inl T_slate_wishA)), (a_T_slate_wishB, .inl (cI, 9, .inl T_slate_wishB))] [(2, .int x2_1)] [] → WG p l e rmX8_othersHungOnBy s m ([.ref a_T, .int x1] : List Value).toArray below meth c 0 0 Q (dC, dI) A 4 4 [(a_T, .inr (8, [.ref a_T_text, .ref a_T_draft, .ref a_T_reader, .ref a_T_slate, .ref a_T_tonight, .ref a_T_otherNight, .ref a_T_undoable, .ref a_T_kept, .ref a_T_mornings, .ref a_T_survey, .ref a_T_otherSurvey, .ref a_T_endsWithout, .int T_surveyed])), (a_T_slate, .inr (5, [.ref a_T_slate_guestKind, .ref a_T_slate_guestFloor, .ref a_T_slate_wishKind, .ref a_T_slate_wishA, .ref a_T_slate_wishB, .ref a_T_slate_wishNames, .int T_slate_guests, .int T_slate_wishes, .int T_slate_start])), (a_T_tonight, .inr (1, [.ref a_T_slate, .ref a_T_tonight_floors, .int T_tonight_here, .int T_tonight_struck])), (a_T_slate_wishKind, .inl (cI, 9, .inl T_slate_wishKind)), (a_T_slate_wishNames, .inl (cI, 9, .inl T_slate_wishNames)), (a_T_slate_wishA, .inl (cI, 9, .inl T_slate_wishA)), (a_T_slate_wishB, .inl (cI, 9, .inl T_slate_wishB))] [(0, .ref a_T), (1, .int x1), (2, .int x2), (3, .int x3)] [] := by
    intro n1
    induction n1 with
    | zero =>
      intro x2 x3 x2_1 hr
      rw [fX8_othersHungOnBy_L4] at hr
      cases hr
    | succ n1 ih4 =>
      intro x2 x3 x2_1 hr hX1 H locs ls hP hD hS hl
      rw [fX8_othersHungOnBy_L4] at hr
      refine lv_iload_n hx hb dX8_othersHungOnBy_4 rfl (lv_at hl 3 rfl) ?_
      refine lv_aload_n hx hb dX8_othersHungOnBy_5 rfl (lv_at hl 0 rfl) ?_
      refine va_get (D := (dC, dI)) (ci := 8) (v := .ref a_T_slate) (C := RX8) (T := TX8) (N := 13) hx hb hts inX8_othersHungOnBy_X8 hown hK hP 0 rfl rfl 3 (by decide) (hts _ mbX8_othersHungOnBy_0) (fun _ h9 => h9) rfl dX8_othersHungOnBy_6 ?_
      refine va_getN (D := (dC, dI)) (ci := 5) (v := .int T_slate_guests) (C := RX5) (T := TX5) (N := 9) hx hb hts inX8_othersHungOnBy_X5 hown hK hP 1 rfl rfl 6 (by decide) (nk_use hN nw_16) (fun _ h9 => h9) rfl dX8_othersHungOnBy_9 ?_
      refine lv_icmp_ge (tgt := 53) hx hb dX8_othersHungOnBy_12 (by decide) (fun c1 => ?_) (fun c1 => ?_)
      · replace hr := it_t hr c1
        have he := Option.some.inj hr
        cases he
        exact hX1 H locs ls hP hD hS (lv_sub hl [2] rfl)
      · replace hr := it_f hr c1
        refine lv_aload_n hx hb dX8_othersHungOnBy_15 rfl (lv_at hl 0 rfl) ?_
        refine va_get (D := (dC, dI)) (ci := 8) (v := .ref a_T_tonight) (C := RX8) (T := TX8) (N := 13) hx hb hts inX8_othersHungOnBy_X8 hown hK hP 0 rfl rfl 4 (by decide) (hts _ mbX8_othersHungOnBy_3) (fun _ h9 => h9) rfl dX8_othersHungOnBy_16 ?_
        refine va_getN (D := (dC, dI)) (ci := 1) (v := .int T_tonight_here) (C := RX1) (T := TX1) (N := 4) hx hb hts inX8_othersHungOnBy_X1 hown hK hP 2 rfl rfl 2 (by decide) (nk_use hN nw_30) (fun _ h9 => h9) rfl dX8_othersHungOnBy_19 ?_
        refine lv_iload_n hx hb dX8_othersHungOnBy_22 rfl (lv_at hl 3 rfl) ?_
        obtain ⟨r, hc1, hr⟩ := bd1_some hr
        refine call_i (D := (dC, dI)) (tys := tysA cC cI cJ) (wc := []) (wr := [(a_T, .inr (8, [.ref a_T_text, .ref a_T_draft, .ref a_T_reader, .ref a_T_slate, .ref a_T_tonight, .ref a_T_otherNight, .ref a_T_undoable, .ref a_T_kept, .ref a_T_mornings, .ref a_T_survey, .ref a_T_otherSurvey, .ref a_T_endsWithout, .int T_surveyed])), (a_T_slate, .inr (5, [.ref a_T_slate_guestKind, .ref a_T_slate_guestFloor, .ref a_T_slate_wishKind, .ref a_T_slate_wishA, .ref a_T_slate_wishB, .ref a_T_slate_wishNames, .int T_slate_guests, .int T_slate_wishes, .int T_slate_start])), (a_T_tonight, .inr (1, [.ref a_T_slate, .ref a_T_tonight_floors, .int T_tonight_here, .int T_tonight_struck])), (a_T_slate_wishKind, .inl (cI, 9, .inl T_slate_wishKind)), (a_T_slate_wishNames, .inl (cI, 9, .inl T_slate_wishNames)), (a_T_slate_wishA, .inl (cI, 9, .inl T_slate_wishA)), (a_T_slate_wishB, .inl (cI, 9, .inl T_slate_wishB))]) (w1 := []) (wn := [(a_T, .inr (8, [.ref a_T_text, .ref a_T_draft, .ref a_T_reader, .ref a_T_slate, .ref a_T_tonight, .ref a_T_otherNight, .ref a_T_undoable, .ref a_T_kept, .ref a_T_mornings, .ref a_T_survey, .ref a_T_otherSurvey, .ref a_T_endsWithout, .int T_surveyed])), (a_T_slate, .inr (5, [.ref a_T_slate_guestKind, .ref a_T_slate_guestFloor, .ref a_T_slate_wishKind, .ref a_T_slate_wishA, .ref a_T_slate_wishB, .ref a_T_slate_wishNames, .int T_slate_guests, .int T_slate_wishes, .int T_slate_start])), (a_T_tonight, .inr (1, [.ref a_T_slate, .ref a_T_tonight_floors, .int T_tonight_here, .int T_tonight_struck])), (a_T_slate_wishKind, .inl (cI, 9, .inl T_slate_wishKind)), (a_T_slate_wishNames, .inl (cI, 9, .inl T_slate_wishNames)), (a_T_slate_wishA, .inl (cI, 9, .inl T_slate_wishA)), (a_T_slate_wishB, .inl (cI, 9, .inl T_slate_wishB))]) (r0 := r) hP hD hS hA [] [0, 1, 2, 3, 4, 5, 6] [0, 1, 2, 3, 4, 5, 6] rfl rfl (by decide +kernel) (by decide +kernel) rfl (by decide +kernel) (va_runS (As := [.int T_tonight_here, .int x3]) (rest := []) ⟨hx, hb, hml, hown, hts⟩ (kX8_has l dC dI cC cI cJ H.size K T_tonight_here x3 r hc1) (va_cwS 2 hts gX8_othersHungOnBy_X8_has rfl rfl rfl (by decide +kernel) ⟨Nat.le_of_ble_eq_true rfl, Nat.le_of_ble_eq_true rfl⟩) ⟨fbW, preW hP hD hK hN [] rfl (by decide +kernel)⟩ rfl rfl hl.1 rfl (lv_room (Nat.le_of_ble_eq_true rfl)) dX8_othersHungOnBy_23 ⟨Nat.zero_le _, Nat.zero_le _⟩) (fun H locs hP hD hS => ?_)
        obtain ⟨x2_3, hj1, hr⟩ := bd1_some hr
        have hJ1 : WG p l e rmX8_othersHungOnBy s m ([.ref a_T, .int x1] : List Value).toArray below meth c 0 0 Q (dC, dI) A 47 4 [(a_T, .inr (8, [.ref a_T_text, .ref a_T_draft, .ref a_T_reader, .ref a_T_slate, .ref a_T_tonight, .ref a_T_otherNight, .ref a_T_undoable, .ref a_T_kept, .ref a_T_mornings, .ref a_T_survey, .ref a_T_otherSurvey, .ref a_T_endsWithout, .int T_surveyed])), (a_T_slate, .inr (5, [.ref a_T_slate_guestKind, .ref a_T_slate_guestFloor, .ref a_T_slate_wishKind, .ref a_T_slate_wishA, .ref a_T_slate_wishB, .ref a_T_slate_wishNames, .int T_slate_guests, .int T_slate_wishes, .int T_slate_start])), (a_T_tonight, .inr (1, [.ref a_T_slate, .ref a_T_tonight_floors, .int T_tonight_here, .int T_tonight_struck])), (a_T_slate_wishKind, .inl (cI, 9, .inl T_slate_wishKind)), (a_T_slate_wishNames, .inl (cI, 9, .inl T_slate_wishNames)), (a_T_slate_wishA, .inl (cI, 9, .inl T_slate_wishA)), (a_T_slate_wishB, .inl (cI, 9, .inl T_slate_wishB))] [(0, .ref a_T), (1, .int x1), (2, .int x2_3), (3, .int x3)] [] := by
          intro H locs ls hP hD hS hl
          obtain ⟨x3_1, e2, hr⟩ := nm_el hr
          refine lv_iinc (v := x3_1) (lv' := [(3, .int x3_1), (0, .ref a_T), (1, .int x1), (2, .int x2_3)]) hx hb dX8_othersHungOnBy_47 hl (k := 3) rfl e2.symm (by decide) rfl (fun ls hl => ?_)
          refine lv_goto (tgt := 4) hx hb dX8_othersHungOnBy_50 (by decide) ?_
          exact ih4 _ _ _ hr hX1 H locs ls hP hD hS (lv_sub hl [1, 2, 3, 0] rfl)
        replace hr := hj1
        refine lv_if_eq (tgt := 47) hx hb dX8_othersHungOnBy_26 (by decide) (fun c2 => ?_) (fun c2 => ?_)
        · replace hr := it_t hr c2
          cases hr
          exact hJ1 H locs ls hP hD hS (lv_sub hl [0, 1, 2, 3] rfl)
        · replace hr := it_f hr c2
          refine lv_aload_n hx hb dX8_othersHungOnBy_29 rfl (lv_at hl 0 rfl) ?_
          refine va_get (D := (dC, dI)) (ci := 8) (v := .ref a_T_tonight) (C := RX8) (T := TX8) (N := 13) hx hb hts inX8_othersHungOnBy_X8 hown hK hP 0 rfl rfl 4 (by decide) (hts _ mbX8_othersHungOnBy_3) (fun _ h9 => h9) rfl dX8_othersHungOnBy_30 ?_
          refine lv_iload_n hx hb dX8_othersHungOnBy_33 rfl (lv_at hl 3 rfl) ?_
          obtain ⟨r_1, hc2, hr⟩ := bd1_some hr
          refine call_i (D := (dC, dI)) (tys := tysA cC cI cJ) (wc := [(a_T_tonight, .inr (1, [.ref a_T_slate, .ref a_T_tonight_floors, .int T_tonight_here, .int T_tonight_struck])), (a_T_slate, .inr (5, [.ref a_T_slate_guestKind, .ref a_T_slate_guestFloor, .ref a_T_slate_wishKind, .ref a_T_slate_wishA, .ref a_T_slate_wishB, .ref a_T_slate_wishNames, .int T_slate_guests, .int T_slate_wishes, .int T_slate_start])), (a_T_slate_wishKind, .inl (cI, 9, .inl T_slate_wishKind)), (a_T_slate_wishNames, .inl (cI, 9, .inl T_slate_wishNames)), (a_T_slate_wishA, .inl (cI, 9, .inl T_slate_wishA)), (a_T_slate_wishB, .inl (cI, 9, .inl T_slate_wishB))]) (wr := [(a_T, .inr (8, [.ref a_T_text, .ref a_T_draft, .ref a_T_reader, .ref a_T_slate, .ref a_T_tonight, .ref a_T_otherNight, .ref a_T_undoable, .ref a_T_kept, .ref a_T_mornings, .ref a_T_survey, .ref a_T_otherSurvey, .ref a_T_endsWithout, .int T_surveyed]))]) (w1 := [(a_T_tonight, .inr (1, [.ref a_T_slate, .ref a_T_tonight_floors, .int T_tonight_here, .int T_tonight_struck])), (a_T_slate, .inr (5, [.ref a_T_slate_guestKind, .ref a_T_slate_guestFloor, .ref a_T_slate_wishKind, .ref a_T_slate_wishA, .ref a_T_slate_wishB, .ref a_T_slate_wishNames, .int T_slate_guests, .int T_slate_wishes, .int T_slate_start])), (a_T_slate_wishKind, .inl (cI, 9, .inl T_slate_wishKind)), (a_T_slate_wishNames, .inl (cI, 9, .inl T_slate_wishNames)), (a_T_slate_wishA, .inl (cI, 9, .inl T_slate_wishA)), (a_T_slate_wishB, .inl (cI, 9, .inl T_slate_wishB))]) (wn := [(a_T, .inr (8, [.ref a_T_text, .ref a_T_draft, .ref a_T_reader, .ref a_T_slate, .ref a_T_tonight, .ref a_T_otherNight, .ref a_T_undoable, .ref a_T_kept, .ref a_T_mornings, .ref a_T_survey, .ref a_T_otherSurvey, .ref a_T_endsWithout, .int T_surveyed])), (a_T_slate, .inr (5, [.ref a_T_slate_guestKind, .ref a_T_slate_guestFloor, .ref a_T_slate_wishKind, .ref a_T_slate_wishA, .ref a_T_slate_wishB, .ref a_T_slate_wishNames, .int T_slate_guests, .int T_slate_wishes, .int T_slate_start])), (a_T_tonight, .inr (1, [.ref a_T_slate, .ref a_T_tonight_floors, .int T_tonight_here, .int T_tonight_struck])), (a_T_slate_wishKind, .inl (cI, 9, .inl T_slate_wishKind)), (a_T_slate_wishNames, .inl (cI, 9, .inl T_slate_wishNames)), (a_T_slate_wishA, .inl (cI, 9, .inl T_slate_wishA)), (a_T_slate_wishB, .inl (cI, 9, .inl T_slate_wishB))]) (r0 := r_1) hP hD hS hA [2, 1, 3, 4, 5, 6] [0] [0, 2, 1, 3, 4, 5, 6] rfl rfl (by decide +kernel) (by decide +kernel) rfl (by decide +kernel) (va_runVN (C := RX1) (host := "BootsAtDawn") (As := [.int x3]) (rest := []) ⟨hx, hb, hml, hown, hts⟩ (kX1_hangingOn l dC dI cC cI cJ H.size K a_T_tonight a_T_slate a_T_tonight_floors a_T_slate_guestKind a_T_slate_guestFloor a_T_slate_wishKind a_T_slate_wishA a_T_slate_wishB a_T_slate_wishNames x3 T_tonight_here T_tonight_struck T_slate_guests T_slate_wishes T_slate_start T_slate_wishKind T_slate_wishNames T_slate_wishA T_slate_wishB r_1 hc2) ⟨va_cnB 1 hts gX8_othersHungOnBy_X1_hangingOn_n214 rfl rfl rfl (hN _ nw_98) (hts _ mbX8_othersHungOnBy_5) (by decide +kernel) ⟨Nat.le_of_ble_eq_true rfl, Nat.le_of_ble_eq_true rfl⟩, (hts _ mbX8_othersHungOnBy_6), (hts _ mbX8_othersHungOnBy_7)⟩ ⟨fbW, va_recv hK hP (ci := 1) (q0 := 2) rfl rfl, preW hP hD hK hN [2, 1, 3, 4, 5, 6] rfl (by decide +kernel)⟩ rfl rfl hl.1 rfl (lv_room (Nat.le_of_ble_eq_true rfl)) dX8_othersHungOnBy_34 ⟨Nat.zero_le _, Nat.zero_le _⟩) (fun H locs hP hD hS => ?_)
          refine lv_iload_n hx hb dX8_othersHungOnBy_37 rfl (lv_at hl 1 rfl) ?_
          obtain ⟨r_2, hc3, hr⟩ := bd1_some hr
          refine call_i (D := (dC, dI)) (tys := tysA cC cI cJ) (wc := []) (wr := [(a_T, .inr (8, [.ref a_T_text, .ref a_T_draft, .ref a_T_reader, .ref a_T_slate, .ref a_T_tonight, .ref a_T_otherNight, .ref a_T_undoable, .ref a_T_kept, .ref a_T_mornings, .ref a_T_survey, .ref a_T_otherSurvey, .ref a_T_endsWithout, .int T_surveyed])), (a_T_slate, .inr (5, [.ref a_T_slate_guestKind, .ref a_T_slate_guestFloor, .ref a_T_slate_wishKind, .ref a_T_slate_wishA, .ref a_T_slate_wishB, .ref a_T_slate_wishNames, .int T_slate_guests, .int T_slate_wishes, .int T_slate_start])), (a_T_tonight, .inr (1, [.ref a_T_slate, .ref a_T_tonight_floors, .int T_tonight_here, .int T_tonight_struck])), (a_T_slate_wishKind, .inl (cI, 9, .inl T_slate_wishKind)), (a_T_slate_wishNames, .inl (cI, 9, .inl T_slate_wishNames)), (a_T_slate_wishA, .inl (cI, 9, .inl T_slate_wishA)), (a_T_slate_wishB, .inl (cI, 9, .inl T_slate_wishB))]) (w1 := []) (wn := [(a_T, .inr (8, [.ref a_T_text, .ref a_T_draft, .ref a_T_reader, .ref a_T_slate, .ref a_T_tonight, .ref a_T_otherNight, .ref a_T_undoable, .ref a_T_kept, .ref a_T_mornings, .ref a_T_survey, .ref a_T_otherSurvey, .ref a_T_endsWithout, .int T_surveyed])), (a_T_slate, .inr (5, [.ref a_T_slate_guestKind, .ref a_T_slate_guestFloor, .ref a_T_slate_wishKind, .ref a_T_slate_wishA, .ref a_T_slate_wishB, .ref a_T_slate_wishNames, .int T_slate_guests, .int T_slate_wishes, .int T_slate_start])), (a_T_tonight, .inr (1, [.ref a_T_slate, .ref a_T_tonight_floors, .int T_tonight_here, .int T_tonight_struck])), (a_T_slate_wishKind, .inl (cI, 9, .inl T_slate_wishKind)), (a_T_slate_wishNames, .inl (cI, 9, .inl T_slate_wishNames)), (a_T_slate_wishA, .inl (cI, 9, .inl T_slate_wishA)), (a_T_slate_wishB, .inl (cI, 9, .inl T_slate_wishB))]) (r0 := r_2) hP hD hS hA [] [0, 1, 2, 3, 4, 5, 6] [0, 1, 2, 3, 4, 5, 6] rfl rfl (by decide +kernel) (by decide +kernel) rfl (by decide +kernel) (va_runS (As := [.int r_1, .int x1]) (rest := []) ⟨hx, hb, hml, hown, hts⟩ (kX8_has l dC dI cC cI cJ H.size K r_1 x1 r_2 hc3) (va_cwS 2 hts gX8_othersHungOnBy_X8_has rfl rfl rfl (by decide +kernel) ⟨Nat.le_of_ble_eq_true rfl, Nat.le_of_ble_eq_true rfl⟩) ⟨fbW, preW hP hD hK hN [] rfl (by decide +kernel)⟩ rfl rfl hl.1 rfl (lv_room (Nat.le_of_ble_eq_true rfl)) dX8_othersHungOnBy_38 ⟨Nat.zero_le _, Nat.zero_le _⟩) (fun H locs hP hD hS => ?_)
          refine lv_if_eq (tgt := 47) hx hb dX8_othersHungOnBy_41 (by decide) (fun c3 => ?_) (fun c3 => ?_)
          · replace hr := it_t hr c3
            cases hr
            exact hJ1 H locs ls hP hD hS (lv_sub hl [0, 1, 2, 3] rfl)
          · replace hr := it_f hr c3
            obtain ⟨x2_2, e1, hr⟩ := nm_el hr
            refine lv_iinc (v := x2_2) (lv' := [(2, .int x2_2), (0, .ref a_T), (1, .int x1), (3, .int x3)]) hx hb dX8_othersHungOnBy_44 hl (k := 2) rfl e1.symm (by decide) rfl (fun ls hl => ?_)
            cases hr
            exact hJ1 H locs ls hP hD hS (lv_sub hl [1, 2, 0, 3] rfl)
  obtain ⟨x2_1, hE, hr⟩ := bd1_some hr
  refine hL1 K 0 0 x2_1 hE ?_ H locs ls hP hD hS (lv_sub hl [2, 3, 1, 0] rfl)
  intro H locs ls hP hD hS hl
  refine lv_iload_n hx hb dX8_othersHungOnBy_53 rfl (lv_at hl 0 rfl) ?_
  have he := Option.some.inj hr
  subst he
  subst hQ
  exact ret_i hx hb hrt hK hP hD hS hlocks dX8_othersHungOnBy_54
def fX8_power_L4 (K : Nat) (x0 : Int32) (x1 : Int32) : Nat → Int32 → Int32 → Option (Int32)
  | 0, _, _ => none
  | n1 + 1, x2, x3 =>
    if x1 ≤ (x3 : Int32) then (
    some x2)
    else (
    nm (x2 * x0) fun x2_2 =>
    nm (x3 + 1) fun x3_1 =>
    fX8_power_L4 K x0 x1 n1 x2_2 x3_1)
def fX8_power (K : Nat) (x0 : Int32) (x1 : Int32) : Option (Int32) :=
    bd1 (fX8_power_L4 K x0 x1 K 1 0) fun x2_1 =>
    some x2_1
abbrev rmX8_power : Room := { frames := 0, cells := 0, slots := 0, locals := 0 }
set_option maxHeartbeats 8000000 in
set_option maxRecDepth 100000 in
theorem kX8_power (l : Launch) (dC : Nat → ClassId) (dI : Nat → Nat → Nat) (cC cI cJ : ClassId) (sz : Nat) (K : Nat) (x0 : Int32) (x1 : Int32) (R : Int32) (hr : fX8_power K x0 x1 = some R) : Met l yX8_power wsX8_power rmX8_power (va_Pc ([.int x0, .int x1] : List Value) (PcW (dC, dI) (tysA cC cI cJ) sz [])) (va_Qi (fun r (_ : Unit) => r = R) (fun _ => BW (dC, dI) (tysA cC cI cJ) (va_A [] sz) []) (va_A [] sz)) 0 0 (va_A [] sz) := by
  refine Met.ofW (cc := cX8_power) (maxL := 4) (ret := (some .int)) (by decide) rfl ?_
  intro p e s m args below meth c s₁ B hml hv
  obtain ⟨rfl, hsz, hP, hK, hD0, hN⟩ := hv
  have hx := B.exec
  have hb := B.bytes
  have hrt := B.returns
  have hts := atoms_spec (ws := wsX8_power) B.pre
  have hown : s.vm.findClass RX8 = some m.cls := findClass_of_methodNamed B.named
  have hlocks := B.notSynchronized
  subst hsz
  have hD := hD0.self (sz := s.heap.size)
  generalize hAe : va_A [] s.heap.size = A at hD ⊢
  have hA : ∀ q : Nat, s.heap.size ≤ q → A q := fun q h => by rw [← hAe]; exact Or.inr h
  have hS : va_S A s.heap s.heap [] := va_S.rf
  have hl := lv_entry ([.int x0, .int x1] : List Value) (n := 4) (Nat.le_of_ble_eq_true rfl)
  rw [lg_entry_eq]
  generalize (lg_sl ([.int x0, .int x1] : List Value) ++ List.replicate (4 - (lg_sl ([.int x0, .int x1] : List Value)).length) Slot.unset).toArray = ls at hl ⊢
  replace hl : lv_has ls 4 [(0, .int x0), (1, .int x1)] := hl
  obtain ⟨Q, hQ⟩ : ∃ Q, Q = MQ below (va_Qi (fun r (_ : Unit) => r = R) (fun _ => BW (dC, dI) (tysA cC cI cJ) A []) A) ([.int x0, .int x1] : List Value).toArray s 0 0 A := ⟨_, rfl⟩
  rw [← hQ]
  suffices hE : WG p l e rmX8_power s m ([.int x0, .int x1] : List Value).toArray below meth c 0 0 Q (dC, dI) A 0 4 [] [(0, .int x0), (1, .int x1)] [] from hE _ _ _ hP hD hS hl
  clear hP hD hS hl hD0 hAe
  intro H locs ls hP hD hS hl
  unfold fX8_power at hr
  refine lv_iconst (v := 1) hx hb dX8_power_0 (by decide) ?_
  refine lv_istore_n (lv' := [(2, .int 1), (0, .int x0), (1, .int x1)]) hx hb dX8_power_1 rfl hl (by decide) rfl (fun ls hl => ?_)
  refine lv_iconst (v := 0) hx hb dX8_power_2 (by decide) ?_
  refine lv_istore_n (lv' := [(3, .int 0), (2, .int 1), (0, .int x0), (1, .int x1)]) hx hb dX8_power_3 rfl hl (by decide) rfl (fun ls hl => ?_)
  have hL1 : ∀ (n1 : Nat) (x2 : Int32) (x3 : Int32) (x2_1 : Int32), fX8_power_L4 K x0 x1 n1 x2 x3 = some x2_1 → WG p l e rmX8_power s m ([.int x0, .int x1] : List Value).toArray below meth c 0 0 Q (dC, dI) A 19 4 [] [(2, .int x2_1)] [] → WG p l e rmX8_power s m ([.int x0, .int x1] : List Value).toArray below meth c 0 0 Q (dC, dI) A 4 4 [] [(0, .int x0), (1, .int x1), (2, .int x2), (3, .int x3)] [] := by
    intro n1
    induction n1 with
    | zero =>
      intro x2 x3 x2_1 hr
      rw [fX8_power_L4] at hr
      cases hr
    | succ n1 ih4 =>
      intro x2 x3 x2_1 hr hX1 H locs ls hP hD hS hl
      rw [fX8_power_L4] at hr
      refine lv_iload_n hx hb dX8_power_4 rfl (lv_at hl 3 rfl) ?_
      refine lv_iload_n hx hb dX8_power_5 rfl (lv_at hl 1 rfl) ?_
      refine lv_icmp_ge (tgt := 19) hx hb dX8_power_6 (by decide) (fun c1 => ?_) (fun c1 => ?_)
      · replace hr := it_t hr c1
        have he := Option.some.inj hr
        cases he
        exact hX1 H locs ls hP hD hS (lv_sub hl [2] rfl)
      · replace hr := it_f hr c1
        refine lv_iload_n hx hb dX8_power_9 rfl (lv_at hl 2 rfl) ?_
        refine lv_iload_n hx hb dX8_power_10 rfl (lv_at hl 0 rfl) ?_
        refine lv_imul hx hb dX8_power_11 ?_
        obtain ⟨x2_2, e1, hr⟩ := nm_el hr
        refine lv_nmi e1 ?_
        refine lv_istore_n (lv' := [(2, .int x2_2), (0, .int x0), (1, .int x1), (3, .int x3)]) hx hb dX8_power_12 rfl hl (by decide) rfl (fun ls hl => ?_)
        obtain ⟨x3_1, e2, hr⟩ := nm_el hr
        refine lv_iinc (v := x3_1) (lv' := [(3, .int x3_1), (2, .int x2_2), (0, .int x0), (1, .int x1)]) hx hb dX8_power_13 hl (k := 3) rfl e2.symm (by decide) rfl (fun ls hl => ?_)
        refine lv_goto (tgt := 4) hx hb dX8_power_16 (by decide) ?_
        exact ih4 _ _ _ hr hX1 H locs ls hP hD hS (lv_sub hl [2, 3, 1, 0] rfl)
  obtain ⟨x2_1, hE, hr⟩ := bd1_some hr
  refine hL1 K 1 0 x2_1 hE ?_ H locs ls hP hD hS (lv_sub hl [2, 3, 1, 0] rfl)
  intro H locs ls hP hD hS hl
  refine lv_iload_n hx hb dX8_power_19 rfl (lv_at hl 0 rfl) ?_
  have he := Option.some.inj hr
  subst he
  subst hQ
  exact ret_i hx hb hrt hK hP hD hS hlocks dX8_power_20
def fX8_overslept_L63 (K : Nat) : Nat → Int32 → Int32 → Int32 → Option (Int32 × Int32)
  | 0, _, _, _ => none
  | n1 + 1, x4_1, x5, x6 =>
    if (x6 : Int32) ≤ 1 then (
    some (x4_1, x5))
    else (
    gd (¬ (x6 : Int32) = 0) (
    bd2 (
    if ((x4_1 - x4_1 / x6 * x6) : Int32) = 0 then (
    gd (¬ (x6 : Int32) = 0) (
    if ((x5 - x5 / x6 * x6) : Int32) = 0 then (
    gd (¬ (x6 : Int32) = 0) (
    nm (x4_1 / x6) fun x4_3 =>
    gd (¬ (x6 : Int32) = 0) (
    nm (x5 / x6) fun x5_2 =>
    some (x4_3, x5_2))))
    else (
    some (x4_1, x5))))
    else (
    some (x4_1, x5))) fun x4_4 x5_3 =>
    nm (x6 + (-1)) fun x6_1 =>
    fX8_overslept_L63 K n1 x4_4 x5_3 x6_1))
def fX8_overslept (K : Nat) (x1 : Int32) (x2 : Int32) (x3 : Int32) (T_slate_guests : Int32) (T_slate_wishes : Int32) (T_tonight_here : Int32) (T_tonight_struck : Int32) (T_slate_wishKind : (Nat → Int32)) (T_slate_wishNames : (Nat → Int32)) (T_slate_wishA : (Nat → Int32)) (T_slate_wishB : (Nat → Int32)) : Option (Int32) :=
    bd1 (fX5_isGuest K x1 T_slate_guests) fun r =>
    if (r : Int32) = 0 then (
    some (-1))
    else (
    if (x2 : Int32) < 0 then (
    some (-1))
    else (
    if 10 < (x2 : Int32) then (
    some (-1))
    else (
    if (x3 : Int32) < 0 then (
    some (-1))
    else (
    if (x3 : Int32) ≤ 1 then (
    bd1 (fX8_has K T_tonight_here x1) fun r_1 =>
    if (r_1 : Int32) = 0 then (
    some (-2))
    else (
    nm (10 - x2) fun x4 =>
    bd2 (fX8_overslept_L63 K K x4 10 10) fun x4_2 x5_1 =>
    bd1 (
    if (x3 : Int32) = 0 then (
    some x4_2)
    else (
    some x5_1)) fun y =>
    bd1 (fX8_othersHungOnBy K x1 T_slate_guests T_slate_wishes T_tonight_here T_tonight_struck T_slate_wishKind T_slate_wishNames T_slate_wishA T_slate_wishB) fun r_2 =>
    bd1 (fX8_power K y (1 + r_2)) fun r_3 =>
    some r_3))
    else (
    some (-1))))))
theorem mbX8_overslept_0 : Cond.fieldLink RX8 32 "BootsAtDawn" "slate" "LBootsAtDawn$Slate;" ∈ wsX8_overslept := List.mem_of_getElem? (i := 1) rfl
theorem inX8_overslept_X8 : ∀ w ∈ u_ws RX8 TX8 13, w ∈ wsX8_overslept := fun _ h => (List.mem_cons_of_mem _ (List.mem_append_left _ (List.mem_append_left _ (List.mem_append_right _ h))))
theorem mbX8_overslept_2 : Cond.initialized RX5 ∈ wsX8_overslept := List.mem_of_getElem? (i := 4) rfl
theorem mbX8_overslept_3 : Cond.instanceMethod yX5_isGuest ∈ wsX8_overslept := List.mem_of_getElem? (i := 3) rfl
theorem mbX8_overslept_4 : Cond.selects RX5 yX5_isGuest yX5_isGuest ∈ wsX8_overslept := List.mem_of_getElem? (i := 5) rfl
theorem mbX8_overslept_5 : Cond.fieldLink RX8 40 "BootsAtDawn" "tonight" "LBootsAtDawn$Night;" ∈ wsX8_overslept := List.mem_of_getElem? (i := 2) rfl
theorem inX8_overslept_X1 : ∀ w ∈ u_ws RX1 TX1 4, w ∈ wsX8_overslept := fun _ h => (List.mem_cons_of_mem _ (List.mem_append_left _ (List.mem_append_right _ h)))
abbrev rmX8_overslept : Room := { frames := 5, cells := 0, slots := 0, locals := 116 }
set_option maxHeartbeats 8000000 in
set_option maxRecDepth 100000 in
theorem kX8_overslept (l : Launch) (dC : Nat → ClassId) (dI : Nat → Nat → Nat) (cC cI cJ : ClassId) (sz : Nat) (K : Nat) (a_T a_T_text a_T_draft a_T_reader a_T_slate a_T_tonight a_T_otherNight a_T_undoable a_T_kept a_T_mornings a_T_survey a_T_otherSurvey a_T_endsWithout a_T_slate_guestKind a_T_slate_guestFloor a_T_slate_wishKind a_T_slate_wishA a_T_slate_wishB a_T_slate_wishNames a_T_tonight_floors : Nat) (x1 : Int32) (x2 : Int32) (x3 : Int32) (T_surveyed : Int32) (T_slate_guests : Int32) (T_slate_wishes : Int32) (T_slate_start : Int32) (T_tonight_here : Int32) (T_tonight_struck : Int32) (T_slate_wishKind : (Nat → Int32)) (T_slate_wishNames : (Nat → Int32)) (T_slate_wishA : (Nat → Int32)) (T_slate_wishB : (Nat → Int32)) (R : Int32) (hr : fX8_overslept K x1 x2 x3 T_slate_guests T_slate_wishes T_tonight_here T_tonight_struck T_slate_wishKind T_slate_wishNames T_slate_wishA T_slate_wishB = some R) : Met l yX8_overslept wsX8_overslept rmX8_overslept (va_Pc ([.ref a_T, .int x1, .int x2, .int x3] : List Value) (PcW (dC, dI) (tysA cC cI cJ) sz [(a_T, .inr (8, [.ref a_T_text, .ref a_T_draft, .ref a_T_reader, .ref a_T_slate, .ref a_T_tonight, .ref a_T_otherNight, .ref a_T_undoable, .ref a_T_kept, .ref a_T_mornings, .ref a_T_survey, .ref a_T_otherSurvey, .ref a_T_endsWithout, .int T_surveyed])), (a_T_slate, .inr (5, [.ref a_T_slate_guestKind, .ref a_T_slate_guestFloor, .ref a_T_slate_wishKind, .ref a_T_slate_wishA, .ref a_T_slate_wishB, .ref a_T_slate_wishNames, .int T_slate_guests, .int T_slate_wishes, .int T_slate_start])), (a_T_tonight, .inr (1, [.ref a_T_slate, .ref a_T_tonight_floors, .int T_tonight_here, .int T_tonight_struck])), (a_T_slate_wishKind, .inl (cI, 9, .inl T_slate_wishKind)), (a_T_slate_wishNames, .inl (cI, 9, .inl T_slate_wishNames)), (a_T_slate_wishA, .inl (cI, 9, .inl T_slate_wishA)), (a_T_slate_wishB, .inl (cI, 9, .inl T_slate_wishB))])) (va_Qi (fun r (_ : Unit) => r = R) (fun _ => BW (dC, dI) (tysA cC cI cJ) (va_A [(a_T, .inr (8, [.ref a_T_text, .ref a_T_draft, .ref a_T_reader, .ref a_T_slate, .ref a_T_tonight, .ref a_T_otherNight, .ref a_T_undoable, .ref a_T_kept, .ref a_T_mornings, .ref a_T_survey, .ref a_T_otherSurvey, .ref a_T_endsWithout, .int T_surveyed])), (a_T_slate, .inr (5, [.ref a_T_slate_guestKind, .ref a_T_slate_guestFloor, .ref a_T_slate_wishKind, .ref a_T_slate_wishA, .ref a_T_slate_wishB, .ref a_T_slate_wishNames, .int T_slate_guests, .int T_slate_wishes, .int T_slate_start])), (a_T_tonight, .inr (1, [.ref a_T_slate, .ref a_T_tonight_floors, .int T_tonight_here, .int T_tonight_struck])), (a_T_slate_wishKind, .inl (cI, 9, .inl T_slate_wishKind)), (a_T_slate_wishNames, .inl (cI, 9, .inl T_slate_wishNames)), (a_T_slate_wishA, .inl (cI, 9, .inl T_slate_wishA)), (a_T_slate_wishB, .inl (cI, 9, .inl T_slate_wishB))] sz) [(a_T, .inr (8, [.ref a_T_text, .ref a_T_draft, .ref a_T_reader, .ref a_T_slate, .ref a_T_tonight, .ref a_T_otherNight, .ref a_T_undoable, .ref a_T_kept, .ref a_T_mornings, .ref a_T_survey, .ref a_T_otherSurvey, .ref a_T_endsWithout, .int T_surveyed])), (a_T_slate, .inr (5, [.ref a_T_slate_guestKind, .ref a_T_slate_guestFloor, .ref a_T_slate_wishKind, .ref a_T_slate_wishA, .ref a_T_slate_wishB, .ref a_T_slate_wishNames, .int T_slate_guests, .int T_slate_wishes, .int T_slate_start])), (a_T_tonight, .inr (1, [.ref a_T_slate, .ref a_T_tonight_floors, .int T_tonight_here, .int T_tonight_struck])), (a_T_slate_wishKind, .inl (cI, 9, .inl T_slate_wishKind)), (a_T_slate_wishNames, .inl (cI, 9, .inl T_slate_wishNames)), (a_T_slate_wishA, .inl (cI, 9, .inl T_slate_wishA)), (a_T_slate_wishB, .inl (cI, 9, .inl T_slate_wishB))]) (va_A [(a_T, .inr (8, [.ref a_T_text, .ref a_T_draft, .ref a_T_reader, .ref a_T_slate, .ref a_T_tonight, .ref a_T_otherNight, .ref a_T_undoable, .ref a_T_kept, .ref a_T_mornings, .ref a_T_survey, .ref a_T_otherSurvey, .ref a_T_endsWithout, .int T_surveyed])), (a_T_slate, .inr (5, [.ref a_T_slate_guestKind, .ref a_T_slate_guestFloor, .ref a_T_slate_wishKind, .ref a_T_slate_wishA, .ref a_T_slate_wishB, .ref a_T_slate_wishNames, .int T_slate_guests, .int T_slate_wishes, .int T_slate_start])), (a_T_tonight, .inr (1, [.ref a_T_slate, .ref a_T_tonight_floors, .int T_tonight_here, .int T_tonight_struck])), (a_T_slate_wishKind, .inl (cI, 9, .inl T_slate_wishKind)), (a_T_slate_wishNames, .inl (cI, 9, .inl T_slate_wishNames)), (a_T_slate_wishA, .inl (cI, 9, .inl T_slate_wishA)), (a_T_slate_wishB, .inl (cI, 9, .inl T_slate_wishB))] sz)) 0 0 (va_A [(a_T, .inr (8, [.ref a_T_text, .ref a_T_draft, .ref a_T_reader, .ref a_T_slate, .ref a_T_tonight, .ref a_T_otherNight, .ref a_T_undoable, .ref a_T_kept, .ref a_T_mornings, .ref a_T_survey, .ref a_T_otherSurvey, .ref a_T_endsWithout, .int T_surveyed])), (a_T_slate, .inr (5, [.ref a_T_slate_guestKind, .ref a_T_slate_guestFloor, .ref a_T_slate_wishKind, .ref a_T_slate_wishA, .ref a_T_slate_wishB, .ref a_T_slate_wishNames, .int T_slate_guests, .int T_slate_wishes, .int T_slate_start])), (a_T_tonight, .inr (1, [.ref a_T_slate, .ref a_T_tonight_floors, .int T_tonight_here, .int T_tonight_struck])), (a_T_slate_wishKind, .inl (cI, 9, .inl T_slate_wishKind)), (a_T_slate_wishNames, .inl (cI, 9, .inl T_slate_wishNames)), (a_T_slate_wishA, .inl (cI, 9, .inl T_slate_wishA)), (a_T_slate_wishB, .inl (cI, 9, .inl T_slate_wishB))] sz) := by
  refine Met.ofW (cc := cX8_overslept) (maxL := 7) (ret := (some .int)) (by decide) rfl ?_
  intro p e s m args below meth c s₁ B hml hv
  obtain ⟨rfl, hsz, hP, hK, hD0, hN⟩ := hv
  have hx := B.exec
  have hb := B.bytes
  have hrt := B.returns
  have hts := atoms_spec (ws := wsX8_overslept) B.pre
  have hown : s.vm.findClass RX8 = some m.cls := findClass_of_methodNamed B.named
  have hlocks := B.notSynchronized
  subst hsz
  have hD := hD0.self (sz := s.heap.size)
  generalize hAe : va_A [(a_T, .inr (8, [.ref a_T_text, .ref a_T_draft, .ref a_T_reader, .ref a_T_slate, .ref a_T_tonight, .ref a_T_otherNight, .ref a_T_undoable, .ref a_T_kept, .ref a_T_mornings, .ref a_T_survey, .ref a_T_otherSurvey, .ref a_T_endsWithout, .int T_surveyed])), (a_T_slate, .inr (5, [.ref a_T_slate_guestKind, .ref a_T_slate_guestFloor, .ref a_T_slate_wishKind, .ref a_T_slate_wishA, .ref a_T_slate_wishB, .ref a_T_slate_wishNames, .int T_slate_guests, .int T_slate_wishes, .int T_slate_start])), (a_T_tonight, .inr (1, [.ref a_T_slate, .ref a_T_tonight_floors, .int T_tonight_here, .int T_tonight_struck])), (a_T_slate_wishKind, .inl (cI, 9, .inl T_slate_wishKind)), (a_T_slate_wishNames, .inl (cI, 9, .inl T_slate_wishNames)), (a_T_slate_wishA, .inl (cI, 9, .inl T_slate_wishA)), (a_T_slate_wishB, .inl (cI, 9, .inl T_slate_wishB))] s.heap.size = A at hD ⊢
  have hA : ∀ q : Nat, s.heap.size ≤ q → A q := fun q h => by rw [← hAe]; exact Or.inr h
  have hS : va_S A s.heap s.heap [] := va_S.rf
  have hl := lv_entry ([.ref a_T, .int x1, .int x2, .int x3] : List Value) (n := 7) (Nat.le_of_ble_eq_true rfl)
  rw [lg_entry_eq]
  generalize (lg_sl ([.ref a_T, .int x1, .int x2, .int x3] : List Value) ++ List.replicate (7 - (lg_sl ([.ref a_T, .int x1, .int x2, .int x3] : List Value)).length) Slot.unset).toArray = ls at hl ⊢
  replace hl : lv_has ls 7 [(0, .ref a_T), (1, .int x1), (2, .int x2), (3, .int x3)] := hl
  obtain ⟨Q, hQ⟩ : ∃ Q, Q = MQ below (va_Qi (fun r (_ : Unit) => r = R) (fun _ => BW (dC, dI) (tysA cC cI cJ) A [(a_T, .inr (8, [.ref a_T_text, .ref a_T_draft, .ref a_T_reader, .ref a_T_slate, .ref a_T_tonight, .ref a_T_otherNight, .ref a_T_undoable, .ref a_T_kept, .ref a_T_mornings, .ref a_T_survey, .ref a_T_otherSurvey, .ref a_T_endsWithout, .int T_surveyed])), (a_T_slate, .inr (5, [.ref a_T_slate_guestKind, .ref a_T_slate_guestFloor, .ref a_T_slate_wishKind, .ref a_T_slate_wishA, .ref a_T_slate_wishB, .ref a_T_slate_wishNames, .int T_slate_guests, .int T_slate_wishes, .int T_slate_start])), (a_T_tonight, .inr (1, [.ref a_T_slate, .ref a_T_tonight_floors, .int T_tonight_here, .int T_tonight_struck])), (a_T_slate_wishKind, .inl (cI, 9, .inl T_slate_wishKind)), (a_T_slate_wishNames, .inl (cI, 9, .inl T_slate_wishNames)), (a_T_slate_wishA, .inl (cI, 9, .inl T_slate_wishA)), (a_T_slate_wishB, .inl (cI, 9, .inl T_slate_wishB))]) A) ([.ref a_T, .int x1, .int x2, .int x3] : List Value).toArray s 0 0 A := ⟨_, rfl⟩
  rw [← hQ]
  suffices hE : WG p l e rmX8_overslept s m ([.ref a_T, .int x1, .int x2, .int x3] : List Value).toArray below meth c 0 0 Q (dC, dI) A 0 7 [(a_T, .inr (8, [.ref a_T_text, .ref a_T_draft, .ref a_T_reader, .ref a_T_slate, .ref a_T_tonight, .ref a_T_otherNight, .ref a_T_undoable, .ref a_T_kept, .ref a_T_mornings, .ref a_T_survey, .ref a_T_otherSurvey, .ref a_T_endsWithout, .int T_surveyed])), (a_T_slate, .inr (5, [.ref a_T_slate_guestKind, .ref a_T_slate_guestFloor, .ref a_T_slate_wishKind, .ref a_T_slate_wishA, .ref a_T_slate_wishB, .ref a_T_slate_wishNames, .int T_slate_guests, .int T_slate_wishes, .int T_slate_start])), (a_T_tonight, .inr (1, [.ref a_T_slate, .ref a_T_tonight_floors, .int T_tonight_here, .int T_tonight_struck])), (a_T_slate_wishKind, .inl (cI, 9, .inl T_slate_wishKind)), (a_T_slate_wishNames, .inl (cI, 9, .inl T_slate_wishNames)), (a_T_slate_wishA, .inl (cI, 9, .inl T_slate_wishA)), (a_T_slate_wishB, .inl (cI, 9, .inl T_slate_wishB))] [(0, .ref a_T), (1, .int x1), (2, .int x2), (3, .int x3)] [] from hE _ _ _ hP hD hS hl
  clear hP hD hS hl hD0 hAe
  intro H locs ls hP hD hS hl
  unfold fX8_overslept at hr
  refine lv_aload_n hx hb dX8_overslept_0 rfl (lv_at hl 0 rfl) ?_
  refine va_get (D := (dC, dI)) (ci := 8) (v := .ref a_T_slate) (C := RX8) (T := TX8) (N := 13) hx hb hts inX8_overslept_X8 hown hK hP 0 rfl rfl 3 (by decide) (hts _ mbX8_overslept_0) (fun _ h9 => h9) rfl dX8_overslept_1 ?_
  refine lv_iload_n hx hb dX8_overslept_4 rfl (lv_at hl 1 rfl) ?_
  obtain ⟨r, hc1, hr⟩ := bd1_some hr
  refine call_i (D := (dC, dI)) (tys := tysA cC cI cJ) (wc := [(a_T_slate, .inr (5, [.ref a_T_slate_guestKind, .ref a_T_slate_guestFloor, .ref a_T_slate_wishKind, .ref a_T_slate_wishA, .ref a_T_slate_wishB, .ref a_T_slate_wishNames, .int T_slate_guests, .int T_slate_wishes, .int T_slate_start]))]) (wr := [(a_T, .inr (8, [.ref a_T_text, .ref a_T_draft, .ref a_T_reader, .ref a_T_slate, .ref a_T_tonight, .ref a_T_otherNight, .ref a_T_undoable, .ref a_T_kept, .ref a_T_mornings, .ref a_T_survey, .ref a_T_otherSurvey, .ref a_T_endsWithout, .int T_surveyed])), (a_T_tonight, .inr (1, [.ref a_T_slate, .ref a_T_tonight_floors, .int T_tonight_here, .int T_tonight_struck])), (a_T_slate_wishKind, .inl (cI, 9, .inl T_slate_wishKind)), (a_T_slate_wishNames, .inl (cI, 9, .inl T_slate_wishNames)), (a_T_slate_wishA, .inl (cI, 9, .inl T_slate_wishA)), (a_T_slate_wishB, .inl (cI, 9, .inl T_slate_wishB))]) (w1 := [(a_T_slate, .inr (5, [.ref a_T_slate_guestKind, .ref a_T_slate_guestFloor, .ref a_T_slate_wishKind, .ref a_T_slate_wishA, .ref a_T_slate_wishB, .ref a_T_slate_wishNames, .int T_slate_guests, .int T_slate_wishes, .int T_slate_start]))]) (wn := [(a_T, .inr (8, [.ref a_T_text, .ref a_T_draft, .ref a_T_reader, .ref a_T_slate, .ref a_T_tonight, .ref a_T_otherNight, .ref a_T_undoable, .ref a_T_kept, .ref a_T_mornings, .ref a_T_survey, .ref a_T_otherSurvey, .ref a_T_endsWithout, .int T_surveyed])), (a_T_slate, .inr (5, [.ref a_T_slate_guestKind, .ref a_T_slate_guestFloor, .ref a_T_slate_wishKind, .ref a_T_slate_wishA, .ref a_T_slate_wishB, .ref a_T_slate_wishNames, .int T_slate_guests, .int T_slate_wishes, .int T_slate_start])), (a_T_tonight, .inr (1, [.ref a_T_slate, .ref a_T_tonight_floors, .int T_tonight_here, .int T_tonight_struck])), (a_T_slate_wishKind, .inl (cI, 9, .inl T_slate_wishKind)), (a_T_slate_wishNames, .inl (cI, 9, .inl T_slate_wishNames)), (a_T_slate_wishA, .inl (cI, 9, .inl T_slate_wishA)), (a_T_slate_wishB, .inl (cI, 9, .inl T_slate_wishB))]) (r0 := r) hP hD hS hA [1] [0, 2, 3, 4, 5, 6] [0, 6, 1, 2, 3, 4, 5] rfl rfl (by decide +kernel) (by decide +kernel) rfl (by decide +kernel) (va_runVN (C := RX5) (host := "BootsAtDawn") (As := [.int x1]) (rest := []) ⟨hx, hb, hml, hown, hts⟩ (kX5_isGuest l dC dI cC cI cJ H.size K a_T_slate a_T_slate_guestKind a_T_slate_guestFloor a_T_slate_wishKind a_T_slate_wishA a_T_slate_wishB a_T_slate_wishNames x1 T_slate_guests T_slate_wishes T_slate_start r hc1) ⟨va_cnB 1 hts gX8_overslept_X5_isGuest_n115 rfl rfl rfl (hN _ nw_67) (hts _ mbX8_overslept_2) (by decide +kernel) ⟨Nat.le_of_ble_eq_true rfl, Nat.le_of_ble_eq_true rfl⟩, (hts _ mbX8_overslept_3), (hts _ mbX8_overslept_4)⟩ ⟨fbW, va_recv hK hP (ci := 5) (q0 := 1) rfl rfl, preW hP hD hK hN [1] rfl (by decide +kernel)⟩ rfl rfl hl.1 rfl (lv_room (Nat.le_of_ble_eq_true rfl)) dX8_overslept_5 ⟨Nat.zero_le _, Nat.zero_le _⟩) (fun H locs hP hD hS => ?_)
  refine lv_if_eq (tgt := 30) hx hb dX8_overslept_8 (by decide) (fun c1 => ?_) (fun c1 => ?_)
  · replace hr := it_t hr c1
    refine lv_iconst (v := (-1)) hx hb dX8_overslept_30 (by decide) ?_
    have he := Option.some.inj hr
    subst he
    subst hQ
    exact ret_i hx hb hrt hK hP hD hS hlocks dX8_overslept_31
  · replace hr := it_f hr c1
    refine lv_iload_n hx hb dX8_overslept_11 rfl (lv_at hl 2 rfl) ?_
    refine lv_if_lt (tgt := 30) hx hb dX8_overslept_12 (by decide) (fun c2 => ?_) (fun c2 => ?_)
    · replace hr := it_t hr c2
      refine lv_iconst (v := (-1)) hx hb dX8_overslept_30 (by decide) ?_
      have he := Option.some.inj hr
      subst he
      subst hQ
      exact ret_i hx hb hrt hK hP hD hS hlocks dX8_overslept_31
    · replace hr := it_f hr c2
      refine lv_iload_n hx hb dX8_overslept_15 rfl (lv_at hl 2 rfl) ?_
      refine lv_bipush (v := 10) hx hb dX8_overslept_16 (by decide) ?_
      refine lv_icmp_gt (tgt := 30) hx hb dX8_overslept_18 (by decide) (fun c3 => ?_) (fun c3 => ?_)
      · replace hr := it_t hr c3
        refine lv_iconst (v := (-1)) hx hb dX8_overslept_30 (by decide) ?_
        have he := Option.some.inj hr
        subst he
        subst hQ
        exact ret_i hx hb hrt hK hP hD hS hlocks dX8_overslept_31
      · replace hr := it_f hr c3
        refine lv_iload_n hx hb dX8_overslept_21 rfl (lv_at hl 3 rfl) ?_
        refine lv_if_lt (tgt := 30) hx hb dX8_overslept_22 (by decide) (fun c4 => ?_) (fun c4 => ?_)
        · replace hr := it_t hr c4
          refine lv_iconst (v := (-1)) hx hb dX8_overslept_30 (by decide) ?_
          have he := Option.some.inj hr
          subst he
          subst hQ
          exact ret_i hx hb hrt hK hP hD hS hlocks dX8_overslept_31
        · replace hr := it_f hr c4
          refine lv_iload_n hx hb dX8_overslept_25 rfl (lv_at hl 3 rfl) ?_
          refine lv_iconst (v := 1) hx hb dX8_overslept_26 (by decide) ?_
          refine lv_icmp_le (tgt := 32) hx hb dX8_overslept_27 (by decide) (fun c5 => ?_) (fun c5 => ?_)
          · replace hr := it_t hr c5
            refine lv_aload_n hx hb dX8_overslept_32 rfl (lv_at hl 0 rfl) ?_
            refine va_get (D := (dC, dI)) (ci := 8) (v := .ref a_T_tonight) (C := RX8) (T := TX8) (N := 13) hx hb hts inX8_overslept_X8 hown hK hP 0 rfl rfl 4 (by decide) (hts _ mbX8_overslept_5) (fun _ h9 => h9) rfl dX8_overslept_33 ?_
            refine va_getN (D := (dC, dI)) (ci := 1) (v := .int T_tonight_here) (C := RX1) (T := TX1) (N := 4) hx hb hts inX8_overslept_X1 hown hK hP 2 rfl rfl 2 (by decide) (nk_use hN nw_30) (fun _ h9 => h9) rfl dX8_overslept_36 ?_
            refine lv_iload_n hx hb dX8_overslept_39 rfl (lv_at hl 1 rfl) ?_
            obtain ⟨r_1, hc2, hr⟩ := bd1_some hr
            refine call_i (D := (dC, dI)) (tys := tysA cC cI cJ) (wc := []) (wr := [(a_T, .inr (8, [.ref a_T_text, .ref a_T_draft, .ref a_T_reader, .ref a_T_slate, .ref a_T_tonight, .ref a_T_otherNight, .ref a_T_undoable, .ref a_T_kept, .ref a_T_mornings, .ref a_T_survey, .ref a_T_otherSurvey, .ref a_T_endsWithout, .int T_surveyed])), (a_T_slate, .inr (5, [.ref a_T_slate_guestKind, .ref a_T_slate_guestFloor, .ref a_T_slate_wishKind, .ref a_T_slate_wishA, .ref a_T_slate_wishB, .ref a_T_slate_wishNames, .int T_slate_guests, .int T_slate_wishes, .int T_slate_start])), (a_T_tonight, .inr (1, [.ref a_T_slate, .ref a_T_tonight_floors, .int T_tonight_here, .int T_tonight_struck])), (a_T_slate_wishKind, .inl (cI, 9, .inl T_slate_wishKind)), (a_T_slate_wishNames, .inl (cI, 9, .inl T_slate_wishNames)), (a_T_slate_wishA, .inl (cI, 9, .inl T_slate_wishA)), (a_T_slate_wishB, .inl (cI, 9, .inl T_slate_wishB))]) (w1 := []) (wn := [(a_T, .inr (8, [.ref a_T_text, .ref a_T_draft, .ref a_T_reader, .ref a_T_slate, .ref a_T_tonight, .ref a_T_otherNight, .ref a_T_undoable, .ref a_T_kept, .ref a_T_mornings, .ref a_T_survey, .ref a_T_otherSurvey, .ref a_T_endsWithout, .int T_surveyed])), (a_T_slate, .inr (5, [.ref a_T_slate_guestKind, .ref a_T_slate_guestFloor, .ref a_T_slate_wishKind, .ref a_T_slate_wishA, .ref a_T_slate_wishB, .ref a_T_slate_wishNames, .int T_slate_guests, .int T_slate_wishes, .int T_slate_start])), (a_T_tonight, .inr (1, [.ref a_T_slate, .ref a_T_tonight_floors, .int T_tonight_here, .int T_tonight_struck])), (a_T_slate_wishKind, .inl (cI, 9, .inl T_slate_wishKind)), (a_T_slate_wishNames, .inl (cI, 9, .inl T_slate_wishNames)), (a_T_slate_wishA, .inl (cI, 9, .inl T_slate_wishA)), (a_T_slate_wishB, .inl (cI, 9, .inl T_slate_wishB))]) (r0 := r_1) hP hD hS hA [] [0, 1, 2, 3, 4, 5, 6] [0, 1, 2, 3, 4, 5, 6] rfl rfl (by decide +kernel) (by decide +kernel) rfl (by decide +kernel) (va_runS (As := [.int T_tonight_here, .int x1]) (rest := []) ⟨hx, hb, hml, hown, hts⟩ (kX8_has l dC dI cC cI cJ H.size K T_tonight_here x1 r_1 hc2) (va_cwS 2 hts gX8_overslept_X8_has rfl rfl rfl (by decide +kernel) ⟨Nat.le_of_ble_eq_true rfl, Nat.le_of_ble_eq_true rfl⟩) ⟨fbW, preW hP hD hK hN [] rfl (by decide +kernel)⟩ rfl rfl hl.1 rfl (lv_room (Nat.le_of_ble_eq_true rfl)) dX8_overslept_40 ⟨Nat.zero_le _, Nat.zero_le _⟩) (fun H locs hP hD hS => ?_)
            refine lv_if_ne (tgt := 49) hx hb dX8_overslept_43 (by decide) (fun c6 => ?_) (fun c6 => ?_)
            · replace hr := it_f hr c6
              refine lv_bipush (v := 10) hx hb dX8_overslept_49 (by decide) ?_
              refine lv_iload_n hx hb dX8_overslept_51 rfl (lv_at hl 2 rfl) ?_
              refine lv_isub hx hb dX8_overslept_52 ?_
              obtain ⟨x4, e1, hr⟩ := nm_el hr
              refine lv_nmi e1 ?_
              refine lv_istore (lv' := [(4, .int x4), (0, .ref a_T), (1, .int x1), (2, .int x2), (3, .int x3)]) hx hb dX8_overslept_53 hl (by decide) rfl (fun ls hl => ?_)
              refine lv_bipush (v := 10) hx hb dX8_overslept_55 (by decide) ?_
              refine lv_istore (lv' := [(5, .int 10), (4, .int x4), (0, .ref a_T), (1, .int x1), (2, .int x2), (3, .int x3)]) hx hb dX8_overslept_57 hl (by decide) rfl (fun ls hl => ?_)
              refine lv_bipush (v := 10) hx hb dX8_overslept_59 (by decide) ?_
              refine lv_istore (lv' := [(6, .int 10), (5, .int 10), (4, .int x4), (0, .ref a_T), (1, .int x1), (2, .int x2), (3, .int x3)]) hx hb dX8_overslept_61 hl (by decide) rfl (fun ls hl => ?_)
              have hL1 : ∀ (n1 : Nat) (x4_1 : Int32) (x5 : Int32) (x6 : Int32) (x4_2 : Int32) (x5_1 : Int32), fX8_overslept_L63 K n1 x4_1 x5 x6 = some (x4_2, x5_1) → WG p l e rmX8_overslept s m ([.ref a_T, .int x1, .int x2, .int x3] : List Value).toArray below meth c 0 0 Q (dC, dI) A 105 7 [(a_T, .inr (8, [.ref a_T_text, .ref a_T_draft, .ref a_T_reader, .ref a_T_slate, .ref a_T_tonight, .ref a_T_otherNight, .ref a_T_undoable, .ref a_T_kept, .ref a_T_mornings, .ref a_T_survey, .ref a_T_otherSurvey, .ref a_T_endsWithout, .int T_surveyed])), (a_T_slate, .inr (5, [.ref a_T_slate_guestKind, .ref a_T_slate_guestFloor, .ref a_T_slate_wishKind, .ref a_T_slate_wishA, .ref a_T_slate_wishB, .ref a_T_slate_wishNames, .int T_slate_guests, .int T_slate_wishes, .int T_slate_start])), (a_T_tonight, .inr (1, [.ref a_T_slate, .ref a_T_tonight_floors, .int T_tonight_here, .int T_tonight_struck])), (a_T_slate_wishKind, .inl (cI, 9, .inl T_slate_wishKind)), (a_T_slate_wishNames, .inl (cI, 9, .inl T_slate_wishNames)), (a_T_slate_wishA, .inl (cI, 9, .inl T_slate_wishA)), (a_T_slate_wishB, .inl (cI, 9, .inl T_slate_wishB))] [(0, .ref a_T), (1, .int x1), (3, .int x3), (4, .int x4_2), (5, .int x5_1)] [] → WG p l e rmX8_overslept s m ([.ref a_T, .int x1, .int x2, .int x3] : List Value).toArray below meth c 0 0 Q (dC, dI) A 63 7 [(a_T, .inr (8, [.ref a_T_text, .ref a_T_draft, .ref a_T_reader, .ref a_T_slate, .ref a_T_tonight, .ref a_T_otherNight, .ref a_T_undoable, .ref a_T_kept, .ref a_T_mornings, .ref a_T_survey, .ref a_T_otherSurvey, .ref a_T_endsWithout, .int T_surveyed])), (a_T_slate, .inr (5, [.ref a_T_slate_guestKind, .ref a_T_slate_guestFloor, .ref a_T_slate_wishKind, .ref a_T_slate_wishA, .ref a_T_slate_wishB, .ref a_T_slate_wishNames, .int T_slate_guests, .int T_slate_wishes, .int T_slate_start])), (a_T_tonight, .inr (1, [.ref a_T_slate, .ref a_T_tonight_floors, .int T_tonight_here, .int T_tonight_struck])), (a_T_slate_wishKind, .inl (cI, 9, .inl T_slate_wishKind)), (a_T_slate_wishNames, .inl (cI, 9, .inl T_slate_wishNames)), (a_T_slate_wishA, .inl (cI, 9, .inl T_slate_wishA)), (a_T_slate_wishB, .inl (cI, 9, .inl T_slate_wishB))] [(0, .ref a_T), (1, .int x1), (3, .int x3), (4, .int x4_1), (5, .int x5), (6, .int x6)] [] := by
                intro n1
                induction n1 with
                | zero =>
                  intro x4_1 x5 x6 x4_2 x5_1 hr
                  rw [fX8_overslept_L63] at hr
                  cases hr
                | succ n1 ih63 =>
                  intro x4_1 x5 x6 x4_2 x5_1 hr hX1 H locs ls hP hD hS hl
                  rw [fX8_overslept_L63] at hr
                  refine lv_iload hx hb dX8_overslept_63 (lv_at hl 5 rfl) ?_
                  refine lv_iconst (v := 1) hx hb dX8_overslept_65 (by decide) ?_
                  refine lv_icmp_le (tgt := 105) hx hb dX8_overslept_66 (by decide) (fun c7 => ?_) (fun c7 => ?_)
                  · replace hr := it_t hr c7
                    have he := Option.some.inj hr
                    cases he
                    exact hX1 H locs ls hP hD hS (lv_sub hl [0, 1, 2, 3, 4] rfl)
                  · replace hr := it_f hr c7
                    refine lv_iload hx hb dX8_overslept_69 (lv_at hl 3 rfl) ?_
                    refine lv_iload hx hb dX8_overslept_71 (lv_at hl 5 rfl) ?_
                    obtain ⟨g1, hr⟩ := gd_some hr
                    refine lv_irem hx hb dX8_overslept_73 g1 ?_
                    obtain ⟨x4_4, x5_3, hj1, hr⟩ := bd2_some hr
                    have hJ1 : WG p l e rmX8_overslept s m ([.ref a_T, .int x1, .int x2, .int x3] : List Value).toArray below meth c 0 0 Q (dC, dI) A 99 7 [(a_T, .inr (8, [.ref a_T_text, .ref a_T_draft, .ref a_T_reader, .ref a_T_slate, .ref a_T_tonight, .ref a_T_otherNight, .ref a_T_undoable, .ref a_T_kept, .ref a_T_mornings, .ref a_T_survey, .ref a_T_otherSurvey, .ref a_T_endsWithout, .int T_surveyed])), (a_T_slate, .inr (5, [.ref a_T_slate_guestKind, .ref a_T_slate_guestFloor, .ref a_T_slate_wishKind, .ref a_T_slate_wishA, .ref a_T_slate_wishB, .ref a_T_slate_wishNames, .int T_slate_guests, .int T_slate_wishes, .int T_slate_start])), (a_T_tonight, .inr (1, [.ref a_T_slate, .ref a_T_tonight_floors, .int T_tonight_here, .int T_tonight_struck])), (a_T_slate_wishKind, .inl (cI, 9, .inl T_slate_wishKind)), (a_T_slate_wishNames, .inl (cI, 9, .inl T_slate_wishNames)), (a_T_slate_wishA, .inl (cI, 9, .inl T_slate_wishA)), (a_T_slate_wishB, .inl (cI, 9, .inl T_slate_wishB))] [(0, .ref a_T), (1, .int x1), (3, .int x3), (4, .int x4_4), (5, .int x5_3), (6, .int x6)] [] := by
                      intro H locs ls hP hD hS hl
                      obtain ⟨x6_1, e4, hr⟩ := nm_el hr
                      refine lv_iinc (v := x6_1) (lv' := [(6, .int x6_1), (0, .ref a_T), (1, .int x1), (3, .int x3), (4, .int x4_4), (5, .int x5_3)]) hx hb dX8_overslept_99 hl (k := 5) rfl e4.symm (by decide) rfl (fun ls hl => ?_)
                      refine lv_goto (tgt := 63) hx hb dX8_overslept_102 (by decide) ?_
                      exact ih63 _ _ _ _ _ hr hX1 H locs ls hP hD hS (lv_sub hl [1, 2, 3, 4, 5, 0] rfl)
                    replace hr := hj1
                    refine lv_if_ne (tgt := 99) hx hb dX8_overslept_74 (by decide) (fun c8 => ?_) (fun c8 => ?_)
                    · replace hr := it_f hr c8
                      cases hr
                      exact hJ1 H locs ls hP hD hS (lv_sub hl [0, 1, 2, 3, 4, 5] rfl)
                    · replace hr := it_t hr c8
                      refine lv_iload hx hb dX8_overslept_77 (lv_at hl 4 rfl) ?_
                      refine lv_iload hx hb dX8_overslept_79 (lv_at hl 5 rfl) ?_
                      obtain ⟨g2, hr⟩ := gd_some hr
                      refine lv_irem hx hb dX8_overslept_81 g2 ?_
                      refine lv_if_ne (tgt := 99) hx hb dX8_overslept_82 (by decide) (fun c9 => ?_) (fun c9 => ?_)
                      · replace hr := it_f hr c9
                        cases hr
                        exact hJ1 H locs ls hP hD hS (lv_sub hl [0, 1, 2, 3, 4, 5] rfl)
                      · replace hr := it_t hr c9
                        refine lv_iload hx hb dX8_overslept_85 (lv_at hl 3 rfl) ?_
                        refine lv_iload hx hb dX8_overslept_87 (lv_at hl 5 rfl) ?_
                        obtain ⟨g3, hr⟩ := gd_some hr
                        refine lv_idiv hx hb dX8_overslept_89 g3 ?_
                        obtain ⟨x4_3, e2, hr⟩ := nm_el hr
                        refine lv_nmi e2 ?_
                        refine lv_istore (lv' := [(4, .int x4_3), (0, .ref a_T), (1, .int x1), (3, .int x3), (5, .int x5), (6, .int x6)]) hx hb dX8_overslept_90 hl (by decide) rfl (fun ls hl => ?_)
                        refine lv_iload hx hb dX8_overslept_92 (lv_at hl 4 rfl) ?_
                        refine lv_iload hx hb dX8_overslept_94 (lv_at hl 5 rfl) ?_
                        obtain ⟨g4, hr⟩ := gd_some hr
                        refine lv_idiv hx hb dX8_overslept_96 g4 ?_
                        obtain ⟨x5_2, e3, hr⟩ := nm_el hr
                        refine lv_nmi e3 ?_
                        refine lv_istore (lv' := [(5, .int x5_2), (4, .int x4_3), (0, .ref a_T), (1, .int x1), (3, .int x3), (6, .int x6)]) hx hb dX8_overslept_97 hl (by decide) rfl (fun ls hl => ?_)
                        cases hr
                        exact hJ1 H locs ls hP hD hS (lv_sub hl [2, 3, 4, 1, 0, 5] rfl)
              obtain ⟨x4_2, x5_1, hE, hr⟩ := bd2_some hr
              refine hL1 K x4 10 10 x4_2 x5_1 hE ?_ H locs ls hP hD hS (lv_sub hl [3, 4, 6, 2, 1, 0] rfl)
              intro H locs ls hP hD hS hl
              refine lv_iload_n hx hb dX8_overslept_105 rfl (lv_at hl 2 rfl) ?_
              obtain ⟨y, hj2, hr⟩ := bd1_some hr
              have hJ2 : WG p l e rmX8_overslept s m ([.ref a_T, .int x1, .int x2, .int x3] : List Value).toArray below meth c 0 0 Q (dC, dI) A 116 7 [(a_T, .inr (8, [.ref a_T_text, .ref a_T_draft, .ref a_T_reader, .ref a_T_slate, .ref a_T_tonight, .ref a_T_otherNight, .ref a_T_undoable, .ref a_T_kept, .ref a_T_mornings, .ref a_T_survey, .ref a_T_otherSurvey, .ref a_T_endsWithout, .int T_surveyed])), (a_T_slate, .inr (5, [.ref a_T_slate_guestKind, .ref a_T_slate_guestFloor, .ref a_T_slate_wishKind, .ref a_T_slate_wishA, .ref a_T_slate_wishB, .ref a_T_slate_wishNames, .int T_slate_guests, .int T_slate_wishes, .int T_slate_start])), (a_T_tonight, .inr (1, [.ref a_T_slate, .ref a_T_tonight_floors, .int T_tonight_here, .int T_tonight_struck])), (a_T_slate_wishKind, .inl (cI, 9, .inl T_slate_wishKind)), (a_T_slate_wishNames, .inl (cI, 9, .inl T_slate_wishNames)), (a_T_slate_wishA, .inl (cI, 9, .inl T_slate_wishA)), (a_T_slate_wishB, .inl (cI, 9, .inl T_slate_wishB))] [(0, .ref a_T), (1, .int x1)] [.int y] := by
                intro H locs ls hP hD hS hl
                refine lv_iconst (v := 1) hx hb dX8_overslept_116 (by decide) ?_
                refine lv_aload_n hx hb dX8_overslept_117 rfl (lv_at hl 0 rfl) ?_
                refine lv_iload_n hx hb dX8_overslept_118 rfl (lv_at hl 1 rfl) ?_
                obtain ⟨r_2, hc3, hr⟩ := bd1_some hr
                refine call_i (D := (dC, dI)) (tys := tysA cC cI cJ) (wc := [(a_T, .inr (8, [.ref a_T_text, .ref a_T_draft, .ref a_T_reader, .ref a_T_slate, .ref a_T_tonight, .ref a_T_otherNight, .ref a_T_undoable, .ref a_T_kept, .ref a_T_mornings, .ref a_T_survey, .ref a_T_otherSurvey, .ref a_T_endsWithout, .int T_surveyed])), (a_T_slate, .inr (5, [.ref a_T_slate_guestKind, .ref a_T_slate_guestFloor, .ref a_T_slate_wishKind, .ref a_T_slate_wishA, .ref a_T_slate_wishB, .ref a_T_slate_wishNames, .int T_slate_guests, .int T_slate_wishes, .int T_slate_start])), (a_T_tonight, .inr (1, [.ref a_T_slate, .ref a_T_tonight_floors, .int T_tonight_here, .int T_tonight_struck])), (a_T_slate_wishKind, .inl (cI, 9, .inl T_slate_wishKind)), (a_T_slate_wishNames, .inl (cI, 9, .inl T_slate_wishNames)), (a_T_slate_wishA, .inl (cI, 9, .inl T_slate_wishA)), (a_T_slate_wishB, .inl (cI, 9, .inl T_slate_wishB))]) (wr := []) (w1 := [(a_T, .inr (8, [.ref a_T_text, .ref a_T_draft, .ref a_T_reader, .ref a_T_slate, .ref a_T_tonight, .ref a_T_otherNight, .ref a_T_undoable, .ref a_T_kept, .ref a_T_mornings, .ref a_T_survey, .ref a_T_otherSurvey, .ref a_T_endsWithout, .int T_surveyed])), (a_T_slate, .inr (5, [.ref a_T_slate_guestKind, .ref a_T_slate_guestFloor, .ref a_T_slate_wishKind, .ref a_T_slate_wishA, .ref a_T_slate_wishB, .ref a_T_slate_wishNames, .int T_slate_guests, .int T_slate_wishes, .int T_slate_start])), (a_T_tonight, .inr (1, [.ref a_T_slate, .ref a_T_tonight_floors, .int T_tonight_here, .int T_tonight_struck])), (a_T_slate_wishKind, .inl (cI, 9, .inl T_slate_wishKind)), (a_T_slate_wishNames, .inl (cI, 9, .inl T_slate_wishNames)), (a_T_slate_wishA, .inl (cI, 9, .inl T_slate_wishA)), (a_T_slate_wishB, .inl (cI, 9, .inl T_slate_wishB))]) (wn := [(a_T, .inr (8, [.ref a_T_text, .ref a_T_draft, .ref a_T_reader, .ref a_T_slate, .ref a_T_tonight, .ref a_T_otherNight, .ref a_T_undoable, .ref a_T_kept, .ref a_T_mornings, .ref a_T_survey, .ref a_T_otherSurvey, .ref a_T_endsWithout, .int T_surveyed])), (a_T_slate, .inr (5, [.ref a_T_slate_guestKind, .ref a_T_slate_guestFloor, .ref a_T_slate_wishKind, .ref a_T_slate_wishA, .ref a_T_slate_wishB, .ref a_T_slate_wishNames, .int T_slate_guests, .int T_slate_wishes, .int T_slate_start])), (a_T_tonight, .inr (1, [.ref a_T_slate, .ref a_T_tonight_floors, .int T_tonight_here, .int T_tonight_struck])), (a_T_slate_wishKind, .inl (cI, 9, .inl T_slate_wishKind)), (a_T_slate_wishNames, .inl (cI, 9, .inl T_slate_wishNames)), (a_T_slate_wishA, .inl (cI, 9, .inl T_slate_wishA)), (a_T_slate_wishB, .inl (cI, 9, .inl T_slate_wishB))]) (r0 := r_2) hP hD hS hA [0, 1, 2, 3, 4, 5, 6] [] [0, 1, 2, 3, 4, 5, 6] rfl rfl (by decide +kernel) (by decide +kernel) rfl (by decide +kernel) (va_runV (As := [.int x1]) (rest := [.int 1, .int y]) ⟨hx, hb, hml, hown, hts⟩ (kX8_othersHungOnBy l dC dI cC cI cJ H.size K a_T a_T_text a_T_draft a_T_reader a_T_slate a_T_tonight a_T_otherNight a_T_undoable a_T_kept a_T_mornings a_T_survey a_T_otherSurvey a_T_endsWithout a_T_slate_guestKind a_T_slate_guestFloor a_T_slate_wishKind a_T_slate_wishA a_T_slate_wishB a_T_slate_wishNames a_T_tonight_floors x1 T_surveyed T_slate_guests T_slate_wishes T_slate_start T_tonight_here T_tonight_struck T_slate_wishKind T_slate_wishNames T_slate_wishA T_slate_wishB r_2 hc3) (cwV 1 hts gX8_overslept_X8_othersHungOnBy rfl rfl rfl (by decide +kernel) ⟨Nat.le_of_ble_eq_true rfl, Nat.le_of_ble_eq_true rfl⟩) ⟨fbW, va_recv hK hP (ci := 8) (q0 := 0) rfl rfl, preW hP hD hK hN [0, 1, 2, 3, 4, 5, 6] rfl (by decide +kernel)⟩ rfl rfl hl.1 rfl (lv_room (Nat.le_of_ble_eq_true rfl)) dX8_overslept_119 ⟨Nat.zero_le _, Nat.zero_le _⟩) (fun H locs hP hD hS => ?_)
                refine lv_iadd hx hb dX8_overslept_122 ?_
                obtain ⟨r_3, hc4, hr⟩ := bd1_some hr
                refine call_i (D := (dC, dI)) (tys := tysA cC cI cJ) (wc := []) (wr := [(a_T, .inr (8, [.ref a_T_text, .ref a_T_draft, .ref a_T_reader, .ref a_T_slate, .ref a_T_tonight, .ref a_T_otherNight, .ref a_T_undoable, .ref a_T_kept, .ref a_T_mornings, .ref a_T_survey, .ref a_T_otherSurvey, .ref a_T_endsWithout, .int T_surveyed])), (a_T_slate, .inr (5, [.ref a_T_slate_guestKind, .ref a_T_slate_guestFloor, .ref a_T_slate_wishKind, .ref a_T_slate_wishA, .ref a_T_slate_wishB, .ref a_T_slate_wishNames, .int T_slate_guests, .int T_slate_wishes, .int T_slate_start])), (a_T_tonight, .inr (1, [.ref a_T_slate, .ref a_T_tonight_floors, .int T_tonight_here, .int T_tonight_struck])), (a_T_slate_wishKind, .inl (cI, 9, .inl T_slate_wishKind)), (a_T_slate_wishNames, .inl (cI, 9, .inl T_slate_wishNames)), (a_T_slate_wishA, .inl (cI, 9, .inl T_slate_wishA)), (a_T_slate_wishB, .inl (cI, 9, .inl T_slate_wishB))]) (w1 := []) (wn := [(a_T, .inr (8, [.ref a_T_text, .ref a_T_draft, .ref a_T_reader, .ref a_T_slate, .ref a_T_tonight, .ref a_T_otherNight, .ref a_T_undoable, .ref a_T_kept, .ref a_T_mornings, .ref a_T_survey, .ref a_T_otherSurvey, .ref a_T_endsWithout, .int T_surveyed])), (a_T_slate, .inr (5, [.ref a_T_slate_guestKind, .ref a_T_slate_guestFloor, .ref a_T_slate_wishKind, .ref a_T_slate_wishA, .ref a_T_slate_wishB, .ref a_T_slate_wishNames, .int T_slate_guests, .int T_slate_wishes, .int T_slate_start])), (a_T_tonight, .inr (1, [.ref a_T_slate, .ref a_T_tonight_floors, .int T_tonight_here, .int T_tonight_struck])), (a_T_slate_wishKind, .inl (cI, 9, .inl T_slate_wishKind)), (a_T_slate_wishNames, .inl (cI, 9, .inl T_slate_wishNames)), (a_T_slate_wishA, .inl (cI, 9, .inl T_slate_wishA)), (a_T_slate_wishB, .inl (cI, 9, .inl T_slate_wishB))]) (r0 := r_3) hP hD hS hA [] [0, 1, 2, 3, 4, 5, 6] [0, 1, 2, 3, 4, 5, 6] rfl rfl (by decide +kernel) (by decide +kernel) rfl (by decide +kernel) (va_runS (As := [.int y, .int (1 + r_2)]) (rest := []) ⟨hx, hb, hml, hown, hts⟩ (kX8_power l dC dI cC cI cJ H.size K y (1 + r_2) r_3 hc4) (va_cwS 2 hts gX8_overslept_X8_power rfl rfl rfl (by decide +kernel) ⟨Nat.le_of_ble_eq_true rfl, Nat.le_of_ble_eq_true rfl⟩) ⟨fbW, preW hP hD hK hN [] rfl (by decide +kernel)⟩ rfl rfl hl.1 rfl (lv_room (Nat.le_of_ble_eq_true rfl)) dX8_overslept_123 ⟨Nat.zero_le _, Nat.zero_le _⟩) (fun H locs hP hD hS => ?_)
                have he := Option.some.inj hr
                subst he
                subst hQ
                exact ret_i hx hb hrt hK hP hD hS hlocks dX8_overslept_126
              replace hr := hj2
              refine lv_if_ne (tgt := 114) hx hb dX8_overslept_106 (by decide) (fun c10 => ?_) (fun c10 => ?_)
              · replace hr := it_f hr c10
                refine lv_iload hx hb dX8_overslept_114 (lv_at hl 4 rfl) ?_
                cases hr
                exact hJ2 H locs ls hP hD hS (lv_sub hl [0, 1] rfl)
              · replace hr := it_t hr c10
                refine lv_iload hx hb dX8_overslept_109 (lv_at hl 3 rfl) ?_
                refine lv_goto (tgt := 116) hx hb dX8_overslept_111 (by decide) ?_
                cases hr
                exact hJ2 H locs ls hP hD hS (lv_sub hl [0, 1] rfl)
            · replace hr := it_t hr c6
              refine lv_bipush (v := (-2)) hx hb dX8_overslept_46 (by decide) ?_
              have he := Option.some.inj hr
              subst he
              subst hQ
              exact ret_i hx hb hrt hK hP hD hS hlocks dX8_overslept_48
          · replace hr := it_f hr c5
            refine lv_iconst (v := (-1)) hx hb dX8_overslept_30 (by decide) ?_
            have he := Option.some.inj hr
            subst he
            subst hQ
            exact ret_i hx hb hrt hK hP hD hS hlocks dX8_overslept_31
