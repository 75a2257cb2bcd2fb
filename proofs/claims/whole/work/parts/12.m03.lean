def fX5_isGuest (K : Nat) (x1 : Int32) (T_guests : Int32) : Option (Int32) :=
    if (x1 : Int32) < 0 then (
    some 0)
    else (
    if T_guests ≤ (x1 : Int32) then (
    some 0)
    else (
    some 1))
theorem mbX5_isGuest_0 : Cond.fieldLink RX5 30 "BootsAtDawn$Slate" "guests" "I" ∈ wsX5_isGuest := List.mem_of_getElem? (i := 1) rfl
theorem inX5_isGuest_X5 : ∀ w ∈ u_ws RX5 TX5 9, w ∈ wsX5_isGuest := fun _ h => (List.mem_cons_of_mem _ (List.mem_append_right _ h))
abbrev rmX5_isGuest : Room := { frames := 0, cells := 0, slots := 0, locals := 0 }
set_option maxHeartbeats 8000000 in
set_option maxRecDepth 100000 in
theorem kX5_isGuest (l : Launch) (dC : Nat → ClassId) (dI : Nat → Nat → Nat) (cC cI cJ : ClassId) (sz : Nat) (K : Nat) (a_T a_T_guestKind a_T_guestFloor a_T_wishKind a_T_wishA a_T_wishB a_T_wishNames : Nat) (x1 : Int32) (T_guests : Int32) (T_wishes : Int32) (T_start : Int32) (R : Int32) (hr : fX5_isGuest K x1 T_guests = some R) : Met l yX5_isGuest wsX5_isGuest rmX5_isGuest (va_Pc ([.ref a_T, .int x1] : List Value) (PcW (dC, dI) (tysA cC cI cJ) sz [(a_T, .inr (5, [.ref a_T_guestKind, .ref a_T_guestFloor, .ref a_T_wishKind, .ref a_T_wishA, .ref a_T_wishB, .ref a_T_wishNames, .int T_guests, .int T_wishes, .int T_start]))])) (va_Qi (fun r (_ : Unit) => r = R) (fun _ => BW (dC, dI) (tysA cC cI cJ) (va_A [(a_T, .inr (5, [.ref a_T_guestKind, .ref a_T_guestFloor, .ref a_T_wishKind, .ref a_T_wishA, .ref a_T_wishB, .ref a_T_wishNames, .int T_guests, .int T_wishes, .int T_start]))] sz) [(a_T, .inr (5, [.ref a_T_guestKind, .ref a_T_guestFloor, .ref a_T_wishKind, .ref a_T_wishA, .ref a_T_wishB, .ref a_T_wishNames, .int T_guests, .int T_wishes, .int T_start]))]) (va_A [(a_T, .inr (5, [.ref a_T_guestKind, .ref a_T_guestFloor, .ref a_T_wishKind, .ref a_T_wishA, .ref a_T_wishB, .ref a_T_wishNames, .int T_guests, .int T_wishes, .int T_start]))] sz)) 0 0 (va_A [(a_T, .inr (5, [.ref a_T_guestKind, .ref a_T_guestFloor, .ref a_T_wishKind, .ref a_T_wishA, .ref a_T_wishB, .ref a_T_wishNames, .int T_guests, .int T_wishes, .int T_start]))] sz) := by
  refine Met.ofW (cc := cX5_isGuest) (maxL := 2) (ret := (some .boolean)) (by decide) rfl ?_
  intro p e s m args below meth c s₁ B hml hv
  obtain ⟨rfl, hsz, hP, hK, hD0, hN⟩ := hv
  have hx := B.exec
  have hb := B.bytes
  have hrt := B.returns
  have hts := atoms_spec (ws := wsX5_isGuest) B.pre
  have hown : s.vm.findClass RX5 = some m.cls := findClass_of_methodNamed B.named
  have hlocks := B.notSynchronized
  subst hsz
  have hD := hD0.self (sz := s.heap.size)
  generalize hAe : va_A [(a_T, .inr (5, [.ref a_T_guestKind, .ref a_T_guestFloor, .ref a_T_wishKind, .ref a_T_wishA, .ref a_T_wishB, .ref a_T_wishNames, .int T_guests, .int T_wishes, .int T_start]))] s.heap.size = A at hD ⊢
  have hA : ∀ q : Nat, s.heap.size ≤ q → A q := fun q h => by rw [← hAe]; exact Or.inr h
  have hS : va_S A s.heap s.heap [] := va_S.rf
  have hl := lv_entry ([.ref a_T, .int x1] : List Value) (n := 2) (Nat.le_of_ble_eq_true rfl)
  rw [lg_entry_eq]
  generalize (lg_sl ([.ref a_T, .int x1] : List Value) ++ List.replicate (2 - (lg_sl ([.ref a_T, .int x1] : List Value)).length) Slot.unset).toArray = ls at hl ⊢
  replace hl : lv_has ls 2 [(0, .ref a_T), (1, .int x1)] := hl
  obtain ⟨Q, hQ⟩ : ∃ Q, Q = MQ below (va_Qi (fun r (_ : Unit) => r = R) (fun _ => BW (dC, dI) (tysA cC cI cJ) A [(a_T, .inr (5, [.ref a_T_guestKind, .ref a_T_guestFloor, .ref a_T_wishKind, .ref a_T_wishA, .ref a_T_wishB, .ref a_T_wishNames, .int T_guests, .int T_wishes, .int T_start]))]) A) ([.ref a_T, .int x1] : List Value).toArray s 0 0 A := ⟨_, rfl⟩
  rw [← hQ]
  suffices hE : WG p l e rmX5_isGuest s m ([.ref a_T, .int x1] : List Value).toArray below meth c 0 0 Q (dC, dI) A 0 2 [(a_T, .inr (5, [.ref a_T_guestKind, .ref a_T_guestFloor, .ref a_T_wishKind, .ref a_T_wishA, .ref a_T_wishB, .ref a_T_wishNames, .int T_guests, .int T_wishes, .int T_start]))] [(0, .ref a_T), (1, .int x1)] [] from hE _ _ _ hP hD hS hl
  clear hP hD hS hl hD0 hAe
  intro H locs ls hP hD hS hl
  unfold fX5_isGuest at hr
  refine lv_iload_n hx hb dX5_isGuest_0 rfl (lv_at hl 1 rfl) ?_
  refine lv_if_lt (tgt := 16) hx hb dX5_isGuest_1 (by decide) (fun c1 => ?_) (fun c1 => ?_)
  · replace hr := it_t hr c1
    refine lv_iconst (v := 0) hx hb dX5_isGuest_16 (by decide) ?_
    have he := Option.some.inj hr
    subst he
    subst hQ
    exact ret_z hx hb hrt (show narrow .boolean (.int 0) = .int 0 from rfl) hK hP hD hS hlocks dX5_isGuest_17
  · replace hr := it_f hr c1
    refine lv_iload_n hx hb dX5_isGuest_4 rfl (lv_at hl 1 rfl) ?_
    refine lv_aload_n hx hb dX5_isGuest_5 rfl (lv_at hl 0 rfl) ?_
    refine va_get (D := (dC, dI)) (ci := 5) (v := .int T_guests) (C := RX5) (T := TX5) (N := 9) hx hb hts inX5_isGuest_X5 hown hK hP 0 rfl rfl 6 (by decide) (hts _ mbX5_isGuest_0) (fun _ h9 => h9) rfl dX5_isGuest_6 ?_
    refine lv_icmp_ge (tgt := 16) hx hb dX5_isGuest_9 (by decide) (fun c2 => ?_) (fun c2 => ?_)
    · replace hr := it_t hr c2
      refine lv_iconst (v := 0) hx hb dX5_isGuest_16 (by decide) ?_
      have he := Option.some.inj hr
      subst he
      subst hQ
      exact ret_z hx hb hrt (show narrow .boolean (.int 0) = .int 0 from rfl) hK hP hD hS hlocks dX5_isGuest_17
    · replace hr := it_f hr c2
      refine lv_iconst (v := 1) hx hb dX5_isGuest_12 (by decide) ?_
      refine lv_goto (tgt := 17) hx hb dX5_isGuest_13 (by decide) ?_
      have he := Option.some.inj hr
      subst he
      subst hQ
      exact ret_z hx hb hrt (show narrow .boolean (.int 1) = .int 1 from rfl) hK hP hD hS hlocks dX5_isGuest_17
def fX5_addWish (K : Nat) (x1 : Int32) (x2 : Int32) (x3 : Int32) (T_guests : Int32) (T_wishes : Int32) (T_wishNames : (Nat → Int32)) (T_wishKind : (Nat → Int32)) (T_wishA : (Nat → Int32)) (T_wishB : (Nat → Int32)) : Option (Int32 × Int32 × (Nat → Int32) × (Nat → Int32) × (Nat → Int32) × (Nat → Int32)) :=
    bd1 (fX5_isOfTwo K x1) fun r =>
    if 9 ≤ (T_wishes : Int32) then (
    some (0, T_wishes, T_wishNames, T_wishKind, T_wishA, T_wishB))
    else (
    bd1 (fX5_isGuest K x2 T_guests) fun r_1 =>
    if (r_1 : Int32) = 0 then (
    some (0, T_wishes, T_wishNames, T_wishKind, T_wishA, T_wishB))
    else (
    bs0 (
    if (r : Int32) = 0 then (
    some (.inr ()))
    else (
    bd1 (fX5_isGuest K x3 T_guests) fun r_2 =>
    if (r_2 : Int32) = 0 then (
    some (.inl (0, T_wishes, T_wishNames, T_wishKind, T_wishA, T_wishB)))
    else (
    if (x2 : Int32) = x3 then (
    some (.inl (0, T_wishes, T_wishNames, T_wishKind, T_wishA, T_wishB)))
    else (
    some (.inr ()))))) (
    bd1 (
    if (r : Int32) = 0 then (
    some (1 <<< (x2 &&& 31)))
    else (
    some ((1 <<< (x2 &&& 31)) ||| (1 <<< (x3 &&& 31))))) fun y =>
    bd1 (fX8_put K 9 T_wishes y T_wishNames) fun T_wishNames_1 =>
    bd1 (fX8_put K 9 T_wishes x1 T_wishKind) fun T_wishKind_1 =>
    bd1 (fX8_put K 9 T_wishes x2 T_wishA) fun T_wishA_1 =>
    bd1 (fX8_put K 9 T_wishes x3 T_wishB) fun T_wishB_1 =>
    nm (T_wishes + 1) fun T_wishes_1 =>
    some (1, T_wishes_1, T_wishNames_1, T_wishKind_1, T_wishA_1, T_wishB_1))))
theorem mbX5_addWish_0 : Cond.fieldLink RX5 34 "BootsAtDawn$Slate" "wishes" "I" ∈ wsX5_addWish := List.mem_of_getElem? (i := 1) rfl
theorem inX5_addWish_X5 : ∀ w ∈ u_ws RX5 TX5 9, w ∈ wsX5_addWish := fun _ h => (List.mem_cons_of_mem _ (List.mem_append_right _ h))
theorem mbX5_addWish_2 : Cond.fieldLink RX5 27 "BootsAtDawn$Slate" "wishNames" "[I" ∈ wsX5_addWish := List.mem_of_getElem? (i := 2) rfl
theorem mbX5_addWish_3 : Cond.initialized RX8 ∈ wsX5_addWish := List.mem_of_getElem? (i := 16) rfl
theorem mbX5_addWish_4 : Cond.static yX8_put ∈ wsX5_addWish := List.mem_of_getElem? (i := 15) rfl
theorem mbX5_addWish_5 : Cond.fieldLink RX5 18 "BootsAtDawn$Slate" "wishKind" "[I" ∈ wsX5_addWish := List.mem_of_getElem? (i := 3) rfl
theorem mbX5_addWish_6 : Cond.fieldLink RX5 21 "BootsAtDawn$Slate" "wishA" "[I" ∈ wsX5_addWish := List.mem_of_getElem? (i := 4) rfl
theorem mbX5_addWish_7 : Cond.fieldLink RX5 24 "BootsAtDawn$Slate" "wishB" "[I" ∈ wsX5_addWish := List.mem_of_getElem? (i := 5) rfl
abbrev rmX5_addWish : Room := { frames := 1, cells := 0, slots := 0, locals := 22 }
set_option maxHeartbeats 8000000 in
set_option maxRecDepth 100000 in
theorem kX5_addWish (l : Launch) (dC : Nat → ClassId) (dI : Nat → Nat → Nat) (cC cI cJ : ClassId) (sz : Nat) (K : Nat) (a_T a_T_guestKind a_T_guestFloor a_T_wishKind a_T_wishA a_T_wishB a_T_wishNames : Nat) (x1 : Int32) (x2 : Int32) (x3 : Int32) (T_guests : Int32) (T_wishes : Int32) (T_start : Int32) (T_wishNames : (Nat → Int32)) (T_wishKind : (Nat → Int32)) (T_wishA : (Nat → Int32)) (T_wishB : (Nat → Int32)) (R : Int32 × Int32 × (Nat → Int32) × (Nat → Int32) × (Nat → Int32) × (Nat → Int32)) (hr : fX5_addWish K x1 x2 x3 T_guests T_wishes T_wishNames T_wishKind T_wishA T_wishB = some R) : Met l yX5_addWish wsX5_addWish rmX5_addWish (va_Pc ([.ref a_T, .int x1, .int x2, .int x3] : List Value) (PcW (dC, dI) (tysA cC cI cJ) sz [(a_T, .inr (5, [.ref a_T_guestKind, .ref a_T_guestFloor, .ref a_T_wishKind, .ref a_T_wishA, .ref a_T_wishB, .ref a_T_wishNames, .int T_guests, .int T_wishes, .int T_start])), (a_T_wishNames, .inl (cI, 9, .inl T_wishNames)), (a_T_wishKind, .inl (cI, 9, .inl T_wishKind)), (a_T_wishA, .inl (cI, 9, .inl T_wishA)), (a_T_wishB, .inl (cI, 9, .inl T_wishB))])) (va_Qi (fun r (_ : Unit) => r = R.1) (fun _ => BW (dC, dI) (tysA cC cI cJ) (va_A [(a_T, .inr (5, [.ref a_T_guestKind, .ref a_T_guestFloor, .ref a_T_wishKind, .ref a_T_wishA, .ref a_T_wishB, .ref a_T_wishNames, .int T_guests, .int T_wishes, .int T_start])), (a_T_wishNames, .inl (cI, 9, .inl T_wishNames)), (a_T_wishKind, .inl (cI, 9, .inl T_wishKind)), (a_T_wishA, .inl (cI, 9, .inl T_wishA)), (a_T_wishB, .inl (cI, 9, .inl T_wishB))] sz) [(a_T, .inr (5, [.ref a_T_guestKind, .ref a_T_guestFloor, .ref a_T_wishKind, .ref a_T_wishA, .ref a_T_wishB, .ref a_T_wishNames, .int T_guests, .int R.2.1, .int T_start])), (a_T_wishNames, .inl (cI, 9, .inl R.2.2.1)), (a_T_wishKind, .inl (cI, 9, .inl R.2.2.2.1)), (a_T_wishA, .inl (cI, 9, .inl R.2.2.2.2.1)), (a_T_wishB, .inl (cI, 9, .inl R.2.2.2.2.2))]) (va_A [(a_T, .inr (5, [.ref a_T_guestKind, .ref a_T_guestFloor, .ref a_T_wishKind, .ref a_T_wishA, .ref a_T_wishB, .ref a_T_wishNames, .int T_guests, .int T_wishes, .int T_start])), (a_T_wishNames, .inl (cI, 9, .inl T_wishNames)), (a_T_wishKind, .inl (cI, 9, .inl T_wishKind)), (a_T_wishA, .inl (cI, 9, .inl T_wishA)), (a_T_wishB, .inl (cI, 9, .inl T_wishB))] sz)) 0 0 (va_A [(a_T, .inr (5, [.ref a_T_guestKind, .ref a_T_guestFloor, .ref a_T_wishKind, .ref a_T_wishA, .ref a_T_wishB, .ref a_T_wishNames, .int T_guests, .int T_wishes, .int T_start])), (a_T_wishNames, .inl (cI, 9, .inl T_wishNames)), (a_T_wishKind, .inl (cI, 9, .inl T_wishKind)), (a_T_wishA, .inl (cI, 9, .inl T_wishA)), (a_T_wishB, .inl (cI, 9, .inl T_wishB))] sz) := by
  refine Met.ofW (cc := cX5_addWish) (maxL := 5) (ret := (some .boolean)) (by decide) rfl ?_
  intro p e s m args below meth c s₁ B hml hv
  obtain ⟨rfl, hsz, hP, hK, hD0, hN⟩ := hv
  have hx := B.exec
  have hb := B.bytes
  have hrt := B.returns
  have hts := atoms_spec (ws := wsX5_addWish) B.pre
  have hown : s.vm.findClass RX5 = some m.cls := findClass_of_methodNamed B.named
  have hlocks := B.notSynchronized
  subst hsz
  have hD := hD0.self (sz := s.heap.size)
  generalize hAe : va_A [(a_T, .inr (5, [.ref a_T_guestKind, .ref a_T_guestFloor, .ref a_T_wishKind, .ref a_T_wishA, .ref a_T_wishB, .ref a_T_wishNames, .int T_guests, .int T_wishes, .int T_start])), (a_T_wishNames, .inl (cI, 9, .inl T_wishNames)), (a_T_wishKind, .inl (cI, 9, .inl T_wishKind)), (a_T_wishA, .inl (cI, 9, .inl T_wishA)), (a_T_wishB, .inl (cI, 9, .inl T_wishB))] s.heap.size = A at hD ⊢
  have hA : ∀ q : Nat, s.heap.size ≤ q → A q := fun q h => by rw [← hAe]; exact Or.inr h
  have hS : va_S A s.heap s.heap [] := va_S.rf
  have hl := lv_entry ([.ref a_T, .int x1, .int x2, .int x3] : List Value) (n := 5) (Nat.le_of_ble_eq_true rfl)
  rw [lg_entry_eq]
  generalize (lg_sl ([.ref a_T, .int x1, .int x2, .int x3] : List Value) ++ List.replicate (5 - (lg_sl ([.ref a_T, .int x1, .int x2, .int x3] : List Value)).length) Slot.unset).toArray = ls at hl ⊢
  replace hl : lv_has ls 5 [(0, .ref a_T), (1, .int x1), (2, .int x2), (3, .int x3)] := hl
  obtain ⟨Q, hQ⟩ : ∃ Q, Q = MQ below (va_Qi (fun r (_ : Unit) => r = R.1) (fun _ => BW (dC, dI) (tysA cC cI cJ) A [(a_T, .inr (5, [.ref a_T_guestKind, .ref a_T_guestFloor, .ref a_T_wishKind, .ref a_T_wishA, .ref a_T_wishB, .ref a_T_wishNames, .int T_guests, .int R.2.1, .int T_start])), (a_T_wishNames, .inl (cI, 9, .inl R.2.2.1)), (a_T_wishKind, .inl (cI, 9, .inl R.2.2.2.1)), (a_T_wishA, .inl (cI, 9, .inl R.2.2.2.2.1)), (a_T_wishB, .inl (cI, 9, .inl R.2.2.2.2.2))]) A) ([.ref a_T, .int x1, .int x2, .int x3] : List Value).toArray s 0 0 A := ⟨_, rfl⟩
  rw [← hQ]
  suffices hE : WG p l e rmX5_addWish s m ([.ref a_T, .int x1, .int x2, .int x3] : List Value).toArray below meth c 0 0 Q (dC, dI) A 0 5 [(a_T, .inr (5, [.ref a_T_guestKind, .ref a_T_guestFloor, .ref a_T_wishKind, .ref a_T_wishA, .ref a_T_wishB, .ref a_T_wishNames, .int T_guests, .int T_wishes, .int T_start])), (a_T_wishNames, .inl (cI, 9, .inl T_wishNames)), (a_T_wishKind, .inl (cI, 9, .inl T_wishKind)), (a_T_wishA, .inl (cI, 9, .inl T_wishA)), (a_T_wishB, .inl (cI, 9, .inl T_wishB))] [(0, .ref a_T), (1, .int x1), (2, .int x2), (3, .int x3)] [] from hE _ _ _ hP hD hS hl
  clear hP hD hS hl hD0 hAe
  intro H locs ls hP hD hS hl
  unfold fX5_addWish at hr
  refine lv_iload_n hx hb dX5_addWish_0 rfl (lv_at hl 1 rfl) ?_
  obtain ⟨r, hc1, hr⟩ := bd1_some hr
  refine call_i (D := (dC, dI)) (tys := tysA cC cI cJ) (wc := []) (wr := [(a_T, .inr (5, [.ref a_T_guestKind, .ref a_T_guestFloor, .ref a_T_wishKind, .ref a_T_wishA, .ref a_T_wishB, .ref a_T_wishNames, .int T_guests, .int T_wishes, .int T_start])), (a_T_wishNames, .inl (cI, 9, .inl T_wishNames)), (a_T_wishKind, .inl (cI, 9, .inl T_wishKind)), (a_T_wishA, .inl (cI, 9, .inl T_wishA)), (a_T_wishB, .inl (cI, 9, .inl T_wishB))]) (w1 := []) (wn := [(a_T, .inr (5, [.ref a_T_guestKind, .ref a_T_guestFloor, .ref a_T_wishKind, .ref a_T_wishA, .ref a_T_wishB, .ref a_T_wishNames, .int T_guests, .int T_wishes, .int T_start])), (a_T_wishNames, .inl (cI, 9, .inl T_wishNames)), (a_T_wishKind, .inl (cI, 9, .inl T_wishKind)), (a_T_wishA, .inl (cI, 9, .inl T_wishA)), (a_T_wishB, .inl (cI, 9, .inl T_wishB))]) (r0 := r) hP hD hS hA [] [0, 1, 2, 3, 4] [0, 1, 2, 3, 4] rfl rfl (by decide +kernel) (by decide +kernel) rfl (by decide +kernel) (va_runS (As := [.int x1]) (rest := []) ⟨hx, hb, hml, hown, hts⟩ (kX5_isOfTwo l dC dI cC cI cJ H.size K x1 r hc1) (va_cwS 1 hts gX5_addWish_X5_isOfTwo rfl rfl rfl (by decide +kernel) ⟨Nat.le_of_ble_eq_true rfl, Nat.le_of_ble_eq_true rfl⟩) ⟨fbW, preW hP hD hK hN [] rfl (by decide +kernel)⟩ rfl rfl hl.1 rfl (lv_room (Nat.le_of_ble_eq_true rfl)) dX5_addWish_1 ⟨Nat.zero_le _, Nat.zero_le _⟩) (fun H locs hP hD hS => ?_)
  refine lv_istore (lv' := [(4, .int r), (0, .ref a_T), (1, .int x1), (2, .int x2), (3, .int x3)]) hx hb dX5_addWish_4 hl (by decide) rfl (fun ls hl => ?_)
  refine lv_aload_n hx hb dX5_addWish_6 rfl (lv_at hl 1 rfl) ?_
  refine va_get (D := (dC, dI)) (ci := 5) (v := .int T_wishes) (C := RX5) (T := TX5) (N := 9) hx hb hts inX5_addWish_X5 hown hK hP 0 rfl rfl 7 (by decide) (hts _ mbX5_addWish_0) (fun _ h9 => h9) rfl dX5_addWish_7 ?_
  refine lv_bipush (v := 9) hx hb dX5_addWish_10 (by decide) ?_
  refine lv_icmp_ge (tgt := 41) hx hb dX5_addWish_12 (by decide) (fun c1 => ?_) (fun c1 => ?_)
  · replace hr := it_t hr c1
    refine lv_iconst (v := 0) hx hb dX5_addWish_41 (by decide) ?_
    have he := Option.some.inj hr
    subst he
    subst hQ
    exact ret_z hx hb hrt (show narrow .boolean (.int 0) = .int 0 from rfl) hK hP hD hS hlocks dX5_addWish_42
  · replace hr := it_f hr c1
    refine lv_aload_n hx hb dX5_addWish_15 rfl (lv_at hl 1 rfl) ?_
    refine lv_iload_n hx hb dX5_addWish_16 rfl (lv_at hl 3 rfl) ?_
    obtain ⟨r_1, hc2, hr⟩ := bd1_some hr
    refine call_i (D := (dC, dI)) (tys := tysA cC cI cJ) (wc := [(a_T, .inr (5, [.ref a_T_guestKind, .ref a_T_guestFloor, .ref a_T_wishKind, .ref a_T_wishA, .ref a_T_wishB, .ref a_T_wishNames, .int T_guests, .int T_wishes, .int T_start]))]) (wr := [(a_T_wishNames, .inl (cI, 9, .inl T_wishNames)), (a_T_wishKind, .inl (cI, 9, .inl T_wishKind)), (a_T_wishA, .inl (cI, 9, .inl T_wishA)), (a_T_wishB, .inl (cI, 9, .inl T_wishB))]) (w1 := [(a_T, .inr (5, [.ref a_T_guestKind, .ref a_T_guestFloor, .ref a_T_wishKind, .ref a_T_wishA, .ref a_T_wishB, .ref a_T_wishNames, .int T_guests, .int T_wishes, .int T_start]))]) (wn := [(a_T, .inr (5, [.ref a_T_guestKind, .ref a_T_guestFloor, .ref a_T_wishKind, .ref a_T_wishA, .ref a_T_wishB, .ref a_T_wishNames, .int T_guests, .int T_wishes, .int T_start])), (a_T_wishNames, .inl (cI, 9, .inl T_wishNames)), (a_T_wishKind, .inl (cI, 9, .inl T_wishKind)), (a_T_wishA, .inl (cI, 9, .inl T_wishA)), (a_T_wishB, .inl (cI, 9, .inl T_wishB))]) (r0 := r_1) hP hD hS hA [0] [1, 2, 3, 4] [4, 0, 1, 2, 3] rfl rfl (by decide +kernel) (by decide +kernel) rfl (by decide +kernel) (va_runV (As := [.int x2]) (rest := []) ⟨hx, hb, hml, hown, hts⟩ (kX5_isGuest l dC dI cC cI cJ H.size K a_T a_T_guestKind a_T_guestFloor a_T_wishKind a_T_wishA a_T_wishB a_T_wishNames x2 T_guests T_wishes T_start r_1 hc2) (cwV 1 hts gX5_addWish_X5_isGuest rfl rfl rfl (by decide +kernel) ⟨Nat.le_of_ble_eq_true rfl, Nat.le_of_ble_eq_true rfl⟩) ⟨fbW, va_recv hK hP (ci := 5) (q0 := 0) rfl rfl, preW hP hD hK hN [0] rfl (by decide +kernel)⟩ rfl rfl hl.1 rfl (lv_room (Nat.le_of_ble_eq_true rfl)) dX5_addWish_17 ⟨Nat.zero_le _, Nat.zero_le _⟩) (fun H locs hP hD hS => ?_)
    refine lv_if_eq (tgt := 41) hx hb dX5_addWish_20 (by decide) (fun c2 => ?_) (fun c2 => ?_)
    · replace hr := it_t hr c2
      refine lv_iconst (v := 0) hx hb dX5_addWish_41 (by decide) ?_
      have he := Option.some.inj hr
      subst he
      subst hQ
      exact ret_z hx hb hrt (show narrow .boolean (.int 0) = .int 0 from rfl) hK hP hD hS hlocks dX5_addWish_42
    · replace hr := it_f hr c2
      refine lv_iload hx hb dX5_addWish_23 (lv_at hl 0 rfl) ?_
      obtain ⟨X1, hj, hi1, hk⟩ := bs0_some hr
      have hJ1 : X1 = .inr () → WG p l e rmX5_addWish s m ([.ref a_T, .int x1, .int x2, .int x3] : List Value).toArray below meth c 0 0 Q (dC, dI) A 43 5 [(a_T, .inr (5, [.ref a_T_guestKind, .ref a_T_guestFloor, .ref a_T_wishKind, .ref a_T_wishA, .ref a_T_wishB, .ref a_T_wishNames, .int T_guests, .int T_wishes, .int T_start])), (a_T_wishNames, .inl (cI, 9, .inl T_wishNames)), (a_T_wishKind, .inl (cI, 9, .inl T_wishKind)), (a_T_wishA, .inl (cI, 9, .inl T_wishA)), (a_T_wishB, .inl (cI, 9, .inl T_wishB))] [(0, .ref a_T), (1, .int x1), (2, .int x2), (3, .int x3), (4, .int r)] [] := by
        intro he
        replace hr := hk he
        intro H locs ls hP hD hS hl
        refine lv_aload_n hx hb dX5_addWish_43 rfl (lv_at hl 0 rfl) ?_
        refine va_get (D := (dC, dI)) (ci := 5) (v := .ref a_T_wishNames) (C := RX5) (T := TX5) (N := 9) hx hb hts inX5_addWish_X5 hown hK hP 0 rfl rfl 5 (by decide) (hts _ mbX5_addWish_2) (fun _ h9 => h9) rfl dX5_addWish_44 ?_
        refine lv_aload_n hx hb dX5_addWish_47 rfl (lv_at hl 0 rfl) ?_
        refine va_get (D := (dC, dI)) (ci := 5) (v := .int T_wishes) (C := RX5) (T := TX5) (N := 9) hx hb hts inX5_addWish_X5 hown hK hP 0 rfl rfl 7 (by decide) (hts _ mbX5_addWish_0) (fun _ h9 => h9) rfl dX5_addWish_48 ?_
        refine lv_iload hx hb dX5_addWish_51 (lv_at hl 4 rfl) ?_
        obtain ⟨y, hj1, hr⟩ := bd1_some hr
        have hJ2 : WG p l e rmX5_addWish s m ([.ref a_T, .int x1, .int x2, .int x3] : List Value).toArray below meth c 0 0 Q (dC, dI) A 69 5 [(a_T, .inr (5, [.ref a_T_guestKind, .ref a_T_guestFloor, .ref a_T_wishKind, .ref a_T_wishA, .ref a_T_wishB, .ref a_T_wishNames, .int T_guests, .int T_wishes, .int T_start])), (a_T_wishNames, .inl (cI, 9, .inl T_wishNames)), (a_T_wishKind, .inl (cI, 9, .inl T_wishKind)), (a_T_wishA, .inl (cI, 9, .inl T_wishA)), (a_T_wishB, .inl (cI, 9, .inl T_wishB))] [(0, .ref a_T), (1, .int x1), (2, .int x2), (3, .int x3)] [.int y, .int T_wishes, .ref a_T_wishNames] := by
          intro H locs ls hP hD hS hl
          obtain ⟨T_wishNames_1, hc4, hr⟩ := bd1_some hr
          refine call_v (D := (dC, dI)) (tys := tysA cC cI cJ) (wc := [(a_T_wishNames, .inl (cI, 9, .inl T_wishNames))]) (wr := [(a_T, .inr (5, [.ref a_T_guestKind, .ref a_T_guestFloor, .ref a_T_wishKind, .ref a_T_wishA, .ref a_T_wishB, .ref a_T_wishNames, .int T_guests, .int T_wishes, .int T_start])), (a_T_wishKind, .inl (cI, 9, .inl T_wishKind)), (a_T_wishA, .inl (cI, 9, .inl T_wishA)), (a_T_wishB, .inl (cI, 9, .inl T_wishB))]) (w1 := [(a_T_wishNames, .inl (cI, 9, .inl T_wishNames_1))]) (wn := [(a_T, .inr (5, [.ref a_T_guestKind, .ref a_T_guestFloor, .ref a_T_wishKind, .ref a_T_wishA, .ref a_T_wishB, .ref a_T_wishNames, .int T_guests, .int T_wishes, .int T_start])), (a_T_wishNames, .inl (cI, 9, .inl T_wishNames_1)), (a_T_wishKind, .inl (cI, 9, .inl T_wishKind)), (a_T_wishA, .inl (cI, 9, .inl T_wishA)), (a_T_wishB, .inl (cI, 9, .inl T_wishB))]) hP hD hS hA [1] [0, 2, 3, 4] [0, 4, 1, 2, 3] rfl rfl (by decide +kernel) (by decide +kernel) rfl (by decide +kernel) (va_runSN (host := "BootsAtDawn") (As := [.ref a_T_wishNames, .int T_wishes, .int y]) (rest := []) ⟨hx, hb, hml, hown, hts⟩ (kX8_put l dC dI cC cI cJ H.size K a_T_wishNames 9 T_wishes y T_wishNames T_wishNames_1 hc4) ⟨va_cnB 3 hts gX5_addWish_X8_put_n40 rfl rfl rfl (hN _ nw_57) (hts _ mbX5_addWish_3) (by decide +kernel) ⟨Nat.le_of_ble_eq_true rfl, Nat.le_of_ble_eq_true rfl⟩, (hts _ mbX5_addWish_4), trivial⟩ ⟨fbW, preW hP hD hK hN [1] rfl (by decide +kernel)⟩ rfl rfl hl.1 rfl (lv_room (Nat.le_of_ble_eq_true rfl)) dX5_addWish_69 ⟨Nat.zero_le _, Nat.zero_le _⟩) (fun H locs hP hD hS => ?_)
          refine lv_aload_n hx hb dX5_addWish_72 rfl (lv_at hl 0 rfl) ?_
          refine va_get (D := (dC, dI)) (ci := 5) (v := .ref a_T_wishKind) (C := RX5) (T := TX5) (N := 9) hx hb hts inX5_addWish_X5 hown hK hP 0 rfl rfl 2 (by decide) (hts _ mbX5_addWish_5) (fun _ h9 => h9) rfl dX5_addWish_73 ?_
          refine lv_aload_n hx hb dX5_addWish_76 rfl (lv_at hl 0 rfl) ?_
          refine va_get (D := (dC, dI)) (ci := 5) (v := .int T_wishes) (C := RX5) (T := TX5) (N := 9) hx hb hts inX5_addWish_X5 hown hK hP 0 rfl rfl 7 (by decide) (hts _ mbX5_addWish_0) (fun _ h9 => h9) rfl dX5_addWish_77 ?_
          refine lv_iload_n hx hb dX5_addWish_80 rfl (lv_at hl 1 rfl) ?_
          obtain ⟨T_wishKind_1, hc5, hr⟩ := bd1_some hr
          refine call_v (D := (dC, dI)) (tys := tysA cC cI cJ) (wc := [(a_T_wishKind, .inl (cI, 9, .inl T_wishKind))]) (wr := [(a_T, .inr (5, [.ref a_T_guestKind, .ref a_T_guestFloor, .ref a_T_wishKind, .ref a_T_wishA, .ref a_T_wishB, .ref a_T_wishNames, .int T_guests, .int T_wishes, .int T_start])), (a_T_wishNames, .inl (cI, 9, .inl T_wishNames_1)), (a_T_wishA, .inl (cI, 9, .inl T_wishA)), (a_T_wishB, .inl (cI, 9, .inl T_wishB))]) (w1 := [(a_T_wishKind, .inl (cI, 9, .inl T_wishKind_1))]) (wn := [(a_T, .inr (5, [.ref a_T_guestKind, .ref a_T_guestFloor, .ref a_T_wishKind, .ref a_T_wishA, .ref a_T_wishB, .ref a_T_wishNames, .int T_guests, .int T_wishes, .int T_start])), (a_T_wishNames, .inl (cI, 9, .inl T_wishNames_1)), (a_T_wishKind, .inl (cI, 9, .inl T_wishKind_1)), (a_T_wishA, .inl (cI, 9, .inl T_wishA)), (a_T_wishB, .inl (cI, 9, .inl T_wishB))]) hP hD hS hA [2] [0, 1, 3, 4] [0, 1, 4, 2, 3] rfl rfl (by decide +kernel) (by decide +kernel) rfl (by decide +kernel) (va_runSN (host := "BootsAtDawn") (As := [.ref a_T_wishKind, .int T_wishes, .int x1]) (rest := []) ⟨hx, hb, hml, hown, hts⟩ (kX8_put l dC dI cC cI cJ H.size K a_T_wishKind 9 T_wishes x1 T_wishKind T_wishKind_1 hc5) ⟨va_cnB 3 hts gX5_addWish_X8_put_n40 rfl rfl rfl (hN _ nw_57) (hts _ mbX5_addWish_3) (by decide +kernel) ⟨Nat.le_of_ble_eq_true rfl, Nat.le_of_ble_eq_true rfl⟩, (hts _ mbX5_addWish_4), trivial⟩ ⟨fbW, preW hP hD hK hN [2] rfl (by decide +kernel)⟩ rfl rfl hl.1 rfl (lv_room (Nat.le_of_ble_eq_true rfl)) dX5_addWish_81 ⟨Nat.zero_le _, Nat.zero_le _⟩) (fun H locs hP hD hS => ?_)
          refine lv_aload_n hx hb dX5_addWish_84 rfl (lv_at hl 0 rfl) ?_
          refine va_get (D := (dC, dI)) (ci := 5) (v := .ref a_T_wishA) (C := RX5) (T := TX5) (N := 9) hx hb hts inX5_addWish_X5 hown hK hP 0 rfl rfl 3 (by decide) (hts _ mbX5_addWish_6) (fun _ h9 => h9) rfl dX5_addWish_85 ?_
          refine lv_aload_n hx hb dX5_addWish_88 rfl (lv_at hl 0 rfl) ?_
          refine va_get (D := (dC, dI)) (ci := 5) (v := .int T_wishes) (C := RX5) (T := TX5) (N := 9) hx hb hts inX5_addWish_X5 hown hK hP 0 rfl rfl 7 (by decide) (hts _ mbX5_addWish_0) (fun _ h9 => h9) rfl dX5_addWish_89 ?_
          refine lv_iload_n hx hb dX5_addWish_92 rfl (lv_at hl 2 rfl) ?_
          obtain ⟨T_wishA_1, hc6, hr⟩ := bd1_some hr
          refine call_v (D := (dC, dI)) (tys := tysA cC cI cJ) (wc := [(a_T_wishA, .inl (cI, 9, .inl T_wishA))]) (wr := [(a_T, .inr (5, [.ref a_T_guestKind, .ref a_T_guestFloor, .ref a_T_wishKind, .ref a_T_wishA, .ref a_T_wishB, .ref a_T_wishNames, .int T_guests, .int T_wishes, .int T_start])), (a_T_wishNames, .inl (cI, 9, .inl T_wishNames_1)), (a_T_wishKind, .inl (cI, 9, .inl T_wishKind_1)), (a_T_wishB, .inl (cI, 9, .inl T_wishB))]) (w1 := [(a_T_wishA, .inl (cI, 9, .inl T_wishA_1))]) (wn := [(a_T, .inr (5, [.ref a_T_guestKind, .ref a_T_guestFloor, .ref a_T_wishKind, .ref a_T_wishA, .ref a_T_wishB, .ref a_T_wishNames, .int T_guests, .int T_wishes, .int T_start])), (a_T_wishNames, .inl (cI, 9, .inl T_wishNames_1)), (a_T_wishKind, .inl (cI, 9, .inl T_wishKind_1)), (a_T_wishA, .inl (cI, 9, .inl T_wishA_1)), (a_T_wishB, .inl (cI, 9, .inl T_wishB))]) hP hD hS hA [3] [0, 1, 2, 4] [0, 1, 2, 4, 3] rfl rfl (by decide +kernel) (by decide +kernel) rfl (by decide +kernel) (va_runSN (host := "BootsAtDawn") (As := [.ref a_T_wishA, .int T_wishes, .int x2]) (rest := []) ⟨hx, hb, hml, hown, hts⟩ (kX8_put l dC dI cC cI cJ H.size K a_T_wishA 9 T_wishes x2 T_wishA T_wishA_1 hc6) ⟨va_cnB 3 hts gX5_addWish_X8_put_n40 rfl rfl rfl (hN _ nw_57) (hts _ mbX5_addWish_3) (by decide +kernel) ⟨Nat.le_of_ble_eq_true rfl, Nat.le_of_ble_eq_true rfl⟩, (hts _ mbX5_addWish_4), trivial⟩ ⟨fbW, preW hP hD hK hN [3] rfl (by decide +kernel)⟩ rfl rfl hl.1 rfl (lv_room (Nat.le_of_ble_eq_true rfl)) dX5_addWish_93 ⟨Nat.zero_le _, Nat.zero_le _⟩) (fun H locs hP hD hS => ?_)
          refine lv_aload_n hx hb dX5_addWish_96 rfl (lv_at hl 0 rfl) ?_
          refine va_get (D := (dC, dI)) (ci := 5) (v := .ref a_T_wishB) (C := RX5) (T := TX5) (N := 9) hx hb hts inX5_addWish_X5 hown hK hP 0 rfl rfl 4 (by decide) (hts _ mbX5_addWish_7) (fun _ h9 => h9) rfl dX5_addWish_97 ?_
          refine lv_aload_n hx hb dX5_addWish_100 rfl (lv_at hl 0 rfl) ?_
          refine va_get (D := (dC, dI)) (ci := 5) (v := .int T_wishes) (C := RX5) (T := TX5) (N := 9) hx hb hts inX5_addWish_X5 hown hK hP 0 rfl rfl 7 (by decide) (hts _ mbX5_addWish_0) (fun _ h9 => h9) rfl dX5_addWish_101 ?_
          refine lv_iload_n hx hb dX5_addWish_104 rfl (lv_at hl 3 rfl) ?_
          obtain ⟨T_wishB_1, hc7, hr⟩ := bd1_some hr
          refine call_v (D := (dC, dI)) (tys := tysA cC cI cJ) (wc := [(a_T_wishB, .inl (cI, 9, .inl T_wishB))]) (wr := [(a_T, .inr (5, [.ref a_T_guestKind, .ref a_T_guestFloor, .ref a_T_wishKind, .ref a_T_wishA, .ref a_T_wishB, .ref a_T_wishNames, .int T_guests, .int T_wishes, .int T_start])), (a_T_wishNames, .inl (cI, 9, .inl T_wishNames_1)), (a_T_wishKind, .inl (cI, 9, .inl T_wishKind_1)), (a_T_wishA, .inl (cI, 9, .inl T_wishA_1))]) (w1 := [(a_T_wishB, .inl (cI, 9, .inl T_wishB_1))]) (wn := [(a_T, .inr (5, [.ref a_T_guestKind, .ref a_T_guestFloor, .ref a_T_wishKind, .ref a_T_wishA, .ref a_T_wishB, .ref a_T_wishNames, .int T_guests, .int T_wishes, .int T_start])), (a_T_wishNames, .inl (cI, 9, .inl T_wishNames_1)), (a_T_wishKind, .inl (cI, 9, .inl T_wishKind_1)), (a_T_wishA, .inl (cI, 9, .inl T_wishA_1)), (a_T_wishB, .inl (cI, 9, .inl T_wishB_1))]) hP hD hS hA [4] [0, 1, 2, 3] [0, 1, 2, 3, 4] rfl rfl (by decide +kernel) (by decide +kernel) rfl (by decide +kernel) (va_runSN (host := "BootsAtDawn") (As := [.ref a_T_wishB, .int T_wishes, .int x3]) (rest := []) ⟨hx, hb, hml, hown, hts⟩ (kX8_put l dC dI cC cI cJ H.size K a_T_wishB 9 T_wishes x3 T_wishB T_wishB_1 hc7) ⟨va_cnB 3 hts gX5_addWish_X8_put_n40 rfl rfl rfl (hN _ nw_57) (hts _ mbX5_addWish_3) (by decide +kernel) ⟨Nat.le_of_ble_eq_true rfl, Nat.le_of_ble_eq_true rfl⟩, (hts _ mbX5_addWish_4), trivial⟩ ⟨fbW, preW hP hD hK hN [4] rfl (by decide +kernel)⟩ rfl rfl hl.1 rfl (lv_room (Nat.le_of_ble_eq_true rfl)) dX5_addWish_105 ⟨Nat.zero_le _, Nat.zero_le _⟩) (fun H locs hP hD hS => ?_)
          refine lv_aload_n hx hb dX5_addWish_108 rfl (lv_at hl 0 rfl) ?_
          refine lv_dup hx hb dX5_addWish_109 rfl ?_
          refine va_get (D := (dC, dI)) (ci := 5) (v := .int T_wishes) (C := RX5) (T := TX5) (N := 9) hx hb hts inX5_addWish_X5 hown hK hP 0 rfl rfl 7 (by decide) (hts _ mbX5_addWish_0) (fun _ h9 => h9) rfl dX5_addWish_110 ?_
          refine lv_iconst (v := 1) hx hb dX5_addWish_113 (by decide) ?_
          refine lv_iadd hx hb dX5_addWish_114 ?_
          obtain ⟨T_wishes_1, e1, hr⟩ := nm_el hr
          refine lv_nmi e1 ?_
          refine va_put (D := (dC, dI)) (ci := 5) (v := .int T_wishes_1) (ty := .int) (C := RX5) (T := TX5) (N := 9) hx hb hts inX5_addWish_X5 tyX5 tyX5_ok nmX5 hown hK hP hD hS 0 rfl rfl 7 (by decide) (hts _ mbX5_addWish_0) (fun _ h9 => h9) rfl (by decide +kernel) rfl rfl (Nat.le_of_ble_eq_true rfl) dX5_addWish_115 (fun H locs hP hD hS => ?_)
          replace hP : va_P (dC, dI) vwCl [(a_T, .inr (5, [.ref a_T_guestKind, .ref a_T_guestFloor, .ref a_T_wishKind, .ref a_T_wishA, .ref a_T_wishB, .ref a_T_wishNames, .int T_guests, .int T_wishes_1, .int T_start])), (a_T_wishNames, .inl (cI, 9, .inl T_wishNames_1)), (a_T_wishKind, .inl (cI, 9, .inl T_wishKind_1)), (a_T_wishA, .inl (cI, 9, .inl T_wishA_1)), (a_T_wishB, .inl (cI, 9, .inl T_wishB_1))] H := hP
          replace hD : va_D A [(a_T, .inr (5, [.ref a_T_guestKind, .ref a_T_guestFloor, .ref a_T_wishKind, .ref a_T_wishA, .ref a_T_wishB, .ref a_T_wishNames, .int T_guests, .int T_wishes_1, .int T_start])), (a_T_wishNames, .inl (cI, 9, .inl T_wishNames_1)), (a_T_wishKind, .inl (cI, 9, .inl T_wishKind_1)), (a_T_wishA, .inl (cI, 9, .inl T_wishA_1)), (a_T_wishB, .inl (cI, 9, .inl T_wishB_1))] := hD
          refine lv_iconst (v := 1) hx hb dX5_addWish_118 (by decide) ?_
          have he := Option.some.inj hr
          subst he
          subst hQ
          exact ret_z hx hb hrt (show narrow .boolean (.int 1) = .int 1 from rfl) hK hP hD hS hlocks dX5_addWish_119
        replace hr := hj1
        refine lv_if_eq (tgt := 66) hx hb dX5_addWish_53 (by decide) (fun c6 => ?_) (fun c6 => ?_)
        · replace hr := it_t hr c6
          refine lv_iconst (v := 1) hx hb dX5_addWish_66 (by decide) ?_
          refine lv_iload_n hx hb dX5_addWish_67 rfl (lv_at hl 2 rfl) ?_
          refine lv_ishl hx hb dX5_addWish_68 ?_
          cases hr
          exact hJ2 H locs ls hP hD hS (lv_sub hl [0, 1, 2, 3] rfl)
        · replace hr := it_f hr c6
          refine lv_iconst (v := 1) hx hb dX5_addWish_56 (by decide) ?_
          refine lv_iload_n hx hb dX5_addWish_57 rfl (lv_at hl 2 rfl) ?_
          refine lv_ishl hx hb dX5_addWish_58 ?_
          refine lv_iconst (v := 1) hx hb dX5_addWish_59 (by decide) ?_
          refine lv_iload_n hx hb dX5_addWish_60 rfl (lv_at hl 3 rfl) ?_
          refine lv_ishl hx hb dX5_addWish_61 ?_
          refine lv_ior hx hb dX5_addWish_62 ?_
          refine lv_goto (tgt := 69) hx hb dX5_addWish_63 (by decide) ?_
          cases hr
          exact hJ2 H locs ls hP hD hS (lv_sub hl [0, 1, 2, 3] rfl)
      replace hr := hj
      refine lv_if_eq (tgt := 43) hx hb dX5_addWish_25 (by decide) (fun c3 => ?_) (fun c3 => ?_)
      · replace hr := it_t hr c3
        exact hJ1 (Option.some.inj hr).symm H locs ls hP hD hS (lv_sub hl [1, 2, 3, 4, 0] rfl)
      · replace hr := it_f hr c3
        refine lv_aload_n hx hb dX5_addWish_28 rfl (lv_at hl 1 rfl) ?_
        refine lv_iload_n hx hb dX5_addWish_29 rfl (lv_at hl 4 rfl) ?_
        obtain ⟨r_2, hc3, hr⟩ := bd1_some hr
        refine call_i (D := (dC, dI)) (tys := tysA cC cI cJ) (wc := [(a_T, .inr (5, [.ref a_T_guestKind, .ref a_T_guestFloor, .ref a_T_wishKind, .ref a_T_wishA, .ref a_T_wishB, .ref a_T_wishNames, .int T_guests, .int T_wishes, .int T_start]))]) (wr := [(a_T_wishNames, .inl (cI, 9, .inl T_wishNames)), (a_T_wishKind, .inl (cI, 9, .inl T_wishKind)), (a_T_wishA, .inl (cI, 9, .inl T_wishA)), (a_T_wishB, .inl (cI, 9, .inl T_wishB))]) (w1 := [(a_T, .inr (5, [.ref a_T_guestKind, .ref a_T_guestFloor, .ref a_T_wishKind, .ref a_T_wishA, .ref a_T_wishB, .ref a_T_wishNames, .int T_guests, .int T_wishes, .int T_start]))]) (wn := [(a_T, .inr (5, [.ref a_T_guestKind, .ref a_T_guestFloor, .ref a_T_wishKind, .ref a_T_wishA, .ref a_T_wishB, .ref a_T_wishNames, .int T_guests, .int T_wishes, .int T_start])), (a_T_wishNames, .inl (cI, 9, .inl T_wishNames)), (a_T_wishKind, .inl (cI, 9, .inl T_wishKind)), (a_T_wishA, .inl (cI, 9, .inl T_wishA)), (a_T_wishB, .inl (cI, 9, .inl T_wishB))]) (r0 := r_2) hP hD hS hA [0] [1, 2, 3, 4] [4, 0, 1, 2, 3] rfl rfl (by decide +kernel) (by decide +kernel) rfl (by decide +kernel) (va_runV (As := [.int x3]) (rest := []) ⟨hx, hb, hml, hown, hts⟩ (kX5_isGuest l dC dI cC cI cJ H.size K a_T a_T_guestKind a_T_guestFloor a_T_wishKind a_T_wishA a_T_wishB a_T_wishNames x3 T_guests T_wishes T_start r_2 hc3) (cwV 1 hts gX5_addWish_X5_isGuest rfl rfl rfl (by decide +kernel) ⟨Nat.le_of_ble_eq_true rfl, Nat.le_of_ble_eq_true rfl⟩) ⟨fbW, va_recv hK hP (ci := 5) (q0 := 0) rfl rfl, preW hP hD hK hN [0] rfl (by decide +kernel)⟩ rfl rfl hl.1 rfl (lv_room (Nat.le_of_ble_eq_true rfl)) dX5_addWish_30 ⟨Nat.zero_le _, Nat.zero_le _⟩) (fun H locs hP hD hS => ?_)
        refine lv_if_eq (tgt := 41) hx hb dX5_addWish_33 (by decide) (fun c4 => ?_) (fun c4 => ?_)
        · replace hr := it_t hr c4
          refine lv_iconst (v := 0) hx hb dX5_addWish_41 (by decide) ?_
          have he := Option.some.inj hr
          replace he := hi1 _ he.symm
          subst he
          subst hQ
          exact ret_z hx hb hrt (show narrow .boolean (.int 0) = .int 0 from rfl) hK hP hD hS hlocks dX5_addWish_42
        · replace hr := it_f hr c4
          refine lv_iload_n hx hb dX5_addWish_36 rfl (lv_at hl 3 rfl) ?_
          refine lv_iload_n hx hb dX5_addWish_37 rfl (lv_at hl 4 rfl) ?_
          refine lv_icmp_ne (tgt := 43) hx hb dX5_addWish_38 (by decide) (fun c5 => ?_) (fun c5 => ?_)
          · replace hr := it_f hr c5
            exact hJ1 (Option.some.inj hr).symm H locs ls hP hD hS (lv_sub hl [1, 2, 3, 4, 0] rfl)
          · replace hr := it_t hr c5
            refine lv_iconst (v := 0) hx hb dX5_addWish_41 (by decide) ?_
            have he := Option.some.inj hr
            replace he := hi1 _ he.symm
            subst he
            subst hQ
            exact ret_z hx hb hrt (show narrow .boolean (.int 0) = .int 0 from rfl) hK hP hD hS hlocks dX5_addWish_42
def fX3_draw (K : Nat) (x1 : Int32) (x2 : Int32) (x3 : Int32) (T_draft_guests : Int32) (T_draft_wishes : Int32) (T_draft_start : Int32) (T_draft_wishNames : (Nat → Int32)) (T_draft_wishKind : (Nat → Int32)) (T_draft_wishA : (Nat → Int32)) (T_draft_wishB : (Nat → Int32)) (T_draft_guestKind : (Nat → Int32)) (T_draft_guestFloor : (Nat → Int32)) : Option (Int32 × Int32 × Int32 × Int32 × (Nat → Int32) × (Nat → Int32) × (Nat → Int32) × (Nat → Int32) × (Nat → Int32) × (Nat → Int32)) :=
    if (x1 : Int32) = 97 then (
    bd6 (fX5_addWish K 1 x2 x3 T_draft_guests T_draft_wishes T_draft_wishNames T_draft_wishKind T_draft_wishA T_draft_wishB) fun r T_draft_wishes_1 T_draft_wishNames_1 T_draft_wishKind_1 T_draft_wishA_1 T_draft_wishB_1 =>
    gd (vp_nar .boolean r = r) (
    some (r, T_draft_guests, T_draft_wishes_1, T_draft_start, T_draft_wishNames_1, T_draft_wishKind_1, T_draft_wishA_1, T_draft_wishB_1, T_draft_guestKind, T_draft_guestFloor)))
    else (
    if (x1 : Int32) = 98 then (
    bd6 (fX5_addWish K 0 x2 x3 T_draft_guests T_draft_wishes T_draft_wishNames T_draft_wishKind T_draft_wishA T_draft_wishB) fun r_1 T_draft_wishes_2 T_draft_wishNames_2 T_draft_wishKind_2 T_draft_wishA_2 T_draft_wishB_2 =>
    gd (vp_nar .boolean r_1 = r_1) (
    some (r_1, T_draft_guests, T_draft_wishes_2, T_draft_start, T_draft_wishNames_2, T_draft_wishKind_2, T_draft_wishA_2, T_draft_wishB_2, T_draft_guestKind, T_draft_guestFloor)))
    else (
    if (x1 : Int32) = 102 then (
    bd6 (fX5_addWish K 2 x2 (-4) T_draft_guests T_draft_wishes T_draft_wishNames T_draft_wishKind T_draft_wishA T_draft_wishB) fun r_2 T_draft_wishes_3 T_draft_wishNames_3 T_draft_wishKind_3 T_draft_wishA_3 T_draft_wishB_3 =>
    gd (vp_nar .boolean r_2 = r_2) (
    some (r_2, T_draft_guests, T_draft_wishes_3, T_draft_start, T_draft_wishNames_3, T_draft_wishKind_3, T_draft_wishA_3, T_draft_wishB_3, T_draft_guestKind, T_draft_guestFloor)))
    else (
    if (x1 : Int32) = 103 then (
    bd4 (fX5_addGuest K x2 x3 T_draft_guests T_draft_guestKind T_draft_guestFloor) fun r_3 T_draft_guests_1 T_draft_guestKind_1 T_draft_guestFloor_1 =>
    gd (vp_nar .boolean r_3 = r_3) (
    some (r_3, T_draft_guests_1, T_draft_wishes, T_draft_start, T_draft_wishNames, T_draft_wishKind, T_draft_wishA, T_draft_wishB, T_draft_guestKind_1, T_draft_guestFloor_1)))
    else (
    if (x1 : Int32) = 110 then (
    bd6 (fX5_addWish K 3 x2 x3 T_draft_guests T_draft_wishes T_draft_wishNames T_draft_wishKind T_draft_wishA T_draft_wishB) fun r_4 T_draft_wishes_4 T_draft_wishNames_4 T_draft_wishKind_4 T_draft_wishA_4 T_draft_wishB_4 =>
    gd (vp_nar .boolean r_4 = r_4) (
    some (r_4, T_draft_guests, T_draft_wishes_4, T_draft_start, T_draft_wishNames_4, T_draft_wishKind_4, T_draft_wishA_4, T_draft_wishB_4, T_draft_guestKind, T_draft_guestFloor)))
    else (
    if (x1 : Int32) = 115 then (
    some (1, T_draft_guests, T_draft_wishes, x2, T_draft_wishNames, T_draft_wishKind, T_draft_wishA, T_draft_wishB, T_draft_guestKind, T_draft_guestFloor))
    else (
    if (x1 : Int32) = 117 then (
    bd6 (fX5_addWish K 4 x2 x3 T_draft_guests T_draft_wishes T_draft_wishNames T_draft_wishKind T_draft_wishA T_draft_wishB) fun r_5 T_draft_wishes_5 T_draft_wishNames_5 T_draft_wishKind_5 T_draft_wishA_5 T_draft_wishB_5 =>
    gd (vp_nar .boolean r_5 = r_5) (
    some (r_5, T_draft_guests, T_draft_wishes_5, T_draft_start, T_draft_wishNames_5, T_draft_wishKind_5, T_draft_wishA_5, T_draft_wishB_5, T_draft_guestKind, T_draft_guestFloor)))
    else (
    some (0, T_draft_guests, T_draft_wishes, T_draft_start, T_draft_wishNames, T_draft_wishKind, T_draft_wishA, T_draft_wishB, T_draft_guestKind, T_draft_guestFloor))))))))
theorem mbX3_draw_0 : Cond.fieldLink RX3 15 "BootsAtDawn$Reader" "draft" "LBootsAtDawn$Slate;" ∈ wsX3_draw := List.mem_of_getElem? (i := 1) rfl
theorem inX3_draw_X3 : ∀ w ∈ u_ws RX3 TX3 3, w ∈ wsX3_draw := fun _ h => (List.mem_cons_of_mem _ (List.mem_append_left _ (List.mem_append_right _ h)))
theorem mbX3_draw_2 : Cond.initialized RX5 ∈ wsX3_draw := List.mem_of_getElem? (i := 3) rfl
theorem mbX3_draw_3 : Cond.instanceMethod yX5_addWish ∈ wsX3_draw := List.mem_of_getElem? (i := 12) rfl
theorem mbX3_draw_4 : Cond.selects RX5 yX5_addWish yX5_addWish ∈ wsX3_draw := List.mem_of_getElem? (i := 13) rfl
theorem mbX3_draw_5 : Cond.instanceMethod yX5_addGuest ∈ wsX3_draw := List.mem_of_getElem? (i := 2) rfl
theorem mbX3_draw_6 : Cond.selects RX5 yX5_addGuest yX5_addGuest ∈ wsX3_draw := List.mem_of_getElem? (i := 4) rfl
theorem inX3_draw_X5 : ∀ w ∈ u_ws RX5 TX5 9, w ∈ wsX3_draw := fun _ h => (List.mem_cons_of_mem _ (List.mem_append_right _ h))
abbrev rmX3_draw : Room := { frames := 2, cells := 0, slots := 0, locals := 46 }
set_option maxHeartbeats 8000000 in
set_option maxRecDepth 100000 in
theorem kX3_draw (l : Launch) (dC : Nat → ClassId) (dI : Nat → Nat → Nat) (cC cI cJ : ClassId) (sz : Nat) (K : Nat) (a_T a_T_text a_T_draft a_T_draft_guestKind a_T_draft_guestFloor a_T_draft_wishKind a_T_draft_wishA a_T_draft_wishB a_T_draft_wishNames : Nat) (x1 : Int32) (x2 : Int32) (x3 : Int32) (T_next : Int32) (T_draft_guests : Int32) (T_draft_wishes : Int32) (T_draft_start : Int32) (T_draft_wishNames : (Nat → Int32)) (T_draft_wishKind : (Nat → Int32)) (T_draft_wishA : (Nat → Int32)) (T_draft_wishB : (Nat → Int32)) (T_draft_guestKind : (Nat → Int32)) (T_draft_guestFloor : (Nat → Int32)) (R : Int32 × Int32 × Int32 × Int32 × (Nat → Int32) × (Nat → Int32) × (Nat → Int32) × (Nat → Int32) × (Nat → Int32) × (Nat → Int32)) (hr : fX3_draw K x1 x2 x3 T_draft_guests T_draft_wishes T_draft_start T_draft_wishNames T_draft_wishKind T_draft_wishA T_draft_wishB T_draft_guestKind T_draft_guestFloor = some R) : Met l yX3_draw wsX3_draw rmX3_draw (va_Pc ([.ref a_T, .int x1, .int x2, .int x3] : List Value) (PcW (dC, dI) (tysA cC cI cJ) sz [(a_T, .inr (3, [.ref a_T_text, .ref a_T_draft, .int T_next])), (a_T_draft, .inr (5, [.ref a_T_draft_guestKind, .ref a_T_draft_guestFloor, .ref a_T_draft_wishKind, .ref a_T_draft_wishA, .ref a_T_draft_wishB, .ref a_T_draft_wishNames, .int T_draft_guests, .int T_draft_wishes, .int T_draft_start])), (a_T_draft_wishNames, .inl (cI, 9, .inl T_draft_wishNames)), (a_T_draft_wishKind, .inl (cI, 9, .inl T_draft_wishKind)), (a_T_draft_wishA, .inl (cI, 9, .inl T_draft_wishA)), (a_T_draft_wishB, .inl (cI, 9, .inl T_draft_wishB)), (a_T_draft_guestKind, .inl (cI, 6, .inl T_draft_guestKind)), (a_T_draft_guestFloor, .inl (cI, 6, .inl T_draft_guestFloor))])) (va_Qi (fun r (_ : Unit) => r = R.1) (fun _ => BW (dC, dI) (tysA cC cI cJ) (va_A [(a_T, .inr (3, [.ref a_T_text, .ref a_T_draft, .int T_next])), (a_T_draft, .inr (5, [.ref a_T_draft_guestKind, .ref a_T_draft_guestFloor, .ref a_T_draft_wishKind, .ref a_T_draft_wishA, .ref a_T_draft_wishB, .ref a_T_draft_wishNames, .int T_draft_guests, .int T_draft_wishes, .int T_draft_start])), (a_T_draft_wishNames, .inl (cI, 9, .inl T_draft_wishNames)), (a_T_draft_wishKind, .inl (cI, 9, .inl T_draft_wishKind)), (a_T_draft_wishA, .inl (cI, 9, .inl T_draft_wishA)), (a_T_draft_wishB, .inl (cI, 9, .inl T_draft_wishB)), (a_T_draft_guestKind, .inl (cI, 6, .inl T_draft_guestKind)), (a_T_draft_guestFloor, .inl (cI, 6, .inl T_draft_guestFloor))] sz) [(a_T, .inr (3, [.ref a_T_text, .ref a_T_draft, .int T_next])), (a_T_draft, .inr (5, [.ref a_T_draft_guestKind, .ref a_T_draft_guestFloor, .ref a_T_draft_wishKind, .ref a_T_draft_wishA, .ref a_T_draft_wishB, .ref a_T_draft_wishNames, .int R.2.1, .int R.2.2.1, .int R.2.2.2.1])), (a_T_draft_wishNames, .inl (cI, 9, .inl R.2.2.2.2.1)), (a_T_draft_wishKind, .inl (cI, 9, .inl R.2.2.2.2.2.1)), (a_T_draft_wishA, .inl (cI, 9, .inl R.2.2.2.2.2.2.1)), (a_T_draft_wishB, .inl (cI, 9, .inl R.2.2.2.2.2.2.2.1)), (a_T_draft_guestKind, .inl (cI, 6, .inl R.2.2.2.2.2.2.2.2.1)), (a_T_draft_guestFloor, .inl (cI, 6, .inl R.2.2.2.2.2.2.2.2.2))]) (va_A [(a_T, .inr (3, [.ref a_T_text, .ref a_T_draft, .int T_next])), (a_T_draft, .inr (5, [.ref a_T_draft_guestKind, .ref a_T_draft_guestFloor, .ref a_T_draft_wishKind, .ref a_T_draft_wishA, .ref a_T_draft_wishB, .ref a_T_draft_wishNames, .int T_draft_guests, .int T_draft_wishes, .int T_draft_start])), (a_T_draft_wishNames, .inl (cI, 9, .inl T_draft_wishNames)), (a_T_draft_wishKind, .inl (cI, 9, .inl T_draft_wishKind)), (a_T_draft_wishA, .inl (cI, 9, .inl T_draft_wishA)), (a_T_draft_wishB, .inl (cI, 9, .inl T_draft_wishB)), (a_T_draft_guestKind, .inl (cI, 6, .inl T_draft_guestKind)), (a_T_draft_guestFloor, .inl (cI, 6, .inl T_draft_guestFloor))] sz)) 0 0 (va_A [(a_T, .inr (3, [.ref a_T_text, .ref a_T_draft, .int T_next])), (a_T_draft, .inr (5, [.ref a_T_draft_guestKind, .ref a_T_draft_guestFloor, .ref a_T_draft_wishKind, .ref a_T_draft_wishA, .ref a_T_draft_wishB, .ref a_T_draft_wishNames, .int T_draft_guests, .int T_draft_wishes, .int T_draft_start])), (a_T_draft_wishNames, .inl (cI, 9, .inl T_draft_wishNames)), (a_T_draft_wishKind, .inl (cI, 9, .inl T_draft_wishKind)), (a_T_draft_wishA, .inl (cI, 9, .inl T_draft_wishA)), (a_T_draft_wishB, .inl (cI, 9, .inl T_draft_wishB)), (a_T_draft_guestKind, .inl (cI, 6, .inl T_draft_guestKind)), (a_T_draft_guestFloor, .inl (cI, 6, .inl T_draft_guestFloor))] sz) := by
  refine Met.ofW (cc := cX3_draw) (maxL := 4) (ret := (some .boolean)) (by decide) rfl ?_
  intro p e s m args below meth c s₁ B hml hv
  obtain ⟨rfl, hsz, hP, hK, hD0, hN⟩ := hv
  have hx := B.exec
  have hb := B.bytes
  have hrt := B.returns
  have hts := atoms_spec (ws := wsX3_draw) B.pre
  have hown : s.vm.findClass RX3 = some m.cls := findClass_of_methodNamed B.named
  have hlocks := B.notSynchronized
  subst hsz
  have hD := hD0.self (sz := s.heap.size)
  generalize hAe : va_A [(a_T, .inr (3, [.ref a_T_text, .ref a_T_draft, .int T_next])), (a_T_draft, .inr (5, [.ref a_T_draft_guestKind, .ref a_T_draft_guestFloor, .ref a_T_draft_wishKind, .ref a_T_draft_wishA, .ref a_T_draft_wishB, .ref a_T_draft_wishNames, .int T_draft_guests, .int T_draft_wishes, .int T_draft_start])), (a_T_draft_wishNames, .inl (cI, 9, .inl T_draft_wishNames)), (a_T_draft_wishKind, .inl (cI, 9, .inl T_draft_wishKind)), (a_T_draft_wishA, .inl (cI, 9, .inl T_draft_wishA)), (a_T_draft_wishB, .inl (cI, 9, .inl T_draft_wishB)), (a_T_draft_guestKind, .inl (cI, 6, .inl T_draft_guestKind)), (a_T_draft_guestFloor, .inl (cI, 6, .inl T_draft_guestFloor))] s.heap.size = A at hD ⊢
  have hA : ∀ q : Nat, s.heap.size ≤ q → A q := fun q h => by rw [← hAe]; exact Or.inr h
  have hS : va_S A s.heap s.heap [] := va_S.rf
  have hl := lv_entry ([.ref a_T, .int x1, .int x2, .int x3] : List Value) (n := 4) (Nat.le_of_ble_eq_true rfl)
  rw [lg_entry_eq]
  generalize (lg_sl ([.ref a_T, .int x1, .int x2, .int x3] : List Value) ++ List.replicate (4 - (lg_sl ([.ref a_T, .int x1, .int x2, .int x3] : List Value)).length) Slot.unset).toArray = ls at hl ⊢
  replace hl : lv_has ls 4 [(0, .ref a_T), (1, .int x1), (2, .int x2), (3, .int x3)] := hl
  obtain ⟨Q, hQ⟩ : ∃ Q, Q = MQ below (va_Qi (fun r (_ : Unit) => r = R.1) (fun _ => BW (dC, dI) (tysA cC cI cJ) A [(a_T, .inr (3, [.ref a_T_text, .ref a_T_draft, .int T_next])), (a_T_draft, .inr (5, [.ref a_T_draft_guestKind, .ref a_T_draft_guestFloor, .ref a_T_draft_wishKind, .ref a_T_draft_wishA, .ref a_T_draft_wishB, .ref a_T_draft_wishNames, .int R.2.1, .int R.2.2.1, .int R.2.2.2.1])), (a_T_draft_wishNames, .inl (cI, 9, .inl R.2.2.2.2.1)), (a_T_draft_wishKind, .inl (cI, 9, .inl R.2.2.2.2.2.1)), (a_T_draft_wishA, .inl (cI, 9, .inl R.2.2.2.2.2.2.1)), (a_T_draft_wishB, .inl (cI, 9, .inl R.2.2.2.2.2.2.2.1)), (a_T_draft_guestKind, .inl (cI, 6, .inl R.2.2.2.2.2.2.2.2.1)), (a_T_draft_guestFloor, .inl (cI, 6, .inl R.2.2.2.2.2.2.2.2.2))]) A) ([.ref a_T, .int x1, .int x2, .int x3] : List Value).toArray s 0 0 A := ⟨_, rfl⟩
  rw [← hQ]
  suffices hE : WG p l e rmX3_draw s m ([.ref a_T, .int x1, .int x2, .int x3] : List Value).toArray below meth c 0 0 Q (dC, dI) A 0 4 [(a_T, .inr (3, [.ref a_T_text, .ref a_T_draft, .int T_next])), (a_T_draft, .inr (5, [.ref a_T_draft_guestKind, .ref a_T_draft_guestFloor, .ref a_T_draft_wishKind, .ref a_T_draft_wishA, .ref a_T_draft_wishB, .ref a_T_draft_wishNames, .int T_draft_guests, .int T_draft_wishes, .int T_draft_start])), (a_T_draft_wishNames, .inl (cI, 9, .inl T_draft_wishNames)), (a_T_draft_wishKind, .inl (cI, 9, .inl T_draft_wishKind)), (a_T_draft_wishA, .inl (cI, 9, .inl T_draft_wishA)), (a_T_draft_wishB, .inl (cI, 9, .inl T_draft_wishB)), (a_T_draft_guestKind, .inl (cI, 6, .inl T_draft_guestKind)), (a_T_draft_guestFloor, .inl (cI, 6, .inl T_draft_guestFloor))] [(0, .ref a_T), (1, .int x1), (2, .int x2), (3, .int x3)] [] from hE _ _ _ hP hD hS hl
  clear hP hD hS hl hD0 hAe
  intro H locs ls hP hD hS hl
  unfold fX3_draw at hr
  refine lv_iload_n hx hb dX3_draw_0 rfl (lv_at hl 1 rfl) ?_
  by_cases c1 : (x1 : Int32) = 97
  · replace hr := it_t hr c1
    refine lv_tableIn (tgt := 121) (off := 120) hx hb dX3_draw_1 (by rw [c1]; decide) (by rw [c1]; decide) (by rw [c1]; rfl) (by decide) ?_
    refine lv_aload_n hx hb dX3_draw_121 rfl (lv_at hl 0 rfl) ?_
    refine va_get (D := (dC, dI)) (ci := 3) (v := .ref a_T_draft) (C := RX3) (T := TX3) (N := 3) hx hb hts inX3_draw_X3 hown hK hP 0 rfl rfl 1 (by decide) (hts _ mbX3_draw_0) (fun _ h9 => h9) rfl dX3_draw_122 ?_
    refine lv_iconst (v := 1) hx hb dX3_draw_125 (by decide) ?_
    refine lv_iload_n hx hb dX3_draw_126 rfl (lv_at hl 2 rfl) ?_
    refine lv_iload_n hx hb dX3_draw_127 rfl (lv_at hl 3 rfl) ?_
    obtain ⟨r, T_draft_wishes_1, T_draft_wishNames_1, T_draft_wishKind_1, T_draft_wishA_1, T_draft_wishB_1, hc1, hr⟩ := bd6_some hr
    refine call_i (D := (dC, dI)) (tys := tysA cC cI cJ) (wc := [(a_T_draft, .inr (5, [.ref a_T_draft_guestKind, .ref a_T_draft_guestFloor, .ref a_T_draft_wishKind, .ref a_T_draft_wishA, .ref a_T_draft_wishB, .ref a_T_draft_wishNames, .int T_draft_guests, .int T_draft_wishes, .int T_draft_start])), (a_T_draft_wishNames, .inl (cI, 9, .inl T_draft_wishNames)), (a_T_draft_wishKind, .inl (cI, 9, .inl T_draft_wishKind)), (a_T_draft_wishA, .inl (cI, 9, .inl T_draft_wishA)), (a_T_draft_wishB, .inl (cI, 9, .inl T_draft_wishB))]) (wr := [(a_T, .inr (3, [.ref a_T_text, .ref a_T_draft, .int T_next])), (a_T_draft_guestKind, .inl (cI, 6, .inl T_draft_guestKind)), (a_T_draft_guestFloor, .inl (cI, 6, .inl T_draft_guestFloor))]) (w1 := [(a_T_draft, .inr (5, [.ref a_T_draft_guestKind, .ref a_T_draft_guestFloor, .ref a_T_draft_wishKind, .ref a_T_draft_wishA, .ref a_T_draft_wishB, .ref a_T_draft_wishNames, .int T_draft_guests, .int T_draft_wishes_1, .int T_draft_start])), (a_T_draft_wishNames, .inl (cI, 9, .inl T_draft_wishNames_1)), (a_T_draft_wishKind, .inl (cI, 9, .inl T_draft_wishKind_1)), (a_T_draft_wishA, .inl (cI, 9, .inl T_draft_wishA_1)), (a_T_draft_wishB, .inl (cI, 9, .inl T_draft_wishB_1))]) (wn := [(a_T, .inr (3, [.ref a_T_text, .ref a_T_draft, .int T_next])), (a_T_draft, .inr (5, [.ref a_T_draft_guestKind, .ref a_T_draft_guestFloor, .ref a_T_draft_wishKind, .ref a_T_draft_wishA, .ref a_T_draft_wishB, .ref a_T_draft_wishNames, .int T_draft_guests, .int T_draft_wishes_1, .int T_draft_start])), (a_T_draft_wishNames, .inl (cI, 9, .inl T_draft_wishNames_1)), (a_T_draft_wishKind, .inl (cI, 9, .inl T_draft_wishKind_1)), (a_T_draft_wishA, .inl (cI, 9, .inl T_draft_wishA_1)), (a_T_draft_wishB, .inl (cI, 9, .inl T_draft_wishB_1)), (a_T_draft_guestKind, .inl (cI, 6, .inl T_draft_guestKind)), (a_T_draft_guestFloor, .inl (cI, 6, .inl T_draft_guestFloor))]) (r0 := r) hP hD hS hA [1, 2, 3, 4, 5] [0, 6, 7] [0, 3, 4, 5, 6, 7, 1, 2] rfl rfl (by decide +kernel) (by decide +kernel) rfl (by decide +kernel) (va_runVN (C := RX5) (host := "BootsAtDawn") (As := [.int 1, .int x2, .int x3]) (rest := []) ⟨hx, hb, hml, hown, hts⟩ (kX5_addWish l dC dI cC cI cJ H.size K a_T_draft a_T_draft_guestKind a_T_draft_guestFloor a_T_draft_wishKind a_T_draft_wishA a_T_draft_wishB a_T_draft_wishNames 1 x2 x3 T_draft_guests T_draft_wishes T_draft_start T_draft_wishNames T_draft_wishKind T_draft_wishA T_draft_wishB (r, T_draft_wishes_1, T_draft_wishNames_1, T_draft_wishKind_1, T_draft_wishA_1, T_draft_wishB_1) hc1) ⟨va_cnB 3 hts gX3_draw_X5_addWish_n61 rfl rfl rfl (hN _ nw_58) (hts _ mbX3_draw_2) (by decide +kernel) ⟨Nat.le_of_ble_eq_true rfl, Nat.le_of_ble_eq_true rfl⟩, (hts _ mbX3_draw_3), (hts _ mbX3_draw_4)⟩ ⟨fbW, va_recv hK hP (ci := 5) (q0 := 1) rfl rfl, preW hP hD hK hN [1, 2, 3, 4, 5] rfl (by decide +kernel)⟩ rfl rfl hl.1 rfl (lv_room (Nat.le_of_ble_eq_true rfl)) dX3_draw_128 ⟨Nat.zero_le _, Nat.zero_le _⟩) (fun H locs hP hD hS => ?_)
    obtain ⟨g1, hr⟩ := gd_some hr
    have he := Option.some.inj hr
    subst he
    subst hQ
    exact ret_z hx hb hrt (vp_narZ g1) hK hP hD hS hlocks dX3_draw_131
  · replace hr := it_f hr c1
    by_cases c2 : (x1 : Int32) = 98
    · replace hr := it_t hr c2
      refine lv_tableIn (tgt := 110) (off := 109) hx hb dX3_draw_1 (by rw [c2]; decide) (by rw [c2]; decide) (by rw [c2]; rfl) (by decide) ?_
      refine lv_aload_n hx hb dX3_draw_110 rfl (lv_at hl 0 rfl) ?_
      refine va_get (D := (dC, dI)) (ci := 3) (v := .ref a_T_draft) (C := RX3) (T := TX3) (N := 3) hx hb hts inX3_draw_X3 hown hK hP 0 rfl rfl 1 (by decide) (hts _ mbX3_draw_0) (fun _ h9 => h9) rfl dX3_draw_111 ?_
      refine lv_iconst (v := 0) hx hb dX3_draw_114 (by decide) ?_
      refine lv_iload_n hx hb dX3_draw_115 rfl (lv_at hl 2 rfl) ?_
      refine lv_iload_n hx hb dX3_draw_116 rfl (lv_at hl 3 rfl) ?_
      obtain ⟨r_1, T_draft_wishes_2, T_draft_wishNames_2, T_draft_wishKind_2, T_draft_wishA_2, T_draft_wishB_2, hc2, hr⟩ := bd6_some hr
      refine call_i (D := (dC, dI)) (tys := tysA cC cI cJ) (wc := [(a_T_draft, .inr (5, [.ref a_T_draft_guestKind, .ref a_T_draft_guestFloor, .ref a_T_draft_wishKind, .ref a_T_draft_wishA, .ref a_T_draft_wishB, .ref a_T_draft_wishNames, .int T_draft_guests, .int T_draft_wishes, .int T_draft_start])), (a_T_draft_wishNames, .inl (cI, 9, .inl T_draft_wishNames)), (a_T_draft_wishKind, .inl (cI, 9, .inl T_draft_wishKind)), (a_T_draft_wishA, .inl (cI, 9, .inl T_draft_wishA)), (a_T_draft_wishB, .inl (cI, 9, .inl T_draft_wishB))]) (wr := [(a_T, .inr (3, [.ref a_T_text, .ref a_T_draft, .int T_next])), (a_T_draft_guestKind, .inl (cI, 6, .inl T_draft_guestKind)), (a_T_draft_guestFloor, .inl (cI, 6, .inl T_draft_guestFloor))]) (w1 := [(a_T_draft, .inr (5, [.ref a_T_draft_guestKind, .ref a_T_draft_guestFloor, .ref a_T_draft_wishKind, .ref a_T_draft_wishA, .ref a_T_draft_wishB, .ref a_T_draft_wishNames, .int T_draft_guests, .int T_draft_wishes_2, .int T_draft_start])), (a_T_draft_wishNames, .inl (cI, 9, .inl T_draft_wishNames_2)), (a_T_draft_wishKind, .inl (cI, 9, .inl T_draft_wishKind_2)), (a_T_draft_wishA, .inl (cI, 9, .inl T_draft_wishA_2)), (a_T_draft_wishB, .inl (cI, 9, .inl T_draft_wishB_2))]) (wn := [(a_T, .inr (3, [.ref a_T_text, .ref a_T_draft, .int T_next])), (a_T_draft, .inr (5, [.ref a_T_draft_guestKind, .ref a_T_draft_guestFloor, .ref a_T_draft_wishKind, .ref a_T_draft_wishA, .ref a_T_draft_wishB, .ref a_T_draft_wishNames, .int T_draft_guests, .int T_draft_wishes_2, .int T_draft_start])), (a_T_draft_wishNames, .inl (cI, 9, .inl T_draft_wishNames_2)), (a_T_draft_wishKind, .inl (cI, 9, .inl T_draft_wishKind_2)), (a_T_draft_wishA, .inl (cI, 9, .inl T_draft_wishA_2)), (a_T_draft_wishB, .inl (cI, 9, .inl T_draft_wishB_2)), (a_T_draft_guestKind, .inl (cI, 6, .inl T_draft_guestKind)), (a_T_draft_guestFloor, .inl (cI, 6, .inl T_draft_guestFloor))]) (r0 := r_1) hP hD hS hA [1, 2, 3, 4, 5] [0, 6, 7] [0, 3, 4, 5, 6, 7, 1, 2] rfl rfl (by decide +kernel) (by decide +kernel) rfl (by decide +kernel) (va_runVN (C := RX5) (host := "BootsAtDawn") (As := [.int 0, .int x2, .int x3]) (rest := []) ⟨hx, hb, hml, hown, hts⟩ (kX5_addWish l dC dI cC cI cJ H.size K a_T_draft a_T_draft_guestKind a_T_draft_guestFloor a_T_draft_wishKind a_T_draft_wishA a_T_draft_wishB a_T_draft_wishNames 0 x2 x3 T_draft_guests T_draft_wishes T_draft_start T_draft_wishNames T_draft_wishKind T_draft_wishA T_draft_wishB (r_1, T_draft_wishes_2, T_draft_wishNames_2, T_draft_wishKind_2, T_draft_wishA_2, T_draft_wishB_2) hc2) ⟨va_cnB 3 hts gX3_draw_X5_addWish_n61 rfl rfl rfl (hN _ nw_58) (hts _ mbX3_draw_2) (by decide +kernel) ⟨Nat.le_of_ble_eq_true rfl, Nat.le_of_ble_eq_true rfl⟩, (hts _ mbX3_draw_3), (hts _ mbX3_draw_4)⟩ ⟨fbW, va_recv hK hP (ci := 5) (q0 := 1) rfl rfl, preW hP hD hK hN [1, 2, 3, 4, 5] rfl (by decide +kernel)⟩ rfl rfl hl.1 rfl (lv_room (Nat.le_of_ble_eq_true rfl)) dX3_draw_117 ⟨Nat.zero_le _, Nat.zero_le _⟩) (fun H locs hP hD hS => ?_)
      obtain ⟨g2, hr⟩ := gd_some hr
      have he := Option.some.inj hr
      subst he
      subst hQ
      exact ret_z hx hb hrt (vp_narZ g2) hK hP hD hS hlocks dX3_draw_120
    · replace hr := it_f hr c2
      by_cases c3 : (x1 : Int32) = 102
      · replace hr := it_t hr c3
        refine lv_tableIn (tgt := 132) (off := 131) hx hb dX3_draw_1 (by rw [c3]; decide) (by rw [c3]; decide) (by rw [c3]; rfl) (by decide) ?_
        refine lv_aload_n hx hb dX3_draw_132 rfl (lv_at hl 0 rfl) ?_
        refine va_get (D := (dC, dI)) (ci := 3) (v := .ref a_T_draft) (C := RX3) (T := TX3) (N := 3) hx hb hts inX3_draw_X3 hown hK hP 0 rfl rfl 1 (by decide) (hts _ mbX3_draw_0) (fun _ h9 => h9) rfl dX3_draw_133 ?_
        refine lv_iconst (v := 2) hx hb dX3_draw_136 (by decide) ?_
        refine lv_iload_n hx hb dX3_draw_137 rfl (lv_at hl 2 rfl) ?_
        refine lv_bipush (v := (-4)) hx hb dX3_draw_138 (by decide) ?_
        obtain ⟨r_2, T_draft_wishes_3, T_draft_wishNames_3, T_draft_wishKind_3, T_draft_wishA_3, T_draft_wishB_3, hc3, hr⟩ := bd6_some hr
        refine call_i (D := (dC, dI)) (tys := tysA cC cI cJ) (wc := [(a_T_draft, .inr (5, [.ref a_T_draft_guestKind, .ref a_T_draft_guestFloor, .ref a_T_draft_wishKind, .ref a_T_draft_wishA, .ref a_T_draft_wishB, .ref a_T_draft_wishNames, .int T_draft_guests, .int T_draft_wishes, .int T_draft_start])), (a_T_draft_wishNames, .inl (cI, 9, .inl T_draft_wishNames)), (a_T_draft_wishKind, .inl (cI, 9, .inl T_draft_wishKind)), (a_T_draft_wishA, .inl (cI, 9, .inl T_draft_wishA)), (a_T_draft_wishB, .inl (cI, 9, .inl T_draft_wishB))]) (wr := [(a_T, .inr (3, [.ref a_T_text, .ref a_T_draft, .int T_next])), (a_T_draft_guestKind, .inl (cI, 6, .inl T_draft_guestKind)), (a_T_draft_guestFloor, .inl (cI, 6, .inl T_draft_guestFloor))]) (w1 := [(a_T_draft, .inr (5, [.ref a_T_draft_guestKind, .ref a_T_draft_guestFloor, .ref a_T_draft_wishKind, .ref a_T_draft_wishA, .ref a_T_draft_wishB, .ref a_T_draft_wishNames, .int T_draft_guests, .int T_draft_wishes_3, .int T_draft_start])), (a_T_draft_wishNames, .inl (cI, 9, .inl T_draft_wishNames_3)), (a_T_draft_wishKind, .inl (cI, 9, .inl T_draft_wishKind_3)), (a_T_draft_wishA, .inl (cI, 9, .inl T_draft_wishA_3)), (a_T_draft_wishB, .inl (cI, 9, .inl T_draft_wishB_3))]) (wn := [(a_T, .inr (3, [.ref a_T_text, .ref a_T_draft, .int T_next])), (a_T_draft, .inr (5, [.ref a_T_draft_guestKind, .ref a_T_draft_guestFloor, .ref a_T_draft_wishKind, .ref a_T_draft_wishA, .ref a_T_draft_wishB, .ref a_T_draft_wishNames, .int T_draft_guests, .int T_draft_wishes_3, .int T_draft_start])), (a_T_draft_wishNames, .inl (cI, 9, .inl T_draft_wishNames_3)), (a_T_draft_wishKind, .inl (cI, 9, .inl T_draft_wishKind_3)), (a_T_draft_wishA, .inl (cI, 9, .inl T_draft_wishA_3)), (a_T_draft_wishB, .inl (cI, 9, .inl T_draft_wishB_3)), (a_T_draft_guestKind, .inl (cI, 6, .inl T_draft_guestKind)), (a_T_draft_guestFloor, .inl (cI, 6, .inl T_draft_guestFloor))]) (r0 := r_2) hP hD hS hA [1, 2, 3, 4, 5] [0, 6, 7] [0, 3, 4, 5, 6, 7, 1, 2] rfl rfl (by decide +kernel) (by decide +kernel) rfl (by decide +kernel) (va_runVN (C := RX5) (host := "BootsAtDawn") (As := [.int 2, .int x2, .int (-4)]) (rest := []) ⟨hx, hb, hml, hown, hts⟩ (kX5_addWish l dC dI cC cI cJ H.size K a_T_draft a_T_draft_guestKind a_T_draft_guestFloor a_T_draft_wishKind a_T_draft_wishA a_T_draft_wishB a_T_draft_wishNames 2 x2 (-4) T_draft_guests T_draft_wishes T_draft_start T_draft_wishNames T_draft_wishKind T_draft_wishA T_draft_wishB (r_2, T_draft_wishes_3, T_draft_wishNames_3, T_draft_wishKind_3, T_draft_wishA_3, T_draft_wishB_3) hc3) ⟨va_cnB 3 hts gX3_draw_X5_addWish_n61 rfl rfl rfl (hN _ nw_58) (hts _ mbX3_draw_2) (by decide +kernel) ⟨Nat.le_of_ble_eq_true rfl, Nat.le_of_ble_eq_true rfl⟩, (hts _ mbX3_draw_3), (hts _ mbX3_draw_4)⟩ ⟨fbW, va_recv hK hP (ci := 5) (q0 := 1) rfl rfl, preW hP hD hK hN [1, 2, 3, 4, 5] rfl (by decide +kernel)⟩ rfl rfl hl.1 rfl (lv_room (Nat.le_of_ble_eq_true rfl)) dX3_draw_140 ⟨Nat.zero_le _, Nat.zero_le _⟩) (fun H locs hP hD hS => ?_)
        obtain ⟨g3, hr⟩ := gd_some hr
        have he := Option.some.inj hr
        subst he
        subst hQ
        exact ret_z hx hb hrt (vp_narZ g3) hK hP hD hS hlocks dX3_draw_143
      · replace hr := it_f hr c3
        by_cases c4 : (x1 : Int32) = 103
        · replace hr := it_t hr c4
          refine lv_tableIn (tgt := 100) (off := 99) hx hb dX3_draw_1 (by rw [c4]; decide) (by rw [c4]; decide) (by rw [c4]; rfl) (by decide) ?_
          refine lv_aload_n hx hb dX3_draw_100 rfl (lv_at hl 0 rfl) ?_
          refine va_get (D := (dC, dI)) (ci := 3) (v := .ref a_T_draft) (C := RX3) (T := TX3) (N := 3) hx hb hts inX3_draw_X3 hown hK hP 0 rfl rfl 1 (by decide) (hts _ mbX3_draw_0) (fun _ h9 => h9) rfl dX3_draw_101 ?_
          refine lv_iload_n hx hb dX3_draw_104 rfl (lv_at hl 2 rfl) ?_
          refine lv_iload_n hx hb dX3_draw_105 rfl (lv_at hl 3 rfl) ?_
          obtain ⟨r_3, T_draft_guests_1, T_draft_guestKind_1, T_draft_guestFloor_1, hc4, hr⟩ := bd4_some hr
          refine call_i (D := (dC, dI)) (tys := tysA cC cI cJ) (wc := [(a_T_draft, .inr (5, [.ref a_T_draft_guestKind, .ref a_T_draft_guestFloor, .ref a_T_draft_wishKind, .ref a_T_draft_wishA, .ref a_T_draft_wishB, .ref a_T_draft_wishNames, .int T_draft_guests, .int T_draft_wishes, .int T_draft_start])), (a_T_draft_guestKind, .inl (cI, 6, .inl T_draft_guestKind)), (a_T_draft_guestFloor, .inl (cI, 6, .inl T_draft_guestFloor))]) (wr := [(a_T, .inr (3, [.ref a_T_text, .ref a_T_draft, .int T_next])), (a_T_draft_wishNames, .inl (cI, 9, .inl T_draft_wishNames)), (a_T_draft_wishKind, .inl (cI, 9, .inl T_draft_wishKind)), (a_T_draft_wishA, .inl (cI, 9, .inl T_draft_wishA)), (a_T_draft_wishB, .inl (cI, 9, .inl T_draft_wishB))]) (w1 := [(a_T_draft, .inr (5, [.ref a_T_draft_guestKind, .ref a_T_draft_guestFloor, .ref a_T_draft_wishKind, .ref a_T_draft_wishA, .ref a_T_draft_wishB, .ref a_T_draft_wishNames, .int T_draft_guests_1, .int T_draft_wishes, .int T_draft_start])), (a_T_draft_guestKind, .inl (cI, 6, .inl T_draft_guestKind_1)), (a_T_draft_guestFloor, .inl (cI, 6, .inl T_draft_guestFloor_1))]) (wn := [(a_T, .inr (3, [.ref a_T_text, .ref a_T_draft, .int T_next])), (a_T_draft, .inr (5, [.ref a_T_draft_guestKind, .ref a_T_draft_guestFloor, .ref a_T_draft_wishKind, .ref a_T_draft_wishA, .ref a_T_draft_wishB, .ref a_T_draft_wishNames, .int T_draft_guests_1, .int T_draft_wishes, .int T_draft_start])), (a_T_draft_wishNames, .inl (cI, 9, .inl T_draft_wishNames)), (a_T_draft_wishKind, .inl (cI, 9, .inl T_draft_wishKind)), (a_T_draft_wishA, .inl (cI, 9, .inl T_draft_wishA)), (a_T_draft_wishB, .inl (cI, 9, .inl T_draft_wishB)), (a_T_draft_guestKind, .inl (cI, 6, .inl T_draft_guestKind_1)), (a_T_draft_guestFloor, .inl (cI, 6, .inl T_draft_guestFloor_1))]) (r0 := r_3) hP hD hS hA [1, 6, 7] [0, 2, 3, 4, 5] [0, 5, 1, 2, 3, 4, 6, 7] rfl rfl (by decide +kernel) (by decide +kernel) rfl (by decide +kernel) (va_runVN (C := RX5) (host := "BootsAtDawn") (As := [.int x2, .int x3]) (rest := []) ⟨hx, hb, hml, hown, hts⟩ (kX5_addGuest l dC dI cC cI cJ H.size K a_T_draft a_T_draft_guestKind a_T_draft_guestFloor a_T_draft_wishKind a_T_draft_wishA a_T_draft_wishB a_T_draft_wishNames x2 x3 T_draft_guests T_draft_wishes T_draft_start T_draft_guestKind T_draft_guestFloor (r_3, T_draft_guests_1, T_draft_guestKind_1, T_draft_guestFloor_1) hc4) ⟨va_cnB 2 hts gX3_draw_X5_addGuest_n57 rfl rfl rfl (hN _ nw_56) (hts _ mbX3_draw_2) (by decide +kernel) ⟨Nat.le_of_ble_eq_true rfl, Nat.le_of_ble_eq_true rfl⟩, (hts _ mbX3_draw_5), (hts _ mbX3_draw_6)⟩ ⟨fbW, va_recv hK hP (ci := 5) (q0 := 1) rfl rfl, preW hP hD hK hN [1, 6, 7] rfl (by decide +kernel)⟩ rfl rfl hl.1 rfl (lv_room (Nat.le_of_ble_eq_true rfl)) dX3_draw_106 ⟨Nat.zero_le _, Nat.zero_le _⟩) (fun H locs hP hD hS => ?_)
          obtain ⟨g4, hr⟩ := gd_some hr
          have he := Option.some.inj hr
          subst he
          subst hQ
          exact ret_z hx hb hrt (vp_narZ g4) hK hP hD hS hlocks dX3_draw_109
        · replace hr := it_f hr c4
          by_cases c5 : (x1 : Int32) = 110
          · replace hr := it_t hr c5
            refine lv_tableIn (tgt := 144) (off := 143) hx hb dX3_draw_1 (by rw [c5]; decide) (by rw [c5]; decide) (by rw [c5]; rfl) (by decide) ?_
            refine lv_aload_n hx hb dX3_draw_144 rfl (lv_at hl 0 rfl) ?_
            refine va_get (D := (dC, dI)) (ci := 3) (v := .ref a_T_draft) (C := RX3) (T := TX3) (N := 3) hx hb hts inX3_draw_X3 hown hK hP 0 rfl rfl 1 (by decide) (hts _ mbX3_draw_0) (fun _ h9 => h9) rfl dX3_draw_145 ?_
            refine lv_iconst (v := 3) hx hb dX3_draw_148 (by decide) ?_
            refine lv_iload_n hx hb dX3_draw_149 rfl (lv_at hl 2 rfl) ?_
            refine lv_iload_n hx hb dX3_draw_150 rfl (lv_at hl 3 rfl) ?_
            obtain ⟨r_4, T_draft_wishes_4, T_draft_wishNames_4, T_draft_wishKind_4, T_draft_wishA_4, T_draft_wishB_4, hc5, hr⟩ := bd6_some hr
            refine call_i (D := (dC, dI)) (tys := tysA cC cI cJ) (wc := [(a_T_draft, .inr (5, [.ref a_T_draft_guestKind, .ref a_T_draft_guestFloor, .ref a_T_draft_wishKind, .ref a_T_draft_wishA, .ref a_T_draft_wishB, .ref a_T_draft_wishNames, .int T_draft_guests, .int T_draft_wishes, .int T_draft_start])), (a_T_draft_wishNames, .inl (cI, 9, .inl T_draft_wishNames)), (a_T_draft_wishKind, .inl (cI, 9, .inl T_draft_wishKind)), (a_T_draft_wishA, .inl (cI, 9, .inl T_draft_wishA)), (a_T_draft_wishB, .inl (cI, 9, .inl T_draft_wishB))]) (wr := [(a_T, .inr (3, [.ref a_T_text, .ref a_T_draft, .int T_next])), (a_T_draft_guestKind, .inl (cI, 6, .inl T_draft_guestKind)), (a_T_draft_guestFloor, .inl (cI, 6, .inl T_draft_guestFloor))]) (w1 := [(a_T_draft, .inr (5, [.ref a_T_draft_guestKind, .ref a_T_draft_guestFloor, .ref a_T_draft_wishKind, .ref a_T_draft_wishA, .ref a_T_draft_wishB, .ref a_T_draft_wishNames, .int T_draft_guests, .int T_draft_wishes_4, .int T_draft_start])), (a_T_draft_wishNames, .inl (cI, 9, .inl T_draft_wishNames_4)), (a_T_draft_wishKind, .inl (cI, 9, .inl T_draft_wishKind_4)), (a_T_draft_wishA, .inl (cI, 9, .inl T_draft_wishA_4)), (a_T_draft_wishB, .inl (cI, 9, .inl T_draft_wishB_4))]) (wn := [(a_T, .inr (3, [.ref a_T_text, .ref a_T_draft, .int T_next])), (a_T_draft, .inr (5, [.ref a_T_draft_guestKind, .ref a_T_draft_guestFloor, .ref a_T_draft_wishKind, .ref a_T_draft_wishA, .ref a_T_draft_wishB, .ref a_T_draft_wishNames, .int T_draft_guests, .int T_draft_wishes_4, .int T_draft_start])), (a_T_draft_wishNames, .inl (cI, 9, .inl T_draft_wishNames_4)), (a_T_draft_wishKind, .inl (cI, 9, .inl T_draft_wishKind_4)), (a_T_draft_wishA, .inl (cI, 9, .inl T_draft_wishA_4)), (a_T_draft_wishB, .inl (cI, 9, .inl T_draft_wishB_4)), (a_T_draft_guestKind, .inl (cI, 6, .inl T_draft_guestKind)), (a_T_draft_guestFloor, .inl (cI, 6, .inl T_draft_guestFloor))]) (r0 := r_4) hP hD hS hA [1, 2, 3, 4, 5] [0, 6, 7] [0, 3, 4, 5, 6, 7, 1, 2] rfl rfl (by decide +kernel) (by decide +kernel) rfl (by decide +kernel) (va_runVN (C := RX5) (host := "BootsAtDawn") (As := [.int 3, .int x2, .int x3]) (rest := []) ⟨hx, hb, hml, hown, hts⟩ (kX5_addWish l dC dI cC cI cJ H.size K a_T_draft a_T_draft_guestKind a_T_draft_guestFloor a_T_draft_wishKind a_T_draft_wishA a_T_draft_wishB a_T_draft_wishNames 3 x2 x3 T_draft_guests T_draft_wishes T_draft_start T_draft_wishNames T_draft_wishKind T_draft_wishA T_draft_wishB (r_4, T_draft_wishes_4, T_draft_wishNames_4, T_draft_wishKind_4, T_draft_wishA_4, T_draft_wishB_4) hc5) ⟨va_cnB 3 hts gX3_draw_X5_addWish_n61 rfl rfl rfl (hN _ nw_58) (hts _ mbX3_draw_2) (by decide +kernel) ⟨Nat.le_of_ble_eq_true rfl, Nat.le_of_ble_eq_true rfl⟩, (hts _ mbX3_draw_3), (hts _ mbX3_draw_4)⟩ ⟨fbW, va_recv hK hP (ci := 5) (q0 := 1) rfl rfl, preW hP hD hK hN [1, 2, 3, 4, 5] rfl (by decide +kernel)⟩ rfl rfl hl.1 rfl (lv_room (Nat.le_of_ble_eq_true rfl)) dX3_draw_151 ⟨Nat.zero_le _, Nat.zero_le _⟩) (fun H locs hP hD hS => ?_)
            obtain ⟨g5, hr⟩ := gd_some hr
            have he := Option.some.inj hr
            subst he
            subst hQ
            exact ret_z hx hb hrt (vp_narZ g5) hK hP hD hS hlocks dX3_draw_154
          · replace hr := it_f hr c5
            by_cases c6 : (x1 : Int32) = 115
            · replace hr := it_t hr c6
              refine lv_tableIn (tgt := 166) (off := 165) hx hb dX3_draw_1 (by rw [c6]; decide) (by rw [c6]; decide) (by rw [c6]; rfl) (by decide) ?_
              refine lv_aload_n hx hb dX3_draw_166 rfl (lv_at hl 0 rfl) ?_
              refine va_get (D := (dC, dI)) (ci := 3) (v := .ref a_T_draft) (C := RX3) (T := TX3) (N := 3) hx hb hts inX3_draw_X3 hown hK hP 0 rfl rfl 1 (by decide) (hts _ mbX3_draw_0) (fun _ h9 => h9) rfl dX3_draw_167 ?_
              refine lv_iload_n hx hb dX3_draw_170 rfl (lv_at hl 2 rfl) ?_
              refine va_putN (D := (dC, dI)) (ci := 5) (v := .int x2) (ty := .int) (C := RX5) (T := TX5) (N := 9) hx hb hts inX3_draw_X5 tyX5 tyX5_ok nmX5 hown hK hP hD hS 1 rfl rfl 8 (by decide) (nk_use hN nw_21) (fun _ h9 => h9) rfl (by decide +kernel) rfl rfl (Nat.le_of_ble_eq_true rfl) dX3_draw_171 (fun H locs hP hD hS => ?_)
              replace hP : va_P (dC, dI) vwCl [(a_T, .inr (3, [.ref a_T_text, .ref a_T_draft, .int T_next])), (a_T_draft, .inr (5, [.ref a_T_draft_guestKind, .ref a_T_draft_guestFloor, .ref a_T_draft_wishKind, .ref a_T_draft_wishA, .ref a_T_draft_wishB, .ref a_T_draft_wishNames, .int T_draft_guests, .int T_draft_wishes, .int x2])), (a_T_draft_wishNames, .inl (cI, 9, .inl T_draft_wishNames)), (a_T_draft_wishKind, .inl (cI, 9, .inl T_draft_wishKind)), (a_T_draft_wishA, .inl (cI, 9, .inl T_draft_wishA)), (a_T_draft_wishB, .inl (cI, 9, .inl T_draft_wishB)), (a_T_draft_guestKind, .inl (cI, 6, .inl T_draft_guestKind)), (a_T_draft_guestFloor, .inl (cI, 6, .inl T_draft_guestFloor))] H := hP
              replace hD : va_D A [(a_T, .inr (3, [.ref a_T_text, .ref a_T_draft, .int T_next])), (a_T_draft, .inr (5, [.ref a_T_draft_guestKind, .ref a_T_draft_guestFloor, .ref a_T_draft_wishKind, .ref a_T_draft_wishA, .ref a_T_draft_wishB, .ref a_T_draft_wishNames, .int T_draft_guests, .int T_draft_wishes, .int x2])), (a_T_draft_wishNames, .inl (cI, 9, .inl T_draft_wishNames)), (a_T_draft_wishKind, .inl (cI, 9, .inl T_draft_wishKind)), (a_T_draft_wishA, .inl (cI, 9, .inl T_draft_wishA)), (a_T_draft_wishB, .inl (cI, 9, .inl T_draft_wishB)), (a_T_draft_guestKind, .inl (cI, 6, .inl T_draft_guestKind)), (a_T_draft_guestFloor, .inl (cI, 6, .inl T_draft_guestFloor))] := hD
              refine lv_iconst (v := 1) hx hb dX3_draw_174 (by decide) ?_
              have he := Option.some.inj hr
              subst he
              subst hQ
              exact ret_z hx hb hrt (show narrow .boolean (.int 1) = .int 1 from rfl) hK hP hD hS hlocks dX3_draw_175
            · replace hr := it_f hr c6
              by_cases c7 : (x1 : Int32) = 117
              · replace hr := it_t hr c7
                refine lv_tableIn (tgt := 155) (off := 154) hx hb dX3_draw_1 (by rw [c7]; decide) (by rw [c7]; decide) (by rw [c7]; rfl) (by decide) ?_
                refine lv_aload_n hx hb dX3_draw_155 rfl (lv_at hl 0 rfl) ?_
                refine va_get (D := (dC, dI)) (ci := 3) (v := .ref a_T_draft) (C := RX3) (T := TX3) (N := 3) hx hb hts inX3_draw_X3 hown hK hP 0 rfl rfl 1 (by decide) (hts _ mbX3_draw_0) (fun _ h9 => h9) rfl dX3_draw_156 ?_
                refine lv_iconst (v := 4) hx hb dX3_draw_159 (by decide) ?_
                refine lv_iload_n hx hb dX3_draw_160 rfl (lv_at hl 2 rfl) ?_
                refine lv_iload_n hx hb dX3_draw_161 rfl (lv_at hl 3 rfl) ?_
                obtain ⟨r_5, T_draft_wishes_5, T_draft_wishNames_5, T_draft_wishKind_5, T_draft_wishA_5, T_draft_wishB_5, hc6, hr⟩ := bd6_some hr
                refine call_i (D := (dC, dI)) (tys := tysA cC cI cJ) (wc := [(a_T_draft, .inr (5, [.ref a_T_draft_guestKind, .ref a_T_draft_guestFloor, .ref a_T_draft_wishKind, .ref a_T_draft_wishA, .ref a_T_draft_wishB, .ref a_T_draft_wishNames, .int T_draft_guests, .int T_draft_wishes, .int T_draft_start])), (a_T_draft_wishNames, .inl (cI, 9, .inl T_draft_wishNames)), (a_T_draft_wishKind, .inl (cI, 9, .inl T_draft_wishKind)), (a_T_draft_wishA, .inl (cI, 9, .inl T_draft_wishA)), (a_T_draft_wishB, .inl (cI, 9, .inl T_draft_wishB))]) (wr := [(a_T, .inr (3, [.ref a_T_text, .ref a_T_draft, .int T_next])), (a_T_draft_guestKind, .inl (cI, 6, .inl T_draft_guestKind)), (a_T_draft_guestFloor, .inl (cI, 6, .inl T_draft_guestFloor))]) (w1 := [(a_T_draft, .inr (5, [.ref a_T_draft_guestKind, .ref a_T_draft_guestFloor, .ref a_T_draft_wishKind, .ref a_T_draft_wishA, .ref a_T_draft_wishB, .ref a_T_draft_wishNames, .int T_draft_guests, .int T_draft_wishes_5, .int T_draft_start])), (a_T_draft_wishNames, .inl (cI, 9, .inl T_draft_wishNames_5)), (a_T_draft_wishKind, .inl (cI, 9, .inl T_draft_wishKind_5)), (a_T_draft_wishA, .inl (cI, 9, .inl T_draft_wishA_5)), (a_T_draft_wishB, .inl (cI, 9, .inl T_draft_wishB_5))]) (wn := [(a_T, .inr (3, [.ref a_T_text, .ref a_T_draft, .int T_next])), (a_T_draft, .inr (5, [.ref a_T_draft_guestKind, .ref a_T_draft_guestFloor, .ref a_T_draft_wishKind, .ref a_T_draft_wishA, .ref a_T_draft_wishB, .ref a_T_draft_wishNames, .int T_draft_guests, .int T_draft_wishes_5, .int T_draft_start])), (a_T_draft_wishNames, .inl (cI, 9, .inl T_draft_wishNames_5)), (a_T_draft_wishKind, .inl (cI, 9, .inl T_draft_wishKind_5)), (a_T_draft_wishA, .inl (cI, 9, .inl T_draft_wishA_5)), (a_T_draft_wishB, .inl (cI, 9, .inl T_draft_wishB_5)), (a_T_draft_guestKind, .inl (cI, 6, .inl T_draft_guestKind)), (a_T_draft_guestFloor, .inl (cI, 6, .inl T_draft_guestFloor))]) (r0 := r_5) hP hD hS hA [1, 2, 3, 4, 5] [0, 6, 7] [0, 3, 4, 5, 6, 7, 1, 2] rfl rfl (by decide +kernel) (by decide +kernel) rfl (by decide +kernel) (va_runVN (C := RX5) (host := "BootsAtDawn") (As := [.int 4, .int x2, .int x3]) (rest := []) ⟨hx, hb, hml, hown, hts⟩ (kX5_addWish l dC dI cC cI cJ H.size K a_T_draft a_T_draft_guestKind a_T_draft_guestFloor a_T_draft_wishKind a_T_draft_wishA a_T_draft_wishB a_T_draft_wishNames 4 x2 x3 T_draft_guests T_draft_wishes T_draft_start T_draft_wishNames T_draft_wishKind T_draft_wishA T_draft_wishB (r_5, T_draft_wishes_5, T_draft_wishNames_5, T_draft_wishKind_5, T_draft_wishA_5, T_draft_wishB_5) hc6) ⟨va_cnB 3 hts gX3_draw_X5_addWish_n61 rfl rfl rfl (hN _ nw_58) (hts _ mbX3_draw_2) (by decide +kernel) ⟨Nat.le_of_ble_eq_true rfl, Nat.le_of_ble_eq_true rfl⟩, (hts _ mbX3_draw_3), (hts _ mbX3_draw_4)⟩ ⟨fbW, va_recv hK hP (ci := 5) (q0 := 1) rfl rfl, preW hP hD hK hN [1, 2, 3, 4, 5] rfl (by decide +kernel)⟩ rfl rfl hl.1 rfl (lv_room (Nat.le_of_ble_eq_true rfl)) dX3_draw_162 ⟨Nat.zero_le _, Nat.zero_le _⟩) (fun H locs hP hD hS => ?_)
                obtain ⟨g6, hr⟩ := gd_some hr
                have he := Option.some.inj hr
                subst he
                subst hQ
                exact ret_z hx hb hrt (vp_narZ g6) hK hP hD hS hlocks dX3_draw_165
              · replace hr := it_f hr c7
                by_cases hcl : (x1 : Int32).toInt < 97 ∨ 117 < (x1 : Int32).toInt
                · refine lv_tableOut (tgt := 176) hx hb dX3_draw_1 hcl (by decide) ?_
                  refine lv_iconst (v := 0) hx hb dX3_draw_176 (by decide) ?_
                  have he := Option.some.inj hr
                  subst he
                  subst hQ
                  exact ret_z hx hb hrt (show narrow .boolean (.int 0) = .int 0 from rfl) hK hP hD hS hlocks dX3_draw_177
                · have h1 : ¬ (x1 : Int32).toInt < 97 := fun q => hcl (Or.inl q)
                  have h2 : ¬ 117 < (x1 : Int32).toInt := fun q => hcl (Or.inr q)
                  have k97 : (x1 : Int32).toInt ≠ 97 := ts_ne c1
                  have k98 : (x1 : Int32).toInt ≠ 98 := ts_ne c2
                  have k102 : (x1 : Int32).toInt ≠ 102 := ts_ne c3
                  have k103 : (x1 : Int32).toInt ≠ 103 := ts_ne c4
                  have k110 : (x1 : Int32).toInt ≠ 110 := ts_ne c5
                  have k115 : (x1 : Int32).toInt ≠ 115 := ts_ne c6
                  have k117 : (x1 : Int32).toInt ≠ 117 := ts_ne c7
                  refine lv_tableIn (tgt := 176) (off := 175) hx hb dX3_draw_1 h1 h2 ?_ (by decide) ?_
                  · rcases (show (x1 : Int32).toInt = 99 ∨ (x1 : Int32).toInt = 100 ∨ (x1 : Int32).toInt = 101 ∨ (x1 : Int32).toInt = 104 ∨ (x1 : Int32).toInt = 105 ∨ (x1 : Int32).toInt = 106 ∨ (x1 : Int32).toInt = 107 ∨ (x1 : Int32).toInt = 108 ∨ (x1 : Int32).toInt = 109 ∨ (x1 : Int32).toInt = 111 ∨ (x1 : Int32).toInt = 112 ∨ (x1 : Int32).toInt = 113 ∨ (x1 : Int32).toInt = 114 ∨ (x1 : Int32).toInt = 116 by omega) with hq | hq | hq | hq | hq | hq | hq | hq | hq | hq | hq | hq | hq | hq
                    · rw [hq]; rfl
                    · rw [hq]; rfl
                    · rw [hq]; rfl
                    · rw [hq]; rfl
                    · rw [hq]; rfl
                    · rw [hq]; rfl
                    · rw [hq]; rfl
                    · rw [hq]; rfl
                    · rw [hq]; rfl
                    · rw [hq]; rfl
                    · rw [hq]; rfl
                    · rw [hq]; rfl
                    · rw [hq]; rfl
                    · rw [hq]; rfl
                  · skip
                    refine lv_iconst (v := 0) hx hb dX3_draw_176 (by decide) ?_
                    have he := Option.some.inj hr
                    subst he
                    subst hQ
                    exact ret_z hx hb hrt (show narrow .boolean (.int 0) = .int 0 from rfl) hK hP hD hS hlocks dX3_draw_177
def fX3_readItem (K : Nat) (T_next : Int32) (T_text_length : Int32) (T_text_letters : (Nat → Int32)) (T_draft_guests : Int32) (T_draft_wishes : Int32) (T_draft_start : Int32) (T_draft_wishNames : (Nat → Int32)) (T_draft_wishKind : (Nat → Int32)) (T_draft_wishA : (Nat → Int32)) (T_draft_wishB : (Nat → Int32)) (T_draft_guestKind : (Nat → Int32)) (T_draft_guestFloor : (Nat → Int32)) : Option (Int32 × Int32 × Int32 × Int32 × Int32 × (Nat → Int32) × (Nat → Int32) × (Nat → Int32) × (Nat → Int32) × (Nat → Int32) × (Nat → Int32)) :=
    bd1 (fX7_letterAt K T_next T_text_length T_text_letters) fun r =>
    nm (T_next + 1) fun T_next_1 =>
    bd2 (fX3_readNumber K T_next_1 T_text_length T_text_letters) fun r_1 T_next_2 =>
    bs2 (
    if (r : Int32) = 102 then (
    some (.inr ((-4), T_next_2)))
    else (
    if (r : Int32) = 115 then (
    some (.inr ((-4), T_next_2)))
    else (
    bd2 (fX3_readSign K 44 T_next_2 T_text_length T_text_letters) fun r_2 T_next_3 =>
    if (r_2 : Int32) = 0 then (
    some (.inl (0, T_next_3, T_draft_guests, T_draft_wishes, T_draft_start, T_draft_wishNames, T_draft_wishKind, T_draft_wishA, T_draft_wishB, T_draft_guestKind, T_draft_guestFloor)))
    else (
    bd2 (fX3_readNumber K T_next_3 T_text_length T_text_letters) fun r_3 T_next_4 =>
    if 0 ≤ (r_3 : Int32) then (
    some (.inr (r_3, T_next_4)))
    else (
    some (.inl (0, T_next_4, T_draft_guests, T_draft_wishes, T_draft_start, T_draft_wishNames, T_draft_wishKind, T_draft_wishA, T_draft_wishB, T_draft_guestKind, T_draft_guestFloor))))))) fun x3 T_next_5 =>
    if (r_1 : Int32) < 0 then (
    some (0, T_next_5, T_draft_guests, T_draft_wishes, T_draft_start, T_draft_wishNames, T_draft_wishKind, T_draft_wishA, T_draft_wishB, T_draft_guestKind, T_draft_guestFloor))
    else (
    bd2 (fX3_readSign K 59 T_next_5 T_text_length T_text_letters) fun r_4 T_next_6 =>
    if (r_4 : Int32) = 0 then (
    some (0, T_next_6, T_draft_guests, T_draft_wishes, T_draft_start, T_draft_wishNames, T_draft_wishKind, T_draft_wishA, T_draft_wishB, T_draft_guestKind, T_draft_guestFloor))
    else (
    bd10 (fX3_draw K r r_1 x3 T_draft_guests T_draft_wishes T_draft_start T_draft_wishNames T_draft_wishKind T_draft_wishA T_draft_wishB T_draft_guestKind T_draft_guestFloor) fun r_5 T_draft_guests_1 T_draft_wishes_1 T_draft_start_1 T_draft_wishNames_1 T_draft_wishKind_1 T_draft_wishA_1 T_draft_wishB_1 T_draft_guestKind_1 T_draft_guestFloor_1 =>
    if (r_5 : Int32) = 0 then (
    some (0, T_next_6, T_draft_guests_1, T_draft_wishes_1, T_draft_start_1, T_draft_wishNames_1, T_draft_wishKind_1, T_draft_wishA_1, T_draft_wishB_1, T_draft_guestKind_1, T_draft_guestFloor_1))
    else (
    some (1, T_next_6, T_draft_guests_1, T_draft_wishes_1, T_draft_start_1, T_draft_wishNames_1, T_draft_wishKind_1, T_draft_wishA_1, T_draft_wishB_1, T_draft_guestKind_1, T_draft_guestFloor_1))))
theorem mbX3_readItem_0 : Cond.fieldLink RX3 9 "BootsAtDawn$Reader" "text" "LBootsAtDawn$Text;" ∈ wsX3_readItem := List.mem_of_getElem? (i := 1) rfl
theorem inX3_readItem_X3 : ∀ w ∈ u_ws RX3 TX3 3, w ∈ wsX3_readItem := fun _ h => (List.mem_cons_of_mem _ (List.mem_append_left _ (List.mem_append_left _ (List.mem_append_right _ h))))
theorem mbX3_readItem_2 : Cond.fieldLink RX3 24 "BootsAtDawn$Reader" "next" "I" ∈ wsX3_readItem := List.mem_of_getElem? (i := 2) rfl
theorem mbX3_readItem_3 : Cond.initialized RX7 ∈ wsX3_readItem := List.mem_of_getElem? (i := 4) rfl
theorem mbX3_readItem_4 : Cond.instanceMethod yX7_letterAt ∈ wsX3_readItem := List.mem_of_getElem? (i := 3) rfl
theorem mbX3_readItem_5 : Cond.selects RX7 yX7_letterAt yX7_letterAt ∈ wsX3_readItem := List.mem_of_getElem? (i := 5) rfl
abbrev rmX3_readItem : Room := { frames := 3, cells := 0, slots := 0, locals := 69 }
set_option maxHeartbeats 8000000 in
set_option maxRecDepth 100000 in
theorem kX3_readItem (l : Launch) (dC : Nat → ClassId) (dI : Nat → Nat → Nat) (cC cI cJ : ClassId) (sz : Nat) (K : Nat) (a_T a_T_text a_T_draft a_T_text_letters a_T_draft_guestKind a_T_draft_guestFloor a_T_draft_wishKind a_T_draft_wishA a_T_draft_wishB a_T_draft_wishNames : Nat) (T_next : Int32) (T_text_length : Int32) (T_text_letters : (Nat → Int32)) (T_draft_guests : Int32) (T_draft_wishes : Int32) (T_draft_start : Int32) (T_draft_wishNames : (Nat → Int32)) (T_draft_wishKind : (Nat → Int32)) (T_draft_wishA : (Nat → Int32)) (T_draft_wishB : (Nat → Int32)) (T_draft_guestKind : (Nat → Int32)) (T_draft_guestFloor : (Nat → Int32)) (R : Int32 × Int32 × Int32 × Int32 × Int32 × (Nat → Int32) × (Nat → Int32) × (Nat → Int32) × (Nat → Int32) × (Nat → Int32) × (Nat → Int32)) (hr : fX3_readItem K T_next T_text_length T_text_letters T_draft_guests T_draft_wishes T_draft_start T_draft_wishNames T_draft_wishKind T_draft_wishA T_draft_wishB T_draft_guestKind T_draft_guestFloor = some R) : Met l yX3_readItem wsX3_readItem rmX3_readItem (va_Pc ([.ref a_T] : List Value) (PcW (dC, dI) (tysA cC cI cJ) sz [(a_T, .inr (3, [.ref a_T_text, .ref a_T_draft, .int T_next])), (a_T_text, .inr (7, [.ref a_T_text_letters, .int T_text_length])), (a_T_text_letters, .inl (cC, 200, .inl T_text_letters)), (a_T_draft, .inr (5, [.ref a_T_draft_guestKind, .ref a_T_draft_guestFloor, .ref a_T_draft_wishKind, .ref a_T_draft_wishA, .ref a_T_draft_wishB, .ref a_T_draft_wishNames, .int T_draft_guests, .int T_draft_wishes, .int T_draft_start])), (a_T_draft_wishNames, .inl (cI, 9, .inl T_draft_wishNames)), (a_T_draft_wishKind, .inl (cI, 9, .inl T_draft_wishKind)), (a_T_draft_wishA, .inl (cI, 9, .inl T_draft_wishA)), (a_T_draft_wishB, .inl (cI, 9, .inl T_draft_wishB)), (a_T_draft_guestKind, .inl (cI, 6, .inl T_draft_guestKind)), (a_T_draft_guestFloor, .inl (cI, 6, .inl T_draft_guestFloor))])) (va_Qi (fun r (_ : Unit) => r = R.1) (fun _ => BW (dC, dI) (tysA cC cI cJ) (va_A [(a_T, .inr (3, [.ref a_T_text, .ref a_T_draft, .int T_next])), (a_T_text, .inr (7, [.ref a_T_text_letters, .int T_text_length])), (a_T_text_letters, .inl (cC, 200, .inl T_text_letters)), (a_T_draft, .inr (5, [.ref a_T_draft_guestKind, .ref a_T_draft_guestFloor, .ref a_T_draft_wishKind, .ref a_T_draft_wishA, .ref a_T_draft_wishB, .ref a_T_draft_wishNames, .int T_draft_guests, .int T_draft_wishes, .int T_draft_start])), (a_T_draft_wishNames, .inl (cI, 9, .inl T_draft_wishNames)), (a_T_draft_wishKind, .inl (cI, 9, .inl T_draft_wishKind)), (a_T_draft_wishA, .inl (cI, 9, .inl T_draft_wishA)), (a_T_draft_wishB, .inl (cI, 9, .inl T_draft_wishB)), (a_T_draft_guestKind, .inl (cI, 6, .inl T_draft_guestKind)), (a_T_draft_guestFloor, .inl (cI, 6, .inl T_draft_guestFloor))] sz) [(a_T, .inr (3, [.ref a_T_text, .ref a_T_draft, .int R.2.1])), (a_T_text, .inr (7, [.ref a_T_text_letters, .int T_text_length])), (a_T_text_letters, .inl (cC, 200, .inl T_text_letters)), (a_T_draft, .inr (5, [.ref a_T_draft_guestKind, .ref a_T_draft_guestFloor, .ref a_T_draft_wishKind, .ref a_T_draft_wishA, .ref a_T_draft_wishB, .ref a_T_draft_wishNames, .int R.2.2.1, .int R.2.2.2.1, .int R.2.2.2.2.1])), (a_T_draft_wishNames, .inl (cI, 9, .inl R.2.2.2.2.2.1)), (a_T_draft_wishKind, .inl (cI, 9, .inl R.2.2.2.2.2.2.1)), (a_T_draft_wishA, .inl (cI, 9, .inl R.2.2.2.2.2.2.2.1)), (a_T_draft_wishB, .inl (cI, 9, .inl R.2.2.2.2.2.2.2.2.1)), (a_T_draft_guestKind, .inl (cI, 6, .inl R.2.2.2.2.2.2.2.2.2.1)), (a_T_draft_guestFloor, .inl (cI, 6, .inl R.2.2.2.2.2.2.2.2.2.2))]) (va_A [(a_T, .inr (3, [.ref a_T_text, .ref a_T_draft, .int T_next])), (a_T_text, .inr (7, [.ref a_T_text_letters, .int T_text_length])), (a_T_text_letters, .inl (cC, 200, .inl T_text_letters)), (a_T_draft, .inr (5, [.ref a_T_draft_guestKind, .ref a_T_draft_guestFloor, .ref a_T_draft_wishKind, .ref a_T_draft_wishA, .ref a_T_draft_wishB, .ref a_T_draft_wishNames, .int T_draft_guests, .int T_draft_wishes, .int T_draft_start])), (a_T_draft_wishNames, .inl (cI, 9, .inl T_draft_wishNames)), (a_T_draft_wishKind, .inl (cI, 9, .inl T_draft_wishKind)), (a_T_draft_wishA, .inl (cI, 9, .inl T_draft_wishA)), (a_T_draft_wishB, .inl (cI, 9, .inl T_draft_wishB)), (a_T_draft_guestKind, .inl (cI, 6, .inl T_draft_guestKind)), (a_T_draft_guestFloor, .inl (cI, 6, .inl T_draft_guestFloor))] sz)) 0 0 (va_A [(a_T, .inr (3, [.ref a_T_text, .ref a_T_draft, .int T_next])), (a_T_text, .inr (7, [.ref a_T_text_letters, .int T_text_length])), (a_T_text_letters, .inl (cC, 200, .inl T_text_letters)), (a_T_draft, .inr (5, [.ref a_T_draft_guestKind, .ref a_T_draft_guestFloor, .ref a_T_draft_wishKind, .ref a_T_draft_wishA, .ref a_T_draft_wishB, .ref a_T_draft_wishNames, .int T_draft_guests, .int T_draft_wishes, .int T_draft_start])), (a_T_draft_wishNames, .inl (cI, 9, .inl T_draft_wishNames)), (a_T_draft_wishKind, .inl (cI, 9, .inl T_draft_wishKind)), (a_T_draft_wishA, .inl (cI, 9, .inl T_draft_wishA)), (a_T_draft_wishB, .inl (cI, 9, .inl T_draft_wishB)), (a_T_draft_guestKind, .inl (cI, 6, .inl T_draft_guestKind)), (a_T_draft_guestFloor, .inl (cI, 6, .inl T_draft_guestFloor))] sz) := by
  refine Met.ofW (cc := cX3_readItem) (maxL := 4) (ret := (some .boolean)) (by decide) rfl ?_
  intro p e s m args below meth c s₁ B hml hv
  obtain ⟨rfl, hsz, hP, hK, hD0, hN⟩ := hv
  have hx := B.exec
  have hb := B.bytes
  have hrt := B.returns
  have hts := atoms_spec (ws := wsX3_readItem) B.pre
  have hown : s.vm.findClass RX3 = some m.cls := findClass_of_methodNamed B.named
  have hlocks := B.notSynchronized
  subst hsz
  have hD := hD0.self (sz := s.heap.size)
  generalize hAe : va_A [(a_T, .inr (3, [.ref a_T_text, .ref a_T_draft, .int T_next])), (a_T_text, .inr (7, [.ref a_T_text_letters, .int T_text_length])), (a_T_text_letters, .inl (cC, 200, .inl T_text_letters)), (a_T_draft, .inr (5, [.ref a_T_draft_guestKind, .ref a_T_draft_guestFloor, .ref a_T_draft_wishKind, .ref a_T_draft_wishA, .ref a_T_draft_wishB, .ref a_T_draft_wishNames, .int T_draft_guests, .int T_draft_wishes, .int T_draft_start])), (a_T_draft_wishNames, .inl (cI, 9, .inl T_draft_wishNames)), (a_T_draft_wishKind, .inl (cI, 9, .inl T_draft_wishKind)), (a_T_draft_wishA, .inl (cI, 9, .inl T_draft_wishA)), (a_T_draft_wishB, .inl (cI, 9, .inl T_draft_wishB)), (a_T_draft_guestKind, .inl (cI, 6, .inl T_draft_guestKind)), (a_T_draft_guestFloor, .inl (cI, 6, .inl T_draft_guestFloor))] s.heap.size = A at hD ⊢
  have hA : ∀ q : Nat, s.heap.size ≤ q → A q := fun q h => by rw [← hAe]; exact Or.inr h
  have hS : va_S A s.heap s.heap [] := va_S.rf
  have hl := lv_entry ([.ref a_T] : List Value) (n := 4) (Nat.le_of_ble_eq_true rfl)
  rw [lg_entry_eq]
  generalize (lg_sl ([.ref a_T] : List Value) ++ List.replicate (4 - (lg_sl ([.ref a_T] : List Value)).length) Slot.unset).toArray = ls at hl ⊢
  replace hl : lv_has ls 4 [(0, .ref a_T)] := hl
  obtain ⟨Q, hQ⟩ : ∃ Q, Q = MQ below (va_Qi (fun r (_ : Unit) => r = R.1) (fun _ => BW (dC, dI) (tysA cC cI cJ) A [(a_T, .inr (3, [.ref a_T_text, .ref a_T_draft, .int R.2.1])), (a_T_text, .inr (7, [.ref a_T_text_letters, .int T_text_length])), (a_T_text_letters, .inl (cC, 200, .inl T_text_letters)), (a_T_draft, .inr (5, [.ref a_T_draft_guestKind, .ref a_T_draft_guestFloor, .ref a_T_draft_wishKind, .ref a_T_draft_wishA, .ref a_T_draft_wishB, .ref a_T_draft_wishNames, .int R.2.2.1, .int R.2.2.2.1, .int R.2.2.2.2.1])), (a_T_draft_wishNames, .inl (cI, 9, .inl R.2.2.2.2.2.1)), (a_T_draft_wishKind, .inl (cI, 9, .inl R.2.2.2.2.2.2.1)), (a_T_draft_wishA, .inl (cI, 9, .inl R.2.2.2.2.2.2.2.1)), (a_T_draft_wishB, .inl (cI, 9, .inl R.2.2.2.2.2.2.2.2.1)), (a_T_draft_guestKind, .inl (cI, 6, .inl R.2.2.2.2.2.2.2.2.2.1)), (a_T_draft_guestFloor, .inl (cI, 6, .inl R.2.2.2.2.2.2.2.2.2.2))]) A) ([.ref a_T] : List Value).toArray s 0 0 A := ⟨_, rfl⟩
  rw [← hQ]
  suffices hE : WG p l e rmX3_readItem s m ([.ref a_T] : List Value).toArray below meth c 0 0 Q (dC, dI) A 0 4 [(a_T, .inr (3, [.ref a_T_text, .ref a_T_draft, .int T_next])), (a_T_text, .inr (7, [.ref a_T_text_letters, .int T_text_length])), (a_T_text_letters, .inl (cC, 200, .inl T_text_letters)), (a_T_draft, .inr (5, [.ref a_T_draft_guestKind, .ref a_T_draft_guestFloor, .ref a_T_draft_wishKind, .ref a_T_draft_wishA, .ref a_T_draft_wishB, .ref a_T_draft_wishNames, .int T_draft_guests, .int T_draft_wishes, .int T_draft_start])), (a_T_draft_wishNames, .inl (cI, 9, .inl T_draft_wishNames)), (a_T_draft_wishKind, .inl (cI, 9, .inl T_draft_wishKind)), (a_T_draft_wishA, .inl (cI, 9, .inl T_draft_wishA)), (a_T_draft_wishB, .inl (cI, 9, .inl T_draft_wishB)), (a_T_draft_guestKind, .inl (cI, 6, .inl T_draft_guestKind)), (a_T_draft_guestFloor, .inl (cI, 6, .inl T_draft_guestFloor))] [(0, .ref a_T)] [] from hE _ _ _ hP hD hS hl
  clear hP hD hS hl hD0 hAe
  intro H locs ls hP hD hS hl
  unfold fX3_readItem at hr
  refine lv_aload_n hx hb dX3_readItem_0 rfl (lv_at hl 0 rfl) ?_
  refine va_get (D := (dC, dI)) (ci := 3) (v := .ref a_T_text) (C := RX3) (T := TX3) (N := 3) hx hb hts inX3_readItem_X3 hown hK hP 0 rfl rfl 0 (by decide) (hts _ mbX3_readItem_0) (fun _ h9 => h9) rfl dX3_readItem_1 ?_
  refine lv_aload_n hx hb dX3_readItem_4 rfl (lv_at hl 0 rfl) ?_
  refine va_get (D := (dC, dI)) (ci := 3) (v := .int T_next) (C := RX3) (T := TX3) (N := 3) hx hb hts inX3_readItem_X3 hown hK hP 0 rfl rfl 2 (by decide) (hts _ mbX3_readItem_2) (fun _ h9 => h9) rfl dX3_readItem_5 ?_
  obtain ⟨r, hc1, hr⟩ := bd1_some hr
  refine call_i (D := (dC, dI)) (tys := tysA cC cI cJ) (wc := [(a_T_text, .inr (7, [.ref a_T_text_letters, .int T_text_length])), (a_T_text_letters, .inl (cC, 200, .inl T_text_letters))]) (wr := [(a_T, .inr (3, [.ref a_T_text, .ref a_T_draft, .int T_next])), (a_T_draft, .inr (5, [.ref a_T_draft_guestKind, .ref a_T_draft_guestFloor, .ref a_T_draft_wishKind, .ref a_T_draft_wishA, .ref a_T_draft_wishB, .ref a_T_draft_wishNames, .int T_draft_guests, .int T_draft_wishes, .int T_draft_start])), (a_T_draft_wishNames, .inl (cI, 9, .inl T_draft_wishNames)), (a_T_draft_wishKind, .inl (cI, 9, .inl T_draft_wishKind)), (a_T_draft_wishA, .inl (cI, 9, .inl T_draft_wishA)), (a_T_draft_wishB, .inl (cI, 9, .inl T_draft_wishB)), (a_T_draft_guestKind, .inl (cI, 6, .inl T_draft_guestKind)), (a_T_draft_guestFloor, .inl (cI, 6, .inl T_draft_guestFloor))]) (w1 := [(a_T_text, .inr (7, [.ref a_T_text_letters, .int T_text_length])), (a_T_text_letters, .inl (cC, 200, .inl T_text_letters))]) (wn := [(a_T, .inr (3, [.ref a_T_text, .ref a_T_draft, .int T_next])), (a_T_text, .inr (7, [.ref a_T_text_letters, .int T_text_length])), (a_T_text_letters, .inl (cC, 200, .inl T_text_letters)), (a_T_draft, .inr (5, [.ref a_T_draft_guestKind, .ref a_T_draft_guestFloor, .ref a_T_draft_wishKind, .ref a_T_draft_wishA, .ref a_T_draft_wishB, .ref a_T_draft_wishNames, .int T_draft_guests, .int T_draft_wishes, .int T_draft_start])), (a_T_draft_wishNames, .inl (cI, 9, .inl T_draft_wishNames)), (a_T_draft_wishKind, .inl (cI, 9, .inl T_draft_wishKind)), (a_T_draft_wishA, .inl (cI, 9, .inl T_draft_wishA)), (a_T_draft_wishB, .inl (cI, 9, .inl T_draft_wishB)), (a_T_draft_guestKind, .inl (cI, 6, .inl T_draft_guestKind)), (a_T_draft_guestFloor, .inl (cI, 6, .inl T_draft_guestFloor))]) (r0 := r) hP hD hS hA [1, 2] [0, 3, 4, 5, 6, 7, 8, 9] [0, 8, 9, 1, 2, 3, 4, 5, 6, 7] rfl rfl (by decide +kernel) (by decide +kernel) rfl (by decide +kernel) (va_runVN (C := RX7) (host := "BootsAtDawn") (As := [.int T_next]) (rest := []) ⟨hx, hb, hml, hown, hts⟩ (kX7_letterAt l dC dI cC cI cJ H.size K a_T_text a_T_text_letters T_next T_text_length T_text_letters r hc1) ⟨va_cnB 1 hts gX3_readItem_X7_letterAt_n37 rfl rfl rfl (hN _ nw_55) (hts _ mbX3_readItem_3) (by decide +kernel) ⟨Nat.le_of_ble_eq_true rfl, Nat.le_of_ble_eq_true rfl⟩, (hts _ mbX3_readItem_4), (hts _ mbX3_readItem_5)⟩ ⟨fbW, va_recv hK hP (ci := 7) (q0 := 1) rfl rfl, preW hP hD hK hN [1, 2] rfl (by decide +kernel)⟩ rfl rfl hl.1 rfl (lv_room (Nat.le_of_ble_eq_true rfl)) dX3_readItem_8 ⟨Nat.zero_le _, Nat.zero_le _⟩) (fun H locs hP hD hS => ?_)
  refine lv_istore_n (lv' := [(1, .int r), (0, .ref a_T)]) hx hb dX3_readItem_11 rfl hl (by decide) rfl (fun ls hl => ?_)
  refine lv_aload_n hx hb dX3_readItem_12 rfl (lv_at hl 1 rfl) ?_
  refine lv_dup hx hb dX3_readItem_13 rfl ?_
  refine va_get (D := (dC, dI)) (ci := 3) (v := .int T_next) (C := RX3) (T := TX3) (N := 3) hx hb hts inX3_readItem_X3 hown hK hP 0 rfl rfl 2 (by decide) (hts _ mbX3_readItem_2) (fun _ h9 => h9) rfl dX3_readItem_14 ?_
  refine lv_iconst (v := 1) hx hb dX3_readItem_17 (by decide) ?_
  refine lv_iadd hx hb dX3_readItem_18 ?_
  obtain ⟨T_next_1, e1, hr⟩ := nm_el hr
  refine lv_nmi e1 ?_
  refine va_put (D := (dC, dI)) (ci := 3) (v := .int T_next_1) (ty := .int) (C := RX3) (T := TX3) (N := 3) hx hb hts inX3_readItem_X3 tyX3 tyX3_ok nmX3 hown hK hP hD hS 0 rfl rfl 2 (by decide) (hts _ mbX3_readItem_2) (fun _ h9 => h9) rfl (by decide +kernel) rfl rfl (Nat.le_of_ble_eq_true rfl) dX3_readItem_19 (fun H locs hP hD hS => ?_)
  replace hP : va_P (dC, dI) vwCl [(a_T, .inr (3, [.ref a_T_text, .ref a_T_draft, .int T_next_1])), (a_T_text, .inr (7, [.ref a_T_text_letters, .int T_text_length])), (a_T_text_letters, .inl (cC, 200, .inl T_text_letters)), (a_T_draft, .inr (5, [.ref a_T_draft_guestKind, .ref a_T_draft_guestFloor, .ref a_T_draft_wishKind, .ref a_T_draft_wishA, .ref a_T_draft_wishB, .ref a_T_draft_wishNames, .int T_draft_guests, .int T_draft_wishes, .int T_draft_start])), (a_T_draft_wishNames, .inl (cI, 9, .inl T_draft_wishNames)), (a_T_draft_wishKind, .inl (cI, 9, .inl T_draft_wishKind)), (a_T_draft_wishA, .inl (cI, 9, .inl T_draft_wishA)), (a_T_draft_wishB, .inl (cI, 9, .inl T_draft_wishB)), (a_T_draft_guestKind, .inl (cI, 6, .inl T_draft_guestKind)), (a_T_draft_guestFloor, .inl (cI, 6, .inl T_draft_guestFloor))] H := hP
  replace hD : va_D A [(a_T, .inr (3, [.ref a_T_text, .ref a_T_draft, .int T_next_1])), (a_T_text, .inr (7, [.ref a_T_text_letters, .int T_text_length])), (a_T_text_letters, .inl (cC, 200, .inl T_text_letters)), (a_T_draft, .inr (5, [.ref a_T_draft_guestKind, .ref a_T_draft_guestFloor, .ref a_T_draft_wishKind, .ref a_T_draft_wishA, .ref a_T_draft_wishB, .ref a_T_draft_wishNames, .int T_draft_guests, .int T_draft_wishes, .int T_draft_start])), (a_T_draft_wishNames, .inl (cI, 9, .inl T_draft_wishNames)), (a_T_draft_wishKind, .inl (cI, 9, .inl T_draft_wishKind)), (a_T_draft_wishA, .inl (cI, 9, .inl T_draft_wishA)), (a_T_draft_wishB, .inl (cI, 9, .inl T_draft_wishB)), (a_T_draft_guestKind, .inl (cI, 6, .inl T_draft_guestKind)), (a_T_draft_guestFloor, .inl (cI, 6, .inl T_draft_guestFloor))] := hD
  refine lv_aload_n hx hb dX3_readItem_22 rfl (lv_at hl 1 rfl) ?_
  obtain ⟨r_1, T_next_2, hc2, hr⟩ := bd2_some hr
  refine call_i (D := (dC, dI)) (tys := tysA cC cI cJ) (wc := [(a_T, .inr (3, [.ref a_T_text, .ref a_T_draft, .int T_next_1])), (a_T_text, .inr (7, [.ref a_T_text_letters, .int T_text_length])), (a_T_text_letters, .inl (cC, 200, .inl T_text_letters))]) (wr := [(a_T_draft, .inr (5, [.ref a_T_draft_guestKind, .ref a_T_draft_guestFloor, .ref a_T_draft_wishKind, .ref a_T_draft_wishA, .ref a_T_draft_wishB, .ref a_T_draft_wishNames, .int T_draft_guests, .int T_draft_wishes, .int T_draft_start])), (a_T_draft_wishNames, .inl (cI, 9, .inl T_draft_wishNames)), (a_T_draft_wishKind, .inl (cI, 9, .inl T_draft_wishKind)), (a_T_draft_wishA, .inl (cI, 9, .inl T_draft_wishA)), (a_T_draft_wishB, .inl (cI, 9, .inl T_draft_wishB)), (a_T_draft_guestKind, .inl (cI, 6, .inl T_draft_guestKind)), (a_T_draft_guestFloor, .inl (cI, 6, .inl T_draft_guestFloor))]) (w1 := [(a_T, .inr (3, [.ref a_T_text, .ref a_T_draft, .int T_next_2])), (a_T_text, .inr (7, [.ref a_T_text_letters, .int T_text_length])), (a_T_text_letters, .inl (cC, 200, .inl T_text_letters))]) (wn := [(a_T, .inr (3, [.ref a_T_text, .ref a_T_draft, .int T_next_2])), (a_T_text, .inr (7, [.ref a_T_text_letters, .int T_text_length])), (a_T_text_letters, .inl (cC, 200, .inl T_text_letters)), (a_T_draft, .inr (5, [.ref a_T_draft_guestKind, .ref a_T_draft_guestFloor, .ref a_T_draft_wishKind, .ref a_T_draft_wishA, .ref a_T_draft_wishB, .ref a_T_draft_wishNames, .int T_draft_guests, .int T_draft_wishes, .int T_draft_start])), (a_T_draft_wishNames, .inl (cI, 9, .inl T_draft_wishNames)), (a_T_draft_wishKind, .inl (cI, 9, .inl T_draft_wishKind)), (a_T_draft_wishA, .inl (cI, 9, .inl T_draft_wishA)), (a_T_draft_wishB, .inl (cI, 9, .inl T_draft_wishB)), (a_T_draft_guestKind, .inl (cI, 6, .inl T_draft_guestKind)), (a_T_draft_guestFloor, .inl (cI, 6, .inl T_draft_guestFloor))]) (r0 := r_1) hP hD hS hA [0, 1, 2] [3, 4, 5, 6, 7, 8, 9] [7, 8, 9, 0, 1, 2, 3, 4, 5, 6] rfl rfl (by decide +kernel) (by decide +kernel) rfl (by decide +kernel) (va_runV (As := []) (rest := []) ⟨hx, hb, hml, hown, hts⟩ (kX3_readNumber l dC dI cC cI cJ H.size K a_T a_T_text a_T_draft a_T_text_letters T_next_1 T_text_length T_text_letters (r_1, T_next_2) hc2) (cwV 0 hts gX3_readItem_X3_readNumber rfl rfl rfl (by decide +kernel) ⟨Nat.le_of_ble_eq_true rfl, Nat.le_of_ble_eq_true rfl⟩) ⟨fbW, va_recv hK hP (ci := 3) (q0 := 0) rfl rfl, preW hP hD hK hN [0, 1, 2] rfl (by decide +kernel)⟩ rfl rfl hl.1 rfl (lv_room (Nat.le_of_ble_eq_true rfl)) dX3_readItem_23 ⟨Nat.zero_le _, Nat.zero_le _⟩) (fun H locs hP hD hS => ?_)
  refine lv_istore_n (lv' := [(2, .int r_1), (1, .int r), (0, .ref a_T)]) hx hb dX3_readItem_26 rfl hl (by decide) rfl (fun ls hl => ?_)
  refine lv_bipush (v := (-4)) hx hb dX3_readItem_27 (by decide) ?_
  refine lv_istore_n (lv' := [(3, .int (-4)), (2, .int r_1), (1, .int r), (0, .ref a_T)]) hx hb dX3_readItem_29 rfl hl (by decide) rfl (fun ls hl => ?_)
  refine lv_iload_n hx hb dX3_readItem_30 rfl (lv_at hl 2 rfl) ?_
  refine lv_bipush (v := 102) hx hb dX3_readItem_31 (by decide) ?_
  obtain ⟨X1, hj, hi1, hk⟩ := bs2_some hr
  have hJ1 : ∀ (x3 : Int32) (T_next_5 : Int32), X1 = .inr (x3, T_next_5) → WG p l e rmX3_readItem s m ([.ref a_T] : List Value).toArray below meth c 0 0 Q (dC, dI) A 64 4 [(a_T, .inr (3, [.ref a_T_text, .ref a_T_draft, .int T_next_5])), (a_T_text, .inr (7, [.ref a_T_text_letters, .int T_text_length])), (a_T_text_letters, .inl (cC, 200, .inl T_text_letters)), (a_T_draft, .inr (5, [.ref a_T_draft_guestKind, .ref a_T_draft_guestFloor, .ref a_T_draft_wishKind, .ref a_T_draft_wishA, .ref a_T_draft_wishB, .ref a_T_draft_wishNames, .int T_draft_guests, .int T_draft_wishes, .int T_draft_start])), (a_T_draft_wishNames, .inl (cI, 9, .inl T_draft_wishNames)), (a_T_draft_wishKind, .inl (cI, 9, .inl T_draft_wishKind)), (a_T_draft_wishA, .inl (cI, 9, .inl T_draft_wishA)), (a_T_draft_wishB, .inl (cI, 9, .inl T_draft_wishB)), (a_T_draft_guestKind, .inl (cI, 6, .inl T_draft_guestKind)), (a_T_draft_guestFloor, .inl (cI, 6, .inl T_draft_guestFloor))] [(0, .ref a_T), (1, .int r), (2, .int r_1), (3, .int x3)] [] := by
    intro x3 T_next_5 he
    replace hr := hk x3 T_next_5 he
    intro H locs ls hP hD hS hl
    refine lv_iload_n hx hb dX3_readItem_64 rfl (lv_at hl 2 rfl) ?_
    refine lv_if_lt (tgt := 91) hx hb dX3_readItem_65 (by decide) (fun c5 => ?_) (fun c5 => ?_)
    · replace hr := it_t hr c5
      refine lv_iconst (v := 0) hx hb dX3_readItem_91 (by decide) ?_
      have he := Option.some.inj hr
      subst he
      subst hQ
      exact ret_z hx hb hrt (show narrow .boolean (.int 0) = .int 0 from rfl) hK hP hD hS hlocks dX3_readItem_92
    · replace hr := it_f hr c5
      refine lv_aload_n hx hb dX3_readItem_68 rfl (lv_at hl 0 rfl) ?_
      refine lv_bipush (v := 59) hx hb dX3_readItem_69 (by decide) ?_
      obtain ⟨r_4, T_next_6, hc5, hr⟩ := bd2_some hr
      refine call_i (D := (dC, dI)) (tys := tysA cC cI cJ) (wc := [(a_T, .inr (3, [.ref a_T_text, .ref a_T_draft, .int T_next_5])), (a_T_text, .inr (7, [.ref a_T_text_letters, .int T_text_length])), (a_T_text_letters, .inl (cC, 200, .inl T_text_letters))]) (wr := [(a_T_draft, .inr (5, [.ref a_T_draft_guestKind, .ref a_T_draft_guestFloor, .ref a_T_draft_wishKind, .ref a_T_draft_wishA, .ref a_T_draft_wishB, .ref a_T_draft_wishNames, .int T_draft_guests, .int T_draft_wishes, .int T_draft_start])), (a_T_draft_wishNames, .inl (cI, 9, .inl T_draft_wishNames)), (a_T_draft_wishKind, .inl (cI, 9, .inl T_draft_wishKind)), (a_T_draft_wishA, .inl (cI, 9, .inl T_draft_wishA)), (a_T_draft_wishB, .inl (cI, 9, .inl T_draft_wishB)), (a_T_draft_guestKind, .inl (cI, 6, .inl T_draft_guestKind)), (a_T_draft_guestFloor, .inl (cI, 6, .inl T_draft_guestFloor))]) (w1 := [(a_T, .inr (3, [.ref a_T_text, .ref a_T_draft, .int T_next_6])), (a_T_text, .inr (7, [.ref a_T_text_letters, .int T_text_length])), (a_T_text_letters, .inl (cC, 200, .inl T_text_letters))]) (wn := [(a_T, .inr (3, [.ref a_T_text, .ref a_T_draft, .int T_next_6])), (a_T_text, .inr (7, [.ref a_T_text_letters, .int T_text_length])), (a_T_text_letters, .inl (cC, 200, .inl T_text_letters)), (a_T_draft, .inr (5, [.ref a_T_draft_guestKind, .ref a_T_draft_guestFloor, .ref a_T_draft_wishKind, .ref a_T_draft_wishA, .ref a_T_draft_wishB, .ref a_T_draft_wishNames, .int T_draft_guests, .int T_draft_wishes, .int T_draft_start])), (a_T_draft_wishNames, .inl (cI, 9, .inl T_draft_wishNames)), (a_T_draft_wishKind, .inl (cI, 9, .inl T_draft_wishKind)), (a_T_draft_wishA, .inl (cI, 9, .inl T_draft_wishA)), (a_T_draft_wishB, .inl (cI, 9, .inl T_draft_wishB)), (a_T_draft_guestKind, .inl (cI, 6, .inl T_draft_guestKind)), (a_T_draft_guestFloor, .inl (cI, 6, .inl T_draft_guestFloor))]) (r0 := r_4) hP hD hS hA [0, 1, 2] [3, 4, 5, 6, 7, 8, 9] [7, 8, 9, 0, 1, 2, 3, 4, 5, 6] rfl rfl (by decide +kernel) (by decide +kernel) rfl (by decide +kernel) (va_runV (As := [.int 59]) (rest := []) ⟨hx, hb, hml, hown, hts⟩ (kX3_readSign l dC dI cC cI cJ H.size K a_T a_T_text a_T_draft a_T_text_letters 59 T_next_5 T_text_length T_text_letters (r_4, T_next_6) hc5) (cwV 1 hts gX3_readItem_X3_readSign rfl rfl rfl (by decide +kernel) ⟨Nat.le_of_ble_eq_true rfl, Nat.le_of_ble_eq_true rfl⟩) ⟨fbW, va_recv hK hP (ci := 3) (q0 := 0) rfl rfl, preW hP hD hK hN [0, 1, 2] rfl (by decide +kernel)⟩ rfl rfl hl.1 rfl (lv_room (Nat.le_of_ble_eq_true rfl)) dX3_readItem_71 ⟨Nat.zero_le _, Nat.zero_le _⟩) (fun H locs hP hD hS => ?_)
      refine lv_if_eq (tgt := 91) hx hb dX3_readItem_74 (by decide) (fun c6 => ?_) (fun c6 => ?_)
      · replace hr := it_t hr c6
        refine lv_iconst (v := 0) hx hb dX3_readItem_91 (by decide) ?_
        have he := Option.some.inj hr
        subst he
        subst hQ
        exact ret_z hx hb hrt (show narrow .boolean (.int 0) = .int 0 from rfl) hK hP hD hS hlocks dX3_readItem_92
      · replace hr := it_f hr c6
        refine lv_aload_n hx hb dX3_readItem_77 rfl (lv_at hl 0 rfl) ?_
        refine lv_iload_n hx hb dX3_readItem_78 rfl (lv_at hl 1 rfl) ?_
        refine lv_iload_n hx hb dX3_readItem_79 rfl (lv_at hl 2 rfl) ?_
        refine lv_iload_n hx hb dX3_readItem_80 rfl (lv_at hl 3 rfl) ?_
        obtain ⟨r_5, T_draft_guests_1, T_draft_wishes_1, T_draft_start_1, T_draft_wishNames_1, T_draft_wishKind_1, T_draft_wishA_1, T_draft_wishB_1, T_draft_guestKind_1, T_draft_guestFloor_1, hc6, hr⟩ := bd10_some hr
        refine call_i (D := (dC, dI)) (tys := tysA cC cI cJ) (wc := [(a_T, .inr (3, [.ref a_T_text, .ref a_T_draft, .int T_next_6])), (a_T_draft, .inr (5, [.ref a_T_draft_guestKind, .ref a_T_draft_guestFloor, .ref a_T_draft_wishKind, .ref a_T_draft_wishA, .ref a_T_draft_wishB, .ref a_T_draft_wishNames, .int T_draft_guests, .int T_draft_wishes, .int T_draft_start])), (a_T_draft_wishNames, .inl (cI, 9, .inl T_draft_wishNames)), (a_T_draft_wishKind, .inl (cI, 9, .inl T_draft_wishKind)), (a_T_draft_wishA, .inl (cI, 9, .inl T_draft_wishA)), (a_T_draft_wishB, .inl (cI, 9, .inl T_draft_wishB)), (a_T_draft_guestKind, .inl (cI, 6, .inl T_draft_guestKind)), (a_T_draft_guestFloor, .inl (cI, 6, .inl T_draft_guestFloor))]) (wr := [(a_T_text, .inr (7, [.ref a_T_text_letters, .int T_text_length])), (a_T_text_letters, .inl (cC, 200, .inl T_text_letters))]) (w1 := [(a_T, .inr (3, [.ref a_T_text, .ref a_T_draft, .int T_next_6])), (a_T_draft, .inr (5, [.ref a_T_draft_guestKind, .ref a_T_draft_guestFloor, .ref a_T_draft_wishKind, .ref a_T_draft_wishA, .ref a_T_draft_wishB, .ref a_T_draft_wishNames, .int T_draft_guests_1, .int T_draft_wishes_1, .int T_draft_start_1])), (a_T_draft_wishNames, .inl (cI, 9, .inl T_draft_wishNames_1)), (a_T_draft_wishKind, .inl (cI, 9, .inl T_draft_wishKind_1)), (a_T_draft_wishA, .inl (cI, 9, .inl T_draft_wishA_1)), (a_T_draft_wishB, .inl (cI, 9, .inl T_draft_wishB_1)), (a_T_draft_guestKind, .inl (cI, 6, .inl T_draft_guestKind_1)), (a_T_draft_guestFloor, .inl (cI, 6, .inl T_draft_guestFloor_1))]) (wn := [(a_T, .inr (3, [.ref a_T_text, .ref a_T_draft, .int T_next_6])), (a_T_text, .inr (7, [.ref a_T_text_letters, .int T_text_length])), (a_T_text_letters, .inl (cC, 200, .inl T_text_letters)), (a_T_draft, .inr (5, [.ref a_T_draft_guestKind, .ref a_T_draft_guestFloor, .ref a_T_draft_wishKind, .ref a_T_draft_wishA, .ref a_T_draft_wishB, .ref a_T_draft_wishNames, .int T_draft_guests_1, .int T_draft_wishes_1, .int T_draft_start_1])), (a_T_draft_wishNames, .inl (cI, 9, .inl T_draft_wishNames_1)), (a_T_draft_wishKind, .inl (cI, 9, .inl T_draft_wishKind_1)), (a_T_draft_wishA, .inl (cI, 9, .inl T_draft_wishA_1)), (a_T_draft_wishB, .inl (cI, 9, .inl T_draft_wishB_1)), (a_T_draft_guestKind, .inl (cI, 6, .inl T_draft_guestKind_1)), (a_T_draft_guestFloor, .inl (cI, 6, .inl T_draft_guestFloor_1))]) (r0 := r_5) hP hD hS hA [0, 3, 4, 5, 6, 7, 8, 9] [1, 2] [2, 0, 1, 3, 4, 5, 6, 7, 8, 9] rfl rfl (by decide +kernel) (by decide +kernel) rfl (by decide +kernel) (va_runV (As := [.int r, .int r_1, .int x3]) (rest := []) ⟨hx, hb, hml, hown, hts⟩ (kX3_draw l dC dI cC cI cJ H.size K a_T a_T_text a_T_draft a_T_draft_guestKind a_T_draft_guestFloor a_T_draft_wishKind a_T_draft_wishA a_T_draft_wishB a_T_draft_wishNames r r_1 x3 T_next_6 T_draft_guests T_draft_wishes T_draft_start T_draft_wishNames T_draft_wishKind T_draft_wishA T_draft_wishB T_draft_guestKind T_draft_guestFloor (r_5, T_draft_guests_1, T_draft_wishes_1, T_draft_start_1, T_draft_wishNames_1, T_draft_wishKind_1, T_draft_wishA_1, T_draft_wishB_1, T_draft_guestKind_1, T_draft_guestFloor_1) hc6) (cwV 3 hts gX3_readItem_X3_draw rfl rfl rfl (by decide +kernel) ⟨Nat.le_of_ble_eq_true rfl, Nat.le_of_ble_eq_true rfl⟩) ⟨fbW, va_recv hK hP (ci := 3) (q0 := 0) rfl rfl, preW hP hD hK hN [0, 3, 4, 5, 6, 7, 8, 9] rfl (by decide +kernel)⟩ rfl rfl hl.1 rfl (lv_room (Nat.le_of_ble_eq_true rfl)) dX3_readItem_81 ⟨Nat.zero_le _, Nat.zero_le _⟩) (fun H locs hP hD hS => ?_)
        refine lv_if_eq (tgt := 91) hx hb dX3_readItem_84 (by decide) (fun c7 => ?_) (fun c7 => ?_)
        · replace hr := it_t hr c7
          refine lv_iconst (v := 0) hx hb dX3_readItem_91 (by decide) ?_
          have he := Option.some.inj hr
          subst he
          subst hQ
          exact ret_z hx hb hrt (show narrow .boolean (.int 0) = .int 0 from rfl) hK hP hD hS hlocks dX3_readItem_92
        · replace hr := it_f hr c7
          refine lv_iconst (v := 1) hx hb dX3_readItem_87 (by decide) ?_
          refine lv_goto (tgt := 92) hx hb dX3_readItem_88 (by decide) ?_
          have he := Option.some.inj hr
          subst he
          subst hQ
          exact ret_z hx hb hrt (show narrow .boolean (.int 1) = .int 1 from rfl) hK hP hD hS hlocks dX3_readItem_92
  replace hr := hj
  refine lv_icmp_eq (tgt := 64) hx hb dX3_readItem_33 (by decide) (fun c1 => ?_) (fun c1 => ?_)
  · replace hr := it_t hr c1
    exact hJ1 _ _ (Option.some.inj hr).symm H locs ls hP hD hS (lv_sub hl [3, 2, 1, 0] rfl)
  · replace hr := it_f hr c1
    refine lv_iload_n hx hb dX3_readItem_36 rfl (lv_at hl 2 rfl) ?_
    refine lv_bipush (v := 115) hx hb dX3_readItem_37 (by decide) ?_
    refine lv_icmp_eq (tgt := 64) hx hb dX3_readItem_39 (by decide) (fun c2 => ?_) (fun c2 => ?_)
    · replace hr := it_t hr c2
      exact hJ1 _ _ (Option.some.inj hr).symm H locs ls hP hD hS (lv_sub hl [3, 2, 1, 0] rfl)
    · replace hr := it_f hr c2
      refine lv_aload_n hx hb dX3_readItem_42 rfl (lv_at hl 3 rfl) ?_
      refine lv_bipush (v := 44) hx hb dX3_readItem_43 (by decide) ?_
      obtain ⟨r_2, T_next_3, hc3, hr⟩ := bd2_some hr
      refine call_i (D := (dC, dI)) (tys := tysA cC cI cJ) (wc := [(a_T, .inr (3, [.ref a_T_text, .ref a_T_draft, .int T_next_2])), (a_T_text, .inr (7, [.ref a_T_text_letters, .int T_text_length])), (a_T_text_letters, .inl (cC, 200, .inl T_text_letters))]) (wr := [(a_T_draft, .inr (5, [.ref a_T_draft_guestKind, .ref a_T_draft_guestFloor, .ref a_T_draft_wishKind, .ref a_T_draft_wishA, .ref a_T_draft_wishB, .ref a_T_draft_wishNames, .int T_draft_guests, .int T_draft_wishes, .int T_draft_start])), (a_T_draft_wishNames, .inl (cI, 9, .inl T_draft_wishNames)), (a_T_draft_wishKind, .inl (cI, 9, .inl T_draft_wishKind)), (a_T_draft_wishA, .inl (cI, 9, .inl T_draft_wishA)), (a_T_draft_wishB, .inl (cI, 9, .inl T_draft_wishB)), (a_T_draft_guestKind, .inl (cI, 6, .inl T_draft_guestKind)), (a_T_draft_guestFloor, .inl (cI, 6, .inl T_draft_guestFloor))]) (w1 := [(a_T, .inr (3, [.ref a_T_text, .ref a_T_draft, .int T_next_3])), (a_T_text, .inr (7, [.ref a_T_text_letters, .int T_text_length])), (a_T_text_letters, .inl (cC, 200, .inl T_text_letters))]) (wn := [(a_T, .inr (3, [.ref a_T_text, .ref a_T_draft, .int T_next_3])), (a_T_text, .inr (7, [.ref a_T_text_letters, .int T_text_length])), (a_T_text_letters, .inl (cC, 200, .inl T_text_letters)), (a_T_draft, .inr (5, [.ref a_T_draft_guestKind, .ref a_T_draft_guestFloor, .ref a_T_draft_wishKind, .ref a_T_draft_wishA, .ref a_T_draft_wishB, .ref a_T_draft_wishNames, .int T_draft_guests, .int T_draft_wishes, .int T_draft_start])), (a_T_draft_wishNames, .inl (cI, 9, .inl T_draft_wishNames)), (a_T_draft_wishKind, .inl (cI, 9, .inl T_draft_wishKind)), (a_T_draft_wishA, .inl (cI, 9, .inl T_draft_wishA)), (a_T_draft_wishB, .inl (cI, 9, .inl T_draft_wishB)), (a_T_draft_guestKind, .inl (cI, 6, .inl T_draft_guestKind)), (a_T_draft_guestFloor, .inl (cI, 6, .inl T_draft_guestFloor))]) (r0 := r_2) hP hD hS hA [0, 1, 2] [3, 4, 5, 6, 7, 8, 9] [7, 8, 9, 0, 1, 2, 3, 4, 5, 6] rfl rfl (by decide +kernel) (by decide +kernel) rfl (by decide +kernel) (va_runV (As := [.int 44]) (rest := []) ⟨hx, hb, hml, hown, hts⟩ (kX3_readSign l dC dI cC cI cJ H.size K a_T a_T_text a_T_draft a_T_text_letters 44 T_next_2 T_text_length T_text_letters (r_2, T_next_3) hc3) (cwV 1 hts gX3_readItem_X3_readSign rfl rfl rfl (by decide +kernel) ⟨Nat.le_of_ble_eq_true rfl, Nat.le_of_ble_eq_true rfl⟩) ⟨fbW, va_recv hK hP (ci := 3) (q0 := 0) rfl rfl, preW hP hD hK hN [0, 1, 2] rfl (by decide +kernel)⟩ rfl rfl hl.1 rfl (lv_room (Nat.le_of_ble_eq_true rfl)) dX3_readItem_45 ⟨Nat.zero_le _, Nat.zero_le _⟩) (fun H locs hP hD hS => ?_)
      refine lv_if_ne (tgt := 53) hx hb dX3_readItem_48 (by decide) (fun c3 => ?_) (fun c3 => ?_)
      · replace hr := it_f hr c3
        refine lv_aload_n hx hb dX3_readItem_53 rfl (lv_at hl 3 rfl) ?_
        obtain ⟨r_3, T_next_4, hc4, hr⟩ := bd2_some hr
        refine call_i (D := (dC, dI)) (tys := tysA cC cI cJ) (wc := [(a_T, .inr (3, [.ref a_T_text, .ref a_T_draft, .int T_next_3])), (a_T_text, .inr (7, [.ref a_T_text_letters, .int T_text_length])), (a_T_text_letters, .inl (cC, 200, .inl T_text_letters))]) (wr := [(a_T_draft, .inr (5, [.ref a_T_draft_guestKind, .ref a_T_draft_guestFloor, .ref a_T_draft_wishKind, .ref a_T_draft_wishA, .ref a_T_draft_wishB, .ref a_T_draft_wishNames, .int T_draft_guests, .int T_draft_wishes, .int T_draft_start])), (a_T_draft_wishNames, .inl (cI, 9, .inl T_draft_wishNames)), (a_T_draft_wishKind, .inl (cI, 9, .inl T_draft_wishKind)), (a_T_draft_wishA, .inl (cI, 9, .inl T_draft_wishA)), (a_T_draft_wishB, .inl (cI, 9, .inl T_draft_wishB)), (a_T_draft_guestKind, .inl (cI, 6, .inl T_draft_guestKind)), (a_T_draft_guestFloor, .inl (cI, 6, .inl T_draft_guestFloor))]) (w1 := [(a_T, .inr (3, [.ref a_T_text, .ref a_T_draft, .int T_next_4])), (a_T_text, .inr (7, [.ref a_T_text_letters, .int T_text_length])), (a_T_text_letters, .inl (cC, 200, .inl T_text_letters))]) (wn := [(a_T, .inr (3, [.ref a_T_text, .ref a_T_draft, .int T_next_4])), (a_T_text, .inr (7, [.ref a_T_text_letters, .int T_text_length])), (a_T_text_letters, .inl (cC, 200, .inl T_text_letters)), (a_T_draft, .inr (5, [.ref a_T_draft_guestKind, .ref a_T_draft_guestFloor, .ref a_T_draft_wishKind, .ref a_T_draft_wishA, .ref a_T_draft_wishB, .ref a_T_draft_wishNames, .int T_draft_guests, .int T_draft_wishes, .int T_draft_start])), (a_T_draft_wishNames, .inl (cI, 9, .inl T_draft_wishNames)), (a_T_draft_wishKind, .inl (cI, 9, .inl T_draft_wishKind)), (a_T_draft_wishA, .inl (cI, 9, .inl T_draft_wishA)), (a_T_draft_wishB, .inl (cI, 9, .inl T_draft_wishB)), (a_T_draft_guestKind, .inl (cI, 6, .inl T_draft_guestKind)), (a_T_draft_guestFloor, .inl (cI, 6, .inl T_draft_guestFloor))]) (r0 := r_3) hP hD hS hA [0, 1, 2] [3, 4, 5, 6, 7, 8, 9] [7, 8, 9, 0, 1, 2, 3, 4, 5, 6] rfl rfl (by decide +kernel) (by decide +kernel) rfl (by decide +kernel) (va_runV (As := []) (rest := []) ⟨hx, hb, hml, hown, hts⟩ (kX3_readNumber l dC dI cC cI cJ H.size K a_T a_T_text a_T_draft a_T_text_letters T_next_3 T_text_length T_text_letters (r_3, T_next_4) hc4) (cwV 0 hts gX3_readItem_X3_readNumber rfl rfl rfl (by decide +kernel) ⟨Nat.le_of_ble_eq_true rfl, Nat.le_of_ble_eq_true rfl⟩) ⟨fbW, va_recv hK hP (ci := 3) (q0 := 0) rfl rfl, preW hP hD hK hN [0, 1, 2] rfl (by decide +kernel)⟩ rfl rfl hl.1 rfl (lv_room (Nat.le_of_ble_eq_true rfl)) dX3_readItem_54 ⟨Nat.zero_le _, Nat.zero_le _⟩) (fun H locs hP hD hS => ?_)
        refine lv_istore_n (lv' := [(3, .int r_3), (2, .int r_1), (1, .int r), (0, .ref a_T)]) hx hb dX3_readItem_57 rfl hl (by decide) rfl (fun ls hl => ?_)
        refine lv_iload_n hx hb dX3_readItem_58 rfl (lv_at hl 0 rfl) ?_
        refine lv_if_ge (tgt := 64) hx hb dX3_readItem_59 (by decide) (fun c4 => ?_) (fun c4 => ?_)
        · replace hr := it_t hr c4
          exact hJ1 _ _ (Option.some.inj hr).symm H locs ls hP hD hS (lv_sub hl [3, 2, 1, 0] rfl)
        · replace hr := it_f hr c4
          refine lv_iconst (v := 0) hx hb dX3_readItem_62 (by decide) ?_
          have he := Option.some.inj hr
          replace he := hi1 _ he.symm
          subst he
          subst hQ
          exact ret_z hx hb hrt (show narrow .boolean (.int 0) = .int 0 from rfl) hK hP hD hS hlocks dX3_readItem_63
      · replace hr := it_t hr c3
        refine lv_iconst (v := 0) hx hb dX3_readItem_51 (by decide) ?_
        have he := Option.some.inj hr
        replace he := hi1 _ he.symm
        subst he
        subst hQ
        exact ret_z hx hb hrt (show narrow .boolean (.int 0) = .int 0 from rfl) hK hP hD hS hlocks dX3_readItem_52
def fX5_clear (K : Nat) (T_guests : Int32) (T_wishes : Int32) (T_start : Int32) : Option (Int32 × Int32 × Int32) :=
    some (0, 0, 0)
theorem mbX5_clear_0 : Cond.fieldLink RX5 30 "BootsAtDawn$Slate" "guests" "I" ∈ wsX5_clear := List.mem_of_getElem? (i := 1) rfl
theorem inX5_clear_X5 : ∀ w ∈ u_ws RX5 TX5 9, w ∈ wsX5_clear := fun _ h => (List.mem_cons_of_mem _ (List.mem_append_right _ h))
theorem mbX5_clear_2 : Cond.fieldLink RX5 34 "BootsAtDawn$Slate" "wishes" "I" ∈ wsX5_clear := List.mem_of_getElem? (i := 2) rfl
theorem mbX5_clear_3 : Cond.fieldLink RX5 37 "BootsAtDawn$Slate" "start" "I" ∈ wsX5_clear := List.mem_of_getElem? (i := 3) rfl
abbrev rmX5_clear : Room := { frames := 0, cells := 0, slots := 0, locals := 0 }
set_option maxHeartbeats 8000000 in
set_option maxRecDepth 100000 in
theorem kX5_clear (l : Launch) (dC : Nat → ClassId) (dI : Nat → Nat → Nat) (cC cI cJ : ClassId) (sz : Nat) (K : Nat) (a_T a_T_guestKind a_T_guestFloor a_T_wishKind a_T_wishA a_T_wishB a_T_wishNames : Nat) (T_guests : Int32) (T_wishes : Int32) (T_start : Int32) (R : Int32 × Int32 × Int32) (hr : fX5_clear K T_guests T_wishes T_start = some R) : Met l yX5_clear wsX5_clear rmX5_clear (va_Pc ([.ref a_T] : List Value) (PcW (dC, dI) (tysA cC cI cJ) sz [(a_T, .inr (5, [.ref a_T_guestKind, .ref a_T_guestFloor, .ref a_T_wishKind, .ref a_T_wishA, .ref a_T_wishB, .ref a_T_wishNames, .int T_guests, .int T_wishes, .int T_start]))])) (va_Qv (fun (_ : Unit) => True) (fun _ => BW (dC, dI) (tysA cC cI cJ) (va_A [(a_T, .inr (5, [.ref a_T_guestKind, .ref a_T_guestFloor, .ref a_T_wishKind, .ref a_T_wishA, .ref a_T_wishB, .ref a_T_wishNames, .int T_guests, .int T_wishes, .int T_start]))] sz) [(a_T, .inr (5, [.ref a_T_guestKind, .ref a_T_guestFloor, .ref a_T_wishKind, .ref a_T_wishA, .ref a_T_wishB, .ref a_T_wishNames, .int R.1, .int R.2.1, .int R.2.2]))]) (va_A [(a_T, .inr (5, [.ref a_T_guestKind, .ref a_T_guestFloor, .ref a_T_wishKind, .ref a_T_wishA, .ref a_T_wishB, .ref a_T_wishNames, .int T_guests, .int T_wishes, .int T_start]))] sz)) 0 0 (va_A [(a_T, .inr (5, [.ref a_T_guestKind, .ref a_T_guestFloor, .ref a_T_wishKind, .ref a_T_wishA, .ref a_T_wishB, .ref a_T_wishNames, .int T_guests, .int T_wishes, .int T_start]))] sz) := by
  refine Met.ofW (cc := cX5_clear) (maxL := 1) (ret := none) (by decide) rfl ?_
  intro p e s m args below meth c s₁ B hml hv
  obtain ⟨rfl, hsz, hP, hK, hD0, hN⟩ := hv
  have hx := B.exec
  have hb := B.bytes
  have hrt := B.returns
  have hts := atoms_spec (ws := wsX5_clear) B.pre
  have hown : s.vm.findClass RX5 = some m.cls := findClass_of_methodNamed B.named
  have hlocks := B.notSynchronized
  subst hsz
  have hD := hD0.self (sz := s.heap.size)
  generalize hAe : va_A [(a_T, .inr (5, [.ref a_T_guestKind, .ref a_T_guestFloor, .ref a_T_wishKind, .ref a_T_wishA, .ref a_T_wishB, .ref a_T_wishNames, .int T_guests, .int T_wishes, .int T_start]))] s.heap.size = A at hD ⊢
  have hA : ∀ q : Nat, s.heap.size ≤ q → A q := fun q h => by rw [← hAe]; exact Or.inr h
  have hS : va_S A s.heap s.heap [] := va_S.rf
  have hl := lv_entry ([.ref a_T] : List Value) (n := 1) (Nat.le_of_ble_eq_true rfl)
  rw [lg_entry_eq]
  generalize (lg_sl ([.ref a_T] : List Value) ++ List.replicate (1 - (lg_sl ([.ref a_T] : List Value)).length) Slot.unset).toArray = ls at hl ⊢
  replace hl : lv_has ls 1 [(0, .ref a_T)] := hl
  obtain ⟨Q, hQ⟩ : ∃ Q, Q = MQ below (va_Qv (fun (_ : Unit) => True) (fun _ => BW (dC, dI) (tysA cC cI cJ) A [(a_T, .inr (5, [.ref a_T_guestKind, .ref a_T_guestFloor, .ref a_T_wishKind, .ref a_T_wishA, .ref a_T_wishB, .ref a_T_wishNames, .int R.1, .int R.2.1, .int R.2.2]))]) A) ([.ref a_T] : List Value).toArray s 0 0 A := ⟨_, rfl⟩
  rw [← hQ]
  suffices hE : WG p l e rmX5_clear s m ([.ref a_T] : List Value).toArray below meth c 0 0 Q (dC, dI) A 0 1 [(a_T, .inr (5, [.ref a_T_guestKind, .ref a_T_guestFloor, .ref a_T_wishKind, .ref a_T_wishA, .ref a_T_wishB, .ref a_T_wishNames, .int T_guests, .int T_wishes, .int T_start]))] [(0, .ref a_T)] [] from hE _ _ _ hP hD hS hl
  clear hP hD hS hl hD0 hAe
  intro H locs ls hP hD hS hl
  unfold fX5_clear at hr
  refine lv_aload_n hx hb dX5_clear_0 rfl (lv_at hl 0 rfl) ?_
  refine lv_iconst (v := 0) hx hb dX5_clear_1 (by decide) ?_
  refine va_put (D := (dC, dI)) (ci := 5) (v := .int 0) (ty := .int) (C := RX5) (T := TX5) (N := 9) hx hb hts inX5_clear_X5 tyX5 tyX5_ok nmX5 hown hK hP hD hS 0 rfl rfl 6 (by decide) (hts _ mbX5_clear_0) (fun _ h9 => h9) rfl (by decide +kernel) rfl rfl (Nat.le_of_ble_eq_true rfl) dX5_clear_2 (fun H locs hP hD hS => ?_)
  replace hP : va_P (dC, dI) vwCl [(a_T, .inr (5, [.ref a_T_guestKind, .ref a_T_guestFloor, .ref a_T_wishKind, .ref a_T_wishA, .ref a_T_wishB, .ref a_T_wishNames, .int 0, .int T_wishes, .int T_start]))] H := hP
  replace hD : va_D A [(a_T, .inr (5, [.ref a_T_guestKind, .ref a_T_guestFloor, .ref a_T_wishKind, .ref a_T_wishA, .ref a_T_wishB, .ref a_T_wishNames, .int 0, .int T_wishes, .int T_start]))] := hD
  refine lv_aload_n hx hb dX5_clear_5 rfl (lv_at hl 0 rfl) ?_
  refine lv_iconst (v := 0) hx hb dX5_clear_6 (by decide) ?_
  refine va_put (D := (dC, dI)) (ci := 5) (v := .int 0) (ty := .int) (C := RX5) (T := TX5) (N := 9) hx hb hts inX5_clear_X5 tyX5 tyX5_ok nmX5 hown hK hP hD hS 0 rfl rfl 7 (by decide) (hts _ mbX5_clear_2) (fun _ h9 => h9) rfl (by decide +kernel) rfl rfl (Nat.le_of_ble_eq_true rfl) dX5_clear_7 (fun H locs hP hD hS => ?_)
  replace hP : va_P (dC, dI) vwCl [(a_T, .inr (5, [.ref a_T_guestKind, .ref a_T_guestFloor, .ref a_T_wishKind, .ref a_T_wishA, .ref a_T_wishB, .ref a_T_wishNames, .int 0, .int 0, .int T_start]))] H := hP
  replace hD : va_D A [(a_T, .inr (5, [.ref a_T_guestKind, .ref a_T_guestFloor, .ref a_T_wishKind, .ref a_T_wishA, .ref a_T_wishB, .ref a_T_wishNames, .int 0, .int 0, .int T_start]))] := hD
  refine lv_aload_n hx hb dX5_clear_10 rfl (lv_at hl 0 rfl) ?_
  refine lv_iconst (v := 0) hx hb dX5_clear_11 (by decide) ?_
  refine va_put (D := (dC, dI)) (ci := 5) (v := .int 0) (ty := .int) (C := RX5) (T := TX5) (N := 9) hx hb hts inX5_clear_X5 tyX5 tyX5_ok nmX5 hown hK hP hD hS 0 rfl rfl 8 (by decide) (hts _ mbX5_clear_3) (fun _ h9 => h9) rfl (by decide +kernel) rfl rfl (Nat.le_of_ble_eq_true rfl) dX5_clear_12 (fun H locs hP hD hS => ?_)
  replace hP : va_P (dC, dI) vwCl [(a_T, .inr (5, [.ref a_T_guestKind, .ref a_T_guestFloor, .ref a_T_wishKind, .ref a_T_wishA, .ref a_T_wishB, .ref a_T_wishNames, .int 0, .int 0, .int 0]))] H := hP
  replace hD : va_D A [(a_T, .inr (5, [.ref a_T_guestKind, .ref a_T_guestFloor, .ref a_T_wishKind, .ref a_T_wishA, .ref a_T_wishB, .ref a_T_wishNames, .int 0, .int 0, .int 0]))] := hD
  have he := Option.some.inj hr
  subst he
  subst hQ
  exact ret_v hx hb hrt hK hP hD hS hlocks dX5_clear_15
def fX3_readAll_L14 (K : Nat) (T_text_length : Int32) (T_text_letters : (Nat → Int32)) : Nat → Int32 → Int32 → Int32 → Int32 → Int32 → (Nat → Int32) → (Nat → Int32) → (Nat → Int32) → (Nat → Int32) → (Nat → Int32) → (Nat → Int32) → Option ((Int32 × Int32 × Int32 × Int32 × Int32 × (Nat → Int32) × (Nat → Int32) × (Nat → Int32) × (Nat → Int32) × (Nat → Int32) × (Nat → Int32)) ⊕ (Int32 × Int32 × Int32 × Int32 × (Nat → Int32) × (Nat → Int32) × (Nat → Int32) × (Nat → Int32) × (Nat → Int32) × (Nat → Int32)))
  | 0, _, _, _, _, _, _, _, _, _, _, _ => none
  | n1 + 1, x1, T_next_1, T_draft_guests_2, T_draft_wishes_2, T_draft_start_2, T_draft_wishNames_1, T_draft_wishKind_1, T_draft_wishA_1, T_draft_wishB_1, T_draft_guestKind_1, T_draft_guestFloor_1 =>
    if 200 ≤ (x1 : Int32) then (
    some (.inr (T_next_1, T_draft_guests_2, T_draft_wishes_2, T_draft_start_2, T_draft_wishNames_1, T_draft_wishKind_1, T_draft_wishA_1, T_draft_wishB_1, T_draft_guestKind_1, T_draft_guestFloor_1)))
    else (
    if T_text_length ≤ (T_next_1 : Int32) then (
    some (.inr (T_next_1, T_draft_guests_2, T_draft_wishes_2, T_draft_start_2, T_draft_wishNames_1, T_draft_wishKind_1, T_draft_wishA_1, T_draft_wishB_1, T_draft_guestKind_1, T_draft_guestFloor_1)))
    else (
    bd11 (fX3_readItem K T_next_1 T_text_length T_text_letters T_draft_guests_2 T_draft_wishes_2 T_draft_start_2 T_draft_wishNames_1 T_draft_wishKind_1 T_draft_wishA_1 T_draft_wishB_1 T_draft_guestKind_1 T_draft_guestFloor_1) fun r T_next_3 T_draft_guests_4 T_draft_wishes_4 T_draft_start_4 T_draft_wishNames_3 T_draft_wishKind_3 T_draft_wishA_3 T_draft_wishB_3 T_draft_guestKind_3 T_draft_guestFloor_3 =>
    if (r : Int32) = 0 then (
    some (.inl (T_next_1, T_next_3, T_draft_guests_4, T_draft_wishes_4, T_draft_start_4, T_draft_wishNames_3, T_draft_wishKind_3, T_draft_wishA_3, T_draft_wishB_3, T_draft_guestKind_3, T_draft_guestFloor_3)))
    else (
    nm (x1 + 1) fun x1_1 =>
    fX3_readAll_L14 K T_text_length T_text_letters n1 x1_1 T_next_3 T_draft_guests_4 T_draft_wishes_4 T_draft_start_4 T_draft_wishNames_3 T_draft_wishKind_3 T_draft_wishA_3 T_draft_wishB_3 T_draft_guestKind_3 T_draft_guestFloor_3)))
def fX3_readAll (K : Nat) (T_next : Int32) (T_draft_guests : Int32) (T_draft_wishes : Int32) (T_draft_start : Int32) (T_text_length : Int32) (T_text_letters : (Nat → Int32)) (T_draft_wishNames : (Nat → Int32)) (T_draft_wishKind : (Nat → Int32)) (T_draft_wishA : (Nat → Int32)) (T_draft_wishB : (Nat → Int32)) (T_draft_guestKind : (Nat → Int32)) (T_draft_guestFloor : (Nat → Int32)) : Option (Int32 × Int32 × Int32 × Int32 × Int32 × (Nat → Int32) × (Nat → Int32) × (Nat → Int32) × (Nat → Int32) × (Nat → Int32) × (Nat → Int32)) :=
    bd3 (fX5_clear K T_draft_guests T_draft_wishes T_draft_start) fun T_draft_guests_1 T_draft_wishes_1 T_draft_start_1 =>
    bs10 (fX3_readAll_L14 K T_text_length T_text_letters K 0 0 T_draft_guests_1 T_draft_wishes_1 T_draft_start_1 T_draft_wishNames T_draft_wishKind T_draft_wishA T_draft_wishB T_draft_guestKind T_draft_guestFloor) fun T_next_2 T_draft_guests_3 T_draft_wishes_3 T_draft_start_3 T_draft_wishNames_2 T_draft_wishKind_2 T_draft_wishA_2 T_draft_wishB_2 T_draft_guestKind_2 T_draft_guestFloor_2 =>
    some ((-4), T_next_2, T_draft_guests_3, T_draft_wishes_3, T_draft_start_3, T_draft_wishNames_2, T_draft_wishKind_2, T_draft_wishA_2, T_draft_wishB_2, T_draft_guestKind_2, T_draft_guestFloor_2)
theorem mbX3_readAll_0 : Cond.fieldLink RX3 15 "BootsAtDawn$Reader" "draft" "LBootsAtDawn$Slate;" ∈ wsX3_readAll := List.mem_of_getElem? (i := 1) rfl
theorem inX3_readAll_X3 : ∀ w ∈ u_ws RX3 TX3 3, w ∈ wsX3_readAll := fun _ h => (List.mem_cons_of_mem _ (List.mem_append_left _ (List.mem_append_left _ (List.mem_append_right _ h))))
theorem mbX3_readAll_2 : Cond.initialized RX5 ∈ wsX3_readAll := List.mem_of_getElem? (i := 5) rfl
theorem mbX3_readAll_3 : Cond.instanceMethod yX5_clear ∈ wsX3_readAll := List.mem_of_getElem? (i := 4) rfl
theorem mbX3_readAll_4 : Cond.selects RX5 yX5_clear yX5_clear ∈ wsX3_readAll := List.mem_of_getElem? (i := 6) rfl
theorem mbX3_readAll_5 : Cond.fieldLink RX3 24 "BootsAtDawn$Reader" "next" "I" ∈ wsX3_readAll := List.mem_of_getElem? (i := 2) rfl
theorem mbX3_readAll_6 : Cond.fieldLink RX3 9 "BootsAtDawn$Reader" "text" "LBootsAtDawn$Text;" ∈ wsX3_readAll := List.mem_of_getElem? (i := 3) rfl
theorem inX3_readAll_X7 : ∀ w ∈ u_ws RX7 TX7 2, w ∈ wsX3_readAll := fun _ h => (List.mem_cons_of_mem _ (List.mem_append_left _ (List.mem_append_right _ h)))
abbrev rmX3_readAll : Room := { frames := 4, cells := 0, slots := 0, locals := 92 }
set_option maxHeartbeats 8000000 in
set_option maxRecDepth 100000 in
theorem kX3_readAll (l : Launch) (dC : Nat → ClassId) (dI : Nat → Nat → Nat) (cC cI cJ : ClassId) (sz : Nat) (K : Nat) (a_T a_T_text a_T_draft a_T_draft_guestKind a_T_draft_guestFloor a_T_draft_wishKind a_T_draft_wishA a_T_draft_wishB a_T_draft_wishNames a_T_text_letters : Nat) (T_next : Int32) (T_draft_guests : Int32) (T_draft_wishes : Int32) (T_draft_start : Int32) (T_text_length : Int32) (T_text_letters : (Nat → Int32)) (T_draft_wishNames : (Nat → Int32)) (T_draft_wishKind : (Nat → Int32)) (T_draft_wishA : (Nat → Int32)) (T_draft_wishB : (Nat → Int32)) (T_draft_guestKind : (Nat → Int32)) (T_draft_guestFloor : (Nat → Int32)) (R : Int32 × Int32 × Int32 × Int32 × Int32 × (Nat → Int32) × (Nat → Int32) × (Nat → Int32) × (Nat → Int32) × (Nat → Int32) × (Nat → Int32)) (hr : fX3_readAll K T_next T_draft_guests T_draft_wishes T_draft_start T_text_length T_text_letters T_draft_wishNames T_draft_wishKind T_draft_wishA T_draft_wishB T_draft_guestKind T_draft_guestFloor = some R) : Met l yX3_readAll wsX3_readAll rmX3_readAll (va_Pc ([.ref a_T] : List Value) (PcW (dC, dI) (tysA cC cI cJ) sz [(a_T, .inr (3, [.ref a_T_text, .ref a_T_draft, .int T_next])), (a_T_draft, .inr (5, [.ref a_T_draft_guestKind, .ref a_T_draft_guestFloor, .ref a_T_draft_wishKind, .ref a_T_draft_wishA, .ref a_T_draft_wishB, .ref a_T_draft_wishNames, .int T_draft_guests, .int T_draft_wishes, .int T_draft_start])), (a_T_text, .inr (7, [.ref a_T_text_letters, .int T_text_length])), (a_T_text_letters, .inl (cC, 200, .inl T_text_letters)), (a_T_draft_wishNames, .inl (cI, 9, .inl T_draft_wishNames)), (a_T_draft_wishKind, .inl (cI, 9, .inl T_draft_wishKind)), (a_T_draft_wishA, .inl (cI, 9, .inl T_draft_wishA)), (a_T_draft_wishB, .inl (cI, 9, .inl T_draft_wishB)), (a_T_draft_guestKind, .inl (cI, 6, .inl T_draft_guestKind)), (a_T_draft_guestFloor, .inl (cI, 6, .inl T_draft_guestFloor))])) (va_Qi (fun r (_ : Unit) => r = R.1) (fun _ => BW (dC, dI) (tysA cC cI cJ) (va_A [(a_T, .inr (3, [.ref a_T_text, .ref a_T_draft, .int T_next])), (a_T_draft, .inr (5, [.ref a_T_draft_guestKind, .ref a_T_draft_guestFloor, .ref a_T_draft_wishKind, .ref a_T_draft_wishA, .ref a_T_draft_wishB, .ref a_T_draft_wishNames, .int T_draft_guests, .int T_draft_wishes, .int T_draft_start])), (a_T_text, .inr (7, [.ref a_T_text_letters, .int T_text_length])), (a_T_text_letters, .inl (cC, 200, .inl T_text_letters)), (a_T_draft_wishNames, .inl (cI, 9, .inl T_draft_wishNames)), (a_T_draft_wishKind, .inl (cI, 9, .inl T_draft_wishKind)), (a_T_draft_wishA, .inl (cI, 9, .inl T_draft_wishA)), (a_T_draft_wishB, .inl (cI, 9, .inl T_draft_wishB)), (a_T_draft_guestKind, .inl (cI, 6, .inl T_draft_guestKind)), (a_T_draft_guestFloor, .inl (cI, 6, .inl T_draft_guestFloor))] sz) [(a_T, .inr (3, [.ref a_T_text, .ref a_T_draft, .int R.2.1])), (a_T_draft, .inr (5, [.ref a_T_draft_guestKind, .ref a_T_draft_guestFloor, .ref a_T_draft_wishKind, .ref a_T_draft_wishA, .ref a_T_draft_wishB, .ref a_T_draft_wishNames, .int R.2.2.1, .int R.2.2.2.1, .int R.2.2.2.2.1])), (a_T_text, .inr (7, [.ref a_T_text_letters, .int T_text_length])), (a_T_text_letters, .inl (cC, 200, .inl T_text_letters)), (a_T_draft_wishNames, .inl (cI, 9, .inl R.2.2.2.2.2.1)), (a_T_draft_wishKind, .inl (cI, 9, .inl R.2.2.2.2.2.2.1)), (a_T_draft_wishA, .inl (cI, 9, .inl R.2.2.2.2.2.2.2.1)), (a_T_draft_wishB, .inl (cI, 9, .inl R.2.2.2.2.2.2.2.2.1)), (a_T_draft_guestKind, .inl (cI, 6, .inl R.2.2.2.2.2.2.2.2.2.1)), (a_T_draft_guestFloor, .inl (cI, 6, .inl R.2.2.2.2.2.2.2.2.2.2))]) (va_A [(a_T, .inr (3, [.ref a_T_text, .ref a_T_draft, .int T_next])), (a_T_draft, .inr (5, [.ref a_T_draft_guestKind, .ref a_T_draft_guestFloor, .ref a_T_draft_wishKind, .ref a_T_draft_wishA, .ref a_T_draft_wishB, .ref a_T_draft_wishNames, .int T_draft_guests, .int T_draft_wishes, .int T_draft_start])), (a_T_text, .inr (7, [.ref a_T_text_letters, .int T_text_length])), (a_T_text_letters, .inl (cC, 200, .inl T_text_letters)), (a_T_draft_wishNames, .inl (cI, 9, .inl T_draft_wishNames)), (a_T_draft_wishKind, .inl (cI, 9, .inl T_draft_wishKind)), (a_T_draft_wishA, .inl (cI, 9, .inl T_draft_wishA)), (a_T_draft_wishB, .inl (cI, 9, .inl T_draft_wishB)), (a_T_draft_guestKind, .inl (cI, 6, .inl T_draft_guestKind)), (a_T_draft_guestFloor, .inl (cI, 6, .inl T_draft_guestFloor))] sz)) 0 0 (va_A [(a_T, .inr (3, [.ref a_T_text, .ref a_T_draft, .int T_next])), (a_T_draft, .inr (5, [.ref a_T_draft_guestKind, .ref a_T_draft_guestFloor, .ref a_T_draft_wishKind, .ref a_T_draft_wishA, .ref a_T_draft_wishB, .ref a_T_draft_wishNames, .int T_draft_guests, .int T_draft_wishes, .int T_draft_start])), (a_T_text, .inr (7, [.ref a_T_text_letters, .int T_text_length])), (a_T_text_letters, .inl (cC, 200, .inl T_text_letters)), (a_T_draft_wishNames, .inl (cI, 9, .inl T_draft_wishNames)), (a_T_draft_wishKind, .inl (cI, 9, .inl T_draft_wishKind)), (a_T_draft_wishA, .inl (cI, 9, .inl T_draft_wishA)), (a_T_draft_wishB, .inl (cI, 9, .inl T_draft_wishB)), (a_T_draft_guestKind, .inl (cI, 6, .inl T_draft_guestKind)), (a_T_draft_guestFloor, .inl (cI, 6, .inl T_draft_guestFloor))] sz) := by
  refine Met.ofW (cc := cX3_readAll) (maxL := 3) (ret := (some .int)) (by decide) rfl ?_
  intro p e s m args below meth c s₁ B hml hv
  obtain ⟨rfl, hsz, hP, hK, hD0, hN⟩ := hv
  have hx := B.exec
  have hb := B.bytes
  have hrt := B.returns
  have hts := atoms_spec (ws := wsX3_readAll) B.pre
  have hown : s.vm.findClass RX3 = some m.cls := findClass_of_methodNamed B.named
  have hlocks := B.notSynchronized
  subst hsz
  have hD := hD0.self (sz := s.heap.size)
  generalize hAe : va_A [(a_T, .inr (3, [.ref a_T_text, .ref a_T_draft, .int T_next])), (a_T_draft, .inr (5, [.ref a_T_draft_guestKind, .ref a_T_draft_guestFloor, .ref a_T_draft_wishKind, .ref a_T_draft_wishA, .ref a_T_draft_wishB, .ref a_T_draft_wishNames, .int T_draft_guests, .int T_draft_wishes, .int T_draft_start])), (a_T_text, .inr (7, [.ref a_T_text_letters, .int T_text_length])), (a_T_text_letters, .inl (cC, 200, .inl T_text_letters)), (a_T_draft_wishNames, .inl (cI, 9, .inl T_draft_wishNames)), (a_T_draft_wishKind, .inl (cI, 9, .inl T_draft_wishKind)), (a_T_draft_wishA, .inl (cI, 9, .inl T_draft_wishA)), (a_T_draft_wishB, .inl (cI, 9, .inl T_draft_wishB)), (a_T_draft_guestKind, .inl (cI, 6, .inl T_draft_guestKind)), (a_T_draft_guestFloor, .inl (cI, 6, .inl T_draft_guestFloor))] s.heap.size = A at hD ⊢
  have hA : ∀ q : Nat, s.heap.size ≤ q → A q := fun q h => by rw [← hAe]; exact Or.inr h
  have hS : va_S A s.heap s.heap [] := va_S.rf
  have hl := lv_entry ([.ref a_T] : List Value) (n := 3) (Nat.le_of_ble_eq_true rfl)
  rw [lg_entry_eq]
  generalize (lg_sl ([.ref a_T] : List Value) ++ List.replicate (3 - (lg_sl ([.ref a_T] : List Value)).length) Slot.unset).toArray = ls at hl ⊢
  replace hl : lv_has ls 3 [(0, .ref a_T)] := hl
  obtain ⟨Q, hQ⟩ : ∃ Q, Q = MQ below (va_Qi (fun r (_ : Unit) => r = R.1) (fun _ => BW (dC, dI) (tysA cC cI cJ) A [(a_T, .inr (3, [.ref a_T_text, .ref a_T_draft, .int R.2.1])), (a_T_draft, .inr (5, [.ref a_T_draft_guestKind, .ref a_T_draft_guestFloor, .ref a_T_draft_wishKind, .ref a_T_draft_wishA, .ref a_T_draft_wishB, .ref a_T_draft_wishNames, .int R.2.2.1, .int R.2.2.2.1, .int R.2.2.2.2.1])), (a_T_text, .inr (7, [.ref a_T_text_letters, .int T_text_length])), (a_T_text_letters, .inl (cC, 200, .inl T_text_letters)), (a_T_draft_wishNames, .inl (cI, 9, .inl R.2.2.2.2.2.1)), (a_T_draft_wishKind, .inl (cI, 9, .inl R.2.2.2.2.2.2.1)), (a_T_draft_wishA, .inl (cI, 9, .inl R.2.2.2.2.2.2.2.1)), (a_T_draft_wishB, .inl (cI, 9, .inl R.2.2.2.2.2.2.2.2.1)), (a_T_draft_guestKind, .inl (cI, 6, .inl R.2.2.2.2.2.2.2.2.2.1)), (a_T_draft_guestFloor, .inl (cI, 6, .inl R.2.2.2.2.2.2.2.2.2.2))]) A) ([.ref a_T] : List Value).toArray s 0 0 A := ⟨_, rfl⟩
  rw [← hQ]
  suffices hE : WG p l e rmX3_readAll s m ([.ref a_T] : List Value).toArray below meth c 0 0 Q (dC, dI) A 0 3 [(a_T, .inr (3, [.ref a_T_text, .ref a_T_draft, .int T_next])), (a_T_draft, .inr (5, [.ref a_T_draft_guestKind, .ref a_T_draft_guestFloor, .ref a_T_draft_wishKind, .ref a_T_draft_wishA, .ref a_T_draft_wishB, .ref a_T_draft_wishNames, .int T_draft_guests, .int T_draft_wishes, .int T_draft_start])), (a_T_text, .inr (7, [.ref a_T_text_letters, .int T_text_length])), (a_T_text_letters, .inl (cC, 200, .inl T_text_letters)), (a_T_draft_wishNames, .inl (cI, 9, .inl T_draft_wishNames)), (a_T_draft_wishKind, .inl (cI, 9, .inl T_draft_wishKind)), (a_T_draft_wishA, .inl (cI, 9, .inl T_draft_wishA)), (a_T_draft_wishB, .inl (cI, 9, .inl T_draft_wishB)), (a_T_draft_guestKind, .inl (cI, 6, .inl T_draft_guestKind)), (a_T_draft_guestFloor, .inl (cI, 6, .inl T_draft_guestFloor))] [(0, .ref a_T)] [] from hE _ _ _ hP hD hS hl
  clear hP hD hS hl hD0 hAe
  intro H locs ls hP hD hS hl
  unfold fX3_readAll at hr
  refine lv_aload_n hx hb dX3_readAll_0 rfl (lv_at hl 0 rfl) ?_
  refine va_get (D := (dC, dI)) (ci := 3) (v := .ref a_T_draft) (C := RX3) (T := TX3) (N := 3) hx hb hts inX3_readAll_X3 hown hK hP 0 rfl rfl 1 (by decide) (hts _ mbX3_readAll_0) (fun _ h9 => h9) rfl dX3_readAll_1 ?_
  obtain ⟨T_draft_guests_1, T_draft_wishes_1, T_draft_start_1, hc1, hr⟩ := bd3_some hr
  refine call_v (D := (dC, dI)) (tys := tysA cC cI cJ) (wc := [(a_T_draft, .inr (5, [.ref a_T_draft_guestKind, .ref a_T_draft_guestFloor, .ref a_T_draft_wishKind, .ref a_T_draft_wishA, .ref a_T_draft_wishB, .ref a_T_draft_wishNames, .int T_draft_guests, .int T_draft_wishes, .int T_draft_start]))]) (wr := [(a_T, .inr (3, [.ref a_T_text, .ref a_T_draft, .int T_next])), (a_T_text, .inr (7, [.ref a_T_text_letters, .int T_text_length])), (a_T_text_letters, .inl (cC, 200, .inl T_text_letters)), (a_T_draft_wishNames, .inl (cI, 9, .inl T_draft_wishNames)), (a_T_draft_wishKind, .inl (cI, 9, .inl T_draft_wishKind)), (a_T_draft_wishA, .inl (cI, 9, .inl T_draft_wishA)), (a_T_draft_wishB, .inl (cI, 9, .inl T_draft_wishB)), (a_T_draft_guestKind, .inl (cI, 6, .inl T_draft_guestKind)), (a_T_draft_guestFloor, .inl (cI, 6, .inl T_draft_guestFloor))]) (w1 := [(a_T_draft, .inr (5, [.ref a_T_draft_guestKind, .ref a_T_draft_guestFloor, .ref a_T_draft_wishKind, .ref a_T_draft_wishA, .ref a_T_draft_wishB, .ref a_T_draft_wishNames, .int T_draft_guests_1, .int T_draft_wishes_1, .int T_draft_start_1]))]) (wn := [(a_T, .inr (3, [.ref a_T_text, .ref a_T_draft, .int T_next])), (a_T_draft, .inr (5, [.ref a_T_draft_guestKind, .ref a_T_draft_guestFloor, .ref a_T_draft_wishKind, .ref a_T_draft_wishA, .ref a_T_draft_wishB, .ref a_T_draft_wishNames, .int T_draft_guests_1, .int T_draft_wishes_1, .int T_draft_start_1])), (a_T_text, .inr (7, [.ref a_T_text_letters, .int T_text_length])), (a_T_text_letters, .inl (cC, 200, .inl T_text_letters)), (a_T_draft_wishNames, .inl (cI, 9, .inl T_draft_wishNames)), (a_T_draft_wishKind, .inl (cI, 9, .inl T_draft_wishKind)), (a_T_draft_wishA, .inl (cI, 9, .inl T_draft_wishA)), (a_T_draft_wishB, .inl (cI, 9, .inl T_draft_wishB)), (a_T_draft_guestKind, .inl (cI, 6, .inl T_draft_guestKind)), (a_T_draft_guestFloor, .inl (cI, 6, .inl T_draft_guestFloor))]) hP hD hS hA [1] [0, 2, 3, 4, 5, 6, 7, 8, 9] [0, 9, 1, 2, 3, 4, 5, 6, 7, 8] rfl rfl (by decide +kernel) (by decide +kernel) rfl (by decide +kernel) (va_runVN (C := RX5) (host := "BootsAtDawn") (As := []) (rest := []) ⟨hx, hb, hml, hown, hts⟩ (kX5_clear l dC dI cC cI cJ H.size K a_T_draft a_T_draft_guestKind a_T_draft_guestFloor a_T_draft_wishKind a_T_draft_wishA a_T_draft_wishB a_T_draft_wishNames T_draft_guests T_draft_wishes T_draft_start (T_draft_guests_1, T_draft_wishes_1, T_draft_start_1) hc1) ⟨va_cnB 0 hts gX3_readAll_X5_clear_n19 rfl rfl rfl (hN _ nw_54) (hts _ mbX3_readAll_2) (by decide +kernel) ⟨Nat.le_of_ble_eq_true rfl, Nat.le_of_ble_eq_true rfl⟩, (hts _ mbX3_readAll_3), (hts _ mbX3_readAll_4)⟩ ⟨fbW, va_recv hK hP (ci := 5) (q0 := 1) rfl rfl, preW hP hD hK hN [1] rfl (by decide +kernel)⟩ rfl rfl hl.1 rfl (lv_room (Nat.le_of_ble_eq_true rfl)) dX3_readAll_4 ⟨Nat.zero_le _, Nat.zero_le _⟩) (fun H locs hP hD hS => ?_)
  refine lv_aload_n hx hb dX3_readAll_7 rfl (lv_at hl 0 rfl) ?_
  refine lv_iconst (v := 0) hx hb dX3_readAll_8 (by decide) ?_
  refine va_put (D := (dC, dI)) (ci := 3) (v := .int 0) (ty := .int) (C := RX3) (T := TX3) (N := 3) hx hb hts inX3_readAll_X3 tyX3 tyX3_ok nmX3 hown hK hP hD hS 0 rfl rfl 2 (by decide) (hts _ mbX3_readAll_5) (fun _ h9 => h9) rfl (by decide +kernel) rfl rfl (Nat.le_of_ble_eq_true rfl) dX3_readAll_9 (fun H locs hP hD hS => ?_)
  replace hP : va_P (dC, dI) vwCl [(a_T, .inr (3, [.ref a_T_text, .ref a_T_draft, .int 0])), (a_T_draft, .inr (5, [.ref a_T_draft_guestKind, .ref a_T_draft_guestFloor, .ref a_T_draft_wishKind, .ref a_T_draft_wishA, .ref a_T_draft_wishB, .ref a_T_draft_wishNames, .int T_draft_guests_1, .int T_draft_wishes_1, .int T_draft_start_1])), (a_T_text, .inr (7, [.ref a_T_text_letters, .int T_text_length])), (a_T_text_letters, .inl (cC, 200, .inl T_text_letters)), (a_T_draft_wishNames, .inl (cI, 9, .inl T_draft_wishNames)), (a_T_draft_wishKind, .inl (cI, 9, .inl T_draft_wishKind)), (a_T_draft_wishA, .inl (cI, 9, .inl T_draft_wishA)), (a_T_draft_wishB, .inl (cI, 9, .inl T_draft_wishB)), (a_T_draft_guestKind, .inl (cI, 6, .inl T_draft_guestKind)), (a_T_draft_guestFloor, .inl (cI, 6, .inl T_draft_guestFloor))] H := hP
  replace hD : va_D A [(a_T, .inr (3, [.ref a_T_text, .ref a_T_draft, .int 0])), (a_T_draft, .inr (5, [.ref a_T_draft_guestKind, .ref a_T_draft_guestFloor, .ref a_T_draft_wishKind, .ref a_T_draft_wishA, .ref a_T_draft_wishB, .ref a_T_draft_wishNames, .int T_draft_guests_1, .int T_draft_wishes_1, .int T_draft_start_1])), (a_T_text, .inr (7, [.ref a_T_text_letters, .int T_text_length])), (a_T_text_letters, .inl (cC, 200, .inl T_text_letters)), (a_T_draft_wishNames, .inl (cI, 9, .inl T_draft_wishNames)), (a_T_draft_wishKind, .inl (cI, 9, .inl T_draft_wishKind)), (a_T_draft_wishA, .inl (cI, 9, .inl T_draft_wishA)), (a_T_draft_wishB, .inl (cI, 9, .inl T_draft_wishB)), (a_T_draft_guestKind, .inl (cI, 6, .inl T_draft_guestKind)), (a_T_draft_guestFloor, .inl (cI, 6, .inl T_draft_guestFloor))] := hD
  refine lv_iconst (v := 0) hx hb dX3_readAll_12 (by decide) ?_
  refine lv_istore_n (lv' := [(1, .int 0), (0, .ref a_T)]) hx hb dX3_readAll_13 rfl hl (by decide) rfl (fun ls hl => ?_)
  have hL1 : ∀ (n1 : Nat) (x1 : Int32) (T_next_1 : Int32) (T_draft_guests_2 : Int32) (T_draft_wishes_2 : Int32) (T_draft_start_2 : Int32) (T_draft_wishNames_1 : (Nat → Int32)) (T_draft_wishKind_1 : (Nat → Int32)) (T_draft_wishA_1 : (Nat → Int32)) (T_draft_wishB_1 : (Nat → Int32)) (T_draft_guestKind_1 : (Nat → Int32)) (T_draft_guestFloor_1 : (Nat → Int32)) (X1 : (Int32 × Int32 × Int32 × Int32 × Int32 × (Nat → Int32) × (Nat → Int32) × (Nat → Int32) × (Nat → Int32) × (Nat → Int32) × (Nat → Int32)) ⊕ (Int32 × Int32 × Int32 × Int32 × (Nat → Int32) × (Nat → Int32) × (Nat → Int32) × (Nat → Int32) × (Nat → Int32) × (Nat → Int32))), fX3_readAll_L14 K T_text_length T_text_letters n1 x1 T_next_1 T_draft_guests_2 T_draft_wishes_2 T_draft_start_2 T_draft_wishNames_1 T_draft_wishKind_1 T_draft_wishA_1 T_draft_wishB_1 T_draft_guestKind_1 T_draft_guestFloor_1 = some X1 → (∀ t, X1 = .inl t → t = R) → (∀ (T_next_2 : Int32) (T_draft_guests_3 : Int32) (T_draft_wishes_3 : Int32) (T_draft_start_3 : Int32) (T_draft_wishNames_2 : (Nat → Int32)) (T_draft_wishKind_2 : (Nat → Int32)) (T_draft_wishA_2 : (Nat → Int32)) (T_draft_wishB_2 : (Nat → Int32)) (T_draft_guestKind_2 : (Nat → Int32)) (T_draft_guestFloor_2 : (Nat → Int32)), X1 = .inr (T_next_2, T_draft_guests_3, T_draft_wishes_3, T_draft_start_3, T_draft_wishNames_2, T_draft_wishKind_2, T_draft_wishA_2, T_draft_wishB_2, T_draft_guestKind_2, T_draft_guestFloor_2) → WG p l e rmX3_readAll s m ([.ref a_T] : List Value).toArray below meth c 0 0 Q (dC, dI) A 55 3 [(a_T, .inr (3, [.ref a_T_text, .ref a_T_draft, .int T_next_2])), (a_T_draft, .inr (5, [.ref a_T_draft_guestKind, .ref a_T_draft_guestFloor, .ref a_T_draft_wishKind, .ref a_T_draft_wishA, .ref a_T_draft_wishB, .ref a_T_draft_wishNames, .int T_draft_guests_3, .int T_draft_wishes_3, .int T_draft_start_3])), (a_T_text, .inr (7, [.ref a_T_text_letters, .int T_text_length])), (a_T_text_letters, .inl (cC, 200, .inl T_text_letters)), (a_T_draft_wishNames, .inl (cI, 9, .inl T_draft_wishNames_2)), (a_T_draft_wishKind, .inl (cI, 9, .inl T_draft_wishKind_2)), (a_T_draft_wishA, .inl (cI, 9, .inl T_draft_wishA_2)), (a_T_draft_wishB, .inl (cI, 9, .inl T_draft_wishB_2)), (a_T_draft_guestKind, .inl (cI, 6, .inl T_draft_guestKind_2)), (a_T_draft_guestFloor, .inl (cI, 6, .inl T_draft_guestFloor_2))] [] []) → WG p l e rmX3_readAll s m ([.ref a_T] : List Value).toArray below meth c 0 0 Q (dC, dI) A 14 3 [(a_T, .inr (3, [.ref a_T_text, .ref a_T_draft, .int T_next_1])), (a_T_draft, .inr (5, [.ref a_T_draft_guestKind, .ref a_T_draft_guestFloor, .ref a_T_draft_wishKind, .ref a_T_draft_wishA, .ref a_T_draft_wishB, .ref a_T_draft_wishNames, .int T_draft_guests_2, .int T_draft_wishes_2, .int T_draft_start_2])), (a_T_text, .inr (7, [.ref a_T_text_letters, .int T_text_length])), (a_T_text_letters, .inl (cC, 200, .inl T_text_letters)), (a_T_draft_wishNames, .inl (cI, 9, .inl T_draft_wishNames_1)), (a_T_draft_wishKind, .inl (cI, 9, .inl T_draft_wishKind_1)), (a_T_draft_wishA, .inl (cI, 9, .inl T_draft_wishA_1)), (a_T_draft_wishB, .inl (cI, 9, .inl T_draft_wishB_1)), (a_T_draft_guestKind, .inl (cI, 6, .inl T_draft_guestKind_1)), (a_T_draft_guestFloor, .inl (cI, 6, .inl T_draft_guestFloor_1))] [(0, .ref a_T), (1, .int x1)] [] := by
    intro n1
    induction n1 with
    | zero =>
      intro x1 T_next_1 T_draft_guests_2 T_draft_wishes_2 T_draft_start_2 T_draft_wishNames_1 T_draft_wishKind_1 T_draft_wishA_1 T_draft_wishB_1 T_draft_guestKind_1 T_draft_guestFloor_1 X1 hr
      rw [fX3_readAll_L14] at hr
      cases hr
    | succ n1 ih14 =>
      intro x1 T_next_1 T_draft_guests_2 T_draft_wishes_2 T_draft_start_2 T_draft_wishNames_1 T_draft_wishKind_1 T_draft_wishA_1 T_draft_wishB_1 T_draft_guestKind_1 T_draft_guestFloor_1 X1 hr hi1 hX1 H locs ls hP hD hS hl
      rw [fX3_readAll_L14] at hr
      refine lv_iload_n hx hb dX3_readAll_14 rfl (lv_at hl 1 rfl) ?_
      refine lv_sipush (v := 200) hx hb dX3_readAll_15 (by decide) ?_
      refine lv_icmp_ge (tgt := 55) hx hb dX3_readAll_18 (by decide) (fun c1 => ?_) (fun c1 => ?_)
      · replace hr := it_t hr c1
        have he := Option.some.inj hr
        exact hX1 _ _ _ _ _ _ _ _ _ _ he.symm H locs ls hP hD hS (lv_sub hl [] rfl)
      · replace hr := it_f hr c1
        refine lv_aload_n hx hb dX3_readAll_21 rfl (lv_at hl 0 rfl) ?_
        refine va_get (D := (dC, dI)) (ci := 3) (v := .int T_next_1) (C := RX3) (T := TX3) (N := 3) hx hb hts inX3_readAll_X3 hown hK hP 0 rfl rfl 2 (by decide) (hts _ mbX3_readAll_5) (fun _ h9 => h9) rfl dX3_readAll_22 ?_
        refine lv_aload_n hx hb dX3_readAll_25 rfl (lv_at hl 0 rfl) ?_
        refine va_get (D := (dC, dI)) (ci := 3) (v := .ref a_T_text) (C := RX3) (T := TX3) (N := 3) hx hb hts inX3_readAll_X3 hown hK hP 0 rfl rfl 0 (by decide) (hts _ mbX3_readAll_6) (fun _ h9 => h9) rfl dX3_readAll_26 ?_
        refine va_getN (D := (dC, dI)) (ci := 7) (v := .int T_text_length) (C := RX7) (T := TX7) (N := 2) hx hb hts inX3_readAll_X7 hown hK hP 2 rfl rfl 1 (by decide) (nk_use hN nw_0) (fun _ h9 => h9) rfl dX3_readAll_29 ?_
        refine lv_icmp_ge (tgt := 55) hx hb dX3_readAll_32 (by decide) (fun c2 => ?_) (fun c2 => ?_)
        · replace hr := it_t hr c2
          have he := Option.some.inj hr
          exact hX1 _ _ _ _ _ _ _ _ _ _ he.symm H locs ls hP hD hS (lv_sub hl [] rfl)
        · replace hr := it_f hr c2
          refine lv_aload_n hx hb dX3_readAll_35 rfl (lv_at hl 0 rfl) ?_
          refine va_get (D := (dC, dI)) (ci := 3) (v := .int T_next_1) (C := RX3) (T := TX3) (N := 3) hx hb hts inX3_readAll_X3 hown hK hP 0 rfl rfl 2 (by decide) (hts _ mbX3_readAll_5) (fun _ h9 => h9) rfl dX3_readAll_36 ?_
          refine lv_istore_n (lv' := [(2, .int T_next_1), (0, .ref a_T), (1, .int x1)]) hx hb dX3_readAll_39 rfl hl (by decide) rfl (fun ls hl => ?_)
          refine lv_aload_n hx hb dX3_readAll_40 rfl (lv_at hl 1 rfl) ?_
          obtain ⟨r, T_next_3, T_draft_guests_4, T_draft_wishes_4, T_draft_start_4, T_draft_wishNames_3, T_draft_wishKind_3, T_draft_wishA_3, T_draft_wishB_3, T_draft_guestKind_3, T_draft_guestFloor_3, hc2, hr⟩ := bd11_some hr
          refine call_i (D := (dC, dI)) (tys := tysA cC cI cJ) (wc := [(a_T, .inr (3, [.ref a_T_text, .ref a_T_draft, .int T_next_1])), (a_T_text, .inr (7, [.ref a_T_text_letters, .int T_text_length])), (a_T_text_letters, .inl (cC, 200, .inl T_text_letters)), (a_T_draft, .inr (5, [.ref a_T_draft_guestKind, .ref a_T_draft_guestFloor, .ref a_T_draft_wishKind, .ref a_T_draft_wishA, .ref a_T_draft_wishB, .ref a_T_draft_wishNames, .int T_draft_guests_2, .int T_draft_wishes_2, .int T_draft_start_2])), (a_T_draft_wishNames, .inl (cI, 9, .inl T_draft_wishNames_1)), (a_T_draft_wishKind, .inl (cI, 9, .inl T_draft_wishKind_1)), (a_T_draft_wishA, .inl (cI, 9, .inl T_draft_wishA_1)), (a_T_draft_wishB, .inl (cI, 9, .inl T_draft_wishB_1)), (a_T_draft_guestKind, .inl (cI, 6, .inl T_draft_guestKind_1)), (a_T_draft_guestFloor, .inl (cI, 6, .inl T_draft_guestFloor_1))]) (wr := []) (w1 := [(a_T, .inr (3, [.ref a_T_text, .ref a_T_draft, .int T_next_3])), (a_T_text, .inr (7, [.ref a_T_text_letters, .int T_text_length])), (a_T_text_letters, .inl (cC, 200, .inl T_text_letters)), (a_T_draft, .inr (5, [.ref a_T_draft_guestKind, .ref a_T_draft_guestFloor, .ref a_T_draft_wishKind, .ref a_T_draft_wishA, .ref a_T_draft_wishB, .ref a_T_draft_wishNames, .int T_draft_guests_4, .int T_draft_wishes_4, .int T_draft_start_4])), (a_T_draft_wishNames, .inl (cI, 9, .inl T_draft_wishNames_3)), (a_T_draft_wishKind, .inl (cI, 9, .inl T_draft_wishKind_3)), (a_T_draft_wishA, .inl (cI, 9, .inl T_draft_wishA_3)), (a_T_draft_wishB, .inl (cI, 9, .inl T_draft_wishB_3)), (a_T_draft_guestKind, .inl (cI, 6, .inl T_draft_guestKind_3)), (a_T_draft_guestFloor, .inl (cI, 6, .inl T_draft_guestFloor_3))]) (wn := [(a_T, .inr (3, [.ref a_T_text, .ref a_T_draft, .int T_next_3])), (a_T_draft, .inr (5, [.ref a_T_draft_guestKind, .ref a_T_draft_guestFloor, .ref a_T_draft_wishKind, .ref a_T_draft_wishA, .ref a_T_draft_wishB, .ref a_T_draft_wishNames, .int T_draft_guests_4, .int T_draft_wishes_4, .int T_draft_start_4])), (a_T_text, .inr (7, [.ref a_T_text_letters, .int T_text_length])), (a_T_text_letters, .inl (cC, 200, .inl T_text_letters)), (a_T_draft_wishNames, .inl (cI, 9, .inl T_draft_wishNames_3)), (a_T_draft_wishKind, .inl (cI, 9, .inl T_draft_wishKind_3)), (a_T_draft_wishA, .inl (cI, 9, .inl T_draft_wishA_3)), (a_T_draft_wishB, .inl (cI, 9, .inl T_draft_wishB_3)), (a_T_draft_guestKind, .inl (cI, 6, .inl T_draft_guestKind_3)), (a_T_draft_guestFloor, .inl (cI, 6, .inl T_draft_guestFloor_3))]) (r0 := r) hP hD hS hA [0, 2, 3, 1, 4, 5, 6, 7, 8, 9] [] [0, 3, 1, 2, 4, 5, 6, 7, 8, 9] rfl rfl (by decide +kernel) (by decide +kernel) rfl (by decide +kernel) (va_runV (As := []) (rest := []) ⟨hx, hb, hml, hown, hts⟩ (kX3_readItem l dC dI cC cI cJ H.size K a_T a_T_text a_T_draft a_T_text_letters a_T_draft_guestKind a_T_draft_guestFloor a_T_draft_wishKind a_T_draft_wishA a_T_draft_wishB a_T_draft_wishNames T_next_1 T_text_length T_text_letters T_draft_guests_2 T_draft_wishes_2 T_draft_start_2 T_draft_wishNames_1 T_draft_wishKind_1 T_draft_wishA_1 T_draft_wishB_1 T_draft_guestKind_1 T_draft_guestFloor_1 (r, T_next_3, T_draft_guests_4, T_draft_wishes_4, T_draft_start_4, T_draft_wishNames_3, T_draft_wishKind_3, T_draft_wishA_3, T_draft_wishB_3, T_draft_guestKind_3, T_draft_guestFloor_3) hc2) (cwV 0 hts gX3_readAll_X3_readItem rfl rfl rfl (by decide +kernel) ⟨Nat.le_of_ble_eq_true rfl, Nat.le_of_ble_eq_true rfl⟩) ⟨fbW, va_recv hK hP (ci := 3) (q0 := 0) rfl rfl, preW hP hD hK hN [0, 2, 3, 1, 4, 5, 6, 7, 8, 9] rfl (by decide +kernel)⟩ rfl rfl hl.1 rfl (lv_room (Nat.le_of_ble_eq_true rfl)) dX3_readAll_41 ⟨Nat.zero_le _, Nat.zero_le _⟩) (fun H locs hP hD hS => ?_)
          refine lv_if_ne (tgt := 49) hx hb dX3_readAll_44 (by decide) (fun c3 => ?_) (fun c3 => ?_)
          · replace hr := it_f hr c3
            obtain ⟨x1_1, e1, hr⟩ := nm_el hr
            refine lv_iinc (v := x1_1) (lv' := [(1, .int x1_1), (2, .int T_next_1), (0, .ref a_T)]) hx hb dX3_readAll_49 hl (k := 2) rfl e1.symm (by decide) rfl (fun ls hl => ?_)
            refine lv_goto (tgt := 14) hx hb dX3_readAll_52 (by decide) ?_
            exact ih14 _ _ _ _ _ _ _ _ _ _ _ _ hr hi1 hX1 H locs ls hP hD hS (lv_sub hl [2, 0] rfl)
          · replace hr := it_t hr c3
            refine lv_iload_n hx hb dX3_readAll_47 rfl (lv_at hl 0 rfl) ?_
            have he := Option.some.inj hr
            replace he := hi1 _ he.symm
            subst he
            subst hQ
            exact ret_i hx hb hrt hK hP hD hS hlocks dX3_readAll_48
  obtain ⟨XE, hE, hi0, hk⟩ := bs10_some hr
  refine hL1 K 0 0 T_draft_guests_1 T_draft_wishes_1 T_draft_start_1 T_draft_wishNames T_draft_wishKind T_draft_wishA T_draft_wishB T_draft_guestKind T_draft_guestFloor XE hE hi0 ?_ H locs ls hP hD hS (lv_sub hl [1, 0] rfl)
  intro T_next_2 T_draft_guests_3 T_draft_wishes_3 T_draft_start_3 T_draft_wishNames_2 T_draft_wishKind_2 T_draft_wishA_2 T_draft_wishB_2 T_draft_guestKind_2 T_draft_guestFloor_2 he H locs ls hP hD hS hl
  replace hr := hk T_next_2 T_draft_guests_3 T_draft_wishes_3 T_draft_start_3 T_draft_wishNames_2 T_draft_wishKind_2 T_draft_wishA_2 T_draft_wishB_2 T_draft_guestKind_2 T_draft_guestFloor_2 he
  refine lv_bipush (v := (-4)) hx hb dX3_readAll_55 (by decide) ?_
  have he := Option.some.inj hr
  subst he
  subst hQ
  exact ret_i hx hb hrt hK hP hD hS hlocks dX3_readAll_57
