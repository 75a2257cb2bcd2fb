def fX4_beginWith_L7 (K : Nat) (P1_here : Int32) (P1_struck : Int32) (P1_slate_wishes : Int32) (P1_slate_wishKind : (Nat → Int32)) (P1_slate_wishA : (Nat → Int32)) (P1_slate_wishNames : (Nat → Int32)) (P1_slate_wishB : (Nat → Int32)) (P1_slate_guestKind : (Nat → Int32)) (P1_floors : (Nat → Int32)) : Nat → Int32 → Int32 → (Nat → Int32) → (Nat → Int32) → (Nat → Int32) → Option (Int32 × (Nat → Int32) × (Nat → Int32) × (Nat → Int32))
  | 0, _, _, _, _, _ => none
  | n1 + 1, x2, T_size_1, T_order_1, T_waits_1, T_wakings_1 =>
    if (nI 6) ≤ (x2 : Int32) then (
    some (T_size_1, T_order_1, T_waits_1, T_wakings_1))
    else (
    bd1 (fX8_has K P1_here x2) fun r =>
    bd2 (
    if (r : Int32) = 0 then (
    some (T_size_1, T_order_1))
    else (
    bd1 (fX8_put K 6 T_size_1 x2 T_order_1) fun T_order_3 =>
    nm (T_size_1 + 1) fun T_size_3 =>
    some (T_size_3, T_order_3))) fun T_size_4 T_order_4 =>
    bd1 (fX1_notSoonerThan K x2 P1_here P1_struck P1_slate_wishes P1_slate_wishKind P1_slate_wishA P1_slate_wishNames P1_slate_wishB) fun r_1 =>
    bd1 (fX8_put K 6 x2 r_1 T_waits_1) fun T_waits_3 =>
    bd1 (fX1_wakingOf K x2 P1_slate_guestKind P1_floors) fun r_2 =>
    bd1 (fX8_put K 6 x2 r_2 T_wakings_1) fun T_wakings_3 =>
    nm (x2 + 1) fun x2_1 =>
    fX4_beginWith_L7 K P1_here P1_struck P1_slate_wishes P1_slate_wishKind P1_slate_wishA P1_slate_wishNames P1_slate_wishB P1_slate_guestKind P1_floors n1 x2_1 T_size_4 T_order_4 T_waits_3 T_wakings_3)
def fX4_beginWith (K : Nat) (T_size : Int32) (T_order : (Nat → Int32)) (T_waits : (Nat → Int32)) (T_wakings : (Nat → Int32)) (P1_here : Int32) (P1_struck : Int32) (P1_slate_wishes : Int32) (P1_slate_wishKind : (Nat → Int32)) (P1_slate_wishA : (Nat → Int32)) (P1_slate_wishNames : (Nat → Int32)) (P1_slate_wishB : (Nat → Int32)) (P1_slate_guestKind : (Nat → Int32)) (P1_floors : (Nat → Int32)) : Option (Int32 × (Nat → Int32) × (Nat → Int32) × (Nat → Int32)) :=
    bd4 (fX4_beginWith_L7 K P1_here P1_struck P1_slate_wishes P1_slate_wishKind P1_slate_wishA P1_slate_wishNames P1_slate_wishB P1_slate_guestKind P1_floors K 0 0 T_order T_waits T_wakings) fun T_size_2 T_order_2 T_waits_2 T_wakings_2 =>
    some (T_size_2, T_order_2, T_waits_2, T_wakings_2)
theorem mbX4_beginWith_0 : Cond.fieldLink RX4 27 "BootsAtDawn$Round" "size" "I" ∈ wsX4_beginWith := List.mem_of_getElem? (i := 1) rfl
theorem inX4_beginWith_X4 : ∀ w ∈ u_ws RX4 TX4 7, w ∈ wsX4_beginWith := fun _ h => (List.mem_cons_of_mem _ (List.mem_append_left _ (List.mem_append_left _ (List.mem_append_right _ h))))
theorem mbX4_beginWith_2 : Cond.fieldLink RX4 9 "BootsAtDawn$Round" "order" "[I" ∈ wsX4_beginWith := List.mem_of_getElem? (i := 2) rfl
theorem inX4_beginWith_X1 : ∀ w ∈ u_ws RX1 TX1 4, w ∈ wsX4_beginWith := fun _ h => (List.mem_cons_of_mem _ (List.mem_append_left _ (List.mem_append_right _ h)))
theorem mbX4_beginWith_4 : Cond.initialized RX8 ∈ wsX4_beginWith := List.mem_of_getElem? (i := 6) rfl
theorem mbX4_beginWith_5 : Cond.static yX8_has ∈ wsX4_beginWith := List.mem_of_getElem? (i := 5) rfl
theorem mbX4_beginWith_6 : Cond.static yX8_put ∈ wsX4_beginWith := List.mem_of_getElem? (i := 8) rfl
theorem mbX4_beginWith_7 : Cond.fieldLink RX4 21 "BootsAtDawn$Round" "waits" "[I" ∈ wsX4_beginWith := List.mem_of_getElem? (i := 3) rfl
theorem mbX4_beginWith_8 : Cond.initialized RX1 ∈ wsX4_beginWith := List.mem_of_getElem? (i := 11) rfl
theorem mbX4_beginWith_9 : Cond.instanceMethod yX1_notSoonerThan ∈ wsX4_beginWith := List.mem_of_getElem? (i := 10) rfl
theorem mbX4_beginWith_10 : Cond.selects RX1 yX1_notSoonerThan yX1_notSoonerThan ∈ wsX4_beginWith := List.mem_of_getElem? (i := 12) rfl
theorem mbX4_beginWith_11 : Cond.fieldLink RX4 24 "BootsAtDawn$Round" "wakings" "[I" ∈ wsX4_beginWith := List.mem_of_getElem? (i := 4) rfl
theorem mbX4_beginWith_12 : Cond.instanceMethod yX1_wakingOf ∈ wsX4_beginWith := List.mem_of_getElem? (i := 27) rfl
theorem mbX4_beginWith_13 : Cond.selects RX1 yX1_wakingOf yX1_wakingOf ∈ wsX4_beginWith := List.mem_of_getElem? (i := 28) rfl
abbrev rmX4_beginWith : Room := { frames := 3, cells := 0, slots := 0, locals := 66 }
set_option maxHeartbeats 8000000 in
set_option maxRecDepth 100000 in
theorem kX4_beginWith (l : Launch) (dC : Nat → ClassId) (dI : Nat → Nat → Nat) (cC cI cJ : ClassId) (sz : Nat) (K : Nat) (a_T a_T_order a_T_places a_T_times a_T_waits a_T_wakings a_P1 a_P1_slate a_P1_floors a_P1_slate_guestKind a_P1_slate_guestFloor a_P1_slate_wishKind a_P1_slate_wishA a_P1_slate_wishB a_P1_slate_wishNames : Nat) (T_size : Int32) (T_end : Int32) (T_order : (Nat → Int32)) (T_waits : (Nat → Int32)) (T_wakings : (Nat → Int32)) (P1_here : Int32) (P1_struck : Int32) (P1_slate_guests : Int32) (P1_slate_wishes : Int32) (P1_slate_start : Int32) (P1_slate_wishKind : (Nat → Int32)) (P1_slate_wishA : (Nat → Int32)) (P1_slate_wishNames : (Nat → Int32)) (P1_slate_wishB : (Nat → Int32)) (P1_slate_guestKind : (Nat → Int32)) (P1_floors : (Nat → Int32)) (R : Int32 × (Nat → Int32) × (Nat → Int32) × (Nat → Int32)) (hr : fX4_beginWith K T_size T_order T_waits T_wakings P1_here P1_struck P1_slate_wishes P1_slate_wishKind P1_slate_wishA P1_slate_wishNames P1_slate_wishB P1_slate_guestKind P1_floors = some R) : Met l yX4_beginWith wsX4_beginWith rmX4_beginWith (va_Pc ([.ref a_T, .ref a_P1] : List Value) (PcW (dC, dI) (tysA cC cI cJ) sz [(a_T, .inr (4, [.ref a_T_order, .ref a_T_places, .ref a_T_times, .ref a_T_waits, .ref a_T_wakings, .int T_size, .int T_end])), (a_T_order, .inl (cI, 6, .inl T_order)), (a_T_waits, .inl (cI, 6, .inl T_waits)), (a_T_wakings, .inl (cI, 6, .inl T_wakings)), (a_P1, .inr (1, [.ref a_P1_slate, .ref a_P1_floors, .int P1_here, .int P1_struck])), (a_P1_slate, .inr (5, [.ref a_P1_slate_guestKind, .ref a_P1_slate_guestFloor, .ref a_P1_slate_wishKind, .ref a_P1_slate_wishA, .ref a_P1_slate_wishB, .ref a_P1_slate_wishNames, .int P1_slate_guests, .int P1_slate_wishes, .int P1_slate_start])), (a_P1_slate_wishKind, .inl (cI, 9, .inl P1_slate_wishKind)), (a_P1_slate_wishA, .inl (cI, 9, .inl P1_slate_wishA)), (a_P1_slate_wishNames, .inl (cI, 9, .inl P1_slate_wishNames)), (a_P1_slate_wishB, .inl (cI, 9, .inl P1_slate_wishB)), (a_P1_slate_guestKind, .inl (cI, 6, .inl P1_slate_guestKind)), (a_P1_floors, .inl (cI, 6, .inl P1_floors))])) (va_Qv (fun (_ : Unit) => True) (fun _ => BW (dC, dI) (tysA cC cI cJ) (va_A [(a_T, .inr (4, [.ref a_T_order, .ref a_T_places, .ref a_T_times, .ref a_T_waits, .ref a_T_wakings, .int T_size, .int T_end])), (a_T_order, .inl (cI, 6, .inl T_order)), (a_T_waits, .inl (cI, 6, .inl T_waits)), (a_T_wakings, .inl (cI, 6, .inl T_wakings)), (a_P1, .inr (1, [.ref a_P1_slate, .ref a_P1_floors, .int P1_here, .int P1_struck])), (a_P1_slate, .inr (5, [.ref a_P1_slate_guestKind, .ref a_P1_slate_guestFloor, .ref a_P1_slate_wishKind, .ref a_P1_slate_wishA, .ref a_P1_slate_wishB, .ref a_P1_slate_wishNames, .int P1_slate_guests, .int P1_slate_wishes, .int P1_slate_start])), (a_P1_slate_wishKind, .inl (cI, 9, .inl P1_slate_wishKind)), (a_P1_slate_wishA, .inl (cI, 9, .inl P1_slate_wishA)), (a_P1_slate_wishNames, .inl (cI, 9, .inl P1_slate_wishNames)), (a_P1_slate_wishB, .inl (cI, 9, .inl P1_slate_wishB)), (a_P1_slate_guestKind, .inl (cI, 6, .inl P1_slate_guestKind)), (a_P1_floors, .inl (cI, 6, .inl P1_floors))] sz) [(a_T, .inr (4, [.ref a_T_order, .ref a_T_places, .ref a_T_times, .ref a_T_waits, .ref a_T_wakings, .int R.1, .int T_end])), (a_T_order, .inl (cI, 6, .inl R.2.1)), (a_T_waits, .inl (cI, 6, .inl R.2.2.1)), (a_T_wakings, .inl (cI, 6, .inl R.2.2.2)), (a_P1, .inr (1, [.ref a_P1_slate, .ref a_P1_floors, .int P1_here, .int P1_struck])), (a_P1_slate, .inr (5, [.ref a_P1_slate_guestKind, .ref a_P1_slate_guestFloor, .ref a_P1_slate_wishKind, .ref a_P1_slate_wishA, .ref a_P1_slate_wishB, .ref a_P1_slate_wishNames, .int P1_slate_guests, .int P1_slate_wishes, .int P1_slate_start])), (a_P1_slate_wishKind, .inl (cI, 9, .inl P1_slate_wishKind)), (a_P1_slate_wishA, .inl (cI, 9, .inl P1_slate_wishA)), (a_P1_slate_wishNames, .inl (cI, 9, .inl P1_slate_wishNames)), (a_P1_slate_wishB, .inl (cI, 9, .inl P1_slate_wishB)), (a_P1_slate_guestKind, .inl (cI, 6, .inl P1_slate_guestKind)), (a_P1_floors, .inl (cI, 6, .inl P1_floors))]) (va_A [(a_T, .inr (4, [.ref a_T_order, .ref a_T_places, .ref a_T_times, .ref a_T_waits, .ref a_T_wakings, .int T_size, .int T_end])), (a_T_order, .inl (cI, 6, .inl T_order)), (a_T_waits, .inl (cI, 6, .inl T_waits)), (a_T_wakings, .inl (cI, 6, .inl T_wakings)), (a_P1, .inr (1, [.ref a_P1_slate, .ref a_P1_floors, .int P1_here, .int P1_struck])), (a_P1_slate, .inr (5, [.ref a_P1_slate_guestKind, .ref a_P1_slate_guestFloor, .ref a_P1_slate_wishKind, .ref a_P1_slate_wishA, .ref a_P1_slate_wishB, .ref a_P1_slate_wishNames, .int P1_slate_guests, .int P1_slate_wishes, .int P1_slate_start])), (a_P1_slate_wishKind, .inl (cI, 9, .inl P1_slate_wishKind)), (a_P1_slate_wishA, .inl (cI, 9, .inl P1_slate_wishA)), (a_P1_slate_wishNames, .inl (cI, 9, .inl P1_slate_wishNames)), (a_P1_slate_wishB, .inl (cI, 9, .inl P1_slate_wishB)), (a_P1_slate_guestKind, .inl (cI, 6, .inl P1_slate_guestKind)), (a_P1_floors, .inl (cI, 6, .inl P1_floors))] sz)) 0 0 (va_A [(a_T, .inr (4, [.ref a_T_order, .ref a_T_places, .ref a_T_times, .ref a_T_waits, .ref a_T_wakings, .int T_size, .int T_end])), (a_T_order, .inl (cI, 6, .inl T_order)), (a_T_waits, .inl (cI, 6, .inl T_waits)), (a_T_wakings, .inl (cI, 6, .inl T_wakings)), (a_P1, .inr (1, [.ref a_P1_slate, .ref a_P1_floors, .int P1_here, .int P1_struck])), (a_P1_slate, .inr (5, [.ref a_P1_slate_guestKind, .ref a_P1_slate_guestFloor, .ref a_P1_slate_wishKind, .ref a_P1_slate_wishA, .ref a_P1_slate_wishB, .ref a_P1_slate_wishNames, .int P1_slate_guests, .int P1_slate_wishes, .int P1_slate_start])), (a_P1_slate_wishKind, .inl (cI, 9, .inl P1_slate_wishKind)), (a_P1_slate_wishA, .inl (cI, 9, .inl P1_slate_wishA)), (a_P1_slate_wishNames, .inl (cI, 9, .inl P1_slate_wishNames)), (a_P1_slate_wishB, .inl (cI, 9, .inl P1_slate_wishB)), (a_P1_slate_guestKind, .inl (cI, 6, .inl P1_slate_guestKind)), (a_P1_floors, .inl (cI, 6, .inl P1_floors))] sz) := by
  refine Met.ofW (cc := cX4_beginWith) (maxL := 3) (ret := none) (by decide) rfl ?_
  intro p e s m args below meth c s₁ B hml hv
  obtain ⟨rfl, hsz, hP, hK, hD0, hN⟩ := hv
  have hx := B.exec
  have hb := B.bytes
  have hrt := B.returns
  have hts := atoms_spec (ws := wsX4_beginWith) B.pre
  have hown : s.vm.findClass RX4 = some m.cls := findClass_of_methodNamed B.named
  have hlocks := B.notSynchronized
  subst hsz
  have hD := hD0.self (sz := s.heap.size)
  generalize hAe : va_A [(a_T, .inr (4, [.ref a_T_order, .ref a_T_places, .ref a_T_times, .ref a_T_waits, .ref a_T_wakings, .int T_size, .int T_end])), (a_T_order, .inl (cI, 6, .inl T_order)), (a_T_waits, .inl (cI, 6, .inl T_waits)), (a_T_wakings, .inl (cI, 6, .inl T_wakings)), (a_P1, .inr (1, [.ref a_P1_slate, .ref a_P1_floors, .int P1_here, .int P1_struck])), (a_P1_slate, .inr (5, [.ref a_P1_slate_guestKind, .ref a_P1_slate_guestFloor, .ref a_P1_slate_wishKind, .ref a_P1_slate_wishA, .ref a_P1_slate_wishB, .ref a_P1_slate_wishNames, .int P1_slate_guests, .int P1_slate_wishes, .int P1_slate_start])), (a_P1_slate_wishKind, .inl (cI, 9, .inl P1_slate_wishKind)), (a_P1_slate_wishA, .inl (cI, 9, .inl P1_slate_wishA)), (a_P1_slate_wishNames, .inl (cI, 9, .inl P1_slate_wishNames)), (a_P1_slate_wishB, .inl (cI, 9, .inl P1_slate_wishB)), (a_P1_slate_guestKind, .inl (cI, 6, .inl P1_slate_guestKind)), (a_P1_floors, .inl (cI, 6, .inl P1_floors))] s.heap.size = A at hD ⊢
  have hA : ∀ q : Nat, s.heap.size ≤ q → A q := fun q h => by rw [← hAe]; exact Or.inr h
  have hS : va_S A s.heap s.heap [] := va_S.rf
  have hl := lv_entry ([.ref a_T, .ref a_P1] : List Value) (n := 3) (Nat.le_of_ble_eq_true rfl)
  rw [lg_entry_eq]
  generalize (lg_sl ([.ref a_T, .ref a_P1] : List Value) ++ List.replicate (3 - (lg_sl ([.ref a_T, .ref a_P1] : List Value)).length) Slot.unset).toArray = ls at hl ⊢
  replace hl : lv_has ls 3 [(0, .ref a_T), (1, .ref a_P1)] := hl
  obtain ⟨Q, hQ⟩ : ∃ Q, Q = MQ below (va_Qv (fun (_ : Unit) => True) (fun _ => BW (dC, dI) (tysA cC cI cJ) A [(a_T, .inr (4, [.ref a_T_order, .ref a_T_places, .ref a_T_times, .ref a_T_waits, .ref a_T_wakings, .int R.1, .int T_end])), (a_T_order, .inl (cI, 6, .inl R.2.1)), (a_T_waits, .inl (cI, 6, .inl R.2.2.1)), (a_T_wakings, .inl (cI, 6, .inl R.2.2.2)), (a_P1, .inr (1, [.ref a_P1_slate, .ref a_P1_floors, .int P1_here, .int P1_struck])), (a_P1_slate, .inr (5, [.ref a_P1_slate_guestKind, .ref a_P1_slate_guestFloor, .ref a_P1_slate_wishKind, .ref a_P1_slate_wishA, .ref a_P1_slate_wishB, .ref a_P1_slate_wishNames, .int P1_slate_guests, .int P1_slate_wishes, .int P1_slate_start])), (a_P1_slate_wishKind, .inl (cI, 9, .inl P1_slate_wishKind)), (a_P1_slate_wishA, .inl (cI, 9, .inl P1_slate_wishA)), (a_P1_slate_wishNames, .inl (cI, 9, .inl P1_slate_wishNames)), (a_P1_slate_wishB, .inl (cI, 9, .inl P1_slate_wishB)), (a_P1_slate_guestKind, .inl (cI, 6, .inl P1_slate_guestKind)), (a_P1_floors, .inl (cI, 6, .inl P1_floors))]) A) ([.ref a_T, .ref a_P1] : List Value).toArray s 0 0 A := ⟨_, rfl⟩
  rw [← hQ]
  suffices hE : WG p l e rmX4_beginWith s m ([.ref a_T, .ref a_P1] : List Value).toArray below meth c 0 0 Q (dC, dI) A 0 3 [(a_T, .inr (4, [.ref a_T_order, .ref a_T_places, .ref a_T_times, .ref a_T_waits, .ref a_T_wakings, .int T_size, .int T_end])), (a_T_order, .inl (cI, 6, .inl T_order)), (a_T_waits, .inl (cI, 6, .inl T_waits)), (a_T_wakings, .inl (cI, 6, .inl T_wakings)), (a_P1, .inr (1, [.ref a_P1_slate, .ref a_P1_floors, .int P1_here, .int P1_struck])), (a_P1_slate, .inr (5, [.ref a_P1_slate_guestKind, .ref a_P1_slate_guestFloor, .ref a_P1_slate_wishKind, .ref a_P1_slate_wishA, .ref a_P1_slate_wishB, .ref a_P1_slate_wishNames, .int P1_slate_guests, .int P1_slate_wishes, .int P1_slate_start])), (a_P1_slate_wishKind, .inl (cI, 9, .inl P1_slate_wishKind)), (a_P1_slate_wishA, .inl (cI, 9, .inl P1_slate_wishA)), (a_P1_slate_wishNames, .inl (cI, 9, .inl P1_slate_wishNames)), (a_P1_slate_wishB, .inl (cI, 9, .inl P1_slate_wishB)), (a_P1_slate_guestKind, .inl (cI, 6, .inl P1_slate_guestKind)), (a_P1_floors, .inl (cI, 6, .inl P1_floors))] [(0, .ref a_T), (1, .ref a_P1)] [] from hE _ _ _ hP hD hS hl
  clear hP hD hS hl hD0 hAe
  intro H locs ls hP hD hS hl
  unfold fX4_beginWith at hr
  refine lv_aload_n hx hb dX4_beginWith_0 rfl (lv_at hl 0 rfl) ?_
  refine lv_iconst (v := 0) hx hb dX4_beginWith_1 (by decide) ?_
  refine va_put (D := (dC, dI)) (ci := 4) (v := .int 0) (ty := .int) (C := RX4) (T := TX4) (N := 7) hx hb hts inX4_beginWith_X4 tyX4 tyX4_ok nmX4 hown hK hP hD hS 0 rfl rfl 5 (by decide) (hts _ mbX4_beginWith_0) (fun _ h9 => h9) rfl (by decide +kernel) rfl rfl (Nat.le_of_ble_eq_true rfl) dX4_beginWith_2 (fun H locs hP hD hS => ?_)
  replace hP : va_P (dC, dI) vwCl [(a_T, .inr (4, [.ref a_T_order, .ref a_T_places, .ref a_T_times, .ref a_T_waits, .ref a_T_wakings, .int 0, .int T_end])), (a_T_order, .inl (cI, 6, .inl T_order)), (a_T_waits, .inl (cI, 6, .inl T_waits)), (a_T_wakings, .inl (cI, 6, .inl T_wakings)), (a_P1, .inr (1, [.ref a_P1_slate, .ref a_P1_floors, .int P1_here, .int P1_struck])), (a_P1_slate, .inr (5, [.ref a_P1_slate_guestKind, .ref a_P1_slate_guestFloor, .ref a_P1_slate_wishKind, .ref a_P1_slate_wishA, .ref a_P1_slate_wishB, .ref a_P1_slate_wishNames, .int P1_slate_guests, .int P1_slate_wishes, .int P1_slate_start])), (a_P1_slate_wishKind, .inl (cI, 9, .inl P1_slate_wishKind)), (a_P1_slate_wishA, .inl (cI, 9, .inl P1_slate_wishA)), (a_P1_slate_wishNames, .inl (cI, 9, .inl P1_slate_wishNames)), (a_P1_slate_wishB, .inl (cI, 9, .inl P1_slate_wishB)), (a_P1_slate_guestKind, .inl (cI, 6, .inl P1_slate_guestKind)), (a_P1_floors, .inl (cI, 6, .inl P1_floors))] H := hP
  replace hD : va_D A [(a_T, .inr (4, [.ref a_T_order, .ref a_T_places, .ref a_T_times, .ref a_T_waits, .ref a_T_wakings, .int 0, .int T_end])), (a_T_order, .inl (cI, 6, .inl T_order)), (a_T_waits, .inl (cI, 6, .inl T_waits)), (a_T_wakings, .inl (cI, 6, .inl T_wakings)), (a_P1, .inr (1, [.ref a_P1_slate, .ref a_P1_floors, .int P1_here, .int P1_struck])), (a_P1_slate, .inr (5, [.ref a_P1_slate_guestKind, .ref a_P1_slate_guestFloor, .ref a_P1_slate_wishKind, .ref a_P1_slate_wishA, .ref a_P1_slate_wishB, .ref a_P1_slate_wishNames, .int P1_slate_guests, .int P1_slate_wishes, .int P1_slate_start])), (a_P1_slate_wishKind, .inl (cI, 9, .inl P1_slate_wishKind)), (a_P1_slate_wishA, .inl (cI, 9, .inl P1_slate_wishA)), (a_P1_slate_wishNames, .inl (cI, 9, .inl P1_slate_wishNames)), (a_P1_slate_wishB, .inl (cI, 9, .inl P1_slate_wishB)), (a_P1_slate_guestKind, .inl (cI, 6, .inl P1_slate_guestKind)), (a_P1_floors, .inl (cI, 6, .inl P1_floors))] := hD
  refine lv_iconst (v := 0) hx hb dX4_beginWith_5 (by decide) ?_
  refine lv_istore_n (lv' := [(2, .int 0), (0, .ref a_T), (1, .ref a_P1)]) hx hb dX4_beginWith_6 rfl hl (by decide) rfl (fun ls hl => ?_)
  have hL1 : ∀ (n1 : Nat) (x2 : Int32) (T_size_1 : Int32) (T_order_1 : (Nat → Int32)) (T_waits_1 : (Nat → Int32)) (T_wakings_1 : (Nat → Int32)) (T_size_2 : Int32) (T_order_2 : (Nat → Int32)) (T_waits_2 : (Nat → Int32)) (T_wakings_2 : (Nat → Int32)), fX4_beginWith_L7 K P1_here P1_struck P1_slate_wishes P1_slate_wishKind P1_slate_wishA P1_slate_wishNames P1_slate_wishB P1_slate_guestKind P1_floors n1 x2 T_size_1 T_order_1 T_waits_1 T_wakings_1 = some (T_size_2, T_order_2, T_waits_2, T_wakings_2) → WG p l e rmX4_beginWith s m ([.ref a_T, .ref a_P1] : List Value).toArray below meth c 0 0 Q (dC, dI) A 81 3 [(a_T, .inr (4, [.ref a_T_order, .ref a_T_places, .ref a_T_times, .ref a_T_waits, .ref a_T_wakings, .int T_size_2, .int T_end])), (a_T_order, .inl (cI, 6, .inl T_order_2)), (a_T_waits, .inl (cI, 6, .inl T_waits_2)), (a_T_wakings, .inl (cI, 6, .inl T_wakings_2)), (a_P1, .inr (1, [.ref a_P1_slate, .ref a_P1_floors, .int P1_here, .int P1_struck])), (a_P1_slate, .inr (5, [.ref a_P1_slate_guestKind, .ref a_P1_slate_guestFloor, .ref a_P1_slate_wishKind, .ref a_P1_slate_wishA, .ref a_P1_slate_wishB, .ref a_P1_slate_wishNames, .int P1_slate_guests, .int P1_slate_wishes, .int P1_slate_start])), (a_P1_slate_wishKind, .inl (cI, 9, .inl P1_slate_wishKind)), (a_P1_slate_wishA, .inl (cI, 9, .inl P1_slate_wishA)), (a_P1_slate_wishNames, .inl (cI, 9, .inl P1_slate_wishNames)), (a_P1_slate_wishB, .inl (cI, 9, .inl P1_slate_wishB)), (a_P1_slate_guestKind, .inl (cI, 6, .inl P1_slate_guestKind)), (a_P1_floors, .inl (cI, 6, .inl P1_floors))] [] [] → WG p l e rmX4_beginWith s m ([.ref a_T, .ref a_P1] : List Value).toArray below meth c 0 0 Q (dC, dI) A 7 3 [(a_T, .inr (4, [.ref a_T_order, .ref a_T_places, .ref a_T_times, .ref a_T_waits, .ref a_T_wakings, .int T_size_1, .int T_end])), (a_T_order, .inl (cI, 6, .inl T_order_1)), (a_T_waits, .inl (cI, 6, .inl T_waits_1)), (a_T_wakings, .inl (cI, 6, .inl T_wakings_1)), (a_P1, .inr (1, [.ref a_P1_slate, .ref a_P1_floors, .int P1_here, .int P1_struck])), (a_P1_slate, .inr (5, [.ref a_P1_slate_guestKind, .ref a_P1_slate_guestFloor, .ref a_P1_slate_wishKind, .ref a_P1_slate_wishA, .ref a_P1_slate_wishB, .ref a_P1_slate_wishNames, .int P1_slate_guests, .int P1_slate_wishes, .int P1_slate_start])), (a_P1_slate_wishKind, .inl (cI, 9, .inl P1_slate_wishKind)), (a_P1_slate_wishA, .inl (cI, 9, .inl P1_slate_wishA)), (a_P1_slate_wishNames, .inl (cI, 9, .inl P1_slate_wishNames)), (a_P1_slate_wishB, .inl (cI, 9, .inl P1_slate_wishB)), (a_P1_slate_guestKind, .inl (cI, 6, .inl P1_slate_guestKind)), (a_P1_floors, .inl (cI, 6, .inl P1_floors))] [(0, .ref a_T), (1, .ref a_P1), (2, .int x2)] [] := by
    intro n1
    induction n1 with
    | zero =>
      intro x2 T_size_1 T_order_1 T_waits_1 T_wakings_1 T_size_2 T_order_2 T_waits_2 T_wakings_2 hr
      rw [fX4_beginWith_L7] at hr
      cases hr
    | succ n1 ih7 =>
      intro x2 T_size_1 T_order_1 T_waits_1 T_wakings_1 T_size_2 T_order_2 T_waits_2 T_wakings_2 hr hX1 H locs ls hP hD hS hl
      rw [fX4_beginWith_L7] at hr
      refine lv_iload_n hx hb dX4_beginWith_7 rfl (lv_at hl 2 rfl) ?_
      refine lv_aload_n hx hb dX4_beginWith_8 rfl (lv_at hl 0 rfl) ?_
      refine va_get (D := (dC, dI)) (ci := 4) (v := .ref a_T_order) (C := RX4) (T := TX4) (N := 7) hx hb hts inX4_beginWith_X4 hown hK hP 0 rfl rfl 0 (by decide) (hts _ mbX4_beginWith_2) (fun _ h9 => h9) rfl dX4_beginWith_9 ?_
      refine va_alen (v := nI 6) hx hb hK hP 1 1 rfl rfl rfl dX4_beginWith_12 ?_
      refine lv_icmp_ge (tgt := 81) hx hb dX4_beginWith_13 (by decide) (fun c1 => ?_) (fun c1 => ?_)
      · replace hr := it_t hr c1
        have he := Option.some.inj hr
        cases he
        exact hX1 H locs ls hP hD hS (lv_sub hl [] rfl)
      · replace hr := it_f hr c1
        refine lv_aload_n hx hb dX4_beginWith_16 rfl (lv_at hl 1 rfl) ?_
        refine va_getN (D := (dC, dI)) (ci := 1) (v := .int P1_here) (C := RX1) (T := TX1) (N := 4) hx hb hts inX4_beginWith_X1 hown hK hP 4 rfl rfl 2 (by decide) (nk_use hN nw_28) (fun _ h9 => h9) rfl dX4_beginWith_17 ?_
        refine lv_iload_n hx hb dX4_beginWith_20 rfl (lv_at hl 2 rfl) ?_
        obtain ⟨r, hc1, hr⟩ := bd1_some hr
        refine call_i (D := (dC, dI)) (tys := tysA cC cI cJ) (wc := []) (wr := [(a_T, .inr (4, [.ref a_T_order, .ref a_T_places, .ref a_T_times, .ref a_T_waits, .ref a_T_wakings, .int T_size_1, .int T_end])), (a_T_order, .inl (cI, 6, .inl T_order_1)), (a_T_waits, .inl (cI, 6, .inl T_waits_1)), (a_T_wakings, .inl (cI, 6, .inl T_wakings_1)), (a_P1, .inr (1, [.ref a_P1_slate, .ref a_P1_floors, .int P1_here, .int P1_struck])), (a_P1_slate, .inr (5, [.ref a_P1_slate_guestKind, .ref a_P1_slate_guestFloor, .ref a_P1_slate_wishKind, .ref a_P1_slate_wishA, .ref a_P1_slate_wishB, .ref a_P1_slate_wishNames, .int P1_slate_guests, .int P1_slate_wishes, .int P1_slate_start])), (a_P1_slate_wishKind, .inl (cI, 9, .inl P1_slate_wishKind)), (a_P1_slate_wishA, .inl (cI, 9, .inl P1_slate_wishA)), (a_P1_slate_wishNames, .inl (cI, 9, .inl P1_slate_wishNames)), (a_P1_slate_wishB, .inl (cI, 9, .inl P1_slate_wishB)), (a_P1_slate_guestKind, .inl (cI, 6, .inl P1_slate_guestKind)), (a_P1_floors, .inl (cI, 6, .inl P1_floors))]) (w1 := []) (wn := [(a_T, .inr (4, [.ref a_T_order, .ref a_T_places, .ref a_T_times, .ref a_T_waits, .ref a_T_wakings, .int T_size_1, .int T_end])), (a_T_order, .inl (cI, 6, .inl T_order_1)), (a_T_waits, .inl (cI, 6, .inl T_waits_1)), (a_T_wakings, .inl (cI, 6, .inl T_wakings_1)), (a_P1, .inr (1, [.ref a_P1_slate, .ref a_P1_floors, .int P1_here, .int P1_struck])), (a_P1_slate, .inr (5, [.ref a_P1_slate_guestKind, .ref a_P1_slate_guestFloor, .ref a_P1_slate_wishKind, .ref a_P1_slate_wishA, .ref a_P1_slate_wishB, .ref a_P1_slate_wishNames, .int P1_slate_guests, .int P1_slate_wishes, .int P1_slate_start])), (a_P1_slate_wishKind, .inl (cI, 9, .inl P1_slate_wishKind)), (a_P1_slate_wishA, .inl (cI, 9, .inl P1_slate_wishA)), (a_P1_slate_wishNames, .inl (cI, 9, .inl P1_slate_wishNames)), (a_P1_slate_wishB, .inl (cI, 9, .inl P1_slate_wishB)), (a_P1_slate_guestKind, .inl (cI, 6, .inl P1_slate_guestKind)), (a_P1_floors, .inl (cI, 6, .inl P1_floors))]) (r0 := r) hP hD hS hA [] [0, 1, 2, 3, 4, 5, 6, 7, 8, 9, 10, 11] [0, 1, 2, 3, 4, 5, 6, 7, 8, 9, 10, 11] rfl rfl (by decide +kernel) (by decide +kernel) rfl (by decide +kernel) (va_runSN (host := "BootsAtDawn") (As := [.int P1_here, .int x2]) (rest := []) ⟨hx, hb, hml, hown, hts⟩ (kX8_has l dC dI cC cI cJ H.size K P1_here x2 r hc1) ⟨va_cnB 2 hts gX4_beginWith_X8_has_n36 rfl rfl rfl (hN _ nw_80) (hts _ mbX4_beginWith_4) (by decide +kernel) ⟨Nat.le_of_ble_eq_true rfl, Nat.le_of_ble_eq_true rfl⟩, (hts _ mbX4_beginWith_5), trivial⟩ ⟨fbW, preW hP hD hK hN [] rfl (by decide +kernel)⟩ rfl rfl hl.1 rfl (lv_room (Nat.le_of_ble_eq_true rfl)) dX4_beginWith_21 ⟨Nat.zero_le _, Nat.zero_le _⟩) (fun H locs hP hD hS => ?_)
        obtain ⟨T_size_4, T_order_4, hj1, hr⟩ := bd2_some hr
        have hJ1 : WG p l e rmX4_beginWith s m ([.ref a_T, .ref a_P1] : List Value).toArray below meth c 0 0 Q (dC, dI) A 49 3 [(a_T, .inr (4, [.ref a_T_order, .ref a_T_places, .ref a_T_times, .ref a_T_waits, .ref a_T_wakings, .int T_size_4, .int T_end])), (a_T_order, .inl (cI, 6, .inl T_order_4)), (a_T_waits, .inl (cI, 6, .inl T_waits_1)), (a_T_wakings, .inl (cI, 6, .inl T_wakings_1)), (a_P1, .inr (1, [.ref a_P1_slate, .ref a_P1_floors, .int P1_here, .int P1_struck])), (a_P1_slate, .inr (5, [.ref a_P1_slate_guestKind, .ref a_P1_slate_guestFloor, .ref a_P1_slate_wishKind, .ref a_P1_slate_wishA, .ref a_P1_slate_wishB, .ref a_P1_slate_wishNames, .int P1_slate_guests, .int P1_slate_wishes, .int P1_slate_start])), (a_P1_slate_wishKind, .inl (cI, 9, .inl P1_slate_wishKind)), (a_P1_slate_wishA, .inl (cI, 9, .inl P1_slate_wishA)), (a_P1_slate_wishNames, .inl (cI, 9, .inl P1_slate_wishNames)), (a_P1_slate_wishB, .inl (cI, 9, .inl P1_slate_wishB)), (a_P1_slate_guestKind, .inl (cI, 6, .inl P1_slate_guestKind)), (a_P1_floors, .inl (cI, 6, .inl P1_floors))] [(0, .ref a_T), (1, .ref a_P1), (2, .int x2)] [] := by
          intro H locs ls hP hD hS hl
          refine lv_aload_n hx hb dX4_beginWith_49 rfl (lv_at hl 0 rfl) ?_
          refine va_get (D := (dC, dI)) (ci := 4) (v := .ref a_T_waits) (C := RX4) (T := TX4) (N := 7) hx hb hts inX4_beginWith_X4 hown hK hP 0 rfl rfl 3 (by decide) (hts _ mbX4_beginWith_7) (fun _ h9 => h9) rfl dX4_beginWith_50 ?_
          refine lv_iload_n hx hb dX4_beginWith_53 rfl (lv_at hl 2 rfl) ?_
          refine lv_aload_n hx hb dX4_beginWith_54 rfl (lv_at hl 1 rfl) ?_
          refine lv_iload_n hx hb dX4_beginWith_55 rfl (lv_at hl 2 rfl) ?_
          obtain ⟨r_1, hc3, hr⟩ := bd1_some hr
          refine call_i (D := (dC, dI)) (tys := tysA cC cI cJ) (wc := [(a_P1, .inr (1, [.ref a_P1_slate, .ref a_P1_floors, .int P1_here, .int P1_struck])), (a_P1_slate, .inr (5, [.ref a_P1_slate_guestKind, .ref a_P1_slate_guestFloor, .ref a_P1_slate_wishKind, .ref a_P1_slate_wishA, .ref a_P1_slate_wishB, .ref a_P1_slate_wishNames, .int P1_slate_guests, .int P1_slate_wishes, .int P1_slate_start])), (a_P1_slate_wishKind, .inl (cI, 9, .inl P1_slate_wishKind)), (a_P1_slate_wishA, .inl (cI, 9, .inl P1_slate_wishA)), (a_P1_slate_wishNames, .inl (cI, 9, .inl P1_slate_wishNames)), (a_P1_slate_wishB, .inl (cI, 9, .inl P1_slate_wishB))]) (wr := [(a_T, .inr (4, [.ref a_T_order, .ref a_T_places, .ref a_T_times, .ref a_T_waits, .ref a_T_wakings, .int T_size_4, .int T_end])), (a_T_order, .inl (cI, 6, .inl T_order_4)), (a_T_waits, .inl (cI, 6, .inl T_waits_1)), (a_T_wakings, .inl (cI, 6, .inl T_wakings_1)), (a_P1_slate_guestKind, .inl (cI, 6, .inl P1_slate_guestKind)), (a_P1_floors, .inl (cI, 6, .inl P1_floors))]) (w1 := [(a_P1, .inr (1, [.ref a_P1_slate, .ref a_P1_floors, .int P1_here, .int P1_struck])), (a_P1_slate, .inr (5, [.ref a_P1_slate_guestKind, .ref a_P1_slate_guestFloor, .ref a_P1_slate_wishKind, .ref a_P1_slate_wishA, .ref a_P1_slate_wishB, .ref a_P1_slate_wishNames, .int P1_slate_guests, .int P1_slate_wishes, .int P1_slate_start])), (a_P1_slate_wishKind, .inl (cI, 9, .inl P1_slate_wishKind)), (a_P1_slate_wishA, .inl (cI, 9, .inl P1_slate_wishA)), (a_P1_slate_wishNames, .inl (cI, 9, .inl P1_slate_wishNames)), (a_P1_slate_wishB, .inl (cI, 9, .inl P1_slate_wishB))]) (wn := [(a_T, .inr (4, [.ref a_T_order, .ref a_T_places, .ref a_T_times, .ref a_T_waits, .ref a_T_wakings, .int T_size_4, .int T_end])), (a_T_order, .inl (cI, 6, .inl T_order_4)), (a_T_waits, .inl (cI, 6, .inl T_waits_1)), (a_T_wakings, .inl (cI, 6, .inl T_wakings_1)), (a_P1, .inr (1, [.ref a_P1_slate, .ref a_P1_floors, .int P1_here, .int P1_struck])), (a_P1_slate, .inr (5, [.ref a_P1_slate_guestKind, .ref a_P1_slate_guestFloor, .ref a_P1_slate_wishKind, .ref a_P1_slate_wishA, .ref a_P1_slate_wishB, .ref a_P1_slate_wishNames, .int P1_slate_guests, .int P1_slate_wishes, .int P1_slate_start])), (a_P1_slate_wishKind, .inl (cI, 9, .inl P1_slate_wishKind)), (a_P1_slate_wishA, .inl (cI, 9, .inl P1_slate_wishA)), (a_P1_slate_wishNames, .inl (cI, 9, .inl P1_slate_wishNames)), (a_P1_slate_wishB, .inl (cI, 9, .inl P1_slate_wishB)), (a_P1_slate_guestKind, .inl (cI, 6, .inl P1_slate_guestKind)), (a_P1_floors, .inl (cI, 6, .inl P1_floors))]) (r0 := r_1) hP hD hS hA [4, 5, 6, 7, 8, 9] [0, 1, 2, 3, 10, 11] [0, 1, 2, 3, 6, 7, 8, 9, 10, 11, 4, 5] rfl rfl (by decide +kernel) (by decide +kernel) rfl (by decide +kernel) (va_runVN (C := RX1) (host := "BootsAtDawn") (As := [.int x2]) (rest := [.int x2, .ref a_T_waits]) ⟨hx, hb, hml, hown, hts⟩ (kX1_notSoonerThan l dC dI cC cI cJ H.size K a_P1 a_P1_slate a_P1_floors a_P1_slate_guestKind a_P1_slate_guestFloor a_P1_slate_wishKind a_P1_slate_wishA a_P1_slate_wishB a_P1_slate_wishNames x2 P1_here P1_struck P1_slate_guests P1_slate_wishes P1_slate_start P1_slate_wishKind P1_slate_wishA P1_slate_wishNames P1_slate_wishB r_1 hc3) ⟨va_cnB 1 hts gX4_beginWith_X1_notSoonerThan_n44 rfl rfl rfl (hN _ nw_82) (hts _ mbX4_beginWith_8) (by decide +kernel) ⟨Nat.le_of_ble_eq_true rfl, Nat.le_of_ble_eq_true rfl⟩, (hts _ mbX4_beginWith_9), (hts _ mbX4_beginWith_10)⟩ ⟨fbW, va_recv hK hP (ci := 1) (q0 := 4) rfl rfl, preW hP hD hK hN [4, 5, 6, 7, 8, 9] rfl (by decide +kernel)⟩ rfl rfl hl.1 rfl (lv_room (Nat.le_of_ble_eq_true rfl)) dX4_beginWith_56 ⟨Nat.zero_le _, Nat.zero_le _⟩) (fun H locs hP hD hS => ?_)
          obtain ⟨T_waits_3, hc4, hr⟩ := bd1_some hr
          refine call_v (D := (dC, dI)) (tys := tysA cC cI cJ) (wc := [(a_T_waits, .inl (cI, 6, .inl T_waits_1))]) (wr := [(a_T, .inr (4, [.ref a_T_order, .ref a_T_places, .ref a_T_times, .ref a_T_waits, .ref a_T_wakings, .int T_size_4, .int T_end])), (a_T_order, .inl (cI, 6, .inl T_order_4)), (a_T_wakings, .inl (cI, 6, .inl T_wakings_1)), (a_P1, .inr (1, [.ref a_P1_slate, .ref a_P1_floors, .int P1_here, .int P1_struck])), (a_P1_slate, .inr (5, [.ref a_P1_slate_guestKind, .ref a_P1_slate_guestFloor, .ref a_P1_slate_wishKind, .ref a_P1_slate_wishA, .ref a_P1_slate_wishB, .ref a_P1_slate_wishNames, .int P1_slate_guests, .int P1_slate_wishes, .int P1_slate_start])), (a_P1_slate_wishKind, .inl (cI, 9, .inl P1_slate_wishKind)), (a_P1_slate_wishA, .inl (cI, 9, .inl P1_slate_wishA)), (a_P1_slate_wishNames, .inl (cI, 9, .inl P1_slate_wishNames)), (a_P1_slate_wishB, .inl (cI, 9, .inl P1_slate_wishB)), (a_P1_slate_guestKind, .inl (cI, 6, .inl P1_slate_guestKind)), (a_P1_floors, .inl (cI, 6, .inl P1_floors))]) (w1 := [(a_T_waits, .inl (cI, 6, .inl T_waits_3))]) (wn := [(a_T, .inr (4, [.ref a_T_order, .ref a_T_places, .ref a_T_times, .ref a_T_waits, .ref a_T_wakings, .int T_size_4, .int T_end])), (a_T_order, .inl (cI, 6, .inl T_order_4)), (a_T_waits, .inl (cI, 6, .inl T_waits_3)), (a_T_wakings, .inl (cI, 6, .inl T_wakings_1)), (a_P1, .inr (1, [.ref a_P1_slate, .ref a_P1_floors, .int P1_here, .int P1_struck])), (a_P1_slate, .inr (5, [.ref a_P1_slate_guestKind, .ref a_P1_slate_guestFloor, .ref a_P1_slate_wishKind, .ref a_P1_slate_wishA, .ref a_P1_slate_wishB, .ref a_P1_slate_wishNames, .int P1_slate_guests, .int P1_slate_wishes, .int P1_slate_start])), (a_P1_slate_wishKind, .inl (cI, 9, .inl P1_slate_wishKind)), (a_P1_slate_wishA, .inl (cI, 9, .inl P1_slate_wishA)), (a_P1_slate_wishNames, .inl (cI, 9, .inl P1_slate_wishNames)), (a_P1_slate_wishB, .inl (cI, 9, .inl P1_slate_wishB)), (a_P1_slate_guestKind, .inl (cI, 6, .inl P1_slate_guestKind)), (a_P1_floors, .inl (cI, 6, .inl P1_floors))]) hP hD hS hA [2] [0, 1, 3, 4, 5, 6, 7, 8, 9, 10, 11] [0, 1, 11, 2, 3, 4, 5, 6, 7, 8, 9, 10] rfl rfl (by decide +kernel) (by decide +kernel) rfl (by decide +kernel) (va_runSN (host := "BootsAtDawn") (As := [.ref a_T_waits, .int x2, .int r_1]) (rest := []) ⟨hx, hb, hml, hown, hts⟩ (kX8_put l dC dI cC cI cJ H.size K a_T_waits 6 x2 r_1 T_waits_1 T_waits_3 hc4) ⟨va_cnB 3 hts gX4_beginWith_X8_put_n40 rfl rfl rfl (hN _ nw_81) (hts _ mbX4_beginWith_4) (by decide +kernel) ⟨Nat.le_of_ble_eq_true rfl, Nat.le_of_ble_eq_true rfl⟩, (hts _ mbX4_beginWith_6), trivial⟩ ⟨fbW, preW hP hD hK hN [2] rfl (by decide +kernel)⟩ rfl rfl hl.1 rfl (lv_room (Nat.le_of_ble_eq_true rfl)) dX4_beginWith_59 ⟨Nat.zero_le _, Nat.zero_le _⟩) (fun H locs hP hD hS => ?_)
          refine lv_aload_n hx hb dX4_beginWith_62 rfl (lv_at hl 0 rfl) ?_
          refine va_get (D := (dC, dI)) (ci := 4) (v := .ref a_T_wakings) (C := RX4) (T := TX4) (N := 7) hx hb hts inX4_beginWith_X4 hown hK hP 0 rfl rfl 4 (by decide) (hts _ mbX4_beginWith_11) (fun _ h9 => h9) rfl dX4_beginWith_63 ?_
          refine lv_iload_n hx hb dX4_beginWith_66 rfl (lv_at hl 2 rfl) ?_
          refine lv_aload_n hx hb dX4_beginWith_67 rfl (lv_at hl 1 rfl) ?_
          refine lv_iload_n hx hb dX4_beginWith_68 rfl (lv_at hl 2 rfl) ?_
          obtain ⟨r_2, hc5, hr⟩ := bd1_some hr
          refine call_i (D := (dC, dI)) (tys := tysA cC cI cJ) (wc := [(a_P1, .inr (1, [.ref a_P1_slate, .ref a_P1_floors, .int P1_here, .int P1_struck])), (a_P1_slate, .inr (5, [.ref a_P1_slate_guestKind, .ref a_P1_slate_guestFloor, .ref a_P1_slate_wishKind, .ref a_P1_slate_wishA, .ref a_P1_slate_wishB, .ref a_P1_slate_wishNames, .int P1_slate_guests, .int P1_slate_wishes, .int P1_slate_start])), (a_P1_slate_guestKind, .inl (cI, 6, .inl P1_slate_guestKind)), (a_P1_floors, .inl (cI, 6, .inl P1_floors))]) (wr := [(a_T, .inr (4, [.ref a_T_order, .ref a_T_places, .ref a_T_times, .ref a_T_waits, .ref a_T_wakings, .int T_size_4, .int T_end])), (a_T_order, .inl (cI, 6, .inl T_order_4)), (a_T_waits, .inl (cI, 6, .inl T_waits_3)), (a_T_wakings, .inl (cI, 6, .inl T_wakings_1)), (a_P1_slate_wishKind, .inl (cI, 9, .inl P1_slate_wishKind)), (a_P1_slate_wishA, .inl (cI, 9, .inl P1_slate_wishA)), (a_P1_slate_wishNames, .inl (cI, 9, .inl P1_slate_wishNames)), (a_P1_slate_wishB, .inl (cI, 9, .inl P1_slate_wishB))]) (w1 := [(a_P1, .inr (1, [.ref a_P1_slate, .ref a_P1_floors, .int P1_here, .int P1_struck])), (a_P1_slate, .inr (5, [.ref a_P1_slate_guestKind, .ref a_P1_slate_guestFloor, .ref a_P1_slate_wishKind, .ref a_P1_slate_wishA, .ref a_P1_slate_wishB, .ref a_P1_slate_wishNames, .int P1_slate_guests, .int P1_slate_wishes, .int P1_slate_start])), (a_P1_slate_guestKind, .inl (cI, 6, .inl P1_slate_guestKind)), (a_P1_floors, .inl (cI, 6, .inl P1_floors))]) (wn := [(a_T, .inr (4, [.ref a_T_order, .ref a_T_places, .ref a_T_times, .ref a_T_waits, .ref a_T_wakings, .int T_size_4, .int T_end])), (a_T_order, .inl (cI, 6, .inl T_order_4)), (a_T_waits, .inl (cI, 6, .inl T_waits_3)), (a_T_wakings, .inl (cI, 6, .inl T_wakings_1)), (a_P1, .inr (1, [.ref a_P1_slate, .ref a_P1_floors, .int P1_here, .int P1_struck])), (a_P1_slate, .inr (5, [.ref a_P1_slate_guestKind, .ref a_P1_slate_guestFloor, .ref a_P1_slate_wishKind, .ref a_P1_slate_wishA, .ref a_P1_slate_wishB, .ref a_P1_slate_wishNames, .int P1_slate_guests, .int P1_slate_wishes, .int P1_slate_start])), (a_P1_slate_wishKind, .inl (cI, 9, .inl P1_slate_wishKind)), (a_P1_slate_wishA, .inl (cI, 9, .inl P1_slate_wishA)), (a_P1_slate_wishNames, .inl (cI, 9, .inl P1_slate_wishNames)), (a_P1_slate_wishB, .inl (cI, 9, .inl P1_slate_wishB)), (a_P1_slate_guestKind, .inl (cI, 6, .inl P1_slate_guestKind)), (a_P1_floors, .inl (cI, 6, .inl P1_floors))]) (r0 := r_2) hP hD hS hA [4, 5, 10, 11] [0, 1, 2, 3, 6, 7, 8, 9] [0, 1, 2, 3, 8, 9, 4, 5, 6, 7, 10, 11] rfl rfl (by decide +kernel) (by decide +kernel) rfl (by decide +kernel) (va_runVN (C := RX1) (host := "BootsAtDawn") (As := [.int x2]) (rest := [.int x2, .ref a_T_wakings]) ⟨hx, hb, hml, hown, hts⟩ (kX1_wakingOf l dC dI cC cI cJ H.size K a_P1 a_P1_slate a_P1_floors a_P1_slate_guestKind a_P1_slate_guestFloor a_P1_slate_wishKind a_P1_slate_wishA a_P1_slate_wishB a_P1_slate_wishNames x2 P1_here P1_struck P1_slate_guests P1_slate_wishes P1_slate_start P1_slate_guestKind P1_floors r_2 hc5) ⟨va_cnB 1 hts gX4_beginWith_X1_wakingOf_n48 rfl rfl rfl (hN _ nw_83) (hts _ mbX4_beginWith_8) (by decide +kernel) ⟨Nat.le_of_ble_eq_true rfl, Nat.le_of_ble_eq_true rfl⟩, (hts _ mbX4_beginWith_12), (hts _ mbX4_beginWith_13)⟩ ⟨fbW, va_recv hK hP (ci := 1) (q0 := 4) rfl rfl, preW hP hD hK hN [4, 5, 10, 11] rfl (by decide +kernel)⟩ rfl rfl hl.1 rfl (lv_room (Nat.le_of_ble_eq_true rfl)) dX4_beginWith_69 ⟨Nat.zero_le _, Nat.zero_le _⟩) (fun H locs hP hD hS => ?_)
          obtain ⟨T_wakings_3, hc6, hr⟩ := bd1_some hr
          refine call_v (D := (dC, dI)) (tys := tysA cC cI cJ) (wc := [(a_T_wakings, .inl (cI, 6, .inl T_wakings_1))]) (wr := [(a_T, .inr (4, [.ref a_T_order, .ref a_T_places, .ref a_T_times, .ref a_T_waits, .ref a_T_wakings, .int T_size_4, .int T_end])), (a_T_order, .inl (cI, 6, .inl T_order_4)), (a_T_waits, .inl (cI, 6, .inl T_waits_3)), (a_P1, .inr (1, [.ref a_P1_slate, .ref a_P1_floors, .int P1_here, .int P1_struck])), (a_P1_slate, .inr (5, [.ref a_P1_slate_guestKind, .ref a_P1_slate_guestFloor, .ref a_P1_slate_wishKind, .ref a_P1_slate_wishA, .ref a_P1_slate_wishB, .ref a_P1_slate_wishNames, .int P1_slate_guests, .int P1_slate_wishes, .int P1_slate_start])), (a_P1_slate_wishKind, .inl (cI, 9, .inl P1_slate_wishKind)), (a_P1_slate_wishA, .inl (cI, 9, .inl P1_slate_wishA)), (a_P1_slate_wishNames, .inl (cI, 9, .inl P1_slate_wishNames)), (a_P1_slate_wishB, .inl (cI, 9, .inl P1_slate_wishB)), (a_P1_slate_guestKind, .inl (cI, 6, .inl P1_slate_guestKind)), (a_P1_floors, .inl (cI, 6, .inl P1_floors))]) (w1 := [(a_T_wakings, .inl (cI, 6, .inl T_wakings_3))]) (wn := [(a_T, .inr (4, [.ref a_T_order, .ref a_T_places, .ref a_T_times, .ref a_T_waits, .ref a_T_wakings, .int T_size_4, .int T_end])), (a_T_order, .inl (cI, 6, .inl T_order_4)), (a_T_waits, .inl (cI, 6, .inl T_waits_3)), (a_T_wakings, .inl (cI, 6, .inl T_wakings_3)), (a_P1, .inr (1, [.ref a_P1_slate, .ref a_P1_floors, .int P1_here, .int P1_struck])), (a_P1_slate, .inr (5, [.ref a_P1_slate_guestKind, .ref a_P1_slate_guestFloor, .ref a_P1_slate_wishKind, .ref a_P1_slate_wishA, .ref a_P1_slate_wishB, .ref a_P1_slate_wishNames, .int P1_slate_guests, .int P1_slate_wishes, .int P1_slate_start])), (a_P1_slate_wishKind, .inl (cI, 9, .inl P1_slate_wishKind)), (a_P1_slate_wishA, .inl (cI, 9, .inl P1_slate_wishA)), (a_P1_slate_wishNames, .inl (cI, 9, .inl P1_slate_wishNames)), (a_P1_slate_wishB, .inl (cI, 9, .inl P1_slate_wishB)), (a_P1_slate_guestKind, .inl (cI, 6, .inl P1_slate_guestKind)), (a_P1_floors, .inl (cI, 6, .inl P1_floors))]) hP hD hS hA [3] [0, 1, 2, 4, 5, 6, 7, 8, 9, 10, 11] [0, 1, 2, 11, 3, 4, 5, 6, 7, 8, 9, 10] rfl rfl (by decide +kernel) (by decide +kernel) rfl (by decide +kernel) (va_runSN (host := "BootsAtDawn") (As := [.ref a_T_wakings, .int x2, .int r_2]) (rest := []) ⟨hx, hb, hml, hown, hts⟩ (kX8_put l dC dI cC cI cJ H.size K a_T_wakings 6 x2 r_2 T_wakings_1 T_wakings_3 hc6) ⟨va_cnB 3 hts gX4_beginWith_X8_put_n40 rfl rfl rfl (hN _ nw_81) (hts _ mbX4_beginWith_4) (by decide +kernel) ⟨Nat.le_of_ble_eq_true rfl, Nat.le_of_ble_eq_true rfl⟩, (hts _ mbX4_beginWith_6), trivial⟩ ⟨fbW, preW hP hD hK hN [3] rfl (by decide +kernel)⟩ rfl rfl hl.1 rfl (lv_room (Nat.le_of_ble_eq_true rfl)) dX4_beginWith_72 ⟨Nat.zero_le _, Nat.zero_le _⟩) (fun H locs hP hD hS => ?_)
          obtain ⟨x2_1, e2, hr⟩ := nm_el hr
          refine lv_iinc (v := x2_1) (lv' := [(2, .int x2_1), (0, .ref a_T), (1, .ref a_P1)]) hx hb dX4_beginWith_75 hl (k := 2) rfl e2.symm (by decide) rfl (fun ls hl => ?_)
          refine lv_goto (tgt := 7) hx hb dX4_beginWith_78 (by decide) ?_
          exact ih7 _ _ _ _ _ _ _ _ _ hr hX1 H locs ls hP hD hS (lv_sub hl [1, 2, 0] rfl)
        replace hr := hj1
        refine lv_if_eq (tgt := 49) hx hb dX4_beginWith_24 (by decide) (fun c2 => ?_) (fun c2 => ?_)
        · replace hr := it_t hr c2
          cases hr
          exact hJ1 H locs ls hP hD hS (lv_sub hl [0, 1, 2] rfl)
        · replace hr := it_f hr c2
          refine lv_aload_n hx hb dX4_beginWith_27 rfl (lv_at hl 0 rfl) ?_
          refine va_get (D := (dC, dI)) (ci := 4) (v := .ref a_T_order) (C := RX4) (T := TX4) (N := 7) hx hb hts inX4_beginWith_X4 hown hK hP 0 rfl rfl 0 (by decide) (hts _ mbX4_beginWith_2) (fun _ h9 => h9) rfl dX4_beginWith_28 ?_
          refine lv_aload_n hx hb dX4_beginWith_31 rfl (lv_at hl 0 rfl) ?_
          refine va_get (D := (dC, dI)) (ci := 4) (v := .int T_size_1) (C := RX4) (T := TX4) (N := 7) hx hb hts inX4_beginWith_X4 hown hK hP 0 rfl rfl 5 (by decide) (hts _ mbX4_beginWith_0) (fun _ h9 => h9) rfl dX4_beginWith_32 ?_
          refine lv_iload_n hx hb dX4_beginWith_35 rfl (lv_at hl 2 rfl) ?_
          obtain ⟨T_order_3, hc2, hr⟩ := bd1_some hr
          refine call_v (D := (dC, dI)) (tys := tysA cC cI cJ) (wc := [(a_T_order, .inl (cI, 6, .inl T_order_1))]) (wr := [(a_T, .inr (4, [.ref a_T_order, .ref a_T_places, .ref a_T_times, .ref a_T_waits, .ref a_T_wakings, .int T_size_1, .int T_end])), (a_T_waits, .inl (cI, 6, .inl T_waits_1)), (a_T_wakings, .inl (cI, 6, .inl T_wakings_1)), (a_P1, .inr (1, [.ref a_P1_slate, .ref a_P1_floors, .int P1_here, .int P1_struck])), (a_P1_slate, .inr (5, [.ref a_P1_slate_guestKind, .ref a_P1_slate_guestFloor, .ref a_P1_slate_wishKind, .ref a_P1_slate_wishA, .ref a_P1_slate_wishB, .ref a_P1_slate_wishNames, .int P1_slate_guests, .int P1_slate_wishes, .int P1_slate_start])), (a_P1_slate_wishKind, .inl (cI, 9, .inl P1_slate_wishKind)), (a_P1_slate_wishA, .inl (cI, 9, .inl P1_slate_wishA)), (a_P1_slate_wishNames, .inl (cI, 9, .inl P1_slate_wishNames)), (a_P1_slate_wishB, .inl (cI, 9, .inl P1_slate_wishB)), (a_P1_slate_guestKind, .inl (cI, 6, .inl P1_slate_guestKind)), (a_P1_floors, .inl (cI, 6, .inl P1_floors))]) (w1 := [(a_T_order, .inl (cI, 6, .inl T_order_3))]) (wn := [(a_T, .inr (4, [.ref a_T_order, .ref a_T_places, .ref a_T_times, .ref a_T_waits, .ref a_T_wakings, .int T_size_1, .int T_end])), (a_T_order, .inl (cI, 6, .inl T_order_3)), (a_T_waits, .inl (cI, 6, .inl T_waits_1)), (a_T_wakings, .inl (cI, 6, .inl T_wakings_1)), (a_P1, .inr (1, [.ref a_P1_slate, .ref a_P1_floors, .int P1_here, .int P1_struck])), (a_P1_slate, .inr (5, [.ref a_P1_slate_guestKind, .ref a_P1_slate_guestFloor, .ref a_P1_slate_wishKind, .ref a_P1_slate_wishA, .ref a_P1_slate_wishB, .ref a_P1_slate_wishNames, .int P1_slate_guests, .int P1_slate_wishes, .int P1_slate_start])), (a_P1_slate_wishKind, .inl (cI, 9, .inl P1_slate_wishKind)), (a_P1_slate_wishA, .inl (cI, 9, .inl P1_slate_wishA)), (a_P1_slate_wishNames, .inl (cI, 9, .inl P1_slate_wishNames)), (a_P1_slate_wishB, .inl (cI, 9, .inl P1_slate_wishB)), (a_P1_slate_guestKind, .inl (cI, 6, .inl P1_slate_guestKind)), (a_P1_floors, .inl (cI, 6, .inl P1_floors))]) hP hD hS hA [1] [0, 2, 3, 4, 5, 6, 7, 8, 9, 10, 11] [0, 11, 1, 2, 3, 4, 5, 6, 7, 8, 9, 10] rfl rfl (by decide +kernel) (by decide +kernel) rfl (by decide +kernel) (va_runSN (host := "BootsAtDawn") (As := [.ref a_T_order, .int T_size_1, .int x2]) (rest := []) ⟨hx, hb, hml, hown, hts⟩ (kX8_put l dC dI cC cI cJ H.size K a_T_order 6 T_size_1 x2 T_order_1 T_order_3 hc2) ⟨va_cnB 3 hts gX4_beginWith_X8_put_n40 rfl rfl rfl (hN _ nw_81) (hts _ mbX4_beginWith_4) (by decide +kernel) ⟨Nat.le_of_ble_eq_true rfl, Nat.le_of_ble_eq_true rfl⟩, (hts _ mbX4_beginWith_6), trivial⟩ ⟨fbW, preW hP hD hK hN [1] rfl (by decide +kernel)⟩ rfl rfl hl.1 rfl (lv_room (Nat.le_of_ble_eq_true rfl)) dX4_beginWith_36 ⟨Nat.zero_le _, Nat.zero_le _⟩) (fun H locs hP hD hS => ?_)
          refine lv_aload_n hx hb dX4_beginWith_39 rfl (lv_at hl 0 rfl) ?_
          refine lv_dup hx hb dX4_beginWith_40 rfl ?_
          refine va_get (D := (dC, dI)) (ci := 4) (v := .int T_size_1) (C := RX4) (T := TX4) (N := 7) hx hb hts inX4_beginWith_X4 hown hK hP 0 rfl rfl 5 (by decide) (hts _ mbX4_beginWith_0) (fun _ h9 => h9) rfl dX4_beginWith_41 ?_
          refine lv_iconst (v := 1) hx hb dX4_beginWith_44 (by decide) ?_
          refine lv_iadd hx hb dX4_beginWith_45 ?_
          obtain ⟨T_size_3, e1, hr⟩ := nm_el hr
          refine lv_nmi e1 ?_
          refine va_put (D := (dC, dI)) (ci := 4) (v := .int T_size_3) (ty := .int) (C := RX4) (T := TX4) (N := 7) hx hb hts inX4_beginWith_X4 tyX4 tyX4_ok nmX4 hown hK hP hD hS 0 rfl rfl 5 (by decide) (hts _ mbX4_beginWith_0) (fun _ h9 => h9) rfl (by decide +kernel) rfl rfl (Nat.le_of_ble_eq_true rfl) dX4_beginWith_46 (fun H locs hP hD hS => ?_)
          replace hP : va_P (dC, dI) vwCl [(a_T, .inr (4, [.ref a_T_order, .ref a_T_places, .ref a_T_times, .ref a_T_waits, .ref a_T_wakings, .int T_size_3, .int T_end])), (a_T_order, .inl (cI, 6, .inl T_order_3)), (a_T_waits, .inl (cI, 6, .inl T_waits_1)), (a_T_wakings, .inl (cI, 6, .inl T_wakings_1)), (a_P1, .inr (1, [.ref a_P1_slate, .ref a_P1_floors, .int P1_here, .int P1_struck])), (a_P1_slate, .inr (5, [.ref a_P1_slate_guestKind, .ref a_P1_slate_guestFloor, .ref a_P1_slate_wishKind, .ref a_P1_slate_wishA, .ref a_P1_slate_wishB, .ref a_P1_slate_wishNames, .int P1_slate_guests, .int P1_slate_wishes, .int P1_slate_start])), (a_P1_slate_wishKind, .inl (cI, 9, .inl P1_slate_wishKind)), (a_P1_slate_wishA, .inl (cI, 9, .inl P1_slate_wishA)), (a_P1_slate_wishNames, .inl (cI, 9, .inl P1_slate_wishNames)), (a_P1_slate_wishB, .inl (cI, 9, .inl P1_slate_wishB)), (a_P1_slate_guestKind, .inl (cI, 6, .inl P1_slate_guestKind)), (a_P1_floors, .inl (cI, 6, .inl P1_floors))] H := hP
          replace hD : va_D A [(a_T, .inr (4, [.ref a_T_order, .ref a_T_places, .ref a_T_times, .ref a_T_waits, .ref a_T_wakings, .int T_size_3, .int T_end])), (a_T_order, .inl (cI, 6, .inl T_order_3)), (a_T_waits, .inl (cI, 6, .inl T_waits_1)), (a_T_wakings, .inl (cI, 6, .inl T_wakings_1)), (a_P1, .inr (1, [.ref a_P1_slate, .ref a_P1_floors, .int P1_here, .int P1_struck])), (a_P1_slate, .inr (5, [.ref a_P1_slate_guestKind, .ref a_P1_slate_guestFloor, .ref a_P1_slate_wishKind, .ref a_P1_slate_wishA, .ref a_P1_slate_wishB, .ref a_P1_slate_wishNames, .int P1_slate_guests, .int P1_slate_wishes, .int P1_slate_start])), (a_P1_slate_wishKind, .inl (cI, 9, .inl P1_slate_wishKind)), (a_P1_slate_wishA, .inl (cI, 9, .inl P1_slate_wishA)), (a_P1_slate_wishNames, .inl (cI, 9, .inl P1_slate_wishNames)), (a_P1_slate_wishB, .inl (cI, 9, .inl P1_slate_wishB)), (a_P1_slate_guestKind, .inl (cI, 6, .inl P1_slate_guestKind)), (a_P1_floors, .inl (cI, 6, .inl P1_floors))] := hD
          cases hr
          exact hJ1 H locs ls hP hD hS (lv_sub hl [0, 1, 2] rfl)
  obtain ⟨T_size_2, T_order_2, T_waits_2, T_wakings_2, hE, hr⟩ := bd4_some hr
  refine hL1 K 0 0 T_order T_waits T_wakings T_size_2 T_order_2 T_waits_2 T_wakings_2 hE ?_ H locs ls hP hD hS (lv_sub hl [1, 2, 0] rfl)
  intro H locs ls hP hD hS hl
  have he := Option.some.inj hr
  subst he
  subst hQ
  exact ret_v hx hb hrt hK hP hD hS hlocks dX4_beginWith_81
def fX4_swap (K : Nat) (x1 : Int32) (x2 : Int32) (T_order : (Nat → Int32)) : Option ((Nat → Int32)) :=
    bd1 (fX8_at K 6 x1 T_order) fun r =>
    bd1 (fX8_at K 6 x2 T_order) fun r_1 =>
    bd1 (fX8_put K 6 x1 r_1 T_order) fun T_order_1 =>
    bd1 (fX8_put K 6 x2 r T_order_1) fun T_order_2 =>
    some T_order_2
theorem mbX4_swap_0 : Cond.fieldLink RX4 9 "BootsAtDawn$Round" "order" "[I" ∈ wsX4_swap := List.mem_of_getElem? (i := 1) rfl
theorem inX4_swap_X4 : ∀ w ∈ u_ws RX4 TX4 7, w ∈ wsX4_swap := fun _ h => (List.mem_cons_of_mem _ (List.mem_append_right _ h))
theorem mbX4_swap_2 : Cond.initialized RX8 ∈ wsX4_swap := List.mem_of_getElem? (i := 3) rfl
theorem mbX4_swap_3 : Cond.static yX8_at ∈ wsX4_swap := List.mem_of_getElem? (i := 2) rfl
theorem mbX4_swap_4 : Cond.static yX8_put ∈ wsX4_swap := List.mem_of_getElem? (i := 5) rfl
abbrev rmX4_swap : Room := { frames := 1, cells := 0, slots := 0, locals := 22 }
set_option maxHeartbeats 8000000 in
set_option maxRecDepth 100000 in
theorem kX4_swap (l : Launch) (dC : Nat → ClassId) (dI : Nat → Nat → Nat) (cC cI cJ : ClassId) (sz : Nat) (K : Nat) (a_T a_T_order a_T_places a_T_times a_T_waits a_T_wakings : Nat) (x1 : Int32) (x2 : Int32) (T_size : Int32) (T_end : Int32) (T_order : (Nat → Int32)) (R : (Nat → Int32)) (hr : fX4_swap K x1 x2 T_order = some R) : Met l yX4_swap wsX4_swap rmX4_swap (va_Pc ([.ref a_T, .int x1, .int x2] : List Value) (PcW (dC, dI) (tysA cC cI cJ) sz [(a_T, .inr (4, [.ref a_T_order, .ref a_T_places, .ref a_T_times, .ref a_T_waits, .ref a_T_wakings, .int T_size, .int T_end])), (a_T_order, .inl (cI, 6, .inl T_order))])) (va_Qv (fun (_ : Unit) => True) (fun _ => BW (dC, dI) (tysA cC cI cJ) (va_A [(a_T, .inr (4, [.ref a_T_order, .ref a_T_places, .ref a_T_times, .ref a_T_waits, .ref a_T_wakings, .int T_size, .int T_end])), (a_T_order, .inl (cI, 6, .inl T_order))] sz) [(a_T, .inr (4, [.ref a_T_order, .ref a_T_places, .ref a_T_times, .ref a_T_waits, .ref a_T_wakings, .int T_size, .int T_end])), (a_T_order, .inl (cI, 6, .inl R))]) (va_A [(a_T, .inr (4, [.ref a_T_order, .ref a_T_places, .ref a_T_times, .ref a_T_waits, .ref a_T_wakings, .int T_size, .int T_end])), (a_T_order, .inl (cI, 6, .inl T_order))] sz)) 0 0 (va_A [(a_T, .inr (4, [.ref a_T_order, .ref a_T_places, .ref a_T_times, .ref a_T_waits, .ref a_T_wakings, .int T_size, .int T_end])), (a_T_order, .inl (cI, 6, .inl T_order))] sz) := by
  refine Met.ofW (cc := cX4_swap) (maxL := 4) (ret := none) (by decide) rfl ?_
  intro p e s m args below meth c s₁ B hml hv
  obtain ⟨rfl, hsz, hP, hK, hD0, hN⟩ := hv
  have hx := B.exec
  have hb := B.bytes
  have hrt := B.returns
  have hts := atoms_spec (ws := wsX4_swap) B.pre
  have hown : s.vm.findClass RX4 = some m.cls := findClass_of_methodNamed B.named
  have hlocks := B.notSynchronized
  subst hsz
  have hD := hD0.self (sz := s.heap.size)
  generalize hAe : va_A [(a_T, .inr (4, [.ref a_T_order, .ref a_T_places, .ref a_T_times, .ref a_T_waits, .ref a_T_wakings, .int T_size, .int T_end])), (a_T_order, .inl (cI, 6, .inl T_order))] s.heap.size = A at hD ⊢
  have hA : ∀ q : Nat, s.heap.size ≤ q → A q := fun q h => by rw [← hAe]; exact Or.inr h
  have hS : va_S A s.heap s.heap [] := va_S.rf
  have hl := lv_entry ([.ref a_T, .int x1, .int x2] : List Value) (n := 4) (Nat.le_of_ble_eq_true rfl)
  rw [lg_entry_eq]
  generalize (lg_sl ([.ref a_T, .int x1, .int x2] : List Value) ++ List.replicate (4 - (lg_sl ([.ref a_T, .int x1, .int x2] : List Value)).length) Slot.unset).toArray = ls at hl ⊢
  replace hl : lv_has ls 4 [(0, .ref a_T), (1, .int x1), (2, .int x2)] := hl
  obtain ⟨Q, hQ⟩ : ∃ Q, Q = MQ below (va_Qv (fun (_ : Unit) => True) (fun _ => BW (dC, dI) (tysA cC cI cJ) A [(a_T, .inr (4, [.ref a_T_order, .ref a_T_places, .ref a_T_times, .ref a_T_waits, .ref a_T_wakings, .int T_size, .int T_end])), (a_T_order, .inl (cI, 6, .inl R))]) A) ([.ref a_T, .int x1, .int x2] : List Value).toArray s 0 0 A := ⟨_, rfl⟩
  rw [← hQ]
  suffices hE : WG p l e rmX4_swap s m ([.ref a_T, .int x1, .int x2] : List Value).toArray below meth c 0 0 Q (dC, dI) A 0 4 [(a_T, .inr (4, [.ref a_T_order, .ref a_T_places, .ref a_T_times, .ref a_T_waits, .ref a_T_wakings, .int T_size, .int T_end])), (a_T_order, .inl (cI, 6, .inl T_order))] [(0, .ref a_T), (1, .int x1), (2, .int x2)] [] from hE _ _ _ hP hD hS hl
  clear hP hD hS hl hD0 hAe
  intro H locs ls hP hD hS hl
  unfold fX4_swap at hr
  refine lv_aload_n hx hb dX4_swap_0 rfl (lv_at hl 0 rfl) ?_
  refine va_get (D := (dC, dI)) (ci := 4) (v := .ref a_T_order) (C := RX4) (T := TX4) (N := 7) hx hb hts inX4_swap_X4 hown hK hP 0 rfl rfl 0 (by decide) (hts _ mbX4_swap_0) (fun _ h9 => h9) rfl dX4_swap_1 ?_
  refine lv_iload_n hx hb dX4_swap_4 rfl (lv_at hl 1 rfl) ?_
  obtain ⟨r, hc1, hr⟩ := bd1_some hr
  refine call_i (D := (dC, dI)) (tys := tysA cC cI cJ) (wc := [(a_T_order, .inl (cI, 6, .inl T_order))]) (wr := [(a_T, .inr (4, [.ref a_T_order, .ref a_T_places, .ref a_T_times, .ref a_T_waits, .ref a_T_wakings, .int T_size, .int T_end]))]) (w1 := [(a_T_order, .inl (cI, 6, .inl T_order))]) (wn := [(a_T, .inr (4, [.ref a_T_order, .ref a_T_places, .ref a_T_times, .ref a_T_waits, .ref a_T_wakings, .int T_size, .int T_end])), (a_T_order, .inl (cI, 6, .inl T_order))]) (r0 := r) hP hD hS hA [1] [0] [0, 1] rfl rfl (by decide +kernel) (by decide +kernel) rfl (by decide +kernel) (va_runSN (host := "BootsAtDawn") (As := [.ref a_T_order, .int x1]) (rest := []) ⟨hx, hb, hml, hown, hts⟩ (kX8_at l dC dI cC cI cJ H.size K a_T_order 6 x1 T_order r hc1) ⟨va_cnB 2 hts gX4_swap_X8_at_n51 rfl rfl rfl (hN _ nw_85) (hts _ mbX4_swap_2) (by decide +kernel) ⟨Nat.le_of_ble_eq_true rfl, Nat.le_of_ble_eq_true rfl⟩, (hts _ mbX4_swap_3), trivial⟩ ⟨fbW, preW hP hD hK hN [1] rfl (by decide +kernel)⟩ rfl rfl hl.1 rfl (lv_room (Nat.le_of_ble_eq_true rfl)) dX4_swap_5 ⟨Nat.zero_le _, Nat.zero_le _⟩) (fun H locs hP hD hS => ?_)
  refine lv_istore_n (lv' := [(3, .int r), (0, .ref a_T), (1, .int x1), (2, .int x2)]) hx hb dX4_swap_8 rfl hl (by decide) rfl (fun ls hl => ?_)
  refine lv_aload_n hx hb dX4_swap_9 rfl (lv_at hl 1 rfl) ?_
  refine va_get (D := (dC, dI)) (ci := 4) (v := .ref a_T_order) (C := RX4) (T := TX4) (N := 7) hx hb hts inX4_swap_X4 hown hK hP 0 rfl rfl 0 (by decide) (hts _ mbX4_swap_0) (fun _ h9 => h9) rfl dX4_swap_10 ?_
  refine lv_iload_n hx hb dX4_swap_13 rfl (lv_at hl 2 rfl) ?_
  refine lv_aload_n hx hb dX4_swap_14 rfl (lv_at hl 1 rfl) ?_
  refine va_get (D := (dC, dI)) (ci := 4) (v := .ref a_T_order) (C := RX4) (T := TX4) (N := 7) hx hb hts inX4_swap_X4 hown hK hP 0 rfl rfl 0 (by decide) (hts _ mbX4_swap_0) (fun _ h9 => h9) rfl dX4_swap_15 ?_
  refine lv_iload_n hx hb dX4_swap_18 rfl (lv_at hl 3 rfl) ?_
  obtain ⟨r_1, hc2, hr⟩ := bd1_some hr
  refine call_i (D := (dC, dI)) (tys := tysA cC cI cJ) (wc := [(a_T_order, .inl (cI, 6, .inl T_order))]) (wr := [(a_T, .inr (4, [.ref a_T_order, .ref a_T_places, .ref a_T_times, .ref a_T_waits, .ref a_T_wakings, .int T_size, .int T_end]))]) (w1 := [(a_T_order, .inl (cI, 6, .inl T_order))]) (wn := [(a_T, .inr (4, [.ref a_T_order, .ref a_T_places, .ref a_T_times, .ref a_T_waits, .ref a_T_wakings, .int T_size, .int T_end])), (a_T_order, .inl (cI, 6, .inl T_order))]) (r0 := r_1) hP hD hS hA [1] [0] [0, 1] rfl rfl (by decide +kernel) (by decide +kernel) rfl (by decide +kernel) (va_runSN (host := "BootsAtDawn") (As := [.ref a_T_order, .int x2]) (rest := [.int x1, .ref a_T_order]) ⟨hx, hb, hml, hown, hts⟩ (kX8_at l dC dI cC cI cJ H.size K a_T_order 6 x2 T_order r_1 hc2) ⟨va_cnB 2 hts gX4_swap_X8_at_n51 rfl rfl rfl (hN _ nw_85) (hts _ mbX4_swap_2) (by decide +kernel) ⟨Nat.le_of_ble_eq_true rfl, Nat.le_of_ble_eq_true rfl⟩, (hts _ mbX4_swap_3), trivial⟩ ⟨fbW, preW hP hD hK hN [1] rfl (by decide +kernel)⟩ rfl rfl hl.1 rfl (lv_room (Nat.le_of_ble_eq_true rfl)) dX4_swap_19 ⟨Nat.zero_le _, Nat.zero_le _⟩) (fun H locs hP hD hS => ?_)
  obtain ⟨T_order_1, hc3, hr⟩ := bd1_some hr
  refine call_v (D := (dC, dI)) (tys := tysA cC cI cJ) (wc := [(a_T_order, .inl (cI, 6, .inl T_order))]) (wr := [(a_T, .inr (4, [.ref a_T_order, .ref a_T_places, .ref a_T_times, .ref a_T_waits, .ref a_T_wakings, .int T_size, .int T_end]))]) (w1 := [(a_T_order, .inl (cI, 6, .inl T_order_1))]) (wn := [(a_T, .inr (4, [.ref a_T_order, .ref a_T_places, .ref a_T_times, .ref a_T_waits, .ref a_T_wakings, .int T_size, .int T_end])), (a_T_order, .inl (cI, 6, .inl T_order_1))]) hP hD hS hA [1] [0] [0, 1] rfl rfl (by decide +kernel) (by decide +kernel) rfl (by decide +kernel) (va_runSN (host := "BootsAtDawn") (As := [.ref a_T_order, .int x1, .int r_1]) (rest := []) ⟨hx, hb, hml, hown, hts⟩ (kX8_put l dC dI cC cI cJ H.size K a_T_order 6 x1 r_1 T_order T_order_1 hc3) ⟨va_cnB 3 hts gX4_swap_X8_put_n40 rfl rfl rfl (hN _ nw_81) (hts _ mbX4_swap_2) (by decide +kernel) ⟨Nat.le_of_ble_eq_true rfl, Nat.le_of_ble_eq_true rfl⟩, (hts _ mbX4_swap_4), trivial⟩ ⟨fbW, preW hP hD hK hN [1] rfl (by decide +kernel)⟩ rfl rfl hl.1 rfl (lv_room (Nat.le_of_ble_eq_true rfl)) dX4_swap_22 ⟨Nat.zero_le _, Nat.zero_le _⟩) (fun H locs hP hD hS => ?_)
  refine lv_aload_n hx hb dX4_swap_25 rfl (lv_at hl 1 rfl) ?_
  refine va_get (D := (dC, dI)) (ci := 4) (v := .ref a_T_order) (C := RX4) (T := TX4) (N := 7) hx hb hts inX4_swap_X4 hown hK hP 0 rfl rfl 0 (by decide) (hts _ mbX4_swap_0) (fun _ h9 => h9) rfl dX4_swap_26 ?_
  refine lv_iload_n hx hb dX4_swap_29 rfl (lv_at hl 3 rfl) ?_
  refine lv_iload_n hx hb dX4_swap_30 rfl (lv_at hl 0 rfl) ?_
  obtain ⟨T_order_2, hc4, hr⟩ := bd1_some hr
  refine call_v (D := (dC, dI)) (tys := tysA cC cI cJ) (wc := [(a_T_order, .inl (cI, 6, .inl T_order_1))]) (wr := [(a_T, .inr (4, [.ref a_T_order, .ref a_T_places, .ref a_T_times, .ref a_T_waits, .ref a_T_wakings, .int T_size, .int T_end]))]) (w1 := [(a_T_order, .inl (cI, 6, .inl T_order_2))]) (wn := [(a_T, .inr (4, [.ref a_T_order, .ref a_T_places, .ref a_T_times, .ref a_T_waits, .ref a_T_wakings, .int T_size, .int T_end])), (a_T_order, .inl (cI, 6, .inl T_order_2))]) hP hD hS hA [1] [0] [0, 1] rfl rfl (by decide +kernel) (by decide +kernel) rfl (by decide +kernel) (va_runSN (host := "BootsAtDawn") (As := [.ref a_T_order, .int x2, .int r]) (rest := []) ⟨hx, hb, hml, hown, hts⟩ (kX8_put l dC dI cC cI cJ H.size K a_T_order 6 x2 r T_order_1 T_order_2 hc4) ⟨va_cnB 3 hts gX4_swap_X8_put_n40 rfl rfl rfl (hN _ nw_81) (hts _ mbX4_swap_2) (by decide +kernel) ⟨Nat.le_of_ble_eq_true rfl, Nat.le_of_ble_eq_true rfl⟩, (hts _ mbX4_swap_4), trivial⟩ ⟨fbW, preW hP hD hK hN [1] rfl (by decide +kernel)⟩ rfl rfl hl.1 rfl (lv_room (Nat.le_of_ble_eq_true rfl)) dX4_swap_31 ⟨Nat.zero_le _, Nat.zero_le _⟩) (fun H locs hP hD hS => ?_)
  have he := Option.some.inj hr
  subst he
  subst hQ
  exact ret_v hx hb hrt hK hP hD hS hlocks dX4_swap_34
def fX4_turnToNext_L7 (K : Nat) (T_order : (Nat → Int32)) : Nat → Int32 → Option (Int32)
  | 0, _ => none
  | n1 + 1, x1_1 =>
    if (x1_1 : Int32) < 0 then (
    some x1_1)
    else (
    bd1 (fX8_at K 6 x1_1 T_order) fun r =>
    bd1 (fX8_at K 6 (x1_1 + 1) T_order) fun r_1 =>
    if (r : Int32) ≤ r_1 then (
    some x1_1)
    else (
    nm (x1_1 + (-1)) fun x1_3 =>
    fX4_turnToNext_L7 K T_order n1 x1_3))
def fX4_turnToNext_L51 (K : Nat) (x1_2 : Int32) (T_order : (Nat → Int32)) : Nat → Int32 → Option (Int32)
  | 0, _ => none
  | n2 + 1, x2_1 =>
    if (x2_1 : Int32) ≤ x1_2 then (
    some x2_1)
    else (
    bd1 (fX8_at K 6 x2_1 T_order) fun r_2 =>
    bd1 (fX8_at K 6 x1_2 T_order) fun r_3 =>
    if r_3 ≤ (r_2 : Int32) then (
    some x2_1)
    else (
    nm (x2_1 + (-1)) fun x2_3 =>
    fX4_turnToNext_L51 K x1_2 T_order n2 x2_3))
def fX4_turnToNext_L99 (K : Nat) : Nat → Int32 → Int32 → (Nat → Int32) → Option ((Nat → Int32))
  | 0, _, _, _ => none
  | n3 + 1, x3_1, x4_1, T_order_2 =>
    if x4_1 ≤ (x3_1 : Int32) then (
    some T_order_2)
    else (
    bd1 (fX4_swap K x3_1 x4_1 T_order_2) fun T_order_4 =>
    nm (x3_1 + 1) fun x3_2 =>
    nm (x4_1 + (-1)) fun x4_2 =>
    fX4_turnToNext_L99 K n3 x3_2 x4_2 T_order_4)
def fX4_turnToNext (K : Nat) (T_size : Int32) (T_order : (Nat → Int32)) : Option (Int32 × (Nat → Int32)) :=
    nm (T_size - 2) fun x1 =>
    bd1 (fX4_turnToNext_L7 K T_order K x1) fun x1_2 =>
    if 0 ≤ (x1_2 : Int32) then (
    nm (T_size - 1) fun x2 =>
    bd1 (fX4_turnToNext_L51 K x1_2 T_order K x2) fun x2_2 =>
    bd1 (fX4_swap K x1_2 x2_2 T_order) fun T_order_1 =>
    nm (x1_2 + 1) fun x3 =>
    nm (T_size - 1) fun x4 =>
    bd1 (fX4_turnToNext_L99 K K x3 x4 T_order_1) fun T_order_3 =>
    some (1, T_order_3))
    else (
    some (0, T_order))
theorem mbX4_turnToNext_0 : Cond.fieldLink RX4 27 "BootsAtDawn$Round" "size" "I" ∈ wsX4_turnToNext := List.mem_of_getElem? (i := 1) rfl
theorem inX4_turnToNext_X4 : ∀ w ∈ u_ws RX4 TX4 7, w ∈ wsX4_turnToNext := fun _ h => (List.mem_cons_of_mem _ (List.mem_append_right _ h))
theorem mbX4_turnToNext_2 : Cond.fieldLink RX4 9 "BootsAtDawn$Round" "order" "[I" ∈ wsX4_turnToNext := List.mem_of_getElem? (i := 2) rfl
theorem mbX4_turnToNext_3 : Cond.initialized RX8 ∈ wsX4_turnToNext := List.mem_of_getElem? (i := 4) rfl
theorem mbX4_turnToNext_4 : Cond.static yX8_at ∈ wsX4_turnToNext := List.mem_of_getElem? (i := 3) rfl
abbrev rmX4_turnToNext : Room := { frames := 2, cells := 0, slots := 0, locals := 45 }
set_option maxHeartbeats 8000000 in
set_option maxRecDepth 100000 in
theorem kX4_turnToNext (l : Launch) (dC : Nat → ClassId) (dI : Nat → Nat → Nat) (cC cI cJ : ClassId) (sz : Nat) (K : Nat) (a_T a_T_order a_T_places a_T_times a_T_waits a_T_wakings : Nat) (T_size : Int32) (T_end : Int32) (T_order : (Nat → Int32)) (R : Int32 × (Nat → Int32)) (hr : fX4_turnToNext K T_size T_order = some R) : Met l yX4_turnToNext wsX4_turnToNext rmX4_turnToNext (va_Pc ([.ref a_T] : List Value) (PcW (dC, dI) (tysA cC cI cJ) sz [(a_T, .inr (4, [.ref a_T_order, .ref a_T_places, .ref a_T_times, .ref a_T_waits, .ref a_T_wakings, .int T_size, .int T_end])), (a_T_order, .inl (cI, 6, .inl T_order))])) (va_Qi (fun r (_ : Unit) => r = R.1) (fun _ => BW (dC, dI) (tysA cC cI cJ) (va_A [(a_T, .inr (4, [.ref a_T_order, .ref a_T_places, .ref a_T_times, .ref a_T_waits, .ref a_T_wakings, .int T_size, .int T_end])), (a_T_order, .inl (cI, 6, .inl T_order))] sz) [(a_T, .inr (4, [.ref a_T_order, .ref a_T_places, .ref a_T_times, .ref a_T_waits, .ref a_T_wakings, .int T_size, .int T_end])), (a_T_order, .inl (cI, 6, .inl R.2))]) (va_A [(a_T, .inr (4, [.ref a_T_order, .ref a_T_places, .ref a_T_times, .ref a_T_waits, .ref a_T_wakings, .int T_size, .int T_end])), (a_T_order, .inl (cI, 6, .inl T_order))] sz)) 0 0 (va_A [(a_T, .inr (4, [.ref a_T_order, .ref a_T_places, .ref a_T_times, .ref a_T_waits, .ref a_T_wakings, .int T_size, .int T_end])), (a_T_order, .inl (cI, 6, .inl T_order))] sz) := by
  refine Met.ofW (cc := cX4_turnToNext) (maxL := 5) (ret := (some .boolean)) (by decide) rfl ?_
  intro p e s m args below meth c s₁ B hml hv
  obtain ⟨rfl, hsz, hP, hK, hD0, hN⟩ := hv
  have hx := B.exec
  have hb := B.bytes
  have hrt := B.returns
  have hts := atoms_spec (ws := wsX4_turnToNext) B.pre
  have hown : s.vm.findClass RX4 = some m.cls := findClass_of_methodNamed B.named
  have hlocks := B.notSynchronized
  subst hsz
  have hD := hD0.self (sz := s.heap.size)
  generalize hAe : va_A [(a_T, .inr (4, [.ref a_T_order, .ref a_T_places, .ref a_T_times, .ref a_T_waits, .ref a_T_wakings, .int T_size, .int T_end])), (a_T_order, .inl (cI, 6, .inl T_order))] s.heap.size = A at hD ⊢
  have hA : ∀ q : Nat, s.heap.size ≤ q → A q := fun q h => by rw [← hAe]; exact Or.inr h
  have hS : va_S A s.heap s.heap [] := va_S.rf
  have hl := lv_entry ([.ref a_T] : List Value) (n := 5) (Nat.le_of_ble_eq_true rfl)
  rw [lg_entry_eq]
  generalize (lg_sl ([.ref a_T] : List Value) ++ List.replicate (5 - (lg_sl ([.ref a_T] : List Value)).length) Slot.unset).toArray = ls at hl ⊢
  replace hl : lv_has ls 5 [(0, .ref a_T)] := hl
  obtain ⟨Q, hQ⟩ : ∃ Q, Q = MQ below (va_Qi (fun r (_ : Unit) => r = R.1) (fun _ => BW (dC, dI) (tysA cC cI cJ) A [(a_T, .inr (4, [.ref a_T_order, .ref a_T_places, .ref a_T_times, .ref a_T_waits, .ref a_T_wakings, .int T_size, .int T_end])), (a_T_order, .inl (cI, 6, .inl R.2))]) A) ([.ref a_T] : List Value).toArray s 0 0 A := ⟨_, rfl⟩
  rw [← hQ]
  suffices hE : WG p l e rmX4_turnToNext s m ([.ref a_T] : List Value).toArray below meth c 0 0 Q (dC, dI) A 0 5 [(a_T, .inr (4, [.ref a_T_order, .ref a_T_places, .ref a_T_times, .ref a_T_waits, .ref a_T_wakings, .int T_size, .int T_end])), (a_T_order, .inl (cI, 6, .inl T_order))] [(0, .ref a_T)] [] from hE _ _ _ hP hD hS hl
  clear hP hD hS hl hD0 hAe
  intro H locs ls hP hD hS hl
  unfold fX4_turnToNext at hr
  refine lv_aload_n hx hb dX4_turnToNext_0 rfl (lv_at hl 0 rfl) ?_
  refine va_get (D := (dC, dI)) (ci := 4) (v := .int T_size) (C := RX4) (T := TX4) (N := 7) hx hb hts inX4_turnToNext_X4 hown hK hP 0 rfl rfl 5 (by decide) (hts _ mbX4_turnToNext_0) (fun _ h9 => h9) rfl dX4_turnToNext_1 ?_
  refine lv_iconst (v := 2) hx hb dX4_turnToNext_4 (by decide) ?_
  refine lv_isub hx hb dX4_turnToNext_5 ?_
  obtain ⟨x1, e1, hr⟩ := nm_el hr
  refine lv_nmi e1 ?_
  refine lv_istore_n (lv' := [(1, .int x1), (0, .ref a_T)]) hx hb dX4_turnToNext_6 rfl hl (by decide) rfl (fun ls hl => ?_)
  have hL1 : ∀ (n1 : Nat) (x1_1 : Int32) (x1_2 : Int32), fX4_turnToNext_L7 K T_order n1 x1_1 = some x1_2 → WG p l e rmX4_turnToNext s m ([.ref a_T] : List Value).toArray below meth c 0 0 Q (dC, dI) A 38 5 [(a_T, .inr (4, [.ref a_T_order, .ref a_T_places, .ref a_T_times, .ref a_T_waits, .ref a_T_wakings, .int T_size, .int T_end])), (a_T_order, .inl (cI, 6, .inl T_order))] [(0, .ref a_T), (1, .int x1_2)] [] → WG p l e rmX4_turnToNext s m ([.ref a_T] : List Value).toArray below meth c 0 0 Q (dC, dI) A 7 5 [(a_T, .inr (4, [.ref a_T_order, .ref a_T_places, .ref a_T_times, .ref a_T_waits, .ref a_T_wakings, .int T_size, .int T_end])), (a_T_order, .inl (cI, 6, .inl T_order))] [(0, .ref a_T), (1, .int x1_1)] [] := by
    intro n1
    induction n1 with
    | zero =>
      intro x1_1 x1_2 hr
      rw [fX4_turnToNext_L7] at hr
      cases hr
    | succ n1 ih7 =>
      intro x1_1 x1_2 hr hX1 H locs ls hP hD hS hl
      rw [fX4_turnToNext_L7] at hr
      refine lv_iload_n hx hb dX4_turnToNext_7 rfl (lv_at hl 1 rfl) ?_
      refine lv_if_lt (tgt := 38) hx hb dX4_turnToNext_8 (by decide) (fun c1 => ?_) (fun c1 => ?_)
      · replace hr := it_t hr c1
        have he := Option.some.inj hr
        cases he
        exact hX1 H locs ls hP hD hS (lv_sub hl [0, 1] rfl)
      · replace hr := it_f hr c1
        refine lv_aload_n hx hb dX4_turnToNext_11 rfl (lv_at hl 0 rfl) ?_
        refine va_get (D := (dC, dI)) (ci := 4) (v := .ref a_T_order) (C := RX4) (T := TX4) (N := 7) hx hb hts inX4_turnToNext_X4 hown hK hP 0 rfl rfl 0 (by decide) (hts _ mbX4_turnToNext_2) (fun _ h9 => h9) rfl dX4_turnToNext_12 ?_
        refine lv_iload_n hx hb dX4_turnToNext_15 rfl (lv_at hl 1 rfl) ?_
        obtain ⟨r, hc1, hr⟩ := bd1_some hr
        refine call_i (D := (dC, dI)) (tys := tysA cC cI cJ) (wc := [(a_T_order, .inl (cI, 6, .inl T_order))]) (wr := [(a_T, .inr (4, [.ref a_T_order, .ref a_T_places, .ref a_T_times, .ref a_T_waits, .ref a_T_wakings, .int T_size, .int T_end]))]) (w1 := [(a_T_order, .inl (cI, 6, .inl T_order))]) (wn := [(a_T, .inr (4, [.ref a_T_order, .ref a_T_places, .ref a_T_times, .ref a_T_waits, .ref a_T_wakings, .int T_size, .int T_end])), (a_T_order, .inl (cI, 6, .inl T_order))]) (r0 := r) hP hD hS hA [1] [0] [0, 1] rfl rfl (by decide +kernel) (by decide +kernel) rfl (by decide +kernel) (va_runSN (host := "BootsAtDawn") (As := [.ref a_T_order, .int x1_1]) (rest := []) ⟨hx, hb, hml, hown, hts⟩ (kX8_at l dC dI cC cI cJ H.size K a_T_order 6 x1_1 T_order r hc1) ⟨va_cnB 2 hts gX4_turnToNext_X8_at_n51 rfl rfl rfl (hN _ nw_85) (hts _ mbX4_turnToNext_3) (by decide +kernel) ⟨Nat.le_of_ble_eq_true rfl, Nat.le_of_ble_eq_true rfl⟩, (hts _ mbX4_turnToNext_4), trivial⟩ ⟨fbW, preW hP hD hK hN [1] rfl (by decide +kernel)⟩ rfl rfl hl.1 rfl (lv_room (Nat.le_of_ble_eq_true rfl)) dX4_turnToNext_16 ⟨Nat.zero_le _, Nat.zero_le _⟩) (fun H locs hP hD hS => ?_)
        refine lv_aload_n hx hb dX4_turnToNext_19 rfl (lv_at hl 0 rfl) ?_
        refine va_get (D := (dC, dI)) (ci := 4) (v := .ref a_T_order) (C := RX4) (T := TX4) (N := 7) hx hb hts inX4_turnToNext_X4 hown hK hP 0 rfl rfl 0 (by decide) (hts _ mbX4_turnToNext_2) (fun _ h9 => h9) rfl dX4_turnToNext_20 ?_
        refine lv_iload_n hx hb dX4_turnToNext_23 rfl (lv_at hl 1 rfl) ?_
        refine lv_iconst (v := 1) hx hb dX4_turnToNext_24 (by decide) ?_
        refine lv_iadd hx hb dX4_turnToNext_25 ?_
        obtain ⟨r_1, hc2, hr⟩ := bd1_some hr
        refine call_i (D := (dC, dI)) (tys := tysA cC cI cJ) (wc := [(a_T_order, .inl (cI, 6, .inl T_order))]) (wr := [(a_T, .inr (4, [.ref a_T_order, .ref a_T_places, .ref a_T_times, .ref a_T_waits, .ref a_T_wakings, .int T_size, .int T_end]))]) (w1 := [(a_T_order, .inl (cI, 6, .inl T_order))]) (wn := [(a_T, .inr (4, [.ref a_T_order, .ref a_T_places, .ref a_T_times, .ref a_T_waits, .ref a_T_wakings, .int T_size, .int T_end])), (a_T_order, .inl (cI, 6, .inl T_order))]) (r0 := r_1) hP hD hS hA [1] [0] [0, 1] rfl rfl (by decide +kernel) (by decide +kernel) rfl (by decide +kernel) (va_runSN (host := "BootsAtDawn") (As := [.ref a_T_order, .int (x1_1 + 1)]) (rest := [.int r]) ⟨hx, hb, hml, hown, hts⟩ (kX8_at l dC dI cC cI cJ H.size K a_T_order 6 (x1_1 + 1) T_order r_1 hc2) ⟨va_cnB 2 hts gX4_turnToNext_X8_at_n51 rfl rfl rfl (hN _ nw_85) (hts _ mbX4_turnToNext_3) (by decide +kernel) ⟨Nat.le_of_ble_eq_true rfl, Nat.le_of_ble_eq_true rfl⟩, (hts _ mbX4_turnToNext_4), trivial⟩ ⟨fbW, preW hP hD hK hN [1] rfl (by decide +kernel)⟩ rfl rfl hl.1 rfl (lv_room (Nat.le_of_ble_eq_true rfl)) dX4_turnToNext_26 ⟨Nat.zero_le _, Nat.zero_le _⟩) (fun H locs hP hD hS => ?_)
        refine lv_icmp_le (tgt := 38) hx hb dX4_turnToNext_29 (by decide) (fun c2 => ?_) (fun c2 => ?_)
        · replace hr := it_t hr c2
          have he := Option.some.inj hr
          cases he
          exact hX1 H locs ls hP hD hS (lv_sub hl [0, 1] rfl)
        · replace hr := it_f hr c2
          obtain ⟨x1_3, e2, hr⟩ := nm_el hr
          refine lv_iinc (v := x1_3) (lv' := [(1, .int x1_3), (0, .ref a_T)]) hx hb dX4_turnToNext_32 hl (k := 1) rfl e2.symm (by decide) rfl (fun ls hl => ?_)
          refine lv_goto (tgt := 7) hx hb dX4_turnToNext_35 (by decide) ?_
          exact ih7 _ _ hr hX1 H locs ls hP hD hS (lv_sub hl [1, 0] rfl)
  obtain ⟨x1_2, hE, hr⟩ := bd1_some hr
  refine hL1 K x1 x1_2 hE ?_ H locs ls hP hD hS (lv_sub hl [1, 0] rfl)
  intro H locs ls hP hD hS hl
  refine lv_iload_n hx hb dX4_turnToNext_38 rfl (lv_at hl 1 rfl) ?_
  refine lv_if_ge (tgt := 44) hx hb dX4_turnToNext_39 (by decide) (fun c3 => ?_) (fun c3 => ?_)
  · replace hr := it_t hr c3
    refine lv_aload_n hx hb dX4_turnToNext_44 rfl (lv_at hl 0 rfl) ?_
    refine va_get (D := (dC, dI)) (ci := 4) (v := .int T_size) (C := RX4) (T := TX4) (N := 7) hx hb hts inX4_turnToNext_X4 hown hK hP 0 rfl rfl 5 (by decide) (hts _ mbX4_turnToNext_0) (fun _ h9 => h9) rfl dX4_turnToNext_45 ?_
    refine lv_iconst (v := 1) hx hb dX4_turnToNext_48 (by decide) ?_
    refine lv_isub hx hb dX4_turnToNext_49 ?_
    obtain ⟨x2, e3, hr⟩ := nm_el hr
    refine lv_nmi e3 ?_
    refine lv_istore_n (lv' := [(2, .int x2), (0, .ref a_T), (1, .int x1_2)]) hx hb dX4_turnToNext_50 rfl hl (by decide) rfl (fun ls hl => ?_)
    have hL2 : ∀ (n2 : Nat) (x2_1 : Int32) (x2_2 : Int32), fX4_turnToNext_L51 K x1_2 T_order n2 x2_1 = some x2_2 → WG p l e rmX4_turnToNext s m ([.ref a_T] : List Value).toArray below meth c 0 0 Q (dC, dI) A 81 5 [(a_T, .inr (4, [.ref a_T_order, .ref a_T_places, .ref a_T_times, .ref a_T_waits, .ref a_T_wakings, .int T_size, .int T_end])), (a_T_order, .inl (cI, 6, .inl T_order))] [(0, .ref a_T), (1, .int x1_2), (2, .int x2_2)] [] → WG p l e rmX4_turnToNext s m ([.ref a_T] : List Value).toArray below meth c 0 0 Q (dC, dI) A 51 5 [(a_T, .inr (4, [.ref a_T_order, .ref a_T_places, .ref a_T_times, .ref a_T_waits, .ref a_T_wakings, .int T_size, .int T_end])), (a_T_order, .inl (cI, 6, .inl T_order))] [(0, .ref a_T), (1, .int x1_2), (2, .int x2_1)] [] := by
      intro n2
      induction n2 with
      | zero =>
        intro x2_1 x2_2 hr
        rw [fX4_turnToNext_L51] at hr
        cases hr
      | succ n2 ih51 =>
        intro x2_1 x2_2 hr hX2 H locs ls hP hD hS hl
        rw [fX4_turnToNext_L51] at hr
        refine lv_iload_n hx hb dX4_turnToNext_51 rfl (lv_at hl 2 rfl) ?_
        refine lv_iload_n hx hb dX4_turnToNext_52 rfl (lv_at hl 1 rfl) ?_
        refine lv_icmp_le (tgt := 81) hx hb dX4_turnToNext_53 (by decide) (fun c4 => ?_) (fun c4 => ?_)
        · replace hr := it_t hr c4
          have he := Option.some.inj hr
          cases he
          exact hX2 H locs ls hP hD hS (lv_sub hl [0, 1, 2] rfl)
        · replace hr := it_f hr c4
          refine lv_aload_n hx hb dX4_turnToNext_56 rfl (lv_at hl 0 rfl) ?_
          refine va_get (D := (dC, dI)) (ci := 4) (v := .ref a_T_order) (C := RX4) (T := TX4) (N := 7) hx hb hts inX4_turnToNext_X4 hown hK hP 0 rfl rfl 0 (by decide) (hts _ mbX4_turnToNext_2) (fun _ h9 => h9) rfl dX4_turnToNext_57 ?_
          refine lv_iload_n hx hb dX4_turnToNext_60 rfl (lv_at hl 2 rfl) ?_
          obtain ⟨r_2, hc3, hr⟩ := bd1_some hr
          refine call_i (D := (dC, dI)) (tys := tysA cC cI cJ) (wc := [(a_T_order, .inl (cI, 6, .inl T_order))]) (wr := [(a_T, .inr (4, [.ref a_T_order, .ref a_T_places, .ref a_T_times, .ref a_T_waits, .ref a_T_wakings, .int T_size, .int T_end]))]) (w1 := [(a_T_order, .inl (cI, 6, .inl T_order))]) (wn := [(a_T, .inr (4, [.ref a_T_order, .ref a_T_places, .ref a_T_times, .ref a_T_waits, .ref a_T_wakings, .int T_size, .int T_end])), (a_T_order, .inl (cI, 6, .inl T_order))]) (r0 := r_2) hP hD hS hA [1] [0] [0, 1] rfl rfl (by decide +kernel) (by decide +kernel) rfl (by decide +kernel) (va_runSN (host := "BootsAtDawn") (As := [.ref a_T_order, .int x2_1]) (rest := []) ⟨hx, hb, hml, hown, hts⟩ (kX8_at l dC dI cC cI cJ H.size K a_T_order 6 x2_1 T_order r_2 hc3) ⟨va_cnB 2 hts gX4_turnToNext_X8_at_n51 rfl rfl rfl (hN _ nw_85) (hts _ mbX4_turnToNext_3) (by decide +kernel) ⟨Nat.le_of_ble_eq_true rfl, Nat.le_of_ble_eq_true rfl⟩, (hts _ mbX4_turnToNext_4), trivial⟩ ⟨fbW, preW hP hD hK hN [1] rfl (by decide +kernel)⟩ rfl rfl hl.1 rfl (lv_room (Nat.le_of_ble_eq_true rfl)) dX4_turnToNext_61 ⟨Nat.zero_le _, Nat.zero_le _⟩) (fun H locs hP hD hS => ?_)
          refine lv_aload_n hx hb dX4_turnToNext_64 rfl (lv_at hl 0 rfl) ?_
          refine va_get (D := (dC, dI)) (ci := 4) (v := .ref a_T_order) (C := RX4) (T := TX4) (N := 7) hx hb hts inX4_turnToNext_X4 hown hK hP 0 rfl rfl 0 (by decide) (hts _ mbX4_turnToNext_2) (fun _ h9 => h9) rfl dX4_turnToNext_65 ?_
          refine lv_iload_n hx hb dX4_turnToNext_68 rfl (lv_at hl 1 rfl) ?_
          obtain ⟨r_3, hc4, hr⟩ := bd1_some hr
          refine call_i (D := (dC, dI)) (tys := tysA cC cI cJ) (wc := [(a_T_order, .inl (cI, 6, .inl T_order))]) (wr := [(a_T, .inr (4, [.ref a_T_order, .ref a_T_places, .ref a_T_times, .ref a_T_waits, .ref a_T_wakings, .int T_size, .int T_end]))]) (w1 := [(a_T_order, .inl (cI, 6, .inl T_order))]) (wn := [(a_T, .inr (4, [.ref a_T_order, .ref a_T_places, .ref a_T_times, .ref a_T_waits, .ref a_T_wakings, .int T_size, .int T_end])), (a_T_order, .inl (cI, 6, .inl T_order))]) (r0 := r_3) hP hD hS hA [1] [0] [0, 1] rfl rfl (by decide +kernel) (by decide +kernel) rfl (by decide +kernel) (va_runSN (host := "BootsAtDawn") (As := [.ref a_T_order, .int x1_2]) (rest := [.int r_2]) ⟨hx, hb, hml, hown, hts⟩ (kX8_at l dC dI cC cI cJ H.size K a_T_order 6 x1_2 T_order r_3 hc4) ⟨va_cnB 2 hts gX4_turnToNext_X8_at_n51 rfl rfl rfl (hN _ nw_85) (hts _ mbX4_turnToNext_3) (by decide +kernel) ⟨Nat.le_of_ble_eq_true rfl, Nat.le_of_ble_eq_true rfl⟩, (hts _ mbX4_turnToNext_4), trivial⟩ ⟨fbW, preW hP hD hK hN [1] rfl (by decide +kernel)⟩ rfl rfl hl.1 rfl (lv_room (Nat.le_of_ble_eq_true rfl)) dX4_turnToNext_69 ⟨Nat.zero_le _, Nat.zero_le _⟩) (fun H locs hP hD hS => ?_)
          refine lv_icmp_ge (tgt := 81) hx hb dX4_turnToNext_72 (by decide) (fun c5 => ?_) (fun c5 => ?_)
          · replace hr := it_t hr c5
            have he := Option.some.inj hr
            cases he
            exact hX2 H locs ls hP hD hS (lv_sub hl [0, 1, 2] rfl)
          · replace hr := it_f hr c5
            obtain ⟨x2_3, e4, hr⟩ := nm_el hr
            refine lv_iinc (v := x2_3) (lv' := [(2, .int x2_3), (0, .ref a_T), (1, .int x1_2)]) hx hb dX4_turnToNext_75 hl (k := 2) rfl e4.symm (by decide) rfl (fun ls hl => ?_)
            refine lv_goto (tgt := 51) hx hb dX4_turnToNext_78 (by decide) ?_
            exact ih51 _ _ hr hX2 H locs ls hP hD hS (lv_sub hl [1, 2, 0] rfl)
    obtain ⟨x2_2, hE, hr⟩ := bd1_some hr
    refine hL2 K x2 x2_2 hE ?_ H locs ls hP hD hS (lv_sub hl [1, 2, 0] rfl)
    intro H locs ls hP hD hS hl
    refine lv_aload_n hx hb dX4_turnToNext_81 rfl (lv_at hl 0 rfl) ?_
    refine lv_iload_n hx hb dX4_turnToNext_82 rfl (lv_at hl 1 rfl) ?_
    refine lv_iload_n hx hb dX4_turnToNext_83 rfl (lv_at hl 2 rfl) ?_
    obtain ⟨T_order_1, hc5, hr⟩ := bd1_some hr
    refine call_v (D := (dC, dI)) (tys := tysA cC cI cJ) (wc := [(a_T, .inr (4, [.ref a_T_order, .ref a_T_places, .ref a_T_times, .ref a_T_waits, .ref a_T_wakings, .int T_size, .int T_end])), (a_T_order, .inl (cI, 6, .inl T_order))]) (wr := []) (w1 := [(a_T, .inr (4, [.ref a_T_order, .ref a_T_places, .ref a_T_times, .ref a_T_waits, .ref a_T_wakings, .int T_size, .int T_end])), (a_T_order, .inl (cI, 6, .inl T_order_1))]) (wn := [(a_T, .inr (4, [.ref a_T_order, .ref a_T_places, .ref a_T_times, .ref a_T_waits, .ref a_T_wakings, .int T_size, .int T_end])), (a_T_order, .inl (cI, 6, .inl T_order_1))]) hP hD hS hA [0, 1] [] [0, 1] rfl rfl (by decide +kernel) (by decide +kernel) rfl (by decide +kernel) (va_runV (As := [.int x1_2, .int x2_2]) (rest := []) ⟨hx, hb, hml, hown, hts⟩ (kX4_swap l dC dI cC cI cJ H.size K a_T a_T_order a_T_places a_T_times a_T_waits a_T_wakings x1_2 x2_2 T_size T_end T_order T_order_1 hc5) (cwV 2 hts gX4_turnToNext_X4_swap rfl rfl rfl (by decide +kernel) ⟨Nat.le_of_ble_eq_true rfl, Nat.le_of_ble_eq_true rfl⟩) ⟨fbW, va_recv hK hP (ci := 4) (q0 := 0) rfl rfl, preW hP hD hK hN [0, 1] rfl (by decide +kernel)⟩ rfl rfl hl.1 rfl (lv_room (Nat.le_of_ble_eq_true rfl)) dX4_turnToNext_84 ⟨Nat.zero_le _, Nat.zero_le _⟩) (fun H locs hP hD hS => ?_)
    refine lv_iload_n hx hb dX4_turnToNext_87 rfl (lv_at hl 1 rfl) ?_
    refine lv_iconst (v := 1) hx hb dX4_turnToNext_88 (by decide) ?_
    refine lv_iadd hx hb dX4_turnToNext_89 ?_
    obtain ⟨x3, e5, hr⟩ := nm_el hr
    refine lv_nmi e5 ?_
    refine lv_istore_n (lv' := [(3, .int x3), (0, .ref a_T), (1, .int x1_2), (2, .int x2_2)]) hx hb dX4_turnToNext_90 rfl hl (by decide) rfl (fun ls hl => ?_)
    refine lv_aload_n hx hb dX4_turnToNext_91 rfl (lv_at hl 1 rfl) ?_
    refine va_get (D := (dC, dI)) (ci := 4) (v := .int T_size) (C := RX4) (T := TX4) (N := 7) hx hb hts inX4_turnToNext_X4 hown hK hP 0 rfl rfl 5 (by decide) (hts _ mbX4_turnToNext_0) (fun _ h9 => h9) rfl dX4_turnToNext_92 ?_
    refine lv_iconst (v := 1) hx hb dX4_turnToNext_95 (by decide) ?_
    refine lv_isub hx hb dX4_turnToNext_96 ?_
    obtain ⟨x4, e6, hr⟩ := nm_el hr
    refine lv_nmi e6 ?_
    refine lv_istore (lv' := [(4, .int x4), (3, .int x3), (0, .ref a_T), (1, .int x1_2), (2, .int x2_2)]) hx hb dX4_turnToNext_97 hl (by decide) rfl (fun ls hl => ?_)
    have hL3 : ∀ (n3 : Nat) (x3_1 : Int32) (x4_1 : Int32) (T_order_2 : (Nat → Int32)) (T_order_3 : (Nat → Int32)), fX4_turnToNext_L99 K n3 x3_1 x4_1 T_order_2 = some T_order_3 → WG p l e rmX4_turnToNext s m ([.ref a_T] : List Value).toArray below meth c 0 0 Q (dC, dI) A 121 5 [(a_T, .inr (4, [.ref a_T_order, .ref a_T_places, .ref a_T_times, .ref a_T_waits, .ref a_T_wakings, .int T_size, .int T_end])), (a_T_order, .inl (cI, 6, .inl T_order_3))] [] [] → WG p l e rmX4_turnToNext s m ([.ref a_T] : List Value).toArray below meth c 0 0 Q (dC, dI) A 99 5 [(a_T, .inr (4, [.ref a_T_order, .ref a_T_places, .ref a_T_times, .ref a_T_waits, .ref a_T_wakings, .int T_size, .int T_end])), (a_T_order, .inl (cI, 6, .inl T_order_2))] [(0, .ref a_T), (3, .int x3_1), (4, .int x4_1)] [] := by
      intro n3
      induction n3 with
      | zero =>
        intro x3_1 x4_1 T_order_2 T_order_3 hr
        rw [fX4_turnToNext_L99] at hr
        cases hr
      | succ n3 ih99 =>
        intro x3_1 x4_1 T_order_2 T_order_3 hr hX3 H locs ls hP hD hS hl
        rw [fX4_turnToNext_L99] at hr
        refine lv_iload_n hx hb dX4_turnToNext_99 rfl (lv_at hl 1 rfl) ?_
        refine lv_iload hx hb dX4_turnToNext_100 (lv_at hl 2 rfl) ?_
        refine lv_icmp_ge (tgt := 121) hx hb dX4_turnToNext_102 (by decide) (fun c6 => ?_) (fun c6 => ?_)
        · replace hr := it_t hr c6
          have he := Option.some.inj hr
          cases he
          exact hX3 H locs ls hP hD hS (lv_sub hl [] rfl)
        · replace hr := it_f hr c6
          refine lv_aload_n hx hb dX4_turnToNext_105 rfl (lv_at hl 0 rfl) ?_
          refine lv_iload_n hx hb dX4_turnToNext_106 rfl (lv_at hl 1 rfl) ?_
          refine lv_iload hx hb dX4_turnToNext_107 (lv_at hl 2 rfl) ?_
          obtain ⟨T_order_4, hc6, hr⟩ := bd1_some hr
          refine call_v (D := (dC, dI)) (tys := tysA cC cI cJ) (wc := [(a_T, .inr (4, [.ref a_T_order, .ref a_T_places, .ref a_T_times, .ref a_T_waits, .ref a_T_wakings, .int T_size, .int T_end])), (a_T_order, .inl (cI, 6, .inl T_order_2))]) (wr := []) (w1 := [(a_T, .inr (4, [.ref a_T_order, .ref a_T_places, .ref a_T_times, .ref a_T_waits, .ref a_T_wakings, .int T_size, .int T_end])), (a_T_order, .inl (cI, 6, .inl T_order_4))]) (wn := [(a_T, .inr (4, [.ref a_T_order, .ref a_T_places, .ref a_T_times, .ref a_T_waits, .ref a_T_wakings, .int T_size, .int T_end])), (a_T_order, .inl (cI, 6, .inl T_order_4))]) hP hD hS hA [0, 1] [] [0, 1] rfl rfl (by decide +kernel) (by decide +kernel) rfl (by decide +kernel) (va_runV (As := [.int x3_1, .int x4_1]) (rest := []) ⟨hx, hb, hml, hown, hts⟩ (kX4_swap l dC dI cC cI cJ H.size K a_T a_T_order a_T_places a_T_times a_T_waits a_T_wakings x3_1 x4_1 T_size T_end T_order_2 T_order_4 hc6) (cwV 2 hts gX4_turnToNext_X4_swap rfl rfl rfl (by decide +kernel) ⟨Nat.le_of_ble_eq_true rfl, Nat.le_of_ble_eq_true rfl⟩) ⟨fbW, va_recv hK hP (ci := 4) (q0 := 0) rfl rfl, preW hP hD hK hN [0, 1] rfl (by decide +kernel)⟩ rfl rfl hl.1 rfl (lv_room (Nat.le_of_ble_eq_true rfl)) dX4_turnToNext_109 ⟨Nat.zero_le _, Nat.zero_le _⟩) (fun H locs hP hD hS => ?_)
          obtain ⟨x3_2, e7, hr⟩ := nm_el hr
          refine lv_iinc (v := x3_2) (lv' := [(3, .int x3_2), (0, .ref a_T), (4, .int x4_1)]) hx hb dX4_turnToNext_112 hl (k := 1) rfl e7.symm (by decide) rfl (fun ls hl => ?_)
          obtain ⟨x4_2, e8, hr⟩ := nm_el hr
          refine lv_iinc (v := x4_2) (lv' := [(4, .int x4_2), (3, .int x3_2), (0, .ref a_T)]) hx hb dX4_turnToNext_115 hl (k := 2) rfl e8.symm (by decide) rfl (fun ls hl => ?_)
          refine lv_goto (tgt := 99) hx hb dX4_turnToNext_118 (by decide) ?_
          exact ih99 _ _ _ _ hr hX3 H locs ls hP hD hS (lv_sub hl [2, 1, 0] rfl)
    obtain ⟨T_order_3, hE, hr⟩ := bd1_some hr
    refine hL3 K x3 x4 T_order_1 T_order_3 hE ?_ H locs ls hP hD hS (lv_sub hl [2, 1, 0] rfl)
    intro H locs ls hP hD hS hl
    refine lv_iconst (v := 1) hx hb dX4_turnToNext_121 (by decide) ?_
    have he := Option.some.inj hr
    subst he
    subst hQ
    exact ret_z hx hb hrt (show narrow .boolean (.int 1) = .int 1 from rfl) hK hP hD hS hlocks dX4_turnToNext_122
  · replace hr := it_f hr c3
    refine lv_iconst (v := 0) hx hb dX4_turnToNext_42 (by decide) ?_
    have he := Option.some.inj hr
    subst he
    subst hQ
    exact ret_z hx hb hrt (show narrow .boolean (.int 0) = .int 0 from rfl) hK hP hD hS hlocks dX4_turnToNext_43
def fX4_walk_L13 (K : Nat) (T_size : Int32) (T_order : (Nat → Int32)) (T_waits : (Nat → Int32)) (T_wakings : (Nat → Int32)) (P1_floors : (Nat → Int32)) : Nat → Int32 → Int32 → Int32 → (Nat → Int32) → (Nat → Int32) → Option (Int32 × (Nat → Int32) × (Nat → Int32))
  | 0, _, _, _, _, _ => none
  | n1 + 1, x2, x3, x4, T_places_1, T_times_1 =>
    if T_size ≤ (x4 : Int32) then (
    some (x3, T_places_1, T_times_1))
    else (
    bd1 (fX8_at K 6 x4 T_order) fun r =>
    bd1 (fX8_at K 6 r P1_floors) fun r_1 =>
    bd1 (fX8_at K 6 r T_waits) fun r_2 =>
    nm (if (x3 + (if 0 ≤ (r_1 - x2) then (r_1 - x2) else 0 - (r_1 - x2))) < r_2 then r_2 else (x3 + (if 0 ≤ (r_1 - x2) then (r_1 - x2) else 0 - (r_1 - x2)))) fun x3_2 =>
    bd1 (fX8_put K 6 r x4 T_places_1) fun T_places_3 =>
    bd1 (fX8_put K 6 r x3_2 T_times_1) fun T_times_3 =>
    bd1 (fX8_at K 6 r T_wakings) fun r_3 =>
    nm (x3_2 + r_3) fun x3_3 =>
    nm (x4 + 1) fun x4_1 =>
    fX4_walk_L13 K T_size T_order T_waits T_wakings P1_floors n1 r_1 x3_3 x4_1 T_places_3 T_times_3)
def fX4_walk (K : Nat) (T_size : Int32) (T_end : Int32) (T_order : (Nat → Int32)) (T_waits : (Nat → Int32)) (T_places : (Nat → Int32)) (T_times : (Nat → Int32)) (T_wakings : (Nat → Int32)) (P1_slate_start : Int32) (P1_floors : (Nat → Int32)) : Option (Int32 × (Nat → Int32) × (Nat → Int32)) :=
    bd3 (fX4_walk_L13 K T_size T_order T_waits T_wakings P1_floors K 0 P1_slate_start 0 T_places T_times) fun x3_1 T_places_2 T_times_2 =>
    some (x3_1, T_places_2, T_times_2)
theorem inX4_walk_X1 : ∀ w ∈ u_ws RX1 TX1 4, w ∈ wsX4_walk := fun _ h => (List.mem_cons_of_mem _ (List.mem_append_left _ (List.mem_append_left _ (List.mem_append_right _ h))))
theorem inX4_walk_X5 : ∀ w ∈ u_ws RX5 TX5 9, w ∈ wsX4_walk := fun _ h => (List.mem_cons_of_mem _ (List.mem_append_left _ (List.mem_append_right _ h)))
theorem mbX4_walk_2 : Cond.fieldLink RX4 27 "BootsAtDawn$Round" "size" "I" ∈ wsX4_walk := List.mem_of_getElem? (i := 1) rfl
theorem inX4_walk_X4 : ∀ w ∈ u_ws RX4 TX4 7, w ∈ wsX4_walk := fun _ h => (List.mem_cons_of_mem _ (List.mem_append_right _ h))
theorem mbX4_walk_4 : Cond.fieldLink RX4 9 "BootsAtDawn$Round" "order" "[I" ∈ wsX4_walk := List.mem_of_getElem? (i := 2) rfl
theorem mbX4_walk_5 : Cond.initialized RX8 ∈ wsX4_walk := List.mem_of_getElem? (i := 16) rfl
theorem mbX4_walk_6 : Cond.static yX8_at ∈ wsX4_walk := List.mem_of_getElem? (i := 15) rfl
theorem mbX4_walk_7 : Cond.methodLink RX4 71 Lib.Math.abs.name ∈ wsX4_walk := List.mem_of_getElem? (i := 3) rfl
theorem mbX4_walk_8 : Cond.static Lib.Math.abs.name ∈ wsX4_walk := List.mem_of_getElem? (i := 4) rfl
theorem mbX4_walk_9 : Cond.initialized "java/lang/Math" ∈ wsX4_walk := List.mem_of_getElem? (i := 5) rfl
theorem mbX4_walk_10 : Cond.code Lib.Math.abs.name Lib.Math.abs.code 1 (some .int) ∈ wsX4_walk := List.mem_of_getElem? (i := 6) rfl
theorem mbX4_walk_11 : Cond.fieldLink RX4 21 "BootsAtDawn$Round" "waits" "[I" ∈ wsX4_walk := List.mem_of_getElem? (i := 7) rfl
theorem mbX4_walk_12 : Cond.methodLink RX4 76 Lib.Math.max.name ∈ wsX4_walk := List.mem_of_getElem? (i := 8) rfl
theorem mbX4_walk_13 : Cond.static Lib.Math.max.name ∈ wsX4_walk := List.mem_of_getElem? (i := 9) rfl
theorem mbX4_walk_14 : Cond.code Lib.Math.max.name Lib.Math.max.code 2 (some .int) ∈ wsX4_walk := List.mem_of_getElem? (i := 10) rfl
theorem mbX4_walk_15 : Cond.fieldLink RX4 15 "BootsAtDawn$Round" "places" "[I" ∈ wsX4_walk := List.mem_of_getElem? (i := 11) rfl
theorem mbX4_walk_16 : Cond.static yX8_put ∈ wsX4_walk := List.mem_of_getElem? (i := 18) rfl
theorem mbX4_walk_17 : Cond.fieldLink RX4 18 "BootsAtDawn$Round" "times" "[I" ∈ wsX4_walk := List.mem_of_getElem? (i := 12) rfl
theorem mbX4_walk_18 : Cond.fieldLink RX4 24 "BootsAtDawn$Round" "wakings" "[I" ∈ wsX4_walk := List.mem_of_getElem? (i := 13) rfl
theorem mbX4_walk_19 : Cond.fieldLink RX4 80 "BootsAtDawn$Round" "end" "I" ∈ wsX4_walk := List.mem_of_getElem? (i := 14) rfl
abbrev rmX4_walk : Room := { frames := 1, cells := 0, slots := 0, locals := 22 }
set_option maxHeartbeats 8000000 in
set_option maxRecDepth 100000 in
theorem kX4_walk (l : Launch) (dC : Nat → ClassId) (dI : Nat → Nat → Nat) (cC cI cJ : ClassId) (sz : Nat) (K : Nat) (a_T a_T_order a_T_places a_T_times a_T_waits a_T_wakings a_P1 a_P1_slate a_P1_floors a_P1_slate_guestKind a_P1_slate_guestFloor a_P1_slate_wishKind a_P1_slate_wishA a_P1_slate_wishB a_P1_slate_wishNames : Nat) (T_size : Int32) (T_end : Int32) (T_order : (Nat → Int32)) (T_waits : (Nat → Int32)) (T_places : (Nat → Int32)) (T_times : (Nat → Int32)) (T_wakings : (Nat → Int32)) (P1_here : Int32) (P1_struck : Int32) (P1_slate_guests : Int32) (P1_slate_wishes : Int32) (P1_slate_start : Int32) (P1_floors : (Nat → Int32)) (R : Int32 × (Nat → Int32) × (Nat → Int32)) (hr : fX4_walk K T_size T_end T_order T_waits T_places T_times T_wakings P1_slate_start P1_floors = some R) : Met l yX4_walk wsX4_walk rmX4_walk (va_Pc ([.ref a_T, .ref a_P1] : List Value) (PcW (dC, dI) (tysA cC cI cJ) sz [(a_T, .inr (4, [.ref a_T_order, .ref a_T_places, .ref a_T_times, .ref a_T_waits, .ref a_T_wakings, .int T_size, .int T_end])), (a_T_order, .inl (cI, 6, .inl T_order)), (a_T_waits, .inl (cI, 6, .inl T_waits)), (a_T_places, .inl (cI, 6, .inl T_places)), (a_T_times, .inl (cI, 6, .inl T_times)), (a_T_wakings, .inl (cI, 6, .inl T_wakings)), (a_P1, .inr (1, [.ref a_P1_slate, .ref a_P1_floors, .int P1_here, .int P1_struck])), (a_P1_slate, .inr (5, [.ref a_P1_slate_guestKind, .ref a_P1_slate_guestFloor, .ref a_P1_slate_wishKind, .ref a_P1_slate_wishA, .ref a_P1_slate_wishB, .ref a_P1_slate_wishNames, .int P1_slate_guests, .int P1_slate_wishes, .int P1_slate_start])), (a_P1_floors, .inl (cI, 6, .inl P1_floors))])) (va_Qv (fun (_ : Unit) => True) (fun _ => BW (dC, dI) (tysA cC cI cJ) (va_A [(a_T, .inr (4, [.ref a_T_order, .ref a_T_places, .ref a_T_times, .ref a_T_waits, .ref a_T_wakings, .int T_size, .int T_end])), (a_T_order, .inl (cI, 6, .inl T_order)), (a_T_waits, .inl (cI, 6, .inl T_waits)), (a_T_places, .inl (cI, 6, .inl T_places)), (a_T_times, .inl (cI, 6, .inl T_times)), (a_T_wakings, .inl (cI, 6, .inl T_wakings)), (a_P1, .inr (1, [.ref a_P1_slate, .ref a_P1_floors, .int P1_here, .int P1_struck])), (a_P1_slate, .inr (5, [.ref a_P1_slate_guestKind, .ref a_P1_slate_guestFloor, .ref a_P1_slate_wishKind, .ref a_P1_slate_wishA, .ref a_P1_slate_wishB, .ref a_P1_slate_wishNames, .int P1_slate_guests, .int P1_slate_wishes, .int P1_slate_start])), (a_P1_floors, .inl (cI, 6, .inl P1_floors))] sz) [(a_T, .inr (4, [.ref a_T_order, .ref a_T_places, .ref a_T_times, .ref a_T_waits, .ref a_T_wakings, .int T_size, .int R.1])), (a_T_order, .inl (cI, 6, .inl T_order)), (a_T_waits, .inl (cI, 6, .inl T_waits)), (a_T_places, .inl (cI, 6, .inl R.2.1)), (a_T_times, .inl (cI, 6, .inl R.2.2)), (a_T_wakings, .inl (cI, 6, .inl T_wakings)), (a_P1, .inr (1, [.ref a_P1_slate, .ref a_P1_floors, .int P1_here, .int P1_struck])), (a_P1_slate, .inr (5, [.ref a_P1_slate_guestKind, .ref a_P1_slate_guestFloor, .ref a_P1_slate_wishKind, .ref a_P1_slate_wishA, .ref a_P1_slate_wishB, .ref a_P1_slate_wishNames, .int P1_slate_guests, .int P1_slate_wishes, .int P1_slate_start])), (a_P1_floors, .inl (cI, 6, .inl P1_floors))]) (va_A [(a_T, .inr (4, [.ref a_T_order, .ref a_T_places, .ref a_T_times, .ref a_T_waits, .ref a_T_wakings, .int T_size, .int T_end])), (a_T_order, .inl (cI, 6, .inl T_order)), (a_T_waits, .inl (cI, 6, .inl T_waits)), (a_T_places, .inl (cI, 6, .inl T_places)), (a_T_times, .inl (cI, 6, .inl T_times)), (a_T_wakings, .inl (cI, 6, .inl T_wakings)), (a_P1, .inr (1, [.ref a_P1_slate, .ref a_P1_floors, .int P1_here, .int P1_struck])), (a_P1_slate, .inr (5, [.ref a_P1_slate_guestKind, .ref a_P1_slate_guestFloor, .ref a_P1_slate_wishKind, .ref a_P1_slate_wishA, .ref a_P1_slate_wishB, .ref a_P1_slate_wishNames, .int P1_slate_guests, .int P1_slate_wishes, .int P1_slate_start])), (a_P1_floors, .inl (cI, 6, .inl P1_floors))] sz)) 0 0 (va_A [(a_T, .inr (4, [.ref a_T_order, .ref a_T_places, .ref a_T_times, .ref a_T_waits, .ref a_T_wakings, .int T_size, .int T_end])), (a_T_order, .inl (cI, 6, .inl T_order)), (a_T_waits, .inl (cI, 6, .inl T_waits)), (a_T_places, .inl (cI, 6, .inl T_places)), (a_T_times, .inl (cI, 6, .inl T_times)), (a_T_wakings, .inl (cI, 6, .inl T_wakings)), (a_P1, .inr (1, [.ref a_P1_slate, .ref a_P1_floors, .int P1_here, .int P1_struck])), (a_P1_slate, .inr (5, [.ref a_P1_slate_guestKind, .ref a_P1_slate_guestFloor, .ref a_P1_slate_wishKind, .ref a_P1_slate_wishA, .ref a_P1_slate_wishB, .ref a_P1_slate_wishNames, .int P1_slate_guests, .int P1_slate_wishes, .int P1_slate_start])), (a_P1_floors, .inl (cI, 6, .inl P1_floors))] sz) := by
  refine Met.ofW (cc := cX4_walk) (maxL := 7) (ret := none) (by decide) rfl ?_
  intro p e s m args below meth c s₁ B hml hv
  obtain ⟨rfl, hsz, hP, hK, hD0, hN⟩ := hv
  have hx := B.exec
  have hb := B.bytes
  have hrt := B.returns
  have hts := atoms_spec (ws := wsX4_walk) B.pre
  have hown : s.vm.findClass RX4 = some m.cls := findClass_of_methodNamed B.named
  have hlocks := B.notSynchronized
  subst hsz
  have hD := hD0.self (sz := s.heap.size)
  generalize hAe : va_A [(a_T, .inr (4, [.ref a_T_order, .ref a_T_places, .ref a_T_times, .ref a_T_waits, .ref a_T_wakings, .int T_size, .int T_end])), (a_T_order, .inl (cI, 6, .inl T_order)), (a_T_waits, .inl (cI, 6, .inl T_waits)), (a_T_places, .inl (cI, 6, .inl T_places)), (a_T_times, .inl (cI, 6, .inl T_times)), (a_T_wakings, .inl (cI, 6, .inl T_wakings)), (a_P1, .inr (1, [.ref a_P1_slate, .ref a_P1_floors, .int P1_here, .int P1_struck])), (a_P1_slate, .inr (5, [.ref a_P1_slate_guestKind, .ref a_P1_slate_guestFloor, .ref a_P1_slate_wishKind, .ref a_P1_slate_wishA, .ref a_P1_slate_wishB, .ref a_P1_slate_wishNames, .int P1_slate_guests, .int P1_slate_wishes, .int P1_slate_start])), (a_P1_floors, .inl (cI, 6, .inl P1_floors))] s.heap.size = A at hD ⊢
  have hA : ∀ q : Nat, s.heap.size ≤ q → A q := fun q h => by rw [← hAe]; exact Or.inr h
  have hS : va_S A s.heap s.heap [] := va_S.rf
  have hl := lv_entry ([.ref a_T, .ref a_P1] : List Value) (n := 7) (Nat.le_of_ble_eq_true rfl)
  rw [lg_entry_eq]
  generalize (lg_sl ([.ref a_T, .ref a_P1] : List Value) ++ List.replicate (7 - (lg_sl ([.ref a_T, .ref a_P1] : List Value)).length) Slot.unset).toArray = ls at hl ⊢
  replace hl : lv_has ls 7 [(0, .ref a_T), (1, .ref a_P1)] := hl
  obtain ⟨Q, hQ⟩ : ∃ Q, Q = MQ below (va_Qv (fun (_ : Unit) => True) (fun _ => BW (dC, dI) (tysA cC cI cJ) A [(a_T, .inr (4, [.ref a_T_order, .ref a_T_places, .ref a_T_times, .ref a_T_waits, .ref a_T_wakings, .int T_size, .int R.1])), (a_T_order, .inl (cI, 6, .inl T_order)), (a_T_waits, .inl (cI, 6, .inl T_waits)), (a_T_places, .inl (cI, 6, .inl R.2.1)), (a_T_times, .inl (cI, 6, .inl R.2.2)), (a_T_wakings, .inl (cI, 6, .inl T_wakings)), (a_P1, .inr (1, [.ref a_P1_slate, .ref a_P1_floors, .int P1_here, .int P1_struck])), (a_P1_slate, .inr (5, [.ref a_P1_slate_guestKind, .ref a_P1_slate_guestFloor, .ref a_P1_slate_wishKind, .ref a_P1_slate_wishA, .ref a_P1_slate_wishB, .ref a_P1_slate_wishNames, .int P1_slate_guests, .int P1_slate_wishes, .int P1_slate_start])), (a_P1_floors, .inl (cI, 6, .inl P1_floors))]) A) ([.ref a_T, .ref a_P1] : List Value).toArray s 0 0 A := ⟨_, rfl⟩
  rw [← hQ]
  suffices hE : WG p l e rmX4_walk s m ([.ref a_T, .ref a_P1] : List Value).toArray below meth c 0 0 Q (dC, dI) A 0 7 [(a_T, .inr (4, [.ref a_T_order, .ref a_T_places, .ref a_T_times, .ref a_T_waits, .ref a_T_wakings, .int T_size, .int T_end])), (a_T_order, .inl (cI, 6, .inl T_order)), (a_T_waits, .inl (cI, 6, .inl T_waits)), (a_T_places, .inl (cI, 6, .inl T_places)), (a_T_times, .inl (cI, 6, .inl T_times)), (a_T_wakings, .inl (cI, 6, .inl T_wakings)), (a_P1, .inr (1, [.ref a_P1_slate, .ref a_P1_floors, .int P1_here, .int P1_struck])), (a_P1_slate, .inr (5, [.ref a_P1_slate_guestKind, .ref a_P1_slate_guestFloor, .ref a_P1_slate_wishKind, .ref a_P1_slate_wishA, .ref a_P1_slate_wishB, .ref a_P1_slate_wishNames, .int P1_slate_guests, .int P1_slate_wishes, .int P1_slate_start])), (a_P1_floors, .inl (cI, 6, .inl P1_floors))] [(0, .ref a_T), (1, .ref a_P1)] [] from hE _ _ _ hP hD hS hl
  clear hP hD hS hl hD0 hAe
  intro H locs ls hP hD hS hl
  unfold fX4_walk at hr
  refine lv_iconst (v := 0) hx hb dX4_walk_0 (by decide) ?_
  refine lv_istore_n (lv' := [(2, .int 0), (0, .ref a_T), (1, .ref a_P1)]) hx hb dX4_walk_1 rfl hl (by decide) rfl (fun ls hl => ?_)
  refine lv_aload_n hx hb dX4_walk_2 rfl (lv_at hl 2 rfl) ?_
  refine va_getN (D := (dC, dI)) (ci := 1) (v := .ref a_P1_slate) (C := RX1) (T := TX1) (N := 4) hx hb hts inX4_walk_X1 hown hK hP 6 rfl rfl 0 (by decide) (nk_use hN nw_25) (fun _ h9 => h9) rfl dX4_walk_3 ?_
  refine va_getN (D := (dC, dI)) (ci := 5) (v := .int P1_slate_start) (C := RX5) (T := TX5) (N := 9) hx hb hts inX4_walk_X5 hown hK hP 7 rfl rfl 8 (by decide) (nk_use hN nw_20) (fun _ h9 => h9) rfl dX4_walk_6 ?_
  refine lv_istore_n (lv' := [(3, .int P1_slate_start), (2, .int 0), (0, .ref a_T), (1, .ref a_P1)]) hx hb dX4_walk_9 rfl hl (by decide) rfl (fun ls hl => ?_)
  refine lv_iconst (v := 0) hx hb dX4_walk_10 (by decide) ?_
  refine lv_istore (lv' := [(4, .int 0), (3, .int P1_slate_start), (2, .int 0), (0, .ref a_T), (1, .ref a_P1)]) hx hb dX4_walk_11 hl (by decide) rfl (fun ls hl => ?_)
  have hL1 : ∀ (n1 : Nat) (x2 : Int32) (x3 : Int32) (x4 : Int32) (T_places_1 : (Nat → Int32)) (T_times_1 : (Nat → Int32)) (x3_1 : Int32) (T_places_2 : (Nat → Int32)) (T_times_2 : (Nat → Int32)), fX4_walk_L13 K T_size T_order T_waits T_wakings P1_floors n1 x2 x3 x4 T_places_1 T_times_1 = some (x3_1, T_places_2, T_times_2) → WG p l e rmX4_walk s m ([.ref a_T, .ref a_P1] : List Value).toArray below meth c 0 0 Q (dC, dI) A 108 7 [(a_T, .inr (4, [.ref a_T_order, .ref a_T_places, .ref a_T_times, .ref a_T_waits, .ref a_T_wakings, .int T_size, .int T_end])), (a_T_order, .inl (cI, 6, .inl T_order)), (a_T_waits, .inl (cI, 6, .inl T_waits)), (a_T_places, .inl (cI, 6, .inl T_places_2)), (a_T_times, .inl (cI, 6, .inl T_times_2)), (a_T_wakings, .inl (cI, 6, .inl T_wakings)), (a_P1, .inr (1, [.ref a_P1_slate, .ref a_P1_floors, .int P1_here, .int P1_struck])), (a_P1_slate, .inr (5, [.ref a_P1_slate_guestKind, .ref a_P1_slate_guestFloor, .ref a_P1_slate_wishKind, .ref a_P1_slate_wishA, .ref a_P1_slate_wishB, .ref a_P1_slate_wishNames, .int P1_slate_guests, .int P1_slate_wishes, .int P1_slate_start])), (a_P1_floors, .inl (cI, 6, .inl P1_floors))] [(0, .ref a_T), (3, .int x3_1)] [] → WG p l e rmX4_walk s m ([.ref a_T, .ref a_P1] : List Value).toArray below meth c 0 0 Q (dC, dI) A 13 7 [(a_T, .inr (4, [.ref a_T_order, .ref a_T_places, .ref a_T_times, .ref a_T_waits, .ref a_T_wakings, .int T_size, .int T_end])), (a_T_order, .inl (cI, 6, .inl T_order)), (a_T_waits, .inl (cI, 6, .inl T_waits)), (a_T_places, .inl (cI, 6, .inl T_places_1)), (a_T_times, .inl (cI, 6, .inl T_times_1)), (a_T_wakings, .inl (cI, 6, .inl T_wakings)), (a_P1, .inr (1, [.ref a_P1_slate, .ref a_P1_floors, .int P1_here, .int P1_struck])), (a_P1_slate, .inr (5, [.ref a_P1_slate_guestKind, .ref a_P1_slate_guestFloor, .ref a_P1_slate_wishKind, .ref a_P1_slate_wishA, .ref a_P1_slate_wishB, .ref a_P1_slate_wishNames, .int P1_slate_guests, .int P1_slate_wishes, .int P1_slate_start])), (a_P1_floors, .inl (cI, 6, .inl P1_floors))] [(0, .ref a_T), (1, .ref a_P1), (2, .int x2), (3, .int x3), (4, .int x4)] [] := by
    intro n1
    induction n1 with
    | zero =>
      intro x2 x3 x4 T_places_1 T_times_1 x3_1 T_places_2 T_times_2 hr
      rw [fX4_walk_L13] at hr
      cases hr
    | succ n1 ih13 =>
      intro x2 x3 x4 T_places_1 T_times_1 x3_1 T_places_2 T_times_2 hr hX1 H locs ls hP hD hS hl
      rw [fX4_walk_L13] at hr
      refine lv_iload hx hb dX4_walk_13 (lv_at hl 4 rfl) ?_
      refine lv_aload_n hx hb dX4_walk_15 rfl (lv_at hl 0 rfl) ?_
      refine va_get (D := (dC, dI)) (ci := 4) (v := .int T_size) (C := RX4) (T := TX4) (N := 7) hx hb hts inX4_walk_X4 hown hK hP 0 rfl rfl 5 (by decide) (hts _ mbX4_walk_2) (fun _ h9 => h9) rfl dX4_walk_16 ?_
      refine lv_icmp_ge (tgt := 108) hx hb dX4_walk_19 (by decide) (fun c1 => ?_) (fun c1 => ?_)
      · replace hr := it_t hr c1
        have he := Option.some.inj hr
        cases he
        exact hX1 H locs ls hP hD hS (lv_sub hl [0, 3] rfl)
      · replace hr := it_f hr c1
        refine lv_aload_n hx hb dX4_walk_22 rfl (lv_at hl 0 rfl) ?_
        refine va_get (D := (dC, dI)) (ci := 4) (v := .ref a_T_order) (C := RX4) (T := TX4) (N := 7) hx hb hts inX4_walk_X4 hown hK hP 0 rfl rfl 0 (by decide) (hts _ mbX4_walk_4) (fun _ h9 => h9) rfl dX4_walk_23 ?_
        refine lv_iload hx hb dX4_walk_26 (lv_at hl 4 rfl) ?_
        obtain ⟨r, hc1, hr⟩ := bd1_some hr
        refine call_i (D := (dC, dI)) (tys := tysA cC cI cJ) (wc := [(a_T_order, .inl (cI, 6, .inl T_order))]) (wr := [(a_T, .inr (4, [.ref a_T_order, .ref a_T_places, .ref a_T_times, .ref a_T_waits, .ref a_T_wakings, .int T_size, .int T_end])), (a_T_waits, .inl (cI, 6, .inl T_waits)), (a_T_places, .inl (cI, 6, .inl T_places_1)), (a_T_times, .inl (cI, 6, .inl T_times_1)), (a_T_wakings, .inl (cI, 6, .inl T_wakings)), (a_P1, .inr (1, [.ref a_P1_slate, .ref a_P1_floors, .int P1_here, .int P1_struck])), (a_P1_slate, .inr (5, [.ref a_P1_slate_guestKind, .ref a_P1_slate_guestFloor, .ref a_P1_slate_wishKind, .ref a_P1_slate_wishA, .ref a_P1_slate_wishB, .ref a_P1_slate_wishNames, .int P1_slate_guests, .int P1_slate_wishes, .int P1_slate_start])), (a_P1_floors, .inl (cI, 6, .inl P1_floors))]) (w1 := [(a_T_order, .inl (cI, 6, .inl T_order))]) (wn := [(a_T, .inr (4, [.ref a_T_order, .ref a_T_places, .ref a_T_times, .ref a_T_waits, .ref a_T_wakings, .int T_size, .int T_end])), (a_T_order, .inl (cI, 6, .inl T_order)), (a_T_waits, .inl (cI, 6, .inl T_waits)), (a_T_places, .inl (cI, 6, .inl T_places_1)), (a_T_times, .inl (cI, 6, .inl T_times_1)), (a_T_wakings, .inl (cI, 6, .inl T_wakings)), (a_P1, .inr (1, [.ref a_P1_slate, .ref a_P1_floors, .int P1_here, .int P1_struck])), (a_P1_slate, .inr (5, [.ref a_P1_slate_guestKind, .ref a_P1_slate_guestFloor, .ref a_P1_slate_wishKind, .ref a_P1_slate_wishA, .ref a_P1_slate_wishB, .ref a_P1_slate_wishNames, .int P1_slate_guests, .int P1_slate_wishes, .int P1_slate_start])), (a_P1_floors, .inl (cI, 6, .inl P1_floors))]) (r0 := r) hP hD hS hA [1] [0, 2, 3, 4, 5, 6, 7, 8] [0, 8, 1, 2, 3, 4, 5, 6, 7] rfl rfl (by decide +kernel) (by decide +kernel) rfl (by decide +kernel) (va_runSN (host := "BootsAtDawn") (As := [.ref a_T_order, .int x4]) (rest := []) ⟨hx, hb, hml, hown, hts⟩ (kX8_at l dC dI cC cI cJ H.size K a_T_order 6 x4 T_order r hc1) ⟨va_cnB 2 hts gX4_walk_X8_at_n51 rfl rfl rfl (hN _ nw_85) (hts _ mbX4_walk_5) (by decide +kernel) ⟨Nat.le_of_ble_eq_true rfl, Nat.le_of_ble_eq_true rfl⟩, (hts _ mbX4_walk_6), trivial⟩ ⟨fbW, preW hP hD hK hN [1] rfl (by decide +kernel)⟩ rfl rfl hl.1 rfl (lv_room (Nat.le_of_ble_eq_true rfl)) dX4_walk_28 ⟨Nat.zero_le _, Nat.zero_le _⟩) (fun H locs hP hD hS => ?_)
        refine lv_istore (lv' := [(5, .int r), (0, .ref a_T), (1, .ref a_P1), (2, .int x2), (3, .int x3), (4, .int x4)]) hx hb dX4_walk_31 hl (by decide) rfl (fun ls hl => ?_)
        refine lv_aload_n hx hb dX4_walk_33 rfl (lv_at hl 2 rfl) ?_
        refine va_getN (D := (dC, dI)) (ci := 1) (v := .ref a_P1_floors) (C := RX1) (T := TX1) (N := 4) hx hb hts inX4_walk_X1 hown hK hP 6 rfl rfl 1 (by decide) (nk_use hN nw_26) (fun _ h9 => h9) rfl dX4_walk_34 ?_
        refine lv_iload hx hb dX4_walk_37 (lv_at hl 0 rfl) ?_
        obtain ⟨r_1, hc2, hr⟩ := bd1_some hr
        refine call_i (D := (dC, dI)) (tys := tysA cC cI cJ) (wc := [(a_P1_floors, .inl (cI, 6, .inl P1_floors))]) (wr := [(a_T, .inr (4, [.ref a_T_order, .ref a_T_places, .ref a_T_times, .ref a_T_waits, .ref a_T_wakings, .int T_size, .int T_end])), (a_T_order, .inl (cI, 6, .inl T_order)), (a_T_waits, .inl (cI, 6, .inl T_waits)), (a_T_places, .inl (cI, 6, .inl T_places_1)), (a_T_times, .inl (cI, 6, .inl T_times_1)), (a_T_wakings, .inl (cI, 6, .inl T_wakings)), (a_P1, .inr (1, [.ref a_P1_slate, .ref a_P1_floors, .int P1_here, .int P1_struck])), (a_P1_slate, .inr (5, [.ref a_P1_slate_guestKind, .ref a_P1_slate_guestFloor, .ref a_P1_slate_wishKind, .ref a_P1_slate_wishA, .ref a_P1_slate_wishB, .ref a_P1_slate_wishNames, .int P1_slate_guests, .int P1_slate_wishes, .int P1_slate_start]))]) (w1 := [(a_P1_floors, .inl (cI, 6, .inl P1_floors))]) (wn := [(a_T, .inr (4, [.ref a_T_order, .ref a_T_places, .ref a_T_times, .ref a_T_waits, .ref a_T_wakings, .int T_size, .int T_end])), (a_T_order, .inl (cI, 6, .inl T_order)), (a_T_waits, .inl (cI, 6, .inl T_waits)), (a_T_places, .inl (cI, 6, .inl T_places_1)), (a_T_times, .inl (cI, 6, .inl T_times_1)), (a_T_wakings, .inl (cI, 6, .inl T_wakings)), (a_P1, .inr (1, [.ref a_P1_slate, .ref a_P1_floors, .int P1_here, .int P1_struck])), (a_P1_slate, .inr (5, [.ref a_P1_slate_guestKind, .ref a_P1_slate_guestFloor, .ref a_P1_slate_wishKind, .ref a_P1_slate_wishA, .ref a_P1_slate_wishB, .ref a_P1_slate_wishNames, .int P1_slate_guests, .int P1_slate_wishes, .int P1_slate_start])), (a_P1_floors, .inl (cI, 6, .inl P1_floors))]) (r0 := r_1) hP hD hS hA [8] [0, 1, 2, 3, 4, 5, 6, 7] [0, 1, 2, 3, 4, 5, 6, 7, 8] rfl rfl (by decide +kernel) (by decide +kernel) rfl (by decide +kernel) (va_runSN (host := "BootsAtDawn") (As := [.ref a_P1_floors, .int r]) (rest := []) ⟨hx, hb, hml, hown, hts⟩ (kX8_at l dC dI cC cI cJ H.size K a_P1_floors 6 r P1_floors r_1 hc2) ⟨va_cnB 2 hts gX4_walk_X8_at_n51 rfl rfl rfl (hN _ nw_85) (hts _ mbX4_walk_5) (by decide +kernel) ⟨Nat.le_of_ble_eq_true rfl, Nat.le_of_ble_eq_true rfl⟩, (hts _ mbX4_walk_6), trivial⟩ ⟨fbW, preW hP hD hK hN [8] rfl (by decide +kernel)⟩ rfl rfl hl.1 rfl (lv_room (Nat.le_of_ble_eq_true rfl)) dX4_walk_39 ⟨Nat.zero_le _, Nat.zero_le _⟩) (fun H locs hP hD hS => ?_)
        refine lv_istore (lv' := [(6, .int r_1), (5, .int r), (0, .ref a_T), (1, .ref a_P1), (2, .int x2), (3, .int x3), (4, .int x4)]) hx hb dX4_walk_42 hl (by decide) rfl (fun ls hl => ?_)
        refine lv_iload_n hx hb dX4_walk_44 rfl (lv_at hl 5 rfl) ?_
        refine lv_iload hx hb dX4_walk_45 (lv_at hl 0 rfl) ?_
        refine lv_iload_n hx hb dX4_walk_47 rfl (lv_at hl 4 rfl) ?_
        refine lv_isub hx hb dX4_walk_48 ?_
        refine va_mabs hx hb (hml.trans hl.1.symm) hown (hts _ mbX4_walk_7) (hts _ mbX4_walk_8) (hts _ mbX4_walk_9) (hts _ mbX4_walk_10) (Nat.le_of_ble_eq_true rfl) (Nat.le_of_ble_eq_true rfl) (Nat.zero_le _) (Nat.zero_le _) dX4_walk_49 ?_
        refine lv_iadd hx hb dX4_walk_52 ?_
        refine lv_aload_n hx hb dX4_walk_53 rfl (lv_at hl 2 rfl) ?_
        refine va_get (D := (dC, dI)) (ci := 4) (v := .ref a_T_waits) (C := RX4) (T := TX4) (N := 7) hx hb hts inX4_walk_X4 hown hK hP 0 rfl rfl 3 (by decide) (hts _ mbX4_walk_11) (fun _ h9 => h9) rfl dX4_walk_54 ?_
        refine lv_iload hx hb dX4_walk_57 (lv_at hl 1 rfl) ?_
        obtain ⟨r_2, hc3, hr⟩ := bd1_some hr
        refine call_i (D := (dC, dI)) (tys := tysA cC cI cJ) (wc := [(a_T_waits, .inl (cI, 6, .inl T_waits))]) (wr := [(a_T, .inr (4, [.ref a_T_order, .ref a_T_places, .ref a_T_times, .ref a_T_waits, .ref a_T_wakings, .int T_size, .int T_end])), (a_T_order, .inl (cI, 6, .inl T_order)), (a_T_places, .inl (cI, 6, .inl T_places_1)), (a_T_times, .inl (cI, 6, .inl T_times_1)), (a_T_wakings, .inl (cI, 6, .inl T_wakings)), (a_P1, .inr (1, [.ref a_P1_slate, .ref a_P1_floors, .int P1_here, .int P1_struck])), (a_P1_slate, .inr (5, [.ref a_P1_slate_guestKind, .ref a_P1_slate_guestFloor, .ref a_P1_slate_wishKind, .ref a_P1_slate_wishA, .ref a_P1_slate_wishB, .ref a_P1_slate_wishNames, .int P1_slate_guests, .int P1_slate_wishes, .int P1_slate_start])), (a_P1_floors, .inl (cI, 6, .inl P1_floors))]) (w1 := [(a_T_waits, .inl (cI, 6, .inl T_waits))]) (wn := [(a_T, .inr (4, [.ref a_T_order, .ref a_T_places, .ref a_T_times, .ref a_T_waits, .ref a_T_wakings, .int T_size, .int T_end])), (a_T_order, .inl (cI, 6, .inl T_order)), (a_T_waits, .inl (cI, 6, .inl T_waits)), (a_T_places, .inl (cI, 6, .inl T_places_1)), (a_T_times, .inl (cI, 6, .inl T_times_1)), (a_T_wakings, .inl (cI, 6, .inl T_wakings)), (a_P1, .inr (1, [.ref a_P1_slate, .ref a_P1_floors, .int P1_here, .int P1_struck])), (a_P1_slate, .inr (5, [.ref a_P1_slate_guestKind, .ref a_P1_slate_guestFloor, .ref a_P1_slate_wishKind, .ref a_P1_slate_wishA, .ref a_P1_slate_wishB, .ref a_P1_slate_wishNames, .int P1_slate_guests, .int P1_slate_wishes, .int P1_slate_start])), (a_P1_floors, .inl (cI, 6, .inl P1_floors))]) (r0 := r_2) hP hD hS hA [2] [0, 1, 3, 4, 5, 6, 7, 8] [0, 1, 8, 2, 3, 4, 5, 6, 7] rfl rfl (by decide +kernel) (by decide +kernel) rfl (by decide +kernel) (va_runSN (host := "BootsAtDawn") (As := [.ref a_T_waits, .int r]) (rest := [.int (x3 + (if 0 ≤ (r_1 - x2) then (r_1 - x2) else 0 - (r_1 - x2)))]) ⟨hx, hb, hml, hown, hts⟩ (kX8_at l dC dI cC cI cJ H.size K a_T_waits 6 r T_waits r_2 hc3) ⟨va_cnB 2 hts gX4_walk_X8_at_n51 rfl rfl rfl (hN _ nw_85) (hts _ mbX4_walk_5) (by decide +kernel) ⟨Nat.le_of_ble_eq_true rfl, Nat.le_of_ble_eq_true rfl⟩, (hts _ mbX4_walk_6), trivial⟩ ⟨fbW, preW hP hD hK hN [2] rfl (by decide +kernel)⟩ rfl rfl hl.1 rfl (lv_room (Nat.le_of_ble_eq_true rfl)) dX4_walk_59 ⟨Nat.zero_le _, Nat.zero_le _⟩) (fun H locs hP hD hS => ?_)
        refine va_mmax hx hb (hml.trans hl.1.symm) hown (hts _ mbX4_walk_12) (hts _ mbX4_walk_13) (hts _ mbX4_walk_9) (hts _ mbX4_walk_14) (Nat.le_of_ble_eq_true rfl) (Nat.le_of_ble_eq_true rfl) (Nat.zero_le _) (Nat.zero_le _) dX4_walk_62 ?_
        obtain ⟨x3_2, e1, hr⟩ := nm_el hr
        refine lv_nmi e1 ?_
        refine lv_istore_n (lv' := [(3, .int x3_2), (6, .int r_1), (5, .int r), (0, .ref a_T), (1, .ref a_P1), (2, .int x2), (4, .int x4)]) hx hb dX4_walk_65 rfl hl (by decide) rfl (fun ls hl => ?_)
        refine lv_iload hx hb dX4_walk_66 (lv_at hl 1 rfl) ?_
        refine lv_istore_n (lv' := [(2, .int r_1), (3, .int x3_2), (6, .int r_1), (5, .int r), (0, .ref a_T), (1, .ref a_P1), (4, .int x4)]) hx hb dX4_walk_68 rfl hl (by decide) rfl (fun ls hl => ?_)
        refine lv_aload_n hx hb dX4_walk_69 rfl (lv_at hl 4 rfl) ?_
        refine va_get (D := (dC, dI)) (ci := 4) (v := .ref a_T_places) (C := RX4) (T := TX4) (N := 7) hx hb hts inX4_walk_X4 hown hK hP 0 rfl rfl 1 (by decide) (hts _ mbX4_walk_15) (fun _ h9 => h9) rfl dX4_walk_70 ?_
        refine lv_iload hx hb dX4_walk_73 (lv_at hl 3 rfl) ?_
        refine lv_iload hx hb dX4_walk_75 (lv_at hl 6 rfl) ?_
        obtain ⟨T_places_3, hc4, hr⟩ := bd1_some hr
        refine call_v (D := (dC, dI)) (tys := tysA cC cI cJ) (wc := [(a_T_places, .inl (cI, 6, .inl T_places_1))]) (wr := [(a_T, .inr (4, [.ref a_T_order, .ref a_T_places, .ref a_T_times, .ref a_T_waits, .ref a_T_wakings, .int T_size, .int T_end])), (a_T_order, .inl (cI, 6, .inl T_order)), (a_T_waits, .inl (cI, 6, .inl T_waits)), (a_T_times, .inl (cI, 6, .inl T_times_1)), (a_T_wakings, .inl (cI, 6, .inl T_wakings)), (a_P1, .inr (1, [.ref a_P1_slate, .ref a_P1_floors, .int P1_here, .int P1_struck])), (a_P1_slate, .inr (5, [.ref a_P1_slate_guestKind, .ref a_P1_slate_guestFloor, .ref a_P1_slate_wishKind, .ref a_P1_slate_wishA, .ref a_P1_slate_wishB, .ref a_P1_slate_wishNames, .int P1_slate_guests, .int P1_slate_wishes, .int P1_slate_start])), (a_P1_floors, .inl (cI, 6, .inl P1_floors))]) (w1 := [(a_T_places, .inl (cI, 6, .inl T_places_3))]) (wn := [(a_T, .inr (4, [.ref a_T_order, .ref a_T_places, .ref a_T_times, .ref a_T_waits, .ref a_T_wakings, .int T_size, .int T_end])), (a_T_order, .inl (cI, 6, .inl T_order)), (a_T_waits, .inl (cI, 6, .inl T_waits)), (a_T_places, .inl (cI, 6, .inl T_places_3)), (a_T_times, .inl (cI, 6, .inl T_times_1)), (a_T_wakings, .inl (cI, 6, .inl T_wakings)), (a_P1, .inr (1, [.ref a_P1_slate, .ref a_P1_floors, .int P1_here, .int P1_struck])), (a_P1_slate, .inr (5, [.ref a_P1_slate_guestKind, .ref a_P1_slate_guestFloor, .ref a_P1_slate_wishKind, .ref a_P1_slate_wishA, .ref a_P1_slate_wishB, .ref a_P1_slate_wishNames, .int P1_slate_guests, .int P1_slate_wishes, .int P1_slate_start])), (a_P1_floors, .inl (cI, 6, .inl P1_floors))]) hP hD hS hA [3] [0, 1, 2, 4, 5, 6, 7, 8] [0, 1, 2, 8, 3, 4, 5, 6, 7] rfl rfl (by decide +kernel) (by decide +kernel) rfl (by decide +kernel) (va_runSN (host := "BootsAtDawn") (As := [.ref a_T_places, .int r, .int x4]) (rest := []) ⟨hx, hb, hml, hown, hts⟩ (kX8_put l dC dI cC cI cJ H.size K a_T_places 6 r x4 T_places_1 T_places_3 hc4) ⟨va_cnB 3 hts gX4_walk_X8_put_n40 rfl rfl rfl (hN _ nw_81) (hts _ mbX4_walk_5) (by decide +kernel) ⟨Nat.le_of_ble_eq_true rfl, Nat.le_of_ble_eq_true rfl⟩, (hts _ mbX4_walk_16), trivial⟩ ⟨fbW, preW hP hD hK hN [3] rfl (by decide +kernel)⟩ rfl rfl hl.1 rfl (lv_room (Nat.le_of_ble_eq_true rfl)) dX4_walk_77 ⟨Nat.zero_le _, Nat.zero_le _⟩) (fun H locs hP hD hS => ?_)
        refine lv_aload_n hx hb dX4_walk_80 rfl (lv_at hl 4 rfl) ?_
        refine va_get (D := (dC, dI)) (ci := 4) (v := .ref a_T_times) (C := RX4) (T := TX4) (N := 7) hx hb hts inX4_walk_X4 hown hK hP 0 rfl rfl 2 (by decide) (hts _ mbX4_walk_17) (fun _ h9 => h9) rfl dX4_walk_81 ?_
        refine lv_iload hx hb dX4_walk_84 (lv_at hl 3 rfl) ?_
        refine lv_iload_n hx hb dX4_walk_86 rfl (lv_at hl 1 rfl) ?_
        obtain ⟨T_times_3, hc5, hr⟩ := bd1_some hr
        refine call_v (D := (dC, dI)) (tys := tysA cC cI cJ) (wc := [(a_T_times, .inl (cI, 6, .inl T_times_1))]) (wr := [(a_T, .inr (4, [.ref a_T_order, .ref a_T_places, .ref a_T_times, .ref a_T_waits, .ref a_T_wakings, .int T_size, .int T_end])), (a_T_order, .inl (cI, 6, .inl T_order)), (a_T_waits, .inl (cI, 6, .inl T_waits)), (a_T_places, .inl (cI, 6, .inl T_places_3)), (a_T_wakings, .inl (cI, 6, .inl T_wakings)), (a_P1, .inr (1, [.ref a_P1_slate, .ref a_P1_floors, .int P1_here, .int P1_struck])), (a_P1_slate, .inr (5, [.ref a_P1_slate_guestKind, .ref a_P1_slate_guestFloor, .ref a_P1_slate_wishKind, .ref a_P1_slate_wishA, .ref a_P1_slate_wishB, .ref a_P1_slate_wishNames, .int P1_slate_guests, .int P1_slate_wishes, .int P1_slate_start])), (a_P1_floors, .inl (cI, 6, .inl P1_floors))]) (w1 := [(a_T_times, .inl (cI, 6, .inl T_times_3))]) (wn := [(a_T, .inr (4, [.ref a_T_order, .ref a_T_places, .ref a_T_times, .ref a_T_waits, .ref a_T_wakings, .int T_size, .int T_end])), (a_T_order, .inl (cI, 6, .inl T_order)), (a_T_waits, .inl (cI, 6, .inl T_waits)), (a_T_places, .inl (cI, 6, .inl T_places_3)), (a_T_times, .inl (cI, 6, .inl T_times_3)), (a_T_wakings, .inl (cI, 6, .inl T_wakings)), (a_P1, .inr (1, [.ref a_P1_slate, .ref a_P1_floors, .int P1_here, .int P1_struck])), (a_P1_slate, .inr (5, [.ref a_P1_slate_guestKind, .ref a_P1_slate_guestFloor, .ref a_P1_slate_wishKind, .ref a_P1_slate_wishA, .ref a_P1_slate_wishB, .ref a_P1_slate_wishNames, .int P1_slate_guests, .int P1_slate_wishes, .int P1_slate_start])), (a_P1_floors, .inl (cI, 6, .inl P1_floors))]) hP hD hS hA [4] [0, 1, 2, 3, 5, 6, 7, 8] [0, 1, 2, 3, 8, 4, 5, 6, 7] rfl rfl (by decide +kernel) (by decide +kernel) rfl (by decide +kernel) (va_runSN (host := "BootsAtDawn") (As := [.ref a_T_times, .int r, .int x3_2]) (rest := []) ⟨hx, hb, hml, hown, hts⟩ (kX8_put l dC dI cC cI cJ H.size K a_T_times 6 r x3_2 T_times_1 T_times_3 hc5) ⟨va_cnB 3 hts gX4_walk_X8_put_n40 rfl rfl rfl (hN _ nw_81) (hts _ mbX4_walk_5) (by decide +kernel) ⟨Nat.le_of_ble_eq_true rfl, Nat.le_of_ble_eq_true rfl⟩, (hts _ mbX4_walk_16), trivial⟩ ⟨fbW, preW hP hD hK hN [4] rfl (by decide +kernel)⟩ rfl rfl hl.1 rfl (lv_room (Nat.le_of_ble_eq_true rfl)) dX4_walk_87 ⟨Nat.zero_le _, Nat.zero_le _⟩) (fun H locs hP hD hS => ?_)
        refine lv_iload_n hx hb dX4_walk_90 rfl (lv_at hl 1 rfl) ?_
        refine lv_aload_n hx hb dX4_walk_91 rfl (lv_at hl 4 rfl) ?_
        refine va_get (D := (dC, dI)) (ci := 4) (v := .ref a_T_wakings) (C := RX4) (T := TX4) (N := 7) hx hb hts inX4_walk_X4 hown hK hP 0 rfl rfl 4 (by decide) (hts _ mbX4_walk_18) (fun _ h9 => h9) rfl dX4_walk_92 ?_
        refine lv_iload hx hb dX4_walk_95 (lv_at hl 3 rfl) ?_
        obtain ⟨r_3, hc6, hr⟩ := bd1_some hr
        refine call_i (D := (dC, dI)) (tys := tysA cC cI cJ) (wc := [(a_T_wakings, .inl (cI, 6, .inl T_wakings))]) (wr := [(a_T, .inr (4, [.ref a_T_order, .ref a_T_places, .ref a_T_times, .ref a_T_waits, .ref a_T_wakings, .int T_size, .int T_end])), (a_T_order, .inl (cI, 6, .inl T_order)), (a_T_waits, .inl (cI, 6, .inl T_waits)), (a_T_places, .inl (cI, 6, .inl T_places_3)), (a_T_times, .inl (cI, 6, .inl T_times_3)), (a_P1, .inr (1, [.ref a_P1_slate, .ref a_P1_floors, .int P1_here, .int P1_struck])), (a_P1_slate, .inr (5, [.ref a_P1_slate_guestKind, .ref a_P1_slate_guestFloor, .ref a_P1_slate_wishKind, .ref a_P1_slate_wishA, .ref a_P1_slate_wishB, .ref a_P1_slate_wishNames, .int P1_slate_guests, .int P1_slate_wishes, .int P1_slate_start])), (a_P1_floors, .inl (cI, 6, .inl P1_floors))]) (w1 := [(a_T_wakings, .inl (cI, 6, .inl T_wakings))]) (wn := [(a_T, .inr (4, [.ref a_T_order, .ref a_T_places, .ref a_T_times, .ref a_T_waits, .ref a_T_wakings, .int T_size, .int T_end])), (a_T_order, .inl (cI, 6, .inl T_order)), (a_T_waits, .inl (cI, 6, .inl T_waits)), (a_T_places, .inl (cI, 6, .inl T_places_3)), (a_T_times, .inl (cI, 6, .inl T_times_3)), (a_T_wakings, .inl (cI, 6, .inl T_wakings)), (a_P1, .inr (1, [.ref a_P1_slate, .ref a_P1_floors, .int P1_here, .int P1_struck])), (a_P1_slate, .inr (5, [.ref a_P1_slate_guestKind, .ref a_P1_slate_guestFloor, .ref a_P1_slate_wishKind, .ref a_P1_slate_wishA, .ref a_P1_slate_wishB, .ref a_P1_slate_wishNames, .int P1_slate_guests, .int P1_slate_wishes, .int P1_slate_start])), (a_P1_floors, .inl (cI, 6, .inl P1_floors))]) (r0 := r_3) hP hD hS hA [5] [0, 1, 2, 3, 4, 6, 7, 8] [0, 1, 2, 3, 4, 8, 5, 6, 7] rfl rfl (by decide +kernel) (by decide +kernel) rfl (by decide +kernel) (va_runSN (host := "BootsAtDawn") (As := [.ref a_T_wakings, .int r]) (rest := [.int x3_2]) ⟨hx, hb, hml, hown, hts⟩ (kX8_at l dC dI cC cI cJ H.size K a_T_wakings 6 r T_wakings r_3 hc6) ⟨va_cnB 2 hts gX4_walk_X8_at_n51 rfl rfl rfl (hN _ nw_85) (hts _ mbX4_walk_5) (by decide +kernel) ⟨Nat.le_of_ble_eq_true rfl, Nat.le_of_ble_eq_true rfl⟩, (hts _ mbX4_walk_6), trivial⟩ ⟨fbW, preW hP hD hK hN [5] rfl (by decide +kernel)⟩ rfl rfl hl.1 rfl (lv_room (Nat.le_of_ble_eq_true rfl)) dX4_walk_97 ⟨Nat.zero_le _, Nat.zero_le _⟩) (fun H locs hP hD hS => ?_)
        refine lv_iadd hx hb dX4_walk_100 ?_
        obtain ⟨x3_3, e2, hr⟩ := nm_el hr
        refine lv_nmi e2 ?_
        refine lv_istore_n (lv' := [(3, .int x3_3), (2, .int r_1), (6, .int r_1), (5, .int r), (0, .ref a_T), (1, .ref a_P1), (4, .int x4)]) hx hb dX4_walk_101 rfl hl (by decide) rfl (fun ls hl => ?_)
        obtain ⟨x4_1, e3, hr⟩ := nm_el hr
        refine lv_iinc (v := x4_1) (lv' := [(4, .int x4_1), (3, .int x3_3), (2, .int r_1), (6, .int r_1), (5, .int r), (0, .ref a_T), (1, .ref a_P1)]) hx hb dX4_walk_102 hl (k := 6) rfl e3.symm (by decide) rfl (fun ls hl => ?_)
        refine lv_goto (tgt := 13) hx hb dX4_walk_105 (by decide) ?_
        exact ih13 _ _ _ _ _ _ _ _ hr hX1 H locs ls hP hD hS (lv_sub hl [5, 6, 2, 1, 0] rfl)
  obtain ⟨x3_1, T_places_2, T_times_2, hE, hr⟩ := bd3_some hr
  refine hL1 K 0 P1_slate_start 0 T_places T_times x3_1 T_places_2 T_times_2 hE ?_ H locs ls hP hD hS (lv_sub hl [3, 4, 2, 1, 0] rfl)
  intro H locs ls hP hD hS hl
  refine lv_aload_n hx hb dX4_walk_108 rfl (lv_at hl 0 rfl) ?_
  refine lv_iload_n hx hb dX4_walk_109 rfl (lv_at hl 1 rfl) ?_
  refine va_put (D := (dC, dI)) (ci := 4) (v := .int x3_1) (ty := .int) (C := RX4) (T := TX4) (N := 7) hx hb hts inX4_walk_X4 tyX4 tyX4_ok nmX4 hown hK hP hD hS 0 rfl rfl 6 (by decide) (hts _ mbX4_walk_19) (fun _ h9 => h9) rfl (by decide +kernel) rfl rfl (Nat.le_of_ble_eq_true rfl) dX4_walk_110 (fun H locs hP hD hS => ?_)
  replace hP : va_P (dC, dI) vwCl [(a_T, .inr (4, [.ref a_T_order, .ref a_T_places, .ref a_T_times, .ref a_T_waits, .ref a_T_wakings, .int T_size, .int x3_1])), (a_T_order, .inl (cI, 6, .inl T_order)), (a_T_waits, .inl (cI, 6, .inl T_waits)), (a_T_places, .inl (cI, 6, .inl T_places_2)), (a_T_times, .inl (cI, 6, .inl T_times_2)), (a_T_wakings, .inl (cI, 6, .inl T_wakings)), (a_P1, .inr (1, [.ref a_P1_slate, .ref a_P1_floors, .int P1_here, .int P1_struck])), (a_P1_slate, .inr (5, [.ref a_P1_slate_guestKind, .ref a_P1_slate_guestFloor, .ref a_P1_slate_wishKind, .ref a_P1_slate_wishA, .ref a_P1_slate_wishB, .ref a_P1_slate_wishNames, .int P1_slate_guests, .int P1_slate_wishes, .int P1_slate_start])), (a_P1_floors, .inl (cI, 6, .inl P1_floors))] H := hP
  replace hD : va_D A [(a_T, .inr (4, [.ref a_T_order, .ref a_T_places, .ref a_T_times, .ref a_T_waits, .ref a_T_wakings, .int T_size, .int x3_1])), (a_T_order, .inl (cI, 6, .inl T_order)), (a_T_waits, .inl (cI, 6, .inl T_waits)), (a_T_places, .inl (cI, 6, .inl T_places_2)), (a_T_times, .inl (cI, 6, .inl T_times_2)), (a_T_wakings, .inl (cI, 6, .inl T_wakings)), (a_P1, .inr (1, [.ref a_P1_slate, .ref a_P1_floors, .int P1_here, .int P1_struck])), (a_P1_slate, .inr (5, [.ref a_P1_slate_guestKind, .ref a_P1_slate_guestFloor, .ref a_P1_slate_wishKind, .ref a_P1_slate_wishA, .ref a_P1_slate_wishB, .ref a_P1_slate_wishNames, .int P1_slate_guests, .int P1_slate_wishes, .int P1_slate_start])), (a_P1_floors, .inl (cI, 6, .inl P1_floors))] := hD
  have he := Option.some.inj hr
  subst he
  subst hQ
  exact ret_v hx hb hrt hK hP hD hS hlocks dX4_walk_113
def fX4_isKept (K : Nat) (x2 : Int32) (T_times : (Nat → Int32)) (T_places : (Nat → Int32)) (P1_wishA : (Nat → Int32)) (P1_wishB : (Nat → Int32)) (P1_wishKind : (Nat → Int32)) : Option (Int32) :=
    bd1 (fX8_at K 9 x2 P1_wishA) fun r =>
    bd1 (fX8_at K 9 x2 P1_wishB) fun r_1 =>
    bd1 (fX8_at K 9 x2 P1_wishKind) fun r_2 =>
    if (r_2 : Int32) = 0 then (
    bd1 (fX8_at K 6 r T_places) fun r_3 =>
    bd1 (fX8_at K 6 r_1 T_places) fun r_4 =>
    if r_4 ≤ (r_3 : Int32) then (
    some 0)
    else (
    some 1))
    else (
    if (r_2 : Int32) = 1 then (
    bd1 (fX8_at K 6 r T_places) fun r_5 =>
    bd1 (fX8_at K 6 r_1 T_places) fun r_6 =>
    if (r_5 : Int32) = (r_6 + 1) then (
    some 1)
    else (
    some 0))
    else (
    if (r_2 : Int32) = 2 then (
    bd1 (fX8_at K 6 r T_places) fun r_7 =>
    if (r_7 : Int32) = 0 then (
    some 1)
    else (
    some 0))
    else (
    if (r_2 : Int32) = 4 then (
    bd1 (fX8_at K 6 r T_times) fun r_8 =>
    if r_1 < (r_8 : Int32) then (
    some 0)
    else (
    some 1))
    else (
    some 1))))
theorem inX4_isKept_X5 : ∀ w ∈ u_ws RX5 TX5 9, w ∈ wsX4_isKept := fun _ h => (List.mem_cons_of_mem _ (List.mem_append_left _ (List.mem_append_right _ h)))
theorem mbX4_isKept_1 : Cond.initialized RX8 ∈ wsX4_isKept := List.mem_of_getElem? (i := 4) rfl
theorem mbX4_isKept_2 : Cond.static yX8_at ∈ wsX4_isKept := List.mem_of_getElem? (i := 3) rfl
theorem mbX4_isKept_3 : Cond.fieldLink RX4 15 "BootsAtDawn$Round" "places" "[I" ∈ wsX4_isKept := List.mem_of_getElem? (i := 1) rfl
theorem inX4_isKept_X4 : ∀ w ∈ u_ws RX4 TX4 7, w ∈ wsX4_isKept := fun _ h => (List.mem_cons_of_mem _ (List.mem_append_right _ h))
theorem mbX4_isKept_5 : Cond.fieldLink RX4 18 "BootsAtDawn$Round" "times" "[I" ∈ wsX4_isKept := List.mem_of_getElem? (i := 2) rfl
abbrev rmX4_isKept : Room := { frames := 1, cells := 0, slots := 0, locals := 21 }
set_option maxHeartbeats 8000000 in
set_option maxRecDepth 100000 in
theorem kX4_isKept (l : Launch) (dC : Nat → ClassId) (dI : Nat → Nat → Nat) (cC cI cJ : ClassId) (sz : Nat) (K : Nat) (a_T a_T_order a_T_places a_T_times a_T_waits a_T_wakings a_P1 a_P1_guestKind a_P1_guestFloor a_P1_wishKind a_P1_wishA a_P1_wishB a_P1_wishNames : Nat) (x2 : Int32) (T_size : Int32) (T_end : Int32) (T_times : (Nat → Int32)) (T_places : (Nat → Int32)) (P1_guests : Int32) (P1_wishes : Int32) (P1_start : Int32) (P1_wishA : (Nat → Int32)) (P1_wishB : (Nat → Int32)) (P1_wishKind : (Nat → Int32)) (R : Int32) (hr : fX4_isKept K x2 T_times T_places P1_wishA P1_wishB P1_wishKind = some R) : Met l yX4_isKept wsX4_isKept rmX4_isKept (va_Pc ([.ref a_T, .ref a_P1, .int x2] : List Value) (PcW (dC, dI) (tysA cC cI cJ) sz [(a_T, .inr (4, [.ref a_T_order, .ref a_T_places, .ref a_T_times, .ref a_T_waits, .ref a_T_wakings, .int T_size, .int T_end])), (a_T_times, .inl (cI, 6, .inl T_times)), (a_T_places, .inl (cI, 6, .inl T_places)), (a_P1, .inr (5, [.ref a_P1_guestKind, .ref a_P1_guestFloor, .ref a_P1_wishKind, .ref a_P1_wishA, .ref a_P1_wishB, .ref a_P1_wishNames, .int P1_guests, .int P1_wishes, .int P1_start])), (a_P1_wishA, .inl (cI, 9, .inl P1_wishA)), (a_P1_wishB, .inl (cI, 9, .inl P1_wishB)), (a_P1_wishKind, .inl (cI, 9, .inl P1_wishKind))])) (va_Qi (fun r (_ : Unit) => r = R) (fun _ => BW (dC, dI) (tysA cC cI cJ) (va_A [(a_T, .inr (4, [.ref a_T_order, .ref a_T_places, .ref a_T_times, .ref a_T_waits, .ref a_T_wakings, .int T_size, .int T_end])), (a_T_times, .inl (cI, 6, .inl T_times)), (a_T_places, .inl (cI, 6, .inl T_places)), (a_P1, .inr (5, [.ref a_P1_guestKind, .ref a_P1_guestFloor, .ref a_P1_wishKind, .ref a_P1_wishA, .ref a_P1_wishB, .ref a_P1_wishNames, .int P1_guests, .int P1_wishes, .int P1_start])), (a_P1_wishA, .inl (cI, 9, .inl P1_wishA)), (a_P1_wishB, .inl (cI, 9, .inl P1_wishB)), (a_P1_wishKind, .inl (cI, 9, .inl P1_wishKind))] sz) [(a_T, .inr (4, [.ref a_T_order, .ref a_T_places, .ref a_T_times, .ref a_T_waits, .ref a_T_wakings, .int T_size, .int T_end])), (a_T_times, .inl (cI, 6, .inl T_times)), (a_T_places, .inl (cI, 6, .inl T_places)), (a_P1, .inr (5, [.ref a_P1_guestKind, .ref a_P1_guestFloor, .ref a_P1_wishKind, .ref a_P1_wishA, .ref a_P1_wishB, .ref a_P1_wishNames, .int P1_guests, .int P1_wishes, .int P1_start])), (a_P1_wishA, .inl (cI, 9, .inl P1_wishA)), (a_P1_wishB, .inl (cI, 9, .inl P1_wishB)), (a_P1_wishKind, .inl (cI, 9, .inl P1_wishKind))]) (va_A [(a_T, .inr (4, [.ref a_T_order, .ref a_T_places, .ref a_T_times, .ref a_T_waits, .ref a_T_wakings, .int T_size, .int T_end])), (a_T_times, .inl (cI, 6, .inl T_times)), (a_T_places, .inl (cI, 6, .inl T_places)), (a_P1, .inr (5, [.ref a_P1_guestKind, .ref a_P1_guestFloor, .ref a_P1_wishKind, .ref a_P1_wishA, .ref a_P1_wishB, .ref a_P1_wishNames, .int P1_guests, .int P1_wishes, .int P1_start])), (a_P1_wishA, .inl (cI, 9, .inl P1_wishA)), (a_P1_wishB, .inl (cI, 9, .inl P1_wishB)), (a_P1_wishKind, .inl (cI, 9, .inl P1_wishKind))] sz)) 0 0 (va_A [(a_T, .inr (4, [.ref a_T_order, .ref a_T_places, .ref a_T_times, .ref a_T_waits, .ref a_T_wakings, .int T_size, .int T_end])), (a_T_times, .inl (cI, 6, .inl T_times)), (a_T_places, .inl (cI, 6, .inl T_places)), (a_P1, .inr (5, [.ref a_P1_guestKind, .ref a_P1_guestFloor, .ref a_P1_wishKind, .ref a_P1_wishA, .ref a_P1_wishB, .ref a_P1_wishNames, .int P1_guests, .int P1_wishes, .int P1_start])), (a_P1_wishA, .inl (cI, 9, .inl P1_wishA)), (a_P1_wishB, .inl (cI, 9, .inl P1_wishB)), (a_P1_wishKind, .inl (cI, 9, .inl P1_wishKind))] sz) := by
  refine Met.ofW (cc := cX4_isKept) (maxL := 5) (ret := (some .boolean)) (by decide) rfl ?_
  intro p e s m args below meth c s₁ B hml hv
  obtain ⟨rfl, hsz, hP, hK, hD0, hN⟩ := hv
  have hx := B.exec
  have hb := B.bytes
  have hrt := B.returns
  have hts := atoms_spec (ws := wsX4_isKept) B.pre
  have hown : s.vm.findClass RX4 = some m.cls := findClass_of_methodNamed B.named
  have hlocks := B.notSynchronized
  subst hsz
  have hD := hD0.self (sz := s.heap.size)
  generalize hAe : va_A [(a_T, .inr (4, [.ref a_T_order, .ref a_T_places, .ref a_T_times, .ref a_T_waits, .ref a_T_wakings, .int T_size, .int T_end])), (a_T_times, .inl (cI, 6, .inl T_times)), (a_T_places, .inl (cI, 6, .inl T_places)), (a_P1, .inr (5, [.ref a_P1_guestKind, .ref a_P1_guestFloor, .ref a_P1_wishKind, .ref a_P1_wishA, .ref a_P1_wishB, .ref a_P1_wishNames, .int P1_guests, .int P1_wishes, .int P1_start])), (a_P1_wishA, .inl (cI, 9, .inl P1_wishA)), (a_P1_wishB, .inl (cI, 9, .inl P1_wishB)), (a_P1_wishKind, .inl (cI, 9, .inl P1_wishKind))] s.heap.size = A at hD ⊢
  have hA : ∀ q : Nat, s.heap.size ≤ q → A q := fun q h => by rw [← hAe]; exact Or.inr h
  have hS : va_S A s.heap s.heap [] := va_S.rf
  have hl := lv_entry ([.ref a_T, .ref a_P1, .int x2] : List Value) (n := 5) (Nat.le_of_ble_eq_true rfl)
  rw [lg_entry_eq]
  generalize (lg_sl ([.ref a_T, .ref a_P1, .int x2] : List Value) ++ List.replicate (5 - (lg_sl ([.ref a_T, .ref a_P1, .int x2] : List Value)).length) Slot.unset).toArray = ls at hl ⊢
  replace hl : lv_has ls 5 [(0, .ref a_T), (1, .ref a_P1), (2, .int x2)] := hl
  obtain ⟨Q, hQ⟩ : ∃ Q, Q = MQ below (va_Qi (fun r (_ : Unit) => r = R) (fun _ => BW (dC, dI) (tysA cC cI cJ) A [(a_T, .inr (4, [.ref a_T_order, .ref a_T_places, .ref a_T_times, .ref a_T_waits, .ref a_T_wakings, .int T_size, .int T_end])), (a_T_times, .inl (cI, 6, .inl T_times)), (a_T_places, .inl (cI, 6, .inl T_places)), (a_P1, .inr (5, [.ref a_P1_guestKind, .ref a_P1_guestFloor, .ref a_P1_wishKind, .ref a_P1_wishA, .ref a_P1_wishB, .ref a_P1_wishNames, .int P1_guests, .int P1_wishes, .int P1_start])), (a_P1_wishA, .inl (cI, 9, .inl P1_wishA)), (a_P1_wishB, .inl (cI, 9, .inl P1_wishB)), (a_P1_wishKind, .inl (cI, 9, .inl P1_wishKind))]) A) ([.ref a_T, .ref a_P1, .int x2] : List Value).toArray s 0 0 A := ⟨_, rfl⟩
  rw [← hQ]
  suffices hE : WG p l e rmX4_isKept s m ([.ref a_T, .ref a_P1, .int x2] : List Value).toArray below meth c 0 0 Q (dC, dI) A 0 5 [(a_T, .inr (4, [.ref a_T_order, .ref a_T_places, .ref a_T_times, .ref a_T_waits, .ref a_T_wakings, .int T_size, .int T_end])), (a_T_times, .inl (cI, 6, .inl T_times)), (a_T_places, .inl (cI, 6, .inl T_places)), (a_P1, .inr (5, [.ref a_P1_guestKind, .ref a_P1_guestFloor, .ref a_P1_wishKind, .ref a_P1_wishA, .ref a_P1_wishB, .ref a_P1_wishNames, .int P1_guests, .int P1_wishes, .int P1_start])), (a_P1_wishA, .inl (cI, 9, .inl P1_wishA)), (a_P1_wishB, .inl (cI, 9, .inl P1_wishB)), (a_P1_wishKind, .inl (cI, 9, .inl P1_wishKind))] [(0, .ref a_T), (1, .ref a_P1), (2, .int x2)] [] from hE _ _ _ hP hD hS hl
  clear hP hD hS hl hD0 hAe
  intro H locs ls hP hD hS hl
  unfold fX4_isKept at hr
  refine lv_aload_n hx hb dX4_isKept_0 rfl (lv_at hl 1 rfl) ?_
  refine va_getN (D := (dC, dI)) (ci := 5) (v := .ref a_P1_wishA) (C := RX5) (T := TX5) (N := 9) hx hb hts inX4_isKept_X5 hown hK hP 3 rfl rfl 3 (by decide) (nk_use hN nw_9) (fun _ h9 => h9) rfl dX4_isKept_1 ?_
  refine lv_iload_n hx hb dX4_isKept_4 rfl (lv_at hl 2 rfl) ?_
  obtain ⟨r, hc1, hr⟩ := bd1_some hr
  refine call_i (D := (dC, dI)) (tys := tysA cC cI cJ) (wc := [(a_P1_wishA, .inl (cI, 9, .inl P1_wishA))]) (wr := [(a_T, .inr (4, [.ref a_T_order, .ref a_T_places, .ref a_T_times, .ref a_T_waits, .ref a_T_wakings, .int T_size, .int T_end])), (a_T_times, .inl (cI, 6, .inl T_times)), (a_T_places, .inl (cI, 6, .inl T_places)), (a_P1, .inr (5, [.ref a_P1_guestKind, .ref a_P1_guestFloor, .ref a_P1_wishKind, .ref a_P1_wishA, .ref a_P1_wishB, .ref a_P1_wishNames, .int P1_guests, .int P1_wishes, .int P1_start])), (a_P1_wishB, .inl (cI, 9, .inl P1_wishB)), (a_P1_wishKind, .inl (cI, 9, .inl P1_wishKind))]) (w1 := [(a_P1_wishA, .inl (cI, 9, .inl P1_wishA))]) (wn := [(a_T, .inr (4, [.ref a_T_order, .ref a_T_places, .ref a_T_times, .ref a_T_waits, .ref a_T_wakings, .int T_size, .int T_end])), (a_T_times, .inl (cI, 6, .inl T_times)), (a_T_places, .inl (cI, 6, .inl T_places)), (a_P1, .inr (5, [.ref a_P1_guestKind, .ref a_P1_guestFloor, .ref a_P1_wishKind, .ref a_P1_wishA, .ref a_P1_wishB, .ref a_P1_wishNames, .int P1_guests, .int P1_wishes, .int P1_start])), (a_P1_wishA, .inl (cI, 9, .inl P1_wishA)), (a_P1_wishB, .inl (cI, 9, .inl P1_wishB)), (a_P1_wishKind, .inl (cI, 9, .inl P1_wishKind))]) (r0 := r) hP hD hS hA [4] [0, 1, 2, 3, 5, 6] [0, 1, 2, 3, 6, 4, 5] rfl rfl (by decide +kernel) (by decide +kernel) rfl (by decide +kernel) (va_runSN (host := "BootsAtDawn") (As := [.ref a_P1_wishA, .int x2]) (rest := []) ⟨hx, hb, hml, hown, hts⟩ (kX8_at l dC dI cC cI cJ H.size K a_P1_wishA 9 x2 P1_wishA r hc1) ⟨va_cnB 2 hts gX4_isKept_X8_at_n51 rfl rfl rfl (hN _ nw_85) (hts _ mbX4_isKept_1) (by decide +kernel) ⟨Nat.le_of_ble_eq_true rfl, Nat.le_of_ble_eq_true rfl⟩, (hts _ mbX4_isKept_2), trivial⟩ ⟨fbW, preW hP hD hK hN [4] rfl (by decide +kernel)⟩ rfl rfl hl.1 rfl (lv_room (Nat.le_of_ble_eq_true rfl)) dX4_isKept_5 ⟨Nat.zero_le _, Nat.zero_le _⟩) (fun H locs hP hD hS => ?_)
  refine lv_istore_n (lv' := [(3, .int r), (0, .ref a_T), (1, .ref a_P1), (2, .int x2)]) hx hb dX4_isKept_8 rfl hl (by decide) rfl (fun ls hl => ?_)
  refine lv_aload_n hx hb dX4_isKept_9 rfl (lv_at hl 2 rfl) ?_
  refine va_getN (D := (dC, dI)) (ci := 5) (v := .ref a_P1_wishB) (C := RX5) (T := TX5) (N := 9) hx hb hts inX4_isKept_X5 hown hK hP 3 rfl rfl 4 (by decide) (nk_use hN nw_12) (fun _ h9 => h9) rfl dX4_isKept_10 ?_
  refine lv_iload_n hx hb dX4_isKept_13 rfl (lv_at hl 3 rfl) ?_
  obtain ⟨r_1, hc2, hr⟩ := bd1_some hr
  refine call_i (D := (dC, dI)) (tys := tysA cC cI cJ) (wc := [(a_P1_wishB, .inl (cI, 9, .inl P1_wishB))]) (wr := [(a_T, .inr (4, [.ref a_T_order, .ref a_T_places, .ref a_T_times, .ref a_T_waits, .ref a_T_wakings, .int T_size, .int T_end])), (a_T_times, .inl (cI, 6, .inl T_times)), (a_T_places, .inl (cI, 6, .inl T_places)), (a_P1, .inr (5, [.ref a_P1_guestKind, .ref a_P1_guestFloor, .ref a_P1_wishKind, .ref a_P1_wishA, .ref a_P1_wishB, .ref a_P1_wishNames, .int P1_guests, .int P1_wishes, .int P1_start])), (a_P1_wishA, .inl (cI, 9, .inl P1_wishA)), (a_P1_wishKind, .inl (cI, 9, .inl P1_wishKind))]) (w1 := [(a_P1_wishB, .inl (cI, 9, .inl P1_wishB))]) (wn := [(a_T, .inr (4, [.ref a_T_order, .ref a_T_places, .ref a_T_times, .ref a_T_waits, .ref a_T_wakings, .int T_size, .int T_end])), (a_T_times, .inl (cI, 6, .inl T_times)), (a_T_places, .inl (cI, 6, .inl T_places)), (a_P1, .inr (5, [.ref a_P1_guestKind, .ref a_P1_guestFloor, .ref a_P1_wishKind, .ref a_P1_wishA, .ref a_P1_wishB, .ref a_P1_wishNames, .int P1_guests, .int P1_wishes, .int P1_start])), (a_P1_wishA, .inl (cI, 9, .inl P1_wishA)), (a_P1_wishB, .inl (cI, 9, .inl P1_wishB)), (a_P1_wishKind, .inl (cI, 9, .inl P1_wishKind))]) (r0 := r_1) hP hD hS hA [5] [0, 1, 2, 3, 4, 6] [0, 1, 2, 3, 4, 6, 5] rfl rfl (by decide +kernel) (by decide +kernel) rfl (by decide +kernel) (va_runSN (host := "BootsAtDawn") (As := [.ref a_P1_wishB, .int x2]) (rest := []) ⟨hx, hb, hml, hown, hts⟩ (kX8_at l dC dI cC cI cJ H.size K a_P1_wishB 9 x2 P1_wishB r_1 hc2) ⟨va_cnB 2 hts gX4_isKept_X8_at_n51 rfl rfl rfl (hN _ nw_85) (hts _ mbX4_isKept_1) (by decide +kernel) ⟨Nat.le_of_ble_eq_true rfl, Nat.le_of_ble_eq_true rfl⟩, (hts _ mbX4_isKept_2), trivial⟩ ⟨fbW, preW hP hD hK hN [5] rfl (by decide +kernel)⟩ rfl rfl hl.1 rfl (lv_room (Nat.le_of_ble_eq_true rfl)) dX4_isKept_14 ⟨Nat.zero_le _, Nat.zero_le _⟩) (fun H locs hP hD hS => ?_)
  refine lv_istore (lv' := [(4, .int r_1), (3, .int r), (0, .ref a_T), (1, .ref a_P1), (2, .int x2)]) hx hb dX4_isKept_17 hl (by decide) rfl (fun ls hl => ?_)
  refine lv_aload_n hx hb dX4_isKept_19 rfl (lv_at hl 3 rfl) ?_
  refine va_getN (D := (dC, dI)) (ci := 5) (v := .ref a_P1_wishKind) (C := RX5) (T := TX5) (N := 9) hx hb hts inX4_isKept_X5 hown hK hP 3 rfl rfl 2 (by decide) (nk_use hN nw_6) (fun _ h9 => h9) rfl dX4_isKept_20 ?_
  refine lv_iload_n hx hb dX4_isKept_23 rfl (lv_at hl 4 rfl) ?_
  obtain ⟨r_2, hc3, hr⟩ := bd1_some hr
  refine call_i (D := (dC, dI)) (tys := tysA cC cI cJ) (wc := [(a_P1_wishKind, .inl (cI, 9, .inl P1_wishKind))]) (wr := [(a_T, .inr (4, [.ref a_T_order, .ref a_T_places, .ref a_T_times, .ref a_T_waits, .ref a_T_wakings, .int T_size, .int T_end])), (a_T_times, .inl (cI, 6, .inl T_times)), (a_T_places, .inl (cI, 6, .inl T_places)), (a_P1, .inr (5, [.ref a_P1_guestKind, .ref a_P1_guestFloor, .ref a_P1_wishKind, .ref a_P1_wishA, .ref a_P1_wishB, .ref a_P1_wishNames, .int P1_guests, .int P1_wishes, .int P1_start])), (a_P1_wishA, .inl (cI, 9, .inl P1_wishA)), (a_P1_wishB, .inl (cI, 9, .inl P1_wishB))]) (w1 := [(a_P1_wishKind, .inl (cI, 9, .inl P1_wishKind))]) (wn := [(a_T, .inr (4, [.ref a_T_order, .ref a_T_places, .ref a_T_times, .ref a_T_waits, .ref a_T_wakings, .int T_size, .int T_end])), (a_T_times, .inl (cI, 6, .inl T_times)), (a_T_places, .inl (cI, 6, .inl T_places)), (a_P1, .inr (5, [.ref a_P1_guestKind, .ref a_P1_guestFloor, .ref a_P1_wishKind, .ref a_P1_wishA, .ref a_P1_wishB, .ref a_P1_wishNames, .int P1_guests, .int P1_wishes, .int P1_start])), (a_P1_wishA, .inl (cI, 9, .inl P1_wishA)), (a_P1_wishB, .inl (cI, 9, .inl P1_wishB)), (a_P1_wishKind, .inl (cI, 9, .inl P1_wishKind))]) (r0 := r_2) hP hD hS hA [6] [0, 1, 2, 3, 4, 5] [0, 1, 2, 3, 4, 5, 6] rfl rfl (by decide +kernel) (by decide +kernel) rfl (by decide +kernel) (va_runSN (host := "BootsAtDawn") (As := [.ref a_P1_wishKind, .int x2]) (rest := []) ⟨hx, hb, hml, hown, hts⟩ (kX8_at l dC dI cC cI cJ H.size K a_P1_wishKind 9 x2 P1_wishKind r_2 hc3) ⟨va_cnB 2 hts gX4_isKept_X8_at_n51 rfl rfl rfl (hN _ nw_85) (hts _ mbX4_isKept_1) (by decide +kernel) ⟨Nat.le_of_ble_eq_true rfl, Nat.le_of_ble_eq_true rfl⟩, (hts _ mbX4_isKept_2), trivial⟩ ⟨fbW, preW hP hD hK hN [6] rfl (by decide +kernel)⟩ rfl rfl hl.1 rfl (lv_room (Nat.le_of_ble_eq_true rfl)) dX4_isKept_24 ⟨Nat.zero_le _, Nat.zero_le _⟩) (fun H locs hP hD hS => ?_)
  by_cases c1 : (r_2 : Int32) = 0
  · replace hr := it_t hr c1
    refine lv_tableIn (tgt := 60) (off := 33) hx hb dX4_isKept_27 (by rw [c1]; decide) (by rw [c1]; decide) (by rw [c1]; rfl) (by decide) ?_
    refine lv_aload_n hx hb dX4_isKept_60 rfl (lv_at hl 2 rfl) ?_
    refine va_get (D := (dC, dI)) (ci := 4) (v := .ref a_T_places) (C := RX4) (T := TX4) (N := 7) hx hb hts inX4_isKept_X4 hown hK hP 0 rfl rfl 1 (by decide) (hts _ mbX4_isKept_3) (fun _ h9 => h9) rfl dX4_isKept_61 ?_
    refine lv_iload_n hx hb dX4_isKept_64 rfl (lv_at hl 1 rfl) ?_
    obtain ⟨r_3, hc4, hr⟩ := bd1_some hr
    refine call_i (D := (dC, dI)) (tys := tysA cC cI cJ) (wc := [(a_T_places, .inl (cI, 6, .inl T_places))]) (wr := [(a_T, .inr (4, [.ref a_T_order, .ref a_T_places, .ref a_T_times, .ref a_T_waits, .ref a_T_wakings, .int T_size, .int T_end])), (a_T_times, .inl (cI, 6, .inl T_times)), (a_P1, .inr (5, [.ref a_P1_guestKind, .ref a_P1_guestFloor, .ref a_P1_wishKind, .ref a_P1_wishA, .ref a_P1_wishB, .ref a_P1_wishNames, .int P1_guests, .int P1_wishes, .int P1_start])), (a_P1_wishA, .inl (cI, 9, .inl P1_wishA)), (a_P1_wishB, .inl (cI, 9, .inl P1_wishB)), (a_P1_wishKind, .inl (cI, 9, .inl P1_wishKind))]) (w1 := [(a_T_places, .inl (cI, 6, .inl T_places))]) (wn := [(a_T, .inr (4, [.ref a_T_order, .ref a_T_places, .ref a_T_times, .ref a_T_waits, .ref a_T_wakings, .int T_size, .int T_end])), (a_T_times, .inl (cI, 6, .inl T_times)), (a_T_places, .inl (cI, 6, .inl T_places)), (a_P1, .inr (5, [.ref a_P1_guestKind, .ref a_P1_guestFloor, .ref a_P1_wishKind, .ref a_P1_wishA, .ref a_P1_wishB, .ref a_P1_wishNames, .int P1_guests, .int P1_wishes, .int P1_start])), (a_P1_wishA, .inl (cI, 9, .inl P1_wishA)), (a_P1_wishB, .inl (cI, 9, .inl P1_wishB)), (a_P1_wishKind, .inl (cI, 9, .inl P1_wishKind))]) (r0 := r_3) hP hD hS hA [2] [0, 1, 3, 4, 5, 6] [0, 1, 6, 2, 3, 4, 5] rfl rfl (by decide +kernel) (by decide +kernel) rfl (by decide +kernel) (va_runSN (host := "BootsAtDawn") (As := [.ref a_T_places, .int r]) (rest := []) ⟨hx, hb, hml, hown, hts⟩ (kX8_at l dC dI cC cI cJ H.size K a_T_places 6 r T_places r_3 hc4) ⟨va_cnB 2 hts gX4_isKept_X8_at_n51 rfl rfl rfl (hN _ nw_85) (hts _ mbX4_isKept_1) (by decide +kernel) ⟨Nat.le_of_ble_eq_true rfl, Nat.le_of_ble_eq_true rfl⟩, (hts _ mbX4_isKept_2), trivial⟩ ⟨fbW, preW hP hD hK hN [2] rfl (by decide +kernel)⟩ rfl rfl hl.1 rfl (lv_room (Nat.le_of_ble_eq_true rfl)) dX4_isKept_65 ⟨Nat.zero_le _, Nat.zero_le _⟩) (fun H locs hP hD hS => ?_)
    refine lv_aload_n hx hb dX4_isKept_68 rfl (lv_at hl 2 rfl) ?_
    refine va_get (D := (dC, dI)) (ci := 4) (v := .ref a_T_places) (C := RX4) (T := TX4) (N := 7) hx hb hts inX4_isKept_X4 hown hK hP 0 rfl rfl 1 (by decide) (hts _ mbX4_isKept_3) (fun _ h9 => h9) rfl dX4_isKept_69 ?_
    refine lv_iload hx hb dX4_isKept_72 (lv_at hl 0 rfl) ?_
    obtain ⟨r_4, hc5, hr⟩ := bd1_some hr
    refine call_i (D := (dC, dI)) (tys := tysA cC cI cJ) (wc := [(a_T_places, .inl (cI, 6, .inl T_places))]) (wr := [(a_T, .inr (4, [.ref a_T_order, .ref a_T_places, .ref a_T_times, .ref a_T_waits, .ref a_T_wakings, .int T_size, .int T_end])), (a_T_times, .inl (cI, 6, .inl T_times)), (a_P1, .inr (5, [.ref a_P1_guestKind, .ref a_P1_guestFloor, .ref a_P1_wishKind, .ref a_P1_wishA, .ref a_P1_wishB, .ref a_P1_wishNames, .int P1_guests, .int P1_wishes, .int P1_start])), (a_P1_wishA, .inl (cI, 9, .inl P1_wishA)), (a_P1_wishB, .inl (cI, 9, .inl P1_wishB)), (a_P1_wishKind, .inl (cI, 9, .inl P1_wishKind))]) (w1 := [(a_T_places, .inl (cI, 6, .inl T_places))]) (wn := [(a_T, .inr (4, [.ref a_T_order, .ref a_T_places, .ref a_T_times, .ref a_T_waits, .ref a_T_wakings, .int T_size, .int T_end])), (a_T_times, .inl (cI, 6, .inl T_times)), (a_T_places, .inl (cI, 6, .inl T_places)), (a_P1, .inr (5, [.ref a_P1_guestKind, .ref a_P1_guestFloor, .ref a_P1_wishKind, .ref a_P1_wishA, .ref a_P1_wishB, .ref a_P1_wishNames, .int P1_guests, .int P1_wishes, .int P1_start])), (a_P1_wishA, .inl (cI, 9, .inl P1_wishA)), (a_P1_wishB, .inl (cI, 9, .inl P1_wishB)), (a_P1_wishKind, .inl (cI, 9, .inl P1_wishKind))]) (r0 := r_4) hP hD hS hA [2] [0, 1, 3, 4, 5, 6] [0, 1, 6, 2, 3, 4, 5] rfl rfl (by decide +kernel) (by decide +kernel) rfl (by decide +kernel) (va_runSN (host := "BootsAtDawn") (As := [.ref a_T_places, .int r_1]) (rest := [.int r_3]) ⟨hx, hb, hml, hown, hts⟩ (kX8_at l dC dI cC cI cJ H.size K a_T_places 6 r_1 T_places r_4 hc5) ⟨va_cnB 2 hts gX4_isKept_X8_at_n51 rfl rfl rfl (hN _ nw_85) (hts _ mbX4_isKept_1) (by decide +kernel) ⟨Nat.le_of_ble_eq_true rfl, Nat.le_of_ble_eq_true rfl⟩, (hts _ mbX4_isKept_2), trivial⟩ ⟨fbW, preW hP hD hK hN [2] rfl (by decide +kernel)⟩ rfl rfl hl.1 rfl (lv_room (Nat.le_of_ble_eq_true rfl)) dX4_isKept_74 ⟨Nat.zero_le _, Nat.zero_le _⟩) (fun H locs hP hD hS => ?_)
    refine lv_icmp_ge (tgt := 84) hx hb dX4_isKept_77 (by decide) (fun c2 => ?_) (fun c2 => ?_)
    · replace hr := it_t hr c2
      refine lv_iconst (v := 0) hx hb dX4_isKept_84 (by decide) ?_
      have he := Option.some.inj hr
      subst he
      subst hQ
      exact ret_z hx hb hrt (show narrow .boolean (.int 0) = .int 0 from rfl) hK hP hD hS hlocks dX4_isKept_85
    · replace hr := it_f hr c2
      refine lv_iconst (v := 1) hx hb dX4_isKept_80 (by decide) ?_
      refine lv_goto (tgt := 85) hx hb dX4_isKept_81 (by decide) ?_
      have he := Option.some.inj hr
      subst he
      subst hQ
      exact ret_z hx hb hrt (show narrow .boolean (.int 1) = .int 1 from rfl) hK hP hD hS hlocks dX4_isKept_85
  · replace hr := it_f hr c1
    by_cases c3 : (r_2 : Int32) = 1
    · replace hr := it_t hr c3
      refine lv_tableIn (tgt := 86) (off := 59) hx hb dX4_isKept_27 (by rw [c3]; decide) (by rw [c3]; decide) (by rw [c3]; rfl) (by decide) ?_
      refine lv_aload_n hx hb dX4_isKept_86 rfl (lv_at hl 2 rfl) ?_
      refine va_get (D := (dC, dI)) (ci := 4) (v := .ref a_T_places) (C := RX4) (T := TX4) (N := 7) hx hb hts inX4_isKept_X4 hown hK hP 0 rfl rfl 1 (by decide) (hts _ mbX4_isKept_3) (fun _ h9 => h9) rfl dX4_isKept_87 ?_
      refine lv_iload_n hx hb dX4_isKept_90 rfl (lv_at hl 1 rfl) ?_
      obtain ⟨r_5, hc6, hr⟩ := bd1_some hr
      refine call_i (D := (dC, dI)) (tys := tysA cC cI cJ) (wc := [(a_T_places, .inl (cI, 6, .inl T_places))]) (wr := [(a_T, .inr (4, [.ref a_T_order, .ref a_T_places, .ref a_T_times, .ref a_T_waits, .ref a_T_wakings, .int T_size, .int T_end])), (a_T_times, .inl (cI, 6, .inl T_times)), (a_P1, .inr (5, [.ref a_P1_guestKind, .ref a_P1_guestFloor, .ref a_P1_wishKind, .ref a_P1_wishA, .ref a_P1_wishB, .ref a_P1_wishNames, .int P1_guests, .int P1_wishes, .int P1_start])), (a_P1_wishA, .inl (cI, 9, .inl P1_wishA)), (a_P1_wishB, .inl (cI, 9, .inl P1_wishB)), (a_P1_wishKind, .inl (cI, 9, .inl P1_wishKind))]) (w1 := [(a_T_places, .inl (cI, 6, .inl T_places))]) (wn := [(a_T, .inr (4, [.ref a_T_order, .ref a_T_places, .ref a_T_times, .ref a_T_waits, .ref a_T_wakings, .int T_size, .int T_end])), (a_T_times, .inl (cI, 6, .inl T_times)), (a_T_places, .inl (cI, 6, .inl T_places)), (a_P1, .inr (5, [.ref a_P1_guestKind, .ref a_P1_guestFloor, .ref a_P1_wishKind, .ref a_P1_wishA, .ref a_P1_wishB, .ref a_P1_wishNames, .int P1_guests, .int P1_wishes, .int P1_start])), (a_P1_wishA, .inl (cI, 9, .inl P1_wishA)), (a_P1_wishB, .inl (cI, 9, .inl P1_wishB)), (a_P1_wishKind, .inl (cI, 9, .inl P1_wishKind))]) (r0 := r_5) hP hD hS hA [2] [0, 1, 3, 4, 5, 6] [0, 1, 6, 2, 3, 4, 5] rfl rfl (by decide +kernel) (by decide +kernel) rfl (by decide +kernel) (va_runSN (host := "BootsAtDawn") (As := [.ref a_T_places, .int r]) (rest := []) ⟨hx, hb, hml, hown, hts⟩ (kX8_at l dC dI cC cI cJ H.size K a_T_places 6 r T_places r_5 hc6) ⟨va_cnB 2 hts gX4_isKept_X8_at_n51 rfl rfl rfl (hN _ nw_85) (hts _ mbX4_isKept_1) (by decide +kernel) ⟨Nat.le_of_ble_eq_true rfl, Nat.le_of_ble_eq_true rfl⟩, (hts _ mbX4_isKept_2), trivial⟩ ⟨fbW, preW hP hD hK hN [2] rfl (by decide +kernel)⟩ rfl rfl hl.1 rfl (lv_room (Nat.le_of_ble_eq_true rfl)) dX4_isKept_91 ⟨Nat.zero_le _, Nat.zero_le _⟩) (fun H locs hP hD hS => ?_)
      refine lv_aload_n hx hb dX4_isKept_94 rfl (lv_at hl 2 rfl) ?_
      refine va_get (D := (dC, dI)) (ci := 4) (v := .ref a_T_places) (C := RX4) (T := TX4) (N := 7) hx hb hts inX4_isKept_X4 hown hK hP 0 rfl rfl 1 (by decide) (hts _ mbX4_isKept_3) (fun _ h9 => h9) rfl dX4_isKept_95 ?_
      refine lv_iload hx hb dX4_isKept_98 (lv_at hl 0 rfl) ?_
      obtain ⟨r_6, hc7, hr⟩ := bd1_some hr
      refine call_i (D := (dC, dI)) (tys := tysA cC cI cJ) (wc := [(a_T_places, .inl (cI, 6, .inl T_places))]) (wr := [(a_T, .inr (4, [.ref a_T_order, .ref a_T_places, .ref a_T_times, .ref a_T_waits, .ref a_T_wakings, .int T_size, .int T_end])), (a_T_times, .inl (cI, 6, .inl T_times)), (a_P1, .inr (5, [.ref a_P1_guestKind, .ref a_P1_guestFloor, .ref a_P1_wishKind, .ref a_P1_wishA, .ref a_P1_wishB, .ref a_P1_wishNames, .int P1_guests, .int P1_wishes, .int P1_start])), (a_P1_wishA, .inl (cI, 9, .inl P1_wishA)), (a_P1_wishB, .inl (cI, 9, .inl P1_wishB)), (a_P1_wishKind, .inl (cI, 9, .inl P1_wishKind))]) (w1 := [(a_T_places, .inl (cI, 6, .inl T_places))]) (wn := [(a_T, .inr (4, [.ref a_T_order, .ref a_T_places, .ref a_T_times, .ref a_T_waits, .ref a_T_wakings, .int T_size, .int T_end])), (a_T_times, .inl (cI, 6, .inl T_times)), (a_T_places, .inl (cI, 6, .inl T_places)), (a_P1, .inr (5, [.ref a_P1_guestKind, .ref a_P1_guestFloor, .ref a_P1_wishKind, .ref a_P1_wishA, .ref a_P1_wishB, .ref a_P1_wishNames, .int P1_guests, .int P1_wishes, .int P1_start])), (a_P1_wishA, .inl (cI, 9, .inl P1_wishA)), (a_P1_wishB, .inl (cI, 9, .inl P1_wishB)), (a_P1_wishKind, .inl (cI, 9, .inl P1_wishKind))]) (r0 := r_6) hP hD hS hA [2] [0, 1, 3, 4, 5, 6] [0, 1, 6, 2, 3, 4, 5] rfl rfl (by decide +kernel) (by decide +kernel) rfl (by decide +kernel) (va_runSN (host := "BootsAtDawn") (As := [.ref a_T_places, .int r_1]) (rest := [.int r_5]) ⟨hx, hb, hml, hown, hts⟩ (kX8_at l dC dI cC cI cJ H.size K a_T_places 6 r_1 T_places r_6 hc7) ⟨va_cnB 2 hts gX4_isKept_X8_at_n51 rfl rfl rfl (hN _ nw_85) (hts _ mbX4_isKept_1) (by decide +kernel) ⟨Nat.le_of_ble_eq_true rfl, Nat.le_of_ble_eq_true rfl⟩, (hts _ mbX4_isKept_2), trivial⟩ ⟨fbW, preW hP hD hK hN [2] rfl (by decide +kernel)⟩ rfl rfl hl.1 rfl (lv_room (Nat.le_of_ble_eq_true rfl)) dX4_isKept_100 ⟨Nat.zero_le _, Nat.zero_le _⟩) (fun H locs hP hD hS => ?_)
      refine lv_iconst (v := 1) hx hb dX4_isKept_103 (by decide) ?_
      refine lv_iadd hx hb dX4_isKept_104 ?_
      refine lv_icmp_ne (tgt := 112) hx hb dX4_isKept_105 (by decide) (fun c4 => ?_) (fun c4 => ?_)
      · replace hr := it_f hr c4
        refine lv_iconst (v := 0) hx hb dX4_isKept_112 (by decide) ?_
        have he := Option.some.inj hr
        subst he
        subst hQ
        exact ret_z hx hb hrt (show narrow .boolean (.int 0) = .int 0 from rfl) hK hP hD hS hlocks dX4_isKept_113
      · replace hr := it_t hr c4
        refine lv_iconst (v := 1) hx hb dX4_isKept_108 (by decide) ?_
        refine lv_goto (tgt := 113) hx hb dX4_isKept_109 (by decide) ?_
        have he := Option.some.inj hr
        subst he
        subst hQ
        exact ret_z hx hb hrt (show narrow .boolean (.int 1) = .int 1 from rfl) hK hP hD hS hlocks dX4_isKept_113
    · replace hr := it_f hr c3
      by_cases c5 : (r_2 : Int32) = 2
      · replace hr := it_t hr c5
        refine lv_tableIn (tgt := 114) (off := 87) hx hb dX4_isKept_27 (by rw [c5]; decide) (by rw [c5]; decide) (by rw [c5]; rfl) (by decide) ?_
        refine lv_aload_n hx hb dX4_isKept_114 rfl (lv_at hl 2 rfl) ?_
        refine va_get (D := (dC, dI)) (ci := 4) (v := .ref a_T_places) (C := RX4) (T := TX4) (N := 7) hx hb hts inX4_isKept_X4 hown hK hP 0 rfl rfl 1 (by decide) (hts _ mbX4_isKept_3) (fun _ h9 => h9) rfl dX4_isKept_115 ?_
        refine lv_iload_n hx hb dX4_isKept_118 rfl (lv_at hl 1 rfl) ?_
        obtain ⟨r_7, hc8, hr⟩ := bd1_some hr
        refine call_i (D := (dC, dI)) (tys := tysA cC cI cJ) (wc := [(a_T_places, .inl (cI, 6, .inl T_places))]) (wr := [(a_T, .inr (4, [.ref a_T_order, .ref a_T_places, .ref a_T_times, .ref a_T_waits, .ref a_T_wakings, .int T_size, .int T_end])), (a_T_times, .inl (cI, 6, .inl T_times)), (a_P1, .inr (5, [.ref a_P1_guestKind, .ref a_P1_guestFloor, .ref a_P1_wishKind, .ref a_P1_wishA, .ref a_P1_wishB, .ref a_P1_wishNames, .int P1_guests, .int P1_wishes, .int P1_start])), (a_P1_wishA, .inl (cI, 9, .inl P1_wishA)), (a_P1_wishB, .inl (cI, 9, .inl P1_wishB)), (a_P1_wishKind, .inl (cI, 9, .inl P1_wishKind))]) (w1 := [(a_T_places, .inl (cI, 6, .inl T_places))]) (wn := [(a_T, .inr (4, [.ref a_T_order, .ref a_T_places, .ref a_T_times, .ref a_T_waits, .ref a_T_wakings, .int T_size, .int T_end])), (a_T_times, .inl (cI, 6, .inl T_times)), (a_T_places, .inl (cI, 6, .inl T_places)), (a_P1, .inr (5, [.ref a_P1_guestKind, .ref a_P1_guestFloor, .ref a_P1_wishKind, .ref a_P1_wishA, .ref a_P1_wishB, .ref a_P1_wishNames, .int P1_guests, .int P1_wishes, .int P1_start])), (a_P1_wishA, .inl (cI, 9, .inl P1_wishA)), (a_P1_wishB, .inl (cI, 9, .inl P1_wishB)), (a_P1_wishKind, .inl (cI, 9, .inl P1_wishKind))]) (r0 := r_7) hP hD hS hA [2] [0, 1, 3, 4, 5, 6] [0, 1, 6, 2, 3, 4, 5] rfl rfl (by decide +kernel) (by decide +kernel) rfl (by decide +kernel) (va_runSN (host := "BootsAtDawn") (As := [.ref a_T_places, .int r]) (rest := []) ⟨hx, hb, hml, hown, hts⟩ (kX8_at l dC dI cC cI cJ H.size K a_T_places 6 r T_places r_7 hc8) ⟨va_cnB 2 hts gX4_isKept_X8_at_n51 rfl rfl rfl (hN _ nw_85) (hts _ mbX4_isKept_1) (by decide +kernel) ⟨Nat.le_of_ble_eq_true rfl, Nat.le_of_ble_eq_true rfl⟩, (hts _ mbX4_isKept_2), trivial⟩ ⟨fbW, preW hP hD hK hN [2] rfl (by decide +kernel)⟩ rfl rfl hl.1 rfl (lv_room (Nat.le_of_ble_eq_true rfl)) dX4_isKept_119 ⟨Nat.zero_le _, Nat.zero_le _⟩) (fun H locs hP hD hS => ?_)
        refine lv_if_ne (tgt := 129) hx hb dX4_isKept_122 (by decide) (fun c6 => ?_) (fun c6 => ?_)
        · replace hr := it_f hr c6
          refine lv_iconst (v := 0) hx hb dX4_isKept_129 (by decide) ?_
          have he := Option.some.inj hr
          subst he
          subst hQ
          exact ret_z hx hb hrt (show narrow .boolean (.int 0) = .int 0 from rfl) hK hP hD hS hlocks dX4_isKept_130
        · replace hr := it_t hr c6
          refine lv_iconst (v := 1) hx hb dX4_isKept_125 (by decide) ?_
          refine lv_goto (tgt := 130) hx hb dX4_isKept_126 (by decide) ?_
          have he := Option.some.inj hr
          subst he
          subst hQ
          exact ret_z hx hb hrt (show narrow .boolean (.int 1) = .int 1 from rfl) hK hP hD hS hlocks dX4_isKept_130
      · replace hr := it_f hr c5
        by_cases c7 : (r_2 : Int32) = 4
        · replace hr := it_t hr c7
          refine lv_tableIn (tgt := 131) (off := 104) hx hb dX4_isKept_27 (by rw [c7]; decide) (by rw [c7]; decide) (by rw [c7]; rfl) (by decide) ?_
          refine lv_aload_n hx hb dX4_isKept_131 rfl (lv_at hl 2 rfl) ?_
          refine va_get (D := (dC, dI)) (ci := 4) (v := .ref a_T_times) (C := RX4) (T := TX4) (N := 7) hx hb hts inX4_isKept_X4 hown hK hP 0 rfl rfl 2 (by decide) (hts _ mbX4_isKept_5) (fun _ h9 => h9) rfl dX4_isKept_132 ?_
          refine lv_iload_n hx hb dX4_isKept_135 rfl (lv_at hl 1 rfl) ?_
          obtain ⟨r_8, hc9, hr⟩ := bd1_some hr
          refine call_i (D := (dC, dI)) (tys := tysA cC cI cJ) (wc := [(a_T_times, .inl (cI, 6, .inl T_times))]) (wr := [(a_T, .inr (4, [.ref a_T_order, .ref a_T_places, .ref a_T_times, .ref a_T_waits, .ref a_T_wakings, .int T_size, .int T_end])), (a_T_places, .inl (cI, 6, .inl T_places)), (a_P1, .inr (5, [.ref a_P1_guestKind, .ref a_P1_guestFloor, .ref a_P1_wishKind, .ref a_P1_wishA, .ref a_P1_wishB, .ref a_P1_wishNames, .int P1_guests, .int P1_wishes, .int P1_start])), (a_P1_wishA, .inl (cI, 9, .inl P1_wishA)), (a_P1_wishB, .inl (cI, 9, .inl P1_wishB)), (a_P1_wishKind, .inl (cI, 9, .inl P1_wishKind))]) (w1 := [(a_T_times, .inl (cI, 6, .inl T_times))]) (wn := [(a_T, .inr (4, [.ref a_T_order, .ref a_T_places, .ref a_T_times, .ref a_T_waits, .ref a_T_wakings, .int T_size, .int T_end])), (a_T_times, .inl (cI, 6, .inl T_times)), (a_T_places, .inl (cI, 6, .inl T_places)), (a_P1, .inr (5, [.ref a_P1_guestKind, .ref a_P1_guestFloor, .ref a_P1_wishKind, .ref a_P1_wishA, .ref a_P1_wishB, .ref a_P1_wishNames, .int P1_guests, .int P1_wishes, .int P1_start])), (a_P1_wishA, .inl (cI, 9, .inl P1_wishA)), (a_P1_wishB, .inl (cI, 9, .inl P1_wishB)), (a_P1_wishKind, .inl (cI, 9, .inl P1_wishKind))]) (r0 := r_8) hP hD hS hA [1] [0, 2, 3, 4, 5, 6] [0, 6, 1, 2, 3, 4, 5] rfl rfl (by decide +kernel) (by decide +kernel) rfl (by decide +kernel) (va_runSN (host := "BootsAtDawn") (As := [.ref a_T_times, .int r]) (rest := []) ⟨hx, hb, hml, hown, hts⟩ (kX8_at l dC dI cC cI cJ H.size K a_T_times 6 r T_times r_8 hc9) ⟨va_cnB 2 hts gX4_isKept_X8_at_n51 rfl rfl rfl (hN _ nw_85) (hts _ mbX4_isKept_1) (by decide +kernel) ⟨Nat.le_of_ble_eq_true rfl, Nat.le_of_ble_eq_true rfl⟩, (hts _ mbX4_isKept_2), trivial⟩ ⟨fbW, preW hP hD hK hN [1] rfl (by decide +kernel)⟩ rfl rfl hl.1 rfl (lv_room (Nat.le_of_ble_eq_true rfl)) dX4_isKept_136 ⟨Nat.zero_le _, Nat.zero_le _⟩) (fun H locs hP hD hS => ?_)
          refine lv_iload hx hb dX4_isKept_139 (lv_at hl 0 rfl) ?_
          refine lv_icmp_gt (tgt := 148) hx hb dX4_isKept_141 (by decide) (fun c8 => ?_) (fun c8 => ?_)
          · replace hr := it_t hr c8
            refine lv_iconst (v := 0) hx hb dX4_isKept_148 (by decide) ?_
            have he := Option.some.inj hr
            subst he
            subst hQ
            exact ret_z hx hb hrt (show narrow .boolean (.int 0) = .int 0 from rfl) hK hP hD hS hlocks dX4_isKept_149
          · replace hr := it_f hr c8
            refine lv_iconst (v := 1) hx hb dX4_isKept_144 (by decide) ?_
            refine lv_goto (tgt := 149) hx hb dX4_isKept_145 (by decide) ?_
            have he := Option.some.inj hr
            subst he
            subst hQ
            exact ret_z hx hb hrt (show narrow .boolean (.int 1) = .int 1 from rfl) hK hP hD hS hlocks dX4_isKept_149
        · replace hr := it_f hr c7
          by_cases hcl : (r_2 : Int32).toInt < 0 ∨ 4 < (r_2 : Int32).toInt
          · refine lv_tableOut (tgt := 150) hx hb dX4_isKept_27 hcl (by decide) ?_
            refine lv_iconst (v := 1) hx hb dX4_isKept_150 (by decide) ?_
            have he := Option.some.inj hr
            subst he
            subst hQ
            exact ret_z hx hb hrt (show narrow .boolean (.int 1) = .int 1 from rfl) hK hP hD hS hlocks dX4_isKept_151
          · have h1 : ¬ (r_2 : Int32).toInt < 0 := fun q => hcl (Or.inl q)
            have h2 : ¬ 4 < (r_2 : Int32).toInt := fun q => hcl (Or.inr q)
            have k0 : (r_2 : Int32).toInt ≠ 0 := ts_ne c1
            have k1 : (r_2 : Int32).toInt ≠ 1 := ts_ne c3
            have k2 : (r_2 : Int32).toInt ≠ 2 := ts_ne c5
            have k4 : (r_2 : Int32).toInt ≠ 4 := ts_ne c7
            refine lv_tableIn (tgt := 150) (off := 123) hx hb dX4_isKept_27 h1 h2 ?_ (by decide) ?_
            · rcases (show (r_2 : Int32).toInt = 3 by omega) with hq
              · rw [hq]; rfl
            · skip
              refine lv_iconst (v := 1) hx hb dX4_isKept_150 (by decide) ?_
              have he := Option.some.inj hr
              subst he
              subst hQ
              exact ret_z hx hb hrt (show narrow .boolean (.int 1) = .int 1 from rfl) hK hP hD hS hlocks dX4_isKept_151
def fX4_keptOf_L5 (K : Nat) (x2 : Int32) (T_times : (Nat → Int32)) (T_places : (Nat → Int32)) (P1_wishes : Int32) (P1_wishA : (Nat → Int32)) (P1_wishB : (Nat → Int32)) (P1_wishKind : (Nat → Int32)) : Nat → Int32 → Int32 → Option (Int32)
  | 0, _, _ => none
  | n1 + 1, x3, x4 =>
    if P1_wishes ≤ (x4 : Int32) then (
    some x3)
    else (
    bd1 (fX8_has K x2 x4) fun r =>
    bd1 (
    if (r : Int32) = 0 then (
    some x3)
    else (
    bd1 (fX4_isKept K x4 T_times T_places P1_wishA P1_wishB P1_wishKind) fun r_1 =>
    if (r_1 : Int32) = 0 then (
    some x3)
    else (
    nm (x3 ||| (1 <<< (x4 &&& 31))) fun x3_2 =>
    some x3_2))) fun x3_3 =>
    nm (x4 + 1) fun x4_1 =>
    fX4_keptOf_L5 K x2 T_times T_places P1_wishes P1_wishA P1_wishB P1_wishKind n1 x3_3 x4_1)
def fX4_keptOf (K : Nat) (x2 : Int32) (T_times : (Nat → Int32)) (T_places : (Nat → Int32)) (P1_wishes : Int32) (P1_wishA : (Nat → Int32)) (P1_wishB : (Nat → Int32)) (P1_wishKind : (Nat → Int32)) : Option (Int32) :=
    bd1 (fX4_keptOf_L5 K x2 T_times T_places P1_wishes P1_wishA P1_wishB P1_wishKind K 0 0) fun x3_1 =>
    some x3_1
theorem inX4_keptOf_X5 : ∀ w ∈ u_ws RX5 TX5 9, w ∈ wsX4_keptOf := fun _ h => (List.mem_cons_of_mem _ (List.mem_append_left _ (List.mem_append_right _ h)))
theorem mbX4_keptOf_1 : Cond.initialized RX8 ∈ wsX4_keptOf := List.mem_of_getElem? (i := 2) rfl
theorem mbX4_keptOf_2 : Cond.static yX8_has ∈ wsX4_keptOf := List.mem_of_getElem? (i := 1) rfl
abbrev rmX4_keptOf : Room := { frames := 2, cells := 0, slots := 0, locals := 45 }
set_option maxHeartbeats 8000000 in
set_option maxRecDepth 100000 in
theorem kX4_keptOf (l : Launch) (dC : Nat → ClassId) (dI : Nat → Nat → Nat) (cC cI cJ : ClassId) (sz : Nat) (K : Nat) (a_T a_T_order a_T_places a_T_times a_T_waits a_T_wakings a_P1 a_P1_guestKind a_P1_guestFloor a_P1_wishKind a_P1_wishA a_P1_wishB a_P1_wishNames : Nat) (x2 : Int32) (T_size : Int32) (T_end : Int32) (T_times : (Nat → Int32)) (T_places : (Nat → Int32)) (P1_guests : Int32) (P1_wishes : Int32) (P1_start : Int32) (P1_wishA : (Nat → Int32)) (P1_wishB : (Nat → Int32)) (P1_wishKind : (Nat → Int32)) (R : Int32) (hr : fX4_keptOf K x2 T_times T_places P1_wishes P1_wishA P1_wishB P1_wishKind = some R) : Met l yX4_keptOf wsX4_keptOf rmX4_keptOf (va_Pc ([.ref a_T, .ref a_P1, .int x2] : List Value) (PcW (dC, dI) (tysA cC cI cJ) sz [(a_T, .inr (4, [.ref a_T_order, .ref a_T_places, .ref a_T_times, .ref a_T_waits, .ref a_T_wakings, .int T_size, .int T_end])), (a_T_times, .inl (cI, 6, .inl T_times)), (a_T_places, .inl (cI, 6, .inl T_places)), (a_P1, .inr (5, [.ref a_P1_guestKind, .ref a_P1_guestFloor, .ref a_P1_wishKind, .ref a_P1_wishA, .ref a_P1_wishB, .ref a_P1_wishNames, .int P1_guests, .int P1_wishes, .int P1_start])), (a_P1_wishA, .inl (cI, 9, .inl P1_wishA)), (a_P1_wishB, .inl (cI, 9, .inl P1_wishB)), (a_P1_wishKind, .inl (cI, 9, .inl P1_wishKind))])) (va_Qi (fun r (_ : Unit) => r = R) (fun _ => BW (dC, dI) (tysA cC cI cJ) (va_A [(a_T, .inr (4, [.ref a_T_order, .ref a_T_places, .ref a_T_times, .ref a_T_waits, .ref a_T_wakings, .int T_size, .int T_end])), (a_T_times, .inl (cI, 6, .inl T_times)), (a_T_places, .inl (cI, 6, .inl T_places)), (a_P1, .inr (5, [.ref a_P1_guestKind, .ref a_P1_guestFloor, .ref a_P1_wishKind, .ref a_P1_wishA, .ref a_P1_wishB, .ref a_P1_wishNames, .int P1_guests, .int P1_wishes, .int P1_start])), (a_P1_wishA, .inl (cI, 9, .inl P1_wishA)), (a_P1_wishB, .inl (cI, 9, .inl P1_wishB)), (a_P1_wishKind, .inl (cI, 9, .inl P1_wishKind))] sz) [(a_T, .inr (4, [.ref a_T_order, .ref a_T_places, .ref a_T_times, .ref a_T_waits, .ref a_T_wakings, .int T_size, .int T_end])), (a_T_times, .inl (cI, 6, .inl T_times)), (a_T_places, .inl (cI, 6, .inl T_places)), (a_P1, .inr (5, [.ref a_P1_guestKind, .ref a_P1_guestFloor, .ref a_P1_wishKind, .ref a_P1_wishA, .ref a_P1_wishB, .ref a_P1_wishNames, .int P1_guests, .int P1_wishes, .int P1_start])), (a_P1_wishA, .inl (cI, 9, .inl P1_wishA)), (a_P1_wishB, .inl (cI, 9, .inl P1_wishB)), (a_P1_wishKind, .inl (cI, 9, .inl P1_wishKind))]) (va_A [(a_T, .inr (4, [.ref a_T_order, .ref a_T_places, .ref a_T_times, .ref a_T_waits, .ref a_T_wakings, .int T_size, .int T_end])), (a_T_times, .inl (cI, 6, .inl T_times)), (a_T_places, .inl (cI, 6, .inl T_places)), (a_P1, .inr (5, [.ref a_P1_guestKind, .ref a_P1_guestFloor, .ref a_P1_wishKind, .ref a_P1_wishA, .ref a_P1_wishB, .ref a_P1_wishNames, .int P1_guests, .int P1_wishes, .int P1_start])), (a_P1_wishA, .inl (cI, 9, .inl P1_wishA)), (a_P1_wishB, .inl (cI, 9, .inl P1_wishB)), (a_P1_wishKind, .inl (cI, 9, .inl P1_wishKind))] sz)) 0 0 (va_A [(a_T, .inr (4, [.ref a_T_order, .ref a_T_places, .ref a_T_times, .ref a_T_waits, .ref a_T_wakings, .int T_size, .int T_end])), (a_T_times, .inl (cI, 6, .inl T_times)), (a_T_places, .inl (cI, 6, .inl T_places)), (a_P1, .inr (5, [.ref a_P1_guestKind, .ref a_P1_guestFloor, .ref a_P1_wishKind, .ref a_P1_wishA, .ref a_P1_wishB, .ref a_P1_wishNames, .int P1_guests, .int P1_wishes, .int P1_start])), (a_P1_wishA, .inl (cI, 9, .inl P1_wishA)), (a_P1_wishB, .inl (cI, 9, .inl P1_wishB)), (a_P1_wishKind, .inl (cI, 9, .inl P1_wishKind))] sz) := by
  refine Met.ofW (cc := cX4_keptOf) (maxL := 5) (ret := (some .int)) (by decide) rfl ?_
  intro p e s m args below meth c s₁ B hml hv
  obtain ⟨rfl, hsz, hP, hK, hD0, hN⟩ := hv
  have hx := B.exec
  have hb := B.bytes
  have hrt := B.returns
  have hts := atoms_spec (ws := wsX4_keptOf) B.pre
  have hown : s.vm.findClass RX4 = some m.cls := findClass_of_methodNamed B.named
  have hlocks := B.notSynchronized
  subst hsz
  have hD := hD0.self (sz := s.heap.size)
  generalize hAe : va_A [(a_T, .inr (4, [.ref a_T_order, .ref a_T_places, .ref a_T_times, .ref a_T_waits, .ref a_T_wakings, .int T_size, .int T_end])), (a_T_times, .inl (cI, 6, .inl T_times)), (a_T_places, .inl (cI, 6, .inl T_places)), (a_P1, .inr (5, [.ref a_P1_guestKind, .ref a_P1_guestFloor, .ref a_P1_wishKind, .ref a_P1_wishA, .ref a_P1_wishB, .ref a_P1_wishNames, .int P1_guests, .int P1_wishes, .int P1_start])), (a_P1_wishA, .inl (cI, 9, .inl P1_wishA)), (a_P1_wishB, .inl (cI, 9, .inl P1_wishB)), (a_P1_wishKind, .inl (cI, 9, .inl P1_wishKind))] s.heap.size = A at hD ⊢
  have hA : ∀ q : Nat, s.heap.size ≤ q → A q := fun q h => by rw [← hAe]; exact Or.inr h
  have hS : va_S A s.heap s.heap [] := va_S.rf
  have hl := lv_entry ([.ref a_T, .ref a_P1, .int x2] : List Value) (n := 5) (Nat.le_of_ble_eq_true rfl)
  rw [lg_entry_eq]
  generalize (lg_sl ([.ref a_T, .ref a_P1, .int x2] : List Value) ++ List.replicate (5 - (lg_sl ([.ref a_T, .ref a_P1, .int x2] : List Value)).length) Slot.unset).toArray = ls at hl ⊢
  replace hl : lv_has ls 5 [(0, .ref a_T), (1, .ref a_P1), (2, .int x2)] := hl
  obtain ⟨Q, hQ⟩ : ∃ Q, Q = MQ below (va_Qi (fun r (_ : Unit) => r = R) (fun _ => BW (dC, dI) (tysA cC cI cJ) A [(a_T, .inr (4, [.ref a_T_order, .ref a_T_places, .ref a_T_times, .ref a_T_waits, .ref a_T_wakings, .int T_size, .int T_end])), (a_T_times, .inl (cI, 6, .inl T_times)), (a_T_places, .inl (cI, 6, .inl T_places)), (a_P1, .inr (5, [.ref a_P1_guestKind, .ref a_P1_guestFloor, .ref a_P1_wishKind, .ref a_P1_wishA, .ref a_P1_wishB, .ref a_P1_wishNames, .int P1_guests, .int P1_wishes, .int P1_start])), (a_P1_wishA, .inl (cI, 9, .inl P1_wishA)), (a_P1_wishB, .inl (cI, 9, .inl P1_wishB)), (a_P1_wishKind, .inl (cI, 9, .inl P1_wishKind))]) A) ([.ref a_T, .ref a_P1, .int x2] : List Value).toArray s 0 0 A := ⟨_, rfl⟩
  rw [← hQ]
  suffices hE : WG p l e rmX4_keptOf s m ([.ref a_T, .ref a_P1, .int x2] : List Value).toArray below meth c 0 0 Q (dC, dI) A 0 5 [(a_T, .inr (4, [.ref a_T_order, .ref a_T_places, .ref a_T_times, .ref a_T_waits, .ref a_T_wakings, .int T_size, .int T_end])), (a_T_times, .inl (cI, 6, .inl T_times)), (a_T_places, .inl (cI, 6, .inl T_places)), (a_P1, .inr (5, [.ref a_P1_guestKind, .ref a_P1_guestFloor, .ref a_P1_wishKind, .ref a_P1_wishA, .ref a_P1_wishB, .ref a_P1_wishNames, .int P1_guests, .int P1_wishes, .int P1_start])), (a_P1_wishA, .inl (cI, 9, .inl P1_wishA)), (a_P1_wishB, .inl (cI, 9, .inl P1_wishB)), (a_P1_wishKind, .inl (cI, 9, .inl P1_wishKind))] [(0, .ref a_T), (1, .ref a_P1), (2, .int x2)] [] from hE _ _ _ hP hD hS hl
  clear hP hD hS hl hD0 hAe
  intro H locs ls hP hD hS hl
  unfold fX4_keptOf at hr
  refine lv_iconst (v := 0) hx hb dX4_keptOf_0 (by decide) ?_
  refine lv_istore_n (lv' := [(3, .int 0), (0, .ref a_T), (1, .ref a_P1), (2, .int x2)]) hx hb dX4_keptOf_1 rfl hl (by decide) rfl (fun ls hl => ?_)
  refine lv_iconst (v := 0) hx hb dX4_keptOf_2 (by decide) ?_
  refine lv_istore (lv' := [(4, .int 0), (3, .int 0), (0, .ref a_T), (1, .ref a_P1), (2, .int x2)]) hx hb dX4_keptOf_3 hl (by decide) rfl (fun ls hl => ?_)
  have hL1 : ∀ (n1 : Nat) (x3 : Int32) (x4 : Int32) (x3_1 : Int32), fX4_keptOf_L5 K x2 T_times T_places P1_wishes P1_wishA P1_wishB P1_wishKind n1 x3 x4 = some x3_1 → WG p l e rmX4_keptOf s m ([.ref a_T, .ref a_P1, .int x2] : List Value).toArray below meth c 0 0 Q (dC, dI) A 46 5 [(a_T, .inr (4, [.ref a_T_order, .ref a_T_places, .ref a_T_times, .ref a_T_waits, .ref a_T_wakings, .int T_size, .int T_end])), (a_T_times, .inl (cI, 6, .inl T_times)), (a_T_places, .inl (cI, 6, .inl T_places)), (a_P1, .inr (5, [.ref a_P1_guestKind, .ref a_P1_guestFloor, .ref a_P1_wishKind, .ref a_P1_wishA, .ref a_P1_wishB, .ref a_P1_wishNames, .int P1_guests, .int P1_wishes, .int P1_start])), (a_P1_wishA, .inl (cI, 9, .inl P1_wishA)), (a_P1_wishB, .inl (cI, 9, .inl P1_wishB)), (a_P1_wishKind, .inl (cI, 9, .inl P1_wishKind))] [(3, .int x3_1)] [] → WG p l e rmX4_keptOf s m ([.ref a_T, .ref a_P1, .int x2] : List Value).toArray below meth c 0 0 Q (dC, dI) A 5 5 [(a_T, .inr (4, [.ref a_T_order, .ref a_T_places, .ref a_T_times, .ref a_T_waits, .ref a_T_wakings, .int T_size, .int T_end])), (a_T_times, .inl (cI, 6, .inl T_times)), (a_T_places, .inl (cI, 6, .inl T_places)), (a_P1, .inr (5, [.ref a_P1_guestKind, .ref a_P1_guestFloor, .ref a_P1_wishKind, .ref a_P1_wishA, .ref a_P1_wishB, .ref a_P1_wishNames, .int P1_guests, .int P1_wishes, .int P1_start])), (a_P1_wishA, .inl (cI, 9, .inl P1_wishA)), (a_P1_wishB, .inl (cI, 9, .inl P1_wishB)), (a_P1_wishKind, .inl (cI, 9, .inl P1_wishKind))] [(0, .ref a_T), (1, .ref a_P1), (2, .int x2), (3, .int x3), (4, .int x4)] [] := by
    intro n1
    induction n1 with
    | zero =>
      intro x3 x4 x3_1 hr
      rw [fX4_keptOf_L5] at hr
      cases hr
    | succ n1 ih5 =>
      intro x3 x4 x3_1 hr hX1 H locs ls hP hD hS hl
      rw [fX4_keptOf_L5] at hr
      refine lv_iload hx hb dX4_keptOf_5 (lv_at hl 4 rfl) ?_
      refine lv_aload_n hx hb dX4_keptOf_7 rfl (lv_at hl 1 rfl) ?_
      refine va_getN (D := (dC, dI)) (ci := 5) (v := .int P1_wishes) (C := RX5) (T := TX5) (N := 9) hx hb hts inX4_keptOf_X5 hown hK hP 3 rfl rfl 7 (by decide) (nk_use hN nw_17) (fun _ h9 => h9) rfl dX4_keptOf_8 ?_
      refine lv_icmp_ge (tgt := 46) hx hb dX4_keptOf_11 (by decide) (fun c1 => ?_) (fun c1 => ?_)
      · replace hr := it_t hr c1
        have he := Option.some.inj hr
        cases he
        exact hX1 H locs ls hP hD hS (lv_sub hl [3] rfl)
      · replace hr := it_f hr c1
        refine lv_iload_n hx hb dX4_keptOf_14 rfl (lv_at hl 2 rfl) ?_
        refine lv_iload hx hb dX4_keptOf_15 (lv_at hl 4 rfl) ?_
        obtain ⟨r, hc1, hr⟩ := bd1_some hr
        refine call_i (D := (dC, dI)) (tys := tysA cC cI cJ) (wc := []) (wr := [(a_T, .inr (4, [.ref a_T_order, .ref a_T_places, .ref a_T_times, .ref a_T_waits, .ref a_T_wakings, .int T_size, .int T_end])), (a_T_times, .inl (cI, 6, .inl T_times)), (a_T_places, .inl (cI, 6, .inl T_places)), (a_P1, .inr (5, [.ref a_P1_guestKind, .ref a_P1_guestFloor, .ref a_P1_wishKind, .ref a_P1_wishA, .ref a_P1_wishB, .ref a_P1_wishNames, .int P1_guests, .int P1_wishes, .int P1_start])), (a_P1_wishA, .inl (cI, 9, .inl P1_wishA)), (a_P1_wishB, .inl (cI, 9, .inl P1_wishB)), (a_P1_wishKind, .inl (cI, 9, .inl P1_wishKind))]) (w1 := []) (wn := [(a_T, .inr (4, [.ref a_T_order, .ref a_T_places, .ref a_T_times, .ref a_T_waits, .ref a_T_wakings, .int T_size, .int T_end])), (a_T_times, .inl (cI, 6, .inl T_times)), (a_T_places, .inl (cI, 6, .inl T_places)), (a_P1, .inr (5, [.ref a_P1_guestKind, .ref a_P1_guestFloor, .ref a_P1_wishKind, .ref a_P1_wishA, .ref a_P1_wishB, .ref a_P1_wishNames, .int P1_guests, .int P1_wishes, .int P1_start])), (a_P1_wishA, .inl (cI, 9, .inl P1_wishA)), (a_P1_wishB, .inl (cI, 9, .inl P1_wishB)), (a_P1_wishKind, .inl (cI, 9, .inl P1_wishKind))]) (r0 := r) hP hD hS hA [] [0, 1, 2, 3, 4, 5, 6] [0, 1, 2, 3, 4, 5, 6] rfl rfl (by decide +kernel) (by decide +kernel) rfl (by decide +kernel) (va_runSN (host := "BootsAtDawn") (As := [.int x2, .int x4]) (rest := []) ⟨hx, hb, hml, hown, hts⟩ (kX8_has l dC dI cC cI cJ H.size K x2 x4 r hc1) ⟨va_cnB 2 hts gX4_keptOf_X8_has_n36 rfl rfl rfl (hN _ nw_80) (hts _ mbX4_keptOf_1) (by decide +kernel) ⟨Nat.le_of_ble_eq_true rfl, Nat.le_of_ble_eq_true rfl⟩, (hts _ mbX4_keptOf_2), trivial⟩ ⟨fbW, preW hP hD hK hN [] rfl (by decide +kernel)⟩ rfl rfl hl.1 rfl (lv_room (Nat.le_of_ble_eq_true rfl)) dX4_keptOf_17 ⟨Nat.zero_le _, Nat.zero_le _⟩) (fun H locs hP hD hS => ?_)
        obtain ⟨x3_3, hj1, hr⟩ := bd1_some hr
        have hJ1 : WG p l e rmX4_keptOf s m ([.ref a_T, .ref a_P1, .int x2] : List Value).toArray below meth c 0 0 Q (dC, dI) A 40 5 [(a_T, .inr (4, [.ref a_T_order, .ref a_T_places, .ref a_T_times, .ref a_T_waits, .ref a_T_wakings, .int T_size, .int T_end])), (a_T_times, .inl (cI, 6, .inl T_times)), (a_T_places, .inl (cI, 6, .inl T_places)), (a_P1, .inr (5, [.ref a_P1_guestKind, .ref a_P1_guestFloor, .ref a_P1_wishKind, .ref a_P1_wishA, .ref a_P1_wishB, .ref a_P1_wishNames, .int P1_guests, .int P1_wishes, .int P1_start])), (a_P1_wishA, .inl (cI, 9, .inl P1_wishA)), (a_P1_wishB, .inl (cI, 9, .inl P1_wishB)), (a_P1_wishKind, .inl (cI, 9, .inl P1_wishKind))] [(0, .ref a_T), (1, .ref a_P1), (2, .int x2), (3, .int x3_3), (4, .int x4)] [] := by
          intro H locs ls hP hD hS hl
          obtain ⟨x4_1, e2, hr⟩ := nm_el hr
          refine lv_iinc (v := x4_1) (lv' := [(4, .int x4_1), (0, .ref a_T), (1, .ref a_P1), (2, .int x2), (3, .int x3_3)]) hx hb dX4_keptOf_40 hl (k := 4) rfl e2.symm (by decide) rfl (fun ls hl => ?_)
          refine lv_goto (tgt := 5) hx hb dX4_keptOf_43 (by decide) ?_
          exact ih5 _ _ _ hr hX1 H locs ls hP hD hS (lv_sub hl [1, 2, 3, 4, 0] rfl)
        replace hr := hj1
        refine lv_if_eq (tgt := 40) hx hb dX4_keptOf_20 (by decide) (fun c2 => ?_) (fun c2 => ?_)
        · replace hr := it_t hr c2
          cases hr
          exact hJ1 H locs ls hP hD hS (lv_sub hl [0, 1, 2, 3, 4] rfl)
        · replace hr := it_f hr c2
          refine lv_aload_n hx hb dX4_keptOf_23 rfl (lv_at hl 0 rfl) ?_
          refine lv_aload_n hx hb dX4_keptOf_24 rfl (lv_at hl 1 rfl) ?_
          refine lv_iload hx hb dX4_keptOf_25 (lv_at hl 4 rfl) ?_
          obtain ⟨r_1, hc2, hr⟩ := bd1_some hr
          refine call_i (D := (dC, dI)) (tys := tysA cC cI cJ) (wc := [(a_T, .inr (4, [.ref a_T_order, .ref a_T_places, .ref a_T_times, .ref a_T_waits, .ref a_T_wakings, .int T_size, .int T_end])), (a_T_times, .inl (cI, 6, .inl T_times)), (a_T_places, .inl (cI, 6, .inl T_places)), (a_P1, .inr (5, [.ref a_P1_guestKind, .ref a_P1_guestFloor, .ref a_P1_wishKind, .ref a_P1_wishA, .ref a_P1_wishB, .ref a_P1_wishNames, .int P1_guests, .int P1_wishes, .int P1_start])), (a_P1_wishA, .inl (cI, 9, .inl P1_wishA)), (a_P1_wishB, .inl (cI, 9, .inl P1_wishB)), (a_P1_wishKind, .inl (cI, 9, .inl P1_wishKind))]) (wr := []) (w1 := [(a_T, .inr (4, [.ref a_T_order, .ref a_T_places, .ref a_T_times, .ref a_T_waits, .ref a_T_wakings, .int T_size, .int T_end])), (a_T_times, .inl (cI, 6, .inl T_times)), (a_T_places, .inl (cI, 6, .inl T_places)), (a_P1, .inr (5, [.ref a_P1_guestKind, .ref a_P1_guestFloor, .ref a_P1_wishKind, .ref a_P1_wishA, .ref a_P1_wishB, .ref a_P1_wishNames, .int P1_guests, .int P1_wishes, .int P1_start])), (a_P1_wishA, .inl (cI, 9, .inl P1_wishA)), (a_P1_wishB, .inl (cI, 9, .inl P1_wishB)), (a_P1_wishKind, .inl (cI, 9, .inl P1_wishKind))]) (wn := [(a_T, .inr (4, [.ref a_T_order, .ref a_T_places, .ref a_T_times, .ref a_T_waits, .ref a_T_wakings, .int T_size, .int T_end])), (a_T_times, .inl (cI, 6, .inl T_times)), (a_T_places, .inl (cI, 6, .inl T_places)), (a_P1, .inr (5, [.ref a_P1_guestKind, .ref a_P1_guestFloor, .ref a_P1_wishKind, .ref a_P1_wishA, .ref a_P1_wishB, .ref a_P1_wishNames, .int P1_guests, .int P1_wishes, .int P1_start])), (a_P1_wishA, .inl (cI, 9, .inl P1_wishA)), (a_P1_wishB, .inl (cI, 9, .inl P1_wishB)), (a_P1_wishKind, .inl (cI, 9, .inl P1_wishKind))]) (r0 := r_1) hP hD hS hA [0, 1, 2, 3, 4, 5, 6] [] [0, 1, 2, 3, 4, 5, 6] rfl rfl (by decide +kernel) (by decide +kernel) rfl (by decide +kernel) (va_runV (As := [.ref a_P1, .int x4]) (rest := []) ⟨hx, hb, hml, hown, hts⟩ (kX4_isKept l dC dI cC cI cJ H.size K a_T a_T_order a_T_places a_T_times a_T_waits a_T_wakings a_P1 a_P1_guestKind a_P1_guestFloor a_P1_wishKind a_P1_wishA a_P1_wishB a_P1_wishNames x4 T_size T_end T_times T_places P1_guests P1_wishes P1_start P1_wishA P1_wishB P1_wishKind r_1 hc2) (cwV 2 hts gX4_keptOf_X4_isKept rfl rfl rfl (by decide +kernel) ⟨Nat.le_of_ble_eq_true rfl, Nat.le_of_ble_eq_true rfl⟩) ⟨fbW, va_recv hK hP (ci := 4) (q0 := 0) rfl rfl, preW hP hD hK hN [0, 1, 2, 3, 4, 5, 6] rfl (by decide +kernel)⟩ rfl rfl hl.1 rfl (lv_room (Nat.le_of_ble_eq_true rfl)) dX4_keptOf_27 ⟨Nat.zero_le _, Nat.zero_le _⟩) (fun H locs hP hD hS => ?_)
          refine lv_if_eq (tgt := 40) hx hb dX4_keptOf_30 (by decide) (fun c3 => ?_) (fun c3 => ?_)
          · replace hr := it_t hr c3
            cases hr
            exact hJ1 H locs ls hP hD hS (lv_sub hl [0, 1, 2, 3, 4] rfl)
          · replace hr := it_f hr c3
            refine lv_iload_n hx hb dX4_keptOf_33 rfl (lv_at hl 3 rfl) ?_
            refine lv_iconst (v := 1) hx hb dX4_keptOf_34 (by decide) ?_
            refine lv_iload hx hb dX4_keptOf_35 (lv_at hl 4 rfl) ?_
            refine lv_ishl hx hb dX4_keptOf_37 ?_
            refine lv_ior hx hb dX4_keptOf_38 ?_
            obtain ⟨x3_2, e1, hr⟩ := nm_el hr
            refine lv_nmi e1 ?_
            refine lv_istore_n (lv' := [(3, .int x3_2), (0, .ref a_T), (1, .ref a_P1), (2, .int x2), (4, .int x4)]) hx hb dX4_keptOf_39 rfl hl (by decide) rfl (fun ls hl => ?_)
            cases hr
            exact hJ1 H locs ls hP hD hS (lv_sub hl [1, 2, 3, 0, 4] rfl)
  obtain ⟨x3_1, hE, hr⟩ := bd1_some hr
  refine hL1 K 0 0 x3_1 hE ?_ H locs ls hP hD hS (lv_sub hl [2, 3, 4, 1, 0] rfl)
  intro H locs ls hP hD hS hl
  refine lv_iload_n hx hb dX4_keptOf_46 rfl (lv_at hl 0 rfl) ?_
  have he := Option.some.inj hr
  subst he
  subst hQ
  exact ret_i hx hb hrt hK hP hD hS hlocks dX4_keptOf_47
def fX5_isWish (K : Nat) (x1 : Int32) (T_wishes : Int32) : Option (Int32) :=
    if (x1 : Int32) < 0 then (
    some 0)
    else (
    if T_wishes ≤ (x1 : Int32) then (
    some 0)
    else (
    some 1))
theorem mbX5_isWish_0 : Cond.fieldLink RX5 34 "BootsAtDawn$Slate" "wishes" "I" ∈ wsX5_isWish := List.mem_of_getElem? (i := 1) rfl
theorem inX5_isWish_X5 : ∀ w ∈ u_ws RX5 TX5 9, w ∈ wsX5_isWish := fun _ h => (List.mem_cons_of_mem _ (List.mem_append_right _ h))
abbrev rmX5_isWish : Room := { frames := 0, cells := 0, slots := 0, locals := 0 }
set_option maxHeartbeats 8000000 in
set_option maxRecDepth 100000 in
theorem kX5_isWish (l : Launch) (dC : Nat → ClassId) (dI : Nat → Nat → Nat) (cC cI cJ : ClassId) (sz : Nat) (K : Nat) (a_T a_T_guestKind a_T_guestFloor a_T_wishKind a_T_wishA a_T_wishB a_T_wishNames : Nat) (x1 : Int32) (T_guests : Int32) (T_wishes : Int32) (T_start : Int32) (R : Int32) (hr : fX5_isWish K x1 T_wishes = some R) : Met l yX5_isWish wsX5_isWish rmX5_isWish (va_Pc ([.ref a_T, .int x1] : List Value) (PcW (dC, dI) (tysA cC cI cJ) sz [(a_T, .inr (5, [.ref a_T_guestKind, .ref a_T_guestFloor, .ref a_T_wishKind, .ref a_T_wishA, .ref a_T_wishB, .ref a_T_wishNames, .int T_guests, .int T_wishes, .int T_start]))])) (va_Qi (fun r (_ : Unit) => r = R) (fun _ => BW (dC, dI) (tysA cC cI cJ) (va_A [(a_T, .inr (5, [.ref a_T_guestKind, .ref a_T_guestFloor, .ref a_T_wishKind, .ref a_T_wishA, .ref a_T_wishB, .ref a_T_wishNames, .int T_guests, .int T_wishes, .int T_start]))] sz) [(a_T, .inr (5, [.ref a_T_guestKind, .ref a_T_guestFloor, .ref a_T_wishKind, .ref a_T_wishA, .ref a_T_wishB, .ref a_T_wishNames, .int T_guests, .int T_wishes, .int T_start]))]) (va_A [(a_T, .inr (5, [.ref a_T_guestKind, .ref a_T_guestFloor, .ref a_T_wishKind, .ref a_T_wishA, .ref a_T_wishB, .ref a_T_wishNames, .int T_guests, .int T_wishes, .int T_start]))] sz)) 0 0 (va_A [(a_T, .inr (5, [.ref a_T_guestKind, .ref a_T_guestFloor, .ref a_T_wishKind, .ref a_T_wishA, .ref a_T_wishB, .ref a_T_wishNames, .int T_guests, .int T_wishes, .int T_start]))] sz) := by
  refine Met.ofW (cc := cX5_isWish) (maxL := 2) (ret := (some .boolean)) (by decide) rfl ?_
  intro p e s m args below meth c s₁ B hml hv
  obtain ⟨rfl, hsz, hP, hK, hD0, hN⟩ := hv
  have hx := B.exec
  have hb := B.bytes
  have hrt := B.returns
  have hts := atoms_spec (ws := wsX5_isWish) B.pre
  have hown : s.vm.findClass RX5 = some m.cls := findClass_of_methodNamed B.named
  have hlocks := B.notSynchronized
  subst hsz
  have hD := hD0.self (sz := s.heap.size)
  generalize hAe : va_A [(a_T, .inr (5, [.ref a_T_guestKind, .ref a_T_guestFloor, .ref a_T_wishKind, .ref a_T_wishA, .ref a_T_wishB, .ref a_T_wishNames, .int T_guests, .int T_wishes, .int T_start]))] s.heap.size = A at hD ⊢
  have hA : ∀ q : Nat, s.heap.size ≤ q → A q := fun q h => by rw [← hAe]; exact Or.inr h
  have hS : va_S A s.heap s.heap [] := va_S.rf
  have hl := lv_entry ([.ref a_T, .int x1] : List Value) (n := 2) (Nat.le_of_ble_eq_true rfl)
  rw [lg_entry_eq]
  generalize (lg_sl ([.ref a_T, .int x1] : List Value) ++ List.replicate (2 - (lg_sl ([.ref a_T, .int x1] : List Value)).length) Slot.unset).toArray = ls at hl ⊢
  replace hl : lv_has ls 2 [(0, .ref a_T), (1, .int x1)] := hl
  obtain ⟨Q, hQ⟩ : ∃ Q, Q = MQ below (va_Qi (fun r (_ : Unit) => r = R) (fun _ => BW (dC, dI) (tysA cC cI cJ) A [(a_T, .inr (5, [.ref a_T_guestKind, .ref a_T_guestFloor, .ref a_T_wishKind, .ref a_T_wishA, .ref a_T_wishB, .ref a_T_wishNames, .int T_guests, .int T_wishes, .int T_start]))]) A) ([.ref a_T, .int x1] : List Value).toArray s 0 0 A := ⟨_, rfl⟩
  rw [← hQ]
  suffices hE : WG p l e rmX5_isWish s m ([.ref a_T, .int x1] : List Value).toArray below meth c 0 0 Q (dC, dI) A 0 2 [(a_T, .inr (5, [.ref a_T_guestKind, .ref a_T_guestFloor, .ref a_T_wishKind, .ref a_T_wishA, .ref a_T_wishB, .ref a_T_wishNames, .int T_guests, .int T_wishes, .int T_start]))] [(0, .ref a_T), (1, .int x1)] [] from hE _ _ _ hP hD hS hl
  clear hP hD hS hl hD0 hAe
  intro H locs ls hP hD hS hl
  unfold fX5_isWish at hr
  refine lv_iload_n hx hb dX5_isWish_0 rfl (lv_at hl 1 rfl) ?_
  refine lv_if_lt (tgt := 16) hx hb dX5_isWish_1 (by decide) (fun c1 => ?_) (fun c1 => ?_)
  · replace hr := it_t hr c1
    refine lv_iconst (v := 0) hx hb dX5_isWish_16 (by decide) ?_
    have he := Option.some.inj hr
    subst he
    subst hQ
    exact ret_z hx hb hrt (show narrow .boolean (.int 0) = .int 0 from rfl) hK hP hD hS hlocks dX5_isWish_17
  · replace hr := it_f hr c1
    refine lv_iload_n hx hb dX5_isWish_4 rfl (lv_at hl 1 rfl) ?_
    refine lv_aload_n hx hb dX5_isWish_5 rfl (lv_at hl 0 rfl) ?_
    refine va_get (D := (dC, dI)) (ci := 5) (v := .int T_wishes) (C := RX5) (T := TX5) (N := 9) hx hb hts inX5_isWish_X5 hown hK hP 0 rfl rfl 7 (by decide) (hts _ mbX5_isWish_0) (fun _ h9 => h9) rfl dX5_isWish_6 ?_
    refine lv_icmp_ge (tgt := 16) hx hb dX5_isWish_9 (by decide) (fun c2 => ?_) (fun c2 => ?_)
    · replace hr := it_t hr c2
      refine lv_iconst (v := 0) hx hb dX5_isWish_16 (by decide) ?_
      have he := Option.some.inj hr
      subst he
      subst hQ
      exact ret_z hx hb hrt (show narrow .boolean (.int 0) = .int 0 from rfl) hK hP hD hS hlocks dX5_isWish_17
    · replace hr := it_f hr c2
      refine lv_iconst (v := 1) hx hb dX5_isWish_12 (by decide) ?_
      refine lv_goto (tgt := 17) hx hb dX5_isWish_13 (by decide) ?_
      have he := Option.some.inj hr
      subst he
      subst hQ
      exact ret_z hx hb hrt (show narrow .boolean (.int 1) = .int 1 from rfl) hK hP hD hS hlocks dX5_isWish_17
