def fX9_dawn_L41 (K : Nat) (x1 : Int32) (x2 : Int32) (T_guests : Int32) (T_wishes : Int32) (T_begins : Int32) (T_st : (Nat → Int32)) (T_wishA : (Nat → Int32)) (T_wishKind : (Nat → Int32)) (T_wishB : (Nat → Int32)) (T_kinds : (Nat → Int32)) : Nat → Int32 → Int32 → Int32 → Int32 → Int32 → Int32 → Int32 → (Nat → Int32) → (Nat → Int32) → (Nat → Int32) → (Nat → Int32) → (Nat → Int32) → (Nat → Int32) → Option (Int32 × Int32 × Int32 × Int32 × Int32 × Int32 × (Nat → Int32) × (Nat → Int32) × (Nat → Int32) × (Nat → Int32) × (Nat → Int32) × (Nat → Int32))
  | 0, _, _, _, _, _, _, _, _, _, _, _, _, _ => none
  | n1 + 1, x4, x5, x6, T_here_1, T_stands_1, T_many_1, T_rounds_1, T_order_1, T_time_1, T_place_1, T_endsAt_1, T_keptBy_1, T_come_1 =>
    if x2 ≤ (x6 : Int32) then (
    some (x4, x5, T_here_1, T_stands_1, T_many_1, T_rounds_1, T_order_1, T_time_1, T_place_1, T_endsAt_1, T_keptBy_1, T_come_1))
    else (
    nm (((7919 * x1.toInt64) + (6151 * x6.toInt64)) + 1) fun x7 =>
    gd (¬ (65521 : Int64) = 0) (
    gd (¬ (8 : Int64) = 0) (
    nm ((((x7 * x7) - (x7 * x7) / 65521 * 65521) / 8).toInt32) fun x9 =>
    gd (¬ ((0 : Int32) < 0 ∨ 8 ≤ (0 : Int32).toNatClampNeg)) (
    gd (¬ (T_guests : Int32) = 0) (
    bd10 (fX9_findRounds K ((T_st (0 : Int32).toNatClampNeg) &&& ((1 <<< ((x9 - x9 / T_guests * T_guests) &&& 31)) ^^^ (-1))) T_guests T_wishes T_begins T_here_1 T_stands_1 T_many_1 T_rounds_1 T_st T_wishA T_wishKind T_wishB T_order_1 T_time_1 T_place_1 T_kinds T_endsAt_1 T_keptBy_1 T_come_1) fun T_here_3 T_stands_3 T_many_3 T_rounds_3 T_order_3 T_time_3 T_place_3 T_endsAt_3 T_keptBy_3 T_come_3 =>
    bd1 (fX9_soonestRound K T_stands_3 T_rounds_3 T_keptBy_3 T_endsAt_3) fun r_3 =>
    bd1 (τ0 := Int32) (
    if 0 ≤ (r_3 : Int32) then (
    some 1)
    else (
    some 0)) fun y =>
    nm (x4 + y) fun x4_2 =>
    bd1 (τ0 := Int32) (
    if 0 ≤ (r_3 : Int32) then (
    gd (¬ ((r_3 : Int32) < 0 ∨ 720 ≤ r_3.toNatClampNeg)) (
    some (T_endsAt_3 r_3.toNatClampNeg)))
    else (
    some 0)) fun y_1 =>
    nm (x5 + y_1) fun x5_2 =>
    nm (x6 + 1) fun x6_1 =>
    fX9_dawn_L41 K x1 x2 T_guests T_wishes T_begins T_st T_wishA T_wishKind T_wishB T_kinds n1 x4_2 x5_2 x6_1 T_here_3 T_stands_3 T_many_3 T_rounds_3 T_order_3 T_time_3 T_place_3 T_endsAt_3 T_keptBy_3 T_come_3)))))
def fX9_dawn (K : Nat) (x1 : Int32) (x2 : Int32) (x3 : Int32) (T_guests : Int32) (T_wishes : Int32) (T_begins : Int32) (T_here : Int32) (T_stands : Int32) (T_many : Int32) (T_rounds : Int32) (T_st : (Nat → Int32)) (T_wishA : (Nat → Int32)) (T_wishKind : (Nat → Int32)) (T_wishB : (Nat → Int32)) (T_order : (Nat → Int32)) (T_time : (Nat → Int32)) (T_place : (Nat → Int32)) (T_kinds : (Nat → Int32)) (T_endsAt : (Nat → Int32)) (T_keptBy : (Nat → Int32)) (T_come : (Nat → Int32)) : Option (Int32 × Int32 × Int32 × Int32 × Int32 × (Nat → Int32) × (Nat → Int32) × (Nat → Int32) × (Nat → Int32) × (Nat → Int32) × (Nat → Int32)) :=
    bd1 (fX9_in K x1 0 9999) fun r =>
    if (r : Int32) = 0 then (
    some ((-1), T_here, T_stands, T_many, T_rounds, T_order, T_time, T_place, T_endsAt, T_keptBy, T_come))
    else (
    bd1 (fX9_in K x2 1 40) fun r_1 =>
    if (r_1 : Int32) = 0 then (
    some ((-1), T_here, T_stands, T_many, T_rounds, T_order, T_time, T_place, T_endsAt, T_keptBy, T_come))
    else (
    bd1 (fX9_in K x3 0 1) fun r_2 =>
    if (r_2 : Int32) = 0 then (
    some ((-1), T_here, T_stands, T_many, T_rounds, T_order, T_time, T_place, T_endsAt, T_keptBy, T_come))
    else (
    bd12 (fX9_dawn_L41 K x1 x2 T_guests T_wishes T_begins T_st T_wishA T_wishKind T_wishB T_kinds K 0 0 0 T_here T_stands T_many T_rounds T_order T_time T_place T_endsAt T_keptBy T_come) fun x4_1 x5_1 T_here_2 T_stands_2 T_many_2 T_rounds_2 T_order_2 T_time_2 T_place_2 T_endsAt_2 T_keptBy_2 T_come_2 =>
    if (x3 : Int32) = 0 then (
    some (x4_1, T_here_2, T_stands_2, T_many_2, T_rounds_2, T_order_2, T_time_2, T_place_2, T_endsAt_2, T_keptBy_2, T_come_2))
    else (
    some (x5_1, T_here_2, T_stands_2, T_many_2, T_rounds_2, T_order_2, T_time_2, T_place_2, T_endsAt_2, T_keptBy_2, T_come_2)))))
theorem mbX9_dawn_0 : Cond.constantLong RX9 238 (7919) ∈ wsX9_dawn := List.mem_of_getElem? (i := 1) rfl
theorem mbX9_dawn_1 : Cond.constantLong RX9 240 (6151) ∈ wsX9_dawn := List.mem_of_getElem? (i := 2) rfl
theorem mbX9_dawn_2 : Cond.constantLong RX9 242 (65521) ∈ wsX9_dawn := List.mem_of_getElem? (i := 3) rfl
theorem mbX9_dawn_3 : Cond.constantLong RX9 244 (8) ∈ wsX9_dawn := List.mem_of_getElem? (i := 4) rfl
theorem mbX9_dawn_4 : Cond.fieldLink RX9 22 "BootsAtDawnModel" "st" "[I" ∈ wsX9_dawn := List.mem_of_getElem? (i := 5) rfl
theorem inX9_dawn_X9 : ∀ w ∈ u_ws RX9 TX9 36, w ∈ wsX9_dawn := fun _ h => (List.mem_cons_of_mem _ (List.mem_append_right _ h))
theorem mbX9_dawn_6 : Cond.fieldLink RX9 97 "BootsAtDawnModel" "guests" "I" ∈ wsX9_dawn := List.mem_of_getElem? (i := 6) rfl
theorem mbX9_dawn_7 : Cond.fieldLink RX9 61 "BootsAtDawnModel" "endsAt" "[I" ∈ wsX9_dawn := List.mem_of_getElem? (i := 7) rfl
abbrev rmX9_dawn : Room := { frames := 4, cells := 0, slots := 0, locals := 94 }
set_option maxHeartbeats 8000000 in
set_option maxRecDepth 100000 in
theorem kX9_dawn (l : Launch) (dC : Nat → ClassId) (dI : Nat → Nat → Nat) (cC cI cJ : ClassId) (sz : Nat) (K : Nat) (a_T a_T_kinds a_T_wishKind a_T_wishA a_T_wishB a_T_st a_T_was a_T_kept a_T_woke a_T_text a_T_told a_T_readKinds a_T_readFloors a_T_readWishKind a_T_readWishA a_T_readWishB a_T_come a_T_keptBy a_T_endsAt a_T_order a_T_time a_T_place : Nat) (x1 : Int32) (x2 : Int32) (x3 : Int32) (T_guests : Int32) (T_wishes : Int32) (T_begins : Int32) (T_acts : Int32) (T_keeps : Int32) (T_wokes : Int32) (T_texted : Int32) (T_at : Int32) (T_readGuests : Int32) (T_readWishes : Int32) (T_readBegins : Int32) (T_here : Int32) (T_stands : Int32) (T_many : Int32) (T_rounds : Int32) (T_st : (Nat → Int32)) (T_wishA : (Nat → Int32)) (T_wishKind : (Nat → Int32)) (T_wishB : (Nat → Int32)) (T_order : (Nat → Int32)) (T_time : (Nat → Int32)) (T_place : (Nat → Int32)) (T_kinds : (Nat → Int32)) (T_endsAt : (Nat → Int32)) (T_keptBy : (Nat → Int32)) (T_come : (Nat → Int32)) (R : Int32 × Int32 × Int32 × Int32 × Int32 × (Nat → Int32) × (Nat → Int32) × (Nat → Int32) × (Nat → Int32) × (Nat → Int32) × (Nat → Int32)) (hr : fX9_dawn K x1 x2 x3 T_guests T_wishes T_begins T_here T_stands T_many T_rounds T_st T_wishA T_wishKind T_wishB T_order T_time T_place T_kinds T_endsAt T_keptBy T_come = some R) : Met l yX9_dawn wsX9_dawn rmX9_dawn (va_Pc ([.ref a_T, .int x1, .int x2, .int x3] : List Value) (PcW (dC, dI) (tysA cC cI cJ) sz [(a_T, .inr (9, [.int T_guests, .ref a_T_kinds, .int T_wishes, .ref a_T_wishKind, .ref a_T_wishA, .ref a_T_wishB, .int T_begins, .ref a_T_st, .int T_acts, .ref a_T_was, .int T_keeps, .ref a_T_kept, .int T_wokes, .ref a_T_woke, .ref a_T_text, .int T_texted, .int T_at, .ref a_T_told, .int T_readGuests, .ref a_T_readKinds, .ref a_T_readFloors, .int T_readWishes, .ref a_T_readWishKind, .ref a_T_readWishA, .ref a_T_readWishB, .int T_readBegins, .int T_here, .int T_stands, .int T_many, .int T_rounds, .ref a_T_come, .ref a_T_keptBy, .ref a_T_endsAt, .ref a_T_order, .ref a_T_time, .ref a_T_place])), (a_T_st, .inl (cI, 8, .inl T_st)), (a_T_wishA, .inl (cI, 9, .inl T_wishA)), (a_T_wishKind, .inl (cI, 9, .inl T_wishKind)), (a_T_wishB, .inl (cI, 9, .inl T_wishB)), (a_T_order, .inl (cI, 6, .inl T_order)), (a_T_time, .inl (cI, 6, .inl T_time)), (a_T_place, .inl (cI, 6, .inl T_place)), (a_T_kinds, .inl (cI, 6, .inl T_kinds)), (a_T_endsAt, .inl (cI, 720, .inl T_endsAt)), (a_T_keptBy, .inl (cI, 720, .inl T_keptBy)), (a_T_come, .inl (cI, 4320, .inl T_come))])) (va_Qi (fun r (_ : Unit) => r = R.1) (fun _ => BW (dC, dI) (tysA cC cI cJ) (va_A [(a_T, .inr (9, [.int T_guests, .ref a_T_kinds, .int T_wishes, .ref a_T_wishKind, .ref a_T_wishA, .ref a_T_wishB, .int T_begins, .ref a_T_st, .int T_acts, .ref a_T_was, .int T_keeps, .ref a_T_kept, .int T_wokes, .ref a_T_woke, .ref a_T_text, .int T_texted, .int T_at, .ref a_T_told, .int T_readGuests, .ref a_T_readKinds, .ref a_T_readFloors, .int T_readWishes, .ref a_T_readWishKind, .ref a_T_readWishA, .ref a_T_readWishB, .int T_readBegins, .int T_here, .int T_stands, .int T_many, .int T_rounds, .ref a_T_come, .ref a_T_keptBy, .ref a_T_endsAt, .ref a_T_order, .ref a_T_time, .ref a_T_place])), (a_T_st, .inl (cI, 8, .inl T_st)), (a_T_wishA, .inl (cI, 9, .inl T_wishA)), (a_T_wishKind, .inl (cI, 9, .inl T_wishKind)), (a_T_wishB, .inl (cI, 9, .inl T_wishB)), (a_T_order, .inl (cI, 6, .inl T_order)), (a_T_time, .inl (cI, 6, .inl T_time)), (a_T_place, .inl (cI, 6, .inl T_place)), (a_T_kinds, .inl (cI, 6, .inl T_kinds)), (a_T_endsAt, .inl (cI, 720, .inl T_endsAt)), (a_T_keptBy, .inl (cI, 720, .inl T_keptBy)), (a_T_come, .inl (cI, 4320, .inl T_come))] sz) [(a_T, .inr (9, [.int T_guests, .ref a_T_kinds, .int T_wishes, .ref a_T_wishKind, .ref a_T_wishA, .ref a_T_wishB, .int T_begins, .ref a_T_st, .int T_acts, .ref a_T_was, .int T_keeps, .ref a_T_kept, .int T_wokes, .ref a_T_woke, .ref a_T_text, .int T_texted, .int T_at, .ref a_T_told, .int T_readGuests, .ref a_T_readKinds, .ref a_T_readFloors, .int T_readWishes, .ref a_T_readWishKind, .ref a_T_readWishA, .ref a_T_readWishB, .int T_readBegins, .int R.2.1, .int R.2.2.1, .int R.2.2.2.1, .int R.2.2.2.2.1, .ref a_T_come, .ref a_T_keptBy, .ref a_T_endsAt, .ref a_T_order, .ref a_T_time, .ref a_T_place])), (a_T_st, .inl (cI, 8, .inl T_st)), (a_T_wishA, .inl (cI, 9, .inl T_wishA)), (a_T_wishKind, .inl (cI, 9, .inl T_wishKind)), (a_T_wishB, .inl (cI, 9, .inl T_wishB)), (a_T_order, .inl (cI, 6, .inl R.2.2.2.2.2.1)), (a_T_time, .inl (cI, 6, .inl R.2.2.2.2.2.2.1)), (a_T_place, .inl (cI, 6, .inl R.2.2.2.2.2.2.2.1)), (a_T_kinds, .inl (cI, 6, .inl T_kinds)), (a_T_endsAt, .inl (cI, 720, .inl R.2.2.2.2.2.2.2.2.1)), (a_T_keptBy, .inl (cI, 720, .inl R.2.2.2.2.2.2.2.2.2.1)), (a_T_come, .inl (cI, 4320, .inl R.2.2.2.2.2.2.2.2.2.2))]) (va_A [(a_T, .inr (9, [.int T_guests, .ref a_T_kinds, .int T_wishes, .ref a_T_wishKind, .ref a_T_wishA, .ref a_T_wishB, .int T_begins, .ref a_T_st, .int T_acts, .ref a_T_was, .int T_keeps, .ref a_T_kept, .int T_wokes, .ref a_T_woke, .ref a_T_text, .int T_texted, .int T_at, .ref a_T_told, .int T_readGuests, .ref a_T_readKinds, .ref a_T_readFloors, .int T_readWishes, .ref a_T_readWishKind, .ref a_T_readWishA, .ref a_T_readWishB, .int T_readBegins, .int T_here, .int T_stands, .int T_many, .int T_rounds, .ref a_T_come, .ref a_T_keptBy, .ref a_T_endsAt, .ref a_T_order, .ref a_T_time, .ref a_T_place])), (a_T_st, .inl (cI, 8, .inl T_st)), (a_T_wishA, .inl (cI, 9, .inl T_wishA)), (a_T_wishKind, .inl (cI, 9, .inl T_wishKind)), (a_T_wishB, .inl (cI, 9, .inl T_wishB)), (a_T_order, .inl (cI, 6, .inl T_order)), (a_T_time, .inl (cI, 6, .inl T_time)), (a_T_place, .inl (cI, 6, .inl T_place)), (a_T_kinds, .inl (cI, 6, .inl T_kinds)), (a_T_endsAt, .inl (cI, 720, .inl T_endsAt)), (a_T_keptBy, .inl (cI, 720, .inl T_keptBy)), (a_T_come, .inl (cI, 4320, .inl T_come))] sz)) 0 0 (va_A [(a_T, .inr (9, [.int T_guests, .ref a_T_kinds, .int T_wishes, .ref a_T_wishKind, .ref a_T_wishA, .ref a_T_wishB, .int T_begins, .ref a_T_st, .int T_acts, .ref a_T_was, .int T_keeps, .ref a_T_kept, .int T_wokes, .ref a_T_woke, .ref a_T_text, .int T_texted, .int T_at, .ref a_T_told, .int T_readGuests, .ref a_T_readKinds, .ref a_T_readFloors, .int T_readWishes, .ref a_T_readWishKind, .ref a_T_readWishA, .ref a_T_readWishB, .int T_readBegins, .int T_here, .int T_stands, .int T_many, .int T_rounds, .ref a_T_come, .ref a_T_keptBy, .ref a_T_endsAt, .ref a_T_order, .ref a_T_time, .ref a_T_place])), (a_T_st, .inl (cI, 8, .inl T_st)), (a_T_wishA, .inl (cI, 9, .inl T_wishA)), (a_T_wishKind, .inl (cI, 9, .inl T_wishKind)), (a_T_wishB, .inl (cI, 9, .inl T_wishB)), (a_T_order, .inl (cI, 6, .inl T_order)), (a_T_time, .inl (cI, 6, .inl T_time)), (a_T_place, .inl (cI, 6, .inl T_place)), (a_T_kinds, .inl (cI, 6, .inl T_kinds)), (a_T_endsAt, .inl (cI, 720, .inl T_endsAt)), (a_T_keptBy, .inl (cI, 720, .inl T_keptBy)), (a_T_come, .inl (cI, 4320, .inl T_come))] sz) := by
  refine Met.ofW (cc := cX9_dawn) (maxL := 11) (ret := (some .int)) (by decide) rfl ?_
  intro p e s m args below meth c s₁ B hml hv
  obtain ⟨rfl, hsz, hP, hK, hD0, hN⟩ := hv
  have hx := B.exec
  have hb := B.bytes
  have hrt := B.returns
  have hts := atoms_spec (ws := wsX9_dawn) B.pre
  have hown : s.vm.findClass RX9 = some m.cls := findClass_of_methodNamed B.named
  have hlocks := B.notSynchronized
  subst hsz
  have hD := hD0.self (sz := s.heap.size)
  generalize hAe : va_A [(a_T, .inr (9, [.int T_guests, .ref a_T_kinds, .int T_wishes, .ref a_T_wishKind, .ref a_T_wishA, .ref a_T_wishB, .int T_begins, .ref a_T_st, .int T_acts, .ref a_T_was, .int T_keeps, .ref a_T_kept, .int T_wokes, .ref a_T_woke, .ref a_T_text, .int T_texted, .int T_at, .ref a_T_told, .int T_readGuests, .ref a_T_readKinds, .ref a_T_readFloors, .int T_readWishes, .ref a_T_readWishKind, .ref a_T_readWishA, .ref a_T_readWishB, .int T_readBegins, .int T_here, .int T_stands, .int T_many, .int T_rounds, .ref a_T_come, .ref a_T_keptBy, .ref a_T_endsAt, .ref a_T_order, .ref a_T_time, .ref a_T_place])), (a_T_st, .inl (cI, 8, .inl T_st)), (a_T_wishA, .inl (cI, 9, .inl T_wishA)), (a_T_wishKind, .inl (cI, 9, .inl T_wishKind)), (a_T_wishB, .inl (cI, 9, .inl T_wishB)), (a_T_order, .inl (cI, 6, .inl T_order)), (a_T_time, .inl (cI, 6, .inl T_time)), (a_T_place, .inl (cI, 6, .inl T_place)), (a_T_kinds, .inl (cI, 6, .inl T_kinds)), (a_T_endsAt, .inl (cI, 720, .inl T_endsAt)), (a_T_keptBy, .inl (cI, 720, .inl T_keptBy)), (a_T_come, .inl (cI, 4320, .inl T_come))] s.heap.size = A at hD ⊢
  have hA : ∀ q : Nat, s.heap.size ≤ q → A q := fun q h => by rw [← hAe]; exact Or.inr h
  have hS : va_S A s.heap s.heap [] := va_S.rf
  have hl := lv_entry ([.ref a_T, .int x1, .int x2, .int x3] : List Value) (n := 11) (Nat.le_of_ble_eq_true rfl)
  rw [lg_entry_eq]
  generalize (lg_sl ([.ref a_T, .int x1, .int x2, .int x3] : List Value) ++ List.replicate (11 - (lg_sl ([.ref a_T, .int x1, .int x2, .int x3] : List Value)).length) Slot.unset).toArray = ls at hl ⊢
  replace hl : lv_has ls 11 [(0, .ref a_T), (1, .int x1), (2, .int x2), (3, .int x3)] := hl
  obtain ⟨Q, hQ⟩ : ∃ Q, Q = MQ below (va_Qi (fun r (_ : Unit) => r = R.1) (fun _ => BW (dC, dI) (tysA cC cI cJ) A [(a_T, .inr (9, [.int T_guests, .ref a_T_kinds, .int T_wishes, .ref a_T_wishKind, .ref a_T_wishA, .ref a_T_wishB, .int T_begins, .ref a_T_st, .int T_acts, .ref a_T_was, .int T_keeps, .ref a_T_kept, .int T_wokes, .ref a_T_woke, .ref a_T_text, .int T_texted, .int T_at, .ref a_T_told, .int T_readGuests, .ref a_T_readKinds, .ref a_T_readFloors, .int T_readWishes, .ref a_T_readWishKind, .ref a_T_readWishA, .ref a_T_readWishB, .int T_readBegins, .int R.2.1, .int R.2.2.1, .int R.2.2.2.1, .int R.2.2.2.2.1, .ref a_T_come, .ref a_T_keptBy, .ref a_T_endsAt, .ref a_T_order, .ref a_T_time, .ref a_T_place])), (a_T_st, .inl (cI, 8, .inl T_st)), (a_T_wishA, .inl (cI, 9, .inl T_wishA)), (a_T_wishKind, .inl (cI, 9, .inl T_wishKind)), (a_T_wishB, .inl (cI, 9, .inl T_wishB)), (a_T_order, .inl (cI, 6, .inl R.2.2.2.2.2.1)), (a_T_time, .inl (cI, 6, .inl R.2.2.2.2.2.2.1)), (a_T_place, .inl (cI, 6, .inl R.2.2.2.2.2.2.2.1)), (a_T_kinds, .inl (cI, 6, .inl T_kinds)), (a_T_endsAt, .inl (cI, 720, .inl R.2.2.2.2.2.2.2.2.1)), (a_T_keptBy, .inl (cI, 720, .inl R.2.2.2.2.2.2.2.2.2.1)), (a_T_come, .inl (cI, 4320, .inl R.2.2.2.2.2.2.2.2.2.2))]) A) ([.ref a_T, .int x1, .int x2, .int x3] : List Value).toArray s 0 0 A := ⟨_, rfl⟩
  rw [← hQ]
  suffices hE : WG p l e rmX9_dawn s m ([.ref a_T, .int x1, .int x2, .int x3] : List Value).toArray below meth c 0 0 Q (dC, dI) A 0 11 [(a_T, .inr (9, [.int T_guests, .ref a_T_kinds, .int T_wishes, .ref a_T_wishKind, .ref a_T_wishA, .ref a_T_wishB, .int T_begins, .ref a_T_st, .int T_acts, .ref a_T_was, .int T_keeps, .ref a_T_kept, .int T_wokes, .ref a_T_woke, .ref a_T_text, .int T_texted, .int T_at, .ref a_T_told, .int T_readGuests, .ref a_T_readKinds, .ref a_T_readFloors, .int T_readWishes, .ref a_T_readWishKind, .ref a_T_readWishA, .ref a_T_readWishB, .int T_readBegins, .int T_here, .int T_stands, .int T_many, .int T_rounds, .ref a_T_come, .ref a_T_keptBy, .ref a_T_endsAt, .ref a_T_order, .ref a_T_time, .ref a_T_place])), (a_T_st, .inl (cI, 8, .inl T_st)), (a_T_wishA, .inl (cI, 9, .inl T_wishA)), (a_T_wishKind, .inl (cI, 9, .inl T_wishKind)), (a_T_wishB, .inl (cI, 9, .inl T_wishB)), (a_T_order, .inl (cI, 6, .inl T_order)), (a_T_time, .inl (cI, 6, .inl T_time)), (a_T_place, .inl (cI, 6, .inl T_place)), (a_T_kinds, .inl (cI, 6, .inl T_kinds)), (a_T_endsAt, .inl (cI, 720, .inl T_endsAt)), (a_T_keptBy, .inl (cI, 720, .inl T_keptBy)), (a_T_come, .inl (cI, 4320, .inl T_come))] [(0, .ref a_T), (1, .int x1), (2, .int x2), (3, .int x3)] [] from hE _ _ _ hP hD hS hl
  clear hP hD hS hl hD0 hAe
  intro H locs ls hP hD hS hl
  unfold fX9_dawn at hr
  refine lv_iload_n hx hb dX9_dawn_0 rfl (lv_at hl 1 rfl) ?_
  refine lv_iconst (v := 0) hx hb dX9_dawn_1 (by decide) ?_
  refine lv_sipush (v := 9999) hx hb dX9_dawn_2 (by decide) ?_
  obtain ⟨r, hc1, hr⟩ := bd1_some hr
  refine call_i (D := (dC, dI)) (tys := tysA cC cI cJ) (wc := []) (wr := [(a_T, .inr (9, [.int T_guests, .ref a_T_kinds, .int T_wishes, .ref a_T_wishKind, .ref a_T_wishA, .ref a_T_wishB, .int T_begins, .ref a_T_st, .int T_acts, .ref a_T_was, .int T_keeps, .ref a_T_kept, .int T_wokes, .ref a_T_woke, .ref a_T_text, .int T_texted, .int T_at, .ref a_T_told, .int T_readGuests, .ref a_T_readKinds, .ref a_T_readFloors, .int T_readWishes, .ref a_T_readWishKind, .ref a_T_readWishA, .ref a_T_readWishB, .int T_readBegins, .int T_here, .int T_stands, .int T_many, .int T_rounds, .ref a_T_come, .ref a_T_keptBy, .ref a_T_endsAt, .ref a_T_order, .ref a_T_time, .ref a_T_place])), (a_T_st, .inl (cI, 8, .inl T_st)), (a_T_wishA, .inl (cI, 9, .inl T_wishA)), (a_T_wishKind, .inl (cI, 9, .inl T_wishKind)), (a_T_wishB, .inl (cI, 9, .inl T_wishB)), (a_T_order, .inl (cI, 6, .inl T_order)), (a_T_time, .inl (cI, 6, .inl T_time)), (a_T_place, .inl (cI, 6, .inl T_place)), (a_T_kinds, .inl (cI, 6, .inl T_kinds)), (a_T_endsAt, .inl (cI, 720, .inl T_endsAt)), (a_T_keptBy, .inl (cI, 720, .inl T_keptBy)), (a_T_come, .inl (cI, 4320, .inl T_come))]) (w1 := []) (wn := [(a_T, .inr (9, [.int T_guests, .ref a_T_kinds, .int T_wishes, .ref a_T_wishKind, .ref a_T_wishA, .ref a_T_wishB, .int T_begins, .ref a_T_st, .int T_acts, .ref a_T_was, .int T_keeps, .ref a_T_kept, .int T_wokes, .ref a_T_woke, .ref a_T_text, .int T_texted, .int T_at, .ref a_T_told, .int T_readGuests, .ref a_T_readKinds, .ref a_T_readFloors, .int T_readWishes, .ref a_T_readWishKind, .ref a_T_readWishA, .ref a_T_readWishB, .int T_readBegins, .int T_here, .int T_stands, .int T_many, .int T_rounds, .ref a_T_come, .ref a_T_keptBy, .ref a_T_endsAt, .ref a_T_order, .ref a_T_time, .ref a_T_place])), (a_T_st, .inl (cI, 8, .inl T_st)), (a_T_wishA, .inl (cI, 9, .inl T_wishA)), (a_T_wishKind, .inl (cI, 9, .inl T_wishKind)), (a_T_wishB, .inl (cI, 9, .inl T_wishB)), (a_T_order, .inl (cI, 6, .inl T_order)), (a_T_time, .inl (cI, 6, .inl T_time)), (a_T_place, .inl (cI, 6, .inl T_place)), (a_T_kinds, .inl (cI, 6, .inl T_kinds)), (a_T_endsAt, .inl (cI, 720, .inl T_endsAt)), (a_T_keptBy, .inl (cI, 720, .inl T_keptBy)), (a_T_come, .inl (cI, 4320, .inl T_come))]) (r0 := r) hP hD hS hA [] [0, 1, 2, 3, 4, 5, 6, 7, 8, 9, 10, 11] [0, 1, 2, 3, 4, 5, 6, 7, 8, 9, 10, 11] rfl rfl (by decide +kernel) (by decide +kernel) rfl (by decide +kernel) (va_runS (As := [.int x1, .int 0, .int 9999]) (rest := []) ⟨hx, hb, hml, hown, hts⟩ (kX9_in l dC dI cC cI cJ H.size K x1 0 9999 r hc1) (va_cwS 3 hts gX9_dawn_X9_in rfl rfl rfl (by decide +kernel) ⟨Nat.le_of_ble_eq_true rfl, Nat.le_of_ble_eq_true rfl⟩) ⟨fbW, preW hP hD hK hN [] rfl (by decide +kernel)⟩ rfl rfl hl.1 rfl (lv_room (Nat.le_of_ble_eq_true rfl)) dX9_dawn_5 ⟨Nat.zero_le _, Nat.zero_le _⟩) (fun H locs hP hD hS => ?_)
  refine lv_if_eq (tgt := 30) hx hb dX9_dawn_8 (by decide) (fun c1 => ?_) (fun c1 => ?_)
  · replace hr := it_t hr c1
    refine lv_iconst (v := (-1)) hx hb dX9_dawn_30 (by decide) ?_
    have he := Option.some.inj hr
    subst he
    subst hQ
    exact ret_i hx hb hrt hK hP hD hS hlocks dX9_dawn_31
  · replace hr := it_f hr c1
    refine lv_iload_n hx hb dX9_dawn_11 rfl (lv_at hl 2 rfl) ?_
    refine lv_iconst (v := 1) hx hb dX9_dawn_12 (by decide) ?_
    refine lv_bipush (v := 40) hx hb dX9_dawn_13 (by decide) ?_
    obtain ⟨r_1, hc2, hr⟩ := bd1_some hr
    refine call_i (D := (dC, dI)) (tys := tysA cC cI cJ) (wc := []) (wr := [(a_T, .inr (9, [.int T_guests, .ref a_T_kinds, .int T_wishes, .ref a_T_wishKind, .ref a_T_wishA, .ref a_T_wishB, .int T_begins, .ref a_T_st, .int T_acts, .ref a_T_was, .int T_keeps, .ref a_T_kept, .int T_wokes, .ref a_T_woke, .ref a_T_text, .int T_texted, .int T_at, .ref a_T_told, .int T_readGuests, .ref a_T_readKinds, .ref a_T_readFloors, .int T_readWishes, .ref a_T_readWishKind, .ref a_T_readWishA, .ref a_T_readWishB, .int T_readBegins, .int T_here, .int T_stands, .int T_many, .int T_rounds, .ref a_T_come, .ref a_T_keptBy, .ref a_T_endsAt, .ref a_T_order, .ref a_T_time, .ref a_T_place])), (a_T_st, .inl (cI, 8, .inl T_st)), (a_T_wishA, .inl (cI, 9, .inl T_wishA)), (a_T_wishKind, .inl (cI, 9, .inl T_wishKind)), (a_T_wishB, .inl (cI, 9, .inl T_wishB)), (a_T_order, .inl (cI, 6, .inl T_order)), (a_T_time, .inl (cI, 6, .inl T_time)), (a_T_place, .inl (cI, 6, .inl T_place)), (a_T_kinds, .inl (cI, 6, .inl T_kinds)), (a_T_endsAt, .inl (cI, 720, .inl T_endsAt)), (a_T_keptBy, .inl (cI, 720, .inl T_keptBy)), (a_T_come, .inl (cI, 4320, .inl T_come))]) (w1 := []) (wn := [(a_T, .inr (9, [.int T_guests, .ref a_T_kinds, .int T_wishes, .ref a_T_wishKind, .ref a_T_wishA, .ref a_T_wishB, .int T_begins, .ref a_T_st, .int T_acts, .ref a_T_was, .int T_keeps, .ref a_T_kept, .int T_wokes, .ref a_T_woke, .ref a_T_text, .int T_texted, .int T_at, .ref a_T_told, .int T_readGuests, .ref a_T_readKinds, .ref a_T_readFloors, .int T_readWishes, .ref a_T_readWishKind, .ref a_T_readWishA, .ref a_T_readWishB, .int T_readBegins, .int T_here, .int T_stands, .int T_many, .int T_rounds, .ref a_T_come, .ref a_T_keptBy, .ref a_T_endsAt, .ref a_T_order, .ref a_T_time, .ref a_T_place])), (a_T_st, .inl (cI, 8, .inl T_st)), (a_T_wishA, .inl (cI, 9, .inl T_wishA)), (a_T_wishKind, .inl (cI, 9, .inl T_wishKind)), (a_T_wishB, .inl (cI, 9, .inl T_wishB)), (a_T_order, .inl (cI, 6, .inl T_order)), (a_T_time, .inl (cI, 6, .inl T_time)), (a_T_place, .inl (cI, 6, .inl T_place)), (a_T_kinds, .inl (cI, 6, .inl T_kinds)), (a_T_endsAt, .inl (cI, 720, .inl T_endsAt)), (a_T_keptBy, .inl (cI, 720, .inl T_keptBy)), (a_T_come, .inl (cI, 4320, .inl T_come))]) (r0 := r_1) hP hD hS hA [] [0, 1, 2, 3, 4, 5, 6, 7, 8, 9, 10, 11] [0, 1, 2, 3, 4, 5, 6, 7, 8, 9, 10, 11] rfl rfl (by decide +kernel) (by decide +kernel) rfl (by decide +kernel) (va_runS (As := [.int x2, .int 1, .int 40]) (rest := []) ⟨hx, hb, hml, hown, hts⟩ (kX9_in l dC dI cC cI cJ H.size K x2 1 40 r_1 hc2) (va_cwS 3 hts gX9_dawn_X9_in rfl rfl rfl (by decide +kernel) ⟨Nat.le_of_ble_eq_true rfl, Nat.le_of_ble_eq_true rfl⟩) ⟨fbW, preW hP hD hK hN [] rfl (by decide +kernel)⟩ rfl rfl hl.1 rfl (lv_room (Nat.le_of_ble_eq_true rfl)) dX9_dawn_15 ⟨Nat.zero_le _, Nat.zero_le _⟩) (fun H locs hP hD hS => ?_)
    refine lv_if_eq (tgt := 30) hx hb dX9_dawn_18 (by decide) (fun c2 => ?_) (fun c2 => ?_)
    · replace hr := it_t hr c2
      refine lv_iconst (v := (-1)) hx hb dX9_dawn_30 (by decide) ?_
      have he := Option.some.inj hr
      subst he
      subst hQ
      exact ret_i hx hb hrt hK hP hD hS hlocks dX9_dawn_31
    · replace hr := it_f hr c2
      refine lv_iload_n hx hb dX9_dawn_21 rfl (lv_at hl 3 rfl) ?_
      refine lv_iconst (v := 0) hx hb dX9_dawn_22 (by decide) ?_
      refine lv_iconst (v := 1) hx hb dX9_dawn_23 (by decide) ?_
      obtain ⟨r_2, hc3, hr⟩ := bd1_some hr
      refine call_i (D := (dC, dI)) (tys := tysA cC cI cJ) (wc := []) (wr := [(a_T, .inr (9, [.int T_guests, .ref a_T_kinds, .int T_wishes, .ref a_T_wishKind, .ref a_T_wishA, .ref a_T_wishB, .int T_begins, .ref a_T_st, .int T_acts, .ref a_T_was, .int T_keeps, .ref a_T_kept, .int T_wokes, .ref a_T_woke, .ref a_T_text, .int T_texted, .int T_at, .ref a_T_told, .int T_readGuests, .ref a_T_readKinds, .ref a_T_readFloors, .int T_readWishes, .ref a_T_readWishKind, .ref a_T_readWishA, .ref a_T_readWishB, .int T_readBegins, .int T_here, .int T_stands, .int T_many, .int T_rounds, .ref a_T_come, .ref a_T_keptBy, .ref a_T_endsAt, .ref a_T_order, .ref a_T_time, .ref a_T_place])), (a_T_st, .inl (cI, 8, .inl T_st)), (a_T_wishA, .inl (cI, 9, .inl T_wishA)), (a_T_wishKind, .inl (cI, 9, .inl T_wishKind)), (a_T_wishB, .inl (cI, 9, .inl T_wishB)), (a_T_order, .inl (cI, 6, .inl T_order)), (a_T_time, .inl (cI, 6, .inl T_time)), (a_T_place, .inl (cI, 6, .inl T_place)), (a_T_kinds, .inl (cI, 6, .inl T_kinds)), (a_T_endsAt, .inl (cI, 720, .inl T_endsAt)), (a_T_keptBy, .inl (cI, 720, .inl T_keptBy)), (a_T_come, .inl (cI, 4320, .inl T_come))]) (w1 := []) (wn := [(a_T, .inr (9, [.int T_guests, .ref a_T_kinds, .int T_wishes, .ref a_T_wishKind, .ref a_T_wishA, .ref a_T_wishB, .int T_begins, .ref a_T_st, .int T_acts, .ref a_T_was, .int T_keeps, .ref a_T_kept, .int T_wokes, .ref a_T_woke, .ref a_T_text, .int T_texted, .int T_at, .ref a_T_told, .int T_readGuests, .ref a_T_readKinds, .ref a_T_readFloors, .int T_readWishes, .ref a_T_readWishKind, .ref a_T_readWishA, .ref a_T_readWishB, .int T_readBegins, .int T_here, .int T_stands, .int T_many, .int T_rounds, .ref a_T_come, .ref a_T_keptBy, .ref a_T_endsAt, .ref a_T_order, .ref a_T_time, .ref a_T_place])), (a_T_st, .inl (cI, 8, .inl T_st)), (a_T_wishA, .inl (cI, 9, .inl T_wishA)), (a_T_wishKind, .inl (cI, 9, .inl T_wishKind)), (a_T_wishB, .inl (cI, 9, .inl T_wishB)), (a_T_order, .inl (cI, 6, .inl T_order)), (a_T_time, .inl (cI, 6, .inl T_time)), (a_T_place, .inl (cI, 6, .inl T_place)), (a_T_kinds, .inl (cI, 6, .inl T_kinds)), (a_T_endsAt, .inl (cI, 720, .inl T_endsAt)), (a_T_keptBy, .inl (cI, 720, .inl T_keptBy)), (a_T_come, .inl (cI, 4320, .inl T_come))]) (r0 := r_2) hP hD hS hA [] [0, 1, 2, 3, 4, 5, 6, 7, 8, 9, 10, 11] [0, 1, 2, 3, 4, 5, 6, 7, 8, 9, 10, 11] rfl rfl (by decide +kernel) (by decide +kernel) rfl (by decide +kernel) (va_runS (As := [.int x3, .int 0, .int 1]) (rest := []) ⟨hx, hb, hml, hown, hts⟩ (kX9_in l dC dI cC cI cJ H.size K x3 0 1 r_2 hc3) (va_cwS 3 hts gX9_dawn_X9_in rfl rfl rfl (by decide +kernel) ⟨Nat.le_of_ble_eq_true rfl, Nat.le_of_ble_eq_true rfl⟩) ⟨fbW, preW hP hD hK hN [] rfl (by decide +kernel)⟩ rfl rfl hl.1 rfl (lv_room (Nat.le_of_ble_eq_true rfl)) dX9_dawn_24 ⟨Nat.zero_le _, Nat.zero_le _⟩) (fun H locs hP hD hS => ?_)
      refine lv_if_ne (tgt := 32) hx hb dX9_dawn_27 (by decide) (fun c3 => ?_) (fun c3 => ?_)
      · replace hr := it_f hr c3
        refine lv_iconst (v := 0) hx hb dX9_dawn_32 (by decide) ?_
        refine lv_istore (lv' := [(4, .int 0), (0, .ref a_T), (1, .int x1), (2, .int x2), (3, .int x3)]) hx hb dX9_dawn_33 hl (by decide) rfl (fun ls hl => ?_)
        refine lv_iconst (v := 0) hx hb dX9_dawn_35 (by decide) ?_
        refine lv_istore (lv' := [(5, .int 0), (4, .int 0), (0, .ref a_T), (1, .int x1), (2, .int x2), (3, .int x3)]) hx hb dX9_dawn_36 hl (by decide) rfl (fun ls hl => ?_)
        refine lv_iconst (v := 0) hx hb dX9_dawn_38 (by decide) ?_
        refine lv_istore (lv' := [(6, .int 0), (5, .int 0), (4, .int 0), (0, .ref a_T), (1, .int x1), (2, .int x2), (3, .int x3)]) hx hb dX9_dawn_39 hl (by decide) rfl (fun ls hl => ?_)
        have hL1 : ∀ (n1 : Nat) (x4 : Int32) (x5 : Int32) (x6 : Int32) (T_here_1 : Int32) (T_stands_1 : Int32) (T_many_1 : Int32) (T_rounds_1 : Int32) (T_order_1 : (Nat → Int32)) (T_time_1 : (Nat → Int32)) (T_place_1 : (Nat → Int32)) (T_endsAt_1 : (Nat → Int32)) (T_keptBy_1 : (Nat → Int32)) (T_come_1 : (Nat → Int32)) (x4_1 : Int32) (x5_1 : Int32) (T_here_2 : Int32) (T_stands_2 : Int32) (T_many_2 : Int32) (T_rounds_2 : Int32) (T_order_2 : (Nat → Int32)) (T_time_2 : (Nat → Int32)) (T_place_2 : (Nat → Int32)) (T_endsAt_2 : (Nat → Int32)) (T_keptBy_2 : (Nat → Int32)) (T_come_2 : (Nat → Int32)), fX9_dawn_L41 K x1 x2 T_guests T_wishes T_begins T_st T_wishA T_wishKind T_wishB T_kinds n1 x4 x5 x6 T_here_1 T_stands_1 T_many_1 T_rounds_1 T_order_1 T_time_1 T_place_1 T_endsAt_1 T_keptBy_1 T_come_1 = some (x4_1, x5_1, T_here_2, T_stands_2, T_many_2, T_rounds_2, T_order_2, T_time_2, T_place_2, T_endsAt_2, T_keptBy_2, T_come_2) → WG p l e rmX9_dawn s m ([.ref a_T, .int x1, .int x2, .int x3] : List Value).toArray below meth c 0 0 Q (dC, dI) A 151 11 [(a_T, .inr (9, [.int T_guests, .ref a_T_kinds, .int T_wishes, .ref a_T_wishKind, .ref a_T_wishA, .ref a_T_wishB, .int T_begins, .ref a_T_st, .int T_acts, .ref a_T_was, .int T_keeps, .ref a_T_kept, .int T_wokes, .ref a_T_woke, .ref a_T_text, .int T_texted, .int T_at, .ref a_T_told, .int T_readGuests, .ref a_T_readKinds, .ref a_T_readFloors, .int T_readWishes, .ref a_T_readWishKind, .ref a_T_readWishA, .ref a_T_readWishB, .int T_readBegins, .int T_here_2, .int T_stands_2, .int T_many_2, .int T_rounds_2, .ref a_T_come, .ref a_T_keptBy, .ref a_T_endsAt, .ref a_T_order, .ref a_T_time, .ref a_T_place])), (a_T_st, .inl (cI, 8, .inl T_st)), (a_T_wishA, .inl (cI, 9, .inl T_wishA)), (a_T_wishKind, .inl (cI, 9, .inl T_wishKind)), (a_T_wishB, .inl (cI, 9, .inl T_wishB)), (a_T_order, .inl (cI, 6, .inl T_order_2)), (a_T_time, .inl (cI, 6, .inl T_time_2)), (a_T_place, .inl (cI, 6, .inl T_place_2)), (a_T_kinds, .inl (cI, 6, .inl T_kinds)), (a_T_endsAt, .inl (cI, 720, .inl T_endsAt_2)), (a_T_keptBy, .inl (cI, 720, .inl T_keptBy_2)), (a_T_come, .inl (cI, 4320, .inl T_come_2))] [(3, .int x3), (4, .int x4_1), (5, .int x5_1)] [] → WG p l e rmX9_dawn s m ([.ref a_T, .int x1, .int x2, .int x3] : List Value).toArray below meth c 0 0 Q (dC, dI) A 41 11 [(a_T, .inr (9, [.int T_guests, .ref a_T_kinds, .int T_wishes, .ref a_T_wishKind, .ref a_T_wishA, .ref a_T_wishB, .int T_begins, .ref a_T_st, .int T_acts, .ref a_T_was, .int T_keeps, .ref a_T_kept, .int T_wokes, .ref a_T_woke, .ref a_T_text, .int T_texted, .int T_at, .ref a_T_told, .int T_readGuests, .ref a_T_readKinds, .ref a_T_readFloors, .int T_readWishes, .ref a_T_readWishKind, .ref a_T_readWishA, .ref a_T_readWishB, .int T_readBegins, .int T_here_1, .int T_stands_1, .int T_many_1, .int T_rounds_1, .ref a_T_come, .ref a_T_keptBy, .ref a_T_endsAt, .ref a_T_order, .ref a_T_time, .ref a_T_place])), (a_T_st, .inl (cI, 8, .inl T_st)), (a_T_wishA, .inl (cI, 9, .inl T_wishA)), (a_T_wishKind, .inl (cI, 9, .inl T_wishKind)), (a_T_wishB, .inl (cI, 9, .inl T_wishB)), (a_T_order, .inl (cI, 6, .inl T_order_1)), (a_T_time, .inl (cI, 6, .inl T_time_1)), (a_T_place, .inl (cI, 6, .inl T_place_1)), (a_T_kinds, .inl (cI, 6, .inl T_kinds)), (a_T_endsAt, .inl (cI, 720, .inl T_endsAt_1)), (a_T_keptBy, .inl (cI, 720, .inl T_keptBy_1)), (a_T_come, .inl (cI, 4320, .inl T_come_1))] [(0, .ref a_T), (1, .int x1), (2, .int x2), (3, .int x3), (4, .int x4), (5, .int x5), (6, .int x6)] [] := by
          intro n1
          induction n1 with
          | zero =>
            intro x4 x5 x6 T_here_1 T_stands_1 T_many_1 T_rounds_1 T_order_1 T_time_1 T_place_1 T_endsAt_1 T_keptBy_1 T_come_1 x4_1 x5_1 T_here_2 T_stands_2 T_many_2 T_rounds_2 T_order_2 T_time_2 T_place_2 T_endsAt_2 T_keptBy_2 T_come_2 hr
            rw [fX9_dawn_L41] at hr
            cases hr
          | succ n1 ih41 =>
            intro x4 x5 x6 T_here_1 T_stands_1 T_many_1 T_rounds_1 T_order_1 T_time_1 T_place_1 T_endsAt_1 T_keptBy_1 T_come_1 x4_1 x5_1 T_here_2 T_stands_2 T_many_2 T_rounds_2 T_order_2 T_time_2 T_place_2 T_endsAt_2 T_keptBy_2 T_come_2 hr hX1 H locs ls hP hD hS hl
            rw [fX9_dawn_L41] at hr
            refine lv_iload hx hb dX9_dawn_41 (lv_at hl 6 rfl) ?_
            refine lv_iload_n hx hb dX9_dawn_43 rfl (lv_at hl 2 rfl) ?_
            refine lv_icmp_ge (tgt := 151) hx hb dX9_dawn_44 (by decide) (fun c4 => ?_) (fun c4 => ?_)
            · replace hr := it_t hr c4
              have he := Option.some.inj hr
              cases he
              exact hX1 H locs ls hP hD hS (lv_sub hl [3, 4, 5] rfl)
            · replace hr := it_f hr c4
              refine lv_ldc2 (v := 7919) hx hb hown (hts _ mbX9_dawn_0) dX9_dawn_47 ?_
              refine lv_iload_n hx hb dX9_dawn_50 rfl (lv_at hl 1 rfl) ?_
              refine lv_i2l hx hb dX9_dawn_51 rfl ?_
              refine lv_lmul hx hb dX9_dawn_52 ?_
              refine lv_ldc2 (v := 6151) hx hb hown (hts _ mbX9_dawn_1) dX9_dawn_53 ?_
              refine lv_iload hx hb dX9_dawn_56 (lv_at hl 6 rfl) ?_
              refine lv_i2l hx hb dX9_dawn_58 rfl ?_
              refine lv_lmul hx hb dX9_dawn_59 ?_
              refine lv_ladd hx hb dX9_dawn_60 ?_
              refine lv_lconst (v := 1) hx hb dX9_dawn_61 (by decide) ?_
              refine lv_ladd hx hb dX9_dawn_62 ?_
              obtain ⟨x7, e1, hr⟩ := nm_el hr
              refine lv_nml e1 ?_
              refine lv_lstore (lv' := [(7, .long x7), (0, .ref a_T), (1, .int x1), (2, .int x2), (3, .int x3), (4, .int x4), (5, .int x5), (6, .int x6)]) hx hb dX9_dawn_63 hl (by decide) rfl (fun ls hl => ?_)
              refine lv_lload hx hb dX9_dawn_65 (lv_at hl 0 rfl) ?_
              refine lv_lload hx hb dX9_dawn_67 (lv_at hl 0 rfl) ?_
              refine lv_lmul hx hb dX9_dawn_69 ?_
              refine lv_ldc2 (v := 65521) hx hb hown (hts _ mbX9_dawn_2) dX9_dawn_70 ?_
              obtain ⟨g1, hr⟩ := gd_some hr
              refine lv_lrem hx hb dX9_dawn_73 g1 ?_
              refine lv_ldc2 (v := 8) hx hb hown (hts _ mbX9_dawn_3) dX9_dawn_74 ?_
              obtain ⟨g2, hr⟩ := gd_some hr
              refine lv_ldiv hx hb dX9_dawn_77 g2 ?_
              refine lv_l2i hx hb dX9_dawn_78 rfl ?_
              obtain ⟨x9, e2, hr⟩ := nm_el hr
              refine lv_nmi e2 ?_
              refine lv_istore (lv' := [(9, .int x9), (7, .long x7), (0, .ref a_T), (1, .int x1), (2, .int x2), (3, .int x3), (4, .int x4), (5, .int x5), (6, .int x6)]) hx hb dX9_dawn_79 hl (by decide) rfl (fun ls hl => ?_)
              refine lv_aload_n hx hb dX9_dawn_81 rfl (lv_at hl 2 rfl) ?_
              refine lv_aload_n hx hb dX9_dawn_82 rfl (lv_at hl 2 rfl) ?_
              refine va_get (D := (dC, dI)) (ci := 9) (v := .ref a_T_st) (C := RX9) (T := TX9) (N := 36) hx hb hts inX9_dawn_X9 hown hK hP 0 rfl rfl 7 (by decide) (hts _ mbX9_dawn_4) (fun _ h9 => h9) rfl dX9_dawn_83 ?_
              refine lv_iconst (v := 0) hx hb dX9_dawn_86 (by decide) ?_
              obtain ⟨g3, hr⟩ := gd_some hr
              refine va_iald hx hb hK hP 1 1 rfl rfl g3 dX9_dawn_87 ?_
              refine lv_iconst (v := 1) hx hb dX9_dawn_88 (by decide) ?_
              refine lv_iload hx hb dX9_dawn_89 (lv_at hl 0 rfl) ?_
              refine lv_aload_n hx hb dX9_dawn_91 rfl (lv_at hl 2 rfl) ?_
              refine va_get (D := (dC, dI)) (ci := 9) (v := .int T_guests) (C := RX9) (T := TX9) (N := 36) hx hb hts inX9_dawn_X9 hown hK hP 0 rfl rfl 0 (by decide) (hts _ mbX9_dawn_6) (fun _ h9 => h9) rfl dX9_dawn_92 ?_
              obtain ⟨g4, hr⟩ := gd_some hr
              refine lv_irem hx hb dX9_dawn_95 g4 ?_
              refine lv_ishl hx hb dX9_dawn_96 ?_
              refine lv_iconst (v := (-1)) hx hb dX9_dawn_97 (by decide) ?_
              refine lv_ixor hx hb dX9_dawn_98 ?_
              refine lv_iand hx hb dX9_dawn_99 ?_
              obtain ⟨T_here_3, T_stands_3, T_many_3, T_rounds_3, T_order_3, T_time_3, T_place_3, T_endsAt_3, T_keptBy_3, T_come_3, hc4, hr⟩ := bd10_some hr
              refine call_v (D := (dC, dI)) (tys := tysA cC cI cJ) (wc := [(a_T, .inr (9, [.int T_guests, .ref a_T_kinds, .int T_wishes, .ref a_T_wishKind, .ref a_T_wishA, .ref a_T_wishB, .int T_begins, .ref a_T_st, .int T_acts, .ref a_T_was, .int T_keeps, .ref a_T_kept, .int T_wokes, .ref a_T_woke, .ref a_T_text, .int T_texted, .int T_at, .ref a_T_told, .int T_readGuests, .ref a_T_readKinds, .ref a_T_readFloors, .int T_readWishes, .ref a_T_readWishKind, .ref a_T_readWishA, .ref a_T_readWishB, .int T_readBegins, .int T_here_1, .int T_stands_1, .int T_many_1, .int T_rounds_1, .ref a_T_come, .ref a_T_keptBy, .ref a_T_endsAt, .ref a_T_order, .ref a_T_time, .ref a_T_place])), (a_T_st, .inl (cI, 8, .inl T_st)), (a_T_wishA, .inl (cI, 9, .inl T_wishA)), (a_T_wishKind, .inl (cI, 9, .inl T_wishKind)), (a_T_wishB, .inl (cI, 9, .inl T_wishB)), (a_T_order, .inl (cI, 6, .inl T_order_1)), (a_T_time, .inl (cI, 6, .inl T_time_1)), (a_T_place, .inl (cI, 6, .inl T_place_1)), (a_T_kinds, .inl (cI, 6, .inl T_kinds)), (a_T_endsAt, .inl (cI, 720, .inl T_endsAt_1)), (a_T_keptBy, .inl (cI, 720, .inl T_keptBy_1)), (a_T_come, .inl (cI, 4320, .inl T_come_1))]) (wr := []) (w1 := [(a_T, .inr (9, [.int T_guests, .ref a_T_kinds, .int T_wishes, .ref a_T_wishKind, .ref a_T_wishA, .ref a_T_wishB, .int T_begins, .ref a_T_st, .int T_acts, .ref a_T_was, .int T_keeps, .ref a_T_kept, .int T_wokes, .ref a_T_woke, .ref a_T_text, .int T_texted, .int T_at, .ref a_T_told, .int T_readGuests, .ref a_T_readKinds, .ref a_T_readFloors, .int T_readWishes, .ref a_T_readWishKind, .ref a_T_readWishA, .ref a_T_readWishB, .int T_readBegins, .int T_here_3, .int T_stands_3, .int T_many_3, .int T_rounds_3, .ref a_T_come, .ref a_T_keptBy, .ref a_T_endsAt, .ref a_T_order, .ref a_T_time, .ref a_T_place])), (a_T_st, .inl (cI, 8, .inl T_st)), (a_T_wishA, .inl (cI, 9, .inl T_wishA)), (a_T_wishKind, .inl (cI, 9, .inl T_wishKind)), (a_T_wishB, .inl (cI, 9, .inl T_wishB)), (a_T_order, .inl (cI, 6, .inl T_order_3)), (a_T_time, .inl (cI, 6, .inl T_time_3)), (a_T_place, .inl (cI, 6, .inl T_place_3)), (a_T_kinds, .inl (cI, 6, .inl T_kinds)), (a_T_endsAt, .inl (cI, 720, .inl T_endsAt_3)), (a_T_keptBy, .inl (cI, 720, .inl T_keptBy_3)), (a_T_come, .inl (cI, 4320, .inl T_come_3))]) (wn := [(a_T, .inr (9, [.int T_guests, .ref a_T_kinds, .int T_wishes, .ref a_T_wishKind, .ref a_T_wishA, .ref a_T_wishB, .int T_begins, .ref a_T_st, .int T_acts, .ref a_T_was, .int T_keeps, .ref a_T_kept, .int T_wokes, .ref a_T_woke, .ref a_T_text, .int T_texted, .int T_at, .ref a_T_told, .int T_readGuests, .ref a_T_readKinds, .ref a_T_readFloors, .int T_readWishes, .ref a_T_readWishKind, .ref a_T_readWishA, .ref a_T_readWishB, .int T_readBegins, .int T_here_3, .int T_stands_3, .int T_many_3, .int T_rounds_3, .ref a_T_come, .ref a_T_keptBy, .ref a_T_endsAt, .ref a_T_order, .ref a_T_time, .ref a_T_place])), (a_T_st, .inl (cI, 8, .inl T_st)), (a_T_wishA, .inl (cI, 9, .inl T_wishA)), (a_T_wishKind, .inl (cI, 9, .inl T_wishKind)), (a_T_wishB, .inl (cI, 9, .inl T_wishB)), (a_T_order, .inl (cI, 6, .inl T_order_3)), (a_T_time, .inl (cI, 6, .inl T_time_3)), (a_T_place, .inl (cI, 6, .inl T_place_3)), (a_T_kinds, .inl (cI, 6, .inl T_kinds)), (a_T_endsAt, .inl (cI, 720, .inl T_endsAt_3)), (a_T_keptBy, .inl (cI, 720, .inl T_keptBy_3)), (a_T_come, .inl (cI, 4320, .inl T_come_3))]) hP hD hS hA [0, 1, 2, 3, 4, 5, 6, 7, 8, 9, 10, 11] [] [0, 1, 2, 3, 4, 5, 6, 7, 8, 9, 10, 11] rfl rfl (by decide +kernel) (by decide +kernel) rfl (by decide +kernel) (va_runV (As := [.int ((T_st (0 : Int32).toNatClampNeg) &&& ((1 <<< ((x9 - x9 / T_guests * T_guests) &&& 31)) ^^^ (-1)))]) (rest := []) ⟨hx, hb, hml, hown, hts⟩ (kX9_findRounds l dC dI cC cI cJ H.size K a_T a_T_kinds a_T_wishKind a_T_wishA a_T_wishB a_T_st a_T_was a_T_kept a_T_woke a_T_text a_T_told a_T_readKinds a_T_readFloors a_T_readWishKind a_T_readWishA a_T_readWishB a_T_come a_T_keptBy a_T_endsAt a_T_order a_T_time a_T_place ((T_st (0 : Int32).toNatClampNeg) &&& ((1 <<< ((x9 - x9 / T_guests * T_guests) &&& 31)) ^^^ (-1))) T_guests T_wishes T_begins T_acts T_keeps T_wokes T_texted T_at T_readGuests T_readWishes T_readBegins T_here_1 T_stands_1 T_many_1 T_rounds_1 T_st T_wishA T_wishKind T_wishB T_order_1 T_time_1 T_place_1 T_kinds T_endsAt_1 T_keptBy_1 T_come_1 (T_here_3, T_stands_3, T_many_3, T_rounds_3, T_order_3, T_time_3, T_place_3, T_endsAt_3, T_keptBy_3, T_come_3) hc4) (cwV 1 hts gX9_dawn_X9_findRounds rfl rfl rfl (by decide +kernel) ⟨Nat.le_of_ble_eq_true rfl, Nat.le_of_ble_eq_true rfl⟩) ⟨fbW, va_recv hK hP (ci := 9) (q0 := 0) rfl rfl, preW hP hD hK hN [0, 1, 2, 3, 4, 5, 6, 7, 8, 9, 10, 11] rfl (by decide +kernel)⟩ rfl rfl hl.1 rfl (lv_room (Nat.le_of_ble_eq_true rfl)) dX9_dawn_100 ⟨Nat.zero_le _, Nat.zero_le _⟩) (fun H locs hP hD hS => ?_)
              refine lv_aload_n hx hb dX9_dawn_103 rfl (lv_at hl 2 rfl) ?_
              obtain ⟨r_3, hc5, hr⟩ := bd1_some hr
              refine call_i (D := (dC, dI)) (tys := tysA cC cI cJ) (wc := [(a_T, .inr (9, [.int T_guests, .ref a_T_kinds, .int T_wishes, .ref a_T_wishKind, .ref a_T_wishA, .ref a_T_wishB, .int T_begins, .ref a_T_st, .int T_acts, .ref a_T_was, .int T_keeps, .ref a_T_kept, .int T_wokes, .ref a_T_woke, .ref a_T_text, .int T_texted, .int T_at, .ref a_T_told, .int T_readGuests, .ref a_T_readKinds, .ref a_T_readFloors, .int T_readWishes, .ref a_T_readWishKind, .ref a_T_readWishA, .ref a_T_readWishB, .int T_readBegins, .int T_here_3, .int T_stands_3, .int T_many_3, .int T_rounds_3, .ref a_T_come, .ref a_T_keptBy, .ref a_T_endsAt, .ref a_T_order, .ref a_T_time, .ref a_T_place])), (a_T_keptBy, .inl (cI, 720, .inl T_keptBy_3)), (a_T_endsAt, .inl (cI, 720, .inl T_endsAt_3))]) (wr := [(a_T_st, .inl (cI, 8, .inl T_st)), (a_T_wishA, .inl (cI, 9, .inl T_wishA)), (a_T_wishKind, .inl (cI, 9, .inl T_wishKind)), (a_T_wishB, .inl (cI, 9, .inl T_wishB)), (a_T_order, .inl (cI, 6, .inl T_order_3)), (a_T_time, .inl (cI, 6, .inl T_time_3)), (a_T_place, .inl (cI, 6, .inl T_place_3)), (a_T_kinds, .inl (cI, 6, .inl T_kinds)), (a_T_come, .inl (cI, 4320, .inl T_come_3))]) (w1 := [(a_T, .inr (9, [.int T_guests, .ref a_T_kinds, .int T_wishes, .ref a_T_wishKind, .ref a_T_wishA, .ref a_T_wishB, .int T_begins, .ref a_T_st, .int T_acts, .ref a_T_was, .int T_keeps, .ref a_T_kept, .int T_wokes, .ref a_T_woke, .ref a_T_text, .int T_texted, .int T_at, .ref a_T_told, .int T_readGuests, .ref a_T_readKinds, .ref a_T_readFloors, .int T_readWishes, .ref a_T_readWishKind, .ref a_T_readWishA, .ref a_T_readWishB, .int T_readBegins, .int T_here_3, .int T_stands_3, .int T_many_3, .int T_rounds_3, .ref a_T_come, .ref a_T_keptBy, .ref a_T_endsAt, .ref a_T_order, .ref a_T_time, .ref a_T_place])), (a_T_keptBy, .inl (cI, 720, .inl T_keptBy_3)), (a_T_endsAt, .inl (cI, 720, .inl T_endsAt_3))]) (wn := [(a_T, .inr (9, [.int T_guests, .ref a_T_kinds, .int T_wishes, .ref a_T_wishKind, .ref a_T_wishA, .ref a_T_wishB, .int T_begins, .ref a_T_st, .int T_acts, .ref a_T_was, .int T_keeps, .ref a_T_kept, .int T_wokes, .ref a_T_woke, .ref a_T_text, .int T_texted, .int T_at, .ref a_T_told, .int T_readGuests, .ref a_T_readKinds, .ref a_T_readFloors, .int T_readWishes, .ref a_T_readWishKind, .ref a_T_readWishA, .ref a_T_readWishB, .int T_readBegins, .int T_here_3, .int T_stands_3, .int T_many_3, .int T_rounds_3, .ref a_T_come, .ref a_T_keptBy, .ref a_T_endsAt, .ref a_T_order, .ref a_T_time, .ref a_T_place])), (a_T_st, .inl (cI, 8, .inl T_st)), (a_T_wishA, .inl (cI, 9, .inl T_wishA)), (a_T_wishKind, .inl (cI, 9, .inl T_wishKind)), (a_T_wishB, .inl (cI, 9, .inl T_wishB)), (a_T_order, .inl (cI, 6, .inl T_order_3)), (a_T_time, .inl (cI, 6, .inl T_time_3)), (a_T_place, .inl (cI, 6, .inl T_place_3)), (a_T_kinds, .inl (cI, 6, .inl T_kinds)), (a_T_endsAt, .inl (cI, 720, .inl T_endsAt_3)), (a_T_keptBy, .inl (cI, 720, .inl T_keptBy_3)), (a_T_come, .inl (cI, 4320, .inl T_come_3))]) (r0 := r_3) hP hD hS hA [0, 10, 9] [1, 2, 3, 4, 5, 6, 7, 8, 11] [9, 0, 1, 2, 3, 4, 5, 6, 7, 11, 10, 8] rfl rfl (by decide +kernel) (by decide +kernel) rfl (by decide +kernel) (va_runV (As := []) (rest := []) ⟨hx, hb, hml, hown, hts⟩ (kX9_soonestRound l dC dI cC cI cJ H.size K a_T a_T_kinds a_T_wishKind a_T_wishA a_T_wishB a_T_st a_T_was a_T_kept a_T_woke a_T_text a_T_told a_T_readKinds a_T_readFloors a_T_readWishKind a_T_readWishA a_T_readWishB a_T_come a_T_keptBy a_T_endsAt a_T_order a_T_time a_T_place T_guests T_wishes T_begins T_acts T_keeps T_wokes T_texted T_at T_readGuests T_readWishes T_readBegins T_here_3 T_stands_3 T_many_3 T_rounds_3 T_keptBy_3 T_endsAt_3 r_3 hc5) (cwV 0 hts gX9_dawn_X9_soonestRound rfl rfl rfl (by decide +kernel) ⟨Nat.le_of_ble_eq_true rfl, Nat.le_of_ble_eq_true rfl⟩) ⟨fbW, va_recv hK hP (ci := 9) (q0 := 0) rfl rfl, preW hP hD hK hN [0, 10, 9] rfl (by decide +kernel)⟩ rfl rfl hl.1 rfl (lv_room (Nat.le_of_ble_eq_true rfl)) dX9_dawn_104 ⟨Nat.zero_le _, Nat.zero_le _⟩) (fun H locs hP hD hS => ?_)
              refine lv_istore (lv' := [(10, .int r_3), (9, .int x9), (7, .long x7), (0, .ref a_T), (1, .int x1), (2, .int x2), (3, .int x3), (4, .int x4), (5, .int x5), (6, .int x6)]) hx hb dX9_dawn_107 hl (by decide) rfl (fun ls hl => ?_)
              refine lv_iload hx hb dX9_dawn_109 (lv_at hl 7 rfl) ?_
              refine lv_iload hx hb dX9_dawn_111 (lv_at hl 0 rfl) ?_
              obtain ⟨y, hj2, hr⟩ := bd1_some hr
              have hJ1 : WG p l e rmX9_dawn s m ([.ref a_T, .int x1, .int x2, .int x3] : List Value).toArray below meth c 0 0 Q (dC, dI) A 121 11 [(a_T, .inr (9, [.int T_guests, .ref a_T_kinds, .int T_wishes, .ref a_T_wishKind, .ref a_T_wishA, .ref a_T_wishB, .int T_begins, .ref a_T_st, .int T_acts, .ref a_T_was, .int T_keeps, .ref a_T_kept, .int T_wokes, .ref a_T_woke, .ref a_T_text, .int T_texted, .int T_at, .ref a_T_told, .int T_readGuests, .ref a_T_readKinds, .ref a_T_readFloors, .int T_readWishes, .ref a_T_readWishKind, .ref a_T_readWishA, .ref a_T_readWishB, .int T_readBegins, .int T_here_3, .int T_stands_3, .int T_many_3, .int T_rounds_3, .ref a_T_come, .ref a_T_keptBy, .ref a_T_endsAt, .ref a_T_order, .ref a_T_time, .ref a_T_place])), (a_T_st, .inl (cI, 8, .inl T_st)), (a_T_wishA, .inl (cI, 9, .inl T_wishA)), (a_T_wishKind, .inl (cI, 9, .inl T_wishKind)), (a_T_wishB, .inl (cI, 9, .inl T_wishB)), (a_T_order, .inl (cI, 6, .inl T_order_3)), (a_T_time, .inl (cI, 6, .inl T_time_3)), (a_T_place, .inl (cI, 6, .inl T_place_3)), (a_T_kinds, .inl (cI, 6, .inl T_kinds)), (a_T_endsAt, .inl (cI, 720, .inl T_endsAt_3)), (a_T_keptBy, .inl (cI, 720, .inl T_keptBy_3)), (a_T_come, .inl (cI, 4320, .inl T_come_3))] [(0, .ref a_T), (1, .int x1), (2, .int x2), (3, .int x3), (5, .int x5), (6, .int x6), (10, .int r_3)] [.int y, .int x4] := by
                intro H locs ls hP hD hS hl
                refine lv_iadd hx hb dX9_dawn_121 ?_
                obtain ⟨x4_2, e3, hr⟩ := nm_el hr
                refine lv_nmi e3 ?_
                refine lv_istore (lv' := [(4, .int x4_2), (0, .ref a_T), (1, .int x1), (2, .int x2), (3, .int x3), (5, .int x5), (6, .int x6), (10, .int r_3)]) hx hb dX9_dawn_122 hl (by decide) rfl (fun ls hl => ?_)
                refine lv_iload hx hb dX9_dawn_124 (lv_at hl 5 rfl) ?_
                refine lv_iload hx hb dX9_dawn_126 (lv_at hl 7 rfl) ?_
                obtain ⟨y_1, hj1, hr⟩ := bd1_some hr
                have hJ2 : WG p l e rmX9_dawn s m ([.ref a_T, .int x1, .int x2, .int x3] : List Value).toArray below meth c 0 0 Q (dC, dI) A 142 11 [(a_T, .inr (9, [.int T_guests, .ref a_T_kinds, .int T_wishes, .ref a_T_wishKind, .ref a_T_wishA, .ref a_T_wishB, .int T_begins, .ref a_T_st, .int T_acts, .ref a_T_was, .int T_keeps, .ref a_T_kept, .int T_wokes, .ref a_T_woke, .ref a_T_text, .int T_texted, .int T_at, .ref a_T_told, .int T_readGuests, .ref a_T_readKinds, .ref a_T_readFloors, .int T_readWishes, .ref a_T_readWishKind, .ref a_T_readWishA, .ref a_T_readWishB, .int T_readBegins, .int T_here_3, .int T_stands_3, .int T_many_3, .int T_rounds_3, .ref a_T_come, .ref a_T_keptBy, .ref a_T_endsAt, .ref a_T_order, .ref a_T_time, .ref a_T_place])), (a_T_st, .inl (cI, 8, .inl T_st)), (a_T_wishA, .inl (cI, 9, .inl T_wishA)), (a_T_wishKind, .inl (cI, 9, .inl T_wishKind)), (a_T_wishB, .inl (cI, 9, .inl T_wishB)), (a_T_order, .inl (cI, 6, .inl T_order_3)), (a_T_time, .inl (cI, 6, .inl T_time_3)), (a_T_place, .inl (cI, 6, .inl T_place_3)), (a_T_kinds, .inl (cI, 6, .inl T_kinds)), (a_T_endsAt, .inl (cI, 720, .inl T_endsAt_3)), (a_T_keptBy, .inl (cI, 720, .inl T_keptBy_3)), (a_T_come, .inl (cI, 4320, .inl T_come_3))] [(0, .ref a_T), (1, .int x1), (2, .int x2), (3, .int x3), (4, .int x4_2), (6, .int x6)] [.int y_1, .int x5] := by
                  intro H locs ls hP hD hS hl
                  refine lv_iadd hx hb dX9_dawn_142 ?_
                  obtain ⟨x5_2, e4, hr⟩ := nm_el hr
                  refine lv_nmi e4 ?_
                  refine lv_istore (lv' := [(5, .int x5_2), (0, .ref a_T), (1, .int x1), (2, .int x2), (3, .int x3), (4, .int x4_2), (6, .int x6)]) hx hb dX9_dawn_143 hl (by decide) rfl (fun ls hl => ?_)
                  obtain ⟨x6_1, e5, hr⟩ := nm_el hr
                  refine lv_iinc (v := x6_1) (lv' := [(6, .int x6_1), (5, .int x5_2), (0, .ref a_T), (1, .int x1), (2, .int x2), (3, .int x3), (4, .int x4_2)]) hx hb dX9_dawn_145 hl (k := 6) rfl e5.symm (by decide) rfl (fun ls hl => ?_)
                  refine lv_goto (tgt := 41) hx hb dX9_dawn_148 (by decide) ?_
                  exact ih41 _ _ _ _ _ _ _ _ _ _ _ _ _ _ _ _ _ _ _ _ _ _ _ _ _ hr hX1 H locs ls hP hD hS (lv_sub hl [2, 3, 4, 5, 6, 1, 0] rfl)
                replace hr := hj1
                refine lv_if_ge (tgt := 135) hx hb dX9_dawn_128 (by decide) (fun c6 => ?_) (fun c6 => ?_)
                · replace hr := it_t hr c6
                  refine lv_aload_n hx hb dX9_dawn_135 rfl (lv_at hl 1 rfl) ?_
                  refine va_get (D := (dC, dI)) (ci := 9) (v := .ref a_T_endsAt) (C := RX9) (T := TX9) (N := 36) hx hb hts inX9_dawn_X9 hown hK hP 0 rfl rfl 32 (by decide) (hts _ mbX9_dawn_7) (fun _ h9 => h9) rfl dX9_dawn_136 ?_
                  refine lv_iload hx hb dX9_dawn_139 (lv_at hl 7 rfl) ?_
                  obtain ⟨g5, hr⟩ := gd_some hr
                  refine va_iald hx hb hK hP 9 1 rfl rfl g5 dX9_dawn_141 ?_
                  cases hr
                  exact hJ2 H locs ls hP hD hS (lv_sub hl [1, 2, 3, 4, 0, 6] rfl)
                · replace hr := it_f hr c6
                  refine lv_iconst (v := 0) hx hb dX9_dawn_131 (by decide) ?_
                  refine lv_goto (tgt := 142) hx hb dX9_dawn_132 (by decide) ?_
                  cases hr
                  exact hJ2 H locs ls hP hD hS (lv_sub hl [1, 2, 3, 4, 0, 6] rfl)
              replace hr := hj2
              refine lv_if_ge (tgt := 120) hx hb dX9_dawn_113 (by decide) (fun c5 => ?_) (fun c5 => ?_)
              · replace hr := it_t hr c5
                refine lv_iconst (v := 1) hx hb dX9_dawn_120 (by decide) ?_
                cases hr
                exact hJ1 H locs ls hP hD hS (lv_sub hl [3, 4, 5, 6, 8, 9, 0] rfl)
              · replace hr := it_f hr c5
                refine lv_iconst (v := 0) hx hb dX9_dawn_116 (by decide) ?_
                refine lv_goto (tgt := 121) hx hb dX9_dawn_117 (by decide) ?_
                cases hr
                exact hJ1 H locs ls hP hD hS (lv_sub hl [3, 4, 5, 6, 8, 9, 0] rfl)
        obtain ⟨x4_1, x5_1, T_here_2, T_stands_2, T_many_2, T_rounds_2, T_order_2, T_time_2, T_place_2, T_endsAt_2, T_keptBy_2, T_come_2, hE, hr⟩ := bd12_some hr
        refine hL1 K 0 0 0 T_here T_stands T_many T_rounds T_order T_time T_place T_endsAt T_keptBy T_come x4_1 x5_1 T_here_2 T_stands_2 T_many_2 T_rounds_2 T_order_2 T_time_2 T_place_2 T_endsAt_2 T_keptBy_2 T_come_2 hE ?_ H locs ls hP hD hS (lv_sub hl [3, 4, 5, 6, 2, 1, 0] rfl)
        intro H locs ls hP hD hS hl
        refine lv_iload_n hx hb dX9_dawn_151 rfl (lv_at hl 0 rfl) ?_
        refine lv_if_ne (tgt := 160) hx hb dX9_dawn_152 (by decide) (fun c7 => ?_) (fun c7 => ?_)
        · replace hr := it_f hr c7
          refine lv_iload hx hb dX9_dawn_160 (lv_at hl 2 rfl) ?_
          have he := Option.some.inj hr
          subst he
          subst hQ
          exact ret_i hx hb hrt hK hP hD hS hlocks dX9_dawn_162
        · replace hr := it_t hr c7
          refine lv_iload hx hb dX9_dawn_155 (lv_at hl 1 rfl) ?_
          refine lv_goto (tgt := 162) hx hb dX9_dawn_157 (by decide) ?_
          have he := Option.some.inj hr
          subst he
          subst hQ
          exact ret_i hx hb hrt hK hP hD hS hlocks dX9_dawn_162
      · replace hr := it_t hr c3
        refine lv_iconst (v := (-1)) hx hb dX9_dawn_30 (by decide) ?_
        have he := Option.some.inj hr
        subst he
        subst hQ
        exact ret_i hx hb hrt hK hP hD hS hlocks dX9_dawn_31
def fX9_keep (K : Nat) (T_keeps : Int32) (T_kept : (Nat → Int32)) (T_st : (Nat → Int32)) : Option (Int32 × Int32 × (Nat → Int32)) :=
    if (T_keeps : Int32) = 2 then (
    some ((-3), T_keeps, T_kept))
    else (
    bd1 (fX9_copy K 16 8 (8 * T_keeps) 0 T_kept T_st) fun T_kept_1 =>
    nm (T_keeps + 1) fun T_keeps_1 =>
    some (T_keeps_1, T_keeps_1, T_kept_1))
theorem mbX9_keep_0 : Cond.fieldLink RX9 154 "BootsAtDawnModel" "keeps" "I" ∈ wsX9_keep := List.mem_of_getElem? (i := 1) rfl
theorem inX9_keep_X9 : ∀ w ∈ u_ws RX9 TX9 36, w ∈ wsX9_keep := fun _ h => (List.mem_cons_of_mem _ (List.mem_append_right _ h))
theorem mbX9_keep_2 : Cond.fieldLink RX9 28 "BootsAtDawnModel" "kept" "[I" ∈ wsX9_keep := List.mem_of_getElem? (i := 2) rfl
theorem mbX9_keep_3 : Cond.fieldLink RX9 22 "BootsAtDawnModel" "st" "[I" ∈ wsX9_keep := List.mem_of_getElem? (i := 3) rfl
abbrev rmX9_keep : Room := { frames := 1, cells := 0, slots := 0, locals := 24 }
set_option maxHeartbeats 8000000 in
set_option maxRecDepth 100000 in
theorem kX9_keep (l : Launch) (dC : Nat → ClassId) (dI : Nat → Nat → Nat) (cC cI cJ : ClassId) (sz : Nat) (K : Nat) (a_T a_T_kinds a_T_wishKind a_T_wishA a_T_wishB a_T_st a_T_was a_T_kept a_T_woke a_T_text a_T_told a_T_readKinds a_T_readFloors a_T_readWishKind a_T_readWishA a_T_readWishB a_T_come a_T_keptBy a_T_endsAt a_T_order a_T_time a_T_place : Nat) (T_guests : Int32) (T_wishes : Int32) (T_begins : Int32) (T_acts : Int32) (T_keeps : Int32) (T_wokes : Int32) (T_texted : Int32) (T_at : Int32) (T_readGuests : Int32) (T_readWishes : Int32) (T_readBegins : Int32) (T_here : Int32) (T_stands : Int32) (T_many : Int32) (T_rounds : Int32) (T_kept : (Nat → Int32)) (T_st : (Nat → Int32)) (R : Int32 × Int32 × (Nat → Int32)) (hr : fX9_keep K T_keeps T_kept T_st = some R) : Met l yX9_keep wsX9_keep rmX9_keep (va_Pc ([.ref a_T] : List Value) (PcW (dC, dI) (tysA cC cI cJ) sz [(a_T, .inr (9, [.int T_guests, .ref a_T_kinds, .int T_wishes, .ref a_T_wishKind, .ref a_T_wishA, .ref a_T_wishB, .int T_begins, .ref a_T_st, .int T_acts, .ref a_T_was, .int T_keeps, .ref a_T_kept, .int T_wokes, .ref a_T_woke, .ref a_T_text, .int T_texted, .int T_at, .ref a_T_told, .int T_readGuests, .ref a_T_readKinds, .ref a_T_readFloors, .int T_readWishes, .ref a_T_readWishKind, .ref a_T_readWishA, .ref a_T_readWishB, .int T_readBegins, .int T_here, .int T_stands, .int T_many, .int T_rounds, .ref a_T_come, .ref a_T_keptBy, .ref a_T_endsAt, .ref a_T_order, .ref a_T_time, .ref a_T_place])), (a_T_kept, .inl (cI, 16, .inl T_kept)), (a_T_st, .inl (cI, 8, .inl T_st))])) (va_Qi (fun r (_ : Unit) => r = R.1) (fun _ => BW (dC, dI) (tysA cC cI cJ) (va_A [(a_T, .inr (9, [.int T_guests, .ref a_T_kinds, .int T_wishes, .ref a_T_wishKind, .ref a_T_wishA, .ref a_T_wishB, .int T_begins, .ref a_T_st, .int T_acts, .ref a_T_was, .int T_keeps, .ref a_T_kept, .int T_wokes, .ref a_T_woke, .ref a_T_text, .int T_texted, .int T_at, .ref a_T_told, .int T_readGuests, .ref a_T_readKinds, .ref a_T_readFloors, .int T_readWishes, .ref a_T_readWishKind, .ref a_T_readWishA, .ref a_T_readWishB, .int T_readBegins, .int T_here, .int T_stands, .int T_many, .int T_rounds, .ref a_T_come, .ref a_T_keptBy, .ref a_T_endsAt, .ref a_T_order, .ref a_T_time, .ref a_T_place])), (a_T_kept, .inl (cI, 16, .inl T_kept)), (a_T_st, .inl (cI, 8, .inl T_st))] sz) [(a_T, .inr (9, [.int T_guests, .ref a_T_kinds, .int T_wishes, .ref a_T_wishKind, .ref a_T_wishA, .ref a_T_wishB, .int T_begins, .ref a_T_st, .int T_acts, .ref a_T_was, .int R.2.1, .ref a_T_kept, .int T_wokes, .ref a_T_woke, .ref a_T_text, .int T_texted, .int T_at, .ref a_T_told, .int T_readGuests, .ref a_T_readKinds, .ref a_T_readFloors, .int T_readWishes, .ref a_T_readWishKind, .ref a_T_readWishA, .ref a_T_readWishB, .int T_readBegins, .int T_here, .int T_stands, .int T_many, .int T_rounds, .ref a_T_come, .ref a_T_keptBy, .ref a_T_endsAt, .ref a_T_order, .ref a_T_time, .ref a_T_place])), (a_T_kept, .inl (cI, 16, .inl R.2.2)), (a_T_st, .inl (cI, 8, .inl T_st))]) (va_A [(a_T, .inr (9, [.int T_guests, .ref a_T_kinds, .int T_wishes, .ref a_T_wishKind, .ref a_T_wishA, .ref a_T_wishB, .int T_begins, .ref a_T_st, .int T_acts, .ref a_T_was, .int T_keeps, .ref a_T_kept, .int T_wokes, .ref a_T_woke, .ref a_T_text, .int T_texted, .int T_at, .ref a_T_told, .int T_readGuests, .ref a_T_readKinds, .ref a_T_readFloors, .int T_readWishes, .ref a_T_readWishKind, .ref a_T_readWishA, .ref a_T_readWishB, .int T_readBegins, .int T_here, .int T_stands, .int T_many, .int T_rounds, .ref a_T_come, .ref a_T_keptBy, .ref a_T_endsAt, .ref a_T_order, .ref a_T_time, .ref a_T_place])), (a_T_kept, .inl (cI, 16, .inl T_kept)), (a_T_st, .inl (cI, 8, .inl T_st))] sz)) 0 0 (va_A [(a_T, .inr (9, [.int T_guests, .ref a_T_kinds, .int T_wishes, .ref a_T_wishKind, .ref a_T_wishA, .ref a_T_wishB, .int T_begins, .ref a_T_st, .int T_acts, .ref a_T_was, .int T_keeps, .ref a_T_kept, .int T_wokes, .ref a_T_woke, .ref a_T_text, .int T_texted, .int T_at, .ref a_T_told, .int T_readGuests, .ref a_T_readKinds, .ref a_T_readFloors, .int T_readWishes, .ref a_T_readWishKind, .ref a_T_readWishA, .ref a_T_readWishB, .int T_readBegins, .int T_here, .int T_stands, .int T_many, .int T_rounds, .ref a_T_come, .ref a_T_keptBy, .ref a_T_endsAt, .ref a_T_order, .ref a_T_time, .ref a_T_place])), (a_T_kept, .inl (cI, 16, .inl T_kept)), (a_T_st, .inl (cI, 8, .inl T_st))] sz) := by
  refine Met.ofW (cc := cX9_keep) (maxL := 1) (ret := (some .int)) (by decide) rfl ?_
  intro p e s m args below meth c s₁ B hml hv
  obtain ⟨rfl, hsz, hP, hK, hD0, hN⟩ := hv
  have hx := B.exec
  have hb := B.bytes
  have hrt := B.returns
  have hts := atoms_spec (ws := wsX9_keep) B.pre
  have hown : s.vm.findClass RX9 = some m.cls := findClass_of_methodNamed B.named
  have hlocks := B.notSynchronized
  subst hsz
  have hD := hD0.self (sz := s.heap.size)
  generalize hAe : va_A [(a_T, .inr (9, [.int T_guests, .ref a_T_kinds, .int T_wishes, .ref a_T_wishKind, .ref a_T_wishA, .ref a_T_wishB, .int T_begins, .ref a_T_st, .int T_acts, .ref a_T_was, .int T_keeps, .ref a_T_kept, .int T_wokes, .ref a_T_woke, .ref a_T_text, .int T_texted, .int T_at, .ref a_T_told, .int T_readGuests, .ref a_T_readKinds, .ref a_T_readFloors, .int T_readWishes, .ref a_T_readWishKind, .ref a_T_readWishA, .ref a_T_readWishB, .int T_readBegins, .int T_here, .int T_stands, .int T_many, .int T_rounds, .ref a_T_come, .ref a_T_keptBy, .ref a_T_endsAt, .ref a_T_order, .ref a_T_time, .ref a_T_place])), (a_T_kept, .inl (cI, 16, .inl T_kept)), (a_T_st, .inl (cI, 8, .inl T_st))] s.heap.size = A at hD ⊢
  have hA : ∀ q : Nat, s.heap.size ≤ q → A q := fun q h => by rw [← hAe]; exact Or.inr h
  have hS : va_S A s.heap s.heap [] := va_S.rf
  have hl := lv_entry ([.ref a_T] : List Value) (n := 1) (Nat.le_of_ble_eq_true rfl)
  rw [lg_entry_eq]
  generalize (lg_sl ([.ref a_T] : List Value) ++ List.replicate (1 - (lg_sl ([.ref a_T] : List Value)).length) Slot.unset).toArray = ls at hl ⊢
  replace hl : lv_has ls 1 [(0, .ref a_T)] := hl
  obtain ⟨Q, hQ⟩ : ∃ Q, Q = MQ below (va_Qi (fun r (_ : Unit) => r = R.1) (fun _ => BW (dC, dI) (tysA cC cI cJ) A [(a_T, .inr (9, [.int T_guests, .ref a_T_kinds, .int T_wishes, .ref a_T_wishKind, .ref a_T_wishA, .ref a_T_wishB, .int T_begins, .ref a_T_st, .int T_acts, .ref a_T_was, .int R.2.1, .ref a_T_kept, .int T_wokes, .ref a_T_woke, .ref a_T_text, .int T_texted, .int T_at, .ref a_T_told, .int T_readGuests, .ref a_T_readKinds, .ref a_T_readFloors, .int T_readWishes, .ref a_T_readWishKind, .ref a_T_readWishA, .ref a_T_readWishB, .int T_readBegins, .int T_here, .int T_stands, .int T_many, .int T_rounds, .ref a_T_come, .ref a_T_keptBy, .ref a_T_endsAt, .ref a_T_order, .ref a_T_time, .ref a_T_place])), (a_T_kept, .inl (cI, 16, .inl R.2.2)), (a_T_st, .inl (cI, 8, .inl T_st))]) A) ([.ref a_T] : List Value).toArray s 0 0 A := ⟨_, rfl⟩
  rw [← hQ]
  suffices hE : WG p l e rmX9_keep s m ([.ref a_T] : List Value).toArray below meth c 0 0 Q (dC, dI) A 0 1 [(a_T, .inr (9, [.int T_guests, .ref a_T_kinds, .int T_wishes, .ref a_T_wishKind, .ref a_T_wishA, .ref a_T_wishB, .int T_begins, .ref a_T_st, .int T_acts, .ref a_T_was, .int T_keeps, .ref a_T_kept, .int T_wokes, .ref a_T_woke, .ref a_T_text, .int T_texted, .int T_at, .ref a_T_told, .int T_readGuests, .ref a_T_readKinds, .ref a_T_readFloors, .int T_readWishes, .ref a_T_readWishKind, .ref a_T_readWishA, .ref a_T_readWishB, .int T_readBegins, .int T_here, .int T_stands, .int T_many, .int T_rounds, .ref a_T_come, .ref a_T_keptBy, .ref a_T_endsAt, .ref a_T_order, .ref a_T_time, .ref a_T_place])), (a_T_kept, .inl (cI, 16, .inl T_kept)), (a_T_st, .inl (cI, 8, .inl T_st))] [(0, .ref a_T)] [] from hE _ _ _ hP hD hS hl
  clear hP hD hS hl hD0 hAe
  intro H locs ls hP hD hS hl
  unfold fX9_keep at hr
  refine lv_aload_n hx hb dX9_keep_0 rfl (lv_at hl 0 rfl) ?_
  refine va_get (D := (dC, dI)) (ci := 9) (v := .int T_keeps) (C := RX9) (T := TX9) (N := 36) hx hb hts inX9_keep_X9 hown hK hP 0 rfl rfl 10 (by decide) (hts _ mbX9_keep_0) (fun _ h9 => h9) rfl dX9_keep_1 ?_
  refine lv_iconst (v := 2) hx hb dX9_keep_4 (by decide) ?_
  refine lv_icmp_ne (tgt := 11) hx hb dX9_keep_5 (by decide) (fun c1 => ?_) (fun c1 => ?_)
  · replace hr := it_f hr c1
    refine lv_aload_n hx hb dX9_keep_11 rfl (lv_at hl 0 rfl) ?_
    refine va_get (D := (dC, dI)) (ci := 9) (v := .ref a_T_kept) (C := RX9) (T := TX9) (N := 36) hx hb hts inX9_keep_X9 hown hK hP 0 rfl rfl 11 (by decide) (hts _ mbX9_keep_2) (fun _ h9 => h9) rfl dX9_keep_12 ?_
    refine lv_bipush (v := 8) hx hb dX9_keep_15 (by decide) ?_
    refine lv_aload_n hx hb dX9_keep_17 rfl (lv_at hl 0 rfl) ?_
    refine va_get (D := (dC, dI)) (ci := 9) (v := .int T_keeps) (C := RX9) (T := TX9) (N := 36) hx hb hts inX9_keep_X9 hown hK hP 0 rfl rfl 10 (by decide) (hts _ mbX9_keep_0) (fun _ h9 => h9) rfl dX9_keep_18 ?_
    refine lv_imul hx hb dX9_keep_21 ?_
    refine lv_aload_n hx hb dX9_keep_22 rfl (lv_at hl 0 rfl) ?_
    refine va_get (D := (dC, dI)) (ci := 9) (v := .ref a_T_st) (C := RX9) (T := TX9) (N := 36) hx hb hts inX9_keep_X9 hown hK hP 0 rfl rfl 7 (by decide) (hts _ mbX9_keep_3) (fun _ h9 => h9) rfl dX9_keep_23 ?_
    refine lv_iconst (v := 0) hx hb dX9_keep_26 (by decide) ?_
    obtain ⟨T_kept_1, hc1, hr⟩ := bd1_some hr
    refine call_v (D := (dC, dI)) (tys := tysA cC cI cJ) (wc := [(a_T_kept, .inl (cI, 16, .inl T_kept)), (a_T_st, .inl (cI, 8, .inl T_st))]) (wr := [(a_T, .inr (9, [.int T_guests, .ref a_T_kinds, .int T_wishes, .ref a_T_wishKind, .ref a_T_wishA, .ref a_T_wishB, .int T_begins, .ref a_T_st, .int T_acts, .ref a_T_was, .int T_keeps, .ref a_T_kept, .int T_wokes, .ref a_T_woke, .ref a_T_text, .int T_texted, .int T_at, .ref a_T_told, .int T_readGuests, .ref a_T_readKinds, .ref a_T_readFloors, .int T_readWishes, .ref a_T_readWishKind, .ref a_T_readWishA, .ref a_T_readWishB, .int T_readBegins, .int T_here, .int T_stands, .int T_many, .int T_rounds, .ref a_T_come, .ref a_T_keptBy, .ref a_T_endsAt, .ref a_T_order, .ref a_T_time, .ref a_T_place]))]) (w1 := [(a_T_kept, .inl (cI, 16, .inl T_kept_1)), (a_T_st, .inl (cI, 8, .inl T_st))]) (wn := [(a_T, .inr (9, [.int T_guests, .ref a_T_kinds, .int T_wishes, .ref a_T_wishKind, .ref a_T_wishA, .ref a_T_wishB, .int T_begins, .ref a_T_st, .int T_acts, .ref a_T_was, .int T_keeps, .ref a_T_kept, .int T_wokes, .ref a_T_woke, .ref a_T_text, .int T_texted, .int T_at, .ref a_T_told, .int T_readGuests, .ref a_T_readKinds, .ref a_T_readFloors, .int T_readWishes, .ref a_T_readWishKind, .ref a_T_readWishA, .ref a_T_readWishB, .int T_readBegins, .int T_here, .int T_stands, .int T_many, .int T_rounds, .ref a_T_come, .ref a_T_keptBy, .ref a_T_endsAt, .ref a_T_order, .ref a_T_time, .ref a_T_place])), (a_T_kept, .inl (cI, 16, .inl T_kept_1)), (a_T_st, .inl (cI, 8, .inl T_st))]) hP hD hS hA [1, 2] [0] [0, 1, 2] rfl rfl (by decide +kernel) (by decide +kernel) rfl (by decide +kernel) (va_runS (As := [.ref a_T_kept, .int (8 * T_keeps), .ref a_T_st, .int 0]) (rest := []) ⟨hx, hb, hml, hown, hts⟩ (kX9_copy l dC dI cC cI cJ H.size K a_T_kept a_T_st 16 8 (8 * T_keeps) 0 T_kept T_st T_kept_1 hc1) (va_cwS 4 hts gX9_keep_X9_copy rfl rfl rfl (by decide +kernel) ⟨Nat.le_of_ble_eq_true rfl, Nat.le_of_ble_eq_true rfl⟩) ⟨fbW, preW hP hD hK hN [1, 2] rfl (by decide +kernel)⟩ rfl rfl hl.1 rfl (lv_room (Nat.le_of_ble_eq_true rfl)) dX9_keep_27 ⟨Nat.zero_le _, Nat.zero_le _⟩) (fun H locs hP hD hS => ?_)
    refine lv_aload_n hx hb dX9_keep_30 rfl (lv_at hl 0 rfl) ?_
    refine lv_dup hx hb dX9_keep_31 rfl ?_
    refine va_get (D := (dC, dI)) (ci := 9) (v := .int T_keeps) (C := RX9) (T := TX9) (N := 36) hx hb hts inX9_keep_X9 hown hK hP 0 rfl rfl 10 (by decide) (hts _ mbX9_keep_0) (fun _ h9 => h9) rfl dX9_keep_32 ?_
    refine lv_iconst (v := 1) hx hb dX9_keep_35 (by decide) ?_
    refine lv_iadd hx hb dX9_keep_36 ?_
    obtain ⟨T_keeps_1, e1, hr⟩ := nm_el hr
    refine lv_nmi e1 ?_
    refine va_put (D := (dC, dI)) (ci := 9) (v := .int T_keeps_1) (ty := .int) (C := RX9) (T := TX9) (N := 36) hx hb hts inX9_keep_X9 tyX9 tyX9_ok nmX9 hown hK hP hD hS 0 rfl rfl 10 (by decide) (hts _ mbX9_keep_0) (fun _ h9 => h9) rfl (by decide +kernel) rfl rfl (Nat.le_of_ble_eq_true rfl) dX9_keep_37 (fun H locs hP hD hS => ?_)
    replace hP : va_P (dC, dI) vwCl [(a_T, .inr (9, [.int T_guests, .ref a_T_kinds, .int T_wishes, .ref a_T_wishKind, .ref a_T_wishA, .ref a_T_wishB, .int T_begins, .ref a_T_st, .int T_acts, .ref a_T_was, .int T_keeps_1, .ref a_T_kept, .int T_wokes, .ref a_T_woke, .ref a_T_text, .int T_texted, .int T_at, .ref a_T_told, .int T_readGuests, .ref a_T_readKinds, .ref a_T_readFloors, .int T_readWishes, .ref a_T_readWishKind, .ref a_T_readWishA, .ref a_T_readWishB, .int T_readBegins, .int T_here, .int T_stands, .int T_many, .int T_rounds, .ref a_T_come, .ref a_T_keptBy, .ref a_T_endsAt, .ref a_T_order, .ref a_T_time, .ref a_T_place])), (a_T_kept, .inl (cI, 16, .inl T_kept_1)), (a_T_st, .inl (cI, 8, .inl T_st))] H := hP
    replace hD : va_D A [(a_T, .inr (9, [.int T_guests, .ref a_T_kinds, .int T_wishes, .ref a_T_wishKind, .ref a_T_wishA, .ref a_T_wishB, .int T_begins, .ref a_T_st, .int T_acts, .ref a_T_was, .int T_keeps_1, .ref a_T_kept, .int T_wokes, .ref a_T_woke, .ref a_T_text, .int T_texted, .int T_at, .ref a_T_told, .int T_readGuests, .ref a_T_readKinds, .ref a_T_readFloors, .int T_readWishes, .ref a_T_readWishKind, .ref a_T_readWishA, .ref a_T_readWishB, .int T_readBegins, .int T_here, .int T_stands, .int T_many, .int T_rounds, .ref a_T_come, .ref a_T_keptBy, .ref a_T_endsAt, .ref a_T_order, .ref a_T_time, .ref a_T_place])), (a_T_kept, .inl (cI, 16, .inl T_kept_1)), (a_T_st, .inl (cI, 8, .inl T_st))] := hD
    refine lv_aload_n hx hb dX9_keep_40 rfl (lv_at hl 0 rfl) ?_
    refine va_get (D := (dC, dI)) (ci := 9) (v := .int T_keeps_1) (C := RX9) (T := TX9) (N := 36) hx hb hts inX9_keep_X9 hown hK hP 0 rfl rfl 10 (by decide) (hts _ mbX9_keep_0) (fun _ h9 => h9) rfl dX9_keep_41 ?_
    have he := Option.some.inj hr
    subst he
    subst hQ
    exact ret_i hx hb hrt hK hP hD hS hlocks dX9_keep_44
  · replace hr := it_t hr c1
    refine lv_bipush (v := (-3)) hx hb dX9_keep_8 (by decide) ?_
    have he := Option.some.inj hr
    subst he
    subst hQ
    exact ret_i hx hb hrt hK hP hD hS hlocks dX9_keep_10
def fX9_back (K : Nat) (T_acts : Int32) (T_keeps : Int32) (T_st : (Nat → Int32)) (T_kept : (Nat → Int32)) : Option (Int32 × Int32 × Int32 × (Nat → Int32)) :=
    if (T_keeps : Int32) = 0 then (
    some ((-2), T_acts, T_keeps, T_st))
    else (
    nm (T_keeps - 1) fun T_keeps_1 =>
    bd1 (fX9_copy K 8 16 0 (8 * T_keeps_1) T_st T_kept) fun T_st_1 =>
    some (T_keeps_1, 0, T_keeps_1, T_st_1))
theorem mbX9_back_0 : Cond.fieldLink RX9 154 "BootsAtDawnModel" "keeps" "I" ∈ wsX9_back := List.mem_of_getElem? (i := 1) rfl
theorem inX9_back_X9 : ∀ w ∈ u_ws RX9 TX9 36, w ∈ wsX9_back := fun _ h => (List.mem_cons_of_mem _ (List.mem_append_right _ h))
theorem mbX9_back_2 : Cond.fieldLink RX9 22 "BootsAtDawnModel" "st" "[I" ∈ wsX9_back := List.mem_of_getElem? (i := 2) rfl
theorem mbX9_back_3 : Cond.fieldLink RX9 28 "BootsAtDawnModel" "kept" "[I" ∈ wsX9_back := List.mem_of_getElem? (i := 3) rfl
theorem mbX9_back_4 : Cond.fieldLink RX9 151 "BootsAtDawnModel" "acts" "I" ∈ wsX9_back := List.mem_of_getElem? (i := 4) rfl
abbrev rmX9_back : Room := { frames := 1, cells := 0, slots := 0, locals := 24 }
set_option maxHeartbeats 8000000 in
set_option maxRecDepth 100000 in
theorem kX9_back (l : Launch) (dC : Nat → ClassId) (dI : Nat → Nat → Nat) (cC cI cJ : ClassId) (sz : Nat) (K : Nat) (a_T a_T_kinds a_T_wishKind a_T_wishA a_T_wishB a_T_st a_T_was a_T_kept a_T_woke a_T_text a_T_told a_T_readKinds a_T_readFloors a_T_readWishKind a_T_readWishA a_T_readWishB a_T_come a_T_keptBy a_T_endsAt a_T_order a_T_time a_T_place : Nat) (T_guests : Int32) (T_wishes : Int32) (T_begins : Int32) (T_acts : Int32) (T_keeps : Int32) (T_wokes : Int32) (T_texted : Int32) (T_at : Int32) (T_readGuests : Int32) (T_readWishes : Int32) (T_readBegins : Int32) (T_here : Int32) (T_stands : Int32) (T_many : Int32) (T_rounds : Int32) (T_st : (Nat → Int32)) (T_kept : (Nat → Int32)) (R : Int32 × Int32 × Int32 × (Nat → Int32)) (hr : fX9_back K T_acts T_keeps T_st T_kept = some R) : Met l yX9_back wsX9_back rmX9_back (va_Pc ([.ref a_T] : List Value) (PcW (dC, dI) (tysA cC cI cJ) sz [(a_T, .inr (9, [.int T_guests, .ref a_T_kinds, .int T_wishes, .ref a_T_wishKind, .ref a_T_wishA, .ref a_T_wishB, .int T_begins, .ref a_T_st, .int T_acts, .ref a_T_was, .int T_keeps, .ref a_T_kept, .int T_wokes, .ref a_T_woke, .ref a_T_text, .int T_texted, .int T_at, .ref a_T_told, .int T_readGuests, .ref a_T_readKinds, .ref a_T_readFloors, .int T_readWishes, .ref a_T_readWishKind, .ref a_T_readWishA, .ref a_T_readWishB, .int T_readBegins, .int T_here, .int T_stands, .int T_many, .int T_rounds, .ref a_T_come, .ref a_T_keptBy, .ref a_T_endsAt, .ref a_T_order, .ref a_T_time, .ref a_T_place])), (a_T_st, .inl (cI, 8, .inl T_st)), (a_T_kept, .inl (cI, 16, .inl T_kept))])) (va_Qi (fun r (_ : Unit) => r = R.1) (fun _ => BW (dC, dI) (tysA cC cI cJ) (va_A [(a_T, .inr (9, [.int T_guests, .ref a_T_kinds, .int T_wishes, .ref a_T_wishKind, .ref a_T_wishA, .ref a_T_wishB, .int T_begins, .ref a_T_st, .int T_acts, .ref a_T_was, .int T_keeps, .ref a_T_kept, .int T_wokes, .ref a_T_woke, .ref a_T_text, .int T_texted, .int T_at, .ref a_T_told, .int T_readGuests, .ref a_T_readKinds, .ref a_T_readFloors, .int T_readWishes, .ref a_T_readWishKind, .ref a_T_readWishA, .ref a_T_readWishB, .int T_readBegins, .int T_here, .int T_stands, .int T_many, .int T_rounds, .ref a_T_come, .ref a_T_keptBy, .ref a_T_endsAt, .ref a_T_order, .ref a_T_time, .ref a_T_place])), (a_T_st, .inl (cI, 8, .inl T_st)), (a_T_kept, .inl (cI, 16, .inl T_kept))] sz) [(a_T, .inr (9, [.int T_guests, .ref a_T_kinds, .int T_wishes, .ref a_T_wishKind, .ref a_T_wishA, .ref a_T_wishB, .int T_begins, .ref a_T_st, .int R.2.1, .ref a_T_was, .int R.2.2.1, .ref a_T_kept, .int T_wokes, .ref a_T_woke, .ref a_T_text, .int T_texted, .int T_at, .ref a_T_told, .int T_readGuests, .ref a_T_readKinds, .ref a_T_readFloors, .int T_readWishes, .ref a_T_readWishKind, .ref a_T_readWishA, .ref a_T_readWishB, .int T_readBegins, .int T_here, .int T_stands, .int T_many, .int T_rounds, .ref a_T_come, .ref a_T_keptBy, .ref a_T_endsAt, .ref a_T_order, .ref a_T_time, .ref a_T_place])), (a_T_st, .inl (cI, 8, .inl R.2.2.2)), (a_T_kept, .inl (cI, 16, .inl T_kept))]) (va_A [(a_T, .inr (9, [.int T_guests, .ref a_T_kinds, .int T_wishes, .ref a_T_wishKind, .ref a_T_wishA, .ref a_T_wishB, .int T_begins, .ref a_T_st, .int T_acts, .ref a_T_was, .int T_keeps, .ref a_T_kept, .int T_wokes, .ref a_T_woke, .ref a_T_text, .int T_texted, .int T_at, .ref a_T_told, .int T_readGuests, .ref a_T_readKinds, .ref a_T_readFloors, .int T_readWishes, .ref a_T_readWishKind, .ref a_T_readWishA, .ref a_T_readWishB, .int T_readBegins, .int T_here, .int T_stands, .int T_many, .int T_rounds, .ref a_T_come, .ref a_T_keptBy, .ref a_T_endsAt, .ref a_T_order, .ref a_T_time, .ref a_T_place])), (a_T_st, .inl (cI, 8, .inl T_st)), (a_T_kept, .inl (cI, 16, .inl T_kept))] sz)) 0 0 (va_A [(a_T, .inr (9, [.int T_guests, .ref a_T_kinds, .int T_wishes, .ref a_T_wishKind, .ref a_T_wishA, .ref a_T_wishB, .int T_begins, .ref a_T_st, .int T_acts, .ref a_T_was, .int T_keeps, .ref a_T_kept, .int T_wokes, .ref a_T_woke, .ref a_T_text, .int T_texted, .int T_at, .ref a_T_told, .int T_readGuests, .ref a_T_readKinds, .ref a_T_readFloors, .int T_readWishes, .ref a_T_readWishKind, .ref a_T_readWishA, .ref a_T_readWishB, .int T_readBegins, .int T_here, .int T_stands, .int T_many, .int T_rounds, .ref a_T_come, .ref a_T_keptBy, .ref a_T_endsAt, .ref a_T_order, .ref a_T_time, .ref a_T_place])), (a_T_st, .inl (cI, 8, .inl T_st)), (a_T_kept, .inl (cI, 16, .inl T_kept))] sz) := by
  refine Met.ofW (cc := cX9_back) (maxL := 1) (ret := (some .int)) (by decide) rfl ?_
  intro p e s m args below meth c s₁ B hml hv
  obtain ⟨rfl, hsz, hP, hK, hD0, hN⟩ := hv
  have hx := B.exec
  have hb := B.bytes
  have hrt := B.returns
  have hts := atoms_spec (ws := wsX9_back) B.pre
  have hown : s.vm.findClass RX9 = some m.cls := findClass_of_methodNamed B.named
  have hlocks := B.notSynchronized
  subst hsz
  have hD := hD0.self (sz := s.heap.size)
  generalize hAe : va_A [(a_T, .inr (9, [.int T_guests, .ref a_T_kinds, .int T_wishes, .ref a_T_wishKind, .ref a_T_wishA, .ref a_T_wishB, .int T_begins, .ref a_T_st, .int T_acts, .ref a_T_was, .int T_keeps, .ref a_T_kept, .int T_wokes, .ref a_T_woke, .ref a_T_text, .int T_texted, .int T_at, .ref a_T_told, .int T_readGuests, .ref a_T_readKinds, .ref a_T_readFloors, .int T_readWishes, .ref a_T_readWishKind, .ref a_T_readWishA, .ref a_T_readWishB, .int T_readBegins, .int T_here, .int T_stands, .int T_many, .int T_rounds, .ref a_T_come, .ref a_T_keptBy, .ref a_T_endsAt, .ref a_T_order, .ref a_T_time, .ref a_T_place])), (a_T_st, .inl (cI, 8, .inl T_st)), (a_T_kept, .inl (cI, 16, .inl T_kept))] s.heap.size = A at hD ⊢
  have hA : ∀ q : Nat, s.heap.size ≤ q → A q := fun q h => by rw [← hAe]; exact Or.inr h
  have hS : va_S A s.heap s.heap [] := va_S.rf
  have hl := lv_entry ([.ref a_T] : List Value) (n := 1) (Nat.le_of_ble_eq_true rfl)
  rw [lg_entry_eq]
  generalize (lg_sl ([.ref a_T] : List Value) ++ List.replicate (1 - (lg_sl ([.ref a_T] : List Value)).length) Slot.unset).toArray = ls at hl ⊢
  replace hl : lv_has ls 1 [(0, .ref a_T)] := hl
  obtain ⟨Q, hQ⟩ : ∃ Q, Q = MQ below (va_Qi (fun r (_ : Unit) => r = R.1) (fun _ => BW (dC, dI) (tysA cC cI cJ) A [(a_T, .inr (9, [.int T_guests, .ref a_T_kinds, .int T_wishes, .ref a_T_wishKind, .ref a_T_wishA, .ref a_T_wishB, .int T_begins, .ref a_T_st, .int R.2.1, .ref a_T_was, .int R.2.2.1, .ref a_T_kept, .int T_wokes, .ref a_T_woke, .ref a_T_text, .int T_texted, .int T_at, .ref a_T_told, .int T_readGuests, .ref a_T_readKinds, .ref a_T_readFloors, .int T_readWishes, .ref a_T_readWishKind, .ref a_T_readWishA, .ref a_T_readWishB, .int T_readBegins, .int T_here, .int T_stands, .int T_many, .int T_rounds, .ref a_T_come, .ref a_T_keptBy, .ref a_T_endsAt, .ref a_T_order, .ref a_T_time, .ref a_T_place])), (a_T_st, .inl (cI, 8, .inl R.2.2.2)), (a_T_kept, .inl (cI, 16, .inl T_kept))]) A) ([.ref a_T] : List Value).toArray s 0 0 A := ⟨_, rfl⟩
  rw [← hQ]
  suffices hE : WG p l e rmX9_back s m ([.ref a_T] : List Value).toArray below meth c 0 0 Q (dC, dI) A 0 1 [(a_T, .inr (9, [.int T_guests, .ref a_T_kinds, .int T_wishes, .ref a_T_wishKind, .ref a_T_wishA, .ref a_T_wishB, .int T_begins, .ref a_T_st, .int T_acts, .ref a_T_was, .int T_keeps, .ref a_T_kept, .int T_wokes, .ref a_T_woke, .ref a_T_text, .int T_texted, .int T_at, .ref a_T_told, .int T_readGuests, .ref a_T_readKinds, .ref a_T_readFloors, .int T_readWishes, .ref a_T_readWishKind, .ref a_T_readWishA, .ref a_T_readWishB, .int T_readBegins, .int T_here, .int T_stands, .int T_many, .int T_rounds, .ref a_T_come, .ref a_T_keptBy, .ref a_T_endsAt, .ref a_T_order, .ref a_T_time, .ref a_T_place])), (a_T_st, .inl (cI, 8, .inl T_st)), (a_T_kept, .inl (cI, 16, .inl T_kept))] [(0, .ref a_T)] [] from hE _ _ _ hP hD hS hl
  clear hP hD hS hl hD0 hAe
  intro H locs ls hP hD hS hl
  unfold fX9_back at hr
  refine lv_aload_n hx hb dX9_back_0 rfl (lv_at hl 0 rfl) ?_
  refine va_get (D := (dC, dI)) (ci := 9) (v := .int T_keeps) (C := RX9) (T := TX9) (N := 36) hx hb hts inX9_back_X9 hown hK hP 0 rfl rfl 10 (by decide) (hts _ mbX9_back_0) (fun _ h9 => h9) rfl dX9_back_1 ?_
  refine lv_if_ne (tgt := 10) hx hb dX9_back_4 (by decide) (fun c1 => ?_) (fun c1 => ?_)
  · replace hr := it_f hr c1
    refine lv_aload_n hx hb dX9_back_10 rfl (lv_at hl 0 rfl) ?_
    refine lv_dup hx hb dX9_back_11 rfl ?_
    refine va_get (D := (dC, dI)) (ci := 9) (v := .int T_keeps) (C := RX9) (T := TX9) (N := 36) hx hb hts inX9_back_X9 hown hK hP 0 rfl rfl 10 (by decide) (hts _ mbX9_back_0) (fun _ h9 => h9) rfl dX9_back_12 ?_
    refine lv_iconst (v := 1) hx hb dX9_back_15 (by decide) ?_
    refine lv_isub hx hb dX9_back_16 ?_
    obtain ⟨T_keeps_1, e1, hr⟩ := nm_el hr
    refine lv_nmi e1 ?_
    refine va_put (D := (dC, dI)) (ci := 9) (v := .int T_keeps_1) (ty := .int) (C := RX9) (T := TX9) (N := 36) hx hb hts inX9_back_X9 tyX9 tyX9_ok nmX9 hown hK hP hD hS 0 rfl rfl 10 (by decide) (hts _ mbX9_back_0) (fun _ h9 => h9) rfl (by decide +kernel) rfl rfl (Nat.le_of_ble_eq_true rfl) dX9_back_17 (fun H locs hP hD hS => ?_)
    replace hP : va_P (dC, dI) vwCl [(a_T, .inr (9, [.int T_guests, .ref a_T_kinds, .int T_wishes, .ref a_T_wishKind, .ref a_T_wishA, .ref a_T_wishB, .int T_begins, .ref a_T_st, .int T_acts, .ref a_T_was, .int T_keeps_1, .ref a_T_kept, .int T_wokes, .ref a_T_woke, .ref a_T_text, .int T_texted, .int T_at, .ref a_T_told, .int T_readGuests, .ref a_T_readKinds, .ref a_T_readFloors, .int T_readWishes, .ref a_T_readWishKind, .ref a_T_readWishA, .ref a_T_readWishB, .int T_readBegins, .int T_here, .int T_stands, .int T_many, .int T_rounds, .ref a_T_come, .ref a_T_keptBy, .ref a_T_endsAt, .ref a_T_order, .ref a_T_time, .ref a_T_place])), (a_T_st, .inl (cI, 8, .inl T_st)), (a_T_kept, .inl (cI, 16, .inl T_kept))] H := hP
    replace hD : va_D A [(a_T, .inr (9, [.int T_guests, .ref a_T_kinds, .int T_wishes, .ref a_T_wishKind, .ref a_T_wishA, .ref a_T_wishB, .int T_begins, .ref a_T_st, .int T_acts, .ref a_T_was, .int T_keeps_1, .ref a_T_kept, .int T_wokes, .ref a_T_woke, .ref a_T_text, .int T_texted, .int T_at, .ref a_T_told, .int T_readGuests, .ref a_T_readKinds, .ref a_T_readFloors, .int T_readWishes, .ref a_T_readWishKind, .ref a_T_readWishA, .ref a_T_readWishB, .int T_readBegins, .int T_here, .int T_stands, .int T_many, .int T_rounds, .ref a_T_come, .ref a_T_keptBy, .ref a_T_endsAt, .ref a_T_order, .ref a_T_time, .ref a_T_place])), (a_T_st, .inl (cI, 8, .inl T_st)), (a_T_kept, .inl (cI, 16, .inl T_kept))] := hD
    refine lv_aload_n hx hb dX9_back_20 rfl (lv_at hl 0 rfl) ?_
    refine va_get (D := (dC, dI)) (ci := 9) (v := .ref a_T_st) (C := RX9) (T := TX9) (N := 36) hx hb hts inX9_back_X9 hown hK hP 0 rfl rfl 7 (by decide) (hts _ mbX9_back_2) (fun _ h9 => h9) rfl dX9_back_21 ?_
    refine lv_iconst (v := 0) hx hb dX9_back_24 (by decide) ?_
    refine lv_aload_n hx hb dX9_back_25 rfl (lv_at hl 0 rfl) ?_
    refine va_get (D := (dC, dI)) (ci := 9) (v := .ref a_T_kept) (C := RX9) (T := TX9) (N := 36) hx hb hts inX9_back_X9 hown hK hP 0 rfl rfl 11 (by decide) (hts _ mbX9_back_3) (fun _ h9 => h9) rfl dX9_back_26 ?_
    refine lv_bipush (v := 8) hx hb dX9_back_29 (by decide) ?_
    refine lv_aload_n hx hb dX9_back_31 rfl (lv_at hl 0 rfl) ?_
    refine va_get (D := (dC, dI)) (ci := 9) (v := .int T_keeps_1) (C := RX9) (T := TX9) (N := 36) hx hb hts inX9_back_X9 hown hK hP 0 rfl rfl 10 (by decide) (hts _ mbX9_back_0) (fun _ h9 => h9) rfl dX9_back_32 ?_
    refine lv_imul hx hb dX9_back_35 ?_
    obtain ⟨T_st_1, hc1, hr⟩ := bd1_some hr
    refine call_v (D := (dC, dI)) (tys := tysA cC cI cJ) (wc := [(a_T_st, .inl (cI, 8, .inl T_st)), (a_T_kept, .inl (cI, 16, .inl T_kept))]) (wr := [(a_T, .inr (9, [.int T_guests, .ref a_T_kinds, .int T_wishes, .ref a_T_wishKind, .ref a_T_wishA, .ref a_T_wishB, .int T_begins, .ref a_T_st, .int T_acts, .ref a_T_was, .int T_keeps_1, .ref a_T_kept, .int T_wokes, .ref a_T_woke, .ref a_T_text, .int T_texted, .int T_at, .ref a_T_told, .int T_readGuests, .ref a_T_readKinds, .ref a_T_readFloors, .int T_readWishes, .ref a_T_readWishKind, .ref a_T_readWishA, .ref a_T_readWishB, .int T_readBegins, .int T_here, .int T_stands, .int T_many, .int T_rounds, .ref a_T_come, .ref a_T_keptBy, .ref a_T_endsAt, .ref a_T_order, .ref a_T_time, .ref a_T_place]))]) (w1 := [(a_T_st, .inl (cI, 8, .inl T_st_1)), (a_T_kept, .inl (cI, 16, .inl T_kept))]) (wn := [(a_T, .inr (9, [.int T_guests, .ref a_T_kinds, .int T_wishes, .ref a_T_wishKind, .ref a_T_wishA, .ref a_T_wishB, .int T_begins, .ref a_T_st, .int T_acts, .ref a_T_was, .int T_keeps_1, .ref a_T_kept, .int T_wokes, .ref a_T_woke, .ref a_T_text, .int T_texted, .int T_at, .ref a_T_told, .int T_readGuests, .ref a_T_readKinds, .ref a_T_readFloors, .int T_readWishes, .ref a_T_readWishKind, .ref a_T_readWishA, .ref a_T_readWishB, .int T_readBegins, .int T_here, .int T_stands, .int T_many, .int T_rounds, .ref a_T_come, .ref a_T_keptBy, .ref a_T_endsAt, .ref a_T_order, .ref a_T_time, .ref a_T_place])), (a_T_st, .inl (cI, 8, .inl T_st_1)), (a_T_kept, .inl (cI, 16, .inl T_kept))]) hP hD hS hA [1, 2] [0] [0, 1, 2] rfl rfl (by decide +kernel) (by decide +kernel) rfl (by decide +kernel) (va_runS (As := [.ref a_T_st, .int 0, .ref a_T_kept, .int (8 * T_keeps_1)]) (rest := []) ⟨hx, hb, hml, hown, hts⟩ (kX9_copy l dC dI cC cI cJ H.size K a_T_st a_T_kept 8 16 0 (8 * T_keeps_1) T_st T_kept T_st_1 hc1) (va_cwS 4 hts gX9_back_X9_copy rfl rfl rfl (by decide +kernel) ⟨Nat.le_of_ble_eq_true rfl, Nat.le_of_ble_eq_true rfl⟩) ⟨fbW, preW hP hD hK hN [1, 2] rfl (by decide +kernel)⟩ rfl rfl hl.1 rfl (lv_room (Nat.le_of_ble_eq_true rfl)) dX9_back_36 ⟨Nat.zero_le _, Nat.zero_le _⟩) (fun H locs hP hD hS => ?_)
    refine lv_aload_n hx hb dX9_back_39 rfl (lv_at hl 0 rfl) ?_
    refine lv_iconst (v := 0) hx hb dX9_back_40 (by decide) ?_
    refine va_put (D := (dC, dI)) (ci := 9) (v := .int 0) (ty := .int) (C := RX9) (T := TX9) (N := 36) hx hb hts inX9_back_X9 tyX9 tyX9_ok nmX9 hown hK hP hD hS 0 rfl rfl 8 (by decide) (hts _ mbX9_back_4) (fun _ h9 => h9) rfl (by decide +kernel) rfl rfl (Nat.le_of_ble_eq_true rfl) dX9_back_41 (fun H locs hP hD hS => ?_)
    replace hP : va_P (dC, dI) vwCl [(a_T, .inr (9, [.int T_guests, .ref a_T_kinds, .int T_wishes, .ref a_T_wishKind, .ref a_T_wishA, .ref a_T_wishB, .int T_begins, .ref a_T_st, .int 0, .ref a_T_was, .int T_keeps_1, .ref a_T_kept, .int T_wokes, .ref a_T_woke, .ref a_T_text, .int T_texted, .int T_at, .ref a_T_told, .int T_readGuests, .ref a_T_readKinds, .ref a_T_readFloors, .int T_readWishes, .ref a_T_readWishKind, .ref a_T_readWishA, .ref a_T_readWishB, .int T_readBegins, .int T_here, .int T_stands, .int T_many, .int T_rounds, .ref a_T_come, .ref a_T_keptBy, .ref a_T_endsAt, .ref a_T_order, .ref a_T_time, .ref a_T_place])), (a_T_st, .inl (cI, 8, .inl T_st_1)), (a_T_kept, .inl (cI, 16, .inl T_kept))] H := hP
    replace hD : va_D A [(a_T, .inr (9, [.int T_guests, .ref a_T_kinds, .int T_wishes, .ref a_T_wishKind, .ref a_T_wishA, .ref a_T_wishB, .int T_begins, .ref a_T_st, .int 0, .ref a_T_was, .int T_keeps_1, .ref a_T_kept, .int T_wokes, .ref a_T_woke, .ref a_T_text, .int T_texted, .int T_at, .ref a_T_told, .int T_readGuests, .ref a_T_readKinds, .ref a_T_readFloors, .int T_readWishes, .ref a_T_readWishKind, .ref a_T_readWishA, .ref a_T_readWishB, .int T_readBegins, .int T_here, .int T_stands, .int T_many, .int T_rounds, .ref a_T_come, .ref a_T_keptBy, .ref a_T_endsAt, .ref a_T_order, .ref a_T_time, .ref a_T_place])), (a_T_st, .inl (cI, 8, .inl T_st_1)), (a_T_kept, .inl (cI, 16, .inl T_kept))] := hD
    refine lv_aload_n hx hb dX9_back_44 rfl (lv_at hl 0 rfl) ?_
    refine va_get (D := (dC, dI)) (ci := 9) (v := .int T_keeps_1) (C := RX9) (T := TX9) (N := 36) hx hb hts inX9_back_X9 hown hK hP 0 rfl rfl 10 (by decide) (hts _ mbX9_back_0) (fun _ h9 => h9) rfl dX9_back_45 ?_
    have he := Option.some.inj hr
    subst he
    subst hQ
    exact ret_i hx hb hrt hK hP hD hS hlocks dX9_back_48
  · replace hr := it_t hr c1
    refine lv_bipush (v := (-2)) hx hb dX9_back_7 (by decide) ?_
    have he := Option.some.inj hr
    subst he
    subst hQ
    exact ret_i hx hb hrt hK hP hD hS hlocks dX9_back_9
def fX9_count (K : Nat) (x1 : Int32) (T_guests : Int32) (T_wishes : Int32) (T_begins : Int32) (T_acts : Int32) (T_keeps : Int32) (T_wokes : Int32) (T_texted : Int32) (T_st : (Nat → Int32)) (T_wishA : (Nat → Int32)) (T_wishKind : (Nat → Int32)) (T_wishB : (Nat → Int32)) : Option (Int32) :=
    if (x1 : Int32) = 0 then (
    some T_guests)
    else (
    if (x1 : Int32) = 1 then (
    gd (¬ ((0 : Int32) < 0 ∨ 8 ≤ (0 : Int32).toNatClampNeg)) (
    bd1 (fX9_bits K (T_st (0 : Int32).toNatClampNeg)) fun r =>
    some r))
    else (
    if (x1 : Int32) = 2 then (
    some T_wishes)
    else (
    if (x1 : Int32) = 3 then (
    gd (¬ ((0 : Int32) < 0 ∨ 8 ≤ (0 : Int32).toNatClampNeg)) (
    bd1 (fX9_standing K (T_st (0 : Int32).toNatClampNeg) T_wishes T_st T_wishA T_wishKind T_wishB) fun r_1 =>
    bd1 (fX9_bits K r_1) fun r_2 =>
    some r_2))
    else (
    if (x1 : Int32) = 4 then (
    gd (¬ ((1 : Int32) < 0 ∨ 8 ≤ (1 : Int32).toNatClampNeg)) (
    bd1 (fX9_bits K (T_st (1 : Int32).toNatClampNeg)) fun r_3 =>
    some r_3))
    else (
    if (x1 : Int32) = 5 then (
    some T_begins)
    else (
    if (x1 : Int32) = 6 then (
    some T_wokes)
    else (
    if (x1 : Int32) = 7 then (
    some T_acts)
    else (
    if (x1 : Int32) = 8 then (
    some T_keeps)
    else (
    if (x1 : Int32) = 9 then (
    some T_texted)
    else (
    some (-1)))))))))))
theorem mbX9_count_0 : Cond.fieldLink RX9 97 "BootsAtDawnModel" "guests" "I" ∈ wsX9_count := List.mem_of_getElem? (i := 1) rfl
theorem inX9_count_X9 : ∀ w ∈ u_ws RX9 TX9 36, w ∈ wsX9_count := fun _ h => (List.mem_cons_of_mem _ (List.mem_append_right _ h))
theorem mbX9_count_2 : Cond.fieldLink RX9 22 "BootsAtDawnModel" "st" "[I" ∈ wsX9_count := List.mem_of_getElem? (i := 2) rfl
theorem mbX9_count_3 : Cond.fieldLink RX9 145 "BootsAtDawnModel" "wishes" "I" ∈ wsX9_count := List.mem_of_getElem? (i := 3) rfl
theorem mbX9_count_4 : Cond.fieldLink RX9 148 "BootsAtDawnModel" "begins" "I" ∈ wsX9_count := List.mem_of_getElem? (i := 4) rfl
theorem mbX9_count_5 : Cond.fieldLink RX9 157 "BootsAtDawnModel" "wokes" "I" ∈ wsX9_count := List.mem_of_getElem? (i := 5) rfl
theorem mbX9_count_6 : Cond.fieldLink RX9 151 "BootsAtDawnModel" "acts" "I" ∈ wsX9_count := List.mem_of_getElem? (i := 6) rfl
theorem mbX9_count_7 : Cond.fieldLink RX9 154 "BootsAtDawnModel" "keeps" "I" ∈ wsX9_count := List.mem_of_getElem? (i := 7) rfl
theorem mbX9_count_8 : Cond.fieldLink RX9 108 "BootsAtDawnModel" "texted" "I" ∈ wsX9_count := List.mem_of_getElem? (i := 8) rfl
abbrev rmX9_count : Room := { frames := 2, cells := 0, slots := 0, locals := 45 }
set_option maxHeartbeats 8000000 in
set_option maxRecDepth 100000 in
theorem kX9_count (l : Launch) (dC : Nat → ClassId) (dI : Nat → Nat → Nat) (cC cI cJ : ClassId) (sz : Nat) (K : Nat) (a_T a_T_kinds a_T_wishKind a_T_wishA a_T_wishB a_T_st a_T_was a_T_kept a_T_woke a_T_text a_T_told a_T_readKinds a_T_readFloors a_T_readWishKind a_T_readWishA a_T_readWishB a_T_come a_T_keptBy a_T_endsAt a_T_order a_T_time a_T_place : Nat) (x1 : Int32) (T_guests : Int32) (T_wishes : Int32) (T_begins : Int32) (T_acts : Int32) (T_keeps : Int32) (T_wokes : Int32) (T_texted : Int32) (T_at : Int32) (T_readGuests : Int32) (T_readWishes : Int32) (T_readBegins : Int32) (T_here : Int32) (T_stands : Int32) (T_many : Int32) (T_rounds : Int32) (T_st : (Nat → Int32)) (T_wishA : (Nat → Int32)) (T_wishKind : (Nat → Int32)) (T_wishB : (Nat → Int32)) (R : Int32) (hr : fX9_count K x1 T_guests T_wishes T_begins T_acts T_keeps T_wokes T_texted T_st T_wishA T_wishKind T_wishB = some R) : Met l yX9_count wsX9_count rmX9_count (va_Pc ([.ref a_T, .int x1] : List Value) (PcW (dC, dI) (tysA cC cI cJ) sz [(a_T, .inr (9, [.int T_guests, .ref a_T_kinds, .int T_wishes, .ref a_T_wishKind, .ref a_T_wishA, .ref a_T_wishB, .int T_begins, .ref a_T_st, .int T_acts, .ref a_T_was, .int T_keeps, .ref a_T_kept, .int T_wokes, .ref a_T_woke, .ref a_T_text, .int T_texted, .int T_at, .ref a_T_told, .int T_readGuests, .ref a_T_readKinds, .ref a_T_readFloors, .int T_readWishes, .ref a_T_readWishKind, .ref a_T_readWishA, .ref a_T_readWishB, .int T_readBegins, .int T_here, .int T_stands, .int T_many, .int T_rounds, .ref a_T_come, .ref a_T_keptBy, .ref a_T_endsAt, .ref a_T_order, .ref a_T_time, .ref a_T_place])), (a_T_st, .inl (cI, 8, .inl T_st)), (a_T_wishA, .inl (cI, 9, .inl T_wishA)), (a_T_wishKind, .inl (cI, 9, .inl T_wishKind)), (a_T_wishB, .inl (cI, 9, .inl T_wishB))])) (va_Qi (fun r (_ : Unit) => r = R) (fun _ => BW (dC, dI) (tysA cC cI cJ) (va_A [(a_T, .inr (9, [.int T_guests, .ref a_T_kinds, .int T_wishes, .ref a_T_wishKind, .ref a_T_wishA, .ref a_T_wishB, .int T_begins, .ref a_T_st, .int T_acts, .ref a_T_was, .int T_keeps, .ref a_T_kept, .int T_wokes, .ref a_T_woke, .ref a_T_text, .int T_texted, .int T_at, .ref a_T_told, .int T_readGuests, .ref a_T_readKinds, .ref a_T_readFloors, .int T_readWishes, .ref a_T_readWishKind, .ref a_T_readWishA, .ref a_T_readWishB, .int T_readBegins, .int T_here, .int T_stands, .int T_many, .int T_rounds, .ref a_T_come, .ref a_T_keptBy, .ref a_T_endsAt, .ref a_T_order, .ref a_T_time, .ref a_T_place])), (a_T_st, .inl (cI, 8, .inl T_st)), (a_T_wishA, .inl (cI, 9, .inl T_wishA)), (a_T_wishKind, .inl (cI, 9, .inl T_wishKind)), (a_T_wishB, .inl (cI, 9, .inl T_wishB))] sz) [(a_T, .inr (9, [.int T_guests, .ref a_T_kinds, .int T_wishes, .ref a_T_wishKind, .ref a_T_wishA, .ref a_T_wishB, .int T_begins, .ref a_T_st, .int T_acts, .ref a_T_was, .int T_keeps, .ref a_T_kept, .int T_wokes, .ref a_T_woke, .ref a_T_text, .int T_texted, .int T_at, .ref a_T_told, .int T_readGuests, .ref a_T_readKinds, .ref a_T_readFloors, .int T_readWishes, .ref a_T_readWishKind, .ref a_T_readWishA, .ref a_T_readWishB, .int T_readBegins, .int T_here, .int T_stands, .int T_many, .int T_rounds, .ref a_T_come, .ref a_T_keptBy, .ref a_T_endsAt, .ref a_T_order, .ref a_T_time, .ref a_T_place])), (a_T_st, .inl (cI, 8, .inl T_st)), (a_T_wishA, .inl (cI, 9, .inl T_wishA)), (a_T_wishKind, .inl (cI, 9, .inl T_wishKind)), (a_T_wishB, .inl (cI, 9, .inl T_wishB))]) (va_A [(a_T, .inr (9, [.int T_guests, .ref a_T_kinds, .int T_wishes, .ref a_T_wishKind, .ref a_T_wishA, .ref a_T_wishB, .int T_begins, .ref a_T_st, .int T_acts, .ref a_T_was, .int T_keeps, .ref a_T_kept, .int T_wokes, .ref a_T_woke, .ref a_T_text, .int T_texted, .int T_at, .ref a_T_told, .int T_readGuests, .ref a_T_readKinds, .ref a_T_readFloors, .int T_readWishes, .ref a_T_readWishKind, .ref a_T_readWishA, .ref a_T_readWishB, .int T_readBegins, .int T_here, .int T_stands, .int T_many, .int T_rounds, .ref a_T_come, .ref a_T_keptBy, .ref a_T_endsAt, .ref a_T_order, .ref a_T_time, .ref a_T_place])), (a_T_st, .inl (cI, 8, .inl T_st)), (a_T_wishA, .inl (cI, 9, .inl T_wishA)), (a_T_wishKind, .inl (cI, 9, .inl T_wishKind)), (a_T_wishB, .inl (cI, 9, .inl T_wishB))] sz)) 0 0 (va_A [(a_T, .inr (9, [.int T_guests, .ref a_T_kinds, .int T_wishes, .ref a_T_wishKind, .ref a_T_wishA, .ref a_T_wishB, .int T_begins, .ref a_T_st, .int T_acts, .ref a_T_was, .int T_keeps, .ref a_T_kept, .int T_wokes, .ref a_T_woke, .ref a_T_text, .int T_texted, .int T_at, .ref a_T_told, .int T_readGuests, .ref a_T_readKinds, .ref a_T_readFloors, .int T_readWishes, .ref a_T_readWishKind, .ref a_T_readWishA, .ref a_T_readWishB, .int T_readBegins, .int T_here, .int T_stands, .int T_many, .int T_rounds, .ref a_T_come, .ref a_T_keptBy, .ref a_T_endsAt, .ref a_T_order, .ref a_T_time, .ref a_T_place])), (a_T_st, .inl (cI, 8, .inl T_st)), (a_T_wishA, .inl (cI, 9, .inl T_wishA)), (a_T_wishKind, .inl (cI, 9, .inl T_wishKind)), (a_T_wishB, .inl (cI, 9, .inl T_wishB))] sz) := by
  refine Met.ofW (cc := cX9_count) (maxL := 2) (ret := (some .int)) (by decide) rfl ?_
  intro p e s m args below meth c s₁ B hml hv
  obtain ⟨rfl, hsz, hP, hK, hD0, hN⟩ := hv
  have hx := B.exec
  have hb := B.bytes
  have hrt := B.returns
  have hts := atoms_spec (ws := wsX9_count) B.pre
  have hown : s.vm.findClass RX9 = some m.cls := findClass_of_methodNamed B.named
  have hlocks := B.notSynchronized
  subst hsz
  have hD := hD0.self (sz := s.heap.size)
  generalize hAe : va_A [(a_T, .inr (9, [.int T_guests, .ref a_T_kinds, .int T_wishes, .ref a_T_wishKind, .ref a_T_wishA, .ref a_T_wishB, .int T_begins, .ref a_T_st, .int T_acts, .ref a_T_was, .int T_keeps, .ref a_T_kept, .int T_wokes, .ref a_T_woke, .ref a_T_text, .int T_texted, .int T_at, .ref a_T_told, .int T_readGuests, .ref a_T_readKinds, .ref a_T_readFloors, .int T_readWishes, .ref a_T_readWishKind, .ref a_T_readWishA, .ref a_T_readWishB, .int T_readBegins, .int T_here, .int T_stands, .int T_many, .int T_rounds, .ref a_T_come, .ref a_T_keptBy, .ref a_T_endsAt, .ref a_T_order, .ref a_T_time, .ref a_T_place])), (a_T_st, .inl (cI, 8, .inl T_st)), (a_T_wishA, .inl (cI, 9, .inl T_wishA)), (a_T_wishKind, .inl (cI, 9, .inl T_wishKind)), (a_T_wishB, .inl (cI, 9, .inl T_wishB))] s.heap.size = A at hD ⊢
  have hA : ∀ q : Nat, s.heap.size ≤ q → A q := fun q h => by rw [← hAe]; exact Or.inr h
  have hS : va_S A s.heap s.heap [] := va_S.rf
  have hl := lv_entry ([.ref a_T, .int x1] : List Value) (n := 2) (Nat.le_of_ble_eq_true rfl)
  rw [lg_entry_eq]
  generalize (lg_sl ([.ref a_T, .int x1] : List Value) ++ List.replicate (2 - (lg_sl ([.ref a_T, .int x1] : List Value)).length) Slot.unset).toArray = ls at hl ⊢
  replace hl : lv_has ls 2 [(0, .ref a_T), (1, .int x1)] := hl
  obtain ⟨Q, hQ⟩ : ∃ Q, Q = MQ below (va_Qi (fun r (_ : Unit) => r = R) (fun _ => BW (dC, dI) (tysA cC cI cJ) A [(a_T, .inr (9, [.int T_guests, .ref a_T_kinds, .int T_wishes, .ref a_T_wishKind, .ref a_T_wishA, .ref a_T_wishB, .int T_begins, .ref a_T_st, .int T_acts, .ref a_T_was, .int T_keeps, .ref a_T_kept, .int T_wokes, .ref a_T_woke, .ref a_T_text, .int T_texted, .int T_at, .ref a_T_told, .int T_readGuests, .ref a_T_readKinds, .ref a_T_readFloors, .int T_readWishes, .ref a_T_readWishKind, .ref a_T_readWishA, .ref a_T_readWishB, .int T_readBegins, .int T_here, .int T_stands, .int T_many, .int T_rounds, .ref a_T_come, .ref a_T_keptBy, .ref a_T_endsAt, .ref a_T_order, .ref a_T_time, .ref a_T_place])), (a_T_st, .inl (cI, 8, .inl T_st)), (a_T_wishA, .inl (cI, 9, .inl T_wishA)), (a_T_wishKind, .inl (cI, 9, .inl T_wishKind)), (a_T_wishB, .inl (cI, 9, .inl T_wishB))]) A) ([.ref a_T, .int x1] : List Value).toArray s 0 0 A := ⟨_, rfl⟩
  rw [← hQ]
  suffices hE : WG p l e rmX9_count s m ([.ref a_T, .int x1] : List Value).toArray below meth c 0 0 Q (dC, dI) A 0 2 [(a_T, .inr (9, [.int T_guests, .ref a_T_kinds, .int T_wishes, .ref a_T_wishKind, .ref a_T_wishA, .ref a_T_wishB, .int T_begins, .ref a_T_st, .int T_acts, .ref a_T_was, .int T_keeps, .ref a_T_kept, .int T_wokes, .ref a_T_woke, .ref a_T_text, .int T_texted, .int T_at, .ref a_T_told, .int T_readGuests, .ref a_T_readKinds, .ref a_T_readFloors, .int T_readWishes, .ref a_T_readWishKind, .ref a_T_readWishA, .ref a_T_readWishB, .int T_readBegins, .int T_here, .int T_stands, .int T_many, .int T_rounds, .ref a_T_come, .ref a_T_keptBy, .ref a_T_endsAt, .ref a_T_order, .ref a_T_time, .ref a_T_place])), (a_T_st, .inl (cI, 8, .inl T_st)), (a_T_wishA, .inl (cI, 9, .inl T_wishA)), (a_T_wishKind, .inl (cI, 9, .inl T_wishKind)), (a_T_wishB, .inl (cI, 9, .inl T_wishB))] [(0, .ref a_T), (1, .int x1)] [] from hE _ _ _ hP hD hS hl
  clear hP hD hS hl hD0 hAe
  intro H locs ls hP hD hS hl
  unfold fX9_count at hr
  refine lv_iload_n hx hb dX9_count_0 rfl (lv_at hl 1 rfl) ?_
  by_cases c1 : (x1 : Int32) = 0
  · replace hr := it_t hr c1
    refine lv_tableIn (tgt := 56) (off := 55) hx hb dX9_count_1 (by rw [c1]; decide) (by rw [c1]; decide) (by rw [c1]; rfl) (by decide) ?_
    refine lv_aload_n hx hb dX9_count_56 rfl (lv_at hl 0 rfl) ?_
    refine va_get (D := (dC, dI)) (ci := 9) (v := .int T_guests) (C := RX9) (T := TX9) (N := 36) hx hb hts inX9_count_X9 hown hK hP 0 rfl rfl 0 (by decide) (hts _ mbX9_count_0) (fun _ h9 => h9) rfl dX9_count_57 ?_
    have he := Option.some.inj hr
    subst he
    subst hQ
    exact ret_i hx hb hrt hK hP hD hS hlocks dX9_count_60
  · replace hr := it_f hr c1
    by_cases c2 : (x1 : Int32) = 1
    · replace hr := it_t hr c2
      refine lv_tableIn (tgt := 61) (off := 60) hx hb dX9_count_1 (by rw [c2]; decide) (by rw [c2]; decide) (by rw [c2]; rfl) (by decide) ?_
      refine lv_aload_n hx hb dX9_count_61 rfl (lv_at hl 0 rfl) ?_
      refine va_get (D := (dC, dI)) (ci := 9) (v := .ref a_T_st) (C := RX9) (T := TX9) (N := 36) hx hb hts inX9_count_X9 hown hK hP 0 rfl rfl 7 (by decide) (hts _ mbX9_count_2) (fun _ h9 => h9) rfl dX9_count_62 ?_
      refine lv_iconst (v := 0) hx hb dX9_count_65 (by decide) ?_
      obtain ⟨g1, hr⟩ := gd_some hr
      refine va_iald hx hb hK hP 1 1 rfl rfl g1 dX9_count_66 ?_
      obtain ⟨r, hc1, hr⟩ := bd1_some hr
      refine call_i (D := (dC, dI)) (tys := tysA cC cI cJ) (wc := []) (wr := [(a_T, .inr (9, [.int T_guests, .ref a_T_kinds, .int T_wishes, .ref a_T_wishKind, .ref a_T_wishA, .ref a_T_wishB, .int T_begins, .ref a_T_st, .int T_acts, .ref a_T_was, .int T_keeps, .ref a_T_kept, .int T_wokes, .ref a_T_woke, .ref a_T_text, .int T_texted, .int T_at, .ref a_T_told, .int T_readGuests, .ref a_T_readKinds, .ref a_T_readFloors, .int T_readWishes, .ref a_T_readWishKind, .ref a_T_readWishA, .ref a_T_readWishB, .int T_readBegins, .int T_here, .int T_stands, .int T_many, .int T_rounds, .ref a_T_come, .ref a_T_keptBy, .ref a_T_endsAt, .ref a_T_order, .ref a_T_time, .ref a_T_place])), (a_T_st, .inl (cI, 8, .inl T_st)), (a_T_wishA, .inl (cI, 9, .inl T_wishA)), (a_T_wishKind, .inl (cI, 9, .inl T_wishKind)), (a_T_wishB, .inl (cI, 9, .inl T_wishB))]) (w1 := []) (wn := [(a_T, .inr (9, [.int T_guests, .ref a_T_kinds, .int T_wishes, .ref a_T_wishKind, .ref a_T_wishA, .ref a_T_wishB, .int T_begins, .ref a_T_st, .int T_acts, .ref a_T_was, .int T_keeps, .ref a_T_kept, .int T_wokes, .ref a_T_woke, .ref a_T_text, .int T_texted, .int T_at, .ref a_T_told, .int T_readGuests, .ref a_T_readKinds, .ref a_T_readFloors, .int T_readWishes, .ref a_T_readWishKind, .ref a_T_readWishA, .ref a_T_readWishB, .int T_readBegins, .int T_here, .int T_stands, .int T_many, .int T_rounds, .ref a_T_come, .ref a_T_keptBy, .ref a_T_endsAt, .ref a_T_order, .ref a_T_time, .ref a_T_place])), (a_T_st, .inl (cI, 8, .inl T_st)), (a_T_wishA, .inl (cI, 9, .inl T_wishA)), (a_T_wishKind, .inl (cI, 9, .inl T_wishKind)), (a_T_wishB, .inl (cI, 9, .inl T_wishB))]) (r0 := r) hP hD hS hA [] [0, 1, 2, 3, 4] [0, 1, 2, 3, 4] rfl rfl (by decide +kernel) (by decide +kernel) rfl (by decide +kernel) (va_runS (As := [.int (T_st (0 : Int32).toNatClampNeg)]) (rest := []) ⟨hx, hb, hml, hown, hts⟩ (kX9_bits l dC dI cC cI cJ H.size K (T_st (0 : Int32).toNatClampNeg) r hc1) (va_cwS 1 hts gX9_count_X9_bits rfl rfl rfl (by decide +kernel) ⟨Nat.le_of_ble_eq_true rfl, Nat.le_of_ble_eq_true rfl⟩) ⟨fbW, preW hP hD hK hN [] rfl (by decide +kernel)⟩ rfl rfl hl.1 rfl (lv_room (Nat.le_of_ble_eq_true rfl)) dX9_count_67 ⟨Nat.zero_le _, Nat.zero_le _⟩) (fun H locs hP hD hS => ?_)
      have he := Option.some.inj hr
      subst he
      subst hQ
      exact ret_i hx hb hrt hK hP hD hS hlocks dX9_count_70
    · replace hr := it_f hr c2
      by_cases c3 : (x1 : Int32) = 2
      · replace hr := it_t hr c3
        refine lv_tableIn (tgt := 71) (off := 70) hx hb dX9_count_1 (by rw [c3]; decide) (by rw [c3]; decide) (by rw [c3]; rfl) (by decide) ?_
        refine lv_aload_n hx hb dX9_count_71 rfl (lv_at hl 0 rfl) ?_
        refine va_get (D := (dC, dI)) (ci := 9) (v := .int T_wishes) (C := RX9) (T := TX9) (N := 36) hx hb hts inX9_count_X9 hown hK hP 0 rfl rfl 2 (by decide) (hts _ mbX9_count_3) (fun _ h9 => h9) rfl dX9_count_72 ?_
        have he := Option.some.inj hr
        subst he
        subst hQ
        exact ret_i hx hb hrt hK hP hD hS hlocks dX9_count_75
      · replace hr := it_f hr c3
        by_cases c4 : (x1 : Int32) = 3
        · replace hr := it_t hr c4
          refine lv_tableIn (tgt := 76) (off := 75) hx hb dX9_count_1 (by rw [c4]; decide) (by rw [c4]; decide) (by rw [c4]; rfl) (by decide) ?_
          refine lv_aload_n hx hb dX9_count_76 rfl (lv_at hl 0 rfl) ?_
          refine lv_aload_n hx hb dX9_count_77 rfl (lv_at hl 0 rfl) ?_
          refine va_get (D := (dC, dI)) (ci := 9) (v := .ref a_T_st) (C := RX9) (T := TX9) (N := 36) hx hb hts inX9_count_X9 hown hK hP 0 rfl rfl 7 (by decide) (hts _ mbX9_count_2) (fun _ h9 => h9) rfl dX9_count_78 ?_
          refine lv_iconst (v := 0) hx hb dX9_count_81 (by decide) ?_
          obtain ⟨g2, hr⟩ := gd_some hr
          refine va_iald hx hb hK hP 1 1 rfl rfl g2 dX9_count_82 ?_
          obtain ⟨r_1, hc2, hr⟩ := bd1_some hr
          refine call_i (D := (dC, dI)) (tys := tysA cC cI cJ) (wc := [(a_T, .inr (9, [.int T_guests, .ref a_T_kinds, .int T_wishes, .ref a_T_wishKind, .ref a_T_wishA, .ref a_T_wishB, .int T_begins, .ref a_T_st, .int T_acts, .ref a_T_was, .int T_keeps, .ref a_T_kept, .int T_wokes, .ref a_T_woke, .ref a_T_text, .int T_texted, .int T_at, .ref a_T_told, .int T_readGuests, .ref a_T_readKinds, .ref a_T_readFloors, .int T_readWishes, .ref a_T_readWishKind, .ref a_T_readWishA, .ref a_T_readWishB, .int T_readBegins, .int T_here, .int T_stands, .int T_many, .int T_rounds, .ref a_T_come, .ref a_T_keptBy, .ref a_T_endsAt, .ref a_T_order, .ref a_T_time, .ref a_T_place])), (a_T_st, .inl (cI, 8, .inl T_st)), (a_T_wishA, .inl (cI, 9, .inl T_wishA)), (a_T_wishKind, .inl (cI, 9, .inl T_wishKind)), (a_T_wishB, .inl (cI, 9, .inl T_wishB))]) (wr := []) (w1 := [(a_T, .inr (9, [.int T_guests, .ref a_T_kinds, .int T_wishes, .ref a_T_wishKind, .ref a_T_wishA, .ref a_T_wishB, .int T_begins, .ref a_T_st, .int T_acts, .ref a_T_was, .int T_keeps, .ref a_T_kept, .int T_wokes, .ref a_T_woke, .ref a_T_text, .int T_texted, .int T_at, .ref a_T_told, .int T_readGuests, .ref a_T_readKinds, .ref a_T_readFloors, .int T_readWishes, .ref a_T_readWishKind, .ref a_T_readWishA, .ref a_T_readWishB, .int T_readBegins, .int T_here, .int T_stands, .int T_many, .int T_rounds, .ref a_T_come, .ref a_T_keptBy, .ref a_T_endsAt, .ref a_T_order, .ref a_T_time, .ref a_T_place])), (a_T_st, .inl (cI, 8, .inl T_st)), (a_T_wishA, .inl (cI, 9, .inl T_wishA)), (a_T_wishKind, .inl (cI, 9, .inl T_wishKind)), (a_T_wishB, .inl (cI, 9, .inl T_wishB))]) (wn := [(a_T, .inr (9, [.int T_guests, .ref a_T_kinds, .int T_wishes, .ref a_T_wishKind, .ref a_T_wishA, .ref a_T_wishB, .int T_begins, .ref a_T_st, .int T_acts, .ref a_T_was, .int T_keeps, .ref a_T_kept, .int T_wokes, .ref a_T_woke, .ref a_T_text, .int T_texted, .int T_at, .ref a_T_told, .int T_readGuests, .ref a_T_readKinds, .ref a_T_readFloors, .int T_readWishes, .ref a_T_readWishKind, .ref a_T_readWishA, .ref a_T_readWishB, .int T_readBegins, .int T_here, .int T_stands, .int T_many, .int T_rounds, .ref a_T_come, .ref a_T_keptBy, .ref a_T_endsAt, .ref a_T_order, .ref a_T_time, .ref a_T_place])), (a_T_st, .inl (cI, 8, .inl T_st)), (a_T_wishA, .inl (cI, 9, .inl T_wishA)), (a_T_wishKind, .inl (cI, 9, .inl T_wishKind)), (a_T_wishB, .inl (cI, 9, .inl T_wishB))]) (r0 := r_1) hP hD hS hA [0, 1, 2, 3, 4] [] [0, 1, 2, 3, 4] rfl rfl (by decide +kernel) (by decide +kernel) rfl (by decide +kernel) (va_runV (As := [.int (T_st (0 : Int32).toNatClampNeg)]) (rest := []) ⟨hx, hb, hml, hown, hts⟩ (kX9_standing l dC dI cC cI cJ H.size K a_T a_T_kinds a_T_wishKind a_T_wishA a_T_wishB a_T_st a_T_was a_T_kept a_T_woke a_T_text a_T_told a_T_readKinds a_T_readFloors a_T_readWishKind a_T_readWishA a_T_readWishB a_T_come a_T_keptBy a_T_endsAt a_T_order a_T_time a_T_place (T_st (0 : Int32).toNatClampNeg) T_guests T_wishes T_begins T_acts T_keeps T_wokes T_texted T_at T_readGuests T_readWishes T_readBegins T_here T_stands T_many T_rounds T_st T_wishA T_wishKind T_wishB r_1 hc2) (cwV 1 hts gX9_count_X9_standing rfl rfl rfl (by decide +kernel) ⟨Nat.le_of_ble_eq_true rfl, Nat.le_of_ble_eq_true rfl⟩) ⟨fbW, va_recv hK hP (ci := 9) (q0 := 0) rfl rfl, preW hP hD hK hN [0, 1, 2, 3, 4] rfl (by decide +kernel)⟩ rfl rfl hl.1 rfl (lv_room (Nat.le_of_ble_eq_true rfl)) dX9_count_83 ⟨Nat.zero_le _, Nat.zero_le _⟩) (fun H locs hP hD hS => ?_)
          obtain ⟨r_2, hc3, hr⟩ := bd1_some hr
          refine call_i (D := (dC, dI)) (tys := tysA cC cI cJ) (wc := []) (wr := [(a_T, .inr (9, [.int T_guests, .ref a_T_kinds, .int T_wishes, .ref a_T_wishKind, .ref a_T_wishA, .ref a_T_wishB, .int T_begins, .ref a_T_st, .int T_acts, .ref a_T_was, .int T_keeps, .ref a_T_kept, .int T_wokes, .ref a_T_woke, .ref a_T_text, .int T_texted, .int T_at, .ref a_T_told, .int T_readGuests, .ref a_T_readKinds, .ref a_T_readFloors, .int T_readWishes, .ref a_T_readWishKind, .ref a_T_readWishA, .ref a_T_readWishB, .int T_readBegins, .int T_here, .int T_stands, .int T_many, .int T_rounds, .ref a_T_come, .ref a_T_keptBy, .ref a_T_endsAt, .ref a_T_order, .ref a_T_time, .ref a_T_place])), (a_T_st, .inl (cI, 8, .inl T_st)), (a_T_wishA, .inl (cI, 9, .inl T_wishA)), (a_T_wishKind, .inl (cI, 9, .inl T_wishKind)), (a_T_wishB, .inl (cI, 9, .inl T_wishB))]) (w1 := []) (wn := [(a_T, .inr (9, [.int T_guests, .ref a_T_kinds, .int T_wishes, .ref a_T_wishKind, .ref a_T_wishA, .ref a_T_wishB, .int T_begins, .ref a_T_st, .int T_acts, .ref a_T_was, .int T_keeps, .ref a_T_kept, .int T_wokes, .ref a_T_woke, .ref a_T_text, .int T_texted, .int T_at, .ref a_T_told, .int T_readGuests, .ref a_T_readKinds, .ref a_T_readFloors, .int T_readWishes, .ref a_T_readWishKind, .ref a_T_readWishA, .ref a_T_readWishB, .int T_readBegins, .int T_here, .int T_stands, .int T_many, .int T_rounds, .ref a_T_come, .ref a_T_keptBy, .ref a_T_endsAt, .ref a_T_order, .ref a_T_time, .ref a_T_place])), (a_T_st, .inl (cI, 8, .inl T_st)), (a_T_wishA, .inl (cI, 9, .inl T_wishA)), (a_T_wishKind, .inl (cI, 9, .inl T_wishKind)), (a_T_wishB, .inl (cI, 9, .inl T_wishB))]) (r0 := r_2) hP hD hS hA [] [0, 1, 2, 3, 4] [0, 1, 2, 3, 4] rfl rfl (by decide +kernel) (by decide +kernel) rfl (by decide +kernel) (va_runS (As := [.int r_1]) (rest := []) ⟨hx, hb, hml, hown, hts⟩ (kX9_bits l dC dI cC cI cJ H.size K r_1 r_2 hc3) (va_cwS 1 hts gX9_count_X9_bits rfl rfl rfl (by decide +kernel) ⟨Nat.le_of_ble_eq_true rfl, Nat.le_of_ble_eq_true rfl⟩) ⟨fbW, preW hP hD hK hN [] rfl (by decide +kernel)⟩ rfl rfl hl.1 rfl (lv_room (Nat.le_of_ble_eq_true rfl)) dX9_count_86 ⟨Nat.zero_le _, Nat.zero_le _⟩) (fun H locs hP hD hS => ?_)
          have he := Option.some.inj hr
          subst he
          subst hQ
          exact ret_i hx hb hrt hK hP hD hS hlocks dX9_count_89
        · replace hr := it_f hr c4
          by_cases c5 : (x1 : Int32) = 4
          · replace hr := it_t hr c5
            refine lv_tableIn (tgt := 90) (off := 89) hx hb dX9_count_1 (by rw [c5]; decide) (by rw [c5]; decide) (by rw [c5]; rfl) (by decide) ?_
            refine lv_aload_n hx hb dX9_count_90 rfl (lv_at hl 0 rfl) ?_
            refine va_get (D := (dC, dI)) (ci := 9) (v := .ref a_T_st) (C := RX9) (T := TX9) (N := 36) hx hb hts inX9_count_X9 hown hK hP 0 rfl rfl 7 (by decide) (hts _ mbX9_count_2) (fun _ h9 => h9) rfl dX9_count_91 ?_
            refine lv_iconst (v := 1) hx hb dX9_count_94 (by decide) ?_
            obtain ⟨g3, hr⟩ := gd_some hr
            refine va_iald hx hb hK hP 1 1 rfl rfl g3 dX9_count_95 ?_
            obtain ⟨r_3, hc4, hr⟩ := bd1_some hr
            refine call_i (D := (dC, dI)) (tys := tysA cC cI cJ) (wc := []) (wr := [(a_T, .inr (9, [.int T_guests, .ref a_T_kinds, .int T_wishes, .ref a_T_wishKind, .ref a_T_wishA, .ref a_T_wishB, .int T_begins, .ref a_T_st, .int T_acts, .ref a_T_was, .int T_keeps, .ref a_T_kept, .int T_wokes, .ref a_T_woke, .ref a_T_text, .int T_texted, .int T_at, .ref a_T_told, .int T_readGuests, .ref a_T_readKinds, .ref a_T_readFloors, .int T_readWishes, .ref a_T_readWishKind, .ref a_T_readWishA, .ref a_T_readWishB, .int T_readBegins, .int T_here, .int T_stands, .int T_many, .int T_rounds, .ref a_T_come, .ref a_T_keptBy, .ref a_T_endsAt, .ref a_T_order, .ref a_T_time, .ref a_T_place])), (a_T_st, .inl (cI, 8, .inl T_st)), (a_T_wishA, .inl (cI, 9, .inl T_wishA)), (a_T_wishKind, .inl (cI, 9, .inl T_wishKind)), (a_T_wishB, .inl (cI, 9, .inl T_wishB))]) (w1 := []) (wn := [(a_T, .inr (9, [.int T_guests, .ref a_T_kinds, .int T_wishes, .ref a_T_wishKind, .ref a_T_wishA, .ref a_T_wishB, .int T_begins, .ref a_T_st, .int T_acts, .ref a_T_was, .int T_keeps, .ref a_T_kept, .int T_wokes, .ref a_T_woke, .ref a_T_text, .int T_texted, .int T_at, .ref a_T_told, .int T_readGuests, .ref a_T_readKinds, .ref a_T_readFloors, .int T_readWishes, .ref a_T_readWishKind, .ref a_T_readWishA, .ref a_T_readWishB, .int T_readBegins, .int T_here, .int T_stands, .int T_many, .int T_rounds, .ref a_T_come, .ref a_T_keptBy, .ref a_T_endsAt, .ref a_T_order, .ref a_T_time, .ref a_T_place])), (a_T_st, .inl (cI, 8, .inl T_st)), (a_T_wishA, .inl (cI, 9, .inl T_wishA)), (a_T_wishKind, .inl (cI, 9, .inl T_wishKind)), (a_T_wishB, .inl (cI, 9, .inl T_wishB))]) (r0 := r_3) hP hD hS hA [] [0, 1, 2, 3, 4] [0, 1, 2, 3, 4] rfl rfl (by decide +kernel) (by decide +kernel) rfl (by decide +kernel) (va_runS (As := [.int (T_st (1 : Int32).toNatClampNeg)]) (rest := []) ⟨hx, hb, hml, hown, hts⟩ (kX9_bits l dC dI cC cI cJ H.size K (T_st (1 : Int32).toNatClampNeg) r_3 hc4) (va_cwS 1 hts gX9_count_X9_bits rfl rfl rfl (by decide +kernel) ⟨Nat.le_of_ble_eq_true rfl, Nat.le_of_ble_eq_true rfl⟩) ⟨fbW, preW hP hD hK hN [] rfl (by decide +kernel)⟩ rfl rfl hl.1 rfl (lv_room (Nat.le_of_ble_eq_true rfl)) dX9_count_96 ⟨Nat.zero_le _, Nat.zero_le _⟩) (fun H locs hP hD hS => ?_)
            have he := Option.some.inj hr
            subst he
            subst hQ
            exact ret_i hx hb hrt hK hP hD hS hlocks dX9_count_99
          · replace hr := it_f hr c5
            by_cases c6 : (x1 : Int32) = 5
            · replace hr := it_t hr c6
              refine lv_tableIn (tgt := 100) (off := 99) hx hb dX9_count_1 (by rw [c6]; decide) (by rw [c6]; decide) (by rw [c6]; rfl) (by decide) ?_
              refine lv_aload_n hx hb dX9_count_100 rfl (lv_at hl 0 rfl) ?_
              refine va_get (D := (dC, dI)) (ci := 9) (v := .int T_begins) (C := RX9) (T := TX9) (N := 36) hx hb hts inX9_count_X9 hown hK hP 0 rfl rfl 6 (by decide) (hts _ mbX9_count_4) (fun _ h9 => h9) rfl dX9_count_101 ?_
              have he := Option.some.inj hr
              subst he
              subst hQ
              exact ret_i hx hb hrt hK hP hD hS hlocks dX9_count_104
            · replace hr := it_f hr c6
              by_cases c7 : (x1 : Int32) = 6
              · replace hr := it_t hr c7
                refine lv_tableIn (tgt := 105) (off := 104) hx hb dX9_count_1 (by rw [c7]; decide) (by rw [c7]; decide) (by rw [c7]; rfl) (by decide) ?_
                refine lv_aload_n hx hb dX9_count_105 rfl (lv_at hl 0 rfl) ?_
                refine va_get (D := (dC, dI)) (ci := 9) (v := .int T_wokes) (C := RX9) (T := TX9) (N := 36) hx hb hts inX9_count_X9 hown hK hP 0 rfl rfl 12 (by decide) (hts _ mbX9_count_5) (fun _ h9 => h9) rfl dX9_count_106 ?_
                have he := Option.some.inj hr
                subst he
                subst hQ
                exact ret_i hx hb hrt hK hP hD hS hlocks dX9_count_109
              · replace hr := it_f hr c7
                by_cases c8 : (x1 : Int32) = 7
                · replace hr := it_t hr c8
                  refine lv_tableIn (tgt := 110) (off := 109) hx hb dX9_count_1 (by rw [c8]; decide) (by rw [c8]; decide) (by rw [c8]; rfl) (by decide) ?_
                  refine lv_aload_n hx hb dX9_count_110 rfl (lv_at hl 0 rfl) ?_
                  refine va_get (D := (dC, dI)) (ci := 9) (v := .int T_acts) (C := RX9) (T := TX9) (N := 36) hx hb hts inX9_count_X9 hown hK hP 0 rfl rfl 8 (by decide) (hts _ mbX9_count_6) (fun _ h9 => h9) rfl dX9_count_111 ?_
                  have he := Option.some.inj hr
                  subst he
                  subst hQ
                  exact ret_i hx hb hrt hK hP hD hS hlocks dX9_count_114
                · replace hr := it_f hr c8
                  by_cases c9 : (x1 : Int32) = 8
                  · replace hr := it_t hr c9
                    refine lv_tableIn (tgt := 115) (off := 114) hx hb dX9_count_1 (by rw [c9]; decide) (by rw [c9]; decide) (by rw [c9]; rfl) (by decide) ?_
                    refine lv_aload_n hx hb dX9_count_115 rfl (lv_at hl 0 rfl) ?_
                    refine va_get (D := (dC, dI)) (ci := 9) (v := .int T_keeps) (C := RX9) (T := TX9) (N := 36) hx hb hts inX9_count_X9 hown hK hP 0 rfl rfl 10 (by decide) (hts _ mbX9_count_7) (fun _ h9 => h9) rfl dX9_count_116 ?_
                    have he := Option.some.inj hr
                    subst he
                    subst hQ
                    exact ret_i hx hb hrt hK hP hD hS hlocks dX9_count_119
                  · replace hr := it_f hr c9
                    by_cases c10 : (x1 : Int32) = 9
                    · replace hr := it_t hr c10
                      refine lv_tableIn (tgt := 120) (off := 119) hx hb dX9_count_1 (by rw [c10]; decide) (by rw [c10]; decide) (by rw [c10]; rfl) (by decide) ?_
                      refine lv_aload_n hx hb dX9_count_120 rfl (lv_at hl 0 rfl) ?_
                      refine va_get (D := (dC, dI)) (ci := 9) (v := .int T_texted) (C := RX9) (T := TX9) (N := 36) hx hb hts inX9_count_X9 hown hK hP 0 rfl rfl 15 (by decide) (hts _ mbX9_count_8) (fun _ h9 => h9) rfl dX9_count_121 ?_
                      have he := Option.some.inj hr
                      subst he
                      subst hQ
                      exact ret_i hx hb hrt hK hP hD hS hlocks dX9_count_124
                    · replace hr := it_f hr c10
                      refine lv_tableOut (tgt := 125) hx hb dX9_count_1 (ts_out (fun i h1 h2 => ?_)) (by decide) ?_
                      · rcases (show i = 0 ∨ i = 1 ∨ i = 2 ∨ i = 3 ∨ i = 4 ∨ i = 5 ∨ i = 6 ∨ i = 7 ∨ i = 8 ∨ i = 9 by omega) with rfl | rfl | rfl | rfl | rfl | rfl | rfl | rfl | rfl | rfl
                        · exact ts_ne c1
                        · exact ts_ne c2
                        · exact ts_ne c3
                        · exact ts_ne c4
                        · exact ts_ne c5
                        · exact ts_ne c6
                        · exact ts_ne c7
                        · exact ts_ne c8
                        · exact ts_ne c9
                        · exact ts_ne c10
                      · skip
                        refine lv_iconst (v := (-1)) hx hb dX9_count_125 (by decide) ?_
                        have he := Option.some.inj hr
                        subst he
                        subst hQ
                        exact ret_i hx hb hrt hK hP hD hS hlocks dX9_count_126
