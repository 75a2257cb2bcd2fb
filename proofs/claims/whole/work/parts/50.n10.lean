def fX9_washed_L14 (K : Nat) (T_wokes : Int32) (T_rounds_1 : Int32) (T_st : (Nat → Int32)) (T_come_1 : (Nat → Int32)) (T_woke : (Nat → Int32)) : Nat → Int32 → Int32 → Option (Int32)
  | 0, _, _ => none
  | n1 + 1, x1, x2 =>
    if T_rounds_1 ≤ (x2 : Int32) then (
    some x1)
    else (
    bd1 (fX9_isWoken K x2 T_wokes T_woke T_st T_come_1) fun r =>
    bd1 (τ0 := Int32) (
    if (r : Int32) = 0 then (
    some 0)
    else (
    some 1)) fun y =>
    nm (x1 + y) fun x1_2 =>
    nm (x2 + 1) fun x2_1 =>
    fX9_washed_L14 K T_wokes T_rounds_1 T_st T_come_1 T_woke n1 x1_2 x2_1)
def fX9_washed (K : Nat) (T_guests : Int32) (T_wishes : Int32) (T_begins : Int32) (T_wokes : Int32) (T_here : Int32) (T_stands : Int32) (T_many : Int32) (T_rounds : Int32) (T_st : (Nat → Int32)) (T_wishA : (Nat → Int32)) (T_wishKind : (Nat → Int32)) (T_wishB : (Nat → Int32)) (T_order : (Nat → Int32)) (T_time : (Nat → Int32)) (T_place : (Nat → Int32)) (T_kinds : (Nat → Int32)) (T_endsAt : (Nat → Int32)) (T_keptBy : (Nat → Int32)) (T_come : (Nat → Int32)) (T_woke : (Nat → Int32)) : Option (Int32 × Int32 × Int32 × Int32 × Int32 × (Nat → Int32) × (Nat → Int32) × (Nat → Int32) × (Nat → Int32) × (Nat → Int32) × (Nat → Int32)) :=
    gd (¬ ((0 : Int32) < 0 ∨ 8 ≤ (0 : Int32).toNatClampNeg)) (
    bd10 (fX9_findRounds K (T_st (0 : Int32).toNatClampNeg) T_guests T_wishes T_begins T_here T_stands T_many T_rounds T_st T_wishA T_wishKind T_wishB T_order T_time T_place T_kinds T_endsAt T_keptBy T_come) fun T_here_1 T_stands_1 T_many_1 T_rounds_1 T_order_1 T_time_1 T_place_1 T_endsAt_1 T_keptBy_1 T_come_1 =>
    bd1 (fX9_washed_L14 K T_wokes T_rounds_1 T_st T_come_1 T_woke K 0 0) fun x1_1 =>
    some (x1_1, T_here_1, T_stands_1, T_many_1, T_rounds_1, T_order_1, T_time_1, T_place_1, T_endsAt_1, T_keptBy_1, T_come_1))
theorem mbX9_washed_0 : Cond.fieldLink RX9 22 "BootsAtDawnModel" "st" "[I" ∈ wsX9_washed := List.mem_of_getElem? (i := 1) rfl
theorem inX9_washed_X9 : ∀ w ∈ u_ws RX9 TX9 36, w ∈ wsX9_washed := fun _ h => (List.mem_cons_of_mem _ (List.mem_append_right _ h))
theorem mbX9_washed_2 : Cond.fieldLink RX9 197 "BootsAtDawnModel" "rounds" "I" ∈ wsX9_washed := List.mem_of_getElem? (i := 2) rfl
abbrev rmX9_washed : Room := { frames := 4, cells := 0, slots := 0, locals := 94 }
set_option maxHeartbeats 8000000 in
set_option maxRecDepth 100000 in
theorem kX9_washed (l : Launch) (dC : Nat → ClassId) (dI : Nat → Nat → Nat) (cC cI cJ : ClassId) (sz : Nat) (K : Nat) (a_T a_T_kinds a_T_wishKind a_T_wishA a_T_wishB a_T_st a_T_was a_T_kept a_T_woke a_T_text a_T_told a_T_readKinds a_T_readFloors a_T_readWishKind a_T_readWishA a_T_readWishB a_T_come a_T_keptBy a_T_endsAt a_T_order a_T_time a_T_place : Nat) (T_guests : Int32) (T_wishes : Int32) (T_begins : Int32) (T_acts : Int32) (T_keeps : Int32) (T_wokes : Int32) (T_texted : Int32) (T_at : Int32) (T_readGuests : Int32) (T_readWishes : Int32) (T_readBegins : Int32) (T_here : Int32) (T_stands : Int32) (T_many : Int32) (T_rounds : Int32) (T_st : (Nat → Int32)) (T_wishA : (Nat → Int32)) (T_wishKind : (Nat → Int32)) (T_wishB : (Nat → Int32)) (T_order : (Nat → Int32)) (T_time : (Nat → Int32)) (T_place : (Nat → Int32)) (T_kinds : (Nat → Int32)) (T_endsAt : (Nat → Int32)) (T_keptBy : (Nat → Int32)) (T_come : (Nat → Int32)) (T_woke : (Nat → Int32)) (R : Int32 × Int32 × Int32 × Int32 × Int32 × (Nat → Int32) × (Nat → Int32) × (Nat → Int32) × (Nat → Int32) × (Nat → Int32) × (Nat → Int32)) (hr : fX9_washed K T_guests T_wishes T_begins T_wokes T_here T_stands T_many T_rounds T_st T_wishA T_wishKind T_wishB T_order T_time T_place T_kinds T_endsAt T_keptBy T_come T_woke = some R) : Met l yX9_washed wsX9_washed rmX9_washed (va_Pc ([.ref a_T] : List Value) (PcW (dC, dI) (tysA cC cI cJ) sz [(a_T, .inr (9, [.int T_guests, .ref a_T_kinds, .int T_wishes, .ref a_T_wishKind, .ref a_T_wishA, .ref a_T_wishB, .int T_begins, .ref a_T_st, .int T_acts, .ref a_T_was, .int T_keeps, .ref a_T_kept, .int T_wokes, .ref a_T_woke, .ref a_T_text, .int T_texted, .int T_at, .ref a_T_told, .int T_readGuests, .ref a_T_readKinds, .ref a_T_readFloors, .int T_readWishes, .ref a_T_readWishKind, .ref a_T_readWishA, .ref a_T_readWishB, .int T_readBegins, .int T_here, .int T_stands, .int T_many, .int T_rounds, .ref a_T_come, .ref a_T_keptBy, .ref a_T_endsAt, .ref a_T_order, .ref a_T_time, .ref a_T_place])), (a_T_st, .inl (cI, 8, .inl T_st)), (a_T_wishA, .inl (cI, 9, .inl T_wishA)), (a_T_wishKind, .inl (cI, 9, .inl T_wishKind)), (a_T_wishB, .inl (cI, 9, .inl T_wishB)), (a_T_order, .inl (cI, 6, .inl T_order)), (a_T_time, .inl (cI, 6, .inl T_time)), (a_T_place, .inl (cI, 6, .inl T_place)), (a_T_kinds, .inl (cI, 6, .inl T_kinds)), (a_T_endsAt, .inl (cI, 720, .inl T_endsAt)), (a_T_keptBy, .inl (cI, 720, .inl T_keptBy)), (a_T_come, .inl (cI, 4320, .inl T_come)), (a_T_woke, .inl (cI, 12, .inl T_woke))])) (va_Qi (fun r (_ : Unit) => r = R.1) (fun _ => BW (dC, dI) (tysA cC cI cJ) (va_A [(a_T, .inr (9, [.int T_guests, .ref a_T_kinds, .int T_wishes, .ref a_T_wishKind, .ref a_T_wishA, .ref a_T_wishB, .int T_begins, .ref a_T_st, .int T_acts, .ref a_T_was, .int T_keeps, .ref a_T_kept, .int T_wokes, .ref a_T_woke, .ref a_T_text, .int T_texted, .int T_at, .ref a_T_told, .int T_readGuests, .ref a_T_readKinds, .ref a_T_readFloors, .int T_readWishes, .ref a_T_readWishKind, .ref a_T_readWishA, .ref a_T_readWishB, .int T_readBegins, .int T_here, .int T_stands, .int T_many, .int T_rounds, .ref a_T_come, .ref a_T_keptBy, .ref a_T_endsAt, .ref a_T_order, .ref a_T_time, .ref a_T_place])), (a_T_st, .inl (cI, 8, .inl T_st)), (a_T_wishA, .inl (cI, 9, .inl T_wishA)), (a_T_wishKind, .inl (cI, 9, .inl T_wishKind)), (a_T_wishB, .inl (cI, 9, .inl T_wishB)), (a_T_order, .inl (cI, 6, .inl T_order)), (a_T_time, .inl (cI, 6, .inl T_time)), (a_T_place, .inl (cI, 6, .inl T_place)), (a_T_kinds, .inl (cI, 6, .inl T_kinds)), (a_T_endsAt, .inl (cI, 720, .inl T_endsAt)), (a_T_keptBy, .inl (cI, 720, .inl T_keptBy)), (a_T_come, .inl (cI, 4320, .inl T_come)), (a_T_woke, .inl (cI, 12, .inl T_woke))] sz) [(a_T, .inr (9, [.int T_guests, .ref a_T_kinds, .int T_wishes, .ref a_T_wishKind, .ref a_T_wishA, .ref a_T_wishB, .int T_begins, .ref a_T_st, .int T_acts, .ref a_T_was, .int T_keeps, .ref a_T_kept, .int T_wokes, .ref a_T_woke, .ref a_T_text, .int T_texted, .int T_at, .ref a_T_told, .int T_readGuests, .ref a_T_readKinds, .ref a_T_readFloors, .int T_readWishes, .ref a_T_readWishKind, .ref a_T_readWishA, .ref a_T_readWishB, .int T_readBegins, .int R.2.1, .int R.2.2.1, .int R.2.2.2.1, .int R.2.2.2.2.1, .ref a_T_come, .ref a_T_keptBy, .ref a_T_endsAt, .ref a_T_order, .ref a_T_time, .ref a_T_place])), (a_T_st, .inl (cI, 8, .inl T_st)), (a_T_wishA, .inl (cI, 9, .inl T_wishA)), (a_T_wishKind, .inl (cI, 9, .inl T_wishKind)), (a_T_wishB, .inl (cI, 9, .inl T_wishB)), (a_T_order, .inl (cI, 6, .inl R.2.2.2.2.2.1)), (a_T_time, .inl (cI, 6, .inl R.2.2.2.2.2.2.1)), (a_T_place, .inl (cI, 6, .inl R.2.2.2.2.2.2.2.1)), (a_T_kinds, .inl (cI, 6, .inl T_kinds)), (a_T_endsAt, .inl (cI, 720, .inl R.2.2.2.2.2.2.2.2.1)), (a_T_keptBy, .inl (cI, 720, .inl R.2.2.2.2.2.2.2.2.2.1)), (a_T_come, .inl (cI, 4320, .inl R.2.2.2.2.2.2.2.2.2.2)), (a_T_woke, .inl (cI, 12, .inl T_woke))]) (va_A [(a_T, .inr (9, [.int T_guests, .ref a_T_kinds, .int T_wishes, .ref a_T_wishKind, .ref a_T_wishA, .ref a_T_wishB, .int T_begins, .ref a_T_st, .int T_acts, .ref a_T_was, .int T_keeps, .ref a_T_kept, .int T_wokes, .ref a_T_woke, .ref a_T_text, .int T_texted, .int T_at, .ref a_T_told, .int T_readGuests, .ref a_T_readKinds, .ref a_T_readFloors, .int T_readWishes, .ref a_T_readWishKind, .ref a_T_readWishA, .ref a_T_readWishB, .int T_readBegins, .int T_here, .int T_stands, .int T_many, .int T_rounds, .ref a_T_come, .ref a_T_keptBy, .ref a_T_endsAt, .ref a_T_order, .ref a_T_time, .ref a_T_place])), (a_T_st, .inl (cI, 8, .inl T_st)), (a_T_wishA, .inl (cI, 9, .inl T_wishA)), (a_T_wishKind, .inl (cI, 9, .inl T_wishKind)), (a_T_wishB, .inl (cI, 9, .inl T_wishB)), (a_T_order, .inl (cI, 6, .inl T_order)), (a_T_time, .inl (cI, 6, .inl T_time)), (a_T_place, .inl (cI, 6, .inl T_place)), (a_T_kinds, .inl (cI, 6, .inl T_kinds)), (a_T_endsAt, .inl (cI, 720, .inl T_endsAt)), (a_T_keptBy, .inl (cI, 720, .inl T_keptBy)), (a_T_come, .inl (cI, 4320, .inl T_come)), (a_T_woke, .inl (cI, 12, .inl T_woke))] sz)) 0 0 (va_A [(a_T, .inr (9, [.int T_guests, .ref a_T_kinds, .int T_wishes, .ref a_T_wishKind, .ref a_T_wishA, .ref a_T_wishB, .int T_begins, .ref a_T_st, .int T_acts, .ref a_T_was, .int T_keeps, .ref a_T_kept, .int T_wokes, .ref a_T_woke, .ref a_T_text, .int T_texted, .int T_at, .ref a_T_told, .int T_readGuests, .ref a_T_readKinds, .ref a_T_readFloors, .int T_readWishes, .ref a_T_readWishKind, .ref a_T_readWishA, .ref a_T_readWishB, .int T_readBegins, .int T_here, .int T_stands, .int T_many, .int T_rounds, .ref a_T_come, .ref a_T_keptBy, .ref a_T_endsAt, .ref a_T_order, .ref a_T_time, .ref a_T_place])), (a_T_st, .inl (cI, 8, .inl T_st)), (a_T_wishA, .inl (cI, 9, .inl T_wishA)), (a_T_wishKind, .inl (cI, 9, .inl T_wishKind)), (a_T_wishB, .inl (cI, 9, .inl T_wishB)), (a_T_order, .inl (cI, 6, .inl T_order)), (a_T_time, .inl (cI, 6, .inl T_time)), (a_T_place, .inl (cI, 6, .inl T_place)), (a_T_kinds, .inl (cI, 6, .inl T_kinds)), (a_T_endsAt, .inl (cI, 720, .inl T_endsAt)), (a_T_keptBy, .inl (cI, 720, .inl T_keptBy)), (a_T_come, .inl (cI, 4320, .inl T_come)), (a_T_woke, .inl (cI, 12, .inl T_woke))] sz) := by
  refine Met.ofW (cc := cX9_washed) (maxL := 3) (ret := (some .int)) (by decide) rfl ?_
  intro p e s m args below meth c s₁ B hml hv
  obtain ⟨rfl, hsz, hP, hK, hD0, hN⟩ := hv
  have hx := B.exec
  have hb := B.bytes
  have hrt := B.returns
  have hts := atoms_spec (ws := wsX9_washed) B.pre
  have hown : s.vm.findClass RX9 = some m.cls := findClass_of_methodNamed B.named
  have hlocks := B.notSynchronized
  subst hsz
  have hD := hD0.self (sz := s.heap.size)
  generalize hAe : va_A [(a_T, .inr (9, [.int T_guests, .ref a_T_kinds, .int T_wishes, .ref a_T_wishKind, .ref a_T_wishA, .ref a_T_wishB, .int T_begins, .ref a_T_st, .int T_acts, .ref a_T_was, .int T_keeps, .ref a_T_kept, .int T_wokes, .ref a_T_woke, .ref a_T_text, .int T_texted, .int T_at, .ref a_T_told, .int T_readGuests, .ref a_T_readKinds, .ref a_T_readFloors, .int T_readWishes, .ref a_T_readWishKind, .ref a_T_readWishA, .ref a_T_readWishB, .int T_readBegins, .int T_here, .int T_stands, .int T_many, .int T_rounds, .ref a_T_come, .ref a_T_keptBy, .ref a_T_endsAt, .ref a_T_order, .ref a_T_time, .ref a_T_place])), (a_T_st, .inl (cI, 8, .inl T_st)), (a_T_wishA, .inl (cI, 9, .inl T_wishA)), (a_T_wishKind, .inl (cI, 9, .inl T_wishKind)), (a_T_wishB, .inl (cI, 9, .inl T_wishB)), (a_T_order, .inl (cI, 6, .inl T_order)), (a_T_time, .inl (cI, 6, .inl T_time)), (a_T_place, .inl (cI, 6, .inl T_place)), (a_T_kinds, .inl (cI, 6, .inl T_kinds)), (a_T_endsAt, .inl (cI, 720, .inl T_endsAt)), (a_T_keptBy, .inl (cI, 720, .inl T_keptBy)), (a_T_come, .inl (cI, 4320, .inl T_come)), (a_T_woke, .inl (cI, 12, .inl T_woke))] s.heap.size = A at hD ⊢
  have hA : ∀ q : Nat, s.heap.size ≤ q → A q := fun q h => by rw [← hAe]; exact Or.inr h
  have hS : va_S A s.heap s.heap [] := va_S.rf
  have hl := lv_entry ([.ref a_T] : List Value) (n := 3) (Nat.le_of_ble_eq_true rfl)
  rw [lg_entry_eq]
  generalize (lg_sl ([.ref a_T] : List Value) ++ List.replicate (3 - (lg_sl ([.ref a_T] : List Value)).length) Slot.unset).toArray = ls at hl ⊢
  replace hl : lv_has ls 3 [(0, .ref a_T)] := hl
  obtain ⟨Q, hQ⟩ : ∃ Q, Q = MQ below (va_Qi (fun r (_ : Unit) => r = R.1) (fun _ => BW (dC, dI) (tysA cC cI cJ) A [(a_T, .inr (9, [.int T_guests, .ref a_T_kinds, .int T_wishes, .ref a_T_wishKind, .ref a_T_wishA, .ref a_T_wishB, .int T_begins, .ref a_T_st, .int T_acts, .ref a_T_was, .int T_keeps, .ref a_T_kept, .int T_wokes, .ref a_T_woke, .ref a_T_text, .int T_texted, .int T_at, .ref a_T_told, .int T_readGuests, .ref a_T_readKinds, .ref a_T_readFloors, .int T_readWishes, .ref a_T_readWishKind, .ref a_T_readWishA, .ref a_T_readWishB, .int T_readBegins, .int R.2.1, .int R.2.2.1, .int R.2.2.2.1, .int R.2.2.2.2.1, .ref a_T_come, .ref a_T_keptBy, .ref a_T_endsAt, .ref a_T_order, .ref a_T_time, .ref a_T_place])), (a_T_st, .inl (cI, 8, .inl T_st)), (a_T_wishA, .inl (cI, 9, .inl T_wishA)), (a_T_wishKind, .inl (cI, 9, .inl T_wishKind)), (a_T_wishB, .inl (cI, 9, .inl T_wishB)), (a_T_order, .inl (cI, 6, .inl R.2.2.2.2.2.1)), (a_T_time, .inl (cI, 6, .inl R.2.2.2.2.2.2.1)), (a_T_place, .inl (cI, 6, .inl R.2.2.2.2.2.2.2.1)), (a_T_kinds, .inl (cI, 6, .inl T_kinds)), (a_T_endsAt, .inl (cI, 720, .inl R.2.2.2.2.2.2.2.2.1)), (a_T_keptBy, .inl (cI, 720, .inl R.2.2.2.2.2.2.2.2.2.1)), (a_T_come, .inl (cI, 4320, .inl R.2.2.2.2.2.2.2.2.2.2)), (a_T_woke, .inl (cI, 12, .inl T_woke))]) A) ([.ref a_T] : List Value).toArray s 0 0 A := ⟨_, rfl⟩
  rw [← hQ]
  suffices hE : WG p l e rmX9_washed s m ([.ref a_T] : List Value).toArray below meth c 0 0 Q (dC, dI) A 0 3 [(a_T, .inr (9, [.int T_guests, .ref a_T_kinds, .int T_wishes, .ref a_T_wishKind, .ref a_T_wishA, .ref a_T_wishB, .int T_begins, .ref a_T_st, .int T_acts, .ref a_T_was, .int T_keeps, .ref a_T_kept, .int T_wokes, .ref a_T_woke, .ref a_T_text, .int T_texted, .int T_at, .ref a_T_told, .int T_readGuests, .ref a_T_readKinds, .ref a_T_readFloors, .int T_readWishes, .ref a_T_readWishKind, .ref a_T_readWishA, .ref a_T_readWishB, .int T_readBegins, .int T_here, .int T_stands, .int T_many, .int T_rounds, .ref a_T_come, .ref a_T_keptBy, .ref a_T_endsAt, .ref a_T_order, .ref a_T_time, .ref a_T_place])), (a_T_st, .inl (cI, 8, .inl T_st)), (a_T_wishA, .inl (cI, 9, .inl T_wishA)), (a_T_wishKind, .inl (cI, 9, .inl T_wishKind)), (a_T_wishB, .inl (cI, 9, .inl T_wishB)), (a_T_order, .inl (cI, 6, .inl T_order)), (a_T_time, .inl (cI, 6, .inl T_time)), (a_T_place, .inl (cI, 6, .inl T_place)), (a_T_kinds, .inl (cI, 6, .inl T_kinds)), (a_T_endsAt, .inl (cI, 720, .inl T_endsAt)), (a_T_keptBy, .inl (cI, 720, .inl T_keptBy)), (a_T_come, .inl (cI, 4320, .inl T_come)), (a_T_woke, .inl (cI, 12, .inl T_woke))] [(0, .ref a_T)] [] from hE _ _ _ hP hD hS hl
  clear hP hD hS hl hD0 hAe
  intro H locs ls hP hD hS hl
  unfold fX9_washed at hr
  refine lv_aload_n hx hb dX9_washed_0 rfl (lv_at hl 0 rfl) ?_
  refine lv_aload_n hx hb dX9_washed_1 rfl (lv_at hl 0 rfl) ?_
  refine va_get (D := (dC, dI)) (ci := 9) (v := .ref a_T_st) (C := RX9) (T := TX9) (N := 36) hx hb hts inX9_washed_X9 hown hK hP 0 rfl rfl 7 (by decide) (hts _ mbX9_washed_0) (fun _ h9 => h9) rfl dX9_washed_2 ?_
  refine lv_iconst (v := 0) hx hb dX9_washed_5 (by decide) ?_
  obtain ⟨g1, hr⟩ := gd_some hr
  refine va_iald hx hb hK hP 1 1 rfl rfl g1 dX9_washed_6 ?_
  obtain ⟨T_here_1, T_stands_1, T_many_1, T_rounds_1, T_order_1, T_time_1, T_place_1, T_endsAt_1, T_keptBy_1, T_come_1, hc1, hr⟩ := bd10_some hr
  refine call_v (D := (dC, dI)) (tys := tysA cC cI cJ) (wc := [(a_T, .inr (9, [.int T_guests, .ref a_T_kinds, .int T_wishes, .ref a_T_wishKind, .ref a_T_wishA, .ref a_T_wishB, .int T_begins, .ref a_T_st, .int T_acts, .ref a_T_was, .int T_keeps, .ref a_T_kept, .int T_wokes, .ref a_T_woke, .ref a_T_text, .int T_texted, .int T_at, .ref a_T_told, .int T_readGuests, .ref a_T_readKinds, .ref a_T_readFloors, .int T_readWishes, .ref a_T_readWishKind, .ref a_T_readWishA, .ref a_T_readWishB, .int T_readBegins, .int T_here, .int T_stands, .int T_many, .int T_rounds, .ref a_T_come, .ref a_T_keptBy, .ref a_T_endsAt, .ref a_T_order, .ref a_T_time, .ref a_T_place])), (a_T_st, .inl (cI, 8, .inl T_st)), (a_T_wishA, .inl (cI, 9, .inl T_wishA)), (a_T_wishKind, .inl (cI, 9, .inl T_wishKind)), (a_T_wishB, .inl (cI, 9, .inl T_wishB)), (a_T_order, .inl (cI, 6, .inl T_order)), (a_T_time, .inl (cI, 6, .inl T_time)), (a_T_place, .inl (cI, 6, .inl T_place)), (a_T_kinds, .inl (cI, 6, .inl T_kinds)), (a_T_endsAt, .inl (cI, 720, .inl T_endsAt)), (a_T_keptBy, .inl (cI, 720, .inl T_keptBy)), (a_T_come, .inl (cI, 4320, .inl T_come))]) (wr := [(a_T_woke, .inl (cI, 12, .inl T_woke))]) (w1 := [(a_T, .inr (9, [.int T_guests, .ref a_T_kinds, .int T_wishes, .ref a_T_wishKind, .ref a_T_wishA, .ref a_T_wishB, .int T_begins, .ref a_T_st, .int T_acts, .ref a_T_was, .int T_keeps, .ref a_T_kept, .int T_wokes, .ref a_T_woke, .ref a_T_text, .int T_texted, .int T_at, .ref a_T_told, .int T_readGuests, .ref a_T_readKinds, .ref a_T_readFloors, .int T_readWishes, .ref a_T_readWishKind, .ref a_T_readWishA, .ref a_T_readWishB, .int T_readBegins, .int T_here_1, .int T_stands_1, .int T_many_1, .int T_rounds_1, .ref a_T_come, .ref a_T_keptBy, .ref a_T_endsAt, .ref a_T_order, .ref a_T_time, .ref a_T_place])), (a_T_st, .inl (cI, 8, .inl T_st)), (a_T_wishA, .inl (cI, 9, .inl T_wishA)), (a_T_wishKind, .inl (cI, 9, .inl T_wishKind)), (a_T_wishB, .inl (cI, 9, .inl T_wishB)), (a_T_order, .inl (cI, 6, .inl T_order_1)), (a_T_time, .inl (cI, 6, .inl T_time_1)), (a_T_place, .inl (cI, 6, .inl T_place_1)), (a_T_kinds, .inl (cI, 6, .inl T_kinds)), (a_T_endsAt, .inl (cI, 720, .inl T_endsAt_1)), (a_T_keptBy, .inl (cI, 720, .inl T_keptBy_1)), (a_T_come, .inl (cI, 4320, .inl T_come_1))]) (wn := [(a_T, .inr (9, [.int T_guests, .ref a_T_kinds, .int T_wishes, .ref a_T_wishKind, .ref a_T_wishA, .ref a_T_wishB, .int T_begins, .ref a_T_st, .int T_acts, .ref a_T_was, .int T_keeps, .ref a_T_kept, .int T_wokes, .ref a_T_woke, .ref a_T_text, .int T_texted, .int T_at, .ref a_T_told, .int T_readGuests, .ref a_T_readKinds, .ref a_T_readFloors, .int T_readWishes, .ref a_T_readWishKind, .ref a_T_readWishA, .ref a_T_readWishB, .int T_readBegins, .int T_here_1, .int T_stands_1, .int T_many_1, .int T_rounds_1, .ref a_T_come, .ref a_T_keptBy, .ref a_T_endsAt, .ref a_T_order, .ref a_T_time, .ref a_T_place])), (a_T_st, .inl (cI, 8, .inl T_st)), (a_T_wishA, .inl (cI, 9, .inl T_wishA)), (a_T_wishKind, .inl (cI, 9, .inl T_wishKind)), (a_T_wishB, .inl (cI, 9, .inl T_wishB)), (a_T_order, .inl (cI, 6, .inl T_order_1)), (a_T_time, .inl (cI, 6, .inl T_time_1)), (a_T_place, .inl (cI, 6, .inl T_place_1)), (a_T_kinds, .inl (cI, 6, .inl T_kinds)), (a_T_endsAt, .inl (cI, 720, .inl T_endsAt_1)), (a_T_keptBy, .inl (cI, 720, .inl T_keptBy_1)), (a_T_come, .inl (cI, 4320, .inl T_come_1)), (a_T_woke, .inl (cI, 12, .inl T_woke))]) hP hD hS hA [0, 1, 2, 3, 4, 5, 6, 7, 8, 9, 10, 11] [12] [1, 2, 3, 4, 5, 6, 7, 8, 9, 10, 11, 12, 0] rfl rfl (by decide +kernel) (by decide +kernel) rfl (by decide +kernel) (va_runV (As := [.int (T_st (0 : Int32).toNatClampNeg)]) (rest := []) ⟨hx, hb, hml, hown, hts⟩ (kX9_findRounds l dC dI cC cI cJ H.size K a_T a_T_kinds a_T_wishKind a_T_wishA a_T_wishB a_T_st a_T_was a_T_kept a_T_woke a_T_text a_T_told a_T_readKinds a_T_readFloors a_T_readWishKind a_T_readWishA a_T_readWishB a_T_come a_T_keptBy a_T_endsAt a_T_order a_T_time a_T_place (T_st (0 : Int32).toNatClampNeg) T_guests T_wishes T_begins T_acts T_keeps T_wokes T_texted T_at T_readGuests T_readWishes T_readBegins T_here T_stands T_many T_rounds T_st T_wishA T_wishKind T_wishB T_order T_time T_place T_kinds T_endsAt T_keptBy T_come (T_here_1, T_stands_1, T_many_1, T_rounds_1, T_order_1, T_time_1, T_place_1, T_endsAt_1, T_keptBy_1, T_come_1) hc1) (cwV 1 hts gX9_washed_X9_findRounds rfl rfl rfl (by decide +kernel) ⟨Nat.le_of_ble_eq_true rfl, Nat.le_of_ble_eq_true rfl⟩) ⟨fbW, va_recv hK hP (ci := 9) (q0 := 0) rfl rfl, preW hP hD hK hN [0, 1, 2, 3, 4, 5, 6, 7, 8, 9, 10, 11] rfl (by decide +kernel)⟩ rfl rfl hl.1 rfl (lv_room (Nat.le_of_ble_eq_true rfl)) dX9_washed_7 ⟨Nat.zero_le _, Nat.zero_le _⟩) (fun H locs hP hD hS => ?_)
  refine lv_iconst (v := 0) hx hb dX9_washed_10 (by decide) ?_
  refine lv_istore_n (lv' := [(1, .int 0), (0, .ref a_T)]) hx hb dX9_washed_11 rfl hl (by decide) rfl (fun ls hl => ?_)
  refine lv_iconst (v := 0) hx hb dX9_washed_12 (by decide) ?_
  refine lv_istore_n (lv' := [(2, .int 0), (1, .int 0), (0, .ref a_T)]) hx hb dX9_washed_13 rfl hl (by decide) rfl (fun ls hl => ?_)
  have hL1 : ∀ (n1 : Nat) (x1 : Int32) (x2 : Int32) (x1_1 : Int32), fX9_washed_L14 K T_wokes T_rounds_1 T_st T_come_1 T_woke n1 x1 x2 = some x1_1 → WG p l e rmX9_washed s m ([.ref a_T] : List Value).toArray below meth c 0 0 Q (dC, dI) A 44 3 [(a_T, .inr (9, [.int T_guests, .ref a_T_kinds, .int T_wishes, .ref a_T_wishKind, .ref a_T_wishA, .ref a_T_wishB, .int T_begins, .ref a_T_st, .int T_acts, .ref a_T_was, .int T_keeps, .ref a_T_kept, .int T_wokes, .ref a_T_woke, .ref a_T_text, .int T_texted, .int T_at, .ref a_T_told, .int T_readGuests, .ref a_T_readKinds, .ref a_T_readFloors, .int T_readWishes, .ref a_T_readWishKind, .ref a_T_readWishA, .ref a_T_readWishB, .int T_readBegins, .int T_here_1, .int T_stands_1, .int T_many_1, .int T_rounds_1, .ref a_T_come, .ref a_T_keptBy, .ref a_T_endsAt, .ref a_T_order, .ref a_T_time, .ref a_T_place])), (a_T_st, .inl (cI, 8, .inl T_st)), (a_T_wishA, .inl (cI, 9, .inl T_wishA)), (a_T_wishKind, .inl (cI, 9, .inl T_wishKind)), (a_T_wishB, .inl (cI, 9, .inl T_wishB)), (a_T_order, .inl (cI, 6, .inl T_order_1)), (a_T_time, .inl (cI, 6, .inl T_time_1)), (a_T_place, .inl (cI, 6, .inl T_place_1)), (a_T_kinds, .inl (cI, 6, .inl T_kinds)), (a_T_endsAt, .inl (cI, 720, .inl T_endsAt_1)), (a_T_keptBy, .inl (cI, 720, .inl T_keptBy_1)), (a_T_come, .inl (cI, 4320, .inl T_come_1)), (a_T_woke, .inl (cI, 12, .inl T_woke))] [(1, .int x1_1)] [] → WG p l e rmX9_washed s m ([.ref a_T] : List Value).toArray below meth c 0 0 Q (dC, dI) A 14 3 [(a_T, .inr (9, [.int T_guests, .ref a_T_kinds, .int T_wishes, .ref a_T_wishKind, .ref a_T_wishA, .ref a_T_wishB, .int T_begins, .ref a_T_st, .int T_acts, .ref a_T_was, .int T_keeps, .ref a_T_kept, .int T_wokes, .ref a_T_woke, .ref a_T_text, .int T_texted, .int T_at, .ref a_T_told, .int T_readGuests, .ref a_T_readKinds, .ref a_T_readFloors, .int T_readWishes, .ref a_T_readWishKind, .ref a_T_readWishA, .ref a_T_readWishB, .int T_readBegins, .int T_here_1, .int T_stands_1, .int T_many_1, .int T_rounds_1, .ref a_T_come, .ref a_T_keptBy, .ref a_T_endsAt, .ref a_T_order, .ref a_T_time, .ref a_T_place])), (a_T_st, .inl (cI, 8, .inl T_st)), (a_T_wishA, .inl (cI, 9, .inl T_wishA)), (a_T_wishKind, .inl (cI, 9, .inl T_wishKind)), (a_T_wishB, .inl (cI, 9, .inl T_wishB)), (a_T_order, .inl (cI, 6, .inl T_order_1)), (a_T_time, .inl (cI, 6, .inl T_time_1)), (a_T_place, .inl (cI, 6, .inl T_place_1)), (a_T_kinds, .inl (cI, 6, .inl T_kinds)), (a_T_endsAt, .inl (cI, 720, .inl T_endsAt_1)), (a_T_keptBy, .inl (cI, 720, .inl T_keptBy_1)), (a_T_come, .inl (cI, 4320, .inl T_come_1)), (a_T_woke, .inl (cI, 12, .inl T_woke))] [(0, .ref a_T), (1, .int x1), (2, .int x2)] [] := by
    intro n1
    induction n1 with
    | zero =>
      intro x1 x2 x1_1 hr
      rw [fX9_washed_L14] at hr
      cases hr
    | succ n1 ih14 =>
      intro x1 x2 x1_1 hr hX1 H locs ls hP hD hS hl
      rw [fX9_washed_L14] at hr
      refine lv_iload_n hx hb dX9_washed_14 rfl (lv_at hl 2 rfl) ?_
      refine lv_aload_n hx hb dX9_washed_15 rfl (lv_at hl 0 rfl) ?_
      refine va_get (D := (dC, dI)) (ci := 9) (v := .int T_rounds_1) (C := RX9) (T := TX9) (N := 36) hx hb hts inX9_washed_X9 hown hK hP 0 rfl rfl 29 (by decide) (hts _ mbX9_washed_2) (fun _ h9 => h9) rfl dX9_washed_16 ?_
      refine lv_icmp_ge (tgt := 44) hx hb dX9_washed_19 (by decide) (fun c1 => ?_) (fun c1 => ?_)
      · replace hr := it_t hr c1
        have he := Option.some.inj hr
        cases he
        exact hX1 H locs ls hP hD hS (lv_sub hl [1] rfl)
      · replace hr := it_f hr c1
        refine lv_iload_n hx hb dX9_washed_22 rfl (lv_at hl 1 rfl) ?_
        refine lv_aload_n hx hb dX9_washed_23 rfl (lv_at hl 0 rfl) ?_
        refine lv_iload_n hx hb dX9_washed_24 rfl (lv_at hl 2 rfl) ?_
        obtain ⟨r, hc2, hr⟩ := bd1_some hr
        refine call_i (D := (dC, dI)) (tys := tysA cC cI cJ) (wc := [(a_T, .inr (9, [.int T_guests, .ref a_T_kinds, .int T_wishes, .ref a_T_wishKind, .ref a_T_wishA, .ref a_T_wishB, .int T_begins, .ref a_T_st, .int T_acts, .ref a_T_was, .int T_keeps, .ref a_T_kept, .int T_wokes, .ref a_T_woke, .ref a_T_text, .int T_texted, .int T_at, .ref a_T_told, .int T_readGuests, .ref a_T_readKinds, .ref a_T_readFloors, .int T_readWishes, .ref a_T_readWishKind, .ref a_T_readWishA, .ref a_T_readWishB, .int T_readBegins, .int T_here_1, .int T_stands_1, .int T_many_1, .int T_rounds_1, .ref a_T_come, .ref a_T_keptBy, .ref a_T_endsAt, .ref a_T_order, .ref a_T_time, .ref a_T_place])), (a_T_woke, .inl (cI, 12, .inl T_woke)), (a_T_st, .inl (cI, 8, .inl T_st)), (a_T_come, .inl (cI, 4320, .inl T_come_1))]) (wr := [(a_T_wishA, .inl (cI, 9, .inl T_wishA)), (a_T_wishKind, .inl (cI, 9, .inl T_wishKind)), (a_T_wishB, .inl (cI, 9, .inl T_wishB)), (a_T_order, .inl (cI, 6, .inl T_order_1)), (a_T_time, .inl (cI, 6, .inl T_time_1)), (a_T_place, .inl (cI, 6, .inl T_place_1)), (a_T_kinds, .inl (cI, 6, .inl T_kinds)), (a_T_endsAt, .inl (cI, 720, .inl T_endsAt_1)), (a_T_keptBy, .inl (cI, 720, .inl T_keptBy_1))]) (w1 := [(a_T, .inr (9, [.int T_guests, .ref a_T_kinds, .int T_wishes, .ref a_T_wishKind, .ref a_T_wishA, .ref a_T_wishB, .int T_begins, .ref a_T_st, .int T_acts, .ref a_T_was, .int T_keeps, .ref a_T_kept, .int T_wokes, .ref a_T_woke, .ref a_T_text, .int T_texted, .int T_at, .ref a_T_told, .int T_readGuests, .ref a_T_readKinds, .ref a_T_readFloors, .int T_readWishes, .ref a_T_readWishKind, .ref a_T_readWishA, .ref a_T_readWishB, .int T_readBegins, .int T_here_1, .int T_stands_1, .int T_many_1, .int T_rounds_1, .ref a_T_come, .ref a_T_keptBy, .ref a_T_endsAt, .ref a_T_order, .ref a_T_time, .ref a_T_place])), (a_T_woke, .inl (cI, 12, .inl T_woke)), (a_T_st, .inl (cI, 8, .inl T_st)), (a_T_come, .inl (cI, 4320, .inl T_come_1))]) (wn := [(a_T, .inr (9, [.int T_guests, .ref a_T_kinds, .int T_wishes, .ref a_T_wishKind, .ref a_T_wishA, .ref a_T_wishB, .int T_begins, .ref a_T_st, .int T_acts, .ref a_T_was, .int T_keeps, .ref a_T_kept, .int T_wokes, .ref a_T_woke, .ref a_T_text, .int T_texted, .int T_at, .ref a_T_told, .int T_readGuests, .ref a_T_readKinds, .ref a_T_readFloors, .int T_readWishes, .ref a_T_readWishKind, .ref a_T_readWishA, .ref a_T_readWishB, .int T_readBegins, .int T_here_1, .int T_stands_1, .int T_many_1, .int T_rounds_1, .ref a_T_come, .ref a_T_keptBy, .ref a_T_endsAt, .ref a_T_order, .ref a_T_time, .ref a_T_place])), (a_T_st, .inl (cI, 8, .inl T_st)), (a_T_wishA, .inl (cI, 9, .inl T_wishA)), (a_T_wishKind, .inl (cI, 9, .inl T_wishKind)), (a_T_wishB, .inl (cI, 9, .inl T_wishB)), (a_T_order, .inl (cI, 6, .inl T_order_1)), (a_T_time, .inl (cI, 6, .inl T_time_1)), (a_T_place, .inl (cI, 6, .inl T_place_1)), (a_T_kinds, .inl (cI, 6, .inl T_kinds)), (a_T_endsAt, .inl (cI, 720, .inl T_endsAt_1)), (a_T_keptBy, .inl (cI, 720, .inl T_keptBy_1)), (a_T_come, .inl (cI, 4320, .inl T_come_1)), (a_T_woke, .inl (cI, 12, .inl T_woke))]) (r0 := r) hP hD hS hA [0, 12, 1, 11] [2, 3, 4, 5, 6, 7, 8, 9, 10] [9, 11, 0, 1, 2, 3, 4, 5, 6, 7, 8, 12, 10] rfl rfl (by decide +kernel) (by decide +kernel) rfl (by decide +kernel) (va_runV (As := [.int x2]) (rest := [.int x1]) ⟨hx, hb, hml, hown, hts⟩ (kX9_isWoken l dC dI cC cI cJ H.size K a_T a_T_kinds a_T_wishKind a_T_wishA a_T_wishB a_T_st a_T_was a_T_kept a_T_woke a_T_text a_T_told a_T_readKinds a_T_readFloors a_T_readWishKind a_T_readWishA a_T_readWishB a_T_come a_T_keptBy a_T_endsAt a_T_order a_T_time a_T_place x2 T_guests T_wishes T_begins T_acts T_keeps T_wokes T_texted T_at T_readGuests T_readWishes T_readBegins T_here_1 T_stands_1 T_many_1 T_rounds_1 T_woke T_st T_come_1 r hc2) (cwV 1 hts gX9_washed_X9_isWoken rfl rfl rfl (by decide +kernel) ⟨Nat.le_of_ble_eq_true rfl, Nat.le_of_ble_eq_true rfl⟩) ⟨fbW, va_recv hK hP (ci := 9) (q0 := 0) rfl rfl, preW hP hD hK hN [0, 12, 1, 11] rfl (by decide +kernel)⟩ rfl rfl hl.1 rfl (lv_room (Nat.le_of_ble_eq_true rfl)) dX9_washed_25 ⟨Nat.zero_le _, Nat.zero_le _⟩) (fun H locs hP hD hS => ?_)
        obtain ⟨y, hj1, hr⟩ := bd1_some hr
        have hJ1 : WG p l e rmX9_washed s m ([.ref a_T] : List Value).toArray below meth c 0 0 Q (dC, dI) A 36 3 [(a_T, .inr (9, [.int T_guests, .ref a_T_kinds, .int T_wishes, .ref a_T_wishKind, .ref a_T_wishA, .ref a_T_wishB, .int T_begins, .ref a_T_st, .int T_acts, .ref a_T_was, .int T_keeps, .ref a_T_kept, .int T_wokes, .ref a_T_woke, .ref a_T_text, .int T_texted, .int T_at, .ref a_T_told, .int T_readGuests, .ref a_T_readKinds, .ref a_T_readFloors, .int T_readWishes, .ref a_T_readWishKind, .ref a_T_readWishA, .ref a_T_readWishB, .int T_readBegins, .int T_here_1, .int T_stands_1, .int T_many_1, .int T_rounds_1, .ref a_T_come, .ref a_T_keptBy, .ref a_T_endsAt, .ref a_T_order, .ref a_T_time, .ref a_T_place])), (a_T_st, .inl (cI, 8, .inl T_st)), (a_T_wishA, .inl (cI, 9, .inl T_wishA)), (a_T_wishKind, .inl (cI, 9, .inl T_wishKind)), (a_T_wishB, .inl (cI, 9, .inl T_wishB)), (a_T_order, .inl (cI, 6, .inl T_order_1)), (a_T_time, .inl (cI, 6, .inl T_time_1)), (a_T_place, .inl (cI, 6, .inl T_place_1)), (a_T_kinds, .inl (cI, 6, .inl T_kinds)), (a_T_endsAt, .inl (cI, 720, .inl T_endsAt_1)), (a_T_keptBy, .inl (cI, 720, .inl T_keptBy_1)), (a_T_come, .inl (cI, 4320, .inl T_come_1)), (a_T_woke, .inl (cI, 12, .inl T_woke))] [(0, .ref a_T), (2, .int x2)] [.int y, .int x1] := by
          intro H locs ls hP hD hS hl
          refine lv_iadd hx hb dX9_washed_36 ?_
          obtain ⟨x1_2, e1, hr⟩ := nm_el hr
          refine lv_nmi e1 ?_
          refine lv_istore_n (lv' := [(1, .int x1_2), (0, .ref a_T), (2, .int x2)]) hx hb dX9_washed_37 rfl hl (by decide) rfl (fun ls hl => ?_)
          obtain ⟨x2_1, e2, hr⟩ := nm_el hr
          refine lv_iinc (v := x2_1) (lv' := [(2, .int x2_1), (1, .int x1_2), (0, .ref a_T)]) hx hb dX9_washed_38 hl (k := 2) rfl e2.symm (by decide) rfl (fun ls hl => ?_)
          refine lv_goto (tgt := 14) hx hb dX9_washed_41 (by decide) ?_
          exact ih14 _ _ _ hr hX1 H locs ls hP hD hS (lv_sub hl [2, 1, 0] rfl)
        replace hr := hj1
        refine lv_if_eq (tgt := 35) hx hb dX9_washed_28 (by decide) (fun c2 => ?_) (fun c2 => ?_)
        · replace hr := it_t hr c2
          refine lv_iconst (v := 0) hx hb dX9_washed_35 (by decide) ?_
          cases hr
          exact hJ1 H locs ls hP hD hS (lv_sub hl [0, 2] rfl)
        · replace hr := it_f hr c2
          refine lv_iconst (v := 1) hx hb dX9_washed_31 (by decide) ?_
          refine lv_goto (tgt := 36) hx hb dX9_washed_32 (by decide) ?_
          cases hr
          exact hJ1 H locs ls hP hD hS (lv_sub hl [0, 2] rfl)
  obtain ⟨x1_1, hE, hr⟩ := bd1_some hr
  refine hL1 K 0 0 x1_1 hE ?_ H locs ls hP hD hS (lv_sub hl [2, 1, 0] rfl)
  intro H locs ls hP hD hS hl
  refine lv_iload_n hx hb dX9_washed_44 rfl (lv_at hl 0 rfl) ?_
  have he := Option.some.inj hr
  subst he
  subst hQ
  exact ret_i hx hb hrt hK hP hD hS hlocks dX9_washed_45
def fX9_endsWith_L10 (K : Nat) (x1 : Int32) (T_guests : Int32) (T_st : (Nat → Int32)) (T_kinds : (Nat → Int32)) : Nat → Int32 → Int32 → Int32 → Option (Int32 × Int32)
  | 0, _, _, _ => none
  | n1 + 1, x2, x3, x4 =>
    if T_guests ≤ (x4 : Int32) then (
    some (x2, x3))
    else (
    bd1 (fX9_has K x1 x4) fun r =>
    bd2 (τ0 := Int32) (τ1 := Int32) (
    if (r : Int32) = 0 then (
    some (x2, x3))
    else (
    gd (¬ (((2 + x4) : Int32) < 0 ∨ 8 ≤ (2 + x4).toNatClampNeg)) (
    bd1 (τ0 := Int32) (
    if ((T_st (2 + x4).toNatClampNeg) : Int32) ≤ x2 then (
    some x2)
    else (
    gd (¬ (((2 + x4) : Int32) < 0 ∨ 8 ≤ (2 + x4).toNatClampNeg)) (
    some (T_st (2 + x4).toNatClampNeg)))) fun y =>
    bd1 (fX9_wakes K x4 T_kinds T_st) fun r_1 =>
    nm (x3 + r_1) fun x3_2 =>
    some (y, x3_2)))) fun x2_2 x3_3 =>
    nm (x4 + 1) fun x4_1 =>
    fX9_endsWith_L10 K x1 T_guests T_st T_kinds n1 x2_2 x3_3 x4_1)
def fX9_endsWith (K : Nat) (x1 : Int32) (T_guests : Int32) (T_begins : Int32) (T_st : (Nat → Int32)) (T_kinds : (Nat → Int32)) : Option (Int32) :=
    bd2 (fX9_endsWith_L10 K x1 T_guests T_st T_kinds K 0 T_begins 0) fun x2_1 x3_1 =>
    some (x3_1 + x2_1)
theorem mbX9_endsWith_0 : Cond.fieldLink RX9 148 "BootsAtDawnModel" "begins" "I" ∈ wsX9_endsWith := List.mem_of_getElem? (i := 1) rfl
theorem inX9_endsWith_X9 : ∀ w ∈ u_ws RX9 TX9 36, w ∈ wsX9_endsWith := fun _ h => (List.mem_cons_of_mem _ (List.mem_append_right _ h))
theorem mbX9_endsWith_2 : Cond.fieldLink RX9 97 "BootsAtDawnModel" "guests" "I" ∈ wsX9_endsWith := List.mem_of_getElem? (i := 2) rfl
theorem mbX9_endsWith_3 : Cond.fieldLink RX9 22 "BootsAtDawnModel" "st" "[I" ∈ wsX9_endsWith := List.mem_of_getElem? (i := 3) rfl
abbrev rmX9_endsWith : Room := { frames := 1, cells := 0, slots := 0, locals := 21 }
set_option maxHeartbeats 8000000 in
set_option maxRecDepth 100000 in
theorem kX9_endsWith (l : Launch) (dC : Nat → ClassId) (dI : Nat → Nat → Nat) (cC cI cJ : ClassId) (sz : Nat) (K : Nat) (a_T a_T_kinds a_T_wishKind a_T_wishA a_T_wishB a_T_st a_T_was a_T_kept a_T_woke a_T_text a_T_told a_T_readKinds a_T_readFloors a_T_readWishKind a_T_readWishA a_T_readWishB a_T_come a_T_keptBy a_T_endsAt a_T_order a_T_time a_T_place : Nat) (x1 : Int32) (T_guests : Int32) (T_wishes : Int32) (T_begins : Int32) (T_acts : Int32) (T_keeps : Int32) (T_wokes : Int32) (T_texted : Int32) (T_at : Int32) (T_readGuests : Int32) (T_readWishes : Int32) (T_readBegins : Int32) (T_here : Int32) (T_stands : Int32) (T_many : Int32) (T_rounds : Int32) (T_st : (Nat → Int32)) (T_kinds : (Nat → Int32)) (R : Int32) (hr : fX9_endsWith K x1 T_guests T_begins T_st T_kinds = some R) : Met l yX9_endsWith wsX9_endsWith rmX9_endsWith (va_Pc ([.ref a_T, .int x1] : List Value) (PcW (dC, dI) (tysA cC cI cJ) sz [(a_T, .inr (9, [.int T_guests, .ref a_T_kinds, .int T_wishes, .ref a_T_wishKind, .ref a_T_wishA, .ref a_T_wishB, .int T_begins, .ref a_T_st, .int T_acts, .ref a_T_was, .int T_keeps, .ref a_T_kept, .int T_wokes, .ref a_T_woke, .ref a_T_text, .int T_texted, .int T_at, .ref a_T_told, .int T_readGuests, .ref a_T_readKinds, .ref a_T_readFloors, .int T_readWishes, .ref a_T_readWishKind, .ref a_T_readWishA, .ref a_T_readWishB, .int T_readBegins, .int T_here, .int T_stands, .int T_many, .int T_rounds, .ref a_T_come, .ref a_T_keptBy, .ref a_T_endsAt, .ref a_T_order, .ref a_T_time, .ref a_T_place])), (a_T_st, .inl (cI, 8, .inl T_st)), (a_T_kinds, .inl (cI, 6, .inl T_kinds))])) (va_Qi (fun r (_ : Unit) => r = R) (fun _ => BW (dC, dI) (tysA cC cI cJ) (va_A [(a_T, .inr (9, [.int T_guests, .ref a_T_kinds, .int T_wishes, .ref a_T_wishKind, .ref a_T_wishA, .ref a_T_wishB, .int T_begins, .ref a_T_st, .int T_acts, .ref a_T_was, .int T_keeps, .ref a_T_kept, .int T_wokes, .ref a_T_woke, .ref a_T_text, .int T_texted, .int T_at, .ref a_T_told, .int T_readGuests, .ref a_T_readKinds, .ref a_T_readFloors, .int T_readWishes, .ref a_T_readWishKind, .ref a_T_readWishA, .ref a_T_readWishB, .int T_readBegins, .int T_here, .int T_stands, .int T_many, .int T_rounds, .ref a_T_come, .ref a_T_keptBy, .ref a_T_endsAt, .ref a_T_order, .ref a_T_time, .ref a_T_place])), (a_T_st, .inl (cI, 8, .inl T_st)), (a_T_kinds, .inl (cI, 6, .inl T_kinds))] sz) [(a_T, .inr (9, [.int T_guests, .ref a_T_kinds, .int T_wishes, .ref a_T_wishKind, .ref a_T_wishA, .ref a_T_wishB, .int T_begins, .ref a_T_st, .int T_acts, .ref a_T_was, .int T_keeps, .ref a_T_kept, .int T_wokes, .ref a_T_woke, .ref a_T_text, .int T_texted, .int T_at, .ref a_T_told, .int T_readGuests, .ref a_T_readKinds, .ref a_T_readFloors, .int T_readWishes, .ref a_T_readWishKind, .ref a_T_readWishA, .ref a_T_readWishB, .int T_readBegins, .int T_here, .int T_stands, .int T_many, .int T_rounds, .ref a_T_come, .ref a_T_keptBy, .ref a_T_endsAt, .ref a_T_order, .ref a_T_time, .ref a_T_place])), (a_T_st, .inl (cI, 8, .inl T_st)), (a_T_kinds, .inl (cI, 6, .inl T_kinds))]) (va_A [(a_T, .inr (9, [.int T_guests, .ref a_T_kinds, .int T_wishes, .ref a_T_wishKind, .ref a_T_wishA, .ref a_T_wishB, .int T_begins, .ref a_T_st, .int T_acts, .ref a_T_was, .int T_keeps, .ref a_T_kept, .int T_wokes, .ref a_T_woke, .ref a_T_text, .int T_texted, .int T_at, .ref a_T_told, .int T_readGuests, .ref a_T_readKinds, .ref a_T_readFloors, .int T_readWishes, .ref a_T_readWishKind, .ref a_T_readWishA, .ref a_T_readWishB, .int T_readBegins, .int T_here, .int T_stands, .int T_many, .int T_rounds, .ref a_T_come, .ref a_T_keptBy, .ref a_T_endsAt, .ref a_T_order, .ref a_T_time, .ref a_T_place])), (a_T_st, .inl (cI, 8, .inl T_st)), (a_T_kinds, .inl (cI, 6, .inl T_kinds))] sz)) 0 0 (va_A [(a_T, .inr (9, [.int T_guests, .ref a_T_kinds, .int T_wishes, .ref a_T_wishKind, .ref a_T_wishA, .ref a_T_wishB, .int T_begins, .ref a_T_st, .int T_acts, .ref a_T_was, .int T_keeps, .ref a_T_kept, .int T_wokes, .ref a_T_woke, .ref a_T_text, .int T_texted, .int T_at, .ref a_T_told, .int T_readGuests, .ref a_T_readKinds, .ref a_T_readFloors, .int T_readWishes, .ref a_T_readWishKind, .ref a_T_readWishA, .ref a_T_readWishB, .int T_readBegins, .int T_here, .int T_stands, .int T_many, .int T_rounds, .ref a_T_come, .ref a_T_keptBy, .ref a_T_endsAt, .ref a_T_order, .ref a_T_time, .ref a_T_place])), (a_T_st, .inl (cI, 8, .inl T_st)), (a_T_kinds, .inl (cI, 6, .inl T_kinds))] sz) := by
  refine Met.ofW (cc := cX9_endsWith) (maxL := 5) (ret := (some .int)) (by decide) rfl ?_
  intro p e s m args below meth c s₁ B hml hv
  obtain ⟨rfl, hsz, hP, hK, hD0, hN⟩ := hv
  have hx := B.exec
  have hb := B.bytes
  have hrt := B.returns
  have hts := atoms_spec (ws := wsX9_endsWith) B.pre
  have hown : s.vm.findClass RX9 = some m.cls := findClass_of_methodNamed B.named
  have hlocks := B.notSynchronized
  subst hsz
  have hD := hD0.self (sz := s.heap.size)
  generalize hAe : va_A [(a_T, .inr (9, [.int T_guests, .ref a_T_kinds, .int T_wishes, .ref a_T_wishKind, .ref a_T_wishA, .ref a_T_wishB, .int T_begins, .ref a_T_st, .int T_acts, .ref a_T_was, .int T_keeps, .ref a_T_kept, .int T_wokes, .ref a_T_woke, .ref a_T_text, .int T_texted, .int T_at, .ref a_T_told, .int T_readGuests, .ref a_T_readKinds, .ref a_T_readFloors, .int T_readWishes, .ref a_T_readWishKind, .ref a_T_readWishA, .ref a_T_readWishB, .int T_readBegins, .int T_here, .int T_stands, .int T_many, .int T_rounds, .ref a_T_come, .ref a_T_keptBy, .ref a_T_endsAt, .ref a_T_order, .ref a_T_time, .ref a_T_place])), (a_T_st, .inl (cI, 8, .inl T_st)), (a_T_kinds, .inl (cI, 6, .inl T_kinds))] s.heap.size = A at hD ⊢
  have hA : ∀ q : Nat, s.heap.size ≤ q → A q := fun q h => by rw [← hAe]; exact Or.inr h
  have hS : va_S A s.heap s.heap [] := va_S.rf
  have hl := lv_entry ([.ref a_T, .int x1] : List Value) (n := 5) (Nat.le_of_ble_eq_true rfl)
  rw [lg_entry_eq]
  generalize (lg_sl ([.ref a_T, .int x1] : List Value) ++ List.replicate (5 - (lg_sl ([.ref a_T, .int x1] : List Value)).length) Slot.unset).toArray = ls at hl ⊢
  replace hl : lv_has ls 5 [(0, .ref a_T), (1, .int x1)] := hl
  obtain ⟨Q, hQ⟩ : ∃ Q, Q = MQ below (va_Qi (fun r (_ : Unit) => r = R) (fun _ => BW (dC, dI) (tysA cC cI cJ) A [(a_T, .inr (9, [.int T_guests, .ref a_T_kinds, .int T_wishes, .ref a_T_wishKind, .ref a_T_wishA, .ref a_T_wishB, .int T_begins, .ref a_T_st, .int T_acts, .ref a_T_was, .int T_keeps, .ref a_T_kept, .int T_wokes, .ref a_T_woke, .ref a_T_text, .int T_texted, .int T_at, .ref a_T_told, .int T_readGuests, .ref a_T_readKinds, .ref a_T_readFloors, .int T_readWishes, .ref a_T_readWishKind, .ref a_T_readWishA, .ref a_T_readWishB, .int T_readBegins, .int T_here, .int T_stands, .int T_many, .int T_rounds, .ref a_T_come, .ref a_T_keptBy, .ref a_T_endsAt, .ref a_T_order, .ref a_T_time, .ref a_T_place])), (a_T_st, .inl (cI, 8, .inl T_st)), (a_T_kinds, .inl (cI, 6, .inl T_kinds))]) A) ([.ref a_T, .int x1] : List Value).toArray s 0 0 A := ⟨_, rfl⟩
  rw [← hQ]
  suffices hE : WG p l e rmX9_endsWith s m ([.ref a_T, .int x1] : List Value).toArray below meth c 0 0 Q (dC, dI) A 0 5 [(a_T, .inr (9, [.int T_guests, .ref a_T_kinds, .int T_wishes, .ref a_T_wishKind, .ref a_T_wishA, .ref a_T_wishB, .int T_begins, .ref a_T_st, .int T_acts, .ref a_T_was, .int T_keeps, .ref a_T_kept, .int T_wokes, .ref a_T_woke, .ref a_T_text, .int T_texted, .int T_at, .ref a_T_told, .int T_readGuests, .ref a_T_readKinds, .ref a_T_readFloors, .int T_readWishes, .ref a_T_readWishKind, .ref a_T_readWishA, .ref a_T_readWishB, .int T_readBegins, .int T_here, .int T_stands, .int T_many, .int T_rounds, .ref a_T_come, .ref a_T_keptBy, .ref a_T_endsAt, .ref a_T_order, .ref a_T_time, .ref a_T_place])), (a_T_st, .inl (cI, 8, .inl T_st)), (a_T_kinds, .inl (cI, 6, .inl T_kinds))] [(0, .ref a_T), (1, .int x1)] [] from hE _ _ _ hP hD hS hl
  clear hP hD hS hl hD0 hAe
  intro H locs ls hP hD hS hl
  unfold fX9_endsWith at hr
  refine lv_iconst (v := 0) hx hb dX9_endsWith_0 (by decide) ?_
  refine lv_istore_n (lv' := [(2, .int 0), (0, .ref a_T), (1, .int x1)]) hx hb dX9_endsWith_1 rfl hl (by decide) rfl (fun ls hl => ?_)
  refine lv_aload_n hx hb dX9_endsWith_2 rfl (lv_at hl 1 rfl) ?_
  refine va_get (D := (dC, dI)) (ci := 9) (v := .int T_begins) (C := RX9) (T := TX9) (N := 36) hx hb hts inX9_endsWith_X9 hown hK hP 0 rfl rfl 6 (by decide) (hts _ mbX9_endsWith_0) (fun _ h9 => h9) rfl dX9_endsWith_3 ?_
  refine lv_istore_n (lv' := [(3, .int T_begins), (2, .int 0), (0, .ref a_T), (1, .int x1)]) hx hb dX9_endsWith_6 rfl hl (by decide) rfl (fun ls hl => ?_)
  refine lv_iconst (v := 0) hx hb dX9_endsWith_7 (by decide) ?_
  refine lv_istore (lv' := [(4, .int 0), (3, .int T_begins), (2, .int 0), (0, .ref a_T), (1, .int x1)]) hx hb dX9_endsWith_8 hl (by decide) rfl (fun ls hl => ?_)
  have hL1 : ∀ (n1 : Nat) (x2 : Int32) (x3 : Int32) (x4 : Int32) (x2_1 : Int32) (x3_1 : Int32), fX9_endsWith_L10 K x1 T_guests T_st T_kinds n1 x2 x3 x4 = some (x2_1, x3_1) → WG p l e rmX9_endsWith s m ([.ref a_T, .int x1] : List Value).toArray below meth c 0 0 Q (dC, dI) A 70 5 [(a_T, .inr (9, [.int T_guests, .ref a_T_kinds, .int T_wishes, .ref a_T_wishKind, .ref a_T_wishA, .ref a_T_wishB, .int T_begins, .ref a_T_st, .int T_acts, .ref a_T_was, .int T_keeps, .ref a_T_kept, .int T_wokes, .ref a_T_woke, .ref a_T_text, .int T_texted, .int T_at, .ref a_T_told, .int T_readGuests, .ref a_T_readKinds, .ref a_T_readFloors, .int T_readWishes, .ref a_T_readWishKind, .ref a_T_readWishA, .ref a_T_readWishB, .int T_readBegins, .int T_here, .int T_stands, .int T_many, .int T_rounds, .ref a_T_come, .ref a_T_keptBy, .ref a_T_endsAt, .ref a_T_order, .ref a_T_time, .ref a_T_place])), (a_T_st, .inl (cI, 8, .inl T_st)), (a_T_kinds, .inl (cI, 6, .inl T_kinds))] [(2, .int x2_1), (3, .int x3_1)] [] → WG p l e rmX9_endsWith s m ([.ref a_T, .int x1] : List Value).toArray below meth c 0 0 Q (dC, dI) A 10 5 [(a_T, .inr (9, [.int T_guests, .ref a_T_kinds, .int T_wishes, .ref a_T_wishKind, .ref a_T_wishA, .ref a_T_wishB, .int T_begins, .ref a_T_st, .int T_acts, .ref a_T_was, .int T_keeps, .ref a_T_kept, .int T_wokes, .ref a_T_woke, .ref a_T_text, .int T_texted, .int T_at, .ref a_T_told, .int T_readGuests, .ref a_T_readKinds, .ref a_T_readFloors, .int T_readWishes, .ref a_T_readWishKind, .ref a_T_readWishA, .ref a_T_readWishB, .int T_readBegins, .int T_here, .int T_stands, .int T_many, .int T_rounds, .ref a_T_come, .ref a_T_keptBy, .ref a_T_endsAt, .ref a_T_order, .ref a_T_time, .ref a_T_place])), (a_T_st, .inl (cI, 8, .inl T_st)), (a_T_kinds, .inl (cI, 6, .inl T_kinds))] [(0, .ref a_T), (1, .int x1), (2, .int x2), (3, .int x3), (4, .int x4)] [] := by
    intro n1
    induction n1 with
    | zero =>
      intro x2 x3 x4 x2_1 x3_1 hr
      rw [fX9_endsWith_L10] at hr
      cases hr
    | succ n1 ih10 =>
      intro x2 x3 x4 x2_1 x3_1 hr hX1 H locs ls hP hD hS hl
      rw [fX9_endsWith_L10] at hr
      refine lv_iload hx hb dX9_endsWith_10 (lv_at hl 4 rfl) ?_
      refine lv_aload_n hx hb dX9_endsWith_12 rfl (lv_at hl 0 rfl) ?_
      refine va_get (D := (dC, dI)) (ci := 9) (v := .int T_guests) (C := RX9) (T := TX9) (N := 36) hx hb hts inX9_endsWith_X9 hown hK hP 0 rfl rfl 0 (by decide) (hts _ mbX9_endsWith_2) (fun _ h9 => h9) rfl dX9_endsWith_13 ?_
      refine lv_icmp_ge (tgt := 70) hx hb dX9_endsWith_16 (by decide) (fun c1 => ?_) (fun c1 => ?_)
      · replace hr := it_t hr c1
        have he := Option.some.inj hr
        cases he
        exact hX1 H locs ls hP hD hS (lv_sub hl [2, 3] rfl)
      · replace hr := it_f hr c1
        refine lv_iload_n hx hb dX9_endsWith_19 rfl (lv_at hl 1 rfl) ?_
        refine lv_iload hx hb dX9_endsWith_20 (lv_at hl 4 rfl) ?_
        obtain ⟨r, hc1, hr⟩ := bd1_some hr
        refine call_i (D := (dC, dI)) (tys := tysA cC cI cJ) (wc := []) (wr := [(a_T, .inr (9, [.int T_guests, .ref a_T_kinds, .int T_wishes, .ref a_T_wishKind, .ref a_T_wishA, .ref a_T_wishB, .int T_begins, .ref a_T_st, .int T_acts, .ref a_T_was, .int T_keeps, .ref a_T_kept, .int T_wokes, .ref a_T_woke, .ref a_T_text, .int T_texted, .int T_at, .ref a_T_told, .int T_readGuests, .ref a_T_readKinds, .ref a_T_readFloors, .int T_readWishes, .ref a_T_readWishKind, .ref a_T_readWishA, .ref a_T_readWishB, .int T_readBegins, .int T_here, .int T_stands, .int T_many, .int T_rounds, .ref a_T_come, .ref a_T_keptBy, .ref a_T_endsAt, .ref a_T_order, .ref a_T_time, .ref a_T_place])), (a_T_st, .inl (cI, 8, .inl T_st)), (a_T_kinds, .inl (cI, 6, .inl T_kinds))]) (w1 := []) (wn := [(a_T, .inr (9, [.int T_guests, .ref a_T_kinds, .int T_wishes, .ref a_T_wishKind, .ref a_T_wishA, .ref a_T_wishB, .int T_begins, .ref a_T_st, .int T_acts, .ref a_T_was, .int T_keeps, .ref a_T_kept, .int T_wokes, .ref a_T_woke, .ref a_T_text, .int T_texted, .int T_at, .ref a_T_told, .int T_readGuests, .ref a_T_readKinds, .ref a_T_readFloors, .int T_readWishes, .ref a_T_readWishKind, .ref a_T_readWishA, .ref a_T_readWishB, .int T_readBegins, .int T_here, .int T_stands, .int T_many, .int T_rounds, .ref a_T_come, .ref a_T_keptBy, .ref a_T_endsAt, .ref a_T_order, .ref a_T_time, .ref a_T_place])), (a_T_st, .inl (cI, 8, .inl T_st)), (a_T_kinds, .inl (cI, 6, .inl T_kinds))]) (r0 := r) hP hD hS hA [] [0, 1, 2] [0, 1, 2] rfl rfl (by decide +kernel) (by decide +kernel) rfl (by decide +kernel) (va_runS (As := [.int x1, .int x4]) (rest := []) ⟨hx, hb, hml, hown, hts⟩ (kX9_has l dC dI cC cI cJ H.size K x1 x4 r hc1) (va_cwS 2 hts gX9_endsWith_X9_has rfl rfl rfl (by decide +kernel) ⟨Nat.le_of_ble_eq_true rfl, Nat.le_of_ble_eq_true rfl⟩) ⟨fbW, preW hP hD hK hN [] rfl (by decide +kernel)⟩ rfl rfl hl.1 rfl (lv_room (Nat.le_of_ble_eq_true rfl)) dX9_endsWith_22 ⟨Nat.zero_le _, Nat.zero_le _⟩) (fun H locs hP hD hS => ?_)
        obtain ⟨x2_2, x3_3, hj2, hr⟩ := bd2_some hr
        have hJ1 : WG p l e rmX9_endsWith s m ([.ref a_T, .int x1] : List Value).toArray below meth c 0 0 Q (dC, dI) A 64 5 [(a_T, .inr (9, [.int T_guests, .ref a_T_kinds, .int T_wishes, .ref a_T_wishKind, .ref a_T_wishA, .ref a_T_wishB, .int T_begins, .ref a_T_st, .int T_acts, .ref a_T_was, .int T_keeps, .ref a_T_kept, .int T_wokes, .ref a_T_woke, .ref a_T_text, .int T_texted, .int T_at, .ref a_T_told, .int T_readGuests, .ref a_T_readKinds, .ref a_T_readFloors, .int T_readWishes, .ref a_T_readWishKind, .ref a_T_readWishA, .ref a_T_readWishB, .int T_readBegins, .int T_here, .int T_stands, .int T_many, .int T_rounds, .ref a_T_come, .ref a_T_keptBy, .ref a_T_endsAt, .ref a_T_order, .ref a_T_time, .ref a_T_place])), (a_T_st, .inl (cI, 8, .inl T_st)), (a_T_kinds, .inl (cI, 6, .inl T_kinds))] [(0, .ref a_T), (1, .int x1), (2, .int x2_2), (3, .int x3_3), (4, .int x4)] [] := by
          intro H locs ls hP hD hS hl
          obtain ⟨x4_1, e2, hr⟩ := nm_el hr
          refine lv_iinc (v := x4_1) (lv' := [(4, .int x4_1), (0, .ref a_T), (1, .int x1), (2, .int x2_2), (3, .int x3_3)]) hx hb dX9_endsWith_64 hl (k := 4) rfl e2.symm (by decide) rfl (fun ls hl => ?_)
          refine lv_goto (tgt := 10) hx hb dX9_endsWith_67 (by decide) ?_
          exact ih10 _ _ _ _ _ hr hX1 H locs ls hP hD hS (lv_sub hl [1, 2, 3, 4, 0] rfl)
        replace hr := hj2
        refine lv_if_eq (tgt := 64) hx hb dX9_endsWith_25 (by decide) (fun c2 => ?_) (fun c2 => ?_)
        · replace hr := it_t hr c2
          cases hr
          exact hJ1 H locs ls hP hD hS (lv_sub hl [0, 1, 2, 3, 4] rfl)
        · replace hr := it_f hr c2
          refine lv_aload_n hx hb dX9_endsWith_28 rfl (lv_at hl 0 rfl) ?_
          refine va_get (D := (dC, dI)) (ci := 9) (v := .ref a_T_st) (C := RX9) (T := TX9) (N := 36) hx hb hts inX9_endsWith_X9 hown hK hP 0 rfl rfl 7 (by decide) (hts _ mbX9_endsWith_3) (fun _ h9 => h9) rfl dX9_endsWith_29 ?_
          refine lv_iconst (v := 2) hx hb dX9_endsWith_32 (by decide) ?_
          refine lv_iload hx hb dX9_endsWith_33 (lv_at hl 4 rfl) ?_
          refine lv_iadd hx hb dX9_endsWith_35 ?_
          obtain ⟨g1, hr⟩ := gd_some hr
          refine va_iald hx hb hK hP 1 1 rfl rfl g1 dX9_endsWith_36 ?_
          refine lv_iload_n hx hb dX9_endsWith_37 rfl (lv_at hl 2 rfl) ?_
          obtain ⟨y, hj1, hr⟩ := bd1_some hr
          have hJ2 : WG p l e rmX9_endsWith s m ([.ref a_T, .int x1] : List Value).toArray below meth c 0 0 Q (dC, dI) A 54 5 [(a_T, .inr (9, [.int T_guests, .ref a_T_kinds, .int T_wishes, .ref a_T_wishKind, .ref a_T_wishA, .ref a_T_wishB, .int T_begins, .ref a_T_st, .int T_acts, .ref a_T_was, .int T_keeps, .ref a_T_kept, .int T_wokes, .ref a_T_woke, .ref a_T_text, .int T_texted, .int T_at, .ref a_T_told, .int T_readGuests, .ref a_T_readKinds, .ref a_T_readFloors, .int T_readWishes, .ref a_T_readWishKind, .ref a_T_readWishA, .ref a_T_readWishB, .int T_readBegins, .int T_here, .int T_stands, .int T_many, .int T_rounds, .ref a_T_come, .ref a_T_keptBy, .ref a_T_endsAt, .ref a_T_order, .ref a_T_time, .ref a_T_place])), (a_T_st, .inl (cI, 8, .inl T_st)), (a_T_kinds, .inl (cI, 6, .inl T_kinds))] [(0, .ref a_T), (1, .int x1), (3, .int x3), (4, .int x4)] [.int y] := by
            intro H locs ls hP hD hS hl
            refine lv_istore_n (lv' := [(2, .int y), (0, .ref a_T), (1, .int x1), (3, .int x3), (4, .int x4)]) hx hb dX9_endsWith_54 rfl hl (by decide) rfl (fun ls hl => ?_)
            refine lv_iload_n hx hb dX9_endsWith_55 rfl (lv_at hl 3 rfl) ?_
            refine lv_aload_n hx hb dX9_endsWith_56 rfl (lv_at hl 1 rfl) ?_
            refine lv_iload hx hb dX9_endsWith_57 (lv_at hl 4 rfl) ?_
            obtain ⟨r_1, hc2, hr⟩ := bd1_some hr
            refine call_i (D := (dC, dI)) (tys := tysA cC cI cJ) (wc := [(a_T, .inr (9, [.int T_guests, .ref a_T_kinds, .int T_wishes, .ref a_T_wishKind, .ref a_T_wishA, .ref a_T_wishB, .int T_begins, .ref a_T_st, .int T_acts, .ref a_T_was, .int T_keeps, .ref a_T_kept, .int T_wokes, .ref a_T_woke, .ref a_T_text, .int T_texted, .int T_at, .ref a_T_told, .int T_readGuests, .ref a_T_readKinds, .ref a_T_readFloors, .int T_readWishes, .ref a_T_readWishKind, .ref a_T_readWishA, .ref a_T_readWishB, .int T_readBegins, .int T_here, .int T_stands, .int T_many, .int T_rounds, .ref a_T_come, .ref a_T_keptBy, .ref a_T_endsAt, .ref a_T_order, .ref a_T_time, .ref a_T_place])), (a_T_kinds, .inl (cI, 6, .inl T_kinds)), (a_T_st, .inl (cI, 8, .inl T_st))]) (wr := []) (w1 := [(a_T, .inr (9, [.int T_guests, .ref a_T_kinds, .int T_wishes, .ref a_T_wishKind, .ref a_T_wishA, .ref a_T_wishB, .int T_begins, .ref a_T_st, .int T_acts, .ref a_T_was, .int T_keeps, .ref a_T_kept, .int T_wokes, .ref a_T_woke, .ref a_T_text, .int T_texted, .int T_at, .ref a_T_told, .int T_readGuests, .ref a_T_readKinds, .ref a_T_readFloors, .int T_readWishes, .ref a_T_readWishKind, .ref a_T_readWishA, .ref a_T_readWishB, .int T_readBegins, .int T_here, .int T_stands, .int T_many, .int T_rounds, .ref a_T_come, .ref a_T_keptBy, .ref a_T_endsAt, .ref a_T_order, .ref a_T_time, .ref a_T_place])), (a_T_kinds, .inl (cI, 6, .inl T_kinds)), (a_T_st, .inl (cI, 8, .inl T_st))]) (wn := [(a_T, .inr (9, [.int T_guests, .ref a_T_kinds, .int T_wishes, .ref a_T_wishKind, .ref a_T_wishA, .ref a_T_wishB, .int T_begins, .ref a_T_st, .int T_acts, .ref a_T_was, .int T_keeps, .ref a_T_kept, .int T_wokes, .ref a_T_woke, .ref a_T_text, .int T_texted, .int T_at, .ref a_T_told, .int T_readGuests, .ref a_T_readKinds, .ref a_T_readFloors, .int T_readWishes, .ref a_T_readWishKind, .ref a_T_readWishA, .ref a_T_readWishB, .int T_readBegins, .int T_here, .int T_stands, .int T_many, .int T_rounds, .ref a_T_come, .ref a_T_keptBy, .ref a_T_endsAt, .ref a_T_order, .ref a_T_time, .ref a_T_place])), (a_T_st, .inl (cI, 8, .inl T_st)), (a_T_kinds, .inl (cI, 6, .inl T_kinds))]) (r0 := r_1) hP hD hS hA [0, 2, 1] [] [0, 2, 1] rfl rfl (by decide +kernel) (by decide +kernel) rfl (by decide +kernel) (va_runV (As := [.int x4]) (rest := [.int x3]) ⟨hx, hb, hml, hown, hts⟩ (kX9_wakes l dC dI cC cI cJ H.size K a_T a_T_kinds a_T_wishKind a_T_wishA a_T_wishB a_T_st a_T_was a_T_kept a_T_woke a_T_text a_T_told a_T_readKinds a_T_readFloors a_T_readWishKind a_T_readWishA a_T_readWishB a_T_come a_T_keptBy a_T_endsAt a_T_order a_T_time a_T_place x4 T_guests T_wishes T_begins T_acts T_keeps T_wokes T_texted T_at T_readGuests T_readWishes T_readBegins T_here T_stands T_many T_rounds T_kinds T_st r_1 hc2) (cwV 1 hts gX9_endsWith_X9_wakes rfl rfl rfl (by decide +kernel) ⟨Nat.le_of_ble_eq_true rfl, Nat.le_of_ble_eq_true rfl⟩) ⟨fbW, va_recv hK hP (ci := 9) (q0 := 0) rfl rfl, preW hP hD hK hN [0, 2, 1] rfl (by decide +kernel)⟩ rfl rfl hl.1 rfl (lv_room (Nat.le_of_ble_eq_true rfl)) dX9_endsWith_59 ⟨Nat.zero_le _, Nat.zero_le _⟩) (fun H locs hP hD hS => ?_)
            refine lv_iadd hx hb dX9_endsWith_62 ?_
            obtain ⟨x3_2, e1, hr⟩ := nm_el hr
            refine lv_nmi e1 ?_
            refine lv_istore_n (lv' := [(3, .int x3_2), (2, .int y), (0, .ref a_T), (1, .int x1), (4, .int x4)]) hx hb dX9_endsWith_63 rfl hl (by decide) rfl (fun ls hl => ?_)
            cases hr
            exact hJ1 H locs ls hP hD hS (lv_sub hl [2, 3, 1, 0, 4] rfl)
          replace hr := hj1
          refine lv_icmp_le (tgt := 53) hx hb dX9_endsWith_38 (by decide) (fun c3 => ?_) (fun c3 => ?_)
          · replace hr := it_t hr c3
            refine lv_iload_n hx hb dX9_endsWith_53 rfl (lv_at hl 2 rfl) ?_
            cases hr
            exact hJ2 H locs ls hP hD hS (lv_sub hl [0, 1, 3, 4] rfl)
          · replace hr := it_f hr c3
            refine lv_aload_n hx hb dX9_endsWith_41 rfl (lv_at hl 0 rfl) ?_
            refine va_get (D := (dC, dI)) (ci := 9) (v := .ref a_T_st) (C := RX9) (T := TX9) (N := 36) hx hb hts inX9_endsWith_X9 hown hK hP 0 rfl rfl 7 (by decide) (hts _ mbX9_endsWith_3) (fun _ h9 => h9) rfl dX9_endsWith_42 ?_
            refine lv_iconst (v := 2) hx hb dX9_endsWith_45 (by decide) ?_
            refine lv_iload hx hb dX9_endsWith_46 (lv_at hl 4 rfl) ?_
            refine lv_iadd hx hb dX9_endsWith_48 ?_
            obtain ⟨g2, hr⟩ := gd_some hr
            refine va_iald hx hb hK hP 1 1 rfl rfl g2 dX9_endsWith_49 ?_
            refine lv_goto (tgt := 54) hx hb dX9_endsWith_50 (by decide) ?_
            cases hr
            exact hJ2 H locs ls hP hD hS (lv_sub hl [0, 1, 3, 4] rfl)
  obtain ⟨x2_1, x3_1, hE, hr⟩ := bd2_some hr
  refine hL1 K 0 T_begins 0 x2_1 x3_1 hE ?_ H locs ls hP hD hS (lv_sub hl [3, 4, 2, 1, 0] rfl)
  intro H locs ls hP hD hS hl
  refine lv_iload_n hx hb dX9_endsWith_70 rfl (lv_at hl 1 rfl) ?_
  refine lv_iload_n hx hb dX9_endsWith_71 rfl (lv_at hl 0 rfl) ?_
  refine lv_iadd hx hb dX9_endsWith_72 ?_
  have he := Option.some.inj hr
  subst he
  subst hQ
  exact ret_i hx hb hrt hK hP hD hS hlocks dX9_endsWith_73
def fX9_two_L18 (K : Nat) (T_guests : Int32) (T_begins : Int32) (T_st : (Nat → Int32)) (T_kinds : (Nat → Int32)) : Nat → Int32 → Int32 → Int32 → Option (Int32 × Int32)
  | 0, _, _, _ => none
  | n1 + 1, x2, x3, x4 =>
    if (1 <<< (T_guests &&& 31)) ≤ (x4 : Int32) then (
    some (x2, x3))
    else (
    gd (¬ ((0 : Int32) < 0 ∨ 8 ≤ (0 : Int32).toNatClampNeg)) (
    bd2 (τ0 := Int32) (τ1 := Int32) (
    if ((x4 &&& ((T_st (0 : Int32).toNatClampNeg) ^^^ (-1))) : Int32) = 0 then (
    bd1 (fX9_endsWith K x4 T_guests T_begins T_st T_kinds) fun r_1 =>
    gd (¬ ((0 : Int32) < 0 ∨ 8 ≤ (0 : Int32).toNatClampNeg)) (
    bd1 (fX9_endsWith K ((T_st (0 : Int32).toNatClampNeg) &&& (x4 ^^^ (-1))) T_guests T_begins T_st T_kinds) fun r_2 =>
    bd1 (τ0 := Int32) (
    if (r_1 : Int32) ≤ r_2 then (
    some r_2)
    else (
    some r_1)) fun y =>
    bd1 (τ0 := Int32) (
    if (x2 : Int32) < 0 then (
    some 1)
    else (
    if x3 ≤ (y : Int32) then (
    some 0)
    else (
    some 1))) fun y_1 =>
    bd1 (τ0 := Int32) (
    if (y_1 : Int32) = 0 then (
    some x2)
    else (
    some x4)) fun y_2 =>
    bd1 (τ0 := Int32) (
    if (y_1 : Int32) = 0 then (
    some x3)
    else (
    some y)) fun y_3 =>
    some (y_2, y_3)))
    else (
    some (x2, x3))) fun x2_2 x3_2 =>
    nm (x4 + 1) fun x4_1 =>
    fX9_two_L18 K T_guests T_begins T_st T_kinds n1 x2_2 x3_2 x4_1))
def fX9_two (K : Nat) (x1 : Int32) (T_guests : Int32) (T_begins : Int32) (T_st : (Nat → Int32)) (T_kinds : (Nat → Int32)) : Option (Int32) :=
    bd1 (fX9_in K x1 0 1) fun r =>
    if (r : Int32) = 0 then (
    some (-1))
    else (
    bd2 (fX9_two_L18 K T_guests T_begins T_st T_kinds K (-1) 0 0) fun x2_1 x3_1 =>
    if (x1 : Int32) = 0 then (
    some x3_1)
    else (
    some x2_1))
theorem mbX9_two_0 : Cond.fieldLink RX9 97 "BootsAtDawnModel" "guests" "I" ∈ wsX9_two := List.mem_of_getElem? (i := 1) rfl
theorem inX9_two_X9 : ∀ w ∈ u_ws RX9 TX9 36, w ∈ wsX9_two := fun _ h => (List.mem_cons_of_mem _ (List.mem_append_right _ h))
theorem mbX9_two_2 : Cond.fieldLink RX9 22 "BootsAtDawnModel" "st" "[I" ∈ wsX9_two := List.mem_of_getElem? (i := 2) rfl
abbrev rmX9_two : Room := { frames := 2, cells := 0, slots := 0, locals := 45 }
set_option maxHeartbeats 8000000 in
set_option maxRecDepth 100000 in
theorem kX9_two (l : Launch) (dC : Nat → ClassId) (dI : Nat → Nat → Nat) (cC cI cJ : ClassId) (sz : Nat) (K : Nat) (a_T a_T_kinds a_T_wishKind a_T_wishA a_T_wishB a_T_st a_T_was a_T_kept a_T_woke a_T_text a_T_told a_T_readKinds a_T_readFloors a_T_readWishKind a_T_readWishA a_T_readWishB a_T_come a_T_keptBy a_T_endsAt a_T_order a_T_time a_T_place : Nat) (x1 : Int32) (T_guests : Int32) (T_wishes : Int32) (T_begins : Int32) (T_acts : Int32) (T_keeps : Int32) (T_wokes : Int32) (T_texted : Int32) (T_at : Int32) (T_readGuests : Int32) (T_readWishes : Int32) (T_readBegins : Int32) (T_here : Int32) (T_stands : Int32) (T_many : Int32) (T_rounds : Int32) (T_st : (Nat → Int32)) (T_kinds : (Nat → Int32)) (R : Int32) (hr : fX9_two K x1 T_guests T_begins T_st T_kinds = some R) : Met l yX9_two wsX9_two rmX9_two (va_Pc ([.ref a_T, .int x1] : List Value) (PcW (dC, dI) (tysA cC cI cJ) sz [(a_T, .inr (9, [.int T_guests, .ref a_T_kinds, .int T_wishes, .ref a_T_wishKind, .ref a_T_wishA, .ref a_T_wishB, .int T_begins, .ref a_T_st, .int T_acts, .ref a_T_was, .int T_keeps, .ref a_T_kept, .int T_wokes, .ref a_T_woke, .ref a_T_text, .int T_texted, .int T_at, .ref a_T_told, .int T_readGuests, .ref a_T_readKinds, .ref a_T_readFloors, .int T_readWishes, .ref a_T_readWishKind, .ref a_T_readWishA, .ref a_T_readWishB, .int T_readBegins, .int T_here, .int T_stands, .int T_many, .int T_rounds, .ref a_T_come, .ref a_T_keptBy, .ref a_T_endsAt, .ref a_T_order, .ref a_T_time, .ref a_T_place])), (a_T_st, .inl (cI, 8, .inl T_st)), (a_T_kinds, .inl (cI, 6, .inl T_kinds))])) (va_Qi (fun r (_ : Unit) => r = R) (fun _ => BW (dC, dI) (tysA cC cI cJ) (va_A [(a_T, .inr (9, [.int T_guests, .ref a_T_kinds, .int T_wishes, .ref a_T_wishKind, .ref a_T_wishA, .ref a_T_wishB, .int T_begins, .ref a_T_st, .int T_acts, .ref a_T_was, .int T_keeps, .ref a_T_kept, .int T_wokes, .ref a_T_woke, .ref a_T_text, .int T_texted, .int T_at, .ref a_T_told, .int T_readGuests, .ref a_T_readKinds, .ref a_T_readFloors, .int T_readWishes, .ref a_T_readWishKind, .ref a_T_readWishA, .ref a_T_readWishB, .int T_readBegins, .int T_here, .int T_stands, .int T_many, .int T_rounds, .ref a_T_come, .ref a_T_keptBy, .ref a_T_endsAt, .ref a_T_order, .ref a_T_time, .ref a_T_place])), (a_T_st, .inl (cI, 8, .inl T_st)), (a_T_kinds, .inl (cI, 6, .inl T_kinds))] sz) [(a_T, .inr (9, [.int T_guests, .ref a_T_kinds, .int T_wishes, .ref a_T_wishKind, .ref a_T_wishA, .ref a_T_wishB, .int T_begins, .ref a_T_st, .int T_acts, .ref a_T_was, .int T_keeps, .ref a_T_kept, .int T_wokes, .ref a_T_woke, .ref a_T_text, .int T_texted, .int T_at, .ref a_T_told, .int T_readGuests, .ref a_T_readKinds, .ref a_T_readFloors, .int T_readWishes, .ref a_T_readWishKind, .ref a_T_readWishA, .ref a_T_readWishB, .int T_readBegins, .int T_here, .int T_stands, .int T_many, .int T_rounds, .ref a_T_come, .ref a_T_keptBy, .ref a_T_endsAt, .ref a_T_order, .ref a_T_time, .ref a_T_place])), (a_T_st, .inl (cI, 8, .inl T_st)), (a_T_kinds, .inl (cI, 6, .inl T_kinds))]) (va_A [(a_T, .inr (9, [.int T_guests, .ref a_T_kinds, .int T_wishes, .ref a_T_wishKind, .ref a_T_wishA, .ref a_T_wishB, .int T_begins, .ref a_T_st, .int T_acts, .ref a_T_was, .int T_keeps, .ref a_T_kept, .int T_wokes, .ref a_T_woke, .ref a_T_text, .int T_texted, .int T_at, .ref a_T_told, .int T_readGuests, .ref a_T_readKinds, .ref a_T_readFloors, .int T_readWishes, .ref a_T_readWishKind, .ref a_T_readWishA, .ref a_T_readWishB, .int T_readBegins, .int T_here, .int T_stands, .int T_many, .int T_rounds, .ref a_T_come, .ref a_T_keptBy, .ref a_T_endsAt, .ref a_T_order, .ref a_T_time, .ref a_T_place])), (a_T_st, .inl (cI, 8, .inl T_st)), (a_T_kinds, .inl (cI, 6, .inl T_kinds))] sz)) 0 0 (va_A [(a_T, .inr (9, [.int T_guests, .ref a_T_kinds, .int T_wishes, .ref a_T_wishKind, .ref a_T_wishA, .ref a_T_wishB, .int T_begins, .ref a_T_st, .int T_acts, .ref a_T_was, .int T_keeps, .ref a_T_kept, .int T_wokes, .ref a_T_woke, .ref a_T_text, .int T_texted, .int T_at, .ref a_T_told, .int T_readGuests, .ref a_T_readKinds, .ref a_T_readFloors, .int T_readWishes, .ref a_T_readWishKind, .ref a_T_readWishA, .ref a_T_readWishB, .int T_readBegins, .int T_here, .int T_stands, .int T_many, .int T_rounds, .ref a_T_come, .ref a_T_keptBy, .ref a_T_endsAt, .ref a_T_order, .ref a_T_time, .ref a_T_place])), (a_T_st, .inl (cI, 8, .inl T_st)), (a_T_kinds, .inl (cI, 6, .inl T_kinds))] sz) := by
  refine Met.ofW (cc := cX9_two) (maxL := 9) (ret := (some .int)) (by decide) rfl ?_
  intro p e s m args below meth c s₁ B hml hv
  obtain ⟨rfl, hsz, hP, hK, hD0, hN⟩ := hv
  have hx := B.exec
  have hb := B.bytes
  have hrt := B.returns
  have hts := atoms_spec (ws := wsX9_two) B.pre
  have hown : s.vm.findClass RX9 = some m.cls := findClass_of_methodNamed B.named
  have hlocks := B.notSynchronized
  subst hsz
  have hD := hD0.self (sz := s.heap.size)
  generalize hAe : va_A [(a_T, .inr (9, [.int T_guests, .ref a_T_kinds, .int T_wishes, .ref a_T_wishKind, .ref a_T_wishA, .ref a_T_wishB, .int T_begins, .ref a_T_st, .int T_acts, .ref a_T_was, .int T_keeps, .ref a_T_kept, .int T_wokes, .ref a_T_woke, .ref a_T_text, .int T_texted, .int T_at, .ref a_T_told, .int T_readGuests, .ref a_T_readKinds, .ref a_T_readFloors, .int T_readWishes, .ref a_T_readWishKind, .ref a_T_readWishA, .ref a_T_readWishB, .int T_readBegins, .int T_here, .int T_stands, .int T_many, .int T_rounds, .ref a_T_come, .ref a_T_keptBy, .ref a_T_endsAt, .ref a_T_order, .ref a_T_time, .ref a_T_place])), (a_T_st, .inl (cI, 8, .inl T_st)), (a_T_kinds, .inl (cI, 6, .inl T_kinds))] s.heap.size = A at hD ⊢
  have hA : ∀ q : Nat, s.heap.size ≤ q → A q := fun q h => by rw [← hAe]; exact Or.inr h
  have hS : va_S A s.heap s.heap [] := va_S.rf
  have hl := lv_entry ([.ref a_T, .int x1] : List Value) (n := 9) (Nat.le_of_ble_eq_true rfl)
  rw [lg_entry_eq]
  generalize (lg_sl ([.ref a_T, .int x1] : List Value) ++ List.replicate (9 - (lg_sl ([.ref a_T, .int x1] : List Value)).length) Slot.unset).toArray = ls at hl ⊢
  replace hl : lv_has ls 9 [(0, .ref a_T), (1, .int x1)] := hl
  obtain ⟨Q, hQ⟩ : ∃ Q, Q = MQ below (va_Qi (fun r (_ : Unit) => r = R) (fun _ => BW (dC, dI) (tysA cC cI cJ) A [(a_T, .inr (9, [.int T_guests, .ref a_T_kinds, .int T_wishes, .ref a_T_wishKind, .ref a_T_wishA, .ref a_T_wishB, .int T_begins, .ref a_T_st, .int T_acts, .ref a_T_was, .int T_keeps, .ref a_T_kept, .int T_wokes, .ref a_T_woke, .ref a_T_text, .int T_texted, .int T_at, .ref a_T_told, .int T_readGuests, .ref a_T_readKinds, .ref a_T_readFloors, .int T_readWishes, .ref a_T_readWishKind, .ref a_T_readWishA, .ref a_T_readWishB, .int T_readBegins, .int T_here, .int T_stands, .int T_many, .int T_rounds, .ref a_T_come, .ref a_T_keptBy, .ref a_T_endsAt, .ref a_T_order, .ref a_T_time, .ref a_T_place])), (a_T_st, .inl (cI, 8, .inl T_st)), (a_T_kinds, .inl (cI, 6, .inl T_kinds))]) A) ([.ref a_T, .int x1] : List Value).toArray s 0 0 A := ⟨_, rfl⟩
  rw [← hQ]
  suffices hE : WG p l e rmX9_two s m ([.ref a_T, .int x1] : List Value).toArray below meth c 0 0 Q (dC, dI) A 0 9 [(a_T, .inr (9, [.int T_guests, .ref a_T_kinds, .int T_wishes, .ref a_T_wishKind, .ref a_T_wishA, .ref a_T_wishB, .int T_begins, .ref a_T_st, .int T_acts, .ref a_T_was, .int T_keeps, .ref a_T_kept, .int T_wokes, .ref a_T_woke, .ref a_T_text, .int T_texted, .int T_at, .ref a_T_told, .int T_readGuests, .ref a_T_readKinds, .ref a_T_readFloors, .int T_readWishes, .ref a_T_readWishKind, .ref a_T_readWishA, .ref a_T_readWishB, .int T_readBegins, .int T_here, .int T_stands, .int T_many, .int T_rounds, .ref a_T_come, .ref a_T_keptBy, .ref a_T_endsAt, .ref a_T_order, .ref a_T_time, .ref a_T_place])), (a_T_st, .inl (cI, 8, .inl T_st)), (a_T_kinds, .inl (cI, 6, .inl T_kinds))] [(0, .ref a_T), (1, .int x1)] [] from hE _ _ _ hP hD hS hl
  clear hP hD hS hl hD0 hAe
  intro H locs ls hP hD hS hl
  unfold fX9_two at hr
  refine lv_iload_n hx hb dX9_two_0 rfl (lv_at hl 1 rfl) ?_
  refine lv_iconst (v := 0) hx hb dX9_two_1 (by decide) ?_
  refine lv_iconst (v := 1) hx hb dX9_two_2 (by decide) ?_
  obtain ⟨r, hc1, hr⟩ := bd1_some hr
  refine call_i (D := (dC, dI)) (tys := tysA cC cI cJ) (wc := []) (wr := [(a_T, .inr (9, [.int T_guests, .ref a_T_kinds, .int T_wishes, .ref a_T_wishKind, .ref a_T_wishA, .ref a_T_wishB, .int T_begins, .ref a_T_st, .int T_acts, .ref a_T_was, .int T_keeps, .ref a_T_kept, .int T_wokes, .ref a_T_woke, .ref a_T_text, .int T_texted, .int T_at, .ref a_T_told, .int T_readGuests, .ref a_T_readKinds, .ref a_T_readFloors, .int T_readWishes, .ref a_T_readWishKind, .ref a_T_readWishA, .ref a_T_readWishB, .int T_readBegins, .int T_here, .int T_stands, .int T_many, .int T_rounds, .ref a_T_come, .ref a_T_keptBy, .ref a_T_endsAt, .ref a_T_order, .ref a_T_time, .ref a_T_place])), (a_T_st, .inl (cI, 8, .inl T_st)), (a_T_kinds, .inl (cI, 6, .inl T_kinds))]) (w1 := []) (wn := [(a_T, .inr (9, [.int T_guests, .ref a_T_kinds, .int T_wishes, .ref a_T_wishKind, .ref a_T_wishA, .ref a_T_wishB, .int T_begins, .ref a_T_st, .int T_acts, .ref a_T_was, .int T_keeps, .ref a_T_kept, .int T_wokes, .ref a_T_woke, .ref a_T_text, .int T_texted, .int T_at, .ref a_T_told, .int T_readGuests, .ref a_T_readKinds, .ref a_T_readFloors, .int T_readWishes, .ref a_T_readWishKind, .ref a_T_readWishA, .ref a_T_readWishB, .int T_readBegins, .int T_here, .int T_stands, .int T_many, .int T_rounds, .ref a_T_come, .ref a_T_keptBy, .ref a_T_endsAt, .ref a_T_order, .ref a_T_time, .ref a_T_place])), (a_T_st, .inl (cI, 8, .inl T_st)), (a_T_kinds, .inl (cI, 6, .inl T_kinds))]) (r0 := r) hP hD hS hA [] [0, 1, 2] [0, 1, 2] rfl rfl (by decide +kernel) (by decide +kernel) rfl (by decide +kernel) (va_runS (As := [.int x1, .int 0, .int 1]) (rest := []) ⟨hx, hb, hml, hown, hts⟩ (kX9_in l dC dI cC cI cJ H.size K x1 0 1 r hc1) (va_cwS 3 hts gX9_two_X9_in rfl rfl rfl (by decide +kernel) ⟨Nat.le_of_ble_eq_true rfl, Nat.le_of_ble_eq_true rfl⟩) ⟨fbW, preW hP hD hK hN [] rfl (by decide +kernel)⟩ rfl rfl hl.1 rfl (lv_room (Nat.le_of_ble_eq_true rfl)) dX9_two_3 ⟨Nat.zero_le _, Nat.zero_le _⟩) (fun H locs hP hD hS => ?_)
  refine lv_if_ne (tgt := 11) hx hb dX9_two_6 (by decide) (fun c1 => ?_) (fun c1 => ?_)
  · replace hr := it_f hr c1
    refine lv_iconst (v := (-1)) hx hb dX9_two_11 (by decide) ?_
    refine lv_istore_n (lv' := [(2, .int (-1)), (0, .ref a_T), (1, .int x1)]) hx hb dX9_two_12 rfl hl (by decide) rfl (fun ls hl => ?_)
    refine lv_iconst (v := 0) hx hb dX9_two_13 (by decide) ?_
    refine lv_istore_n (lv' := [(3, .int 0), (2, .int (-1)), (0, .ref a_T), (1, .int x1)]) hx hb dX9_two_14 rfl hl (by decide) rfl (fun ls hl => ?_)
    refine lv_iconst (v := 0) hx hb dX9_two_15 (by decide) ?_
    refine lv_istore (lv' := [(4, .int 0), (3, .int 0), (2, .int (-1)), (0, .ref a_T), (1, .int x1)]) hx hb dX9_two_16 hl (by decide) rfl (fun ls hl => ?_)
    have hL1 : ∀ (n1 : Nat) (x2 : Int32) (x3 : Int32) (x4 : Int32) (x2_1 : Int32) (x3_1 : Int32), fX9_two_L18 K T_guests T_begins T_st T_kinds n1 x2 x3 x4 = some (x2_1, x3_1) → WG p l e rmX9_two s m ([.ref a_T, .int x1] : List Value).toArray below meth c 0 0 Q (dC, dI) A 131 9 [(a_T, .inr (9, [.int T_guests, .ref a_T_kinds, .int T_wishes, .ref a_T_wishKind, .ref a_T_wishA, .ref a_T_wishB, .int T_begins, .ref a_T_st, .int T_acts, .ref a_T_was, .int T_keeps, .ref a_T_kept, .int T_wokes, .ref a_T_woke, .ref a_T_text, .int T_texted, .int T_at, .ref a_T_told, .int T_readGuests, .ref a_T_readKinds, .ref a_T_readFloors, .int T_readWishes, .ref a_T_readWishKind, .ref a_T_readWishA, .ref a_T_readWishB, .int T_readBegins, .int T_here, .int T_stands, .int T_many, .int T_rounds, .ref a_T_come, .ref a_T_keptBy, .ref a_T_endsAt, .ref a_T_order, .ref a_T_time, .ref a_T_place])), (a_T_st, .inl (cI, 8, .inl T_st)), (a_T_kinds, .inl (cI, 6, .inl T_kinds))] [(1, .int x1), (2, .int x2_1), (3, .int x3_1)] [] → WG p l e rmX9_two s m ([.ref a_T, .int x1] : List Value).toArray below meth c 0 0 Q (dC, dI) A 18 9 [(a_T, .inr (9, [.int T_guests, .ref a_T_kinds, .int T_wishes, .ref a_T_wishKind, .ref a_T_wishA, .ref a_T_wishB, .int T_begins, .ref a_T_st, .int T_acts, .ref a_T_was, .int T_keeps, .ref a_T_kept, .int T_wokes, .ref a_T_woke, .ref a_T_text, .int T_texted, .int T_at, .ref a_T_told, .int T_readGuests, .ref a_T_readKinds, .ref a_T_readFloors, .int T_readWishes, .ref a_T_readWishKind, .ref a_T_readWishA, .ref a_T_readWishB, .int T_readBegins, .int T_here, .int T_stands, .int T_many, .int T_rounds, .ref a_T_come, .ref a_T_keptBy, .ref a_T_endsAt, .ref a_T_order, .ref a_T_time, .ref a_T_place])), (a_T_st, .inl (cI, 8, .inl T_st)), (a_T_kinds, .inl (cI, 6, .inl T_kinds))] [(0, .ref a_T), (1, .int x1), (2, .int x2), (3, .int x3), (4, .int x4)] [] := by
      intro n1
      induction n1 with
      | zero =>
        intro x2 x3 x4 x2_1 x3_1 hr
        rw [fX9_two_L18] at hr
        cases hr
      | succ n1 ih18 =>
        intro x2 x3 x4 x2_1 x3_1 hr hX1 H locs ls hP hD hS hl
        rw [fX9_two_L18] at hr
        refine lv_iload hx hb dX9_two_18 (lv_at hl 4 rfl) ?_
        refine lv_iconst (v := 1) hx hb dX9_two_20 (by decide) ?_
        refine lv_aload_n hx hb dX9_two_21 rfl (lv_at hl 0 rfl) ?_
        refine va_get (D := (dC, dI)) (ci := 9) (v := .int T_guests) (C := RX9) (T := TX9) (N := 36) hx hb hts inX9_two_X9 hown hK hP 0 rfl rfl 0 (by decide) (hts _ mbX9_two_0) (fun _ h9 => h9) rfl dX9_two_22 ?_
        refine lv_ishl hx hb dX9_two_25 ?_
        refine lv_icmp_ge (tgt := 131) hx hb dX9_two_26 (by decide) (fun c2 => ?_) (fun c2 => ?_)
        · replace hr := it_t hr c2
          have he := Option.some.inj hr
          cases he
          exact hX1 H locs ls hP hD hS (lv_sub hl [1, 2, 3] rfl)
        · replace hr := it_f hr c2
          refine lv_iload hx hb dX9_two_29 (lv_at hl 4 rfl) ?_
          refine lv_aload_n hx hb dX9_two_31 rfl (lv_at hl 0 rfl) ?_
          refine va_get (D := (dC, dI)) (ci := 9) (v := .ref a_T_st) (C := RX9) (T := TX9) (N := 36) hx hb hts inX9_two_X9 hown hK hP 0 rfl rfl 7 (by decide) (hts _ mbX9_two_2) (fun _ h9 => h9) rfl dX9_two_32 ?_
          refine lv_iconst (v := 0) hx hb dX9_two_35 (by decide) ?_
          obtain ⟨g1, hr⟩ := gd_some hr
          refine va_iald hx hb hK hP 1 1 rfl rfl g1 dX9_two_36 ?_
          refine lv_iconst (v := (-1)) hx hb dX9_two_37 (by decide) ?_
          refine lv_ixor hx hb dX9_two_38 ?_
          refine lv_iand hx hb dX9_two_39 ?_
          obtain ⟨x2_2, x3_2, hj5, hr⟩ := bd2_some hr
          have hJ1 : WG p l e rmX9_two s m ([.ref a_T, .int x1] : List Value).toArray below meth c 0 0 Q (dC, dI) A 125 9 [(a_T, .inr (9, [.int T_guests, .ref a_T_kinds, .int T_wishes, .ref a_T_wishKind, .ref a_T_wishA, .ref a_T_wishB, .int T_begins, .ref a_T_st, .int T_acts, .ref a_T_was, .int T_keeps, .ref a_T_kept, .int T_wokes, .ref a_T_woke, .ref a_T_text, .int T_texted, .int T_at, .ref a_T_told, .int T_readGuests, .ref a_T_readKinds, .ref a_T_readFloors, .int T_readWishes, .ref a_T_readWishKind, .ref a_T_readWishA, .ref a_T_readWishB, .int T_readBegins, .int T_here, .int T_stands, .int T_many, .int T_rounds, .ref a_T_come, .ref a_T_keptBy, .ref a_T_endsAt, .ref a_T_order, .ref a_T_time, .ref a_T_place])), (a_T_st, .inl (cI, 8, .inl T_st)), (a_T_kinds, .inl (cI, 6, .inl T_kinds))] [(0, .ref a_T), (1, .int x1), (2, .int x2_2), (3, .int x3_2), (4, .int x4)] [] := by
            intro H locs ls hP hD hS hl
            obtain ⟨x4_1, e1, hr⟩ := nm_el hr
            refine lv_iinc (v := x4_1) (lv' := [(4, .int x4_1), (0, .ref a_T), (1, .int x1), (2, .int x2_2), (3, .int x3_2)]) hx hb dX9_two_125 hl (k := 4) rfl e1.symm (by decide) rfl (fun ls hl => ?_)
            refine lv_goto (tgt := 18) hx hb dX9_two_128 (by decide) ?_
            exact ih18 _ _ _ _ _ hr hX1 H locs ls hP hD hS (lv_sub hl [1, 2, 3, 4, 0] rfl)
          replace hr := hj5
          refine lv_if_ne (tgt := 125) hx hb dX9_two_40 (by decide) (fun c3 => ?_) (fun c3 => ?_)
          · replace hr := it_f hr c3
            cases hr
            exact hJ1 H locs ls hP hD hS (lv_sub hl [0, 1, 2, 3, 4] rfl)
          · replace hr := it_t hr c3
            refine lv_aload_n hx hb dX9_two_43 rfl (lv_at hl 0 rfl) ?_
            refine lv_iload hx hb dX9_two_44 (lv_at hl 4 rfl) ?_
            obtain ⟨r_1, hc2, hr⟩ := bd1_some hr
            refine call_i (D := (dC, dI)) (tys := tysA cC cI cJ) (wc := [(a_T, .inr (9, [.int T_guests, .ref a_T_kinds, .int T_wishes, .ref a_T_wishKind, .ref a_T_wishA, .ref a_T_wishB, .int T_begins, .ref a_T_st, .int T_acts, .ref a_T_was, .int T_keeps, .ref a_T_kept, .int T_wokes, .ref a_T_woke, .ref a_T_text, .int T_texted, .int T_at, .ref a_T_told, .int T_readGuests, .ref a_T_readKinds, .ref a_T_readFloors, .int T_readWishes, .ref a_T_readWishKind, .ref a_T_readWishA, .ref a_T_readWishB, .int T_readBegins, .int T_here, .int T_stands, .int T_many, .int T_rounds, .ref a_T_come, .ref a_T_keptBy, .ref a_T_endsAt, .ref a_T_order, .ref a_T_time, .ref a_T_place])), (a_T_st, .inl (cI, 8, .inl T_st)), (a_T_kinds, .inl (cI, 6, .inl T_kinds))]) (wr := []) (w1 := [(a_T, .inr (9, [.int T_guests, .ref a_T_kinds, .int T_wishes, .ref a_T_wishKind, .ref a_T_wishA, .ref a_T_wishB, .int T_begins, .ref a_T_st, .int T_acts, .ref a_T_was, .int T_keeps, .ref a_T_kept, .int T_wokes, .ref a_T_woke, .ref a_T_text, .int T_texted, .int T_at, .ref a_T_told, .int T_readGuests, .ref a_T_readKinds, .ref a_T_readFloors, .int T_readWishes, .ref a_T_readWishKind, .ref a_T_readWishA, .ref a_T_readWishB, .int T_readBegins, .int T_here, .int T_stands, .int T_many, .int T_rounds, .ref a_T_come, .ref a_T_keptBy, .ref a_T_endsAt, .ref a_T_order, .ref a_T_time, .ref a_T_place])), (a_T_st, .inl (cI, 8, .inl T_st)), (a_T_kinds, .inl (cI, 6, .inl T_kinds))]) (wn := [(a_T, .inr (9, [.int T_guests, .ref a_T_kinds, .int T_wishes, .ref a_T_wishKind, .ref a_T_wishA, .ref a_T_wishB, .int T_begins, .ref a_T_st, .int T_acts, .ref a_T_was, .int T_keeps, .ref a_T_kept, .int T_wokes, .ref a_T_woke, .ref a_T_text, .int T_texted, .int T_at, .ref a_T_told, .int T_readGuests, .ref a_T_readKinds, .ref a_T_readFloors, .int T_readWishes, .ref a_T_readWishKind, .ref a_T_readWishA, .ref a_T_readWishB, .int T_readBegins, .int T_here, .int T_stands, .int T_many, .int T_rounds, .ref a_T_come, .ref a_T_keptBy, .ref a_T_endsAt, .ref a_T_order, .ref a_T_time, .ref a_T_place])), (a_T_st, .inl (cI, 8, .inl T_st)), (a_T_kinds, .inl (cI, 6, .inl T_kinds))]) (r0 := r_1) hP hD hS hA [0, 1, 2] [] [0, 1, 2] rfl rfl (by decide +kernel) (by decide +kernel) rfl (by decide +kernel) (va_runV (As := [.int x4]) (rest := []) ⟨hx, hb, hml, hown, hts⟩ (kX9_endsWith l dC dI cC cI cJ H.size K a_T a_T_kinds a_T_wishKind a_T_wishA a_T_wishB a_T_st a_T_was a_T_kept a_T_woke a_T_text a_T_told a_T_readKinds a_T_readFloors a_T_readWishKind a_T_readWishA a_T_readWishB a_T_come a_T_keptBy a_T_endsAt a_T_order a_T_time a_T_place x4 T_guests T_wishes T_begins T_acts T_keeps T_wokes T_texted T_at T_readGuests T_readWishes T_readBegins T_here T_stands T_many T_rounds T_st T_kinds r_1 hc2) (cwV 1 hts gX9_two_X9_endsWith rfl rfl rfl (by decide +kernel) ⟨Nat.le_of_ble_eq_true rfl, Nat.le_of_ble_eq_true rfl⟩) ⟨fbW, va_recv hK hP (ci := 9) (q0 := 0) rfl rfl, preW hP hD hK hN [0, 1, 2] rfl (by decide +kernel)⟩ rfl rfl hl.1 rfl (lv_room (Nat.le_of_ble_eq_true rfl)) dX9_two_46 ⟨Nat.zero_le _, Nat.zero_le _⟩) (fun H locs hP hD hS => ?_)
            refine lv_istore (lv' := [(5, .int r_1), (0, .ref a_T), (1, .int x1), (2, .int x2), (3, .int x3), (4, .int x4)]) hx hb dX9_two_49 hl (by decide) rfl (fun ls hl => ?_)
            refine lv_aload_n hx hb dX9_two_51 rfl (lv_at hl 1 rfl) ?_
            refine lv_aload_n hx hb dX9_two_52 rfl (lv_at hl 1 rfl) ?_
            refine va_get (D := (dC, dI)) (ci := 9) (v := .ref a_T_st) (C := RX9) (T := TX9) (N := 36) hx hb hts inX9_two_X9 hown hK hP 0 rfl rfl 7 (by decide) (hts _ mbX9_two_2) (fun _ h9 => h9) rfl dX9_two_53 ?_
            refine lv_iconst (v := 0) hx hb dX9_two_56 (by decide) ?_
            obtain ⟨g2, hr⟩ := gd_some hr
            refine va_iald hx hb hK hP 1 1 rfl rfl g2 dX9_two_57 ?_
            refine lv_iload hx hb dX9_two_58 (lv_at hl 5 rfl) ?_
            refine lv_iconst (v := (-1)) hx hb dX9_two_60 (by decide) ?_
            refine lv_ixor hx hb dX9_two_61 ?_
            refine lv_iand hx hb dX9_two_62 ?_
            obtain ⟨r_2, hc3, hr⟩ := bd1_some hr
            refine call_i (D := (dC, dI)) (tys := tysA cC cI cJ) (wc := [(a_T, .inr (9, [.int T_guests, .ref a_T_kinds, .int T_wishes, .ref a_T_wishKind, .ref a_T_wishA, .ref a_T_wishB, .int T_begins, .ref a_T_st, .int T_acts, .ref a_T_was, .int T_keeps, .ref a_T_kept, .int T_wokes, .ref a_T_woke, .ref a_T_text, .int T_texted, .int T_at, .ref a_T_told, .int T_readGuests, .ref a_T_readKinds, .ref a_T_readFloors, .int T_readWishes, .ref a_T_readWishKind, .ref a_T_readWishA, .ref a_T_readWishB, .int T_readBegins, .int T_here, .int T_stands, .int T_many, .int T_rounds, .ref a_T_come, .ref a_T_keptBy, .ref a_T_endsAt, .ref a_T_order, .ref a_T_time, .ref a_T_place])), (a_T_st, .inl (cI, 8, .inl T_st)), (a_T_kinds, .inl (cI, 6, .inl T_kinds))]) (wr := []) (w1 := [(a_T, .inr (9, [.int T_guests, .ref a_T_kinds, .int T_wishes, .ref a_T_wishKind, .ref a_T_wishA, .ref a_T_wishB, .int T_begins, .ref a_T_st, .int T_acts, .ref a_T_was, .int T_keeps, .ref a_T_kept, .int T_wokes, .ref a_T_woke, .ref a_T_text, .int T_texted, .int T_at, .ref a_T_told, .int T_readGuests, .ref a_T_readKinds, .ref a_T_readFloors, .int T_readWishes, .ref a_T_readWishKind, .ref a_T_readWishA, .ref a_T_readWishB, .int T_readBegins, .int T_here, .int T_stands, .int T_many, .int T_rounds, .ref a_T_come, .ref a_T_keptBy, .ref a_T_endsAt, .ref a_T_order, .ref a_T_time, .ref a_T_place])), (a_T_st, .inl (cI, 8, .inl T_st)), (a_T_kinds, .inl (cI, 6, .inl T_kinds))]) (wn := [(a_T, .inr (9, [.int T_guests, .ref a_T_kinds, .int T_wishes, .ref a_T_wishKind, .ref a_T_wishA, .ref a_T_wishB, .int T_begins, .ref a_T_st, .int T_acts, .ref a_T_was, .int T_keeps, .ref a_T_kept, .int T_wokes, .ref a_T_woke, .ref a_T_text, .int T_texted, .int T_at, .ref a_T_told, .int T_readGuests, .ref a_T_readKinds, .ref a_T_readFloors, .int T_readWishes, .ref a_T_readWishKind, .ref a_T_readWishA, .ref a_T_readWishB, .int T_readBegins, .int T_here, .int T_stands, .int T_many, .int T_rounds, .ref a_T_come, .ref a_T_keptBy, .ref a_T_endsAt, .ref a_T_order, .ref a_T_time, .ref a_T_place])), (a_T_st, .inl (cI, 8, .inl T_st)), (a_T_kinds, .inl (cI, 6, .inl T_kinds))]) (r0 := r_2) hP hD hS hA [0, 1, 2] [] [0, 1, 2] rfl rfl (by decide +kernel) (by decide +kernel) rfl (by decide +kernel) (va_runV (As := [.int ((T_st (0 : Int32).toNatClampNeg) &&& (x4 ^^^ (-1)))]) (rest := []) ⟨hx, hb, hml, hown, hts⟩ (kX9_endsWith l dC dI cC cI cJ H.size K a_T a_T_kinds a_T_wishKind a_T_wishA a_T_wishB a_T_st a_T_was a_T_kept a_T_woke a_T_text a_T_told a_T_readKinds a_T_readFloors a_T_readWishKind a_T_readWishA a_T_readWishB a_T_come a_T_keptBy a_T_endsAt a_T_order a_T_time a_T_place ((T_st (0 : Int32).toNatClampNeg) &&& (x4 ^^^ (-1))) T_guests T_wishes T_begins T_acts T_keeps T_wokes T_texted T_at T_readGuests T_readWishes T_readBegins T_here T_stands T_many T_rounds T_st T_kinds r_2 hc3) (cwV 1 hts gX9_two_X9_endsWith rfl rfl rfl (by decide +kernel) ⟨Nat.le_of_ble_eq_true rfl, Nat.le_of_ble_eq_true rfl⟩) ⟨fbW, va_recv hK hP (ci := 9) (q0 := 0) rfl rfl, preW hP hD hK hN [0, 1, 2] rfl (by decide +kernel)⟩ rfl rfl hl.1 rfl (lv_room (Nat.le_of_ble_eq_true rfl)) dX9_two_63 ⟨Nat.zero_le _, Nat.zero_le _⟩) (fun H locs hP hD hS => ?_)
            refine lv_istore (lv' := [(6, .int r_2), (5, .int r_1), (0, .ref a_T), (1, .int x1), (2, .int x2), (3, .int x3), (4, .int x4)]) hx hb dX9_two_66 hl (by decide) rfl (fun ls hl => ?_)
            refine lv_iload hx hb dX9_two_68 (lv_at hl 1 rfl) ?_
            refine lv_iload hx hb dX9_two_70 (lv_at hl 0 rfl) ?_
            obtain ⟨y, hj4, hr⟩ := bd1_some hr
            have hJ2 : WG p l e rmX9_two s m ([.ref a_T, .int x1] : List Value).toArray below meth c 0 0 Q (dC, dI) A 82 9 [(a_T, .inr (9, [.int T_guests, .ref a_T_kinds, .int T_wishes, .ref a_T_wishKind, .ref a_T_wishA, .ref a_T_wishB, .int T_begins, .ref a_T_st, .int T_acts, .ref a_T_was, .int T_keeps, .ref a_T_kept, .int T_wokes, .ref a_T_woke, .ref a_T_text, .int T_texted, .int T_at, .ref a_T_told, .int T_readGuests, .ref a_T_readKinds, .ref a_T_readFloors, .int T_readWishes, .ref a_T_readWishKind, .ref a_T_readWishA, .ref a_T_readWishB, .int T_readBegins, .int T_here, .int T_stands, .int T_many, .int T_rounds, .ref a_T_come, .ref a_T_keptBy, .ref a_T_endsAt, .ref a_T_order, .ref a_T_time, .ref a_T_place])), (a_T_st, .inl (cI, 8, .inl T_st)), (a_T_kinds, .inl (cI, 6, .inl T_kinds))] [(0, .ref a_T), (1, .int x1), (2, .int x2), (3, .int x3), (4, .int x4)] [.int y] := by
              intro H locs ls hP hD hS hl
              refine lv_istore (lv' := [(7, .int y), (0, .ref a_T), (1, .int x1), (2, .int x2), (3, .int x3), (4, .int x4)]) hx hb dX9_two_82 hl (by decide) rfl (fun ls hl => ?_)
              refine lv_iload_n hx hb dX9_two_84 rfl (lv_at hl 3 rfl) ?_
              obtain ⟨y_1, hj3, hr⟩ := bd1_some hr
              have hJ3 : WG p l e rmX9_two s m ([.ref a_T, .int x1] : List Value).toArray below meth c 0 0 Q (dC, dI) A 99 9 [(a_T, .inr (9, [.int T_guests, .ref a_T_kinds, .int T_wishes, .ref a_T_wishKind, .ref a_T_wishA, .ref a_T_wishB, .int T_begins, .ref a_T_st, .int T_acts, .ref a_T_was, .int T_keeps, .ref a_T_kept, .int T_wokes, .ref a_T_woke, .ref a_T_text, .int T_texted, .int T_at, .ref a_T_told, .int T_readGuests, .ref a_T_readKinds, .ref a_T_readFloors, .int T_readWishes, .ref a_T_readWishKind, .ref a_T_readWishA, .ref a_T_readWishB, .int T_readBegins, .int T_here, .int T_stands, .int T_many, .int T_rounds, .ref a_T_come, .ref a_T_keptBy, .ref a_T_endsAt, .ref a_T_order, .ref a_T_time, .ref a_T_place])), (a_T_st, .inl (cI, 8, .inl T_st)), (a_T_kinds, .inl (cI, 6, .inl T_kinds))] [(0, .ref a_T), (1, .int x1), (2, .int x2), (3, .int x3), (4, .int x4), (7, .int y)] [.int y_1] := by
                intro H locs ls hP hD hS hl
                refine lv_istore (lv' := [(8, .int y_1), (0, .ref a_T), (1, .int x1), (2, .int x2), (3, .int x3), (4, .int x4), (7, .int y)]) hx hb dX9_two_99 hl (by decide) rfl (fun ls hl => ?_)
                refine lv_iload hx hb dX9_two_101 (lv_at hl 0 rfl) ?_
                obtain ⟨y_2, hj2, hr⟩ := bd1_some hr
                have hJ4 : WG p l e rmX9_two s m ([.ref a_T, .int x1] : List Value).toArray below meth c 0 0 Q (dC, dI) A 112 9 [(a_T, .inr (9, [.int T_guests, .ref a_T_kinds, .int T_wishes, .ref a_T_wishKind, .ref a_T_wishA, .ref a_T_wishB, .int T_begins, .ref a_T_st, .int T_acts, .ref a_T_was, .int T_keeps, .ref a_T_kept, .int T_wokes, .ref a_T_woke, .ref a_T_text, .int T_texted, .int T_at, .ref a_T_told, .int T_readGuests, .ref a_T_readKinds, .ref a_T_readFloors, .int T_readWishes, .ref a_T_readWishKind, .ref a_T_readWishA, .ref a_T_readWishB, .int T_readBegins, .int T_here, .int T_stands, .int T_many, .int T_rounds, .ref a_T_come, .ref a_T_keptBy, .ref a_T_endsAt, .ref a_T_order, .ref a_T_time, .ref a_T_place])), (a_T_st, .inl (cI, 8, .inl T_st)), (a_T_kinds, .inl (cI, 6, .inl T_kinds))] [(0, .ref a_T), (1, .int x1), (3, .int x3), (4, .int x4), (7, .int y), (8, .int y_1)] [.int y_2] := by
                  intro H locs ls hP hD hS hl
                  refine lv_istore_n (lv' := [(2, .int y_2), (0, .ref a_T), (1, .int x1), (3, .int x3), (4, .int x4), (7, .int y), (8, .int y_1)]) hx hb dX9_two_112 rfl hl (by decide) rfl (fun ls hl => ?_)
                  refine lv_iload hx hb dX9_two_113 (lv_at hl 6 rfl) ?_
                  obtain ⟨y_3, hj1, hr⟩ := bd1_some hr
                  have hJ5 : WG p l e rmX9_two s m ([.ref a_T, .int x1] : List Value).toArray below meth c 0 0 Q (dC, dI) A 124 9 [(a_T, .inr (9, [.int T_guests, .ref a_T_kinds, .int T_wishes, .ref a_T_wishKind, .ref a_T_wishA, .ref a_T_wishB, .int T_begins, .ref a_T_st, .int T_acts, .ref a_T_was, .int T_keeps, .ref a_T_kept, .int T_wokes, .ref a_T_woke, .ref a_T_text, .int T_texted, .int T_at, .ref a_T_told, .int T_readGuests, .ref a_T_readKinds, .ref a_T_readFloors, .int T_readWishes, .ref a_T_readWishKind, .ref a_T_readWishA, .ref a_T_readWishB, .int T_readBegins, .int T_here, .int T_stands, .int T_many, .int T_rounds, .ref a_T_come, .ref a_T_keptBy, .ref a_T_endsAt, .ref a_T_order, .ref a_T_time, .ref a_T_place])), (a_T_st, .inl (cI, 8, .inl T_st)), (a_T_kinds, .inl (cI, 6, .inl T_kinds))] [(0, .ref a_T), (1, .int x1), (2, .int y_2), (4, .int x4)] [.int y_3] := by
                    intro H locs ls hP hD hS hl
                    refine lv_istore_n (lv' := [(3, .int y_3), (0, .ref a_T), (1, .int x1), (2, .int y_2), (4, .int x4)]) hx hb dX9_two_124 rfl hl (by decide) rfl (fun ls hl => ?_)
                    cases hr
                    exact hJ1 H locs ls hP hD hS (lv_sub hl [1, 2, 3, 0, 4] rfl)
                  replace hr := hj1
                  refine lv_if_eq (tgt := 123) hx hb dX9_two_115 (by decide) (fun c8 => ?_) (fun c8 => ?_)
                  · replace hr := it_t hr c8
                    refine lv_iload_n hx hb dX9_two_123 rfl (lv_at hl 3 rfl) ?_
                    cases hr
                    exact hJ5 H locs ls hP hD hS (lv_sub hl [1, 2, 0, 4] rfl)
                  · replace hr := it_f hr c8
                    refine lv_iload hx hb dX9_two_118 (lv_at hl 5 rfl) ?_
                    refine lv_goto (tgt := 124) hx hb dX9_two_120 (by decide) ?_
                    cases hr
                    exact hJ5 H locs ls hP hD hS (lv_sub hl [1, 2, 0, 4] rfl)
                replace hr := hj2
                refine lv_if_eq (tgt := 111) hx hb dX9_two_103 (by decide) (fun c7 => ?_) (fun c7 => ?_)
                · replace hr := it_t hr c7
                  refine lv_iload_n hx hb dX9_two_111 rfl (lv_at hl 3 rfl) ?_
                  cases hr
                  exact hJ4 H locs ls hP hD hS (lv_sub hl [1, 2, 4, 5, 6, 0] rfl)
                · replace hr := it_f hr c7
                  refine lv_iload hx hb dX9_two_106 (lv_at hl 5 rfl) ?_
                  refine lv_goto (tgt := 112) hx hb dX9_two_108 (by decide) ?_
                  cases hr
                  exact hJ4 H locs ls hP hD hS (lv_sub hl [1, 2, 4, 5, 6, 0] rfl)
              replace hr := hj3
              refine lv_if_lt (tgt := 94) hx hb dX9_two_85 (by decide) (fun c5 => ?_) (fun c5 => ?_)
              · replace hr := it_t hr c5
                refine lv_iconst (v := 1) hx hb dX9_two_94 (by decide) ?_
                refine lv_goto (tgt := 99) hx hb dX9_two_95 (by decide) ?_
                cases hr
                exact hJ3 H locs ls hP hD hS (lv_sub hl [1, 2, 3, 4, 5, 0] rfl)
              · replace hr := it_f hr c5
                refine lv_iload hx hb dX9_two_88 (lv_at hl 0 rfl) ?_
                refine lv_iload_n hx hb dX9_two_90 rfl (lv_at hl 4 rfl) ?_
                refine lv_icmp_ge (tgt := 98) hx hb dX9_two_91 (by decide) (fun c6 => ?_) (fun c6 => ?_)
                · replace hr := it_t hr c6
                  refine lv_iconst (v := 0) hx hb dX9_two_98 (by decide) ?_
                  cases hr
                  exact hJ3 H locs ls hP hD hS (lv_sub hl [1, 2, 3, 4, 5, 0] rfl)
                · replace hr := it_f hr c6
                  refine lv_iconst (v := 1) hx hb dX9_two_94 (by decide) ?_
                  refine lv_goto (tgt := 99) hx hb dX9_two_95 (by decide) ?_
                  cases hr
                  exact hJ3 H locs ls hP hD hS (lv_sub hl [1, 2, 3, 4, 5, 0] rfl)
            replace hr := hj4
            refine lv_icmp_le (tgt := 80) hx hb dX9_two_72 (by decide) (fun c4 => ?_) (fun c4 => ?_)
            · replace hr := it_t hr c4
              refine lv_iload hx hb dX9_two_80 (lv_at hl 0 rfl) ?_
              cases hr
              exact hJ2 H locs ls hP hD hS (lv_sub hl [2, 3, 4, 5, 6] rfl)
            · replace hr := it_f hr c4
              refine lv_iload hx hb dX9_two_75 (lv_at hl 1 rfl) ?_
              refine lv_goto (tgt := 82) hx hb dX9_two_77 (by decide) ?_
              cases hr
              exact hJ2 H locs ls hP hD hS (lv_sub hl [2, 3, 4, 5, 6] rfl)
    obtain ⟨x2_1, x3_1, hE, hr⟩ := bd2_some hr
    refine hL1 K (-1) 0 0 x2_1 x3_1 hE ?_ H locs ls hP hD hS (lv_sub hl [3, 4, 2, 1, 0] rfl)
    intro H locs ls hP hD hS hl
    refine lv_iload_n hx hb dX9_two_131 rfl (lv_at hl 0 rfl) ?_
    refine lv_if_ne (tgt := 139) hx hb dX9_two_132 (by decide) (fun c9 => ?_) (fun c9 => ?_)
    · replace hr := it_f hr c9
      refine lv_iload_n hx hb dX9_two_139 rfl (lv_at hl 1 rfl) ?_
      have he := Option.some.inj hr
      subst he
      subst hQ
      exact ret_i hx hb hrt hK hP hD hS hlocks dX9_two_140
    · replace hr := it_t hr c9
      refine lv_iload_n hx hb dX9_two_135 rfl (lv_at hl 2 rfl) ?_
      refine lv_goto (tgt := 140) hx hb dX9_two_136 (by decide) ?_
      have he := Option.some.inj hr
      subst he
      subst hQ
      exact ret_i hx hb hrt hK hP hD hS hlocks dX9_two_140
  · replace hr := it_t hr c1
    refine lv_iconst (v := (-1)) hx hb dX9_two_9 (by decide) ?_
    have he := Option.some.inj hr
    subst he
    subst hQ
    exact ret_i hx hb hrt hK hP hD hS hlocks dX9_two_10
def fX9_overslept_L53 (K : Nat) (x1 : Int32) (x2 : Int32) (T_guests : Int32) (T_wishes : Int32) (T_st : (Nat → Int32)) (T_wishA : (Nat → Int32)) (T_wishKind : (Nat → Int32)) (T_wishB : (Nat → Int32)) : Nat → Int32 → Int32 → Int32 → Option (Int32 × Int32)
  | 0, _, _, _ => none
  | n1 + 1, x4_1, x5, x6 =>
    if T_guests ≤ (x6 : Int32) then (
    some (x4_1, x5))
    else (
    bd1 (τ0 := Int32) (
    if (x6 : Int32) = x1 then (
    some 0)
    else (
    bd1 (fX9_isHere K x6 T_st) fun r_4 =>
    bs0 (
    if (r_4 : Int32) = 0 then (
    some (.inr ()))
    else (
    bd1 (fX9_hangsOn K x6 T_wishes T_st T_wishA T_wishKind T_wishB) fun r_5 =>
    bd1 (fX9_has K r_5 x1) fun r_6 =>
    if (r_6 : Int32) = 0 then (
    some (.inr ()))
    else (
    some (.inl 1)))) (
    some 0))) fun y =>
    bd1 (τ0 := Int32) (
    if (y : Int32) = 0 then (
    some 1)
    else (
    some (10 - x2))) fun y_1 =>
    nm (x4_1 * y_1) fun x4_3 =>
    bd1 (τ0 := Int32) (
    if (y : Int32) = 0 then (
    some 1)
    else (
    some 10)) fun y_2 =>
    nm (x5 * y_2) fun x5_2 =>
    nm (x6 + 1) fun x6_1 =>
    fX9_overslept_L53 K x1 x2 T_guests T_wishes T_st T_wishA T_wishKind T_wishB n1 x4_3 x5_2 x6_1)
def fX9_overslept_L145 (K : Nat) : Nat → Int32 → Int32 → Option (Int32)
  | 0, _, _ => none
  | n2 + 1, x6_2, x7 =>
    if (x7 : Int32) ≤ 0 then (
    some x6_2)
    else (
    gd (¬ (x7 : Int32) = 0) (
    nm (x6_2 - x6_2 / x7 * x7) fun x8 =>
    fX9_overslept_L145 K n2 x7 x8))
def fX9_overslept (K : Nat) (x1 : Int32) (x2 : Int32) (x3 : Int32) (T_guests : Int32) (T_wishes : Int32) (T_st : (Nat → Int32)) (T_wishA : (Nat → Int32)) (T_wishKind : (Nat → Int32)) (T_wishB : (Nat → Int32)) : Option (Int32) :=
    bd1 (fX9_isGuest K x1 T_guests) fun r =>
    if (r : Int32) = 0 then (
    some (-1))
    else (
    bd1 (fX9_in K x2 0 10) fun r_1 =>
    if (r_1 : Int32) = 0 then (
    some (-1))
    else (
    bd1 (fX9_in K x3 0 1) fun r_2 =>
    if (r_2 : Int32) = 0 then (
    some (-1))
    else (
    bd1 (fX9_isHere K x1 T_st) fun r_3 =>
    if (r_3 : Int32) = 0 then (
    some (-2))
    else (
    nm (10 - x2) fun x4 =>
    bd2 (fX9_overslept_L53 K x1 x2 T_guests T_wishes T_st T_wishA T_wishKind T_wishB K x4 10 0) fun x4_2 x5_1 =>
    bd1 (fX9_overslept_L145 K K x4_2 x5_1) fun x6_3 =>
    bd1 (τ0 := Int32) (
    if (x3 : Int32) = 0 then (
    some x4_2)
    else (
    some x5_1)) fun y_3 =>
    gd (¬ (x6_3 : Int32) = 0) (
    some (y_3 / x6_3))))))
theorem mbX9_overslept_0 : Cond.fieldLink RX9 97 "BootsAtDawnModel" "guests" "I" ∈ wsX9_overslept := List.mem_of_getElem? (i := 1) rfl
theorem inX9_overslept_X9 : ∀ w ∈ u_ws RX9 TX9 36, w ∈ wsX9_overslept := fun _ h => (List.mem_cons_of_mem _ (List.mem_append_right _ h))
abbrev rmX9_overslept : Room := { frames := 3, cells := 0, slots := 0, locals := 73 }
set_option maxHeartbeats 8000000 in
set_option maxRecDepth 100000 in
theorem kX9_overslept (l : Launch) (dC : Nat → ClassId) (dI : Nat → Nat → Nat) (cC cI cJ : ClassId) (sz : Nat) (K : Nat) (a_T a_T_kinds a_T_wishKind a_T_wishA a_T_wishB a_T_st a_T_was a_T_kept a_T_woke a_T_text a_T_told a_T_readKinds a_T_readFloors a_T_readWishKind a_T_readWishA a_T_readWishB a_T_come a_T_keptBy a_T_endsAt a_T_order a_T_time a_T_place : Nat) (x1 : Int32) (x2 : Int32) (x3 : Int32) (T_guests : Int32) (T_wishes : Int32) (T_begins : Int32) (T_acts : Int32) (T_keeps : Int32) (T_wokes : Int32) (T_texted : Int32) (T_at : Int32) (T_readGuests : Int32) (T_readWishes : Int32) (T_readBegins : Int32) (T_here : Int32) (T_stands : Int32) (T_many : Int32) (T_rounds : Int32) (T_st : (Nat → Int32)) (T_wishA : (Nat → Int32)) (T_wishKind : (Nat → Int32)) (T_wishB : (Nat → Int32)) (R : Int32) (hr : fX9_overslept K x1 x2 x3 T_guests T_wishes T_st T_wishA T_wishKind T_wishB = some R) : Met l yX9_overslept wsX9_overslept rmX9_overslept (va_Pc ([.ref a_T, .int x1, .int x2, .int x3] : List Value) (PcW (dC, dI) (tysA cC cI cJ) sz [(a_T, .inr (9, [.int T_guests, .ref a_T_kinds, .int T_wishes, .ref a_T_wishKind, .ref a_T_wishA, .ref a_T_wishB, .int T_begins, .ref a_T_st, .int T_acts, .ref a_T_was, .int T_keeps, .ref a_T_kept, .int T_wokes, .ref a_T_woke, .ref a_T_text, .int T_texted, .int T_at, .ref a_T_told, .int T_readGuests, .ref a_T_readKinds, .ref a_T_readFloors, .int T_readWishes, .ref a_T_readWishKind, .ref a_T_readWishA, .ref a_T_readWishB, .int T_readBegins, .int T_here, .int T_stands, .int T_many, .int T_rounds, .ref a_T_come, .ref a_T_keptBy, .ref a_T_endsAt, .ref a_T_order, .ref a_T_time, .ref a_T_place])), (a_T_st, .inl (cI, 8, .inl T_st)), (a_T_wishA, .inl (cI, 9, .inl T_wishA)), (a_T_wishKind, .inl (cI, 9, .inl T_wishKind)), (a_T_wishB, .inl (cI, 9, .inl T_wishB))])) (va_Qi (fun r (_ : Unit) => r = R) (fun _ => BW (dC, dI) (tysA cC cI cJ) (va_A [(a_T, .inr (9, [.int T_guests, .ref a_T_kinds, .int T_wishes, .ref a_T_wishKind, .ref a_T_wishA, .ref a_T_wishB, .int T_begins, .ref a_T_st, .int T_acts, .ref a_T_was, .int T_keeps, .ref a_T_kept, .int T_wokes, .ref a_T_woke, .ref a_T_text, .int T_texted, .int T_at, .ref a_T_told, .int T_readGuests, .ref a_T_readKinds, .ref a_T_readFloors, .int T_readWishes, .ref a_T_readWishKind, .ref a_T_readWishA, .ref a_T_readWishB, .int T_readBegins, .int T_here, .int T_stands, .int T_many, .int T_rounds, .ref a_T_come, .ref a_T_keptBy, .ref a_T_endsAt, .ref a_T_order, .ref a_T_time, .ref a_T_place])), (a_T_st, .inl (cI, 8, .inl T_st)), (a_T_wishA, .inl (cI, 9, .inl T_wishA)), (a_T_wishKind, .inl (cI, 9, .inl T_wishKind)), (a_T_wishB, .inl (cI, 9, .inl T_wishB))] sz) [(a_T, .inr (9, [.int T_guests, .ref a_T_kinds, .int T_wishes, .ref a_T_wishKind, .ref a_T_wishA, .ref a_T_wishB, .int T_begins, .ref a_T_st, .int T_acts, .ref a_T_was, .int T_keeps, .ref a_T_kept, .int T_wokes, .ref a_T_woke, .ref a_T_text, .int T_texted, .int T_at, .ref a_T_told, .int T_readGuests, .ref a_T_readKinds, .ref a_T_readFloors, .int T_readWishes, .ref a_T_readWishKind, .ref a_T_readWishA, .ref a_T_readWishB, .int T_readBegins, .int T_here, .int T_stands, .int T_many, .int T_rounds, .ref a_T_come, .ref a_T_keptBy, .ref a_T_endsAt, .ref a_T_order, .ref a_T_time, .ref a_T_place])), (a_T_st, .inl (cI, 8, .inl T_st)), (a_T_wishA, .inl (cI, 9, .inl T_wishA)), (a_T_wishKind, .inl (cI, 9, .inl T_wishKind)), (a_T_wishB, .inl (cI, 9, .inl T_wishB))]) (va_A [(a_T, .inr (9, [.int T_guests, .ref a_T_kinds, .int T_wishes, .ref a_T_wishKind, .ref a_T_wishA, .ref a_T_wishB, .int T_begins, .ref a_T_st, .int T_acts, .ref a_T_was, .int T_keeps, .ref a_T_kept, .int T_wokes, .ref a_T_woke, .ref a_T_text, .int T_texted, .int T_at, .ref a_T_told, .int T_readGuests, .ref a_T_readKinds, .ref a_T_readFloors, .int T_readWishes, .ref a_T_readWishKind, .ref a_T_readWishA, .ref a_T_readWishB, .int T_readBegins, .int T_here, .int T_stands, .int T_many, .int T_rounds, .ref a_T_come, .ref a_T_keptBy, .ref a_T_endsAt, .ref a_T_order, .ref a_T_time, .ref a_T_place])), (a_T_st, .inl (cI, 8, .inl T_st)), (a_T_wishA, .inl (cI, 9, .inl T_wishA)), (a_T_wishKind, .inl (cI, 9, .inl T_wishKind)), (a_T_wishB, .inl (cI, 9, .inl T_wishB))] sz)) 0 0 (va_A [(a_T, .inr (9, [.int T_guests, .ref a_T_kinds, .int T_wishes, .ref a_T_wishKind, .ref a_T_wishA, .ref a_T_wishB, .int T_begins, .ref a_T_st, .int T_acts, .ref a_T_was, .int T_keeps, .ref a_T_kept, .int T_wokes, .ref a_T_woke, .ref a_T_text, .int T_texted, .int T_at, .ref a_T_told, .int T_readGuests, .ref a_T_readKinds, .ref a_T_readFloors, .int T_readWishes, .ref a_T_readWishKind, .ref a_T_readWishA, .ref a_T_readWishB, .int T_readBegins, .int T_here, .int T_stands, .int T_many, .int T_rounds, .ref a_T_come, .ref a_T_keptBy, .ref a_T_endsAt, .ref a_T_order, .ref a_T_time, .ref a_T_place])), (a_T_st, .inl (cI, 8, .inl T_st)), (a_T_wishA, .inl (cI, 9, .inl T_wishA)), (a_T_wishKind, .inl (cI, 9, .inl T_wishKind)), (a_T_wishB, .inl (cI, 9, .inl T_wishB))] sz) := by
  refine Met.ofW (cc := cX9_overslept) (maxL := 9) (ret := (some .int)) (by decide) rfl ?_
  intro p e s m args below meth c s₁ B hml hv
  obtain ⟨rfl, hsz, hP, hK, hD0, hN⟩ := hv
  have hx := B.exec
  have hb := B.bytes
  have hrt := B.returns
  have hts := atoms_spec (ws := wsX9_overslept) B.pre
  have hown : s.vm.findClass RX9 = some m.cls := findClass_of_methodNamed B.named
  have hlocks := B.notSynchronized
  subst hsz
  have hD := hD0.self (sz := s.heap.size)
  generalize hAe : va_A [(a_T, .inr (9, [.int T_guests, .ref a_T_kinds, .int T_wishes, .ref a_T_wishKind, .ref a_T_wishA, .ref a_T_wishB, .int T_begins, .ref a_T_st, .int T_acts, .ref a_T_was, .int T_keeps, .ref a_T_kept, .int T_wokes, .ref a_T_woke, .ref a_T_text, .int T_texted, .int T_at, .ref a_T_told, .int T_readGuests, .ref a_T_readKinds, .ref a_T_readFloors, .int T_readWishes, .ref a_T_readWishKind, .ref a_T_readWishA, .ref a_T_readWishB, .int T_readBegins, .int T_here, .int T_stands, .int T_many, .int T_rounds, .ref a_T_come, .ref a_T_keptBy, .ref a_T_endsAt, .ref a_T_order, .ref a_T_time, .ref a_T_place])), (a_T_st, .inl (cI, 8, .inl T_st)), (a_T_wishA, .inl (cI, 9, .inl T_wishA)), (a_T_wishKind, .inl (cI, 9, .inl T_wishKind)), (a_T_wishB, .inl (cI, 9, .inl T_wishB))] s.heap.size = A at hD ⊢
  have hA : ∀ q : Nat, s.heap.size ≤ q → A q := fun q h => by rw [← hAe]; exact Or.inr h
  have hS : va_S A s.heap s.heap [] := va_S.rf
  have hl := lv_entry ([.ref a_T, .int x1, .int x2, .int x3] : List Value) (n := 9) (Nat.le_of_ble_eq_true rfl)
  rw [lg_entry_eq]
  generalize (lg_sl ([.ref a_T, .int x1, .int x2, .int x3] : List Value) ++ List.replicate (9 - (lg_sl ([.ref a_T, .int x1, .int x2, .int x3] : List Value)).length) Slot.unset).toArray = ls at hl ⊢
  replace hl : lv_has ls 9 [(0, .ref a_T), (1, .int x1), (2, .int x2), (3, .int x3)] := hl
  obtain ⟨Q, hQ⟩ : ∃ Q, Q = MQ below (va_Qi (fun r (_ : Unit) => r = R) (fun _ => BW (dC, dI) (tysA cC cI cJ) A [(a_T, .inr (9, [.int T_guests, .ref a_T_kinds, .int T_wishes, .ref a_T_wishKind, .ref a_T_wishA, .ref a_T_wishB, .int T_begins, .ref a_T_st, .int T_acts, .ref a_T_was, .int T_keeps, .ref a_T_kept, .int T_wokes, .ref a_T_woke, .ref a_T_text, .int T_texted, .int T_at, .ref a_T_told, .int T_readGuests, .ref a_T_readKinds, .ref a_T_readFloors, .int T_readWishes, .ref a_T_readWishKind, .ref a_T_readWishA, .ref a_T_readWishB, .int T_readBegins, .int T_here, .int T_stands, .int T_many, .int T_rounds, .ref a_T_come, .ref a_T_keptBy, .ref a_T_endsAt, .ref a_T_order, .ref a_T_time, .ref a_T_place])), (a_T_st, .inl (cI, 8, .inl T_st)), (a_T_wishA, .inl (cI, 9, .inl T_wishA)), (a_T_wishKind, .inl (cI, 9, .inl T_wishKind)), (a_T_wishB, .inl (cI, 9, .inl T_wishB))]) A) ([.ref a_T, .int x1, .int x2, .int x3] : List Value).toArray s 0 0 A := ⟨_, rfl⟩
  rw [← hQ]
  suffices hE : WG p l e rmX9_overslept s m ([.ref a_T, .int x1, .int x2, .int x3] : List Value).toArray below meth c 0 0 Q (dC, dI) A 0 9 [(a_T, .inr (9, [.int T_guests, .ref a_T_kinds, .int T_wishes, .ref a_T_wishKind, .ref a_T_wishA, .ref a_T_wishB, .int T_begins, .ref a_T_st, .int T_acts, .ref a_T_was, .int T_keeps, .ref a_T_kept, .int T_wokes, .ref a_T_woke, .ref a_T_text, .int T_texted, .int T_at, .ref a_T_told, .int T_readGuests, .ref a_T_readKinds, .ref a_T_readFloors, .int T_readWishes, .ref a_T_readWishKind, .ref a_T_readWishA, .ref a_T_readWishB, .int T_readBegins, .int T_here, .int T_stands, .int T_many, .int T_rounds, .ref a_T_come, .ref a_T_keptBy, .ref a_T_endsAt, .ref a_T_order, .ref a_T_time, .ref a_T_place])), (a_T_st, .inl (cI, 8, .inl T_st)), (a_T_wishA, .inl (cI, 9, .inl T_wishA)), (a_T_wishKind, .inl (cI, 9, .inl T_wishKind)), (a_T_wishB, .inl (cI, 9, .inl T_wishB))] [(0, .ref a_T), (1, .int x1), (2, .int x2), (3, .int x3)] [] from hE _ _ _ hP hD hS hl
  clear hP hD hS hl hD0 hAe
  intro H locs ls hP hD hS hl
  unfold fX9_overslept at hr
  refine lv_aload_n hx hb dX9_overslept_0 rfl (lv_at hl 0 rfl) ?_
  refine lv_iload_n hx hb dX9_overslept_1 rfl (lv_at hl 1 rfl) ?_
  obtain ⟨r, hc1, hr⟩ := bd1_some hr
  refine call_i (D := (dC, dI)) (tys := tysA cC cI cJ) (wc := [(a_T, .inr (9, [.int T_guests, .ref a_T_kinds, .int T_wishes, .ref a_T_wishKind, .ref a_T_wishA, .ref a_T_wishB, .int T_begins, .ref a_T_st, .int T_acts, .ref a_T_was, .int T_keeps, .ref a_T_kept, .int T_wokes, .ref a_T_woke, .ref a_T_text, .int T_texted, .int T_at, .ref a_T_told, .int T_readGuests, .ref a_T_readKinds, .ref a_T_readFloors, .int T_readWishes, .ref a_T_readWishKind, .ref a_T_readWishA, .ref a_T_readWishB, .int T_readBegins, .int T_here, .int T_stands, .int T_many, .int T_rounds, .ref a_T_come, .ref a_T_keptBy, .ref a_T_endsAt, .ref a_T_order, .ref a_T_time, .ref a_T_place]))]) (wr := [(a_T_st, .inl (cI, 8, .inl T_st)), (a_T_wishA, .inl (cI, 9, .inl T_wishA)), (a_T_wishKind, .inl (cI, 9, .inl T_wishKind)), (a_T_wishB, .inl (cI, 9, .inl T_wishB))]) (w1 := [(a_T, .inr (9, [.int T_guests, .ref a_T_kinds, .int T_wishes, .ref a_T_wishKind, .ref a_T_wishA, .ref a_T_wishB, .int T_begins, .ref a_T_st, .int T_acts, .ref a_T_was, .int T_keeps, .ref a_T_kept, .int T_wokes, .ref a_T_woke, .ref a_T_text, .int T_texted, .int T_at, .ref a_T_told, .int T_readGuests, .ref a_T_readKinds, .ref a_T_readFloors, .int T_readWishes, .ref a_T_readWishKind, .ref a_T_readWishA, .ref a_T_readWishB, .int T_readBegins, .int T_here, .int T_stands, .int T_many, .int T_rounds, .ref a_T_come, .ref a_T_keptBy, .ref a_T_endsAt, .ref a_T_order, .ref a_T_time, .ref a_T_place]))]) (wn := [(a_T, .inr (9, [.int T_guests, .ref a_T_kinds, .int T_wishes, .ref a_T_wishKind, .ref a_T_wishA, .ref a_T_wishB, .int T_begins, .ref a_T_st, .int T_acts, .ref a_T_was, .int T_keeps, .ref a_T_kept, .int T_wokes, .ref a_T_woke, .ref a_T_text, .int T_texted, .int T_at, .ref a_T_told, .int T_readGuests, .ref a_T_readKinds, .ref a_T_readFloors, .int T_readWishes, .ref a_T_readWishKind, .ref a_T_readWishA, .ref a_T_readWishB, .int T_readBegins, .int T_here, .int T_stands, .int T_many, .int T_rounds, .ref a_T_come, .ref a_T_keptBy, .ref a_T_endsAt, .ref a_T_order, .ref a_T_time, .ref a_T_place])), (a_T_st, .inl (cI, 8, .inl T_st)), (a_T_wishA, .inl (cI, 9, .inl T_wishA)), (a_T_wishKind, .inl (cI, 9, .inl T_wishKind)), (a_T_wishB, .inl (cI, 9, .inl T_wishB))]) (r0 := r) hP hD hS hA [0] [1, 2, 3, 4] [4, 0, 1, 2, 3] rfl rfl (by decide +kernel) (by decide +kernel) rfl (by decide +kernel) (va_runV (As := [.int x1]) (rest := []) ⟨hx, hb, hml, hown, hts⟩ (kX9_isGuest l dC dI cC cI cJ H.size K a_T a_T_kinds a_T_wishKind a_T_wishA a_T_wishB a_T_st a_T_was a_T_kept a_T_woke a_T_text a_T_told a_T_readKinds a_T_readFloors a_T_readWishKind a_T_readWishA a_T_readWishB a_T_come a_T_keptBy a_T_endsAt a_T_order a_T_time a_T_place x1 T_guests T_wishes T_begins T_acts T_keeps T_wokes T_texted T_at T_readGuests T_readWishes T_readBegins T_here T_stands T_many T_rounds r hc1) (cwV 1 hts gX9_overslept_X9_isGuest rfl rfl rfl (by decide +kernel) ⟨Nat.le_of_ble_eq_true rfl, Nat.le_of_ble_eq_true rfl⟩) ⟨fbW, va_recv hK hP (ci := 9) (q0 := 0) rfl rfl, preW hP hD hK hN [0] rfl (by decide +kernel)⟩ rfl rfl hl.1 rfl (lv_room (Nat.le_of_ble_eq_true rfl)) dX9_overslept_2 ⟨Nat.zero_le _, Nat.zero_le _⟩) (fun H locs hP hD hS => ?_)
  refine lv_if_eq (tgt := 27) hx hb dX9_overslept_5 (by decide) (fun c1 => ?_) (fun c1 => ?_)
  · replace hr := it_t hr c1
    refine lv_iconst (v := (-1)) hx hb dX9_overslept_27 (by decide) ?_
    have he := Option.some.inj hr
    subst he
    subst hQ
    exact ret_i hx hb hrt hK hP hD hS hlocks dX9_overslept_28
  · replace hr := it_f hr c1
    refine lv_iload_n hx hb dX9_overslept_8 rfl (lv_at hl 2 rfl) ?_
    refine lv_iconst (v := 0) hx hb dX9_overslept_9 (by decide) ?_
    refine lv_bipush (v := 10) hx hb dX9_overslept_10 (by decide) ?_
    obtain ⟨r_1, hc2, hr⟩ := bd1_some hr
    refine call_i (D := (dC, dI)) (tys := tysA cC cI cJ) (wc := []) (wr := [(a_T, .inr (9, [.int T_guests, .ref a_T_kinds, .int T_wishes, .ref a_T_wishKind, .ref a_T_wishA, .ref a_T_wishB, .int T_begins, .ref a_T_st, .int T_acts, .ref a_T_was, .int T_keeps, .ref a_T_kept, .int T_wokes, .ref a_T_woke, .ref a_T_text, .int T_texted, .int T_at, .ref a_T_told, .int T_readGuests, .ref a_T_readKinds, .ref a_T_readFloors, .int T_readWishes, .ref a_T_readWishKind, .ref a_T_readWishA, .ref a_T_readWishB, .int T_readBegins, .int T_here, .int T_stands, .int T_many, .int T_rounds, .ref a_T_come, .ref a_T_keptBy, .ref a_T_endsAt, .ref a_T_order, .ref a_T_time, .ref a_T_place])), (a_T_st, .inl (cI, 8, .inl T_st)), (a_T_wishA, .inl (cI, 9, .inl T_wishA)), (a_T_wishKind, .inl (cI, 9, .inl T_wishKind)), (a_T_wishB, .inl (cI, 9, .inl T_wishB))]) (w1 := []) (wn := [(a_T, .inr (9, [.int T_guests, .ref a_T_kinds, .int T_wishes, .ref a_T_wishKind, .ref a_T_wishA, .ref a_T_wishB, .int T_begins, .ref a_T_st, .int T_acts, .ref a_T_was, .int T_keeps, .ref a_T_kept, .int T_wokes, .ref a_T_woke, .ref a_T_text, .int T_texted, .int T_at, .ref a_T_told, .int T_readGuests, .ref a_T_readKinds, .ref a_T_readFloors, .int T_readWishes, .ref a_T_readWishKind, .ref a_T_readWishA, .ref a_T_readWishB, .int T_readBegins, .int T_here, .int T_stands, .int T_many, .int T_rounds, .ref a_T_come, .ref a_T_keptBy, .ref a_T_endsAt, .ref a_T_order, .ref a_T_time, .ref a_T_place])), (a_T_st, .inl (cI, 8, .inl T_st)), (a_T_wishA, .inl (cI, 9, .inl T_wishA)), (a_T_wishKind, .inl (cI, 9, .inl T_wishKind)), (a_T_wishB, .inl (cI, 9, .inl T_wishB))]) (r0 := r_1) hP hD hS hA [] [0, 1, 2, 3, 4] [0, 1, 2, 3, 4] rfl rfl (by decide +kernel) (by decide +kernel) rfl (by decide +kernel) (va_runS (As := [.int x2, .int 0, .int 10]) (rest := []) ⟨hx, hb, hml, hown, hts⟩ (kX9_in l dC dI cC cI cJ H.size K x2 0 10 r_1 hc2) (va_cwS 3 hts gX9_overslept_X9_in rfl rfl rfl (by decide +kernel) ⟨Nat.le_of_ble_eq_true rfl, Nat.le_of_ble_eq_true rfl⟩) ⟨fbW, preW hP hD hK hN [] rfl (by decide +kernel)⟩ rfl rfl hl.1 rfl (lv_room (Nat.le_of_ble_eq_true rfl)) dX9_overslept_12 ⟨Nat.zero_le _, Nat.zero_le _⟩) (fun H locs hP hD hS => ?_)
    refine lv_if_eq (tgt := 27) hx hb dX9_overslept_15 (by decide) (fun c2 => ?_) (fun c2 => ?_)
    · replace hr := it_t hr c2
      refine lv_iconst (v := (-1)) hx hb dX9_overslept_27 (by decide) ?_
      have he := Option.some.inj hr
      subst he
      subst hQ
      exact ret_i hx hb hrt hK hP hD hS hlocks dX9_overslept_28
    · replace hr := it_f hr c2
      refine lv_iload_n hx hb dX9_overslept_18 rfl (lv_at hl 3 rfl) ?_
      refine lv_iconst (v := 0) hx hb dX9_overslept_19 (by decide) ?_
      refine lv_iconst (v := 1) hx hb dX9_overslept_20 (by decide) ?_
      obtain ⟨r_2, hc3, hr⟩ := bd1_some hr
      refine call_i (D := (dC, dI)) (tys := tysA cC cI cJ) (wc := []) (wr := [(a_T, .inr (9, [.int T_guests, .ref a_T_kinds, .int T_wishes, .ref a_T_wishKind, .ref a_T_wishA, .ref a_T_wishB, .int T_begins, .ref a_T_st, .int T_acts, .ref a_T_was, .int T_keeps, .ref a_T_kept, .int T_wokes, .ref a_T_woke, .ref a_T_text, .int T_texted, .int T_at, .ref a_T_told, .int T_readGuests, .ref a_T_readKinds, .ref a_T_readFloors, .int T_readWishes, .ref a_T_readWishKind, .ref a_T_readWishA, .ref a_T_readWishB, .int T_readBegins, .int T_here, .int T_stands, .int T_many, .int T_rounds, .ref a_T_come, .ref a_T_keptBy, .ref a_T_endsAt, .ref a_T_order, .ref a_T_time, .ref a_T_place])), (a_T_st, .inl (cI, 8, .inl T_st)), (a_T_wishA, .inl (cI, 9, .inl T_wishA)), (a_T_wishKind, .inl (cI, 9, .inl T_wishKind)), (a_T_wishB, .inl (cI, 9, .inl T_wishB))]) (w1 := []) (wn := [(a_T, .inr (9, [.int T_guests, .ref a_T_kinds, .int T_wishes, .ref a_T_wishKind, .ref a_T_wishA, .ref a_T_wishB, .int T_begins, .ref a_T_st, .int T_acts, .ref a_T_was, .int T_keeps, .ref a_T_kept, .int T_wokes, .ref a_T_woke, .ref a_T_text, .int T_texted, .int T_at, .ref a_T_told, .int T_readGuests, .ref a_T_readKinds, .ref a_T_readFloors, .int T_readWishes, .ref a_T_readWishKind, .ref a_T_readWishA, .ref a_T_readWishB, .int T_readBegins, .int T_here, .int T_stands, .int T_many, .int T_rounds, .ref a_T_come, .ref a_T_keptBy, .ref a_T_endsAt, .ref a_T_order, .ref a_T_time, .ref a_T_place])), (a_T_st, .inl (cI, 8, .inl T_st)), (a_T_wishA, .inl (cI, 9, .inl T_wishA)), (a_T_wishKind, .inl (cI, 9, .inl T_wishKind)), (a_T_wishB, .inl (cI, 9, .inl T_wishB))]) (r0 := r_2) hP hD hS hA [] [0, 1, 2, 3, 4] [0, 1, 2, 3, 4] rfl rfl (by decide +kernel) (by decide +kernel) rfl (by decide +kernel) (va_runS (As := [.int x3, .int 0, .int 1]) (rest := []) ⟨hx, hb, hml, hown, hts⟩ (kX9_in l dC dI cC cI cJ H.size K x3 0 1 r_2 hc3) (va_cwS 3 hts gX9_overslept_X9_in rfl rfl rfl (by decide +kernel) ⟨Nat.le_of_ble_eq_true rfl, Nat.le_of_ble_eq_true rfl⟩) ⟨fbW, preW hP hD hK hN [] rfl (by decide +kernel)⟩ rfl rfl hl.1 rfl (lv_room (Nat.le_of_ble_eq_true rfl)) dX9_overslept_21 ⟨Nat.zero_le _, Nat.zero_le _⟩) (fun H locs hP hD hS => ?_)
      refine lv_if_ne (tgt := 29) hx hb dX9_overslept_24 (by decide) (fun c3 => ?_) (fun c3 => ?_)
      · replace hr := it_f hr c3
        refine lv_aload_n hx hb dX9_overslept_29 rfl (lv_at hl 0 rfl) ?_
        refine lv_iload_n hx hb dX9_overslept_30 rfl (lv_at hl 1 rfl) ?_
        obtain ⟨r_3, hc4, hr⟩ := bd1_some hr
        refine call_i (D := (dC, dI)) (tys := tysA cC cI cJ) (wc := [(a_T, .inr (9, [.int T_guests, .ref a_T_kinds, .int T_wishes, .ref a_T_wishKind, .ref a_T_wishA, .ref a_T_wishB, .int T_begins, .ref a_T_st, .int T_acts, .ref a_T_was, .int T_keeps, .ref a_T_kept, .int T_wokes, .ref a_T_woke, .ref a_T_text, .int T_texted, .int T_at, .ref a_T_told, .int T_readGuests, .ref a_T_readKinds, .ref a_T_readFloors, .int T_readWishes, .ref a_T_readWishKind, .ref a_T_readWishA, .ref a_T_readWishB, .int T_readBegins, .int T_here, .int T_stands, .int T_many, .int T_rounds, .ref a_T_come, .ref a_T_keptBy, .ref a_T_endsAt, .ref a_T_order, .ref a_T_time, .ref a_T_place])), (a_T_st, .inl (cI, 8, .inl T_st))]) (wr := [(a_T_wishA, .inl (cI, 9, .inl T_wishA)), (a_T_wishKind, .inl (cI, 9, .inl T_wishKind)), (a_T_wishB, .inl (cI, 9, .inl T_wishB))]) (w1 := [(a_T, .inr (9, [.int T_guests, .ref a_T_kinds, .int T_wishes, .ref a_T_wishKind, .ref a_T_wishA, .ref a_T_wishB, .int T_begins, .ref a_T_st, .int T_acts, .ref a_T_was, .int T_keeps, .ref a_T_kept, .int T_wokes, .ref a_T_woke, .ref a_T_text, .int T_texted, .int T_at, .ref a_T_told, .int T_readGuests, .ref a_T_readKinds, .ref a_T_readFloors, .int T_readWishes, .ref a_T_readWishKind, .ref a_T_readWishA, .ref a_T_readWishB, .int T_readBegins, .int T_here, .int T_stands, .int T_many, .int T_rounds, .ref a_T_come, .ref a_T_keptBy, .ref a_T_endsAt, .ref a_T_order, .ref a_T_time, .ref a_T_place])), (a_T_st, .inl (cI, 8, .inl T_st))]) (wn := [(a_T, .inr (9, [.int T_guests, .ref a_T_kinds, .int T_wishes, .ref a_T_wishKind, .ref a_T_wishA, .ref a_T_wishB, .int T_begins, .ref a_T_st, .int T_acts, .ref a_T_was, .int T_keeps, .ref a_T_kept, .int T_wokes, .ref a_T_woke, .ref a_T_text, .int T_texted, .int T_at, .ref a_T_told, .int T_readGuests, .ref a_T_readKinds, .ref a_T_readFloors, .int T_readWishes, .ref a_T_readWishKind, .ref a_T_readWishA, .ref a_T_readWishB, .int T_readBegins, .int T_here, .int T_stands, .int T_many, .int T_rounds, .ref a_T_come, .ref a_T_keptBy, .ref a_T_endsAt, .ref a_T_order, .ref a_T_time, .ref a_T_place])), (a_T_st, .inl (cI, 8, .inl T_st)), (a_T_wishA, .inl (cI, 9, .inl T_wishA)), (a_T_wishKind, .inl (cI, 9, .inl T_wishKind)), (a_T_wishB, .inl (cI, 9, .inl T_wishB))]) (r0 := r_3) hP hD hS hA [0, 1] [2, 3, 4] [3, 4, 0, 1, 2] rfl rfl (by decide +kernel) (by decide +kernel) rfl (by decide +kernel) (va_runV (As := [.int x1]) (rest := []) ⟨hx, hb, hml, hown, hts⟩ (kX9_isHere l dC dI cC cI cJ H.size K a_T a_T_kinds a_T_wishKind a_T_wishA a_T_wishB a_T_st a_T_was a_T_kept a_T_woke a_T_text a_T_told a_T_readKinds a_T_readFloors a_T_readWishKind a_T_readWishA a_T_readWishB a_T_come a_T_keptBy a_T_endsAt a_T_order a_T_time a_T_place x1 T_guests T_wishes T_begins T_acts T_keeps T_wokes T_texted T_at T_readGuests T_readWishes T_readBegins T_here T_stands T_many T_rounds T_st r_3 hc4) (cwV 1 hts gX9_overslept_X9_isHere rfl rfl rfl (by decide +kernel) ⟨Nat.le_of_ble_eq_true rfl, Nat.le_of_ble_eq_true rfl⟩) ⟨fbW, va_recv hK hP (ci := 9) (q0 := 0) rfl rfl, preW hP hD hK hN [0, 1] rfl (by decide +kernel)⟩ rfl rfl hl.1 rfl (lv_room (Nat.le_of_ble_eq_true rfl)) dX9_overslept_31 ⟨Nat.zero_le _, Nat.zero_le _⟩) (fun H locs hP hD hS => ?_)
        refine lv_if_ne (tgt := 40) hx hb dX9_overslept_34 (by decide) (fun c4 => ?_) (fun c4 => ?_)
        · replace hr := it_f hr c4
          refine lv_bipush (v := 10) hx hb dX9_overslept_40 (by decide) ?_
          refine lv_iload_n hx hb dX9_overslept_42 rfl (lv_at hl 2 rfl) ?_
          refine lv_isub hx hb dX9_overslept_43 ?_
          obtain ⟨x4, e1, hr⟩ := nm_el hr
          refine lv_nmi e1 ?_
          refine lv_istore (lv' := [(4, .int x4), (0, .ref a_T), (1, .int x1), (2, .int x2), (3, .int x3)]) hx hb dX9_overslept_44 hl (by decide) rfl (fun ls hl => ?_)
          refine lv_bipush (v := 10) hx hb dX9_overslept_46 (by decide) ?_
          refine lv_istore (lv' := [(5, .int 10), (4, .int x4), (0, .ref a_T), (1, .int x1), (2, .int x2), (3, .int x3)]) hx hb dX9_overslept_48 hl (by decide) rfl (fun ls hl => ?_)
          refine lv_iconst (v := 0) hx hb dX9_overslept_50 (by decide) ?_
          refine lv_istore (lv' := [(6, .int 0), (5, .int 10), (4, .int x4), (0, .ref a_T), (1, .int x1), (2, .int x2), (3, .int x3)]) hx hb dX9_overslept_51 hl (by decide) rfl (fun ls hl => ?_)
          have hL1 : ∀ (n1 : Nat) (x4_1 : Int32) (x5 : Int32) (x6 : Int32) (x4_2 : Int32) (x5_1 : Int32), fX9_overslept_L53 K x1 x2 T_guests T_wishes T_st T_wishA T_wishKind T_wishB n1 x4_1 x5 x6 = some (x4_2, x5_1) → WG p l e rmX9_overslept s m ([.ref a_T, .int x1, .int x2, .int x3] : List Value).toArray below meth c 0 0 Q (dC, dI) A 137 9 [(a_T, .inr (9, [.int T_guests, .ref a_T_kinds, .int T_wishes, .ref a_T_wishKind, .ref a_T_wishA, .ref a_T_wishB, .int T_begins, .ref a_T_st, .int T_acts, .ref a_T_was, .int T_keeps, .ref a_T_kept, .int T_wokes, .ref a_T_woke, .ref a_T_text, .int T_texted, .int T_at, .ref a_T_told, .int T_readGuests, .ref a_T_readKinds, .ref a_T_readFloors, .int T_readWishes, .ref a_T_readWishKind, .ref a_T_readWishA, .ref a_T_readWishB, .int T_readBegins, .int T_here, .int T_stands, .int T_many, .int T_rounds, .ref a_T_come, .ref a_T_keptBy, .ref a_T_endsAt, .ref a_T_order, .ref a_T_time, .ref a_T_place])), (a_T_st, .inl (cI, 8, .inl T_st)), (a_T_wishA, .inl (cI, 9, .inl T_wishA)), (a_T_wishKind, .inl (cI, 9, .inl T_wishKind)), (a_T_wishB, .inl (cI, 9, .inl T_wishB))] [(3, .int x3), (4, .int x4_2), (5, .int x5_1)] [] → WG p l e rmX9_overslept s m ([.ref a_T, .int x1, .int x2, .int x3] : List Value).toArray below meth c 0 0 Q (dC, dI) A 53 9 [(a_T, .inr (9, [.int T_guests, .ref a_T_kinds, .int T_wishes, .ref a_T_wishKind, .ref a_T_wishA, .ref a_T_wishB, .int T_begins, .ref a_T_st, .int T_acts, .ref a_T_was, .int T_keeps, .ref a_T_kept, .int T_wokes, .ref a_T_woke, .ref a_T_text, .int T_texted, .int T_at, .ref a_T_told, .int T_readGuests, .ref a_T_readKinds, .ref a_T_readFloors, .int T_readWishes, .ref a_T_readWishKind, .ref a_T_readWishA, .ref a_T_readWishB, .int T_readBegins, .int T_here, .int T_stands, .int T_many, .int T_rounds, .ref a_T_come, .ref a_T_keptBy, .ref a_T_endsAt, .ref a_T_order, .ref a_T_time, .ref a_T_place])), (a_T_st, .inl (cI, 8, .inl T_st)), (a_T_wishA, .inl (cI, 9, .inl T_wishA)), (a_T_wishKind, .inl (cI, 9, .inl T_wishKind)), (a_T_wishB, .inl (cI, 9, .inl T_wishB))] [(0, .ref a_T), (1, .int x1), (2, .int x2), (3, .int x3), (4, .int x4_1), (5, .int x5), (6, .int x6)] [] := by
            intro n1
            induction n1 with
            | zero =>
              intro x4_1 x5 x6 x4_2 x5_1 hr
              rw [fX9_overslept_L53] at hr
              cases hr
            | succ n1 ih53 =>
              intro x4_1 x5 x6 x4_2 x5_1 hr hX1 H locs ls hP hD hS hl
              rw [fX9_overslept_L53] at hr
              refine lv_iload hx hb dX9_overslept_53 (lv_at hl 6 rfl) ?_
              refine lv_aload_n hx hb dX9_overslept_55 rfl (lv_at hl 0 rfl) ?_
              refine va_get (D := (dC, dI)) (ci := 9) (v := .int T_guests) (C := RX9) (T := TX9) (N := 36) hx hb hts inX9_overslept_X9 hown hK hP 0 rfl rfl 0 (by decide) (hts _ mbX9_overslept_0) (fun _ h9 => h9) rfl dX9_overslept_56 ?_
              refine lv_icmp_ge (tgt := 137) hx hb dX9_overslept_59 (by decide) (fun c5 => ?_) (fun c5 => ?_)
              · replace hr := it_t hr c5
                have he := Option.some.inj hr
                cases he
                exact hX1 H locs ls hP hD hS (lv_sub hl [3, 4, 5] rfl)
              · replace hr := it_f hr c5
                refine lv_iload hx hb dX9_overslept_62 (lv_at hl 6 rfl) ?_
                refine lv_iload_n hx hb dX9_overslept_64 rfl (lv_at hl 1 rfl) ?_
                obtain ⟨y, hj3, hr⟩ := bd1_some hr
                have hJ1 : WG p l e rmX9_overslept s m ([.ref a_T, .int x1, .int x2, .int x3] : List Value).toArray below meth c 0 0 Q (dC, dI) A 95 9 [(a_T, .inr (9, [.int T_guests, .ref a_T_kinds, .int T_wishes, .ref a_T_wishKind, .ref a_T_wishA, .ref a_T_wishB, .int T_begins, .ref a_T_st, .int T_acts, .ref a_T_was, .int T_keeps, .ref a_T_kept, .int T_wokes, .ref a_T_woke, .ref a_T_text, .int T_texted, .int T_at, .ref a_T_told, .int T_readGuests, .ref a_T_readKinds, .ref a_T_readFloors, .int T_readWishes, .ref a_T_readWishKind, .ref a_T_readWishA, .ref a_T_readWishB, .int T_readBegins, .int T_here, .int T_stands, .int T_many, .int T_rounds, .ref a_T_come, .ref a_T_keptBy, .ref a_T_endsAt, .ref a_T_order, .ref a_T_time, .ref a_T_place])), (a_T_st, .inl (cI, 8, .inl T_st)), (a_T_wishA, .inl (cI, 9, .inl T_wishA)), (a_T_wishKind, .inl (cI, 9, .inl T_wishKind)), (a_T_wishB, .inl (cI, 9, .inl T_wishB))] [(0, .ref a_T), (1, .int x1), (2, .int x2), (3, .int x3), (4, .int x4_1), (5, .int x5), (6, .int x6)] [.int y] := by
                  intro H locs ls hP hD hS hl
                  refine lv_istore (lv' := [(7, .int y), (0, .ref a_T), (1, .int x1), (2, .int x2), (3, .int x3), (4, .int x4_1), (5, .int x5), (6, .int x6)]) hx hb dX9_overslept_95 hl (by decide) rfl (fun ls hl => ?_)
                  refine lv_iload hx hb dX9_overslept_97 (lv_at hl 5 rfl) ?_
                  refine lv_iload hx hb dX9_overslept_99 (lv_at hl 0 rfl) ?_
                  obtain ⟨y_1, hj2, hr⟩ := bd1_some hr
                  have hJ3 : WG p l e rmX9_overslept s m ([.ref a_T, .int x1, .int x2, .int x3] : List Value).toArray below meth c 0 0 Q (dC, dI) A 112 9 [(a_T, .inr (9, [.int T_guests, .ref a_T_kinds, .int T_wishes, .ref a_T_wishKind, .ref a_T_wishA, .ref a_T_wishB, .int T_begins, .ref a_T_st, .int T_acts, .ref a_T_was, .int T_keeps, .ref a_T_kept, .int T_wokes, .ref a_T_woke, .ref a_T_text, .int T_texted, .int T_at, .ref a_T_told, .int T_readGuests, .ref a_T_readKinds, .ref a_T_readFloors, .int T_readWishes, .ref a_T_readWishKind, .ref a_T_readWishA, .ref a_T_readWishB, .int T_readBegins, .int T_here, .int T_stands, .int T_many, .int T_rounds, .ref a_T_come, .ref a_T_keptBy, .ref a_T_endsAt, .ref a_T_order, .ref a_T_time, .ref a_T_place])), (a_T_st, .inl (cI, 8, .inl T_st)), (a_T_wishA, .inl (cI, 9, .inl T_wishA)), (a_T_wishKind, .inl (cI, 9, .inl T_wishKind)), (a_T_wishB, .inl (cI, 9, .inl T_wishB))] [(0, .ref a_T), (1, .int x1), (2, .int x2), (3, .int x3), (5, .int x5), (6, .int x6), (7, .int y)] [.int y_1, .int x4_1] := by
                    intro H locs ls hP hD hS hl
                    refine lv_imul hx hb dX9_overslept_112 ?_
                    obtain ⟨x4_3, e2, hr⟩ := nm_el hr
                    refine lv_nmi e2 ?_
                    refine lv_istore (lv' := [(4, .int x4_3), (0, .ref a_T), (1, .int x1), (2, .int x2), (3, .int x3), (5, .int x5), (6, .int x6), (7, .int y)]) hx hb dX9_overslept_113 hl (by decide) rfl (fun ls hl => ?_)
                    refine lv_iload hx hb dX9_overslept_115 (lv_at hl 5 rfl) ?_
                    refine lv_iload hx hb dX9_overslept_117 (lv_at hl 7 rfl) ?_
                    obtain ⟨y_2, hj1, hr⟩ := bd1_some hr
                    have hJ4 : WG p l e rmX9_overslept s m ([.ref a_T, .int x1, .int x2, .int x3] : List Value).toArray below meth c 0 0 Q (dC, dI) A 128 9 [(a_T, .inr (9, [.int T_guests, .ref a_T_kinds, .int T_wishes, .ref a_T_wishKind, .ref a_T_wishA, .ref a_T_wishB, .int T_begins, .ref a_T_st, .int T_acts, .ref a_T_was, .int T_keeps, .ref a_T_kept, .int T_wokes, .ref a_T_woke, .ref a_T_text, .int T_texted, .int T_at, .ref a_T_told, .int T_readGuests, .ref a_T_readKinds, .ref a_T_readFloors, .int T_readWishes, .ref a_T_readWishKind, .ref a_T_readWishA, .ref a_T_readWishB, .int T_readBegins, .int T_here, .int T_stands, .int T_many, .int T_rounds, .ref a_T_come, .ref a_T_keptBy, .ref a_T_endsAt, .ref a_T_order, .ref a_T_time, .ref a_T_place])), (a_T_st, .inl (cI, 8, .inl T_st)), (a_T_wishA, .inl (cI, 9, .inl T_wishA)), (a_T_wishKind, .inl (cI, 9, .inl T_wishKind)), (a_T_wishB, .inl (cI, 9, .inl T_wishB))] [(0, .ref a_T), (1, .int x1), (2, .int x2), (3, .int x3), (4, .int x4_3), (6, .int x6)] [.int y_2, .int x5] := by
                      intro H locs ls hP hD hS hl
                      refine lv_imul hx hb dX9_overslept_128 ?_
                      obtain ⟨x5_2, e3, hr⟩ := nm_el hr
                      refine lv_nmi e3 ?_
                      refine lv_istore (lv' := [(5, .int x5_2), (0, .ref a_T), (1, .int x1), (2, .int x2), (3, .int x3), (4, .int x4_3), (6, .int x6)]) hx hb dX9_overslept_129 hl (by decide) rfl (fun ls hl => ?_)
                      obtain ⟨x6_1, e4, hr⟩ := nm_el hr
                      refine lv_iinc (v := x6_1) (lv' := [(6, .int x6_1), (5, .int x5_2), (0, .ref a_T), (1, .int x1), (2, .int x2), (3, .int x3), (4, .int x4_3)]) hx hb dX9_overslept_131 hl (k := 6) rfl e4.symm (by decide) rfl (fun ls hl => ?_)
                      refine lv_goto (tgt := 53) hx hb dX9_overslept_134 (by decide) ?_
                      exact ih53 _ _ _ _ _ hr hX1 H locs ls hP hD hS (lv_sub hl [2, 3, 4, 5, 6, 1, 0] rfl)
                    replace hr := hj1
                    refine lv_if_eq (tgt := 127) hx hb dX9_overslept_119 (by decide) (fun c10 => ?_) (fun c10 => ?_)
                    · replace hr := it_t hr c10
                      refine lv_iconst (v := 1) hx hb dX9_overslept_127 (by decide) ?_
                      cases hr
                      exact hJ4 H locs ls hP hD hS (lv_sub hl [1, 2, 3, 4, 0, 6] rfl)
                    · replace hr := it_f hr c10
                      refine lv_bipush (v := 10) hx hb dX9_overslept_122 (by decide) ?_
                      refine lv_goto (tgt := 128) hx hb dX9_overslept_124 (by decide) ?_
                      cases hr
                      exact hJ4 H locs ls hP hD hS (lv_sub hl [1, 2, 3, 4, 0, 6] rfl)
                  replace hr := hj2
                  refine lv_if_eq (tgt := 111) hx hb dX9_overslept_101 (by decide) (fun c9 => ?_) (fun c9 => ?_)
                  · replace hr := it_t hr c9
                    refine lv_iconst (v := 1) hx hb dX9_overslept_111 (by decide) ?_
                    cases hr
                    exact hJ3 H locs ls hP hD hS (lv_sub hl [1, 2, 3, 4, 6, 7, 0] rfl)
                  · replace hr := it_f hr c9
                    refine lv_bipush (v := 10) hx hb dX9_overslept_104 (by decide) ?_
                    refine lv_iload_n hx hb dX9_overslept_106 rfl (lv_at hl 3 rfl) ?_
                    refine lv_isub hx hb dX9_overslept_107 ?_
                    refine lv_goto (tgt := 112) hx hb dX9_overslept_108 (by decide) ?_
                    cases hr
                    exact hJ3 H locs ls hP hD hS (lv_sub hl [1, 2, 3, 4, 6, 7, 0] rfl)
                replace hr := hj3
                refine lv_icmp_eq (tgt := 94) hx hb dX9_overslept_65 (by decide) (fun c6 => ?_) (fun c6 => ?_)
                · replace hr := it_t hr c6
                  refine lv_iconst (v := 0) hx hb dX9_overslept_94 (by decide) ?_
                  cases hr
                  exact hJ1 H locs ls hP hD hS (lv_sub hl [0, 1, 2, 3, 4, 5, 6] rfl)
                · replace hr := it_f hr c6
                  refine lv_aload_n hx hb dX9_overslept_68 rfl (lv_at hl 0 rfl) ?_
                  refine lv_iload hx hb dX9_overslept_69 (lv_at hl 6 rfl) ?_
                  obtain ⟨r_4, hc5, hr⟩ := bd1_some hr
                  refine call_i (D := (dC, dI)) (tys := tysA cC cI cJ) (wc := [(a_T, .inr (9, [.int T_guests, .ref a_T_kinds, .int T_wishes, .ref a_T_wishKind, .ref a_T_wishA, .ref a_T_wishB, .int T_begins, .ref a_T_st, .int T_acts, .ref a_T_was, .int T_keeps, .ref a_T_kept, .int T_wokes, .ref a_T_woke, .ref a_T_text, .int T_texted, .int T_at, .ref a_T_told, .int T_readGuests, .ref a_T_readKinds, .ref a_T_readFloors, .int T_readWishes, .ref a_T_readWishKind, .ref a_T_readWishA, .ref a_T_readWishB, .int T_readBegins, .int T_here, .int T_stands, .int T_many, .int T_rounds, .ref a_T_come, .ref a_T_keptBy, .ref a_T_endsAt, .ref a_T_order, .ref a_T_time, .ref a_T_place])), (a_T_st, .inl (cI, 8, .inl T_st))]) (wr := [(a_T_wishA, .inl (cI, 9, .inl T_wishA)), (a_T_wishKind, .inl (cI, 9, .inl T_wishKind)), (a_T_wishB, .inl (cI, 9, .inl T_wishB))]) (w1 := [(a_T, .inr (9, [.int T_guests, .ref a_T_kinds, .int T_wishes, .ref a_T_wishKind, .ref a_T_wishA, .ref a_T_wishB, .int T_begins, .ref a_T_st, .int T_acts, .ref a_T_was, .int T_keeps, .ref a_T_kept, .int T_wokes, .ref a_T_woke, .ref a_T_text, .int T_texted, .int T_at, .ref a_T_told, .int T_readGuests, .ref a_T_readKinds, .ref a_T_readFloors, .int T_readWishes, .ref a_T_readWishKind, .ref a_T_readWishA, .ref a_T_readWishB, .int T_readBegins, .int T_here, .int T_stands, .int T_many, .int T_rounds, .ref a_T_come, .ref a_T_keptBy, .ref a_T_endsAt, .ref a_T_order, .ref a_T_time, .ref a_T_place])), (a_T_st, .inl (cI, 8, .inl T_st))]) (wn := [(a_T, .inr (9, [.int T_guests, .ref a_T_kinds, .int T_wishes, .ref a_T_wishKind, .ref a_T_wishA, .ref a_T_wishB, .int T_begins, .ref a_T_st, .int T_acts, .ref a_T_was, .int T_keeps, .ref a_T_kept, .int T_wokes, .ref a_T_woke, .ref a_T_text, .int T_texted, .int T_at, .ref a_T_told, .int T_readGuests, .ref a_T_readKinds, .ref a_T_readFloors, .int T_readWishes, .ref a_T_readWishKind, .ref a_T_readWishA, .ref a_T_readWishB, .int T_readBegins, .int T_here, .int T_stands, .int T_many, .int T_rounds, .ref a_T_come, .ref a_T_keptBy, .ref a_T_endsAt, .ref a_T_order, .ref a_T_time, .ref a_T_place])), (a_T_st, .inl (cI, 8, .inl T_st)), (a_T_wishA, .inl (cI, 9, .inl T_wishA)), (a_T_wishKind, .inl (cI, 9, .inl T_wishKind)), (a_T_wishB, .inl (cI, 9, .inl T_wishB))]) (r0 := r_4) hP hD hS hA [0, 1] [2, 3, 4] [3, 4, 0, 1, 2] rfl rfl (by decide +kernel) (by decide +kernel) rfl (by decide +kernel) (va_runV (As := [.int x6]) (rest := []) ⟨hx, hb, hml, hown, hts⟩ (kX9_isHere l dC dI cC cI cJ H.size K a_T a_T_kinds a_T_wishKind a_T_wishA a_T_wishB a_T_st a_T_was a_T_kept a_T_woke a_T_text a_T_told a_T_readKinds a_T_readFloors a_T_readWishKind a_T_readWishA a_T_readWishB a_T_come a_T_keptBy a_T_endsAt a_T_order a_T_time a_T_place x6 T_guests T_wishes T_begins T_acts T_keeps T_wokes T_texted T_at T_readGuests T_readWishes T_readBegins T_here T_stands T_many T_rounds T_st r_4 hc5) (cwV 1 hts gX9_overslept_X9_isHere rfl rfl rfl (by decide +kernel) ⟨Nat.le_of_ble_eq_true rfl, Nat.le_of_ble_eq_true rfl⟩) ⟨fbW, va_recv hK hP (ci := 9) (q0 := 0) rfl rfl, preW hP hD hK hN [0, 1] rfl (by decide +kernel)⟩ rfl rfl hl.1 rfl (lv_room (Nat.le_of_ble_eq_true rfl)) dX9_overslept_71 ⟨Nat.zero_le _, Nat.zero_le _⟩) (fun H locs hP hD hS => ?_)
                  obtain ⟨X3, hj, hi3, hk⟩ := bs0_some hr
                  have hJ2 : X3 = .inr () → WG p l e rmX9_overslept s m ([.ref a_T, .int x1, .int x2, .int x3] : List Value).toArray below meth c 0 0 Q (dC, dI) A 94 9 [(a_T, .inr (9, [.int T_guests, .ref a_T_kinds, .int T_wishes, .ref a_T_wishKind, .ref a_T_wishA, .ref a_T_wishB, .int T_begins, .ref a_T_st, .int T_acts, .ref a_T_was, .int T_keeps, .ref a_T_kept, .int T_wokes, .ref a_T_woke, .ref a_T_text, .int T_texted, .int T_at, .ref a_T_told, .int T_readGuests, .ref a_T_readKinds, .ref a_T_readFloors, .int T_readWishes, .ref a_T_readWishKind, .ref a_T_readWishA, .ref a_T_readWishB, .int T_readBegins, .int T_here, .int T_stands, .int T_many, .int T_rounds, .ref a_T_come, .ref a_T_keptBy, .ref a_T_endsAt, .ref a_T_order, .ref a_T_time, .ref a_T_place])), (a_T_st, .inl (cI, 8, .inl T_st)), (a_T_wishA, .inl (cI, 9, .inl T_wishA)), (a_T_wishKind, .inl (cI, 9, .inl T_wishKind)), (a_T_wishB, .inl (cI, 9, .inl T_wishB))] [(0, .ref a_T), (1, .int x1), (2, .int x2), (3, .int x3), (4, .int x4_1), (5, .int x5), (6, .int x6)] [] := by
                    intro he
                    replace hr := hk he
                    intro H locs ls hP hD hS hl
                    refine lv_iconst (v := 0) hx hb dX9_overslept_94 (by decide) ?_
                    cases hr
                    exact hJ1 H locs ls hP hD hS (lv_sub hl [0, 1, 2, 3, 4, 5, 6] rfl)
                  replace hr := hj
                  refine lv_if_eq (tgt := 94) hx hb dX9_overslept_74 (by decide) (fun c7 => ?_) (fun c7 => ?_)
                  · replace hr := it_t hr c7
                    exact hJ2 (Option.some.inj hr).symm H locs ls hP hD hS (lv_sub hl [0, 1, 2, 3, 4, 5, 6] rfl)
                  · replace hr := it_f hr c7
                    refine lv_aload_n hx hb dX9_overslept_77 rfl (lv_at hl 0 rfl) ?_
                    refine lv_iload hx hb dX9_overslept_78 (lv_at hl 6 rfl) ?_
                    obtain ⟨r_5, hc6, hr⟩ := bd1_some hr
                    refine call_i (D := (dC, dI)) (tys := tysA cC cI cJ) (wc := [(a_T, .inr (9, [.int T_guests, .ref a_T_kinds, .int T_wishes, .ref a_T_wishKind, .ref a_T_wishA, .ref a_T_wishB, .int T_begins, .ref a_T_st, .int T_acts, .ref a_T_was, .int T_keeps, .ref a_T_kept, .int T_wokes, .ref a_T_woke, .ref a_T_text, .int T_texted, .int T_at, .ref a_T_told, .int T_readGuests, .ref a_T_readKinds, .ref a_T_readFloors, .int T_readWishes, .ref a_T_readWishKind, .ref a_T_readWishA, .ref a_T_readWishB, .int T_readBegins, .int T_here, .int T_stands, .int T_many, .int T_rounds, .ref a_T_come, .ref a_T_keptBy, .ref a_T_endsAt, .ref a_T_order, .ref a_T_time, .ref a_T_place])), (a_T_st, .inl (cI, 8, .inl T_st)), (a_T_wishA, .inl (cI, 9, .inl T_wishA)), (a_T_wishKind, .inl (cI, 9, .inl T_wishKind)), (a_T_wishB, .inl (cI, 9, .inl T_wishB))]) (wr := []) (w1 := [(a_T, .inr (9, [.int T_guests, .ref a_T_kinds, .int T_wishes, .ref a_T_wishKind, .ref a_T_wishA, .ref a_T_wishB, .int T_begins, .ref a_T_st, .int T_acts, .ref a_T_was, .int T_keeps, .ref a_T_kept, .int T_wokes, .ref a_T_woke, .ref a_T_text, .int T_texted, .int T_at, .ref a_T_told, .int T_readGuests, .ref a_T_readKinds, .ref a_T_readFloors, .int T_readWishes, .ref a_T_readWishKind, .ref a_T_readWishA, .ref a_T_readWishB, .int T_readBegins, .int T_here, .int T_stands, .int T_many, .int T_rounds, .ref a_T_come, .ref a_T_keptBy, .ref a_T_endsAt, .ref a_T_order, .ref a_T_time, .ref a_T_place])), (a_T_st, .inl (cI, 8, .inl T_st)), (a_T_wishA, .inl (cI, 9, .inl T_wishA)), (a_T_wishKind, .inl (cI, 9, .inl T_wishKind)), (a_T_wishB, .inl (cI, 9, .inl T_wishB))]) (wn := [(a_T, .inr (9, [.int T_guests, .ref a_T_kinds, .int T_wishes, .ref a_T_wishKind, .ref a_T_wishA, .ref a_T_wishB, .int T_begins, .ref a_T_st, .int T_acts, .ref a_T_was, .int T_keeps, .ref a_T_kept, .int T_wokes, .ref a_T_woke, .ref a_T_text, .int T_texted, .int T_at, .ref a_T_told, .int T_readGuests, .ref a_T_readKinds, .ref a_T_readFloors, .int T_readWishes, .ref a_T_readWishKind, .ref a_T_readWishA, .ref a_T_readWishB, .int T_readBegins, .int T_here, .int T_stands, .int T_many, .int T_rounds, .ref a_T_come, .ref a_T_keptBy, .ref a_T_endsAt, .ref a_T_order, .ref a_T_time, .ref a_T_place])), (a_T_st, .inl (cI, 8, .inl T_st)), (a_T_wishA, .inl (cI, 9, .inl T_wishA)), (a_T_wishKind, .inl (cI, 9, .inl T_wishKind)), (a_T_wishB, .inl (cI, 9, .inl T_wishB))]) (r0 := r_5) hP hD hS hA [0, 1, 2, 3, 4] [] [0, 1, 2, 3, 4] rfl rfl (by decide +kernel) (by decide +kernel) rfl (by decide +kernel) (va_runV (As := [.int x6]) (rest := []) ⟨hx, hb, hml, hown, hts⟩ (kX9_hangsOn l dC dI cC cI cJ H.size K a_T a_T_kinds a_T_wishKind a_T_wishA a_T_wishB a_T_st a_T_was a_T_kept a_T_woke a_T_text a_T_told a_T_readKinds a_T_readFloors a_T_readWishKind a_T_readWishA a_T_readWishB a_T_come a_T_keptBy a_T_endsAt a_T_order a_T_time a_T_place x6 T_guests T_wishes T_begins T_acts T_keeps T_wokes T_texted T_at T_readGuests T_readWishes T_readBegins T_here T_stands T_many T_rounds T_st T_wishA T_wishKind T_wishB r_5 hc6) (cwV 1 hts gX9_overslept_X9_hangsOn rfl rfl rfl (by decide +kernel) ⟨Nat.le_of_ble_eq_true rfl, Nat.le_of_ble_eq_true rfl⟩) ⟨fbW, va_recv hK hP (ci := 9) (q0 := 0) rfl rfl, preW hP hD hK hN [0, 1, 2, 3, 4] rfl (by decide +kernel)⟩ rfl rfl hl.1 rfl (lv_room (Nat.le_of_ble_eq_true rfl)) dX9_overslept_80 ⟨Nat.zero_le _, Nat.zero_le _⟩) (fun H locs hP hD hS => ?_)
                    refine lv_iload_n hx hb dX9_overslept_83 rfl (lv_at hl 1 rfl) ?_
                    obtain ⟨r_6, hc7, hr⟩ := bd1_some hr
                    refine call_i (D := (dC, dI)) (tys := tysA cC cI cJ) (wc := []) (wr := [(a_T, .inr (9, [.int T_guests, .ref a_T_kinds, .int T_wishes, .ref a_T_wishKind, .ref a_T_wishA, .ref a_T_wishB, .int T_begins, .ref a_T_st, .int T_acts, .ref a_T_was, .int T_keeps, .ref a_T_kept, .int T_wokes, .ref a_T_woke, .ref a_T_text, .int T_texted, .int T_at, .ref a_T_told, .int T_readGuests, .ref a_T_readKinds, .ref a_T_readFloors, .int T_readWishes, .ref a_T_readWishKind, .ref a_T_readWishA, .ref a_T_readWishB, .int T_readBegins, .int T_here, .int T_stands, .int T_many, .int T_rounds, .ref a_T_come, .ref a_T_keptBy, .ref a_T_endsAt, .ref a_T_order, .ref a_T_time, .ref a_T_place])), (a_T_st, .inl (cI, 8, .inl T_st)), (a_T_wishA, .inl (cI, 9, .inl T_wishA)), (a_T_wishKind, .inl (cI, 9, .inl T_wishKind)), (a_T_wishB, .inl (cI, 9, .inl T_wishB))]) (w1 := []) (wn := [(a_T, .inr (9, [.int T_guests, .ref a_T_kinds, .int T_wishes, .ref a_T_wishKind, .ref a_T_wishA, .ref a_T_wishB, .int T_begins, .ref a_T_st, .int T_acts, .ref a_T_was, .int T_keeps, .ref a_T_kept, .int T_wokes, .ref a_T_woke, .ref a_T_text, .int T_texted, .int T_at, .ref a_T_told, .int T_readGuests, .ref a_T_readKinds, .ref a_T_readFloors, .int T_readWishes, .ref a_T_readWishKind, .ref a_T_readWishA, .ref a_T_readWishB, .int T_readBegins, .int T_here, .int T_stands, .int T_many, .int T_rounds, .ref a_T_come, .ref a_T_keptBy, .ref a_T_endsAt, .ref a_T_order, .ref a_T_time, .ref a_T_place])), (a_T_st, .inl (cI, 8, .inl T_st)), (a_T_wishA, .inl (cI, 9, .inl T_wishA)), (a_T_wishKind, .inl (cI, 9, .inl T_wishKind)), (a_T_wishB, .inl (cI, 9, .inl T_wishB))]) (r0 := r_6) hP hD hS hA [] [0, 1, 2, 3, 4] [0, 1, 2, 3, 4] rfl rfl (by decide +kernel) (by decide +kernel) rfl (by decide +kernel) (va_runS (As := [.int r_5, .int x1]) (rest := []) ⟨hx, hb, hml, hown, hts⟩ (kX9_has l dC dI cC cI cJ H.size K r_5 x1 r_6 hc7) (va_cwS 2 hts gX9_overslept_X9_has rfl rfl rfl (by decide +kernel) ⟨Nat.le_of_ble_eq_true rfl, Nat.le_of_ble_eq_true rfl⟩) ⟨fbW, preW hP hD hK hN [] rfl (by decide +kernel)⟩ rfl rfl hl.1 rfl (lv_room (Nat.le_of_ble_eq_true rfl)) dX9_overslept_84 ⟨Nat.zero_le _, Nat.zero_le _⟩) (fun H locs hP hD hS => ?_)
                    refine lv_if_eq (tgt := 94) hx hb dX9_overslept_87 (by decide) (fun c8 => ?_) (fun c8 => ?_)
                    · replace hr := it_t hr c8
                      exact hJ2 (Option.some.inj hr).symm H locs ls hP hD hS (lv_sub hl [0, 1, 2, 3, 4, 5, 6] rfl)
                    · replace hr := it_f hr c8
                      refine lv_iconst (v := 1) hx hb dX9_overslept_90 (by decide) ?_
                      refine lv_goto (tgt := 95) hx hb dX9_overslept_91 (by decide) ?_
                      have he := Option.some.inj hr
                      replace he := hi3 _ he.symm
                      cases he
                      exact hJ1 H locs ls hP hD hS (lv_sub hl [0, 1, 2, 3, 4, 5, 6] rfl)
          obtain ⟨x4_2, x5_1, hE, hr⟩ := bd2_some hr
          refine hL1 K x4 10 0 x4_2 x5_1 hE ?_ H locs ls hP hD hS (lv_sub hl [3, 4, 5, 6, 2, 1, 0] rfl)
          intro H locs ls hP hD hS hl
          refine lv_iload hx hb dX9_overslept_137 (lv_at hl 1 rfl) ?_
          refine lv_istore (lv' := [(6, .int x4_2), (3, .int x3), (4, .int x4_2), (5, .int x5_1)]) hx hb dX9_overslept_139 hl (by decide) rfl (fun ls hl => ?_)
          refine lv_iload hx hb dX9_overslept_141 (lv_at hl 3 rfl) ?_
          refine lv_istore (lv' := [(7, .int x5_1), (6, .int x4_2), (3, .int x3), (4, .int x4_2), (5, .int x5_1)]) hx hb dX9_overslept_143 hl (by decide) rfl (fun ls hl => ?_)
          have hL2 : ∀ (n2 : Nat) (x6_2 : Int32) (x7 : Int32) (x6_3 : Int32), fX9_overslept_L145 K n2 x6_2 x7 = some x6_3 → WG p l e rmX9_overslept s m ([.ref a_T, .int x1, .int x2, .int x3] : List Value).toArray below meth c 0 0 Q (dC, dI) A 168 9 [(a_T, .inr (9, [.int T_guests, .ref a_T_kinds, .int T_wishes, .ref a_T_wishKind, .ref a_T_wishA, .ref a_T_wishB, .int T_begins, .ref a_T_st, .int T_acts, .ref a_T_was, .int T_keeps, .ref a_T_kept, .int T_wokes, .ref a_T_woke, .ref a_T_text, .int T_texted, .int T_at, .ref a_T_told, .int T_readGuests, .ref a_T_readKinds, .ref a_T_readFloors, .int T_readWishes, .ref a_T_readWishKind, .ref a_T_readWishA, .ref a_T_readWishB, .int T_readBegins, .int T_here, .int T_stands, .int T_many, .int T_rounds, .ref a_T_come, .ref a_T_keptBy, .ref a_T_endsAt, .ref a_T_order, .ref a_T_time, .ref a_T_place])), (a_T_st, .inl (cI, 8, .inl T_st)), (a_T_wishA, .inl (cI, 9, .inl T_wishA)), (a_T_wishKind, .inl (cI, 9, .inl T_wishKind)), (a_T_wishB, .inl (cI, 9, .inl T_wishB))] [(3, .int x3), (4, .int x4_2), (5, .int x5_1), (6, .int x6_3)] [] → WG p l e rmX9_overslept s m ([.ref a_T, .int x1, .int x2, .int x3] : List Value).toArray below meth c 0 0 Q (dC, dI) A 145 9 [(a_T, .inr (9, [.int T_guests, .ref a_T_kinds, .int T_wishes, .ref a_T_wishKind, .ref a_T_wishA, .ref a_T_wishB, .int T_begins, .ref a_T_st, .int T_acts, .ref a_T_was, .int T_keeps, .ref a_T_kept, .int T_wokes, .ref a_T_woke, .ref a_T_text, .int T_texted, .int T_at, .ref a_T_told, .int T_readGuests, .ref a_T_readKinds, .ref a_T_readFloors, .int T_readWishes, .ref a_T_readWishKind, .ref a_T_readWishA, .ref a_T_readWishB, .int T_readBegins, .int T_here, .int T_stands, .int T_many, .int T_rounds, .ref a_T_come, .ref a_T_keptBy, .ref a_T_endsAt, .ref a_T_order, .ref a_T_time, .ref a_T_place])), (a_T_st, .inl (cI, 8, .inl T_st)), (a_T_wishA, .inl (cI, 9, .inl T_wishA)), (a_T_wishKind, .inl (cI, 9, .inl T_wishKind)), (a_T_wishB, .inl (cI, 9, .inl T_wishB))] [(3, .int x3), (4, .int x4_2), (5, .int x5_1), (6, .int x6_2), (7, .int x7)] [] := by
            intro n2
            induction n2 with
            | zero =>
              intro x6_2 x7 x6_3 hr
              rw [fX9_overslept_L145] at hr
              cases hr
            | succ n2 ih145 =>
              intro x6_2 x7 x6_3 hr hX2 H locs ls hP hD hS hl
              rw [fX9_overslept_L145] at hr
              refine lv_iload hx hb dX9_overslept_145 (lv_at hl 4 rfl) ?_
              refine lv_if_le (tgt := 168) hx hb dX9_overslept_147 (by decide) (fun c11 => ?_) (fun c11 => ?_)
              · replace hr := it_t hr c11
                have he := Option.some.inj hr
                cases he
                exact hX2 H locs ls hP hD hS (lv_sub hl [0, 1, 2, 3] rfl)
              · replace hr := it_f hr c11
                refine lv_iload hx hb dX9_overslept_150 (lv_at hl 3 rfl) ?_
                refine lv_iload hx hb dX9_overslept_152 (lv_at hl 4 rfl) ?_
                obtain ⟨g1, hr⟩ := gd_some hr
                refine lv_irem hx hb dX9_overslept_154 g1 ?_
                obtain ⟨x8, e5, hr⟩ := nm_el hr
                refine lv_nmi e5 ?_
                refine lv_istore (lv' := [(8, .int x8), (3, .int x3), (4, .int x4_2), (5, .int x5_1), (6, .int x6_2), (7, .int x7)]) hx hb dX9_overslept_155 hl (by decide) rfl (fun ls hl => ?_)
                refine lv_iload hx hb dX9_overslept_157 (lv_at hl 5 rfl) ?_
                refine lv_istore (lv' := [(6, .int x7), (8, .int x8), (3, .int x3), (4, .int x4_2), (5, .int x5_1), (7, .int x7)]) hx hb dX9_overslept_159 hl (by decide) rfl (fun ls hl => ?_)
                refine lv_iload hx hb dX9_overslept_161 (lv_at hl 1 rfl) ?_
                refine lv_istore (lv' := [(7, .int x8), (6, .int x7), (8, .int x8), (3, .int x3), (4, .int x4_2), (5, .int x5_1)]) hx hb dX9_overslept_163 hl (by decide) rfl (fun ls hl => ?_)
                refine lv_goto (tgt := 145) hx hb dX9_overslept_165 (by decide) ?_
                exact ih145 _ _ _ hr hX2 H locs ls hP hD hS (lv_sub hl [3, 4, 5, 1, 0] rfl)
          obtain ⟨x6_3, hE, hr⟩ := bd1_some hr
          refine hL2 K x4_2 x5_1 x6_3 hE ?_ H locs ls hP hD hS (lv_sub hl [2, 3, 4, 1, 0] rfl)
          intro H locs ls hP hD hS hl
          refine lv_iload_n hx hb dX9_overslept_168 rfl (lv_at hl 0 rfl) ?_
          obtain ⟨y_3, hj4, hr⟩ := bd1_some hr
          have hJ5 : WG p l e rmX9_overslept s m ([.ref a_T, .int x1, .int x2, .int x3] : List Value).toArray below meth c 0 0 Q (dC, dI) A 179 9 [(a_T, .inr (9, [.int T_guests, .ref a_T_kinds, .int T_wishes, .ref a_T_wishKind, .ref a_T_wishA, .ref a_T_wishB, .int T_begins, .ref a_T_st, .int T_acts, .ref a_T_was, .int T_keeps, .ref a_T_kept, .int T_wokes, .ref a_T_woke, .ref a_T_text, .int T_texted, .int T_at, .ref a_T_told, .int T_readGuests, .ref a_T_readKinds, .ref a_T_readFloors, .int T_readWishes, .ref a_T_readWishKind, .ref a_T_readWishA, .ref a_T_readWishB, .int T_readBegins, .int T_here, .int T_stands, .int T_many, .int T_rounds, .ref a_T_come, .ref a_T_keptBy, .ref a_T_endsAt, .ref a_T_order, .ref a_T_time, .ref a_T_place])), (a_T_st, .inl (cI, 8, .inl T_st)), (a_T_wishA, .inl (cI, 9, .inl T_wishA)), (a_T_wishKind, .inl (cI, 9, .inl T_wishKind)), (a_T_wishB, .inl (cI, 9, .inl T_wishB))] [(6, .int x6_3)] [.int y_3] := by
            intro H locs ls hP hD hS hl
            refine lv_iload hx hb dX9_overslept_179 (lv_at hl 0 rfl) ?_
            obtain ⟨g2, hr⟩ := gd_some hr
            refine lv_idiv hx hb dX9_overslept_181 g2 ?_
            have he := Option.some.inj hr
            subst he
            subst hQ
            exact ret_i hx hb hrt hK hP hD hS hlocks dX9_overslept_182
          replace hr := hj4
          refine lv_if_ne (tgt := 177) hx hb dX9_overslept_169 (by decide) (fun c12 => ?_) (fun c12 => ?_)
          · replace hr := it_f hr c12
            refine lv_iload hx hb dX9_overslept_177 (lv_at hl 2 rfl) ?_
            cases hr
            exact hJ5 H locs ls hP hD hS (lv_sub hl [3] rfl)
          · replace hr := it_t hr c12
            refine lv_iload hx hb dX9_overslept_172 (lv_at hl 1 rfl) ?_
            refine lv_goto (tgt := 179) hx hb dX9_overslept_174 (by decide) ?_
            cases hr
            exact hJ5 H locs ls hP hD hS (lv_sub hl [3] rfl)
        · replace hr := it_t hr c4
          refine lv_bipush (v := (-2)) hx hb dX9_overslept_37 (by decide) ?_
          have he := Option.some.inj hr
          subst he
          subst hQ
          exact ret_i hx hb hrt hK hP hD hS hlocks dX9_overslept_39
      · replace hr := it_t hr c3
        refine lv_iconst (v := (-1)) hx hb dX9_overslept_27 (by decide) ?_
        have he := Option.some.inj hr
        subst he
        subst hQ
        exact ret_i hx hb hrt hK hP hD hS hlocks dX9_overslept_28
