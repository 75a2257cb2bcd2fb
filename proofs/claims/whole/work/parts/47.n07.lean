def fX9_soonestRound_L4 (K : Nat) (T_stands : Int32) (T_rounds : Int32) (T_keptBy : (Nat → Int32)) (T_endsAt : (Nat → Int32)) : Nat → Int32 → Int32 → Option (Int32)
  | 0, _, _ => none
  | n1 + 1, x1, x2 =>
    if T_rounds ≤ (x2 : Int32) then (
    some x1)
    else (
    bd1 (fX9_isGood K x2 T_stands T_keptBy) fun r =>
    bd1 (τ0 := Int32) (
    if (r : Int32) = 0 then (
    some x1)
    else (
    bs0 (
    if (x1 : Int32) < 0 then (
    some (.inr ()))
    else (
    gd (¬ ((x2 : Int32) < 0 ∨ 720 ≤ x2.toNatClampNeg)) (
    gd (¬ ((x1 : Int32) < 0 ∨ 720 ≤ x1.toNatClampNeg)) (
    if (T_endsAt x1.toNatClampNeg) ≤ ((T_endsAt x2.toNatClampNeg) : Int32) then (
    some (.inl x1))
    else (
    some (.inr ())))))) (
    some x2))) fun y =>
    nm (x2 + 1) fun x2_1 =>
    fX9_soonestRound_L4 K T_stands T_rounds T_keptBy T_endsAt n1 y x2_1)
def fX9_soonestRound (K : Nat) (T_stands : Int32) (T_rounds : Int32) (T_keptBy : (Nat → Int32)) (T_endsAt : (Nat → Int32)) : Option (Int32) :=
    bd1 (fX9_soonestRound_L4 K T_stands T_rounds T_keptBy T_endsAt K (-1) 0) fun x1_1 =>
    some x1_1
theorem mbX9_soonestRound_0 : Cond.fieldLink RX9 197 "BootsAtDawnModel" "rounds" "I" ∈ wsX9_soonestRound := List.mem_of_getElem? (i := 1) rfl
theorem inX9_soonestRound_X9 : ∀ w ∈ u_ws RX9 TX9 36, w ∈ wsX9_soonestRound := fun _ h => (List.mem_cons_of_mem _ (List.mem_append_right _ h))
theorem mbX9_soonestRound_2 : Cond.fieldLink RX9 61 "BootsAtDawnModel" "endsAt" "[I" ∈ wsX9_soonestRound := List.mem_of_getElem? (i := 2) rfl
abbrev rmX9_soonestRound : Room := { frames := 1, cells := 0, slots := 0, locals := 21 }
set_option maxHeartbeats 8000000 in
set_option maxRecDepth 100000 in
theorem kX9_soonestRound (l : Launch) (dC : Nat → ClassId) (dI : Nat → Nat → Nat) (cC cI cJ : ClassId) (sz : Nat) (K : Nat) (a_T a_T_kinds a_T_wishKind a_T_wishA a_T_wishB a_T_st a_T_was a_T_kept a_T_woke a_T_text a_T_told a_T_readKinds a_T_readFloors a_T_readWishKind a_T_readWishA a_T_readWishB a_T_come a_T_keptBy a_T_endsAt a_T_order a_T_time a_T_place : Nat) (T_guests : Int32) (T_wishes : Int32) (T_begins : Int32) (T_acts : Int32) (T_keeps : Int32) (T_wokes : Int32) (T_texted : Int32) (T_at : Int32) (T_readGuests : Int32) (T_readWishes : Int32) (T_readBegins : Int32) (T_here : Int32) (T_stands : Int32) (T_many : Int32) (T_rounds : Int32) (T_keptBy : (Nat → Int32)) (T_endsAt : (Nat → Int32)) (R : Int32) (hr : fX9_soonestRound K T_stands T_rounds T_keptBy T_endsAt = some R) : Met l yX9_soonestRound wsX9_soonestRound rmX9_soonestRound (va_Pc ([.ref a_T] : List Value) (PcW (dC, dI) (tysA cC cI cJ) sz [(a_T, .inr (9, [.int T_guests, .ref a_T_kinds, .int T_wishes, .ref a_T_wishKind, .ref a_T_wishA, .ref a_T_wishB, .int T_begins, .ref a_T_st, .int T_acts, .ref a_T_was, .int T_keeps, .ref a_T_kept, .int T_wokes, .ref a_T_woke, .ref a_T_text, .int T_texted, .int T_at, .ref a_T_told, .int T_readGuests, .ref a_T_readKinds, .ref a_T_readFloors, .int T_readWishes, .ref a_T_readWishKind, .ref a_T_readWishA, .ref a_T_readWishB, .int T_readBegins, .int T_here, .int T_stands, .int T_many, .int T_rounds, .ref a_T_come, .ref a_T_keptBy, .ref a_T_endsAt, .ref a_T_order, .ref a_T_time, .ref a_T_place])), (a_T_keptBy, .inl (cI, 720, .inl T_keptBy)), (a_T_endsAt, .inl (cI, 720, .inl T_endsAt))])) (va_Qi (fun r (_ : Unit) => r = R) (fun _ => BW (dC, dI) (tysA cC cI cJ) (va_A [(a_T, .inr (9, [.int T_guests, .ref a_T_kinds, .int T_wishes, .ref a_T_wishKind, .ref a_T_wishA, .ref a_T_wishB, .int T_begins, .ref a_T_st, .int T_acts, .ref a_T_was, .int T_keeps, .ref a_T_kept, .int T_wokes, .ref a_T_woke, .ref a_T_text, .int T_texted, .int T_at, .ref a_T_told, .int T_readGuests, .ref a_T_readKinds, .ref a_T_readFloors, .int T_readWishes, .ref a_T_readWishKind, .ref a_T_readWishA, .ref a_T_readWishB, .int T_readBegins, .int T_here, .int T_stands, .int T_many, .int T_rounds, .ref a_T_come, .ref a_T_keptBy, .ref a_T_endsAt, .ref a_T_order, .ref a_T_time, .ref a_T_place])), (a_T_keptBy, .inl (cI, 720, .inl T_keptBy)), (a_T_endsAt, .inl (cI, 720, .inl T_endsAt))] sz) [(a_T, .inr (9, [.int T_guests, .ref a_T_kinds, .int T_wishes, .ref a_T_wishKind, .ref a_T_wishA, .ref a_T_wishB, .int T_begins, .ref a_T_st, .int T_acts, .ref a_T_was, .int T_keeps, .ref a_T_kept, .int T_wokes, .ref a_T_woke, .ref a_T_text, .int T_texted, .int T_at, .ref a_T_told, .int T_readGuests, .ref a_T_readKinds, .ref a_T_readFloors, .int T_readWishes, .ref a_T_readWishKind, .ref a_T_readWishA, .ref a_T_readWishB, .int T_readBegins, .int T_here, .int T_stands, .int T_many, .int T_rounds, .ref a_T_come, .ref a_T_keptBy, .ref a_T_endsAt, .ref a_T_order, .ref a_T_time, .ref a_T_place])), (a_T_keptBy, .inl (cI, 720, .inl T_keptBy)), (a_T_endsAt, .inl (cI, 720, .inl T_endsAt))]) (va_A [(a_T, .inr (9, [.int T_guests, .ref a_T_kinds, .int T_wishes, .ref a_T_wishKind, .ref a_T_wishA, .ref a_T_wishB, .int T_begins, .ref a_T_st, .int T_acts, .ref a_T_was, .int T_keeps, .ref a_T_kept, .int T_wokes, .ref a_T_woke, .ref a_T_text, .int T_texted, .int T_at, .ref a_T_told, .int T_readGuests, .ref a_T_readKinds, .ref a_T_readFloors, .int T_readWishes, .ref a_T_readWishKind, .ref a_T_readWishA, .ref a_T_readWishB, .int T_readBegins, .int T_here, .int T_stands, .int T_many, .int T_rounds, .ref a_T_come, .ref a_T_keptBy, .ref a_T_endsAt, .ref a_T_order, .ref a_T_time, .ref a_T_place])), (a_T_keptBy, .inl (cI, 720, .inl T_keptBy)), (a_T_endsAt, .inl (cI, 720, .inl T_endsAt))] sz)) 0 0 (va_A [(a_T, .inr (9, [.int T_guests, .ref a_T_kinds, .int T_wishes, .ref a_T_wishKind, .ref a_T_wishA, .ref a_T_wishB, .int T_begins, .ref a_T_st, .int T_acts, .ref a_T_was, .int T_keeps, .ref a_T_kept, .int T_wokes, .ref a_T_woke, .ref a_T_text, .int T_texted, .int T_at, .ref a_T_told, .int T_readGuests, .ref a_T_readKinds, .ref a_T_readFloors, .int T_readWishes, .ref a_T_readWishKind, .ref a_T_readWishA, .ref a_T_readWishB, .int T_readBegins, .int T_here, .int T_stands, .int T_many, .int T_rounds, .ref a_T_come, .ref a_T_keptBy, .ref a_T_endsAt, .ref a_T_order, .ref a_T_time, .ref a_T_place])), (a_T_keptBy, .inl (cI, 720, .inl T_keptBy)), (a_T_endsAt, .inl (cI, 720, .inl T_endsAt))] sz) := by
  refine Met.ofW (cc := cX9_soonestRound) (maxL := 3) (ret := (some .int)) (by decide) rfl ?_
  intro p e s m args below meth c s₁ B hml hv
  obtain ⟨rfl, hsz, hP, hK, hD0, hN⟩ := hv
  have hx := B.exec
  have hb := B.bytes
  have hrt := B.returns
  have hts := atoms_spec (ws := wsX9_soonestRound) B.pre
  have hown : s.vm.findClass RX9 = some m.cls := findClass_of_methodNamed B.named
  have hlocks := B.notSynchronized
  subst hsz
  have hD := hD0.self (sz := s.heap.size)
  generalize hAe : va_A [(a_T, .inr (9, [.int T_guests, .ref a_T_kinds, .int T_wishes, .ref a_T_wishKind, .ref a_T_wishA, .ref a_T_wishB, .int T_begins, .ref a_T_st, .int T_acts, .ref a_T_was, .int T_keeps, .ref a_T_kept, .int T_wokes, .ref a_T_woke, .ref a_T_text, .int T_texted, .int T_at, .ref a_T_told, .int T_readGuests, .ref a_T_readKinds, .ref a_T_readFloors, .int T_readWishes, .ref a_T_readWishKind, .ref a_T_readWishA, .ref a_T_readWishB, .int T_readBegins, .int T_here, .int T_stands, .int T_many, .int T_rounds, .ref a_T_come, .ref a_T_keptBy, .ref a_T_endsAt, .ref a_T_order, .ref a_T_time, .ref a_T_place])), (a_T_keptBy, .inl (cI, 720, .inl T_keptBy)), (a_T_endsAt, .inl (cI, 720, .inl T_endsAt))] s.heap.size = A at hD ⊢
  have hA : ∀ q : Nat, s.heap.size ≤ q → A q := fun q h => by rw [← hAe]; exact Or.inr h
  have hS : va_S A s.heap s.heap [] := va_S.rf
  have hl := lv_entry ([.ref a_T] : List Value) (n := 3) (Nat.le_of_ble_eq_true rfl)
  rw [lg_entry_eq]
  generalize (lg_sl ([.ref a_T] : List Value) ++ List.replicate (3 - (lg_sl ([.ref a_T] : List Value)).length) Slot.unset).toArray = ls at hl ⊢
  replace hl : lv_has ls 3 [(0, .ref a_T)] := hl
  obtain ⟨Q, hQ⟩ : ∃ Q, Q = MQ below (va_Qi (fun r (_ : Unit) => r = R) (fun _ => BW (dC, dI) (tysA cC cI cJ) A [(a_T, .inr (9, [.int T_guests, .ref a_T_kinds, .int T_wishes, .ref a_T_wishKind, .ref a_T_wishA, .ref a_T_wishB, .int T_begins, .ref a_T_st, .int T_acts, .ref a_T_was, .int T_keeps, .ref a_T_kept, .int T_wokes, .ref a_T_woke, .ref a_T_text, .int T_texted, .int T_at, .ref a_T_told, .int T_readGuests, .ref a_T_readKinds, .ref a_T_readFloors, .int T_readWishes, .ref a_T_readWishKind, .ref a_T_readWishA, .ref a_T_readWishB, .int T_readBegins, .int T_here, .int T_stands, .int T_many, .int T_rounds, .ref a_T_come, .ref a_T_keptBy, .ref a_T_endsAt, .ref a_T_order, .ref a_T_time, .ref a_T_place])), (a_T_keptBy, .inl (cI, 720, .inl T_keptBy)), (a_T_endsAt, .inl (cI, 720, .inl T_endsAt))]) A) ([.ref a_T] : List Value).toArray s 0 0 A := ⟨_, rfl⟩
  rw [← hQ]
  suffices hE : WG p l e rmX9_soonestRound s m ([.ref a_T] : List Value).toArray below meth c 0 0 Q (dC, dI) A 0 3 [(a_T, .inr (9, [.int T_guests, .ref a_T_kinds, .int T_wishes, .ref a_T_wishKind, .ref a_T_wishA, .ref a_T_wishB, .int T_begins, .ref a_T_st, .int T_acts, .ref a_T_was, .int T_keeps, .ref a_T_kept, .int T_wokes, .ref a_T_woke, .ref a_T_text, .int T_texted, .int T_at, .ref a_T_told, .int T_readGuests, .ref a_T_readKinds, .ref a_T_readFloors, .int T_readWishes, .ref a_T_readWishKind, .ref a_T_readWishA, .ref a_T_readWishB, .int T_readBegins, .int T_here, .int T_stands, .int T_many, .int T_rounds, .ref a_T_come, .ref a_T_keptBy, .ref a_T_endsAt, .ref a_T_order, .ref a_T_time, .ref a_T_place])), (a_T_keptBy, .inl (cI, 720, .inl T_keptBy)), (a_T_endsAt, .inl (cI, 720, .inl T_endsAt))] [(0, .ref a_T)] [] from hE _ _ _ hP hD hS hl
  clear hP hD hS hl hD0 hAe
  intro H locs ls hP hD hS hl
  unfold fX9_soonestRound at hr
  refine lv_iconst (v := (-1)) hx hb dX9_soonestRound_0 (by decide) ?_
  refine lv_istore_n (lv' := [(1, .int (-1)), (0, .ref a_T)]) hx hb dX9_soonestRound_1 rfl hl (by decide) rfl (fun ls hl => ?_)
  refine lv_iconst (v := 0) hx hb dX9_soonestRound_2 (by decide) ?_
  refine lv_istore_n (lv' := [(2, .int 0), (1, .int (-1)), (0, .ref a_T)]) hx hb dX9_soonestRound_3 rfl hl (by decide) rfl (fun ls hl => ?_)
  have hL1 : ∀ (n1 : Nat) (x1 : Int32) (x2 : Int32) (x1_1 : Int32), fX9_soonestRound_L4 K T_stands T_rounds T_keptBy T_endsAt n1 x1 x2 = some x1_1 → WG p l e rmX9_soonestRound s m ([.ref a_T] : List Value).toArray below meth c 0 0 Q (dC, dI) A 51 3 [(a_T, .inr (9, [.int T_guests, .ref a_T_kinds, .int T_wishes, .ref a_T_wishKind, .ref a_T_wishA, .ref a_T_wishB, .int T_begins, .ref a_T_st, .int T_acts, .ref a_T_was, .int T_keeps, .ref a_T_kept, .int T_wokes, .ref a_T_woke, .ref a_T_text, .int T_texted, .int T_at, .ref a_T_told, .int T_readGuests, .ref a_T_readKinds, .ref a_T_readFloors, .int T_readWishes, .ref a_T_readWishKind, .ref a_T_readWishA, .ref a_T_readWishB, .int T_readBegins, .int T_here, .int T_stands, .int T_many, .int T_rounds, .ref a_T_come, .ref a_T_keptBy, .ref a_T_endsAt, .ref a_T_order, .ref a_T_time, .ref a_T_place])), (a_T_keptBy, .inl (cI, 720, .inl T_keptBy)), (a_T_endsAt, .inl (cI, 720, .inl T_endsAt))] [(1, .int x1_1)] [] → WG p l e rmX9_soonestRound s m ([.ref a_T] : List Value).toArray below meth c 0 0 Q (dC, dI) A 4 3 [(a_T, .inr (9, [.int T_guests, .ref a_T_kinds, .int T_wishes, .ref a_T_wishKind, .ref a_T_wishA, .ref a_T_wishB, .int T_begins, .ref a_T_st, .int T_acts, .ref a_T_was, .int T_keeps, .ref a_T_kept, .int T_wokes, .ref a_T_woke, .ref a_T_text, .int T_texted, .int T_at, .ref a_T_told, .int T_readGuests, .ref a_T_readKinds, .ref a_T_readFloors, .int T_readWishes, .ref a_T_readWishKind, .ref a_T_readWishA, .ref a_T_readWishB, .int T_readBegins, .int T_here, .int T_stands, .int T_many, .int T_rounds, .ref a_T_come, .ref a_T_keptBy, .ref a_T_endsAt, .ref a_T_order, .ref a_T_time, .ref a_T_place])), (a_T_keptBy, .inl (cI, 720, .inl T_keptBy)), (a_T_endsAt, .inl (cI, 720, .inl T_endsAt))] [(0, .ref a_T), (1, .int x1), (2, .int x2)] [] := by
    intro n1
    induction n1 with
    | zero =>
      intro x1 x2 x1_1 hr
      rw [fX9_soonestRound_L4] at hr
      cases hr
    | succ n1 ih4 =>
      intro x1 x2 x1_1 hr hX1 H locs ls hP hD hS hl
      rw [fX9_soonestRound_L4] at hr
      refine lv_iload_n hx hb dX9_soonestRound_4 rfl (lv_at hl 2 rfl) ?_
      refine lv_aload_n hx hb dX9_soonestRound_5 rfl (lv_at hl 0 rfl) ?_
      refine va_get (D := (dC, dI)) (ci := 9) (v := .int T_rounds) (C := RX9) (T := TX9) (N := 36) hx hb hts inX9_soonestRound_X9 hown hK hP 0 rfl rfl 29 (by decide) (hts _ mbX9_soonestRound_0) (fun _ h9 => h9) rfl dX9_soonestRound_6 ?_
      refine lv_icmp_ge (tgt := 51) hx hb dX9_soonestRound_9 (by decide) (fun c1 => ?_) (fun c1 => ?_)
      · replace hr := it_t hr c1
        have he := Option.some.inj hr
        cases he
        exact hX1 H locs ls hP hD hS (lv_sub hl [1] rfl)
      · replace hr := it_f hr c1
        refine lv_aload_n hx hb dX9_soonestRound_12 rfl (lv_at hl 0 rfl) ?_
        refine lv_iload_n hx hb dX9_soonestRound_13 rfl (lv_at hl 2 rfl) ?_
        obtain ⟨r, hc1, hr⟩ := bd1_some hr
        refine call_i (D := (dC, dI)) (tys := tysA cC cI cJ) (wc := [(a_T, .inr (9, [.int T_guests, .ref a_T_kinds, .int T_wishes, .ref a_T_wishKind, .ref a_T_wishA, .ref a_T_wishB, .int T_begins, .ref a_T_st, .int T_acts, .ref a_T_was, .int T_keeps, .ref a_T_kept, .int T_wokes, .ref a_T_woke, .ref a_T_text, .int T_texted, .int T_at, .ref a_T_told, .int T_readGuests, .ref a_T_readKinds, .ref a_T_readFloors, .int T_readWishes, .ref a_T_readWishKind, .ref a_T_readWishA, .ref a_T_readWishB, .int T_readBegins, .int T_here, .int T_stands, .int T_many, .int T_rounds, .ref a_T_come, .ref a_T_keptBy, .ref a_T_endsAt, .ref a_T_order, .ref a_T_time, .ref a_T_place])), (a_T_keptBy, .inl (cI, 720, .inl T_keptBy))]) (wr := [(a_T_endsAt, .inl (cI, 720, .inl T_endsAt))]) (w1 := [(a_T, .inr (9, [.int T_guests, .ref a_T_kinds, .int T_wishes, .ref a_T_wishKind, .ref a_T_wishA, .ref a_T_wishB, .int T_begins, .ref a_T_st, .int T_acts, .ref a_T_was, .int T_keeps, .ref a_T_kept, .int T_wokes, .ref a_T_woke, .ref a_T_text, .int T_texted, .int T_at, .ref a_T_told, .int T_readGuests, .ref a_T_readKinds, .ref a_T_readFloors, .int T_readWishes, .ref a_T_readWishKind, .ref a_T_readWishA, .ref a_T_readWishB, .int T_readBegins, .int T_here, .int T_stands, .int T_many, .int T_rounds, .ref a_T_come, .ref a_T_keptBy, .ref a_T_endsAt, .ref a_T_order, .ref a_T_time, .ref a_T_place])), (a_T_keptBy, .inl (cI, 720, .inl T_keptBy))]) (wn := [(a_T, .inr (9, [.int T_guests, .ref a_T_kinds, .int T_wishes, .ref a_T_wishKind, .ref a_T_wishA, .ref a_T_wishB, .int T_begins, .ref a_T_st, .int T_acts, .ref a_T_was, .int T_keeps, .ref a_T_kept, .int T_wokes, .ref a_T_woke, .ref a_T_text, .int T_texted, .int T_at, .ref a_T_told, .int T_readGuests, .ref a_T_readKinds, .ref a_T_readFloors, .int T_readWishes, .ref a_T_readWishKind, .ref a_T_readWishA, .ref a_T_readWishB, .int T_readBegins, .int T_here, .int T_stands, .int T_many, .int T_rounds, .ref a_T_come, .ref a_T_keptBy, .ref a_T_endsAt, .ref a_T_order, .ref a_T_time, .ref a_T_place])), (a_T_keptBy, .inl (cI, 720, .inl T_keptBy)), (a_T_endsAt, .inl (cI, 720, .inl T_endsAt))]) (r0 := r) hP hD hS hA [0, 1] [2] [1, 2, 0] rfl rfl (by decide +kernel) (by decide +kernel) rfl (by decide +kernel) (va_runV (As := [.int x2]) (rest := []) ⟨hx, hb, hml, hown, hts⟩ (kX9_isGood l dC dI cC cI cJ H.size K a_T a_T_kinds a_T_wishKind a_T_wishA a_T_wishB a_T_st a_T_was a_T_kept a_T_woke a_T_text a_T_told a_T_readKinds a_T_readFloors a_T_readWishKind a_T_readWishA a_T_readWishB a_T_come a_T_keptBy a_T_endsAt a_T_order a_T_time a_T_place x2 T_guests T_wishes T_begins T_acts T_keeps T_wokes T_texted T_at T_readGuests T_readWishes T_readBegins T_here T_stands T_many T_rounds T_keptBy r hc1) (cwV 1 hts gX9_soonestRound_X9_isGood rfl rfl rfl (by decide +kernel) ⟨Nat.le_of_ble_eq_true rfl, Nat.le_of_ble_eq_true rfl⟩) ⟨fbW, va_recv hK hP (ci := 9) (q0 := 0) rfl rfl, preW hP hD hK hN [0, 1] rfl (by decide +kernel)⟩ rfl rfl hl.1 rfl (lv_room (Nat.le_of_ble_eq_true rfl)) dX9_soonestRound_14 ⟨Nat.zero_le _, Nat.zero_le _⟩) (fun H locs hP hD hS => ?_)
        obtain ⟨y, hj1, hr⟩ := bd1_some hr
        have hJ1 : WG p l e rmX9_soonestRound s m ([.ref a_T] : List Value).toArray below meth c 0 0 Q (dC, dI) A 44 3 [(a_T, .inr (9, [.int T_guests, .ref a_T_kinds, .int T_wishes, .ref a_T_wishKind, .ref a_T_wishA, .ref a_T_wishB, .int T_begins, .ref a_T_st, .int T_acts, .ref a_T_was, .int T_keeps, .ref a_T_kept, .int T_wokes, .ref a_T_woke, .ref a_T_text, .int T_texted, .int T_at, .ref a_T_told, .int T_readGuests, .ref a_T_readKinds, .ref a_T_readFloors, .int T_readWishes, .ref a_T_readWishKind, .ref a_T_readWishA, .ref a_T_readWishB, .int T_readBegins, .int T_here, .int T_stands, .int T_many, .int T_rounds, .ref a_T_come, .ref a_T_keptBy, .ref a_T_endsAt, .ref a_T_order, .ref a_T_time, .ref a_T_place])), (a_T_keptBy, .inl (cI, 720, .inl T_keptBy)), (a_T_endsAt, .inl (cI, 720, .inl T_endsAt))] [(0, .ref a_T), (2, .int x2)] [.int y] := by
          intro H locs ls hP hD hS hl
          refine lv_istore_n (lv' := [(1, .int y), (0, .ref a_T), (2, .int x2)]) hx hb dX9_soonestRound_44 rfl hl (by decide) rfl (fun ls hl => ?_)
          obtain ⟨x2_1, e1, hr⟩ := nm_el hr
          refine lv_iinc (v := x2_1) (lv' := [(2, .int x2_1), (1, .int y), (0, .ref a_T)]) hx hb dX9_soonestRound_45 hl (k := 2) rfl e1.symm (by decide) rfl (fun ls hl => ?_)
          refine lv_goto (tgt := 4) hx hb dX9_soonestRound_48 (by decide) ?_
          exact ih4 _ _ _ hr hX1 H locs ls hP hD hS (lv_sub hl [2, 1, 0] rfl)
        replace hr := hj1
        refine lv_if_eq (tgt := 43) hx hb dX9_soonestRound_17 (by decide) (fun c2 => ?_) (fun c2 => ?_)
        · replace hr := it_t hr c2
          refine lv_iload_n hx hb dX9_soonestRound_43 rfl (lv_at hl 1 rfl) ?_
          cases hr
          exact hJ1 H locs ls hP hD hS (lv_sub hl [0, 2] rfl)
        · replace hr := it_f hr c2
          refine lv_iload_n hx hb dX9_soonestRound_20 rfl (lv_at hl 1 rfl) ?_
          obtain ⟨X3, hj, hi3, hk⟩ := bs0_some hr
          have hJ2 : X3 = .inr () → WG p l e rmX9_soonestRound s m ([.ref a_T] : List Value).toArray below meth c 0 0 Q (dC, dI) A 39 3 [(a_T, .inr (9, [.int T_guests, .ref a_T_kinds, .int T_wishes, .ref a_T_wishKind, .ref a_T_wishA, .ref a_T_wishB, .int T_begins, .ref a_T_st, .int T_acts, .ref a_T_was, .int T_keeps, .ref a_T_kept, .int T_wokes, .ref a_T_woke, .ref a_T_text, .int T_texted, .int T_at, .ref a_T_told, .int T_readGuests, .ref a_T_readKinds, .ref a_T_readFloors, .int T_readWishes, .ref a_T_readWishKind, .ref a_T_readWishA, .ref a_T_readWishB, .int T_readBegins, .int T_here, .int T_stands, .int T_many, .int T_rounds, .ref a_T_come, .ref a_T_keptBy, .ref a_T_endsAt, .ref a_T_order, .ref a_T_time, .ref a_T_place])), (a_T_keptBy, .inl (cI, 720, .inl T_keptBy)), (a_T_endsAt, .inl (cI, 720, .inl T_endsAt))] [(0, .ref a_T), (2, .int x2)] [] := by
            intro he
            replace hr := hk he
            intro H locs ls hP hD hS hl
            refine lv_iload_n hx hb dX9_soonestRound_39 rfl (lv_at hl 1 rfl) ?_
            refine lv_goto (tgt := 44) hx hb dX9_soonestRound_40 (by decide) ?_
            cases hr
            exact hJ1 H locs ls hP hD hS (lv_sub hl [0, 1] rfl)
          replace hr := hj
          refine lv_if_lt (tgt := 39) hx hb dX9_soonestRound_21 (by decide) (fun c3 => ?_) (fun c3 => ?_)
          · replace hr := it_t hr c3
            exact hJ2 (Option.some.inj hr).symm H locs ls hP hD hS (lv_sub hl [0, 2] rfl)
          · replace hr := it_f hr c3
            refine lv_aload_n hx hb dX9_soonestRound_24 rfl (lv_at hl 0 rfl) ?_
            refine va_get (D := (dC, dI)) (ci := 9) (v := .ref a_T_endsAt) (C := RX9) (T := TX9) (N := 36) hx hb hts inX9_soonestRound_X9 hown hK hP 0 rfl rfl 32 (by decide) (hts _ mbX9_soonestRound_2) (fun _ h9 => h9) rfl dX9_soonestRound_25 ?_
            refine lv_iload_n hx hb dX9_soonestRound_28 rfl (lv_at hl 2 rfl) ?_
            obtain ⟨g1, hr⟩ := gd_some hr
            refine va_iald hx hb hK hP 2 1 rfl rfl g1 dX9_soonestRound_29 ?_
            refine lv_aload_n hx hb dX9_soonestRound_30 rfl (lv_at hl 0 rfl) ?_
            refine va_get (D := (dC, dI)) (ci := 9) (v := .ref a_T_endsAt) (C := RX9) (T := TX9) (N := 36) hx hb hts inX9_soonestRound_X9 hown hK hP 0 rfl rfl 32 (by decide) (hts _ mbX9_soonestRound_2) (fun _ h9 => h9) rfl dX9_soonestRound_31 ?_
            refine lv_iload_n hx hb dX9_soonestRound_34 rfl (lv_at hl 1 rfl) ?_
            obtain ⟨g2, hr⟩ := gd_some hr
            refine va_iald hx hb hK hP 2 1 rfl rfl g2 dX9_soonestRound_35 ?_
            refine lv_icmp_ge (tgt := 43) hx hb dX9_soonestRound_36 (by decide) (fun c4 => ?_) (fun c4 => ?_)
            · replace hr := it_t hr c4
              refine lv_iload_n hx hb dX9_soonestRound_43 rfl (lv_at hl 1 rfl) ?_
              have he := Option.some.inj hr
              replace he := hi3 _ he.symm
              cases he
              exact hJ1 H locs ls hP hD hS (lv_sub hl [0, 2] rfl)
            · replace hr := it_f hr c4
              exact hJ2 (Option.some.inj hr).symm H locs ls hP hD hS (lv_sub hl [0, 2] rfl)
  obtain ⟨x1_1, hE, hr⟩ := bd1_some hr
  refine hL1 K (-1) 0 x1_1 hE ?_ H locs ls hP hD hS (lv_sub hl [2, 1, 0] rfl)
  intro H locs ls hP hD hS hl
  refine lv_iload_n hx hb dX9_soonestRound_51 rfl (lv_at hl 0 rfl) ?_
  have he := Option.some.inj hr
  subst he
  subst hQ
  exact ret_i hx hb hrt hK hP hD hS hlocks dX9_soonestRound_52
def fX9_soonest (K : Nat) (x1 : Int32) (T_guests : Int32) (T_wishes : Int32) (T_begins : Int32) (T_here : Int32) (T_stands : Int32) (T_many : Int32) (T_rounds : Int32) (T_st : (Nat → Int32)) (T_wishA : (Nat → Int32)) (T_wishKind : (Nat → Int32)) (T_wishB : (Nat → Int32)) (T_order : (Nat → Int32)) (T_time : (Nat → Int32)) (T_place : (Nat → Int32)) (T_kinds : (Nat → Int32)) (T_endsAt : (Nat → Int32)) (T_keptBy : (Nat → Int32)) (T_come : (Nat → Int32)) : Option (Int32 × Int32 × Int32 × Int32 × Int32 × (Nat → Int32) × (Nat → Int32) × (Nat → Int32) × (Nat → Int32) × (Nat → Int32) × (Nat → Int32)) :=
    bd1 (fX9_in K x1 0 6) fun r =>
    if (r : Int32) = 0 then (
    some ((-1), T_here, T_stands, T_many, T_rounds, T_order, T_time, T_place, T_endsAt, T_keptBy, T_come))
    else (
    gd (¬ ((0 : Int32) < 0 ∨ 8 ≤ (0 : Int32).toNatClampNeg)) (
    bd10 (fX9_findRounds K (T_st (0 : Int32).toNatClampNeg) T_guests T_wishes T_begins T_here T_stands T_many T_rounds T_st T_wishA T_wishKind T_wishB T_order T_time T_place T_kinds T_endsAt T_keptBy T_come) fun T_here_1 T_stands_1 T_many_1 T_rounds_1 T_order_1 T_time_1 T_place_1 T_endsAt_1 T_keptBy_1 T_come_1 =>
    bd1 (fX9_soonestRound K T_stands_1 T_rounds_1 T_keptBy_1 T_endsAt_1) fun r_1 =>
    if (r_1 : Int32) < 0 then (
    some ((-4), T_here_1, T_stands_1, T_many_1, T_rounds_1, T_order_1, T_time_1, T_place_1, T_endsAt_1, T_keptBy_1, T_come_1))
    else (
    if (x1 : Int32) ≤ T_many_1 then (
    if (x1 : Int32) = 0 then (
    gd (¬ ((r_1 : Int32) < 0 ∨ 720 ≤ r_1.toNatClampNeg)) (
    some ((T_endsAt_1 r_1.toNatClampNeg), T_here_1, T_stands_1, T_many_1, T_rounds_1, T_order_1, T_time_1, T_place_1, T_endsAt_1, T_keptBy_1, T_come_1)))
    else (
    gd (¬ (((((6 * r_1) + x1) - 1) : Int32) < 0 ∨ 4320 ≤ (((6 * r_1) + x1) - 1).toNatClampNeg)) (
    some ((T_come_1 (((6 * r_1) + x1) - 1).toNatClampNeg), T_here_1, T_stands_1, T_many_1, T_rounds_1, T_order_1, T_time_1, T_place_1, T_endsAt_1, T_keptBy_1, T_come_1))))
    else (
    some ((-4), T_here_1, T_stands_1, T_many_1, T_rounds_1, T_order_1, T_time_1, T_place_1, T_endsAt_1, T_keptBy_1, T_come_1)))))
theorem mbX9_soonest_0 : Cond.fieldLink RX9 22 "BootsAtDawnModel" "st" "[I" ∈ wsX9_soonest := List.mem_of_getElem? (i := 1) rfl
theorem inX9_soonest_X9 : ∀ w ∈ u_ws RX9 TX9 36, w ∈ wsX9_soonest := fun _ h => (List.mem_cons_of_mem _ (List.mem_append_right _ h))
theorem mbX9_soonest_2 : Cond.fieldLink RX9 182 "BootsAtDawnModel" "many" "I" ∈ wsX9_soonest := List.mem_of_getElem? (i := 2) rfl
theorem mbX9_soonest_3 : Cond.fieldLink RX9 55 "BootsAtDawnModel" "come" "[I" ∈ wsX9_soonest := List.mem_of_getElem? (i := 4) rfl
theorem mbX9_soonest_4 : Cond.fieldLink RX9 61 "BootsAtDawnModel" "endsAt" "[I" ∈ wsX9_soonest := List.mem_of_getElem? (i := 3) rfl
abbrev rmX9_soonest : Room := { frames := 4, cells := 0, slots := 0, locals := 94 }
set_option maxHeartbeats 8000000 in
set_option maxRecDepth 100000 in
theorem kX9_soonest (l : Launch) (dC : Nat → ClassId) (dI : Nat → Nat → Nat) (cC cI cJ : ClassId) (sz : Nat) (K : Nat) (a_T a_T_kinds a_T_wishKind a_T_wishA a_T_wishB a_T_st a_T_was a_T_kept a_T_woke a_T_text a_T_told a_T_readKinds a_T_readFloors a_T_readWishKind a_T_readWishA a_T_readWishB a_T_come a_T_keptBy a_T_endsAt a_T_order a_T_time a_T_place : Nat) (x1 : Int32) (T_guests : Int32) (T_wishes : Int32) (T_begins : Int32) (T_acts : Int32) (T_keeps : Int32) (T_wokes : Int32) (T_texted : Int32) (T_at : Int32) (T_readGuests : Int32) (T_readWishes : Int32) (T_readBegins : Int32) (T_here : Int32) (T_stands : Int32) (T_many : Int32) (T_rounds : Int32) (T_st : (Nat → Int32)) (T_wishA : (Nat → Int32)) (T_wishKind : (Nat → Int32)) (T_wishB : (Nat → Int32)) (T_order : (Nat → Int32)) (T_time : (Nat → Int32)) (T_place : (Nat → Int32)) (T_kinds : (Nat → Int32)) (T_endsAt : (Nat → Int32)) (T_keptBy : (Nat → Int32)) (T_come : (Nat → Int32)) (R : Int32 × Int32 × Int32 × Int32 × Int32 × (Nat → Int32) × (Nat → Int32) × (Nat → Int32) × (Nat → Int32) × (Nat → Int32) × (Nat → Int32)) (hr : fX9_soonest K x1 T_guests T_wishes T_begins T_here T_stands T_many T_rounds T_st T_wishA T_wishKind T_wishB T_order T_time T_place T_kinds T_endsAt T_keptBy T_come = some R) : Met l yX9_soonest wsX9_soonest rmX9_soonest (va_Pc ([.ref a_T, .int x1] : List Value) (PcW (dC, dI) (tysA cC cI cJ) sz [(a_T, .inr (9, [.int T_guests, .ref a_T_kinds, .int T_wishes, .ref a_T_wishKind, .ref a_T_wishA, .ref a_T_wishB, .int T_begins, .ref a_T_st, .int T_acts, .ref a_T_was, .int T_keeps, .ref a_T_kept, .int T_wokes, .ref a_T_woke, .ref a_T_text, .int T_texted, .int T_at, .ref a_T_told, .int T_readGuests, .ref a_T_readKinds, .ref a_T_readFloors, .int T_readWishes, .ref a_T_readWishKind, .ref a_T_readWishA, .ref a_T_readWishB, .int T_readBegins, .int T_here, .int T_stands, .int T_many, .int T_rounds, .ref a_T_come, .ref a_T_keptBy, .ref a_T_endsAt, .ref a_T_order, .ref a_T_time, .ref a_T_place])), (a_T_st, .inl (cI, 8, .inl T_st)), (a_T_wishA, .inl (cI, 9, .inl T_wishA)), (a_T_wishKind, .inl (cI, 9, .inl T_wishKind)), (a_T_wishB, .inl (cI, 9, .inl T_wishB)), (a_T_order, .inl (cI, 6, .inl T_order)), (a_T_time, .inl (cI, 6, .inl T_time)), (a_T_place, .inl (cI, 6, .inl T_place)), (a_T_kinds, .inl (cI, 6, .inl T_kinds)), (a_T_endsAt, .inl (cI, 720, .inl T_endsAt)), (a_T_keptBy, .inl (cI, 720, .inl T_keptBy)), (a_T_come, .inl (cI, 4320, .inl T_come))])) (va_Qi (fun r (_ : Unit) => r = R.1) (fun _ => BW (dC, dI) (tysA cC cI cJ) (va_A [(a_T, .inr (9, [.int T_guests, .ref a_T_kinds, .int T_wishes, .ref a_T_wishKind, .ref a_T_wishA, .ref a_T_wishB, .int T_begins, .ref a_T_st, .int T_acts, .ref a_T_was, .int T_keeps, .ref a_T_kept, .int T_wokes, .ref a_T_woke, .ref a_T_text, .int T_texted, .int T_at, .ref a_T_told, .int T_readGuests, .ref a_T_readKinds, .ref a_T_readFloors, .int T_readWishes, .ref a_T_readWishKind, .ref a_T_readWishA, .ref a_T_readWishB, .int T_readBegins, .int T_here, .int T_stands, .int T_many, .int T_rounds, .ref a_T_come, .ref a_T_keptBy, .ref a_T_endsAt, .ref a_T_order, .ref a_T_time, .ref a_T_place])), (a_T_st, .inl (cI, 8, .inl T_st)), (a_T_wishA, .inl (cI, 9, .inl T_wishA)), (a_T_wishKind, .inl (cI, 9, .inl T_wishKind)), (a_T_wishB, .inl (cI, 9, .inl T_wishB)), (a_T_order, .inl (cI, 6, .inl T_order)), (a_T_time, .inl (cI, 6, .inl T_time)), (a_T_place, .inl (cI, 6, .inl T_place)), (a_T_kinds, .inl (cI, 6, .inl T_kinds)), (a_T_endsAt, .inl (cI, 720, .inl T_endsAt)), (a_T_keptBy, .inl (cI, 720, .inl T_keptBy)), (a_T_come, .inl (cI, 4320, .inl T_come))] sz) [(a_T, .inr (9, [.int T_guests, .ref a_T_kinds, .int T_wishes, .ref a_T_wishKind, .ref a_T_wishA, .ref a_T_wishB, .int T_begins, .ref a_T_st, .int T_acts, .ref a_T_was, .int T_keeps, .ref a_T_kept, .int T_wokes, .ref a_T_woke, .ref a_T_text, .int T_texted, .int T_at, .ref a_T_told, .int T_readGuests, .ref a_T_readKinds, .ref a_T_readFloors, .int T_readWishes, .ref a_T_readWishKind, .ref a_T_readWishA, .ref a_T_readWishB, .int T_readBegins, .int R.2.1, .int R.2.2.1, .int R.2.2.2.1, .int R.2.2.2.2.1, .ref a_T_come, .ref a_T_keptBy, .ref a_T_endsAt, .ref a_T_order, .ref a_T_time, .ref a_T_place])), (a_T_st, .inl (cI, 8, .inl T_st)), (a_T_wishA, .inl (cI, 9, .inl T_wishA)), (a_T_wishKind, .inl (cI, 9, .inl T_wishKind)), (a_T_wishB, .inl (cI, 9, .inl T_wishB)), (a_T_order, .inl (cI, 6, .inl R.2.2.2.2.2.1)), (a_T_time, .inl (cI, 6, .inl R.2.2.2.2.2.2.1)), (a_T_place, .inl (cI, 6, .inl R.2.2.2.2.2.2.2.1)), (a_T_kinds, .inl (cI, 6, .inl T_kinds)), (a_T_endsAt, .inl (cI, 720, .inl R.2.2.2.2.2.2.2.2.1)), (a_T_keptBy, .inl (cI, 720, .inl R.2.2.2.2.2.2.2.2.2.1)), (a_T_come, .inl (cI, 4320, .inl R.2.2.2.2.2.2.2.2.2.2))]) (va_A [(a_T, .inr (9, [.int T_guests, .ref a_T_kinds, .int T_wishes, .ref a_T_wishKind, .ref a_T_wishA, .ref a_T_wishB, .int T_begins, .ref a_T_st, .int T_acts, .ref a_T_was, .int T_keeps, .ref a_T_kept, .int T_wokes, .ref a_T_woke, .ref a_T_text, .int T_texted, .int T_at, .ref a_T_told, .int T_readGuests, .ref a_T_readKinds, .ref a_T_readFloors, .int T_readWishes, .ref a_T_readWishKind, .ref a_T_readWishA, .ref a_T_readWishB, .int T_readBegins, .int T_here, .int T_stands, .int T_many, .int T_rounds, .ref a_T_come, .ref a_T_keptBy, .ref a_T_endsAt, .ref a_T_order, .ref a_T_time, .ref a_T_place])), (a_T_st, .inl (cI, 8, .inl T_st)), (a_T_wishA, .inl (cI, 9, .inl T_wishA)), (a_T_wishKind, .inl (cI, 9, .inl T_wishKind)), (a_T_wishB, .inl (cI, 9, .inl T_wishB)), (a_T_order, .inl (cI, 6, .inl T_order)), (a_T_time, .inl (cI, 6, .inl T_time)), (a_T_place, .inl (cI, 6, .inl T_place)), (a_T_kinds, .inl (cI, 6, .inl T_kinds)), (a_T_endsAt, .inl (cI, 720, .inl T_endsAt)), (a_T_keptBy, .inl (cI, 720, .inl T_keptBy)), (a_T_come, .inl (cI, 4320, .inl T_come))] sz)) 0 0 (va_A [(a_T, .inr (9, [.int T_guests, .ref a_T_kinds, .int T_wishes, .ref a_T_wishKind, .ref a_T_wishA, .ref a_T_wishB, .int T_begins, .ref a_T_st, .int T_acts, .ref a_T_was, .int T_keeps, .ref a_T_kept, .int T_wokes, .ref a_T_woke, .ref a_T_text, .int T_texted, .int T_at, .ref a_T_told, .int T_readGuests, .ref a_T_readKinds, .ref a_T_readFloors, .int T_readWishes, .ref a_T_readWishKind, .ref a_T_readWishA, .ref a_T_readWishB, .int T_readBegins, .int T_here, .int T_stands, .int T_many, .int T_rounds, .ref a_T_come, .ref a_T_keptBy, .ref a_T_endsAt, .ref a_T_order, .ref a_T_time, .ref a_T_place])), (a_T_st, .inl (cI, 8, .inl T_st)), (a_T_wishA, .inl (cI, 9, .inl T_wishA)), (a_T_wishKind, .inl (cI, 9, .inl T_wishKind)), (a_T_wishB, .inl (cI, 9, .inl T_wishB)), (a_T_order, .inl (cI, 6, .inl T_order)), (a_T_time, .inl (cI, 6, .inl T_time)), (a_T_place, .inl (cI, 6, .inl T_place)), (a_T_kinds, .inl (cI, 6, .inl T_kinds)), (a_T_endsAt, .inl (cI, 720, .inl T_endsAt)), (a_T_keptBy, .inl (cI, 720, .inl T_keptBy)), (a_T_come, .inl (cI, 4320, .inl T_come))] sz) := by
  refine Met.ofW (cc := cX9_soonest) (maxL := 3) (ret := (some .int)) (by decide) rfl ?_
  intro p e s m args below meth c s₁ B hml hv
  obtain ⟨rfl, hsz, hP, hK, hD0, hN⟩ := hv
  have hx := B.exec
  have hb := B.bytes
  have hrt := B.returns
  have hts := atoms_spec (ws := wsX9_soonest) B.pre
  have hown : s.vm.findClass RX9 = some m.cls := findClass_of_methodNamed B.named
  have hlocks := B.notSynchronized
  subst hsz
  have hD := hD0.self (sz := s.heap.size)
  generalize hAe : va_A [(a_T, .inr (9, [.int T_guests, .ref a_T_kinds, .int T_wishes, .ref a_T_wishKind, .ref a_T_wishA, .ref a_T_wishB, .int T_begins, .ref a_T_st, .int T_acts, .ref a_T_was, .int T_keeps, .ref a_T_kept, .int T_wokes, .ref a_T_woke, .ref a_T_text, .int T_texted, .int T_at, .ref a_T_told, .int T_readGuests, .ref a_T_readKinds, .ref a_T_readFloors, .int T_readWishes, .ref a_T_readWishKind, .ref a_T_readWishA, .ref a_T_readWishB, .int T_readBegins, .int T_here, .int T_stands, .int T_many, .int T_rounds, .ref a_T_come, .ref a_T_keptBy, .ref a_T_endsAt, .ref a_T_order, .ref a_T_time, .ref a_T_place])), (a_T_st, .inl (cI, 8, .inl T_st)), (a_T_wishA, .inl (cI, 9, .inl T_wishA)), (a_T_wishKind, .inl (cI, 9, .inl T_wishKind)), (a_T_wishB, .inl (cI, 9, .inl T_wishB)), (a_T_order, .inl (cI, 6, .inl T_order)), (a_T_time, .inl (cI, 6, .inl T_time)), (a_T_place, .inl (cI, 6, .inl T_place)), (a_T_kinds, .inl (cI, 6, .inl T_kinds)), (a_T_endsAt, .inl (cI, 720, .inl T_endsAt)), (a_T_keptBy, .inl (cI, 720, .inl T_keptBy)), (a_T_come, .inl (cI, 4320, .inl T_come))] s.heap.size = A at hD ⊢
  have hA : ∀ q : Nat, s.heap.size ≤ q → A q := fun q h => by rw [← hAe]; exact Or.inr h
  have hS : va_S A s.heap s.heap [] := va_S.rf
  have hl := lv_entry ([.ref a_T, .int x1] : List Value) (n := 3) (Nat.le_of_ble_eq_true rfl)
  rw [lg_entry_eq]
  generalize (lg_sl ([.ref a_T, .int x1] : List Value) ++ List.replicate (3 - (lg_sl ([.ref a_T, .int x1] : List Value)).length) Slot.unset).toArray = ls at hl ⊢
  replace hl : lv_has ls 3 [(0, .ref a_T), (1, .int x1)] := hl
  obtain ⟨Q, hQ⟩ : ∃ Q, Q = MQ below (va_Qi (fun r (_ : Unit) => r = R.1) (fun _ => BW (dC, dI) (tysA cC cI cJ) A [(a_T, .inr (9, [.int T_guests, .ref a_T_kinds, .int T_wishes, .ref a_T_wishKind, .ref a_T_wishA, .ref a_T_wishB, .int T_begins, .ref a_T_st, .int T_acts, .ref a_T_was, .int T_keeps, .ref a_T_kept, .int T_wokes, .ref a_T_woke, .ref a_T_text, .int T_texted, .int T_at, .ref a_T_told, .int T_readGuests, .ref a_T_readKinds, .ref a_T_readFloors, .int T_readWishes, .ref a_T_readWishKind, .ref a_T_readWishA, .ref a_T_readWishB, .int T_readBegins, .int R.2.1, .int R.2.2.1, .int R.2.2.2.1, .int R.2.2.2.2.1, .ref a_T_come, .ref a_T_keptBy, .ref a_T_endsAt, .ref a_T_order, .ref a_T_time, .ref a_T_place])), (a_T_st, .inl (cI, 8, .inl T_st)), (a_T_wishA, .inl (cI, 9, .inl T_wishA)), (a_T_wishKind, .inl (cI, 9, .inl T_wishKind)), (a_T_wishB, .inl (cI, 9, .inl T_wishB)), (a_T_order, .inl (cI, 6, .inl R.2.2.2.2.2.1)), (a_T_time, .inl (cI, 6, .inl R.2.2.2.2.2.2.1)), (a_T_place, .inl (cI, 6, .inl R.2.2.2.2.2.2.2.1)), (a_T_kinds, .inl (cI, 6, .inl T_kinds)), (a_T_endsAt, .inl (cI, 720, .inl R.2.2.2.2.2.2.2.2.1)), (a_T_keptBy, .inl (cI, 720, .inl R.2.2.2.2.2.2.2.2.2.1)), (a_T_come, .inl (cI, 4320, .inl R.2.2.2.2.2.2.2.2.2.2))]) A) ([.ref a_T, .int x1] : List Value).toArray s 0 0 A := ⟨_, rfl⟩
  rw [← hQ]
  suffices hE : WG p l e rmX9_soonest s m ([.ref a_T, .int x1] : List Value).toArray below meth c 0 0 Q (dC, dI) A 0 3 [(a_T, .inr (9, [.int T_guests, .ref a_T_kinds, .int T_wishes, .ref a_T_wishKind, .ref a_T_wishA, .ref a_T_wishB, .int T_begins, .ref a_T_st, .int T_acts, .ref a_T_was, .int T_keeps, .ref a_T_kept, .int T_wokes, .ref a_T_woke, .ref a_T_text, .int T_texted, .int T_at, .ref a_T_told, .int T_readGuests, .ref a_T_readKinds, .ref a_T_readFloors, .int T_readWishes, .ref a_T_readWishKind, .ref a_T_readWishA, .ref a_T_readWishB, .int T_readBegins, .int T_here, .int T_stands, .int T_many, .int T_rounds, .ref a_T_come, .ref a_T_keptBy, .ref a_T_endsAt, .ref a_T_order, .ref a_T_time, .ref a_T_place])), (a_T_st, .inl (cI, 8, .inl T_st)), (a_T_wishA, .inl (cI, 9, .inl T_wishA)), (a_T_wishKind, .inl (cI, 9, .inl T_wishKind)), (a_T_wishB, .inl (cI, 9, .inl T_wishB)), (a_T_order, .inl (cI, 6, .inl T_order)), (a_T_time, .inl (cI, 6, .inl T_time)), (a_T_place, .inl (cI, 6, .inl T_place)), (a_T_kinds, .inl (cI, 6, .inl T_kinds)), (a_T_endsAt, .inl (cI, 720, .inl T_endsAt)), (a_T_keptBy, .inl (cI, 720, .inl T_keptBy)), (a_T_come, .inl (cI, 4320, .inl T_come))] [(0, .ref a_T), (1, .int x1)] [] from hE _ _ _ hP hD hS hl
  clear hP hD hS hl hD0 hAe
  intro H locs ls hP hD hS hl
  unfold fX9_soonest at hr
  refine lv_iload_n hx hb dX9_soonest_0 rfl (lv_at hl 1 rfl) ?_
  refine lv_iconst (v := 0) hx hb dX9_soonest_1 (by decide) ?_
  refine lv_bipush (v := 6) hx hb dX9_soonest_2 (by decide) ?_
  obtain ⟨r, hc1, hr⟩ := bd1_some hr
  refine call_i (D := (dC, dI)) (tys := tysA cC cI cJ) (wc := []) (wr := [(a_T, .inr (9, [.int T_guests, .ref a_T_kinds, .int T_wishes, .ref a_T_wishKind, .ref a_T_wishA, .ref a_T_wishB, .int T_begins, .ref a_T_st, .int T_acts, .ref a_T_was, .int T_keeps, .ref a_T_kept, .int T_wokes, .ref a_T_woke, .ref a_T_text, .int T_texted, .int T_at, .ref a_T_told, .int T_readGuests, .ref a_T_readKinds, .ref a_T_readFloors, .int T_readWishes, .ref a_T_readWishKind, .ref a_T_readWishA, .ref a_T_readWishB, .int T_readBegins, .int T_here, .int T_stands, .int T_many, .int T_rounds, .ref a_T_come, .ref a_T_keptBy, .ref a_T_endsAt, .ref a_T_order, .ref a_T_time, .ref a_T_place])), (a_T_st, .inl (cI, 8, .inl T_st)), (a_T_wishA, .inl (cI, 9, .inl T_wishA)), (a_T_wishKind, .inl (cI, 9, .inl T_wishKind)), (a_T_wishB, .inl (cI, 9, .inl T_wishB)), (a_T_order, .inl (cI, 6, .inl T_order)), (a_T_time, .inl (cI, 6, .inl T_time)), (a_T_place, .inl (cI, 6, .inl T_place)), (a_T_kinds, .inl (cI, 6, .inl T_kinds)), (a_T_endsAt, .inl (cI, 720, .inl T_endsAt)), (a_T_keptBy, .inl (cI, 720, .inl T_keptBy)), (a_T_come, .inl (cI, 4320, .inl T_come))]) (w1 := []) (wn := [(a_T, .inr (9, [.int T_guests, .ref a_T_kinds, .int T_wishes, .ref a_T_wishKind, .ref a_T_wishA, .ref a_T_wishB, .int T_begins, .ref a_T_st, .int T_acts, .ref a_T_was, .int T_keeps, .ref a_T_kept, .int T_wokes, .ref a_T_woke, .ref a_T_text, .int T_texted, .int T_at, .ref a_T_told, .int T_readGuests, .ref a_T_readKinds, .ref a_T_readFloors, .int T_readWishes, .ref a_T_readWishKind, .ref a_T_readWishA, .ref a_T_readWishB, .int T_readBegins, .int T_here, .int T_stands, .int T_many, .int T_rounds, .ref a_T_come, .ref a_T_keptBy, .ref a_T_endsAt, .ref a_T_order, .ref a_T_time, .ref a_T_place])), (a_T_st, .inl (cI, 8, .inl T_st)), (a_T_wishA, .inl (cI, 9, .inl T_wishA)), (a_T_wishKind, .inl (cI, 9, .inl T_wishKind)), (a_T_wishB, .inl (cI, 9, .inl T_wishB)), (a_T_order, .inl (cI, 6, .inl T_order)), (a_T_time, .inl (cI, 6, .inl T_time)), (a_T_place, .inl (cI, 6, .inl T_place)), (a_T_kinds, .inl (cI, 6, .inl T_kinds)), (a_T_endsAt, .inl (cI, 720, .inl T_endsAt)), (a_T_keptBy, .inl (cI, 720, .inl T_keptBy)), (a_T_come, .inl (cI, 4320, .inl T_come))]) (r0 := r) hP hD hS hA [] [0, 1, 2, 3, 4, 5, 6, 7, 8, 9, 10, 11] [0, 1, 2, 3, 4, 5, 6, 7, 8, 9, 10, 11] rfl rfl (by decide +kernel) (by decide +kernel) rfl (by decide +kernel) (va_runS (As := [.int x1, .int 0, .int 6]) (rest := []) ⟨hx, hb, hml, hown, hts⟩ (kX9_in l dC dI cC cI cJ H.size K x1 0 6 r hc1) (va_cwS 3 hts gX9_soonest_X9_in rfl rfl rfl (by decide +kernel) ⟨Nat.le_of_ble_eq_true rfl, Nat.le_of_ble_eq_true rfl⟩) ⟨fbW, preW hP hD hK hN [] rfl (by decide +kernel)⟩ rfl rfl hl.1 rfl (lv_room (Nat.le_of_ble_eq_true rfl)) dX9_soonest_4 ⟨Nat.zero_le _, Nat.zero_le _⟩) (fun H locs hP hD hS => ?_)
  refine lv_if_ne (tgt := 12) hx hb dX9_soonest_7 (by decide) (fun c1 => ?_) (fun c1 => ?_)
  · replace hr := it_f hr c1
    refine lv_aload_n hx hb dX9_soonest_12 rfl (lv_at hl 0 rfl) ?_
    refine lv_aload_n hx hb dX9_soonest_13 rfl (lv_at hl 0 rfl) ?_
    refine va_get (D := (dC, dI)) (ci := 9) (v := .ref a_T_st) (C := RX9) (T := TX9) (N := 36) hx hb hts inX9_soonest_X9 hown hK hP 0 rfl rfl 7 (by decide) (hts _ mbX9_soonest_0) (fun _ h9 => h9) rfl dX9_soonest_14 ?_
    refine lv_iconst (v := 0) hx hb dX9_soonest_17 (by decide) ?_
    obtain ⟨g1, hr⟩ := gd_some hr
    refine va_iald hx hb hK hP 1 1 rfl rfl g1 dX9_soonest_18 ?_
    obtain ⟨T_here_1, T_stands_1, T_many_1, T_rounds_1, T_order_1, T_time_1, T_place_1, T_endsAt_1, T_keptBy_1, T_come_1, hc2, hr⟩ := bd10_some hr
    refine call_v (D := (dC, dI)) (tys := tysA cC cI cJ) (wc := [(a_T, .inr (9, [.int T_guests, .ref a_T_kinds, .int T_wishes, .ref a_T_wishKind, .ref a_T_wishA, .ref a_T_wishB, .int T_begins, .ref a_T_st, .int T_acts, .ref a_T_was, .int T_keeps, .ref a_T_kept, .int T_wokes, .ref a_T_woke, .ref a_T_text, .int T_texted, .int T_at, .ref a_T_told, .int T_readGuests, .ref a_T_readKinds, .ref a_T_readFloors, .int T_readWishes, .ref a_T_readWishKind, .ref a_T_readWishA, .ref a_T_readWishB, .int T_readBegins, .int T_here, .int T_stands, .int T_many, .int T_rounds, .ref a_T_come, .ref a_T_keptBy, .ref a_T_endsAt, .ref a_T_order, .ref a_T_time, .ref a_T_place])), (a_T_st, .inl (cI, 8, .inl T_st)), (a_T_wishA, .inl (cI, 9, .inl T_wishA)), (a_T_wishKind, .inl (cI, 9, .inl T_wishKind)), (a_T_wishB, .inl (cI, 9, .inl T_wishB)), (a_T_order, .inl (cI, 6, .inl T_order)), (a_T_time, .inl (cI, 6, .inl T_time)), (a_T_place, .inl (cI, 6, .inl T_place)), (a_T_kinds, .inl (cI, 6, .inl T_kinds)), (a_T_endsAt, .inl (cI, 720, .inl T_endsAt)), (a_T_keptBy, .inl (cI, 720, .inl T_keptBy)), (a_T_come, .inl (cI, 4320, .inl T_come))]) (wr := []) (w1 := [(a_T, .inr (9, [.int T_guests, .ref a_T_kinds, .int T_wishes, .ref a_T_wishKind, .ref a_T_wishA, .ref a_T_wishB, .int T_begins, .ref a_T_st, .int T_acts, .ref a_T_was, .int T_keeps, .ref a_T_kept, .int T_wokes, .ref a_T_woke, .ref a_T_text, .int T_texted, .int T_at, .ref a_T_told, .int T_readGuests, .ref a_T_readKinds, .ref a_T_readFloors, .int T_readWishes, .ref a_T_readWishKind, .ref a_T_readWishA, .ref a_T_readWishB, .int T_readBegins, .int T_here_1, .int T_stands_1, .int T_many_1, .int T_rounds_1, .ref a_T_come, .ref a_T_keptBy, .ref a_T_endsAt, .ref a_T_order, .ref a_T_time, .ref a_T_place])), (a_T_st, .inl (cI, 8, .inl T_st)), (a_T_wishA, .inl (cI, 9, .inl T_wishA)), (a_T_wishKind, .inl (cI, 9, .inl T_wishKind)), (a_T_wishB, .inl (cI, 9, .inl T_wishB)), (a_T_order, .inl (cI, 6, .inl T_order_1)), (a_T_time, .inl (cI, 6, .inl T_time_1)), (a_T_place, .inl (cI, 6, .inl T_place_1)), (a_T_kinds, .inl (cI, 6, .inl T_kinds)), (a_T_endsAt, .inl (cI, 720, .inl T_endsAt_1)), (a_T_keptBy, .inl (cI, 720, .inl T_keptBy_1)), (a_T_come, .inl (cI, 4320, .inl T_come_1))]) (wn := [(a_T, .inr (9, [.int T_guests, .ref a_T_kinds, .int T_wishes, .ref a_T_wishKind, .ref a_T_wishA, .ref a_T_wishB, .int T_begins, .ref a_T_st, .int T_acts, .ref a_T_was, .int T_keeps, .ref a_T_kept, .int T_wokes, .ref a_T_woke, .ref a_T_text, .int T_texted, .int T_at, .ref a_T_told, .int T_readGuests, .ref a_T_readKinds, .ref a_T_readFloors, .int T_readWishes, .ref a_T_readWishKind, .ref a_T_readWishA, .ref a_T_readWishB, .int T_readBegins, .int T_here_1, .int T_stands_1, .int T_many_1, .int T_rounds_1, .ref a_T_come, .ref a_T_keptBy, .ref a_T_endsAt, .ref a_T_order, .ref a_T_time, .ref a_T_place])), (a_T_st, .inl (cI, 8, .inl T_st)), (a_T_wishA, .inl (cI, 9, .inl T_wishA)), (a_T_wishKind, .inl (cI, 9, .inl T_wishKind)), (a_T_wishB, .inl (cI, 9, .inl T_wishB)), (a_T_order, .inl (cI, 6, .inl T_order_1)), (a_T_time, .inl (cI, 6, .inl T_time_1)), (a_T_place, .inl (cI, 6, .inl T_place_1)), (a_T_kinds, .inl (cI, 6, .inl T_kinds)), (a_T_endsAt, .inl (cI, 720, .inl T_endsAt_1)), (a_T_keptBy, .inl (cI, 720, .inl T_keptBy_1)), (a_T_come, .inl (cI, 4320, .inl T_come_1))]) hP hD hS hA [0, 1, 2, 3, 4, 5, 6, 7, 8, 9, 10, 11] [] [0, 1, 2, 3, 4, 5, 6, 7, 8, 9, 10, 11] rfl rfl (by decide +kernel) (by decide +kernel) rfl (by decide +kernel) (va_runV (As := [.int (T_st (0 : Int32).toNatClampNeg)]) (rest := []) ⟨hx, hb, hml, hown, hts⟩ (kX9_findRounds l dC dI cC cI cJ H.size K a_T a_T_kinds a_T_wishKind a_T_wishA a_T_wishB a_T_st a_T_was a_T_kept a_T_woke a_T_text a_T_told a_T_readKinds a_T_readFloors a_T_readWishKind a_T_readWishA a_T_readWishB a_T_come a_T_keptBy a_T_endsAt a_T_order a_T_time a_T_place (T_st (0 : Int32).toNatClampNeg) T_guests T_wishes T_begins T_acts T_keeps T_wokes T_texted T_at T_readGuests T_readWishes T_readBegins T_here T_stands T_many T_rounds T_st T_wishA T_wishKind T_wishB T_order T_time T_place T_kinds T_endsAt T_keptBy T_come (T_here_1, T_stands_1, T_many_1, T_rounds_1, T_order_1, T_time_1, T_place_1, T_endsAt_1, T_keptBy_1, T_come_1) hc2) (cwV 1 hts gX9_soonest_X9_findRounds rfl rfl rfl (by decide +kernel) ⟨Nat.le_of_ble_eq_true rfl, Nat.le_of_ble_eq_true rfl⟩) ⟨fbW, va_recv hK hP (ci := 9) (q0 := 0) rfl rfl, preW hP hD hK hN [0, 1, 2, 3, 4, 5, 6, 7, 8, 9, 10, 11] rfl (by decide +kernel)⟩ rfl rfl hl.1 rfl (lv_room (Nat.le_of_ble_eq_true rfl)) dX9_soonest_19 ⟨Nat.zero_le _, Nat.zero_le _⟩) (fun H locs hP hD hS => ?_)
    refine lv_aload_n hx hb dX9_soonest_22 rfl (lv_at hl 0 rfl) ?_
    obtain ⟨r_1, hc3, hr⟩ := bd1_some hr
    refine call_i (D := (dC, dI)) (tys := tysA cC cI cJ) (wc := [(a_T, .inr (9, [.int T_guests, .ref a_T_kinds, .int T_wishes, .ref a_T_wishKind, .ref a_T_wishA, .ref a_T_wishB, .int T_begins, .ref a_T_st, .int T_acts, .ref a_T_was, .int T_keeps, .ref a_T_kept, .int T_wokes, .ref a_T_woke, .ref a_T_text, .int T_texted, .int T_at, .ref a_T_told, .int T_readGuests, .ref a_T_readKinds, .ref a_T_readFloors, .int T_readWishes, .ref a_T_readWishKind, .ref a_T_readWishA, .ref a_T_readWishB, .int T_readBegins, .int T_here_1, .int T_stands_1, .int T_many_1, .int T_rounds_1, .ref a_T_come, .ref a_T_keptBy, .ref a_T_endsAt, .ref a_T_order, .ref a_T_time, .ref a_T_place])), (a_T_keptBy, .inl (cI, 720, .inl T_keptBy_1)), (a_T_endsAt, .inl (cI, 720, .inl T_endsAt_1))]) (wr := [(a_T_st, .inl (cI, 8, .inl T_st)), (a_T_wishA, .inl (cI, 9, .inl T_wishA)), (a_T_wishKind, .inl (cI, 9, .inl T_wishKind)), (a_T_wishB, .inl (cI, 9, .inl T_wishB)), (a_T_order, .inl (cI, 6, .inl T_order_1)), (a_T_time, .inl (cI, 6, .inl T_time_1)), (a_T_place, .inl (cI, 6, .inl T_place_1)), (a_T_kinds, .inl (cI, 6, .inl T_kinds)), (a_T_come, .inl (cI, 4320, .inl T_come_1))]) (w1 := [(a_T, .inr (9, [.int T_guests, .ref a_T_kinds, .int T_wishes, .ref a_T_wishKind, .ref a_T_wishA, .ref a_T_wishB, .int T_begins, .ref a_T_st, .int T_acts, .ref a_T_was, .int T_keeps, .ref a_T_kept, .int T_wokes, .ref a_T_woke, .ref a_T_text, .int T_texted, .int T_at, .ref a_T_told, .int T_readGuests, .ref a_T_readKinds, .ref a_T_readFloors, .int T_readWishes, .ref a_T_readWishKind, .ref a_T_readWishA, .ref a_T_readWishB, .int T_readBegins, .int T_here_1, .int T_stands_1, .int T_many_1, .int T_rounds_1, .ref a_T_come, .ref a_T_keptBy, .ref a_T_endsAt, .ref a_T_order, .ref a_T_time, .ref a_T_place])), (a_T_keptBy, .inl (cI, 720, .inl T_keptBy_1)), (a_T_endsAt, .inl (cI, 720, .inl T_endsAt_1))]) (wn := [(a_T, .inr (9, [.int T_guests, .ref a_T_kinds, .int T_wishes, .ref a_T_wishKind, .ref a_T_wishA, .ref a_T_wishB, .int T_begins, .ref a_T_st, .int T_acts, .ref a_T_was, .int T_keeps, .ref a_T_kept, .int T_wokes, .ref a_T_woke, .ref a_T_text, .int T_texted, .int T_at, .ref a_T_told, .int T_readGuests, .ref a_T_readKinds, .ref a_T_readFloors, .int T_readWishes, .ref a_T_readWishKind, .ref a_T_readWishA, .ref a_T_readWishB, .int T_readBegins, .int T_here_1, .int T_stands_1, .int T_many_1, .int T_rounds_1, .ref a_T_come, .ref a_T_keptBy, .ref a_T_endsAt, .ref a_T_order, .ref a_T_time, .ref a_T_place])), (a_T_st, .inl (cI, 8, .inl T_st)), (a_T_wishA, .inl (cI, 9, .inl T_wishA)), (a_T_wishKind, .inl (cI, 9, .inl T_wishKind)), (a_T_wishB, .inl (cI, 9, .inl T_wishB)), (a_T_order, .inl (cI, 6, .inl T_order_1)), (a_T_time, .inl (cI, 6, .inl T_time_1)), (a_T_place, .inl (cI, 6, .inl T_place_1)), (a_T_kinds, .inl (cI, 6, .inl T_kinds)), (a_T_endsAt, .inl (cI, 720, .inl T_endsAt_1)), (a_T_keptBy, .inl (cI, 720, .inl T_keptBy_1)), (a_T_come, .inl (cI, 4320, .inl T_come_1))]) (r0 := r_1) hP hD hS hA [0, 10, 9] [1, 2, 3, 4, 5, 6, 7, 8, 11] [9, 0, 1, 2, 3, 4, 5, 6, 7, 11, 10, 8] rfl rfl (by decide +kernel) (by decide +kernel) rfl (by decide +kernel) (va_runV (As := []) (rest := []) ⟨hx, hb, hml, hown, hts⟩ (kX9_soonestRound l dC dI cC cI cJ H.size K a_T a_T_kinds a_T_wishKind a_T_wishA a_T_wishB a_T_st a_T_was a_T_kept a_T_woke a_T_text a_T_told a_T_readKinds a_T_readFloors a_T_readWishKind a_T_readWishA a_T_readWishB a_T_come a_T_keptBy a_T_endsAt a_T_order a_T_time a_T_place T_guests T_wishes T_begins T_acts T_keeps T_wokes T_texted T_at T_readGuests T_readWishes T_readBegins T_here_1 T_stands_1 T_many_1 T_rounds_1 T_keptBy_1 T_endsAt_1 r_1 hc3) (cwV 0 hts gX9_soonest_X9_soonestRound rfl rfl rfl (by decide +kernel) ⟨Nat.le_of_ble_eq_true rfl, Nat.le_of_ble_eq_true rfl⟩) ⟨fbW, va_recv hK hP (ci := 9) (q0 := 0) rfl rfl, preW hP hD hK hN [0, 10, 9] rfl (by decide +kernel)⟩ rfl rfl hl.1 rfl (lv_room (Nat.le_of_ble_eq_true rfl)) dX9_soonest_23 ⟨Nat.zero_le _, Nat.zero_le _⟩) (fun H locs hP hD hS => ?_)
    refine lv_istore_n (lv' := [(2, .int r_1), (0, .ref a_T), (1, .int x1)]) hx hb dX9_soonest_26 rfl hl (by decide) rfl (fun ls hl => ?_)
    refine lv_iload_n hx hb dX9_soonest_27 rfl (lv_at hl 0 rfl) ?_
    refine lv_if_lt (tgt := 39) hx hb dX9_soonest_28 (by decide) (fun c2 => ?_) (fun c2 => ?_)
    · replace hr := it_t hr c2
      refine lv_bipush (v := (-4)) hx hb dX9_soonest_39 (by decide) ?_
      refine lv_goto (tgt := 70) hx hb dX9_soonest_41 (by decide) ?_
      have he := Option.some.inj hr
      subst he
      subst hQ
      exact ret_i hx hb hrt hK hP hD hS hlocks dX9_soonest_70
    · replace hr := it_f hr c2
      refine lv_iload_n hx hb dX9_soonest_31 rfl (lv_at hl 2 rfl) ?_
      refine lv_aload_n hx hb dX9_soonest_32 rfl (lv_at hl 1 rfl) ?_
      refine va_get (D := (dC, dI)) (ci := 9) (v := .int T_many_1) (C := RX9) (T := TX9) (N := 36) hx hb hts inX9_soonest_X9 hown hK hP 0 rfl rfl 28 (by decide) (hts _ mbX9_soonest_2) (fun _ h9 => h9) rfl dX9_soonest_33 ?_
      refine lv_icmp_le (tgt := 44) hx hb dX9_soonest_36 (by decide) (fun c3 => ?_) (fun c3 => ?_)
      · replace hr := it_t hr c3
        refine lv_iload_n hx hb dX9_soonest_44 rfl (lv_at hl 2 rfl) ?_
        refine lv_if_ne (tgt := 57) hx hb dX9_soonest_45 (by decide) (fun c4 => ?_) (fun c4 => ?_)
        · replace hr := it_f hr c4
          refine lv_aload_n hx hb dX9_soonest_57 rfl (lv_at hl 1 rfl) ?_
          refine va_get (D := (dC, dI)) (ci := 9) (v := .ref a_T_come) (C := RX9) (T := TX9) (N := 36) hx hb hts inX9_soonest_X9 hown hK hP 0 rfl rfl 30 (by decide) (hts _ mbX9_soonest_3) (fun _ h9 => h9) rfl dX9_soonest_58 ?_
          refine lv_bipush (v := 6) hx hb dX9_soonest_61 (by decide) ?_
          refine lv_iload_n hx hb dX9_soonest_63 rfl (lv_at hl 0 rfl) ?_
          refine lv_imul hx hb dX9_soonest_64 ?_
          refine lv_iload_n hx hb dX9_soonest_65 rfl (lv_at hl 2 rfl) ?_
          refine lv_iadd hx hb dX9_soonest_66 ?_
          refine lv_iconst (v := 1) hx hb dX9_soonest_67 (by decide) ?_
          refine lv_isub hx hb dX9_soonest_68 ?_
          obtain ⟨g2, hr⟩ := gd_some hr
          refine va_iald hx hb hK hP 11 1 rfl rfl g2 dX9_soonest_69 ?_
          have he := Option.some.inj hr
          subst he
          subst hQ
          exact ret_i hx hb hrt hK hP hD hS hlocks dX9_soonest_70
        · replace hr := it_t hr c4
          refine lv_aload_n hx hb dX9_soonest_48 rfl (lv_at hl 1 rfl) ?_
          refine va_get (D := (dC, dI)) (ci := 9) (v := .ref a_T_endsAt) (C := RX9) (T := TX9) (N := 36) hx hb hts inX9_soonest_X9 hown hK hP 0 rfl rfl 32 (by decide) (hts _ mbX9_soonest_4) (fun _ h9 => h9) rfl dX9_soonest_49 ?_
          refine lv_iload_n hx hb dX9_soonest_52 rfl (lv_at hl 0 rfl) ?_
          obtain ⟨g3, hr⟩ := gd_some hr
          refine va_iald hx hb hK hP 9 1 rfl rfl g3 dX9_soonest_53 ?_
          refine lv_goto (tgt := 70) hx hb dX9_soonest_54 (by decide) ?_
          have he := Option.some.inj hr
          subst he
          subst hQ
          exact ret_i hx hb hrt hK hP hD hS hlocks dX9_soonest_70
      · replace hr := it_f hr c3
        refine lv_bipush (v := (-4)) hx hb dX9_soonest_39 (by decide) ?_
        refine lv_goto (tgt := 70) hx hb dX9_soonest_41 (by decide) ?_
        have he := Option.some.inj hr
        subst he
        subst hQ
        exact ret_i hx hb hrt hK hP hD hS hlocks dX9_soonest_70
  · replace hr := it_t hr c1
    refine lv_iconst (v := (-1)) hx hb dX9_soonest_10 (by decide) ?_
    have he := Option.some.inj hr
    subst he
    subst hQ
    exact ret_i hx hb hrt hK hP hD hS hlocks dX9_soonest_11
def fX9_most_L28 (K : Nat) (T_rounds_1 : Int32) (T_keptBy_1 : (Nat → Int32)) : Nat → Int32 → Int32 → Int32 → Option (Int32 × Int32)
  | 0, _, _, _ => none
  | n1 + 1, x2, x3, x4 =>
    if T_rounds_1 ≤ (x4 : Int32) then (
    some (x2, x3))
    else (
    gd (¬ ((x4 : Int32) < 0 ∨ 720 ≤ x4.toNatClampNeg)) (
    bd1 (fX9_bits K (T_keptBy_1 x4.toNatClampNeg)) fun r_1 =>
    bd1 (τ0 := Int32) (
    if x2 < (r_1 : Int32) then (
    some 1)
    else (
    bs0 (
    if (r_1 : Int32) = x2 then (
    gd (¬ ((x4 : Int32) < 0 ∨ 720 ≤ x4.toNatClampNeg)) (
    if x3 ≤ ((T_keptBy_1 x4.toNatClampNeg) : Int32) then (
    some (.inr ()))
    else (
    some (.inl 1))))
    else (
    some (.inr ()))) (
    some 0))) fun y =>
    bd1 (τ0 := Int32) (
    if (y : Int32) = 0 then (
    some x2)
    else (
    some r_1)) fun y_1 =>
    bd1 (τ0 := Int32) (
    if (y : Int32) = 0 then (
    some x3)
    else (
    gd (¬ ((x4 : Int32) < 0 ∨ 720 ≤ x4.toNatClampNeg)) (
    some (T_keptBy_1 x4.toNatClampNeg)))) fun y_2 =>
    nm (x4 + 1) fun x4_1 =>
    fX9_most_L28 K T_rounds_1 T_keptBy_1 n1 y_1 y_2 x4_1))
def fX9_most (K : Nat) (x1 : Int32) (T_guests : Int32) (T_wishes : Int32) (T_begins : Int32) (T_here : Int32) (T_stands : Int32) (T_many : Int32) (T_rounds : Int32) (T_st : (Nat → Int32)) (T_wishA : (Nat → Int32)) (T_wishKind : (Nat → Int32)) (T_wishB : (Nat → Int32)) (T_order : (Nat → Int32)) (T_time : (Nat → Int32)) (T_place : (Nat → Int32)) (T_kinds : (Nat → Int32)) (T_endsAt : (Nat → Int32)) (T_keptBy : (Nat → Int32)) (T_come : (Nat → Int32)) : Option (Int32 × Int32 × Int32 × Int32 × Int32 × (Nat → Int32) × (Nat → Int32) × (Nat → Int32) × (Nat → Int32) × (Nat → Int32) × (Nat → Int32)) :=
    bd1 (fX9_in K x1 0 1) fun r =>
    if (r : Int32) = 0 then (
    some ((-1), T_here, T_stands, T_many, T_rounds, T_order, T_time, T_place, T_endsAt, T_keptBy, T_come))
    else (
    gd (¬ ((0 : Int32) < 0 ∨ 8 ≤ (0 : Int32).toNatClampNeg)) (
    bd10 (fX9_findRounds K (T_st (0 : Int32).toNatClampNeg) T_guests T_wishes T_begins T_here T_stands T_many T_rounds T_st T_wishA T_wishKind T_wishB T_order T_time T_place T_kinds T_endsAt T_keptBy T_come) fun T_here_1 T_stands_1 T_many_1 T_rounds_1 T_order_1 T_time_1 T_place_1 T_endsAt_1 T_keptBy_1 T_come_1 =>
    bd2 (fX9_most_L28 K T_rounds_1 T_keptBy_1 K (-1) 0 0) fun x2_1 x3_1 =>
    if (x1 : Int32) = 0 then (
    some (x2_1, T_here_1, T_stands_1, T_many_1, T_rounds_1, T_order_1, T_time_1, T_place_1, T_endsAt_1, T_keptBy_1, T_come_1))
    else (
    some (x3_1, T_here_1, T_stands_1, T_many_1, T_rounds_1, T_order_1, T_time_1, T_place_1, T_endsAt_1, T_keptBy_1, T_come_1))))
theorem mbX9_most_0 : Cond.fieldLink RX9 22 "BootsAtDawnModel" "st" "[I" ∈ wsX9_most := List.mem_of_getElem? (i := 1) rfl
theorem inX9_most_X9 : ∀ w ∈ u_ws RX9 TX9 36, w ∈ wsX9_most := fun _ h => (List.mem_cons_of_mem _ (List.mem_append_right _ h))
theorem mbX9_most_2 : Cond.fieldLink RX9 197 "BootsAtDawnModel" "rounds" "I" ∈ wsX9_most := List.mem_of_getElem? (i := 2) rfl
theorem mbX9_most_3 : Cond.fieldLink RX9 58 "BootsAtDawnModel" "keptBy" "[I" ∈ wsX9_most := List.mem_of_getElem? (i := 3) rfl
abbrev rmX9_most : Room := { frames := 4, cells := 0, slots := 0, locals := 94 }
set_option maxHeartbeats 8000000 in
set_option maxRecDepth 100000 in
theorem kX9_most (l : Launch) (dC : Nat → ClassId) (dI : Nat → Nat → Nat) (cC cI cJ : ClassId) (sz : Nat) (K : Nat) (a_T a_T_kinds a_T_wishKind a_T_wishA a_T_wishB a_T_st a_T_was a_T_kept a_T_woke a_T_text a_T_told a_T_readKinds a_T_readFloors a_T_readWishKind a_T_readWishA a_T_readWishB a_T_come a_T_keptBy a_T_endsAt a_T_order a_T_time a_T_place : Nat) (x1 : Int32) (T_guests : Int32) (T_wishes : Int32) (T_begins : Int32) (T_acts : Int32) (T_keeps : Int32) (T_wokes : Int32) (T_texted : Int32) (T_at : Int32) (T_readGuests : Int32) (T_readWishes : Int32) (T_readBegins : Int32) (T_here : Int32) (T_stands : Int32) (T_many : Int32) (T_rounds : Int32) (T_st : (Nat → Int32)) (T_wishA : (Nat → Int32)) (T_wishKind : (Nat → Int32)) (T_wishB : (Nat → Int32)) (T_order : (Nat → Int32)) (T_time : (Nat → Int32)) (T_place : (Nat → Int32)) (T_kinds : (Nat → Int32)) (T_endsAt : (Nat → Int32)) (T_keptBy : (Nat → Int32)) (T_come : (Nat → Int32)) (R : Int32 × Int32 × Int32 × Int32 × Int32 × (Nat → Int32) × (Nat → Int32) × (Nat → Int32) × (Nat → Int32) × (Nat → Int32) × (Nat → Int32)) (hr : fX9_most K x1 T_guests T_wishes T_begins T_here T_stands T_many T_rounds T_st T_wishA T_wishKind T_wishB T_order T_time T_place T_kinds T_endsAt T_keptBy T_come = some R) : Met l yX9_most wsX9_most rmX9_most (va_Pc ([.ref a_T, .int x1] : List Value) (PcW (dC, dI) (tysA cC cI cJ) sz [(a_T, .inr (9, [.int T_guests, .ref a_T_kinds, .int T_wishes, .ref a_T_wishKind, .ref a_T_wishA, .ref a_T_wishB, .int T_begins, .ref a_T_st, .int T_acts, .ref a_T_was, .int T_keeps, .ref a_T_kept, .int T_wokes, .ref a_T_woke, .ref a_T_text, .int T_texted, .int T_at, .ref a_T_told, .int T_readGuests, .ref a_T_readKinds, .ref a_T_readFloors, .int T_readWishes, .ref a_T_readWishKind, .ref a_T_readWishA, .ref a_T_readWishB, .int T_readBegins, .int T_here, .int T_stands, .int T_many, .int T_rounds, .ref a_T_come, .ref a_T_keptBy, .ref a_T_endsAt, .ref a_T_order, .ref a_T_time, .ref a_T_place])), (a_T_st, .inl (cI, 8, .inl T_st)), (a_T_wishA, .inl (cI, 9, .inl T_wishA)), (a_T_wishKind, .inl (cI, 9, .inl T_wishKind)), (a_T_wishB, .inl (cI, 9, .inl T_wishB)), (a_T_order, .inl (cI, 6, .inl T_order)), (a_T_time, .inl (cI, 6, .inl T_time)), (a_T_place, .inl (cI, 6, .inl T_place)), (a_T_kinds, .inl (cI, 6, .inl T_kinds)), (a_T_endsAt, .inl (cI, 720, .inl T_endsAt)), (a_T_keptBy, .inl (cI, 720, .inl T_keptBy)), (a_T_come, .inl (cI, 4320, .inl T_come))])) (va_Qi (fun r (_ : Unit) => r = R.1) (fun _ => BW (dC, dI) (tysA cC cI cJ) (va_A [(a_T, .inr (9, [.int T_guests, .ref a_T_kinds, .int T_wishes, .ref a_T_wishKind, .ref a_T_wishA, .ref a_T_wishB, .int T_begins, .ref a_T_st, .int T_acts, .ref a_T_was, .int T_keeps, .ref a_T_kept, .int T_wokes, .ref a_T_woke, .ref a_T_text, .int T_texted, .int T_at, .ref a_T_told, .int T_readGuests, .ref a_T_readKinds, .ref a_T_readFloors, .int T_readWishes, .ref a_T_readWishKind, .ref a_T_readWishA, .ref a_T_readWishB, .int T_readBegins, .int T_here, .int T_stands, .int T_many, .int T_rounds, .ref a_T_come, .ref a_T_keptBy, .ref a_T_endsAt, .ref a_T_order, .ref a_T_time, .ref a_T_place])), (a_T_st, .inl (cI, 8, .inl T_st)), (a_T_wishA, .inl (cI, 9, .inl T_wishA)), (a_T_wishKind, .inl (cI, 9, .inl T_wishKind)), (a_T_wishB, .inl (cI, 9, .inl T_wishB)), (a_T_order, .inl (cI, 6, .inl T_order)), (a_T_time, .inl (cI, 6, .inl T_time)), (a_T_place, .inl (cI, 6, .inl T_place)), (a_T_kinds, .inl (cI, 6, .inl T_kinds)), (a_T_endsAt, .inl (cI, 720, .inl T_endsAt)), (a_T_keptBy, .inl (cI, 720, .inl T_keptBy)), (a_T_come, .inl (cI, 4320, .inl T_come))] sz) [(a_T, .inr (9, [.int T_guests, .ref a_T_kinds, .int T_wishes, .ref a_T_wishKind, .ref a_T_wishA, .ref a_T_wishB, .int T_begins, .ref a_T_st, .int T_acts, .ref a_T_was, .int T_keeps, .ref a_T_kept, .int T_wokes, .ref a_T_woke, .ref a_T_text, .int T_texted, .int T_at, .ref a_T_told, .int T_readGuests, .ref a_T_readKinds, .ref a_T_readFloors, .int T_readWishes, .ref a_T_readWishKind, .ref a_T_readWishA, .ref a_T_readWishB, .int T_readBegins, .int R.2.1, .int R.2.2.1, .int R.2.2.2.1, .int R.2.2.2.2.1, .ref a_T_come, .ref a_T_keptBy, .ref a_T_endsAt, .ref a_T_order, .ref a_T_time, .ref a_T_place])), (a_T_st, .inl (cI, 8, .inl T_st)), (a_T_wishA, .inl (cI, 9, .inl T_wishA)), (a_T_wishKind, .inl (cI, 9, .inl T_wishKind)), (a_T_wishB, .inl (cI, 9, .inl T_wishB)), (a_T_order, .inl (cI, 6, .inl R.2.2.2.2.2.1)), (a_T_time, .inl (cI, 6, .inl R.2.2.2.2.2.2.1)), (a_T_place, .inl (cI, 6, .inl R.2.2.2.2.2.2.2.1)), (a_T_kinds, .inl (cI, 6, .inl T_kinds)), (a_T_endsAt, .inl (cI, 720, .inl R.2.2.2.2.2.2.2.2.1)), (a_T_keptBy, .inl (cI, 720, .inl R.2.2.2.2.2.2.2.2.2.1)), (a_T_come, .inl (cI, 4320, .inl R.2.2.2.2.2.2.2.2.2.2))]) (va_A [(a_T, .inr (9, [.int T_guests, .ref a_T_kinds, .int T_wishes, .ref a_T_wishKind, .ref a_T_wishA, .ref a_T_wishB, .int T_begins, .ref a_T_st, .int T_acts, .ref a_T_was, .int T_keeps, .ref a_T_kept, .int T_wokes, .ref a_T_woke, .ref a_T_text, .int T_texted, .int T_at, .ref a_T_told, .int T_readGuests, .ref a_T_readKinds, .ref a_T_readFloors, .int T_readWishes, .ref a_T_readWishKind, .ref a_T_readWishA, .ref a_T_readWishB, .int T_readBegins, .int T_here, .int T_stands, .int T_many, .int T_rounds, .ref a_T_come, .ref a_T_keptBy, .ref a_T_endsAt, .ref a_T_order, .ref a_T_time, .ref a_T_place])), (a_T_st, .inl (cI, 8, .inl T_st)), (a_T_wishA, .inl (cI, 9, .inl T_wishA)), (a_T_wishKind, .inl (cI, 9, .inl T_wishKind)), (a_T_wishB, .inl (cI, 9, .inl T_wishB)), (a_T_order, .inl (cI, 6, .inl T_order)), (a_T_time, .inl (cI, 6, .inl T_time)), (a_T_place, .inl (cI, 6, .inl T_place)), (a_T_kinds, .inl (cI, 6, .inl T_kinds)), (a_T_endsAt, .inl (cI, 720, .inl T_endsAt)), (a_T_keptBy, .inl (cI, 720, .inl T_keptBy)), (a_T_come, .inl (cI, 4320, .inl T_come))] sz)) 0 0 (va_A [(a_T, .inr (9, [.int T_guests, .ref a_T_kinds, .int T_wishes, .ref a_T_wishKind, .ref a_T_wishA, .ref a_T_wishB, .int T_begins, .ref a_T_st, .int T_acts, .ref a_T_was, .int T_keeps, .ref a_T_kept, .int T_wokes, .ref a_T_woke, .ref a_T_text, .int T_texted, .int T_at, .ref a_T_told, .int T_readGuests, .ref a_T_readKinds, .ref a_T_readFloors, .int T_readWishes, .ref a_T_readWishKind, .ref a_T_readWishA, .ref a_T_readWishB, .int T_readBegins, .int T_here, .int T_stands, .int T_many, .int T_rounds, .ref a_T_come, .ref a_T_keptBy, .ref a_T_endsAt, .ref a_T_order, .ref a_T_time, .ref a_T_place])), (a_T_st, .inl (cI, 8, .inl T_st)), (a_T_wishA, .inl (cI, 9, .inl T_wishA)), (a_T_wishKind, .inl (cI, 9, .inl T_wishKind)), (a_T_wishB, .inl (cI, 9, .inl T_wishB)), (a_T_order, .inl (cI, 6, .inl T_order)), (a_T_time, .inl (cI, 6, .inl T_time)), (a_T_place, .inl (cI, 6, .inl T_place)), (a_T_kinds, .inl (cI, 6, .inl T_kinds)), (a_T_endsAt, .inl (cI, 720, .inl T_endsAt)), (a_T_keptBy, .inl (cI, 720, .inl T_keptBy)), (a_T_come, .inl (cI, 4320, .inl T_come))] sz) := by
  refine Met.ofW (cc := cX9_most) (maxL := 7) (ret := (some .int)) (by decide) rfl ?_
  intro p e s m args below meth c s₁ B hml hv
  obtain ⟨rfl, hsz, hP, hK, hD0, hN⟩ := hv
  have hx := B.exec
  have hb := B.bytes
  have hrt := B.returns
  have hts := atoms_spec (ws := wsX9_most) B.pre
  have hown : s.vm.findClass RX9 = some m.cls := findClass_of_methodNamed B.named
  have hlocks := B.notSynchronized
  subst hsz
  have hD := hD0.self (sz := s.heap.size)
  generalize hAe : va_A [(a_T, .inr (9, [.int T_guests, .ref a_T_kinds, .int T_wishes, .ref a_T_wishKind, .ref a_T_wishA, .ref a_T_wishB, .int T_begins, .ref a_T_st, .int T_acts, .ref a_T_was, .int T_keeps, .ref a_T_kept, .int T_wokes, .ref a_T_woke, .ref a_T_text, .int T_texted, .int T_at, .ref a_T_told, .int T_readGuests, .ref a_T_readKinds, .ref a_T_readFloors, .int T_readWishes, .ref a_T_readWishKind, .ref a_T_readWishA, .ref a_T_readWishB, .int T_readBegins, .int T_here, .int T_stands, .int T_many, .int T_rounds, .ref a_T_come, .ref a_T_keptBy, .ref a_T_endsAt, .ref a_T_order, .ref a_T_time, .ref a_T_place])), (a_T_st, .inl (cI, 8, .inl T_st)), (a_T_wishA, .inl (cI, 9, .inl T_wishA)), (a_T_wishKind, .inl (cI, 9, .inl T_wishKind)), (a_T_wishB, .inl (cI, 9, .inl T_wishB)), (a_T_order, .inl (cI, 6, .inl T_order)), (a_T_time, .inl (cI, 6, .inl T_time)), (a_T_place, .inl (cI, 6, .inl T_place)), (a_T_kinds, .inl (cI, 6, .inl T_kinds)), (a_T_endsAt, .inl (cI, 720, .inl T_endsAt)), (a_T_keptBy, .inl (cI, 720, .inl T_keptBy)), (a_T_come, .inl (cI, 4320, .inl T_come))] s.heap.size = A at hD ⊢
  have hA : ∀ q : Nat, s.heap.size ≤ q → A q := fun q h => by rw [← hAe]; exact Or.inr h
  have hS : va_S A s.heap s.heap [] := va_S.rf
  have hl := lv_entry ([.ref a_T, .int x1] : List Value) (n := 7) (Nat.le_of_ble_eq_true rfl)
  rw [lg_entry_eq]
  generalize (lg_sl ([.ref a_T, .int x1] : List Value) ++ List.replicate (7 - (lg_sl ([.ref a_T, .int x1] : List Value)).length) Slot.unset).toArray = ls at hl ⊢
  replace hl : lv_has ls 7 [(0, .ref a_T), (1, .int x1)] := hl
  obtain ⟨Q, hQ⟩ : ∃ Q, Q = MQ below (va_Qi (fun r (_ : Unit) => r = R.1) (fun _ => BW (dC, dI) (tysA cC cI cJ) A [(a_T, .inr (9, [.int T_guests, .ref a_T_kinds, .int T_wishes, .ref a_T_wishKind, .ref a_T_wishA, .ref a_T_wishB, .int T_begins, .ref a_T_st, .int T_acts, .ref a_T_was, .int T_keeps, .ref a_T_kept, .int T_wokes, .ref a_T_woke, .ref a_T_text, .int T_texted, .int T_at, .ref a_T_told, .int T_readGuests, .ref a_T_readKinds, .ref a_T_readFloors, .int T_readWishes, .ref a_T_readWishKind, .ref a_T_readWishA, .ref a_T_readWishB, .int T_readBegins, .int R.2.1, .int R.2.2.1, .int R.2.2.2.1, .int R.2.2.2.2.1, .ref a_T_come, .ref a_T_keptBy, .ref a_T_endsAt, .ref a_T_order, .ref a_T_time, .ref a_T_place])), (a_T_st, .inl (cI, 8, .inl T_st)), (a_T_wishA, .inl (cI, 9, .inl T_wishA)), (a_T_wishKind, .inl (cI, 9, .inl T_wishKind)), (a_T_wishB, .inl (cI, 9, .inl T_wishB)), (a_T_order, .inl (cI, 6, .inl R.2.2.2.2.2.1)), (a_T_time, .inl (cI, 6, .inl R.2.2.2.2.2.2.1)), (a_T_place, .inl (cI, 6, .inl R.2.2.2.2.2.2.2.1)), (a_T_kinds, .inl (cI, 6, .inl T_kinds)), (a_T_endsAt, .inl (cI, 720, .inl R.2.2.2.2.2.2.2.2.1)), (a_T_keptBy, .inl (cI, 720, .inl R.2.2.2.2.2.2.2.2.2.1)), (a_T_come, .inl (cI, 4320, .inl R.2.2.2.2.2.2.2.2.2.2))]) A) ([.ref a_T, .int x1] : List Value).toArray s 0 0 A := ⟨_, rfl⟩
  rw [← hQ]
  suffices hE : WG p l e rmX9_most s m ([.ref a_T, .int x1] : List Value).toArray below meth c 0 0 Q (dC, dI) A 0 7 [(a_T, .inr (9, [.int T_guests, .ref a_T_kinds, .int T_wishes, .ref a_T_wishKind, .ref a_T_wishA, .ref a_T_wishB, .int T_begins, .ref a_T_st, .int T_acts, .ref a_T_was, .int T_keeps, .ref a_T_kept, .int T_wokes, .ref a_T_woke, .ref a_T_text, .int T_texted, .int T_at, .ref a_T_told, .int T_readGuests, .ref a_T_readKinds, .ref a_T_readFloors, .int T_readWishes, .ref a_T_readWishKind, .ref a_T_readWishA, .ref a_T_readWishB, .int T_readBegins, .int T_here, .int T_stands, .int T_many, .int T_rounds, .ref a_T_come, .ref a_T_keptBy, .ref a_T_endsAt, .ref a_T_order, .ref a_T_time, .ref a_T_place])), (a_T_st, .inl (cI, 8, .inl T_st)), (a_T_wishA, .inl (cI, 9, .inl T_wishA)), (a_T_wishKind, .inl (cI, 9, .inl T_wishKind)), (a_T_wishB, .inl (cI, 9, .inl T_wishB)), (a_T_order, .inl (cI, 6, .inl T_order)), (a_T_time, .inl (cI, 6, .inl T_time)), (a_T_place, .inl (cI, 6, .inl T_place)), (a_T_kinds, .inl (cI, 6, .inl T_kinds)), (a_T_endsAt, .inl (cI, 720, .inl T_endsAt)), (a_T_keptBy, .inl (cI, 720, .inl T_keptBy)), (a_T_come, .inl (cI, 4320, .inl T_come))] [(0, .ref a_T), (1, .int x1)] [] from hE _ _ _ hP hD hS hl
  clear hP hD hS hl hD0 hAe
  intro H locs ls hP hD hS hl
  unfold fX9_most at hr
  refine lv_iload_n hx hb dX9_most_0 rfl (lv_at hl 1 rfl) ?_
  refine lv_iconst (v := 0) hx hb dX9_most_1 (by decide) ?_
  refine lv_iconst (v := 1) hx hb dX9_most_2 (by decide) ?_
  obtain ⟨r, hc1, hr⟩ := bd1_some hr
  refine call_i (D := (dC, dI)) (tys := tysA cC cI cJ) (wc := []) (wr := [(a_T, .inr (9, [.int T_guests, .ref a_T_kinds, .int T_wishes, .ref a_T_wishKind, .ref a_T_wishA, .ref a_T_wishB, .int T_begins, .ref a_T_st, .int T_acts, .ref a_T_was, .int T_keeps, .ref a_T_kept, .int T_wokes, .ref a_T_woke, .ref a_T_text, .int T_texted, .int T_at, .ref a_T_told, .int T_readGuests, .ref a_T_readKinds, .ref a_T_readFloors, .int T_readWishes, .ref a_T_readWishKind, .ref a_T_readWishA, .ref a_T_readWishB, .int T_readBegins, .int T_here, .int T_stands, .int T_many, .int T_rounds, .ref a_T_come, .ref a_T_keptBy, .ref a_T_endsAt, .ref a_T_order, .ref a_T_time, .ref a_T_place])), (a_T_st, .inl (cI, 8, .inl T_st)), (a_T_wishA, .inl (cI, 9, .inl T_wishA)), (a_T_wishKind, .inl (cI, 9, .inl T_wishKind)), (a_T_wishB, .inl (cI, 9, .inl T_wishB)), (a_T_order, .inl (cI, 6, .inl T_order)), (a_T_time, .inl (cI, 6, .inl T_time)), (a_T_place, .inl (cI, 6, .inl T_place)), (a_T_kinds, .inl (cI, 6, .inl T_kinds)), (a_T_endsAt, .inl (cI, 720, .inl T_endsAt)), (a_T_keptBy, .inl (cI, 720, .inl T_keptBy)), (a_T_come, .inl (cI, 4320, .inl T_come))]) (w1 := []) (wn := [(a_T, .inr (9, [.int T_guests, .ref a_T_kinds, .int T_wishes, .ref a_T_wishKind, .ref a_T_wishA, .ref a_T_wishB, .int T_begins, .ref a_T_st, .int T_acts, .ref a_T_was, .int T_keeps, .ref a_T_kept, .int T_wokes, .ref a_T_woke, .ref a_T_text, .int T_texted, .int T_at, .ref a_T_told, .int T_readGuests, .ref a_T_readKinds, .ref a_T_readFloors, .int T_readWishes, .ref a_T_readWishKind, .ref a_T_readWishA, .ref a_T_readWishB, .int T_readBegins, .int T_here, .int T_stands, .int T_many, .int T_rounds, .ref a_T_come, .ref a_T_keptBy, .ref a_T_endsAt, .ref a_T_order, .ref a_T_time, .ref a_T_place])), (a_T_st, .inl (cI, 8, .inl T_st)), (a_T_wishA, .inl (cI, 9, .inl T_wishA)), (a_T_wishKind, .inl (cI, 9, .inl T_wishKind)), (a_T_wishB, .inl (cI, 9, .inl T_wishB)), (a_T_order, .inl (cI, 6, .inl T_order)), (a_T_time, .inl (cI, 6, .inl T_time)), (a_T_place, .inl (cI, 6, .inl T_place)), (a_T_kinds, .inl (cI, 6, .inl T_kinds)), (a_T_endsAt, .inl (cI, 720, .inl T_endsAt)), (a_T_keptBy, .inl (cI, 720, .inl T_keptBy)), (a_T_come, .inl (cI, 4320, .inl T_come))]) (r0 := r) hP hD hS hA [] [0, 1, 2, 3, 4, 5, 6, 7, 8, 9, 10, 11] [0, 1, 2, 3, 4, 5, 6, 7, 8, 9, 10, 11] rfl rfl (by decide +kernel) (by decide +kernel) rfl (by decide +kernel) (va_runS (As := [.int x1, .int 0, .int 1]) (rest := []) ⟨hx, hb, hml, hown, hts⟩ (kX9_in l dC dI cC cI cJ H.size K x1 0 1 r hc1) (va_cwS 3 hts gX9_most_X9_in rfl rfl rfl (by decide +kernel) ⟨Nat.le_of_ble_eq_true rfl, Nat.le_of_ble_eq_true rfl⟩) ⟨fbW, preW hP hD hK hN [] rfl (by decide +kernel)⟩ rfl rfl hl.1 rfl (lv_room (Nat.le_of_ble_eq_true rfl)) dX9_most_3 ⟨Nat.zero_le _, Nat.zero_le _⟩) (fun H locs hP hD hS => ?_)
  refine lv_if_ne (tgt := 11) hx hb dX9_most_6 (by decide) (fun c1 => ?_) (fun c1 => ?_)
  · replace hr := it_f hr c1
    refine lv_aload_n hx hb dX9_most_11 rfl (lv_at hl 0 rfl) ?_
    refine lv_aload_n hx hb dX9_most_12 rfl (lv_at hl 0 rfl) ?_
    refine va_get (D := (dC, dI)) (ci := 9) (v := .ref a_T_st) (C := RX9) (T := TX9) (N := 36) hx hb hts inX9_most_X9 hown hK hP 0 rfl rfl 7 (by decide) (hts _ mbX9_most_0) (fun _ h9 => h9) rfl dX9_most_13 ?_
    refine lv_iconst (v := 0) hx hb dX9_most_16 (by decide) ?_
    obtain ⟨g1, hr⟩ := gd_some hr
    refine va_iald hx hb hK hP 1 1 rfl rfl g1 dX9_most_17 ?_
    obtain ⟨T_here_1, T_stands_1, T_many_1, T_rounds_1, T_order_1, T_time_1, T_place_1, T_endsAt_1, T_keptBy_1, T_come_1, hc2, hr⟩ := bd10_some hr
    refine call_v (D := (dC, dI)) (tys := tysA cC cI cJ) (wc := [(a_T, .inr (9, [.int T_guests, .ref a_T_kinds, .int T_wishes, .ref a_T_wishKind, .ref a_T_wishA, .ref a_T_wishB, .int T_begins, .ref a_T_st, .int T_acts, .ref a_T_was, .int T_keeps, .ref a_T_kept, .int T_wokes, .ref a_T_woke, .ref a_T_text, .int T_texted, .int T_at, .ref a_T_told, .int T_readGuests, .ref a_T_readKinds, .ref a_T_readFloors, .int T_readWishes, .ref a_T_readWishKind, .ref a_T_readWishA, .ref a_T_readWishB, .int T_readBegins, .int T_here, .int T_stands, .int T_many, .int T_rounds, .ref a_T_come, .ref a_T_keptBy, .ref a_T_endsAt, .ref a_T_order, .ref a_T_time, .ref a_T_place])), (a_T_st, .inl (cI, 8, .inl T_st)), (a_T_wishA, .inl (cI, 9, .inl T_wishA)), (a_T_wishKind, .inl (cI, 9, .inl T_wishKind)), (a_T_wishB, .inl (cI, 9, .inl T_wishB)), (a_T_order, .inl (cI, 6, .inl T_order)), (a_T_time, .inl (cI, 6, .inl T_time)), (a_T_place, .inl (cI, 6, .inl T_place)), (a_T_kinds, .inl (cI, 6, .inl T_kinds)), (a_T_endsAt, .inl (cI, 720, .inl T_endsAt)), (a_T_keptBy, .inl (cI, 720, .inl T_keptBy)), (a_T_come, .inl (cI, 4320, .inl T_come))]) (wr := []) (w1 := [(a_T, .inr (9, [.int T_guests, .ref a_T_kinds, .int T_wishes, .ref a_T_wishKind, .ref a_T_wishA, .ref a_T_wishB, .int T_begins, .ref a_T_st, .int T_acts, .ref a_T_was, .int T_keeps, .ref a_T_kept, .int T_wokes, .ref a_T_woke, .ref a_T_text, .int T_texted, .int T_at, .ref a_T_told, .int T_readGuests, .ref a_T_readKinds, .ref a_T_readFloors, .int T_readWishes, .ref a_T_readWishKind, .ref a_T_readWishA, .ref a_T_readWishB, .int T_readBegins, .int T_here_1, .int T_stands_1, .int T_many_1, .int T_rounds_1, .ref a_T_come, .ref a_T_keptBy, .ref a_T_endsAt, .ref a_T_order, .ref a_T_time, .ref a_T_place])), (a_T_st, .inl (cI, 8, .inl T_st)), (a_T_wishA, .inl (cI, 9, .inl T_wishA)), (a_T_wishKind, .inl (cI, 9, .inl T_wishKind)), (a_T_wishB, .inl (cI, 9, .inl T_wishB)), (a_T_order, .inl (cI, 6, .inl T_order_1)), (a_T_time, .inl (cI, 6, .inl T_time_1)), (a_T_place, .inl (cI, 6, .inl T_place_1)), (a_T_kinds, .inl (cI, 6, .inl T_kinds)), (a_T_endsAt, .inl (cI, 720, .inl T_endsAt_1)), (a_T_keptBy, .inl (cI, 720, .inl T_keptBy_1)), (a_T_come, .inl (cI, 4320, .inl T_come_1))]) (wn := [(a_T, .inr (9, [.int T_guests, .ref a_T_kinds, .int T_wishes, .ref a_T_wishKind, .ref a_T_wishA, .ref a_T_wishB, .int T_begins, .ref a_T_st, .int T_acts, .ref a_T_was, .int T_keeps, .ref a_T_kept, .int T_wokes, .ref a_T_woke, .ref a_T_text, .int T_texted, .int T_at, .ref a_T_told, .int T_readGuests, .ref a_T_readKinds, .ref a_T_readFloors, .int T_readWishes, .ref a_T_readWishKind, .ref a_T_readWishA, .ref a_T_readWishB, .int T_readBegins, .int T_here_1, .int T_stands_1, .int T_many_1, .int T_rounds_1, .ref a_T_come, .ref a_T_keptBy, .ref a_T_endsAt, .ref a_T_order, .ref a_T_time, .ref a_T_place])), (a_T_st, .inl (cI, 8, .inl T_st)), (a_T_wishA, .inl (cI, 9, .inl T_wishA)), (a_T_wishKind, .inl (cI, 9, .inl T_wishKind)), (a_T_wishB, .inl (cI, 9, .inl T_wishB)), (a_T_order, .inl (cI, 6, .inl T_order_1)), (a_T_time, .inl (cI, 6, .inl T_time_1)), (a_T_place, .inl (cI, 6, .inl T_place_1)), (a_T_kinds, .inl (cI, 6, .inl T_kinds)), (a_T_endsAt, .inl (cI, 720, .inl T_endsAt_1)), (a_T_keptBy, .inl (cI, 720, .inl T_keptBy_1)), (a_T_come, .inl (cI, 4320, .inl T_come_1))]) hP hD hS hA [0, 1, 2, 3, 4, 5, 6, 7, 8, 9, 10, 11] [] [0, 1, 2, 3, 4, 5, 6, 7, 8, 9, 10, 11] rfl rfl (by decide +kernel) (by decide +kernel) rfl (by decide +kernel) (va_runV (As := [.int (T_st (0 : Int32).toNatClampNeg)]) (rest := []) ⟨hx, hb, hml, hown, hts⟩ (kX9_findRounds l dC dI cC cI cJ H.size K a_T a_T_kinds a_T_wishKind a_T_wishA a_T_wishB a_T_st a_T_was a_T_kept a_T_woke a_T_text a_T_told a_T_readKinds a_T_readFloors a_T_readWishKind a_T_readWishA a_T_readWishB a_T_come a_T_keptBy a_T_endsAt a_T_order a_T_time a_T_place (T_st (0 : Int32).toNatClampNeg) T_guests T_wishes T_begins T_acts T_keeps T_wokes T_texted T_at T_readGuests T_readWishes T_readBegins T_here T_stands T_many T_rounds T_st T_wishA T_wishKind T_wishB T_order T_time T_place T_kinds T_endsAt T_keptBy T_come (T_here_1, T_stands_1, T_many_1, T_rounds_1, T_order_1, T_time_1, T_place_1, T_endsAt_1, T_keptBy_1, T_come_1) hc2) (cwV 1 hts gX9_most_X9_findRounds rfl rfl rfl (by decide +kernel) ⟨Nat.le_of_ble_eq_true rfl, Nat.le_of_ble_eq_true rfl⟩) ⟨fbW, va_recv hK hP (ci := 9) (q0 := 0) rfl rfl, preW hP hD hK hN [0, 1, 2, 3, 4, 5, 6, 7, 8, 9, 10, 11] rfl (by decide +kernel)⟩ rfl rfl hl.1 rfl (lv_room (Nat.le_of_ble_eq_true rfl)) dX9_most_18 ⟨Nat.zero_le _, Nat.zero_le _⟩) (fun H locs hP hD hS => ?_)
    refine lv_iconst (v := (-1)) hx hb dX9_most_21 (by decide) ?_
    refine lv_istore_n (lv' := [(2, .int (-1)), (0, .ref a_T), (1, .int x1)]) hx hb dX9_most_22 rfl hl (by decide) rfl (fun ls hl => ?_)
    refine lv_iconst (v := 0) hx hb dX9_most_23 (by decide) ?_
    refine lv_istore_n (lv' := [(3, .int 0), (2, .int (-1)), (0, .ref a_T), (1, .int x1)]) hx hb dX9_most_24 rfl hl (by decide) rfl (fun ls hl => ?_)
    refine lv_iconst (v := 0) hx hb dX9_most_25 (by decide) ?_
    refine lv_istore (lv' := [(4, .int 0), (3, .int 0), (2, .int (-1)), (0, .ref a_T), (1, .int x1)]) hx hb dX9_most_26 hl (by decide) rfl (fun ls hl => ?_)
    have hL1 : ∀ (n1 : Nat) (x2 : Int32) (x3 : Int32) (x4 : Int32) (x2_1 : Int32) (x3_1 : Int32), fX9_most_L28 K T_rounds_1 T_keptBy_1 n1 x2 x3 x4 = some (x2_1, x3_1) → WG p l e rmX9_most s m ([.ref a_T, .int x1] : List Value).toArray below meth c 0 0 Q (dC, dI) A 114 7 [(a_T, .inr (9, [.int T_guests, .ref a_T_kinds, .int T_wishes, .ref a_T_wishKind, .ref a_T_wishA, .ref a_T_wishB, .int T_begins, .ref a_T_st, .int T_acts, .ref a_T_was, .int T_keeps, .ref a_T_kept, .int T_wokes, .ref a_T_woke, .ref a_T_text, .int T_texted, .int T_at, .ref a_T_told, .int T_readGuests, .ref a_T_readKinds, .ref a_T_readFloors, .int T_readWishes, .ref a_T_readWishKind, .ref a_T_readWishA, .ref a_T_readWishB, .int T_readBegins, .int T_here_1, .int T_stands_1, .int T_many_1, .int T_rounds_1, .ref a_T_come, .ref a_T_keptBy, .ref a_T_endsAt, .ref a_T_order, .ref a_T_time, .ref a_T_place])), (a_T_st, .inl (cI, 8, .inl T_st)), (a_T_wishA, .inl (cI, 9, .inl T_wishA)), (a_T_wishKind, .inl (cI, 9, .inl T_wishKind)), (a_T_wishB, .inl (cI, 9, .inl T_wishB)), (a_T_order, .inl (cI, 6, .inl T_order_1)), (a_T_time, .inl (cI, 6, .inl T_time_1)), (a_T_place, .inl (cI, 6, .inl T_place_1)), (a_T_kinds, .inl (cI, 6, .inl T_kinds)), (a_T_endsAt, .inl (cI, 720, .inl T_endsAt_1)), (a_T_keptBy, .inl (cI, 720, .inl T_keptBy_1)), (a_T_come, .inl (cI, 4320, .inl T_come_1))] [(1, .int x1), (2, .int x2_1), (3, .int x3_1)] [] → WG p l e rmX9_most s m ([.ref a_T, .int x1] : List Value).toArray below meth c 0 0 Q (dC, dI) A 28 7 [(a_T, .inr (9, [.int T_guests, .ref a_T_kinds, .int T_wishes, .ref a_T_wishKind, .ref a_T_wishA, .ref a_T_wishB, .int T_begins, .ref a_T_st, .int T_acts, .ref a_T_was, .int T_keeps, .ref a_T_kept, .int T_wokes, .ref a_T_woke, .ref a_T_text, .int T_texted, .int T_at, .ref a_T_told, .int T_readGuests, .ref a_T_readKinds, .ref a_T_readFloors, .int T_readWishes, .ref a_T_readWishKind, .ref a_T_readWishA, .ref a_T_readWishB, .int T_readBegins, .int T_here_1, .int T_stands_1, .int T_many_1, .int T_rounds_1, .ref a_T_come, .ref a_T_keptBy, .ref a_T_endsAt, .ref a_T_order, .ref a_T_time, .ref a_T_place])), (a_T_st, .inl (cI, 8, .inl T_st)), (a_T_wishA, .inl (cI, 9, .inl T_wishA)), (a_T_wishKind, .inl (cI, 9, .inl T_wishKind)), (a_T_wishB, .inl (cI, 9, .inl T_wishB)), (a_T_order, .inl (cI, 6, .inl T_order_1)), (a_T_time, .inl (cI, 6, .inl T_time_1)), (a_T_place, .inl (cI, 6, .inl T_place_1)), (a_T_kinds, .inl (cI, 6, .inl T_kinds)), (a_T_endsAt, .inl (cI, 720, .inl T_endsAt_1)), (a_T_keptBy, .inl (cI, 720, .inl T_keptBy_1)), (a_T_come, .inl (cI, 4320, .inl T_come_1))] [(0, .ref a_T), (1, .int x1), (2, .int x2), (3, .int x3), (4, .int x4)] [] := by
      intro n1
      induction n1 with
      | zero =>
        intro x2 x3 x4 x2_1 x3_1 hr
        rw [fX9_most_L28] at hr
        cases hr
      | succ n1 ih28 =>
        intro x2 x3 x4 x2_1 x3_1 hr hX1 H locs ls hP hD hS hl
        rw [fX9_most_L28] at hr
        refine lv_iload hx hb dX9_most_28 (lv_at hl 4 rfl) ?_
        refine lv_aload_n hx hb dX9_most_30 rfl (lv_at hl 0 rfl) ?_
        refine va_get (D := (dC, dI)) (ci := 9) (v := .int T_rounds_1) (C := RX9) (T := TX9) (N := 36) hx hb hts inX9_most_X9 hown hK hP 0 rfl rfl 29 (by decide) (hts _ mbX9_most_2) (fun _ h9 => h9) rfl dX9_most_31 ?_
        refine lv_icmp_ge (tgt := 114) hx hb dX9_most_34 (by decide) (fun c2 => ?_) (fun c2 => ?_)
        · replace hr := it_t hr c2
          have he := Option.some.inj hr
          cases he
          exact hX1 H locs ls hP hD hS (lv_sub hl [1, 2, 3] rfl)
        · replace hr := it_f hr c2
          refine lv_aload_n hx hb dX9_most_37 rfl (lv_at hl 0 rfl) ?_
          refine va_get (D := (dC, dI)) (ci := 9) (v := .ref a_T_keptBy) (C := RX9) (T := TX9) (N := 36) hx hb hts inX9_most_X9 hown hK hP 0 rfl rfl 31 (by decide) (hts _ mbX9_most_3) (fun _ h9 => h9) rfl dX9_most_38 ?_
          refine lv_iload hx hb dX9_most_41 (lv_at hl 4 rfl) ?_
          obtain ⟨g2, hr⟩ := gd_some hr
          refine va_iald hx hb hK hP 10 1 rfl rfl g2 dX9_most_43 ?_
          obtain ⟨r_1, hc3, hr⟩ := bd1_some hr
          refine call_i (D := (dC, dI)) (tys := tysA cC cI cJ) (wc := []) (wr := [(a_T, .inr (9, [.int T_guests, .ref a_T_kinds, .int T_wishes, .ref a_T_wishKind, .ref a_T_wishA, .ref a_T_wishB, .int T_begins, .ref a_T_st, .int T_acts, .ref a_T_was, .int T_keeps, .ref a_T_kept, .int T_wokes, .ref a_T_woke, .ref a_T_text, .int T_texted, .int T_at, .ref a_T_told, .int T_readGuests, .ref a_T_readKinds, .ref a_T_readFloors, .int T_readWishes, .ref a_T_readWishKind, .ref a_T_readWishA, .ref a_T_readWishB, .int T_readBegins, .int T_here_1, .int T_stands_1, .int T_many_1, .int T_rounds_1, .ref a_T_come, .ref a_T_keptBy, .ref a_T_endsAt, .ref a_T_order, .ref a_T_time, .ref a_T_place])), (a_T_st, .inl (cI, 8, .inl T_st)), (a_T_wishA, .inl (cI, 9, .inl T_wishA)), (a_T_wishKind, .inl (cI, 9, .inl T_wishKind)), (a_T_wishB, .inl (cI, 9, .inl T_wishB)), (a_T_order, .inl (cI, 6, .inl T_order_1)), (a_T_time, .inl (cI, 6, .inl T_time_1)), (a_T_place, .inl (cI, 6, .inl T_place_1)), (a_T_kinds, .inl (cI, 6, .inl T_kinds)), (a_T_endsAt, .inl (cI, 720, .inl T_endsAt_1)), (a_T_keptBy, .inl (cI, 720, .inl T_keptBy_1)), (a_T_come, .inl (cI, 4320, .inl T_come_1))]) (w1 := []) (wn := [(a_T, .inr (9, [.int T_guests, .ref a_T_kinds, .int T_wishes, .ref a_T_wishKind, .ref a_T_wishA, .ref a_T_wishB, .int T_begins, .ref a_T_st, .int T_acts, .ref a_T_was, .int T_keeps, .ref a_T_kept, .int T_wokes, .ref a_T_woke, .ref a_T_text, .int T_texted, .int T_at, .ref a_T_told, .int T_readGuests, .ref a_T_readKinds, .ref a_T_readFloors, .int T_readWishes, .ref a_T_readWishKind, .ref a_T_readWishA, .ref a_T_readWishB, .int T_readBegins, .int T_here_1, .int T_stands_1, .int T_many_1, .int T_rounds_1, .ref a_T_come, .ref a_T_keptBy, .ref a_T_endsAt, .ref a_T_order, .ref a_T_time, .ref a_T_place])), (a_T_st, .inl (cI, 8, .inl T_st)), (a_T_wishA, .inl (cI, 9, .inl T_wishA)), (a_T_wishKind, .inl (cI, 9, .inl T_wishKind)), (a_T_wishB, .inl (cI, 9, .inl T_wishB)), (a_T_order, .inl (cI, 6, .inl T_order_1)), (a_T_time, .inl (cI, 6, .inl T_time_1)), (a_T_place, .inl (cI, 6, .inl T_place_1)), (a_T_kinds, .inl (cI, 6, .inl T_kinds)), (a_T_endsAt, .inl (cI, 720, .inl T_endsAt_1)), (a_T_keptBy, .inl (cI, 720, .inl T_keptBy_1)), (a_T_come, .inl (cI, 4320, .inl T_come_1))]) (r0 := r_1) hP hD hS hA [] [0, 1, 2, 3, 4, 5, 6, 7, 8, 9, 10, 11] [0, 1, 2, 3, 4, 5, 6, 7, 8, 9, 10, 11] rfl rfl (by decide +kernel) (by decide +kernel) rfl (by decide +kernel) (va_runS (As := [.int (T_keptBy_1 x4.toNatClampNeg)]) (rest := []) ⟨hx, hb, hml, hown, hts⟩ (kX9_bits l dC dI cC cI cJ H.size K (T_keptBy_1 x4.toNatClampNeg) r_1 hc3) (va_cwS 1 hts gX9_most_X9_bits rfl rfl rfl (by decide +kernel) ⟨Nat.le_of_ble_eq_true rfl, Nat.le_of_ble_eq_true rfl⟩) ⟨fbW, preW hP hD hK hN [] rfl (by decide +kernel)⟩ rfl rfl hl.1 rfl (lv_room (Nat.le_of_ble_eq_true rfl)) dX9_most_44 ⟨Nat.zero_le _, Nat.zero_le _⟩) (fun H locs hP hD hS => ?_)
          refine lv_istore (lv' := [(5, .int r_1), (0, .ref a_T), (1, .int x1), (2, .int x2), (3, .int x3), (4, .int x4)]) hx hb dX9_most_47 hl (by decide) rfl (fun ls hl => ?_)
          refine lv_iload hx hb dX9_most_49 (lv_at hl 0 rfl) ?_
          refine lv_iload_n hx hb dX9_most_51 rfl (lv_at hl 3 rfl) ?_
          obtain ⟨y, hj3, hr⟩ := bd1_some hr
          have hJ1 : WG p l e rmX9_most s m ([.ref a_T, .int x1] : List Value).toArray below meth c 0 0 Q (dC, dI) A 77 7 [(a_T, .inr (9, [.int T_guests, .ref a_T_kinds, .int T_wishes, .ref a_T_wishKind, .ref a_T_wishA, .ref a_T_wishB, .int T_begins, .ref a_T_st, .int T_acts, .ref a_T_was, .int T_keeps, .ref a_T_kept, .int T_wokes, .ref a_T_woke, .ref a_T_text, .int T_texted, .int T_at, .ref a_T_told, .int T_readGuests, .ref a_T_readKinds, .ref a_T_readFloors, .int T_readWishes, .ref a_T_readWishKind, .ref a_T_readWishA, .ref a_T_readWishB, .int T_readBegins, .int T_here_1, .int T_stands_1, .int T_many_1, .int T_rounds_1, .ref a_T_come, .ref a_T_keptBy, .ref a_T_endsAt, .ref a_T_order, .ref a_T_time, .ref a_T_place])), (a_T_st, .inl (cI, 8, .inl T_st)), (a_T_wishA, .inl (cI, 9, .inl T_wishA)), (a_T_wishKind, .inl (cI, 9, .inl T_wishKind)), (a_T_wishB, .inl (cI, 9, .inl T_wishB)), (a_T_order, .inl (cI, 6, .inl T_order_1)), (a_T_time, .inl (cI, 6, .inl T_time_1)), (a_T_place, .inl (cI, 6, .inl T_place_1)), (a_T_kinds, .inl (cI, 6, .inl T_kinds)), (a_T_endsAt, .inl (cI, 720, .inl T_endsAt_1)), (a_T_keptBy, .inl (cI, 720, .inl T_keptBy_1)), (a_T_come, .inl (cI, 4320, .inl T_come_1))] [(0, .ref a_T), (1, .int x1), (2, .int x2), (3, .int x3), (4, .int x4), (5, .int r_1)] [.int y] := by
            intro H locs ls hP hD hS hl
            refine lv_istore (lv' := [(6, .int y), (0, .ref a_T), (1, .int x1), (2, .int x2), (3, .int x3), (4, .int x4), (5, .int r_1)]) hx hb dX9_most_77 hl (by decide) rfl (fun ls hl => ?_)
            refine lv_iload hx hb dX9_most_79 (lv_at hl 0 rfl) ?_
            obtain ⟨y_1, hj2, hr⟩ := bd1_some hr
            have hJ3 : WG p l e rmX9_most s m ([.ref a_T, .int x1] : List Value).toArray below meth c 0 0 Q (dC, dI) A 90 7 [(a_T, .inr (9, [.int T_guests, .ref a_T_kinds, .int T_wishes, .ref a_T_wishKind, .ref a_T_wishA, .ref a_T_wishB, .int T_begins, .ref a_T_st, .int T_acts, .ref a_T_was, .int T_keeps, .ref a_T_kept, .int T_wokes, .ref a_T_woke, .ref a_T_text, .int T_texted, .int T_at, .ref a_T_told, .int T_readGuests, .ref a_T_readKinds, .ref a_T_readFloors, .int T_readWishes, .ref a_T_readWishKind, .ref a_T_readWishA, .ref a_T_readWishB, .int T_readBegins, .int T_here_1, .int T_stands_1, .int T_many_1, .int T_rounds_1, .ref a_T_come, .ref a_T_keptBy, .ref a_T_endsAt, .ref a_T_order, .ref a_T_time, .ref a_T_place])), (a_T_st, .inl (cI, 8, .inl T_st)), (a_T_wishA, .inl (cI, 9, .inl T_wishA)), (a_T_wishKind, .inl (cI, 9, .inl T_wishKind)), (a_T_wishB, .inl (cI, 9, .inl T_wishB)), (a_T_order, .inl (cI, 6, .inl T_order_1)), (a_T_time, .inl (cI, 6, .inl T_time_1)), (a_T_place, .inl (cI, 6, .inl T_place_1)), (a_T_kinds, .inl (cI, 6, .inl T_kinds)), (a_T_endsAt, .inl (cI, 720, .inl T_endsAt_1)), (a_T_keptBy, .inl (cI, 720, .inl T_keptBy_1)), (a_T_come, .inl (cI, 4320, .inl T_come_1))] [(0, .ref a_T), (1, .int x1), (3, .int x3), (4, .int x4), (6, .int y)] [.int y_1] := by
              intro H locs ls hP hD hS hl
              refine lv_istore_n (lv' := [(2, .int y_1), (0, .ref a_T), (1, .int x1), (3, .int x3), (4, .int x4), (6, .int y)]) hx hb dX9_most_90 rfl hl (by decide) rfl (fun ls hl => ?_)
              refine lv_iload hx hb dX9_most_91 (lv_at hl 5 rfl) ?_
              obtain ⟨y_2, hj1, hr⟩ := bd1_some hr
              have hJ4 : WG p l e rmX9_most s m ([.ref a_T, .int x1] : List Value).toArray below meth c 0 0 Q (dC, dI) A 107 7 [(a_T, .inr (9, [.int T_guests, .ref a_T_kinds, .int T_wishes, .ref a_T_wishKind, .ref a_T_wishA, .ref a_T_wishB, .int T_begins, .ref a_T_st, .int T_acts, .ref a_T_was, .int T_keeps, .ref a_T_kept, .int T_wokes, .ref a_T_woke, .ref a_T_text, .int T_texted, .int T_at, .ref a_T_told, .int T_readGuests, .ref a_T_readKinds, .ref a_T_readFloors, .int T_readWishes, .ref a_T_readWishKind, .ref a_T_readWishA, .ref a_T_readWishB, .int T_readBegins, .int T_here_1, .int T_stands_1, .int T_many_1, .int T_rounds_1, .ref a_T_come, .ref a_T_keptBy, .ref a_T_endsAt, .ref a_T_order, .ref a_T_time, .ref a_T_place])), (a_T_st, .inl (cI, 8, .inl T_st)), (a_T_wishA, .inl (cI, 9, .inl T_wishA)), (a_T_wishKind, .inl (cI, 9, .inl T_wishKind)), (a_T_wishB, .inl (cI, 9, .inl T_wishB)), (a_T_order, .inl (cI, 6, .inl T_order_1)), (a_T_time, .inl (cI, 6, .inl T_time_1)), (a_T_place, .inl (cI, 6, .inl T_place_1)), (a_T_kinds, .inl (cI, 6, .inl T_kinds)), (a_T_endsAt, .inl (cI, 720, .inl T_endsAt_1)), (a_T_keptBy, .inl (cI, 720, .inl T_keptBy_1)), (a_T_come, .inl (cI, 4320, .inl T_come_1))] [(0, .ref a_T), (1, .int x1), (2, .int y_1), (4, .int x4)] [.int y_2] := by
                intro H locs ls hP hD hS hl
                refine lv_istore_n (lv' := [(3, .int y_2), (0, .ref a_T), (1, .int x1), (2, .int y_1), (4, .int x4)]) hx hb dX9_most_107 rfl hl (by decide) rfl (fun ls hl => ?_)
                obtain ⟨x4_1, e1, hr⟩ := nm_el hr
                refine lv_iinc (v := x4_1) (lv' := [(4, .int x4_1), (3, .int y_2), (0, .ref a_T), (1, .int x1), (2, .int y_1)]) hx hb dX9_most_108 hl (k := 4) rfl e1.symm (by decide) rfl (fun ls hl => ?_)
                refine lv_goto (tgt := 28) hx hb dX9_most_111 (by decide) ?_
                exact ih28 _ _ _ _ _ hr hX1 H locs ls hP hD hS (lv_sub hl [2, 3, 4, 1, 0] rfl)
              replace hr := hj1
              refine lv_if_eq (tgt := 106) hx hb dX9_most_93 (by decide) (fun c7 => ?_) (fun c7 => ?_)
              · replace hr := it_t hr c7
                refine lv_iload_n hx hb dX9_most_106 rfl (lv_at hl 3 rfl) ?_
                cases hr
                exact hJ4 H locs ls hP hD hS (lv_sub hl [1, 2, 0, 4] rfl)
              · replace hr := it_f hr c7
                refine lv_aload_n hx hb dX9_most_96 rfl (lv_at hl 1 rfl) ?_
                refine va_get (D := (dC, dI)) (ci := 9) (v := .ref a_T_keptBy) (C := RX9) (T := TX9) (N := 36) hx hb hts inX9_most_X9 hown hK hP 0 rfl rfl 31 (by decide) (hts _ mbX9_most_3) (fun _ h9 => h9) rfl dX9_most_97 ?_
                refine lv_iload hx hb dX9_most_100 (lv_at hl 4 rfl) ?_
                obtain ⟨g4, hr⟩ := gd_some hr
                refine va_iald hx hb hK hP 10 1 rfl rfl g4 dX9_most_102 ?_
                refine lv_goto (tgt := 107) hx hb dX9_most_103 (by decide) ?_
                cases hr
                exact hJ4 H locs ls hP hD hS (lv_sub hl [1, 2, 0, 4] rfl)
            replace hr := hj2
            refine lv_if_eq (tgt := 89) hx hb dX9_most_81 (by decide) (fun c6 => ?_) (fun c6 => ?_)
            · replace hr := it_t hr c6
              refine lv_iload_n hx hb dX9_most_89 rfl (lv_at hl 3 rfl) ?_
              cases hr
              exact hJ3 H locs ls hP hD hS (lv_sub hl [1, 2, 4, 5, 0] rfl)
            · replace hr := it_f hr c6
              refine lv_iload hx hb dX9_most_84 (lv_at hl 6 rfl) ?_
              refine lv_goto (tgt := 90) hx hb dX9_most_86 (by decide) ?_
              cases hr
              exact hJ3 H locs ls hP hD hS (lv_sub hl [1, 2, 4, 5, 0] rfl)
          replace hr := hj3
          refine lv_icmp_gt (tgt := 72) hx hb dX9_most_52 (by decide) (fun c3 => ?_) (fun c3 => ?_)
          · replace hr := it_t hr c3
            refine lv_iconst (v := 1) hx hb dX9_most_72 (by decide) ?_
            refine lv_goto (tgt := 77) hx hb dX9_most_73 (by decide) ?_
            cases hr
            exact hJ1 H locs ls hP hD hS (lv_sub hl [1, 2, 3, 4, 5, 0] rfl)
          · replace hr := it_f hr c3
            refine lv_iload hx hb dX9_most_55 (lv_at hl 0 rfl) ?_
            refine lv_iload_n hx hb dX9_most_57 rfl (lv_at hl 3 rfl) ?_
            obtain ⟨X3, hj, hi3, hk⟩ := bs0_some hr
            have hJ2 : X3 = .inr () → WG p l e rmX9_most s m ([.ref a_T, .int x1] : List Value).toArray below meth c 0 0 Q (dC, dI) A 76 7 [(a_T, .inr (9, [.int T_guests, .ref a_T_kinds, .int T_wishes, .ref a_T_wishKind, .ref a_T_wishA, .ref a_T_wishB, .int T_begins, .ref a_T_st, .int T_acts, .ref a_T_was, .int T_keeps, .ref a_T_kept, .int T_wokes, .ref a_T_woke, .ref a_T_text, .int T_texted, .int T_at, .ref a_T_told, .int T_readGuests, .ref a_T_readKinds, .ref a_T_readFloors, .int T_readWishes, .ref a_T_readWishKind, .ref a_T_readWishA, .ref a_T_readWishB, .int T_readBegins, .int T_here_1, .int T_stands_1, .int T_many_1, .int T_rounds_1, .ref a_T_come, .ref a_T_keptBy, .ref a_T_endsAt, .ref a_T_order, .ref a_T_time, .ref a_T_place])), (a_T_st, .inl (cI, 8, .inl T_st)), (a_T_wishA, .inl (cI, 9, .inl T_wishA)), (a_T_wishKind, .inl (cI, 9, .inl T_wishKind)), (a_T_wishB, .inl (cI, 9, .inl T_wishB)), (a_T_order, .inl (cI, 6, .inl T_order_1)), (a_T_time, .inl (cI, 6, .inl T_time_1)), (a_T_place, .inl (cI, 6, .inl T_place_1)), (a_T_kinds, .inl (cI, 6, .inl T_kinds)), (a_T_endsAt, .inl (cI, 720, .inl T_endsAt_1)), (a_T_keptBy, .inl (cI, 720, .inl T_keptBy_1)), (a_T_come, .inl (cI, 4320, .inl T_come_1))] [(0, .ref a_T), (1, .int x1), (2, .int x2), (3, .int x3), (4, .int x4), (5, .int r_1)] [] := by
              intro he
              replace hr := hk he
              intro H locs ls hP hD hS hl
              refine lv_iconst (v := 0) hx hb dX9_most_76 (by decide) ?_
              cases hr
              exact hJ1 H locs ls hP hD hS (lv_sub hl [0, 1, 2, 3, 4, 5] rfl)
            replace hr := hj
            refine lv_icmp_ne (tgt := 76) hx hb dX9_most_58 (by decide) (fun c4 => ?_) (fun c4 => ?_)
            · replace hr := it_f hr c4
              exact hJ2 (Option.some.inj hr).symm H locs ls hP hD hS (lv_sub hl [1, 2, 3, 4, 5, 0] rfl)
            · replace hr := it_t hr c4
              refine lv_aload_n hx hb dX9_most_61 rfl (lv_at hl 1 rfl) ?_
              refine va_get (D := (dC, dI)) (ci := 9) (v := .ref a_T_keptBy) (C := RX9) (T := TX9) (N := 36) hx hb hts inX9_most_X9 hown hK hP 0 rfl rfl 31 (by decide) (hts _ mbX9_most_3) (fun _ h9 => h9) rfl dX9_most_62 ?_
              refine lv_iload hx hb dX9_most_65 (lv_at hl 5 rfl) ?_
              obtain ⟨g3, hr⟩ := gd_some hr
              refine va_iald hx hb hK hP 10 1 rfl rfl g3 dX9_most_67 ?_
              refine lv_iload_n hx hb dX9_most_68 rfl (lv_at hl 4 rfl) ?_
              refine lv_icmp_ge (tgt := 76) hx hb dX9_most_69 (by decide) (fun c5 => ?_) (fun c5 => ?_)
              · replace hr := it_t hr c5
                exact hJ2 (Option.some.inj hr).symm H locs ls hP hD hS (lv_sub hl [1, 2, 3, 4, 5, 0] rfl)
              · replace hr := it_f hr c5
                refine lv_iconst (v := 1) hx hb dX9_most_72 (by decide) ?_
                refine lv_goto (tgt := 77) hx hb dX9_most_73 (by decide) ?_
                have he := Option.some.inj hr
                replace he := hi3 _ he.symm
                cases he
                exact hJ1 H locs ls hP hD hS (lv_sub hl [1, 2, 3, 4, 5, 0] rfl)
    obtain ⟨x2_1, x3_1, hE, hr⟩ := bd2_some hr
    refine hL1 K (-1) 0 0 x2_1 x3_1 hE ?_ H locs ls hP hD hS (lv_sub hl [3, 4, 2, 1, 0] rfl)
    intro H locs ls hP hD hS hl
    refine lv_iload_n hx hb dX9_most_114 rfl (lv_at hl 0 rfl) ?_
    refine lv_if_ne (tgt := 122) hx hb dX9_most_115 (by decide) (fun c8 => ?_) (fun c8 => ?_)
    · replace hr := it_f hr c8
      refine lv_iload_n hx hb dX9_most_122 rfl (lv_at hl 2 rfl) ?_
      have he := Option.some.inj hr
      subst he
      subst hQ
      exact ret_i hx hb hrt hK hP hD hS hlocks dX9_most_123
    · replace hr := it_t hr c8
      refine lv_iload_n hx hb dX9_most_118 rfl (lv_at hl 1 rfl) ?_
      refine lv_goto (tgt := 123) hx hb dX9_most_119 (by decide) ?_
      have he := Option.some.inj hr
      subst he
      subst hQ
      exact ret_i hx hb hrt hK hP hD hS hlocks dX9_most_123
  · replace hr := it_t hr c1
    refine lv_iconst (v := (-1)) hx hb dX9_most_9 (by decide) ?_
    have he := Option.some.inj hr
    subst he
    subst hQ
    exact ret_i hx hb hrt hK hP hD hS hlocks dX9_most_10
def fX9_isKeptSet_L2 (K : Nat) (x1 : Int32) (T_rounds : Int32) (T_keptBy : (Nat → Int32)) : Nat → Int32 → Option ((Int32) ⊕ (Unit))
  | 0, _ => none
  | n1 + 1, x2 =>
    if T_rounds ≤ (x2 : Int32) then (
    some (.inr ()))
    else (
    gd (¬ ((x2 : Int32) < 0 ∨ 720 ≤ x2.toNatClampNeg)) (
    if (((T_keptBy x2.toNatClampNeg) &&& x1) : Int32) = x1 then (
    some (.inl 1))
    else (
    nm (x2 + 1) fun x2_1 =>
    fX9_isKeptSet_L2 K x1 T_rounds T_keptBy n1 x2_1)))
def fX9_isKeptSet (K : Nat) (x1 : Int32) (T_rounds : Int32) (T_keptBy : (Nat → Int32)) : Option (Int32) :=
    bs0 (fX9_isKeptSet_L2 K x1 T_rounds T_keptBy K 0) (
    some 0)
theorem mbX9_isKeptSet_0 : Cond.fieldLink RX9 197 "BootsAtDawnModel" "rounds" "I" ∈ wsX9_isKeptSet := List.mem_of_getElem? (i := 1) rfl
theorem inX9_isKeptSet_X9 : ∀ w ∈ u_ws RX9 TX9 36, w ∈ wsX9_isKeptSet := fun _ h => (List.mem_cons_of_mem _ (List.mem_append_right _ h))
theorem mbX9_isKeptSet_2 : Cond.fieldLink RX9 58 "BootsAtDawnModel" "keptBy" "[I" ∈ wsX9_isKeptSet := List.mem_of_getElem? (i := 2) rfl
abbrev rmX9_isKeptSet : Room := { frames := 0, cells := 0, slots := 0, locals := 0 }
set_option maxHeartbeats 8000000 in
set_option maxRecDepth 100000 in
theorem kX9_isKeptSet (l : Launch) (dC : Nat → ClassId) (dI : Nat → Nat → Nat) (cC cI cJ : ClassId) (sz : Nat) (K : Nat) (a_T a_T_kinds a_T_wishKind a_T_wishA a_T_wishB a_T_st a_T_was a_T_kept a_T_woke a_T_text a_T_told a_T_readKinds a_T_readFloors a_T_readWishKind a_T_readWishA a_T_readWishB a_T_come a_T_keptBy a_T_endsAt a_T_order a_T_time a_T_place : Nat) (x1 : Int32) (T_guests : Int32) (T_wishes : Int32) (T_begins : Int32) (T_acts : Int32) (T_keeps : Int32) (T_wokes : Int32) (T_texted : Int32) (T_at : Int32) (T_readGuests : Int32) (T_readWishes : Int32) (T_readBegins : Int32) (T_here : Int32) (T_stands : Int32) (T_many : Int32) (T_rounds : Int32) (T_keptBy : (Nat → Int32)) (R : Int32) (hr : fX9_isKeptSet K x1 T_rounds T_keptBy = some R) : Met l yX9_isKeptSet wsX9_isKeptSet rmX9_isKeptSet (va_Pc ([.ref a_T, .int x1] : List Value) (PcW (dC, dI) (tysA cC cI cJ) sz [(a_T, .inr (9, [.int T_guests, .ref a_T_kinds, .int T_wishes, .ref a_T_wishKind, .ref a_T_wishA, .ref a_T_wishB, .int T_begins, .ref a_T_st, .int T_acts, .ref a_T_was, .int T_keeps, .ref a_T_kept, .int T_wokes, .ref a_T_woke, .ref a_T_text, .int T_texted, .int T_at, .ref a_T_told, .int T_readGuests, .ref a_T_readKinds, .ref a_T_readFloors, .int T_readWishes, .ref a_T_readWishKind, .ref a_T_readWishA, .ref a_T_readWishB, .int T_readBegins, .int T_here, .int T_stands, .int T_many, .int T_rounds, .ref a_T_come, .ref a_T_keptBy, .ref a_T_endsAt, .ref a_T_order, .ref a_T_time, .ref a_T_place])), (a_T_keptBy, .inl (cI, 720, .inl T_keptBy))])) (va_Qi (fun r (_ : Unit) => r = R) (fun _ => BW (dC, dI) (tysA cC cI cJ) (va_A [(a_T, .inr (9, [.int T_guests, .ref a_T_kinds, .int T_wishes, .ref a_T_wishKind, .ref a_T_wishA, .ref a_T_wishB, .int T_begins, .ref a_T_st, .int T_acts, .ref a_T_was, .int T_keeps, .ref a_T_kept, .int T_wokes, .ref a_T_woke, .ref a_T_text, .int T_texted, .int T_at, .ref a_T_told, .int T_readGuests, .ref a_T_readKinds, .ref a_T_readFloors, .int T_readWishes, .ref a_T_readWishKind, .ref a_T_readWishA, .ref a_T_readWishB, .int T_readBegins, .int T_here, .int T_stands, .int T_many, .int T_rounds, .ref a_T_come, .ref a_T_keptBy, .ref a_T_endsAt, .ref a_T_order, .ref a_T_time, .ref a_T_place])), (a_T_keptBy, .inl (cI, 720, .inl T_keptBy))] sz) [(a_T, .inr (9, [.int T_guests, .ref a_T_kinds, .int T_wishes, .ref a_T_wishKind, .ref a_T_wishA, .ref a_T_wishB, .int T_begins, .ref a_T_st, .int T_acts, .ref a_T_was, .int T_keeps, .ref a_T_kept, .int T_wokes, .ref a_T_woke, .ref a_T_text, .int T_texted, .int T_at, .ref a_T_told, .int T_readGuests, .ref a_T_readKinds, .ref a_T_readFloors, .int T_readWishes, .ref a_T_readWishKind, .ref a_T_readWishA, .ref a_T_readWishB, .int T_readBegins, .int T_here, .int T_stands, .int T_many, .int T_rounds, .ref a_T_come, .ref a_T_keptBy, .ref a_T_endsAt, .ref a_T_order, .ref a_T_time, .ref a_T_place])), (a_T_keptBy, .inl (cI, 720, .inl T_keptBy))]) (va_A [(a_T, .inr (9, [.int T_guests, .ref a_T_kinds, .int T_wishes, .ref a_T_wishKind, .ref a_T_wishA, .ref a_T_wishB, .int T_begins, .ref a_T_st, .int T_acts, .ref a_T_was, .int T_keeps, .ref a_T_kept, .int T_wokes, .ref a_T_woke, .ref a_T_text, .int T_texted, .int T_at, .ref a_T_told, .int T_readGuests, .ref a_T_readKinds, .ref a_T_readFloors, .int T_readWishes, .ref a_T_readWishKind, .ref a_T_readWishA, .ref a_T_readWishB, .int T_readBegins, .int T_here, .int T_stands, .int T_many, .int T_rounds, .ref a_T_come, .ref a_T_keptBy, .ref a_T_endsAt, .ref a_T_order, .ref a_T_time, .ref a_T_place])), (a_T_keptBy, .inl (cI, 720, .inl T_keptBy))] sz)) 0 0 (va_A [(a_T, .inr (9, [.int T_guests, .ref a_T_kinds, .int T_wishes, .ref a_T_wishKind, .ref a_T_wishA, .ref a_T_wishB, .int T_begins, .ref a_T_st, .int T_acts, .ref a_T_was, .int T_keeps, .ref a_T_kept, .int T_wokes, .ref a_T_woke, .ref a_T_text, .int T_texted, .int T_at, .ref a_T_told, .int T_readGuests, .ref a_T_readKinds, .ref a_T_readFloors, .int T_readWishes, .ref a_T_readWishKind, .ref a_T_readWishA, .ref a_T_readWishB, .int T_readBegins, .int T_here, .int T_stands, .int T_many, .int T_rounds, .ref a_T_come, .ref a_T_keptBy, .ref a_T_endsAt, .ref a_T_order, .ref a_T_time, .ref a_T_place])), (a_T_keptBy, .inl (cI, 720, .inl T_keptBy))] sz) := by
  refine Met.ofW (cc := cX9_isKeptSet) (maxL := 3) (ret := (some .boolean)) (by decide) rfl ?_
  intro p e s m args below meth c s₁ B hml hv
  obtain ⟨rfl, hsz, hP, hK, hD0, hN⟩ := hv
  have hx := B.exec
  have hb := B.bytes
  have hrt := B.returns
  have hts := atoms_spec (ws := wsX9_isKeptSet) B.pre
  have hown : s.vm.findClass RX9 = some m.cls := findClass_of_methodNamed B.named
  have hlocks := B.notSynchronized
  subst hsz
  have hD := hD0.self (sz := s.heap.size)
  generalize hAe : va_A [(a_T, .inr (9, [.int T_guests, .ref a_T_kinds, .int T_wishes, .ref a_T_wishKind, .ref a_T_wishA, .ref a_T_wishB, .int T_begins, .ref a_T_st, .int T_acts, .ref a_T_was, .int T_keeps, .ref a_T_kept, .int T_wokes, .ref a_T_woke, .ref a_T_text, .int T_texted, .int T_at, .ref a_T_told, .int T_readGuests, .ref a_T_readKinds, .ref a_T_readFloors, .int T_readWishes, .ref a_T_readWishKind, .ref a_T_readWishA, .ref a_T_readWishB, .int T_readBegins, .int T_here, .int T_stands, .int T_many, .int T_rounds, .ref a_T_come, .ref a_T_keptBy, .ref a_T_endsAt, .ref a_T_order, .ref a_T_time, .ref a_T_place])), (a_T_keptBy, .inl (cI, 720, .inl T_keptBy))] s.heap.size = A at hD ⊢
  have hA : ∀ q : Nat, s.heap.size ≤ q → A q := fun q h => by rw [← hAe]; exact Or.inr h
  have hS : va_S A s.heap s.heap [] := va_S.rf
  have hl := lv_entry ([.ref a_T, .int x1] : List Value) (n := 3) (Nat.le_of_ble_eq_true rfl)
  rw [lg_entry_eq]
  generalize (lg_sl ([.ref a_T, .int x1] : List Value) ++ List.replicate (3 - (lg_sl ([.ref a_T, .int x1] : List Value)).length) Slot.unset).toArray = ls at hl ⊢
  replace hl : lv_has ls 3 [(0, .ref a_T), (1, .int x1)] := hl
  obtain ⟨Q, hQ⟩ : ∃ Q, Q = MQ below (va_Qi (fun r (_ : Unit) => r = R) (fun _ => BW (dC, dI) (tysA cC cI cJ) A [(a_T, .inr (9, [.int T_guests, .ref a_T_kinds, .int T_wishes, .ref a_T_wishKind, .ref a_T_wishA, .ref a_T_wishB, .int T_begins, .ref a_T_st, .int T_acts, .ref a_T_was, .int T_keeps, .ref a_T_kept, .int T_wokes, .ref a_T_woke, .ref a_T_text, .int T_texted, .int T_at, .ref a_T_told, .int T_readGuests, .ref a_T_readKinds, .ref a_T_readFloors, .int T_readWishes, .ref a_T_readWishKind, .ref a_T_readWishA, .ref a_T_readWishB, .int T_readBegins, .int T_here, .int T_stands, .int T_many, .int T_rounds, .ref a_T_come, .ref a_T_keptBy, .ref a_T_endsAt, .ref a_T_order, .ref a_T_time, .ref a_T_place])), (a_T_keptBy, .inl (cI, 720, .inl T_keptBy))]) A) ([.ref a_T, .int x1] : List Value).toArray s 0 0 A := ⟨_, rfl⟩
  rw [← hQ]
  suffices hE : WG p l e rmX9_isKeptSet s m ([.ref a_T, .int x1] : List Value).toArray below meth c 0 0 Q (dC, dI) A 0 3 [(a_T, .inr (9, [.int T_guests, .ref a_T_kinds, .int T_wishes, .ref a_T_wishKind, .ref a_T_wishA, .ref a_T_wishB, .int T_begins, .ref a_T_st, .int T_acts, .ref a_T_was, .int T_keeps, .ref a_T_kept, .int T_wokes, .ref a_T_woke, .ref a_T_text, .int T_texted, .int T_at, .ref a_T_told, .int T_readGuests, .ref a_T_readKinds, .ref a_T_readFloors, .int T_readWishes, .ref a_T_readWishKind, .ref a_T_readWishA, .ref a_T_readWishB, .int T_readBegins, .int T_here, .int T_stands, .int T_many, .int T_rounds, .ref a_T_come, .ref a_T_keptBy, .ref a_T_endsAt, .ref a_T_order, .ref a_T_time, .ref a_T_place])), (a_T_keptBy, .inl (cI, 720, .inl T_keptBy))] [(0, .ref a_T), (1, .int x1)] [] from hE _ _ _ hP hD hS hl
  clear hP hD hS hl hD0 hAe
  intro H locs ls hP hD hS hl
  unfold fX9_isKeptSet at hr
  refine lv_iconst (v := 0) hx hb dX9_isKeptSet_0 (by decide) ?_
  refine lv_istore_n (lv' := [(2, .int 0), (0, .ref a_T), (1, .int x1)]) hx hb dX9_isKeptSet_1 rfl hl (by decide) rfl (fun ls hl => ?_)
  have hL1 : ∀ (n1 : Nat) (x2 : Int32) (X1 : (Int32) ⊕ (Unit)), fX9_isKeptSet_L2 K x1 T_rounds T_keptBy n1 x2 = some X1 → (∀ t, X1 = .inl t → t = R) → (X1 = .inr () → WG p l e rmX9_isKeptSet s m ([.ref a_T, .int x1] : List Value).toArray below meth c 0 0 Q (dC, dI) A 30 3 [(a_T, .inr (9, [.int T_guests, .ref a_T_kinds, .int T_wishes, .ref a_T_wishKind, .ref a_T_wishA, .ref a_T_wishB, .int T_begins, .ref a_T_st, .int T_acts, .ref a_T_was, .int T_keeps, .ref a_T_kept, .int T_wokes, .ref a_T_woke, .ref a_T_text, .int T_texted, .int T_at, .ref a_T_told, .int T_readGuests, .ref a_T_readKinds, .ref a_T_readFloors, .int T_readWishes, .ref a_T_readWishKind, .ref a_T_readWishA, .ref a_T_readWishB, .int T_readBegins, .int T_here, .int T_stands, .int T_many, .int T_rounds, .ref a_T_come, .ref a_T_keptBy, .ref a_T_endsAt, .ref a_T_order, .ref a_T_time, .ref a_T_place])), (a_T_keptBy, .inl (cI, 720, .inl T_keptBy))] [] []) → WG p l e rmX9_isKeptSet s m ([.ref a_T, .int x1] : List Value).toArray below meth c 0 0 Q (dC, dI) A 2 3 [(a_T, .inr (9, [.int T_guests, .ref a_T_kinds, .int T_wishes, .ref a_T_wishKind, .ref a_T_wishA, .ref a_T_wishB, .int T_begins, .ref a_T_st, .int T_acts, .ref a_T_was, .int T_keeps, .ref a_T_kept, .int T_wokes, .ref a_T_woke, .ref a_T_text, .int T_texted, .int T_at, .ref a_T_told, .int T_readGuests, .ref a_T_readKinds, .ref a_T_readFloors, .int T_readWishes, .ref a_T_readWishKind, .ref a_T_readWishA, .ref a_T_readWishB, .int T_readBegins, .int T_here, .int T_stands, .int T_many, .int T_rounds, .ref a_T_come, .ref a_T_keptBy, .ref a_T_endsAt, .ref a_T_order, .ref a_T_time, .ref a_T_place])), (a_T_keptBy, .inl (cI, 720, .inl T_keptBy))] [(0, .ref a_T), (1, .int x1), (2, .int x2)] [] := by
    intro n1
    induction n1 with
    | zero =>
      intro x2 X1 hr
      rw [fX9_isKeptSet_L2] at hr
      cases hr
    | succ n1 ih2 =>
      intro x2 X1 hr hi1 hX1 H locs ls hP hD hS hl
      rw [fX9_isKeptSet_L2] at hr
      refine lv_iload_n hx hb dX9_isKeptSet_2 rfl (lv_at hl 2 rfl) ?_
      refine lv_aload_n hx hb dX9_isKeptSet_3 rfl (lv_at hl 0 rfl) ?_
      refine va_get (D := (dC, dI)) (ci := 9) (v := .int T_rounds) (C := RX9) (T := TX9) (N := 36) hx hb hts inX9_isKeptSet_X9 hown hK hP 0 rfl rfl 29 (by decide) (hts _ mbX9_isKeptSet_0) (fun _ h9 => h9) rfl dX9_isKeptSet_4 ?_
      refine lv_icmp_ge (tgt := 30) hx hb dX9_isKeptSet_7 (by decide) (fun c1 => ?_) (fun c1 => ?_)
      · replace hr := it_t hr c1
        have he := Option.some.inj hr
        exact hX1 he.symm H locs ls hP hD hS (lv_sub hl [] rfl)
      · replace hr := it_f hr c1
        refine lv_aload_n hx hb dX9_isKeptSet_10 rfl (lv_at hl 0 rfl) ?_
        refine va_get (D := (dC, dI)) (ci := 9) (v := .ref a_T_keptBy) (C := RX9) (T := TX9) (N := 36) hx hb hts inX9_isKeptSet_X9 hown hK hP 0 rfl rfl 31 (by decide) (hts _ mbX9_isKeptSet_2) (fun _ h9 => h9) rfl dX9_isKeptSet_11 ?_
        refine lv_iload_n hx hb dX9_isKeptSet_14 rfl (lv_at hl 2 rfl) ?_
        obtain ⟨g1, hr⟩ := gd_some hr
        refine va_iald hx hb hK hP 1 1 rfl rfl g1 dX9_isKeptSet_15 ?_
        refine lv_iload_n hx hb dX9_isKeptSet_16 rfl (lv_at hl 1 rfl) ?_
        refine lv_iand hx hb dX9_isKeptSet_17 ?_
        refine lv_iload_n hx hb dX9_isKeptSet_18 rfl (lv_at hl 1 rfl) ?_
        refine lv_icmp_ne (tgt := 24) hx hb dX9_isKeptSet_19 (by decide) (fun c2 => ?_) (fun c2 => ?_)
        · replace hr := it_f hr c2
          obtain ⟨x2_1, e1, hr⟩ := nm_el hr
          refine lv_iinc (v := x2_1) (lv' := [(2, .int x2_1), (0, .ref a_T), (1, .int x1)]) hx hb dX9_isKeptSet_24 hl (k := 2) rfl e1.symm (by decide) rfl (fun ls hl => ?_)
          refine lv_goto (tgt := 2) hx hb dX9_isKeptSet_27 (by decide) ?_
          exact ih2 _ _ hr hi1 hX1 H locs ls hP hD hS (lv_sub hl [1, 2, 0] rfl)
        · replace hr := it_t hr c2
          refine lv_iconst (v := 1) hx hb dX9_isKeptSet_22 (by decide) ?_
          have he := Option.some.inj hr
          replace he := hi1 _ he.symm
          subst he
          subst hQ
          exact ret_z hx hb hrt (show narrow .boolean (.int 1) = .int 1 from rfl) hK hP hD hS hlocks dX9_isKeptSet_23
  obtain ⟨XE, hE, hi0, hk⟩ := bs0_some hr
  refine hL1 K 0 XE hE hi0 ?_ H locs ls hP hD hS (lv_sub hl [1, 2, 0] rfl)
  intro he H locs ls hP hD hS hl
  replace hr := hk he
  refine lv_iconst (v := 0) hx hb dX9_isKeptSet_30 (by decide) ?_
  have he := Option.some.inj hr
  subst he
  subst hQ
  exact ret_z hx hb hrt (show narrow .boolean (.int 0) = .int 0 from rfl) hK hP hD hS hlocks dX9_isKeptSet_31
def fX9_core_L15 (K : Nat) (T_wishes : Int32) (T_stands_1 : Int32) (T_rounds_1 : Int32) (T_keptBy_1 : (Nat → Int32)) : Nat → Int32 → Int32 → Option (Int32)
  | 0, _, _ => none
  | n1 + 1, x1, x2 =>
    if (1 <<< (T_wishes &&& 31)) ≤ (x2 : Int32) then (
    some x1)
    else (
    bd1 (τ0 := Int32) (
    if ((x2 &&& (T_stands_1 ^^^ (-1))) : Int32) = 0 then (
    bs0 (
    if (x1 : Int32) < 0 then (
    some (.inr ()))
    else (
    bd1 (fX9_bits K x2) fun r =>
    bd1 (fX9_bits K x1) fun r_1 =>
    if r_1 ≤ (r : Int32) then (
    some (.inl 0))
    else (
    some (.inr ())))) (
    some 1))
    else (
    some 0)) fun y =>
    bd1 (τ0 := Int32) (
    if (y : Int32) = 0 then (
    some x1)
    else (
    bd1 (fX9_isKeptSet K x2 T_rounds_1 T_keptBy_1) fun r_2 =>
    bd1 (τ0 := Int32) (
    if (r_2 : Int32) = 0 then (
    some x2)
    else (
    some x1)) fun y_1 =>
    some y_1)) fun x1_2 =>
    nm (x2 + 1) fun x2_1 =>
    fX9_core_L15 K T_wishes T_stands_1 T_rounds_1 T_keptBy_1 n1 x1_2 x2_1)
def fX9_core (K : Nat) (T_guests : Int32) (T_wishes : Int32) (T_begins : Int32) (T_here : Int32) (T_stands : Int32) (T_many : Int32) (T_rounds : Int32) (T_st : (Nat → Int32)) (T_wishA : (Nat → Int32)) (T_wishKind : (Nat → Int32)) (T_wishB : (Nat → Int32)) (T_order : (Nat → Int32)) (T_time : (Nat → Int32)) (T_place : (Nat → Int32)) (T_kinds : (Nat → Int32)) (T_endsAt : (Nat → Int32)) (T_keptBy : (Nat → Int32)) (T_come : (Nat → Int32)) : Option (Int32 × Int32 × Int32 × Int32 × Int32 × (Nat → Int32) × (Nat → Int32) × (Nat → Int32) × (Nat → Int32) × (Nat → Int32) × (Nat → Int32)) :=
    gd (¬ ((0 : Int32) < 0 ∨ 8 ≤ (0 : Int32).toNatClampNeg)) (
    bd10 (fX9_findRounds K (T_st (0 : Int32).toNatClampNeg) T_guests T_wishes T_begins T_here T_stands T_many T_rounds T_st T_wishA T_wishKind T_wishB T_order T_time T_place T_kinds T_endsAt T_keptBy T_come) fun T_here_1 T_stands_1 T_many_1 T_rounds_1 T_order_1 T_time_1 T_place_1 T_endsAt_1 T_keptBy_1 T_come_1 =>
    bd1 (fX9_core_L15 K T_wishes T_stands_1 T_rounds_1 T_keptBy_1 K (-4) 0) fun x1_1 =>
    some (x1_1, T_here_1, T_stands_1, T_many_1, T_rounds_1, T_order_1, T_time_1, T_place_1, T_endsAt_1, T_keptBy_1, T_come_1))
theorem mbX9_core_0 : Cond.fieldLink RX9 22 "BootsAtDawnModel" "st" "[I" ∈ wsX9_core := List.mem_of_getElem? (i := 1) rfl
theorem inX9_core_X9 : ∀ w ∈ u_ws RX9 TX9 36, w ∈ wsX9_core := fun _ h => (List.mem_cons_of_mem _ (List.mem_append_right _ h))
theorem mbX9_core_2 : Cond.fieldLink RX9 145 "BootsAtDawnModel" "wishes" "I" ∈ wsX9_core := List.mem_of_getElem? (i := 2) rfl
theorem mbX9_core_3 : Cond.fieldLink RX9 188 "BootsAtDawnModel" "stands" "I" ∈ wsX9_core := List.mem_of_getElem? (i := 3) rfl
abbrev rmX9_core : Room := { frames := 4, cells := 0, slots := 0, locals := 94 }
set_option maxHeartbeats 8000000 in
set_option maxRecDepth 100000 in
theorem kX9_core (l : Launch) (dC : Nat → ClassId) (dI : Nat → Nat → Nat) (cC cI cJ : ClassId) (sz : Nat) (K : Nat) (a_T a_T_kinds a_T_wishKind a_T_wishA a_T_wishB a_T_st a_T_was a_T_kept a_T_woke a_T_text a_T_told a_T_readKinds a_T_readFloors a_T_readWishKind a_T_readWishA a_T_readWishB a_T_come a_T_keptBy a_T_endsAt a_T_order a_T_time a_T_place : Nat) (T_guests : Int32) (T_wishes : Int32) (T_begins : Int32) (T_acts : Int32) (T_keeps : Int32) (T_wokes : Int32) (T_texted : Int32) (T_at : Int32) (T_readGuests : Int32) (T_readWishes : Int32) (T_readBegins : Int32) (T_here : Int32) (T_stands : Int32) (T_many : Int32) (T_rounds : Int32) (T_st : (Nat → Int32)) (T_wishA : (Nat → Int32)) (T_wishKind : (Nat → Int32)) (T_wishB : (Nat → Int32)) (T_order : (Nat → Int32)) (T_time : (Nat → Int32)) (T_place : (Nat → Int32)) (T_kinds : (Nat → Int32)) (T_endsAt : (Nat → Int32)) (T_keptBy : (Nat → Int32)) (T_come : (Nat → Int32)) (R : Int32 × Int32 × Int32 × Int32 × Int32 × (Nat → Int32) × (Nat → Int32) × (Nat → Int32) × (Nat → Int32) × (Nat → Int32) × (Nat → Int32)) (hr : fX9_core K T_guests T_wishes T_begins T_here T_stands T_many T_rounds T_st T_wishA T_wishKind T_wishB T_order T_time T_place T_kinds T_endsAt T_keptBy T_come = some R) : Met l yX9_core wsX9_core rmX9_core (va_Pc ([.ref a_T] : List Value) (PcW (dC, dI) (tysA cC cI cJ) sz [(a_T, .inr (9, [.int T_guests, .ref a_T_kinds, .int T_wishes, .ref a_T_wishKind, .ref a_T_wishA, .ref a_T_wishB, .int T_begins, .ref a_T_st, .int T_acts, .ref a_T_was, .int T_keeps, .ref a_T_kept, .int T_wokes, .ref a_T_woke, .ref a_T_text, .int T_texted, .int T_at, .ref a_T_told, .int T_readGuests, .ref a_T_readKinds, .ref a_T_readFloors, .int T_readWishes, .ref a_T_readWishKind, .ref a_T_readWishA, .ref a_T_readWishB, .int T_readBegins, .int T_here, .int T_stands, .int T_many, .int T_rounds, .ref a_T_come, .ref a_T_keptBy, .ref a_T_endsAt, .ref a_T_order, .ref a_T_time, .ref a_T_place])), (a_T_st, .inl (cI, 8, .inl T_st)), (a_T_wishA, .inl (cI, 9, .inl T_wishA)), (a_T_wishKind, .inl (cI, 9, .inl T_wishKind)), (a_T_wishB, .inl (cI, 9, .inl T_wishB)), (a_T_order, .inl (cI, 6, .inl T_order)), (a_T_time, .inl (cI, 6, .inl T_time)), (a_T_place, .inl (cI, 6, .inl T_place)), (a_T_kinds, .inl (cI, 6, .inl T_kinds)), (a_T_endsAt, .inl (cI, 720, .inl T_endsAt)), (a_T_keptBy, .inl (cI, 720, .inl T_keptBy)), (a_T_come, .inl (cI, 4320, .inl T_come))])) (va_Qi (fun r (_ : Unit) => r = R.1) (fun _ => BW (dC, dI) (tysA cC cI cJ) (va_A [(a_T, .inr (9, [.int T_guests, .ref a_T_kinds, .int T_wishes, .ref a_T_wishKind, .ref a_T_wishA, .ref a_T_wishB, .int T_begins, .ref a_T_st, .int T_acts, .ref a_T_was, .int T_keeps, .ref a_T_kept, .int T_wokes, .ref a_T_woke, .ref a_T_text, .int T_texted, .int T_at, .ref a_T_told, .int T_readGuests, .ref a_T_readKinds, .ref a_T_readFloors, .int T_readWishes, .ref a_T_readWishKind, .ref a_T_readWishA, .ref a_T_readWishB, .int T_readBegins, .int T_here, .int T_stands, .int T_many, .int T_rounds, .ref a_T_come, .ref a_T_keptBy, .ref a_T_endsAt, .ref a_T_order, .ref a_T_time, .ref a_T_place])), (a_T_st, .inl (cI, 8, .inl T_st)), (a_T_wishA, .inl (cI, 9, .inl T_wishA)), (a_T_wishKind, .inl (cI, 9, .inl T_wishKind)), (a_T_wishB, .inl (cI, 9, .inl T_wishB)), (a_T_order, .inl (cI, 6, .inl T_order)), (a_T_time, .inl (cI, 6, .inl T_time)), (a_T_place, .inl (cI, 6, .inl T_place)), (a_T_kinds, .inl (cI, 6, .inl T_kinds)), (a_T_endsAt, .inl (cI, 720, .inl T_endsAt)), (a_T_keptBy, .inl (cI, 720, .inl T_keptBy)), (a_T_come, .inl (cI, 4320, .inl T_come))] sz) [(a_T, .inr (9, [.int T_guests, .ref a_T_kinds, .int T_wishes, .ref a_T_wishKind, .ref a_T_wishA, .ref a_T_wishB, .int T_begins, .ref a_T_st, .int T_acts, .ref a_T_was, .int T_keeps, .ref a_T_kept, .int T_wokes, .ref a_T_woke, .ref a_T_text, .int T_texted, .int T_at, .ref a_T_told, .int T_readGuests, .ref a_T_readKinds, .ref a_T_readFloors, .int T_readWishes, .ref a_T_readWishKind, .ref a_T_readWishA, .ref a_T_readWishB, .int T_readBegins, .int R.2.1, .int R.2.2.1, .int R.2.2.2.1, .int R.2.2.2.2.1, .ref a_T_come, .ref a_T_keptBy, .ref a_T_endsAt, .ref a_T_order, .ref a_T_time, .ref a_T_place])), (a_T_st, .inl (cI, 8, .inl T_st)), (a_T_wishA, .inl (cI, 9, .inl T_wishA)), (a_T_wishKind, .inl (cI, 9, .inl T_wishKind)), (a_T_wishB, .inl (cI, 9, .inl T_wishB)), (a_T_order, .inl (cI, 6, .inl R.2.2.2.2.2.1)), (a_T_time, .inl (cI, 6, .inl R.2.2.2.2.2.2.1)), (a_T_place, .inl (cI, 6, .inl R.2.2.2.2.2.2.2.1)), (a_T_kinds, .inl (cI, 6, .inl T_kinds)), (a_T_endsAt, .inl (cI, 720, .inl R.2.2.2.2.2.2.2.2.1)), (a_T_keptBy, .inl (cI, 720, .inl R.2.2.2.2.2.2.2.2.2.1)), (a_T_come, .inl (cI, 4320, .inl R.2.2.2.2.2.2.2.2.2.2))]) (va_A [(a_T, .inr (9, [.int T_guests, .ref a_T_kinds, .int T_wishes, .ref a_T_wishKind, .ref a_T_wishA, .ref a_T_wishB, .int T_begins, .ref a_T_st, .int T_acts, .ref a_T_was, .int T_keeps, .ref a_T_kept, .int T_wokes, .ref a_T_woke, .ref a_T_text, .int T_texted, .int T_at, .ref a_T_told, .int T_readGuests, .ref a_T_readKinds, .ref a_T_readFloors, .int T_readWishes, .ref a_T_readWishKind, .ref a_T_readWishA, .ref a_T_readWishB, .int T_readBegins, .int T_here, .int T_stands, .int T_many, .int T_rounds, .ref a_T_come, .ref a_T_keptBy, .ref a_T_endsAt, .ref a_T_order, .ref a_T_time, .ref a_T_place])), (a_T_st, .inl (cI, 8, .inl T_st)), (a_T_wishA, .inl (cI, 9, .inl T_wishA)), (a_T_wishKind, .inl (cI, 9, .inl T_wishKind)), (a_T_wishB, .inl (cI, 9, .inl T_wishB)), (a_T_order, .inl (cI, 6, .inl T_order)), (a_T_time, .inl (cI, 6, .inl T_time)), (a_T_place, .inl (cI, 6, .inl T_place)), (a_T_kinds, .inl (cI, 6, .inl T_kinds)), (a_T_endsAt, .inl (cI, 720, .inl T_endsAt)), (a_T_keptBy, .inl (cI, 720, .inl T_keptBy)), (a_T_come, .inl (cI, 4320, .inl T_come))] sz)) 0 0 (va_A [(a_T, .inr (9, [.int T_guests, .ref a_T_kinds, .int T_wishes, .ref a_T_wishKind, .ref a_T_wishA, .ref a_T_wishB, .int T_begins, .ref a_T_st, .int T_acts, .ref a_T_was, .int T_keeps, .ref a_T_kept, .int T_wokes, .ref a_T_woke, .ref a_T_text, .int T_texted, .int T_at, .ref a_T_told, .int T_readGuests, .ref a_T_readKinds, .ref a_T_readFloors, .int T_readWishes, .ref a_T_readWishKind, .ref a_T_readWishA, .ref a_T_readWishB, .int T_readBegins, .int T_here, .int T_stands, .int T_many, .int T_rounds, .ref a_T_come, .ref a_T_keptBy, .ref a_T_endsAt, .ref a_T_order, .ref a_T_time, .ref a_T_place])), (a_T_st, .inl (cI, 8, .inl T_st)), (a_T_wishA, .inl (cI, 9, .inl T_wishA)), (a_T_wishKind, .inl (cI, 9, .inl T_wishKind)), (a_T_wishB, .inl (cI, 9, .inl T_wishB)), (a_T_order, .inl (cI, 6, .inl T_order)), (a_T_time, .inl (cI, 6, .inl T_time)), (a_T_place, .inl (cI, 6, .inl T_place)), (a_T_kinds, .inl (cI, 6, .inl T_kinds)), (a_T_endsAt, .inl (cI, 720, .inl T_endsAt)), (a_T_keptBy, .inl (cI, 720, .inl T_keptBy)), (a_T_come, .inl (cI, 4320, .inl T_come))] sz) := by
  refine Met.ofW (cc := cX9_core) (maxL := 4) (ret := (some .int)) (by decide) rfl ?_
  intro p e s m args below meth c s₁ B hml hv
  obtain ⟨rfl, hsz, hP, hK, hD0, hN⟩ := hv
  have hx := B.exec
  have hb := B.bytes
  have hrt := B.returns
  have hts := atoms_spec (ws := wsX9_core) B.pre
  have hown : s.vm.findClass RX9 = some m.cls := findClass_of_methodNamed B.named
  have hlocks := B.notSynchronized
  subst hsz
  have hD := hD0.self (sz := s.heap.size)
  generalize hAe : va_A [(a_T, .inr (9, [.int T_guests, .ref a_T_kinds, .int T_wishes, .ref a_T_wishKind, .ref a_T_wishA, .ref a_T_wishB, .int T_begins, .ref a_T_st, .int T_acts, .ref a_T_was, .int T_keeps, .ref a_T_kept, .int T_wokes, .ref a_T_woke, .ref a_T_text, .int T_texted, .int T_at, .ref a_T_told, .int T_readGuests, .ref a_T_readKinds, .ref a_T_readFloors, .int T_readWishes, .ref a_T_readWishKind, .ref a_T_readWishA, .ref a_T_readWishB, .int T_readBegins, .int T_here, .int T_stands, .int T_many, .int T_rounds, .ref a_T_come, .ref a_T_keptBy, .ref a_T_endsAt, .ref a_T_order, .ref a_T_time, .ref a_T_place])), (a_T_st, .inl (cI, 8, .inl T_st)), (a_T_wishA, .inl (cI, 9, .inl T_wishA)), (a_T_wishKind, .inl (cI, 9, .inl T_wishKind)), (a_T_wishB, .inl (cI, 9, .inl T_wishB)), (a_T_order, .inl (cI, 6, .inl T_order)), (a_T_time, .inl (cI, 6, .inl T_time)), (a_T_place, .inl (cI, 6, .inl T_place)), (a_T_kinds, .inl (cI, 6, .inl T_kinds)), (a_T_endsAt, .inl (cI, 720, .inl T_endsAt)), (a_T_keptBy, .inl (cI, 720, .inl T_keptBy)), (a_T_come, .inl (cI, 4320, .inl T_come))] s.heap.size = A at hD ⊢
  have hA : ∀ q : Nat, s.heap.size ≤ q → A q := fun q h => by rw [← hAe]; exact Or.inr h
  have hS : va_S A s.heap s.heap [] := va_S.rf
  have hl := lv_entry ([.ref a_T] : List Value) (n := 4) (Nat.le_of_ble_eq_true rfl)
  rw [lg_entry_eq]
  generalize (lg_sl ([.ref a_T] : List Value) ++ List.replicate (4 - (lg_sl ([.ref a_T] : List Value)).length) Slot.unset).toArray = ls at hl ⊢
  replace hl : lv_has ls 4 [(0, .ref a_T)] := hl
  obtain ⟨Q, hQ⟩ : ∃ Q, Q = MQ below (va_Qi (fun r (_ : Unit) => r = R.1) (fun _ => BW (dC, dI) (tysA cC cI cJ) A [(a_T, .inr (9, [.int T_guests, .ref a_T_kinds, .int T_wishes, .ref a_T_wishKind, .ref a_T_wishA, .ref a_T_wishB, .int T_begins, .ref a_T_st, .int T_acts, .ref a_T_was, .int T_keeps, .ref a_T_kept, .int T_wokes, .ref a_T_woke, .ref a_T_text, .int T_texted, .int T_at, .ref a_T_told, .int T_readGuests, .ref a_T_readKinds, .ref a_T_readFloors, .int T_readWishes, .ref a_T_readWishKind, .ref a_T_readWishA, .ref a_T_readWishB, .int T_readBegins, .int R.2.1, .int R.2.2.1, .int R.2.2.2.1, .int R.2.2.2.2.1, .ref a_T_come, .ref a_T_keptBy, .ref a_T_endsAt, .ref a_T_order, .ref a_T_time, .ref a_T_place])), (a_T_st, .inl (cI, 8, .inl T_st)), (a_T_wishA, .inl (cI, 9, .inl T_wishA)), (a_T_wishKind, .inl (cI, 9, .inl T_wishKind)), (a_T_wishB, .inl (cI, 9, .inl T_wishB)), (a_T_order, .inl (cI, 6, .inl R.2.2.2.2.2.1)), (a_T_time, .inl (cI, 6, .inl R.2.2.2.2.2.2.1)), (a_T_place, .inl (cI, 6, .inl R.2.2.2.2.2.2.2.1)), (a_T_kinds, .inl (cI, 6, .inl T_kinds)), (a_T_endsAt, .inl (cI, 720, .inl R.2.2.2.2.2.2.2.2.1)), (a_T_keptBy, .inl (cI, 720, .inl R.2.2.2.2.2.2.2.2.2.1)), (a_T_come, .inl (cI, 4320, .inl R.2.2.2.2.2.2.2.2.2.2))]) A) ([.ref a_T] : List Value).toArray s 0 0 A := ⟨_, rfl⟩
  rw [← hQ]
  suffices hE : WG p l e rmX9_core s m ([.ref a_T] : List Value).toArray below meth c 0 0 Q (dC, dI) A 0 4 [(a_T, .inr (9, [.int T_guests, .ref a_T_kinds, .int T_wishes, .ref a_T_wishKind, .ref a_T_wishA, .ref a_T_wishB, .int T_begins, .ref a_T_st, .int T_acts, .ref a_T_was, .int T_keeps, .ref a_T_kept, .int T_wokes, .ref a_T_woke, .ref a_T_text, .int T_texted, .int T_at, .ref a_T_told, .int T_readGuests, .ref a_T_readKinds, .ref a_T_readFloors, .int T_readWishes, .ref a_T_readWishKind, .ref a_T_readWishA, .ref a_T_readWishB, .int T_readBegins, .int T_here, .int T_stands, .int T_many, .int T_rounds, .ref a_T_come, .ref a_T_keptBy, .ref a_T_endsAt, .ref a_T_order, .ref a_T_time, .ref a_T_place])), (a_T_st, .inl (cI, 8, .inl T_st)), (a_T_wishA, .inl (cI, 9, .inl T_wishA)), (a_T_wishKind, .inl (cI, 9, .inl T_wishKind)), (a_T_wishB, .inl (cI, 9, .inl T_wishB)), (a_T_order, .inl (cI, 6, .inl T_order)), (a_T_time, .inl (cI, 6, .inl T_time)), (a_T_place, .inl (cI, 6, .inl T_place)), (a_T_kinds, .inl (cI, 6, .inl T_kinds)), (a_T_endsAt, .inl (cI, 720, .inl T_endsAt)), (a_T_keptBy, .inl (cI, 720, .inl T_keptBy)), (a_T_come, .inl (cI, 4320, .inl T_come))] [(0, .ref a_T)] [] from hE _ _ _ hP hD hS hl
  clear hP hD hS hl hD0 hAe
  intro H locs ls hP hD hS hl
  unfold fX9_core at hr
  refine lv_aload_n hx hb dX9_core_0 rfl (lv_at hl 0 rfl) ?_
  refine lv_aload_n hx hb dX9_core_1 rfl (lv_at hl 0 rfl) ?_
  refine va_get (D := (dC, dI)) (ci := 9) (v := .ref a_T_st) (C := RX9) (T := TX9) (N := 36) hx hb hts inX9_core_X9 hown hK hP 0 rfl rfl 7 (by decide) (hts _ mbX9_core_0) (fun _ h9 => h9) rfl dX9_core_2 ?_
  refine lv_iconst (v := 0) hx hb dX9_core_5 (by decide) ?_
  obtain ⟨g1, hr⟩ := gd_some hr
  refine va_iald hx hb hK hP 1 1 rfl rfl g1 dX9_core_6 ?_
  obtain ⟨T_here_1, T_stands_1, T_many_1, T_rounds_1, T_order_1, T_time_1, T_place_1, T_endsAt_1, T_keptBy_1, T_come_1, hc1, hr⟩ := bd10_some hr
  refine call_v (D := (dC, dI)) (tys := tysA cC cI cJ) (wc := [(a_T, .inr (9, [.int T_guests, .ref a_T_kinds, .int T_wishes, .ref a_T_wishKind, .ref a_T_wishA, .ref a_T_wishB, .int T_begins, .ref a_T_st, .int T_acts, .ref a_T_was, .int T_keeps, .ref a_T_kept, .int T_wokes, .ref a_T_woke, .ref a_T_text, .int T_texted, .int T_at, .ref a_T_told, .int T_readGuests, .ref a_T_readKinds, .ref a_T_readFloors, .int T_readWishes, .ref a_T_readWishKind, .ref a_T_readWishA, .ref a_T_readWishB, .int T_readBegins, .int T_here, .int T_stands, .int T_many, .int T_rounds, .ref a_T_come, .ref a_T_keptBy, .ref a_T_endsAt, .ref a_T_order, .ref a_T_time, .ref a_T_place])), (a_T_st, .inl (cI, 8, .inl T_st)), (a_T_wishA, .inl (cI, 9, .inl T_wishA)), (a_T_wishKind, .inl (cI, 9, .inl T_wishKind)), (a_T_wishB, .inl (cI, 9, .inl T_wishB)), (a_T_order, .inl (cI, 6, .inl T_order)), (a_T_time, .inl (cI, 6, .inl T_time)), (a_T_place, .inl (cI, 6, .inl T_place)), (a_T_kinds, .inl (cI, 6, .inl T_kinds)), (a_T_endsAt, .inl (cI, 720, .inl T_endsAt)), (a_T_keptBy, .inl (cI, 720, .inl T_keptBy)), (a_T_come, .inl (cI, 4320, .inl T_come))]) (wr := []) (w1 := [(a_T, .inr (9, [.int T_guests, .ref a_T_kinds, .int T_wishes, .ref a_T_wishKind, .ref a_T_wishA, .ref a_T_wishB, .int T_begins, .ref a_T_st, .int T_acts, .ref a_T_was, .int T_keeps, .ref a_T_kept, .int T_wokes, .ref a_T_woke, .ref a_T_text, .int T_texted, .int T_at, .ref a_T_told, .int T_readGuests, .ref a_T_readKinds, .ref a_T_readFloors, .int T_readWishes, .ref a_T_readWishKind, .ref a_T_readWishA, .ref a_T_readWishB, .int T_readBegins, .int T_here_1, .int T_stands_1, .int T_many_1, .int T_rounds_1, .ref a_T_come, .ref a_T_keptBy, .ref a_T_endsAt, .ref a_T_order, .ref a_T_time, .ref a_T_place])), (a_T_st, .inl (cI, 8, .inl T_st)), (a_T_wishA, .inl (cI, 9, .inl T_wishA)), (a_T_wishKind, .inl (cI, 9, .inl T_wishKind)), (a_T_wishB, .inl (cI, 9, .inl T_wishB)), (a_T_order, .inl (cI, 6, .inl T_order_1)), (a_T_time, .inl (cI, 6, .inl T_time_1)), (a_T_place, .inl (cI, 6, .inl T_place_1)), (a_T_kinds, .inl (cI, 6, .inl T_kinds)), (a_T_endsAt, .inl (cI, 720, .inl T_endsAt_1)), (a_T_keptBy, .inl (cI, 720, .inl T_keptBy_1)), (a_T_come, .inl (cI, 4320, .inl T_come_1))]) (wn := [(a_T, .inr (9, [.int T_guests, .ref a_T_kinds, .int T_wishes, .ref a_T_wishKind, .ref a_T_wishA, .ref a_T_wishB, .int T_begins, .ref a_T_st, .int T_acts, .ref a_T_was, .int T_keeps, .ref a_T_kept, .int T_wokes, .ref a_T_woke, .ref a_T_text, .int T_texted, .int T_at, .ref a_T_told, .int T_readGuests, .ref a_T_readKinds, .ref a_T_readFloors, .int T_readWishes, .ref a_T_readWishKind, .ref a_T_readWishA, .ref a_T_readWishB, .int T_readBegins, .int T_here_1, .int T_stands_1, .int T_many_1, .int T_rounds_1, .ref a_T_come, .ref a_T_keptBy, .ref a_T_endsAt, .ref a_T_order, .ref a_T_time, .ref a_T_place])), (a_T_st, .inl (cI, 8, .inl T_st)), (a_T_wishA, .inl (cI, 9, .inl T_wishA)), (a_T_wishKind, .inl (cI, 9, .inl T_wishKind)), (a_T_wishB, .inl (cI, 9, .inl T_wishB)), (a_T_order, .inl (cI, 6, .inl T_order_1)), (a_T_time, .inl (cI, 6, .inl T_time_1)), (a_T_place, .inl (cI, 6, .inl T_place_1)), (a_T_kinds, .inl (cI, 6, .inl T_kinds)), (a_T_endsAt, .inl (cI, 720, .inl T_endsAt_1)), (a_T_keptBy, .inl (cI, 720, .inl T_keptBy_1)), (a_T_come, .inl (cI, 4320, .inl T_come_1))]) hP hD hS hA [0, 1, 2, 3, 4, 5, 6, 7, 8, 9, 10, 11] [] [0, 1, 2, 3, 4, 5, 6, 7, 8, 9, 10, 11] rfl rfl (by decide +kernel) (by decide +kernel) rfl (by decide +kernel) (va_runV (As := [.int (T_st (0 : Int32).toNatClampNeg)]) (rest := []) ⟨hx, hb, hml, hown, hts⟩ (kX9_findRounds l dC dI cC cI cJ H.size K a_T a_T_kinds a_T_wishKind a_T_wishA a_T_wishB a_T_st a_T_was a_T_kept a_T_woke a_T_text a_T_told a_T_readKinds a_T_readFloors a_T_readWishKind a_T_readWishA a_T_readWishB a_T_come a_T_keptBy a_T_endsAt a_T_order a_T_time a_T_place (T_st (0 : Int32).toNatClampNeg) T_guests T_wishes T_begins T_acts T_keeps T_wokes T_texted T_at T_readGuests T_readWishes T_readBegins T_here T_stands T_many T_rounds T_st T_wishA T_wishKind T_wishB T_order T_time T_place T_kinds T_endsAt T_keptBy T_come (T_here_1, T_stands_1, T_many_1, T_rounds_1, T_order_1, T_time_1, T_place_1, T_endsAt_1, T_keptBy_1, T_come_1) hc1) (cwV 1 hts gX9_core_X9_findRounds rfl rfl rfl (by decide +kernel) ⟨Nat.le_of_ble_eq_true rfl, Nat.le_of_ble_eq_true rfl⟩) ⟨fbW, va_recv hK hP (ci := 9) (q0 := 0) rfl rfl, preW hP hD hK hN [0, 1, 2, 3, 4, 5, 6, 7, 8, 9, 10, 11] rfl (by decide +kernel)⟩ rfl rfl hl.1 rfl (lv_room (Nat.le_of_ble_eq_true rfl)) dX9_core_7 ⟨Nat.zero_le _, Nat.zero_le _⟩) (fun H locs hP hD hS => ?_)
  refine lv_bipush (v := (-4)) hx hb dX9_core_10 (by decide) ?_
  refine lv_istore_n (lv' := [(1, .int (-4)), (0, .ref a_T)]) hx hb dX9_core_12 rfl hl (by decide) rfl (fun ls hl => ?_)
  refine lv_iconst (v := 0) hx hb dX9_core_13 (by decide) ?_
  refine lv_istore_n (lv' := [(2, .int 0), (1, .int (-4)), (0, .ref a_T)]) hx hb dX9_core_14 rfl hl (by decide) rfl (fun ls hl => ?_)
  have hL1 : ∀ (n1 : Nat) (x1 : Int32) (x2 : Int32) (x1_1 : Int32), fX9_core_L15 K T_wishes T_stands_1 T_rounds_1 T_keptBy_1 n1 x1 x2 = some x1_1 → WG p l e rmX9_core s m ([.ref a_T] : List Value).toArray below meth c 0 0 Q (dC, dI) A 81 4 [(a_T, .inr (9, [.int T_guests, .ref a_T_kinds, .int T_wishes, .ref a_T_wishKind, .ref a_T_wishA, .ref a_T_wishB, .int T_begins, .ref a_T_st, .int T_acts, .ref a_T_was, .int T_keeps, .ref a_T_kept, .int T_wokes, .ref a_T_woke, .ref a_T_text, .int T_texted, .int T_at, .ref a_T_told, .int T_readGuests, .ref a_T_readKinds, .ref a_T_readFloors, .int T_readWishes, .ref a_T_readWishKind, .ref a_T_readWishA, .ref a_T_readWishB, .int T_readBegins, .int T_here_1, .int T_stands_1, .int T_many_1, .int T_rounds_1, .ref a_T_come, .ref a_T_keptBy, .ref a_T_endsAt, .ref a_T_order, .ref a_T_time, .ref a_T_place])), (a_T_st, .inl (cI, 8, .inl T_st)), (a_T_wishA, .inl (cI, 9, .inl T_wishA)), (a_T_wishKind, .inl (cI, 9, .inl T_wishKind)), (a_T_wishB, .inl (cI, 9, .inl T_wishB)), (a_T_order, .inl (cI, 6, .inl T_order_1)), (a_T_time, .inl (cI, 6, .inl T_time_1)), (a_T_place, .inl (cI, 6, .inl T_place_1)), (a_T_kinds, .inl (cI, 6, .inl T_kinds)), (a_T_endsAt, .inl (cI, 720, .inl T_endsAt_1)), (a_T_keptBy, .inl (cI, 720, .inl T_keptBy_1)), (a_T_come, .inl (cI, 4320, .inl T_come_1))] [(1, .int x1_1)] [] → WG p l e rmX9_core s m ([.ref a_T] : List Value).toArray below meth c 0 0 Q (dC, dI) A 15 4 [(a_T, .inr (9, [.int T_guests, .ref a_T_kinds, .int T_wishes, .ref a_T_wishKind, .ref a_T_wishA, .ref a_T_wishB, .int T_begins, .ref a_T_st, .int T_acts, .ref a_T_was, .int T_keeps, .ref a_T_kept, .int T_wokes, .ref a_T_woke, .ref a_T_text, .int T_texted, .int T_at, .ref a_T_told, .int T_readGuests, .ref a_T_readKinds, .ref a_T_readFloors, .int T_readWishes, .ref a_T_readWishKind, .ref a_T_readWishA, .ref a_T_readWishB, .int T_readBegins, .int T_here_1, .int T_stands_1, .int T_many_1, .int T_rounds_1, .ref a_T_come, .ref a_T_keptBy, .ref a_T_endsAt, .ref a_T_order, .ref a_T_time, .ref a_T_place])), (a_T_st, .inl (cI, 8, .inl T_st)), (a_T_wishA, .inl (cI, 9, .inl T_wishA)), (a_T_wishKind, .inl (cI, 9, .inl T_wishKind)), (a_T_wishB, .inl (cI, 9, .inl T_wishB)), (a_T_order, .inl (cI, 6, .inl T_order_1)), (a_T_time, .inl (cI, 6, .inl T_time_1)), (a_T_place, .inl (cI, 6, .inl T_place_1)), (a_T_kinds, .inl (cI, 6, .inl T_kinds)), (a_T_endsAt, .inl (cI, 720, .inl T_endsAt_1)), (a_T_keptBy, .inl (cI, 720, .inl T_keptBy_1)), (a_T_come, .inl (cI, 4320, .inl T_come_1))] [(0, .ref a_T), (1, .int x1), (2, .int x2)] [] := by
    intro n1
    induction n1 with
    | zero =>
      intro x1 x2 x1_1 hr
      rw [fX9_core_L15] at hr
      cases hr
    | succ n1 ih15 =>
      intro x1 x2 x1_1 hr hX1 H locs ls hP hD hS hl
      rw [fX9_core_L15] at hr
      refine lv_iload_n hx hb dX9_core_15 rfl (lv_at hl 2 rfl) ?_
      refine lv_iconst (v := 1) hx hb dX9_core_16 (by decide) ?_
      refine lv_aload_n hx hb dX9_core_17 rfl (lv_at hl 0 rfl) ?_
      refine va_get (D := (dC, dI)) (ci := 9) (v := .int T_wishes) (C := RX9) (T := TX9) (N := 36) hx hb hts inX9_core_X9 hown hK hP 0 rfl rfl 2 (by decide) (hts _ mbX9_core_2) (fun _ h9 => h9) rfl dX9_core_18 ?_
      refine lv_ishl hx hb dX9_core_21 ?_
      refine lv_icmp_ge (tgt := 81) hx hb dX9_core_22 (by decide) (fun c1 => ?_) (fun c1 => ?_)
      · replace hr := it_t hr c1
        have he := Option.some.inj hr
        cases he
        exact hX1 H locs ls hP hD hS (lv_sub hl [1] rfl)
      · replace hr := it_f hr c1
        refine lv_iload_n hx hb dX9_core_25 rfl (lv_at hl 2 rfl) ?_
        refine lv_aload_n hx hb dX9_core_26 rfl (lv_at hl 0 rfl) ?_
        refine va_get (D := (dC, dI)) (ci := 9) (v := .int T_stands_1) (C := RX9) (T := TX9) (N := 36) hx hb hts inX9_core_X9 hown hK hP 0 rfl rfl 27 (by decide) (hts _ mbX9_core_3) (fun _ h9 => h9) rfl dX9_core_27 ?_
        refine lv_iconst (v := (-1)) hx hb dX9_core_30 (by decide) ?_
        refine lv_ixor hx hb dX9_core_31 ?_
        refine lv_iand hx hb dX9_core_32 ?_
        obtain ⟨y, hj3, hr⟩ := bd1_some hr
        have hJ1 : WG p l e rmX9_core s m ([.ref a_T] : List Value).toArray below meth c 0 0 Q (dC, dI) A 56 4 [(a_T, .inr (9, [.int T_guests, .ref a_T_kinds, .int T_wishes, .ref a_T_wishKind, .ref a_T_wishA, .ref a_T_wishB, .int T_begins, .ref a_T_st, .int T_acts, .ref a_T_was, .int T_keeps, .ref a_T_kept, .int T_wokes, .ref a_T_woke, .ref a_T_text, .int T_texted, .int T_at, .ref a_T_told, .int T_readGuests, .ref a_T_readKinds, .ref a_T_readFloors, .int T_readWishes, .ref a_T_readWishKind, .ref a_T_readWishA, .ref a_T_readWishB, .int T_readBegins, .int T_here_1, .int T_stands_1, .int T_many_1, .int T_rounds_1, .ref a_T_come, .ref a_T_keptBy, .ref a_T_endsAt, .ref a_T_order, .ref a_T_time, .ref a_T_place])), (a_T_st, .inl (cI, 8, .inl T_st)), (a_T_wishA, .inl (cI, 9, .inl T_wishA)), (a_T_wishKind, .inl (cI, 9, .inl T_wishKind)), (a_T_wishB, .inl (cI, 9, .inl T_wishB)), (a_T_order, .inl (cI, 6, .inl T_order_1)), (a_T_time, .inl (cI, 6, .inl T_time_1)), (a_T_place, .inl (cI, 6, .inl T_place_1)), (a_T_kinds, .inl (cI, 6, .inl T_kinds)), (a_T_endsAt, .inl (cI, 720, .inl T_endsAt_1)), (a_T_keptBy, .inl (cI, 720, .inl T_keptBy_1)), (a_T_come, .inl (cI, 4320, .inl T_come_1))] [(0, .ref a_T), (1, .int x1), (2, .int x2)] [.int y] := by
          intro H locs ls hP hD hS hl
          refine lv_istore_n (lv' := [(3, .int y), (0, .ref a_T), (1, .int x1), (2, .int x2)]) hx hb dX9_core_56 rfl hl (by decide) rfl (fun ls hl => ?_)
          refine lv_iload_n hx hb dX9_core_57 rfl (lv_at hl 0 rfl) ?_
          obtain ⟨x1_2, hj2, hr⟩ := bd1_some hr
          have hJ3 : WG p l e rmX9_core s m ([.ref a_T] : List Value).toArray below meth c 0 0 Q (dC, dI) A 75 4 [(a_T, .inr (9, [.int T_guests, .ref a_T_kinds, .int T_wishes, .ref a_T_wishKind, .ref a_T_wishA, .ref a_T_wishB, .int T_begins, .ref a_T_st, .int T_acts, .ref a_T_was, .int T_keeps, .ref a_T_kept, .int T_wokes, .ref a_T_woke, .ref a_T_text, .int T_texted, .int T_at, .ref a_T_told, .int T_readGuests, .ref a_T_readKinds, .ref a_T_readFloors, .int T_readWishes, .ref a_T_readWishKind, .ref a_T_readWishA, .ref a_T_readWishB, .int T_readBegins, .int T_here_1, .int T_stands_1, .int T_many_1, .int T_rounds_1, .ref a_T_come, .ref a_T_keptBy, .ref a_T_endsAt, .ref a_T_order, .ref a_T_time, .ref a_T_place])), (a_T_st, .inl (cI, 8, .inl T_st)), (a_T_wishA, .inl (cI, 9, .inl T_wishA)), (a_T_wishKind, .inl (cI, 9, .inl T_wishKind)), (a_T_wishB, .inl (cI, 9, .inl T_wishB)), (a_T_order, .inl (cI, 6, .inl T_order_1)), (a_T_time, .inl (cI, 6, .inl T_time_1)), (a_T_place, .inl (cI, 6, .inl T_place_1)), (a_T_kinds, .inl (cI, 6, .inl T_kinds)), (a_T_endsAt, .inl (cI, 720, .inl T_endsAt_1)), (a_T_keptBy, .inl (cI, 720, .inl T_keptBy_1)), (a_T_come, .inl (cI, 4320, .inl T_come_1))] [(0, .ref a_T), (1, .int x1_2), (2, .int x2)] [] := by
            intro H locs ls hP hD hS hl
            obtain ⟨x2_1, e1, hr⟩ := nm_el hr
            refine lv_iinc (v := x2_1) (lv' := [(2, .int x2_1), (0, .ref a_T), (1, .int x1_2)]) hx hb dX9_core_75 hl (k := 2) rfl e1.symm (by decide) rfl (fun ls hl => ?_)
            refine lv_goto (tgt := 15) hx hb dX9_core_78 (by decide) ?_
            exact ih15 _ _ _ hr hX1 H locs ls hP hD hS (lv_sub hl [1, 2, 0] rfl)
          replace hr := hj2
          refine lv_if_eq (tgt := 75) hx hb dX9_core_58 (by decide) (fun c5 => ?_) (fun c5 => ?_)
          · replace hr := it_t hr c5
            cases hr
            exact hJ3 H locs ls hP hD hS (lv_sub hl [1, 2, 3] rfl)
          · replace hr := it_f hr c5
            refine lv_aload_n hx hb dX9_core_61 rfl (lv_at hl 1 rfl) ?_
            refine lv_iload_n hx hb dX9_core_62 rfl (lv_at hl 3 rfl) ?_
            obtain ⟨r_2, hc4, hr⟩ := bd1_some hr
            refine call_i (D := (dC, dI)) (tys := tysA cC cI cJ) (wc := [(a_T, .inr (9, [.int T_guests, .ref a_T_kinds, .int T_wishes, .ref a_T_wishKind, .ref a_T_wishA, .ref a_T_wishB, .int T_begins, .ref a_T_st, .int T_acts, .ref a_T_was, .int T_keeps, .ref a_T_kept, .int T_wokes, .ref a_T_woke, .ref a_T_text, .int T_texted, .int T_at, .ref a_T_told, .int T_readGuests, .ref a_T_readKinds, .ref a_T_readFloors, .int T_readWishes, .ref a_T_readWishKind, .ref a_T_readWishA, .ref a_T_readWishB, .int T_readBegins, .int T_here_1, .int T_stands_1, .int T_many_1, .int T_rounds_1, .ref a_T_come, .ref a_T_keptBy, .ref a_T_endsAt, .ref a_T_order, .ref a_T_time, .ref a_T_place])), (a_T_keptBy, .inl (cI, 720, .inl T_keptBy_1))]) (wr := [(a_T_st, .inl (cI, 8, .inl T_st)), (a_T_wishA, .inl (cI, 9, .inl T_wishA)), (a_T_wishKind, .inl (cI, 9, .inl T_wishKind)), (a_T_wishB, .inl (cI, 9, .inl T_wishB)), (a_T_order, .inl (cI, 6, .inl T_order_1)), (a_T_time, .inl (cI, 6, .inl T_time_1)), (a_T_place, .inl (cI, 6, .inl T_place_1)), (a_T_kinds, .inl (cI, 6, .inl T_kinds)), (a_T_endsAt, .inl (cI, 720, .inl T_endsAt_1)), (a_T_come, .inl (cI, 4320, .inl T_come_1))]) (w1 := [(a_T, .inr (9, [.int T_guests, .ref a_T_kinds, .int T_wishes, .ref a_T_wishKind, .ref a_T_wishA, .ref a_T_wishB, .int T_begins, .ref a_T_st, .int T_acts, .ref a_T_was, .int T_keeps, .ref a_T_kept, .int T_wokes, .ref a_T_woke, .ref a_T_text, .int T_texted, .int T_at, .ref a_T_told, .int T_readGuests, .ref a_T_readKinds, .ref a_T_readFloors, .int T_readWishes, .ref a_T_readWishKind, .ref a_T_readWishA, .ref a_T_readWishB, .int T_readBegins, .int T_here_1, .int T_stands_1, .int T_many_1, .int T_rounds_1, .ref a_T_come, .ref a_T_keptBy, .ref a_T_endsAt, .ref a_T_order, .ref a_T_time, .ref a_T_place])), (a_T_keptBy, .inl (cI, 720, .inl T_keptBy_1))]) (wn := [(a_T, .inr (9, [.int T_guests, .ref a_T_kinds, .int T_wishes, .ref a_T_wishKind, .ref a_T_wishA, .ref a_T_wishB, .int T_begins, .ref a_T_st, .int T_acts, .ref a_T_was, .int T_keeps, .ref a_T_kept, .int T_wokes, .ref a_T_woke, .ref a_T_text, .int T_texted, .int T_at, .ref a_T_told, .int T_readGuests, .ref a_T_readKinds, .ref a_T_readFloors, .int T_readWishes, .ref a_T_readWishKind, .ref a_T_readWishA, .ref a_T_readWishB, .int T_readBegins, .int T_here_1, .int T_stands_1, .int T_many_1, .int T_rounds_1, .ref a_T_come, .ref a_T_keptBy, .ref a_T_endsAt, .ref a_T_order, .ref a_T_time, .ref a_T_place])), (a_T_st, .inl (cI, 8, .inl T_st)), (a_T_wishA, .inl (cI, 9, .inl T_wishA)), (a_T_wishKind, .inl (cI, 9, .inl T_wishKind)), (a_T_wishB, .inl (cI, 9, .inl T_wishB)), (a_T_order, .inl (cI, 6, .inl T_order_1)), (a_T_time, .inl (cI, 6, .inl T_time_1)), (a_T_place, .inl (cI, 6, .inl T_place_1)), (a_T_kinds, .inl (cI, 6, .inl T_kinds)), (a_T_endsAt, .inl (cI, 720, .inl T_endsAt_1)), (a_T_keptBy, .inl (cI, 720, .inl T_keptBy_1)), (a_T_come, .inl (cI, 4320, .inl T_come_1))]) (r0 := r_2) hP hD hS hA [0, 10] [1, 2, 3, 4, 5, 6, 7, 8, 9, 11] [10, 0, 1, 2, 3, 4, 5, 6, 7, 8, 11, 9] rfl rfl (by decide +kernel) (by decide +kernel) rfl (by decide +kernel) (va_runV (As := [.int x2]) (rest := []) ⟨hx, hb, hml, hown, hts⟩ (kX9_isKeptSet l dC dI cC cI cJ H.size K a_T a_T_kinds a_T_wishKind a_T_wishA a_T_wishB a_T_st a_T_was a_T_kept a_T_woke a_T_text a_T_told a_T_readKinds a_T_readFloors a_T_readWishKind a_T_readWishA a_T_readWishB a_T_come a_T_keptBy a_T_endsAt a_T_order a_T_time a_T_place x2 T_guests T_wishes T_begins T_acts T_keeps T_wokes T_texted T_at T_readGuests T_readWishes T_readBegins T_here_1 T_stands_1 T_many_1 T_rounds_1 T_keptBy_1 r_2 hc4) (cwV 1 hts gX9_core_X9_isKeptSet rfl rfl rfl (by decide +kernel) ⟨Nat.le_of_ble_eq_true rfl, Nat.le_of_ble_eq_true rfl⟩) ⟨fbW, va_recv hK hP (ci := 9) (q0 := 0) rfl rfl, preW hP hD hK hN [0, 10] rfl (by decide +kernel)⟩ rfl rfl hl.1 rfl (lv_room (Nat.le_of_ble_eq_true rfl)) dX9_core_63 ⟨Nat.zero_le _, Nat.zero_le _⟩) (fun H locs hP hD hS => ?_)
            obtain ⟨y_1, hj1, hr⟩ := bd1_some hr
            have hJ4 : WG p l e rmX9_core s m ([.ref a_T] : List Value).toArray below meth c 0 0 Q (dC, dI) A 74 4 [(a_T, .inr (9, [.int T_guests, .ref a_T_kinds, .int T_wishes, .ref a_T_wishKind, .ref a_T_wishA, .ref a_T_wishB, .int T_begins, .ref a_T_st, .int T_acts, .ref a_T_was, .int T_keeps, .ref a_T_kept, .int T_wokes, .ref a_T_woke, .ref a_T_text, .int T_texted, .int T_at, .ref a_T_told, .int T_readGuests, .ref a_T_readKinds, .ref a_T_readFloors, .int T_readWishes, .ref a_T_readWishKind, .ref a_T_readWishA, .ref a_T_readWishB, .int T_readBegins, .int T_here_1, .int T_stands_1, .int T_many_1, .int T_rounds_1, .ref a_T_come, .ref a_T_keptBy, .ref a_T_endsAt, .ref a_T_order, .ref a_T_time, .ref a_T_place])), (a_T_st, .inl (cI, 8, .inl T_st)), (a_T_wishA, .inl (cI, 9, .inl T_wishA)), (a_T_wishKind, .inl (cI, 9, .inl T_wishKind)), (a_T_wishB, .inl (cI, 9, .inl T_wishB)), (a_T_order, .inl (cI, 6, .inl T_order_1)), (a_T_time, .inl (cI, 6, .inl T_time_1)), (a_T_place, .inl (cI, 6, .inl T_place_1)), (a_T_kinds, .inl (cI, 6, .inl T_kinds)), (a_T_endsAt, .inl (cI, 720, .inl T_endsAt_1)), (a_T_keptBy, .inl (cI, 720, .inl T_keptBy_1)), (a_T_come, .inl (cI, 4320, .inl T_come_1))] [(0, .ref a_T), (2, .int x2)] [.int y_1] := by
              intro H locs ls hP hD hS hl
              refine lv_istore_n (lv' := [(1, .int y_1), (0, .ref a_T), (2, .int x2)]) hx hb dX9_core_74 rfl hl (by decide) rfl (fun ls hl => ?_)
              cases hr
              exact hJ3 H locs ls hP hD hS (lv_sub hl [1, 0, 2] rfl)
            replace hr := hj1
            refine lv_if_eq (tgt := 73) hx hb dX9_core_66 (by decide) (fun c6 => ?_) (fun c6 => ?_)
            · replace hr := it_t hr c6
              refine lv_iload_n hx hb dX9_core_73 rfl (lv_at hl 3 rfl) ?_
              cases hr
              exact hJ4 H locs ls hP hD hS (lv_sub hl [1, 3] rfl)
            · replace hr := it_f hr c6
              refine lv_iload_n hx hb dX9_core_69 rfl (lv_at hl 2 rfl) ?_
              refine lv_goto (tgt := 74) hx hb dX9_core_70 (by decide) ?_
              cases hr
              exact hJ4 H locs ls hP hD hS (lv_sub hl [1, 3] rfl)
        replace hr := hj3
        refine lv_if_ne (tgt := 55) hx hb dX9_core_33 (by decide) (fun c2 => ?_) (fun c2 => ?_)
        · replace hr := it_f hr c2
          refine lv_iconst (v := 0) hx hb dX9_core_55 (by decide) ?_
          cases hr
          exact hJ1 H locs ls hP hD hS (lv_sub hl [0, 1, 2] rfl)
        · replace hr := it_t hr c2
          refine lv_iload_n hx hb dX9_core_36 rfl (lv_at hl 1 rfl) ?_
          obtain ⟨X3, hj, hi3, hk⟩ := bs0_some hr
          have hJ2 : X3 = .inr () → WG p l e rmX9_core s m ([.ref a_T] : List Value).toArray below meth c 0 0 Q (dC, dI) A 51 4 [(a_T, .inr (9, [.int T_guests, .ref a_T_kinds, .int T_wishes, .ref a_T_wishKind, .ref a_T_wishA, .ref a_T_wishB, .int T_begins, .ref a_T_st, .int T_acts, .ref a_T_was, .int T_keeps, .ref a_T_kept, .int T_wokes, .ref a_T_woke, .ref a_T_text, .int T_texted, .int T_at, .ref a_T_told, .int T_readGuests, .ref a_T_readKinds, .ref a_T_readFloors, .int T_readWishes, .ref a_T_readWishKind, .ref a_T_readWishA, .ref a_T_readWishB, .int T_readBegins, .int T_here_1, .int T_stands_1, .int T_many_1, .int T_rounds_1, .ref a_T_come, .ref a_T_keptBy, .ref a_T_endsAt, .ref a_T_order, .ref a_T_time, .ref a_T_place])), (a_T_st, .inl (cI, 8, .inl T_st)), (a_T_wishA, .inl (cI, 9, .inl T_wishA)), (a_T_wishKind, .inl (cI, 9, .inl T_wishKind)), (a_T_wishB, .inl (cI, 9, .inl T_wishB)), (a_T_order, .inl (cI, 6, .inl T_order_1)), (a_T_time, .inl (cI, 6, .inl T_time_1)), (a_T_place, .inl (cI, 6, .inl T_place_1)), (a_T_kinds, .inl (cI, 6, .inl T_kinds)), (a_T_endsAt, .inl (cI, 720, .inl T_endsAt_1)), (a_T_keptBy, .inl (cI, 720, .inl T_keptBy_1)), (a_T_come, .inl (cI, 4320, .inl T_come_1))] [(0, .ref a_T), (1, .int x1), (2, .int x2)] [] := by
            intro he
            replace hr := hk he
            intro H locs ls hP hD hS hl
            refine lv_iconst (v := 1) hx hb dX9_core_51 (by decide) ?_
            refine lv_goto (tgt := 56) hx hb dX9_core_52 (by decide) ?_
            cases hr
            exact hJ1 H locs ls hP hD hS (lv_sub hl [0, 1, 2] rfl)
          replace hr := hj
          refine lv_if_lt (tgt := 51) hx hb dX9_core_37 (by decide) (fun c3 => ?_) (fun c3 => ?_)
          · replace hr := it_t hr c3
            exact hJ2 (Option.some.inj hr).symm H locs ls hP hD hS (lv_sub hl [0, 1, 2] rfl)
          · replace hr := it_f hr c3
            refine lv_iload_n hx hb dX9_core_40 rfl (lv_at hl 2 rfl) ?_
            obtain ⟨r, hc2, hr⟩ := bd1_some hr
            refine call_i (D := (dC, dI)) (tys := tysA cC cI cJ) (wc := []) (wr := [(a_T, .inr (9, [.int T_guests, .ref a_T_kinds, .int T_wishes, .ref a_T_wishKind, .ref a_T_wishA, .ref a_T_wishB, .int T_begins, .ref a_T_st, .int T_acts, .ref a_T_was, .int T_keeps, .ref a_T_kept, .int T_wokes, .ref a_T_woke, .ref a_T_text, .int T_texted, .int T_at, .ref a_T_told, .int T_readGuests, .ref a_T_readKinds, .ref a_T_readFloors, .int T_readWishes, .ref a_T_readWishKind, .ref a_T_readWishA, .ref a_T_readWishB, .int T_readBegins, .int T_here_1, .int T_stands_1, .int T_many_1, .int T_rounds_1, .ref a_T_come, .ref a_T_keptBy, .ref a_T_endsAt, .ref a_T_order, .ref a_T_time, .ref a_T_place])), (a_T_st, .inl (cI, 8, .inl T_st)), (a_T_wishA, .inl (cI, 9, .inl T_wishA)), (a_T_wishKind, .inl (cI, 9, .inl T_wishKind)), (a_T_wishB, .inl (cI, 9, .inl T_wishB)), (a_T_order, .inl (cI, 6, .inl T_order_1)), (a_T_time, .inl (cI, 6, .inl T_time_1)), (a_T_place, .inl (cI, 6, .inl T_place_1)), (a_T_kinds, .inl (cI, 6, .inl T_kinds)), (a_T_endsAt, .inl (cI, 720, .inl T_endsAt_1)), (a_T_keptBy, .inl (cI, 720, .inl T_keptBy_1)), (a_T_come, .inl (cI, 4320, .inl T_come_1))]) (w1 := []) (wn := [(a_T, .inr (9, [.int T_guests, .ref a_T_kinds, .int T_wishes, .ref a_T_wishKind, .ref a_T_wishA, .ref a_T_wishB, .int T_begins, .ref a_T_st, .int T_acts, .ref a_T_was, .int T_keeps, .ref a_T_kept, .int T_wokes, .ref a_T_woke, .ref a_T_text, .int T_texted, .int T_at, .ref a_T_told, .int T_readGuests, .ref a_T_readKinds, .ref a_T_readFloors, .int T_readWishes, .ref a_T_readWishKind, .ref a_T_readWishA, .ref a_T_readWishB, .int T_readBegins, .int T_here_1, .int T_stands_1, .int T_many_1, .int T_rounds_1, .ref a_T_come, .ref a_T_keptBy, .ref a_T_endsAt, .ref a_T_order, .ref a_T_time, .ref a_T_place])), (a_T_st, .inl (cI, 8, .inl T_st)), (a_T_wishA, .inl (cI, 9, .inl T_wishA)), (a_T_wishKind, .inl (cI, 9, .inl T_wishKind)), (a_T_wishB, .inl (cI, 9, .inl T_wishB)), (a_T_order, .inl (cI, 6, .inl T_order_1)), (a_T_time, .inl (cI, 6, .inl T_time_1)), (a_T_place, .inl (cI, 6, .inl T_place_1)), (a_T_kinds, .inl (cI, 6, .inl T_kinds)), (a_T_endsAt, .inl (cI, 720, .inl T_endsAt_1)), (a_T_keptBy, .inl (cI, 720, .inl T_keptBy_1)), (a_T_come, .inl (cI, 4320, .inl T_come_1))]) (r0 := r) hP hD hS hA [] [0, 1, 2, 3, 4, 5, 6, 7, 8, 9, 10, 11] [0, 1, 2, 3, 4, 5, 6, 7, 8, 9, 10, 11] rfl rfl (by decide +kernel) (by decide +kernel) rfl (by decide +kernel) (va_runS (As := [.int x2]) (rest := []) ⟨hx, hb, hml, hown, hts⟩ (kX9_bits l dC dI cC cI cJ H.size K x2 r hc2) (va_cwS 1 hts gX9_core_X9_bits rfl rfl rfl (by decide +kernel) ⟨Nat.le_of_ble_eq_true rfl, Nat.le_of_ble_eq_true rfl⟩) ⟨fbW, preW hP hD hK hN [] rfl (by decide +kernel)⟩ rfl rfl hl.1 rfl (lv_room (Nat.le_of_ble_eq_true rfl)) dX9_core_41 ⟨Nat.zero_le _, Nat.zero_le _⟩) (fun H locs hP hD hS => ?_)
            refine lv_iload_n hx hb dX9_core_44 rfl (lv_at hl 1 rfl) ?_
            obtain ⟨r_1, hc3, hr⟩ := bd1_some hr
            refine call_i (D := (dC, dI)) (tys := tysA cC cI cJ) (wc := []) (wr := [(a_T, .inr (9, [.int T_guests, .ref a_T_kinds, .int T_wishes, .ref a_T_wishKind, .ref a_T_wishA, .ref a_T_wishB, .int T_begins, .ref a_T_st, .int T_acts, .ref a_T_was, .int T_keeps, .ref a_T_kept, .int T_wokes, .ref a_T_woke, .ref a_T_text, .int T_texted, .int T_at, .ref a_T_told, .int T_readGuests, .ref a_T_readKinds, .ref a_T_readFloors, .int T_readWishes, .ref a_T_readWishKind, .ref a_T_readWishA, .ref a_T_readWishB, .int T_readBegins, .int T_here_1, .int T_stands_1, .int T_many_1, .int T_rounds_1, .ref a_T_come, .ref a_T_keptBy, .ref a_T_endsAt, .ref a_T_order, .ref a_T_time, .ref a_T_place])), (a_T_st, .inl (cI, 8, .inl T_st)), (a_T_wishA, .inl (cI, 9, .inl T_wishA)), (a_T_wishKind, .inl (cI, 9, .inl T_wishKind)), (a_T_wishB, .inl (cI, 9, .inl T_wishB)), (a_T_order, .inl (cI, 6, .inl T_order_1)), (a_T_time, .inl (cI, 6, .inl T_time_1)), (a_T_place, .inl (cI, 6, .inl T_place_1)), (a_T_kinds, .inl (cI, 6, .inl T_kinds)), (a_T_endsAt, .inl (cI, 720, .inl T_endsAt_1)), (a_T_keptBy, .inl (cI, 720, .inl T_keptBy_1)), (a_T_come, .inl (cI, 4320, .inl T_come_1))]) (w1 := []) (wn := [(a_T, .inr (9, [.int T_guests, .ref a_T_kinds, .int T_wishes, .ref a_T_wishKind, .ref a_T_wishA, .ref a_T_wishB, .int T_begins, .ref a_T_st, .int T_acts, .ref a_T_was, .int T_keeps, .ref a_T_kept, .int T_wokes, .ref a_T_woke, .ref a_T_text, .int T_texted, .int T_at, .ref a_T_told, .int T_readGuests, .ref a_T_readKinds, .ref a_T_readFloors, .int T_readWishes, .ref a_T_readWishKind, .ref a_T_readWishA, .ref a_T_readWishB, .int T_readBegins, .int T_here_1, .int T_stands_1, .int T_many_1, .int T_rounds_1, .ref a_T_come, .ref a_T_keptBy, .ref a_T_endsAt, .ref a_T_order, .ref a_T_time, .ref a_T_place])), (a_T_st, .inl (cI, 8, .inl T_st)), (a_T_wishA, .inl (cI, 9, .inl T_wishA)), (a_T_wishKind, .inl (cI, 9, .inl T_wishKind)), (a_T_wishB, .inl (cI, 9, .inl T_wishB)), (a_T_order, .inl (cI, 6, .inl T_order_1)), (a_T_time, .inl (cI, 6, .inl T_time_1)), (a_T_place, .inl (cI, 6, .inl T_place_1)), (a_T_kinds, .inl (cI, 6, .inl T_kinds)), (a_T_endsAt, .inl (cI, 720, .inl T_endsAt_1)), (a_T_keptBy, .inl (cI, 720, .inl T_keptBy_1)), (a_T_come, .inl (cI, 4320, .inl T_come_1))]) (r0 := r_1) hP hD hS hA [] [0, 1, 2, 3, 4, 5, 6, 7, 8, 9, 10, 11] [0, 1, 2, 3, 4, 5, 6, 7, 8, 9, 10, 11] rfl rfl (by decide +kernel) (by decide +kernel) rfl (by decide +kernel) (va_runS (As := [.int x1]) (rest := [.int r]) ⟨hx, hb, hml, hown, hts⟩ (kX9_bits l dC dI cC cI cJ H.size K x1 r_1 hc3) (va_cwS 1 hts gX9_core_X9_bits rfl rfl rfl (by decide +kernel) ⟨Nat.le_of_ble_eq_true rfl, Nat.le_of_ble_eq_true rfl⟩) ⟨fbW, preW hP hD hK hN [] rfl (by decide +kernel)⟩ rfl rfl hl.1 rfl (lv_room (Nat.le_of_ble_eq_true rfl)) dX9_core_45 ⟨Nat.zero_le _, Nat.zero_le _⟩) (fun H locs hP hD hS => ?_)
            refine lv_icmp_ge (tgt := 55) hx hb dX9_core_48 (by decide) (fun c4 => ?_) (fun c4 => ?_)
            · replace hr := it_t hr c4
              refine lv_iconst (v := 0) hx hb dX9_core_55 (by decide) ?_
              have he := Option.some.inj hr
              replace he := hi3 _ he.symm
              cases he
              exact hJ1 H locs ls hP hD hS (lv_sub hl [0, 1, 2] rfl)
            · replace hr := it_f hr c4
              exact hJ2 (Option.some.inj hr).symm H locs ls hP hD hS (lv_sub hl [0, 1, 2] rfl)
  obtain ⟨x1_1, hE, hr⟩ := bd1_some hr
  refine hL1 K (-4) 0 x1_1 hE ?_ H locs ls hP hD hS (lv_sub hl [2, 1, 0] rfl)
  intro H locs ls hP hD hS hl
  refine lv_iload_n hx hb dX9_core_81 rfl (lv_at hl 0 rfl) ?_
  have he := Option.some.inj hr
  subst he
  subst hQ
  exact ret_i hx hb hrt hK hP hD hS hlocks dX9_core_82
