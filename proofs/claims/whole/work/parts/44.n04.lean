def fX9_standing_L4 (K : Nat) (x1 : Int32) (T_wishes : Int32) (T_st : (Nat → Int32)) (T_wishA : (Nat → Int32)) (T_wishKind : (Nat → Int32)) (T_wishB : (Nat → Int32)) : Nat → Int32 → Int32 → Option (Int32)
  | 0, _, _ => none
  | n1 + 1, x2, x3 =>
    if T_wishes ≤ (x3 : Int32) then (
    some x2)
    else (
    gd (¬ ((1 : Int32) < 0 ∨ 8 ≤ (1 : Int32).toNatClampNeg)) (
    bd1 (fX9_has K (T_st (1 : Int32).toNatClampNeg) x3) fun r =>
    bd1 (τ0 := Int32) (
    if (r : Int32) = 0 then (
    gd (¬ ((x3 : Int32) < 0 ∨ 9 ≤ x3.toNatClampNeg)) (
    bd1 (fX9_has K x1 (T_wishA x3.toNatClampNeg)) fun r_1 =>
    bs0 (
    if (r_1 : Int32) = 0 then (
    some (.inr ()))
    else (
    bd1 (fX9_isOfTwo K x3 T_wishKind) fun r_2 =>
    bs0 (
    if (r_2 : Int32) = 0 then (
    some (.inr ()))
    else (
    gd (¬ ((x3 : Int32) < 0 ∨ 9 ≤ x3.toNatClampNeg)) (
    bd1 (fX9_has K x1 (T_wishB x3.toNatClampNeg)) fun r_3 =>
    if (r_3 : Int32) = 0 then (
    some (.inl (.inr ())))
    else (
    some (.inr ()))))) (
    some (.inl 1)))) (
    some 0)))
    else (
    some 0)) fun y =>
    bd1 (τ0 := Int32) (
    if (y : Int32) = 0 then (
    some 0)
    else (
    some (1 <<< (x3 &&& 31)))) fun y_1 =>
    nm (x2 ||| y_1) fun x2_2 =>
    nm (x3 + 1) fun x3_1 =>
    fX9_standing_L4 K x1 T_wishes T_st T_wishA T_wishKind T_wishB n1 x2_2 x3_1))
def fX9_standing (K : Nat) (x1 : Int32) (T_wishes : Int32) (T_st : (Nat → Int32)) (T_wishA : (Nat → Int32)) (T_wishKind : (Nat → Int32)) (T_wishB : (Nat → Int32)) : Option (Int32) :=
    bd1 (fX9_standing_L4 K x1 T_wishes T_st T_wishA T_wishKind T_wishB K 0 0) fun x2_1 =>
    some x2_1
theorem mbX9_standing_0 : Cond.fieldLink RX9 145 "BootsAtDawnModel" "wishes" "I" ∈ wsX9_standing := List.mem_of_getElem? (i := 1) rfl
theorem inX9_standing_X9 : ∀ w ∈ u_ws RX9 TX9 36, w ∈ wsX9_standing := fun _ h => (List.mem_cons_of_mem _ (List.mem_append_right _ h))
theorem mbX9_standing_2 : Cond.fieldLink RX9 22 "BootsAtDawnModel" "st" "[I" ∈ wsX9_standing := List.mem_of_getElem? (i := 2) rfl
theorem mbX9_standing_3 : Cond.fieldLink RX9 16 "BootsAtDawnModel" "wishA" "[I" ∈ wsX9_standing := List.mem_of_getElem? (i := 3) rfl
theorem mbX9_standing_4 : Cond.fieldLink RX9 19 "BootsAtDawnModel" "wishB" "[I" ∈ wsX9_standing := List.mem_of_getElem? (i := 4) rfl
abbrev rmX9_standing : Room := { frames := 1, cells := 0, slots := 0, locals := 21 }
set_option maxHeartbeats 8000000 in
set_option maxRecDepth 100000 in
theorem kX9_standing (l : Launch) (dC : Nat → ClassId) (dI : Nat → Nat → Nat) (cC cI cJ : ClassId) (sz : Nat) (K : Nat) (a_T a_T_kinds a_T_wishKind a_T_wishA a_T_wishB a_T_st a_T_was a_T_kept a_T_woke a_T_text a_T_told a_T_readKinds a_T_readFloors a_T_readWishKind a_T_readWishA a_T_readWishB a_T_come a_T_keptBy a_T_endsAt a_T_order a_T_time a_T_place : Nat) (x1 : Int32) (T_guests : Int32) (T_wishes : Int32) (T_begins : Int32) (T_acts : Int32) (T_keeps : Int32) (T_wokes : Int32) (T_texted : Int32) (T_at : Int32) (T_readGuests : Int32) (T_readWishes : Int32) (T_readBegins : Int32) (T_here : Int32) (T_stands : Int32) (T_many : Int32) (T_rounds : Int32) (T_st : (Nat → Int32)) (T_wishA : (Nat → Int32)) (T_wishKind : (Nat → Int32)) (T_wishB : (Nat → Int32)) (R : Int32) (hr : fX9_standing K x1 T_wishes T_st T_wishA T_wishKind T_wishB = some R) : Met l yX9_standing wsX9_standing rmX9_standing (va_Pc ([.ref a_T, .int x1] : List Value) (PcW (dC, dI) (tysA cC cI cJ) sz [(a_T, .inr (9, [.int T_guests, .ref a_T_kinds, .int T_wishes, .ref a_T_wishKind, .ref a_T_wishA, .ref a_T_wishB, .int T_begins, .ref a_T_st, .int T_acts, .ref a_T_was, .int T_keeps, .ref a_T_kept, .int T_wokes, .ref a_T_woke, .ref a_T_text, .int T_texted, .int T_at, .ref a_T_told, .int T_readGuests, .ref a_T_readKinds, .ref a_T_readFloors, .int T_readWishes, .ref a_T_readWishKind, .ref a_T_readWishA, .ref a_T_readWishB, .int T_readBegins, .int T_here, .int T_stands, .int T_many, .int T_rounds, .ref a_T_come, .ref a_T_keptBy, .ref a_T_endsAt, .ref a_T_order, .ref a_T_time, .ref a_T_place])), (a_T_st, .inl (cI, 8, .inl T_st)), (a_T_wishA, .inl (cI, 9, .inl T_wishA)), (a_T_wishKind, .inl (cI, 9, .inl T_wishKind)), (a_T_wishB, .inl (cI, 9, .inl T_wishB))])) (va_Qi (fun r (_ : Unit) => r = R) (fun _ => BW (dC, dI) (tysA cC cI cJ) (va_A [(a_T, .inr (9, [.int T_guests, .ref a_T_kinds, .int T_wishes, .ref a_T_wishKind, .ref a_T_wishA, .ref a_T_wishB, .int T_begins, .ref a_T_st, .int T_acts, .ref a_T_was, .int T_keeps, .ref a_T_kept, .int T_wokes, .ref a_T_woke, .ref a_T_text, .int T_texted, .int T_at, .ref a_T_told, .int T_readGuests, .ref a_T_readKinds, .ref a_T_readFloors, .int T_readWishes, .ref a_T_readWishKind, .ref a_T_readWishA, .ref a_T_readWishB, .int T_readBegins, .int T_here, .int T_stands, .int T_many, .int T_rounds, .ref a_T_come, .ref a_T_keptBy, .ref a_T_endsAt, .ref a_T_order, .ref a_T_time, .ref a_T_place])), (a_T_st, .inl (cI, 8, .inl T_st)), (a_T_wishA, .inl (cI, 9, .inl T_wishA)), (a_T_wishKind, .inl (cI, 9, .inl T_wishKind)), (a_T_wishB, .inl (cI, 9, .inl T_wishB))] sz) [(a_T, .inr (9, [.int T_guests, .ref a_T_kinds, .int T_wishes, .ref a_T_wishKind, .ref a_T_wishA, .ref a_T_wishB, .int T_begins, .ref a_T_st, .int T_acts, .ref a_T_was, .int T_keeps, .ref a_T_kept, .int T_wokes, .ref a_T_woke, .ref a_T_text, .int T_texted, .int T_at, .ref a_T_told, .int T_readGuests, .ref a_T_readKinds, .ref a_T_readFloors, .int T_readWishes, .ref a_T_readWishKind, .ref a_T_readWishA, .ref a_T_readWishB, .int T_readBegins, .int T_here, .int T_stands, .int T_many, .int T_rounds, .ref a_T_come, .ref a_T_keptBy, .ref a_T_endsAt, .ref a_T_order, .ref a_T_time, .ref a_T_place])), (a_T_st, .inl (cI, 8, .inl T_st)), (a_T_wishA, .inl (cI, 9, .inl T_wishA)), (a_T_wishKind, .inl (cI, 9, .inl T_wishKind)), (a_T_wishB, .inl (cI, 9, .inl T_wishB))]) (va_A [(a_T, .inr (9, [.int T_guests, .ref a_T_kinds, .int T_wishes, .ref a_T_wishKind, .ref a_T_wishA, .ref a_T_wishB, .int T_begins, .ref a_T_st, .int T_acts, .ref a_T_was, .int T_keeps, .ref a_T_kept, .int T_wokes, .ref a_T_woke, .ref a_T_text, .int T_texted, .int T_at, .ref a_T_told, .int T_readGuests, .ref a_T_readKinds, .ref a_T_readFloors, .int T_readWishes, .ref a_T_readWishKind, .ref a_T_readWishA, .ref a_T_readWishB, .int T_readBegins, .int T_here, .int T_stands, .int T_many, .int T_rounds, .ref a_T_come, .ref a_T_keptBy, .ref a_T_endsAt, .ref a_T_order, .ref a_T_time, .ref a_T_place])), (a_T_st, .inl (cI, 8, .inl T_st)), (a_T_wishA, .inl (cI, 9, .inl T_wishA)), (a_T_wishKind, .inl (cI, 9, .inl T_wishKind)), (a_T_wishB, .inl (cI, 9, .inl T_wishB))] sz)) 0 0 (va_A [(a_T, .inr (9, [.int T_guests, .ref a_T_kinds, .int T_wishes, .ref a_T_wishKind, .ref a_T_wishA, .ref a_T_wishB, .int T_begins, .ref a_T_st, .int T_acts, .ref a_T_was, .int T_keeps, .ref a_T_kept, .int T_wokes, .ref a_T_woke, .ref a_T_text, .int T_texted, .int T_at, .ref a_T_told, .int T_readGuests, .ref a_T_readKinds, .ref a_T_readFloors, .int T_readWishes, .ref a_T_readWishKind, .ref a_T_readWishA, .ref a_T_readWishB, .int T_readBegins, .int T_here, .int T_stands, .int T_many, .int T_rounds, .ref a_T_come, .ref a_T_keptBy, .ref a_T_endsAt, .ref a_T_order, .ref a_T_time, .ref a_T_place])), (a_T_st, .inl (cI, 8, .inl T_st)), (a_T_wishA, .inl (cI, 9, .inl T_wishA)), (a_T_wishKind, .inl (cI, 9, .inl T_wishKind)), (a_T_wishB, .inl (cI, 9, .inl T_wishB))] sz) := by
  refine Met.ofW (cc := cX9_standing) (maxL := 5) (ret := (some .int)) (by decide) rfl ?_
  intro p e s m args below meth c s₁ B hml hv
  obtain ⟨rfl, hsz, hP, hK, hD0, hN⟩ := hv
  have hx := B.exec
  have hb := B.bytes
  have hrt := B.returns
  have hts := atoms_spec (ws := wsX9_standing) B.pre
  have hown : s.vm.findClass RX9 = some m.cls := findClass_of_methodNamed B.named
  have hlocks := B.notSynchronized
  subst hsz
  have hD := hD0.self (sz := s.heap.size)
  generalize hAe : va_A [(a_T, .inr (9, [.int T_guests, .ref a_T_kinds, .int T_wishes, .ref a_T_wishKind, .ref a_T_wishA, .ref a_T_wishB, .int T_begins, .ref a_T_st, .int T_acts, .ref a_T_was, .int T_keeps, .ref a_T_kept, .int T_wokes, .ref a_T_woke, .ref a_T_text, .int T_texted, .int T_at, .ref a_T_told, .int T_readGuests, .ref a_T_readKinds, .ref a_T_readFloors, .int T_readWishes, .ref a_T_readWishKind, .ref a_T_readWishA, .ref a_T_readWishB, .int T_readBegins, .int T_here, .int T_stands, .int T_many, .int T_rounds, .ref a_T_come, .ref a_T_keptBy, .ref a_T_endsAt, .ref a_T_order, .ref a_T_time, .ref a_T_place])), (a_T_st, .inl (cI, 8, .inl T_st)), (a_T_wishA, .inl (cI, 9, .inl T_wishA)), (a_T_wishKind, .inl (cI, 9, .inl T_wishKind)), (a_T_wishB, .inl (cI, 9, .inl T_wishB))] s.heap.size = A at hD ⊢
  have hA : ∀ q : Nat, s.heap.size ≤ q → A q := fun q h => by rw [← hAe]; exact Or.inr h
  have hS : va_S A s.heap s.heap [] := va_S.rf
  have hl := lv_entry ([.ref a_T, .int x1] : List Value) (n := 5) (Nat.le_of_ble_eq_true rfl)
  rw [lg_entry_eq]
  generalize (lg_sl ([.ref a_T, .int x1] : List Value) ++ List.replicate (5 - (lg_sl ([.ref a_T, .int x1] : List Value)).length) Slot.unset).toArray = ls at hl ⊢
  replace hl : lv_has ls 5 [(0, .ref a_T), (1, .int x1)] := hl
  obtain ⟨Q, hQ⟩ : ∃ Q, Q = MQ below (va_Qi (fun r (_ : Unit) => r = R) (fun _ => BW (dC, dI) (tysA cC cI cJ) A [(a_T, .inr (9, [.int T_guests, .ref a_T_kinds, .int T_wishes, .ref a_T_wishKind, .ref a_T_wishA, .ref a_T_wishB, .int T_begins, .ref a_T_st, .int T_acts, .ref a_T_was, .int T_keeps, .ref a_T_kept, .int T_wokes, .ref a_T_woke, .ref a_T_text, .int T_texted, .int T_at, .ref a_T_told, .int T_readGuests, .ref a_T_readKinds, .ref a_T_readFloors, .int T_readWishes, .ref a_T_readWishKind, .ref a_T_readWishA, .ref a_T_readWishB, .int T_readBegins, .int T_here, .int T_stands, .int T_many, .int T_rounds, .ref a_T_come, .ref a_T_keptBy, .ref a_T_endsAt, .ref a_T_order, .ref a_T_time, .ref a_T_place])), (a_T_st, .inl (cI, 8, .inl T_st)), (a_T_wishA, .inl (cI, 9, .inl T_wishA)), (a_T_wishKind, .inl (cI, 9, .inl T_wishKind)), (a_T_wishB, .inl (cI, 9, .inl T_wishB))]) A) ([.ref a_T, .int x1] : List Value).toArray s 0 0 A := ⟨_, rfl⟩
  rw [← hQ]
  suffices hE : WG p l e rmX9_standing s m ([.ref a_T, .int x1] : List Value).toArray below meth c 0 0 Q (dC, dI) A 0 5 [(a_T, .inr (9, [.int T_guests, .ref a_T_kinds, .int T_wishes, .ref a_T_wishKind, .ref a_T_wishA, .ref a_T_wishB, .int T_begins, .ref a_T_st, .int T_acts, .ref a_T_was, .int T_keeps, .ref a_T_kept, .int T_wokes, .ref a_T_woke, .ref a_T_text, .int T_texted, .int T_at, .ref a_T_told, .int T_readGuests, .ref a_T_readKinds, .ref a_T_readFloors, .int T_readWishes, .ref a_T_readWishKind, .ref a_T_readWishA, .ref a_T_readWishB, .int T_readBegins, .int T_here, .int T_stands, .int T_many, .int T_rounds, .ref a_T_come, .ref a_T_keptBy, .ref a_T_endsAt, .ref a_T_order, .ref a_T_time, .ref a_T_place])), (a_T_st, .inl (cI, 8, .inl T_st)), (a_T_wishA, .inl (cI, 9, .inl T_wishA)), (a_T_wishKind, .inl (cI, 9, .inl T_wishKind)), (a_T_wishB, .inl (cI, 9, .inl T_wishB))] [(0, .ref a_T), (1, .int x1)] [] from hE _ _ _ hP hD hS hl
  clear hP hD hS hl hD0 hAe
  intro H locs ls hP hD hS hl
  unfold fX9_standing at hr
  refine lv_iconst (v := 0) hx hb dX9_standing_0 (by decide) ?_
  refine lv_istore_n (lv' := [(2, .int 0), (0, .ref a_T), (1, .int x1)]) hx hb dX9_standing_1 rfl hl (by decide) rfl (fun ls hl => ?_)
  refine lv_iconst (v := 0) hx hb dX9_standing_2 (by decide) ?_
  refine lv_istore_n (lv' := [(3, .int 0), (2, .int 0), (0, .ref a_T), (1, .int x1)]) hx hb dX9_standing_3 rfl hl (by decide) rfl (fun ls hl => ?_)
  have hL1 : ∀ (n1 : Nat) (x2 : Int32) (x3 : Int32) (x2_1 : Int32), fX9_standing_L4 K x1 T_wishes T_st T_wishA T_wishKind T_wishB n1 x2 x3 = some x2_1 → WG p l e rmX9_standing s m ([.ref a_T, .int x1] : List Value).toArray below meth c 0 0 Q (dC, dI) A 87 5 [(a_T, .inr (9, [.int T_guests, .ref a_T_kinds, .int T_wishes, .ref a_T_wishKind, .ref a_T_wishA, .ref a_T_wishB, .int T_begins, .ref a_T_st, .int T_acts, .ref a_T_was, .int T_keeps, .ref a_T_kept, .int T_wokes, .ref a_T_woke, .ref a_T_text, .int T_texted, .int T_at, .ref a_T_told, .int T_readGuests, .ref a_T_readKinds, .ref a_T_readFloors, .int T_readWishes, .ref a_T_readWishKind, .ref a_T_readWishA, .ref a_T_readWishB, .int T_readBegins, .int T_here, .int T_stands, .int T_many, .int T_rounds, .ref a_T_come, .ref a_T_keptBy, .ref a_T_endsAt, .ref a_T_order, .ref a_T_time, .ref a_T_place])), (a_T_st, .inl (cI, 8, .inl T_st)), (a_T_wishA, .inl (cI, 9, .inl T_wishA)), (a_T_wishKind, .inl (cI, 9, .inl T_wishKind)), (a_T_wishB, .inl (cI, 9, .inl T_wishB))] [(2, .int x2_1)] [] → WG p l e rmX9_standing s m ([.ref a_T, .int x1] : List Value).toArray below meth c 0 0 Q (dC, dI) A 4 5 [(a_T, .inr (9, [.int T_guests, .ref a_T_kinds, .int T_wishes, .ref a_T_wishKind, .ref a_T_wishA, .ref a_T_wishB, .int T_begins, .ref a_T_st, .int T_acts, .ref a_T_was, .int T_keeps, .ref a_T_kept, .int T_wokes, .ref a_T_woke, .ref a_T_text, .int T_texted, .int T_at, .ref a_T_told, .int T_readGuests, .ref a_T_readKinds, .ref a_T_readFloors, .int T_readWishes, .ref a_T_readWishKind, .ref a_T_readWishA, .ref a_T_readWishB, .int T_readBegins, .int T_here, .int T_stands, .int T_many, .int T_rounds, .ref a_T_come, .ref a_T_keptBy, .ref a_T_endsAt, .ref a_T_order, .ref a_T_time, .ref a_T_place])), (a_T_st, .inl (cI, 8, .inl T_st)), (a_T_wishA, .inl (cI, 9, .inl T_wishA)), (a_T_wishKind, .inl (cI, 9, .inl T_wishKind)), (a_T_wishB, .inl (cI, 9, .inl T_wishB))] [(0, .ref a_T), (1, .int x1), (2, .int x2), (3, .int x3)] [] := by
    intro n1
    induction n1 with
    | zero =>
      intro x2 x3 x2_1 hr
      rw [fX9_standing_L4] at hr
      cases hr
    | succ n1 ih4 =>
      intro x2 x3 x2_1 hr hX1 H locs ls hP hD hS hl
      rw [fX9_standing_L4] at hr
      refine lv_iload_n hx hb dX9_standing_4 rfl (lv_at hl 3 rfl) ?_
      refine lv_aload_n hx hb dX9_standing_5 rfl (lv_at hl 0 rfl) ?_
      refine va_get (D := (dC, dI)) (ci := 9) (v := .int T_wishes) (C := RX9) (T := TX9) (N := 36) hx hb hts inX9_standing_X9 hown hK hP 0 rfl rfl 2 (by decide) (hts _ mbX9_standing_0) (fun _ h9 => h9) rfl dX9_standing_6 ?_
      refine lv_icmp_ge (tgt := 87) hx hb dX9_standing_9 (by decide) (fun c1 => ?_) (fun c1 => ?_)
      · replace hr := it_t hr c1
        have he := Option.some.inj hr
        cases he
        exact hX1 H locs ls hP hD hS (lv_sub hl [2] rfl)
      · replace hr := it_f hr c1
        refine lv_aload_n hx hb dX9_standing_12 rfl (lv_at hl 0 rfl) ?_
        refine va_get (D := (dC, dI)) (ci := 9) (v := .ref a_T_st) (C := RX9) (T := TX9) (N := 36) hx hb hts inX9_standing_X9 hown hK hP 0 rfl rfl 7 (by decide) (hts _ mbX9_standing_2) (fun _ h9 => h9) rfl dX9_standing_13 ?_
        refine lv_iconst (v := 1) hx hb dX9_standing_16 (by decide) ?_
        obtain ⟨g1, hr⟩ := gd_some hr
        refine va_iald hx hb hK hP 1 1 rfl rfl g1 dX9_standing_17 ?_
        refine lv_iload_n hx hb dX9_standing_18 rfl (lv_at hl 3 rfl) ?_
        obtain ⟨r, hc1, hr⟩ := bd1_some hr
        refine call_i (D := (dC, dI)) (tys := tysA cC cI cJ) (wc := []) (wr := [(a_T, .inr (9, [.int T_guests, .ref a_T_kinds, .int T_wishes, .ref a_T_wishKind, .ref a_T_wishA, .ref a_T_wishB, .int T_begins, .ref a_T_st, .int T_acts, .ref a_T_was, .int T_keeps, .ref a_T_kept, .int T_wokes, .ref a_T_woke, .ref a_T_text, .int T_texted, .int T_at, .ref a_T_told, .int T_readGuests, .ref a_T_readKinds, .ref a_T_readFloors, .int T_readWishes, .ref a_T_readWishKind, .ref a_T_readWishA, .ref a_T_readWishB, .int T_readBegins, .int T_here, .int T_stands, .int T_many, .int T_rounds, .ref a_T_come, .ref a_T_keptBy, .ref a_T_endsAt, .ref a_T_order, .ref a_T_time, .ref a_T_place])), (a_T_st, .inl (cI, 8, .inl T_st)), (a_T_wishA, .inl (cI, 9, .inl T_wishA)), (a_T_wishKind, .inl (cI, 9, .inl T_wishKind)), (a_T_wishB, .inl (cI, 9, .inl T_wishB))]) (w1 := []) (wn := [(a_T, .inr (9, [.int T_guests, .ref a_T_kinds, .int T_wishes, .ref a_T_wishKind, .ref a_T_wishA, .ref a_T_wishB, .int T_begins, .ref a_T_st, .int T_acts, .ref a_T_was, .int T_keeps, .ref a_T_kept, .int T_wokes, .ref a_T_woke, .ref a_T_text, .int T_texted, .int T_at, .ref a_T_told, .int T_readGuests, .ref a_T_readKinds, .ref a_T_readFloors, .int T_readWishes, .ref a_T_readWishKind, .ref a_T_readWishA, .ref a_T_readWishB, .int T_readBegins, .int T_here, .int T_stands, .int T_many, .int T_rounds, .ref a_T_come, .ref a_T_keptBy, .ref a_T_endsAt, .ref a_T_order, .ref a_T_time, .ref a_T_place])), (a_T_st, .inl (cI, 8, .inl T_st)), (a_T_wishA, .inl (cI, 9, .inl T_wishA)), (a_T_wishKind, .inl (cI, 9, .inl T_wishKind)), (a_T_wishB, .inl (cI, 9, .inl T_wishB))]) (r0 := r) hP hD hS hA [] [0, 1, 2, 3, 4] [0, 1, 2, 3, 4] rfl rfl (by decide +kernel) (by decide +kernel) rfl (by decide +kernel) (va_runS (As := [.int (T_st (1 : Int32).toNatClampNeg), .int x3]) (rest := []) ⟨hx, hb, hml, hown, hts⟩ (kX9_has l dC dI cC cI cJ H.size K (T_st (1 : Int32).toNatClampNeg) x3 r hc1) (va_cwS 2 hts gX9_standing_X9_has rfl rfl rfl (by decide +kernel) ⟨Nat.le_of_ble_eq_true rfl, Nat.le_of_ble_eq_true rfl⟩) ⟨fbW, preW hP hD hK hN [] rfl (by decide +kernel)⟩ rfl rfl hl.1 rfl (lv_room (Nat.le_of_ble_eq_true rfl)) dX9_standing_19 ⟨Nat.zero_le _, Nat.zero_le _⟩) (fun H locs hP hD hS => ?_)
        obtain ⟨y, hj2, hr⟩ := bd1_some hr
        have hJ1 : WG p l e rmX9_standing s m ([.ref a_T, .int x1] : List Value).toArray below meth c 0 0 Q (dC, dI) A 64 5 [(a_T, .inr (9, [.int T_guests, .ref a_T_kinds, .int T_wishes, .ref a_T_wishKind, .ref a_T_wishA, .ref a_T_wishB, .int T_begins, .ref a_T_st, .int T_acts, .ref a_T_was, .int T_keeps, .ref a_T_kept, .int T_wokes, .ref a_T_woke, .ref a_T_text, .int T_texted, .int T_at, .ref a_T_told, .int T_readGuests, .ref a_T_readKinds, .ref a_T_readFloors, .int T_readWishes, .ref a_T_readWishKind, .ref a_T_readWishA, .ref a_T_readWishB, .int T_readBegins, .int T_here, .int T_stands, .int T_many, .int T_rounds, .ref a_T_come, .ref a_T_keptBy, .ref a_T_endsAt, .ref a_T_order, .ref a_T_time, .ref a_T_place])), (a_T_st, .inl (cI, 8, .inl T_st)), (a_T_wishA, .inl (cI, 9, .inl T_wishA)), (a_T_wishKind, .inl (cI, 9, .inl T_wishKind)), (a_T_wishB, .inl (cI, 9, .inl T_wishB))] [(0, .ref a_T), (1, .int x1), (2, .int x2), (3, .int x3)] [.int y] := by
          intro H locs ls hP hD hS hl
          refine lv_istore (lv' := [(4, .int y), (0, .ref a_T), (1, .int x1), (2, .int x2), (3, .int x3)]) hx hb dX9_standing_64 hl (by decide) rfl (fun ls hl => ?_)
          refine lv_iload_n hx hb dX9_standing_66 rfl (lv_at hl 3 rfl) ?_
          refine lv_iload hx hb dX9_standing_67 (lv_at hl 0 rfl) ?_
          obtain ⟨y_1, hj1, hr⟩ := bd1_some hr
          have hJ4 : WG p l e rmX9_standing s m ([.ref a_T, .int x1] : List Value).toArray below meth c 0 0 Q (dC, dI) A 79 5 [(a_T, .inr (9, [.int T_guests, .ref a_T_kinds, .int T_wishes, .ref a_T_wishKind, .ref a_T_wishA, .ref a_T_wishB, .int T_begins, .ref a_T_st, .int T_acts, .ref a_T_was, .int T_keeps, .ref a_T_kept, .int T_wokes, .ref a_T_woke, .ref a_T_text, .int T_texted, .int T_at, .ref a_T_told, .int T_readGuests, .ref a_T_readKinds, .ref a_T_readFloors, .int T_readWishes, .ref a_T_readWishKind, .ref a_T_readWishA, .ref a_T_readWishB, .int T_readBegins, .int T_here, .int T_stands, .int T_many, .int T_rounds, .ref a_T_come, .ref a_T_keptBy, .ref a_T_endsAt, .ref a_T_order, .ref a_T_time, .ref a_T_place])), (a_T_st, .inl (cI, 8, .inl T_st)), (a_T_wishA, .inl (cI, 9, .inl T_wishA)), (a_T_wishKind, .inl (cI, 9, .inl T_wishKind)), (a_T_wishB, .inl (cI, 9, .inl T_wishB))] [(0, .ref a_T), (1, .int x1), (3, .int x3)] [.int y_1, .int x2] := by
            intro H locs ls hP hD hS hl
            refine lv_ior hx hb dX9_standing_79 ?_
            obtain ⟨x2_2, e1, hr⟩ := nm_el hr
            refine lv_nmi e1 ?_
            refine lv_istore_n (lv' := [(2, .int x2_2), (0, .ref a_T), (1, .int x1), (3, .int x3)]) hx hb dX9_standing_80 rfl hl (by decide) rfl (fun ls hl => ?_)
            obtain ⟨x3_1, e2, hr⟩ := nm_el hr
            refine lv_iinc (v := x3_1) (lv' := [(3, .int x3_1), (2, .int x2_2), (0, .ref a_T), (1, .int x1)]) hx hb dX9_standing_81 hl (k := 3) rfl e2.symm (by decide) rfl (fun ls hl => ?_)
            refine lv_goto (tgt := 4) hx hb dX9_standing_84 (by decide) ?_
            exact ih4 _ _ _ hr hX1 H locs ls hP hD hS (lv_sub hl [2, 3, 1, 0] rfl)
          replace hr := hj1
          refine lv_if_eq (tgt := 78) hx hb dX9_standing_69 (by decide) (fun c6 => ?_) (fun c6 => ?_)
          · replace hr := it_t hr c6
            refine lv_iconst (v := 0) hx hb dX9_standing_78 (by decide) ?_
            cases hr
            exact hJ4 H locs ls hP hD hS (lv_sub hl [1, 2, 4] rfl)
          · replace hr := it_f hr c6
            refine lv_iconst (v := 1) hx hb dX9_standing_72 (by decide) ?_
            refine lv_iload_n hx hb dX9_standing_73 rfl (lv_at hl 4 rfl) ?_
            refine lv_ishl hx hb dX9_standing_74 ?_
            refine lv_goto (tgt := 79) hx hb dX9_standing_75 (by decide) ?_
            cases hr
            exact hJ4 H locs ls hP hD hS (lv_sub hl [1, 2, 4] rfl)
        replace hr := hj2
        refine lv_if_ne (tgt := 63) hx hb dX9_standing_22 (by decide) (fun c2 => ?_) (fun c2 => ?_)
        · replace hr := it_f hr c2
          refine lv_iconst (v := 0) hx hb dX9_standing_63 (by decide) ?_
          cases hr
          exact hJ1 H locs ls hP hD hS (lv_sub hl [0, 1, 2, 3] rfl)
        · replace hr := it_t hr c2
          refine lv_iload_n hx hb dX9_standing_25 rfl (lv_at hl 1 rfl) ?_
          refine lv_aload_n hx hb dX9_standing_26 rfl (lv_at hl 0 rfl) ?_
          refine va_get (D := (dC, dI)) (ci := 9) (v := .ref a_T_wishA) (C := RX9) (T := TX9) (N := 36) hx hb hts inX9_standing_X9 hown hK hP 0 rfl rfl 4 (by decide) (hts _ mbX9_standing_3) (fun _ h9 => h9) rfl dX9_standing_27 ?_
          refine lv_iload_n hx hb dX9_standing_30 rfl (lv_at hl 3 rfl) ?_
          obtain ⟨g2, hr⟩ := gd_some hr
          refine va_iald hx hb hK hP 2 1 rfl rfl g2 dX9_standing_31 ?_
          obtain ⟨r_1, hc2, hr⟩ := bd1_some hr
          refine call_i (D := (dC, dI)) (tys := tysA cC cI cJ) (wc := []) (wr := [(a_T, .inr (9, [.int T_guests, .ref a_T_kinds, .int T_wishes, .ref a_T_wishKind, .ref a_T_wishA, .ref a_T_wishB, .int T_begins, .ref a_T_st, .int T_acts, .ref a_T_was, .int T_keeps, .ref a_T_kept, .int T_wokes, .ref a_T_woke, .ref a_T_text, .int T_texted, .int T_at, .ref a_T_told, .int T_readGuests, .ref a_T_readKinds, .ref a_T_readFloors, .int T_readWishes, .ref a_T_readWishKind, .ref a_T_readWishA, .ref a_T_readWishB, .int T_readBegins, .int T_here, .int T_stands, .int T_many, .int T_rounds, .ref a_T_come, .ref a_T_keptBy, .ref a_T_endsAt, .ref a_T_order, .ref a_T_time, .ref a_T_place])), (a_T_st, .inl (cI, 8, .inl T_st)), (a_T_wishA, .inl (cI, 9, .inl T_wishA)), (a_T_wishKind, .inl (cI, 9, .inl T_wishKind)), (a_T_wishB, .inl (cI, 9, .inl T_wishB))]) (w1 := []) (wn := [(a_T, .inr (9, [.int T_guests, .ref a_T_kinds, .int T_wishes, .ref a_T_wishKind, .ref a_T_wishA, .ref a_T_wishB, .int T_begins, .ref a_T_st, .int T_acts, .ref a_T_was, .int T_keeps, .ref a_T_kept, .int T_wokes, .ref a_T_woke, .ref a_T_text, .int T_texted, .int T_at, .ref a_T_told, .int T_readGuests, .ref a_T_readKinds, .ref a_T_readFloors, .int T_readWishes, .ref a_T_readWishKind, .ref a_T_readWishA, .ref a_T_readWishB, .int T_readBegins, .int T_here, .int T_stands, .int T_many, .int T_rounds, .ref a_T_come, .ref a_T_keptBy, .ref a_T_endsAt, .ref a_T_order, .ref a_T_time, .ref a_T_place])), (a_T_st, .inl (cI, 8, .inl T_st)), (a_T_wishA, .inl (cI, 9, .inl T_wishA)), (a_T_wishKind, .inl (cI, 9, .inl T_wishKind)), (a_T_wishB, .inl (cI, 9, .inl T_wishB))]) (r0 := r_1) hP hD hS hA [] [0, 1, 2, 3, 4] [0, 1, 2, 3, 4] rfl rfl (by decide +kernel) (by decide +kernel) rfl (by decide +kernel) (va_runS (As := [.int x1, .int (T_wishA x3.toNatClampNeg)]) (rest := []) ⟨hx, hb, hml, hown, hts⟩ (kX9_has l dC dI cC cI cJ H.size K x1 (T_wishA x3.toNatClampNeg) r_1 hc2) (va_cwS 2 hts gX9_standing_X9_has rfl rfl rfl (by decide +kernel) ⟨Nat.le_of_ble_eq_true rfl, Nat.le_of_ble_eq_true rfl⟩) ⟨fbW, preW hP hD hK hN [] rfl (by decide +kernel)⟩ rfl rfl hl.1 rfl (lv_room (Nat.le_of_ble_eq_true rfl)) dX9_standing_32 ⟨Nat.zero_le _, Nat.zero_le _⟩) (fun H locs hP hD hS => ?_)
          obtain ⟨X3, hj, hi3, hk⟩ := bs0_some hr
          have hJ2 : X3 = .inr () → WG p l e rmX9_standing s m ([.ref a_T, .int x1] : List Value).toArray below meth c 0 0 Q (dC, dI) A 63 5 [(a_T, .inr (9, [.int T_guests, .ref a_T_kinds, .int T_wishes, .ref a_T_wishKind, .ref a_T_wishA, .ref a_T_wishB, .int T_begins, .ref a_T_st, .int T_acts, .ref a_T_was, .int T_keeps, .ref a_T_kept, .int T_wokes, .ref a_T_woke, .ref a_T_text, .int T_texted, .int T_at, .ref a_T_told, .int T_readGuests, .ref a_T_readKinds, .ref a_T_readFloors, .int T_readWishes, .ref a_T_readWishKind, .ref a_T_readWishA, .ref a_T_readWishB, .int T_readBegins, .int T_here, .int T_stands, .int T_many, .int T_rounds, .ref a_T_come, .ref a_T_keptBy, .ref a_T_endsAt, .ref a_T_order, .ref a_T_time, .ref a_T_place])), (a_T_st, .inl (cI, 8, .inl T_st)), (a_T_wishA, .inl (cI, 9, .inl T_wishA)), (a_T_wishKind, .inl (cI, 9, .inl T_wishKind)), (a_T_wishB, .inl (cI, 9, .inl T_wishB))] [(0, .ref a_T), (1, .int x1), (2, .int x2), (3, .int x3)] [] := by
            intro he
            replace hr := hk he
            intro H locs ls hP hD hS hl
            refine lv_iconst (v := 0) hx hb dX9_standing_63 (by decide) ?_
            cases hr
            exact hJ1 H locs ls hP hD hS (lv_sub hl [0, 1, 2, 3] rfl)
          replace hr := hj
          refine lv_if_eq (tgt := 63) hx hb dX9_standing_35 (by decide) (fun c3 => ?_) (fun c3 => ?_)
          · replace hr := it_t hr c3
            exact hJ2 (Option.some.inj hr).symm H locs ls hP hD hS (lv_sub hl [0, 1, 2, 3] rfl)
          · replace hr := it_f hr c3
            refine lv_aload_n hx hb dX9_standing_38 rfl (lv_at hl 0 rfl) ?_
            refine lv_iload_n hx hb dX9_standing_39 rfl (lv_at hl 3 rfl) ?_
            obtain ⟨r_2, hc3, hr⟩ := bd1_some hr
            refine call_i (D := (dC, dI)) (tys := tysA cC cI cJ) (wc := [(a_T, .inr (9, [.int T_guests, .ref a_T_kinds, .int T_wishes, .ref a_T_wishKind, .ref a_T_wishA, .ref a_T_wishB, .int T_begins, .ref a_T_st, .int T_acts, .ref a_T_was, .int T_keeps, .ref a_T_kept, .int T_wokes, .ref a_T_woke, .ref a_T_text, .int T_texted, .int T_at, .ref a_T_told, .int T_readGuests, .ref a_T_readKinds, .ref a_T_readFloors, .int T_readWishes, .ref a_T_readWishKind, .ref a_T_readWishA, .ref a_T_readWishB, .int T_readBegins, .int T_here, .int T_stands, .int T_many, .int T_rounds, .ref a_T_come, .ref a_T_keptBy, .ref a_T_endsAt, .ref a_T_order, .ref a_T_time, .ref a_T_place])), (a_T_wishKind, .inl (cI, 9, .inl T_wishKind))]) (wr := [(a_T_st, .inl (cI, 8, .inl T_st)), (a_T_wishA, .inl (cI, 9, .inl T_wishA)), (a_T_wishB, .inl (cI, 9, .inl T_wishB))]) (w1 := [(a_T, .inr (9, [.int T_guests, .ref a_T_kinds, .int T_wishes, .ref a_T_wishKind, .ref a_T_wishA, .ref a_T_wishB, .int T_begins, .ref a_T_st, .int T_acts, .ref a_T_was, .int T_keeps, .ref a_T_kept, .int T_wokes, .ref a_T_woke, .ref a_T_text, .int T_texted, .int T_at, .ref a_T_told, .int T_readGuests, .ref a_T_readKinds, .ref a_T_readFloors, .int T_readWishes, .ref a_T_readWishKind, .ref a_T_readWishA, .ref a_T_readWishB, .int T_readBegins, .int T_here, .int T_stands, .int T_many, .int T_rounds, .ref a_T_come, .ref a_T_keptBy, .ref a_T_endsAt, .ref a_T_order, .ref a_T_time, .ref a_T_place])), (a_T_wishKind, .inl (cI, 9, .inl T_wishKind))]) (wn := [(a_T, .inr (9, [.int T_guests, .ref a_T_kinds, .int T_wishes, .ref a_T_wishKind, .ref a_T_wishA, .ref a_T_wishB, .int T_begins, .ref a_T_st, .int T_acts, .ref a_T_was, .int T_keeps, .ref a_T_kept, .int T_wokes, .ref a_T_woke, .ref a_T_text, .int T_texted, .int T_at, .ref a_T_told, .int T_readGuests, .ref a_T_readKinds, .ref a_T_readFloors, .int T_readWishes, .ref a_T_readWishKind, .ref a_T_readWishA, .ref a_T_readWishB, .int T_readBegins, .int T_here, .int T_stands, .int T_many, .int T_rounds, .ref a_T_come, .ref a_T_keptBy, .ref a_T_endsAt, .ref a_T_order, .ref a_T_time, .ref a_T_place])), (a_T_st, .inl (cI, 8, .inl T_st)), (a_T_wishA, .inl (cI, 9, .inl T_wishA)), (a_T_wishKind, .inl (cI, 9, .inl T_wishKind)), (a_T_wishB, .inl (cI, 9, .inl T_wishB))]) (r0 := r_2) hP hD hS hA [0, 3] [1, 2, 4] [3, 0, 1, 4, 2] rfl rfl (by decide +kernel) (by decide +kernel) rfl (by decide +kernel) (va_runV (As := [.int x3]) (rest := []) ⟨hx, hb, hml, hown, hts⟩ (kX9_isOfTwo l dC dI cC cI cJ H.size K a_T a_T_kinds a_T_wishKind a_T_wishA a_T_wishB a_T_st a_T_was a_T_kept a_T_woke a_T_text a_T_told a_T_readKinds a_T_readFloors a_T_readWishKind a_T_readWishA a_T_readWishB a_T_come a_T_keptBy a_T_endsAt a_T_order a_T_time a_T_place x3 T_guests T_wishes T_begins T_acts T_keeps T_wokes T_texted T_at T_readGuests T_readWishes T_readBegins T_here T_stands T_many T_rounds T_wishKind r_2 hc3) (cwV 1 hts gX9_standing_X9_isOfTwo rfl rfl rfl (by decide +kernel) ⟨Nat.le_of_ble_eq_true rfl, Nat.le_of_ble_eq_true rfl⟩) ⟨fbW, va_recv hK hP (ci := 9) (q0 := 0) rfl rfl, preW hP hD hK hN [0, 3] rfl (by decide +kernel)⟩ rfl rfl hl.1 rfl (lv_room (Nat.le_of_ble_eq_true rfl)) dX9_standing_40 ⟨Nat.zero_le _, Nat.zero_le _⟩) (fun H locs hP hD hS => ?_)
            obtain ⟨X4, hj, hi4, hk⟩ := bs0_some hr
            have hJ3 : X4 = .inr () → WG p l e rmX9_standing s m ([.ref a_T, .int x1] : List Value).toArray below meth c 0 0 Q (dC, dI) A 59 5 [(a_T, .inr (9, [.int T_guests, .ref a_T_kinds, .int T_wishes, .ref a_T_wishKind, .ref a_T_wishA, .ref a_T_wishB, .int T_begins, .ref a_T_st, .int T_acts, .ref a_T_was, .int T_keeps, .ref a_T_kept, .int T_wokes, .ref a_T_woke, .ref a_T_text, .int T_texted, .int T_at, .ref a_T_told, .int T_readGuests, .ref a_T_readKinds, .ref a_T_readFloors, .int T_readWishes, .ref a_T_readWishKind, .ref a_T_readWishA, .ref a_T_readWishB, .int T_readBegins, .int T_here, .int T_stands, .int T_many, .int T_rounds, .ref a_T_come, .ref a_T_keptBy, .ref a_T_endsAt, .ref a_T_order, .ref a_T_time, .ref a_T_place])), (a_T_st, .inl (cI, 8, .inl T_st)), (a_T_wishA, .inl (cI, 9, .inl T_wishA)), (a_T_wishKind, .inl (cI, 9, .inl T_wishKind)), (a_T_wishB, .inl (cI, 9, .inl T_wishB))] [(0, .ref a_T), (1, .int x1), (2, .int x2), (3, .int x3)] [] := by
              intro he
              replace hr := hk he
              intro H locs ls hP hD hS hl
              refine lv_iconst (v := 1) hx hb dX9_standing_59 (by decide) ?_
              refine lv_goto (tgt := 64) hx hb dX9_standing_60 (by decide) ?_
              have he := Option.some.inj hr
              replace he := hi3 _ he.symm
              cases he
              exact hJ1 H locs ls hP hD hS (lv_sub hl [0, 1, 2, 3] rfl)
            replace hr := hj
            refine lv_if_eq (tgt := 59) hx hb dX9_standing_43 (by decide) (fun c4 => ?_) (fun c4 => ?_)
            · replace hr := it_t hr c4
              exact hJ3 (Option.some.inj hr).symm H locs ls hP hD hS (lv_sub hl [0, 1, 2, 3] rfl)
            · replace hr := it_f hr c4
              refine lv_iload_n hx hb dX9_standing_46 rfl (lv_at hl 1 rfl) ?_
              refine lv_aload_n hx hb dX9_standing_47 rfl (lv_at hl 0 rfl) ?_
              refine va_get (D := (dC, dI)) (ci := 9) (v := .ref a_T_wishB) (C := RX9) (T := TX9) (N := 36) hx hb hts inX9_standing_X9 hown hK hP 0 rfl rfl 5 (by decide) (hts _ mbX9_standing_4) (fun _ h9 => h9) rfl dX9_standing_48 ?_
              refine lv_iload_n hx hb dX9_standing_51 rfl (lv_at hl 3 rfl) ?_
              obtain ⟨g3, hr⟩ := gd_some hr
              refine va_iald hx hb hK hP 4 1 rfl rfl g3 dX9_standing_52 ?_
              obtain ⟨r_3, hc4, hr⟩ := bd1_some hr
              refine call_i (D := (dC, dI)) (tys := tysA cC cI cJ) (wc := []) (wr := [(a_T, .inr (9, [.int T_guests, .ref a_T_kinds, .int T_wishes, .ref a_T_wishKind, .ref a_T_wishA, .ref a_T_wishB, .int T_begins, .ref a_T_st, .int T_acts, .ref a_T_was, .int T_keeps, .ref a_T_kept, .int T_wokes, .ref a_T_woke, .ref a_T_text, .int T_texted, .int T_at, .ref a_T_told, .int T_readGuests, .ref a_T_readKinds, .ref a_T_readFloors, .int T_readWishes, .ref a_T_readWishKind, .ref a_T_readWishA, .ref a_T_readWishB, .int T_readBegins, .int T_here, .int T_stands, .int T_many, .int T_rounds, .ref a_T_come, .ref a_T_keptBy, .ref a_T_endsAt, .ref a_T_order, .ref a_T_time, .ref a_T_place])), (a_T_st, .inl (cI, 8, .inl T_st)), (a_T_wishA, .inl (cI, 9, .inl T_wishA)), (a_T_wishKind, .inl (cI, 9, .inl T_wishKind)), (a_T_wishB, .inl (cI, 9, .inl T_wishB))]) (w1 := []) (wn := [(a_T, .inr (9, [.int T_guests, .ref a_T_kinds, .int T_wishes, .ref a_T_wishKind, .ref a_T_wishA, .ref a_T_wishB, .int T_begins, .ref a_T_st, .int T_acts, .ref a_T_was, .int T_keeps, .ref a_T_kept, .int T_wokes, .ref a_T_woke, .ref a_T_text, .int T_texted, .int T_at, .ref a_T_told, .int T_readGuests, .ref a_T_readKinds, .ref a_T_readFloors, .int T_readWishes, .ref a_T_readWishKind, .ref a_T_readWishA, .ref a_T_readWishB, .int T_readBegins, .int T_here, .int T_stands, .int T_many, .int T_rounds, .ref a_T_come, .ref a_T_keptBy, .ref a_T_endsAt, .ref a_T_order, .ref a_T_time, .ref a_T_place])), (a_T_st, .inl (cI, 8, .inl T_st)), (a_T_wishA, .inl (cI, 9, .inl T_wishA)), (a_T_wishKind, .inl (cI, 9, .inl T_wishKind)), (a_T_wishB, .inl (cI, 9, .inl T_wishB))]) (r0 := r_3) hP hD hS hA [] [0, 1, 2, 3, 4] [0, 1, 2, 3, 4] rfl rfl (by decide +kernel) (by decide +kernel) rfl (by decide +kernel) (va_runS (As := [.int x1, .int (T_wishB x3.toNatClampNeg)]) (rest := []) ⟨hx, hb, hml, hown, hts⟩ (kX9_has l dC dI cC cI cJ H.size K x1 (T_wishB x3.toNatClampNeg) r_3 hc4) (va_cwS 2 hts gX9_standing_X9_has rfl rfl rfl (by decide +kernel) ⟨Nat.le_of_ble_eq_true rfl, Nat.le_of_ble_eq_true rfl⟩) ⟨fbW, preW hP hD hK hN [] rfl (by decide +kernel)⟩ rfl rfl hl.1 rfl (lv_room (Nat.le_of_ble_eq_true rfl)) dX9_standing_53 ⟨Nat.zero_le _, Nat.zero_le _⟩) (fun H locs hP hD hS => ?_)
              refine lv_if_eq (tgt := 63) hx hb dX9_standing_56 (by decide) (fun c5 => ?_) (fun c5 => ?_)
              · replace hr := it_t hr c5
                have he := Option.some.inj hr
                replace he := hi4 _ he.symm
                exact hJ2 he.symm H locs ls hP hD hS (lv_sub hl [0, 1, 2, 3] rfl)
              · replace hr := it_f hr c5
                exact hJ3 (Option.some.inj hr).symm H locs ls hP hD hS (lv_sub hl [0, 1, 2, 3] rfl)
  obtain ⟨x2_1, hE, hr⟩ := bd1_some hr
  refine hL1 K 0 0 x2_1 hE ?_ H locs ls hP hD hS (lv_sub hl [2, 3, 1, 0] rfl)
  intro H locs ls hP hD hS hl
  refine lv_iload_n hx hb dX9_standing_87 rfl (lv_at hl 0 rfl) ?_
  have he := Option.some.inj hr
  subst he
  subst hQ
  exact ret_i hx hb hrt hK hP hD hS hlocks dX9_standing_88
def fX9_wish (K : Nat) (x1 : Int32) (x2 : Int32) (T_wishes : Int32) (T_st : (Nat → Int32)) (T_wishA : (Nat → Int32)) (T_wishKind : (Nat → Int32)) (T_wishB : (Nat → Int32)) : Option (Int32) :=
    bd1 (fX9_in K x1 0 (T_wishes - 1)) fun r =>
    if (r : Int32) = 0 then (
    some (-1))
    else (
    if (x2 : Int32) = 0 then (
    gd (¬ ((x1 : Int32) < 0 ∨ 9 ≤ x1.toNatClampNeg)) (
    some (T_wishKind x1.toNatClampNeg)))
    else (
    if (x2 : Int32) = 1 then (
    gd (¬ ((x1 : Int32) < 0 ∨ 9 ≤ x1.toNatClampNeg)) (
    some (T_wishA x1.toNatClampNeg)))
    else (
    if (x2 : Int32) = 2 then (
    gd (¬ ((x1 : Int32) < 0 ∨ 9 ≤ x1.toNatClampNeg)) (
    some (T_wishB x1.toNatClampNeg)))
    else (
    if (x2 : Int32) = 3 then (
    gd (¬ ((0 : Int32) < 0 ∨ 8 ≤ (0 : Int32).toNatClampNeg)) (
    bd1 (fX9_standing K (T_st (0 : Int32).toNatClampNeg) T_wishes T_st T_wishA T_wishKind T_wishB) fun r_1 =>
    some ((r_1 >>> (x1 &&& 31)) &&& 1)))
    else (
    some (-1))))))
theorem mbX9_wish_0 : Cond.fieldLink RX9 145 "BootsAtDawnModel" "wishes" "I" ∈ wsX9_wish := List.mem_of_getElem? (i := 1) rfl
theorem inX9_wish_X9 : ∀ w ∈ u_ws RX9 TX9 36, w ∈ wsX9_wish := fun _ h => (List.mem_cons_of_mem _ (List.mem_append_right _ h))
theorem mbX9_wish_2 : Cond.fieldLink RX9 13 "BootsAtDawnModel" "wishKind" "[I" ∈ wsX9_wish := List.mem_of_getElem? (i := 2) rfl
theorem mbX9_wish_3 : Cond.fieldLink RX9 16 "BootsAtDawnModel" "wishA" "[I" ∈ wsX9_wish := List.mem_of_getElem? (i := 3) rfl
theorem mbX9_wish_4 : Cond.fieldLink RX9 19 "BootsAtDawnModel" "wishB" "[I" ∈ wsX9_wish := List.mem_of_getElem? (i := 4) rfl
theorem mbX9_wish_5 : Cond.fieldLink RX9 22 "BootsAtDawnModel" "st" "[I" ∈ wsX9_wish := List.mem_of_getElem? (i := 5) rfl
abbrev rmX9_wish : Room := { frames := 2, cells := 0, slots := 0, locals := 45 }
set_option maxHeartbeats 8000000 in
set_option maxRecDepth 100000 in
theorem kX9_wish (l : Launch) (dC : Nat → ClassId) (dI : Nat → Nat → Nat) (cC cI cJ : ClassId) (sz : Nat) (K : Nat) (a_T a_T_kinds a_T_wishKind a_T_wishA a_T_wishB a_T_st a_T_was a_T_kept a_T_woke a_T_text a_T_told a_T_readKinds a_T_readFloors a_T_readWishKind a_T_readWishA a_T_readWishB a_T_come a_T_keptBy a_T_endsAt a_T_order a_T_time a_T_place : Nat) (x1 : Int32) (x2 : Int32) (T_guests : Int32) (T_wishes : Int32) (T_begins : Int32) (T_acts : Int32) (T_keeps : Int32) (T_wokes : Int32) (T_texted : Int32) (T_at : Int32) (T_readGuests : Int32) (T_readWishes : Int32) (T_readBegins : Int32) (T_here : Int32) (T_stands : Int32) (T_many : Int32) (T_rounds : Int32) (T_st : (Nat → Int32)) (T_wishA : (Nat → Int32)) (T_wishKind : (Nat → Int32)) (T_wishB : (Nat → Int32)) (R : Int32) (hr : fX9_wish K x1 x2 T_wishes T_st T_wishA T_wishKind T_wishB = some R) : Met l yX9_wish wsX9_wish rmX9_wish (va_Pc ([.ref a_T, .int x1, .int x2] : List Value) (PcW (dC, dI) (tysA cC cI cJ) sz [(a_T, .inr (9, [.int T_guests, .ref a_T_kinds, .int T_wishes, .ref a_T_wishKind, .ref a_T_wishA, .ref a_T_wishB, .int T_begins, .ref a_T_st, .int T_acts, .ref a_T_was, .int T_keeps, .ref a_T_kept, .int T_wokes, .ref a_T_woke, .ref a_T_text, .int T_texted, .int T_at, .ref a_T_told, .int T_readGuests, .ref a_T_readKinds, .ref a_T_readFloors, .int T_readWishes, .ref a_T_readWishKind, .ref a_T_readWishA, .ref a_T_readWishB, .int T_readBegins, .int T_here, .int T_stands, .int T_many, .int T_rounds, .ref a_T_come, .ref a_T_keptBy, .ref a_T_endsAt, .ref a_T_order, .ref a_T_time, .ref a_T_place])), (a_T_st, .inl (cI, 8, .inl T_st)), (a_T_wishA, .inl (cI, 9, .inl T_wishA)), (a_T_wishKind, .inl (cI, 9, .inl T_wishKind)), (a_T_wishB, .inl (cI, 9, .inl T_wishB))])) (va_Qi (fun r (_ : Unit) => r = R) (fun _ => BW (dC, dI) (tysA cC cI cJ) (va_A [(a_T, .inr (9, [.int T_guests, .ref a_T_kinds, .int T_wishes, .ref a_T_wishKind, .ref a_T_wishA, .ref a_T_wishB, .int T_begins, .ref a_T_st, .int T_acts, .ref a_T_was, .int T_keeps, .ref a_T_kept, .int T_wokes, .ref a_T_woke, .ref a_T_text, .int T_texted, .int T_at, .ref a_T_told, .int T_readGuests, .ref a_T_readKinds, .ref a_T_readFloors, .int T_readWishes, .ref a_T_readWishKind, .ref a_T_readWishA, .ref a_T_readWishB, .int T_readBegins, .int T_here, .int T_stands, .int T_many, .int T_rounds, .ref a_T_come, .ref a_T_keptBy, .ref a_T_endsAt, .ref a_T_order, .ref a_T_time, .ref a_T_place])), (a_T_st, .inl (cI, 8, .inl T_st)), (a_T_wishA, .inl (cI, 9, .inl T_wishA)), (a_T_wishKind, .inl (cI, 9, .inl T_wishKind)), (a_T_wishB, .inl (cI, 9, .inl T_wishB))] sz) [(a_T, .inr (9, [.int T_guests, .ref a_T_kinds, .int T_wishes, .ref a_T_wishKind, .ref a_T_wishA, .ref a_T_wishB, .int T_begins, .ref a_T_st, .int T_acts, .ref a_T_was, .int T_keeps, .ref a_T_kept, .int T_wokes, .ref a_T_woke, .ref a_T_text, .int T_texted, .int T_at, .ref a_T_told, .int T_readGuests, .ref a_T_readKinds, .ref a_T_readFloors, .int T_readWishes, .ref a_T_readWishKind, .ref a_T_readWishA, .ref a_T_readWishB, .int T_readBegins, .int T_here, .int T_stands, .int T_many, .int T_rounds, .ref a_T_come, .ref a_T_keptBy, .ref a_T_endsAt, .ref a_T_order, .ref a_T_time, .ref a_T_place])), (a_T_st, .inl (cI, 8, .inl T_st)), (a_T_wishA, .inl (cI, 9, .inl T_wishA)), (a_T_wishKind, .inl (cI, 9, .inl T_wishKind)), (a_T_wishB, .inl (cI, 9, .inl T_wishB))]) (va_A [(a_T, .inr (9, [.int T_guests, .ref a_T_kinds, .int T_wishes, .ref a_T_wishKind, .ref a_T_wishA, .ref a_T_wishB, .int T_begins, .ref a_T_st, .int T_acts, .ref a_T_was, .int T_keeps, .ref a_T_kept, .int T_wokes, .ref a_T_woke, .ref a_T_text, .int T_texted, .int T_at, .ref a_T_told, .int T_readGuests, .ref a_T_readKinds, .ref a_T_readFloors, .int T_readWishes, .ref a_T_readWishKind, .ref a_T_readWishA, .ref a_T_readWishB, .int T_readBegins, .int T_here, .int T_stands, .int T_many, .int T_rounds, .ref a_T_come, .ref a_T_keptBy, .ref a_T_endsAt, .ref a_T_order, .ref a_T_time, .ref a_T_place])), (a_T_st, .inl (cI, 8, .inl T_st)), (a_T_wishA, .inl (cI, 9, .inl T_wishA)), (a_T_wishKind, .inl (cI, 9, .inl T_wishKind)), (a_T_wishB, .inl (cI, 9, .inl T_wishB))] sz)) 0 0 (va_A [(a_T, .inr (9, [.int T_guests, .ref a_T_kinds, .int T_wishes, .ref a_T_wishKind, .ref a_T_wishA, .ref a_T_wishB, .int T_begins, .ref a_T_st, .int T_acts, .ref a_T_was, .int T_keeps, .ref a_T_kept, .int T_wokes, .ref a_T_woke, .ref a_T_text, .int T_texted, .int T_at, .ref a_T_told, .int T_readGuests, .ref a_T_readKinds, .ref a_T_readFloors, .int T_readWishes, .ref a_T_readWishKind, .ref a_T_readWishA, .ref a_T_readWishB, .int T_readBegins, .int T_here, .int T_stands, .int T_many, .int T_rounds, .ref a_T_come, .ref a_T_keptBy, .ref a_T_endsAt, .ref a_T_order, .ref a_T_time, .ref a_T_place])), (a_T_st, .inl (cI, 8, .inl T_st)), (a_T_wishA, .inl (cI, 9, .inl T_wishA)), (a_T_wishKind, .inl (cI, 9, .inl T_wishKind)), (a_T_wishB, .inl (cI, 9, .inl T_wishB))] sz) := by
  refine Met.ofW (cc := cX9_wish) (maxL := 3) (ret := (some .int)) (by decide) rfl ?_
  intro p e s m args below meth c s₁ B hml hv
  obtain ⟨rfl, hsz, hP, hK, hD0, hN⟩ := hv
  have hx := B.exec
  have hb := B.bytes
  have hrt := B.returns
  have hts := atoms_spec (ws := wsX9_wish) B.pre
  have hown : s.vm.findClass RX9 = some m.cls := findClass_of_methodNamed B.named
  have hlocks := B.notSynchronized
  subst hsz
  have hD := hD0.self (sz := s.heap.size)
  generalize hAe : va_A [(a_T, .inr (9, [.int T_guests, .ref a_T_kinds, .int T_wishes, .ref a_T_wishKind, .ref a_T_wishA, .ref a_T_wishB, .int T_begins, .ref a_T_st, .int T_acts, .ref a_T_was, .int T_keeps, .ref a_T_kept, .int T_wokes, .ref a_T_woke, .ref a_T_text, .int T_texted, .int T_at, .ref a_T_told, .int T_readGuests, .ref a_T_readKinds, .ref a_T_readFloors, .int T_readWishes, .ref a_T_readWishKind, .ref a_T_readWishA, .ref a_T_readWishB, .int T_readBegins, .int T_here, .int T_stands, .int T_many, .int T_rounds, .ref a_T_come, .ref a_T_keptBy, .ref a_T_endsAt, .ref a_T_order, .ref a_T_time, .ref a_T_place])), (a_T_st, .inl (cI, 8, .inl T_st)), (a_T_wishA, .inl (cI, 9, .inl T_wishA)), (a_T_wishKind, .inl (cI, 9, .inl T_wishKind)), (a_T_wishB, .inl (cI, 9, .inl T_wishB))] s.heap.size = A at hD ⊢
  have hA : ∀ q : Nat, s.heap.size ≤ q → A q := fun q h => by rw [← hAe]; exact Or.inr h
  have hS : va_S A s.heap s.heap [] := va_S.rf
  have hl := lv_entry ([.ref a_T, .int x1, .int x2] : List Value) (n := 3) (Nat.le_of_ble_eq_true rfl)
  rw [lg_entry_eq]
  generalize (lg_sl ([.ref a_T, .int x1, .int x2] : List Value) ++ List.replicate (3 - (lg_sl ([.ref a_T, .int x1, .int x2] : List Value)).length) Slot.unset).toArray = ls at hl ⊢
  replace hl : lv_has ls 3 [(0, .ref a_T), (1, .int x1), (2, .int x2)] := hl
  obtain ⟨Q, hQ⟩ : ∃ Q, Q = MQ below (va_Qi (fun r (_ : Unit) => r = R) (fun _ => BW (dC, dI) (tysA cC cI cJ) A [(a_T, .inr (9, [.int T_guests, .ref a_T_kinds, .int T_wishes, .ref a_T_wishKind, .ref a_T_wishA, .ref a_T_wishB, .int T_begins, .ref a_T_st, .int T_acts, .ref a_T_was, .int T_keeps, .ref a_T_kept, .int T_wokes, .ref a_T_woke, .ref a_T_text, .int T_texted, .int T_at, .ref a_T_told, .int T_readGuests, .ref a_T_readKinds, .ref a_T_readFloors, .int T_readWishes, .ref a_T_readWishKind, .ref a_T_readWishA, .ref a_T_readWishB, .int T_readBegins, .int T_here, .int T_stands, .int T_many, .int T_rounds, .ref a_T_come, .ref a_T_keptBy, .ref a_T_endsAt, .ref a_T_order, .ref a_T_time, .ref a_T_place])), (a_T_st, .inl (cI, 8, .inl T_st)), (a_T_wishA, .inl (cI, 9, .inl T_wishA)), (a_T_wishKind, .inl (cI, 9, .inl T_wishKind)), (a_T_wishB, .inl (cI, 9, .inl T_wishB))]) A) ([.ref a_T, .int x1, .int x2] : List Value).toArray s 0 0 A := ⟨_, rfl⟩
  rw [← hQ]
  suffices hE : WG p l e rmX9_wish s m ([.ref a_T, .int x1, .int x2] : List Value).toArray below meth c 0 0 Q (dC, dI) A 0 3 [(a_T, .inr (9, [.int T_guests, .ref a_T_kinds, .int T_wishes, .ref a_T_wishKind, .ref a_T_wishA, .ref a_T_wishB, .int T_begins, .ref a_T_st, .int T_acts, .ref a_T_was, .int T_keeps, .ref a_T_kept, .int T_wokes, .ref a_T_woke, .ref a_T_text, .int T_texted, .int T_at, .ref a_T_told, .int T_readGuests, .ref a_T_readKinds, .ref a_T_readFloors, .int T_readWishes, .ref a_T_readWishKind, .ref a_T_readWishA, .ref a_T_readWishB, .int T_readBegins, .int T_here, .int T_stands, .int T_many, .int T_rounds, .ref a_T_come, .ref a_T_keptBy, .ref a_T_endsAt, .ref a_T_order, .ref a_T_time, .ref a_T_place])), (a_T_st, .inl (cI, 8, .inl T_st)), (a_T_wishA, .inl (cI, 9, .inl T_wishA)), (a_T_wishKind, .inl (cI, 9, .inl T_wishKind)), (a_T_wishB, .inl (cI, 9, .inl T_wishB))] [(0, .ref a_T), (1, .int x1), (2, .int x2)] [] from hE _ _ _ hP hD hS hl
  clear hP hD hS hl hD0 hAe
  intro H locs ls hP hD hS hl
  unfold fX9_wish at hr
  refine lv_iload_n hx hb dX9_wish_0 rfl (lv_at hl 1 rfl) ?_
  refine lv_iconst (v := 0) hx hb dX9_wish_1 (by decide) ?_
  refine lv_aload_n hx hb dX9_wish_2 rfl (lv_at hl 0 rfl) ?_
  refine va_get (D := (dC, dI)) (ci := 9) (v := .int T_wishes) (C := RX9) (T := TX9) (N := 36) hx hb hts inX9_wish_X9 hown hK hP 0 rfl rfl 2 (by decide) (hts _ mbX9_wish_0) (fun _ h9 => h9) rfl dX9_wish_3 ?_
  refine lv_iconst (v := 1) hx hb dX9_wish_6 (by decide) ?_
  refine lv_isub hx hb dX9_wish_7 ?_
  obtain ⟨r, hc1, hr⟩ := bd1_some hr
  refine call_i (D := (dC, dI)) (tys := tysA cC cI cJ) (wc := []) (wr := [(a_T, .inr (9, [.int T_guests, .ref a_T_kinds, .int T_wishes, .ref a_T_wishKind, .ref a_T_wishA, .ref a_T_wishB, .int T_begins, .ref a_T_st, .int T_acts, .ref a_T_was, .int T_keeps, .ref a_T_kept, .int T_wokes, .ref a_T_woke, .ref a_T_text, .int T_texted, .int T_at, .ref a_T_told, .int T_readGuests, .ref a_T_readKinds, .ref a_T_readFloors, .int T_readWishes, .ref a_T_readWishKind, .ref a_T_readWishA, .ref a_T_readWishB, .int T_readBegins, .int T_here, .int T_stands, .int T_many, .int T_rounds, .ref a_T_come, .ref a_T_keptBy, .ref a_T_endsAt, .ref a_T_order, .ref a_T_time, .ref a_T_place])), (a_T_st, .inl (cI, 8, .inl T_st)), (a_T_wishA, .inl (cI, 9, .inl T_wishA)), (a_T_wishKind, .inl (cI, 9, .inl T_wishKind)), (a_T_wishB, .inl (cI, 9, .inl T_wishB))]) (w1 := []) (wn := [(a_T, .inr (9, [.int T_guests, .ref a_T_kinds, .int T_wishes, .ref a_T_wishKind, .ref a_T_wishA, .ref a_T_wishB, .int T_begins, .ref a_T_st, .int T_acts, .ref a_T_was, .int T_keeps, .ref a_T_kept, .int T_wokes, .ref a_T_woke, .ref a_T_text, .int T_texted, .int T_at, .ref a_T_told, .int T_readGuests, .ref a_T_readKinds, .ref a_T_readFloors, .int T_readWishes, .ref a_T_readWishKind, .ref a_T_readWishA, .ref a_T_readWishB, .int T_readBegins, .int T_here, .int T_stands, .int T_many, .int T_rounds, .ref a_T_come, .ref a_T_keptBy, .ref a_T_endsAt, .ref a_T_order, .ref a_T_time, .ref a_T_place])), (a_T_st, .inl (cI, 8, .inl T_st)), (a_T_wishA, .inl (cI, 9, .inl T_wishA)), (a_T_wishKind, .inl (cI, 9, .inl T_wishKind)), (a_T_wishB, .inl (cI, 9, .inl T_wishB))]) (r0 := r) hP hD hS hA [] [0, 1, 2, 3, 4] [0, 1, 2, 3, 4] rfl rfl (by decide +kernel) (by decide +kernel) rfl (by decide +kernel) (va_runS (As := [.int x1, .int 0, .int (T_wishes - 1)]) (rest := []) ⟨hx, hb, hml, hown, hts⟩ (kX9_in l dC dI cC cI cJ H.size K x1 0 (T_wishes - 1) r hc1) (va_cwS 3 hts gX9_wish_X9_in rfl rfl rfl (by decide +kernel) ⟨Nat.le_of_ble_eq_true rfl, Nat.le_of_ble_eq_true rfl⟩) ⟨fbW, preW hP hD hK hN [] rfl (by decide +kernel)⟩ rfl rfl hl.1 rfl (lv_room (Nat.le_of_ble_eq_true rfl)) dX9_wish_8 ⟨Nat.zero_le _, Nat.zero_le _⟩) (fun H locs hP hD hS => ?_)
  refine lv_if_ne (tgt := 16) hx hb dX9_wish_11 (by decide) (fun c1 => ?_) (fun c1 => ?_)
  · replace hr := it_f hr c1
    refine lv_iload_n hx hb dX9_wish_16 rfl (lv_at hl 2 rfl) ?_
    by_cases c2 : (x2 : Int32) = 0
    · replace hr := it_t hr c2
      refine lv_tableIn (tgt := 48) (off := 31) hx hb dX9_wish_17 (by rw [c2]; decide) (by rw [c2]; decide) (by rw [c2]; rfl) (by decide) ?_
      refine lv_aload_n hx hb dX9_wish_48 rfl (lv_at hl 0 rfl) ?_
      refine va_get (D := (dC, dI)) (ci := 9) (v := .ref a_T_wishKind) (C := RX9) (T := TX9) (N := 36) hx hb hts inX9_wish_X9 hown hK hP 0 rfl rfl 3 (by decide) (hts _ mbX9_wish_2) (fun _ h9 => h9) rfl dX9_wish_49 ?_
      refine lv_iload_n hx hb dX9_wish_52 rfl (lv_at hl 1 rfl) ?_
      obtain ⟨g1, hr⟩ := gd_some hr
      refine va_iald hx hb hK hP 3 1 rfl rfl g1 dX9_wish_53 ?_
      have he := Option.some.inj hr
      subst he
      subst hQ
      exact ret_i hx hb hrt hK hP hD hS hlocks dX9_wish_54
    · replace hr := it_f hr c2
      by_cases c3 : (x2 : Int32) = 1
      · replace hr := it_t hr c3
        refine lv_tableIn (tgt := 55) (off := 38) hx hb dX9_wish_17 (by rw [c3]; decide) (by rw [c3]; decide) (by rw [c3]; rfl) (by decide) ?_
        refine lv_aload_n hx hb dX9_wish_55 rfl (lv_at hl 0 rfl) ?_
        refine va_get (D := (dC, dI)) (ci := 9) (v := .ref a_T_wishA) (C := RX9) (T := TX9) (N := 36) hx hb hts inX9_wish_X9 hown hK hP 0 rfl rfl 4 (by decide) (hts _ mbX9_wish_3) (fun _ h9 => h9) rfl dX9_wish_56 ?_
        refine lv_iload_n hx hb dX9_wish_59 rfl (lv_at hl 1 rfl) ?_
        obtain ⟨g2, hr⟩ := gd_some hr
        refine va_iald hx hb hK hP 2 1 rfl rfl g2 dX9_wish_60 ?_
        have he := Option.some.inj hr
        subst he
        subst hQ
        exact ret_i hx hb hrt hK hP hD hS hlocks dX9_wish_61
      · replace hr := it_f hr c3
        by_cases c4 : (x2 : Int32) = 2
        · replace hr := it_t hr c4
          refine lv_tableIn (tgt := 62) (off := 45) hx hb dX9_wish_17 (by rw [c4]; decide) (by rw [c4]; decide) (by rw [c4]; rfl) (by decide) ?_
          refine lv_aload_n hx hb dX9_wish_62 rfl (lv_at hl 0 rfl) ?_
          refine va_get (D := (dC, dI)) (ci := 9) (v := .ref a_T_wishB) (C := RX9) (T := TX9) (N := 36) hx hb hts inX9_wish_X9 hown hK hP 0 rfl rfl 5 (by decide) (hts _ mbX9_wish_4) (fun _ h9 => h9) rfl dX9_wish_63 ?_
          refine lv_iload_n hx hb dX9_wish_66 rfl (lv_at hl 1 rfl) ?_
          obtain ⟨g3, hr⟩ := gd_some hr
          refine va_iald hx hb hK hP 4 1 rfl rfl g3 dX9_wish_67 ?_
          have he := Option.some.inj hr
          subst he
          subst hQ
          exact ret_i hx hb hrt hK hP hD hS hlocks dX9_wish_68
        · replace hr := it_f hr c4
          by_cases c5 : (x2 : Int32) = 3
          · replace hr := it_t hr c5
            refine lv_tableIn (tgt := 69) (off := 52) hx hb dX9_wish_17 (by rw [c5]; decide) (by rw [c5]; decide) (by rw [c5]; rfl) (by decide) ?_
            refine lv_aload_n hx hb dX9_wish_69 rfl (lv_at hl 0 rfl) ?_
            refine lv_aload_n hx hb dX9_wish_70 rfl (lv_at hl 0 rfl) ?_
            refine va_get (D := (dC, dI)) (ci := 9) (v := .ref a_T_st) (C := RX9) (T := TX9) (N := 36) hx hb hts inX9_wish_X9 hown hK hP 0 rfl rfl 7 (by decide) (hts _ mbX9_wish_5) (fun _ h9 => h9) rfl dX9_wish_71 ?_
            refine lv_iconst (v := 0) hx hb dX9_wish_74 (by decide) ?_
            obtain ⟨g4, hr⟩ := gd_some hr
            refine va_iald hx hb hK hP 1 1 rfl rfl g4 dX9_wish_75 ?_
            obtain ⟨r_1, hc2, hr⟩ := bd1_some hr
            refine call_i (D := (dC, dI)) (tys := tysA cC cI cJ) (wc := [(a_T, .inr (9, [.int T_guests, .ref a_T_kinds, .int T_wishes, .ref a_T_wishKind, .ref a_T_wishA, .ref a_T_wishB, .int T_begins, .ref a_T_st, .int T_acts, .ref a_T_was, .int T_keeps, .ref a_T_kept, .int T_wokes, .ref a_T_woke, .ref a_T_text, .int T_texted, .int T_at, .ref a_T_told, .int T_readGuests, .ref a_T_readKinds, .ref a_T_readFloors, .int T_readWishes, .ref a_T_readWishKind, .ref a_T_readWishA, .ref a_T_readWishB, .int T_readBegins, .int T_here, .int T_stands, .int T_many, .int T_rounds, .ref a_T_come, .ref a_T_keptBy, .ref a_T_endsAt, .ref a_T_order, .ref a_T_time, .ref a_T_place])), (a_T_st, .inl (cI, 8, .inl T_st)), (a_T_wishA, .inl (cI, 9, .inl T_wishA)), (a_T_wishKind, .inl (cI, 9, .inl T_wishKind)), (a_T_wishB, .inl (cI, 9, .inl T_wishB))]) (wr := []) (w1 := [(a_T, .inr (9, [.int T_guests, .ref a_T_kinds, .int T_wishes, .ref a_T_wishKind, .ref a_T_wishA, .ref a_T_wishB, .int T_begins, .ref a_T_st, .int T_acts, .ref a_T_was, .int T_keeps, .ref a_T_kept, .int T_wokes, .ref a_T_woke, .ref a_T_text, .int T_texted, .int T_at, .ref a_T_told, .int T_readGuests, .ref a_T_readKinds, .ref a_T_readFloors, .int T_readWishes, .ref a_T_readWishKind, .ref a_T_readWishA, .ref a_T_readWishB, .int T_readBegins, .int T_here, .int T_stands, .int T_many, .int T_rounds, .ref a_T_come, .ref a_T_keptBy, .ref a_T_endsAt, .ref a_T_order, .ref a_T_time, .ref a_T_place])), (a_T_st, .inl (cI, 8, .inl T_st)), (a_T_wishA, .inl (cI, 9, .inl T_wishA)), (a_T_wishKind, .inl (cI, 9, .inl T_wishKind)), (a_T_wishB, .inl (cI, 9, .inl T_wishB))]) (wn := [(a_T, .inr (9, [.int T_guests, .ref a_T_kinds, .int T_wishes, .ref a_T_wishKind, .ref a_T_wishA, .ref a_T_wishB, .int T_begins, .ref a_T_st, .int T_acts, .ref a_T_was, .int T_keeps, .ref a_T_kept, .int T_wokes, .ref a_T_woke, .ref a_T_text, .int T_texted, .int T_at, .ref a_T_told, .int T_readGuests, .ref a_T_readKinds, .ref a_T_readFloors, .int T_readWishes, .ref a_T_readWishKind, .ref a_T_readWishA, .ref a_T_readWishB, .int T_readBegins, .int T_here, .int T_stands, .int T_many, .int T_rounds, .ref a_T_come, .ref a_T_keptBy, .ref a_T_endsAt, .ref a_T_order, .ref a_T_time, .ref a_T_place])), (a_T_st, .inl (cI, 8, .inl T_st)), (a_T_wishA, .inl (cI, 9, .inl T_wishA)), (a_T_wishKind, .inl (cI, 9, .inl T_wishKind)), (a_T_wishB, .inl (cI, 9, .inl T_wishB))]) (r0 := r_1) hP hD hS hA [0, 1, 2, 3, 4] [] [0, 1, 2, 3, 4] rfl rfl (by decide +kernel) (by decide +kernel) rfl (by decide +kernel) (va_runV (As := [.int (T_st (0 : Int32).toNatClampNeg)]) (rest := []) ⟨hx, hb, hml, hown, hts⟩ (kX9_standing l dC dI cC cI cJ H.size K a_T a_T_kinds a_T_wishKind a_T_wishA a_T_wishB a_T_st a_T_was a_T_kept a_T_woke a_T_text a_T_told a_T_readKinds a_T_readFloors a_T_readWishKind a_T_readWishA a_T_readWishB a_T_come a_T_keptBy a_T_endsAt a_T_order a_T_time a_T_place (T_st (0 : Int32).toNatClampNeg) T_guests T_wishes T_begins T_acts T_keeps T_wokes T_texted T_at T_readGuests T_readWishes T_readBegins T_here T_stands T_many T_rounds T_st T_wishA T_wishKind T_wishB r_1 hc2) (cwV 1 hts gX9_wish_X9_standing rfl rfl rfl (by decide +kernel) ⟨Nat.le_of_ble_eq_true rfl, Nat.le_of_ble_eq_true rfl⟩) ⟨fbW, va_recv hK hP (ci := 9) (q0 := 0) rfl rfl, preW hP hD hK hN [0, 1, 2, 3, 4] rfl (by decide +kernel)⟩ rfl rfl hl.1 rfl (lv_room (Nat.le_of_ble_eq_true rfl)) dX9_wish_76 ⟨Nat.zero_le _, Nat.zero_le _⟩) (fun H locs hP hD hS => ?_)
            refine lv_iload_n hx hb dX9_wish_79 rfl (lv_at hl 1 rfl) ?_
            refine lv_ishr hx hb dX9_wish_80 ?_
            refine lv_iconst (v := 1) hx hb dX9_wish_81 (by decide) ?_
            refine lv_iand hx hb dX9_wish_82 ?_
            have he := Option.some.inj hr
            subst he
            subst hQ
            exact ret_i hx hb hrt hK hP hD hS hlocks dX9_wish_83
          · replace hr := it_f hr c5
            refine lv_tableOut (tgt := 84) hx hb dX9_wish_17 (ts_out (fun i h1 h2 => ?_)) (by decide) ?_
            · rcases (show i = 0 ∨ i = 1 ∨ i = 2 ∨ i = 3 by omega) with rfl | rfl | rfl | rfl
              · exact ts_ne c2
              · exact ts_ne c3
              · exact ts_ne c4
              · exact ts_ne c5
            · skip
              refine lv_iconst (v := (-1)) hx hb dX9_wish_84 (by decide) ?_
              have he := Option.some.inj hr
              subst he
              subst hQ
              exact ret_i hx hb hrt hK hP hD hS hlocks dX9_wish_85
  · replace hr := it_t hr c1
    refine lv_iconst (v := (-1)) hx hb dX9_wish_14 (by decide) ?_
    have he := Option.some.inj hr
    subst he
    subst hQ
    exact ret_i hx hb hrt hK hP hD hS hlocks dX9_wish_15
def fX9_copy_L3 (K : Nat) (n_P0 : Nat) (n_P2 : Nat) (x1 : Int32) (x3 : Int32) (P2 : (Nat → Int32)) : Nat → Int32 → (Nat → Int32) → Option ((Nat → Int32))
  | 0, _, _ => none
  | n1 + 1, x4, P0_1 =>
    if 8 ≤ (x4 : Int32) then (
    some P0_1)
    else (
    gd (¬ (((x3 + x4) : Int32) < 0 ∨ n_P2 ≤ (x3 + x4).toNatClampNeg)) (
    gd (¬ (((x1 + x4) : Int32) < 0 ∨ n_P0 ≤ (x1 + x4).toNatClampNeg)) (
    nm (upd P0_1 (x1 + x4).toNatClampNeg (P2 (x3 + x4).toNatClampNeg)) fun P0_3 =>
    nm (x4 + 1) fun x4_1 =>
    fX9_copy_L3 K n_P0 n_P2 x1 x3 P2 n1 x4_1 P0_3)))
def fX9_copy (K : Nat) (n_P0 : Nat) (n_P2 : Nat) (x1 : Int32) (x3 : Int32) (P0 : (Nat → Int32)) (P2 : (Nat → Int32)) : Option ((Nat → Int32)) :=
    bd1 (fX9_copy_L3 K n_P0 n_P2 x1 x3 P2 K 0 P0) fun P0_2 =>
    some P0_2
abbrev rmX9_copy : Room := { frames := 0, cells := 0, slots := 0, locals := 0 }
set_option maxHeartbeats 8000000 in
set_option maxRecDepth 100000 in
theorem kX9_copy (l : Launch) (dC : Nat → ClassId) (dI : Nat → Nat → Nat) (cC cI cJ : ClassId) (sz : Nat) (K : Nat) (a_P0 a_P2 : Nat) (n_P0 : Nat) (n_P2 : Nat) (x1 : Int32) (x3 : Int32) (P0 : (Nat → Int32)) (P2 : (Nat → Int32)) (R : (Nat → Int32)) (hr : fX9_copy K n_P0 n_P2 x1 x3 P0 P2 = some R) : Met l yX9_copy wsX9_copy rmX9_copy (va_Pc ([.ref a_P0, .int x1, .ref a_P2, .int x3] : List Value) (PcW (dC, dI) (tysA cC cI cJ) sz [(a_P0, .inl (cI, n_P0, .inl P0)), (a_P2, .inl (cI, n_P2, .inl P2))])) (va_Qv (fun (_ : Unit) => True) (fun _ => BW (dC, dI) (tysA cC cI cJ) (va_A [(a_P0, .inl (cI, n_P0, .inl P0)), (a_P2, .inl (cI, n_P2, .inl P2))] sz) [(a_P0, .inl (cI, n_P0, .inl R)), (a_P2, .inl (cI, n_P2, .inl P2))]) (va_A [(a_P0, .inl (cI, n_P0, .inl P0)), (a_P2, .inl (cI, n_P2, .inl P2))] sz)) 0 0 (va_A [(a_P0, .inl (cI, n_P0, .inl P0)), (a_P2, .inl (cI, n_P2, .inl P2))] sz) := by
  refine Met.ofW (cc := cX9_copy) (maxL := 5) (ret := none) (by decide) rfl ?_
  intro p e s m args below meth c s₁ B hml hv
  obtain ⟨rfl, hsz, hP, hK, hD0, hN⟩ := hv
  have hx := B.exec
  have hb := B.bytes
  have hrt := B.returns
  have hts := atoms_spec (ws := wsX9_copy) B.pre
  have hown : s.vm.findClass RX9 = some m.cls := findClass_of_methodNamed B.named
  have hlocks := B.notSynchronized
  subst hsz
  have hD := hD0.self (sz := s.heap.size)
  generalize hAe : va_A [(a_P0, .inl (cI, n_P0, .inl P0)), (a_P2, .inl (cI, n_P2, .inl P2))] s.heap.size = A at hD ⊢
  have hA : ∀ q : Nat, s.heap.size ≤ q → A q := fun q h => by rw [← hAe]; exact Or.inr h
  have hS : va_S A s.heap s.heap [] := va_S.rf
  have hl := lv_entry ([.ref a_P0, .int x1, .ref a_P2, .int x3] : List Value) (n := 5) (Nat.le_of_ble_eq_true rfl)
  rw [lg_entry_eq]
  generalize (lg_sl ([.ref a_P0, .int x1, .ref a_P2, .int x3] : List Value) ++ List.replicate (5 - (lg_sl ([.ref a_P0, .int x1, .ref a_P2, .int x3] : List Value)).length) Slot.unset).toArray = ls at hl ⊢
  replace hl : lv_has ls 5 [(0, .ref a_P0), (1, .int x1), (2, .ref a_P2), (3, .int x3)] := hl
  obtain ⟨Q, hQ⟩ : ∃ Q, Q = MQ below (va_Qv (fun (_ : Unit) => True) (fun _ => BW (dC, dI) (tysA cC cI cJ) A [(a_P0, .inl (cI, n_P0, .inl R)), (a_P2, .inl (cI, n_P2, .inl P2))]) A) ([.ref a_P0, .int x1, .ref a_P2, .int x3] : List Value).toArray s 0 0 A := ⟨_, rfl⟩
  rw [← hQ]
  suffices hE : WG p l e rmX9_copy s m ([.ref a_P0, .int x1, .ref a_P2, .int x3] : List Value).toArray below meth c 0 0 Q (dC, dI) A 0 5 [(a_P0, .inl (cI, n_P0, .inl P0)), (a_P2, .inl (cI, n_P2, .inl P2))] [(0, .ref a_P0), (1, .int x1), (2, .ref a_P2), (3, .int x3)] [] from hE _ _ _ hP hD hS hl
  clear hP hD hS hl hD0 hAe
  intro H locs ls hP hD hS hl
  unfold fX9_copy at hr
  refine lv_iconst (v := 0) hx hb dX9_copy_0 (by decide) ?_
  refine lv_istore (lv' := [(4, .int 0), (0, .ref a_P0), (1, .int x1), (2, .ref a_P2), (3, .int x3)]) hx hb dX9_copy_1 hl (by decide) rfl (fun ls hl => ?_)
  have hL1 : ∀ (n1 : Nat) (x4 : Int32) (P0_1 : (Nat → Int32)) (P0_2 : (Nat → Int32)), fX9_copy_L3 K n_P0 n_P2 x1 x3 P2 n1 x4 P0_1 = some P0_2 → WG p l e rmX9_copy s m ([.ref a_P0, .int x1, .ref a_P2, .int x3] : List Value).toArray below meth c 0 0 Q (dC, dI) A 28 5 [(a_P0, .inl (cI, n_P0, .inl P0_2)), (a_P2, .inl (cI, n_P2, .inl P2))] [] [] → WG p l e rmX9_copy s m ([.ref a_P0, .int x1, .ref a_P2, .int x3] : List Value).toArray below meth c 0 0 Q (dC, dI) A 3 5 [(a_P0, .inl (cI, n_P0, .inl P0_1)), (a_P2, .inl (cI, n_P2, .inl P2))] [(0, .ref a_P0), (1, .int x1), (2, .ref a_P2), (3, .int x3), (4, .int x4)] [] := by
    intro n1
    induction n1 with
    | zero =>
      intro x4 P0_1 P0_2 hr
      rw [fX9_copy_L3] at hr
      cases hr
    | succ n1 ih3 =>
      intro x4 P0_1 P0_2 hr hX1 H locs ls hP hD hS hl
      rw [fX9_copy_L3] at hr
      refine lv_iload hx hb dX9_copy_3 (lv_at hl 4 rfl) ?_
      refine lv_bipush (v := 8) hx hb dX9_copy_5 (by decide) ?_
      refine lv_icmp_ge (tgt := 28) hx hb dX9_copy_7 (by decide) (fun c1 => ?_) (fun c1 => ?_)
      · replace hr := it_t hr c1
        have he := Option.some.inj hr
        cases he
        exact hX1 H locs ls hP hD hS (lv_sub hl [] rfl)
      · replace hr := it_f hr c1
        refine lv_aload_n hx hb dX9_copy_10 rfl (lv_at hl 0 rfl) ?_
        refine lv_iload_n hx hb dX9_copy_11 rfl (lv_at hl 1 rfl) ?_
        refine lv_iload hx hb dX9_copy_12 (lv_at hl 4 rfl) ?_
        refine lv_iadd hx hb dX9_copy_14 ?_
        refine lv_aload_n hx hb dX9_copy_15 rfl (lv_at hl 2 rfl) ?_
        refine lv_iload_n hx hb dX9_copy_16 rfl (lv_at hl 3 rfl) ?_
        refine lv_iload hx hb dX9_copy_17 (lv_at hl 4 rfl) ?_
        refine lv_iadd hx hb dX9_copy_19 ?_
        obtain ⟨g1, hr⟩ := gd_some hr
        refine va_iald hx hb hK hP 1 1 rfl rfl g1 dX9_copy_20 ?_
        obtain ⟨g2, hr⟩ := gd_some hr
        obtain ⟨P0_3, e1, hr⟩ := nm_el hr
        refine va_iast hx hb hK hP hD hS 0 1 rfl rfl g2 dX9_copy_21 (fun H locs hP hD hS => ?_)
        rw [← e1] at hP hD
        replace hP : va_P (dC, dI) vwCl [(a_P0, .inl (cI, n_P0, .inl P0_3)), (a_P2, .inl (cI, n_P2, .inl P2))] H := hP
        replace hD : va_D A [(a_P0, .inl (cI, n_P0, .inl P0_3)), (a_P2, .inl (cI, n_P2, .inl P2))] := hD
        obtain ⟨x4_1, e2, hr⟩ := nm_el hr
        refine lv_iinc (v := x4_1) (lv' := [(4, .int x4_1), (0, .ref a_P0), (1, .int x1), (2, .ref a_P2), (3, .int x3)]) hx hb dX9_copy_22 hl (k := 4) rfl e2.symm (by decide) rfl (fun ls hl => ?_)
        refine lv_goto (tgt := 3) hx hb dX9_copy_25 (by decide) ?_
        exact ih3 _ _ _ hr hX1 H locs ls hP hD hS (lv_sub hl [1, 2, 3, 4, 0] rfl)
  obtain ⟨P0_2, hE, hr⟩ := bd1_some hr
  refine hL1 K 0 P0 P0_2 hE ?_ H locs ls hP hD hS (lv_sub hl [1, 2, 3, 4, 0] rfl)
  intro H locs ls hP hD hS hl
  have he := Option.some.inj hr
  subst he
  subst hQ
  exact ret_v hx hb hrt hK hP hD hS hlocks dX9_copy_28
def fX9_remembers_L11 (K : Nat) : Nat → Int32 → (Nat → Int32) → Option ((Nat → Int32))
  | 0, _, _ => none
  | n1 + 1, x1, T_was_1 =>
    if 56 ≤ (x1 : Int32) then (
    some T_was_1)
    else (
    gd (¬ (((x1 + 8) : Int32) < 0 ∨ 64 ≤ (x1 + 8).toNatClampNeg)) (
    gd (¬ ((x1 : Int32) < 0 ∨ 64 ≤ x1.toNatClampNeg)) (
    nm (upd T_was_1 x1.toNatClampNeg (T_was_1 (x1 + 8).toNatClampNeg)) fun T_was_3 =>
    nm (x1 + 1) fun x1_1 =>
    fX9_remembers_L11 K n1 x1_1 T_was_3)))
def fX9_remembers (K : Nat) (T_acts : Int32) (T_was : (Nat → Int32)) (T_st : (Nat → Int32)) : Option (Int32 × (Nat → Int32)) :=
    bd2 (τ0 := Int32) (τ1 := (Nat → Int32)) (
    if (T_acts : Int32) = 8 then (
    bd1 (fX9_remembers_L11 K K 0 T_was) fun T_was_2 =>
    nm (T_acts - 1) fun T_acts_1 =>
    some (T_acts_1, T_was_2))
    else (
    some (T_acts, T_was))) fun T_acts_2 T_was_4 =>
    bd1 (fX9_copy K 64 8 (8 * T_acts_2) 0 T_was_4 T_st) fun T_was_5 =>
    nm (T_acts_2 + 1) fun T_acts_3 =>
    some (T_acts_3, T_was_5)
theorem mbX9_remembers_0 : Cond.fieldLink RX9 151 "BootsAtDawnModel" "acts" "I" ∈ wsX9_remembers := List.mem_of_getElem? (i := 1) rfl
theorem inX9_remembers_X9 : ∀ w ∈ u_ws RX9 TX9 36, w ∈ wsX9_remembers := fun _ h => (List.mem_cons_of_mem _ (List.mem_append_right _ h))
theorem mbX9_remembers_2 : Cond.fieldLink RX9 25 "BootsAtDawnModel" "was" "[I" ∈ wsX9_remembers := List.mem_of_getElem? (i := 2) rfl
theorem mbX9_remembers_3 : Cond.fieldLink RX9 22 "BootsAtDawnModel" "st" "[I" ∈ wsX9_remembers := List.mem_of_getElem? (i := 3) rfl
abbrev rmX9_remembers : Room := { frames := 1, cells := 0, slots := 0, locals := 24 }
set_option maxHeartbeats 8000000 in
set_option maxRecDepth 100000 in
theorem kX9_remembers (l : Launch) (dC : Nat → ClassId) (dI : Nat → Nat → Nat) (cC cI cJ : ClassId) (sz : Nat) (K : Nat) (a_T a_T_kinds a_T_wishKind a_T_wishA a_T_wishB a_T_st a_T_was a_T_kept a_T_woke a_T_text a_T_told a_T_readKinds a_T_readFloors a_T_readWishKind a_T_readWishA a_T_readWishB a_T_come a_T_keptBy a_T_endsAt a_T_order a_T_time a_T_place : Nat) (T_guests : Int32) (T_wishes : Int32) (T_begins : Int32) (T_acts : Int32) (T_keeps : Int32) (T_wokes : Int32) (T_texted : Int32) (T_at : Int32) (T_readGuests : Int32) (T_readWishes : Int32) (T_readBegins : Int32) (T_here : Int32) (T_stands : Int32) (T_many : Int32) (T_rounds : Int32) (T_was : (Nat → Int32)) (T_st : (Nat → Int32)) (R : Int32 × (Nat → Int32)) (hr : fX9_remembers K T_acts T_was T_st = some R) : Met l yX9_remembers wsX9_remembers rmX9_remembers (va_Pc ([.ref a_T] : List Value) (PcW (dC, dI) (tysA cC cI cJ) sz [(a_T, .inr (9, [.int T_guests, .ref a_T_kinds, .int T_wishes, .ref a_T_wishKind, .ref a_T_wishA, .ref a_T_wishB, .int T_begins, .ref a_T_st, .int T_acts, .ref a_T_was, .int T_keeps, .ref a_T_kept, .int T_wokes, .ref a_T_woke, .ref a_T_text, .int T_texted, .int T_at, .ref a_T_told, .int T_readGuests, .ref a_T_readKinds, .ref a_T_readFloors, .int T_readWishes, .ref a_T_readWishKind, .ref a_T_readWishA, .ref a_T_readWishB, .int T_readBegins, .int T_here, .int T_stands, .int T_many, .int T_rounds, .ref a_T_come, .ref a_T_keptBy, .ref a_T_endsAt, .ref a_T_order, .ref a_T_time, .ref a_T_place])), (a_T_was, .inl (cI, 64, .inl T_was)), (a_T_st, .inl (cI, 8, .inl T_st))])) (va_Qv (fun (_ : Unit) => True) (fun _ => BW (dC, dI) (tysA cC cI cJ) (va_A [(a_T, .inr (9, [.int T_guests, .ref a_T_kinds, .int T_wishes, .ref a_T_wishKind, .ref a_T_wishA, .ref a_T_wishB, .int T_begins, .ref a_T_st, .int T_acts, .ref a_T_was, .int T_keeps, .ref a_T_kept, .int T_wokes, .ref a_T_woke, .ref a_T_text, .int T_texted, .int T_at, .ref a_T_told, .int T_readGuests, .ref a_T_readKinds, .ref a_T_readFloors, .int T_readWishes, .ref a_T_readWishKind, .ref a_T_readWishA, .ref a_T_readWishB, .int T_readBegins, .int T_here, .int T_stands, .int T_many, .int T_rounds, .ref a_T_come, .ref a_T_keptBy, .ref a_T_endsAt, .ref a_T_order, .ref a_T_time, .ref a_T_place])), (a_T_was, .inl (cI, 64, .inl T_was)), (a_T_st, .inl (cI, 8, .inl T_st))] sz) [(a_T, .inr (9, [.int T_guests, .ref a_T_kinds, .int T_wishes, .ref a_T_wishKind, .ref a_T_wishA, .ref a_T_wishB, .int T_begins, .ref a_T_st, .int R.1, .ref a_T_was, .int T_keeps, .ref a_T_kept, .int T_wokes, .ref a_T_woke, .ref a_T_text, .int T_texted, .int T_at, .ref a_T_told, .int T_readGuests, .ref a_T_readKinds, .ref a_T_readFloors, .int T_readWishes, .ref a_T_readWishKind, .ref a_T_readWishA, .ref a_T_readWishB, .int T_readBegins, .int T_here, .int T_stands, .int T_many, .int T_rounds, .ref a_T_come, .ref a_T_keptBy, .ref a_T_endsAt, .ref a_T_order, .ref a_T_time, .ref a_T_place])), (a_T_was, .inl (cI, 64, .inl R.2)), (a_T_st, .inl (cI, 8, .inl T_st))]) (va_A [(a_T, .inr (9, [.int T_guests, .ref a_T_kinds, .int T_wishes, .ref a_T_wishKind, .ref a_T_wishA, .ref a_T_wishB, .int T_begins, .ref a_T_st, .int T_acts, .ref a_T_was, .int T_keeps, .ref a_T_kept, .int T_wokes, .ref a_T_woke, .ref a_T_text, .int T_texted, .int T_at, .ref a_T_told, .int T_readGuests, .ref a_T_readKinds, .ref a_T_readFloors, .int T_readWishes, .ref a_T_readWishKind, .ref a_T_readWishA, .ref a_T_readWishB, .int T_readBegins, .int T_here, .int T_stands, .int T_many, .int T_rounds, .ref a_T_come, .ref a_T_keptBy, .ref a_T_endsAt, .ref a_T_order, .ref a_T_time, .ref a_T_place])), (a_T_was, .inl (cI, 64, .inl T_was)), (a_T_st, .inl (cI, 8, .inl T_st))] sz)) 0 0 (va_A [(a_T, .inr (9, [.int T_guests, .ref a_T_kinds, .int T_wishes, .ref a_T_wishKind, .ref a_T_wishA, .ref a_T_wishB, .int T_begins, .ref a_T_st, .int T_acts, .ref a_T_was, .int T_keeps, .ref a_T_kept, .int T_wokes, .ref a_T_woke, .ref a_T_text, .int T_texted, .int T_at, .ref a_T_told, .int T_readGuests, .ref a_T_readKinds, .ref a_T_readFloors, .int T_readWishes, .ref a_T_readWishKind, .ref a_T_readWishA, .ref a_T_readWishB, .int T_readBegins, .int T_here, .int T_stands, .int T_many, .int T_rounds, .ref a_T_come, .ref a_T_keptBy, .ref a_T_endsAt, .ref a_T_order, .ref a_T_time, .ref a_T_place])), (a_T_was, .inl (cI, 64, .inl T_was)), (a_T_st, .inl (cI, 8, .inl T_st))] sz) := by
  refine Met.ofW (cc := cX9_remembers) (maxL := 2) (ret := none) (by decide) rfl ?_
  intro p e s m args below meth c s₁ B hml hv
  obtain ⟨rfl, hsz, hP, hK, hD0, hN⟩ := hv
  have hx := B.exec
  have hb := B.bytes
  have hrt := B.returns
  have hts := atoms_spec (ws := wsX9_remembers) B.pre
  have hown : s.vm.findClass RX9 = some m.cls := findClass_of_methodNamed B.named
  have hlocks := B.notSynchronized
  subst hsz
  have hD := hD0.self (sz := s.heap.size)
  generalize hAe : va_A [(a_T, .inr (9, [.int T_guests, .ref a_T_kinds, .int T_wishes, .ref a_T_wishKind, .ref a_T_wishA, .ref a_T_wishB, .int T_begins, .ref a_T_st, .int T_acts, .ref a_T_was, .int T_keeps, .ref a_T_kept, .int T_wokes, .ref a_T_woke, .ref a_T_text, .int T_texted, .int T_at, .ref a_T_told, .int T_readGuests, .ref a_T_readKinds, .ref a_T_readFloors, .int T_readWishes, .ref a_T_readWishKind, .ref a_T_readWishA, .ref a_T_readWishB, .int T_readBegins, .int T_here, .int T_stands, .int T_many, .int T_rounds, .ref a_T_come, .ref a_T_keptBy, .ref a_T_endsAt, .ref a_T_order, .ref a_T_time, .ref a_T_place])), (a_T_was, .inl (cI, 64, .inl T_was)), (a_T_st, .inl (cI, 8, .inl T_st))] s.heap.size = A at hD ⊢
  have hA : ∀ q : Nat, s.heap.size ≤ q → A q := fun q h => by rw [← hAe]; exact Or.inr h
  have hS : va_S A s.heap s.heap [] := va_S.rf
  have hl := lv_entry ([.ref a_T] : List Value) (n := 2) (Nat.le_of_ble_eq_true rfl)
  rw [lg_entry_eq]
  generalize (lg_sl ([.ref a_T] : List Value) ++ List.replicate (2 - (lg_sl ([.ref a_T] : List Value)).length) Slot.unset).toArray = ls at hl ⊢
  replace hl : lv_has ls 2 [(0, .ref a_T)] := hl
  obtain ⟨Q, hQ⟩ : ∃ Q, Q = MQ below (va_Qv (fun (_ : Unit) => True) (fun _ => BW (dC, dI) (tysA cC cI cJ) A [(a_T, .inr (9, [.int T_guests, .ref a_T_kinds, .int T_wishes, .ref a_T_wishKind, .ref a_T_wishA, .ref a_T_wishB, .int T_begins, .ref a_T_st, .int R.1, .ref a_T_was, .int T_keeps, .ref a_T_kept, .int T_wokes, .ref a_T_woke, .ref a_T_text, .int T_texted, .int T_at, .ref a_T_told, .int T_readGuests, .ref a_T_readKinds, .ref a_T_readFloors, .int T_readWishes, .ref a_T_readWishKind, .ref a_T_readWishA, .ref a_T_readWishB, .int T_readBegins, .int T_here, .int T_stands, .int T_many, .int T_rounds, .ref a_T_come, .ref a_T_keptBy, .ref a_T_endsAt, .ref a_T_order, .ref a_T_time, .ref a_T_place])), (a_T_was, .inl (cI, 64, .inl R.2)), (a_T_st, .inl (cI, 8, .inl T_st))]) A) ([.ref a_T] : List Value).toArray s 0 0 A := ⟨_, rfl⟩
  rw [← hQ]
  suffices hE : WG p l e rmX9_remembers s m ([.ref a_T] : List Value).toArray below meth c 0 0 Q (dC, dI) A 0 2 [(a_T, .inr (9, [.int T_guests, .ref a_T_kinds, .int T_wishes, .ref a_T_wishKind, .ref a_T_wishA, .ref a_T_wishB, .int T_begins, .ref a_T_st, .int T_acts, .ref a_T_was, .int T_keeps, .ref a_T_kept, .int T_wokes, .ref a_T_woke, .ref a_T_text, .int T_texted, .int T_at, .ref a_T_told, .int T_readGuests, .ref a_T_readKinds, .ref a_T_readFloors, .int T_readWishes, .ref a_T_readWishKind, .ref a_T_readWishA, .ref a_T_readWishB, .int T_readBegins, .int T_here, .int T_stands, .int T_many, .int T_rounds, .ref a_T_come, .ref a_T_keptBy, .ref a_T_endsAt, .ref a_T_order, .ref a_T_time, .ref a_T_place])), (a_T_was, .inl (cI, 64, .inl T_was)), (a_T_st, .inl (cI, 8, .inl T_st))] [(0, .ref a_T)] [] from hE _ _ _ hP hD hS hl
  clear hP hD hS hl hD0 hAe
  intro H locs ls hP hD hS hl
  unfold fX9_remembers at hr
  refine lv_aload_n hx hb dX9_remembers_0 rfl (lv_at hl 0 rfl) ?_
  refine va_get (D := (dC, dI)) (ci := 9) (v := .int T_acts) (C := RX9) (T := TX9) (N := 36) hx hb hts inX9_remembers_X9 hown hK hP 0 rfl rfl 8 (by decide) (hts _ mbX9_remembers_0) (fun _ h9 => h9) rfl dX9_remembers_1 ?_
  refine lv_bipush (v := 8) hx hb dX9_remembers_4 (by decide) ?_
  obtain ⟨T_acts_2, T_was_4, hj1, hr⟩ := bd2_some hr
  have hJ1 : WG p l e rmX9_remembers s m ([.ref a_T] : List Value).toArray below meth c 0 0 Q (dC, dI) A 48 2 [(a_T, .inr (9, [.int T_guests, .ref a_T_kinds, .int T_wishes, .ref a_T_wishKind, .ref a_T_wishA, .ref a_T_wishB, .int T_begins, .ref a_T_st, .int T_acts_2, .ref a_T_was, .int T_keeps, .ref a_T_kept, .int T_wokes, .ref a_T_woke, .ref a_T_text, .int T_texted, .int T_at, .ref a_T_told, .int T_readGuests, .ref a_T_readKinds, .ref a_T_readFloors, .int T_readWishes, .ref a_T_readWishKind, .ref a_T_readWishA, .ref a_T_readWishB, .int T_readBegins, .int T_here, .int T_stands, .int T_many, .int T_rounds, .ref a_T_come, .ref a_T_keptBy, .ref a_T_endsAt, .ref a_T_order, .ref a_T_time, .ref a_T_place])), (a_T_was, .inl (cI, 64, .inl T_was_4)), (a_T_st, .inl (cI, 8, .inl T_st))] [(0, .ref a_T)] [] := by
    intro H locs ls hP hD hS hl
    refine lv_aload_n hx hb dX9_remembers_48 rfl (lv_at hl 0 rfl) ?_
    refine va_get (D := (dC, dI)) (ci := 9) (v := .ref a_T_was) (C := RX9) (T := TX9) (N := 36) hx hb hts inX9_remembers_X9 hown hK hP 0 rfl rfl 9 (by decide) (hts _ mbX9_remembers_2) (fun _ h9 => h9) rfl dX9_remembers_49 ?_
    refine lv_bipush (v := 8) hx hb dX9_remembers_52 (by decide) ?_
    refine lv_aload_n hx hb dX9_remembers_54 rfl (lv_at hl 0 rfl) ?_
    refine va_get (D := (dC, dI)) (ci := 9) (v := .int T_acts_2) (C := RX9) (T := TX9) (N := 36) hx hb hts inX9_remembers_X9 hown hK hP 0 rfl rfl 8 (by decide) (hts _ mbX9_remembers_0) (fun _ h9 => h9) rfl dX9_remembers_55 ?_
    refine lv_imul hx hb dX9_remembers_58 ?_
    refine lv_aload_n hx hb dX9_remembers_59 rfl (lv_at hl 0 rfl) ?_
    refine va_get (D := (dC, dI)) (ci := 9) (v := .ref a_T_st) (C := RX9) (T := TX9) (N := 36) hx hb hts inX9_remembers_X9 hown hK hP 0 rfl rfl 7 (by decide) (hts _ mbX9_remembers_3) (fun _ h9 => h9) rfl dX9_remembers_60 ?_
    refine lv_iconst (v := 0) hx hb dX9_remembers_63 (by decide) ?_
    obtain ⟨T_was_5, hc1, hr⟩ := bd1_some hr
    refine call_v (D := (dC, dI)) (tys := tysA cC cI cJ) (wc := [(a_T_was, .inl (cI, 64, .inl T_was_4)), (a_T_st, .inl (cI, 8, .inl T_st))]) (wr := [(a_T, .inr (9, [.int T_guests, .ref a_T_kinds, .int T_wishes, .ref a_T_wishKind, .ref a_T_wishA, .ref a_T_wishB, .int T_begins, .ref a_T_st, .int T_acts_2, .ref a_T_was, .int T_keeps, .ref a_T_kept, .int T_wokes, .ref a_T_woke, .ref a_T_text, .int T_texted, .int T_at, .ref a_T_told, .int T_readGuests, .ref a_T_readKinds, .ref a_T_readFloors, .int T_readWishes, .ref a_T_readWishKind, .ref a_T_readWishA, .ref a_T_readWishB, .int T_readBegins, .int T_here, .int T_stands, .int T_many, .int T_rounds, .ref a_T_come, .ref a_T_keptBy, .ref a_T_endsAt, .ref a_T_order, .ref a_T_time, .ref a_T_place]))]) (w1 := [(a_T_was, .inl (cI, 64, .inl T_was_5)), (a_T_st, .inl (cI, 8, .inl T_st))]) (wn := [(a_T, .inr (9, [.int T_guests, .ref a_T_kinds, .int T_wishes, .ref a_T_wishKind, .ref a_T_wishA, .ref a_T_wishB, .int T_begins, .ref a_T_st, .int T_acts_2, .ref a_T_was, .int T_keeps, .ref a_T_kept, .int T_wokes, .ref a_T_woke, .ref a_T_text, .int T_texted, .int T_at, .ref a_T_told, .int T_readGuests, .ref a_T_readKinds, .ref a_T_readFloors, .int T_readWishes, .ref a_T_readWishKind, .ref a_T_readWishA, .ref a_T_readWishB, .int T_readBegins, .int T_here, .int T_stands, .int T_many, .int T_rounds, .ref a_T_come, .ref a_T_keptBy, .ref a_T_endsAt, .ref a_T_order, .ref a_T_time, .ref a_T_place])), (a_T_was, .inl (cI, 64, .inl T_was_5)), (a_T_st, .inl (cI, 8, .inl T_st))]) hP hD hS hA [1, 2] [0] [0, 1, 2] rfl rfl (by decide +kernel) (by decide +kernel) rfl (by decide +kernel) (va_runS (As := [.ref a_T_was, .int (8 * T_acts_2), .ref a_T_st, .int 0]) (rest := []) ⟨hx, hb, hml, hown, hts⟩ (kX9_copy l dC dI cC cI cJ H.size K a_T_was a_T_st 64 8 (8 * T_acts_2) 0 T_was_4 T_st T_was_5 hc1) (va_cwS 4 hts gX9_remembers_X9_copy rfl rfl rfl (by decide +kernel) ⟨Nat.le_of_ble_eq_true rfl, Nat.le_of_ble_eq_true rfl⟩) ⟨fbW, preW hP hD hK hN [1, 2] rfl (by decide +kernel)⟩ rfl rfl hl.1 rfl (lv_room (Nat.le_of_ble_eq_true rfl)) dX9_remembers_64 ⟨Nat.zero_le _, Nat.zero_le _⟩) (fun H locs hP hD hS => ?_)
    refine lv_aload_n hx hb dX9_remembers_67 rfl (lv_at hl 0 rfl) ?_
    refine lv_dup hx hb dX9_remembers_68 rfl ?_
    refine va_get (D := (dC, dI)) (ci := 9) (v := .int T_acts_2) (C := RX9) (T := TX9) (N := 36) hx hb hts inX9_remembers_X9 hown hK hP 0 rfl rfl 8 (by decide) (hts _ mbX9_remembers_0) (fun _ h9 => h9) rfl dX9_remembers_69 ?_
    refine lv_iconst (v := 1) hx hb dX9_remembers_72 (by decide) ?_
    refine lv_iadd hx hb dX9_remembers_73 ?_
    obtain ⟨T_acts_3, e4, hr⟩ := nm_el hr
    refine lv_nmi e4 ?_
    refine va_put (D := (dC, dI)) (ci := 9) (v := .int T_acts_3) (ty := .int) (C := RX9) (T := TX9) (N := 36) hx hb hts inX9_remembers_X9 tyX9 tyX9_ok nmX9 hown hK hP hD hS 0 rfl rfl 8 (by decide) (hts _ mbX9_remembers_0) (fun _ h9 => h9) rfl (by decide +kernel) rfl rfl (Nat.le_of_ble_eq_true rfl) dX9_remembers_74 (fun H locs hP hD hS => ?_)
    replace hP : va_P (dC, dI) vwCl [(a_T, .inr (9, [.int T_guests, .ref a_T_kinds, .int T_wishes, .ref a_T_wishKind, .ref a_T_wishA, .ref a_T_wishB, .int T_begins, .ref a_T_st, .int T_acts_3, .ref a_T_was, .int T_keeps, .ref a_T_kept, .int T_wokes, .ref a_T_woke, .ref a_T_text, .int T_texted, .int T_at, .ref a_T_told, .int T_readGuests, .ref a_T_readKinds, .ref a_T_readFloors, .int T_readWishes, .ref a_T_readWishKind, .ref a_T_readWishA, .ref a_T_readWishB, .int T_readBegins, .int T_here, .int T_stands, .int T_many, .int T_rounds, .ref a_T_come, .ref a_T_keptBy, .ref a_T_endsAt, .ref a_T_order, .ref a_T_time, .ref a_T_place])), (a_T_was, .inl (cI, 64, .inl T_was_5)), (a_T_st, .inl (cI, 8, .inl T_st))] H := hP
    replace hD : va_D A [(a_T, .inr (9, [.int T_guests, .ref a_T_kinds, .int T_wishes, .ref a_T_wishKind, .ref a_T_wishA, .ref a_T_wishB, .int T_begins, .ref a_T_st, .int T_acts_3, .ref a_T_was, .int T_keeps, .ref a_T_kept, .int T_wokes, .ref a_T_woke, .ref a_T_text, .int T_texted, .int T_at, .ref a_T_told, .int T_readGuests, .ref a_T_readKinds, .ref a_T_readFloors, .int T_readWishes, .ref a_T_readWishKind, .ref a_T_readWishA, .ref a_T_readWishB, .int T_readBegins, .int T_here, .int T_stands, .int T_many, .int T_rounds, .ref a_T_come, .ref a_T_keptBy, .ref a_T_endsAt, .ref a_T_order, .ref a_T_time, .ref a_T_place])), (a_T_was, .inl (cI, 64, .inl T_was_5)), (a_T_st, .inl (cI, 8, .inl T_st))] := hD
    have he := Option.some.inj hr
    subst he
    subst hQ
    exact ret_v hx hb hrt hK hP hD hS hlocks dX9_remembers_77
  replace hr := hj1
  refine lv_icmp_ne (tgt := 48) hx hb dX9_remembers_6 (by decide) (fun c1 => ?_) (fun c1 => ?_)
  · replace hr := it_f hr c1
    cases hr
    exact hJ1 H locs ls hP hD hS (lv_sub hl [0] rfl)
  · replace hr := it_t hr c1
    refine lv_iconst (v := 0) hx hb dX9_remembers_9 (by decide) ?_
    refine lv_istore_n (lv' := [(1, .int 0), (0, .ref a_T)]) hx hb dX9_remembers_10 rfl hl (by decide) rfl (fun ls hl => ?_)
    have hL1 : ∀ (n1 : Nat) (x1 : Int32) (T_was_1 : (Nat → Int32)) (T_was_2 : (Nat → Int32)), fX9_remembers_L11 K n1 x1 T_was_1 = some T_was_2 → WG p l e rmX9_remembers s m ([.ref a_T] : List Value).toArray below meth c 0 0 Q (dC, dI) A 38 2 [(a_T, .inr (9, [.int T_guests, .ref a_T_kinds, .int T_wishes, .ref a_T_wishKind, .ref a_T_wishA, .ref a_T_wishB, .int T_begins, .ref a_T_st, .int T_acts, .ref a_T_was, .int T_keeps, .ref a_T_kept, .int T_wokes, .ref a_T_woke, .ref a_T_text, .int T_texted, .int T_at, .ref a_T_told, .int T_readGuests, .ref a_T_readKinds, .ref a_T_readFloors, .int T_readWishes, .ref a_T_readWishKind, .ref a_T_readWishA, .ref a_T_readWishB, .int T_readBegins, .int T_here, .int T_stands, .int T_many, .int T_rounds, .ref a_T_come, .ref a_T_keptBy, .ref a_T_endsAt, .ref a_T_order, .ref a_T_time, .ref a_T_place])), (a_T_was, .inl (cI, 64, .inl T_was_2)), (a_T_st, .inl (cI, 8, .inl T_st))] [(0, .ref a_T)] [] → WG p l e rmX9_remembers s m ([.ref a_T] : List Value).toArray below meth c 0 0 Q (dC, dI) A 11 2 [(a_T, .inr (9, [.int T_guests, .ref a_T_kinds, .int T_wishes, .ref a_T_wishKind, .ref a_T_wishA, .ref a_T_wishB, .int T_begins, .ref a_T_st, .int T_acts, .ref a_T_was, .int T_keeps, .ref a_T_kept, .int T_wokes, .ref a_T_woke, .ref a_T_text, .int T_texted, .int T_at, .ref a_T_told, .int T_readGuests, .ref a_T_readKinds, .ref a_T_readFloors, .int T_readWishes, .ref a_T_readWishKind, .ref a_T_readWishA, .ref a_T_readWishB, .int T_readBegins, .int T_here, .int T_stands, .int T_many, .int T_rounds, .ref a_T_come, .ref a_T_keptBy, .ref a_T_endsAt, .ref a_T_order, .ref a_T_time, .ref a_T_place])), (a_T_was, .inl (cI, 64, .inl T_was_1)), (a_T_st, .inl (cI, 8, .inl T_st))] [(0, .ref a_T), (1, .int x1)] [] := by
      intro n1
      induction n1 with
      | zero =>
        intro x1 T_was_1 T_was_2 hr
        rw [fX9_remembers_L11] at hr
        cases hr
      | succ n1 ih11 =>
        intro x1 T_was_1 T_was_2 hr hX1 H locs ls hP hD hS hl
        rw [fX9_remembers_L11] at hr
        refine lv_iload_n hx hb dX9_remembers_11 rfl (lv_at hl 1 rfl) ?_
        refine lv_bipush (v := 56) hx hb dX9_remembers_12 (by decide) ?_
        refine lv_icmp_ge (tgt := 38) hx hb dX9_remembers_14 (by decide) (fun c2 => ?_) (fun c2 => ?_)
        · replace hr := it_t hr c2
          have he := Option.some.inj hr
          cases he
          exact hX1 H locs ls hP hD hS (lv_sub hl [0] rfl)
        · replace hr := it_f hr c2
          refine lv_aload_n hx hb dX9_remembers_17 rfl (lv_at hl 0 rfl) ?_
          refine va_get (D := (dC, dI)) (ci := 9) (v := .ref a_T_was) (C := RX9) (T := TX9) (N := 36) hx hb hts inX9_remembers_X9 hown hK hP 0 rfl rfl 9 (by decide) (hts _ mbX9_remembers_2) (fun _ h9 => h9) rfl dX9_remembers_18 ?_
          refine lv_iload_n hx hb dX9_remembers_21 rfl (lv_at hl 1 rfl) ?_
          refine lv_aload_n hx hb dX9_remembers_22 rfl (lv_at hl 0 rfl) ?_
          refine va_get (D := (dC, dI)) (ci := 9) (v := .ref a_T_was) (C := RX9) (T := TX9) (N := 36) hx hb hts inX9_remembers_X9 hown hK hP 0 rfl rfl 9 (by decide) (hts _ mbX9_remembers_2) (fun _ h9 => h9) rfl dX9_remembers_23 ?_
          refine lv_iload_n hx hb dX9_remembers_26 rfl (lv_at hl 1 rfl) ?_
          refine lv_bipush (v := 8) hx hb dX9_remembers_27 (by decide) ?_
          refine lv_iadd hx hb dX9_remembers_29 ?_
          obtain ⟨g1, hr⟩ := gd_some hr
          refine va_iald hx hb hK hP 1 1 rfl rfl g1 dX9_remembers_30 ?_
          obtain ⟨g2, hr⟩ := gd_some hr
          obtain ⟨T_was_3, e1, hr⟩ := nm_el hr
          refine va_iast hx hb hK hP hD hS 1 1 rfl rfl g2 dX9_remembers_31 (fun H locs hP hD hS => ?_)
          rw [← e1] at hP hD
          replace hP : va_P (dC, dI) vwCl [(a_T, .inr (9, [.int T_guests, .ref a_T_kinds, .int T_wishes, .ref a_T_wishKind, .ref a_T_wishA, .ref a_T_wishB, .int T_begins, .ref a_T_st, .int T_acts, .ref a_T_was, .int T_keeps, .ref a_T_kept, .int T_wokes, .ref a_T_woke, .ref a_T_text, .int T_texted, .int T_at, .ref a_T_told, .int T_readGuests, .ref a_T_readKinds, .ref a_T_readFloors, .int T_readWishes, .ref a_T_readWishKind, .ref a_T_readWishA, .ref a_T_readWishB, .int T_readBegins, .int T_here, .int T_stands, .int T_many, .int T_rounds, .ref a_T_come, .ref a_T_keptBy, .ref a_T_endsAt, .ref a_T_order, .ref a_T_time, .ref a_T_place])), (a_T_was, .inl (cI, 64, .inl T_was_3)), (a_T_st, .inl (cI, 8, .inl T_st))] H := hP
          replace hD : va_D A [(a_T, .inr (9, [.int T_guests, .ref a_T_kinds, .int T_wishes, .ref a_T_wishKind, .ref a_T_wishA, .ref a_T_wishB, .int T_begins, .ref a_T_st, .int T_acts, .ref a_T_was, .int T_keeps, .ref a_T_kept, .int T_wokes, .ref a_T_woke, .ref a_T_text, .int T_texted, .int T_at, .ref a_T_told, .int T_readGuests, .ref a_T_readKinds, .ref a_T_readFloors, .int T_readWishes, .ref a_T_readWishKind, .ref a_T_readWishA, .ref a_T_readWishB, .int T_readBegins, .int T_here, .int T_stands, .int T_many, .int T_rounds, .ref a_T_come, .ref a_T_keptBy, .ref a_T_endsAt, .ref a_T_order, .ref a_T_time, .ref a_T_place])), (a_T_was, .inl (cI, 64, .inl T_was_3)), (a_T_st, .inl (cI, 8, .inl T_st))] := hD
          obtain ⟨x1_1, e2, hr⟩ := nm_el hr
          refine lv_iinc (v := x1_1) (lv' := [(1, .int x1_1), (0, .ref a_T)]) hx hb dX9_remembers_32 hl (k := 1) rfl e2.symm (by decide) rfl (fun ls hl => ?_)
          refine lv_goto (tgt := 11) hx hb dX9_remembers_35 (by decide) ?_
          exact ih11 _ _ _ hr hX1 H locs ls hP hD hS (lv_sub hl [1, 0] rfl)
    obtain ⟨T_was_2, hE, hr⟩ := bd1_some hr
    refine hL1 K 0 T_was T_was_2 hE ?_ H locs ls hP hD hS (lv_sub hl [1, 0] rfl)
    intro H locs ls hP hD hS hl
    refine lv_aload_n hx hb dX9_remembers_38 rfl (lv_at hl 0 rfl) ?_
    refine lv_dup hx hb dX9_remembers_39 rfl ?_
    refine va_get (D := (dC, dI)) (ci := 9) (v := .int T_acts) (C := RX9) (T := TX9) (N := 36) hx hb hts inX9_remembers_X9 hown hK hP 0 rfl rfl 8 (by decide) (hts _ mbX9_remembers_0) (fun _ h9 => h9) rfl dX9_remembers_40 ?_
    refine lv_iconst (v := 1) hx hb dX9_remembers_43 (by decide) ?_
    refine lv_isub hx hb dX9_remembers_44 ?_
    obtain ⟨T_acts_1, e3, hr⟩ := nm_el hr
    refine lv_nmi e3 ?_
    refine va_put (D := (dC, dI)) (ci := 9) (v := .int T_acts_1) (ty := .int) (C := RX9) (T := TX9) (N := 36) hx hb hts inX9_remembers_X9 tyX9 tyX9_ok nmX9 hown hK hP hD hS 0 rfl rfl 8 (by decide) (hts _ mbX9_remembers_0) (fun _ h9 => h9) rfl (by decide +kernel) rfl rfl (Nat.le_of_ble_eq_true rfl) dX9_remembers_45 (fun H locs hP hD hS => ?_)
    replace hP : va_P (dC, dI) vwCl [(a_T, .inr (9, [.int T_guests, .ref a_T_kinds, .int T_wishes, .ref a_T_wishKind, .ref a_T_wishA, .ref a_T_wishB, .int T_begins, .ref a_T_st, .int T_acts_1, .ref a_T_was, .int T_keeps, .ref a_T_kept, .int T_wokes, .ref a_T_woke, .ref a_T_text, .int T_texted, .int T_at, .ref a_T_told, .int T_readGuests, .ref a_T_readKinds, .ref a_T_readFloors, .int T_readWishes, .ref a_T_readWishKind, .ref a_T_readWishA, .ref a_T_readWishB, .int T_readBegins, .int T_here, .int T_stands, .int T_many, .int T_rounds, .ref a_T_come, .ref a_T_keptBy, .ref a_T_endsAt, .ref a_T_order, .ref a_T_time, .ref a_T_place])), (a_T_was, .inl (cI, 64, .inl T_was_2)), (a_T_st, .inl (cI, 8, .inl T_st))] H := hP
    replace hD : va_D A [(a_T, .inr (9, [.int T_guests, .ref a_T_kinds, .int T_wishes, .ref a_T_wishKind, .ref a_T_wishA, .ref a_T_wishB, .int T_begins, .ref a_T_st, .int T_acts_1, .ref a_T_was, .int T_keeps, .ref a_T_kept, .int T_wokes, .ref a_T_woke, .ref a_T_text, .int T_texted, .int T_at, .ref a_T_told, .int T_readGuests, .ref a_T_readKinds, .ref a_T_readFloors, .int T_readWishes, .ref a_T_readWishKind, .ref a_T_readWishA, .ref a_T_readWishB, .int T_readBegins, .int T_here, .int T_stands, .int T_many, .int T_rounds, .ref a_T_come, .ref a_T_keptBy, .ref a_T_endsAt, .ref a_T_order, .ref a_T_time, .ref a_T_place])), (a_T_was, .inl (cI, 64, .inl T_was_2)), (a_T_st, .inl (cI, 8, .inl T_st))] := hD
    cases hr
    exact hJ1 H locs ls hP hD hS (lv_sub hl [0] rfl)
def fX9_leave (K : Nat) (x1 : Int32) (T_guests : Int32) (T_acts : Int32) (T_was : (Nat → Int32)) (T_st : (Nat → Int32)) : Option (Int32 × Int32 × (Nat → Int32) × (Nat → Int32)) :=
    bd1 (fX9_isGuest K x1 T_guests) fun r =>
    if (r : Int32) = 0 then (
    some ((-1), T_acts, T_was, T_st))
    else (
    bd2 (fX9_remembers K T_acts T_was T_st) fun T_acts_1 T_was_1 =>
    gd (¬ ((0 : Int32) < 0 ∨ 8 ≤ (0 : Int32).toNatClampNeg)) (
    gd (¬ ((0 : Int32) < 0 ∨ 8 ≤ (0 : Int32).toNatClampNeg)) (
    nm (upd T_st (0 : Int32).toNatClampNeg ((T_st (0 : Int32).toNatClampNeg) ^^^ (1 <<< (x1 &&& 31)))) fun T_st_1 =>
    gd (¬ ((0 : Int32) < 0 ∨ 8 ≤ (0 : Int32).toNatClampNeg)) (
    some ((((T_st_1 (0 : Int32).toNatClampNeg) >>> (x1 &&& 31)) &&& 1), T_acts_1, T_was_1, T_st_1)))))
theorem mbX9_leave_0 : Cond.fieldLink RX9 22 "BootsAtDawnModel" "st" "[I" ∈ wsX9_leave := List.mem_of_getElem? (i := 1) rfl
theorem inX9_leave_X9 : ∀ w ∈ u_ws RX9 TX9 36, w ∈ wsX9_leave := fun _ h => (List.mem_cons_of_mem _ (List.mem_append_right _ h))
abbrev rmX9_leave : Room := { frames := 2, cells := 0, slots := 0, locals := 45 }
set_option maxHeartbeats 8000000 in
set_option maxRecDepth 100000 in
theorem kX9_leave (l : Launch) (dC : Nat → ClassId) (dI : Nat → Nat → Nat) (cC cI cJ : ClassId) (sz : Nat) (K : Nat) (a_T a_T_kinds a_T_wishKind a_T_wishA a_T_wishB a_T_st a_T_was a_T_kept a_T_woke a_T_text a_T_told a_T_readKinds a_T_readFloors a_T_readWishKind a_T_readWishA a_T_readWishB a_T_come a_T_keptBy a_T_endsAt a_T_order a_T_time a_T_place : Nat) (x1 : Int32) (T_guests : Int32) (T_wishes : Int32) (T_begins : Int32) (T_acts : Int32) (T_keeps : Int32) (T_wokes : Int32) (T_texted : Int32) (T_at : Int32) (T_readGuests : Int32) (T_readWishes : Int32) (T_readBegins : Int32) (T_here : Int32) (T_stands : Int32) (T_many : Int32) (T_rounds : Int32) (T_was : (Nat → Int32)) (T_st : (Nat → Int32)) (R : Int32 × Int32 × (Nat → Int32) × (Nat → Int32)) (hr : fX9_leave K x1 T_guests T_acts T_was T_st = some R) : Met l yX9_leave wsX9_leave rmX9_leave (va_Pc ([.ref a_T, .int x1] : List Value) (PcW (dC, dI) (tysA cC cI cJ) sz [(a_T, .inr (9, [.int T_guests, .ref a_T_kinds, .int T_wishes, .ref a_T_wishKind, .ref a_T_wishA, .ref a_T_wishB, .int T_begins, .ref a_T_st, .int T_acts, .ref a_T_was, .int T_keeps, .ref a_T_kept, .int T_wokes, .ref a_T_woke, .ref a_T_text, .int T_texted, .int T_at, .ref a_T_told, .int T_readGuests, .ref a_T_readKinds, .ref a_T_readFloors, .int T_readWishes, .ref a_T_readWishKind, .ref a_T_readWishA, .ref a_T_readWishB, .int T_readBegins, .int T_here, .int T_stands, .int T_many, .int T_rounds, .ref a_T_come, .ref a_T_keptBy, .ref a_T_endsAt, .ref a_T_order, .ref a_T_time, .ref a_T_place])), (a_T_was, .inl (cI, 64, .inl T_was)), (a_T_st, .inl (cI, 8, .inl T_st))])) (va_Qi (fun r (_ : Unit) => r = R.1) (fun _ => BW (dC, dI) (tysA cC cI cJ) (va_A [(a_T, .inr (9, [.int T_guests, .ref a_T_kinds, .int T_wishes, .ref a_T_wishKind, .ref a_T_wishA, .ref a_T_wishB, .int T_begins, .ref a_T_st, .int T_acts, .ref a_T_was, .int T_keeps, .ref a_T_kept, .int T_wokes, .ref a_T_woke, .ref a_T_text, .int T_texted, .int T_at, .ref a_T_told, .int T_readGuests, .ref a_T_readKinds, .ref a_T_readFloors, .int T_readWishes, .ref a_T_readWishKind, .ref a_T_readWishA, .ref a_T_readWishB, .int T_readBegins, .int T_here, .int T_stands, .int T_many, .int T_rounds, .ref a_T_come, .ref a_T_keptBy, .ref a_T_endsAt, .ref a_T_order, .ref a_T_time, .ref a_T_place])), (a_T_was, .inl (cI, 64, .inl T_was)), (a_T_st, .inl (cI, 8, .inl T_st))] sz) [(a_T, .inr (9, [.int T_guests, .ref a_T_kinds, .int T_wishes, .ref a_T_wishKind, .ref a_T_wishA, .ref a_T_wishB, .int T_begins, .ref a_T_st, .int R.2.1, .ref a_T_was, .int T_keeps, .ref a_T_kept, .int T_wokes, .ref a_T_woke, .ref a_T_text, .int T_texted, .int T_at, .ref a_T_told, .int T_readGuests, .ref a_T_readKinds, .ref a_T_readFloors, .int T_readWishes, .ref a_T_readWishKind, .ref a_T_readWishA, .ref a_T_readWishB, .int T_readBegins, .int T_here, .int T_stands, .int T_many, .int T_rounds, .ref a_T_come, .ref a_T_keptBy, .ref a_T_endsAt, .ref a_T_order, .ref a_T_time, .ref a_T_place])), (a_T_was, .inl (cI, 64, .inl R.2.2.1)), (a_T_st, .inl (cI, 8, .inl R.2.2.2))]) (va_A [(a_T, .inr (9, [.int T_guests, .ref a_T_kinds, .int T_wishes, .ref a_T_wishKind, .ref a_T_wishA, .ref a_T_wishB, .int T_begins, .ref a_T_st, .int T_acts, .ref a_T_was, .int T_keeps, .ref a_T_kept, .int T_wokes, .ref a_T_woke, .ref a_T_text, .int T_texted, .int T_at, .ref a_T_told, .int T_readGuests, .ref a_T_readKinds, .ref a_T_readFloors, .int T_readWishes, .ref a_T_readWishKind, .ref a_T_readWishA, .ref a_T_readWishB, .int T_readBegins, .int T_here, .int T_stands, .int T_many, .int T_rounds, .ref a_T_come, .ref a_T_keptBy, .ref a_T_endsAt, .ref a_T_order, .ref a_T_time, .ref a_T_place])), (a_T_was, .inl (cI, 64, .inl T_was)), (a_T_st, .inl (cI, 8, .inl T_st))] sz)) 0 0 (va_A [(a_T, .inr (9, [.int T_guests, .ref a_T_kinds, .int T_wishes, .ref a_T_wishKind, .ref a_T_wishA, .ref a_T_wishB, .int T_begins, .ref a_T_st, .int T_acts, .ref a_T_was, .int T_keeps, .ref a_T_kept, .int T_wokes, .ref a_T_woke, .ref a_T_text, .int T_texted, .int T_at, .ref a_T_told, .int T_readGuests, .ref a_T_readKinds, .ref a_T_readFloors, .int T_readWishes, .ref a_T_readWishKind, .ref a_T_readWishA, .ref a_T_readWishB, .int T_readBegins, .int T_here, .int T_stands, .int T_many, .int T_rounds, .ref a_T_come, .ref a_T_keptBy, .ref a_T_endsAt, .ref a_T_order, .ref a_T_time, .ref a_T_place])), (a_T_was, .inl (cI, 64, .inl T_was)), (a_T_st, .inl (cI, 8, .inl T_st))] sz) := by
  refine Met.ofW (cc := cX9_leave) (maxL := 2) (ret := (some .int)) (by decide) rfl ?_
  intro p e s m args below meth c s₁ B hml hv
  obtain ⟨rfl, hsz, hP, hK, hD0, hN⟩ := hv
  have hx := B.exec
  have hb := B.bytes
  have hrt := B.returns
  have hts := atoms_spec (ws := wsX9_leave) B.pre
  have hown : s.vm.findClass RX9 = some m.cls := findClass_of_methodNamed B.named
  have hlocks := B.notSynchronized
  subst hsz
  have hD := hD0.self (sz := s.heap.size)
  generalize hAe : va_A [(a_T, .inr (9, [.int T_guests, .ref a_T_kinds, .int T_wishes, .ref a_T_wishKind, .ref a_T_wishA, .ref a_T_wishB, .int T_begins, .ref a_T_st, .int T_acts, .ref a_T_was, .int T_keeps, .ref a_T_kept, .int T_wokes, .ref a_T_woke, .ref a_T_text, .int T_texted, .int T_at, .ref a_T_told, .int T_readGuests, .ref a_T_readKinds, .ref a_T_readFloors, .int T_readWishes, .ref a_T_readWishKind, .ref a_T_readWishA, .ref a_T_readWishB, .int T_readBegins, .int T_here, .int T_stands, .int T_many, .int T_rounds, .ref a_T_come, .ref a_T_keptBy, .ref a_T_endsAt, .ref a_T_order, .ref a_T_time, .ref a_T_place])), (a_T_was, .inl (cI, 64, .inl T_was)), (a_T_st, .inl (cI, 8, .inl T_st))] s.heap.size = A at hD ⊢
  have hA : ∀ q : Nat, s.heap.size ≤ q → A q := fun q h => by rw [← hAe]; exact Or.inr h
  have hS : va_S A s.heap s.heap [] := va_S.rf
  have hl := lv_entry ([.ref a_T, .int x1] : List Value) (n := 2) (Nat.le_of_ble_eq_true rfl)
  rw [lg_entry_eq]
  generalize (lg_sl ([.ref a_T, .int x1] : List Value) ++ List.replicate (2 - (lg_sl ([.ref a_T, .int x1] : List Value)).length) Slot.unset).toArray = ls at hl ⊢
  replace hl : lv_has ls 2 [(0, .ref a_T), (1, .int x1)] := hl
  obtain ⟨Q, hQ⟩ : ∃ Q, Q = MQ below (va_Qi (fun r (_ : Unit) => r = R.1) (fun _ => BW (dC, dI) (tysA cC cI cJ) A [(a_T, .inr (9, [.int T_guests, .ref a_T_kinds, .int T_wishes, .ref a_T_wishKind, .ref a_T_wishA, .ref a_T_wishB, .int T_begins, .ref a_T_st, .int R.2.1, .ref a_T_was, .int T_keeps, .ref a_T_kept, .int T_wokes, .ref a_T_woke, .ref a_T_text, .int T_texted, .int T_at, .ref a_T_told, .int T_readGuests, .ref a_T_readKinds, .ref a_T_readFloors, .int T_readWishes, .ref a_T_readWishKind, .ref a_T_readWishA, .ref a_T_readWishB, .int T_readBegins, .int T_here, .int T_stands, .int T_many, .int T_rounds, .ref a_T_come, .ref a_T_keptBy, .ref a_T_endsAt, .ref a_T_order, .ref a_T_time, .ref a_T_place])), (a_T_was, .inl (cI, 64, .inl R.2.2.1)), (a_T_st, .inl (cI, 8, .inl R.2.2.2))]) A) ([.ref a_T, .int x1] : List Value).toArray s 0 0 A := ⟨_, rfl⟩
  rw [← hQ]
  suffices hE : WG p l e rmX9_leave s m ([.ref a_T, .int x1] : List Value).toArray below meth c 0 0 Q (dC, dI) A 0 2 [(a_T, .inr (9, [.int T_guests, .ref a_T_kinds, .int T_wishes, .ref a_T_wishKind, .ref a_T_wishA, .ref a_T_wishB, .int T_begins, .ref a_T_st, .int T_acts, .ref a_T_was, .int T_keeps, .ref a_T_kept, .int T_wokes, .ref a_T_woke, .ref a_T_text, .int T_texted, .int T_at, .ref a_T_told, .int T_readGuests, .ref a_T_readKinds, .ref a_T_readFloors, .int T_readWishes, .ref a_T_readWishKind, .ref a_T_readWishA, .ref a_T_readWishB, .int T_readBegins, .int T_here, .int T_stands, .int T_many, .int T_rounds, .ref a_T_come, .ref a_T_keptBy, .ref a_T_endsAt, .ref a_T_order, .ref a_T_time, .ref a_T_place])), (a_T_was, .inl (cI, 64, .inl T_was)), (a_T_st, .inl (cI, 8, .inl T_st))] [(0, .ref a_T), (1, .int x1)] [] from hE _ _ _ hP hD hS hl
  clear hP hD hS hl hD0 hAe
  intro H locs ls hP hD hS hl
  unfold fX9_leave at hr
  refine lv_aload_n hx hb dX9_leave_0 rfl (lv_at hl 0 rfl) ?_
  refine lv_iload_n hx hb dX9_leave_1 rfl (lv_at hl 1 rfl) ?_
  obtain ⟨r, hc1, hr⟩ := bd1_some hr
  refine call_i (D := (dC, dI)) (tys := tysA cC cI cJ) (wc := [(a_T, .inr (9, [.int T_guests, .ref a_T_kinds, .int T_wishes, .ref a_T_wishKind, .ref a_T_wishA, .ref a_T_wishB, .int T_begins, .ref a_T_st, .int T_acts, .ref a_T_was, .int T_keeps, .ref a_T_kept, .int T_wokes, .ref a_T_woke, .ref a_T_text, .int T_texted, .int T_at, .ref a_T_told, .int T_readGuests, .ref a_T_readKinds, .ref a_T_readFloors, .int T_readWishes, .ref a_T_readWishKind, .ref a_T_readWishA, .ref a_T_readWishB, .int T_readBegins, .int T_here, .int T_stands, .int T_many, .int T_rounds, .ref a_T_come, .ref a_T_keptBy, .ref a_T_endsAt, .ref a_T_order, .ref a_T_time, .ref a_T_place]))]) (wr := [(a_T_was, .inl (cI, 64, .inl T_was)), (a_T_st, .inl (cI, 8, .inl T_st))]) (w1 := [(a_T, .inr (9, [.int T_guests, .ref a_T_kinds, .int T_wishes, .ref a_T_wishKind, .ref a_T_wishA, .ref a_T_wishB, .int T_begins, .ref a_T_st, .int T_acts, .ref a_T_was, .int T_keeps, .ref a_T_kept, .int T_wokes, .ref a_T_woke, .ref a_T_text, .int T_texted, .int T_at, .ref a_T_told, .int T_readGuests, .ref a_T_readKinds, .ref a_T_readFloors, .int T_readWishes, .ref a_T_readWishKind, .ref a_T_readWishA, .ref a_T_readWishB, .int T_readBegins, .int T_here, .int T_stands, .int T_many, .int T_rounds, .ref a_T_come, .ref a_T_keptBy, .ref a_T_endsAt, .ref a_T_order, .ref a_T_time, .ref a_T_place]))]) (wn := [(a_T, .inr (9, [.int T_guests, .ref a_T_kinds, .int T_wishes, .ref a_T_wishKind, .ref a_T_wishA, .ref a_T_wishB, .int T_begins, .ref a_T_st, .int T_acts, .ref a_T_was, .int T_keeps, .ref a_T_kept, .int T_wokes, .ref a_T_woke, .ref a_T_text, .int T_texted, .int T_at, .ref a_T_told, .int T_readGuests, .ref a_T_readKinds, .ref a_T_readFloors, .int T_readWishes, .ref a_T_readWishKind, .ref a_T_readWishA, .ref a_T_readWishB, .int T_readBegins, .int T_here, .int T_stands, .int T_many, .int T_rounds, .ref a_T_come, .ref a_T_keptBy, .ref a_T_endsAt, .ref a_T_order, .ref a_T_time, .ref a_T_place])), (a_T_was, .inl (cI, 64, .inl T_was)), (a_T_st, .inl (cI, 8, .inl T_st))]) (r0 := r) hP hD hS hA [0] [1, 2] [2, 0, 1] rfl rfl (by decide +kernel) (by decide +kernel) rfl (by decide +kernel) (va_runV (As := [.int x1]) (rest := []) ⟨hx, hb, hml, hown, hts⟩ (kX9_isGuest l dC dI cC cI cJ H.size K a_T a_T_kinds a_T_wishKind a_T_wishA a_T_wishB a_T_st a_T_was a_T_kept a_T_woke a_T_text a_T_told a_T_readKinds a_T_readFloors a_T_readWishKind a_T_readWishA a_T_readWishB a_T_come a_T_keptBy a_T_endsAt a_T_order a_T_time a_T_place x1 T_guests T_wishes T_begins T_acts T_keeps T_wokes T_texted T_at T_readGuests T_readWishes T_readBegins T_here T_stands T_many T_rounds r hc1) (cwV 1 hts gX9_leave_X9_isGuest rfl rfl rfl (by decide +kernel) ⟨Nat.le_of_ble_eq_true rfl, Nat.le_of_ble_eq_true rfl⟩) ⟨fbW, va_recv hK hP (ci := 9) (q0 := 0) rfl rfl, preW hP hD hK hN [0] rfl (by decide +kernel)⟩ rfl rfl hl.1 rfl (lv_room (Nat.le_of_ble_eq_true rfl)) dX9_leave_2 ⟨Nat.zero_le _, Nat.zero_le _⟩) (fun H locs hP hD hS => ?_)
  refine lv_if_ne (tgt := 10) hx hb dX9_leave_5 (by decide) (fun c1 => ?_) (fun c1 => ?_)
  · replace hr := it_f hr c1
    refine lv_aload_n hx hb dX9_leave_10 rfl (lv_at hl 0 rfl) ?_
    obtain ⟨T_acts_1, T_was_1, hc2, hr⟩ := bd2_some hr
    refine call_v (D := (dC, dI)) (tys := tysA cC cI cJ) (wc := [(a_T, .inr (9, [.int T_guests, .ref a_T_kinds, .int T_wishes, .ref a_T_wishKind, .ref a_T_wishA, .ref a_T_wishB, .int T_begins, .ref a_T_st, .int T_acts, .ref a_T_was, .int T_keeps, .ref a_T_kept, .int T_wokes, .ref a_T_woke, .ref a_T_text, .int T_texted, .int T_at, .ref a_T_told, .int T_readGuests, .ref a_T_readKinds, .ref a_T_readFloors, .int T_readWishes, .ref a_T_readWishKind, .ref a_T_readWishA, .ref a_T_readWishB, .int T_readBegins, .int T_here, .int T_stands, .int T_many, .int T_rounds, .ref a_T_come, .ref a_T_keptBy, .ref a_T_endsAt, .ref a_T_order, .ref a_T_time, .ref a_T_place])), (a_T_was, .inl (cI, 64, .inl T_was)), (a_T_st, .inl (cI, 8, .inl T_st))]) (wr := []) (w1 := [(a_T, .inr (9, [.int T_guests, .ref a_T_kinds, .int T_wishes, .ref a_T_wishKind, .ref a_T_wishA, .ref a_T_wishB, .int T_begins, .ref a_T_st, .int T_acts_1, .ref a_T_was, .int T_keeps, .ref a_T_kept, .int T_wokes, .ref a_T_woke, .ref a_T_text, .int T_texted, .int T_at, .ref a_T_told, .int T_readGuests, .ref a_T_readKinds, .ref a_T_readFloors, .int T_readWishes, .ref a_T_readWishKind, .ref a_T_readWishA, .ref a_T_readWishB, .int T_readBegins, .int T_here, .int T_stands, .int T_many, .int T_rounds, .ref a_T_come, .ref a_T_keptBy, .ref a_T_endsAt, .ref a_T_order, .ref a_T_time, .ref a_T_place])), (a_T_was, .inl (cI, 64, .inl T_was_1)), (a_T_st, .inl (cI, 8, .inl T_st))]) (wn := [(a_T, .inr (9, [.int T_guests, .ref a_T_kinds, .int T_wishes, .ref a_T_wishKind, .ref a_T_wishA, .ref a_T_wishB, .int T_begins, .ref a_T_st, .int T_acts_1, .ref a_T_was, .int T_keeps, .ref a_T_kept, .int T_wokes, .ref a_T_woke, .ref a_T_text, .int T_texted, .int T_at, .ref a_T_told, .int T_readGuests, .ref a_T_readKinds, .ref a_T_readFloors, .int T_readWishes, .ref a_T_readWishKind, .ref a_T_readWishA, .ref a_T_readWishB, .int T_readBegins, .int T_here, .int T_stands, .int T_many, .int T_rounds, .ref a_T_come, .ref a_T_keptBy, .ref a_T_endsAt, .ref a_T_order, .ref a_T_time, .ref a_T_place])), (a_T_was, .inl (cI, 64, .inl T_was_1)), (a_T_st, .inl (cI, 8, .inl T_st))]) hP hD hS hA [0, 1, 2] [] [0, 1, 2] rfl rfl (by decide +kernel) (by decide +kernel) rfl (by decide +kernel) (va_runV (As := []) (rest := []) ⟨hx, hb, hml, hown, hts⟩ (kX9_remembers l dC dI cC cI cJ H.size K a_T a_T_kinds a_T_wishKind a_T_wishA a_T_wishB a_T_st a_T_was a_T_kept a_T_woke a_T_text a_T_told a_T_readKinds a_T_readFloors a_T_readWishKind a_T_readWishA a_T_readWishB a_T_come a_T_keptBy a_T_endsAt a_T_order a_T_time a_T_place T_guests T_wishes T_begins T_acts T_keeps T_wokes T_texted T_at T_readGuests T_readWishes T_readBegins T_here T_stands T_many T_rounds T_was T_st (T_acts_1, T_was_1) hc2) (cwV 0 hts gX9_leave_X9_remembers rfl rfl rfl (by decide +kernel) ⟨Nat.le_of_ble_eq_true rfl, Nat.le_of_ble_eq_true rfl⟩) ⟨fbW, va_recv hK hP (ci := 9) (q0 := 0) rfl rfl, preW hP hD hK hN [0, 1, 2] rfl (by decide +kernel)⟩ rfl rfl hl.1 rfl (lv_room (Nat.le_of_ble_eq_true rfl)) dX9_leave_11 ⟨Nat.zero_le _, Nat.zero_le _⟩) (fun H locs hP hD hS => ?_)
    refine lv_aload_n hx hb dX9_leave_14 rfl (lv_at hl 0 rfl) ?_
    refine va_get (D := (dC, dI)) (ci := 9) (v := .ref a_T_st) (C := RX9) (T := TX9) (N := 36) hx hb hts inX9_leave_X9 hown hK hP 0 rfl rfl 7 (by decide) (hts _ mbX9_leave_0) (fun _ h9 => h9) rfl dX9_leave_15 ?_
    refine lv_iconst (v := 0) hx hb dX9_leave_18 (by decide) ?_
    refine lv_dup2_11 hx hb dX9_leave_19 rfl rfl ?_
    obtain ⟨g1, hr⟩ := gd_some hr
    refine va_iald hx hb hK hP 2 1 rfl rfl g1 dX9_leave_20 ?_
    refine lv_iconst (v := 1) hx hb dX9_leave_21 (by decide) ?_
    refine lv_iload_n hx hb dX9_leave_22 rfl (lv_at hl 1 rfl) ?_
    refine lv_ishl hx hb dX9_leave_23 ?_
    refine lv_ixor hx hb dX9_leave_24 ?_
    obtain ⟨g2, hr⟩ := gd_some hr
    obtain ⟨T_st_1, e1, hr⟩ := nm_el hr
    refine va_iast hx hb hK hP hD hS 2 1 rfl rfl g2 dX9_leave_25 (fun H locs hP hD hS => ?_)
    rw [← e1] at hP hD
    replace hP : va_P (dC, dI) vwCl [(a_T, .inr (9, [.int T_guests, .ref a_T_kinds, .int T_wishes, .ref a_T_wishKind, .ref a_T_wishA, .ref a_T_wishB, .int T_begins, .ref a_T_st, .int T_acts_1, .ref a_T_was, .int T_keeps, .ref a_T_kept, .int T_wokes, .ref a_T_woke, .ref a_T_text, .int T_texted, .int T_at, .ref a_T_told, .int T_readGuests, .ref a_T_readKinds, .ref a_T_readFloors, .int T_readWishes, .ref a_T_readWishKind, .ref a_T_readWishA, .ref a_T_readWishB, .int T_readBegins, .int T_here, .int T_stands, .int T_many, .int T_rounds, .ref a_T_come, .ref a_T_keptBy, .ref a_T_endsAt, .ref a_T_order, .ref a_T_time, .ref a_T_place])), (a_T_was, .inl (cI, 64, .inl T_was_1)), (a_T_st, .inl (cI, 8, .inl T_st_1))] H := hP
    replace hD : va_D A [(a_T, .inr (9, [.int T_guests, .ref a_T_kinds, .int T_wishes, .ref a_T_wishKind, .ref a_T_wishA, .ref a_T_wishB, .int T_begins, .ref a_T_st, .int T_acts_1, .ref a_T_was, .int T_keeps, .ref a_T_kept, .int T_wokes, .ref a_T_woke, .ref a_T_text, .int T_texted, .int T_at, .ref a_T_told, .int T_readGuests, .ref a_T_readKinds, .ref a_T_readFloors, .int T_readWishes, .ref a_T_readWishKind, .ref a_T_readWishA, .ref a_T_readWishB, .int T_readBegins, .int T_here, .int T_stands, .int T_many, .int T_rounds, .ref a_T_come, .ref a_T_keptBy, .ref a_T_endsAt, .ref a_T_order, .ref a_T_time, .ref a_T_place])), (a_T_was, .inl (cI, 64, .inl T_was_1)), (a_T_st, .inl (cI, 8, .inl T_st_1))] := hD
    refine lv_aload_n hx hb dX9_leave_26 rfl (lv_at hl 0 rfl) ?_
    refine va_get (D := (dC, dI)) (ci := 9) (v := .ref a_T_st) (C := RX9) (T := TX9) (N := 36) hx hb hts inX9_leave_X9 hown hK hP 0 rfl rfl 7 (by decide) (hts _ mbX9_leave_0) (fun _ h9 => h9) rfl dX9_leave_27 ?_
    refine lv_iconst (v := 0) hx hb dX9_leave_30 (by decide) ?_
    obtain ⟨g3, hr⟩ := gd_some hr
    refine va_iald hx hb hK hP 2 1 rfl rfl g3 dX9_leave_31 ?_
    refine lv_iload_n hx hb dX9_leave_32 rfl (lv_at hl 1 rfl) ?_
    refine lv_ishr hx hb dX9_leave_33 ?_
    refine lv_iconst (v := 1) hx hb dX9_leave_34 (by decide) ?_
    refine lv_iand hx hb dX9_leave_35 ?_
    have he := Option.some.inj hr
    subst he
    subst hQ
    exact ret_i hx hb hrt hK hP hD hS hlocks dX9_leave_36
  · replace hr := it_t hr c1
    refine lv_iconst (v := (-1)) hx hb dX9_leave_8 (by decide) ?_
    have he := Option.some.inj hr
    subst he
    subst hQ
    exact ret_i hx hb hrt hK hP hD hS hlocks dX9_leave_9
def fX9_move (K : Nat) (x1 : Int32) (x2 : Int32) (T_guests : Int32) (T_acts : Int32) (T_st : (Nat → Int32)) (T_was : (Nat → Int32)) : Option (Int32 × Int32 × (Nat → Int32) × (Nat → Int32)) :=
    bd1 (fX9_isGuest K x1 T_guests) fun r =>
    if (r : Int32) = 0 then (
    some ((-1), T_acts, T_st, T_was))
    else (
    bd1 (fX9_in K x2 0 9) fun r_1 =>
    if (r_1 : Int32) = 0 then (
    some ((-1), T_acts, T_st, T_was))
    else (
    gd (¬ (((2 + x1) : Int32) < 0 ∨ 8 ≤ (2 + x1).toNatClampNeg)) (
    nm (T_st (2 + x1).toNatClampNeg) fun x3 =>
    if (x3 : Int32) = x2 then (
    some ((-2), T_acts, T_st, T_was))
    else (
    bd2 (fX9_remembers K T_acts T_was T_st) fun T_acts_1 T_was_1 =>
    gd (¬ (((2 + x1) : Int32) < 0 ∨ 8 ≤ (2 + x1).toNatClampNeg)) (
    nm (upd T_st (2 + x1).toNatClampNeg x2) fun T_st_1 =>
    some (x3, T_acts_1, T_st_1, T_was_1))))))
theorem mbX9_move_0 : Cond.fieldLink RX9 22 "BootsAtDawnModel" "st" "[I" ∈ wsX9_move := List.mem_of_getElem? (i := 1) rfl
theorem inX9_move_X9 : ∀ w ∈ u_ws RX9 TX9 36, w ∈ wsX9_move := fun _ h => (List.mem_cons_of_mem _ (List.mem_append_right _ h))
abbrev rmX9_move : Room := { frames := 2, cells := 0, slots := 0, locals := 45 }
set_option maxHeartbeats 8000000 in
set_option maxRecDepth 100000 in
theorem kX9_move (l : Launch) (dC : Nat → ClassId) (dI : Nat → Nat → Nat) (cC cI cJ : ClassId) (sz : Nat) (K : Nat) (a_T a_T_kinds a_T_wishKind a_T_wishA a_T_wishB a_T_st a_T_was a_T_kept a_T_woke a_T_text a_T_told a_T_readKinds a_T_readFloors a_T_readWishKind a_T_readWishA a_T_readWishB a_T_come a_T_keptBy a_T_endsAt a_T_order a_T_time a_T_place : Nat) (x1 : Int32) (x2 : Int32) (T_guests : Int32) (T_wishes : Int32) (T_begins : Int32) (T_acts : Int32) (T_keeps : Int32) (T_wokes : Int32) (T_texted : Int32) (T_at : Int32) (T_readGuests : Int32) (T_readWishes : Int32) (T_readBegins : Int32) (T_here : Int32) (T_stands : Int32) (T_many : Int32) (T_rounds : Int32) (T_st : (Nat → Int32)) (T_was : (Nat → Int32)) (R : Int32 × Int32 × (Nat → Int32) × (Nat → Int32)) (hr : fX9_move K x1 x2 T_guests T_acts T_st T_was = some R) : Met l yX9_move wsX9_move rmX9_move (va_Pc ([.ref a_T, .int x1, .int x2] : List Value) (PcW (dC, dI) (tysA cC cI cJ) sz [(a_T, .inr (9, [.int T_guests, .ref a_T_kinds, .int T_wishes, .ref a_T_wishKind, .ref a_T_wishA, .ref a_T_wishB, .int T_begins, .ref a_T_st, .int T_acts, .ref a_T_was, .int T_keeps, .ref a_T_kept, .int T_wokes, .ref a_T_woke, .ref a_T_text, .int T_texted, .int T_at, .ref a_T_told, .int T_readGuests, .ref a_T_readKinds, .ref a_T_readFloors, .int T_readWishes, .ref a_T_readWishKind, .ref a_T_readWishA, .ref a_T_readWishB, .int T_readBegins, .int T_here, .int T_stands, .int T_many, .int T_rounds, .ref a_T_come, .ref a_T_keptBy, .ref a_T_endsAt, .ref a_T_order, .ref a_T_time, .ref a_T_place])), (a_T_st, .inl (cI, 8, .inl T_st)), (a_T_was, .inl (cI, 64, .inl T_was))])) (va_Qi (fun r (_ : Unit) => r = R.1) (fun _ => BW (dC, dI) (tysA cC cI cJ) (va_A [(a_T, .inr (9, [.int T_guests, .ref a_T_kinds, .int T_wishes, .ref a_T_wishKind, .ref a_T_wishA, .ref a_T_wishB, .int T_begins, .ref a_T_st, .int T_acts, .ref a_T_was, .int T_keeps, .ref a_T_kept, .int T_wokes, .ref a_T_woke, .ref a_T_text, .int T_texted, .int T_at, .ref a_T_told, .int T_readGuests, .ref a_T_readKinds, .ref a_T_readFloors, .int T_readWishes, .ref a_T_readWishKind, .ref a_T_readWishA, .ref a_T_readWishB, .int T_readBegins, .int T_here, .int T_stands, .int T_many, .int T_rounds, .ref a_T_come, .ref a_T_keptBy, .ref a_T_endsAt, .ref a_T_order, .ref a_T_time, .ref a_T_place])), (a_T_st, .inl (cI, 8, .inl T_st)), (a_T_was, .inl (cI, 64, .inl T_was))] sz) [(a_T, .inr (9, [.int T_guests, .ref a_T_kinds, .int T_wishes, .ref a_T_wishKind, .ref a_T_wishA, .ref a_T_wishB, .int T_begins, .ref a_T_st, .int R.2.1, .ref a_T_was, .int T_keeps, .ref a_T_kept, .int T_wokes, .ref a_T_woke, .ref a_T_text, .int T_texted, .int T_at, .ref a_T_told, .int T_readGuests, .ref a_T_readKinds, .ref a_T_readFloors, .int T_readWishes, .ref a_T_readWishKind, .ref a_T_readWishA, .ref a_T_readWishB, .int T_readBegins, .int T_here, .int T_stands, .int T_many, .int T_rounds, .ref a_T_come, .ref a_T_keptBy, .ref a_T_endsAt, .ref a_T_order, .ref a_T_time, .ref a_T_place])), (a_T_st, .inl (cI, 8, .inl R.2.2.1)), (a_T_was, .inl (cI, 64, .inl R.2.2.2))]) (va_A [(a_T, .inr (9, [.int T_guests, .ref a_T_kinds, .int T_wishes, .ref a_T_wishKind, .ref a_T_wishA, .ref a_T_wishB, .int T_begins, .ref a_T_st, .int T_acts, .ref a_T_was, .int T_keeps, .ref a_T_kept, .int T_wokes, .ref a_T_woke, .ref a_T_text, .int T_texted, .int T_at, .ref a_T_told, .int T_readGuests, .ref a_T_readKinds, .ref a_T_readFloors, .int T_readWishes, .ref a_T_readWishKind, .ref a_T_readWishA, .ref a_T_readWishB, .int T_readBegins, .int T_here, .int T_stands, .int T_many, .int T_rounds, .ref a_T_come, .ref a_T_keptBy, .ref a_T_endsAt, .ref a_T_order, .ref a_T_time, .ref a_T_place])), (a_T_st, .inl (cI, 8, .inl T_st)), (a_T_was, .inl (cI, 64, .inl T_was))] sz)) 0 0 (va_A [(a_T, .inr (9, [.int T_guests, .ref a_T_kinds, .int T_wishes, .ref a_T_wishKind, .ref a_T_wishA, .ref a_T_wishB, .int T_begins, .ref a_T_st, .int T_acts, .ref a_T_was, .int T_keeps, .ref a_T_kept, .int T_wokes, .ref a_T_woke, .ref a_T_text, .int T_texted, .int T_at, .ref a_T_told, .int T_readGuests, .ref a_T_readKinds, .ref a_T_readFloors, .int T_readWishes, .ref a_T_readWishKind, .ref a_T_readWishA, .ref a_T_readWishB, .int T_readBegins, .int T_here, .int T_stands, .int T_many, .int T_rounds, .ref a_T_come, .ref a_T_keptBy, .ref a_T_endsAt, .ref a_T_order, .ref a_T_time, .ref a_T_place])), (a_T_st, .inl (cI, 8, .inl T_st)), (a_T_was, .inl (cI, 64, .inl T_was))] sz) := by
  refine Met.ofW (cc := cX9_move) (maxL := 4) (ret := (some .int)) (by decide) rfl ?_
  intro p e s m args below meth c s₁ B hml hv
  obtain ⟨rfl, hsz, hP, hK, hD0, hN⟩ := hv
  have hx := B.exec
  have hb := B.bytes
  have hrt := B.returns
  have hts := atoms_spec (ws := wsX9_move) B.pre
  have hown : s.vm.findClass RX9 = some m.cls := findClass_of_methodNamed B.named
  have hlocks := B.notSynchronized
  subst hsz
  have hD := hD0.self (sz := s.heap.size)
  generalize hAe : va_A [(a_T, .inr (9, [.int T_guests, .ref a_T_kinds, .int T_wishes, .ref a_T_wishKind, .ref a_T_wishA, .ref a_T_wishB, .int T_begins, .ref a_T_st, .int T_acts, .ref a_T_was, .int T_keeps, .ref a_T_kept, .int T_wokes, .ref a_T_woke, .ref a_T_text, .int T_texted, .int T_at, .ref a_T_told, .int T_readGuests, .ref a_T_readKinds, .ref a_T_readFloors, .int T_readWishes, .ref a_T_readWishKind, .ref a_T_readWishA, .ref a_T_readWishB, .int T_readBegins, .int T_here, .int T_stands, .int T_many, .int T_rounds, .ref a_T_come, .ref a_T_keptBy, .ref a_T_endsAt, .ref a_T_order, .ref a_T_time, .ref a_T_place])), (a_T_st, .inl (cI, 8, .inl T_st)), (a_T_was, .inl (cI, 64, .inl T_was))] s.heap.size = A at hD ⊢
  have hA : ∀ q : Nat, s.heap.size ≤ q → A q := fun q h => by rw [← hAe]; exact Or.inr h
  have hS : va_S A s.heap s.heap [] := va_S.rf
  have hl := lv_entry ([.ref a_T, .int x1, .int x2] : List Value) (n := 4) (Nat.le_of_ble_eq_true rfl)
  rw [lg_entry_eq]
  generalize (lg_sl ([.ref a_T, .int x1, .int x2] : List Value) ++ List.replicate (4 - (lg_sl ([.ref a_T, .int x1, .int x2] : List Value)).length) Slot.unset).toArray = ls at hl ⊢
  replace hl : lv_has ls 4 [(0, .ref a_T), (1, .int x1), (2, .int x2)] := hl
  obtain ⟨Q, hQ⟩ : ∃ Q, Q = MQ below (va_Qi (fun r (_ : Unit) => r = R.1) (fun _ => BW (dC, dI) (tysA cC cI cJ) A [(a_T, .inr (9, [.int T_guests, .ref a_T_kinds, .int T_wishes, .ref a_T_wishKind, .ref a_T_wishA, .ref a_T_wishB, .int T_begins, .ref a_T_st, .int R.2.1, .ref a_T_was, .int T_keeps, .ref a_T_kept, .int T_wokes, .ref a_T_woke, .ref a_T_text, .int T_texted, .int T_at, .ref a_T_told, .int T_readGuests, .ref a_T_readKinds, .ref a_T_readFloors, .int T_readWishes, .ref a_T_readWishKind, .ref a_T_readWishA, .ref a_T_readWishB, .int T_readBegins, .int T_here, .int T_stands, .int T_many, .int T_rounds, .ref a_T_come, .ref a_T_keptBy, .ref a_T_endsAt, .ref a_T_order, .ref a_T_time, .ref a_T_place])), (a_T_st, .inl (cI, 8, .inl R.2.2.1)), (a_T_was, .inl (cI, 64, .inl R.2.2.2))]) A) ([.ref a_T, .int x1, .int x2] : List Value).toArray s 0 0 A := ⟨_, rfl⟩
  rw [← hQ]
  suffices hE : WG p l e rmX9_move s m ([.ref a_T, .int x1, .int x2] : List Value).toArray below meth c 0 0 Q (dC, dI) A 0 4 [(a_T, .inr (9, [.int T_guests, .ref a_T_kinds, .int T_wishes, .ref a_T_wishKind, .ref a_T_wishA, .ref a_T_wishB, .int T_begins, .ref a_T_st, .int T_acts, .ref a_T_was, .int T_keeps, .ref a_T_kept, .int T_wokes, .ref a_T_woke, .ref a_T_text, .int T_texted, .int T_at, .ref a_T_told, .int T_readGuests, .ref a_T_readKinds, .ref a_T_readFloors, .int T_readWishes, .ref a_T_readWishKind, .ref a_T_readWishA, .ref a_T_readWishB, .int T_readBegins, .int T_here, .int T_stands, .int T_many, .int T_rounds, .ref a_T_come, .ref a_T_keptBy, .ref a_T_endsAt, .ref a_T_order, .ref a_T_time, .ref a_T_place])), (a_T_st, .inl (cI, 8, .inl T_st)), (a_T_was, .inl (cI, 64, .inl T_was))] [(0, .ref a_T), (1, .int x1), (2, .int x2)] [] from hE _ _ _ hP hD hS hl
  clear hP hD hS hl hD0 hAe
  intro H locs ls hP hD hS hl
  unfold fX9_move at hr
  refine lv_aload_n hx hb dX9_move_0 rfl (lv_at hl 0 rfl) ?_
  refine lv_iload_n hx hb dX9_move_1 rfl (lv_at hl 1 rfl) ?_
  obtain ⟨r, hc1, hr⟩ := bd1_some hr
  refine call_i (D := (dC, dI)) (tys := tysA cC cI cJ) (wc := [(a_T, .inr (9, [.int T_guests, .ref a_T_kinds, .int T_wishes, .ref a_T_wishKind, .ref a_T_wishA, .ref a_T_wishB, .int T_begins, .ref a_T_st, .int T_acts, .ref a_T_was, .int T_keeps, .ref a_T_kept, .int T_wokes, .ref a_T_woke, .ref a_T_text, .int T_texted, .int T_at, .ref a_T_told, .int T_readGuests, .ref a_T_readKinds, .ref a_T_readFloors, .int T_readWishes, .ref a_T_readWishKind, .ref a_T_readWishA, .ref a_T_readWishB, .int T_readBegins, .int T_here, .int T_stands, .int T_many, .int T_rounds, .ref a_T_come, .ref a_T_keptBy, .ref a_T_endsAt, .ref a_T_order, .ref a_T_time, .ref a_T_place]))]) (wr := [(a_T_st, .inl (cI, 8, .inl T_st)), (a_T_was, .inl (cI, 64, .inl T_was))]) (w1 := [(a_T, .inr (9, [.int T_guests, .ref a_T_kinds, .int T_wishes, .ref a_T_wishKind, .ref a_T_wishA, .ref a_T_wishB, .int T_begins, .ref a_T_st, .int T_acts, .ref a_T_was, .int T_keeps, .ref a_T_kept, .int T_wokes, .ref a_T_woke, .ref a_T_text, .int T_texted, .int T_at, .ref a_T_told, .int T_readGuests, .ref a_T_readKinds, .ref a_T_readFloors, .int T_readWishes, .ref a_T_readWishKind, .ref a_T_readWishA, .ref a_T_readWishB, .int T_readBegins, .int T_here, .int T_stands, .int T_many, .int T_rounds, .ref a_T_come, .ref a_T_keptBy, .ref a_T_endsAt, .ref a_T_order, .ref a_T_time, .ref a_T_place]))]) (wn := [(a_T, .inr (9, [.int T_guests, .ref a_T_kinds, .int T_wishes, .ref a_T_wishKind, .ref a_T_wishA, .ref a_T_wishB, .int T_begins, .ref a_T_st, .int T_acts, .ref a_T_was, .int T_keeps, .ref a_T_kept, .int T_wokes, .ref a_T_woke, .ref a_T_text, .int T_texted, .int T_at, .ref a_T_told, .int T_readGuests, .ref a_T_readKinds, .ref a_T_readFloors, .int T_readWishes, .ref a_T_readWishKind, .ref a_T_readWishA, .ref a_T_readWishB, .int T_readBegins, .int T_here, .int T_stands, .int T_many, .int T_rounds, .ref a_T_come, .ref a_T_keptBy, .ref a_T_endsAt, .ref a_T_order, .ref a_T_time, .ref a_T_place])), (a_T_st, .inl (cI, 8, .inl T_st)), (a_T_was, .inl (cI, 64, .inl T_was))]) (r0 := r) hP hD hS hA [0] [1, 2] [2, 0, 1] rfl rfl (by decide +kernel) (by decide +kernel) rfl (by decide +kernel) (va_runV (As := [.int x1]) (rest := []) ⟨hx, hb, hml, hown, hts⟩ (kX9_isGuest l dC dI cC cI cJ H.size K a_T a_T_kinds a_T_wishKind a_T_wishA a_T_wishB a_T_st a_T_was a_T_kept a_T_woke a_T_text a_T_told a_T_readKinds a_T_readFloors a_T_readWishKind a_T_readWishA a_T_readWishB a_T_come a_T_keptBy a_T_endsAt a_T_order a_T_time a_T_place x1 T_guests T_wishes T_begins T_acts T_keeps T_wokes T_texted T_at T_readGuests T_readWishes T_readBegins T_here T_stands T_many T_rounds r hc1) (cwV 1 hts gX9_move_X9_isGuest rfl rfl rfl (by decide +kernel) ⟨Nat.le_of_ble_eq_true rfl, Nat.le_of_ble_eq_true rfl⟩) ⟨fbW, va_recv hK hP (ci := 9) (q0 := 0) rfl rfl, preW hP hD hK hN [0] rfl (by decide +kernel)⟩ rfl rfl hl.1 rfl (lv_room (Nat.le_of_ble_eq_true rfl)) dX9_move_2 ⟨Nat.zero_le _, Nat.zero_le _⟩) (fun H locs hP hD hS => ?_)
  refine lv_if_eq (tgt := 18) hx hb dX9_move_5 (by decide) (fun c1 => ?_) (fun c1 => ?_)
  · replace hr := it_t hr c1
    refine lv_iconst (v := (-1)) hx hb dX9_move_18 (by decide) ?_
    have he := Option.some.inj hr
    subst he
    subst hQ
    exact ret_i hx hb hrt hK hP hD hS hlocks dX9_move_19
  · replace hr := it_f hr c1
    refine lv_iload_n hx hb dX9_move_8 rfl (lv_at hl 2 rfl) ?_
    refine lv_iconst (v := 0) hx hb dX9_move_9 (by decide) ?_
    refine lv_bipush (v := 9) hx hb dX9_move_10 (by decide) ?_
    obtain ⟨r_1, hc2, hr⟩ := bd1_some hr
    refine call_i (D := (dC, dI)) (tys := tysA cC cI cJ) (wc := []) (wr := [(a_T, .inr (9, [.int T_guests, .ref a_T_kinds, .int T_wishes, .ref a_T_wishKind, .ref a_T_wishA, .ref a_T_wishB, .int T_begins, .ref a_T_st, .int T_acts, .ref a_T_was, .int T_keeps, .ref a_T_kept, .int T_wokes, .ref a_T_woke, .ref a_T_text, .int T_texted, .int T_at, .ref a_T_told, .int T_readGuests, .ref a_T_readKinds, .ref a_T_readFloors, .int T_readWishes, .ref a_T_readWishKind, .ref a_T_readWishA, .ref a_T_readWishB, .int T_readBegins, .int T_here, .int T_stands, .int T_many, .int T_rounds, .ref a_T_come, .ref a_T_keptBy, .ref a_T_endsAt, .ref a_T_order, .ref a_T_time, .ref a_T_place])), (a_T_st, .inl (cI, 8, .inl T_st)), (a_T_was, .inl (cI, 64, .inl T_was))]) (w1 := []) (wn := [(a_T, .inr (9, [.int T_guests, .ref a_T_kinds, .int T_wishes, .ref a_T_wishKind, .ref a_T_wishA, .ref a_T_wishB, .int T_begins, .ref a_T_st, .int T_acts, .ref a_T_was, .int T_keeps, .ref a_T_kept, .int T_wokes, .ref a_T_woke, .ref a_T_text, .int T_texted, .int T_at, .ref a_T_told, .int T_readGuests, .ref a_T_readKinds, .ref a_T_readFloors, .int T_readWishes, .ref a_T_readWishKind, .ref a_T_readWishA, .ref a_T_readWishB, .int T_readBegins, .int T_here, .int T_stands, .int T_many, .int T_rounds, .ref a_T_come, .ref a_T_keptBy, .ref a_T_endsAt, .ref a_T_order, .ref a_T_time, .ref a_T_place])), (a_T_st, .inl (cI, 8, .inl T_st)), (a_T_was, .inl (cI, 64, .inl T_was))]) (r0 := r_1) hP hD hS hA [] [0, 1, 2] [0, 1, 2] rfl rfl (by decide +kernel) (by decide +kernel) rfl (by decide +kernel) (va_runS (As := [.int x2, .int 0, .int 9]) (rest := []) ⟨hx, hb, hml, hown, hts⟩ (kX9_in l dC dI cC cI cJ H.size K x2 0 9 r_1 hc2) (va_cwS 3 hts gX9_move_X9_in rfl rfl rfl (by decide +kernel) ⟨Nat.le_of_ble_eq_true rfl, Nat.le_of_ble_eq_true rfl⟩) ⟨fbW, preW hP hD hK hN [] rfl (by decide +kernel)⟩ rfl rfl hl.1 rfl (lv_room (Nat.le_of_ble_eq_true rfl)) dX9_move_12 ⟨Nat.zero_le _, Nat.zero_le _⟩) (fun H locs hP hD hS => ?_)
    refine lv_if_ne (tgt := 20) hx hb dX9_move_15 (by decide) (fun c2 => ?_) (fun c2 => ?_)
    · replace hr := it_f hr c2
      refine lv_aload_n hx hb dX9_move_20 rfl (lv_at hl 0 rfl) ?_
      refine va_get (D := (dC, dI)) (ci := 9) (v := .ref a_T_st) (C := RX9) (T := TX9) (N := 36) hx hb hts inX9_move_X9 hown hK hP 0 rfl rfl 7 (by decide) (hts _ mbX9_move_0) (fun _ h9 => h9) rfl dX9_move_21 ?_
      refine lv_iconst (v := 2) hx hb dX9_move_24 (by decide) ?_
      refine lv_iload_n hx hb dX9_move_25 rfl (lv_at hl 1 rfl) ?_
      refine lv_iadd hx hb dX9_move_26 ?_
      obtain ⟨g1, hr⟩ := gd_some hr
      refine va_iald hx hb hK hP 1 1 rfl rfl g1 dX9_move_27 ?_
      obtain ⟨x3, e1, hr⟩ := nm_el hr
      refine lv_nmi e1 ?_
      refine lv_istore_n (lv' := [(3, .int x3), (0, .ref a_T), (1, .int x1), (2, .int x2)]) hx hb dX9_move_28 rfl hl (by decide) rfl (fun ls hl => ?_)
      refine lv_iload_n hx hb dX9_move_29 rfl (lv_at hl 0 rfl) ?_
      refine lv_iload_n hx hb dX9_move_30 rfl (lv_at hl 3 rfl) ?_
      refine lv_icmp_ne (tgt := 37) hx hb dX9_move_31 (by decide) (fun c3 => ?_) (fun c3 => ?_)
      · replace hr := it_f hr c3
        refine lv_aload_n hx hb dX9_move_37 rfl (lv_at hl 1 rfl) ?_
        obtain ⟨T_acts_1, T_was_1, hc3, hr⟩ := bd2_some hr
        refine call_v (D := (dC, dI)) (tys := tysA cC cI cJ) (wc := [(a_T, .inr (9, [.int T_guests, .ref a_T_kinds, .int T_wishes, .ref a_T_wishKind, .ref a_T_wishA, .ref a_T_wishB, .int T_begins, .ref a_T_st, .int T_acts, .ref a_T_was, .int T_keeps, .ref a_T_kept, .int T_wokes, .ref a_T_woke, .ref a_T_text, .int T_texted, .int T_at, .ref a_T_told, .int T_readGuests, .ref a_T_readKinds, .ref a_T_readFloors, .int T_readWishes, .ref a_T_readWishKind, .ref a_T_readWishA, .ref a_T_readWishB, .int T_readBegins, .int T_here, .int T_stands, .int T_many, .int T_rounds, .ref a_T_come, .ref a_T_keptBy, .ref a_T_endsAt, .ref a_T_order, .ref a_T_time, .ref a_T_place])), (a_T_was, .inl (cI, 64, .inl T_was)), (a_T_st, .inl (cI, 8, .inl T_st))]) (wr := []) (w1 := [(a_T, .inr (9, [.int T_guests, .ref a_T_kinds, .int T_wishes, .ref a_T_wishKind, .ref a_T_wishA, .ref a_T_wishB, .int T_begins, .ref a_T_st, .int T_acts_1, .ref a_T_was, .int T_keeps, .ref a_T_kept, .int T_wokes, .ref a_T_woke, .ref a_T_text, .int T_texted, .int T_at, .ref a_T_told, .int T_readGuests, .ref a_T_readKinds, .ref a_T_readFloors, .int T_readWishes, .ref a_T_readWishKind, .ref a_T_readWishA, .ref a_T_readWishB, .int T_readBegins, .int T_here, .int T_stands, .int T_many, .int T_rounds, .ref a_T_come, .ref a_T_keptBy, .ref a_T_endsAt, .ref a_T_order, .ref a_T_time, .ref a_T_place])), (a_T_was, .inl (cI, 64, .inl T_was_1)), (a_T_st, .inl (cI, 8, .inl T_st))]) (wn := [(a_T, .inr (9, [.int T_guests, .ref a_T_kinds, .int T_wishes, .ref a_T_wishKind, .ref a_T_wishA, .ref a_T_wishB, .int T_begins, .ref a_T_st, .int T_acts_1, .ref a_T_was, .int T_keeps, .ref a_T_kept, .int T_wokes, .ref a_T_woke, .ref a_T_text, .int T_texted, .int T_at, .ref a_T_told, .int T_readGuests, .ref a_T_readKinds, .ref a_T_readFloors, .int T_readWishes, .ref a_T_readWishKind, .ref a_T_readWishA, .ref a_T_readWishB, .int T_readBegins, .int T_here, .int T_stands, .int T_many, .int T_rounds, .ref a_T_come, .ref a_T_keptBy, .ref a_T_endsAt, .ref a_T_order, .ref a_T_time, .ref a_T_place])), (a_T_st, .inl (cI, 8, .inl T_st)), (a_T_was, .inl (cI, 64, .inl T_was_1))]) hP hD hS hA [0, 2, 1] [] [0, 2, 1] rfl rfl (by decide +kernel) (by decide +kernel) rfl (by decide +kernel) (va_runV (As := []) (rest := []) ⟨hx, hb, hml, hown, hts⟩ (kX9_remembers l dC dI cC cI cJ H.size K a_T a_T_kinds a_T_wishKind a_T_wishA a_T_wishB a_T_st a_T_was a_T_kept a_T_woke a_T_text a_T_told a_T_readKinds a_T_readFloors a_T_readWishKind a_T_readWishA a_T_readWishB a_T_come a_T_keptBy a_T_endsAt a_T_order a_T_time a_T_place T_guests T_wishes T_begins T_acts T_keeps T_wokes T_texted T_at T_readGuests T_readWishes T_readBegins T_here T_stands T_many T_rounds T_was T_st (T_acts_1, T_was_1) hc3) (cwV 0 hts gX9_move_X9_remembers rfl rfl rfl (by decide +kernel) ⟨Nat.le_of_ble_eq_true rfl, Nat.le_of_ble_eq_true rfl⟩) ⟨fbW, va_recv hK hP (ci := 9) (q0 := 0) rfl rfl, preW hP hD hK hN [0, 2, 1] rfl (by decide +kernel)⟩ rfl rfl hl.1 rfl (lv_room (Nat.le_of_ble_eq_true rfl)) dX9_move_38 ⟨Nat.zero_le _, Nat.zero_le _⟩) (fun H locs hP hD hS => ?_)
        refine lv_aload_n hx hb dX9_move_41 rfl (lv_at hl 1 rfl) ?_
        refine va_get (D := (dC, dI)) (ci := 9) (v := .ref a_T_st) (C := RX9) (T := TX9) (N := 36) hx hb hts inX9_move_X9 hown hK hP 0 rfl rfl 7 (by decide) (hts _ mbX9_move_0) (fun _ h9 => h9) rfl dX9_move_42 ?_
        refine lv_iconst (v := 2) hx hb dX9_move_45 (by decide) ?_
        refine lv_iload_n hx hb dX9_move_46 rfl (lv_at hl 2 rfl) ?_
        refine lv_iadd hx hb dX9_move_47 ?_
        refine lv_iload_n hx hb dX9_move_48 rfl (lv_at hl 3 rfl) ?_
        obtain ⟨g2, hr⟩ := gd_some hr
        obtain ⟨T_st_1, e2, hr⟩ := nm_el hr
        refine va_iast hx hb hK hP hD hS 1 1 rfl rfl g2 dX9_move_49 (fun H locs hP hD hS => ?_)
        rw [← e2] at hP hD
        replace hP : va_P (dC, dI) vwCl [(a_T, .inr (9, [.int T_guests, .ref a_T_kinds, .int T_wishes, .ref a_T_wishKind, .ref a_T_wishA, .ref a_T_wishB, .int T_begins, .ref a_T_st, .int T_acts_1, .ref a_T_was, .int T_keeps, .ref a_T_kept, .int T_wokes, .ref a_T_woke, .ref a_T_text, .int T_texted, .int T_at, .ref a_T_told, .int T_readGuests, .ref a_T_readKinds, .ref a_T_readFloors, .int T_readWishes, .ref a_T_readWishKind, .ref a_T_readWishA, .ref a_T_readWishB, .int T_readBegins, .int T_here, .int T_stands, .int T_many, .int T_rounds, .ref a_T_come, .ref a_T_keptBy, .ref a_T_endsAt, .ref a_T_order, .ref a_T_time, .ref a_T_place])), (a_T_st, .inl (cI, 8, .inl T_st_1)), (a_T_was, .inl (cI, 64, .inl T_was_1))] H := hP
        replace hD : va_D A [(a_T, .inr (9, [.int T_guests, .ref a_T_kinds, .int T_wishes, .ref a_T_wishKind, .ref a_T_wishA, .ref a_T_wishB, .int T_begins, .ref a_T_st, .int T_acts_1, .ref a_T_was, .int T_keeps, .ref a_T_kept, .int T_wokes, .ref a_T_woke, .ref a_T_text, .int T_texted, .int T_at, .ref a_T_told, .int T_readGuests, .ref a_T_readKinds, .ref a_T_readFloors, .int T_readWishes, .ref a_T_readWishKind, .ref a_T_readWishA, .ref a_T_readWishB, .int T_readBegins, .int T_here, .int T_stands, .int T_many, .int T_rounds, .ref a_T_come, .ref a_T_keptBy, .ref a_T_endsAt, .ref a_T_order, .ref a_T_time, .ref a_T_place])), (a_T_st, .inl (cI, 8, .inl T_st_1)), (a_T_was, .inl (cI, 64, .inl T_was_1))] := hD
        refine lv_iload_n hx hb dX9_move_50 rfl (lv_at hl 0 rfl) ?_
        have he := Option.some.inj hr
        subst he
        subst hQ
        exact ret_i hx hb hrt hK hP hD hS hlocks dX9_move_51
      · replace hr := it_t hr c3
        refine lv_bipush (v := (-2)) hx hb dX9_move_34 (by decide) ?_
        have he := Option.some.inj hr
        subst he
        subst hQ
        exact ret_i hx hb hrt hK hP hD hS hlocks dX9_move_36
    · replace hr := it_t hr c2
      refine lv_iconst (v := (-1)) hx hb dX9_move_18 (by decide) ?_
      have he := Option.some.inj hr
      subst he
      subst hQ
      exact ret_i hx hb hrt hK hP hD hS hlocks dX9_move_19
def fX9_strike (K : Nat) (x1 : Int32) (x2 : Int32) (T_wishes : Int32) (T_acts : Int32) (T_st : (Nat → Int32)) (T_was : (Nat → Int32)) : Option (Int32 × Int32 × (Nat → Int32) × (Nat → Int32)) :=
    bd1 (fX9_in K x1 0 (T_wishes - 1)) fun r =>
    if (r : Int32) = 0 then (
    some ((-1), T_acts, T_st, T_was))
    else (
    gd (¬ ((1 : Int32) < 0 ∨ 8 ≤ (1 : Int32).toNatClampNeg)) (
    bd1 (fX9_has K (T_st (1 : Int32).toNatClampNeg) x1) fun r_1 =>
    if (r_1 : Int32) = x2 then (
    some ((-2), T_acts, T_st, T_was))
    else (
    bd2 (fX9_remembers K T_acts T_was T_st) fun T_acts_1 T_was_1 =>
    gd (¬ ((1 : Int32) < 0 ∨ 8 ≤ (1 : Int32).toNatClampNeg)) (
    gd (¬ ((1 : Int32) < 0 ∨ 8 ≤ (1 : Int32).toNatClampNeg)) (
    nm (upd T_st (1 : Int32).toNatClampNeg ((T_st (1 : Int32).toNatClampNeg) ^^^ (1 <<< (x1 &&& 31)))) fun T_st_1 =>
    gd (¬ ((1 : Int32) < 0 ∨ 8 ≤ (1 : Int32).toNatClampNeg)) (
    bd1 (fX9_bits K (T_st_1 (1 : Int32).toNatClampNeg)) fun r_2 =>
    some (r_2, T_acts_1, T_st_1, T_was_1)))))))
theorem mbX9_strike_0 : Cond.fieldLink RX9 145 "BootsAtDawnModel" "wishes" "I" ∈ wsX9_strike := List.mem_of_getElem? (i := 1) rfl
theorem inX9_strike_X9 : ∀ w ∈ u_ws RX9 TX9 36, w ∈ wsX9_strike := fun _ h => (List.mem_cons_of_mem _ (List.mem_append_right _ h))
theorem mbX9_strike_2 : Cond.fieldLink RX9 22 "BootsAtDawnModel" "st" "[I" ∈ wsX9_strike := List.mem_of_getElem? (i := 2) rfl
abbrev rmX9_strike : Room := { frames := 2, cells := 0, slots := 0, locals := 45 }
set_option maxHeartbeats 8000000 in
set_option maxRecDepth 100000 in
theorem kX9_strike (l : Launch) (dC : Nat → ClassId) (dI : Nat → Nat → Nat) (cC cI cJ : ClassId) (sz : Nat) (K : Nat) (a_T a_T_kinds a_T_wishKind a_T_wishA a_T_wishB a_T_st a_T_was a_T_kept a_T_woke a_T_text a_T_told a_T_readKinds a_T_readFloors a_T_readWishKind a_T_readWishA a_T_readWishB a_T_come a_T_keptBy a_T_endsAt a_T_order a_T_time a_T_place : Nat) (x1 : Int32) (x2 : Int32) (T_guests : Int32) (T_wishes : Int32) (T_begins : Int32) (T_acts : Int32) (T_keeps : Int32) (T_wokes : Int32) (T_texted : Int32) (T_at : Int32) (T_readGuests : Int32) (T_readWishes : Int32) (T_readBegins : Int32) (T_here : Int32) (T_stands : Int32) (T_many : Int32) (T_rounds : Int32) (T_st : (Nat → Int32)) (T_was : (Nat → Int32)) (R : Int32 × Int32 × (Nat → Int32) × (Nat → Int32)) (hr : fX9_strike K x1 x2 T_wishes T_acts T_st T_was = some R) : Met l yX9_strike wsX9_strike rmX9_strike (va_Pc ([.ref a_T, .int x1, .int x2] : List Value) (PcW (dC, dI) (tysA cC cI cJ) sz [(a_T, .inr (9, [.int T_guests, .ref a_T_kinds, .int T_wishes, .ref a_T_wishKind, .ref a_T_wishA, .ref a_T_wishB, .int T_begins, .ref a_T_st, .int T_acts, .ref a_T_was, .int T_keeps, .ref a_T_kept, .int T_wokes, .ref a_T_woke, .ref a_T_text, .int T_texted, .int T_at, .ref a_T_told, .int T_readGuests, .ref a_T_readKinds, .ref a_T_readFloors, .int T_readWishes, .ref a_T_readWishKind, .ref a_T_readWishA, .ref a_T_readWishB, .int T_readBegins, .int T_here, .int T_stands, .int T_many, .int T_rounds, .ref a_T_come, .ref a_T_keptBy, .ref a_T_endsAt, .ref a_T_order, .ref a_T_time, .ref a_T_place])), (a_T_st, .inl (cI, 8, .inl T_st)), (a_T_was, .inl (cI, 64, .inl T_was))])) (va_Qi (fun r (_ : Unit) => r = R.1) (fun _ => BW (dC, dI) (tysA cC cI cJ) (va_A [(a_T, .inr (9, [.int T_guests, .ref a_T_kinds, .int T_wishes, .ref a_T_wishKind, .ref a_T_wishA, .ref a_T_wishB, .int T_begins, .ref a_T_st, .int T_acts, .ref a_T_was, .int T_keeps, .ref a_T_kept, .int T_wokes, .ref a_T_woke, .ref a_T_text, .int T_texted, .int T_at, .ref a_T_told, .int T_readGuests, .ref a_T_readKinds, .ref a_T_readFloors, .int T_readWishes, .ref a_T_readWishKind, .ref a_T_readWishA, .ref a_T_readWishB, .int T_readBegins, .int T_here, .int T_stands, .int T_many, .int T_rounds, .ref a_T_come, .ref a_T_keptBy, .ref a_T_endsAt, .ref a_T_order, .ref a_T_time, .ref a_T_place])), (a_T_st, .inl (cI, 8, .inl T_st)), (a_T_was, .inl (cI, 64, .inl T_was))] sz) [(a_T, .inr (9, [.int T_guests, .ref a_T_kinds, .int T_wishes, .ref a_T_wishKind, .ref a_T_wishA, .ref a_T_wishB, .int T_begins, .ref a_T_st, .int R.2.1, .ref a_T_was, .int T_keeps, .ref a_T_kept, .int T_wokes, .ref a_T_woke, .ref a_T_text, .int T_texted, .int T_at, .ref a_T_told, .int T_readGuests, .ref a_T_readKinds, .ref a_T_readFloors, .int T_readWishes, .ref a_T_readWishKind, .ref a_T_readWishA, .ref a_T_readWishB, .int T_readBegins, .int T_here, .int T_stands, .int T_many, .int T_rounds, .ref a_T_come, .ref a_T_keptBy, .ref a_T_endsAt, .ref a_T_order, .ref a_T_time, .ref a_T_place])), (a_T_st, .inl (cI, 8, .inl R.2.2.1)), (a_T_was, .inl (cI, 64, .inl R.2.2.2))]) (va_A [(a_T, .inr (9, [.int T_guests, .ref a_T_kinds, .int T_wishes, .ref a_T_wishKind, .ref a_T_wishA, .ref a_T_wishB, .int T_begins, .ref a_T_st, .int T_acts, .ref a_T_was, .int T_keeps, .ref a_T_kept, .int T_wokes, .ref a_T_woke, .ref a_T_text, .int T_texted, .int T_at, .ref a_T_told, .int T_readGuests, .ref a_T_readKinds, .ref a_T_readFloors, .int T_readWishes, .ref a_T_readWishKind, .ref a_T_readWishA, .ref a_T_readWishB, .int T_readBegins, .int T_here, .int T_stands, .int T_many, .int T_rounds, .ref a_T_come, .ref a_T_keptBy, .ref a_T_endsAt, .ref a_T_order, .ref a_T_time, .ref a_T_place])), (a_T_st, .inl (cI, 8, .inl T_st)), (a_T_was, .inl (cI, 64, .inl T_was))] sz)) 0 0 (va_A [(a_T, .inr (9, [.int T_guests, .ref a_T_kinds, .int T_wishes, .ref a_T_wishKind, .ref a_T_wishA, .ref a_T_wishB, .int T_begins, .ref a_T_st, .int T_acts, .ref a_T_was, .int T_keeps, .ref a_T_kept, .int T_wokes, .ref a_T_woke, .ref a_T_text, .int T_texted, .int T_at, .ref a_T_told, .int T_readGuests, .ref a_T_readKinds, .ref a_T_readFloors, .int T_readWishes, .ref a_T_readWishKind, .ref a_T_readWishA, .ref a_T_readWishB, .int T_readBegins, .int T_here, .int T_stands, .int T_many, .int T_rounds, .ref a_T_come, .ref a_T_keptBy, .ref a_T_endsAt, .ref a_T_order, .ref a_T_time, .ref a_T_place])), (a_T_st, .inl (cI, 8, .inl T_st)), (a_T_was, .inl (cI, 64, .inl T_was))] sz) := by
  refine Met.ofW (cc := cX9_strike) (maxL := 3) (ret := (some .int)) (by decide) rfl ?_
  intro p e s m args below meth c s₁ B hml hv
  obtain ⟨rfl, hsz, hP, hK, hD0, hN⟩ := hv
  have hx := B.exec
  have hb := B.bytes
  have hrt := B.returns
  have hts := atoms_spec (ws := wsX9_strike) B.pre
  have hown : s.vm.findClass RX9 = some m.cls := findClass_of_methodNamed B.named
  have hlocks := B.notSynchronized
  subst hsz
  have hD := hD0.self (sz := s.heap.size)
  generalize hAe : va_A [(a_T, .inr (9, [.int T_guests, .ref a_T_kinds, .int T_wishes, .ref a_T_wishKind, .ref a_T_wishA, .ref a_T_wishB, .int T_begins, .ref a_T_st, .int T_acts, .ref a_T_was, .int T_keeps, .ref a_T_kept, .int T_wokes, .ref a_T_woke, .ref a_T_text, .int T_texted, .int T_at, .ref a_T_told, .int T_readGuests, .ref a_T_readKinds, .ref a_T_readFloors, .int T_readWishes, .ref a_T_readWishKind, .ref a_T_readWishA, .ref a_T_readWishB, .int T_readBegins, .int T_here, .int T_stands, .int T_many, .int T_rounds, .ref a_T_come, .ref a_T_keptBy, .ref a_T_endsAt, .ref a_T_order, .ref a_T_time, .ref a_T_place])), (a_T_st, .inl (cI, 8, .inl T_st)), (a_T_was, .inl (cI, 64, .inl T_was))] s.heap.size = A at hD ⊢
  have hA : ∀ q : Nat, s.heap.size ≤ q → A q := fun q h => by rw [← hAe]; exact Or.inr h
  have hS : va_S A s.heap s.heap [] := va_S.rf
  have hl := lv_entry ([.ref a_T, .int x1, .int x2] : List Value) (n := 3) (Nat.le_of_ble_eq_true rfl)
  rw [lg_entry_eq]
  generalize (lg_sl ([.ref a_T, .int x1, .int x2] : List Value) ++ List.replicate (3 - (lg_sl ([.ref a_T, .int x1, .int x2] : List Value)).length) Slot.unset).toArray = ls at hl ⊢
  replace hl : lv_has ls 3 [(0, .ref a_T), (1, .int x1), (2, .int x2)] := hl
  obtain ⟨Q, hQ⟩ : ∃ Q, Q = MQ below (va_Qi (fun r (_ : Unit) => r = R.1) (fun _ => BW (dC, dI) (tysA cC cI cJ) A [(a_T, .inr (9, [.int T_guests, .ref a_T_kinds, .int T_wishes, .ref a_T_wishKind, .ref a_T_wishA, .ref a_T_wishB, .int T_begins, .ref a_T_st, .int R.2.1, .ref a_T_was, .int T_keeps, .ref a_T_kept, .int T_wokes, .ref a_T_woke, .ref a_T_text, .int T_texted, .int T_at, .ref a_T_told, .int T_readGuests, .ref a_T_readKinds, .ref a_T_readFloors, .int T_readWishes, .ref a_T_readWishKind, .ref a_T_readWishA, .ref a_T_readWishB, .int T_readBegins, .int T_here, .int T_stands, .int T_many, .int T_rounds, .ref a_T_come, .ref a_T_keptBy, .ref a_T_endsAt, .ref a_T_order, .ref a_T_time, .ref a_T_place])), (a_T_st, .inl (cI, 8, .inl R.2.2.1)), (a_T_was, .inl (cI, 64, .inl R.2.2.2))]) A) ([.ref a_T, .int x1, .int x2] : List Value).toArray s 0 0 A := ⟨_, rfl⟩
  rw [← hQ]
  suffices hE : WG p l e rmX9_strike s m ([.ref a_T, .int x1, .int x2] : List Value).toArray below meth c 0 0 Q (dC, dI) A 0 3 [(a_T, .inr (9, [.int T_guests, .ref a_T_kinds, .int T_wishes, .ref a_T_wishKind, .ref a_T_wishA, .ref a_T_wishB, .int T_begins, .ref a_T_st, .int T_acts, .ref a_T_was, .int T_keeps, .ref a_T_kept, .int T_wokes, .ref a_T_woke, .ref a_T_text, .int T_texted, .int T_at, .ref a_T_told, .int T_readGuests, .ref a_T_readKinds, .ref a_T_readFloors, .int T_readWishes, .ref a_T_readWishKind, .ref a_T_readWishA, .ref a_T_readWishB, .int T_readBegins, .int T_here, .int T_stands, .int T_many, .int T_rounds, .ref a_T_come, .ref a_T_keptBy, .ref a_T_endsAt, .ref a_T_order, .ref a_T_time, .ref a_T_place])), (a_T_st, .inl (cI, 8, .inl T_st)), (a_T_was, .inl (cI, 64, .inl T_was))] [(0, .ref a_T), (1, .int x1), (2, .int x2)] [] from hE _ _ _ hP hD hS hl
  clear hP hD hS hl hD0 hAe
  intro H locs ls hP hD hS hl
  unfold fX9_strike at hr
  refine lv_iload_n hx hb dX9_strike_0 rfl (lv_at hl 1 rfl) ?_
  refine lv_iconst (v := 0) hx hb dX9_strike_1 (by decide) ?_
  refine lv_aload_n hx hb dX9_strike_2 rfl (lv_at hl 0 rfl) ?_
  refine va_get (D := (dC, dI)) (ci := 9) (v := .int T_wishes) (C := RX9) (T := TX9) (N := 36) hx hb hts inX9_strike_X9 hown hK hP 0 rfl rfl 2 (by decide) (hts _ mbX9_strike_0) (fun _ h9 => h9) rfl dX9_strike_3 ?_
  refine lv_iconst (v := 1) hx hb dX9_strike_6 (by decide) ?_
  refine lv_isub hx hb dX9_strike_7 ?_
  obtain ⟨r, hc1, hr⟩ := bd1_some hr
  refine call_i (D := (dC, dI)) (tys := tysA cC cI cJ) (wc := []) (wr := [(a_T, .inr (9, [.int T_guests, .ref a_T_kinds, .int T_wishes, .ref a_T_wishKind, .ref a_T_wishA, .ref a_T_wishB, .int T_begins, .ref a_T_st, .int T_acts, .ref a_T_was, .int T_keeps, .ref a_T_kept, .int T_wokes, .ref a_T_woke, .ref a_T_text, .int T_texted, .int T_at, .ref a_T_told, .int T_readGuests, .ref a_T_readKinds, .ref a_T_readFloors, .int T_readWishes, .ref a_T_readWishKind, .ref a_T_readWishA, .ref a_T_readWishB, .int T_readBegins, .int T_here, .int T_stands, .int T_many, .int T_rounds, .ref a_T_come, .ref a_T_keptBy, .ref a_T_endsAt, .ref a_T_order, .ref a_T_time, .ref a_T_place])), (a_T_st, .inl (cI, 8, .inl T_st)), (a_T_was, .inl (cI, 64, .inl T_was))]) (w1 := []) (wn := [(a_T, .inr (9, [.int T_guests, .ref a_T_kinds, .int T_wishes, .ref a_T_wishKind, .ref a_T_wishA, .ref a_T_wishB, .int T_begins, .ref a_T_st, .int T_acts, .ref a_T_was, .int T_keeps, .ref a_T_kept, .int T_wokes, .ref a_T_woke, .ref a_T_text, .int T_texted, .int T_at, .ref a_T_told, .int T_readGuests, .ref a_T_readKinds, .ref a_T_readFloors, .int T_readWishes, .ref a_T_readWishKind, .ref a_T_readWishA, .ref a_T_readWishB, .int T_readBegins, .int T_here, .int T_stands, .int T_many, .int T_rounds, .ref a_T_come, .ref a_T_keptBy, .ref a_T_endsAt, .ref a_T_order, .ref a_T_time, .ref a_T_place])), (a_T_st, .inl (cI, 8, .inl T_st)), (a_T_was, .inl (cI, 64, .inl T_was))]) (r0 := r) hP hD hS hA [] [0, 1, 2] [0, 1, 2] rfl rfl (by decide +kernel) (by decide +kernel) rfl (by decide +kernel) (va_runS (As := [.int x1, .int 0, .int (T_wishes - 1)]) (rest := []) ⟨hx, hb, hml, hown, hts⟩ (kX9_in l dC dI cC cI cJ H.size K x1 0 (T_wishes - 1) r hc1) (va_cwS 3 hts gX9_strike_X9_in rfl rfl rfl (by decide +kernel) ⟨Nat.le_of_ble_eq_true rfl, Nat.le_of_ble_eq_true rfl⟩) ⟨fbW, preW hP hD hK hN [] rfl (by decide +kernel)⟩ rfl rfl hl.1 rfl (lv_room (Nat.le_of_ble_eq_true rfl)) dX9_strike_8 ⟨Nat.zero_le _, Nat.zero_le _⟩) (fun H locs hP hD hS => ?_)
  refine lv_if_ne (tgt := 16) hx hb dX9_strike_11 (by decide) (fun c1 => ?_) (fun c1 => ?_)
  · replace hr := it_f hr c1
    refine lv_aload_n hx hb dX9_strike_16 rfl (lv_at hl 0 rfl) ?_
    refine va_get (D := (dC, dI)) (ci := 9) (v := .ref a_T_st) (C := RX9) (T := TX9) (N := 36) hx hb hts inX9_strike_X9 hown hK hP 0 rfl rfl 7 (by decide) (hts _ mbX9_strike_2) (fun _ h9 => h9) rfl dX9_strike_17 ?_
    refine lv_iconst (v := 1) hx hb dX9_strike_20 (by decide) ?_
    obtain ⟨g1, hr⟩ := gd_some hr
    refine va_iald hx hb hK hP 1 1 rfl rfl g1 dX9_strike_21 ?_
    refine lv_iload_n hx hb dX9_strike_22 rfl (lv_at hl 1 rfl) ?_
    obtain ⟨r_1, hc2, hr⟩ := bd1_some hr
    refine call_i (D := (dC, dI)) (tys := tysA cC cI cJ) (wc := []) (wr := [(a_T, .inr (9, [.int T_guests, .ref a_T_kinds, .int T_wishes, .ref a_T_wishKind, .ref a_T_wishA, .ref a_T_wishB, .int T_begins, .ref a_T_st, .int T_acts, .ref a_T_was, .int T_keeps, .ref a_T_kept, .int T_wokes, .ref a_T_woke, .ref a_T_text, .int T_texted, .int T_at, .ref a_T_told, .int T_readGuests, .ref a_T_readKinds, .ref a_T_readFloors, .int T_readWishes, .ref a_T_readWishKind, .ref a_T_readWishA, .ref a_T_readWishB, .int T_readBegins, .int T_here, .int T_stands, .int T_many, .int T_rounds, .ref a_T_come, .ref a_T_keptBy, .ref a_T_endsAt, .ref a_T_order, .ref a_T_time, .ref a_T_place])), (a_T_st, .inl (cI, 8, .inl T_st)), (a_T_was, .inl (cI, 64, .inl T_was))]) (w1 := []) (wn := [(a_T, .inr (9, [.int T_guests, .ref a_T_kinds, .int T_wishes, .ref a_T_wishKind, .ref a_T_wishA, .ref a_T_wishB, .int T_begins, .ref a_T_st, .int T_acts, .ref a_T_was, .int T_keeps, .ref a_T_kept, .int T_wokes, .ref a_T_woke, .ref a_T_text, .int T_texted, .int T_at, .ref a_T_told, .int T_readGuests, .ref a_T_readKinds, .ref a_T_readFloors, .int T_readWishes, .ref a_T_readWishKind, .ref a_T_readWishA, .ref a_T_readWishB, .int T_readBegins, .int T_here, .int T_stands, .int T_many, .int T_rounds, .ref a_T_come, .ref a_T_keptBy, .ref a_T_endsAt, .ref a_T_order, .ref a_T_time, .ref a_T_place])), (a_T_st, .inl (cI, 8, .inl T_st)), (a_T_was, .inl (cI, 64, .inl T_was))]) (r0 := r_1) hP hD hS hA [] [0, 1, 2] [0, 1, 2] rfl rfl (by decide +kernel) (by decide +kernel) rfl (by decide +kernel) (va_runS (As := [.int (T_st (1 : Int32).toNatClampNeg), .int x1]) (rest := []) ⟨hx, hb, hml, hown, hts⟩ (kX9_has l dC dI cC cI cJ H.size K (T_st (1 : Int32).toNatClampNeg) x1 r_1 hc2) (va_cwS 2 hts gX9_strike_X9_has rfl rfl rfl (by decide +kernel) ⟨Nat.le_of_ble_eq_true rfl, Nat.le_of_ble_eq_true rfl⟩) ⟨fbW, preW hP hD hK hN [] rfl (by decide +kernel)⟩ rfl rfl hl.1 rfl (lv_room (Nat.le_of_ble_eq_true rfl)) dX9_strike_23 ⟨Nat.zero_le _, Nat.zero_le _⟩) (fun H locs hP hD hS => ?_)
    refine lv_iload_n hx hb dX9_strike_26 rfl (lv_at hl 2 rfl) ?_
    refine lv_icmp_ne (tgt := 33) hx hb dX9_strike_27 (by decide) (fun c2 => ?_) (fun c2 => ?_)
    · replace hr := it_f hr c2
      refine lv_aload_n hx hb dX9_strike_33 rfl (lv_at hl 0 rfl) ?_
      obtain ⟨T_acts_1, T_was_1, hc3, hr⟩ := bd2_some hr
      refine call_v (D := (dC, dI)) (tys := tysA cC cI cJ) (wc := [(a_T, .inr (9, [.int T_guests, .ref a_T_kinds, .int T_wishes, .ref a_T_wishKind, .ref a_T_wishA, .ref a_T_wishB, .int T_begins, .ref a_T_st, .int T_acts, .ref a_T_was, .int T_keeps, .ref a_T_kept, .int T_wokes, .ref a_T_woke, .ref a_T_text, .int T_texted, .int T_at, .ref a_T_told, .int T_readGuests, .ref a_T_readKinds, .ref a_T_readFloors, .int T_readWishes, .ref a_T_readWishKind, .ref a_T_readWishA, .ref a_T_readWishB, .int T_readBegins, .int T_here, .int T_stands, .int T_many, .int T_rounds, .ref a_T_come, .ref a_T_keptBy, .ref a_T_endsAt, .ref a_T_order, .ref a_T_time, .ref a_T_place])), (a_T_was, .inl (cI, 64, .inl T_was)), (a_T_st, .inl (cI, 8, .inl T_st))]) (wr := []) (w1 := [(a_T, .inr (9, [.int T_guests, .ref a_T_kinds, .int T_wishes, .ref a_T_wishKind, .ref a_T_wishA, .ref a_T_wishB, .int T_begins, .ref a_T_st, .int T_acts_1, .ref a_T_was, .int T_keeps, .ref a_T_kept, .int T_wokes, .ref a_T_woke, .ref a_T_text, .int T_texted, .int T_at, .ref a_T_told, .int T_readGuests, .ref a_T_readKinds, .ref a_T_readFloors, .int T_readWishes, .ref a_T_readWishKind, .ref a_T_readWishA, .ref a_T_readWishB, .int T_readBegins, .int T_here, .int T_stands, .int T_many, .int T_rounds, .ref a_T_come, .ref a_T_keptBy, .ref a_T_endsAt, .ref a_T_order, .ref a_T_time, .ref a_T_place])), (a_T_was, .inl (cI, 64, .inl T_was_1)), (a_T_st, .inl (cI, 8, .inl T_st))]) (wn := [(a_T, .inr (9, [.int T_guests, .ref a_T_kinds, .int T_wishes, .ref a_T_wishKind, .ref a_T_wishA, .ref a_T_wishB, .int T_begins, .ref a_T_st, .int T_acts_1, .ref a_T_was, .int T_keeps, .ref a_T_kept, .int T_wokes, .ref a_T_woke, .ref a_T_text, .int T_texted, .int T_at, .ref a_T_told, .int T_readGuests, .ref a_T_readKinds, .ref a_T_readFloors, .int T_readWishes, .ref a_T_readWishKind, .ref a_T_readWishA, .ref a_T_readWishB, .int T_readBegins, .int T_here, .int T_stands, .int T_many, .int T_rounds, .ref a_T_come, .ref a_T_keptBy, .ref a_T_endsAt, .ref a_T_order, .ref a_T_time, .ref a_T_place])), (a_T_st, .inl (cI, 8, .inl T_st)), (a_T_was, .inl (cI, 64, .inl T_was_1))]) hP hD hS hA [0, 2, 1] [] [0, 2, 1] rfl rfl (by decide +kernel) (by decide +kernel) rfl (by decide +kernel) (va_runV (As := []) (rest := []) ⟨hx, hb, hml, hown, hts⟩ (kX9_remembers l dC dI cC cI cJ H.size K a_T a_T_kinds a_T_wishKind a_T_wishA a_T_wishB a_T_st a_T_was a_T_kept a_T_woke a_T_text a_T_told a_T_readKinds a_T_readFloors a_T_readWishKind a_T_readWishA a_T_readWishB a_T_come a_T_keptBy a_T_endsAt a_T_order a_T_time a_T_place T_guests T_wishes T_begins T_acts T_keeps T_wokes T_texted T_at T_readGuests T_readWishes T_readBegins T_here T_stands T_many T_rounds T_was T_st (T_acts_1, T_was_1) hc3) (cwV 0 hts gX9_strike_X9_remembers rfl rfl rfl (by decide +kernel) ⟨Nat.le_of_ble_eq_true rfl, Nat.le_of_ble_eq_true rfl⟩) ⟨fbW, va_recv hK hP (ci := 9) (q0 := 0) rfl rfl, preW hP hD hK hN [0, 2, 1] rfl (by decide +kernel)⟩ rfl rfl hl.1 rfl (lv_room (Nat.le_of_ble_eq_true rfl)) dX9_strike_34 ⟨Nat.zero_le _, Nat.zero_le _⟩) (fun H locs hP hD hS => ?_)
      refine lv_aload_n hx hb dX9_strike_37 rfl (lv_at hl 0 rfl) ?_
      refine va_get (D := (dC, dI)) (ci := 9) (v := .ref a_T_st) (C := RX9) (T := TX9) (N := 36) hx hb hts inX9_strike_X9 hown hK hP 0 rfl rfl 7 (by decide) (hts _ mbX9_strike_2) (fun _ h9 => h9) rfl dX9_strike_38 ?_
      refine lv_iconst (v := 1) hx hb dX9_strike_41 (by decide) ?_
      refine lv_dup2_11 hx hb dX9_strike_42 rfl rfl ?_
      obtain ⟨g2, hr⟩ := gd_some hr
      refine va_iald hx hb hK hP 1 1 rfl rfl g2 dX9_strike_43 ?_
      refine lv_iconst (v := 1) hx hb dX9_strike_44 (by decide) ?_
      refine lv_iload_n hx hb dX9_strike_45 rfl (lv_at hl 1 rfl) ?_
      refine lv_ishl hx hb dX9_strike_46 ?_
      refine lv_ixor hx hb dX9_strike_47 ?_
      obtain ⟨g3, hr⟩ := gd_some hr
      obtain ⟨T_st_1, e1, hr⟩ := nm_el hr
      refine va_iast hx hb hK hP hD hS 1 1 rfl rfl g3 dX9_strike_48 (fun H locs hP hD hS => ?_)
      rw [← e1] at hP hD
      replace hP : va_P (dC, dI) vwCl [(a_T, .inr (9, [.int T_guests, .ref a_T_kinds, .int T_wishes, .ref a_T_wishKind, .ref a_T_wishA, .ref a_T_wishB, .int T_begins, .ref a_T_st, .int T_acts_1, .ref a_T_was, .int T_keeps, .ref a_T_kept, .int T_wokes, .ref a_T_woke, .ref a_T_text, .int T_texted, .int T_at, .ref a_T_told, .int T_readGuests, .ref a_T_readKinds, .ref a_T_readFloors, .int T_readWishes, .ref a_T_readWishKind, .ref a_T_readWishA, .ref a_T_readWishB, .int T_readBegins, .int T_here, .int T_stands, .int T_many, .int T_rounds, .ref a_T_come, .ref a_T_keptBy, .ref a_T_endsAt, .ref a_T_order, .ref a_T_time, .ref a_T_place])), (a_T_st, .inl (cI, 8, .inl T_st_1)), (a_T_was, .inl (cI, 64, .inl T_was_1))] H := hP
      replace hD : va_D A [(a_T, .inr (9, [.int T_guests, .ref a_T_kinds, .int T_wishes, .ref a_T_wishKind, .ref a_T_wishA, .ref a_T_wishB, .int T_begins, .ref a_T_st, .int T_acts_1, .ref a_T_was, .int T_keeps, .ref a_T_kept, .int T_wokes, .ref a_T_woke, .ref a_T_text, .int T_texted, .int T_at, .ref a_T_told, .int T_readGuests, .ref a_T_readKinds, .ref a_T_readFloors, .int T_readWishes, .ref a_T_readWishKind, .ref a_T_readWishA, .ref a_T_readWishB, .int T_readBegins, .int T_here, .int T_stands, .int T_many, .int T_rounds, .ref a_T_come, .ref a_T_keptBy, .ref a_T_endsAt, .ref a_T_order, .ref a_T_time, .ref a_T_place])), (a_T_st, .inl (cI, 8, .inl T_st_1)), (a_T_was, .inl (cI, 64, .inl T_was_1))] := hD
      refine lv_aload_n hx hb dX9_strike_49 rfl (lv_at hl 0 rfl) ?_
      refine va_get (D := (dC, dI)) (ci := 9) (v := .ref a_T_st) (C := RX9) (T := TX9) (N := 36) hx hb hts inX9_strike_X9 hown hK hP 0 rfl rfl 7 (by decide) (hts _ mbX9_strike_2) (fun _ h9 => h9) rfl dX9_strike_50 ?_
      refine lv_iconst (v := 1) hx hb dX9_strike_53 (by decide) ?_
      obtain ⟨g4, hr⟩ := gd_some hr
      refine va_iald hx hb hK hP 1 1 rfl rfl g4 dX9_strike_54 ?_
      obtain ⟨r_2, hc4, hr⟩ := bd1_some hr
      refine call_i (D := (dC, dI)) (tys := tysA cC cI cJ) (wc := []) (wr := [(a_T, .inr (9, [.int T_guests, .ref a_T_kinds, .int T_wishes, .ref a_T_wishKind, .ref a_T_wishA, .ref a_T_wishB, .int T_begins, .ref a_T_st, .int T_acts_1, .ref a_T_was, .int T_keeps, .ref a_T_kept, .int T_wokes, .ref a_T_woke, .ref a_T_text, .int T_texted, .int T_at, .ref a_T_told, .int T_readGuests, .ref a_T_readKinds, .ref a_T_readFloors, .int T_readWishes, .ref a_T_readWishKind, .ref a_T_readWishA, .ref a_T_readWishB, .int T_readBegins, .int T_here, .int T_stands, .int T_many, .int T_rounds, .ref a_T_come, .ref a_T_keptBy, .ref a_T_endsAt, .ref a_T_order, .ref a_T_time, .ref a_T_place])), (a_T_st, .inl (cI, 8, .inl T_st_1)), (a_T_was, .inl (cI, 64, .inl T_was_1))]) (w1 := []) (wn := [(a_T, .inr (9, [.int T_guests, .ref a_T_kinds, .int T_wishes, .ref a_T_wishKind, .ref a_T_wishA, .ref a_T_wishB, .int T_begins, .ref a_T_st, .int T_acts_1, .ref a_T_was, .int T_keeps, .ref a_T_kept, .int T_wokes, .ref a_T_woke, .ref a_T_text, .int T_texted, .int T_at, .ref a_T_told, .int T_readGuests, .ref a_T_readKinds, .ref a_T_readFloors, .int T_readWishes, .ref a_T_readWishKind, .ref a_T_readWishA, .ref a_T_readWishB, .int T_readBegins, .int T_here, .int T_stands, .int T_many, .int T_rounds, .ref a_T_come, .ref a_T_keptBy, .ref a_T_endsAt, .ref a_T_order, .ref a_T_time, .ref a_T_place])), (a_T_st, .inl (cI, 8, .inl T_st_1)), (a_T_was, .inl (cI, 64, .inl T_was_1))]) (r0 := r_2) hP hD hS hA [] [0, 1, 2] [0, 1, 2] rfl rfl (by decide +kernel) (by decide +kernel) rfl (by decide +kernel) (va_runS (As := [.int (T_st_1 (1 : Int32).toNatClampNeg)]) (rest := []) ⟨hx, hb, hml, hown, hts⟩ (kX9_bits l dC dI cC cI cJ H.size K (T_st_1 (1 : Int32).toNatClampNeg) r_2 hc4) (va_cwS 1 hts gX9_strike_X9_bits rfl rfl rfl (by decide +kernel) ⟨Nat.le_of_ble_eq_true rfl, Nat.le_of_ble_eq_true rfl⟩) ⟨fbW, preW hP hD hK hN [] rfl (by decide +kernel)⟩ rfl rfl hl.1 rfl (lv_room (Nat.le_of_ble_eq_true rfl)) dX9_strike_55 ⟨Nat.zero_le _, Nat.zero_le _⟩) (fun H locs hP hD hS => ?_)
      have he := Option.some.inj hr
      subst he
      subst hQ
      exact ret_i hx hb hrt hK hP hD hS hlocks dX9_strike_58
    · replace hr := it_t hr c2
      refine lv_bipush (v := (-2)) hx hb dX9_strike_30 (by decide) ?_
      have he := Option.some.inj hr
      subst he
      subst hQ
      exact ret_i hx hb hrt hK hP hD hS hlocks dX9_strike_32
  · replace hr := it_t hr c1
    refine lv_iconst (v := (-1)) hx hb dX9_strike_14 (by decide) ?_
    have he := Option.some.inj hr
    subst he
    subst hQ
    exact ret_i hx hb hrt hK hP hD hS hlocks dX9_strike_15
def fX9_undo (K : Nat) (T_acts : Int32) (T_st : (Nat → Int32)) (T_was : (Nat → Int32)) : Option (Int32 × Int32 × (Nat → Int32)) :=
    if (T_acts : Int32) = 0 then (
    some ((-2), T_acts, T_st))
    else (
    nm (T_acts - 1) fun T_acts_1 =>
    bd1 (fX9_copy K 8 64 0 (8 * T_acts_1) T_st T_was) fun T_st_1 =>
    some (T_acts_1, T_acts_1, T_st_1))
theorem mbX9_undo_0 : Cond.fieldLink RX9 151 "BootsAtDawnModel" "acts" "I" ∈ wsX9_undo := List.mem_of_getElem? (i := 1) rfl
theorem inX9_undo_X9 : ∀ w ∈ u_ws RX9 TX9 36, w ∈ wsX9_undo := fun _ h => (List.mem_cons_of_mem _ (List.mem_append_right _ h))
theorem mbX9_undo_2 : Cond.fieldLink RX9 22 "BootsAtDawnModel" "st" "[I" ∈ wsX9_undo := List.mem_of_getElem? (i := 2) rfl
theorem mbX9_undo_3 : Cond.fieldLink RX9 25 "BootsAtDawnModel" "was" "[I" ∈ wsX9_undo := List.mem_of_getElem? (i := 3) rfl
abbrev rmX9_undo : Room := { frames := 1, cells := 0, slots := 0, locals := 24 }
set_option maxHeartbeats 8000000 in
set_option maxRecDepth 100000 in
theorem kX9_undo (l : Launch) (dC : Nat → ClassId) (dI : Nat → Nat → Nat) (cC cI cJ : ClassId) (sz : Nat) (K : Nat) (a_T a_T_kinds a_T_wishKind a_T_wishA a_T_wishB a_T_st a_T_was a_T_kept a_T_woke a_T_text a_T_told a_T_readKinds a_T_readFloors a_T_readWishKind a_T_readWishA a_T_readWishB a_T_come a_T_keptBy a_T_endsAt a_T_order a_T_time a_T_place : Nat) (T_guests : Int32) (T_wishes : Int32) (T_begins : Int32) (T_acts : Int32) (T_keeps : Int32) (T_wokes : Int32) (T_texted : Int32) (T_at : Int32) (T_readGuests : Int32) (T_readWishes : Int32) (T_readBegins : Int32) (T_here : Int32) (T_stands : Int32) (T_many : Int32) (T_rounds : Int32) (T_st : (Nat → Int32)) (T_was : (Nat → Int32)) (R : Int32 × Int32 × (Nat → Int32)) (hr : fX9_undo K T_acts T_st T_was = some R) : Met l yX9_undo wsX9_undo rmX9_undo (va_Pc ([.ref a_T] : List Value) (PcW (dC, dI) (tysA cC cI cJ) sz [(a_T, .inr (9, [.int T_guests, .ref a_T_kinds, .int T_wishes, .ref a_T_wishKind, .ref a_T_wishA, .ref a_T_wishB, .int T_begins, .ref a_T_st, .int T_acts, .ref a_T_was, .int T_keeps, .ref a_T_kept, .int T_wokes, .ref a_T_woke, .ref a_T_text, .int T_texted, .int T_at, .ref a_T_told, .int T_readGuests, .ref a_T_readKinds, .ref a_T_readFloors, .int T_readWishes, .ref a_T_readWishKind, .ref a_T_readWishA, .ref a_T_readWishB, .int T_readBegins, .int T_here, .int T_stands, .int T_many, .int T_rounds, .ref a_T_come, .ref a_T_keptBy, .ref a_T_endsAt, .ref a_T_order, .ref a_T_time, .ref a_T_place])), (a_T_st, .inl (cI, 8, .inl T_st)), (a_T_was, .inl (cI, 64, .inl T_was))])) (va_Qi (fun r (_ : Unit) => r = R.1) (fun _ => BW (dC, dI) (tysA cC cI cJ) (va_A [(a_T, .inr (9, [.int T_guests, .ref a_T_kinds, .int T_wishes, .ref a_T_wishKind, .ref a_T_wishA, .ref a_T_wishB, .int T_begins, .ref a_T_st, .int T_acts, .ref a_T_was, .int T_keeps, .ref a_T_kept, .int T_wokes, .ref a_T_woke, .ref a_T_text, .int T_texted, .int T_at, .ref a_T_told, .int T_readGuests, .ref a_T_readKinds, .ref a_T_readFloors, .int T_readWishes, .ref a_T_readWishKind, .ref a_T_readWishA, .ref a_T_readWishB, .int T_readBegins, .int T_here, .int T_stands, .int T_many, .int T_rounds, .ref a_T_come, .ref a_T_keptBy, .ref a_T_endsAt, .ref a_T_order, .ref a_T_time, .ref a_T_place])), (a_T_st, .inl (cI, 8, .inl T_st)), (a_T_was, .inl (cI, 64, .inl T_was))] sz) [(a_T, .inr (9, [.int T_guests, .ref a_T_kinds, .int T_wishes, .ref a_T_wishKind, .ref a_T_wishA, .ref a_T_wishB, .int T_begins, .ref a_T_st, .int R.2.1, .ref a_T_was, .int T_keeps, .ref a_T_kept, .int T_wokes, .ref a_T_woke, .ref a_T_text, .int T_texted, .int T_at, .ref a_T_told, .int T_readGuests, .ref a_T_readKinds, .ref a_T_readFloors, .int T_readWishes, .ref a_T_readWishKind, .ref a_T_readWishA, .ref a_T_readWishB, .int T_readBegins, .int T_here, .int T_stands, .int T_many, .int T_rounds, .ref a_T_come, .ref a_T_keptBy, .ref a_T_endsAt, .ref a_T_order, .ref a_T_time, .ref a_T_place])), (a_T_st, .inl (cI, 8, .inl R.2.2)), (a_T_was, .inl (cI, 64, .inl T_was))]) (va_A [(a_T, .inr (9, [.int T_guests, .ref a_T_kinds, .int T_wishes, .ref a_T_wishKind, .ref a_T_wishA, .ref a_T_wishB, .int T_begins, .ref a_T_st, .int T_acts, .ref a_T_was, .int T_keeps, .ref a_T_kept, .int T_wokes, .ref a_T_woke, .ref a_T_text, .int T_texted, .int T_at, .ref a_T_told, .int T_readGuests, .ref a_T_readKinds, .ref a_T_readFloors, .int T_readWishes, .ref a_T_readWishKind, .ref a_T_readWishA, .ref a_T_readWishB, .int T_readBegins, .int T_here, .int T_stands, .int T_many, .int T_rounds, .ref a_T_come, .ref a_T_keptBy, .ref a_T_endsAt, .ref a_T_order, .ref a_T_time, .ref a_T_place])), (a_T_st, .inl (cI, 8, .inl T_st)), (a_T_was, .inl (cI, 64, .inl T_was))] sz)) 0 0 (va_A [(a_T, .inr (9, [.int T_guests, .ref a_T_kinds, .int T_wishes, .ref a_T_wishKind, .ref a_T_wishA, .ref a_T_wishB, .int T_begins, .ref a_T_st, .int T_acts, .ref a_T_was, .int T_keeps, .ref a_T_kept, .int T_wokes, .ref a_T_woke, .ref a_T_text, .int T_texted, .int T_at, .ref a_T_told, .int T_readGuests, .ref a_T_readKinds, .ref a_T_readFloors, .int T_readWishes, .ref a_T_readWishKind, .ref a_T_readWishA, .ref a_T_readWishB, .int T_readBegins, .int T_here, .int T_stands, .int T_many, .int T_rounds, .ref a_T_come, .ref a_T_keptBy, .ref a_T_endsAt, .ref a_T_order, .ref a_T_time, .ref a_T_place])), (a_T_st, .inl (cI, 8, .inl T_st)), (a_T_was, .inl (cI, 64, .inl T_was))] sz) := by
  refine Met.ofW (cc := cX9_undo) (maxL := 1) (ret := (some .int)) (by decide) rfl ?_
  intro p e s m args below meth c s₁ B hml hv
  obtain ⟨rfl, hsz, hP, hK, hD0, hN⟩ := hv
  have hx := B.exec
  have hb := B.bytes
  have hrt := B.returns
  have hts := atoms_spec (ws := wsX9_undo) B.pre
  have hown : s.vm.findClass RX9 = some m.cls := findClass_of_methodNamed B.named
  have hlocks := B.notSynchronized
  subst hsz
  have hD := hD0.self (sz := s.heap.size)
  generalize hAe : va_A [(a_T, .inr (9, [.int T_guests, .ref a_T_kinds, .int T_wishes, .ref a_T_wishKind, .ref a_T_wishA, .ref a_T_wishB, .int T_begins, .ref a_T_st, .int T_acts, .ref a_T_was, .int T_keeps, .ref a_T_kept, .int T_wokes, .ref a_T_woke, .ref a_T_text, .int T_texted, .int T_at, .ref a_T_told, .int T_readGuests, .ref a_T_readKinds, .ref a_T_readFloors, .int T_readWishes, .ref a_T_readWishKind, .ref a_T_readWishA, .ref a_T_readWishB, .int T_readBegins, .int T_here, .int T_stands, .int T_many, .int T_rounds, .ref a_T_come, .ref a_T_keptBy, .ref a_T_endsAt, .ref a_T_order, .ref a_T_time, .ref a_T_place])), (a_T_st, .inl (cI, 8, .inl T_st)), (a_T_was, .inl (cI, 64, .inl T_was))] s.heap.size = A at hD ⊢
  have hA : ∀ q : Nat, s.heap.size ≤ q → A q := fun q h => by rw [← hAe]; exact Or.inr h
  have hS : va_S A s.heap s.heap [] := va_S.rf
  have hl := lv_entry ([.ref a_T] : List Value) (n := 1) (Nat.le_of_ble_eq_true rfl)
  rw [lg_entry_eq]
  generalize (lg_sl ([.ref a_T] : List Value) ++ List.replicate (1 - (lg_sl ([.ref a_T] : List Value)).length) Slot.unset).toArray = ls at hl ⊢
  replace hl : lv_has ls 1 [(0, .ref a_T)] := hl
  obtain ⟨Q, hQ⟩ : ∃ Q, Q = MQ below (va_Qi (fun r (_ : Unit) => r = R.1) (fun _ => BW (dC, dI) (tysA cC cI cJ) A [(a_T, .inr (9, [.int T_guests, .ref a_T_kinds, .int T_wishes, .ref a_T_wishKind, .ref a_T_wishA, .ref a_T_wishB, .int T_begins, .ref a_T_st, .int R.2.1, .ref a_T_was, .int T_keeps, .ref a_T_kept, .int T_wokes, .ref a_T_woke, .ref a_T_text, .int T_texted, .int T_at, .ref a_T_told, .int T_readGuests, .ref a_T_readKinds, .ref a_T_readFloors, .int T_readWishes, .ref a_T_readWishKind, .ref a_T_readWishA, .ref a_T_readWishB, .int T_readBegins, .int T_here, .int T_stands, .int T_many, .int T_rounds, .ref a_T_come, .ref a_T_keptBy, .ref a_T_endsAt, .ref a_T_order, .ref a_T_time, .ref a_T_place])), (a_T_st, .inl (cI, 8, .inl R.2.2)), (a_T_was, .inl (cI, 64, .inl T_was))]) A) ([.ref a_T] : List Value).toArray s 0 0 A := ⟨_, rfl⟩
  rw [← hQ]
  suffices hE : WG p l e rmX9_undo s m ([.ref a_T] : List Value).toArray below meth c 0 0 Q (dC, dI) A 0 1 [(a_T, .inr (9, [.int T_guests, .ref a_T_kinds, .int T_wishes, .ref a_T_wishKind, .ref a_T_wishA, .ref a_T_wishB, .int T_begins, .ref a_T_st, .int T_acts, .ref a_T_was, .int T_keeps, .ref a_T_kept, .int T_wokes, .ref a_T_woke, .ref a_T_text, .int T_texted, .int T_at, .ref a_T_told, .int T_readGuests, .ref a_T_readKinds, .ref a_T_readFloors, .int T_readWishes, .ref a_T_readWishKind, .ref a_T_readWishA, .ref a_T_readWishB, .int T_readBegins, .int T_here, .int T_stands, .int T_many, .int T_rounds, .ref a_T_come, .ref a_T_keptBy, .ref a_T_endsAt, .ref a_T_order, .ref a_T_time, .ref a_T_place])), (a_T_st, .inl (cI, 8, .inl T_st)), (a_T_was, .inl (cI, 64, .inl T_was))] [(0, .ref a_T)] [] from hE _ _ _ hP hD hS hl
  clear hP hD hS hl hD0 hAe
  intro H locs ls hP hD hS hl
  unfold fX9_undo at hr
  refine lv_aload_n hx hb dX9_undo_0 rfl (lv_at hl 0 rfl) ?_
  refine va_get (D := (dC, dI)) (ci := 9) (v := .int T_acts) (C := RX9) (T := TX9) (N := 36) hx hb hts inX9_undo_X9 hown hK hP 0 rfl rfl 8 (by decide) (hts _ mbX9_undo_0) (fun _ h9 => h9) rfl dX9_undo_1 ?_
  refine lv_if_ne (tgt := 10) hx hb dX9_undo_4 (by decide) (fun c1 => ?_) (fun c1 => ?_)
  · replace hr := it_f hr c1
    refine lv_aload_n hx hb dX9_undo_10 rfl (lv_at hl 0 rfl) ?_
    refine lv_dup hx hb dX9_undo_11 rfl ?_
    refine va_get (D := (dC, dI)) (ci := 9) (v := .int T_acts) (C := RX9) (T := TX9) (N := 36) hx hb hts inX9_undo_X9 hown hK hP 0 rfl rfl 8 (by decide) (hts _ mbX9_undo_0) (fun _ h9 => h9) rfl dX9_undo_12 ?_
    refine lv_iconst (v := 1) hx hb dX9_undo_15 (by decide) ?_
    refine lv_isub hx hb dX9_undo_16 ?_
    obtain ⟨T_acts_1, e1, hr⟩ := nm_el hr
    refine lv_nmi e1 ?_
    refine va_put (D := (dC, dI)) (ci := 9) (v := .int T_acts_1) (ty := .int) (C := RX9) (T := TX9) (N := 36) hx hb hts inX9_undo_X9 tyX9 tyX9_ok nmX9 hown hK hP hD hS 0 rfl rfl 8 (by decide) (hts _ mbX9_undo_0) (fun _ h9 => h9) rfl (by decide +kernel) rfl rfl (Nat.le_of_ble_eq_true rfl) dX9_undo_17 (fun H locs hP hD hS => ?_)
    replace hP : va_P (dC, dI) vwCl [(a_T, .inr (9, [.int T_guests, .ref a_T_kinds, .int T_wishes, .ref a_T_wishKind, .ref a_T_wishA, .ref a_T_wishB, .int T_begins, .ref a_T_st, .int T_acts_1, .ref a_T_was, .int T_keeps, .ref a_T_kept, .int T_wokes, .ref a_T_woke, .ref a_T_text, .int T_texted, .int T_at, .ref a_T_told, .int T_readGuests, .ref a_T_readKinds, .ref a_T_readFloors, .int T_readWishes, .ref a_T_readWishKind, .ref a_T_readWishA, .ref a_T_readWishB, .int T_readBegins, .int T_here, .int T_stands, .int T_many, .int T_rounds, .ref a_T_come, .ref a_T_keptBy, .ref a_T_endsAt, .ref a_T_order, .ref a_T_time, .ref a_T_place])), (a_T_st, .inl (cI, 8, .inl T_st)), (a_T_was, .inl (cI, 64, .inl T_was))] H := hP
    replace hD : va_D A [(a_T, .inr (9, [.int T_guests, .ref a_T_kinds, .int T_wishes, .ref a_T_wishKind, .ref a_T_wishA, .ref a_T_wishB, .int T_begins, .ref a_T_st, .int T_acts_1, .ref a_T_was, .int T_keeps, .ref a_T_kept, .int T_wokes, .ref a_T_woke, .ref a_T_text, .int T_texted, .int T_at, .ref a_T_told, .int T_readGuests, .ref a_T_readKinds, .ref a_T_readFloors, .int T_readWishes, .ref a_T_readWishKind, .ref a_T_readWishA, .ref a_T_readWishB, .int T_readBegins, .int T_here, .int T_stands, .int T_many, .int T_rounds, .ref a_T_come, .ref a_T_keptBy, .ref a_T_endsAt, .ref a_T_order, .ref a_T_time, .ref a_T_place])), (a_T_st, .inl (cI, 8, .inl T_st)), (a_T_was, .inl (cI, 64, .inl T_was))] := hD
    refine lv_aload_n hx hb dX9_undo_20 rfl (lv_at hl 0 rfl) ?_
    refine va_get (D := (dC, dI)) (ci := 9) (v := .ref a_T_st) (C := RX9) (T := TX9) (N := 36) hx hb hts inX9_undo_X9 hown hK hP 0 rfl rfl 7 (by decide) (hts _ mbX9_undo_2) (fun _ h9 => h9) rfl dX9_undo_21 ?_
    refine lv_iconst (v := 0) hx hb dX9_undo_24 (by decide) ?_
    refine lv_aload_n hx hb dX9_undo_25 rfl (lv_at hl 0 rfl) ?_
    refine va_get (D := (dC, dI)) (ci := 9) (v := .ref a_T_was) (C := RX9) (T := TX9) (N := 36) hx hb hts inX9_undo_X9 hown hK hP 0 rfl rfl 9 (by decide) (hts _ mbX9_undo_3) (fun _ h9 => h9) rfl dX9_undo_26 ?_
    refine lv_bipush (v := 8) hx hb dX9_undo_29 (by decide) ?_
    refine lv_aload_n hx hb dX9_undo_31 rfl (lv_at hl 0 rfl) ?_
    refine va_get (D := (dC, dI)) (ci := 9) (v := .int T_acts_1) (C := RX9) (T := TX9) (N := 36) hx hb hts inX9_undo_X9 hown hK hP 0 rfl rfl 8 (by decide) (hts _ mbX9_undo_0) (fun _ h9 => h9) rfl dX9_undo_32 ?_
    refine lv_imul hx hb dX9_undo_35 ?_
    obtain ⟨T_st_1, hc1, hr⟩ := bd1_some hr
    refine call_v (D := (dC, dI)) (tys := tysA cC cI cJ) (wc := [(a_T_st, .inl (cI, 8, .inl T_st)), (a_T_was, .inl (cI, 64, .inl T_was))]) (wr := [(a_T, .inr (9, [.int T_guests, .ref a_T_kinds, .int T_wishes, .ref a_T_wishKind, .ref a_T_wishA, .ref a_T_wishB, .int T_begins, .ref a_T_st, .int T_acts_1, .ref a_T_was, .int T_keeps, .ref a_T_kept, .int T_wokes, .ref a_T_woke, .ref a_T_text, .int T_texted, .int T_at, .ref a_T_told, .int T_readGuests, .ref a_T_readKinds, .ref a_T_readFloors, .int T_readWishes, .ref a_T_readWishKind, .ref a_T_readWishA, .ref a_T_readWishB, .int T_readBegins, .int T_here, .int T_stands, .int T_many, .int T_rounds, .ref a_T_come, .ref a_T_keptBy, .ref a_T_endsAt, .ref a_T_order, .ref a_T_time, .ref a_T_place]))]) (w1 := [(a_T_st, .inl (cI, 8, .inl T_st_1)), (a_T_was, .inl (cI, 64, .inl T_was))]) (wn := [(a_T, .inr (9, [.int T_guests, .ref a_T_kinds, .int T_wishes, .ref a_T_wishKind, .ref a_T_wishA, .ref a_T_wishB, .int T_begins, .ref a_T_st, .int T_acts_1, .ref a_T_was, .int T_keeps, .ref a_T_kept, .int T_wokes, .ref a_T_woke, .ref a_T_text, .int T_texted, .int T_at, .ref a_T_told, .int T_readGuests, .ref a_T_readKinds, .ref a_T_readFloors, .int T_readWishes, .ref a_T_readWishKind, .ref a_T_readWishA, .ref a_T_readWishB, .int T_readBegins, .int T_here, .int T_stands, .int T_many, .int T_rounds, .ref a_T_come, .ref a_T_keptBy, .ref a_T_endsAt, .ref a_T_order, .ref a_T_time, .ref a_T_place])), (a_T_st, .inl (cI, 8, .inl T_st_1)), (a_T_was, .inl (cI, 64, .inl T_was))]) hP hD hS hA [1, 2] [0] [0, 1, 2] rfl rfl (by decide +kernel) (by decide +kernel) rfl (by decide +kernel) (va_runS (As := [.ref a_T_st, .int 0, .ref a_T_was, .int (8 * T_acts_1)]) (rest := []) ⟨hx, hb, hml, hown, hts⟩ (kX9_copy l dC dI cC cI cJ H.size K a_T_st a_T_was 8 64 0 (8 * T_acts_1) T_st T_was T_st_1 hc1) (va_cwS 4 hts gX9_undo_X9_copy rfl rfl rfl (by decide +kernel) ⟨Nat.le_of_ble_eq_true rfl, Nat.le_of_ble_eq_true rfl⟩) ⟨fbW, preW hP hD hK hN [1, 2] rfl (by decide +kernel)⟩ rfl rfl hl.1 rfl (lv_room (Nat.le_of_ble_eq_true rfl)) dX9_undo_36 ⟨Nat.zero_le _, Nat.zero_le _⟩) (fun H locs hP hD hS => ?_)
    refine lv_aload_n hx hb dX9_undo_39 rfl (lv_at hl 0 rfl) ?_
    refine va_get (D := (dC, dI)) (ci := 9) (v := .int T_acts_1) (C := RX9) (T := TX9) (N := 36) hx hb hts inX9_undo_X9 hown hK hP 0 rfl rfl 8 (by decide) (hts _ mbX9_undo_0) (fun _ h9 => h9) rfl dX9_undo_40 ?_
    have he := Option.some.inj hr
    subst he
    subst hQ
    exact ret_i hx hb hrt hK hP hD hS hlocks dX9_undo_43
  · replace hr := it_t hr c1
    refine lv_bipush (v := (-2)) hx hb dX9_undo_7 (by decide) ?_
    have he := Option.some.inj hr
    subst he
    subst hQ
    exact ret_i hx hb hrt hK hP hD hS hlocks dX9_undo_9
