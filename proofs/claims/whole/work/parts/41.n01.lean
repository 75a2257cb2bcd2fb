def fX9_tellsGuest (K : Nat) (x1 : Int32) (x2 : Int32) (T_readGuests : Int32) (T_readKinds : (Nat → Int32)) (T_readFloors : (Nat → Int32)) : Option (Int32 × (Nat → Int32) × (Nat → Int32)) :=
    gd (¬ ((T_readGuests : Int32) < 0 ∨ 6 ≤ T_readGuests.toNatClampNeg)) (
    nm (upd T_readKinds T_readGuests.toNatClampNeg x1) fun T_readKinds_1 =>
    gd (¬ ((T_readGuests : Int32) < 0 ∨ 6 ≤ T_readGuests.toNatClampNeg)) (
    nm (upd T_readFloors T_readGuests.toNatClampNeg x2) fun T_readFloors_1 =>
    nm (T_readGuests + 1) fun T_readGuests_1 =>
    some (T_readGuests_1, T_readKinds_1, T_readFloors_1)))
theorem mbX9_tellsGuest_0 : Cond.fieldLink RX9 40 "BootsAtDawnModel" "readKinds" "[I" ∈ wsX9_tellsGuest := List.mem_of_getElem? (i := 1) rfl
theorem inX9_tellsGuest_X9 : ∀ w ∈ u_ws RX9 TX9 36, w ∈ wsX9_tellsGuest := fun _ h => (List.mem_cons_of_mem _ (List.mem_append_right _ h))
theorem mbX9_tellsGuest_2 : Cond.fieldLink RX9 91 "BootsAtDawnModel" "readGuests" "I" ∈ wsX9_tellsGuest := List.mem_of_getElem? (i := 2) rfl
theorem mbX9_tellsGuest_3 : Cond.fieldLink RX9 43 "BootsAtDawnModel" "readFloors" "[I" ∈ wsX9_tellsGuest := List.mem_of_getElem? (i := 3) rfl
abbrev rmX9_tellsGuest : Room := { frames := 0, cells := 0, slots := 0, locals := 0 }
set_option maxHeartbeats 8000000 in
set_option maxRecDepth 100000 in
theorem kX9_tellsGuest (l : Launch) (dC : Nat → ClassId) (dI : Nat → Nat → Nat) (cC cI cJ : ClassId) (sz : Nat) (K : Nat) (a_T a_T_kinds a_T_wishKind a_T_wishA a_T_wishB a_T_st a_T_was a_T_kept a_T_woke a_T_text a_T_told a_T_readKinds a_T_readFloors a_T_readWishKind a_T_readWishA a_T_readWishB a_T_come a_T_keptBy a_T_endsAt a_T_order a_T_time a_T_place : Nat) (x1 : Int32) (x2 : Int32) (T_guests : Int32) (T_wishes : Int32) (T_begins : Int32) (T_acts : Int32) (T_keeps : Int32) (T_wokes : Int32) (T_texted : Int32) (T_at : Int32) (T_readGuests : Int32) (T_readWishes : Int32) (T_readBegins : Int32) (T_here : Int32) (T_stands : Int32) (T_many : Int32) (T_rounds : Int32) (T_readKinds : (Nat → Int32)) (T_readFloors : (Nat → Int32)) (R : Int32 × (Nat → Int32) × (Nat → Int32)) (hr : fX9_tellsGuest K x1 x2 T_readGuests T_readKinds T_readFloors = some R) : Met l yX9_tellsGuest wsX9_tellsGuest rmX9_tellsGuest (va_Pc ([.ref a_T, .int x1, .int x2] : List Value) (PcW (dC, dI) (tysA cC cI cJ) sz [(a_T, .inr (9, [.int T_guests, .ref a_T_kinds, .int T_wishes, .ref a_T_wishKind, .ref a_T_wishA, .ref a_T_wishB, .int T_begins, .ref a_T_st, .int T_acts, .ref a_T_was, .int T_keeps, .ref a_T_kept, .int T_wokes, .ref a_T_woke, .ref a_T_text, .int T_texted, .int T_at, .ref a_T_told, .int T_readGuests, .ref a_T_readKinds, .ref a_T_readFloors, .int T_readWishes, .ref a_T_readWishKind, .ref a_T_readWishA, .ref a_T_readWishB, .int T_readBegins, .int T_here, .int T_stands, .int T_many, .int T_rounds, .ref a_T_come, .ref a_T_keptBy, .ref a_T_endsAt, .ref a_T_order, .ref a_T_time, .ref a_T_place])), (a_T_readKinds, .inl (cI, 6, .inl T_readKinds)), (a_T_readFloors, .inl (cI, 6, .inl T_readFloors))])) (va_Qv (fun (_ : Unit) => True) (fun _ => BW (dC, dI) (tysA cC cI cJ) (va_A [(a_T, .inr (9, [.int T_guests, .ref a_T_kinds, .int T_wishes, .ref a_T_wishKind, .ref a_T_wishA, .ref a_T_wishB, .int T_begins, .ref a_T_st, .int T_acts, .ref a_T_was, .int T_keeps, .ref a_T_kept, .int T_wokes, .ref a_T_woke, .ref a_T_text, .int T_texted, .int T_at, .ref a_T_told, .int T_readGuests, .ref a_T_readKinds, .ref a_T_readFloors, .int T_readWishes, .ref a_T_readWishKind, .ref a_T_readWishA, .ref a_T_readWishB, .int T_readBegins, .int T_here, .int T_stands, .int T_many, .int T_rounds, .ref a_T_come, .ref a_T_keptBy, .ref a_T_endsAt, .ref a_T_order, .ref a_T_time, .ref a_T_place])), (a_T_readKinds, .inl (cI, 6, .inl T_readKinds)), (a_T_readFloors, .inl (cI, 6, .inl T_readFloors))] sz) [(a_T, .inr (9, [.int T_guests, .ref a_T_kinds, .int T_wishes, .ref a_T_wishKind, .ref a_T_wishA, .ref a_T_wishB, .int T_begins, .ref a_T_st, .int T_acts, .ref a_T_was, .int T_keeps, .ref a_T_kept, .int T_wokes, .ref a_T_woke, .ref a_T_text, .int T_texted, .int T_at, .ref a_T_told, .int R.1, .ref a_T_readKinds, .ref a_T_readFloors, .int T_readWishes, .ref a_T_readWishKind, .ref a_T_readWishA, .ref a_T_readWishB, .int T_readBegins, .int T_here, .int T_stands, .int T_many, .int T_rounds, .ref a_T_come, .ref a_T_keptBy, .ref a_T_endsAt, .ref a_T_order, .ref a_T_time, .ref a_T_place])), (a_T_readKinds, .inl (cI, 6, .inl R.2.1)), (a_T_readFloors, .inl (cI, 6, .inl R.2.2))]) (va_A [(a_T, .inr (9, [.int T_guests, .ref a_T_kinds, .int T_wishes, .ref a_T_wishKind, .ref a_T_wishA, .ref a_T_wishB, .int T_begins, .ref a_T_st, .int T_acts, .ref a_T_was, .int T_keeps, .ref a_T_kept, .int T_wokes, .ref a_T_woke, .ref a_T_text, .int T_texted, .int T_at, .ref a_T_told, .int T_readGuests, .ref a_T_readKinds, .ref a_T_readFloors, .int T_readWishes, .ref a_T_readWishKind, .ref a_T_readWishA, .ref a_T_readWishB, .int T_readBegins, .int T_here, .int T_stands, .int T_many, .int T_rounds, .ref a_T_come, .ref a_T_keptBy, .ref a_T_endsAt, .ref a_T_order, .ref a_T_time, .ref a_T_place])), (a_T_readKinds, .inl (cI, 6, .inl T_readKinds)), (a_T_readFloors, .inl (cI, 6, .inl T_readFloors))] sz)) 0 0 (va_A [(a_T, .inr (9, [.int T_guests, .ref a_T_kinds, .int T_wishes, .ref a_T_wishKind, .ref a_T_wishA, .ref a_T_wishB, .int T_begins, .ref a_T_st, .int T_acts, .ref a_T_was, .int T_keeps, .ref a_T_kept, .int T_wokes, .ref a_T_woke, .ref a_T_text, .int T_texted, .int T_at, .ref a_T_told, .int T_readGuests, .ref a_T_readKinds, .ref a_T_readFloors, .int T_readWishes, .ref a_T_readWishKind, .ref a_T_readWishA, .ref a_T_readWishB, .int T_readBegins, .int T_here, .int T_stands, .int T_many, .int T_rounds, .ref a_T_come, .ref a_T_keptBy, .ref a_T_endsAt, .ref a_T_order, .ref a_T_time, .ref a_T_place])), (a_T_readKinds, .inl (cI, 6, .inl T_readKinds)), (a_T_readFloors, .inl (cI, 6, .inl T_readFloors))] sz) := by
  refine Met.ofW (cc := cX9_tellsGuest) (maxL := 3) (ret := none) (by decide) rfl ?_
  intro p e s m args below meth c s₁ B hml hv
  obtain ⟨rfl, hsz, hP, hK, hD0, hN⟩ := hv
  have hx := B.exec
  have hb := B.bytes
  have hrt := B.returns
  have hts := atoms_spec (ws := wsX9_tellsGuest) B.pre
  have hown : s.vm.findClass RX9 = some m.cls := findClass_of_methodNamed B.named
  have hlocks := B.notSynchronized
  subst hsz
  have hD := hD0.self (sz := s.heap.size)
  generalize hAe : va_A [(a_T, .inr (9, [.int T_guests, .ref a_T_kinds, .int T_wishes, .ref a_T_wishKind, .ref a_T_wishA, .ref a_T_wishB, .int T_begins, .ref a_T_st, .int T_acts, .ref a_T_was, .int T_keeps, .ref a_T_kept, .int T_wokes, .ref a_T_woke, .ref a_T_text, .int T_texted, .int T_at, .ref a_T_told, .int T_readGuests, .ref a_T_readKinds, .ref a_T_readFloors, .int T_readWishes, .ref a_T_readWishKind, .ref a_T_readWishA, .ref a_T_readWishB, .int T_readBegins, .int T_here, .int T_stands, .int T_many, .int T_rounds, .ref a_T_come, .ref a_T_keptBy, .ref a_T_endsAt, .ref a_T_order, .ref a_T_time, .ref a_T_place])), (a_T_readKinds, .inl (cI, 6, .inl T_readKinds)), (a_T_readFloors, .inl (cI, 6, .inl T_readFloors))] s.heap.size = A at hD ⊢
  have hA : ∀ q : Nat, s.heap.size ≤ q → A q := fun q h => by rw [← hAe]; exact Or.inr h
  have hS : va_S A s.heap s.heap [] := va_S.rf
  have hl := lv_entry ([.ref a_T, .int x1, .int x2] : List Value) (n := 3) (Nat.le_of_ble_eq_true rfl)
  rw [lg_entry_eq]
  generalize (lg_sl ([.ref a_T, .int x1, .int x2] : List Value) ++ List.replicate (3 - (lg_sl ([.ref a_T, .int x1, .int x2] : List Value)).length) Slot.unset).toArray = ls at hl ⊢
  replace hl : lv_has ls 3 [(0, .ref a_T), (1, .int x1), (2, .int x2)] := hl
  obtain ⟨Q, hQ⟩ : ∃ Q, Q = MQ below (va_Qv (fun (_ : Unit) => True) (fun _ => BW (dC, dI) (tysA cC cI cJ) A [(a_T, .inr (9, [.int T_guests, .ref a_T_kinds, .int T_wishes, .ref a_T_wishKind, .ref a_T_wishA, .ref a_T_wishB, .int T_begins, .ref a_T_st, .int T_acts, .ref a_T_was, .int T_keeps, .ref a_T_kept, .int T_wokes, .ref a_T_woke, .ref a_T_text, .int T_texted, .int T_at, .ref a_T_told, .int R.1, .ref a_T_readKinds, .ref a_T_readFloors, .int T_readWishes, .ref a_T_readWishKind, .ref a_T_readWishA, .ref a_T_readWishB, .int T_readBegins, .int T_here, .int T_stands, .int T_many, .int T_rounds, .ref a_T_come, .ref a_T_keptBy, .ref a_T_endsAt, .ref a_T_order, .ref a_T_time, .ref a_T_place])), (a_T_readKinds, .inl (cI, 6, .inl R.2.1)), (a_T_readFloors, .inl (cI, 6, .inl R.2.2))]) A) ([.ref a_T, .int x1, .int x2] : List Value).toArray s 0 0 A := ⟨_, rfl⟩
  rw [← hQ]
  suffices hE : WG p l e rmX9_tellsGuest s m ([.ref a_T, .int x1, .int x2] : List Value).toArray below meth c 0 0 Q (dC, dI) A 0 3 [(a_T, .inr (9, [.int T_guests, .ref a_T_kinds, .int T_wishes, .ref a_T_wishKind, .ref a_T_wishA, .ref a_T_wishB, .int T_begins, .ref a_T_st, .int T_acts, .ref a_T_was, .int T_keeps, .ref a_T_kept, .int T_wokes, .ref a_T_woke, .ref a_T_text, .int T_texted, .int T_at, .ref a_T_told, .int T_readGuests, .ref a_T_readKinds, .ref a_T_readFloors, .int T_readWishes, .ref a_T_readWishKind, .ref a_T_readWishA, .ref a_T_readWishB, .int T_readBegins, .int T_here, .int T_stands, .int T_many, .int T_rounds, .ref a_T_come, .ref a_T_keptBy, .ref a_T_endsAt, .ref a_T_order, .ref a_T_time, .ref a_T_place])), (a_T_readKinds, .inl (cI, 6, .inl T_readKinds)), (a_T_readFloors, .inl (cI, 6, .inl T_readFloors))] [(0, .ref a_T), (1, .int x1), (2, .int x2)] [] from hE _ _ _ hP hD hS hl
  clear hP hD hS hl hD0 hAe
  intro H locs ls hP hD hS hl
  unfold fX9_tellsGuest at hr
  refine lv_aload_n hx hb dX9_tellsGuest_0 rfl (lv_at hl 0 rfl) ?_
  refine va_get (D := (dC, dI)) (ci := 9) (v := .ref a_T_readKinds) (C := RX9) (T := TX9) (N := 36) hx hb hts inX9_tellsGuest_X9 hown hK hP 0 rfl rfl 19 (by decide) (hts _ mbX9_tellsGuest_0) (fun _ h9 => h9) rfl dX9_tellsGuest_1 ?_
  refine lv_aload_n hx hb dX9_tellsGuest_4 rfl (lv_at hl 0 rfl) ?_
  refine va_get (D := (dC, dI)) (ci := 9) (v := .int T_readGuests) (C := RX9) (T := TX9) (N := 36) hx hb hts inX9_tellsGuest_X9 hown hK hP 0 rfl rfl 18 (by decide) (hts _ mbX9_tellsGuest_2) (fun _ h9 => h9) rfl dX9_tellsGuest_5 ?_
  refine lv_iload_n hx hb dX9_tellsGuest_8 rfl (lv_at hl 1 rfl) ?_
  obtain ⟨g1, hr⟩ := gd_some hr
  obtain ⟨T_readKinds_1, e1, hr⟩ := nm_el hr
  refine va_iast hx hb hK hP hD hS 1 1 rfl rfl g1 dX9_tellsGuest_9 (fun H locs hP hD hS => ?_)
  rw [← e1] at hP hD
  replace hP : va_P (dC, dI) vwCl [(a_T, .inr (9, [.int T_guests, .ref a_T_kinds, .int T_wishes, .ref a_T_wishKind, .ref a_T_wishA, .ref a_T_wishB, .int T_begins, .ref a_T_st, .int T_acts, .ref a_T_was, .int T_keeps, .ref a_T_kept, .int T_wokes, .ref a_T_woke, .ref a_T_text, .int T_texted, .int T_at, .ref a_T_told, .int T_readGuests, .ref a_T_readKinds, .ref a_T_readFloors, .int T_readWishes, .ref a_T_readWishKind, .ref a_T_readWishA, .ref a_T_readWishB, .int T_readBegins, .int T_here, .int T_stands, .int T_many, .int T_rounds, .ref a_T_come, .ref a_T_keptBy, .ref a_T_endsAt, .ref a_T_order, .ref a_T_time, .ref a_T_place])), (a_T_readKinds, .inl (cI, 6, .inl T_readKinds_1)), (a_T_readFloors, .inl (cI, 6, .inl T_readFloors))] H := hP
  replace hD : va_D A [(a_T, .inr (9, [.int T_guests, .ref a_T_kinds, .int T_wishes, .ref a_T_wishKind, .ref a_T_wishA, .ref a_T_wishB, .int T_begins, .ref a_T_st, .int T_acts, .ref a_T_was, .int T_keeps, .ref a_T_kept, .int T_wokes, .ref a_T_woke, .ref a_T_text, .int T_texted, .int T_at, .ref a_T_told, .int T_readGuests, .ref a_T_readKinds, .ref a_T_readFloors, .int T_readWishes, .ref a_T_readWishKind, .ref a_T_readWishA, .ref a_T_readWishB, .int T_readBegins, .int T_here, .int T_stands, .int T_many, .int T_rounds, .ref a_T_come, .ref a_T_keptBy, .ref a_T_endsAt, .ref a_T_order, .ref a_T_time, .ref a_T_place])), (a_T_readKinds, .inl (cI, 6, .inl T_readKinds_1)), (a_T_readFloors, .inl (cI, 6, .inl T_readFloors))] := hD
  refine lv_aload_n hx hb dX9_tellsGuest_10 rfl (lv_at hl 0 rfl) ?_
  refine va_get (D := (dC, dI)) (ci := 9) (v := .ref a_T_readFloors) (C := RX9) (T := TX9) (N := 36) hx hb hts inX9_tellsGuest_X9 hown hK hP 0 rfl rfl 20 (by decide) (hts _ mbX9_tellsGuest_3) (fun _ h9 => h9) rfl dX9_tellsGuest_11 ?_
  refine lv_aload_n hx hb dX9_tellsGuest_14 rfl (lv_at hl 0 rfl) ?_
  refine va_get (D := (dC, dI)) (ci := 9) (v := .int T_readGuests) (C := RX9) (T := TX9) (N := 36) hx hb hts inX9_tellsGuest_X9 hown hK hP 0 rfl rfl 18 (by decide) (hts _ mbX9_tellsGuest_2) (fun _ h9 => h9) rfl dX9_tellsGuest_15 ?_
  refine lv_iload_n hx hb dX9_tellsGuest_18 rfl (lv_at hl 2 rfl) ?_
  obtain ⟨g2, hr⟩ := gd_some hr
  obtain ⟨T_readFloors_1, e2, hr⟩ := nm_el hr
  refine va_iast hx hb hK hP hD hS 2 1 rfl rfl g2 dX9_tellsGuest_19 (fun H locs hP hD hS => ?_)
  rw [← e2] at hP hD
  replace hP : va_P (dC, dI) vwCl [(a_T, .inr (9, [.int T_guests, .ref a_T_kinds, .int T_wishes, .ref a_T_wishKind, .ref a_T_wishA, .ref a_T_wishB, .int T_begins, .ref a_T_st, .int T_acts, .ref a_T_was, .int T_keeps, .ref a_T_kept, .int T_wokes, .ref a_T_woke, .ref a_T_text, .int T_texted, .int T_at, .ref a_T_told, .int T_readGuests, .ref a_T_readKinds, .ref a_T_readFloors, .int T_readWishes, .ref a_T_readWishKind, .ref a_T_readWishA, .ref a_T_readWishB, .int T_readBegins, .int T_here, .int T_stands, .int T_many, .int T_rounds, .ref a_T_come, .ref a_T_keptBy, .ref a_T_endsAt, .ref a_T_order, .ref a_T_time, .ref a_T_place])), (a_T_readKinds, .inl (cI, 6, .inl T_readKinds_1)), (a_T_readFloors, .inl (cI, 6, .inl T_readFloors_1))] H := hP
  replace hD : va_D A [(a_T, .inr (9, [.int T_guests, .ref a_T_kinds, .int T_wishes, .ref a_T_wishKind, .ref a_T_wishA, .ref a_T_wishB, .int T_begins, .ref a_T_st, .int T_acts, .ref a_T_was, .int T_keeps, .ref a_T_kept, .int T_wokes, .ref a_T_woke, .ref a_T_text, .int T_texted, .int T_at, .ref a_T_told, .int T_readGuests, .ref a_T_readKinds, .ref a_T_readFloors, .int T_readWishes, .ref a_T_readWishKind, .ref a_T_readWishA, .ref a_T_readWishB, .int T_readBegins, .int T_here, .int T_stands, .int T_many, .int T_rounds, .ref a_T_come, .ref a_T_keptBy, .ref a_T_endsAt, .ref a_T_order, .ref a_T_time, .ref a_T_place])), (a_T_readKinds, .inl (cI, 6, .inl T_readKinds_1)), (a_T_readFloors, .inl (cI, 6, .inl T_readFloors_1))] := hD
  refine lv_aload_n hx hb dX9_tellsGuest_20 rfl (lv_at hl 0 rfl) ?_
  refine lv_dup hx hb dX9_tellsGuest_21 rfl ?_
  refine va_get (D := (dC, dI)) (ci := 9) (v := .int T_readGuests) (C := RX9) (T := TX9) (N := 36) hx hb hts inX9_tellsGuest_X9 hown hK hP 0 rfl rfl 18 (by decide) (hts _ mbX9_tellsGuest_2) (fun _ h9 => h9) rfl dX9_tellsGuest_22 ?_
  refine lv_iconst (v := 1) hx hb dX9_tellsGuest_25 (by decide) ?_
  refine lv_iadd hx hb dX9_tellsGuest_26 ?_
  obtain ⟨T_readGuests_1, e3, hr⟩ := nm_el hr
  refine lv_nmi e3 ?_
  refine va_put (D := (dC, dI)) (ci := 9) (v := .int T_readGuests_1) (ty := .int) (C := RX9) (T := TX9) (N := 36) hx hb hts inX9_tellsGuest_X9 tyX9 tyX9_ok nmX9 hown hK hP hD hS 0 rfl rfl 18 (by decide) (hts _ mbX9_tellsGuest_2) (fun _ h9 => h9) rfl (by decide +kernel) rfl rfl (Nat.le_of_ble_eq_true rfl) dX9_tellsGuest_27 (fun H locs hP hD hS => ?_)
  replace hP : va_P (dC, dI) vwCl [(a_T, .inr (9, [.int T_guests, .ref a_T_kinds, .int T_wishes, .ref a_T_wishKind, .ref a_T_wishA, .ref a_T_wishB, .int T_begins, .ref a_T_st, .int T_acts, .ref a_T_was, .int T_keeps, .ref a_T_kept, .int T_wokes, .ref a_T_woke, .ref a_T_text, .int T_texted, .int T_at, .ref a_T_told, .int T_readGuests_1, .ref a_T_readKinds, .ref a_T_readFloors, .int T_readWishes, .ref a_T_readWishKind, .ref a_T_readWishA, .ref a_T_readWishB, .int T_readBegins, .int T_here, .int T_stands, .int T_many, .int T_rounds, .ref a_T_come, .ref a_T_keptBy, .ref a_T_endsAt, .ref a_T_order, .ref a_T_time, .ref a_T_place])), (a_T_readKinds, .inl (cI, 6, .inl T_readKinds_1)), (a_T_readFloors, .inl (cI, 6, .inl T_readFloors_1))] H := hP
  replace hD : va_D A [(a_T, .inr (9, [.int T_guests, .ref a_T_kinds, .int T_wishes, .ref a_T_wishKind, .ref a_T_wishA, .ref a_T_wishB, .int T_begins, .ref a_T_st, .int T_acts, .ref a_T_was, .int T_keeps, .ref a_T_kept, .int T_wokes, .ref a_T_woke, .ref a_T_text, .int T_texted, .int T_at, .ref a_T_told, .int T_readGuests_1, .ref a_T_readKinds, .ref a_T_readFloors, .int T_readWishes, .ref a_T_readWishKind, .ref a_T_readWishA, .ref a_T_readWishB, .int T_readBegins, .int T_here, .int T_stands, .int T_many, .int T_rounds, .ref a_T_come, .ref a_T_keptBy, .ref a_T_endsAt, .ref a_T_order, .ref a_T_time, .ref a_T_place])), (a_T_readKinds, .inl (cI, 6, .inl T_readKinds_1)), (a_T_readFloors, .inl (cI, 6, .inl T_readFloors_1))] := hD
  have he := Option.some.inj hr
  subst he
  subst hQ
  exact ret_v hx hb hrt hK hP hD hS hlocks dX9_tellsGuest_30
def fX9_tellsWish (K : Nat) (x1 : Int32) (x2 : Int32) (x3 : Int32) (T_readWishes : Int32) (T_readWishKind : (Nat → Int32)) (T_readWishA : (Nat → Int32)) (T_readWishB : (Nat → Int32)) : Option (Int32 × (Nat → Int32) × (Nat → Int32) × (Nat → Int32)) :=
    gd (¬ ((T_readWishes : Int32) < 0 ∨ 9 ≤ T_readWishes.toNatClampNeg)) (
    nm (upd T_readWishKind T_readWishes.toNatClampNeg x1) fun T_readWishKind_1 =>
    gd (¬ ((T_readWishes : Int32) < 0 ∨ 9 ≤ T_readWishes.toNatClampNeg)) (
    nm (upd T_readWishA T_readWishes.toNatClampNeg x2) fun T_readWishA_1 =>
    gd (¬ ((T_readWishes : Int32) < 0 ∨ 9 ≤ T_readWishes.toNatClampNeg)) (
    nm (upd T_readWishB T_readWishes.toNatClampNeg x3) fun T_readWishB_1 =>
    nm (T_readWishes + 1) fun T_readWishes_1 =>
    some (T_readWishes_1, T_readWishKind_1, T_readWishA_1, T_readWishB_1))))
theorem mbX9_tellsWish_0 : Cond.fieldLink RX9 46 "BootsAtDawnModel" "readWishKind" "[I" ∈ wsX9_tellsWish := List.mem_of_getElem? (i := 1) rfl
theorem inX9_tellsWish_X9 : ∀ w ∈ u_ws RX9 TX9 36, w ∈ wsX9_tellsWish := fun _ h => (List.mem_cons_of_mem _ (List.mem_append_right _ h))
theorem mbX9_tellsWish_2 : Cond.fieldLink RX9 94 "BootsAtDawnModel" "readWishes" "I" ∈ wsX9_tellsWish := List.mem_of_getElem? (i := 2) rfl
theorem mbX9_tellsWish_3 : Cond.fieldLink RX9 49 "BootsAtDawnModel" "readWishA" "[I" ∈ wsX9_tellsWish := List.mem_of_getElem? (i := 3) rfl
theorem mbX9_tellsWish_4 : Cond.fieldLink RX9 52 "BootsAtDawnModel" "readWishB" "[I" ∈ wsX9_tellsWish := List.mem_of_getElem? (i := 4) rfl
abbrev rmX9_tellsWish : Room := { frames := 0, cells := 0, slots := 0, locals := 0 }
set_option maxHeartbeats 8000000 in
set_option maxRecDepth 100000 in
theorem kX9_tellsWish (l : Launch) (dC : Nat → ClassId) (dI : Nat → Nat → Nat) (cC cI cJ : ClassId) (sz : Nat) (K : Nat) (a_T a_T_kinds a_T_wishKind a_T_wishA a_T_wishB a_T_st a_T_was a_T_kept a_T_woke a_T_text a_T_told a_T_readKinds a_T_readFloors a_T_readWishKind a_T_readWishA a_T_readWishB a_T_come a_T_keptBy a_T_endsAt a_T_order a_T_time a_T_place : Nat) (x1 : Int32) (x2 : Int32) (x3 : Int32) (T_guests : Int32) (T_wishes : Int32) (T_begins : Int32) (T_acts : Int32) (T_keeps : Int32) (T_wokes : Int32) (T_texted : Int32) (T_at : Int32) (T_readGuests : Int32) (T_readWishes : Int32) (T_readBegins : Int32) (T_here : Int32) (T_stands : Int32) (T_many : Int32) (T_rounds : Int32) (T_readWishKind : (Nat → Int32)) (T_readWishA : (Nat → Int32)) (T_readWishB : (Nat → Int32)) (R : Int32 × (Nat → Int32) × (Nat → Int32) × (Nat → Int32)) (hr : fX9_tellsWish K x1 x2 x3 T_readWishes T_readWishKind T_readWishA T_readWishB = some R) : Met l yX9_tellsWish wsX9_tellsWish rmX9_tellsWish (va_Pc ([.ref a_T, .int x1, .int x2, .int x3] : List Value) (PcW (dC, dI) (tysA cC cI cJ) sz [(a_T, .inr (9, [.int T_guests, .ref a_T_kinds, .int T_wishes, .ref a_T_wishKind, .ref a_T_wishA, .ref a_T_wishB, .int T_begins, .ref a_T_st, .int T_acts, .ref a_T_was, .int T_keeps, .ref a_T_kept, .int T_wokes, .ref a_T_woke, .ref a_T_text, .int T_texted, .int T_at, .ref a_T_told, .int T_readGuests, .ref a_T_readKinds, .ref a_T_readFloors, .int T_readWishes, .ref a_T_readWishKind, .ref a_T_readWishA, .ref a_T_readWishB, .int T_readBegins, .int T_here, .int T_stands, .int T_many, .int T_rounds, .ref a_T_come, .ref a_T_keptBy, .ref a_T_endsAt, .ref a_T_order, .ref a_T_time, .ref a_T_place])), (a_T_readWishKind, .inl (cI, 9, .inl T_readWishKind)), (a_T_readWishA, .inl (cI, 9, .inl T_readWishA)), (a_T_readWishB, .inl (cI, 9, .inl T_readWishB))])) (va_Qv (fun (_ : Unit) => True) (fun _ => BW (dC, dI) (tysA cC cI cJ) (va_A [(a_T, .inr (9, [.int T_guests, .ref a_T_kinds, .int T_wishes, .ref a_T_wishKind, .ref a_T_wishA, .ref a_T_wishB, .int T_begins, .ref a_T_st, .int T_acts, .ref a_T_was, .int T_keeps, .ref a_T_kept, .int T_wokes, .ref a_T_woke, .ref a_T_text, .int T_texted, .int T_at, .ref a_T_told, .int T_readGuests, .ref a_T_readKinds, .ref a_T_readFloors, .int T_readWishes, .ref a_T_readWishKind, .ref a_T_readWishA, .ref a_T_readWishB, .int T_readBegins, .int T_here, .int T_stands, .int T_many, .int T_rounds, .ref a_T_come, .ref a_T_keptBy, .ref a_T_endsAt, .ref a_T_order, .ref a_T_time, .ref a_T_place])), (a_T_readWishKind, .inl (cI, 9, .inl T_readWishKind)), (a_T_readWishA, .inl (cI, 9, .inl T_readWishA)), (a_T_readWishB, .inl (cI, 9, .inl T_readWishB))] sz) [(a_T, .inr (9, [.int T_guests, .ref a_T_kinds, .int T_wishes, .ref a_T_wishKind, .ref a_T_wishA, .ref a_T_wishB, .int T_begins, .ref a_T_st, .int T_acts, .ref a_T_was, .int T_keeps, .ref a_T_kept, .int T_wokes, .ref a_T_woke, .ref a_T_text, .int T_texted, .int T_at, .ref a_T_told, .int T_readGuests, .ref a_T_readKinds, .ref a_T_readFloors, .int R.1, .ref a_T_readWishKind, .ref a_T_readWishA, .ref a_T_readWishB, .int T_readBegins, .int T_here, .int T_stands, .int T_many, .int T_rounds, .ref a_T_come, .ref a_T_keptBy, .ref a_T_endsAt, .ref a_T_order, .ref a_T_time, .ref a_T_place])), (a_T_readWishKind, .inl (cI, 9, .inl R.2.1)), (a_T_readWishA, .inl (cI, 9, .inl R.2.2.1)), (a_T_readWishB, .inl (cI, 9, .inl R.2.2.2))]) (va_A [(a_T, .inr (9, [.int T_guests, .ref a_T_kinds, .int T_wishes, .ref a_T_wishKind, .ref a_T_wishA, .ref a_T_wishB, .int T_begins, .ref a_T_st, .int T_acts, .ref a_T_was, .int T_keeps, .ref a_T_kept, .int T_wokes, .ref a_T_woke, .ref a_T_text, .int T_texted, .int T_at, .ref a_T_told, .int T_readGuests, .ref a_T_readKinds, .ref a_T_readFloors, .int T_readWishes, .ref a_T_readWishKind, .ref a_T_readWishA, .ref a_T_readWishB, .int T_readBegins, .int T_here, .int T_stands, .int T_many, .int T_rounds, .ref a_T_come, .ref a_T_keptBy, .ref a_T_endsAt, .ref a_T_order, .ref a_T_time, .ref a_T_place])), (a_T_readWishKind, .inl (cI, 9, .inl T_readWishKind)), (a_T_readWishA, .inl (cI, 9, .inl T_readWishA)), (a_T_readWishB, .inl (cI, 9, .inl T_readWishB))] sz)) 0 0 (va_A [(a_T, .inr (9, [.int T_guests, .ref a_T_kinds, .int T_wishes, .ref a_T_wishKind, .ref a_T_wishA, .ref a_T_wishB, .int T_begins, .ref a_T_st, .int T_acts, .ref a_T_was, .int T_keeps, .ref a_T_kept, .int T_wokes, .ref a_T_woke, .ref a_T_text, .int T_texted, .int T_at, .ref a_T_told, .int T_readGuests, .ref a_T_readKinds, .ref a_T_readFloors, .int T_readWishes, .ref a_T_readWishKind, .ref a_T_readWishA, .ref a_T_readWishB, .int T_readBegins, .int T_here, .int T_stands, .int T_many, .int T_rounds, .ref a_T_come, .ref a_T_keptBy, .ref a_T_endsAt, .ref a_T_order, .ref a_T_time, .ref a_T_place])), (a_T_readWishKind, .inl (cI, 9, .inl T_readWishKind)), (a_T_readWishA, .inl (cI, 9, .inl T_readWishA)), (a_T_readWishB, .inl (cI, 9, .inl T_readWishB))] sz) := by
  refine Met.ofW (cc := cX9_tellsWish) (maxL := 4) (ret := none) (by decide) rfl ?_
  intro p e s m args below meth c s₁ B hml hv
  obtain ⟨rfl, hsz, hP, hK, hD0, hN⟩ := hv
  have hx := B.exec
  have hb := B.bytes
  have hrt := B.returns
  have hts := atoms_spec (ws := wsX9_tellsWish) B.pre
  have hown : s.vm.findClass RX9 = some m.cls := findClass_of_methodNamed B.named
  have hlocks := B.notSynchronized
  subst hsz
  have hD := hD0.self (sz := s.heap.size)
  generalize hAe : va_A [(a_T, .inr (9, [.int T_guests, .ref a_T_kinds, .int T_wishes, .ref a_T_wishKind, .ref a_T_wishA, .ref a_T_wishB, .int T_begins, .ref a_T_st, .int T_acts, .ref a_T_was, .int T_keeps, .ref a_T_kept, .int T_wokes, .ref a_T_woke, .ref a_T_text, .int T_texted, .int T_at, .ref a_T_told, .int T_readGuests, .ref a_T_readKinds, .ref a_T_readFloors, .int T_readWishes, .ref a_T_readWishKind, .ref a_T_readWishA, .ref a_T_readWishB, .int T_readBegins, .int T_here, .int T_stands, .int T_many, .int T_rounds, .ref a_T_come, .ref a_T_keptBy, .ref a_T_endsAt, .ref a_T_order, .ref a_T_time, .ref a_T_place])), (a_T_readWishKind, .inl (cI, 9, .inl T_readWishKind)), (a_T_readWishA, .inl (cI, 9, .inl T_readWishA)), (a_T_readWishB, .inl (cI, 9, .inl T_readWishB))] s.heap.size = A at hD ⊢
  have hA : ∀ q : Nat, s.heap.size ≤ q → A q := fun q h => by rw [← hAe]; exact Or.inr h
  have hS : va_S A s.heap s.heap [] := va_S.rf
  have hl := lv_entry ([.ref a_T, .int x1, .int x2, .int x3] : List Value) (n := 4) (Nat.le_of_ble_eq_true rfl)
  rw [lg_entry_eq]
  generalize (lg_sl ([.ref a_T, .int x1, .int x2, .int x3] : List Value) ++ List.replicate (4 - (lg_sl ([.ref a_T, .int x1, .int x2, .int x3] : List Value)).length) Slot.unset).toArray = ls at hl ⊢
  replace hl : lv_has ls 4 [(0, .ref a_T), (1, .int x1), (2, .int x2), (3, .int x3)] := hl
  obtain ⟨Q, hQ⟩ : ∃ Q, Q = MQ below (va_Qv (fun (_ : Unit) => True) (fun _ => BW (dC, dI) (tysA cC cI cJ) A [(a_T, .inr (9, [.int T_guests, .ref a_T_kinds, .int T_wishes, .ref a_T_wishKind, .ref a_T_wishA, .ref a_T_wishB, .int T_begins, .ref a_T_st, .int T_acts, .ref a_T_was, .int T_keeps, .ref a_T_kept, .int T_wokes, .ref a_T_woke, .ref a_T_text, .int T_texted, .int T_at, .ref a_T_told, .int T_readGuests, .ref a_T_readKinds, .ref a_T_readFloors, .int R.1, .ref a_T_readWishKind, .ref a_T_readWishA, .ref a_T_readWishB, .int T_readBegins, .int T_here, .int T_stands, .int T_many, .int T_rounds, .ref a_T_come, .ref a_T_keptBy, .ref a_T_endsAt, .ref a_T_order, .ref a_T_time, .ref a_T_place])), (a_T_readWishKind, .inl (cI, 9, .inl R.2.1)), (a_T_readWishA, .inl (cI, 9, .inl R.2.2.1)), (a_T_readWishB, .inl (cI, 9, .inl R.2.2.2))]) A) ([.ref a_T, .int x1, .int x2, .int x3] : List Value).toArray s 0 0 A := ⟨_, rfl⟩
  rw [← hQ]
  suffices hE : WG p l e rmX9_tellsWish s m ([.ref a_T, .int x1, .int x2, .int x3] : List Value).toArray below meth c 0 0 Q (dC, dI) A 0 4 [(a_T, .inr (9, [.int T_guests, .ref a_T_kinds, .int T_wishes, .ref a_T_wishKind, .ref a_T_wishA, .ref a_T_wishB, .int T_begins, .ref a_T_st, .int T_acts, .ref a_T_was, .int T_keeps, .ref a_T_kept, .int T_wokes, .ref a_T_woke, .ref a_T_text, .int T_texted, .int T_at, .ref a_T_told, .int T_readGuests, .ref a_T_readKinds, .ref a_T_readFloors, .int T_readWishes, .ref a_T_readWishKind, .ref a_T_readWishA, .ref a_T_readWishB, .int T_readBegins, .int T_here, .int T_stands, .int T_many, .int T_rounds, .ref a_T_come, .ref a_T_keptBy, .ref a_T_endsAt, .ref a_T_order, .ref a_T_time, .ref a_T_place])), (a_T_readWishKind, .inl (cI, 9, .inl T_readWishKind)), (a_T_readWishA, .inl (cI, 9, .inl T_readWishA)), (a_T_readWishB, .inl (cI, 9, .inl T_readWishB))] [(0, .ref a_T), (1, .int x1), (2, .int x2), (3, .int x3)] [] from hE _ _ _ hP hD hS hl
  clear hP hD hS hl hD0 hAe
  intro H locs ls hP hD hS hl
  unfold fX9_tellsWish at hr
  refine lv_aload_n hx hb dX9_tellsWish_0 rfl (lv_at hl 0 rfl) ?_
  refine va_get (D := (dC, dI)) (ci := 9) (v := .ref a_T_readWishKind) (C := RX9) (T := TX9) (N := 36) hx hb hts inX9_tellsWish_X9 hown hK hP 0 rfl rfl 22 (by decide) (hts _ mbX9_tellsWish_0) (fun _ h9 => h9) rfl dX9_tellsWish_1 ?_
  refine lv_aload_n hx hb dX9_tellsWish_4 rfl (lv_at hl 0 rfl) ?_
  refine va_get (D := (dC, dI)) (ci := 9) (v := .int T_readWishes) (C := RX9) (T := TX9) (N := 36) hx hb hts inX9_tellsWish_X9 hown hK hP 0 rfl rfl 21 (by decide) (hts _ mbX9_tellsWish_2) (fun _ h9 => h9) rfl dX9_tellsWish_5 ?_
  refine lv_iload_n hx hb dX9_tellsWish_8 rfl (lv_at hl 1 rfl) ?_
  obtain ⟨g1, hr⟩ := gd_some hr
  obtain ⟨T_readWishKind_1, e1, hr⟩ := nm_el hr
  refine va_iast hx hb hK hP hD hS 1 1 rfl rfl g1 dX9_tellsWish_9 (fun H locs hP hD hS => ?_)
  rw [← e1] at hP hD
  replace hP : va_P (dC, dI) vwCl [(a_T, .inr (9, [.int T_guests, .ref a_T_kinds, .int T_wishes, .ref a_T_wishKind, .ref a_T_wishA, .ref a_T_wishB, .int T_begins, .ref a_T_st, .int T_acts, .ref a_T_was, .int T_keeps, .ref a_T_kept, .int T_wokes, .ref a_T_woke, .ref a_T_text, .int T_texted, .int T_at, .ref a_T_told, .int T_readGuests, .ref a_T_readKinds, .ref a_T_readFloors, .int T_readWishes, .ref a_T_readWishKind, .ref a_T_readWishA, .ref a_T_readWishB, .int T_readBegins, .int T_here, .int T_stands, .int T_many, .int T_rounds, .ref a_T_come, .ref a_T_keptBy, .ref a_T_endsAt, .ref a_T_order, .ref a_T_time, .ref a_T_place])), (a_T_readWishKind, .inl (cI, 9, .inl T_readWishKind_1)), (a_T_readWishA, .inl (cI, 9, .inl T_readWishA)), (a_T_readWishB, .inl (cI, 9, .inl T_readWishB))] H := hP
  replace hD : va_D A [(a_T, .inr (9, [.int T_guests, .ref a_T_kinds, .int T_wishes, .ref a_T_wishKind, .ref a_T_wishA, .ref a_T_wishB, .int T_begins, .ref a_T_st, .int T_acts, .ref a_T_was, .int T_keeps, .ref a_T_kept, .int T_wokes, .ref a_T_woke, .ref a_T_text, .int T_texted, .int T_at, .ref a_T_told, .int T_readGuests, .ref a_T_readKinds, .ref a_T_readFloors, .int T_readWishes, .ref a_T_readWishKind, .ref a_T_readWishA, .ref a_T_readWishB, .int T_readBegins, .int T_here, .int T_stands, .int T_many, .int T_rounds, .ref a_T_come, .ref a_T_keptBy, .ref a_T_endsAt, .ref a_T_order, .ref a_T_time, .ref a_T_place])), (a_T_readWishKind, .inl (cI, 9, .inl T_readWishKind_1)), (a_T_readWishA, .inl (cI, 9, .inl T_readWishA)), (a_T_readWishB, .inl (cI, 9, .inl T_readWishB))] := hD
  refine lv_aload_n hx hb dX9_tellsWish_10 rfl (lv_at hl 0 rfl) ?_
  refine va_get (D := (dC, dI)) (ci := 9) (v := .ref a_T_readWishA) (C := RX9) (T := TX9) (N := 36) hx hb hts inX9_tellsWish_X9 hown hK hP 0 rfl rfl 23 (by decide) (hts _ mbX9_tellsWish_3) (fun _ h9 => h9) rfl dX9_tellsWish_11 ?_
  refine lv_aload_n hx hb dX9_tellsWish_14 rfl (lv_at hl 0 rfl) ?_
  refine va_get (D := (dC, dI)) (ci := 9) (v := .int T_readWishes) (C := RX9) (T := TX9) (N := 36) hx hb hts inX9_tellsWish_X9 hown hK hP 0 rfl rfl 21 (by decide) (hts _ mbX9_tellsWish_2) (fun _ h9 => h9) rfl dX9_tellsWish_15 ?_
  refine lv_iload_n hx hb dX9_tellsWish_18 rfl (lv_at hl 2 rfl) ?_
  obtain ⟨g2, hr⟩ := gd_some hr
  obtain ⟨T_readWishA_1, e2, hr⟩ := nm_el hr
  refine va_iast hx hb hK hP hD hS 2 1 rfl rfl g2 dX9_tellsWish_19 (fun H locs hP hD hS => ?_)
  rw [← e2] at hP hD
  replace hP : va_P (dC, dI) vwCl [(a_T, .inr (9, [.int T_guests, .ref a_T_kinds, .int T_wishes, .ref a_T_wishKind, .ref a_T_wishA, .ref a_T_wishB, .int T_begins, .ref a_T_st, .int T_acts, .ref a_T_was, .int T_keeps, .ref a_T_kept, .int T_wokes, .ref a_T_woke, .ref a_T_text, .int T_texted, .int T_at, .ref a_T_told, .int T_readGuests, .ref a_T_readKinds, .ref a_T_readFloors, .int T_readWishes, .ref a_T_readWishKind, .ref a_T_readWishA, .ref a_T_readWishB, .int T_readBegins, .int T_here, .int T_stands, .int T_many, .int T_rounds, .ref a_T_come, .ref a_T_keptBy, .ref a_T_endsAt, .ref a_T_order, .ref a_T_time, .ref a_T_place])), (a_T_readWishKind, .inl (cI, 9, .inl T_readWishKind_1)), (a_T_readWishA, .inl (cI, 9, .inl T_readWishA_1)), (a_T_readWishB, .inl (cI, 9, .inl T_readWishB))] H := hP
  replace hD : va_D A [(a_T, .inr (9, [.int T_guests, .ref a_T_kinds, .int T_wishes, .ref a_T_wishKind, .ref a_T_wishA, .ref a_T_wishB, .int T_begins, .ref a_T_st, .int T_acts, .ref a_T_was, .int T_keeps, .ref a_T_kept, .int T_wokes, .ref a_T_woke, .ref a_T_text, .int T_texted, .int T_at, .ref a_T_told, .int T_readGuests, .ref a_T_readKinds, .ref a_T_readFloors, .int T_readWishes, .ref a_T_readWishKind, .ref a_T_readWishA, .ref a_T_readWishB, .int T_readBegins, .int T_here, .int T_stands, .int T_many, .int T_rounds, .ref a_T_come, .ref a_T_keptBy, .ref a_T_endsAt, .ref a_T_order, .ref a_T_time, .ref a_T_place])), (a_T_readWishKind, .inl (cI, 9, .inl T_readWishKind_1)), (a_T_readWishA, .inl (cI, 9, .inl T_readWishA_1)), (a_T_readWishB, .inl (cI, 9, .inl T_readWishB))] := hD
  refine lv_aload_n hx hb dX9_tellsWish_20 rfl (lv_at hl 0 rfl) ?_
  refine va_get (D := (dC, dI)) (ci := 9) (v := .ref a_T_readWishB) (C := RX9) (T := TX9) (N := 36) hx hb hts inX9_tellsWish_X9 hown hK hP 0 rfl rfl 24 (by decide) (hts _ mbX9_tellsWish_4) (fun _ h9 => h9) rfl dX9_tellsWish_21 ?_
  refine lv_aload_n hx hb dX9_tellsWish_24 rfl (lv_at hl 0 rfl) ?_
  refine va_get (D := (dC, dI)) (ci := 9) (v := .int T_readWishes) (C := RX9) (T := TX9) (N := 36) hx hb hts inX9_tellsWish_X9 hown hK hP 0 rfl rfl 21 (by decide) (hts _ mbX9_tellsWish_2) (fun _ h9 => h9) rfl dX9_tellsWish_25 ?_
  refine lv_iload_n hx hb dX9_tellsWish_28 rfl (lv_at hl 3 rfl) ?_
  obtain ⟨g3, hr⟩ := gd_some hr
  obtain ⟨T_readWishB_1, e3, hr⟩ := nm_el hr
  refine va_iast hx hb hK hP hD hS 3 1 rfl rfl g3 dX9_tellsWish_29 (fun H locs hP hD hS => ?_)
  rw [← e3] at hP hD
  replace hP : va_P (dC, dI) vwCl [(a_T, .inr (9, [.int T_guests, .ref a_T_kinds, .int T_wishes, .ref a_T_wishKind, .ref a_T_wishA, .ref a_T_wishB, .int T_begins, .ref a_T_st, .int T_acts, .ref a_T_was, .int T_keeps, .ref a_T_kept, .int T_wokes, .ref a_T_woke, .ref a_T_text, .int T_texted, .int T_at, .ref a_T_told, .int T_readGuests, .ref a_T_readKinds, .ref a_T_readFloors, .int T_readWishes, .ref a_T_readWishKind, .ref a_T_readWishA, .ref a_T_readWishB, .int T_readBegins, .int T_here, .int T_stands, .int T_many, .int T_rounds, .ref a_T_come, .ref a_T_keptBy, .ref a_T_endsAt, .ref a_T_order, .ref a_T_time, .ref a_T_place])), (a_T_readWishKind, .inl (cI, 9, .inl T_readWishKind_1)), (a_T_readWishA, .inl (cI, 9, .inl T_readWishA_1)), (a_T_readWishB, .inl (cI, 9, .inl T_readWishB_1))] H := hP
  replace hD : va_D A [(a_T, .inr (9, [.int T_guests, .ref a_T_kinds, .int T_wishes, .ref a_T_wishKind, .ref a_T_wishA, .ref a_T_wishB, .int T_begins, .ref a_T_st, .int T_acts, .ref a_T_was, .int T_keeps, .ref a_T_kept, .int T_wokes, .ref a_T_woke, .ref a_T_text, .int T_texted, .int T_at, .ref a_T_told, .int T_readGuests, .ref a_T_readKinds, .ref a_T_readFloors, .int T_readWishes, .ref a_T_readWishKind, .ref a_T_readWishA, .ref a_T_readWishB, .int T_readBegins, .int T_here, .int T_stands, .int T_many, .int T_rounds, .ref a_T_come, .ref a_T_keptBy, .ref a_T_endsAt, .ref a_T_order, .ref a_T_time, .ref a_T_place])), (a_T_readWishKind, .inl (cI, 9, .inl T_readWishKind_1)), (a_T_readWishA, .inl (cI, 9, .inl T_readWishA_1)), (a_T_readWishB, .inl (cI, 9, .inl T_readWishB_1))] := hD
  refine lv_aload_n hx hb dX9_tellsWish_30 rfl (lv_at hl 0 rfl) ?_
  refine lv_dup hx hb dX9_tellsWish_31 rfl ?_
  refine va_get (D := (dC, dI)) (ci := 9) (v := .int T_readWishes) (C := RX9) (T := TX9) (N := 36) hx hb hts inX9_tellsWish_X9 hown hK hP 0 rfl rfl 21 (by decide) (hts _ mbX9_tellsWish_2) (fun _ h9 => h9) rfl dX9_tellsWish_32 ?_
  refine lv_iconst (v := 1) hx hb dX9_tellsWish_35 (by decide) ?_
  refine lv_iadd hx hb dX9_tellsWish_36 ?_
  obtain ⟨T_readWishes_1, e4, hr⟩ := nm_el hr
  refine lv_nmi e4 ?_
  refine va_put (D := (dC, dI)) (ci := 9) (v := .int T_readWishes_1) (ty := .int) (C := RX9) (T := TX9) (N := 36) hx hb hts inX9_tellsWish_X9 tyX9 tyX9_ok nmX9 hown hK hP hD hS 0 rfl rfl 21 (by decide) (hts _ mbX9_tellsWish_2) (fun _ h9 => h9) rfl (by decide +kernel) rfl rfl (Nat.le_of_ble_eq_true rfl) dX9_tellsWish_37 (fun H locs hP hD hS => ?_)
  replace hP : va_P (dC, dI) vwCl [(a_T, .inr (9, [.int T_guests, .ref a_T_kinds, .int T_wishes, .ref a_T_wishKind, .ref a_T_wishA, .ref a_T_wishB, .int T_begins, .ref a_T_st, .int T_acts, .ref a_T_was, .int T_keeps, .ref a_T_kept, .int T_wokes, .ref a_T_woke, .ref a_T_text, .int T_texted, .int T_at, .ref a_T_told, .int T_readGuests, .ref a_T_readKinds, .ref a_T_readFloors, .int T_readWishes_1, .ref a_T_readWishKind, .ref a_T_readWishA, .ref a_T_readWishB, .int T_readBegins, .int T_here, .int T_stands, .int T_many, .int T_rounds, .ref a_T_come, .ref a_T_keptBy, .ref a_T_endsAt, .ref a_T_order, .ref a_T_time, .ref a_T_place])), (a_T_readWishKind, .inl (cI, 9, .inl T_readWishKind_1)), (a_T_readWishA, .inl (cI, 9, .inl T_readWishA_1)), (a_T_readWishB, .inl (cI, 9, .inl T_readWishB_1))] H := hP
  replace hD : va_D A [(a_T, .inr (9, [.int T_guests, .ref a_T_kinds, .int T_wishes, .ref a_T_wishKind, .ref a_T_wishA, .ref a_T_wishB, .int T_begins, .ref a_T_st, .int T_acts, .ref a_T_was, .int T_keeps, .ref a_T_kept, .int T_wokes, .ref a_T_woke, .ref a_T_text, .int T_texted, .int T_at, .ref a_T_told, .int T_readGuests, .ref a_T_readKinds, .ref a_T_readFloors, .int T_readWishes_1, .ref a_T_readWishKind, .ref a_T_readWishA, .ref a_T_readWishB, .int T_readBegins, .int T_here, .int T_stands, .int T_many, .int T_rounds, .ref a_T_come, .ref a_T_keptBy, .ref a_T_endsAt, .ref a_T_order, .ref a_T_time, .ref a_T_place])), (a_T_readWishKind, .inl (cI, 9, .inl T_readWishKind_1)), (a_T_readWishA, .inl (cI, 9, .inl T_readWishA_1)), (a_T_readWishB, .inl (cI, 9, .inl T_readWishB_1))] := hD
  have he := Option.some.inj hr
  subst he
  subst hQ
  exact ret_v hx hb hrt hK hP hD hS hlocks dX9_tellsWish_40
def fX9_in (K : Nat) (x0 : Int32) (x1 : Int32) (x2 : Int32) : Option (Int32) :=
    if (x0 : Int32) < x1 then (
    some 0)
    else (
    if x2 < (x0 : Int32) then (
    some 0)
    else (
    some 1))
abbrev rmX9_in : Room := { frames := 0, cells := 0, slots := 0, locals := 0 }
set_option maxHeartbeats 8000000 in
set_option maxRecDepth 100000 in
theorem kX9_in (l : Launch) (dC : Nat → ClassId) (dI : Nat → Nat → Nat) (cC cI cJ : ClassId) (sz : Nat) (K : Nat) (x0 : Int32) (x1 : Int32) (x2 : Int32) (R : Int32) (hr : fX9_in K x0 x1 x2 = some R) : Met l yX9_in wsX9_in rmX9_in (va_Pc ([.int x0, .int x1, .int x2] : List Value) (PcW (dC, dI) (tysA cC cI cJ) sz [])) (va_Qi (fun r (_ : Unit) => r = R) (fun _ => BW (dC, dI) (tysA cC cI cJ) (va_A [] sz) []) (va_A [] sz)) 0 0 (va_A [] sz) := by
  refine Met.ofW (cc := cX9_in) (maxL := 3) (ret := (some .boolean)) (by decide) rfl ?_
  intro p e s m args below meth c s₁ B hml hv
  obtain ⟨rfl, hsz, hP, hK, hD0, hN⟩ := hv
  have hx := B.exec
  have hb := B.bytes
  have hrt := B.returns
  have hts := atoms_spec (ws := wsX9_in) B.pre
  have hown : s.vm.findClass RX9 = some m.cls := findClass_of_methodNamed B.named
  have hlocks := B.notSynchronized
  subst hsz
  have hD := hD0.self (sz := s.heap.size)
  generalize hAe : va_A [] s.heap.size = A at hD ⊢
  have hA : ∀ q : Nat, s.heap.size ≤ q → A q := fun q h => by rw [← hAe]; exact Or.inr h
  have hS : va_S A s.heap s.heap [] := va_S.rf
  have hl := lv_entry ([.int x0, .int x1, .int x2] : List Value) (n := 3) (Nat.le_of_ble_eq_true rfl)
  rw [lg_entry_eq]
  generalize (lg_sl ([.int x0, .int x1, .int x2] : List Value) ++ List.replicate (3 - (lg_sl ([.int x0, .int x1, .int x2] : List Value)).length) Slot.unset).toArray = ls at hl ⊢
  replace hl : lv_has ls 3 [(0, .int x0), (1, .int x1), (2, .int x2)] := hl
  obtain ⟨Q, hQ⟩ : ∃ Q, Q = MQ below (va_Qi (fun r (_ : Unit) => r = R) (fun _ => BW (dC, dI) (tysA cC cI cJ) A []) A) ([.int x0, .int x1, .int x2] : List Value).toArray s 0 0 A := ⟨_, rfl⟩
  rw [← hQ]
  suffices hE : WG p l e rmX9_in s m ([.int x0, .int x1, .int x2] : List Value).toArray below meth c 0 0 Q (dC, dI) A 0 3 [] [(0, .int x0), (1, .int x1), (2, .int x2)] [] from hE _ _ _ hP hD hS hl
  clear hP hD hS hl hD0 hAe
  intro H locs ls hP hD hS hl
  unfold fX9_in at hr
  refine lv_iload_n hx hb dX9_in_0 rfl (lv_at hl 0 rfl) ?_
  refine lv_iload_n hx hb dX9_in_1 rfl (lv_at hl 1 rfl) ?_
  refine lv_icmp_lt (tgt := 14) hx hb dX9_in_2 (by decide) (fun c1 => ?_) (fun c1 => ?_)
  · replace hr := it_t hr c1
    refine lv_iconst (v := 0) hx hb dX9_in_14 (by decide) ?_
    have he := Option.some.inj hr
    subst he
    subst hQ
    exact ret_z hx hb hrt (show narrow .boolean (.int 0) = .int 0 from rfl) hK hP hD hS hlocks dX9_in_15
  · replace hr := it_f hr c1
    refine lv_iload_n hx hb dX9_in_5 rfl (lv_at hl 0 rfl) ?_
    refine lv_iload_n hx hb dX9_in_6 rfl (lv_at hl 2 rfl) ?_
    refine lv_icmp_gt (tgt := 14) hx hb dX9_in_7 (by decide) (fun c2 => ?_) (fun c2 => ?_)
    · replace hr := it_t hr c2
      refine lv_iconst (v := 0) hx hb dX9_in_14 (by decide) ?_
      have he := Option.some.inj hr
      subst he
      subst hQ
      exact ret_z hx hb hrt (show narrow .boolean (.int 0) = .int 0 from rfl) hK hP hD hS hlocks dX9_in_15
    · replace hr := it_f hr c2
      refine lv_iconst (v := 1) hx hb dX9_in_10 (by decide) ?_
      refine lv_goto (tgt := 15) hx hb dX9_in_11 (by decide) ?_
      have he := Option.some.inj hr
      subst he
      subst hQ
      exact ret_z hx hb hrt (show narrow .boolean (.int 1) = .int 1 from rfl) hK hP hD hS hlocks dX9_in_15
def fX9_has (K : Nat) (x0 : Int32) (x1 : Int32) : Option (Int32) :=
    if (((x0 >>> (x1 &&& 31)) &&& 1) : Int32) = 1 then (
    some 1)
    else (
    some 0)
abbrev rmX9_has : Room := { frames := 0, cells := 0, slots := 0, locals := 0 }
set_option maxHeartbeats 8000000 in
set_option maxRecDepth 100000 in
theorem kX9_has (l : Launch) (dC : Nat → ClassId) (dI : Nat → Nat → Nat) (cC cI cJ : ClassId) (sz : Nat) (K : Nat) (x0 : Int32) (x1 : Int32) (R : Int32) (hr : fX9_has K x0 x1 = some R) : Met l yX9_has wsX9_has rmX9_has (va_Pc ([.int x0, .int x1] : List Value) (PcW (dC, dI) (tysA cC cI cJ) sz [])) (va_Qi (fun r (_ : Unit) => r = R) (fun _ => BW (dC, dI) (tysA cC cI cJ) (va_A [] sz) []) (va_A [] sz)) 0 0 (va_A [] sz) := by
  refine Met.ofW (cc := cX9_has) (maxL := 2) (ret := (some .boolean)) (by decide) rfl ?_
  intro p e s m args below meth c s₁ B hml hv
  obtain ⟨rfl, hsz, hP, hK, hD0, hN⟩ := hv
  have hx := B.exec
  have hb := B.bytes
  have hrt := B.returns
  have hts := atoms_spec (ws := wsX9_has) B.pre
  have hown : s.vm.findClass RX9 = some m.cls := findClass_of_methodNamed B.named
  have hlocks := B.notSynchronized
  subst hsz
  have hD := hD0.self (sz := s.heap.size)
  generalize hAe : va_A [] s.heap.size = A at hD ⊢
  have hA : ∀ q : Nat, s.heap.size ≤ q → A q := fun q h => by rw [← hAe]; exact Or.inr h
  have hS : va_S A s.heap s.heap [] := va_S.rf
  have hl := lv_entry ([.int x0, .int x1] : List Value) (n := 2) (Nat.le_of_ble_eq_true rfl)
  rw [lg_entry_eq]
  generalize (lg_sl ([.int x0, .int x1] : List Value) ++ List.replicate (2 - (lg_sl ([.int x0, .int x1] : List Value)).length) Slot.unset).toArray = ls at hl ⊢
  replace hl : lv_has ls 2 [(0, .int x0), (1, .int x1)] := hl
  obtain ⟨Q, hQ⟩ : ∃ Q, Q = MQ below (va_Qi (fun r (_ : Unit) => r = R) (fun _ => BW (dC, dI) (tysA cC cI cJ) A []) A) ([.int x0, .int x1] : List Value).toArray s 0 0 A := ⟨_, rfl⟩
  rw [← hQ]
  suffices hE : WG p l e rmX9_has s m ([.int x0, .int x1] : List Value).toArray below meth c 0 0 Q (dC, dI) A 0 2 [] [(0, .int x0), (1, .int x1)] [] from hE _ _ _ hP hD hS hl
  clear hP hD hS hl hD0 hAe
  intro H locs ls hP hD hS hl
  unfold fX9_has at hr
  refine lv_iload_n hx hb dX9_has_0 rfl (lv_at hl 0 rfl) ?_
  refine lv_iload_n hx hb dX9_has_1 rfl (lv_at hl 1 rfl) ?_
  refine lv_ishr hx hb dX9_has_2 ?_
  refine lv_iconst (v := 1) hx hb dX9_has_3 (by decide) ?_
  refine lv_iand hx hb dX9_has_4 ?_
  refine lv_iconst (v := 1) hx hb dX9_has_5 (by decide) ?_
  refine lv_icmp_ne (tgt := 13) hx hb dX9_has_6 (by decide) (fun c1 => ?_) (fun c1 => ?_)
  · replace hr := it_f hr c1
    refine lv_iconst (v := 0) hx hb dX9_has_13 (by decide) ?_
    have he := Option.some.inj hr
    subst he
    subst hQ
    exact ret_z hx hb hrt (show narrow .boolean (.int 0) = .int 0 from rfl) hK hP hD hS hlocks dX9_has_14
  · replace hr := it_t hr c1
    refine lv_iconst (v := 1) hx hb dX9_has_9 (by decide) ?_
    refine lv_goto (tgt := 14) hx hb dX9_has_10 (by decide) ?_
    have he := Option.some.inj hr
    subst he
    subst hQ
    exact ret_z hx hb hrt (show narrow .boolean (.int 1) = .int 1 from rfl) hK hP hD hS hlocks dX9_has_14
def fX9_bits_L4 (K : Nat) (x0 : Int32) : Nat → Int32 → Int32 → Option (Int32)
  | 0, _, _ => none
  | n1 + 1, x1, x2 =>
    if 9 ≤ (x2 : Int32) then (
    some x1)
    else (
    nm (x1 + ((x0 >>> (x2 &&& 31)) &&& 1)) fun x1_2 =>
    nm (x2 + 1) fun x2_1 =>
    fX9_bits_L4 K x0 n1 x1_2 x2_1)
def fX9_bits (K : Nat) (x0 : Int32) : Option (Int32) :=
    bd1 (fX9_bits_L4 K x0 K 0 0) fun x1_1 =>
    some x1_1
abbrev rmX9_bits : Room := { frames := 0, cells := 0, slots := 0, locals := 0 }
set_option maxHeartbeats 8000000 in
set_option maxRecDepth 100000 in
theorem kX9_bits (l : Launch) (dC : Nat → ClassId) (dI : Nat → Nat → Nat) (cC cI cJ : ClassId) (sz : Nat) (K : Nat) (x0 : Int32) (R : Int32) (hr : fX9_bits K x0 = some R) : Met l yX9_bits wsX9_bits rmX9_bits (va_Pc ([.int x0] : List Value) (PcW (dC, dI) (tysA cC cI cJ) sz [])) (va_Qi (fun r (_ : Unit) => r = R) (fun _ => BW (dC, dI) (tysA cC cI cJ) (va_A [] sz) []) (va_A [] sz)) 0 0 (va_A [] sz) := by
  refine Met.ofW (cc := cX9_bits) (maxL := 3) (ret := (some .int)) (by decide) rfl ?_
  intro p e s m args below meth c s₁ B hml hv
  obtain ⟨rfl, hsz, hP, hK, hD0, hN⟩ := hv
  have hx := B.exec
  have hb := B.bytes
  have hrt := B.returns
  have hts := atoms_spec (ws := wsX9_bits) B.pre
  have hown : s.vm.findClass RX9 = some m.cls := findClass_of_methodNamed B.named
  have hlocks := B.notSynchronized
  subst hsz
  have hD := hD0.self (sz := s.heap.size)
  generalize hAe : va_A [] s.heap.size = A at hD ⊢
  have hA : ∀ q : Nat, s.heap.size ≤ q → A q := fun q h => by rw [← hAe]; exact Or.inr h
  have hS : va_S A s.heap s.heap [] := va_S.rf
  have hl := lv_entry ([.int x0] : List Value) (n := 3) (Nat.le_of_ble_eq_true rfl)
  rw [lg_entry_eq]
  generalize (lg_sl ([.int x0] : List Value) ++ List.replicate (3 - (lg_sl ([.int x0] : List Value)).length) Slot.unset).toArray = ls at hl ⊢
  replace hl : lv_has ls 3 [(0, .int x0)] := hl
  obtain ⟨Q, hQ⟩ : ∃ Q, Q = MQ below (va_Qi (fun r (_ : Unit) => r = R) (fun _ => BW (dC, dI) (tysA cC cI cJ) A []) A) ([.int x0] : List Value).toArray s 0 0 A := ⟨_, rfl⟩
  rw [← hQ]
  suffices hE : WG p l e rmX9_bits s m ([.int x0] : List Value).toArray below meth c 0 0 Q (dC, dI) A 0 3 [] [(0, .int x0)] [] from hE _ _ _ hP hD hS hl
  clear hP hD hS hl hD0 hAe
  intro H locs ls hP hD hS hl
  unfold fX9_bits at hr
  refine lv_iconst (v := 0) hx hb dX9_bits_0 (by decide) ?_
  refine lv_istore_n (lv' := [(1, .int 0), (0, .int x0)]) hx hb dX9_bits_1 rfl hl (by decide) rfl (fun ls hl => ?_)
  refine lv_iconst (v := 0) hx hb dX9_bits_2 (by decide) ?_
  refine lv_istore_n (lv' := [(2, .int 0), (1, .int 0), (0, .int x0)]) hx hb dX9_bits_3 rfl hl (by decide) rfl (fun ls hl => ?_)
  have hL1 : ∀ (n1 : Nat) (x1 : Int32) (x2 : Int32) (x1_1 : Int32), fX9_bits_L4 K x0 n1 x1 x2 = some x1_1 → WG p l e rmX9_bits s m ([.int x0] : List Value).toArray below meth c 0 0 Q (dC, dI) A 24 3 [] [(1, .int x1_1)] [] → WG p l e rmX9_bits s m ([.int x0] : List Value).toArray below meth c 0 0 Q (dC, dI) A 4 3 [] [(0, .int x0), (1, .int x1), (2, .int x2)] [] := by
    intro n1
    induction n1 with
    | zero =>
      intro x1 x2 x1_1 hr
      rw [fX9_bits_L4] at hr
      cases hr
    | succ n1 ih4 =>
      intro x1 x2 x1_1 hr hX1 H locs ls hP hD hS hl
      rw [fX9_bits_L4] at hr
      refine lv_iload_n hx hb dX9_bits_4 rfl (lv_at hl 2 rfl) ?_
      refine lv_bipush (v := 9) hx hb dX9_bits_5 (by decide) ?_
      refine lv_icmp_ge (tgt := 24) hx hb dX9_bits_7 (by decide) (fun c1 => ?_) (fun c1 => ?_)
      · replace hr := it_t hr c1
        have he := Option.some.inj hr
        cases he
        exact hX1 H locs ls hP hD hS (lv_sub hl [1] rfl)
      · replace hr := it_f hr c1
        refine lv_iload_n hx hb dX9_bits_10 rfl (lv_at hl 1 rfl) ?_
        refine lv_iload_n hx hb dX9_bits_11 rfl (lv_at hl 0 rfl) ?_
        refine lv_iload_n hx hb dX9_bits_12 rfl (lv_at hl 2 rfl) ?_
        refine lv_ishr hx hb dX9_bits_13 ?_
        refine lv_iconst (v := 1) hx hb dX9_bits_14 (by decide) ?_
        refine lv_iand hx hb dX9_bits_15 ?_
        refine lv_iadd hx hb dX9_bits_16 ?_
        obtain ⟨x1_2, e1, hr⟩ := nm_el hr
        refine lv_nmi e1 ?_
        refine lv_istore_n (lv' := [(1, .int x1_2), (0, .int x0), (2, .int x2)]) hx hb dX9_bits_17 rfl hl (by decide) rfl (fun ls hl => ?_)
        obtain ⟨x2_1, e2, hr⟩ := nm_el hr
        refine lv_iinc (v := x2_1) (lv' := [(2, .int x2_1), (1, .int x1_2), (0, .int x0)]) hx hb dX9_bits_18 hl (k := 2) rfl e2.symm (by decide) rfl (fun ls hl => ?_)
        refine lv_goto (tgt := 4) hx hb dX9_bits_21 (by decide) ?_
        exact ih4 _ _ _ hr hX1 H locs ls hP hD hS (lv_sub hl [2, 1, 0] rfl)
  obtain ⟨x1_1, hE, hr⟩ := bd1_some hr
  refine hL1 K 0 0 x1_1 hE ?_ H locs ls hP hD hS (lv_sub hl [2, 1, 0] rfl)
  intro H locs ls hP hD hS hl
  refine lv_iload_n hx hb dX9_bits_24 rfl (lv_at hl 0 rfl) ?_
  have he := Option.some.inj hr
  subst he
  subst hQ
  exact ret_i hx hb hrt hK hP hD hS hlocks dX9_bits_25
def fX9_isGuest (K : Nat) (x1 : Int32) (T_guests : Int32) : Option (Int32) :=
    bd1 (fX9_in K x1 0 (T_guests - 1)) fun r =>
    gd (vp_nar .boolean r = r) (
    some r)
theorem mbX9_isGuest_0 : Cond.fieldLink RX9 97 "BootsAtDawnModel" "guests" "I" ∈ wsX9_isGuest := List.mem_of_getElem? (i := 1) rfl
theorem inX9_isGuest_X9 : ∀ w ∈ u_ws RX9 TX9 36, w ∈ wsX9_isGuest := fun _ h => (List.mem_cons_of_mem _ (List.mem_append_right _ h))
abbrev rmX9_isGuest : Room := { frames := 1, cells := 0, slots := 0, locals := 22 }
set_option maxHeartbeats 8000000 in
set_option maxRecDepth 100000 in
theorem kX9_isGuest (l : Launch) (dC : Nat → ClassId) (dI : Nat → Nat → Nat) (cC cI cJ : ClassId) (sz : Nat) (K : Nat) (a_T a_T_kinds a_T_wishKind a_T_wishA a_T_wishB a_T_st a_T_was a_T_kept a_T_woke a_T_text a_T_told a_T_readKinds a_T_readFloors a_T_readWishKind a_T_readWishA a_T_readWishB a_T_come a_T_keptBy a_T_endsAt a_T_order a_T_time a_T_place : Nat) (x1 : Int32) (T_guests : Int32) (T_wishes : Int32) (T_begins : Int32) (T_acts : Int32) (T_keeps : Int32) (T_wokes : Int32) (T_texted : Int32) (T_at : Int32) (T_readGuests : Int32) (T_readWishes : Int32) (T_readBegins : Int32) (T_here : Int32) (T_stands : Int32) (T_many : Int32) (T_rounds : Int32) (R : Int32) (hr : fX9_isGuest K x1 T_guests = some R) : Met l yX9_isGuest wsX9_isGuest rmX9_isGuest (va_Pc ([.ref a_T, .int x1] : List Value) (PcW (dC, dI) (tysA cC cI cJ) sz [(a_T, .inr (9, [.int T_guests, .ref a_T_kinds, .int T_wishes, .ref a_T_wishKind, .ref a_T_wishA, .ref a_T_wishB, .int T_begins, .ref a_T_st, .int T_acts, .ref a_T_was, .int T_keeps, .ref a_T_kept, .int T_wokes, .ref a_T_woke, .ref a_T_text, .int T_texted, .int T_at, .ref a_T_told, .int T_readGuests, .ref a_T_readKinds, .ref a_T_readFloors, .int T_readWishes, .ref a_T_readWishKind, .ref a_T_readWishA, .ref a_T_readWishB, .int T_readBegins, .int T_here, .int T_stands, .int T_many, .int T_rounds, .ref a_T_come, .ref a_T_keptBy, .ref a_T_endsAt, .ref a_T_order, .ref a_T_time, .ref a_T_place]))])) (va_Qi (fun r (_ : Unit) => r = R) (fun _ => BW (dC, dI) (tysA cC cI cJ) (va_A [(a_T, .inr (9, [.int T_guests, .ref a_T_kinds, .int T_wishes, .ref a_T_wishKind, .ref a_T_wishA, .ref a_T_wishB, .int T_begins, .ref a_T_st, .int T_acts, .ref a_T_was, .int T_keeps, .ref a_T_kept, .int T_wokes, .ref a_T_woke, .ref a_T_text, .int T_texted, .int T_at, .ref a_T_told, .int T_readGuests, .ref a_T_readKinds, .ref a_T_readFloors, .int T_readWishes, .ref a_T_readWishKind, .ref a_T_readWishA, .ref a_T_readWishB, .int T_readBegins, .int T_here, .int T_stands, .int T_many, .int T_rounds, .ref a_T_come, .ref a_T_keptBy, .ref a_T_endsAt, .ref a_T_order, .ref a_T_time, .ref a_T_place]))] sz) [(a_T, .inr (9, [.int T_guests, .ref a_T_kinds, .int T_wishes, .ref a_T_wishKind, .ref a_T_wishA, .ref a_T_wishB, .int T_begins, .ref a_T_st, .int T_acts, .ref a_T_was, .int T_keeps, .ref a_T_kept, .int T_wokes, .ref a_T_woke, .ref a_T_text, .int T_texted, .int T_at, .ref a_T_told, .int T_readGuests, .ref a_T_readKinds, .ref a_T_readFloors, .int T_readWishes, .ref a_T_readWishKind, .ref a_T_readWishA, .ref a_T_readWishB, .int T_readBegins, .int T_here, .int T_stands, .int T_many, .int T_rounds, .ref a_T_come, .ref a_T_keptBy, .ref a_T_endsAt, .ref a_T_order, .ref a_T_time, .ref a_T_place]))]) (va_A [(a_T, .inr (9, [.int T_guests, .ref a_T_kinds, .int T_wishes, .ref a_T_wishKind, .ref a_T_wishA, .ref a_T_wishB, .int T_begins, .ref a_T_st, .int T_acts, .ref a_T_was, .int T_keeps, .ref a_T_kept, .int T_wokes, .ref a_T_woke, .ref a_T_text, .int T_texted, .int T_at, .ref a_T_told, .int T_readGuests, .ref a_T_readKinds, .ref a_T_readFloors, .int T_readWishes, .ref a_T_readWishKind, .ref a_T_readWishA, .ref a_T_readWishB, .int T_readBegins, .int T_here, .int T_stands, .int T_many, .int T_rounds, .ref a_T_come, .ref a_T_keptBy, .ref a_T_endsAt, .ref a_T_order, .ref a_T_time, .ref a_T_place]))] sz)) 0 0 (va_A [(a_T, .inr (9, [.int T_guests, .ref a_T_kinds, .int T_wishes, .ref a_T_wishKind, .ref a_T_wishA, .ref a_T_wishB, .int T_begins, .ref a_T_st, .int T_acts, .ref a_T_was, .int T_keeps, .ref a_T_kept, .int T_wokes, .ref a_T_woke, .ref a_T_text, .int T_texted, .int T_at, .ref a_T_told, .int T_readGuests, .ref a_T_readKinds, .ref a_T_readFloors, .int T_readWishes, .ref a_T_readWishKind, .ref a_T_readWishA, .ref a_T_readWishB, .int T_readBegins, .int T_here, .int T_stands, .int T_many, .int T_rounds, .ref a_T_come, .ref a_T_keptBy, .ref a_T_endsAt, .ref a_T_order, .ref a_T_time, .ref a_T_place]))] sz) := by
  refine Met.ofW (cc := cX9_isGuest) (maxL := 2) (ret := (some .boolean)) (by decide) rfl ?_
  intro p e s m args below meth c s₁ B hml hv
  obtain ⟨rfl, hsz, hP, hK, hD0, hN⟩ := hv
  have hx := B.exec
  have hb := B.bytes
  have hrt := B.returns
  have hts := atoms_spec (ws := wsX9_isGuest) B.pre
  have hown : s.vm.findClass RX9 = some m.cls := findClass_of_methodNamed B.named
  have hlocks := B.notSynchronized
  subst hsz
  have hD := hD0.self (sz := s.heap.size)
  generalize hAe : va_A [(a_T, .inr (9, [.int T_guests, .ref a_T_kinds, .int T_wishes, .ref a_T_wishKind, .ref a_T_wishA, .ref a_T_wishB, .int T_begins, .ref a_T_st, .int T_acts, .ref a_T_was, .int T_keeps, .ref a_T_kept, .int T_wokes, .ref a_T_woke, .ref a_T_text, .int T_texted, .int T_at, .ref a_T_told, .int T_readGuests, .ref a_T_readKinds, .ref a_T_readFloors, .int T_readWishes, .ref a_T_readWishKind, .ref a_T_readWishA, .ref a_T_readWishB, .int T_readBegins, .int T_here, .int T_stands, .int T_many, .int T_rounds, .ref a_T_come, .ref a_T_keptBy, .ref a_T_endsAt, .ref a_T_order, .ref a_T_time, .ref a_T_place]))] s.heap.size = A at hD ⊢
  have hA : ∀ q : Nat, s.heap.size ≤ q → A q := fun q h => by rw [← hAe]; exact Or.inr h
  have hS : va_S A s.heap s.heap [] := va_S.rf
  have hl := lv_entry ([.ref a_T, .int x1] : List Value) (n := 2) (Nat.le_of_ble_eq_true rfl)
  rw [lg_entry_eq]
  generalize (lg_sl ([.ref a_T, .int x1] : List Value) ++ List.replicate (2 - (lg_sl ([.ref a_T, .int x1] : List Value)).length) Slot.unset).toArray = ls at hl ⊢
  replace hl : lv_has ls 2 [(0, .ref a_T), (1, .int x1)] := hl
  obtain ⟨Q, hQ⟩ : ∃ Q, Q = MQ below (va_Qi (fun r (_ : Unit) => r = R) (fun _ => BW (dC, dI) (tysA cC cI cJ) A [(a_T, .inr (9, [.int T_guests, .ref a_T_kinds, .int T_wishes, .ref a_T_wishKind, .ref a_T_wishA, .ref a_T_wishB, .int T_begins, .ref a_T_st, .int T_acts, .ref a_T_was, .int T_keeps, .ref a_T_kept, .int T_wokes, .ref a_T_woke, .ref a_T_text, .int T_texted, .int T_at, .ref a_T_told, .int T_readGuests, .ref a_T_readKinds, .ref a_T_readFloors, .int T_readWishes, .ref a_T_readWishKind, .ref a_T_readWishA, .ref a_T_readWishB, .int T_readBegins, .int T_here, .int T_stands, .int T_many, .int T_rounds, .ref a_T_come, .ref a_T_keptBy, .ref a_T_endsAt, .ref a_T_order, .ref a_T_time, .ref a_T_place]))]) A) ([.ref a_T, .int x1] : List Value).toArray s 0 0 A := ⟨_, rfl⟩
  rw [← hQ]
  suffices hE : WG p l e rmX9_isGuest s m ([.ref a_T, .int x1] : List Value).toArray below meth c 0 0 Q (dC, dI) A 0 2 [(a_T, .inr (9, [.int T_guests, .ref a_T_kinds, .int T_wishes, .ref a_T_wishKind, .ref a_T_wishA, .ref a_T_wishB, .int T_begins, .ref a_T_st, .int T_acts, .ref a_T_was, .int T_keeps, .ref a_T_kept, .int T_wokes, .ref a_T_woke, .ref a_T_text, .int T_texted, .int T_at, .ref a_T_told, .int T_readGuests, .ref a_T_readKinds, .ref a_T_readFloors, .int T_readWishes, .ref a_T_readWishKind, .ref a_T_readWishA, .ref a_T_readWishB, .int T_readBegins, .int T_here, .int T_stands, .int T_many, .int T_rounds, .ref a_T_come, .ref a_T_keptBy, .ref a_T_endsAt, .ref a_T_order, .ref a_T_time, .ref a_T_place]))] [(0, .ref a_T), (1, .int x1)] [] from hE _ _ _ hP hD hS hl
  clear hP hD hS hl hD0 hAe
  intro H locs ls hP hD hS hl
  unfold fX9_isGuest at hr
  refine lv_iload_n hx hb dX9_isGuest_0 rfl (lv_at hl 1 rfl) ?_
  refine lv_iconst (v := 0) hx hb dX9_isGuest_1 (by decide) ?_
  refine lv_aload_n hx hb dX9_isGuest_2 rfl (lv_at hl 0 rfl) ?_
  refine va_get (D := (dC, dI)) (ci := 9) (v := .int T_guests) (C := RX9) (T := TX9) (N := 36) hx hb hts inX9_isGuest_X9 hown hK hP 0 rfl rfl 0 (by decide) (hts _ mbX9_isGuest_0) (fun _ h9 => h9) rfl dX9_isGuest_3 ?_
  refine lv_iconst (v := 1) hx hb dX9_isGuest_6 (by decide) ?_
  refine lv_isub hx hb dX9_isGuest_7 ?_
  obtain ⟨r, hc1, hr⟩ := bd1_some hr
  refine call_i (D := (dC, dI)) (tys := tysA cC cI cJ) (wc := []) (wr := [(a_T, .inr (9, [.int T_guests, .ref a_T_kinds, .int T_wishes, .ref a_T_wishKind, .ref a_T_wishA, .ref a_T_wishB, .int T_begins, .ref a_T_st, .int T_acts, .ref a_T_was, .int T_keeps, .ref a_T_kept, .int T_wokes, .ref a_T_woke, .ref a_T_text, .int T_texted, .int T_at, .ref a_T_told, .int T_readGuests, .ref a_T_readKinds, .ref a_T_readFloors, .int T_readWishes, .ref a_T_readWishKind, .ref a_T_readWishA, .ref a_T_readWishB, .int T_readBegins, .int T_here, .int T_stands, .int T_many, .int T_rounds, .ref a_T_come, .ref a_T_keptBy, .ref a_T_endsAt, .ref a_T_order, .ref a_T_time, .ref a_T_place]))]) (w1 := []) (wn := [(a_T, .inr (9, [.int T_guests, .ref a_T_kinds, .int T_wishes, .ref a_T_wishKind, .ref a_T_wishA, .ref a_T_wishB, .int T_begins, .ref a_T_st, .int T_acts, .ref a_T_was, .int T_keeps, .ref a_T_kept, .int T_wokes, .ref a_T_woke, .ref a_T_text, .int T_texted, .int T_at, .ref a_T_told, .int T_readGuests, .ref a_T_readKinds, .ref a_T_readFloors, .int T_readWishes, .ref a_T_readWishKind, .ref a_T_readWishA, .ref a_T_readWishB, .int T_readBegins, .int T_here, .int T_stands, .int T_many, .int T_rounds, .ref a_T_come, .ref a_T_keptBy, .ref a_T_endsAt, .ref a_T_order, .ref a_T_time, .ref a_T_place]))]) (r0 := r) hP hD hS hA [] [0] [0] rfl rfl (by decide +kernel) (by decide +kernel) rfl (by decide +kernel) (va_runS (As := [.int x1, .int 0, .int (T_guests - 1)]) (rest := []) ⟨hx, hb, hml, hown, hts⟩ (kX9_in l dC dI cC cI cJ H.size K x1 0 (T_guests - 1) r hc1) (va_cwS 3 hts gX9_isGuest_X9_in rfl rfl rfl (by decide +kernel) ⟨Nat.le_of_ble_eq_true rfl, Nat.le_of_ble_eq_true rfl⟩) ⟨fbW, preW hP hD hK hN [] rfl (by decide +kernel)⟩ rfl rfl hl.1 rfl (lv_room (Nat.le_of_ble_eq_true rfl)) dX9_isGuest_8 ⟨Nat.zero_le _, Nat.zero_le _⟩) (fun H locs hP hD hS => ?_)
  obtain ⟨g1, hr⟩ := gd_some hr
  have he := Option.some.inj hr
  subst he
  subst hQ
  exact ret_z hx hb hrt (vp_narZ g1) hK hP hD hS hlocks dX9_isGuest_11
def fX9_isHere (K : Nat) (x1 : Int32) (T_st : (Nat → Int32)) : Option (Int32) :=
    gd (¬ ((0 : Int32) < 0 ∨ 8 ≤ (0 : Int32).toNatClampNeg)) (
    bd1 (fX9_has K (T_st (0 : Int32).toNatClampNeg) x1) fun r =>
    gd (vp_nar .boolean r = r) (
    some r))
theorem mbX9_isHere_0 : Cond.fieldLink RX9 22 "BootsAtDawnModel" "st" "[I" ∈ wsX9_isHere := List.mem_of_getElem? (i := 1) rfl
theorem inX9_isHere_X9 : ∀ w ∈ u_ws RX9 TX9 36, w ∈ wsX9_isHere := fun _ h => (List.mem_cons_of_mem _ (List.mem_append_right _ h))
abbrev rmX9_isHere : Room := { frames := 1, cells := 0, slots := 0, locals := 21 }
set_option maxHeartbeats 8000000 in
set_option maxRecDepth 100000 in
theorem kX9_isHere (l : Launch) (dC : Nat → ClassId) (dI : Nat → Nat → Nat) (cC cI cJ : ClassId) (sz : Nat) (K : Nat) (a_T a_T_kinds a_T_wishKind a_T_wishA a_T_wishB a_T_st a_T_was a_T_kept a_T_woke a_T_text a_T_told a_T_readKinds a_T_readFloors a_T_readWishKind a_T_readWishA a_T_readWishB a_T_come a_T_keptBy a_T_endsAt a_T_order a_T_time a_T_place : Nat) (x1 : Int32) (T_guests : Int32) (T_wishes : Int32) (T_begins : Int32) (T_acts : Int32) (T_keeps : Int32) (T_wokes : Int32) (T_texted : Int32) (T_at : Int32) (T_readGuests : Int32) (T_readWishes : Int32) (T_readBegins : Int32) (T_here : Int32) (T_stands : Int32) (T_many : Int32) (T_rounds : Int32) (T_st : (Nat → Int32)) (R : Int32) (hr : fX9_isHere K x1 T_st = some R) : Met l yX9_isHere wsX9_isHere rmX9_isHere (va_Pc ([.ref a_T, .int x1] : List Value) (PcW (dC, dI) (tysA cC cI cJ) sz [(a_T, .inr (9, [.int T_guests, .ref a_T_kinds, .int T_wishes, .ref a_T_wishKind, .ref a_T_wishA, .ref a_T_wishB, .int T_begins, .ref a_T_st, .int T_acts, .ref a_T_was, .int T_keeps, .ref a_T_kept, .int T_wokes, .ref a_T_woke, .ref a_T_text, .int T_texted, .int T_at, .ref a_T_told, .int T_readGuests, .ref a_T_readKinds, .ref a_T_readFloors, .int T_readWishes, .ref a_T_readWishKind, .ref a_T_readWishA, .ref a_T_readWishB, .int T_readBegins, .int T_here, .int T_stands, .int T_many, .int T_rounds, .ref a_T_come, .ref a_T_keptBy, .ref a_T_endsAt, .ref a_T_order, .ref a_T_time, .ref a_T_place])), (a_T_st, .inl (cI, 8, .inl T_st))])) (va_Qi (fun r (_ : Unit) => r = R) (fun _ => BW (dC, dI) (tysA cC cI cJ) (va_A [(a_T, .inr (9, [.int T_guests, .ref a_T_kinds, .int T_wishes, .ref a_T_wishKind, .ref a_T_wishA, .ref a_T_wishB, .int T_begins, .ref a_T_st, .int T_acts, .ref a_T_was, .int T_keeps, .ref a_T_kept, .int T_wokes, .ref a_T_woke, .ref a_T_text, .int T_texted, .int T_at, .ref a_T_told, .int T_readGuests, .ref a_T_readKinds, .ref a_T_readFloors, .int T_readWishes, .ref a_T_readWishKind, .ref a_T_readWishA, .ref a_T_readWishB, .int T_readBegins, .int T_here, .int T_stands, .int T_many, .int T_rounds, .ref a_T_come, .ref a_T_keptBy, .ref a_T_endsAt, .ref a_T_order, .ref a_T_time, .ref a_T_place])), (a_T_st, .inl (cI, 8, .inl T_st))] sz) [(a_T, .inr (9, [.int T_guests, .ref a_T_kinds, .int T_wishes, .ref a_T_wishKind, .ref a_T_wishA, .ref a_T_wishB, .int T_begins, .ref a_T_st, .int T_acts, .ref a_T_was, .int T_keeps, .ref a_T_kept, .int T_wokes, .ref a_T_woke, .ref a_T_text, .int T_texted, .int T_at, .ref a_T_told, .int T_readGuests, .ref a_T_readKinds, .ref a_T_readFloors, .int T_readWishes, .ref a_T_readWishKind, .ref a_T_readWishA, .ref a_T_readWishB, .int T_readBegins, .int T_here, .int T_stands, .int T_many, .int T_rounds, .ref a_T_come, .ref a_T_keptBy, .ref a_T_endsAt, .ref a_T_order, .ref a_T_time, .ref a_T_place])), (a_T_st, .inl (cI, 8, .inl T_st))]) (va_A [(a_T, .inr (9, [.int T_guests, .ref a_T_kinds, .int T_wishes, .ref a_T_wishKind, .ref a_T_wishA, .ref a_T_wishB, .int T_begins, .ref a_T_st, .int T_acts, .ref a_T_was, .int T_keeps, .ref a_T_kept, .int T_wokes, .ref a_T_woke, .ref a_T_text, .int T_texted, .int T_at, .ref a_T_told, .int T_readGuests, .ref a_T_readKinds, .ref a_T_readFloors, .int T_readWishes, .ref a_T_readWishKind, .ref a_T_readWishA, .ref a_T_readWishB, .int T_readBegins, .int T_here, .int T_stands, .int T_many, .int T_rounds, .ref a_T_come, .ref a_T_keptBy, .ref a_T_endsAt, .ref a_T_order, .ref a_T_time, .ref a_T_place])), (a_T_st, .inl (cI, 8, .inl T_st))] sz)) 0 0 (va_A [(a_T, .inr (9, [.int T_guests, .ref a_T_kinds, .int T_wishes, .ref a_T_wishKind, .ref a_T_wishA, .ref a_T_wishB, .int T_begins, .ref a_T_st, .int T_acts, .ref a_T_was, .int T_keeps, .ref a_T_kept, .int T_wokes, .ref a_T_woke, .ref a_T_text, .int T_texted, .int T_at, .ref a_T_told, .int T_readGuests, .ref a_T_readKinds, .ref a_T_readFloors, .int T_readWishes, .ref a_T_readWishKind, .ref a_T_readWishA, .ref a_T_readWishB, .int T_readBegins, .int T_here, .int T_stands, .int T_many, .int T_rounds, .ref a_T_come, .ref a_T_keptBy, .ref a_T_endsAt, .ref a_T_order, .ref a_T_time, .ref a_T_place])), (a_T_st, .inl (cI, 8, .inl T_st))] sz) := by
  refine Met.ofW (cc := cX9_isHere) (maxL := 2) (ret := (some .boolean)) (by decide) rfl ?_
  intro p e s m args below meth c s₁ B hml hv
  obtain ⟨rfl, hsz, hP, hK, hD0, hN⟩ := hv
  have hx := B.exec
  have hb := B.bytes
  have hrt := B.returns
  have hts := atoms_spec (ws := wsX9_isHere) B.pre
  have hown : s.vm.findClass RX9 = some m.cls := findClass_of_methodNamed B.named
  have hlocks := B.notSynchronized
  subst hsz
  have hD := hD0.self (sz := s.heap.size)
  generalize hAe : va_A [(a_T, .inr (9, [.int T_guests, .ref a_T_kinds, .int T_wishes, .ref a_T_wishKind, .ref a_T_wishA, .ref a_T_wishB, .int T_begins, .ref a_T_st, .int T_acts, .ref a_T_was, .int T_keeps, .ref a_T_kept, .int T_wokes, .ref a_T_woke, .ref a_T_text, .int T_texted, .int T_at, .ref a_T_told, .int T_readGuests, .ref a_T_readKinds, .ref a_T_readFloors, .int T_readWishes, .ref a_T_readWishKind, .ref a_T_readWishA, .ref a_T_readWishB, .int T_readBegins, .int T_here, .int T_stands, .int T_many, .int T_rounds, .ref a_T_come, .ref a_T_keptBy, .ref a_T_endsAt, .ref a_T_order, .ref a_T_time, .ref a_T_place])), (a_T_st, .inl (cI, 8, .inl T_st))] s.heap.size = A at hD ⊢
  have hA : ∀ q : Nat, s.heap.size ≤ q → A q := fun q h => by rw [← hAe]; exact Or.inr h
  have hS : va_S A s.heap s.heap [] := va_S.rf
  have hl := lv_entry ([.ref a_T, .int x1] : List Value) (n := 2) (Nat.le_of_ble_eq_true rfl)
  rw [lg_entry_eq]
  generalize (lg_sl ([.ref a_T, .int x1] : List Value) ++ List.replicate (2 - (lg_sl ([.ref a_T, .int x1] : List Value)).length) Slot.unset).toArray = ls at hl ⊢
  replace hl : lv_has ls 2 [(0, .ref a_T), (1, .int x1)] := hl
  obtain ⟨Q, hQ⟩ : ∃ Q, Q = MQ below (va_Qi (fun r (_ : Unit) => r = R) (fun _ => BW (dC, dI) (tysA cC cI cJ) A [(a_T, .inr (9, [.int T_guests, .ref a_T_kinds, .int T_wishes, .ref a_T_wishKind, .ref a_T_wishA, .ref a_T_wishB, .int T_begins, .ref a_T_st, .int T_acts, .ref a_T_was, .int T_keeps, .ref a_T_kept, .int T_wokes, .ref a_T_woke, .ref a_T_text, .int T_texted, .int T_at, .ref a_T_told, .int T_readGuests, .ref a_T_readKinds, .ref a_T_readFloors, .int T_readWishes, .ref a_T_readWishKind, .ref a_T_readWishA, .ref a_T_readWishB, .int T_readBegins, .int T_here, .int T_stands, .int T_many, .int T_rounds, .ref a_T_come, .ref a_T_keptBy, .ref a_T_endsAt, .ref a_T_order, .ref a_T_time, .ref a_T_place])), (a_T_st, .inl (cI, 8, .inl T_st))]) A) ([.ref a_T, .int x1] : List Value).toArray s 0 0 A := ⟨_, rfl⟩
  rw [← hQ]
  suffices hE : WG p l e rmX9_isHere s m ([.ref a_T, .int x1] : List Value).toArray below meth c 0 0 Q (dC, dI) A 0 2 [(a_T, .inr (9, [.int T_guests, .ref a_T_kinds, .int T_wishes, .ref a_T_wishKind, .ref a_T_wishA, .ref a_T_wishB, .int T_begins, .ref a_T_st, .int T_acts, .ref a_T_was, .int T_keeps, .ref a_T_kept, .int T_wokes, .ref a_T_woke, .ref a_T_text, .int T_texted, .int T_at, .ref a_T_told, .int T_readGuests, .ref a_T_readKinds, .ref a_T_readFloors, .int T_readWishes, .ref a_T_readWishKind, .ref a_T_readWishA, .ref a_T_readWishB, .int T_readBegins, .int T_here, .int T_stands, .int T_many, .int T_rounds, .ref a_T_come, .ref a_T_keptBy, .ref a_T_endsAt, .ref a_T_order, .ref a_T_time, .ref a_T_place])), (a_T_st, .inl (cI, 8, .inl T_st))] [(0, .ref a_T), (1, .int x1)] [] from hE _ _ _ hP hD hS hl
  clear hP hD hS hl hD0 hAe
  intro H locs ls hP hD hS hl
  unfold fX9_isHere at hr
  refine lv_aload_n hx hb dX9_isHere_0 rfl (lv_at hl 0 rfl) ?_
  refine va_get (D := (dC, dI)) (ci := 9) (v := .ref a_T_st) (C := RX9) (T := TX9) (N := 36) hx hb hts inX9_isHere_X9 hown hK hP 0 rfl rfl 7 (by decide) (hts _ mbX9_isHere_0) (fun _ h9 => h9) rfl dX9_isHere_1 ?_
  refine lv_iconst (v := 0) hx hb dX9_isHere_4 (by decide) ?_
  obtain ⟨g1, hr⟩ := gd_some hr
  refine va_iald hx hb hK hP 1 1 rfl rfl g1 dX9_isHere_5 ?_
  refine lv_iload_n hx hb dX9_isHere_6 rfl (lv_at hl 1 rfl) ?_
  obtain ⟨r, hc1, hr⟩ := bd1_some hr
  refine call_i (D := (dC, dI)) (tys := tysA cC cI cJ) (wc := []) (wr := [(a_T, .inr (9, [.int T_guests, .ref a_T_kinds, .int T_wishes, .ref a_T_wishKind, .ref a_T_wishA, .ref a_T_wishB, .int T_begins, .ref a_T_st, .int T_acts, .ref a_T_was, .int T_keeps, .ref a_T_kept, .int T_wokes, .ref a_T_woke, .ref a_T_text, .int T_texted, .int T_at, .ref a_T_told, .int T_readGuests, .ref a_T_readKinds, .ref a_T_readFloors, .int T_readWishes, .ref a_T_readWishKind, .ref a_T_readWishA, .ref a_T_readWishB, .int T_readBegins, .int T_here, .int T_stands, .int T_many, .int T_rounds, .ref a_T_come, .ref a_T_keptBy, .ref a_T_endsAt, .ref a_T_order, .ref a_T_time, .ref a_T_place])), (a_T_st, .inl (cI, 8, .inl T_st))]) (w1 := []) (wn := [(a_T, .inr (9, [.int T_guests, .ref a_T_kinds, .int T_wishes, .ref a_T_wishKind, .ref a_T_wishA, .ref a_T_wishB, .int T_begins, .ref a_T_st, .int T_acts, .ref a_T_was, .int T_keeps, .ref a_T_kept, .int T_wokes, .ref a_T_woke, .ref a_T_text, .int T_texted, .int T_at, .ref a_T_told, .int T_readGuests, .ref a_T_readKinds, .ref a_T_readFloors, .int T_readWishes, .ref a_T_readWishKind, .ref a_T_readWishA, .ref a_T_readWishB, .int T_readBegins, .int T_here, .int T_stands, .int T_many, .int T_rounds, .ref a_T_come, .ref a_T_keptBy, .ref a_T_endsAt, .ref a_T_order, .ref a_T_time, .ref a_T_place])), (a_T_st, .inl (cI, 8, .inl T_st))]) (r0 := r) hP hD hS hA [] [0, 1] [0, 1] rfl rfl (by decide +kernel) (by decide +kernel) rfl (by decide +kernel) (va_runS (As := [.int (T_st (0 : Int32).toNatClampNeg), .int x1]) (rest := []) ⟨hx, hb, hml, hown, hts⟩ (kX9_has l dC dI cC cI cJ H.size K (T_st (0 : Int32).toNatClampNeg) x1 r hc1) (va_cwS 2 hts gX9_isHere_X9_has rfl rfl rfl (by decide +kernel) ⟨Nat.le_of_ble_eq_true rfl, Nat.le_of_ble_eq_true rfl⟩) ⟨fbW, preW hP hD hK hN [] rfl (by decide +kernel)⟩ rfl rfl hl.1 rfl (lv_room (Nat.le_of_ble_eq_true rfl)) dX9_isHere_7 ⟨Nat.zero_le _, Nat.zero_le _⟩) (fun H locs hP hD hS => ?_)
  obtain ⟨g2, hr⟩ := gd_some hr
  have he := Option.some.inj hr
  subst he
  subst hQ
  exact ret_z hx hb hrt (vp_narZ g2) hK hP hD hS hlocks dX9_isHere_10
def fX9_write (K : Nat) (x1 : Int32) (T_texted : Int32) (T_text : (Nat → Int32)) : Option (Int32 × Int32 × (Nat → Int32)) :=
    bd1 (fX9_in K x1 32 126) fun r =>
    if (r : Int32) = 0 then (
    some ((-1), T_texted, T_text))
    else (
    if (T_texted : Int32) = 200 then (
    some ((-3), T_texted, T_text))
    else (
    gd (¬ ((T_texted : Int32) < 0 ∨ 200 ≤ T_texted.toNatClampNeg)) (
    nm (upd T_text T_texted.toNatClampNeg x1) fun T_text_1 =>
    nm (T_texted + 1) fun T_texted_1 =>
    some (T_texted_1, T_texted_1, T_text_1))))
theorem mbX9_write_0 : Cond.fieldLink RX9 108 "BootsAtDawnModel" "texted" "I" ∈ wsX9_write := List.mem_of_getElem? (i := 1) rfl
theorem inX9_write_X9 : ∀ w ∈ u_ws RX9 TX9 36, w ∈ wsX9_write := fun _ h => (List.mem_cons_of_mem _ (List.mem_append_right _ h))
theorem mbX9_write_2 : Cond.fieldLink RX9 34 "BootsAtDawnModel" "text" "[I" ∈ wsX9_write := List.mem_of_getElem? (i := 2) rfl
abbrev rmX9_write : Room := { frames := 1, cells := 0, slots := 0, locals := 22 }
set_option maxHeartbeats 8000000 in
set_option maxRecDepth 100000 in
theorem kX9_write (l : Launch) (dC : Nat → ClassId) (dI : Nat → Nat → Nat) (cC cI cJ : ClassId) (sz : Nat) (K : Nat) (a_T a_T_kinds a_T_wishKind a_T_wishA a_T_wishB a_T_st a_T_was a_T_kept a_T_woke a_T_text a_T_told a_T_readKinds a_T_readFloors a_T_readWishKind a_T_readWishA a_T_readWishB a_T_come a_T_keptBy a_T_endsAt a_T_order a_T_time a_T_place : Nat) (x1 : Int32) (T_guests : Int32) (T_wishes : Int32) (T_begins : Int32) (T_acts : Int32) (T_keeps : Int32) (T_wokes : Int32) (T_texted : Int32) (T_at : Int32) (T_readGuests : Int32) (T_readWishes : Int32) (T_readBegins : Int32) (T_here : Int32) (T_stands : Int32) (T_many : Int32) (T_rounds : Int32) (T_text : (Nat → Int32)) (R : Int32 × Int32 × (Nat → Int32)) (hr : fX9_write K x1 T_texted T_text = some R) : Met l yX9_write wsX9_write rmX9_write (va_Pc ([.ref a_T, .int x1] : List Value) (PcW (dC, dI) (tysA cC cI cJ) sz [(a_T, .inr (9, [.int T_guests, .ref a_T_kinds, .int T_wishes, .ref a_T_wishKind, .ref a_T_wishA, .ref a_T_wishB, .int T_begins, .ref a_T_st, .int T_acts, .ref a_T_was, .int T_keeps, .ref a_T_kept, .int T_wokes, .ref a_T_woke, .ref a_T_text, .int T_texted, .int T_at, .ref a_T_told, .int T_readGuests, .ref a_T_readKinds, .ref a_T_readFloors, .int T_readWishes, .ref a_T_readWishKind, .ref a_T_readWishA, .ref a_T_readWishB, .int T_readBegins, .int T_here, .int T_stands, .int T_many, .int T_rounds, .ref a_T_come, .ref a_T_keptBy, .ref a_T_endsAt, .ref a_T_order, .ref a_T_time, .ref a_T_place])), (a_T_text, .inl (cI, 200, .inl T_text))])) (va_Qi (fun r (_ : Unit) => r = R.1) (fun _ => BW (dC, dI) (tysA cC cI cJ) (va_A [(a_T, .inr (9, [.int T_guests, .ref a_T_kinds, .int T_wishes, .ref a_T_wishKind, .ref a_T_wishA, .ref a_T_wishB, .int T_begins, .ref a_T_st, .int T_acts, .ref a_T_was, .int T_keeps, .ref a_T_kept, .int T_wokes, .ref a_T_woke, .ref a_T_text, .int T_texted, .int T_at, .ref a_T_told, .int T_readGuests, .ref a_T_readKinds, .ref a_T_readFloors, .int T_readWishes, .ref a_T_readWishKind, .ref a_T_readWishA, .ref a_T_readWishB, .int T_readBegins, .int T_here, .int T_stands, .int T_many, .int T_rounds, .ref a_T_come, .ref a_T_keptBy, .ref a_T_endsAt, .ref a_T_order, .ref a_T_time, .ref a_T_place])), (a_T_text, .inl (cI, 200, .inl T_text))] sz) [(a_T, .inr (9, [.int T_guests, .ref a_T_kinds, .int T_wishes, .ref a_T_wishKind, .ref a_T_wishA, .ref a_T_wishB, .int T_begins, .ref a_T_st, .int T_acts, .ref a_T_was, .int T_keeps, .ref a_T_kept, .int T_wokes, .ref a_T_woke, .ref a_T_text, .int R.2.1, .int T_at, .ref a_T_told, .int T_readGuests, .ref a_T_readKinds, .ref a_T_readFloors, .int T_readWishes, .ref a_T_readWishKind, .ref a_T_readWishA, .ref a_T_readWishB, .int T_readBegins, .int T_here, .int T_stands, .int T_many, .int T_rounds, .ref a_T_come, .ref a_T_keptBy, .ref a_T_endsAt, .ref a_T_order, .ref a_T_time, .ref a_T_place])), (a_T_text, .inl (cI, 200, .inl R.2.2))]) (va_A [(a_T, .inr (9, [.int T_guests, .ref a_T_kinds, .int T_wishes, .ref a_T_wishKind, .ref a_T_wishA, .ref a_T_wishB, .int T_begins, .ref a_T_st, .int T_acts, .ref a_T_was, .int T_keeps, .ref a_T_kept, .int T_wokes, .ref a_T_woke, .ref a_T_text, .int T_texted, .int T_at, .ref a_T_told, .int T_readGuests, .ref a_T_readKinds, .ref a_T_readFloors, .int T_readWishes, .ref a_T_readWishKind, .ref a_T_readWishA, .ref a_T_readWishB, .int T_readBegins, .int T_here, .int T_stands, .int T_many, .int T_rounds, .ref a_T_come, .ref a_T_keptBy, .ref a_T_endsAt, .ref a_T_order, .ref a_T_time, .ref a_T_place])), (a_T_text, .inl (cI, 200, .inl T_text))] sz)) 0 0 (va_A [(a_T, .inr (9, [.int T_guests, .ref a_T_kinds, .int T_wishes, .ref a_T_wishKind, .ref a_T_wishA, .ref a_T_wishB, .int T_begins, .ref a_T_st, .int T_acts, .ref a_T_was, .int T_keeps, .ref a_T_kept, .int T_wokes, .ref a_T_woke, .ref a_T_text, .int T_texted, .int T_at, .ref a_T_told, .int T_readGuests, .ref a_T_readKinds, .ref a_T_readFloors, .int T_readWishes, .ref a_T_readWishKind, .ref a_T_readWishA, .ref a_T_readWishB, .int T_readBegins, .int T_here, .int T_stands, .int T_many, .int T_rounds, .ref a_T_come, .ref a_T_keptBy, .ref a_T_endsAt, .ref a_T_order, .ref a_T_time, .ref a_T_place])), (a_T_text, .inl (cI, 200, .inl T_text))] sz) := by
  refine Met.ofW (cc := cX9_write) (maxL := 2) (ret := (some .int)) (by decide) rfl ?_
  intro p e s m args below meth c s₁ B hml hv
  obtain ⟨rfl, hsz, hP, hK, hD0, hN⟩ := hv
  have hx := B.exec
  have hb := B.bytes
  have hrt := B.returns
  have hts := atoms_spec (ws := wsX9_write) B.pre
  have hown : s.vm.findClass RX9 = some m.cls := findClass_of_methodNamed B.named
  have hlocks := B.notSynchronized
  subst hsz
  have hD := hD0.self (sz := s.heap.size)
  generalize hAe : va_A [(a_T, .inr (9, [.int T_guests, .ref a_T_kinds, .int T_wishes, .ref a_T_wishKind, .ref a_T_wishA, .ref a_T_wishB, .int T_begins, .ref a_T_st, .int T_acts, .ref a_T_was, .int T_keeps, .ref a_T_kept, .int T_wokes, .ref a_T_woke, .ref a_T_text, .int T_texted, .int T_at, .ref a_T_told, .int T_readGuests, .ref a_T_readKinds, .ref a_T_readFloors, .int T_readWishes, .ref a_T_readWishKind, .ref a_T_readWishA, .ref a_T_readWishB, .int T_readBegins, .int T_here, .int T_stands, .int T_many, .int T_rounds, .ref a_T_come, .ref a_T_keptBy, .ref a_T_endsAt, .ref a_T_order, .ref a_T_time, .ref a_T_place])), (a_T_text, .inl (cI, 200, .inl T_text))] s.heap.size = A at hD ⊢
  have hA : ∀ q : Nat, s.heap.size ≤ q → A q := fun q h => by rw [← hAe]; exact Or.inr h
  have hS : va_S A s.heap s.heap [] := va_S.rf
  have hl := lv_entry ([.ref a_T, .int x1] : List Value) (n := 2) (Nat.le_of_ble_eq_true rfl)
  rw [lg_entry_eq]
  generalize (lg_sl ([.ref a_T, .int x1] : List Value) ++ List.replicate (2 - (lg_sl ([.ref a_T, .int x1] : List Value)).length) Slot.unset).toArray = ls at hl ⊢
  replace hl : lv_has ls 2 [(0, .ref a_T), (1, .int x1)] := hl
  obtain ⟨Q, hQ⟩ : ∃ Q, Q = MQ below (va_Qi (fun r (_ : Unit) => r = R.1) (fun _ => BW (dC, dI) (tysA cC cI cJ) A [(a_T, .inr (9, [.int T_guests, .ref a_T_kinds, .int T_wishes, .ref a_T_wishKind, .ref a_T_wishA, .ref a_T_wishB, .int T_begins, .ref a_T_st, .int T_acts, .ref a_T_was, .int T_keeps, .ref a_T_kept, .int T_wokes, .ref a_T_woke, .ref a_T_text, .int R.2.1, .int T_at, .ref a_T_told, .int T_readGuests, .ref a_T_readKinds, .ref a_T_readFloors, .int T_readWishes, .ref a_T_readWishKind, .ref a_T_readWishA, .ref a_T_readWishB, .int T_readBegins, .int T_here, .int T_stands, .int T_many, .int T_rounds, .ref a_T_come, .ref a_T_keptBy, .ref a_T_endsAt, .ref a_T_order, .ref a_T_time, .ref a_T_place])), (a_T_text, .inl (cI, 200, .inl R.2.2))]) A) ([.ref a_T, .int x1] : List Value).toArray s 0 0 A := ⟨_, rfl⟩
  rw [← hQ]
  suffices hE : WG p l e rmX9_write s m ([.ref a_T, .int x1] : List Value).toArray below meth c 0 0 Q (dC, dI) A 0 2 [(a_T, .inr (9, [.int T_guests, .ref a_T_kinds, .int T_wishes, .ref a_T_wishKind, .ref a_T_wishA, .ref a_T_wishB, .int T_begins, .ref a_T_st, .int T_acts, .ref a_T_was, .int T_keeps, .ref a_T_kept, .int T_wokes, .ref a_T_woke, .ref a_T_text, .int T_texted, .int T_at, .ref a_T_told, .int T_readGuests, .ref a_T_readKinds, .ref a_T_readFloors, .int T_readWishes, .ref a_T_readWishKind, .ref a_T_readWishA, .ref a_T_readWishB, .int T_readBegins, .int T_here, .int T_stands, .int T_many, .int T_rounds, .ref a_T_come, .ref a_T_keptBy, .ref a_T_endsAt, .ref a_T_order, .ref a_T_time, .ref a_T_place])), (a_T_text, .inl (cI, 200, .inl T_text))] [(0, .ref a_T), (1, .int x1)] [] from hE _ _ _ hP hD hS hl
  clear hP hD hS hl hD0 hAe
  intro H locs ls hP hD hS hl
  unfold fX9_write at hr
  refine lv_iload_n hx hb dX9_write_0 rfl (lv_at hl 1 rfl) ?_
  refine lv_bipush (v := 32) hx hb dX9_write_1 (by decide) ?_
  refine lv_bipush (v := 126) hx hb dX9_write_3 (by decide) ?_
  obtain ⟨r, hc1, hr⟩ := bd1_some hr
  refine call_i (D := (dC, dI)) (tys := tysA cC cI cJ) (wc := []) (wr := [(a_T, .inr (9, [.int T_guests, .ref a_T_kinds, .int T_wishes, .ref a_T_wishKind, .ref a_T_wishA, .ref a_T_wishB, .int T_begins, .ref a_T_st, .int T_acts, .ref a_T_was, .int T_keeps, .ref a_T_kept, .int T_wokes, .ref a_T_woke, .ref a_T_text, .int T_texted, .int T_at, .ref a_T_told, .int T_readGuests, .ref a_T_readKinds, .ref a_T_readFloors, .int T_readWishes, .ref a_T_readWishKind, .ref a_T_readWishA, .ref a_T_readWishB, .int T_readBegins, .int T_here, .int T_stands, .int T_many, .int T_rounds, .ref a_T_come, .ref a_T_keptBy, .ref a_T_endsAt, .ref a_T_order, .ref a_T_time, .ref a_T_place])), (a_T_text, .inl (cI, 200, .inl T_text))]) (w1 := []) (wn := [(a_T, .inr (9, [.int T_guests, .ref a_T_kinds, .int T_wishes, .ref a_T_wishKind, .ref a_T_wishA, .ref a_T_wishB, .int T_begins, .ref a_T_st, .int T_acts, .ref a_T_was, .int T_keeps, .ref a_T_kept, .int T_wokes, .ref a_T_woke, .ref a_T_text, .int T_texted, .int T_at, .ref a_T_told, .int T_readGuests, .ref a_T_readKinds, .ref a_T_readFloors, .int T_readWishes, .ref a_T_readWishKind, .ref a_T_readWishA, .ref a_T_readWishB, .int T_readBegins, .int T_here, .int T_stands, .int T_many, .int T_rounds, .ref a_T_come, .ref a_T_keptBy, .ref a_T_endsAt, .ref a_T_order, .ref a_T_time, .ref a_T_place])), (a_T_text, .inl (cI, 200, .inl T_text))]) (r0 := r) hP hD hS hA [] [0, 1] [0, 1] rfl rfl (by decide +kernel) (by decide +kernel) rfl (by decide +kernel) (va_runS (As := [.int x1, .int 32, .int 126]) (rest := []) ⟨hx, hb, hml, hown, hts⟩ (kX9_in l dC dI cC cI cJ H.size K x1 32 126 r hc1) (va_cwS 3 hts gX9_write_X9_in rfl rfl rfl (by decide +kernel) ⟨Nat.le_of_ble_eq_true rfl, Nat.le_of_ble_eq_true rfl⟩) ⟨fbW, preW hP hD hK hN [] rfl (by decide +kernel)⟩ rfl rfl hl.1 rfl (lv_room (Nat.le_of_ble_eq_true rfl)) dX9_write_5 ⟨Nat.zero_le _, Nat.zero_le _⟩) (fun H locs hP hD hS => ?_)
  refine lv_if_ne (tgt := 13) hx hb dX9_write_8 (by decide) (fun c1 => ?_) (fun c1 => ?_)
  · replace hr := it_f hr c1
    refine lv_aload_n hx hb dX9_write_13 rfl (lv_at hl 0 rfl) ?_
    refine va_get (D := (dC, dI)) (ci := 9) (v := .int T_texted) (C := RX9) (T := TX9) (N := 36) hx hb hts inX9_write_X9 hown hK hP 0 rfl rfl 15 (by decide) (hts _ mbX9_write_0) (fun _ h9 => h9) rfl dX9_write_14 ?_
    refine lv_sipush (v := 200) hx hb dX9_write_17 (by decide) ?_
    refine lv_icmp_ne (tgt := 26) hx hb dX9_write_20 (by decide) (fun c2 => ?_) (fun c2 => ?_)
    · replace hr := it_f hr c2
      refine lv_aload_n hx hb dX9_write_26 rfl (lv_at hl 0 rfl) ?_
      refine va_get (D := (dC, dI)) (ci := 9) (v := .ref a_T_text) (C := RX9) (T := TX9) (N := 36) hx hb hts inX9_write_X9 hown hK hP 0 rfl rfl 14 (by decide) (hts _ mbX9_write_2) (fun _ h9 => h9) rfl dX9_write_27 ?_
      refine lv_aload_n hx hb dX9_write_30 rfl (lv_at hl 0 rfl) ?_
      refine va_get (D := (dC, dI)) (ci := 9) (v := .int T_texted) (C := RX9) (T := TX9) (N := 36) hx hb hts inX9_write_X9 hown hK hP 0 rfl rfl 15 (by decide) (hts _ mbX9_write_0) (fun _ h9 => h9) rfl dX9_write_31 ?_
      refine lv_iload_n hx hb dX9_write_34 rfl (lv_at hl 1 rfl) ?_
      obtain ⟨g1, hr⟩ := gd_some hr
      obtain ⟨T_text_1, e1, hr⟩ := nm_el hr
      refine va_iast hx hb hK hP hD hS 1 1 rfl rfl g1 dX9_write_35 (fun H locs hP hD hS => ?_)
      rw [← e1] at hP hD
      replace hP : va_P (dC, dI) vwCl [(a_T, .inr (9, [.int T_guests, .ref a_T_kinds, .int T_wishes, .ref a_T_wishKind, .ref a_T_wishA, .ref a_T_wishB, .int T_begins, .ref a_T_st, .int T_acts, .ref a_T_was, .int T_keeps, .ref a_T_kept, .int T_wokes, .ref a_T_woke, .ref a_T_text, .int T_texted, .int T_at, .ref a_T_told, .int T_readGuests, .ref a_T_readKinds, .ref a_T_readFloors, .int T_readWishes, .ref a_T_readWishKind, .ref a_T_readWishA, .ref a_T_readWishB, .int T_readBegins, .int T_here, .int T_stands, .int T_many, .int T_rounds, .ref a_T_come, .ref a_T_keptBy, .ref a_T_endsAt, .ref a_T_order, .ref a_T_time, .ref a_T_place])), (a_T_text, .inl (cI, 200, .inl T_text_1))] H := hP
      replace hD : va_D A [(a_T, .inr (9, [.int T_guests, .ref a_T_kinds, .int T_wishes, .ref a_T_wishKind, .ref a_T_wishA, .ref a_T_wishB, .int T_begins, .ref a_T_st, .int T_acts, .ref a_T_was, .int T_keeps, .ref a_T_kept, .int T_wokes, .ref a_T_woke, .ref a_T_text, .int T_texted, .int T_at, .ref a_T_told, .int T_readGuests, .ref a_T_readKinds, .ref a_T_readFloors, .int T_readWishes, .ref a_T_readWishKind, .ref a_T_readWishA, .ref a_T_readWishB, .int T_readBegins, .int T_here, .int T_stands, .int T_many, .int T_rounds, .ref a_T_come, .ref a_T_keptBy, .ref a_T_endsAt, .ref a_T_order, .ref a_T_time, .ref a_T_place])), (a_T_text, .inl (cI, 200, .inl T_text_1))] := hD
      refine lv_aload_n hx hb dX9_write_36 rfl (lv_at hl 0 rfl) ?_
      refine lv_dup hx hb dX9_write_37 rfl ?_
      refine va_get (D := (dC, dI)) (ci := 9) (v := .int T_texted) (C := RX9) (T := TX9) (N := 36) hx hb hts inX9_write_X9 hown hK hP 0 rfl rfl 15 (by decide) (hts _ mbX9_write_0) (fun _ h9 => h9) rfl dX9_write_38 ?_
      refine lv_iconst (v := 1) hx hb dX9_write_41 (by decide) ?_
      refine lv_iadd hx hb dX9_write_42 ?_
      obtain ⟨T_texted_1, e2, hr⟩ := nm_el hr
      refine lv_nmi e2 ?_
      refine va_put (D := (dC, dI)) (ci := 9) (v := .int T_texted_1) (ty := .int) (C := RX9) (T := TX9) (N := 36) hx hb hts inX9_write_X9 tyX9 tyX9_ok nmX9 hown hK hP hD hS 0 rfl rfl 15 (by decide) (hts _ mbX9_write_0) (fun _ h9 => h9) rfl (by decide +kernel) rfl rfl (Nat.le_of_ble_eq_true rfl) dX9_write_43 (fun H locs hP hD hS => ?_)
      replace hP : va_P (dC, dI) vwCl [(a_T, .inr (9, [.int T_guests, .ref a_T_kinds, .int T_wishes, .ref a_T_wishKind, .ref a_T_wishA, .ref a_T_wishB, .int T_begins, .ref a_T_st, .int T_acts, .ref a_T_was, .int T_keeps, .ref a_T_kept, .int T_wokes, .ref a_T_woke, .ref a_T_text, .int T_texted_1, .int T_at, .ref a_T_told, .int T_readGuests, .ref a_T_readKinds, .ref a_T_readFloors, .int T_readWishes, .ref a_T_readWishKind, .ref a_T_readWishA, .ref a_T_readWishB, .int T_readBegins, .int T_here, .int T_stands, .int T_many, .int T_rounds, .ref a_T_come, .ref a_T_keptBy, .ref a_T_endsAt, .ref a_T_order, .ref a_T_time, .ref a_T_place])), (a_T_text, .inl (cI, 200, .inl T_text_1))] H := hP
      replace hD : va_D A [(a_T, .inr (9, [.int T_guests, .ref a_T_kinds, .int T_wishes, .ref a_T_wishKind, .ref a_T_wishA, .ref a_T_wishB, .int T_begins, .ref a_T_st, .int T_acts, .ref a_T_was, .int T_keeps, .ref a_T_kept, .int T_wokes, .ref a_T_woke, .ref a_T_text, .int T_texted_1, .int T_at, .ref a_T_told, .int T_readGuests, .ref a_T_readKinds, .ref a_T_readFloors, .int T_readWishes, .ref a_T_readWishKind, .ref a_T_readWishA, .ref a_T_readWishB, .int T_readBegins, .int T_here, .int T_stands, .int T_many, .int T_rounds, .ref a_T_come, .ref a_T_keptBy, .ref a_T_endsAt, .ref a_T_order, .ref a_T_time, .ref a_T_place])), (a_T_text, .inl (cI, 200, .inl T_text_1))] := hD
      refine lv_aload_n hx hb dX9_write_46 rfl (lv_at hl 0 rfl) ?_
      refine va_get (D := (dC, dI)) (ci := 9) (v := .int T_texted_1) (C := RX9) (T := TX9) (N := 36) hx hb hts inX9_write_X9 hown hK hP 0 rfl rfl 15 (by decide) (hts _ mbX9_write_0) (fun _ h9 => h9) rfl dX9_write_47 ?_
      have he := Option.some.inj hr
      subst he
      subst hQ
      exact ret_i hx hb hrt hK hP hD hS hlocks dX9_write_50
    · replace hr := it_t hr c2
      refine lv_bipush (v := (-3)) hx hb dX9_write_23 (by decide) ?_
      have he := Option.some.inj hr
      subst he
      subst hQ
      exact ret_i hx hb hrt hK hP hD hS hlocks dX9_write_25
  · replace hr := it_t hr c1
    refine lv_iconst (v := (-1)) hx hb dX9_write_11 (by decide) ?_
    have he := Option.some.inj hr
    subst he
    subst hQ
    exact ret_i hx hb hrt hK hP hD hS hlocks dX9_write_12
def fX9_wipe (K : Nat) (T_texted : Int32) : Option (Int32 × Int32) :=
    some (T_texted, 0)
theorem mbX9_wipe_0 : Cond.fieldLink RX9 108 "BootsAtDawnModel" "texted" "I" ∈ wsX9_wipe := List.mem_of_getElem? (i := 1) rfl
theorem inX9_wipe_X9 : ∀ w ∈ u_ws RX9 TX9 36, w ∈ wsX9_wipe := fun _ h => (List.mem_cons_of_mem _ (List.mem_append_right _ h))
abbrev rmX9_wipe : Room := { frames := 0, cells := 0, slots := 0, locals := 0 }
set_option maxHeartbeats 8000000 in
set_option maxRecDepth 100000 in
theorem kX9_wipe (l : Launch) (dC : Nat → ClassId) (dI : Nat → Nat → Nat) (cC cI cJ : ClassId) (sz : Nat) (K : Nat) (a_T a_T_kinds a_T_wishKind a_T_wishA a_T_wishB a_T_st a_T_was a_T_kept a_T_woke a_T_text a_T_told a_T_readKinds a_T_readFloors a_T_readWishKind a_T_readWishA a_T_readWishB a_T_come a_T_keptBy a_T_endsAt a_T_order a_T_time a_T_place : Nat) (T_guests : Int32) (T_wishes : Int32) (T_begins : Int32) (T_acts : Int32) (T_keeps : Int32) (T_wokes : Int32) (T_texted : Int32) (T_at : Int32) (T_readGuests : Int32) (T_readWishes : Int32) (T_readBegins : Int32) (T_here : Int32) (T_stands : Int32) (T_many : Int32) (T_rounds : Int32) (R : Int32 × Int32) (hr : fX9_wipe K T_texted = some R) : Met l yX9_wipe wsX9_wipe rmX9_wipe (va_Pc ([.ref a_T] : List Value) (PcW (dC, dI) (tysA cC cI cJ) sz [(a_T, .inr (9, [.int T_guests, .ref a_T_kinds, .int T_wishes, .ref a_T_wishKind, .ref a_T_wishA, .ref a_T_wishB, .int T_begins, .ref a_T_st, .int T_acts, .ref a_T_was, .int T_keeps, .ref a_T_kept, .int T_wokes, .ref a_T_woke, .ref a_T_text, .int T_texted, .int T_at, .ref a_T_told, .int T_readGuests, .ref a_T_readKinds, .ref a_T_readFloors, .int T_readWishes, .ref a_T_readWishKind, .ref a_T_readWishA, .ref a_T_readWishB, .int T_readBegins, .int T_here, .int T_stands, .int T_many, .int T_rounds, .ref a_T_come, .ref a_T_keptBy, .ref a_T_endsAt, .ref a_T_order, .ref a_T_time, .ref a_T_place]))])) (va_Qi (fun r (_ : Unit) => r = R.1) (fun _ => BW (dC, dI) (tysA cC cI cJ) (va_A [(a_T, .inr (9, [.int T_guests, .ref a_T_kinds, .int T_wishes, .ref a_T_wishKind, .ref a_T_wishA, .ref a_T_wishB, .int T_begins, .ref a_T_st, .int T_acts, .ref a_T_was, .int T_keeps, .ref a_T_kept, .int T_wokes, .ref a_T_woke, .ref a_T_text, .int T_texted, .int T_at, .ref a_T_told, .int T_readGuests, .ref a_T_readKinds, .ref a_T_readFloors, .int T_readWishes, .ref a_T_readWishKind, .ref a_T_readWishA, .ref a_T_readWishB, .int T_readBegins, .int T_here, .int T_stands, .int T_many, .int T_rounds, .ref a_T_come, .ref a_T_keptBy, .ref a_T_endsAt, .ref a_T_order, .ref a_T_time, .ref a_T_place]))] sz) [(a_T, .inr (9, [.int T_guests, .ref a_T_kinds, .int T_wishes, .ref a_T_wishKind, .ref a_T_wishA, .ref a_T_wishB, .int T_begins, .ref a_T_st, .int T_acts, .ref a_T_was, .int T_keeps, .ref a_T_kept, .int T_wokes, .ref a_T_woke, .ref a_T_text, .int R.2, .int T_at, .ref a_T_told, .int T_readGuests, .ref a_T_readKinds, .ref a_T_readFloors, .int T_readWishes, .ref a_T_readWishKind, .ref a_T_readWishA, .ref a_T_readWishB, .int T_readBegins, .int T_here, .int T_stands, .int T_many, .int T_rounds, .ref a_T_come, .ref a_T_keptBy, .ref a_T_endsAt, .ref a_T_order, .ref a_T_time, .ref a_T_place]))]) (va_A [(a_T, .inr (9, [.int T_guests, .ref a_T_kinds, .int T_wishes, .ref a_T_wishKind, .ref a_T_wishA, .ref a_T_wishB, .int T_begins, .ref a_T_st, .int T_acts, .ref a_T_was, .int T_keeps, .ref a_T_kept, .int T_wokes, .ref a_T_woke, .ref a_T_text, .int T_texted, .int T_at, .ref a_T_told, .int T_readGuests, .ref a_T_readKinds, .ref a_T_readFloors, .int T_readWishes, .ref a_T_readWishKind, .ref a_T_readWishA, .ref a_T_readWishB, .int T_readBegins, .int T_here, .int T_stands, .int T_many, .int T_rounds, .ref a_T_come, .ref a_T_keptBy, .ref a_T_endsAt, .ref a_T_order, .ref a_T_time, .ref a_T_place]))] sz)) 0 0 (va_A [(a_T, .inr (9, [.int T_guests, .ref a_T_kinds, .int T_wishes, .ref a_T_wishKind, .ref a_T_wishA, .ref a_T_wishB, .int T_begins, .ref a_T_st, .int T_acts, .ref a_T_was, .int T_keeps, .ref a_T_kept, .int T_wokes, .ref a_T_woke, .ref a_T_text, .int T_texted, .int T_at, .ref a_T_told, .int T_readGuests, .ref a_T_readKinds, .ref a_T_readFloors, .int T_readWishes, .ref a_T_readWishKind, .ref a_T_readWishA, .ref a_T_readWishB, .int T_readBegins, .int T_here, .int T_stands, .int T_many, .int T_rounds, .ref a_T_come, .ref a_T_keptBy, .ref a_T_endsAt, .ref a_T_order, .ref a_T_time, .ref a_T_place]))] sz) := by
  refine Met.ofW (cc := cX9_wipe) (maxL := 2) (ret := (some .int)) (by decide) rfl ?_
  intro p e s m args below meth c s₁ B hml hv
  obtain ⟨rfl, hsz, hP, hK, hD0, hN⟩ := hv
  have hx := B.exec
  have hb := B.bytes
  have hrt := B.returns
  have hts := atoms_spec (ws := wsX9_wipe) B.pre
  have hown : s.vm.findClass RX9 = some m.cls := findClass_of_methodNamed B.named
  have hlocks := B.notSynchronized
  subst hsz
  have hD := hD0.self (sz := s.heap.size)
  generalize hAe : va_A [(a_T, .inr (9, [.int T_guests, .ref a_T_kinds, .int T_wishes, .ref a_T_wishKind, .ref a_T_wishA, .ref a_T_wishB, .int T_begins, .ref a_T_st, .int T_acts, .ref a_T_was, .int T_keeps, .ref a_T_kept, .int T_wokes, .ref a_T_woke, .ref a_T_text, .int T_texted, .int T_at, .ref a_T_told, .int T_readGuests, .ref a_T_readKinds, .ref a_T_readFloors, .int T_readWishes, .ref a_T_readWishKind, .ref a_T_readWishA, .ref a_T_readWishB, .int T_readBegins, .int T_here, .int T_stands, .int T_many, .int T_rounds, .ref a_T_come, .ref a_T_keptBy, .ref a_T_endsAt, .ref a_T_order, .ref a_T_time, .ref a_T_place]))] s.heap.size = A at hD ⊢
  have hA : ∀ q : Nat, s.heap.size ≤ q → A q := fun q h => by rw [← hAe]; exact Or.inr h
  have hS : va_S A s.heap s.heap [] := va_S.rf
  have hl := lv_entry ([.ref a_T] : List Value) (n := 2) (Nat.le_of_ble_eq_true rfl)
  rw [lg_entry_eq]
  generalize (lg_sl ([.ref a_T] : List Value) ++ List.replicate (2 - (lg_sl ([.ref a_T] : List Value)).length) Slot.unset).toArray = ls at hl ⊢
  replace hl : lv_has ls 2 [(0, .ref a_T)] := hl
  obtain ⟨Q, hQ⟩ : ∃ Q, Q = MQ below (va_Qi (fun r (_ : Unit) => r = R.1) (fun _ => BW (dC, dI) (tysA cC cI cJ) A [(a_T, .inr (9, [.int T_guests, .ref a_T_kinds, .int T_wishes, .ref a_T_wishKind, .ref a_T_wishA, .ref a_T_wishB, .int T_begins, .ref a_T_st, .int T_acts, .ref a_T_was, .int T_keeps, .ref a_T_kept, .int T_wokes, .ref a_T_woke, .ref a_T_text, .int R.2, .int T_at, .ref a_T_told, .int T_readGuests, .ref a_T_readKinds, .ref a_T_readFloors, .int T_readWishes, .ref a_T_readWishKind, .ref a_T_readWishA, .ref a_T_readWishB, .int T_readBegins, .int T_here, .int T_stands, .int T_many, .int T_rounds, .ref a_T_come, .ref a_T_keptBy, .ref a_T_endsAt, .ref a_T_order, .ref a_T_time, .ref a_T_place]))]) A) ([.ref a_T] : List Value).toArray s 0 0 A := ⟨_, rfl⟩
  rw [← hQ]
  suffices hE : WG p l e rmX9_wipe s m ([.ref a_T] : List Value).toArray below meth c 0 0 Q (dC, dI) A 0 2 [(a_T, .inr (9, [.int T_guests, .ref a_T_kinds, .int T_wishes, .ref a_T_wishKind, .ref a_T_wishA, .ref a_T_wishB, .int T_begins, .ref a_T_st, .int T_acts, .ref a_T_was, .int T_keeps, .ref a_T_kept, .int T_wokes, .ref a_T_woke, .ref a_T_text, .int T_texted, .int T_at, .ref a_T_told, .int T_readGuests, .ref a_T_readKinds, .ref a_T_readFloors, .int T_readWishes, .ref a_T_readWishKind, .ref a_T_readWishA, .ref a_T_readWishB, .int T_readBegins, .int T_here, .int T_stands, .int T_many, .int T_rounds, .ref a_T_come, .ref a_T_keptBy, .ref a_T_endsAt, .ref a_T_order, .ref a_T_time, .ref a_T_place]))] [(0, .ref a_T)] [] from hE _ _ _ hP hD hS hl
  clear hP hD hS hl hD0 hAe
  intro H locs ls hP hD hS hl
  unfold fX9_wipe at hr
  refine lv_aload_n hx hb dX9_wipe_0 rfl (lv_at hl 0 rfl) ?_
  refine va_get (D := (dC, dI)) (ci := 9) (v := .int T_texted) (C := RX9) (T := TX9) (N := 36) hx hb hts inX9_wipe_X9 hown hK hP 0 rfl rfl 15 (by decide) (hts _ mbX9_wipe_0) (fun _ h9 => h9) rfl dX9_wipe_1 ?_
  refine lv_istore_n (lv' := [(1, .int T_texted), (0, .ref a_T)]) hx hb dX9_wipe_4 rfl hl (by decide) rfl (fun ls hl => ?_)
  refine lv_aload_n hx hb dX9_wipe_5 rfl (lv_at hl 1 rfl) ?_
  refine lv_iconst (v := 0) hx hb dX9_wipe_6 (by decide) ?_
  refine va_put (D := (dC, dI)) (ci := 9) (v := .int 0) (ty := .int) (C := RX9) (T := TX9) (N := 36) hx hb hts inX9_wipe_X9 tyX9 tyX9_ok nmX9 hown hK hP hD hS 0 rfl rfl 15 (by decide) (hts _ mbX9_wipe_0) (fun _ h9 => h9) rfl (by decide +kernel) rfl rfl (Nat.le_of_ble_eq_true rfl) dX9_wipe_7 (fun H locs hP hD hS => ?_)
  replace hP : va_P (dC, dI) vwCl [(a_T, .inr (9, [.int T_guests, .ref a_T_kinds, .int T_wishes, .ref a_T_wishKind, .ref a_T_wishA, .ref a_T_wishB, .int T_begins, .ref a_T_st, .int T_acts, .ref a_T_was, .int T_keeps, .ref a_T_kept, .int T_wokes, .ref a_T_woke, .ref a_T_text, .int 0, .int T_at, .ref a_T_told, .int T_readGuests, .ref a_T_readKinds, .ref a_T_readFloors, .int T_readWishes, .ref a_T_readWishKind, .ref a_T_readWishA, .ref a_T_readWishB, .int T_readBegins, .int T_here, .int T_stands, .int T_many, .int T_rounds, .ref a_T_come, .ref a_T_keptBy, .ref a_T_endsAt, .ref a_T_order, .ref a_T_time, .ref a_T_place]))] H := hP
  replace hD : va_D A [(a_T, .inr (9, [.int T_guests, .ref a_T_kinds, .int T_wishes, .ref a_T_wishKind, .ref a_T_wishA, .ref a_T_wishB, .int T_begins, .ref a_T_st, .int T_acts, .ref a_T_was, .int T_keeps, .ref a_T_kept, .int T_wokes, .ref a_T_woke, .ref a_T_text, .int 0, .int T_at, .ref a_T_told, .int T_readGuests, .ref a_T_readKinds, .ref a_T_readFloors, .int T_readWishes, .ref a_T_readWishKind, .ref a_T_readWishA, .ref a_T_readWishB, .int T_readBegins, .int T_here, .int T_stands, .int T_many, .int T_rounds, .ref a_T_come, .ref a_T_keptBy, .ref a_T_endsAt, .ref a_T_order, .ref a_T_time, .ref a_T_place]))] := hD
  refine lv_iload_n hx hb dX9_wipe_10 rfl (lv_at hl 0 rfl) ?_
  have he := Option.some.inj hr
  subst he
  subst hQ
  exact ret_i hx hb hrt hK hP hD hS hlocks dX9_wipe_11
def fX9_letterAt (K : Nat) (x1 : Int32) (T_texted : Int32) (T_text : (Nat → Int32)) : Option (Int32) :=
    if T_texted ≤ (x1 : Int32) then (
    some (-1))
    else (
    gd (¬ ((x1 : Int32) < 0 ∨ 200 ≤ x1.toNatClampNeg)) (
    some (T_text x1.toNatClampNeg)))
theorem mbX9_letterAt_0 : Cond.fieldLink RX9 108 "BootsAtDawnModel" "texted" "I" ∈ wsX9_letterAt := List.mem_of_getElem? (i := 1) rfl
theorem inX9_letterAt_X9 : ∀ w ∈ u_ws RX9 TX9 36, w ∈ wsX9_letterAt := fun _ h => (List.mem_cons_of_mem _ (List.mem_append_right _ h))
theorem mbX9_letterAt_2 : Cond.fieldLink RX9 34 "BootsAtDawnModel" "text" "[I" ∈ wsX9_letterAt := List.mem_of_getElem? (i := 2) rfl
abbrev rmX9_letterAt : Room := { frames := 0, cells := 0, slots := 0, locals := 0 }
set_option maxHeartbeats 8000000 in
set_option maxRecDepth 100000 in
theorem kX9_letterAt (l : Launch) (dC : Nat → ClassId) (dI : Nat → Nat → Nat) (cC cI cJ : ClassId) (sz : Nat) (K : Nat) (a_T a_T_kinds a_T_wishKind a_T_wishA a_T_wishB a_T_st a_T_was a_T_kept a_T_woke a_T_text a_T_told a_T_readKinds a_T_readFloors a_T_readWishKind a_T_readWishA a_T_readWishB a_T_come a_T_keptBy a_T_endsAt a_T_order a_T_time a_T_place : Nat) (x1 : Int32) (T_guests : Int32) (T_wishes : Int32) (T_begins : Int32) (T_acts : Int32) (T_keeps : Int32) (T_wokes : Int32) (T_texted : Int32) (T_at : Int32) (T_readGuests : Int32) (T_readWishes : Int32) (T_readBegins : Int32) (T_here : Int32) (T_stands : Int32) (T_many : Int32) (T_rounds : Int32) (T_text : (Nat → Int32)) (R : Int32) (hr : fX9_letterAt K x1 T_texted T_text = some R) : Met l yX9_letterAt wsX9_letterAt rmX9_letterAt (va_Pc ([.ref a_T, .int x1] : List Value) (PcW (dC, dI) (tysA cC cI cJ) sz [(a_T, .inr (9, [.int T_guests, .ref a_T_kinds, .int T_wishes, .ref a_T_wishKind, .ref a_T_wishA, .ref a_T_wishB, .int T_begins, .ref a_T_st, .int T_acts, .ref a_T_was, .int T_keeps, .ref a_T_kept, .int T_wokes, .ref a_T_woke, .ref a_T_text, .int T_texted, .int T_at, .ref a_T_told, .int T_readGuests, .ref a_T_readKinds, .ref a_T_readFloors, .int T_readWishes, .ref a_T_readWishKind, .ref a_T_readWishA, .ref a_T_readWishB, .int T_readBegins, .int T_here, .int T_stands, .int T_many, .int T_rounds, .ref a_T_come, .ref a_T_keptBy, .ref a_T_endsAt, .ref a_T_order, .ref a_T_time, .ref a_T_place])), (a_T_text, .inl (cI, 200, .inl T_text))])) (va_Qi (fun r (_ : Unit) => r = R) (fun _ => BW (dC, dI) (tysA cC cI cJ) (va_A [(a_T, .inr (9, [.int T_guests, .ref a_T_kinds, .int T_wishes, .ref a_T_wishKind, .ref a_T_wishA, .ref a_T_wishB, .int T_begins, .ref a_T_st, .int T_acts, .ref a_T_was, .int T_keeps, .ref a_T_kept, .int T_wokes, .ref a_T_woke, .ref a_T_text, .int T_texted, .int T_at, .ref a_T_told, .int T_readGuests, .ref a_T_readKinds, .ref a_T_readFloors, .int T_readWishes, .ref a_T_readWishKind, .ref a_T_readWishA, .ref a_T_readWishB, .int T_readBegins, .int T_here, .int T_stands, .int T_many, .int T_rounds, .ref a_T_come, .ref a_T_keptBy, .ref a_T_endsAt, .ref a_T_order, .ref a_T_time, .ref a_T_place])), (a_T_text, .inl (cI, 200, .inl T_text))] sz) [(a_T, .inr (9, [.int T_guests, .ref a_T_kinds, .int T_wishes, .ref a_T_wishKind, .ref a_T_wishA, .ref a_T_wishB, .int T_begins, .ref a_T_st, .int T_acts, .ref a_T_was, .int T_keeps, .ref a_T_kept, .int T_wokes, .ref a_T_woke, .ref a_T_text, .int T_texted, .int T_at, .ref a_T_told, .int T_readGuests, .ref a_T_readKinds, .ref a_T_readFloors, .int T_readWishes, .ref a_T_readWishKind, .ref a_T_readWishA, .ref a_T_readWishB, .int T_readBegins, .int T_here, .int T_stands, .int T_many, .int T_rounds, .ref a_T_come, .ref a_T_keptBy, .ref a_T_endsAt, .ref a_T_order, .ref a_T_time, .ref a_T_place])), (a_T_text, .inl (cI, 200, .inl T_text))]) (va_A [(a_T, .inr (9, [.int T_guests, .ref a_T_kinds, .int T_wishes, .ref a_T_wishKind, .ref a_T_wishA, .ref a_T_wishB, .int T_begins, .ref a_T_st, .int T_acts, .ref a_T_was, .int T_keeps, .ref a_T_kept, .int T_wokes, .ref a_T_woke, .ref a_T_text, .int T_texted, .int T_at, .ref a_T_told, .int T_readGuests, .ref a_T_readKinds, .ref a_T_readFloors, .int T_readWishes, .ref a_T_readWishKind, .ref a_T_readWishA, .ref a_T_readWishB, .int T_readBegins, .int T_here, .int T_stands, .int T_many, .int T_rounds, .ref a_T_come, .ref a_T_keptBy, .ref a_T_endsAt, .ref a_T_order, .ref a_T_time, .ref a_T_place])), (a_T_text, .inl (cI, 200, .inl T_text))] sz)) 0 0 (va_A [(a_T, .inr (9, [.int T_guests, .ref a_T_kinds, .int T_wishes, .ref a_T_wishKind, .ref a_T_wishA, .ref a_T_wishB, .int T_begins, .ref a_T_st, .int T_acts, .ref a_T_was, .int T_keeps, .ref a_T_kept, .int T_wokes, .ref a_T_woke, .ref a_T_text, .int T_texted, .int T_at, .ref a_T_told, .int T_readGuests, .ref a_T_readKinds, .ref a_T_readFloors, .int T_readWishes, .ref a_T_readWishKind, .ref a_T_readWishA, .ref a_T_readWishB, .int T_readBegins, .int T_here, .int T_stands, .int T_many, .int T_rounds, .ref a_T_come, .ref a_T_keptBy, .ref a_T_endsAt, .ref a_T_order, .ref a_T_time, .ref a_T_place])), (a_T_text, .inl (cI, 200, .inl T_text))] sz) := by
  refine Met.ofW (cc := cX9_letterAt) (maxL := 2) (ret := (some .int)) (by decide) rfl ?_
  intro p e s m args below meth c s₁ B hml hv
  obtain ⟨rfl, hsz, hP, hK, hD0, hN⟩ := hv
  have hx := B.exec
  have hb := B.bytes
  have hrt := B.returns
  have hts := atoms_spec (ws := wsX9_letterAt) B.pre
  have hown : s.vm.findClass RX9 = some m.cls := findClass_of_methodNamed B.named
  have hlocks := B.notSynchronized
  subst hsz
  have hD := hD0.self (sz := s.heap.size)
  generalize hAe : va_A [(a_T, .inr (9, [.int T_guests, .ref a_T_kinds, .int T_wishes, .ref a_T_wishKind, .ref a_T_wishA, .ref a_T_wishB, .int T_begins, .ref a_T_st, .int T_acts, .ref a_T_was, .int T_keeps, .ref a_T_kept, .int T_wokes, .ref a_T_woke, .ref a_T_text, .int T_texted, .int T_at, .ref a_T_told, .int T_readGuests, .ref a_T_readKinds, .ref a_T_readFloors, .int T_readWishes, .ref a_T_readWishKind, .ref a_T_readWishA, .ref a_T_readWishB, .int T_readBegins, .int T_here, .int T_stands, .int T_many, .int T_rounds, .ref a_T_come, .ref a_T_keptBy, .ref a_T_endsAt, .ref a_T_order, .ref a_T_time, .ref a_T_place])), (a_T_text, .inl (cI, 200, .inl T_text))] s.heap.size = A at hD ⊢
  have hA : ∀ q : Nat, s.heap.size ≤ q → A q := fun q h => by rw [← hAe]; exact Or.inr h
  have hS : va_S A s.heap s.heap [] := va_S.rf
  have hl := lv_entry ([.ref a_T, .int x1] : List Value) (n := 2) (Nat.le_of_ble_eq_true rfl)
  rw [lg_entry_eq]
  generalize (lg_sl ([.ref a_T, .int x1] : List Value) ++ List.replicate (2 - (lg_sl ([.ref a_T, .int x1] : List Value)).length) Slot.unset).toArray = ls at hl ⊢
  replace hl : lv_has ls 2 [(0, .ref a_T), (1, .int x1)] := hl
  obtain ⟨Q, hQ⟩ : ∃ Q, Q = MQ below (va_Qi (fun r (_ : Unit) => r = R) (fun _ => BW (dC, dI) (tysA cC cI cJ) A [(a_T, .inr (9, [.int T_guests, .ref a_T_kinds, .int T_wishes, .ref a_T_wishKind, .ref a_T_wishA, .ref a_T_wishB, .int T_begins, .ref a_T_st, .int T_acts, .ref a_T_was, .int T_keeps, .ref a_T_kept, .int T_wokes, .ref a_T_woke, .ref a_T_text, .int T_texted, .int T_at, .ref a_T_told, .int T_readGuests, .ref a_T_readKinds, .ref a_T_readFloors, .int T_readWishes, .ref a_T_readWishKind, .ref a_T_readWishA, .ref a_T_readWishB, .int T_readBegins, .int T_here, .int T_stands, .int T_many, .int T_rounds, .ref a_T_come, .ref a_T_keptBy, .ref a_T_endsAt, .ref a_T_order, .ref a_T_time, .ref a_T_place])), (a_T_text, .inl (cI, 200, .inl T_text))]) A) ([.ref a_T, .int x1] : List Value).toArray s 0 0 A := ⟨_, rfl⟩
  rw [← hQ]
  suffices hE : WG p l e rmX9_letterAt s m ([.ref a_T, .int x1] : List Value).toArray below meth c 0 0 Q (dC, dI) A 0 2 [(a_T, .inr (9, [.int T_guests, .ref a_T_kinds, .int T_wishes, .ref a_T_wishKind, .ref a_T_wishA, .ref a_T_wishB, .int T_begins, .ref a_T_st, .int T_acts, .ref a_T_was, .int T_keeps, .ref a_T_kept, .int T_wokes, .ref a_T_woke, .ref a_T_text, .int T_texted, .int T_at, .ref a_T_told, .int T_readGuests, .ref a_T_readKinds, .ref a_T_readFloors, .int T_readWishes, .ref a_T_readWishKind, .ref a_T_readWishA, .ref a_T_readWishB, .int T_readBegins, .int T_here, .int T_stands, .int T_many, .int T_rounds, .ref a_T_come, .ref a_T_keptBy, .ref a_T_endsAt, .ref a_T_order, .ref a_T_time, .ref a_T_place])), (a_T_text, .inl (cI, 200, .inl T_text))] [(0, .ref a_T), (1, .int x1)] [] from hE _ _ _ hP hD hS hl
  clear hP hD hS hl hD0 hAe
  intro H locs ls hP hD hS hl
  unfold fX9_letterAt at hr
  refine lv_iload_n hx hb dX9_letterAt_0 rfl (lv_at hl 1 rfl) ?_
  refine lv_aload_n hx hb dX9_letterAt_1 rfl (lv_at hl 0 rfl) ?_
  refine va_get (D := (dC, dI)) (ci := 9) (v := .int T_texted) (C := RX9) (T := TX9) (N := 36) hx hb hts inX9_letterAt_X9 hown hK hP 0 rfl rfl 15 (by decide) (hts _ mbX9_letterAt_0) (fun _ h9 => h9) rfl dX9_letterAt_2 ?_
  refine lv_icmp_ge (tgt := 17) hx hb dX9_letterAt_5 (by decide) (fun c1 => ?_) (fun c1 => ?_)
  · replace hr := it_t hr c1
    refine lv_iconst (v := (-1)) hx hb dX9_letterAt_17 (by decide) ?_
    have he := Option.some.inj hr
    subst he
    subst hQ
    exact ret_i hx hb hrt hK hP hD hS hlocks dX9_letterAt_18
  · replace hr := it_f hr c1
    refine lv_aload_n hx hb dX9_letterAt_8 rfl (lv_at hl 0 rfl) ?_
    refine va_get (D := (dC, dI)) (ci := 9) (v := .ref a_T_text) (C := RX9) (T := TX9) (N := 36) hx hb hts inX9_letterAt_X9 hown hK hP 0 rfl rfl 14 (by decide) (hts _ mbX9_letterAt_2) (fun _ h9 => h9) rfl dX9_letterAt_9 ?_
    refine lv_iload_n hx hb dX9_letterAt_12 rfl (lv_at hl 1 rfl) ?_
    obtain ⟨g1, hr⟩ := gd_some hr
    refine va_iald hx hb hK hP 1 1 rfl rfl g1 dX9_letterAt_13 ?_
    refine lv_goto (tgt := 18) hx hb dX9_letterAt_14 (by decide) ?_
    have he := Option.some.inj hr
    subst he
    subst hQ
    exact ret_i hx hb hrt hK hP hD hS hlocks dX9_letterAt_18
def fX9_isFigure (K : Nat) (x0 : Int32) : Option (Int32) :=
    bd1 (fX9_in K x0 48 57) fun r =>
    gd (vp_nar .boolean r = r) (
    some r)
abbrev rmX9_isFigure : Room := { frames := 1, cells := 0, slots := 0, locals := 22 }
set_option maxHeartbeats 8000000 in
set_option maxRecDepth 100000 in
theorem kX9_isFigure (l : Launch) (dC : Nat → ClassId) (dI : Nat → Nat → Nat) (cC cI cJ : ClassId) (sz : Nat) (K : Nat) (x0 : Int32) (R : Int32) (hr : fX9_isFigure K x0 = some R) : Met l yX9_isFigure wsX9_isFigure rmX9_isFigure (va_Pc ([.int x0] : List Value) (PcW (dC, dI) (tysA cC cI cJ) sz [])) (va_Qi (fun r (_ : Unit) => r = R) (fun _ => BW (dC, dI) (tysA cC cI cJ) (va_A [] sz) []) (va_A [] sz)) 0 0 (va_A [] sz) := by
  refine Met.ofW (cc := cX9_isFigure) (maxL := 1) (ret := (some .boolean)) (by decide) rfl ?_
  intro p e s m args below meth c s₁ B hml hv
  obtain ⟨rfl, hsz, hP, hK, hD0, hN⟩ := hv
  have hx := B.exec
  have hb := B.bytes
  have hrt := B.returns
  have hts := atoms_spec (ws := wsX9_isFigure) B.pre
  have hown : s.vm.findClass RX9 = some m.cls := findClass_of_methodNamed B.named
  have hlocks := B.notSynchronized
  subst hsz
  have hD := hD0.self (sz := s.heap.size)
  generalize hAe : va_A [] s.heap.size = A at hD ⊢
  have hA : ∀ q : Nat, s.heap.size ≤ q → A q := fun q h => by rw [← hAe]; exact Or.inr h
  have hS : va_S A s.heap s.heap [] := va_S.rf
  have hl := lv_entry ([.int x0] : List Value) (n := 1) (Nat.le_of_ble_eq_true rfl)
  rw [lg_entry_eq]
  generalize (lg_sl ([.int x0] : List Value) ++ List.replicate (1 - (lg_sl ([.int x0] : List Value)).length) Slot.unset).toArray = ls at hl ⊢
  replace hl : lv_has ls 1 [(0, .int x0)] := hl
  obtain ⟨Q, hQ⟩ : ∃ Q, Q = MQ below (va_Qi (fun r (_ : Unit) => r = R) (fun _ => BW (dC, dI) (tysA cC cI cJ) A []) A) ([.int x0] : List Value).toArray s 0 0 A := ⟨_, rfl⟩
  rw [← hQ]
  suffices hE : WG p l e rmX9_isFigure s m ([.int x0] : List Value).toArray below meth c 0 0 Q (dC, dI) A 0 1 [] [(0, .int x0)] [] from hE _ _ _ hP hD hS hl
  clear hP hD hS hl hD0 hAe
  intro H locs ls hP hD hS hl
  unfold fX9_isFigure at hr
  refine lv_iload_n hx hb dX9_isFigure_0 rfl (lv_at hl 0 rfl) ?_
  refine lv_bipush (v := 48) hx hb dX9_isFigure_1 (by decide) ?_
  refine lv_bipush (v := 57) hx hb dX9_isFigure_3 (by decide) ?_
  obtain ⟨r, hc1, hr⟩ := bd1_some hr
  refine call_i (D := (dC, dI)) (tys := tysA cC cI cJ) (wc := []) (wr := []) (w1 := []) (wn := []) (r0 := r) hP hD hS hA [] [] [] rfl rfl (by decide +kernel) (by decide +kernel) rfl (by decide +kernel) (va_runS (As := [.int x0, .int 48, .int 57]) (rest := []) ⟨hx, hb, hml, hown, hts⟩ (kX9_in l dC dI cC cI cJ H.size K x0 48 57 r hc1) (va_cwS 3 hts gX9_isFigure_X9_in rfl rfl rfl (by decide +kernel) ⟨Nat.le_of_ble_eq_true rfl, Nat.le_of_ble_eq_true rfl⟩) ⟨fbW, preW hP hD hK hN [] rfl (by decide +kernel)⟩ rfl rfl hl.1 rfl (lv_room (Nat.le_of_ble_eq_true rfl)) dX9_isFigure_5 ⟨Nat.zero_le _, Nat.zero_le _⟩) (fun H locs hP hD hS => ?_)
  obtain ⟨g1, hr⟩ := gd_some hr
  have he := Option.some.inj hr
  subst he
  subst hQ
  exact ret_z hx hb hrt (vp_narZ g1) hK hP hD hS hlocks dX9_isFigure_8
def fX9_readNumbers_L2 (K : Nat) (x1 : Int32) (T_texted : Int32) (T_text : (Nat → Int32)) : Nat → Int32 → Int32 → (Nat → Int32) → Option ((Int32 × Int32 × (Nat → Int32)) ⊕ (Int32 × (Nat → Int32)))
  | 0, _, _, _ => none
  | n1 + 1, x2, T_at_1, T_told_1 =>
    if x1 ≤ (x2 : Int32) then (
    some (.inr (T_at_1, T_told_1)))
    else (
    bd1 (fX9_letterAt K T_at_1 T_texted T_text) fun r =>
    bd1 (fX9_isFigure K r) fun r_1 =>
    if (r_1 : Int32) = 0 then (
    some (.inl (0, T_at_1, T_told_1)))
    else (
    bd1 (fX9_letterAt K T_at_1 T_texted T_text) fun r_2 =>
    gd (¬ ((x2 : Int32) < 0 ∨ 2 ≤ x2.toNatClampNeg)) (
    nm (upd T_told_1 x2.toNatClampNeg (r_2 - 48)) fun T_told_3 =>
    nm (T_at_1 + 1) fun T_at_3 =>
    bd1 (fX9_letterAt K T_at_3 T_texted T_text) fun r_3 =>
    bd1 (fX9_isFigure K r_3) fun r_4 =>
    bd2 (τ0 := Int32) (τ1 := (Nat → Int32)) (
    if (r_4 : Int32) = 0 then (
    some (T_at_3, T_told_3))
    else (
    gd (¬ ((x2 : Int32) < 0 ∨ 2 ≤ x2.toNatClampNeg)) (
    bd1 (fX9_letterAt K T_at_3 T_texted T_text) fun r_5 =>
    gd (¬ ((x2 : Int32) < 0 ∨ 2 ≤ x2.toNatClampNeg)) (
    nm (upd T_told_3 x2.toNatClampNeg (((10 * (T_told_3 x2.toNatClampNeg)) + r_5) - 48)) fun T_told_4 =>
    nm (T_at_3 + 1) fun T_at_4 =>
    some (T_at_4, T_told_4))))) fun T_at_5 T_told_5 =>
    bd1 (fX9_letterAt K T_at_5 T_texted T_text) fun r_6 =>
    bd1 (τ0 := Int32) (
    if (x1 - 1) ≤ (x2 : Int32) then (
    some 59)
    else (
    some 44)) fun y =>
    if (r_6 : Int32) = y then (
    nm (T_at_5 + 1) fun T_at_6 =>
    nm (x2 + 1) fun x2_1 =>
    fX9_readNumbers_L2 K x1 T_texted T_text n1 x2_1 T_at_6 T_told_5)
    else (
    some (.inl (0, T_at_5, T_told_5))))))
def fX9_readNumbers (K : Nat) (x1 : Int32) (T_texted : Int32) (T_at : Int32) (T_text : (Nat → Int32)) (T_told : (Nat → Int32)) : Option (Int32 × Int32 × (Nat → Int32)) :=
    bs2 (fX9_readNumbers_L2 K x1 T_texted T_text K 0 T_at T_told) fun T_at_2 T_told_2 =>
    some (1, T_at_2, T_told_2)
theorem mbX9_readNumbers_0 : Cond.fieldLink RX9 111 "BootsAtDawnModel" "at" "I" ∈ wsX9_readNumbers := List.mem_of_getElem? (i := 1) rfl
theorem inX9_readNumbers_X9 : ∀ w ∈ u_ws RX9 TX9 36, w ∈ wsX9_readNumbers := fun _ h => (List.mem_cons_of_mem _ (List.mem_append_right _ h))
theorem mbX9_readNumbers_2 : Cond.fieldLink RX9 37 "BootsAtDawnModel" "told" "[I" ∈ wsX9_readNumbers := List.mem_of_getElem? (i := 2) rfl
abbrev rmX9_readNumbers : Room := { frames := 2, cells := 0, slots := 0, locals := 42 }
set_option maxHeartbeats 8000000 in
set_option maxRecDepth 100000 in
theorem kX9_readNumbers (l : Launch) (dC : Nat → ClassId) (dI : Nat → Nat → Nat) (cC cI cJ : ClassId) (sz : Nat) (K : Nat) (a_T a_T_kinds a_T_wishKind a_T_wishA a_T_wishB a_T_st a_T_was a_T_kept a_T_woke a_T_text a_T_told a_T_readKinds a_T_readFloors a_T_readWishKind a_T_readWishA a_T_readWishB a_T_come a_T_keptBy a_T_endsAt a_T_order a_T_time a_T_place : Nat) (x1 : Int32) (T_guests : Int32) (T_wishes : Int32) (T_begins : Int32) (T_acts : Int32) (T_keeps : Int32) (T_wokes : Int32) (T_texted : Int32) (T_at : Int32) (T_readGuests : Int32) (T_readWishes : Int32) (T_readBegins : Int32) (T_here : Int32) (T_stands : Int32) (T_many : Int32) (T_rounds : Int32) (T_text : (Nat → Int32)) (T_told : (Nat → Int32)) (R : Int32 × Int32 × (Nat → Int32)) (hr : fX9_readNumbers K x1 T_texted T_at T_text T_told = some R) : Met l yX9_readNumbers wsX9_readNumbers rmX9_readNumbers (va_Pc ([.ref a_T, .int x1] : List Value) (PcW (dC, dI) (tysA cC cI cJ) sz [(a_T, .inr (9, [.int T_guests, .ref a_T_kinds, .int T_wishes, .ref a_T_wishKind, .ref a_T_wishA, .ref a_T_wishB, .int T_begins, .ref a_T_st, .int T_acts, .ref a_T_was, .int T_keeps, .ref a_T_kept, .int T_wokes, .ref a_T_woke, .ref a_T_text, .int T_texted, .int T_at, .ref a_T_told, .int T_readGuests, .ref a_T_readKinds, .ref a_T_readFloors, .int T_readWishes, .ref a_T_readWishKind, .ref a_T_readWishA, .ref a_T_readWishB, .int T_readBegins, .int T_here, .int T_stands, .int T_many, .int T_rounds, .ref a_T_come, .ref a_T_keptBy, .ref a_T_endsAt, .ref a_T_order, .ref a_T_time, .ref a_T_place])), (a_T_text, .inl (cI, 200, .inl T_text)), (a_T_told, .inl (cI, 2, .inl T_told))])) (va_Qi (fun r (_ : Unit) => r = R.1) (fun _ => BW (dC, dI) (tysA cC cI cJ) (va_A [(a_T, .inr (9, [.int T_guests, .ref a_T_kinds, .int T_wishes, .ref a_T_wishKind, .ref a_T_wishA, .ref a_T_wishB, .int T_begins, .ref a_T_st, .int T_acts, .ref a_T_was, .int T_keeps, .ref a_T_kept, .int T_wokes, .ref a_T_woke, .ref a_T_text, .int T_texted, .int T_at, .ref a_T_told, .int T_readGuests, .ref a_T_readKinds, .ref a_T_readFloors, .int T_readWishes, .ref a_T_readWishKind, .ref a_T_readWishA, .ref a_T_readWishB, .int T_readBegins, .int T_here, .int T_stands, .int T_many, .int T_rounds, .ref a_T_come, .ref a_T_keptBy, .ref a_T_endsAt, .ref a_T_order, .ref a_T_time, .ref a_T_place])), (a_T_text, .inl (cI, 200, .inl T_text)), (a_T_told, .inl (cI, 2, .inl T_told))] sz) [(a_T, .inr (9, [.int T_guests, .ref a_T_kinds, .int T_wishes, .ref a_T_wishKind, .ref a_T_wishA, .ref a_T_wishB, .int T_begins, .ref a_T_st, .int T_acts, .ref a_T_was, .int T_keeps, .ref a_T_kept, .int T_wokes, .ref a_T_woke, .ref a_T_text, .int T_texted, .int R.2.1, .ref a_T_told, .int T_readGuests, .ref a_T_readKinds, .ref a_T_readFloors, .int T_readWishes, .ref a_T_readWishKind, .ref a_T_readWishA, .ref a_T_readWishB, .int T_readBegins, .int T_here, .int T_stands, .int T_many, .int T_rounds, .ref a_T_come, .ref a_T_keptBy, .ref a_T_endsAt, .ref a_T_order, .ref a_T_time, .ref a_T_place])), (a_T_text, .inl (cI, 200, .inl T_text)), (a_T_told, .inl (cI, 2, .inl R.2.2))]) (va_A [(a_T, .inr (9, [.int T_guests, .ref a_T_kinds, .int T_wishes, .ref a_T_wishKind, .ref a_T_wishA, .ref a_T_wishB, .int T_begins, .ref a_T_st, .int T_acts, .ref a_T_was, .int T_keeps, .ref a_T_kept, .int T_wokes, .ref a_T_woke, .ref a_T_text, .int T_texted, .int T_at, .ref a_T_told, .int T_readGuests, .ref a_T_readKinds, .ref a_T_readFloors, .int T_readWishes, .ref a_T_readWishKind, .ref a_T_readWishA, .ref a_T_readWishB, .int T_readBegins, .int T_here, .int T_stands, .int T_many, .int T_rounds, .ref a_T_come, .ref a_T_keptBy, .ref a_T_endsAt, .ref a_T_order, .ref a_T_time, .ref a_T_place])), (a_T_text, .inl (cI, 200, .inl T_text)), (a_T_told, .inl (cI, 2, .inl T_told))] sz)) 0 0 (va_A [(a_T, .inr (9, [.int T_guests, .ref a_T_kinds, .int T_wishes, .ref a_T_wishKind, .ref a_T_wishA, .ref a_T_wishB, .int T_begins, .ref a_T_st, .int T_acts, .ref a_T_was, .int T_keeps, .ref a_T_kept, .int T_wokes, .ref a_T_woke, .ref a_T_text, .int T_texted, .int T_at, .ref a_T_told, .int T_readGuests, .ref a_T_readKinds, .ref a_T_readFloors, .int T_readWishes, .ref a_T_readWishKind, .ref a_T_readWishA, .ref a_T_readWishB, .int T_readBegins, .int T_here, .int T_stands, .int T_many, .int T_rounds, .ref a_T_come, .ref a_T_keptBy, .ref a_T_endsAt, .ref a_T_order, .ref a_T_time, .ref a_T_place])), (a_T_text, .inl (cI, 200, .inl T_text)), (a_T_told, .inl (cI, 2, .inl T_told))] sz) := by
  refine Met.ofW (cc := cX9_readNumbers) (maxL := 3) (ret := (some .boolean)) (by decide) rfl ?_
  intro p e s m args below meth c s₁ B hml hv
  obtain ⟨rfl, hsz, hP, hK, hD0, hN⟩ := hv
  have hx := B.exec
  have hb := B.bytes
  have hrt := B.returns
  have hts := atoms_spec (ws := wsX9_readNumbers) B.pre
  have hown : s.vm.findClass RX9 = some m.cls := findClass_of_methodNamed B.named
  have hlocks := B.notSynchronized
  subst hsz
  have hD := hD0.self (sz := s.heap.size)
  generalize hAe : va_A [(a_T, .inr (9, [.int T_guests, .ref a_T_kinds, .int T_wishes, .ref a_T_wishKind, .ref a_T_wishA, .ref a_T_wishB, .int T_begins, .ref a_T_st, .int T_acts, .ref a_T_was, .int T_keeps, .ref a_T_kept, .int T_wokes, .ref a_T_woke, .ref a_T_text, .int T_texted, .int T_at, .ref a_T_told, .int T_readGuests, .ref a_T_readKinds, .ref a_T_readFloors, .int T_readWishes, .ref a_T_readWishKind, .ref a_T_readWishA, .ref a_T_readWishB, .int T_readBegins, .int T_here, .int T_stands, .int T_many, .int T_rounds, .ref a_T_come, .ref a_T_keptBy, .ref a_T_endsAt, .ref a_T_order, .ref a_T_time, .ref a_T_place])), (a_T_text, .inl (cI, 200, .inl T_text)), (a_T_told, .inl (cI, 2, .inl T_told))] s.heap.size = A at hD ⊢
  have hA : ∀ q : Nat, s.heap.size ≤ q → A q := fun q h => by rw [← hAe]; exact Or.inr h
  have hS : va_S A s.heap s.heap [] := va_S.rf
  have hl := lv_entry ([.ref a_T, .int x1] : List Value) (n := 3) (Nat.le_of_ble_eq_true rfl)
  rw [lg_entry_eq]
  generalize (lg_sl ([.ref a_T, .int x1] : List Value) ++ List.replicate (3 - (lg_sl ([.ref a_T, .int x1] : List Value)).length) Slot.unset).toArray = ls at hl ⊢
  replace hl : lv_has ls 3 [(0, .ref a_T), (1, .int x1)] := hl
  obtain ⟨Q, hQ⟩ : ∃ Q, Q = MQ below (va_Qi (fun r (_ : Unit) => r = R.1) (fun _ => BW (dC, dI) (tysA cC cI cJ) A [(a_T, .inr (9, [.int T_guests, .ref a_T_kinds, .int T_wishes, .ref a_T_wishKind, .ref a_T_wishA, .ref a_T_wishB, .int T_begins, .ref a_T_st, .int T_acts, .ref a_T_was, .int T_keeps, .ref a_T_kept, .int T_wokes, .ref a_T_woke, .ref a_T_text, .int T_texted, .int R.2.1, .ref a_T_told, .int T_readGuests, .ref a_T_readKinds, .ref a_T_readFloors, .int T_readWishes, .ref a_T_readWishKind, .ref a_T_readWishA, .ref a_T_readWishB, .int T_readBegins, .int T_here, .int T_stands, .int T_many, .int T_rounds, .ref a_T_come, .ref a_T_keptBy, .ref a_T_endsAt, .ref a_T_order, .ref a_T_time, .ref a_T_place])), (a_T_text, .inl (cI, 200, .inl T_text)), (a_T_told, .inl (cI, 2, .inl R.2.2))]) A) ([.ref a_T, .int x1] : List Value).toArray s 0 0 A := ⟨_, rfl⟩
  rw [← hQ]
  suffices hE : WG p l e rmX9_readNumbers s m ([.ref a_T, .int x1] : List Value).toArray below meth c 0 0 Q (dC, dI) A 0 3 [(a_T, .inr (9, [.int T_guests, .ref a_T_kinds, .int T_wishes, .ref a_T_wishKind, .ref a_T_wishA, .ref a_T_wishB, .int T_begins, .ref a_T_st, .int T_acts, .ref a_T_was, .int T_keeps, .ref a_T_kept, .int T_wokes, .ref a_T_woke, .ref a_T_text, .int T_texted, .int T_at, .ref a_T_told, .int T_readGuests, .ref a_T_readKinds, .ref a_T_readFloors, .int T_readWishes, .ref a_T_readWishKind, .ref a_T_readWishA, .ref a_T_readWishB, .int T_readBegins, .int T_here, .int T_stands, .int T_many, .int T_rounds, .ref a_T_come, .ref a_T_keptBy, .ref a_T_endsAt, .ref a_T_order, .ref a_T_time, .ref a_T_place])), (a_T_text, .inl (cI, 200, .inl T_text)), (a_T_told, .inl (cI, 2, .inl T_told))] [(0, .ref a_T), (1, .int x1)] [] from hE _ _ _ hP hD hS hl
  clear hP hD hS hl hD0 hAe
  intro H locs ls hP hD hS hl
  unfold fX9_readNumbers at hr
  refine lv_iconst (v := 0) hx hb dX9_readNumbers_0 (by decide) ?_
  refine lv_istore_n (lv' := [(2, .int 0), (0, .ref a_T), (1, .int x1)]) hx hb dX9_readNumbers_1 rfl hl (by decide) rfl (fun ls hl => ?_)
  have hL1 : ∀ (n1 : Nat) (x2 : Int32) (T_at_1 : Int32) (T_told_1 : (Nat → Int32)) (X1 : (Int32 × Int32 × (Nat → Int32)) ⊕ (Int32 × (Nat → Int32))), fX9_readNumbers_L2 K x1 T_texted T_text n1 x2 T_at_1 T_told_1 = some X1 → (∀ t, X1 = .inl t → t = R) → (∀ (T_at_2 : Int32) (T_told_2 : (Nat → Int32)), X1 = .inr (T_at_2, T_told_2) → WG p l e rmX9_readNumbers s m ([.ref a_T, .int x1] : List Value).toArray below meth c 0 0 Q (dC, dI) A 144 3 [(a_T, .inr (9, [.int T_guests, .ref a_T_kinds, .int T_wishes, .ref a_T_wishKind, .ref a_T_wishA, .ref a_T_wishB, .int T_begins, .ref a_T_st, .int T_acts, .ref a_T_was, .int T_keeps, .ref a_T_kept, .int T_wokes, .ref a_T_woke, .ref a_T_text, .int T_texted, .int T_at_2, .ref a_T_told, .int T_readGuests, .ref a_T_readKinds, .ref a_T_readFloors, .int T_readWishes, .ref a_T_readWishKind, .ref a_T_readWishA, .ref a_T_readWishB, .int T_readBegins, .int T_here, .int T_stands, .int T_many, .int T_rounds, .ref a_T_come, .ref a_T_keptBy, .ref a_T_endsAt, .ref a_T_order, .ref a_T_time, .ref a_T_place])), (a_T_text, .inl (cI, 200, .inl T_text)), (a_T_told, .inl (cI, 2, .inl T_told_2))] [] []) → WG p l e rmX9_readNumbers s m ([.ref a_T, .int x1] : List Value).toArray below meth c 0 0 Q (dC, dI) A 2 3 [(a_T, .inr (9, [.int T_guests, .ref a_T_kinds, .int T_wishes, .ref a_T_wishKind, .ref a_T_wishA, .ref a_T_wishB, .int T_begins, .ref a_T_st, .int T_acts, .ref a_T_was, .int T_keeps, .ref a_T_kept, .int T_wokes, .ref a_T_woke, .ref a_T_text, .int T_texted, .int T_at_1, .ref a_T_told, .int T_readGuests, .ref a_T_readKinds, .ref a_T_readFloors, .int T_readWishes, .ref a_T_readWishKind, .ref a_T_readWishA, .ref a_T_readWishB, .int T_readBegins, .int T_here, .int T_stands, .int T_many, .int T_rounds, .ref a_T_come, .ref a_T_keptBy, .ref a_T_endsAt, .ref a_T_order, .ref a_T_time, .ref a_T_place])), (a_T_text, .inl (cI, 200, .inl T_text)), (a_T_told, .inl (cI, 2, .inl T_told_1))] [(0, .ref a_T), (1, .int x1), (2, .int x2)] [] := by
    intro n1
    induction n1 with
    | zero =>
      intro x2 T_at_1 T_told_1 X1 hr
      rw [fX9_readNumbers_L2] at hr
      cases hr
    | succ n1 ih2 =>
      intro x2 T_at_1 T_told_1 X1 hr hi1 hX1 H locs ls hP hD hS hl
      rw [fX9_readNumbers_L2] at hr
      refine lv_iload_n hx hb dX9_readNumbers_2 rfl (lv_at hl 2 rfl) ?_
      refine lv_iload_n hx hb dX9_readNumbers_3 rfl (lv_at hl 1 rfl) ?_
      refine lv_icmp_ge (tgt := 144) hx hb dX9_readNumbers_4 (by decide) (fun c1 => ?_) (fun c1 => ?_)
      · replace hr := it_t hr c1
        have he := Option.some.inj hr
        exact hX1 _ _ he.symm H locs ls hP hD hS (lv_sub hl [] rfl)
      · replace hr := it_f hr c1
        refine lv_aload_n hx hb dX9_readNumbers_7 rfl (lv_at hl 0 rfl) ?_
        refine lv_aload_n hx hb dX9_readNumbers_8 rfl (lv_at hl 0 rfl) ?_
        refine va_get (D := (dC, dI)) (ci := 9) (v := .int T_at_1) (C := RX9) (T := TX9) (N := 36) hx hb hts inX9_readNumbers_X9 hown hK hP 0 rfl rfl 16 (by decide) (hts _ mbX9_readNumbers_0) (fun _ h9 => h9) rfl dX9_readNumbers_9 ?_
        obtain ⟨r, hc1, hr⟩ := bd1_some hr
        refine call_i (D := (dC, dI)) (tys := tysA cC cI cJ) (wc := [(a_T, .inr (9, [.int T_guests, .ref a_T_kinds, .int T_wishes, .ref a_T_wishKind, .ref a_T_wishA, .ref a_T_wishB, .int T_begins, .ref a_T_st, .int T_acts, .ref a_T_was, .int T_keeps, .ref a_T_kept, .int T_wokes, .ref a_T_woke, .ref a_T_text, .int T_texted, .int T_at_1, .ref a_T_told, .int T_readGuests, .ref a_T_readKinds, .ref a_T_readFloors, .int T_readWishes, .ref a_T_readWishKind, .ref a_T_readWishA, .ref a_T_readWishB, .int T_readBegins, .int T_here, .int T_stands, .int T_many, .int T_rounds, .ref a_T_come, .ref a_T_keptBy, .ref a_T_endsAt, .ref a_T_order, .ref a_T_time, .ref a_T_place])), (a_T_text, .inl (cI, 200, .inl T_text))]) (wr := [(a_T_told, .inl (cI, 2, .inl T_told_1))]) (w1 := [(a_T, .inr (9, [.int T_guests, .ref a_T_kinds, .int T_wishes, .ref a_T_wishKind, .ref a_T_wishA, .ref a_T_wishB, .int T_begins, .ref a_T_st, .int T_acts, .ref a_T_was, .int T_keeps, .ref a_T_kept, .int T_wokes, .ref a_T_woke, .ref a_T_text, .int T_texted, .int T_at_1, .ref a_T_told, .int T_readGuests, .ref a_T_readKinds, .ref a_T_readFloors, .int T_readWishes, .ref a_T_readWishKind, .ref a_T_readWishA, .ref a_T_readWishB, .int T_readBegins, .int T_here, .int T_stands, .int T_many, .int T_rounds, .ref a_T_come, .ref a_T_keptBy, .ref a_T_endsAt, .ref a_T_order, .ref a_T_time, .ref a_T_place])), (a_T_text, .inl (cI, 200, .inl T_text))]) (wn := [(a_T, .inr (9, [.int T_guests, .ref a_T_kinds, .int T_wishes, .ref a_T_wishKind, .ref a_T_wishA, .ref a_T_wishB, .int T_begins, .ref a_T_st, .int T_acts, .ref a_T_was, .int T_keeps, .ref a_T_kept, .int T_wokes, .ref a_T_woke, .ref a_T_text, .int T_texted, .int T_at_1, .ref a_T_told, .int T_readGuests, .ref a_T_readKinds, .ref a_T_readFloors, .int T_readWishes, .ref a_T_readWishKind, .ref a_T_readWishA, .ref a_T_readWishB, .int T_readBegins, .int T_here, .int T_stands, .int T_many, .int T_rounds, .ref a_T_come, .ref a_T_keptBy, .ref a_T_endsAt, .ref a_T_order, .ref a_T_time, .ref a_T_place])), (a_T_text, .inl (cI, 200, .inl T_text)), (a_T_told, .inl (cI, 2, .inl T_told_1))]) (r0 := r) hP hD hS hA [0, 1] [2] [1, 2, 0] rfl rfl (by decide +kernel) (by decide +kernel) rfl (by decide +kernel) (va_runV (As := [.int T_at_1]) (rest := []) ⟨hx, hb, hml, hown, hts⟩ (kX9_letterAt l dC dI cC cI cJ H.size K a_T a_T_kinds a_T_wishKind a_T_wishA a_T_wishB a_T_st a_T_was a_T_kept a_T_woke a_T_text a_T_told a_T_readKinds a_T_readFloors a_T_readWishKind a_T_readWishA a_T_readWishB a_T_come a_T_keptBy a_T_endsAt a_T_order a_T_time a_T_place T_at_1 T_guests T_wishes T_begins T_acts T_keeps T_wokes T_texted T_at_1 T_readGuests T_readWishes T_readBegins T_here T_stands T_many T_rounds T_text r hc1) (cwV 1 hts gX9_readNumbers_X9_letterAt rfl rfl rfl (by decide +kernel) ⟨Nat.le_of_ble_eq_true rfl, Nat.le_of_ble_eq_true rfl⟩) ⟨fbW, va_recv hK hP (ci := 9) (q0 := 0) rfl rfl, preW hP hD hK hN [0, 1] rfl (by decide +kernel)⟩ rfl rfl hl.1 rfl (lv_room (Nat.le_of_ble_eq_true rfl)) dX9_readNumbers_12 ⟨Nat.zero_le _, Nat.zero_le _⟩) (fun H locs hP hD hS => ?_)
        obtain ⟨r_1, hc2, hr⟩ := bd1_some hr
        refine call_i (D := (dC, dI)) (tys := tysA cC cI cJ) (wc := []) (wr := [(a_T, .inr (9, [.int T_guests, .ref a_T_kinds, .int T_wishes, .ref a_T_wishKind, .ref a_T_wishA, .ref a_T_wishB, .int T_begins, .ref a_T_st, .int T_acts, .ref a_T_was, .int T_keeps, .ref a_T_kept, .int T_wokes, .ref a_T_woke, .ref a_T_text, .int T_texted, .int T_at_1, .ref a_T_told, .int T_readGuests, .ref a_T_readKinds, .ref a_T_readFloors, .int T_readWishes, .ref a_T_readWishKind, .ref a_T_readWishA, .ref a_T_readWishB, .int T_readBegins, .int T_here, .int T_stands, .int T_many, .int T_rounds, .ref a_T_come, .ref a_T_keptBy, .ref a_T_endsAt, .ref a_T_order, .ref a_T_time, .ref a_T_place])), (a_T_text, .inl (cI, 200, .inl T_text)), (a_T_told, .inl (cI, 2, .inl T_told_1))]) (w1 := []) (wn := [(a_T, .inr (9, [.int T_guests, .ref a_T_kinds, .int T_wishes, .ref a_T_wishKind, .ref a_T_wishA, .ref a_T_wishB, .int T_begins, .ref a_T_st, .int T_acts, .ref a_T_was, .int T_keeps, .ref a_T_kept, .int T_wokes, .ref a_T_woke, .ref a_T_text, .int T_texted, .int T_at_1, .ref a_T_told, .int T_readGuests, .ref a_T_readKinds, .ref a_T_readFloors, .int T_readWishes, .ref a_T_readWishKind, .ref a_T_readWishA, .ref a_T_readWishB, .int T_readBegins, .int T_here, .int T_stands, .int T_many, .int T_rounds, .ref a_T_come, .ref a_T_keptBy, .ref a_T_endsAt, .ref a_T_order, .ref a_T_time, .ref a_T_place])), (a_T_text, .inl (cI, 200, .inl T_text)), (a_T_told, .inl (cI, 2, .inl T_told_1))]) (r0 := r_1) hP hD hS hA [] [0, 1, 2] [0, 1, 2] rfl rfl (by decide +kernel) (by decide +kernel) rfl (by decide +kernel) (va_runS (As := [.int r]) (rest := []) ⟨hx, hb, hml, hown, hts⟩ (kX9_isFigure l dC dI cC cI cJ H.size K r r_1 hc2) (va_cwS 1 hts gX9_readNumbers_X9_isFigure rfl rfl rfl (by decide +kernel) ⟨Nat.le_of_ble_eq_true rfl, Nat.le_of_ble_eq_true rfl⟩) ⟨fbW, preW hP hD hK hN [] rfl (by decide +kernel)⟩ rfl rfl hl.1 rfl (lv_room (Nat.le_of_ble_eq_true rfl)) dX9_readNumbers_15 ⟨Nat.zero_le _, Nat.zero_le _⟩) (fun H locs hP hD hS => ?_)
        refine lv_if_ne (tgt := 23) hx hb dX9_readNumbers_18 (by decide) (fun c2 => ?_) (fun c2 => ?_)
        · replace hr := it_f hr c2
          refine lv_aload_n hx hb dX9_readNumbers_23 rfl (lv_at hl 0 rfl) ?_
          refine va_get (D := (dC, dI)) (ci := 9) (v := .ref a_T_told) (C := RX9) (T := TX9) (N := 36) hx hb hts inX9_readNumbers_X9 hown hK hP 0 rfl rfl 17 (by decide) (hts _ mbX9_readNumbers_2) (fun _ h9 => h9) rfl dX9_readNumbers_24 ?_
          refine lv_iload_n hx hb dX9_readNumbers_27 rfl (lv_at hl 2 rfl) ?_
          refine lv_aload_n hx hb dX9_readNumbers_28 rfl (lv_at hl 0 rfl) ?_
          refine lv_aload_n hx hb dX9_readNumbers_29 rfl (lv_at hl 0 rfl) ?_
          refine va_get (D := (dC, dI)) (ci := 9) (v := .int T_at_1) (C := RX9) (T := TX9) (N := 36) hx hb hts inX9_readNumbers_X9 hown hK hP 0 rfl rfl 16 (by decide) (hts _ mbX9_readNumbers_0) (fun _ h9 => h9) rfl dX9_readNumbers_30 ?_
          obtain ⟨r_2, hc3, hr⟩ := bd1_some hr
          refine call_i (D := (dC, dI)) (tys := tysA cC cI cJ) (wc := [(a_T, .inr (9, [.int T_guests, .ref a_T_kinds, .int T_wishes, .ref a_T_wishKind, .ref a_T_wishA, .ref a_T_wishB, .int T_begins, .ref a_T_st, .int T_acts, .ref a_T_was, .int T_keeps, .ref a_T_kept, .int T_wokes, .ref a_T_woke, .ref a_T_text, .int T_texted, .int T_at_1, .ref a_T_told, .int T_readGuests, .ref a_T_readKinds, .ref a_T_readFloors, .int T_readWishes, .ref a_T_readWishKind, .ref a_T_readWishA, .ref a_T_readWishB, .int T_readBegins, .int T_here, .int T_stands, .int T_many, .int T_rounds, .ref a_T_come, .ref a_T_keptBy, .ref a_T_endsAt, .ref a_T_order, .ref a_T_time, .ref a_T_place])), (a_T_text, .inl (cI, 200, .inl T_text))]) (wr := [(a_T_told, .inl (cI, 2, .inl T_told_1))]) (w1 := [(a_T, .inr (9, [.int T_guests, .ref a_T_kinds, .int T_wishes, .ref a_T_wishKind, .ref a_T_wishA, .ref a_T_wishB, .int T_begins, .ref a_T_st, .int T_acts, .ref a_T_was, .int T_keeps, .ref a_T_kept, .int T_wokes, .ref a_T_woke, .ref a_T_text, .int T_texted, .int T_at_1, .ref a_T_told, .int T_readGuests, .ref a_T_readKinds, .ref a_T_readFloors, .int T_readWishes, .ref a_T_readWishKind, .ref a_T_readWishA, .ref a_T_readWishB, .int T_readBegins, .int T_here, .int T_stands, .int T_many, .int T_rounds, .ref a_T_come, .ref a_T_keptBy, .ref a_T_endsAt, .ref a_T_order, .ref a_T_time, .ref a_T_place])), (a_T_text, .inl (cI, 200, .inl T_text))]) (wn := [(a_T, .inr (9, [.int T_guests, .ref a_T_kinds, .int T_wishes, .ref a_T_wishKind, .ref a_T_wishA, .ref a_T_wishB, .int T_begins, .ref a_T_st, .int T_acts, .ref a_T_was, .int T_keeps, .ref a_T_kept, .int T_wokes, .ref a_T_woke, .ref a_T_text, .int T_texted, .int T_at_1, .ref a_T_told, .int T_readGuests, .ref a_T_readKinds, .ref a_T_readFloors, .int T_readWishes, .ref a_T_readWishKind, .ref a_T_readWishA, .ref a_T_readWishB, .int T_readBegins, .int T_here, .int T_stands, .int T_many, .int T_rounds, .ref a_T_come, .ref a_T_keptBy, .ref a_T_endsAt, .ref a_T_order, .ref a_T_time, .ref a_T_place])), (a_T_text, .inl (cI, 200, .inl T_text)), (a_T_told, .inl (cI, 2, .inl T_told_1))]) (r0 := r_2) hP hD hS hA [0, 1] [2] [1, 2, 0] rfl rfl (by decide +kernel) (by decide +kernel) rfl (by decide +kernel) (va_runV (As := [.int T_at_1]) (rest := [.int x2, .ref a_T_told]) ⟨hx, hb, hml, hown, hts⟩ (kX9_letterAt l dC dI cC cI cJ H.size K a_T a_T_kinds a_T_wishKind a_T_wishA a_T_wishB a_T_st a_T_was a_T_kept a_T_woke a_T_text a_T_told a_T_readKinds a_T_readFloors a_T_readWishKind a_T_readWishA a_T_readWishB a_T_come a_T_keptBy a_T_endsAt a_T_order a_T_time a_T_place T_at_1 T_guests T_wishes T_begins T_acts T_keeps T_wokes T_texted T_at_1 T_readGuests T_readWishes T_readBegins T_here T_stands T_many T_rounds T_text r_2 hc3) (cwV 1 hts gX9_readNumbers_X9_letterAt rfl rfl rfl (by decide +kernel) ⟨Nat.le_of_ble_eq_true rfl, Nat.le_of_ble_eq_true rfl⟩) ⟨fbW, va_recv hK hP (ci := 9) (q0 := 0) rfl rfl, preW hP hD hK hN [0, 1] rfl (by decide +kernel)⟩ rfl rfl hl.1 rfl (lv_room (Nat.le_of_ble_eq_true rfl)) dX9_readNumbers_33 ⟨Nat.zero_le _, Nat.zero_le _⟩) (fun H locs hP hD hS => ?_)
          refine lv_bipush (v := 48) hx hb dX9_readNumbers_36 (by decide) ?_
          refine lv_isub hx hb dX9_readNumbers_38 ?_
          obtain ⟨g1, hr⟩ := gd_some hr
          obtain ⟨T_told_3, e1, hr⟩ := nm_el hr
          refine va_iast hx hb hK hP hD hS 2 1 rfl rfl g1 dX9_readNumbers_39 (fun H locs hP hD hS => ?_)
          rw [← e1] at hP hD
          replace hP : va_P (dC, dI) vwCl [(a_T, .inr (9, [.int T_guests, .ref a_T_kinds, .int T_wishes, .ref a_T_wishKind, .ref a_T_wishA, .ref a_T_wishB, .int T_begins, .ref a_T_st, .int T_acts, .ref a_T_was, .int T_keeps, .ref a_T_kept, .int T_wokes, .ref a_T_woke, .ref a_T_text, .int T_texted, .int T_at_1, .ref a_T_told, .int T_readGuests, .ref a_T_readKinds, .ref a_T_readFloors, .int T_readWishes, .ref a_T_readWishKind, .ref a_T_readWishA, .ref a_T_readWishB, .int T_readBegins, .int T_here, .int T_stands, .int T_many, .int T_rounds, .ref a_T_come, .ref a_T_keptBy, .ref a_T_endsAt, .ref a_T_order, .ref a_T_time, .ref a_T_place])), (a_T_text, .inl (cI, 200, .inl T_text)), (a_T_told, .inl (cI, 2, .inl T_told_3))] H := hP
          replace hD : va_D A [(a_T, .inr (9, [.int T_guests, .ref a_T_kinds, .int T_wishes, .ref a_T_wishKind, .ref a_T_wishA, .ref a_T_wishB, .int T_begins, .ref a_T_st, .int T_acts, .ref a_T_was, .int T_keeps, .ref a_T_kept, .int T_wokes, .ref a_T_woke, .ref a_T_text, .int T_texted, .int T_at_1, .ref a_T_told, .int T_readGuests, .ref a_T_readKinds, .ref a_T_readFloors, .int T_readWishes, .ref a_T_readWishKind, .ref a_T_readWishA, .ref a_T_readWishB, .int T_readBegins, .int T_here, .int T_stands, .int T_many, .int T_rounds, .ref a_T_come, .ref a_T_keptBy, .ref a_T_endsAt, .ref a_T_order, .ref a_T_time, .ref a_T_place])), (a_T_text, .inl (cI, 200, .inl T_text)), (a_T_told, .inl (cI, 2, .inl T_told_3))] := hD
          refine lv_aload_n hx hb dX9_readNumbers_40 rfl (lv_at hl 0 rfl) ?_
          refine lv_dup hx hb dX9_readNumbers_41 rfl ?_
          refine va_get (D := (dC, dI)) (ci := 9) (v := .int T_at_1) (C := RX9) (T := TX9) (N := 36) hx hb hts inX9_readNumbers_X9 hown hK hP 0 rfl rfl 16 (by decide) (hts _ mbX9_readNumbers_0) (fun _ h9 => h9) rfl dX9_readNumbers_42 ?_
          refine lv_iconst (v := 1) hx hb dX9_readNumbers_45 (by decide) ?_
          refine lv_iadd hx hb dX9_readNumbers_46 ?_
          obtain ⟨T_at_3, e2, hr⟩ := nm_el hr
          refine lv_nmi e2 ?_
          refine va_put (D := (dC, dI)) (ci := 9) (v := .int T_at_3) (ty := .int) (C := RX9) (T := TX9) (N := 36) hx hb hts inX9_readNumbers_X9 tyX9 tyX9_ok nmX9 hown hK hP hD hS 0 rfl rfl 16 (by decide) (hts _ mbX9_readNumbers_0) (fun _ h9 => h9) rfl (by decide +kernel) rfl rfl (Nat.le_of_ble_eq_true rfl) dX9_readNumbers_47 (fun H locs hP hD hS => ?_)
          replace hP : va_P (dC, dI) vwCl [(a_T, .inr (9, [.int T_guests, .ref a_T_kinds, .int T_wishes, .ref a_T_wishKind, .ref a_T_wishA, .ref a_T_wishB, .int T_begins, .ref a_T_st, .int T_acts, .ref a_T_was, .int T_keeps, .ref a_T_kept, .int T_wokes, .ref a_T_woke, .ref a_T_text, .int T_texted, .int T_at_3, .ref a_T_told, .int T_readGuests, .ref a_T_readKinds, .ref a_T_readFloors, .int T_readWishes, .ref a_T_readWishKind, .ref a_T_readWishA, .ref a_T_readWishB, .int T_readBegins, .int T_here, .int T_stands, .int T_many, .int T_rounds, .ref a_T_come, .ref a_T_keptBy, .ref a_T_endsAt, .ref a_T_order, .ref a_T_time, .ref a_T_place])), (a_T_text, .inl (cI, 200, .inl T_text)), (a_T_told, .inl (cI, 2, .inl T_told_3))] H := hP
          replace hD : va_D A [(a_T, .inr (9, [.int T_guests, .ref a_T_kinds, .int T_wishes, .ref a_T_wishKind, .ref a_T_wishA, .ref a_T_wishB, .int T_begins, .ref a_T_st, .int T_acts, .ref a_T_was, .int T_keeps, .ref a_T_kept, .int T_wokes, .ref a_T_woke, .ref a_T_text, .int T_texted, .int T_at_3, .ref a_T_told, .int T_readGuests, .ref a_T_readKinds, .ref a_T_readFloors, .int T_readWishes, .ref a_T_readWishKind, .ref a_T_readWishA, .ref a_T_readWishB, .int T_readBegins, .int T_here, .int T_stands, .int T_many, .int T_rounds, .ref a_T_come, .ref a_T_keptBy, .ref a_T_endsAt, .ref a_T_order, .ref a_T_time, .ref a_T_place])), (a_T_text, .inl (cI, 200, .inl T_text)), (a_T_told, .inl (cI, 2, .inl T_told_3))] := hD
          refine lv_aload_n hx hb dX9_readNumbers_50 rfl (lv_at hl 0 rfl) ?_
          refine lv_aload_n hx hb dX9_readNumbers_51 rfl (lv_at hl 0 rfl) ?_
          refine va_get (D := (dC, dI)) (ci := 9) (v := .int T_at_3) (C := RX9) (T := TX9) (N := 36) hx hb hts inX9_readNumbers_X9 hown hK hP 0 rfl rfl 16 (by decide) (hts _ mbX9_readNumbers_0) (fun _ h9 => h9) rfl dX9_readNumbers_52 ?_
          obtain ⟨r_3, hc4, hr⟩ := bd1_some hr
          refine call_i (D := (dC, dI)) (tys := tysA cC cI cJ) (wc := [(a_T, .inr (9, [.int T_guests, .ref a_T_kinds, .int T_wishes, .ref a_T_wishKind, .ref a_T_wishA, .ref a_T_wishB, .int T_begins, .ref a_T_st, .int T_acts, .ref a_T_was, .int T_keeps, .ref a_T_kept, .int T_wokes, .ref a_T_woke, .ref a_T_text, .int T_texted, .int T_at_3, .ref a_T_told, .int T_readGuests, .ref a_T_readKinds, .ref a_T_readFloors, .int T_readWishes, .ref a_T_readWishKind, .ref a_T_readWishA, .ref a_T_readWishB, .int T_readBegins, .int T_here, .int T_stands, .int T_many, .int T_rounds, .ref a_T_come, .ref a_T_keptBy, .ref a_T_endsAt, .ref a_T_order, .ref a_T_time, .ref a_T_place])), (a_T_text, .inl (cI, 200, .inl T_text))]) (wr := [(a_T_told, .inl (cI, 2, .inl T_told_3))]) (w1 := [(a_T, .inr (9, [.int T_guests, .ref a_T_kinds, .int T_wishes, .ref a_T_wishKind, .ref a_T_wishA, .ref a_T_wishB, .int T_begins, .ref a_T_st, .int T_acts, .ref a_T_was, .int T_keeps, .ref a_T_kept, .int T_wokes, .ref a_T_woke, .ref a_T_text, .int T_texted, .int T_at_3, .ref a_T_told, .int T_readGuests, .ref a_T_readKinds, .ref a_T_readFloors, .int T_readWishes, .ref a_T_readWishKind, .ref a_T_readWishA, .ref a_T_readWishB, .int T_readBegins, .int T_here, .int T_stands, .int T_many, .int T_rounds, .ref a_T_come, .ref a_T_keptBy, .ref a_T_endsAt, .ref a_T_order, .ref a_T_time, .ref a_T_place])), (a_T_text, .inl (cI, 200, .inl T_text))]) (wn := [(a_T, .inr (9, [.int T_guests, .ref a_T_kinds, .int T_wishes, .ref a_T_wishKind, .ref a_T_wishA, .ref a_T_wishB, .int T_begins, .ref a_T_st, .int T_acts, .ref a_T_was, .int T_keeps, .ref a_T_kept, .int T_wokes, .ref a_T_woke, .ref a_T_text, .int T_texted, .int T_at_3, .ref a_T_told, .int T_readGuests, .ref a_T_readKinds, .ref a_T_readFloors, .int T_readWishes, .ref a_T_readWishKind, .ref a_T_readWishA, .ref a_T_readWishB, .int T_readBegins, .int T_here, .int T_stands, .int T_many, .int T_rounds, .ref a_T_come, .ref a_T_keptBy, .ref a_T_endsAt, .ref a_T_order, .ref a_T_time, .ref a_T_place])), (a_T_text, .inl (cI, 200, .inl T_text)), (a_T_told, .inl (cI, 2, .inl T_told_3))]) (r0 := r_3) hP hD hS hA [0, 1] [2] [1, 2, 0] rfl rfl (by decide +kernel) (by decide +kernel) rfl (by decide +kernel) (va_runV (As := [.int T_at_3]) (rest := []) ⟨hx, hb, hml, hown, hts⟩ (kX9_letterAt l dC dI cC cI cJ H.size K a_T a_T_kinds a_T_wishKind a_T_wishA a_T_wishB a_T_st a_T_was a_T_kept a_T_woke a_T_text a_T_told a_T_readKinds a_T_readFloors a_T_readWishKind a_T_readWishA a_T_readWishB a_T_come a_T_keptBy a_T_endsAt a_T_order a_T_time a_T_place T_at_3 T_guests T_wishes T_begins T_acts T_keeps T_wokes T_texted T_at_3 T_readGuests T_readWishes T_readBegins T_here T_stands T_many T_rounds T_text r_3 hc4) (cwV 1 hts gX9_readNumbers_X9_letterAt rfl rfl rfl (by decide +kernel) ⟨Nat.le_of_ble_eq_true rfl, Nat.le_of_ble_eq_true rfl⟩) ⟨fbW, va_recv hK hP (ci := 9) (q0 := 0) rfl rfl, preW hP hD hK hN [0, 1] rfl (by decide +kernel)⟩ rfl rfl hl.1 rfl (lv_room (Nat.le_of_ble_eq_true rfl)) dX9_readNumbers_55 ⟨Nat.zero_le _, Nat.zero_le _⟩) (fun H locs hP hD hS => ?_)
          obtain ⟨r_4, hc5, hr⟩ := bd1_some hr
          refine call_i (D := (dC, dI)) (tys := tysA cC cI cJ) (wc := []) (wr := [(a_T, .inr (9, [.int T_guests, .ref a_T_kinds, .int T_wishes, .ref a_T_wishKind, .ref a_T_wishA, .ref a_T_wishB, .int T_begins, .ref a_T_st, .int T_acts, .ref a_T_was, .int T_keeps, .ref a_T_kept, .int T_wokes, .ref a_T_woke, .ref a_T_text, .int T_texted, .int T_at_3, .ref a_T_told, .int T_readGuests, .ref a_T_readKinds, .ref a_T_readFloors, .int T_readWishes, .ref a_T_readWishKind, .ref a_T_readWishA, .ref a_T_readWishB, .int T_readBegins, .int T_here, .int T_stands, .int T_many, .int T_rounds, .ref a_T_come, .ref a_T_keptBy, .ref a_T_endsAt, .ref a_T_order, .ref a_T_time, .ref a_T_place])), (a_T_text, .inl (cI, 200, .inl T_text)), (a_T_told, .inl (cI, 2, .inl T_told_3))]) (w1 := []) (wn := [(a_T, .inr (9, [.int T_guests, .ref a_T_kinds, .int T_wishes, .ref a_T_wishKind, .ref a_T_wishA, .ref a_T_wishB, .int T_begins, .ref a_T_st, .int T_acts, .ref a_T_was, .int T_keeps, .ref a_T_kept, .int T_wokes, .ref a_T_woke, .ref a_T_text, .int T_texted, .int T_at_3, .ref a_T_told, .int T_readGuests, .ref a_T_readKinds, .ref a_T_readFloors, .int T_readWishes, .ref a_T_readWishKind, .ref a_T_readWishA, .ref a_T_readWishB, .int T_readBegins, .int T_here, .int T_stands, .int T_many, .int T_rounds, .ref a_T_come, .ref a_T_keptBy, .ref a_T_endsAt, .ref a_T_order, .ref a_T_time, .ref a_T_place])), (a_T_text, .inl (cI, 200, .inl T_text)), (a_T_told, .inl (cI, 2, .inl T_told_3))]) (r0 := r_4) hP hD hS hA [] [0, 1, 2] [0, 1, 2] rfl rfl (by decide +kernel) (by decide +kernel) rfl (by decide +kernel) (va_runS (As := [.int r_3]) (rest := []) ⟨hx, hb, hml, hown, hts⟩ (kX9_isFigure l dC dI cC cI cJ H.size K r_3 r_4 hc5) (va_cwS 1 hts gX9_readNumbers_X9_isFigure rfl rfl rfl (by decide +kernel) ⟨Nat.le_of_ble_eq_true rfl, Nat.le_of_ble_eq_true rfl⟩) ⟨fbW, preW hP hD hK hN [] rfl (by decide +kernel)⟩ rfl rfl hl.1 rfl (lv_room (Nat.le_of_ble_eq_true rfl)) dX9_readNumbers_58 ⟨Nat.zero_le _, Nat.zero_le _⟩) (fun H locs hP hD hS => ?_)
          obtain ⟨T_at_5, T_told_5, hj2, hr⟩ := bd2_some hr
          have hJ1 : WG p l e rmX9_readNumbers s m ([.ref a_T, .int x1] : List Value).toArray below meth c 0 0 Q (dC, dI) A 101 3 [(a_T, .inr (9, [.int T_guests, .ref a_T_kinds, .int T_wishes, .ref a_T_wishKind, .ref a_T_wishA, .ref a_T_wishB, .int T_begins, .ref a_T_st, .int T_acts, .ref a_T_was, .int T_keeps, .ref a_T_kept, .int T_wokes, .ref a_T_woke, .ref a_T_text, .int T_texted, .int T_at_5, .ref a_T_told, .int T_readGuests, .ref a_T_readKinds, .ref a_T_readFloors, .int T_readWishes, .ref a_T_readWishKind, .ref a_T_readWishA, .ref a_T_readWishB, .int T_readBegins, .int T_here, .int T_stands, .int T_many, .int T_rounds, .ref a_T_come, .ref a_T_keptBy, .ref a_T_endsAt, .ref a_T_order, .ref a_T_time, .ref a_T_place])), (a_T_text, .inl (cI, 200, .inl T_text)), (a_T_told, .inl (cI, 2, .inl T_told_5))] [(0, .ref a_T), (1, .int x1), (2, .int x2)] [] := by
            intro H locs ls hP hD hS hl
            refine lv_aload_n hx hb dX9_readNumbers_101 rfl (lv_at hl 0 rfl) ?_
            refine lv_aload_n hx hb dX9_readNumbers_102 rfl (lv_at hl 0 rfl) ?_
            refine va_get (D := (dC, dI)) (ci := 9) (v := .int T_at_5) (C := RX9) (T := TX9) (N := 36) hx hb hts inX9_readNumbers_X9 hown hK hP 0 rfl rfl 16 (by decide) (hts _ mbX9_readNumbers_0) (fun _ h9 => h9) rfl dX9_readNumbers_103 ?_
            obtain ⟨r_6, hc7, hr⟩ := bd1_some hr
            refine call_i (D := (dC, dI)) (tys := tysA cC cI cJ) (wc := [(a_T, .inr (9, [.int T_guests, .ref a_T_kinds, .int T_wishes, .ref a_T_wishKind, .ref a_T_wishA, .ref a_T_wishB, .int T_begins, .ref a_T_st, .int T_acts, .ref a_T_was, .int T_keeps, .ref a_T_kept, .int T_wokes, .ref a_T_woke, .ref a_T_text, .int T_texted, .int T_at_5, .ref a_T_told, .int T_readGuests, .ref a_T_readKinds, .ref a_T_readFloors, .int T_readWishes, .ref a_T_readWishKind, .ref a_T_readWishA, .ref a_T_readWishB, .int T_readBegins, .int T_here, .int T_stands, .int T_many, .int T_rounds, .ref a_T_come, .ref a_T_keptBy, .ref a_T_endsAt, .ref a_T_order, .ref a_T_time, .ref a_T_place])), (a_T_text, .inl (cI, 200, .inl T_text))]) (wr := [(a_T_told, .inl (cI, 2, .inl T_told_5))]) (w1 := [(a_T, .inr (9, [.int T_guests, .ref a_T_kinds, .int T_wishes, .ref a_T_wishKind, .ref a_T_wishA, .ref a_T_wishB, .int T_begins, .ref a_T_st, .int T_acts, .ref a_T_was, .int T_keeps, .ref a_T_kept, .int T_wokes, .ref a_T_woke, .ref a_T_text, .int T_texted, .int T_at_5, .ref a_T_told, .int T_readGuests, .ref a_T_readKinds, .ref a_T_readFloors, .int T_readWishes, .ref a_T_readWishKind, .ref a_T_readWishA, .ref a_T_readWishB, .int T_readBegins, .int T_here, .int T_stands, .int T_many, .int T_rounds, .ref a_T_come, .ref a_T_keptBy, .ref a_T_endsAt, .ref a_T_order, .ref a_T_time, .ref a_T_place])), (a_T_text, .inl (cI, 200, .inl T_text))]) (wn := [(a_T, .inr (9, [.int T_guests, .ref a_T_kinds, .int T_wishes, .ref a_T_wishKind, .ref a_T_wishA, .ref a_T_wishB, .int T_begins, .ref a_T_st, .int T_acts, .ref a_T_was, .int T_keeps, .ref a_T_kept, .int T_wokes, .ref a_T_woke, .ref a_T_text, .int T_texted, .int T_at_5, .ref a_T_told, .int T_readGuests, .ref a_T_readKinds, .ref a_T_readFloors, .int T_readWishes, .ref a_T_readWishKind, .ref a_T_readWishA, .ref a_T_readWishB, .int T_readBegins, .int T_here, .int T_stands, .int T_many, .int T_rounds, .ref a_T_come, .ref a_T_keptBy, .ref a_T_endsAt, .ref a_T_order, .ref a_T_time, .ref a_T_place])), (a_T_text, .inl (cI, 200, .inl T_text)), (a_T_told, .inl (cI, 2, .inl T_told_5))]) (r0 := r_6) hP hD hS hA [0, 1] [2] [1, 2, 0] rfl rfl (by decide +kernel) (by decide +kernel) rfl (by decide +kernel) (va_runV (As := [.int T_at_5]) (rest := []) ⟨hx, hb, hml, hown, hts⟩ (kX9_letterAt l dC dI cC cI cJ H.size K a_T a_T_kinds a_T_wishKind a_T_wishA a_T_wishB a_T_st a_T_was a_T_kept a_T_woke a_T_text a_T_told a_T_readKinds a_T_readFloors a_T_readWishKind a_T_readWishA a_T_readWishB a_T_come a_T_keptBy a_T_endsAt a_T_order a_T_time a_T_place T_at_5 T_guests T_wishes T_begins T_acts T_keeps T_wokes T_texted T_at_5 T_readGuests T_readWishes T_readBegins T_here T_stands T_many T_rounds T_text r_6 hc7) (cwV 1 hts gX9_readNumbers_X9_letterAt rfl rfl rfl (by decide +kernel) ⟨Nat.le_of_ble_eq_true rfl, Nat.le_of_ble_eq_true rfl⟩) ⟨fbW, va_recv hK hP (ci := 9) (q0 := 0) rfl rfl, preW hP hD hK hN [0, 1] rfl (by decide +kernel)⟩ rfl rfl hl.1 rfl (lv_room (Nat.le_of_ble_eq_true rfl)) dX9_readNumbers_106 ⟨Nat.zero_le _, Nat.zero_le _⟩) (fun H locs hP hD hS => ?_)
            refine lv_iload_n hx hb dX9_readNumbers_109 rfl (lv_at hl 2 rfl) ?_
            refine lv_iload_n hx hb dX9_readNumbers_110 rfl (lv_at hl 1 rfl) ?_
            refine lv_iconst (v := 1) hx hb dX9_readNumbers_111 (by decide) ?_
            refine lv_isub hx hb dX9_readNumbers_112 ?_
            obtain ⟨y, hj1, hr⟩ := bd1_some hr
            have hJ2 : WG p l e rmX9_readNumbers s m ([.ref a_T, .int x1] : List Value).toArray below meth c 0 0 Q (dC, dI) A 123 3 [(a_T, .inr (9, [.int T_guests, .ref a_T_kinds, .int T_wishes, .ref a_T_wishKind, .ref a_T_wishA, .ref a_T_wishB, .int T_begins, .ref a_T_st, .int T_acts, .ref a_T_was, .int T_keeps, .ref a_T_kept, .int T_wokes, .ref a_T_woke, .ref a_T_text, .int T_texted, .int T_at_5, .ref a_T_told, .int T_readGuests, .ref a_T_readKinds, .ref a_T_readFloors, .int T_readWishes, .ref a_T_readWishKind, .ref a_T_readWishA, .ref a_T_readWishB, .int T_readBegins, .int T_here, .int T_stands, .int T_many, .int T_rounds, .ref a_T_come, .ref a_T_keptBy, .ref a_T_endsAt, .ref a_T_order, .ref a_T_time, .ref a_T_place])), (a_T_text, .inl (cI, 200, .inl T_text)), (a_T_told, .inl (cI, 2, .inl T_told_5))] [(0, .ref a_T), (1, .int x1), (2, .int x2)] [.int y, .int r_6] := by
              intro H locs ls hP hD hS hl
              refine lv_icmp_eq (tgt := 128) hx hb dX9_readNumbers_123 (by decide) (fun c5 => ?_) (fun c5 => ?_)
              · replace hr := it_t hr c5
                refine lv_aload_n hx hb dX9_readNumbers_128 rfl (lv_at hl 0 rfl) ?_
                refine lv_dup hx hb dX9_readNumbers_129 rfl ?_
                refine va_get (D := (dC, dI)) (ci := 9) (v := .int T_at_5) (C := RX9) (T := TX9) (N := 36) hx hb hts inX9_readNumbers_X9 hown hK hP 0 rfl rfl 16 (by decide) (hts _ mbX9_readNumbers_0) (fun _ h9 => h9) rfl dX9_readNumbers_130 ?_
                refine lv_iconst (v := 1) hx hb dX9_readNumbers_133 (by decide) ?_
                refine lv_iadd hx hb dX9_readNumbers_134 ?_
                obtain ⟨T_at_6, e5, hr⟩ := nm_el hr
                refine lv_nmi e5 ?_
                refine va_put (D := (dC, dI)) (ci := 9) (v := .int T_at_6) (ty := .int) (C := RX9) (T := TX9) (N := 36) hx hb hts inX9_readNumbers_X9 tyX9 tyX9_ok nmX9 hown hK hP hD hS 0 rfl rfl 16 (by decide) (hts _ mbX9_readNumbers_0) (fun _ h9 => h9) rfl (by decide +kernel) rfl rfl (Nat.le_of_ble_eq_true rfl) dX9_readNumbers_135 (fun H locs hP hD hS => ?_)
                replace hP : va_P (dC, dI) vwCl [(a_T, .inr (9, [.int T_guests, .ref a_T_kinds, .int T_wishes, .ref a_T_wishKind, .ref a_T_wishA, .ref a_T_wishB, .int T_begins, .ref a_T_st, .int T_acts, .ref a_T_was, .int T_keeps, .ref a_T_kept, .int T_wokes, .ref a_T_woke, .ref a_T_text, .int T_texted, .int T_at_6, .ref a_T_told, .int T_readGuests, .ref a_T_readKinds, .ref a_T_readFloors, .int T_readWishes, .ref a_T_readWishKind, .ref a_T_readWishA, .ref a_T_readWishB, .int T_readBegins, .int T_here, .int T_stands, .int T_many, .int T_rounds, .ref a_T_come, .ref a_T_keptBy, .ref a_T_endsAt, .ref a_T_order, .ref a_T_time, .ref a_T_place])), (a_T_text, .inl (cI, 200, .inl T_text)), (a_T_told, .inl (cI, 2, .inl T_told_5))] H := hP
                replace hD : va_D A [(a_T, .inr (9, [.int T_guests, .ref a_T_kinds, .int T_wishes, .ref a_T_wishKind, .ref a_T_wishA, .ref a_T_wishB, .int T_begins, .ref a_T_st, .int T_acts, .ref a_T_was, .int T_keeps, .ref a_T_kept, .int T_wokes, .ref a_T_woke, .ref a_T_text, .int T_texted, .int T_at_6, .ref a_T_told, .int T_readGuests, .ref a_T_readKinds, .ref a_T_readFloors, .int T_readWishes, .ref a_T_readWishKind, .ref a_T_readWishA, .ref a_T_readWishB, .int T_readBegins, .int T_here, .int T_stands, .int T_many, .int T_rounds, .ref a_T_come, .ref a_T_keptBy, .ref a_T_endsAt, .ref a_T_order, .ref a_T_time, .ref a_T_place])), (a_T_text, .inl (cI, 200, .inl T_text)), (a_T_told, .inl (cI, 2, .inl T_told_5))] := hD
                obtain ⟨x2_1, e6, hr⟩ := nm_el hr
                refine lv_iinc (v := x2_1) (lv' := [(2, .int x2_1), (0, .ref a_T), (1, .int x1)]) hx hb dX9_readNumbers_138 hl (k := 2) rfl e6.symm (by decide) rfl (fun ls hl => ?_)
                refine lv_goto (tgt := 2) hx hb dX9_readNumbers_141 (by decide) ?_
                exact ih2 _ _ _ _ hr hi1 hX1 H locs ls hP hD hS (lv_sub hl [1, 2, 0] rfl)
              · replace hr := it_f hr c5
                refine lv_iconst (v := 0) hx hb dX9_readNumbers_126 (by decide) ?_
                have he := Option.some.inj hr
                replace he := hi1 _ he.symm
                subst he
                subst hQ
                exact ret_z hx hb hrt (show narrow .boolean (.int 0) = .int 0 from rfl) hK hP hD hS hlocks dX9_readNumbers_127
            replace hr := hj1
            refine lv_icmp_ge (tgt := 121) hx hb dX9_readNumbers_113 (by decide) (fun c4 => ?_) (fun c4 => ?_)
            · replace hr := it_t hr c4
              refine lv_bipush (v := 59) hx hb dX9_readNumbers_121 (by decide) ?_
              cases hr
              exact hJ2 H locs ls hP hD hS (lv_sub hl [0, 1, 2] rfl)
            · replace hr := it_f hr c4
              refine lv_bipush (v := 44) hx hb dX9_readNumbers_116 (by decide) ?_
              refine lv_goto (tgt := 123) hx hb dX9_readNumbers_118 (by decide) ?_
              cases hr
              exact hJ2 H locs ls hP hD hS (lv_sub hl [0, 1, 2] rfl)
          replace hr := hj2
          refine lv_if_eq (tgt := 101) hx hb dX9_readNumbers_61 (by decide) (fun c3 => ?_) (fun c3 => ?_)
          · replace hr := it_t hr c3
            cases hr
            exact hJ1 H locs ls hP hD hS (lv_sub hl [0, 1, 2] rfl)
          · replace hr := it_f hr c3
            refine lv_aload_n hx hb dX9_readNumbers_64 rfl (lv_at hl 0 rfl) ?_
            refine va_get (D := (dC, dI)) (ci := 9) (v := .ref a_T_told) (C := RX9) (T := TX9) (N := 36) hx hb hts inX9_readNumbers_X9 hown hK hP 0 rfl rfl 17 (by decide) (hts _ mbX9_readNumbers_2) (fun _ h9 => h9) rfl dX9_readNumbers_65 ?_
            refine lv_iload_n hx hb dX9_readNumbers_68 rfl (lv_at hl 2 rfl) ?_
            refine lv_bipush (v := 10) hx hb dX9_readNumbers_69 (by decide) ?_
            refine lv_aload_n hx hb dX9_readNumbers_71 rfl (lv_at hl 0 rfl) ?_
            refine va_get (D := (dC, dI)) (ci := 9) (v := .ref a_T_told) (C := RX9) (T := TX9) (N := 36) hx hb hts inX9_readNumbers_X9 hown hK hP 0 rfl rfl 17 (by decide) (hts _ mbX9_readNumbers_2) (fun _ h9 => h9) rfl dX9_readNumbers_72 ?_
            refine lv_iload_n hx hb dX9_readNumbers_75 rfl (lv_at hl 2 rfl) ?_
            obtain ⟨g2, hr⟩ := gd_some hr
            refine va_iald hx hb hK hP 2 1 rfl rfl g2 dX9_readNumbers_76 ?_
            refine lv_imul hx hb dX9_readNumbers_77 ?_
            refine lv_aload_n hx hb dX9_readNumbers_78 rfl (lv_at hl 0 rfl) ?_
            refine lv_aload_n hx hb dX9_readNumbers_79 rfl (lv_at hl 0 rfl) ?_
            refine va_get (D := (dC, dI)) (ci := 9) (v := .int T_at_3) (C := RX9) (T := TX9) (N := 36) hx hb hts inX9_readNumbers_X9 hown hK hP 0 rfl rfl 16 (by decide) (hts _ mbX9_readNumbers_0) (fun _ h9 => h9) rfl dX9_readNumbers_80 ?_
            obtain ⟨r_5, hc6, hr⟩ := bd1_some hr
            refine call_i (D := (dC, dI)) (tys := tysA cC cI cJ) (wc := [(a_T, .inr (9, [.int T_guests, .ref a_T_kinds, .int T_wishes, .ref a_T_wishKind, .ref a_T_wishA, .ref a_T_wishB, .int T_begins, .ref a_T_st, .int T_acts, .ref a_T_was, .int T_keeps, .ref a_T_kept, .int T_wokes, .ref a_T_woke, .ref a_T_text, .int T_texted, .int T_at_3, .ref a_T_told, .int T_readGuests, .ref a_T_readKinds, .ref a_T_readFloors, .int T_readWishes, .ref a_T_readWishKind, .ref a_T_readWishA, .ref a_T_readWishB, .int T_readBegins, .int T_here, .int T_stands, .int T_many, .int T_rounds, .ref a_T_come, .ref a_T_keptBy, .ref a_T_endsAt, .ref a_T_order, .ref a_T_time, .ref a_T_place])), (a_T_text, .inl (cI, 200, .inl T_text))]) (wr := [(a_T_told, .inl (cI, 2, .inl T_told_3))]) (w1 := [(a_T, .inr (9, [.int T_guests, .ref a_T_kinds, .int T_wishes, .ref a_T_wishKind, .ref a_T_wishA, .ref a_T_wishB, .int T_begins, .ref a_T_st, .int T_acts, .ref a_T_was, .int T_keeps, .ref a_T_kept, .int T_wokes, .ref a_T_woke, .ref a_T_text, .int T_texted, .int T_at_3, .ref a_T_told, .int T_readGuests, .ref a_T_readKinds, .ref a_T_readFloors, .int T_readWishes, .ref a_T_readWishKind, .ref a_T_readWishA, .ref a_T_readWishB, .int T_readBegins, .int T_here, .int T_stands, .int T_many, .int T_rounds, .ref a_T_come, .ref a_T_keptBy, .ref a_T_endsAt, .ref a_T_order, .ref a_T_time, .ref a_T_place])), (a_T_text, .inl (cI, 200, .inl T_text))]) (wn := [(a_T, .inr (9, [.int T_guests, .ref a_T_kinds, .int T_wishes, .ref a_T_wishKind, .ref a_T_wishA, .ref a_T_wishB, .int T_begins, .ref a_T_st, .int T_acts, .ref a_T_was, .int T_keeps, .ref a_T_kept, .int T_wokes, .ref a_T_woke, .ref a_T_text, .int T_texted, .int T_at_3, .ref a_T_told, .int T_readGuests, .ref a_T_readKinds, .ref a_T_readFloors, .int T_readWishes, .ref a_T_readWishKind, .ref a_T_readWishA, .ref a_T_readWishB, .int T_readBegins, .int T_here, .int T_stands, .int T_many, .int T_rounds, .ref a_T_come, .ref a_T_keptBy, .ref a_T_endsAt, .ref a_T_order, .ref a_T_time, .ref a_T_place])), (a_T_text, .inl (cI, 200, .inl T_text)), (a_T_told, .inl (cI, 2, .inl T_told_3))]) (r0 := r_5) hP hD hS hA [0, 1] [2] [1, 2, 0] rfl rfl (by decide +kernel) (by decide +kernel) rfl (by decide +kernel) (va_runV (As := [.int T_at_3]) (rest := [.int (10 * (T_told_3 x2.toNatClampNeg)), .int x2, .ref a_T_told]) ⟨hx, hb, hml, hown, hts⟩ (kX9_letterAt l dC dI cC cI cJ H.size K a_T a_T_kinds a_T_wishKind a_T_wishA a_T_wishB a_T_st a_T_was a_T_kept a_T_woke a_T_text a_T_told a_T_readKinds a_T_readFloors a_T_readWishKind a_T_readWishA a_T_readWishB a_T_come a_T_keptBy a_T_endsAt a_T_order a_T_time a_T_place T_at_3 T_guests T_wishes T_begins T_acts T_keeps T_wokes T_texted T_at_3 T_readGuests T_readWishes T_readBegins T_here T_stands T_many T_rounds T_text r_5 hc6) (cwV 1 hts gX9_readNumbers_X9_letterAt rfl rfl rfl (by decide +kernel) ⟨Nat.le_of_ble_eq_true rfl, Nat.le_of_ble_eq_true rfl⟩) ⟨fbW, va_recv hK hP (ci := 9) (q0 := 0) rfl rfl, preW hP hD hK hN [0, 1] rfl (by decide +kernel)⟩ rfl rfl hl.1 rfl (lv_room (Nat.le_of_ble_eq_true rfl)) dX9_readNumbers_83 ⟨Nat.zero_le _, Nat.zero_le _⟩) (fun H locs hP hD hS => ?_)
            refine lv_iadd hx hb dX9_readNumbers_86 ?_
            refine lv_bipush (v := 48) hx hb dX9_readNumbers_87 (by decide) ?_
            refine lv_isub hx hb dX9_readNumbers_89 ?_
            obtain ⟨g3, hr⟩ := gd_some hr
            obtain ⟨T_told_4, e3, hr⟩ := nm_el hr
            refine va_iast hx hb hK hP hD hS 2 1 rfl rfl g3 dX9_readNumbers_90 (fun H locs hP hD hS => ?_)
            rw [← e3] at hP hD
            replace hP : va_P (dC, dI) vwCl [(a_T, .inr (9, [.int T_guests, .ref a_T_kinds, .int T_wishes, .ref a_T_wishKind, .ref a_T_wishA, .ref a_T_wishB, .int T_begins, .ref a_T_st, .int T_acts, .ref a_T_was, .int T_keeps, .ref a_T_kept, .int T_wokes, .ref a_T_woke, .ref a_T_text, .int T_texted, .int T_at_3, .ref a_T_told, .int T_readGuests, .ref a_T_readKinds, .ref a_T_readFloors, .int T_readWishes, .ref a_T_readWishKind, .ref a_T_readWishA, .ref a_T_readWishB, .int T_readBegins, .int T_here, .int T_stands, .int T_many, .int T_rounds, .ref a_T_come, .ref a_T_keptBy, .ref a_T_endsAt, .ref a_T_order, .ref a_T_time, .ref a_T_place])), (a_T_text, .inl (cI, 200, .inl T_text)), (a_T_told, .inl (cI, 2, .inl T_told_4))] H := hP
            replace hD : va_D A [(a_T, .inr (9, [.int T_guests, .ref a_T_kinds, .int T_wishes, .ref a_T_wishKind, .ref a_T_wishA, .ref a_T_wishB, .int T_begins, .ref a_T_st, .int T_acts, .ref a_T_was, .int T_keeps, .ref a_T_kept, .int T_wokes, .ref a_T_woke, .ref a_T_text, .int T_texted, .int T_at_3, .ref a_T_told, .int T_readGuests, .ref a_T_readKinds, .ref a_T_readFloors, .int T_readWishes, .ref a_T_readWishKind, .ref a_T_readWishA, .ref a_T_readWishB, .int T_readBegins, .int T_here, .int T_stands, .int T_many, .int T_rounds, .ref a_T_come, .ref a_T_keptBy, .ref a_T_endsAt, .ref a_T_order, .ref a_T_time, .ref a_T_place])), (a_T_text, .inl (cI, 200, .inl T_text)), (a_T_told, .inl (cI, 2, .inl T_told_4))] := hD
            refine lv_aload_n hx hb dX9_readNumbers_91 rfl (lv_at hl 0 rfl) ?_
            refine lv_dup hx hb dX9_readNumbers_92 rfl ?_
            refine va_get (D := (dC, dI)) (ci := 9) (v := .int T_at_3) (C := RX9) (T := TX9) (N := 36) hx hb hts inX9_readNumbers_X9 hown hK hP 0 rfl rfl 16 (by decide) (hts _ mbX9_readNumbers_0) (fun _ h9 => h9) rfl dX9_readNumbers_93 ?_
            refine lv_iconst (v := 1) hx hb dX9_readNumbers_96 (by decide) ?_
            refine lv_iadd hx hb dX9_readNumbers_97 ?_
            obtain ⟨T_at_4, e4, hr⟩ := nm_el hr
            refine lv_nmi e4 ?_
            refine va_put (D := (dC, dI)) (ci := 9) (v := .int T_at_4) (ty := .int) (C := RX9) (T := TX9) (N := 36) hx hb hts inX9_readNumbers_X9 tyX9 tyX9_ok nmX9 hown hK hP hD hS 0 rfl rfl 16 (by decide) (hts _ mbX9_readNumbers_0) (fun _ h9 => h9) rfl (by decide +kernel) rfl rfl (Nat.le_of_ble_eq_true rfl) dX9_readNumbers_98 (fun H locs hP hD hS => ?_)
            replace hP : va_P (dC, dI) vwCl [(a_T, .inr (9, [.int T_guests, .ref a_T_kinds, .int T_wishes, .ref a_T_wishKind, .ref a_T_wishA, .ref a_T_wishB, .int T_begins, .ref a_T_st, .int T_acts, .ref a_T_was, .int T_keeps, .ref a_T_kept, .int T_wokes, .ref a_T_woke, .ref a_T_text, .int T_texted, .int T_at_4, .ref a_T_told, .int T_readGuests, .ref a_T_readKinds, .ref a_T_readFloors, .int T_readWishes, .ref a_T_readWishKind, .ref a_T_readWishA, .ref a_T_readWishB, .int T_readBegins, .int T_here, .int T_stands, .int T_many, .int T_rounds, .ref a_T_come, .ref a_T_keptBy, .ref a_T_endsAt, .ref a_T_order, .ref a_T_time, .ref a_T_place])), (a_T_text, .inl (cI, 200, .inl T_text)), (a_T_told, .inl (cI, 2, .inl T_told_4))] H := hP
            replace hD : va_D A [(a_T, .inr (9, [.int T_guests, .ref a_T_kinds, .int T_wishes, .ref a_T_wishKind, .ref a_T_wishA, .ref a_T_wishB, .int T_begins, .ref a_T_st, .int T_acts, .ref a_T_was, .int T_keeps, .ref a_T_kept, .int T_wokes, .ref a_T_woke, .ref a_T_text, .int T_texted, .int T_at_4, .ref a_T_told, .int T_readGuests, .ref a_T_readKinds, .ref a_T_readFloors, .int T_readWishes, .ref a_T_readWishKind, .ref a_T_readWishA, .ref a_T_readWishB, .int T_readBegins, .int T_here, .int T_stands, .int T_many, .int T_rounds, .ref a_T_come, .ref a_T_keptBy, .ref a_T_endsAt, .ref a_T_order, .ref a_T_time, .ref a_T_place])), (a_T_text, .inl (cI, 200, .inl T_text)), (a_T_told, .inl (cI, 2, .inl T_told_4))] := hD
            cases hr
            exact hJ1 H locs ls hP hD hS (lv_sub hl [0, 1, 2] rfl)
        · replace hr := it_t hr c2
          refine lv_iconst (v := 0) hx hb dX9_readNumbers_21 (by decide) ?_
          have he := Option.some.inj hr
          replace he := hi1 _ he.symm
          subst he
          subst hQ
          exact ret_z hx hb hrt (show narrow .boolean (.int 0) = .int 0 from rfl) hK hP hD hS hlocks dX9_readNumbers_22
  obtain ⟨XE, hE, hi0, hk⟩ := bs2_some hr
  refine hL1 K 0 T_at T_told XE hE hi0 ?_ H locs ls hP hD hS (lv_sub hl [1, 2, 0] rfl)
  intro T_at_2 T_told_2 he H locs ls hP hD hS hl
  replace hr := hk T_at_2 T_told_2 he
  refine lv_iconst (v := 1) hx hb dX9_readNumbers_144 (by decide) ?_
  have he := Option.some.inj hr
  subst he
  subst hQ
  exact ret_z hx hb hrt (show narrow .boolean (.int 1) = .int 1 from rfl) hK hP hD hS hlocks dX9_readNumbers_145
def fX9_isTold (K : Nat) (x1 : Int32) (x2 : Int32) (x3 : Int32) (T_told : (Nat → Int32)) : Option (Int32) :=
    gd (¬ ((x1 : Int32) < 0 ∨ 2 ≤ x1.toNatClampNeg)) (
    bd1 (fX9_in K (T_told x1.toNatClampNeg) x2 x3) fun r =>
    gd (vp_nar .boolean r = r) (
    some r))
theorem mbX9_isTold_0 : Cond.fieldLink RX9 37 "BootsAtDawnModel" "told" "[I" ∈ wsX9_isTold := List.mem_of_getElem? (i := 1) rfl
theorem inX9_isTold_X9 : ∀ w ∈ u_ws RX9 TX9 36, w ∈ wsX9_isTold := fun _ h => (List.mem_cons_of_mem _ (List.mem_append_right _ h))
abbrev rmX9_isTold : Room := { frames := 1, cells := 0, slots := 0, locals := 22 }
set_option maxHeartbeats 8000000 in
set_option maxRecDepth 100000 in
theorem kX9_isTold (l : Launch) (dC : Nat → ClassId) (dI : Nat → Nat → Nat) (cC cI cJ : ClassId) (sz : Nat) (K : Nat) (a_T a_T_kinds a_T_wishKind a_T_wishA a_T_wishB a_T_st a_T_was a_T_kept a_T_woke a_T_text a_T_told a_T_readKinds a_T_readFloors a_T_readWishKind a_T_readWishA a_T_readWishB a_T_come a_T_keptBy a_T_endsAt a_T_order a_T_time a_T_place : Nat) (x1 : Int32) (x2 : Int32) (x3 : Int32) (T_guests : Int32) (T_wishes : Int32) (T_begins : Int32) (T_acts : Int32) (T_keeps : Int32) (T_wokes : Int32) (T_texted : Int32) (T_at : Int32) (T_readGuests : Int32) (T_readWishes : Int32) (T_readBegins : Int32) (T_here : Int32) (T_stands : Int32) (T_many : Int32) (T_rounds : Int32) (T_told : (Nat → Int32)) (R : Int32) (hr : fX9_isTold K x1 x2 x3 T_told = some R) : Met l yX9_isTold wsX9_isTold rmX9_isTold (va_Pc ([.ref a_T, .int x1, .int x2, .int x3] : List Value) (PcW (dC, dI) (tysA cC cI cJ) sz [(a_T, .inr (9, [.int T_guests, .ref a_T_kinds, .int T_wishes, .ref a_T_wishKind, .ref a_T_wishA, .ref a_T_wishB, .int T_begins, .ref a_T_st, .int T_acts, .ref a_T_was, .int T_keeps, .ref a_T_kept, .int T_wokes, .ref a_T_woke, .ref a_T_text, .int T_texted, .int T_at, .ref a_T_told, .int T_readGuests, .ref a_T_readKinds, .ref a_T_readFloors, .int T_readWishes, .ref a_T_readWishKind, .ref a_T_readWishA, .ref a_T_readWishB, .int T_readBegins, .int T_here, .int T_stands, .int T_many, .int T_rounds, .ref a_T_come, .ref a_T_keptBy, .ref a_T_endsAt, .ref a_T_order, .ref a_T_time, .ref a_T_place])), (a_T_told, .inl (cI, 2, .inl T_told))])) (va_Qi (fun r (_ : Unit) => r = R) (fun _ => BW (dC, dI) (tysA cC cI cJ) (va_A [(a_T, .inr (9, [.int T_guests, .ref a_T_kinds, .int T_wishes, .ref a_T_wishKind, .ref a_T_wishA, .ref a_T_wishB, .int T_begins, .ref a_T_st, .int T_acts, .ref a_T_was, .int T_keeps, .ref a_T_kept, .int T_wokes, .ref a_T_woke, .ref a_T_text, .int T_texted, .int T_at, .ref a_T_told, .int T_readGuests, .ref a_T_readKinds, .ref a_T_readFloors, .int T_readWishes, .ref a_T_readWishKind, .ref a_T_readWishA, .ref a_T_readWishB, .int T_readBegins, .int T_here, .int T_stands, .int T_many, .int T_rounds, .ref a_T_come, .ref a_T_keptBy, .ref a_T_endsAt, .ref a_T_order, .ref a_T_time, .ref a_T_place])), (a_T_told, .inl (cI, 2, .inl T_told))] sz) [(a_T, .inr (9, [.int T_guests, .ref a_T_kinds, .int T_wishes, .ref a_T_wishKind, .ref a_T_wishA, .ref a_T_wishB, .int T_begins, .ref a_T_st, .int T_acts, .ref a_T_was, .int T_keeps, .ref a_T_kept, .int T_wokes, .ref a_T_woke, .ref a_T_text, .int T_texted, .int T_at, .ref a_T_told, .int T_readGuests, .ref a_T_readKinds, .ref a_T_readFloors, .int T_readWishes, .ref a_T_readWishKind, .ref a_T_readWishA, .ref a_T_readWishB, .int T_readBegins, .int T_here, .int T_stands, .int T_many, .int T_rounds, .ref a_T_come, .ref a_T_keptBy, .ref a_T_endsAt, .ref a_T_order, .ref a_T_time, .ref a_T_place])), (a_T_told, .inl (cI, 2, .inl T_told))]) (va_A [(a_T, .inr (9, [.int T_guests, .ref a_T_kinds, .int T_wishes, .ref a_T_wishKind, .ref a_T_wishA, .ref a_T_wishB, .int T_begins, .ref a_T_st, .int T_acts, .ref a_T_was, .int T_keeps, .ref a_T_kept, .int T_wokes, .ref a_T_woke, .ref a_T_text, .int T_texted, .int T_at, .ref a_T_told, .int T_readGuests, .ref a_T_readKinds, .ref a_T_readFloors, .int T_readWishes, .ref a_T_readWishKind, .ref a_T_readWishA, .ref a_T_readWishB, .int T_readBegins, .int T_here, .int T_stands, .int T_many, .int T_rounds, .ref a_T_come, .ref a_T_keptBy, .ref a_T_endsAt, .ref a_T_order, .ref a_T_time, .ref a_T_place])), (a_T_told, .inl (cI, 2, .inl T_told))] sz)) 0 0 (va_A [(a_T, .inr (9, [.int T_guests, .ref a_T_kinds, .int T_wishes, .ref a_T_wishKind, .ref a_T_wishA, .ref a_T_wishB, .int T_begins, .ref a_T_st, .int T_acts, .ref a_T_was, .int T_keeps, .ref a_T_kept, .int T_wokes, .ref a_T_woke, .ref a_T_text, .int T_texted, .int T_at, .ref a_T_told, .int T_readGuests, .ref a_T_readKinds, .ref a_T_readFloors, .int T_readWishes, .ref a_T_readWishKind, .ref a_T_readWishA, .ref a_T_readWishB, .int T_readBegins, .int T_here, .int T_stands, .int T_many, .int T_rounds, .ref a_T_come, .ref a_T_keptBy, .ref a_T_endsAt, .ref a_T_order, .ref a_T_time, .ref a_T_place])), (a_T_told, .inl (cI, 2, .inl T_told))] sz) := by
  refine Met.ofW (cc := cX9_isTold) (maxL := 4) (ret := (some .boolean)) (by decide) rfl ?_
  intro p e s m args below meth c s₁ B hml hv
  obtain ⟨rfl, hsz, hP, hK, hD0, hN⟩ := hv
  have hx := B.exec
  have hb := B.bytes
  have hrt := B.returns
  have hts := atoms_spec (ws := wsX9_isTold) B.pre
  have hown : s.vm.findClass RX9 = some m.cls := findClass_of_methodNamed B.named
  have hlocks := B.notSynchronized
  subst hsz
  have hD := hD0.self (sz := s.heap.size)
  generalize hAe : va_A [(a_T, .inr (9, [.int T_guests, .ref a_T_kinds, .int T_wishes, .ref a_T_wishKind, .ref a_T_wishA, .ref a_T_wishB, .int T_begins, .ref a_T_st, .int T_acts, .ref a_T_was, .int T_keeps, .ref a_T_kept, .int T_wokes, .ref a_T_woke, .ref a_T_text, .int T_texted, .int T_at, .ref a_T_told, .int T_readGuests, .ref a_T_readKinds, .ref a_T_readFloors, .int T_readWishes, .ref a_T_readWishKind, .ref a_T_readWishA, .ref a_T_readWishB, .int T_readBegins, .int T_here, .int T_stands, .int T_many, .int T_rounds, .ref a_T_come, .ref a_T_keptBy, .ref a_T_endsAt, .ref a_T_order, .ref a_T_time, .ref a_T_place])), (a_T_told, .inl (cI, 2, .inl T_told))] s.heap.size = A at hD ⊢
  have hA : ∀ q : Nat, s.heap.size ≤ q → A q := fun q h => by rw [← hAe]; exact Or.inr h
  have hS : va_S A s.heap s.heap [] := va_S.rf
  have hl := lv_entry ([.ref a_T, .int x1, .int x2, .int x3] : List Value) (n := 4) (Nat.le_of_ble_eq_true rfl)
  rw [lg_entry_eq]
  generalize (lg_sl ([.ref a_T, .int x1, .int x2, .int x3] : List Value) ++ List.replicate (4 - (lg_sl ([.ref a_T, .int x1, .int x2, .int x3] : List Value)).length) Slot.unset).toArray = ls at hl ⊢
  replace hl : lv_has ls 4 [(0, .ref a_T), (1, .int x1), (2, .int x2), (3, .int x3)] := hl
  obtain ⟨Q, hQ⟩ : ∃ Q, Q = MQ below (va_Qi (fun r (_ : Unit) => r = R) (fun _ => BW (dC, dI) (tysA cC cI cJ) A [(a_T, .inr (9, [.int T_guests, .ref a_T_kinds, .int T_wishes, .ref a_T_wishKind, .ref a_T_wishA, .ref a_T_wishB, .int T_begins, .ref a_T_st, .int T_acts, .ref a_T_was, .int T_keeps, .ref a_T_kept, .int T_wokes, .ref a_T_woke, .ref a_T_text, .int T_texted, .int T_at, .ref a_T_told, .int T_readGuests, .ref a_T_readKinds, .ref a_T_readFloors, .int T_readWishes, .ref a_T_readWishKind, .ref a_T_readWishA, .ref a_T_readWishB, .int T_readBegins, .int T_here, .int T_stands, .int T_many, .int T_rounds, .ref a_T_come, .ref a_T_keptBy, .ref a_T_endsAt, .ref a_T_order, .ref a_T_time, .ref a_T_place])), (a_T_told, .inl (cI, 2, .inl T_told))]) A) ([.ref a_T, .int x1, .int x2, .int x3] : List Value).toArray s 0 0 A := ⟨_, rfl⟩
  rw [← hQ]
  suffices hE : WG p l e rmX9_isTold s m ([.ref a_T, .int x1, .int x2, .int x3] : List Value).toArray below meth c 0 0 Q (dC, dI) A 0 4 [(a_T, .inr (9, [.int T_guests, .ref a_T_kinds, .int T_wishes, .ref a_T_wishKind, .ref a_T_wishA, .ref a_T_wishB, .int T_begins, .ref a_T_st, .int T_acts, .ref a_T_was, .int T_keeps, .ref a_T_kept, .int T_wokes, .ref a_T_woke, .ref a_T_text, .int T_texted, .int T_at, .ref a_T_told, .int T_readGuests, .ref a_T_readKinds, .ref a_T_readFloors, .int T_readWishes, .ref a_T_readWishKind, .ref a_T_readWishA, .ref a_T_readWishB, .int T_readBegins, .int T_here, .int T_stands, .int T_many, .int T_rounds, .ref a_T_come, .ref a_T_keptBy, .ref a_T_endsAt, .ref a_T_order, .ref a_T_time, .ref a_T_place])), (a_T_told, .inl (cI, 2, .inl T_told))] [(0, .ref a_T), (1, .int x1), (2, .int x2), (3, .int x3)] [] from hE _ _ _ hP hD hS hl
  clear hP hD hS hl hD0 hAe
  intro H locs ls hP hD hS hl
  unfold fX9_isTold at hr
  refine lv_aload_n hx hb dX9_isTold_0 rfl (lv_at hl 0 rfl) ?_
  refine va_get (D := (dC, dI)) (ci := 9) (v := .ref a_T_told) (C := RX9) (T := TX9) (N := 36) hx hb hts inX9_isTold_X9 hown hK hP 0 rfl rfl 17 (by decide) (hts _ mbX9_isTold_0) (fun _ h9 => h9) rfl dX9_isTold_1 ?_
  refine lv_iload_n hx hb dX9_isTold_4 rfl (lv_at hl 1 rfl) ?_
  obtain ⟨g1, hr⟩ := gd_some hr
  refine va_iald hx hb hK hP 1 1 rfl rfl g1 dX9_isTold_5 ?_
  refine lv_iload_n hx hb dX9_isTold_6 rfl (lv_at hl 2 rfl) ?_
  refine lv_iload_n hx hb dX9_isTold_7 rfl (lv_at hl 3 rfl) ?_
  obtain ⟨r, hc1, hr⟩ := bd1_some hr
  refine call_i (D := (dC, dI)) (tys := tysA cC cI cJ) (wc := []) (wr := [(a_T, .inr (9, [.int T_guests, .ref a_T_kinds, .int T_wishes, .ref a_T_wishKind, .ref a_T_wishA, .ref a_T_wishB, .int T_begins, .ref a_T_st, .int T_acts, .ref a_T_was, .int T_keeps, .ref a_T_kept, .int T_wokes, .ref a_T_woke, .ref a_T_text, .int T_texted, .int T_at, .ref a_T_told, .int T_readGuests, .ref a_T_readKinds, .ref a_T_readFloors, .int T_readWishes, .ref a_T_readWishKind, .ref a_T_readWishA, .ref a_T_readWishB, .int T_readBegins, .int T_here, .int T_stands, .int T_many, .int T_rounds, .ref a_T_come, .ref a_T_keptBy, .ref a_T_endsAt, .ref a_T_order, .ref a_T_time, .ref a_T_place])), (a_T_told, .inl (cI, 2, .inl T_told))]) (w1 := []) (wn := [(a_T, .inr (9, [.int T_guests, .ref a_T_kinds, .int T_wishes, .ref a_T_wishKind, .ref a_T_wishA, .ref a_T_wishB, .int T_begins, .ref a_T_st, .int T_acts, .ref a_T_was, .int T_keeps, .ref a_T_kept, .int T_wokes, .ref a_T_woke, .ref a_T_text, .int T_texted, .int T_at, .ref a_T_told, .int T_readGuests, .ref a_T_readKinds, .ref a_T_readFloors, .int T_readWishes, .ref a_T_readWishKind, .ref a_T_readWishA, .ref a_T_readWishB, .int T_readBegins, .int T_here, .int T_stands, .int T_many, .int T_rounds, .ref a_T_come, .ref a_T_keptBy, .ref a_T_endsAt, .ref a_T_order, .ref a_T_time, .ref a_T_place])), (a_T_told, .inl (cI, 2, .inl T_told))]) (r0 := r) hP hD hS hA [] [0, 1] [0, 1] rfl rfl (by decide +kernel) (by decide +kernel) rfl (by decide +kernel) (va_runS (As := [.int (T_told x1.toNatClampNeg), .int x2, .int x3]) (rest := []) ⟨hx, hb, hml, hown, hts⟩ (kX9_in l dC dI cC cI cJ H.size K (T_told x1.toNatClampNeg) x2 x3 r hc1) (va_cwS 3 hts gX9_isTold_X9_in rfl rfl rfl (by decide +kernel) ⟨Nat.le_of_ble_eq_true rfl, Nat.le_of_ble_eq_true rfl⟩) ⟨fbW, preW hP hD hK hN [] rfl (by decide +kernel)⟩ rfl rfl hl.1 rfl (lv_room (Nat.le_of_ble_eq_true rfl)) dX9_isTold_8 ⟨Nat.zero_le _, Nat.zero_le _⟩) (fun H locs hP hD hS => ?_)
  obtain ⟨g2, hr⟩ := gd_some hr
  have he := Option.some.inj hr
  subst he
  subst hQ
  exact ret_z hx hb hrt (vp_narZ g2) hK hP hD hS hlocks dX9_isTold_11
