def fX9_trades (K : Nat) (x1 : Int32) (x2 : Int32) (T_order : (Nat → Int32)) : Option ((Nat → Int32)) :=
    gd (¬ ((x1 : Int32) < 0 ∨ 6 ≤ x1.toNatClampNeg)) (
    nm (T_order x1.toNatClampNeg) fun x3 =>
    gd (¬ ((x2 : Int32) < 0 ∨ 6 ≤ x2.toNatClampNeg)) (
    gd (¬ ((x1 : Int32) < 0 ∨ 6 ≤ x1.toNatClampNeg)) (
    nm (upd T_order x1.toNatClampNeg (T_order x2.toNatClampNeg)) fun T_order_1 =>
    gd (¬ ((x2 : Int32) < 0 ∨ 6 ≤ x2.toNatClampNeg)) (
    nm (upd T_order_1 x2.toNatClampNeg x3) fun T_order_2 =>
    some T_order_2))))
theorem mbX9_trades_0 : Cond.fieldLink RX9 64 "BootsAtDawnModel" "order" "[I" ∈ wsX9_trades := List.mem_of_getElem? (i := 1) rfl
theorem inX9_trades_X9 : ∀ w ∈ u_ws RX9 TX9 36, w ∈ wsX9_trades := fun _ h => (List.mem_cons_of_mem _ (List.mem_append_right _ h))
abbrev rmX9_trades : Room := { frames := 0, cells := 0, slots := 0, locals := 0 }
set_option maxHeartbeats 8000000 in
set_option maxRecDepth 100000 in
theorem kX9_trades (l : Launch) (dC : Nat → ClassId) (dI : Nat → Nat → Nat) (cC cI cJ : ClassId) (sz : Nat) (K : Nat) (a_T a_T_kinds a_T_wishKind a_T_wishA a_T_wishB a_T_st a_T_was a_T_kept a_T_woke a_T_text a_T_told a_T_readKinds a_T_readFloors a_T_readWishKind a_T_readWishA a_T_readWishB a_T_come a_T_keptBy a_T_endsAt a_T_order a_T_time a_T_place : Nat) (x1 : Int32) (x2 : Int32) (T_guests : Int32) (T_wishes : Int32) (T_begins : Int32) (T_acts : Int32) (T_keeps : Int32) (T_wokes : Int32) (T_texted : Int32) (T_at : Int32) (T_readGuests : Int32) (T_readWishes : Int32) (T_readBegins : Int32) (T_here : Int32) (T_stands : Int32) (T_many : Int32) (T_rounds : Int32) (T_order : (Nat → Int32)) (R : (Nat → Int32)) (hr : fX9_trades K x1 x2 T_order = some R) : Met l yX9_trades wsX9_trades rmX9_trades (va_Pc ([.ref a_T, .int x1, .int x2] : List Value) (PcW (dC, dI) (tysA cC cI cJ) sz [(a_T, .inr (9, [.int T_guests, .ref a_T_kinds, .int T_wishes, .ref a_T_wishKind, .ref a_T_wishA, .ref a_T_wishB, .int T_begins, .ref a_T_st, .int T_acts, .ref a_T_was, .int T_keeps, .ref a_T_kept, .int T_wokes, .ref a_T_woke, .ref a_T_text, .int T_texted, .int T_at, .ref a_T_told, .int T_readGuests, .ref a_T_readKinds, .ref a_T_readFloors, .int T_readWishes, .ref a_T_readWishKind, .ref a_T_readWishA, .ref a_T_readWishB, .int T_readBegins, .int T_here, .int T_stands, .int T_many, .int T_rounds, .ref a_T_come, .ref a_T_keptBy, .ref a_T_endsAt, .ref a_T_order, .ref a_T_time, .ref a_T_place])), (a_T_order, .inl (cI, 6, .inl T_order))])) (va_Qv (fun (_ : Unit) => True) (fun _ => BW (dC, dI) (tysA cC cI cJ) (va_A [(a_T, .inr (9, [.int T_guests, .ref a_T_kinds, .int T_wishes, .ref a_T_wishKind, .ref a_T_wishA, .ref a_T_wishB, .int T_begins, .ref a_T_st, .int T_acts, .ref a_T_was, .int T_keeps, .ref a_T_kept, .int T_wokes, .ref a_T_woke, .ref a_T_text, .int T_texted, .int T_at, .ref a_T_told, .int T_readGuests, .ref a_T_readKinds, .ref a_T_readFloors, .int T_readWishes, .ref a_T_readWishKind, .ref a_T_readWishA, .ref a_T_readWishB, .int T_readBegins, .int T_here, .int T_stands, .int T_many, .int T_rounds, .ref a_T_come, .ref a_T_keptBy, .ref a_T_endsAt, .ref a_T_order, .ref a_T_time, .ref a_T_place])), (a_T_order, .inl (cI, 6, .inl T_order))] sz) [(a_T, .inr (9, [.int T_guests, .ref a_T_kinds, .int T_wishes, .ref a_T_wishKind, .ref a_T_wishA, .ref a_T_wishB, .int T_begins, .ref a_T_st, .int T_acts, .ref a_T_was, .int T_keeps, .ref a_T_kept, .int T_wokes, .ref a_T_woke, .ref a_T_text, .int T_texted, .int T_at, .ref a_T_told, .int T_readGuests, .ref a_T_readKinds, .ref a_T_readFloors, .int T_readWishes, .ref a_T_readWishKind, .ref a_T_readWishA, .ref a_T_readWishB, .int T_readBegins, .int T_here, .int T_stands, .int T_many, .int T_rounds, .ref a_T_come, .ref a_T_keptBy, .ref a_T_endsAt, .ref a_T_order, .ref a_T_time, .ref a_T_place])), (a_T_order, .inl (cI, 6, .inl R))]) (va_A [(a_T, .inr (9, [.int T_guests, .ref a_T_kinds, .int T_wishes, .ref a_T_wishKind, .ref a_T_wishA, .ref a_T_wishB, .int T_begins, .ref a_T_st, .int T_acts, .ref a_T_was, .int T_keeps, .ref a_T_kept, .int T_wokes, .ref a_T_woke, .ref a_T_text, .int T_texted, .int T_at, .ref a_T_told, .int T_readGuests, .ref a_T_readKinds, .ref a_T_readFloors, .int T_readWishes, .ref a_T_readWishKind, .ref a_T_readWishA, .ref a_T_readWishB, .int T_readBegins, .int T_here, .int T_stands, .int T_many, .int T_rounds, .ref a_T_come, .ref a_T_keptBy, .ref a_T_endsAt, .ref a_T_order, .ref a_T_time, .ref a_T_place])), (a_T_order, .inl (cI, 6, .inl T_order))] sz)) 0 0 (va_A [(a_T, .inr (9, [.int T_guests, .ref a_T_kinds, .int T_wishes, .ref a_T_wishKind, .ref a_T_wishA, .ref a_T_wishB, .int T_begins, .ref a_T_st, .int T_acts, .ref a_T_was, .int T_keeps, .ref a_T_kept, .int T_wokes, .ref a_T_woke, .ref a_T_text, .int T_texted, .int T_at, .ref a_T_told, .int T_readGuests, .ref a_T_readKinds, .ref a_T_readFloors, .int T_readWishes, .ref a_T_readWishKind, .ref a_T_readWishA, .ref a_T_readWishB, .int T_readBegins, .int T_here, .int T_stands, .int T_many, .int T_rounds, .ref a_T_come, .ref a_T_keptBy, .ref a_T_endsAt, .ref a_T_order, .ref a_T_time, .ref a_T_place])), (a_T_order, .inl (cI, 6, .inl T_order))] sz) := by
  refine Met.ofW (cc := cX9_trades) (maxL := 4) (ret := none) (by decide) rfl ?_
  intro p e s m args below meth c s₁ B hml hv
  obtain ⟨rfl, hsz, hP, hK, hD0, hN⟩ := hv
  have hx := B.exec
  have hb := B.bytes
  have hrt := B.returns
  have hts := atoms_spec (ws := wsX9_trades) B.pre
  have hown : s.vm.findClass RX9 = some m.cls := findClass_of_methodNamed B.named
  have hlocks := B.notSynchronized
  subst hsz
  have hD := hD0.self (sz := s.heap.size)
  generalize hAe : va_A [(a_T, .inr (9, [.int T_guests, .ref a_T_kinds, .int T_wishes, .ref a_T_wishKind, .ref a_T_wishA, .ref a_T_wishB, .int T_begins, .ref a_T_st, .int T_acts, .ref a_T_was, .int T_keeps, .ref a_T_kept, .int T_wokes, .ref a_T_woke, .ref a_T_text, .int T_texted, .int T_at, .ref a_T_told, .int T_readGuests, .ref a_T_readKinds, .ref a_T_readFloors, .int T_readWishes, .ref a_T_readWishKind, .ref a_T_readWishA, .ref a_T_readWishB, .int T_readBegins, .int T_here, .int T_stands, .int T_many, .int T_rounds, .ref a_T_come, .ref a_T_keptBy, .ref a_T_endsAt, .ref a_T_order, .ref a_T_time, .ref a_T_place])), (a_T_order, .inl (cI, 6, .inl T_order))] s.heap.size = A at hD ⊢
  have hA : ∀ q : Nat, s.heap.size ≤ q → A q := fun q h => by rw [← hAe]; exact Or.inr h
  have hS : va_S A s.heap s.heap [] := va_S.rf
  have hl := lv_entry ([.ref a_T, .int x1, .int x2] : List Value) (n := 4) (Nat.le_of_ble_eq_true rfl)
  rw [lg_entry_eq]
  generalize (lg_sl ([.ref a_T, .int x1, .int x2] : List Value) ++ List.replicate (4 - (lg_sl ([.ref a_T, .int x1, .int x2] : List Value)).length) Slot.unset).toArray = ls at hl ⊢
  replace hl : lv_has ls 4 [(0, .ref a_T), (1, .int x1), (2, .int x2)] := hl
  obtain ⟨Q, hQ⟩ : ∃ Q, Q = MQ below (va_Qv (fun (_ : Unit) => True) (fun _ => BW (dC, dI) (tysA cC cI cJ) A [(a_T, .inr (9, [.int T_guests, .ref a_T_kinds, .int T_wishes, .ref a_T_wishKind, .ref a_T_wishA, .ref a_T_wishB, .int T_begins, .ref a_T_st, .int T_acts, .ref a_T_was, .int T_keeps, .ref a_T_kept, .int T_wokes, .ref a_T_woke, .ref a_T_text, .int T_texted, .int T_at, .ref a_T_told, .int T_readGuests, .ref a_T_readKinds, .ref a_T_readFloors, .int T_readWishes, .ref a_T_readWishKind, .ref a_T_readWishA, .ref a_T_readWishB, .int T_readBegins, .int T_here, .int T_stands, .int T_many, .int T_rounds, .ref a_T_come, .ref a_T_keptBy, .ref a_T_endsAt, .ref a_T_order, .ref a_T_time, .ref a_T_place])), (a_T_order, .inl (cI, 6, .inl R))]) A) ([.ref a_T, .int x1, .int x2] : List Value).toArray s 0 0 A := ⟨_, rfl⟩
  rw [← hQ]
  suffices hE : WG p l e rmX9_trades s m ([.ref a_T, .int x1, .int x2] : List Value).toArray below meth c 0 0 Q (dC, dI) A 0 4 [(a_T, .inr (9, [.int T_guests, .ref a_T_kinds, .int T_wishes, .ref a_T_wishKind, .ref a_T_wishA, .ref a_T_wishB, .int T_begins, .ref a_T_st, .int T_acts, .ref a_T_was, .int T_keeps, .ref a_T_kept, .int T_wokes, .ref a_T_woke, .ref a_T_text, .int T_texted, .int T_at, .ref a_T_told, .int T_readGuests, .ref a_T_readKinds, .ref a_T_readFloors, .int T_readWishes, .ref a_T_readWishKind, .ref a_T_readWishA, .ref a_T_readWishB, .int T_readBegins, .int T_here, .int T_stands, .int T_many, .int T_rounds, .ref a_T_come, .ref a_T_keptBy, .ref a_T_endsAt, .ref a_T_order, .ref a_T_time, .ref a_T_place])), (a_T_order, .inl (cI, 6, .inl T_order))] [(0, .ref a_T), (1, .int x1), (2, .int x2)] [] from hE _ _ _ hP hD hS hl
  clear hP hD hS hl hD0 hAe
  intro H locs ls hP hD hS hl
  unfold fX9_trades at hr
  refine lv_aload_n hx hb dX9_trades_0 rfl (lv_at hl 0 rfl) ?_
  refine va_get (D := (dC, dI)) (ci := 9) (v := .ref a_T_order) (C := RX9) (T := TX9) (N := 36) hx hb hts inX9_trades_X9 hown hK hP 0 rfl rfl 33 (by decide) (hts _ mbX9_trades_0) (fun _ h9 => h9) rfl dX9_trades_1 ?_
  refine lv_iload_n hx hb dX9_trades_4 rfl (lv_at hl 1 rfl) ?_
  obtain ⟨g1, hr⟩ := gd_some hr
  refine va_iald hx hb hK hP 1 1 rfl rfl g1 dX9_trades_5 ?_
  obtain ⟨x3, e1, hr⟩ := nm_el hr
  refine lv_nmi e1 ?_
  refine lv_istore_n (lv' := [(3, .int x3), (0, .ref a_T), (1, .int x1), (2, .int x2)]) hx hb dX9_trades_6 rfl hl (by decide) rfl (fun ls hl => ?_)
  refine lv_aload_n hx hb dX9_trades_7 rfl (lv_at hl 1 rfl) ?_
  refine va_get (D := (dC, dI)) (ci := 9) (v := .ref a_T_order) (C := RX9) (T := TX9) (N := 36) hx hb hts inX9_trades_X9 hown hK hP 0 rfl rfl 33 (by decide) (hts _ mbX9_trades_0) (fun _ h9 => h9) rfl dX9_trades_8 ?_
  refine lv_iload_n hx hb dX9_trades_11 rfl (lv_at hl 2 rfl) ?_
  refine lv_aload_n hx hb dX9_trades_12 rfl (lv_at hl 1 rfl) ?_
  refine va_get (D := (dC, dI)) (ci := 9) (v := .ref a_T_order) (C := RX9) (T := TX9) (N := 36) hx hb hts inX9_trades_X9 hown hK hP 0 rfl rfl 33 (by decide) (hts _ mbX9_trades_0) (fun _ h9 => h9) rfl dX9_trades_13 ?_
  refine lv_iload_n hx hb dX9_trades_16 rfl (lv_at hl 3 rfl) ?_
  obtain ⟨g2, hr⟩ := gd_some hr
  refine va_iald hx hb hK hP 1 1 rfl rfl g2 dX9_trades_17 ?_
  obtain ⟨g3, hr⟩ := gd_some hr
  obtain ⟨T_order_1, e2, hr⟩ := nm_el hr
  refine va_iast hx hb hK hP hD hS 1 1 rfl rfl g3 dX9_trades_18 (fun H locs hP hD hS => ?_)
  rw [← e2] at hP hD
  replace hP : va_P (dC, dI) vwCl [(a_T, .inr (9, [.int T_guests, .ref a_T_kinds, .int T_wishes, .ref a_T_wishKind, .ref a_T_wishA, .ref a_T_wishB, .int T_begins, .ref a_T_st, .int T_acts, .ref a_T_was, .int T_keeps, .ref a_T_kept, .int T_wokes, .ref a_T_woke, .ref a_T_text, .int T_texted, .int T_at, .ref a_T_told, .int T_readGuests, .ref a_T_readKinds, .ref a_T_readFloors, .int T_readWishes, .ref a_T_readWishKind, .ref a_T_readWishA, .ref a_T_readWishB, .int T_readBegins, .int T_here, .int T_stands, .int T_many, .int T_rounds, .ref a_T_come, .ref a_T_keptBy, .ref a_T_endsAt, .ref a_T_order, .ref a_T_time, .ref a_T_place])), (a_T_order, .inl (cI, 6, .inl T_order_1))] H := hP
  replace hD : va_D A [(a_T, .inr (9, [.int T_guests, .ref a_T_kinds, .int T_wishes, .ref a_T_wishKind, .ref a_T_wishA, .ref a_T_wishB, .int T_begins, .ref a_T_st, .int T_acts, .ref a_T_was, .int T_keeps, .ref a_T_kept, .int T_wokes, .ref a_T_woke, .ref a_T_text, .int T_texted, .int T_at, .ref a_T_told, .int T_readGuests, .ref a_T_readKinds, .ref a_T_readFloors, .int T_readWishes, .ref a_T_readWishKind, .ref a_T_readWishA, .ref a_T_readWishB, .int T_readBegins, .int T_here, .int T_stands, .int T_many, .int T_rounds, .ref a_T_come, .ref a_T_keptBy, .ref a_T_endsAt, .ref a_T_order, .ref a_T_time, .ref a_T_place])), (a_T_order, .inl (cI, 6, .inl T_order_1))] := hD
  refine lv_aload_n hx hb dX9_trades_19 rfl (lv_at hl 1 rfl) ?_
  refine va_get (D := (dC, dI)) (ci := 9) (v := .ref a_T_order) (C := RX9) (T := TX9) (N := 36) hx hb hts inX9_trades_X9 hown hK hP 0 rfl rfl 33 (by decide) (hts _ mbX9_trades_0) (fun _ h9 => h9) rfl dX9_trades_20 ?_
  refine lv_iload_n hx hb dX9_trades_23 rfl (lv_at hl 3 rfl) ?_
  refine lv_iload_n hx hb dX9_trades_24 rfl (lv_at hl 0 rfl) ?_
  obtain ⟨g4, hr⟩ := gd_some hr
  obtain ⟨T_order_2, e3, hr⟩ := nm_el hr
  refine va_iast hx hb hK hP hD hS 1 1 rfl rfl g4 dX9_trades_25 (fun H locs hP hD hS => ?_)
  rw [← e3] at hP hD
  replace hP : va_P (dC, dI) vwCl [(a_T, .inr (9, [.int T_guests, .ref a_T_kinds, .int T_wishes, .ref a_T_wishKind, .ref a_T_wishA, .ref a_T_wishB, .int T_begins, .ref a_T_st, .int T_acts, .ref a_T_was, .int T_keeps, .ref a_T_kept, .int T_wokes, .ref a_T_woke, .ref a_T_text, .int T_texted, .int T_at, .ref a_T_told, .int T_readGuests, .ref a_T_readKinds, .ref a_T_readFloors, .int T_readWishes, .ref a_T_readWishKind, .ref a_T_readWishA, .ref a_T_readWishB, .int T_readBegins, .int T_here, .int T_stands, .int T_many, .int T_rounds, .ref a_T_come, .ref a_T_keptBy, .ref a_T_endsAt, .ref a_T_order, .ref a_T_time, .ref a_T_place])), (a_T_order, .inl (cI, 6, .inl T_order_2))] H := hP
  replace hD : va_D A [(a_T, .inr (9, [.int T_guests, .ref a_T_kinds, .int T_wishes, .ref a_T_wishKind, .ref a_T_wishA, .ref a_T_wishB, .int T_begins, .ref a_T_st, .int T_acts, .ref a_T_was, .int T_keeps, .ref a_T_kept, .int T_wokes, .ref a_T_woke, .ref a_T_text, .int T_texted, .int T_at, .ref a_T_told, .int T_readGuests, .ref a_T_readKinds, .ref a_T_readFloors, .int T_readWishes, .ref a_T_readWishKind, .ref a_T_readWishA, .ref a_T_readWishB, .int T_readBegins, .int T_here, .int T_stands, .int T_many, .int T_rounds, .ref a_T_come, .ref a_T_keptBy, .ref a_T_endsAt, .ref a_T_order, .ref a_T_time, .ref a_T_place])), (a_T_order, .inl (cI, 6, .inl T_order_2))] := hD
  have he := Option.some.inj hr
  subst he
  subst hQ
  exact ret_v hx hb hrt hK hP hD hS hlocks dX9_trades_26
def fX9_nextOrder_L7 (K : Nat) (T_order : (Nat → Int32)) : Nat → Int32 → Option (Int32)
  | 0, _ => none
  | n1 + 1, x1_1 =>
    if (x1_1 : Int32) < 0 then (
    some x1_1)
    else (
    gd (¬ ((x1_1 : Int32) < 0 ∨ 6 ≤ x1_1.toNatClampNeg)) (
    gd (¬ (((x1_1 + 1) : Int32) < 0 ∨ 6 ≤ (x1_1 + 1).toNatClampNeg)) (
    if ((T_order x1_1.toNatClampNeg) : Int32) ≤ (T_order (x1_1 + 1).toNatClampNeg) then (
    some x1_1)
    else (
    nm (x1_1 + (-1)) fun x1_3 =>
    fX9_nextOrder_L7 K T_order n1 x1_3))))
def fX9_nextOrder_L47 (K : Nat) (x1_2 : Int32) (T_order : (Nat → Int32)) : Nat → Int32 → Option (Int32)
  | 0, _ => none
  | n2 + 1, x2_1 =>
    gd (¬ ((x2_1 : Int32) < 0 ∨ 6 ≤ x2_1.toNatClampNeg)) (
    gd (¬ ((x1_2 : Int32) < 0 ∨ 6 ≤ x1_2.toNatClampNeg)) (
    if (T_order x1_2.toNatClampNeg) ≤ ((T_order x2_1.toNatClampNeg) : Int32) then (
    some x2_1)
    else (
    nm (x2_1 + (-1)) fun x2_3 =>
    fX9_nextOrder_L47 K x1_2 T_order n2 x2_3)))
def fX9_nextOrder_L86 (K : Nat) : Nat → Int32 → Int32 → (Nat → Int32) → Option ((Nat → Int32))
  | 0, _, _, _ => none
  | n3 + 1, x3_1, x4_1, T_order_2 =>
    if x4_1 ≤ (x3_1 : Int32) then (
    some T_order_2)
    else (
    bd1 (fX9_trades K x3_1 x4_1 T_order_2) fun T_order_4 =>
    nm (x3_1 + 1) fun x3_2 =>
    nm (x4_1 + (-1)) fun x4_2 =>
    fX9_nextOrder_L86 K n3 x3_2 x4_2 T_order_4)
def fX9_nextOrder (K : Nat) (T_many : Int32) (T_order : (Nat → Int32)) : Option (Int32 × (Nat → Int32)) :=
    nm (T_many - 2) fun x1 =>
    bd1 (fX9_nextOrder_L7 K T_order K x1) fun x1_2 =>
    if 0 ≤ (x1_2 : Int32) then (
    nm (T_many - 1) fun x2 =>
    bd1 (fX9_nextOrder_L47 K x1_2 T_order K x2) fun x2_2 =>
    bd1 (fX9_trades K x1_2 x2_2 T_order) fun T_order_1 =>
    nm (x1_2 + 1) fun x3 =>
    nm (T_many - 1) fun x4 =>
    bd1 (fX9_nextOrder_L86 K K x3 x4 T_order_1) fun T_order_3 =>
    some (1, T_order_3))
    else (
    some (0, T_order))
theorem mbX9_nextOrder_0 : Cond.fieldLink RX9 182 "BootsAtDawnModel" "many" "I" ∈ wsX9_nextOrder := List.mem_of_getElem? (i := 1) rfl
theorem inX9_nextOrder_X9 : ∀ w ∈ u_ws RX9 TX9 36, w ∈ wsX9_nextOrder := fun _ h => (List.mem_cons_of_mem _ (List.mem_append_right _ h))
theorem mbX9_nextOrder_2 : Cond.fieldLink RX9 64 "BootsAtDawnModel" "order" "[I" ∈ wsX9_nextOrder := List.mem_of_getElem? (i := 2) rfl
abbrev rmX9_nextOrder : Room := { frames := 1, cells := 0, slots := 0, locals := 23 }
set_option maxHeartbeats 8000000 in
set_option maxRecDepth 100000 in
theorem kX9_nextOrder (l : Launch) (dC : Nat → ClassId) (dI : Nat → Nat → Nat) (cC cI cJ : ClassId) (sz : Nat) (K : Nat) (a_T a_T_kinds a_T_wishKind a_T_wishA a_T_wishB a_T_st a_T_was a_T_kept a_T_woke a_T_text a_T_told a_T_readKinds a_T_readFloors a_T_readWishKind a_T_readWishA a_T_readWishB a_T_come a_T_keptBy a_T_endsAt a_T_order a_T_time a_T_place : Nat) (T_guests : Int32) (T_wishes : Int32) (T_begins : Int32) (T_acts : Int32) (T_keeps : Int32) (T_wokes : Int32) (T_texted : Int32) (T_at : Int32) (T_readGuests : Int32) (T_readWishes : Int32) (T_readBegins : Int32) (T_here : Int32) (T_stands : Int32) (T_many : Int32) (T_rounds : Int32) (T_order : (Nat → Int32)) (R : Int32 × (Nat → Int32)) (hr : fX9_nextOrder K T_many T_order = some R) : Met l yX9_nextOrder wsX9_nextOrder rmX9_nextOrder (va_Pc ([.ref a_T] : List Value) (PcW (dC, dI) (tysA cC cI cJ) sz [(a_T, .inr (9, [.int T_guests, .ref a_T_kinds, .int T_wishes, .ref a_T_wishKind, .ref a_T_wishA, .ref a_T_wishB, .int T_begins, .ref a_T_st, .int T_acts, .ref a_T_was, .int T_keeps, .ref a_T_kept, .int T_wokes, .ref a_T_woke, .ref a_T_text, .int T_texted, .int T_at, .ref a_T_told, .int T_readGuests, .ref a_T_readKinds, .ref a_T_readFloors, .int T_readWishes, .ref a_T_readWishKind, .ref a_T_readWishA, .ref a_T_readWishB, .int T_readBegins, .int T_here, .int T_stands, .int T_many, .int T_rounds, .ref a_T_come, .ref a_T_keptBy, .ref a_T_endsAt, .ref a_T_order, .ref a_T_time, .ref a_T_place])), (a_T_order, .inl (cI, 6, .inl T_order))])) (va_Qi (fun r (_ : Unit) => r = R.1) (fun _ => BW (dC, dI) (tysA cC cI cJ) (va_A [(a_T, .inr (9, [.int T_guests, .ref a_T_kinds, .int T_wishes, .ref a_T_wishKind, .ref a_T_wishA, .ref a_T_wishB, .int T_begins, .ref a_T_st, .int T_acts, .ref a_T_was, .int T_keeps, .ref a_T_kept, .int T_wokes, .ref a_T_woke, .ref a_T_text, .int T_texted, .int T_at, .ref a_T_told, .int T_readGuests, .ref a_T_readKinds, .ref a_T_readFloors, .int T_readWishes, .ref a_T_readWishKind, .ref a_T_readWishA, .ref a_T_readWishB, .int T_readBegins, .int T_here, .int T_stands, .int T_many, .int T_rounds, .ref a_T_come, .ref a_T_keptBy, .ref a_T_endsAt, .ref a_T_order, .ref a_T_time, .ref a_T_place])), (a_T_order, .inl (cI, 6, .inl T_order))] sz) [(a_T, .inr (9, [.int T_guests, .ref a_T_kinds, .int T_wishes, .ref a_T_wishKind, .ref a_T_wishA, .ref a_T_wishB, .int T_begins, .ref a_T_st, .int T_acts, .ref a_T_was, .int T_keeps, .ref a_T_kept, .int T_wokes, .ref a_T_woke, .ref a_T_text, .int T_texted, .int T_at, .ref a_T_told, .int T_readGuests, .ref a_T_readKinds, .ref a_T_readFloors, .int T_readWishes, .ref a_T_readWishKind, .ref a_T_readWishA, .ref a_T_readWishB, .int T_readBegins, .int T_here, .int T_stands, .int T_many, .int T_rounds, .ref a_T_come, .ref a_T_keptBy, .ref a_T_endsAt, .ref a_T_order, .ref a_T_time, .ref a_T_place])), (a_T_order, .inl (cI, 6, .inl R.2))]) (va_A [(a_T, .inr (9, [.int T_guests, .ref a_T_kinds, .int T_wishes, .ref a_T_wishKind, .ref a_T_wishA, .ref a_T_wishB, .int T_begins, .ref a_T_st, .int T_acts, .ref a_T_was, .int T_keeps, .ref a_T_kept, .int T_wokes, .ref a_T_woke, .ref a_T_text, .int T_texted, .int T_at, .ref a_T_told, .int T_readGuests, .ref a_T_readKinds, .ref a_T_readFloors, .int T_readWishes, .ref a_T_readWishKind, .ref a_T_readWishA, .ref a_T_readWishB, .int T_readBegins, .int T_here, .int T_stands, .int T_many, .int T_rounds, .ref a_T_come, .ref a_T_keptBy, .ref a_T_endsAt, .ref a_T_order, .ref a_T_time, .ref a_T_place])), (a_T_order, .inl (cI, 6, .inl T_order))] sz)) 0 0 (va_A [(a_T, .inr (9, [.int T_guests, .ref a_T_kinds, .int T_wishes, .ref a_T_wishKind, .ref a_T_wishA, .ref a_T_wishB, .int T_begins, .ref a_T_st, .int T_acts, .ref a_T_was, .int T_keeps, .ref a_T_kept, .int T_wokes, .ref a_T_woke, .ref a_T_text, .int T_texted, .int T_at, .ref a_T_told, .int T_readGuests, .ref a_T_readKinds, .ref a_T_readFloors, .int T_readWishes, .ref a_T_readWishKind, .ref a_T_readWishA, .ref a_T_readWishB, .int T_readBegins, .int T_here, .int T_stands, .int T_many, .int T_rounds, .ref a_T_come, .ref a_T_keptBy, .ref a_T_endsAt, .ref a_T_order, .ref a_T_time, .ref a_T_place])), (a_T_order, .inl (cI, 6, .inl T_order))] sz) := by
  refine Met.ofW (cc := cX9_nextOrder) (maxL := 5) (ret := (some .boolean)) (by decide) rfl ?_
  intro p e s m args below meth c s₁ B hml hv
  obtain ⟨rfl, hsz, hP, hK, hD0, hN⟩ := hv
  have hx := B.exec
  have hb := B.bytes
  have hrt := B.returns
  have hts := atoms_spec (ws := wsX9_nextOrder) B.pre
  have hown : s.vm.findClass RX9 = some m.cls := findClass_of_methodNamed B.named
  have hlocks := B.notSynchronized
  subst hsz
  have hD := hD0.self (sz := s.heap.size)
  generalize hAe : va_A [(a_T, .inr (9, [.int T_guests, .ref a_T_kinds, .int T_wishes, .ref a_T_wishKind, .ref a_T_wishA, .ref a_T_wishB, .int T_begins, .ref a_T_st, .int T_acts, .ref a_T_was, .int T_keeps, .ref a_T_kept, .int T_wokes, .ref a_T_woke, .ref a_T_text, .int T_texted, .int T_at, .ref a_T_told, .int T_readGuests, .ref a_T_readKinds, .ref a_T_readFloors, .int T_readWishes, .ref a_T_readWishKind, .ref a_T_readWishA, .ref a_T_readWishB, .int T_readBegins, .int T_here, .int T_stands, .int T_many, .int T_rounds, .ref a_T_come, .ref a_T_keptBy, .ref a_T_endsAt, .ref a_T_order, .ref a_T_time, .ref a_T_place])), (a_T_order, .inl (cI, 6, .inl T_order))] s.heap.size = A at hD ⊢
  have hA : ∀ q : Nat, s.heap.size ≤ q → A q := fun q h => by rw [← hAe]; exact Or.inr h
  have hS : va_S A s.heap s.heap [] := va_S.rf
  have hl := lv_entry ([.ref a_T] : List Value) (n := 5) (Nat.le_of_ble_eq_true rfl)
  rw [lg_entry_eq]
  generalize (lg_sl ([.ref a_T] : List Value) ++ List.replicate (5 - (lg_sl ([.ref a_T] : List Value)).length) Slot.unset).toArray = ls at hl ⊢
  replace hl : lv_has ls 5 [(0, .ref a_T)] := hl
  obtain ⟨Q, hQ⟩ : ∃ Q, Q = MQ below (va_Qi (fun r (_ : Unit) => r = R.1) (fun _ => BW (dC, dI) (tysA cC cI cJ) A [(a_T, .inr (9, [.int T_guests, .ref a_T_kinds, .int T_wishes, .ref a_T_wishKind, .ref a_T_wishA, .ref a_T_wishB, .int T_begins, .ref a_T_st, .int T_acts, .ref a_T_was, .int T_keeps, .ref a_T_kept, .int T_wokes, .ref a_T_woke, .ref a_T_text, .int T_texted, .int T_at, .ref a_T_told, .int T_readGuests, .ref a_T_readKinds, .ref a_T_readFloors, .int T_readWishes, .ref a_T_readWishKind, .ref a_T_readWishA, .ref a_T_readWishB, .int T_readBegins, .int T_here, .int T_stands, .int T_many, .int T_rounds, .ref a_T_come, .ref a_T_keptBy, .ref a_T_endsAt, .ref a_T_order, .ref a_T_time, .ref a_T_place])), (a_T_order, .inl (cI, 6, .inl R.2))]) A) ([.ref a_T] : List Value).toArray s 0 0 A := ⟨_, rfl⟩
  rw [← hQ]
  suffices hE : WG p l e rmX9_nextOrder s m ([.ref a_T] : List Value).toArray below meth c 0 0 Q (dC, dI) A 0 5 [(a_T, .inr (9, [.int T_guests, .ref a_T_kinds, .int T_wishes, .ref a_T_wishKind, .ref a_T_wishA, .ref a_T_wishB, .int T_begins, .ref a_T_st, .int T_acts, .ref a_T_was, .int T_keeps, .ref a_T_kept, .int T_wokes, .ref a_T_woke, .ref a_T_text, .int T_texted, .int T_at, .ref a_T_told, .int T_readGuests, .ref a_T_readKinds, .ref a_T_readFloors, .int T_readWishes, .ref a_T_readWishKind, .ref a_T_readWishA, .ref a_T_readWishB, .int T_readBegins, .int T_here, .int T_stands, .int T_many, .int T_rounds, .ref a_T_come, .ref a_T_keptBy, .ref a_T_endsAt, .ref a_T_order, .ref a_T_time, .ref a_T_place])), (a_T_order, .inl (cI, 6, .inl T_order))] [(0, .ref a_T)] [] from hE _ _ _ hP hD hS hl
  clear hP hD hS hl hD0 hAe
  intro H locs ls hP hD hS hl
  unfold fX9_nextOrder at hr
  refine lv_aload_n hx hb dX9_nextOrder_0 rfl (lv_at hl 0 rfl) ?_
  refine va_get (D := (dC, dI)) (ci := 9) (v := .int T_many) (C := RX9) (T := TX9) (N := 36) hx hb hts inX9_nextOrder_X9 hown hK hP 0 rfl rfl 28 (by decide) (hts _ mbX9_nextOrder_0) (fun _ h9 => h9) rfl dX9_nextOrder_1 ?_
  refine lv_iconst (v := 2) hx hb dX9_nextOrder_4 (by decide) ?_
  refine lv_isub hx hb dX9_nextOrder_5 ?_
  obtain ⟨x1, e1, hr⟩ := nm_el hr
  refine lv_nmi e1 ?_
  refine lv_istore_n (lv' := [(1, .int x1), (0, .ref a_T)]) hx hb dX9_nextOrder_6 rfl hl (by decide) rfl (fun ls hl => ?_)
  have hL1 : ∀ (n1 : Nat) (x1_1 : Int32) (x1_2 : Int32), fX9_nextOrder_L7 K T_order n1 x1_1 = some x1_2 → WG p l e rmX9_nextOrder s m ([.ref a_T] : List Value).toArray below meth c 0 0 Q (dC, dI) A 34 5 [(a_T, .inr (9, [.int T_guests, .ref a_T_kinds, .int T_wishes, .ref a_T_wishKind, .ref a_T_wishA, .ref a_T_wishB, .int T_begins, .ref a_T_st, .int T_acts, .ref a_T_was, .int T_keeps, .ref a_T_kept, .int T_wokes, .ref a_T_woke, .ref a_T_text, .int T_texted, .int T_at, .ref a_T_told, .int T_readGuests, .ref a_T_readKinds, .ref a_T_readFloors, .int T_readWishes, .ref a_T_readWishKind, .ref a_T_readWishA, .ref a_T_readWishB, .int T_readBegins, .int T_here, .int T_stands, .int T_many, .int T_rounds, .ref a_T_come, .ref a_T_keptBy, .ref a_T_endsAt, .ref a_T_order, .ref a_T_time, .ref a_T_place])), (a_T_order, .inl (cI, 6, .inl T_order))] [(0, .ref a_T), (1, .int x1_2)] [] → WG p l e rmX9_nextOrder s m ([.ref a_T] : List Value).toArray below meth c 0 0 Q (dC, dI) A 7 5 [(a_T, .inr (9, [.int T_guests, .ref a_T_kinds, .int T_wishes, .ref a_T_wishKind, .ref a_T_wishA, .ref a_T_wishB, .int T_begins, .ref a_T_st, .int T_acts, .ref a_T_was, .int T_keeps, .ref a_T_kept, .int T_wokes, .ref a_T_woke, .ref a_T_text, .int T_texted, .int T_at, .ref a_T_told, .int T_readGuests, .ref a_T_readKinds, .ref a_T_readFloors, .int T_readWishes, .ref a_T_readWishKind, .ref a_T_readWishA, .ref a_T_readWishB, .int T_readBegins, .int T_here, .int T_stands, .int T_many, .int T_rounds, .ref a_T_come, .ref a_T_keptBy, .ref a_T_endsAt, .ref a_T_order, .ref a_T_time, .ref a_T_place])), (a_T_order, .inl (cI, 6, .inl T_order))] [(0, .ref a_T), (1, .int x1_1)] [] := by
    intro n1
    induction n1 with
    | zero =>
      intro x1_1 x1_2 hr
      rw [fX9_nextOrder_L7] at hr
      cases hr
    | succ n1 ih7 =>
      intro x1_1 x1_2 hr hX1 H locs ls hP hD hS hl
      rw [fX9_nextOrder_L7] at hr
      refine lv_iload_n hx hb dX9_nextOrder_7 rfl (lv_at hl 1 rfl) ?_
      refine lv_if_lt (tgt := 34) hx hb dX9_nextOrder_8 (by decide) (fun c1 => ?_) (fun c1 => ?_)
      · replace hr := it_t hr c1
        have he := Option.some.inj hr
        cases he
        exact hX1 H locs ls hP hD hS (lv_sub hl [0, 1] rfl)
      · replace hr := it_f hr c1
        refine lv_aload_n hx hb dX9_nextOrder_11 rfl (lv_at hl 0 rfl) ?_
        refine va_get (D := (dC, dI)) (ci := 9) (v := .ref a_T_order) (C := RX9) (T := TX9) (N := 36) hx hb hts inX9_nextOrder_X9 hown hK hP 0 rfl rfl 33 (by decide) (hts _ mbX9_nextOrder_2) (fun _ h9 => h9) rfl dX9_nextOrder_12 ?_
        refine lv_iload_n hx hb dX9_nextOrder_15 rfl (lv_at hl 1 rfl) ?_
        obtain ⟨g1, hr⟩ := gd_some hr
        refine va_iald hx hb hK hP 1 1 rfl rfl g1 dX9_nextOrder_16 ?_
        refine lv_aload_n hx hb dX9_nextOrder_17 rfl (lv_at hl 0 rfl) ?_
        refine va_get (D := (dC, dI)) (ci := 9) (v := .ref a_T_order) (C := RX9) (T := TX9) (N := 36) hx hb hts inX9_nextOrder_X9 hown hK hP 0 rfl rfl 33 (by decide) (hts _ mbX9_nextOrder_2) (fun _ h9 => h9) rfl dX9_nextOrder_18 ?_
        refine lv_iload_n hx hb dX9_nextOrder_21 rfl (lv_at hl 1 rfl) ?_
        refine lv_iconst (v := 1) hx hb dX9_nextOrder_22 (by decide) ?_
        refine lv_iadd hx hb dX9_nextOrder_23 ?_
        obtain ⟨g2, hr⟩ := gd_some hr
        refine va_iald hx hb hK hP 1 1 rfl rfl g2 dX9_nextOrder_24 ?_
        refine lv_icmp_le (tgt := 34) hx hb dX9_nextOrder_25 (by decide) (fun c2 => ?_) (fun c2 => ?_)
        · replace hr := it_t hr c2
          have he := Option.some.inj hr
          cases he
          exact hX1 H locs ls hP hD hS (lv_sub hl [0, 1] rfl)
        · replace hr := it_f hr c2
          obtain ⟨x1_3, e2, hr⟩ := nm_el hr
          refine lv_iinc (v := x1_3) (lv' := [(1, .int x1_3), (0, .ref a_T)]) hx hb dX9_nextOrder_28 hl (k := 1) rfl e2.symm (by decide) rfl (fun ls hl => ?_)
          refine lv_goto (tgt := 7) hx hb dX9_nextOrder_31 (by decide) ?_
          exact ih7 _ _ hr hX1 H locs ls hP hD hS (lv_sub hl [1, 0] rfl)
  obtain ⟨x1_2, hE, hr⟩ := bd1_some hr
  refine hL1 K x1 x1_2 hE ?_ H locs ls hP hD hS (lv_sub hl [1, 0] rfl)
  intro H locs ls hP hD hS hl
  refine lv_iload_n hx hb dX9_nextOrder_34 rfl (lv_at hl 1 rfl) ?_
  refine lv_if_ge (tgt := 40) hx hb dX9_nextOrder_35 (by decide) (fun c3 => ?_) (fun c3 => ?_)
  · replace hr := it_t hr c3
    refine lv_aload_n hx hb dX9_nextOrder_40 rfl (lv_at hl 0 rfl) ?_
    refine va_get (D := (dC, dI)) (ci := 9) (v := .int T_many) (C := RX9) (T := TX9) (N := 36) hx hb hts inX9_nextOrder_X9 hown hK hP 0 rfl rfl 28 (by decide) (hts _ mbX9_nextOrder_0) (fun _ h9 => h9) rfl dX9_nextOrder_41 ?_
    refine lv_iconst (v := 1) hx hb dX9_nextOrder_44 (by decide) ?_
    refine lv_isub hx hb dX9_nextOrder_45 ?_
    obtain ⟨x2, e3, hr⟩ := nm_el hr
    refine lv_nmi e3 ?_
    refine lv_istore_n (lv' := [(2, .int x2), (0, .ref a_T), (1, .int x1_2)]) hx hb dX9_nextOrder_46 rfl hl (by decide) rfl (fun ls hl => ?_)
    have hL2 : ∀ (n2 : Nat) (x2_1 : Int32) (x2_2 : Int32), fX9_nextOrder_L47 K x1_2 T_order n2 x2_1 = some x2_2 → WG p l e rmX9_nextOrder s m ([.ref a_T] : List Value).toArray below meth c 0 0 Q (dC, dI) A 68 5 [(a_T, .inr (9, [.int T_guests, .ref a_T_kinds, .int T_wishes, .ref a_T_wishKind, .ref a_T_wishA, .ref a_T_wishB, .int T_begins, .ref a_T_st, .int T_acts, .ref a_T_was, .int T_keeps, .ref a_T_kept, .int T_wokes, .ref a_T_woke, .ref a_T_text, .int T_texted, .int T_at, .ref a_T_told, .int T_readGuests, .ref a_T_readKinds, .ref a_T_readFloors, .int T_readWishes, .ref a_T_readWishKind, .ref a_T_readWishA, .ref a_T_readWishB, .int T_readBegins, .int T_here, .int T_stands, .int T_many, .int T_rounds, .ref a_T_come, .ref a_T_keptBy, .ref a_T_endsAt, .ref a_T_order, .ref a_T_time, .ref a_T_place])), (a_T_order, .inl (cI, 6, .inl T_order))] [(0, .ref a_T), (1, .int x1_2), (2, .int x2_2)] [] → WG p l e rmX9_nextOrder s m ([.ref a_T] : List Value).toArray below meth c 0 0 Q (dC, dI) A 47 5 [(a_T, .inr (9, [.int T_guests, .ref a_T_kinds, .int T_wishes, .ref a_T_wishKind, .ref a_T_wishA, .ref a_T_wishB, .int T_begins, .ref a_T_st, .int T_acts, .ref a_T_was, .int T_keeps, .ref a_T_kept, .int T_wokes, .ref a_T_woke, .ref a_T_text, .int T_texted, .int T_at, .ref a_T_told, .int T_readGuests, .ref a_T_readKinds, .ref a_T_readFloors, .int T_readWishes, .ref a_T_readWishKind, .ref a_T_readWishA, .ref a_T_readWishB, .int T_readBegins, .int T_here, .int T_stands, .int T_many, .int T_rounds, .ref a_T_come, .ref a_T_keptBy, .ref a_T_endsAt, .ref a_T_order, .ref a_T_time, .ref a_T_place])), (a_T_order, .inl (cI, 6, .inl T_order))] [(0, .ref a_T), (1, .int x1_2), (2, .int x2_1)] [] := by
      intro n2
      induction n2 with
      | zero =>
        intro x2_1 x2_2 hr
        rw [fX9_nextOrder_L47] at hr
        cases hr
      | succ n2 ih47 =>
        intro x2_1 x2_2 hr hX2 H locs ls hP hD hS hl
        rw [fX9_nextOrder_L47] at hr
        refine lv_aload_n hx hb dX9_nextOrder_47 rfl (lv_at hl 0 rfl) ?_
        refine va_get (D := (dC, dI)) (ci := 9) (v := .ref a_T_order) (C := RX9) (T := TX9) (N := 36) hx hb hts inX9_nextOrder_X9 hown hK hP 0 rfl rfl 33 (by decide) (hts _ mbX9_nextOrder_2) (fun _ h9 => h9) rfl dX9_nextOrder_48 ?_
        refine lv_iload_n hx hb dX9_nextOrder_51 rfl (lv_at hl 2 rfl) ?_
        obtain ⟨g3, hr⟩ := gd_some hr
        refine va_iald hx hb hK hP 1 1 rfl rfl g3 dX9_nextOrder_52 ?_
        refine lv_aload_n hx hb dX9_nextOrder_53 rfl (lv_at hl 0 rfl) ?_
        refine va_get (D := (dC, dI)) (ci := 9) (v := .ref a_T_order) (C := RX9) (T := TX9) (N := 36) hx hb hts inX9_nextOrder_X9 hown hK hP 0 rfl rfl 33 (by decide) (hts _ mbX9_nextOrder_2) (fun _ h9 => h9) rfl dX9_nextOrder_54 ?_
        refine lv_iload_n hx hb dX9_nextOrder_57 rfl (lv_at hl 1 rfl) ?_
        obtain ⟨g4, hr⟩ := gd_some hr
        refine va_iald hx hb hK hP 1 1 rfl rfl g4 dX9_nextOrder_58 ?_
        refine lv_icmp_ge (tgt := 68) hx hb dX9_nextOrder_59 (by decide) (fun c4 => ?_) (fun c4 => ?_)
        · replace hr := it_t hr c4
          have he := Option.some.inj hr
          cases he
          exact hX2 H locs ls hP hD hS (lv_sub hl [0, 1, 2] rfl)
        · replace hr := it_f hr c4
          obtain ⟨x2_3, e4, hr⟩ := nm_el hr
          refine lv_iinc (v := x2_3) (lv' := [(2, .int x2_3), (0, .ref a_T), (1, .int x1_2)]) hx hb dX9_nextOrder_62 hl (k := 2) rfl e4.symm (by decide) rfl (fun ls hl => ?_)
          refine lv_goto (tgt := 47) hx hb dX9_nextOrder_65 (by decide) ?_
          exact ih47 _ _ hr hX2 H locs ls hP hD hS (lv_sub hl [1, 2, 0] rfl)
    obtain ⟨x2_2, hE, hr⟩ := bd1_some hr
    refine hL2 K x2 x2_2 hE ?_ H locs ls hP hD hS (lv_sub hl [1, 2, 0] rfl)
    intro H locs ls hP hD hS hl
    refine lv_aload_n hx hb dX9_nextOrder_68 rfl (lv_at hl 0 rfl) ?_
    refine lv_iload_n hx hb dX9_nextOrder_69 rfl (lv_at hl 1 rfl) ?_
    refine lv_iload_n hx hb dX9_nextOrder_70 rfl (lv_at hl 2 rfl) ?_
    obtain ⟨T_order_1, hc1, hr⟩ := bd1_some hr
    refine call_v (D := (dC, dI)) (tys := tysA cC cI cJ) (wc := [(a_T, .inr (9, [.int T_guests, .ref a_T_kinds, .int T_wishes, .ref a_T_wishKind, .ref a_T_wishA, .ref a_T_wishB, .int T_begins, .ref a_T_st, .int T_acts, .ref a_T_was, .int T_keeps, .ref a_T_kept, .int T_wokes, .ref a_T_woke, .ref a_T_text, .int T_texted, .int T_at, .ref a_T_told, .int T_readGuests, .ref a_T_readKinds, .ref a_T_readFloors, .int T_readWishes, .ref a_T_readWishKind, .ref a_T_readWishA, .ref a_T_readWishB, .int T_readBegins, .int T_here, .int T_stands, .int T_many, .int T_rounds, .ref a_T_come, .ref a_T_keptBy, .ref a_T_endsAt, .ref a_T_order, .ref a_T_time, .ref a_T_place])), (a_T_order, .inl (cI, 6, .inl T_order))]) (wr := []) (w1 := [(a_T, .inr (9, [.int T_guests, .ref a_T_kinds, .int T_wishes, .ref a_T_wishKind, .ref a_T_wishA, .ref a_T_wishB, .int T_begins, .ref a_T_st, .int T_acts, .ref a_T_was, .int T_keeps, .ref a_T_kept, .int T_wokes, .ref a_T_woke, .ref a_T_text, .int T_texted, .int T_at, .ref a_T_told, .int T_readGuests, .ref a_T_readKinds, .ref a_T_readFloors, .int T_readWishes, .ref a_T_readWishKind, .ref a_T_readWishA, .ref a_T_readWishB, .int T_readBegins, .int T_here, .int T_stands, .int T_many, .int T_rounds, .ref a_T_come, .ref a_T_keptBy, .ref a_T_endsAt, .ref a_T_order, .ref a_T_time, .ref a_T_place])), (a_T_order, .inl (cI, 6, .inl T_order_1))]) (wn := [(a_T, .inr (9, [.int T_guests, .ref a_T_kinds, .int T_wishes, .ref a_T_wishKind, .ref a_T_wishA, .ref a_T_wishB, .int T_begins, .ref a_T_st, .int T_acts, .ref a_T_was, .int T_keeps, .ref a_T_kept, .int T_wokes, .ref a_T_woke, .ref a_T_text, .int T_texted, .int T_at, .ref a_T_told, .int T_readGuests, .ref a_T_readKinds, .ref a_T_readFloors, .int T_readWishes, .ref a_T_readWishKind, .ref a_T_readWishA, .ref a_T_readWishB, .int T_readBegins, .int T_here, .int T_stands, .int T_many, .int T_rounds, .ref a_T_come, .ref a_T_keptBy, .ref a_T_endsAt, .ref a_T_order, .ref a_T_time, .ref a_T_place])), (a_T_order, .inl (cI, 6, .inl T_order_1))]) hP hD hS hA [0, 1] [] [0, 1] rfl rfl (by decide +kernel) (by decide +kernel) rfl (by decide +kernel) (va_runV (As := [.int x1_2, .int x2_2]) (rest := []) ⟨hx, hb, hml, hown, hts⟩ (kX9_trades l dC dI cC cI cJ H.size K a_T a_T_kinds a_T_wishKind a_T_wishA a_T_wishB a_T_st a_T_was a_T_kept a_T_woke a_T_text a_T_told a_T_readKinds a_T_readFloors a_T_readWishKind a_T_readWishA a_T_readWishB a_T_come a_T_keptBy a_T_endsAt a_T_order a_T_time a_T_place x1_2 x2_2 T_guests T_wishes T_begins T_acts T_keeps T_wokes T_texted T_at T_readGuests T_readWishes T_readBegins T_here T_stands T_many T_rounds T_order T_order_1 hc1) (cwV 2 hts gX9_nextOrder_X9_trades rfl rfl rfl (by decide +kernel) ⟨Nat.le_of_ble_eq_true rfl, Nat.le_of_ble_eq_true rfl⟩) ⟨fbW, va_recv hK hP (ci := 9) (q0 := 0) rfl rfl, preW hP hD hK hN [0, 1] rfl (by decide +kernel)⟩ rfl rfl hl.1 rfl (lv_room (Nat.le_of_ble_eq_true rfl)) dX9_nextOrder_71 ⟨Nat.zero_le _, Nat.zero_le _⟩) (fun H locs hP hD hS => ?_)
    refine lv_iload_n hx hb dX9_nextOrder_74 rfl (lv_at hl 1 rfl) ?_
    refine lv_iconst (v := 1) hx hb dX9_nextOrder_75 (by decide) ?_
    refine lv_iadd hx hb dX9_nextOrder_76 ?_
    obtain ⟨x3, e5, hr⟩ := nm_el hr
    refine lv_nmi e5 ?_
    refine lv_istore_n (lv' := [(3, .int x3), (0, .ref a_T), (1, .int x1_2), (2, .int x2_2)]) hx hb dX9_nextOrder_77 rfl hl (by decide) rfl (fun ls hl => ?_)
    refine lv_aload_n hx hb dX9_nextOrder_78 rfl (lv_at hl 1 rfl) ?_
    refine va_get (D := (dC, dI)) (ci := 9) (v := .int T_many) (C := RX9) (T := TX9) (N := 36) hx hb hts inX9_nextOrder_X9 hown hK hP 0 rfl rfl 28 (by decide) (hts _ mbX9_nextOrder_0) (fun _ h9 => h9) rfl dX9_nextOrder_79 ?_
    refine lv_iconst (v := 1) hx hb dX9_nextOrder_82 (by decide) ?_
    refine lv_isub hx hb dX9_nextOrder_83 ?_
    obtain ⟨x4, e6, hr⟩ := nm_el hr
    refine lv_nmi e6 ?_
    refine lv_istore (lv' := [(4, .int x4), (3, .int x3), (0, .ref a_T), (1, .int x1_2), (2, .int x2_2)]) hx hb dX9_nextOrder_84 hl (by decide) rfl (fun ls hl => ?_)
    have hL3 : ∀ (n3 : Nat) (x3_1 : Int32) (x4_1 : Int32) (T_order_2 : (Nat → Int32)) (T_order_3 : (Nat → Int32)), fX9_nextOrder_L86 K n3 x3_1 x4_1 T_order_2 = some T_order_3 → WG p l e rmX9_nextOrder s m ([.ref a_T] : List Value).toArray below meth c 0 0 Q (dC, dI) A 108 5 [(a_T, .inr (9, [.int T_guests, .ref a_T_kinds, .int T_wishes, .ref a_T_wishKind, .ref a_T_wishA, .ref a_T_wishB, .int T_begins, .ref a_T_st, .int T_acts, .ref a_T_was, .int T_keeps, .ref a_T_kept, .int T_wokes, .ref a_T_woke, .ref a_T_text, .int T_texted, .int T_at, .ref a_T_told, .int T_readGuests, .ref a_T_readKinds, .ref a_T_readFloors, .int T_readWishes, .ref a_T_readWishKind, .ref a_T_readWishA, .ref a_T_readWishB, .int T_readBegins, .int T_here, .int T_stands, .int T_many, .int T_rounds, .ref a_T_come, .ref a_T_keptBy, .ref a_T_endsAt, .ref a_T_order, .ref a_T_time, .ref a_T_place])), (a_T_order, .inl (cI, 6, .inl T_order_3))] [] [] → WG p l e rmX9_nextOrder s m ([.ref a_T] : List Value).toArray below meth c 0 0 Q (dC, dI) A 86 5 [(a_T, .inr (9, [.int T_guests, .ref a_T_kinds, .int T_wishes, .ref a_T_wishKind, .ref a_T_wishA, .ref a_T_wishB, .int T_begins, .ref a_T_st, .int T_acts, .ref a_T_was, .int T_keeps, .ref a_T_kept, .int T_wokes, .ref a_T_woke, .ref a_T_text, .int T_texted, .int T_at, .ref a_T_told, .int T_readGuests, .ref a_T_readKinds, .ref a_T_readFloors, .int T_readWishes, .ref a_T_readWishKind, .ref a_T_readWishA, .ref a_T_readWishB, .int T_readBegins, .int T_here, .int T_stands, .int T_many, .int T_rounds, .ref a_T_come, .ref a_T_keptBy, .ref a_T_endsAt, .ref a_T_order, .ref a_T_time, .ref a_T_place])), (a_T_order, .inl (cI, 6, .inl T_order_2))] [(0, .ref a_T), (3, .int x3_1), (4, .int x4_1)] [] := by
      intro n3
      induction n3 with
      | zero =>
        intro x3_1 x4_1 T_order_2 T_order_3 hr
        rw [fX9_nextOrder_L86] at hr
        cases hr
      | succ n3 ih86 =>
        intro x3_1 x4_1 T_order_2 T_order_3 hr hX3 H locs ls hP hD hS hl
        rw [fX9_nextOrder_L86] at hr
        refine lv_iload_n hx hb dX9_nextOrder_86 rfl (lv_at hl 1 rfl) ?_
        refine lv_iload hx hb dX9_nextOrder_87 (lv_at hl 2 rfl) ?_
        refine lv_icmp_ge (tgt := 108) hx hb dX9_nextOrder_89 (by decide) (fun c5 => ?_) (fun c5 => ?_)
        · replace hr := it_t hr c5
          have he := Option.some.inj hr
          cases he
          exact hX3 H locs ls hP hD hS (lv_sub hl [] rfl)
        · replace hr := it_f hr c5
          refine lv_aload_n hx hb dX9_nextOrder_92 rfl (lv_at hl 0 rfl) ?_
          refine lv_iload_n hx hb dX9_nextOrder_93 rfl (lv_at hl 1 rfl) ?_
          refine lv_iload hx hb dX9_nextOrder_94 (lv_at hl 2 rfl) ?_
          obtain ⟨T_order_4, hc2, hr⟩ := bd1_some hr
          refine call_v (D := (dC, dI)) (tys := tysA cC cI cJ) (wc := [(a_T, .inr (9, [.int T_guests, .ref a_T_kinds, .int T_wishes, .ref a_T_wishKind, .ref a_T_wishA, .ref a_T_wishB, .int T_begins, .ref a_T_st, .int T_acts, .ref a_T_was, .int T_keeps, .ref a_T_kept, .int T_wokes, .ref a_T_woke, .ref a_T_text, .int T_texted, .int T_at, .ref a_T_told, .int T_readGuests, .ref a_T_readKinds, .ref a_T_readFloors, .int T_readWishes, .ref a_T_readWishKind, .ref a_T_readWishA, .ref a_T_readWishB, .int T_readBegins, .int T_here, .int T_stands, .int T_many, .int T_rounds, .ref a_T_come, .ref a_T_keptBy, .ref a_T_endsAt, .ref a_T_order, .ref a_T_time, .ref a_T_place])), (a_T_order, .inl (cI, 6, .inl T_order_2))]) (wr := []) (w1 := [(a_T, .inr (9, [.int T_guests, .ref a_T_kinds, .int T_wishes, .ref a_T_wishKind, .ref a_T_wishA, .ref a_T_wishB, .int T_begins, .ref a_T_st, .int T_acts, .ref a_T_was, .int T_keeps, .ref a_T_kept, .int T_wokes, .ref a_T_woke, .ref a_T_text, .int T_texted, .int T_at, .ref a_T_told, .int T_readGuests, .ref a_T_readKinds, .ref a_T_readFloors, .int T_readWishes, .ref a_T_readWishKind, .ref a_T_readWishA, .ref a_T_readWishB, .int T_readBegins, .int T_here, .int T_stands, .int T_many, .int T_rounds, .ref a_T_come, .ref a_T_keptBy, .ref a_T_endsAt, .ref a_T_order, .ref a_T_time, .ref a_T_place])), (a_T_order, .inl (cI, 6, .inl T_order_4))]) (wn := [(a_T, .inr (9, [.int T_guests, .ref a_T_kinds, .int T_wishes, .ref a_T_wishKind, .ref a_T_wishA, .ref a_T_wishB, .int T_begins, .ref a_T_st, .int T_acts, .ref a_T_was, .int T_keeps, .ref a_T_kept, .int T_wokes, .ref a_T_woke, .ref a_T_text, .int T_texted, .int T_at, .ref a_T_told, .int T_readGuests, .ref a_T_readKinds, .ref a_T_readFloors, .int T_readWishes, .ref a_T_readWishKind, .ref a_T_readWishA, .ref a_T_readWishB, .int T_readBegins, .int T_here, .int T_stands, .int T_many, .int T_rounds, .ref a_T_come, .ref a_T_keptBy, .ref a_T_endsAt, .ref a_T_order, .ref a_T_time, .ref a_T_place])), (a_T_order, .inl (cI, 6, .inl T_order_4))]) hP hD hS hA [0, 1] [] [0, 1] rfl rfl (by decide +kernel) (by decide +kernel) rfl (by decide +kernel) (va_runV (As := [.int x3_1, .int x4_1]) (rest := []) ⟨hx, hb, hml, hown, hts⟩ (kX9_trades l dC dI cC cI cJ H.size K a_T a_T_kinds a_T_wishKind a_T_wishA a_T_wishB a_T_st a_T_was a_T_kept a_T_woke a_T_text a_T_told a_T_readKinds a_T_readFloors a_T_readWishKind a_T_readWishA a_T_readWishB a_T_come a_T_keptBy a_T_endsAt a_T_order a_T_time a_T_place x3_1 x4_1 T_guests T_wishes T_begins T_acts T_keeps T_wokes T_texted T_at T_readGuests T_readWishes T_readBegins T_here T_stands T_many T_rounds T_order_2 T_order_4 hc2) (cwV 2 hts gX9_nextOrder_X9_trades rfl rfl rfl (by decide +kernel) ⟨Nat.le_of_ble_eq_true rfl, Nat.le_of_ble_eq_true rfl⟩) ⟨fbW, va_recv hK hP (ci := 9) (q0 := 0) rfl rfl, preW hP hD hK hN [0, 1] rfl (by decide +kernel)⟩ rfl rfl hl.1 rfl (lv_room (Nat.le_of_ble_eq_true rfl)) dX9_nextOrder_96 ⟨Nat.zero_le _, Nat.zero_le _⟩) (fun H locs hP hD hS => ?_)
          obtain ⟨x3_2, e7, hr⟩ := nm_el hr
          refine lv_iinc (v := x3_2) (lv' := [(3, .int x3_2), (0, .ref a_T), (4, .int x4_1)]) hx hb dX9_nextOrder_99 hl (k := 1) rfl e7.symm (by decide) rfl (fun ls hl => ?_)
          obtain ⟨x4_2, e8, hr⟩ := nm_el hr
          refine lv_iinc (v := x4_2) (lv' := [(4, .int x4_2), (3, .int x3_2), (0, .ref a_T)]) hx hb dX9_nextOrder_102 hl (k := 2) rfl e8.symm (by decide) rfl (fun ls hl => ?_)
          refine lv_goto (tgt := 86) hx hb dX9_nextOrder_105 (by decide) ?_
          exact ih86 _ _ _ _ hr hX3 H locs ls hP hD hS (lv_sub hl [2, 1, 0] rfl)
    obtain ⟨T_order_3, hE, hr⟩ := bd1_some hr
    refine hL3 K x3 x4 T_order_1 T_order_3 hE ?_ H locs ls hP hD hS (lv_sub hl [2, 1, 0] rfl)
    intro H locs ls hP hD hS hl
    refine lv_iconst (v := 1) hx hb dX9_nextOrder_108 (by decide) ?_
    have he := Option.some.inj hr
    subst he
    subst hQ
    exact ret_z hx hb hrt (show narrow .boolean (.int 1) = .int 1 from rfl) hK hP hD hS hlocks dX9_nextOrder_109
  · replace hr := it_f hr c3
    refine lv_iconst (v := 0) hx hb dX9_nextOrder_38 (by decide) ?_
    have he := Option.some.inj hr
    subst he
    subst hQ
    exact ret_z hx hb hrt (show narrow .boolean (.int 0) = .int 0 from rfl) hK hP hD hS hlocks dX9_nextOrder_39
def fX9_notSooner_L4 (K : Nat) (x1 : Int32) (T_wishes : Int32) (T_stands : Int32) (T_wishKind : (Nat → Int32)) (T_wishA : (Nat → Int32)) (T_wishB : (Nat → Int32)) : Nat → Int32 → Int32 → Option (Int32)
  | 0, _, _ => none
  | n1 + 1, x2, x3 =>
    if T_wishes ≤ (x3 : Int32) then (
    some x2)
    else (
    bd1 (fX9_has K T_stands x3) fun r =>
    bd1 (τ0 := Int32) (
    if (r : Int32) = 0 then (
    some 0)
    else (
    gd (¬ ((x3 : Int32) < 0 ∨ 9 ≤ x3.toNatClampNeg)) (
    bs0 (
    if ((T_wishKind x3.toNatClampNeg) : Int32) = 3 then (
    gd (¬ ((x3 : Int32) < 0 ∨ 9 ≤ x3.toNatClampNeg)) (
    if ((T_wishA x3.toNatClampNeg) : Int32) = x1 then (
    gd (¬ ((x3 : Int32) < 0 ∨ 9 ≤ x3.toNatClampNeg)) (
    if ((T_wishB x3.toNatClampNeg) : Int32) ≤ x2 then (
    some (.inr ()))
    else (
    some (.inl 1))))
    else (
    some (.inr ()))))
    else (
    some (.inr ()))) (
    some 0)))) fun y =>
    bd1 (τ0 := Int32) (
    if (y : Int32) = 0 then (
    some x2)
    else (
    gd (¬ ((x3 : Int32) < 0 ∨ 9 ≤ x3.toNatClampNeg)) (
    some (T_wishB x3.toNatClampNeg)))) fun y_1 =>
    nm (x3 + 1) fun x3_1 =>
    fX9_notSooner_L4 K x1 T_wishes T_stands T_wishKind T_wishA T_wishB n1 y_1 x3_1)
def fX9_notSooner (K : Nat) (x1 : Int32) (T_wishes : Int32) (T_stands : Int32) (T_wishKind : (Nat → Int32)) (T_wishA : (Nat → Int32)) (T_wishB : (Nat → Int32)) : Option (Int32) :=
    bd1 (fX9_notSooner_L4 K x1 T_wishes T_stands T_wishKind T_wishA T_wishB K 0 0) fun x2_1 =>
    some x2_1
theorem mbX9_notSooner_0 : Cond.fieldLink RX9 145 "BootsAtDawnModel" "wishes" "I" ∈ wsX9_notSooner := List.mem_of_getElem? (i := 1) rfl
theorem inX9_notSooner_X9 : ∀ w ∈ u_ws RX9 TX9 36, w ∈ wsX9_notSooner := fun _ h => (List.mem_cons_of_mem _ (List.mem_append_right _ h))
theorem mbX9_notSooner_2 : Cond.fieldLink RX9 188 "BootsAtDawnModel" "stands" "I" ∈ wsX9_notSooner := List.mem_of_getElem? (i := 2) rfl
theorem mbX9_notSooner_3 : Cond.fieldLink RX9 13 "BootsAtDawnModel" "wishKind" "[I" ∈ wsX9_notSooner := List.mem_of_getElem? (i := 3) rfl
theorem mbX9_notSooner_4 : Cond.fieldLink RX9 16 "BootsAtDawnModel" "wishA" "[I" ∈ wsX9_notSooner := List.mem_of_getElem? (i := 4) rfl
theorem mbX9_notSooner_5 : Cond.fieldLink RX9 19 "BootsAtDawnModel" "wishB" "[I" ∈ wsX9_notSooner := List.mem_of_getElem? (i := 5) rfl
abbrev rmX9_notSooner : Room := { frames := 1, cells := 0, slots := 0, locals := 21 }
set_option maxHeartbeats 8000000 in
set_option maxRecDepth 100000 in
theorem kX9_notSooner (l : Launch) (dC : Nat → ClassId) (dI : Nat → Nat → Nat) (cC cI cJ : ClassId) (sz : Nat) (K : Nat) (a_T a_T_kinds a_T_wishKind a_T_wishA a_T_wishB a_T_st a_T_was a_T_kept a_T_woke a_T_text a_T_told a_T_readKinds a_T_readFloors a_T_readWishKind a_T_readWishA a_T_readWishB a_T_come a_T_keptBy a_T_endsAt a_T_order a_T_time a_T_place : Nat) (x1 : Int32) (T_guests : Int32) (T_wishes : Int32) (T_begins : Int32) (T_acts : Int32) (T_keeps : Int32) (T_wokes : Int32) (T_texted : Int32) (T_at : Int32) (T_readGuests : Int32) (T_readWishes : Int32) (T_readBegins : Int32) (T_here : Int32) (T_stands : Int32) (T_many : Int32) (T_rounds : Int32) (T_wishKind : (Nat → Int32)) (T_wishA : (Nat → Int32)) (T_wishB : (Nat → Int32)) (R : Int32) (hr : fX9_notSooner K x1 T_wishes T_stands T_wishKind T_wishA T_wishB = some R) : Met l yX9_notSooner wsX9_notSooner rmX9_notSooner (va_Pc ([.ref a_T, .int x1] : List Value) (PcW (dC, dI) (tysA cC cI cJ) sz [(a_T, .inr (9, [.int T_guests, .ref a_T_kinds, .int T_wishes, .ref a_T_wishKind, .ref a_T_wishA, .ref a_T_wishB, .int T_begins, .ref a_T_st, .int T_acts, .ref a_T_was, .int T_keeps, .ref a_T_kept, .int T_wokes, .ref a_T_woke, .ref a_T_text, .int T_texted, .int T_at, .ref a_T_told, .int T_readGuests, .ref a_T_readKinds, .ref a_T_readFloors, .int T_readWishes, .ref a_T_readWishKind, .ref a_T_readWishA, .ref a_T_readWishB, .int T_readBegins, .int T_here, .int T_stands, .int T_many, .int T_rounds, .ref a_T_come, .ref a_T_keptBy, .ref a_T_endsAt, .ref a_T_order, .ref a_T_time, .ref a_T_place])), (a_T_wishKind, .inl (cI, 9, .inl T_wishKind)), (a_T_wishA, .inl (cI, 9, .inl T_wishA)), (a_T_wishB, .inl (cI, 9, .inl T_wishB))])) (va_Qi (fun r (_ : Unit) => r = R) (fun _ => BW (dC, dI) (tysA cC cI cJ) (va_A [(a_T, .inr (9, [.int T_guests, .ref a_T_kinds, .int T_wishes, .ref a_T_wishKind, .ref a_T_wishA, .ref a_T_wishB, .int T_begins, .ref a_T_st, .int T_acts, .ref a_T_was, .int T_keeps, .ref a_T_kept, .int T_wokes, .ref a_T_woke, .ref a_T_text, .int T_texted, .int T_at, .ref a_T_told, .int T_readGuests, .ref a_T_readKinds, .ref a_T_readFloors, .int T_readWishes, .ref a_T_readWishKind, .ref a_T_readWishA, .ref a_T_readWishB, .int T_readBegins, .int T_here, .int T_stands, .int T_many, .int T_rounds, .ref a_T_come, .ref a_T_keptBy, .ref a_T_endsAt, .ref a_T_order, .ref a_T_time, .ref a_T_place])), (a_T_wishKind, .inl (cI, 9, .inl T_wishKind)), (a_T_wishA, .inl (cI, 9, .inl T_wishA)), (a_T_wishB, .inl (cI, 9, .inl T_wishB))] sz) [(a_T, .inr (9, [.int T_guests, .ref a_T_kinds, .int T_wishes, .ref a_T_wishKind, .ref a_T_wishA, .ref a_T_wishB, .int T_begins, .ref a_T_st, .int T_acts, .ref a_T_was, .int T_keeps, .ref a_T_kept, .int T_wokes, .ref a_T_woke, .ref a_T_text, .int T_texted, .int T_at, .ref a_T_told, .int T_readGuests, .ref a_T_readKinds, .ref a_T_readFloors, .int T_readWishes, .ref a_T_readWishKind, .ref a_T_readWishA, .ref a_T_readWishB, .int T_readBegins, .int T_here, .int T_stands, .int T_many, .int T_rounds, .ref a_T_come, .ref a_T_keptBy, .ref a_T_endsAt, .ref a_T_order, .ref a_T_time, .ref a_T_place])), (a_T_wishKind, .inl (cI, 9, .inl T_wishKind)), (a_T_wishA, .inl (cI, 9, .inl T_wishA)), (a_T_wishB, .inl (cI, 9, .inl T_wishB))]) (va_A [(a_T, .inr (9, [.int T_guests, .ref a_T_kinds, .int T_wishes, .ref a_T_wishKind, .ref a_T_wishA, .ref a_T_wishB, .int T_begins, .ref a_T_st, .int T_acts, .ref a_T_was, .int T_keeps, .ref a_T_kept, .int T_wokes, .ref a_T_woke, .ref a_T_text, .int T_texted, .int T_at, .ref a_T_told, .int T_readGuests, .ref a_T_readKinds, .ref a_T_readFloors, .int T_readWishes, .ref a_T_readWishKind, .ref a_T_readWishA, .ref a_T_readWishB, .int T_readBegins, .int T_here, .int T_stands, .int T_many, .int T_rounds, .ref a_T_come, .ref a_T_keptBy, .ref a_T_endsAt, .ref a_T_order, .ref a_T_time, .ref a_T_place])), (a_T_wishKind, .inl (cI, 9, .inl T_wishKind)), (a_T_wishA, .inl (cI, 9, .inl T_wishA)), (a_T_wishB, .inl (cI, 9, .inl T_wishB))] sz)) 0 0 (va_A [(a_T, .inr (9, [.int T_guests, .ref a_T_kinds, .int T_wishes, .ref a_T_wishKind, .ref a_T_wishA, .ref a_T_wishB, .int T_begins, .ref a_T_st, .int T_acts, .ref a_T_was, .int T_keeps, .ref a_T_kept, .int T_wokes, .ref a_T_woke, .ref a_T_text, .int T_texted, .int T_at, .ref a_T_told, .int T_readGuests, .ref a_T_readKinds, .ref a_T_readFloors, .int T_readWishes, .ref a_T_readWishKind, .ref a_T_readWishA, .ref a_T_readWishB, .int T_readBegins, .int T_here, .int T_stands, .int T_many, .int T_rounds, .ref a_T_come, .ref a_T_keptBy, .ref a_T_endsAt, .ref a_T_order, .ref a_T_time, .ref a_T_place])), (a_T_wishKind, .inl (cI, 9, .inl T_wishKind)), (a_T_wishA, .inl (cI, 9, .inl T_wishA)), (a_T_wishB, .inl (cI, 9, .inl T_wishB))] sz) := by
  refine Met.ofW (cc := cX9_notSooner) (maxL := 5) (ret := (some .int)) (by decide) rfl ?_
  intro p e s m args below meth c s₁ B hml hv
  obtain ⟨rfl, hsz, hP, hK, hD0, hN⟩ := hv
  have hx := B.exec
  have hb := B.bytes
  have hrt := B.returns
  have hts := atoms_spec (ws := wsX9_notSooner) B.pre
  have hown : s.vm.findClass RX9 = some m.cls := findClass_of_methodNamed B.named
  have hlocks := B.notSynchronized
  subst hsz
  have hD := hD0.self (sz := s.heap.size)
  generalize hAe : va_A [(a_T, .inr (9, [.int T_guests, .ref a_T_kinds, .int T_wishes, .ref a_T_wishKind, .ref a_T_wishA, .ref a_T_wishB, .int T_begins, .ref a_T_st, .int T_acts, .ref a_T_was, .int T_keeps, .ref a_T_kept, .int T_wokes, .ref a_T_woke, .ref a_T_text, .int T_texted, .int T_at, .ref a_T_told, .int T_readGuests, .ref a_T_readKinds, .ref a_T_readFloors, .int T_readWishes, .ref a_T_readWishKind, .ref a_T_readWishA, .ref a_T_readWishB, .int T_readBegins, .int T_here, .int T_stands, .int T_many, .int T_rounds, .ref a_T_come, .ref a_T_keptBy, .ref a_T_endsAt, .ref a_T_order, .ref a_T_time, .ref a_T_place])), (a_T_wishKind, .inl (cI, 9, .inl T_wishKind)), (a_T_wishA, .inl (cI, 9, .inl T_wishA)), (a_T_wishB, .inl (cI, 9, .inl T_wishB))] s.heap.size = A at hD ⊢
  have hA : ∀ q : Nat, s.heap.size ≤ q → A q := fun q h => by rw [← hAe]; exact Or.inr h
  have hS : va_S A s.heap s.heap [] := va_S.rf
  have hl := lv_entry ([.ref a_T, .int x1] : List Value) (n := 5) (Nat.le_of_ble_eq_true rfl)
  rw [lg_entry_eq]
  generalize (lg_sl ([.ref a_T, .int x1] : List Value) ++ List.replicate (5 - (lg_sl ([.ref a_T, .int x1] : List Value)).length) Slot.unset).toArray = ls at hl ⊢
  replace hl : lv_has ls 5 [(0, .ref a_T), (1, .int x1)] := hl
  obtain ⟨Q, hQ⟩ : ∃ Q, Q = MQ below (va_Qi (fun r (_ : Unit) => r = R) (fun _ => BW (dC, dI) (tysA cC cI cJ) A [(a_T, .inr (9, [.int T_guests, .ref a_T_kinds, .int T_wishes, .ref a_T_wishKind, .ref a_T_wishA, .ref a_T_wishB, .int T_begins, .ref a_T_st, .int T_acts, .ref a_T_was, .int T_keeps, .ref a_T_kept, .int T_wokes, .ref a_T_woke, .ref a_T_text, .int T_texted, .int T_at, .ref a_T_told, .int T_readGuests, .ref a_T_readKinds, .ref a_T_readFloors, .int T_readWishes, .ref a_T_readWishKind, .ref a_T_readWishA, .ref a_T_readWishB, .int T_readBegins, .int T_here, .int T_stands, .int T_many, .int T_rounds, .ref a_T_come, .ref a_T_keptBy, .ref a_T_endsAt, .ref a_T_order, .ref a_T_time, .ref a_T_place])), (a_T_wishKind, .inl (cI, 9, .inl T_wishKind)), (a_T_wishA, .inl (cI, 9, .inl T_wishA)), (a_T_wishB, .inl (cI, 9, .inl T_wishB))]) A) ([.ref a_T, .int x1] : List Value).toArray s 0 0 A := ⟨_, rfl⟩
  rw [← hQ]
  suffices hE : WG p l e rmX9_notSooner s m ([.ref a_T, .int x1] : List Value).toArray below meth c 0 0 Q (dC, dI) A 0 5 [(a_T, .inr (9, [.int T_guests, .ref a_T_kinds, .int T_wishes, .ref a_T_wishKind, .ref a_T_wishA, .ref a_T_wishB, .int T_begins, .ref a_T_st, .int T_acts, .ref a_T_was, .int T_keeps, .ref a_T_kept, .int T_wokes, .ref a_T_woke, .ref a_T_text, .int T_texted, .int T_at, .ref a_T_told, .int T_readGuests, .ref a_T_readKinds, .ref a_T_readFloors, .int T_readWishes, .ref a_T_readWishKind, .ref a_T_readWishA, .ref a_T_readWishB, .int T_readBegins, .int T_here, .int T_stands, .int T_many, .int T_rounds, .ref a_T_come, .ref a_T_keptBy, .ref a_T_endsAt, .ref a_T_order, .ref a_T_time, .ref a_T_place])), (a_T_wishKind, .inl (cI, 9, .inl T_wishKind)), (a_T_wishA, .inl (cI, 9, .inl T_wishA)), (a_T_wishB, .inl (cI, 9, .inl T_wishB))] [(0, .ref a_T), (1, .int x1)] [] from hE _ _ _ hP hD hS hl
  clear hP hD hS hl hD0 hAe
  intro H locs ls hP hD hS hl
  unfold fX9_notSooner at hr
  refine lv_iconst (v := 0) hx hb dX9_notSooner_0 (by decide) ?_
  refine lv_istore_n (lv' := [(2, .int 0), (0, .ref a_T), (1, .int x1)]) hx hb dX9_notSooner_1 rfl hl (by decide) rfl (fun ls hl => ?_)
  refine lv_iconst (v := 0) hx hb dX9_notSooner_2 (by decide) ?_
  refine lv_istore_n (lv' := [(3, .int 0), (2, .int 0), (0, .ref a_T), (1, .int x1)]) hx hb dX9_notSooner_3 rfl hl (by decide) rfl (fun ls hl => ?_)
  have hL1 : ∀ (n1 : Nat) (x2 : Int32) (x3 : Int32) (x2_1 : Int32), fX9_notSooner_L4 K x1 T_wishes T_stands T_wishKind T_wishA T_wishB n1 x2 x3 = some x2_1 → WG p l e rmX9_notSooner s m ([.ref a_T, .int x1] : List Value).toArray below meth c 0 0 Q (dC, dI) A 82 5 [(a_T, .inr (9, [.int T_guests, .ref a_T_kinds, .int T_wishes, .ref a_T_wishKind, .ref a_T_wishA, .ref a_T_wishB, .int T_begins, .ref a_T_st, .int T_acts, .ref a_T_was, .int T_keeps, .ref a_T_kept, .int T_wokes, .ref a_T_woke, .ref a_T_text, .int T_texted, .int T_at, .ref a_T_told, .int T_readGuests, .ref a_T_readKinds, .ref a_T_readFloors, .int T_readWishes, .ref a_T_readWishKind, .ref a_T_readWishA, .ref a_T_readWishB, .int T_readBegins, .int T_here, .int T_stands, .int T_many, .int T_rounds, .ref a_T_come, .ref a_T_keptBy, .ref a_T_endsAt, .ref a_T_order, .ref a_T_time, .ref a_T_place])), (a_T_wishKind, .inl (cI, 9, .inl T_wishKind)), (a_T_wishA, .inl (cI, 9, .inl T_wishA)), (a_T_wishB, .inl (cI, 9, .inl T_wishB))] [(2, .int x2_1)] [] → WG p l e rmX9_notSooner s m ([.ref a_T, .int x1] : List Value).toArray below meth c 0 0 Q (dC, dI) A 4 5 [(a_T, .inr (9, [.int T_guests, .ref a_T_kinds, .int T_wishes, .ref a_T_wishKind, .ref a_T_wishA, .ref a_T_wishB, .int T_begins, .ref a_T_st, .int T_acts, .ref a_T_was, .int T_keeps, .ref a_T_kept, .int T_wokes, .ref a_T_woke, .ref a_T_text, .int T_texted, .int T_at, .ref a_T_told, .int T_readGuests, .ref a_T_readKinds, .ref a_T_readFloors, .int T_readWishes, .ref a_T_readWishKind, .ref a_T_readWishA, .ref a_T_readWishB, .int T_readBegins, .int T_here, .int T_stands, .int T_many, .int T_rounds, .ref a_T_come, .ref a_T_keptBy, .ref a_T_endsAt, .ref a_T_order, .ref a_T_time, .ref a_T_place])), (a_T_wishKind, .inl (cI, 9, .inl T_wishKind)), (a_T_wishA, .inl (cI, 9, .inl T_wishA)), (a_T_wishB, .inl (cI, 9, .inl T_wishB))] [(0, .ref a_T), (1, .int x1), (2, .int x2), (3, .int x3)] [] := by
    intro n1
    induction n1 with
    | zero =>
      intro x2 x3 x2_1 hr
      rw [fX9_notSooner_L4] at hr
      cases hr
    | succ n1 ih4 =>
      intro x2 x3 x2_1 hr hX1 H locs ls hP hD hS hl
      rw [fX9_notSooner_L4] at hr
      refine lv_iload_n hx hb dX9_notSooner_4 rfl (lv_at hl 3 rfl) ?_
      refine lv_aload_n hx hb dX9_notSooner_5 rfl (lv_at hl 0 rfl) ?_
      refine va_get (D := (dC, dI)) (ci := 9) (v := .int T_wishes) (C := RX9) (T := TX9) (N := 36) hx hb hts inX9_notSooner_X9 hown hK hP 0 rfl rfl 2 (by decide) (hts _ mbX9_notSooner_0) (fun _ h9 => h9) rfl dX9_notSooner_6 ?_
      refine lv_icmp_ge (tgt := 82) hx hb dX9_notSooner_9 (by decide) (fun c1 => ?_) (fun c1 => ?_)
      · replace hr := it_t hr c1
        have he := Option.some.inj hr
        cases he
        exact hX1 H locs ls hP hD hS (lv_sub hl [2] rfl)
      · replace hr := it_f hr c1
        refine lv_aload_n hx hb dX9_notSooner_12 rfl (lv_at hl 0 rfl) ?_
        refine va_get (D := (dC, dI)) (ci := 9) (v := .int T_stands) (C := RX9) (T := TX9) (N := 36) hx hb hts inX9_notSooner_X9 hown hK hP 0 rfl rfl 27 (by decide) (hts _ mbX9_notSooner_2) (fun _ h9 => h9) rfl dX9_notSooner_13 ?_
        refine lv_iload_n hx hb dX9_notSooner_16 rfl (lv_at hl 3 rfl) ?_
        obtain ⟨r, hc1, hr⟩ := bd1_some hr
        refine call_i (D := (dC, dI)) (tys := tysA cC cI cJ) (wc := []) (wr := [(a_T, .inr (9, [.int T_guests, .ref a_T_kinds, .int T_wishes, .ref a_T_wishKind, .ref a_T_wishA, .ref a_T_wishB, .int T_begins, .ref a_T_st, .int T_acts, .ref a_T_was, .int T_keeps, .ref a_T_kept, .int T_wokes, .ref a_T_woke, .ref a_T_text, .int T_texted, .int T_at, .ref a_T_told, .int T_readGuests, .ref a_T_readKinds, .ref a_T_readFloors, .int T_readWishes, .ref a_T_readWishKind, .ref a_T_readWishA, .ref a_T_readWishB, .int T_readBegins, .int T_here, .int T_stands, .int T_many, .int T_rounds, .ref a_T_come, .ref a_T_keptBy, .ref a_T_endsAt, .ref a_T_order, .ref a_T_time, .ref a_T_place])), (a_T_wishKind, .inl (cI, 9, .inl T_wishKind)), (a_T_wishA, .inl (cI, 9, .inl T_wishA)), (a_T_wishB, .inl (cI, 9, .inl T_wishB))]) (w1 := []) (wn := [(a_T, .inr (9, [.int T_guests, .ref a_T_kinds, .int T_wishes, .ref a_T_wishKind, .ref a_T_wishA, .ref a_T_wishB, .int T_begins, .ref a_T_st, .int T_acts, .ref a_T_was, .int T_keeps, .ref a_T_kept, .int T_wokes, .ref a_T_woke, .ref a_T_text, .int T_texted, .int T_at, .ref a_T_told, .int T_readGuests, .ref a_T_readKinds, .ref a_T_readFloors, .int T_readWishes, .ref a_T_readWishKind, .ref a_T_readWishA, .ref a_T_readWishB, .int T_readBegins, .int T_here, .int T_stands, .int T_many, .int T_rounds, .ref a_T_come, .ref a_T_keptBy, .ref a_T_endsAt, .ref a_T_order, .ref a_T_time, .ref a_T_place])), (a_T_wishKind, .inl (cI, 9, .inl T_wishKind)), (a_T_wishA, .inl (cI, 9, .inl T_wishA)), (a_T_wishB, .inl (cI, 9, .inl T_wishB))]) (r0 := r) hP hD hS hA [] [0, 1, 2, 3] [0, 1, 2, 3] rfl rfl (by decide +kernel) (by decide +kernel) rfl (by decide +kernel) (va_runS (As := [.int T_stands, .int x3]) (rest := []) ⟨hx, hb, hml, hown, hts⟩ (kX9_has l dC dI cC cI cJ H.size K T_stands x3 r hc1) (va_cwS 2 hts gX9_notSooner_X9_has rfl rfl rfl (by decide +kernel) ⟨Nat.le_of_ble_eq_true rfl, Nat.le_of_ble_eq_true rfl⟩) ⟨fbW, preW hP hD hK hN [] rfl (by decide +kernel)⟩ rfl rfl hl.1 rfl (lv_room (Nat.le_of_ble_eq_true rfl)) dX9_notSooner_17 ⟨Nat.zero_le _, Nat.zero_le _⟩) (fun H locs hP hD hS => ?_)
        obtain ⟨y, hj2, hr⟩ := bd1_some hr
        have hJ1 : WG p l e rmX9_notSooner s m ([.ref a_T, .int x1] : List Value).toArray below meth c 0 0 Q (dC, dI) A 58 5 [(a_T, .inr (9, [.int T_guests, .ref a_T_kinds, .int T_wishes, .ref a_T_wishKind, .ref a_T_wishA, .ref a_T_wishB, .int T_begins, .ref a_T_st, .int T_acts, .ref a_T_was, .int T_keeps, .ref a_T_kept, .int T_wokes, .ref a_T_woke, .ref a_T_text, .int T_texted, .int T_at, .ref a_T_told, .int T_readGuests, .ref a_T_readKinds, .ref a_T_readFloors, .int T_readWishes, .ref a_T_readWishKind, .ref a_T_readWishA, .ref a_T_readWishB, .int T_readBegins, .int T_here, .int T_stands, .int T_many, .int T_rounds, .ref a_T_come, .ref a_T_keptBy, .ref a_T_endsAt, .ref a_T_order, .ref a_T_time, .ref a_T_place])), (a_T_wishKind, .inl (cI, 9, .inl T_wishKind)), (a_T_wishA, .inl (cI, 9, .inl T_wishA)), (a_T_wishB, .inl (cI, 9, .inl T_wishB))] [(0, .ref a_T), (1, .int x1), (2, .int x2), (3, .int x3)] [.int y] := by
          intro H locs ls hP hD hS hl
          refine lv_istore (lv' := [(4, .int y), (0, .ref a_T), (1, .int x1), (2, .int x2), (3, .int x3)]) hx hb dX9_notSooner_58 hl (by decide) rfl (fun ls hl => ?_)
          refine lv_iload hx hb dX9_notSooner_60 (lv_at hl 0 rfl) ?_
          obtain ⟨y_1, hj1, hr⟩ := bd1_some hr
          have hJ3 : WG p l e rmX9_notSooner s m ([.ref a_T, .int x1] : List Value).toArray below meth c 0 0 Q (dC, dI) A 75 5 [(a_T, .inr (9, [.int T_guests, .ref a_T_kinds, .int T_wishes, .ref a_T_wishKind, .ref a_T_wishA, .ref a_T_wishB, .int T_begins, .ref a_T_st, .int T_acts, .ref a_T_was, .int T_keeps, .ref a_T_kept, .int T_wokes, .ref a_T_woke, .ref a_T_text, .int T_texted, .int T_at, .ref a_T_told, .int T_readGuests, .ref a_T_readKinds, .ref a_T_readFloors, .int T_readWishes, .ref a_T_readWishKind, .ref a_T_readWishA, .ref a_T_readWishB, .int T_readBegins, .int T_here, .int T_stands, .int T_many, .int T_rounds, .ref a_T_come, .ref a_T_keptBy, .ref a_T_endsAt, .ref a_T_order, .ref a_T_time, .ref a_T_place])), (a_T_wishKind, .inl (cI, 9, .inl T_wishKind)), (a_T_wishA, .inl (cI, 9, .inl T_wishA)), (a_T_wishB, .inl (cI, 9, .inl T_wishB))] [(0, .ref a_T), (1, .int x1), (3, .int x3)] [.int y_1] := by
            intro H locs ls hP hD hS hl
            refine lv_istore_n (lv' := [(2, .int y_1), (0, .ref a_T), (1, .int x1), (3, .int x3)]) hx hb dX9_notSooner_75 rfl hl (by decide) rfl (fun ls hl => ?_)
            obtain ⟨x3_1, e1, hr⟩ := nm_el hr
            refine lv_iinc (v := x3_1) (lv' := [(3, .int x3_1), (2, .int y_1), (0, .ref a_T), (1, .int x1)]) hx hb dX9_notSooner_76 hl (k := 3) rfl e1.symm (by decide) rfl (fun ls hl => ?_)
            refine lv_goto (tgt := 4) hx hb dX9_notSooner_79 (by decide) ?_
            exact ih4 _ _ _ hr hX1 H locs ls hP hD hS (lv_sub hl [2, 3, 1, 0] rfl)
          replace hr := hj1
          refine lv_if_eq (tgt := 74) hx hb dX9_notSooner_62 (by decide) (fun c6 => ?_) (fun c6 => ?_)
          · replace hr := it_t hr c6
            refine lv_iload_n hx hb dX9_notSooner_74 rfl (lv_at hl 3 rfl) ?_
            cases hr
            exact hJ3 H locs ls hP hD hS (lv_sub hl [1, 2, 4] rfl)
          · replace hr := it_f hr c6
            refine lv_aload_n hx hb dX9_notSooner_65 rfl (lv_at hl 1 rfl) ?_
            refine va_get (D := (dC, dI)) (ci := 9) (v := .ref a_T_wishB) (C := RX9) (T := TX9) (N := 36) hx hb hts inX9_notSooner_X9 hown hK hP 0 rfl rfl 5 (by decide) (hts _ mbX9_notSooner_5) (fun _ h9 => h9) rfl dX9_notSooner_66 ?_
            refine lv_iload_n hx hb dX9_notSooner_69 rfl (lv_at hl 4 rfl) ?_
            obtain ⟨g4, hr⟩ := gd_some hr
            refine va_iald hx hb hK hP 3 1 rfl rfl g4 dX9_notSooner_70 ?_
            refine lv_goto (tgt := 75) hx hb dX9_notSooner_71 (by decide) ?_
            cases hr
            exact hJ3 H locs ls hP hD hS (lv_sub hl [1, 2, 4] rfl)
        replace hr := hj2
        refine lv_if_eq (tgt := 57) hx hb dX9_notSooner_20 (by decide) (fun c2 => ?_) (fun c2 => ?_)
        · replace hr := it_t hr c2
          refine lv_iconst (v := 0) hx hb dX9_notSooner_57 (by decide) ?_
          cases hr
          exact hJ1 H locs ls hP hD hS (lv_sub hl [0, 1, 2, 3] rfl)
        · replace hr := it_f hr c2
          refine lv_aload_n hx hb dX9_notSooner_23 rfl (lv_at hl 0 rfl) ?_
          refine va_get (D := (dC, dI)) (ci := 9) (v := .ref a_T_wishKind) (C := RX9) (T := TX9) (N := 36) hx hb hts inX9_notSooner_X9 hown hK hP 0 rfl rfl 3 (by decide) (hts _ mbX9_notSooner_3) (fun _ h9 => h9) rfl dX9_notSooner_24 ?_
          refine lv_iload_n hx hb dX9_notSooner_27 rfl (lv_at hl 3 rfl) ?_
          obtain ⟨g1, hr⟩ := gd_some hr
          refine va_iald hx hb hK hP 1 1 rfl rfl g1 dX9_notSooner_28 ?_
          refine lv_iconst (v := 3) hx hb dX9_notSooner_29 (by decide) ?_
          obtain ⟨X3, hj, hi3, hk⟩ := bs0_some hr
          have hJ2 : X3 = .inr () → WG p l e rmX9_notSooner s m ([.ref a_T, .int x1] : List Value).toArray below meth c 0 0 Q (dC, dI) A 57 5 [(a_T, .inr (9, [.int T_guests, .ref a_T_kinds, .int T_wishes, .ref a_T_wishKind, .ref a_T_wishA, .ref a_T_wishB, .int T_begins, .ref a_T_st, .int T_acts, .ref a_T_was, .int T_keeps, .ref a_T_kept, .int T_wokes, .ref a_T_woke, .ref a_T_text, .int T_texted, .int T_at, .ref a_T_told, .int T_readGuests, .ref a_T_readKinds, .ref a_T_readFloors, .int T_readWishes, .ref a_T_readWishKind, .ref a_T_readWishA, .ref a_T_readWishB, .int T_readBegins, .int T_here, .int T_stands, .int T_many, .int T_rounds, .ref a_T_come, .ref a_T_keptBy, .ref a_T_endsAt, .ref a_T_order, .ref a_T_time, .ref a_T_place])), (a_T_wishKind, .inl (cI, 9, .inl T_wishKind)), (a_T_wishA, .inl (cI, 9, .inl T_wishA)), (a_T_wishB, .inl (cI, 9, .inl T_wishB))] [(0, .ref a_T), (1, .int x1), (2, .int x2), (3, .int x3)] [] := by
            intro he
            replace hr := hk he
            intro H locs ls hP hD hS hl
            refine lv_iconst (v := 0) hx hb dX9_notSooner_57 (by decide) ?_
            cases hr
            exact hJ1 H locs ls hP hD hS (lv_sub hl [0, 1, 2, 3] rfl)
          replace hr := hj
          refine lv_icmp_ne (tgt := 57) hx hb dX9_notSooner_30 (by decide) (fun c3 => ?_) (fun c3 => ?_)
          · replace hr := it_f hr c3
            exact hJ2 (Option.some.inj hr).symm H locs ls hP hD hS (lv_sub hl [0, 1, 2, 3] rfl)
          · replace hr := it_t hr c3
            refine lv_aload_n hx hb dX9_notSooner_33 rfl (lv_at hl 0 rfl) ?_
            refine va_get (D := (dC, dI)) (ci := 9) (v := .ref a_T_wishA) (C := RX9) (T := TX9) (N := 36) hx hb hts inX9_notSooner_X9 hown hK hP 0 rfl rfl 4 (by decide) (hts _ mbX9_notSooner_4) (fun _ h9 => h9) rfl dX9_notSooner_34 ?_
            refine lv_iload_n hx hb dX9_notSooner_37 rfl (lv_at hl 3 rfl) ?_
            obtain ⟨g2, hr⟩ := gd_some hr
            refine va_iald hx hb hK hP 2 1 rfl rfl g2 dX9_notSooner_38 ?_
            refine lv_iload_n hx hb dX9_notSooner_39 rfl (lv_at hl 1 rfl) ?_
            refine lv_icmp_ne (tgt := 57) hx hb dX9_notSooner_40 (by decide) (fun c4 => ?_) (fun c4 => ?_)
            · replace hr := it_f hr c4
              exact hJ2 (Option.some.inj hr).symm H locs ls hP hD hS (lv_sub hl [0, 1, 2, 3] rfl)
            · replace hr := it_t hr c4
              refine lv_aload_n hx hb dX9_notSooner_43 rfl (lv_at hl 0 rfl) ?_
              refine va_get (D := (dC, dI)) (ci := 9) (v := .ref a_T_wishB) (C := RX9) (T := TX9) (N := 36) hx hb hts inX9_notSooner_X9 hown hK hP 0 rfl rfl 5 (by decide) (hts _ mbX9_notSooner_5) (fun _ h9 => h9) rfl dX9_notSooner_44 ?_
              refine lv_iload_n hx hb dX9_notSooner_47 rfl (lv_at hl 3 rfl) ?_
              obtain ⟨g3, hr⟩ := gd_some hr
              refine va_iald hx hb hK hP 3 1 rfl rfl g3 dX9_notSooner_48 ?_
              refine lv_iload_n hx hb dX9_notSooner_49 rfl (lv_at hl 2 rfl) ?_
              refine lv_icmp_le (tgt := 57) hx hb dX9_notSooner_50 (by decide) (fun c5 => ?_) (fun c5 => ?_)
              · replace hr := it_t hr c5
                exact hJ2 (Option.some.inj hr).symm H locs ls hP hD hS (lv_sub hl [0, 1, 2, 3] rfl)
              · replace hr := it_f hr c5
                refine lv_iconst (v := 1) hx hb dX9_notSooner_53 (by decide) ?_
                refine lv_goto (tgt := 58) hx hb dX9_notSooner_54 (by decide) ?_
                have he := Option.some.inj hr
                replace he := hi3 _ he.symm
                cases he
                exact hJ1 H locs ls hP hD hS (lv_sub hl [0, 1, 2, 3] rfl)
  obtain ⟨x2_1, hE, hr⟩ := bd1_some hr
  refine hL1 K 0 0 x2_1 hE ?_ H locs ls hP hD hS (lv_sub hl [2, 3, 1, 0] rfl)
  intro H locs ls hP hD hS hl
  refine lv_iload_n hx hb dX9_notSooner_82 rfl (lv_at hl 0 rfl) ?_
  have he := Option.some.inj hr
  subst he
  subst hQ
  exact ret_i hx hb hrt hK hP hD hS hlocks dX9_notSooner_83
def fX9_goesRound_L9 (K : Nat) (T_wishes : Int32) (T_stands : Int32) (T_many : Int32) (T_order : (Nat → Int32)) (T_st : (Nat → Int32)) (T_wishKind : (Nat → Int32)) (T_wishA : (Nat → Int32)) (T_wishB : (Nat → Int32)) (T_kinds : (Nat → Int32)) : Nat → Int32 → Int32 → Int32 → (Nat → Int32) → (Nat → Int32) → Option (Int32 × (Nat → Int32) × (Nat → Int32))
  | 0, _, _, _, _, _ => none
  | n1 + 1, x1, x2, x3, T_time_1, T_place_1 =>
    if T_many ≤ (x3 : Int32) then (
    some (x1, T_time_1, T_place_1))
    else (
    gd (¬ ((x3 : Int32) < 0 ∨ 6 ≤ x3.toNatClampNeg)) (
    nm (T_order x3.toNatClampNeg) fun x4 =>
    gd (¬ (((2 + x4) : Int32) < 0 ∨ 8 ≤ (2 + x4).toNatClampNeg)) (
    nm ((T_st (2 + x4).toNatClampNeg) - x2) fun x5 =>
    bd1 (τ0 := Int32) (
    if 0 ≤ (x5 : Int32) then (
    some x5)
    else (
    some (-x5))) fun y =>
    nm (x1 + y) fun x1_2 =>
    gd (¬ (((2 + x4) : Int32) < 0 ∨ 8 ≤ (2 + x4).toNatClampNeg)) (
    nm (T_st (2 + x4).toNatClampNeg) fun x2_1 =>
    bd1 (fX9_notSooner K x4 T_wishes T_stands T_wishKind T_wishA T_wishB) fun r =>
    bd1 (τ0 := Int32) (
    if (r : Int32) ≤ x1_2 then (
    some x1_2)
    else (
    some r)) fun y_1 =>
    gd (¬ ((x4 : Int32) < 0 ∨ 6 ≤ x4.toNatClampNeg)) (
    nm (upd T_time_1 x4.toNatClampNeg y_1) fun T_time_3 =>
    gd (¬ ((x4 : Int32) < 0 ∨ 6 ≤ x4.toNatClampNeg)) (
    nm (upd T_place_1 x4.toNatClampNeg x3) fun T_place_3 =>
    bd1 (fX9_wakes K x4 T_kinds T_st) fun r_1 =>
    nm (y_1 + r_1) fun x1_3 =>
    nm (x3 + 1) fun x3_1 =>
    fX9_goesRound_L9 K T_wishes T_stands T_many T_order T_st T_wishKind T_wishA T_wishB T_kinds n1 x1_3 x2_1 x3_1 T_time_3 T_place_3))))))
def fX9_goesRound (K : Nat) (T_wishes : Int32) (T_begins : Int32) (T_stands : Int32) (T_many : Int32) (T_order : (Nat → Int32)) (T_st : (Nat → Int32)) (T_wishKind : (Nat → Int32)) (T_wishA : (Nat → Int32)) (T_wishB : (Nat → Int32)) (T_time : (Nat → Int32)) (T_place : (Nat → Int32)) (T_kinds : (Nat → Int32)) : Option (Int32 × (Nat → Int32) × (Nat → Int32)) :=
    bd3 (fX9_goesRound_L9 K T_wishes T_stands T_many T_order T_st T_wishKind T_wishA T_wishB T_kinds K T_begins 0 0 T_time T_place) fun x1_1 T_time_2 T_place_2 =>
    some (x1_1, T_time_2, T_place_2)
theorem mbX9_goesRound_0 : Cond.fieldLink RX9 148 "BootsAtDawnModel" "begins" "I" ∈ wsX9_goesRound := List.mem_of_getElem? (i := 1) rfl
theorem inX9_goesRound_X9 : ∀ w ∈ u_ws RX9 TX9 36, w ∈ wsX9_goesRound := fun _ h => (List.mem_cons_of_mem _ (List.mem_append_right _ h))
theorem mbX9_goesRound_2 : Cond.fieldLink RX9 182 "BootsAtDawnModel" "many" "I" ∈ wsX9_goesRound := List.mem_of_getElem? (i := 2) rfl
theorem mbX9_goesRound_3 : Cond.fieldLink RX9 64 "BootsAtDawnModel" "order" "[I" ∈ wsX9_goesRound := List.mem_of_getElem? (i := 3) rfl
theorem mbX9_goesRound_4 : Cond.fieldLink RX9 22 "BootsAtDawnModel" "st" "[I" ∈ wsX9_goesRound := List.mem_of_getElem? (i := 4) rfl
theorem mbX9_goesRound_5 : Cond.fieldLink RX9 67 "BootsAtDawnModel" "time" "[I" ∈ wsX9_goesRound := List.mem_of_getElem? (i := 5) rfl
theorem mbX9_goesRound_6 : Cond.fieldLink RX9 70 "BootsAtDawnModel" "place" "[I" ∈ wsX9_goesRound := List.mem_of_getElem? (i := 6) rfl
abbrev rmX9_goesRound : Room := { frames := 2, cells := 0, slots := 0, locals := 45 }
set_option maxHeartbeats 8000000 in
set_option maxRecDepth 100000 in
theorem kX9_goesRound (l : Launch) (dC : Nat → ClassId) (dI : Nat → Nat → Nat) (cC cI cJ : ClassId) (sz : Nat) (K : Nat) (a_T a_T_kinds a_T_wishKind a_T_wishA a_T_wishB a_T_st a_T_was a_T_kept a_T_woke a_T_text a_T_told a_T_readKinds a_T_readFloors a_T_readWishKind a_T_readWishA a_T_readWishB a_T_come a_T_keptBy a_T_endsAt a_T_order a_T_time a_T_place : Nat) (T_guests : Int32) (T_wishes : Int32) (T_begins : Int32) (T_acts : Int32) (T_keeps : Int32) (T_wokes : Int32) (T_texted : Int32) (T_at : Int32) (T_readGuests : Int32) (T_readWishes : Int32) (T_readBegins : Int32) (T_here : Int32) (T_stands : Int32) (T_many : Int32) (T_rounds : Int32) (T_order : (Nat → Int32)) (T_st : (Nat → Int32)) (T_wishKind : (Nat → Int32)) (T_wishA : (Nat → Int32)) (T_wishB : (Nat → Int32)) (T_time : (Nat → Int32)) (T_place : (Nat → Int32)) (T_kinds : (Nat → Int32)) (R : Int32 × (Nat → Int32) × (Nat → Int32)) (hr : fX9_goesRound K T_wishes T_begins T_stands T_many T_order T_st T_wishKind T_wishA T_wishB T_time T_place T_kinds = some R) : Met l yX9_goesRound wsX9_goesRound rmX9_goesRound (va_Pc ([.ref a_T] : List Value) (PcW (dC, dI) (tysA cC cI cJ) sz [(a_T, .inr (9, [.int T_guests, .ref a_T_kinds, .int T_wishes, .ref a_T_wishKind, .ref a_T_wishA, .ref a_T_wishB, .int T_begins, .ref a_T_st, .int T_acts, .ref a_T_was, .int T_keeps, .ref a_T_kept, .int T_wokes, .ref a_T_woke, .ref a_T_text, .int T_texted, .int T_at, .ref a_T_told, .int T_readGuests, .ref a_T_readKinds, .ref a_T_readFloors, .int T_readWishes, .ref a_T_readWishKind, .ref a_T_readWishA, .ref a_T_readWishB, .int T_readBegins, .int T_here, .int T_stands, .int T_many, .int T_rounds, .ref a_T_come, .ref a_T_keptBy, .ref a_T_endsAt, .ref a_T_order, .ref a_T_time, .ref a_T_place])), (a_T_order, .inl (cI, 6, .inl T_order)), (a_T_st, .inl (cI, 8, .inl T_st)), (a_T_wishKind, .inl (cI, 9, .inl T_wishKind)), (a_T_wishA, .inl (cI, 9, .inl T_wishA)), (a_T_wishB, .inl (cI, 9, .inl T_wishB)), (a_T_time, .inl (cI, 6, .inl T_time)), (a_T_place, .inl (cI, 6, .inl T_place)), (a_T_kinds, .inl (cI, 6, .inl T_kinds))])) (va_Qi (fun r (_ : Unit) => r = R.1) (fun _ => BW (dC, dI) (tysA cC cI cJ) (va_A [(a_T, .inr (9, [.int T_guests, .ref a_T_kinds, .int T_wishes, .ref a_T_wishKind, .ref a_T_wishA, .ref a_T_wishB, .int T_begins, .ref a_T_st, .int T_acts, .ref a_T_was, .int T_keeps, .ref a_T_kept, .int T_wokes, .ref a_T_woke, .ref a_T_text, .int T_texted, .int T_at, .ref a_T_told, .int T_readGuests, .ref a_T_readKinds, .ref a_T_readFloors, .int T_readWishes, .ref a_T_readWishKind, .ref a_T_readWishA, .ref a_T_readWishB, .int T_readBegins, .int T_here, .int T_stands, .int T_many, .int T_rounds, .ref a_T_come, .ref a_T_keptBy, .ref a_T_endsAt, .ref a_T_order, .ref a_T_time, .ref a_T_place])), (a_T_order, .inl (cI, 6, .inl T_order)), (a_T_st, .inl (cI, 8, .inl T_st)), (a_T_wishKind, .inl (cI, 9, .inl T_wishKind)), (a_T_wishA, .inl (cI, 9, .inl T_wishA)), (a_T_wishB, .inl (cI, 9, .inl T_wishB)), (a_T_time, .inl (cI, 6, .inl T_time)), (a_T_place, .inl (cI, 6, .inl T_place)), (a_T_kinds, .inl (cI, 6, .inl T_kinds))] sz) [(a_T, .inr (9, [.int T_guests, .ref a_T_kinds, .int T_wishes, .ref a_T_wishKind, .ref a_T_wishA, .ref a_T_wishB, .int T_begins, .ref a_T_st, .int T_acts, .ref a_T_was, .int T_keeps, .ref a_T_kept, .int T_wokes, .ref a_T_woke, .ref a_T_text, .int T_texted, .int T_at, .ref a_T_told, .int T_readGuests, .ref a_T_readKinds, .ref a_T_readFloors, .int T_readWishes, .ref a_T_readWishKind, .ref a_T_readWishA, .ref a_T_readWishB, .int T_readBegins, .int T_here, .int T_stands, .int T_many, .int T_rounds, .ref a_T_come, .ref a_T_keptBy, .ref a_T_endsAt, .ref a_T_order, .ref a_T_time, .ref a_T_place])), (a_T_order, .inl (cI, 6, .inl T_order)), (a_T_st, .inl (cI, 8, .inl T_st)), (a_T_wishKind, .inl (cI, 9, .inl T_wishKind)), (a_T_wishA, .inl (cI, 9, .inl T_wishA)), (a_T_wishB, .inl (cI, 9, .inl T_wishB)), (a_T_time, .inl (cI, 6, .inl R.2.1)), (a_T_place, .inl (cI, 6, .inl R.2.2)), (a_T_kinds, .inl (cI, 6, .inl T_kinds))]) (va_A [(a_T, .inr (9, [.int T_guests, .ref a_T_kinds, .int T_wishes, .ref a_T_wishKind, .ref a_T_wishA, .ref a_T_wishB, .int T_begins, .ref a_T_st, .int T_acts, .ref a_T_was, .int T_keeps, .ref a_T_kept, .int T_wokes, .ref a_T_woke, .ref a_T_text, .int T_texted, .int T_at, .ref a_T_told, .int T_readGuests, .ref a_T_readKinds, .ref a_T_readFloors, .int T_readWishes, .ref a_T_readWishKind, .ref a_T_readWishA, .ref a_T_readWishB, .int T_readBegins, .int T_here, .int T_stands, .int T_many, .int T_rounds, .ref a_T_come, .ref a_T_keptBy, .ref a_T_endsAt, .ref a_T_order, .ref a_T_time, .ref a_T_place])), (a_T_order, .inl (cI, 6, .inl T_order)), (a_T_st, .inl (cI, 8, .inl T_st)), (a_T_wishKind, .inl (cI, 9, .inl T_wishKind)), (a_T_wishA, .inl (cI, 9, .inl T_wishA)), (a_T_wishB, .inl (cI, 9, .inl T_wishB)), (a_T_time, .inl (cI, 6, .inl T_time)), (a_T_place, .inl (cI, 6, .inl T_place)), (a_T_kinds, .inl (cI, 6, .inl T_kinds))] sz)) 0 0 (va_A [(a_T, .inr (9, [.int T_guests, .ref a_T_kinds, .int T_wishes, .ref a_T_wishKind, .ref a_T_wishA, .ref a_T_wishB, .int T_begins, .ref a_T_st, .int T_acts, .ref a_T_was, .int T_keeps, .ref a_T_kept, .int T_wokes, .ref a_T_woke, .ref a_T_text, .int T_texted, .int T_at, .ref a_T_told, .int T_readGuests, .ref a_T_readKinds, .ref a_T_readFloors, .int T_readWishes, .ref a_T_readWishKind, .ref a_T_readWishA, .ref a_T_readWishB, .int T_readBegins, .int T_here, .int T_stands, .int T_many, .int T_rounds, .ref a_T_come, .ref a_T_keptBy, .ref a_T_endsAt, .ref a_T_order, .ref a_T_time, .ref a_T_place])), (a_T_order, .inl (cI, 6, .inl T_order)), (a_T_st, .inl (cI, 8, .inl T_st)), (a_T_wishKind, .inl (cI, 9, .inl T_wishKind)), (a_T_wishA, .inl (cI, 9, .inl T_wishA)), (a_T_wishB, .inl (cI, 9, .inl T_wishB)), (a_T_time, .inl (cI, 6, .inl T_time)), (a_T_place, .inl (cI, 6, .inl T_place)), (a_T_kinds, .inl (cI, 6, .inl T_kinds))] sz) := by
  refine Met.ofW (cc := cX9_goesRound) (maxL := 7) (ret := (some .int)) (by decide) rfl ?_
  intro p e s m args below meth c s₁ B hml hv
  obtain ⟨rfl, hsz, hP, hK, hD0, hN⟩ := hv
  have hx := B.exec
  have hb := B.bytes
  have hrt := B.returns
  have hts := atoms_spec (ws := wsX9_goesRound) B.pre
  have hown : s.vm.findClass RX9 = some m.cls := findClass_of_methodNamed B.named
  have hlocks := B.notSynchronized
  subst hsz
  have hD := hD0.self (sz := s.heap.size)
  generalize hAe : va_A [(a_T, .inr (9, [.int T_guests, .ref a_T_kinds, .int T_wishes, .ref a_T_wishKind, .ref a_T_wishA, .ref a_T_wishB, .int T_begins, .ref a_T_st, .int T_acts, .ref a_T_was, .int T_keeps, .ref a_T_kept, .int T_wokes, .ref a_T_woke, .ref a_T_text, .int T_texted, .int T_at, .ref a_T_told, .int T_readGuests, .ref a_T_readKinds, .ref a_T_readFloors, .int T_readWishes, .ref a_T_readWishKind, .ref a_T_readWishA, .ref a_T_readWishB, .int T_readBegins, .int T_here, .int T_stands, .int T_many, .int T_rounds, .ref a_T_come, .ref a_T_keptBy, .ref a_T_endsAt, .ref a_T_order, .ref a_T_time, .ref a_T_place])), (a_T_order, .inl (cI, 6, .inl T_order)), (a_T_st, .inl (cI, 8, .inl T_st)), (a_T_wishKind, .inl (cI, 9, .inl T_wishKind)), (a_T_wishA, .inl (cI, 9, .inl T_wishA)), (a_T_wishB, .inl (cI, 9, .inl T_wishB)), (a_T_time, .inl (cI, 6, .inl T_time)), (a_T_place, .inl (cI, 6, .inl T_place)), (a_T_kinds, .inl (cI, 6, .inl T_kinds))] s.heap.size = A at hD ⊢
  have hA : ∀ q : Nat, s.heap.size ≤ q → A q := fun q h => by rw [← hAe]; exact Or.inr h
  have hS : va_S A s.heap s.heap [] := va_S.rf
  have hl := lv_entry ([.ref a_T] : List Value) (n := 7) (Nat.le_of_ble_eq_true rfl)
  rw [lg_entry_eq]
  generalize (lg_sl ([.ref a_T] : List Value) ++ List.replicate (7 - (lg_sl ([.ref a_T] : List Value)).length) Slot.unset).toArray = ls at hl ⊢
  replace hl : lv_has ls 7 [(0, .ref a_T)] := hl
  obtain ⟨Q, hQ⟩ : ∃ Q, Q = MQ below (va_Qi (fun r (_ : Unit) => r = R.1) (fun _ => BW (dC, dI) (tysA cC cI cJ) A [(a_T, .inr (9, [.int T_guests, .ref a_T_kinds, .int T_wishes, .ref a_T_wishKind, .ref a_T_wishA, .ref a_T_wishB, .int T_begins, .ref a_T_st, .int T_acts, .ref a_T_was, .int T_keeps, .ref a_T_kept, .int T_wokes, .ref a_T_woke, .ref a_T_text, .int T_texted, .int T_at, .ref a_T_told, .int T_readGuests, .ref a_T_readKinds, .ref a_T_readFloors, .int T_readWishes, .ref a_T_readWishKind, .ref a_T_readWishA, .ref a_T_readWishB, .int T_readBegins, .int T_here, .int T_stands, .int T_many, .int T_rounds, .ref a_T_come, .ref a_T_keptBy, .ref a_T_endsAt, .ref a_T_order, .ref a_T_time, .ref a_T_place])), (a_T_order, .inl (cI, 6, .inl T_order)), (a_T_st, .inl (cI, 8, .inl T_st)), (a_T_wishKind, .inl (cI, 9, .inl T_wishKind)), (a_T_wishA, .inl (cI, 9, .inl T_wishA)), (a_T_wishB, .inl (cI, 9, .inl T_wishB)), (a_T_time, .inl (cI, 6, .inl R.2.1)), (a_T_place, .inl (cI, 6, .inl R.2.2)), (a_T_kinds, .inl (cI, 6, .inl T_kinds))]) A) ([.ref a_T] : List Value).toArray s 0 0 A := ⟨_, rfl⟩
  rw [← hQ]
  suffices hE : WG p l e rmX9_goesRound s m ([.ref a_T] : List Value).toArray below meth c 0 0 Q (dC, dI) A 0 7 [(a_T, .inr (9, [.int T_guests, .ref a_T_kinds, .int T_wishes, .ref a_T_wishKind, .ref a_T_wishA, .ref a_T_wishB, .int T_begins, .ref a_T_st, .int T_acts, .ref a_T_was, .int T_keeps, .ref a_T_kept, .int T_wokes, .ref a_T_woke, .ref a_T_text, .int T_texted, .int T_at, .ref a_T_told, .int T_readGuests, .ref a_T_readKinds, .ref a_T_readFloors, .int T_readWishes, .ref a_T_readWishKind, .ref a_T_readWishA, .ref a_T_readWishB, .int T_readBegins, .int T_here, .int T_stands, .int T_many, .int T_rounds, .ref a_T_come, .ref a_T_keptBy, .ref a_T_endsAt, .ref a_T_order, .ref a_T_time, .ref a_T_place])), (a_T_order, .inl (cI, 6, .inl T_order)), (a_T_st, .inl (cI, 8, .inl T_st)), (a_T_wishKind, .inl (cI, 9, .inl T_wishKind)), (a_T_wishA, .inl (cI, 9, .inl T_wishA)), (a_T_wishB, .inl (cI, 9, .inl T_wishB)), (a_T_time, .inl (cI, 6, .inl T_time)), (a_T_place, .inl (cI, 6, .inl T_place)), (a_T_kinds, .inl (cI, 6, .inl T_kinds))] [(0, .ref a_T)] [] from hE _ _ _ hP hD hS hl
  clear hP hD hS hl hD0 hAe
  intro H locs ls hP hD hS hl
  unfold fX9_goesRound at hr
  refine lv_aload_n hx hb dX9_goesRound_0 rfl (lv_at hl 0 rfl) ?_
  refine va_get (D := (dC, dI)) (ci := 9) (v := .int T_begins) (C := RX9) (T := TX9) (N := 36) hx hb hts inX9_goesRound_X9 hown hK hP 0 rfl rfl 6 (by decide) (hts _ mbX9_goesRound_0) (fun _ h9 => h9) rfl dX9_goesRound_1 ?_
  refine lv_istore_n (lv' := [(1, .int T_begins), (0, .ref a_T)]) hx hb dX9_goesRound_4 rfl hl (by decide) rfl (fun ls hl => ?_)
  refine lv_iconst (v := 0) hx hb dX9_goesRound_5 (by decide) ?_
  refine lv_istore_n (lv' := [(2, .int 0), (1, .int T_begins), (0, .ref a_T)]) hx hb dX9_goesRound_6 rfl hl (by decide) rfl (fun ls hl => ?_)
  refine lv_iconst (v := 0) hx hb dX9_goesRound_7 (by decide) ?_
  refine lv_istore_n (lv' := [(3, .int 0), (2, .int 0), (1, .int T_begins), (0, .ref a_T)]) hx hb dX9_goesRound_8 rfl hl (by decide) rfl (fun ls hl => ?_)
  have hL1 : ∀ (n1 : Nat) (x1 : Int32) (x2 : Int32) (x3 : Int32) (T_time_1 : (Nat → Int32)) (T_place_1 : (Nat → Int32)) (x1_1 : Int32) (T_time_2 : (Nat → Int32)) (T_place_2 : (Nat → Int32)), fX9_goesRound_L9 K T_wishes T_stands T_many T_order T_st T_wishKind T_wishA T_wishB T_kinds n1 x1 x2 x3 T_time_1 T_place_1 = some (x1_1, T_time_2, T_place_2) → WG p l e rmX9_goesRound s m ([.ref a_T] : List Value).toArray below meth c 0 0 Q (dC, dI) A 116 7 [(a_T, .inr (9, [.int T_guests, .ref a_T_kinds, .int T_wishes, .ref a_T_wishKind, .ref a_T_wishA, .ref a_T_wishB, .int T_begins, .ref a_T_st, .int T_acts, .ref a_T_was, .int T_keeps, .ref a_T_kept, .int T_wokes, .ref a_T_woke, .ref a_T_text, .int T_texted, .int T_at, .ref a_T_told, .int T_readGuests, .ref a_T_readKinds, .ref a_T_readFloors, .int T_readWishes, .ref a_T_readWishKind, .ref a_T_readWishA, .ref a_T_readWishB, .int T_readBegins, .int T_here, .int T_stands, .int T_many, .int T_rounds, .ref a_T_come, .ref a_T_keptBy, .ref a_T_endsAt, .ref a_T_order, .ref a_T_time, .ref a_T_place])), (a_T_order, .inl (cI, 6, .inl T_order)), (a_T_st, .inl (cI, 8, .inl T_st)), (a_T_wishKind, .inl (cI, 9, .inl T_wishKind)), (a_T_wishA, .inl (cI, 9, .inl T_wishA)), (a_T_wishB, .inl (cI, 9, .inl T_wishB)), (a_T_time, .inl (cI, 6, .inl T_time_2)), (a_T_place, .inl (cI, 6, .inl T_place_2)), (a_T_kinds, .inl (cI, 6, .inl T_kinds))] [(1, .int x1_1)] [] → WG p l e rmX9_goesRound s m ([.ref a_T] : List Value).toArray below meth c 0 0 Q (dC, dI) A 9 7 [(a_T, .inr (9, [.int T_guests, .ref a_T_kinds, .int T_wishes, .ref a_T_wishKind, .ref a_T_wishA, .ref a_T_wishB, .int T_begins, .ref a_T_st, .int T_acts, .ref a_T_was, .int T_keeps, .ref a_T_kept, .int T_wokes, .ref a_T_woke, .ref a_T_text, .int T_texted, .int T_at, .ref a_T_told, .int T_readGuests, .ref a_T_readKinds, .ref a_T_readFloors, .int T_readWishes, .ref a_T_readWishKind, .ref a_T_readWishA, .ref a_T_readWishB, .int T_readBegins, .int T_here, .int T_stands, .int T_many, .int T_rounds, .ref a_T_come, .ref a_T_keptBy, .ref a_T_endsAt, .ref a_T_order, .ref a_T_time, .ref a_T_place])), (a_T_order, .inl (cI, 6, .inl T_order)), (a_T_st, .inl (cI, 8, .inl T_st)), (a_T_wishKind, .inl (cI, 9, .inl T_wishKind)), (a_T_wishA, .inl (cI, 9, .inl T_wishA)), (a_T_wishB, .inl (cI, 9, .inl T_wishB)), (a_T_time, .inl (cI, 6, .inl T_time_1)), (a_T_place, .inl (cI, 6, .inl T_place_1)), (a_T_kinds, .inl (cI, 6, .inl T_kinds))] [(0, .ref a_T), (1, .int x1), (2, .int x2), (3, .int x3)] [] := by
    intro n1
    induction n1 with
    | zero =>
      intro x1 x2 x3 T_time_1 T_place_1 x1_1 T_time_2 T_place_2 hr
      rw [fX9_goesRound_L9] at hr
      cases hr
    | succ n1 ih9 =>
      intro x1 x2 x3 T_time_1 T_place_1 x1_1 T_time_2 T_place_2 hr hX1 H locs ls hP hD hS hl
      rw [fX9_goesRound_L9] at hr
      refine lv_iload_n hx hb dX9_goesRound_9 rfl (lv_at hl 3 rfl) ?_
      refine lv_aload_n hx hb dX9_goesRound_10 rfl (lv_at hl 0 rfl) ?_
      refine va_get (D := (dC, dI)) (ci := 9) (v := .int T_many) (C := RX9) (T := TX9) (N := 36) hx hb hts inX9_goesRound_X9 hown hK hP 0 rfl rfl 28 (by decide) (hts _ mbX9_goesRound_2) (fun _ h9 => h9) rfl dX9_goesRound_11 ?_
      refine lv_icmp_ge (tgt := 116) hx hb dX9_goesRound_14 (by decide) (fun c1 => ?_) (fun c1 => ?_)
      · replace hr := it_t hr c1
        have he := Option.some.inj hr
        cases he
        exact hX1 H locs ls hP hD hS (lv_sub hl [1] rfl)
      · replace hr := it_f hr c1
        refine lv_aload_n hx hb dX9_goesRound_17 rfl (lv_at hl 0 rfl) ?_
        refine va_get (D := (dC, dI)) (ci := 9) (v := .ref a_T_order) (C := RX9) (T := TX9) (N := 36) hx hb hts inX9_goesRound_X9 hown hK hP 0 rfl rfl 33 (by decide) (hts _ mbX9_goesRound_3) (fun _ h9 => h9) rfl dX9_goesRound_18 ?_
        refine lv_iload_n hx hb dX9_goesRound_21 rfl (lv_at hl 3 rfl) ?_
        obtain ⟨g1, hr⟩ := gd_some hr
        refine va_iald hx hb hK hP 1 1 rfl rfl g1 dX9_goesRound_22 ?_
        obtain ⟨x4, e1, hr⟩ := nm_el hr
        refine lv_nmi e1 ?_
        refine lv_istore (lv' := [(4, .int x4), (0, .ref a_T), (1, .int x1), (2, .int x2), (3, .int x3)]) hx hb dX9_goesRound_23 hl (by decide) rfl (fun ls hl => ?_)
        refine lv_aload_n hx hb dX9_goesRound_25 rfl (lv_at hl 1 rfl) ?_
        refine va_get (D := (dC, dI)) (ci := 9) (v := .ref a_T_st) (C := RX9) (T := TX9) (N := 36) hx hb hts inX9_goesRound_X9 hown hK hP 0 rfl rfl 7 (by decide) (hts _ mbX9_goesRound_4) (fun _ h9 => h9) rfl dX9_goesRound_26 ?_
        refine lv_iconst (v := 2) hx hb dX9_goesRound_29 (by decide) ?_
        refine lv_iload hx hb dX9_goesRound_30 (lv_at hl 0 rfl) ?_
        refine lv_iadd hx hb dX9_goesRound_32 ?_
        obtain ⟨g2, hr⟩ := gd_some hr
        refine va_iald hx hb hK hP 2 1 rfl rfl g2 dX9_goesRound_33 ?_
        refine lv_iload_n hx hb dX9_goesRound_34 rfl (lv_at hl 3 rfl) ?_
        refine lv_isub hx hb dX9_goesRound_35 ?_
        obtain ⟨x5, e2, hr⟩ := nm_el hr
        refine lv_nmi e2 ?_
        refine lv_istore (lv' := [(5, .int x5), (4, .int x4), (0, .ref a_T), (1, .int x1), (2, .int x2), (3, .int x3)]) hx hb dX9_goesRound_36 hl (by decide) rfl (fun ls hl => ?_)
        refine lv_iload_n hx hb dX9_goesRound_38 rfl (lv_at hl 3 rfl) ?_
        refine lv_iload hx hb dX9_goesRound_39 (lv_at hl 0 rfl) ?_
        obtain ⟨y, hj2, hr⟩ := bd1_some hr
        have hJ1 : WG p l e rmX9_goesRound s m ([.ref a_T] : List Value).toArray below meth c 0 0 Q (dC, dI) A 52 7 [(a_T, .inr (9, [.int T_guests, .ref a_T_kinds, .int T_wishes, .ref a_T_wishKind, .ref a_T_wishA, .ref a_T_wishB, .int T_begins, .ref a_T_st, .int T_acts, .ref a_T_was, .int T_keeps, .ref a_T_kept, .int T_wokes, .ref a_T_woke, .ref a_T_text, .int T_texted, .int T_at, .ref a_T_told, .int T_readGuests, .ref a_T_readKinds, .ref a_T_readFloors, .int T_readWishes, .ref a_T_readWishKind, .ref a_T_readWishA, .ref a_T_readWishB, .int T_readBegins, .int T_here, .int T_stands, .int T_many, .int T_rounds, .ref a_T_come, .ref a_T_keptBy, .ref a_T_endsAt, .ref a_T_order, .ref a_T_time, .ref a_T_place])), (a_T_order, .inl (cI, 6, .inl T_order)), (a_T_st, .inl (cI, 8, .inl T_st)), (a_T_wishKind, .inl (cI, 9, .inl T_wishKind)), (a_T_wishA, .inl (cI, 9, .inl T_wishA)), (a_T_wishB, .inl (cI, 9, .inl T_wishB)), (a_T_time, .inl (cI, 6, .inl T_time_1)), (a_T_place, .inl (cI, 6, .inl T_place_1)), (a_T_kinds, .inl (cI, 6, .inl T_kinds))] [(0, .ref a_T), (3, .int x3), (4, .int x4)] [.int y, .int x1] := by
          intro H locs ls hP hD hS hl
          refine lv_iadd hx hb dX9_goesRound_52 ?_
          obtain ⟨x1_2, e3, hr⟩ := nm_el hr
          refine lv_nmi e3 ?_
          refine lv_istore_n (lv' := [(1, .int x1_2), (0, .ref a_T), (3, .int x3), (4, .int x4)]) hx hb dX9_goesRound_53 rfl hl (by decide) rfl (fun ls hl => ?_)
          refine lv_aload_n hx hb dX9_goesRound_54 rfl (lv_at hl 1 rfl) ?_
          refine va_get (D := (dC, dI)) (ci := 9) (v := .ref a_T_st) (C := RX9) (T := TX9) (N := 36) hx hb hts inX9_goesRound_X9 hown hK hP 0 rfl rfl 7 (by decide) (hts _ mbX9_goesRound_4) (fun _ h9 => h9) rfl dX9_goesRound_55 ?_
          refine lv_iconst (v := 2) hx hb dX9_goesRound_58 (by decide) ?_
          refine lv_iload hx hb dX9_goesRound_59 (lv_at hl 3 rfl) ?_
          refine lv_iadd hx hb dX9_goesRound_61 ?_
          obtain ⟨g3, hr⟩ := gd_some hr
          refine va_iald hx hb hK hP 2 1 rfl rfl g3 dX9_goesRound_62 ?_
          obtain ⟨x2_1, e4, hr⟩ := nm_el hr
          refine lv_nmi e4 ?_
          refine lv_istore_n (lv' := [(2, .int x2_1), (1, .int x1_2), (0, .ref a_T), (3, .int x3), (4, .int x4)]) hx hb dX9_goesRound_63 rfl hl (by decide) rfl (fun ls hl => ?_)
          refine lv_aload_n hx hb dX9_goesRound_64 rfl (lv_at hl 2 rfl) ?_
          refine lv_iload hx hb dX9_goesRound_65 (lv_at hl 4 rfl) ?_
          obtain ⟨r, hc1, hr⟩ := bd1_some hr
          refine call_i (D := (dC, dI)) (tys := tysA cC cI cJ) (wc := [(a_T, .inr (9, [.int T_guests, .ref a_T_kinds, .int T_wishes, .ref a_T_wishKind, .ref a_T_wishA, .ref a_T_wishB, .int T_begins, .ref a_T_st, .int T_acts, .ref a_T_was, .int T_keeps, .ref a_T_kept, .int T_wokes, .ref a_T_woke, .ref a_T_text, .int T_texted, .int T_at, .ref a_T_told, .int T_readGuests, .ref a_T_readKinds, .ref a_T_readFloors, .int T_readWishes, .ref a_T_readWishKind, .ref a_T_readWishA, .ref a_T_readWishB, .int T_readBegins, .int T_here, .int T_stands, .int T_many, .int T_rounds, .ref a_T_come, .ref a_T_keptBy, .ref a_T_endsAt, .ref a_T_order, .ref a_T_time, .ref a_T_place])), (a_T_wishKind, .inl (cI, 9, .inl T_wishKind)), (a_T_wishA, .inl (cI, 9, .inl T_wishA)), (a_T_wishB, .inl (cI, 9, .inl T_wishB))]) (wr := [(a_T_order, .inl (cI, 6, .inl T_order)), (a_T_st, .inl (cI, 8, .inl T_st)), (a_T_time, .inl (cI, 6, .inl T_time_1)), (a_T_place, .inl (cI, 6, .inl T_place_1)), (a_T_kinds, .inl (cI, 6, .inl T_kinds))]) (w1 := [(a_T, .inr (9, [.int T_guests, .ref a_T_kinds, .int T_wishes, .ref a_T_wishKind, .ref a_T_wishA, .ref a_T_wishB, .int T_begins, .ref a_T_st, .int T_acts, .ref a_T_was, .int T_keeps, .ref a_T_kept, .int T_wokes, .ref a_T_woke, .ref a_T_text, .int T_texted, .int T_at, .ref a_T_told, .int T_readGuests, .ref a_T_readKinds, .ref a_T_readFloors, .int T_readWishes, .ref a_T_readWishKind, .ref a_T_readWishA, .ref a_T_readWishB, .int T_readBegins, .int T_here, .int T_stands, .int T_many, .int T_rounds, .ref a_T_come, .ref a_T_keptBy, .ref a_T_endsAt, .ref a_T_order, .ref a_T_time, .ref a_T_place])), (a_T_wishKind, .inl (cI, 9, .inl T_wishKind)), (a_T_wishA, .inl (cI, 9, .inl T_wishA)), (a_T_wishB, .inl (cI, 9, .inl T_wishB))]) (wn := [(a_T, .inr (9, [.int T_guests, .ref a_T_kinds, .int T_wishes, .ref a_T_wishKind, .ref a_T_wishA, .ref a_T_wishB, .int T_begins, .ref a_T_st, .int T_acts, .ref a_T_was, .int T_keeps, .ref a_T_kept, .int T_wokes, .ref a_T_woke, .ref a_T_text, .int T_texted, .int T_at, .ref a_T_told, .int T_readGuests, .ref a_T_readKinds, .ref a_T_readFloors, .int T_readWishes, .ref a_T_readWishKind, .ref a_T_readWishA, .ref a_T_readWishB, .int T_readBegins, .int T_here, .int T_stands, .int T_many, .int T_rounds, .ref a_T_come, .ref a_T_keptBy, .ref a_T_endsAt, .ref a_T_order, .ref a_T_time, .ref a_T_place])), (a_T_order, .inl (cI, 6, .inl T_order)), (a_T_st, .inl (cI, 8, .inl T_st)), (a_T_wishKind, .inl (cI, 9, .inl T_wishKind)), (a_T_wishA, .inl (cI, 9, .inl T_wishA)), (a_T_wishB, .inl (cI, 9, .inl T_wishB)), (a_T_time, .inl (cI, 6, .inl T_time_1)), (a_T_place, .inl (cI, 6, .inl T_place_1)), (a_T_kinds, .inl (cI, 6, .inl T_kinds))]) (r0 := r) hP hD hS hA [0, 3, 4, 5] [1, 2, 6, 7, 8] [5, 0, 1, 6, 7, 8, 2, 3, 4] rfl rfl (by decide +kernel) (by decide +kernel) rfl (by decide +kernel) (va_runV (As := [.int x4]) (rest := []) ⟨hx, hb, hml, hown, hts⟩ (kX9_notSooner l dC dI cC cI cJ H.size K a_T a_T_kinds a_T_wishKind a_T_wishA a_T_wishB a_T_st a_T_was a_T_kept a_T_woke a_T_text a_T_told a_T_readKinds a_T_readFloors a_T_readWishKind a_T_readWishA a_T_readWishB a_T_come a_T_keptBy a_T_endsAt a_T_order a_T_time a_T_place x4 T_guests T_wishes T_begins T_acts T_keeps T_wokes T_texted T_at T_readGuests T_readWishes T_readBegins T_here T_stands T_many T_rounds T_wishKind T_wishA T_wishB r hc1) (cwV 1 hts gX9_goesRound_X9_notSooner rfl rfl rfl (by decide +kernel) ⟨Nat.le_of_ble_eq_true rfl, Nat.le_of_ble_eq_true rfl⟩) ⟨fbW, va_recv hK hP (ci := 9) (q0 := 0) rfl rfl, preW hP hD hK hN [0, 3, 4, 5] rfl (by decide +kernel)⟩ rfl rfl hl.1 rfl (lv_room (Nat.le_of_ble_eq_true rfl)) dX9_goesRound_67 ⟨Nat.zero_le _, Nat.zero_le _⟩) (fun H locs hP hD hS => ?_)
          refine lv_istore (lv' := [(6, .int r), (2, .int x2_1), (1, .int x1_2), (0, .ref a_T), (3, .int x3), (4, .int x4)]) hx hb dX9_goesRound_70 hl (by decide) rfl (fun ls hl => ?_)
          refine lv_iload hx hb dX9_goesRound_72 (lv_at hl 0 rfl) ?_
          refine lv_iload_n hx hb dX9_goesRound_74 rfl (lv_at hl 2 rfl) ?_
          obtain ⟨y_1, hj1, hr⟩ := bd1_some hr
          have hJ2 : WG p l e rmX9_goesRound s m ([.ref a_T] : List Value).toArray below meth c 0 0 Q (dC, dI) A 84 7 [(a_T, .inr (9, [.int T_guests, .ref a_T_kinds, .int T_wishes, .ref a_T_wishKind, .ref a_T_wishA, .ref a_T_wishB, .int T_begins, .ref a_T_st, .int T_acts, .ref a_T_was, .int T_keeps, .ref a_T_kept, .int T_wokes, .ref a_T_woke, .ref a_T_text, .int T_texted, .int T_at, .ref a_T_told, .int T_readGuests, .ref a_T_readKinds, .ref a_T_readFloors, .int T_readWishes, .ref a_T_readWishKind, .ref a_T_readWishA, .ref a_T_readWishB, .int T_readBegins, .int T_here, .int T_stands, .int T_many, .int T_rounds, .ref a_T_come, .ref a_T_keptBy, .ref a_T_endsAt, .ref a_T_order, .ref a_T_time, .ref a_T_place])), (a_T_order, .inl (cI, 6, .inl T_order)), (a_T_st, .inl (cI, 8, .inl T_st)), (a_T_wishKind, .inl (cI, 9, .inl T_wishKind)), (a_T_wishA, .inl (cI, 9, .inl T_wishA)), (a_T_wishB, .inl (cI, 9, .inl T_wishB)), (a_T_time, .inl (cI, 6, .inl T_time_1)), (a_T_place, .inl (cI, 6, .inl T_place_1)), (a_T_kinds, .inl (cI, 6, .inl T_kinds))] [(0, .ref a_T), (2, .int x2_1), (3, .int x3), (4, .int x4)] [.int y_1] := by
            intro H locs ls hP hD hS hl
            refine lv_istore_n (lv' := [(1, .int y_1), (0, .ref a_T), (2, .int x2_1), (3, .int x3), (4, .int x4)]) hx hb dX9_goesRound_84 rfl hl (by decide) rfl (fun ls hl => ?_)
            refine lv_aload_n hx hb dX9_goesRound_85 rfl (lv_at hl 1 rfl) ?_
            refine va_get (D := (dC, dI)) (ci := 9) (v := .ref a_T_time) (C := RX9) (T := TX9) (N := 36) hx hb hts inX9_goesRound_X9 hown hK hP 0 rfl rfl 34 (by decide) (hts _ mbX9_goesRound_5) (fun _ h9 => h9) rfl dX9_goesRound_86 ?_
            refine lv_iload hx hb dX9_goesRound_89 (lv_at hl 4 rfl) ?_
            refine lv_iload_n hx hb dX9_goesRound_91 rfl (lv_at hl 0 rfl) ?_
            obtain ⟨g4, hr⟩ := gd_some hr
            obtain ⟨T_time_3, e5, hr⟩ := nm_el hr
            refine va_iast hx hb hK hP hD hS 6 1 rfl rfl g4 dX9_goesRound_92 (fun H locs hP hD hS => ?_)
            rw [← e5] at hP hD
            replace hP : va_P (dC, dI) vwCl [(a_T, .inr (9, [.int T_guests, .ref a_T_kinds, .int T_wishes, .ref a_T_wishKind, .ref a_T_wishA, .ref a_T_wishB, .int T_begins, .ref a_T_st, .int T_acts, .ref a_T_was, .int T_keeps, .ref a_T_kept, .int T_wokes, .ref a_T_woke, .ref a_T_text, .int T_texted, .int T_at, .ref a_T_told, .int T_readGuests, .ref a_T_readKinds, .ref a_T_readFloors, .int T_readWishes, .ref a_T_readWishKind, .ref a_T_readWishA, .ref a_T_readWishB, .int T_readBegins, .int T_here, .int T_stands, .int T_many, .int T_rounds, .ref a_T_come, .ref a_T_keptBy, .ref a_T_endsAt, .ref a_T_order, .ref a_T_time, .ref a_T_place])), (a_T_order, .inl (cI, 6, .inl T_order)), (a_T_st, .inl (cI, 8, .inl T_st)), (a_T_wishKind, .inl (cI, 9, .inl T_wishKind)), (a_T_wishA, .inl (cI, 9, .inl T_wishA)), (a_T_wishB, .inl (cI, 9, .inl T_wishB)), (a_T_time, .inl (cI, 6, .inl T_time_3)), (a_T_place, .inl (cI, 6, .inl T_place_1)), (a_T_kinds, .inl (cI, 6, .inl T_kinds))] H := hP
            replace hD : va_D A [(a_T, .inr (9, [.int T_guests, .ref a_T_kinds, .int T_wishes, .ref a_T_wishKind, .ref a_T_wishA, .ref a_T_wishB, .int T_begins, .ref a_T_st, .int T_acts, .ref a_T_was, .int T_keeps, .ref a_T_kept, .int T_wokes, .ref a_T_woke, .ref a_T_text, .int T_texted, .int T_at, .ref a_T_told, .int T_readGuests, .ref a_T_readKinds, .ref a_T_readFloors, .int T_readWishes, .ref a_T_readWishKind, .ref a_T_readWishA, .ref a_T_readWishB, .int T_readBegins, .int T_here, .int T_stands, .int T_many, .int T_rounds, .ref a_T_come, .ref a_T_keptBy, .ref a_T_endsAt, .ref a_T_order, .ref a_T_time, .ref a_T_place])), (a_T_order, .inl (cI, 6, .inl T_order)), (a_T_st, .inl (cI, 8, .inl T_st)), (a_T_wishKind, .inl (cI, 9, .inl T_wishKind)), (a_T_wishA, .inl (cI, 9, .inl T_wishA)), (a_T_wishB, .inl (cI, 9, .inl T_wishB)), (a_T_time, .inl (cI, 6, .inl T_time_3)), (a_T_place, .inl (cI, 6, .inl T_place_1)), (a_T_kinds, .inl (cI, 6, .inl T_kinds))] := hD
            refine lv_aload_n hx hb dX9_goesRound_93 rfl (lv_at hl 1 rfl) ?_
            refine va_get (D := (dC, dI)) (ci := 9) (v := .ref a_T_place) (C := RX9) (T := TX9) (N := 36) hx hb hts inX9_goesRound_X9 hown hK hP 0 rfl rfl 35 (by decide) (hts _ mbX9_goesRound_6) (fun _ h9 => h9) rfl dX9_goesRound_94 ?_
            refine lv_iload hx hb dX9_goesRound_97 (lv_at hl 4 rfl) ?_
            refine lv_iload_n hx hb dX9_goesRound_99 rfl (lv_at hl 3 rfl) ?_
            obtain ⟨g5, hr⟩ := gd_some hr
            obtain ⟨T_place_3, e6, hr⟩ := nm_el hr
            refine va_iast hx hb hK hP hD hS 7 1 rfl rfl g5 dX9_goesRound_100 (fun H locs hP hD hS => ?_)
            rw [← e6] at hP hD
            replace hP : va_P (dC, dI) vwCl [(a_T, .inr (9, [.int T_guests, .ref a_T_kinds, .int T_wishes, .ref a_T_wishKind, .ref a_T_wishA, .ref a_T_wishB, .int T_begins, .ref a_T_st, .int T_acts, .ref a_T_was, .int T_keeps, .ref a_T_kept, .int T_wokes, .ref a_T_woke, .ref a_T_text, .int T_texted, .int T_at, .ref a_T_told, .int T_readGuests, .ref a_T_readKinds, .ref a_T_readFloors, .int T_readWishes, .ref a_T_readWishKind, .ref a_T_readWishA, .ref a_T_readWishB, .int T_readBegins, .int T_here, .int T_stands, .int T_many, .int T_rounds, .ref a_T_come, .ref a_T_keptBy, .ref a_T_endsAt, .ref a_T_order, .ref a_T_time, .ref a_T_place])), (a_T_order, .inl (cI, 6, .inl T_order)), (a_T_st, .inl (cI, 8, .inl T_st)), (a_T_wishKind, .inl (cI, 9, .inl T_wishKind)), (a_T_wishA, .inl (cI, 9, .inl T_wishA)), (a_T_wishB, .inl (cI, 9, .inl T_wishB)), (a_T_time, .inl (cI, 6, .inl T_time_3)), (a_T_place, .inl (cI, 6, .inl T_place_3)), (a_T_kinds, .inl (cI, 6, .inl T_kinds))] H := hP
            replace hD : va_D A [(a_T, .inr (9, [.int T_guests, .ref a_T_kinds, .int T_wishes, .ref a_T_wishKind, .ref a_T_wishA, .ref a_T_wishB, .int T_begins, .ref a_T_st, .int T_acts, .ref a_T_was, .int T_keeps, .ref a_T_kept, .int T_wokes, .ref a_T_woke, .ref a_T_text, .int T_texted, .int T_at, .ref a_T_told, .int T_readGuests, .ref a_T_readKinds, .ref a_T_readFloors, .int T_readWishes, .ref a_T_readWishKind, .ref a_T_readWishA, .ref a_T_readWishB, .int T_readBegins, .int T_here, .int T_stands, .int T_many, .int T_rounds, .ref a_T_come, .ref a_T_keptBy, .ref a_T_endsAt, .ref a_T_order, .ref a_T_time, .ref a_T_place])), (a_T_order, .inl (cI, 6, .inl T_order)), (a_T_st, .inl (cI, 8, .inl T_st)), (a_T_wishKind, .inl (cI, 9, .inl T_wishKind)), (a_T_wishA, .inl (cI, 9, .inl T_wishA)), (a_T_wishB, .inl (cI, 9, .inl T_wishB)), (a_T_time, .inl (cI, 6, .inl T_time_3)), (a_T_place, .inl (cI, 6, .inl T_place_3)), (a_T_kinds, .inl (cI, 6, .inl T_kinds))] := hD
            refine lv_iload_n hx hb dX9_goesRound_101 rfl (lv_at hl 0 rfl) ?_
            refine lv_aload_n hx hb dX9_goesRound_102 rfl (lv_at hl 1 rfl) ?_
            refine lv_iload hx hb dX9_goesRound_103 (lv_at hl 4 rfl) ?_
            obtain ⟨r_1, hc2, hr⟩ := bd1_some hr
            refine call_i (D := (dC, dI)) (tys := tysA cC cI cJ) (wc := [(a_T, .inr (9, [.int T_guests, .ref a_T_kinds, .int T_wishes, .ref a_T_wishKind, .ref a_T_wishA, .ref a_T_wishB, .int T_begins, .ref a_T_st, .int T_acts, .ref a_T_was, .int T_keeps, .ref a_T_kept, .int T_wokes, .ref a_T_woke, .ref a_T_text, .int T_texted, .int T_at, .ref a_T_told, .int T_readGuests, .ref a_T_readKinds, .ref a_T_readFloors, .int T_readWishes, .ref a_T_readWishKind, .ref a_T_readWishA, .ref a_T_readWishB, .int T_readBegins, .int T_here, .int T_stands, .int T_many, .int T_rounds, .ref a_T_come, .ref a_T_keptBy, .ref a_T_endsAt, .ref a_T_order, .ref a_T_time, .ref a_T_place])), (a_T_kinds, .inl (cI, 6, .inl T_kinds)), (a_T_st, .inl (cI, 8, .inl T_st))]) (wr := [(a_T_order, .inl (cI, 6, .inl T_order)), (a_T_wishKind, .inl (cI, 9, .inl T_wishKind)), (a_T_wishA, .inl (cI, 9, .inl T_wishA)), (a_T_wishB, .inl (cI, 9, .inl T_wishB)), (a_T_time, .inl (cI, 6, .inl T_time_3)), (a_T_place, .inl (cI, 6, .inl T_place_3))]) (w1 := [(a_T, .inr (9, [.int T_guests, .ref a_T_kinds, .int T_wishes, .ref a_T_wishKind, .ref a_T_wishA, .ref a_T_wishB, .int T_begins, .ref a_T_st, .int T_acts, .ref a_T_was, .int T_keeps, .ref a_T_kept, .int T_wokes, .ref a_T_woke, .ref a_T_text, .int T_texted, .int T_at, .ref a_T_told, .int T_readGuests, .ref a_T_readKinds, .ref a_T_readFloors, .int T_readWishes, .ref a_T_readWishKind, .ref a_T_readWishA, .ref a_T_readWishB, .int T_readBegins, .int T_here, .int T_stands, .int T_many, .int T_rounds, .ref a_T_come, .ref a_T_keptBy, .ref a_T_endsAt, .ref a_T_order, .ref a_T_time, .ref a_T_place])), (a_T_kinds, .inl (cI, 6, .inl T_kinds)), (a_T_st, .inl (cI, 8, .inl T_st))]) (wn := [(a_T, .inr (9, [.int T_guests, .ref a_T_kinds, .int T_wishes, .ref a_T_wishKind, .ref a_T_wishA, .ref a_T_wishB, .int T_begins, .ref a_T_st, .int T_acts, .ref a_T_was, .int T_keeps, .ref a_T_kept, .int T_wokes, .ref a_T_woke, .ref a_T_text, .int T_texted, .int T_at, .ref a_T_told, .int T_readGuests, .ref a_T_readKinds, .ref a_T_readFloors, .int T_readWishes, .ref a_T_readWishKind, .ref a_T_readWishA, .ref a_T_readWishB, .int T_readBegins, .int T_here, .int T_stands, .int T_many, .int T_rounds, .ref a_T_come, .ref a_T_keptBy, .ref a_T_endsAt, .ref a_T_order, .ref a_T_time, .ref a_T_place])), (a_T_order, .inl (cI, 6, .inl T_order)), (a_T_st, .inl (cI, 8, .inl T_st)), (a_T_wishKind, .inl (cI, 9, .inl T_wishKind)), (a_T_wishA, .inl (cI, 9, .inl T_wishA)), (a_T_wishB, .inl (cI, 9, .inl T_wishB)), (a_T_time, .inl (cI, 6, .inl T_time_3)), (a_T_place, .inl (cI, 6, .inl T_place_3)), (a_T_kinds, .inl (cI, 6, .inl T_kinds))]) (r0 := r_1) hP hD hS hA [0, 8, 2] [1, 3, 4, 5, 6, 7] [6, 0, 8, 1, 2, 3, 4, 5, 7] rfl rfl (by decide +kernel) (by decide +kernel) rfl (by decide +kernel) (va_runV (As := [.int x4]) (rest := [.int y_1]) ⟨hx, hb, hml, hown, hts⟩ (kX9_wakes l dC dI cC cI cJ H.size K a_T a_T_kinds a_T_wishKind a_T_wishA a_T_wishB a_T_st a_T_was a_T_kept a_T_woke a_T_text a_T_told a_T_readKinds a_T_readFloors a_T_readWishKind a_T_readWishA a_T_readWishB a_T_come a_T_keptBy a_T_endsAt a_T_order a_T_time a_T_place x4 T_guests T_wishes T_begins T_acts T_keeps T_wokes T_texted T_at T_readGuests T_readWishes T_readBegins T_here T_stands T_many T_rounds T_kinds T_st r_1 hc2) (cwV 1 hts gX9_goesRound_X9_wakes rfl rfl rfl (by decide +kernel) ⟨Nat.le_of_ble_eq_true rfl, Nat.le_of_ble_eq_true rfl⟩) ⟨fbW, va_recv hK hP (ci := 9) (q0 := 0) rfl rfl, preW hP hD hK hN [0, 8, 2] rfl (by decide +kernel)⟩ rfl rfl hl.1 rfl (lv_room (Nat.le_of_ble_eq_true rfl)) dX9_goesRound_105 ⟨Nat.zero_le _, Nat.zero_le _⟩) (fun H locs hP hD hS => ?_)
            refine lv_iadd hx hb dX9_goesRound_108 ?_
            obtain ⟨x1_3, e7, hr⟩ := nm_el hr
            refine lv_nmi e7 ?_
            refine lv_istore_n (lv' := [(1, .int x1_3), (0, .ref a_T), (2, .int x2_1), (3, .int x3), (4, .int x4)]) hx hb dX9_goesRound_109 rfl hl (by decide) rfl (fun ls hl => ?_)
            obtain ⟨x3_1, e8, hr⟩ := nm_el hr
            refine lv_iinc (v := x3_1) (lv' := [(3, .int x3_1), (1, .int x1_3), (0, .ref a_T), (2, .int x2_1), (4, .int x4)]) hx hb dX9_goesRound_110 hl (k := 3) rfl e8.symm (by decide) rfl (fun ls hl => ?_)
            refine lv_goto (tgt := 9) hx hb dX9_goesRound_113 (by decide) ?_
            exact ih9 _ _ _ _ _ _ _ _ hr hX1 H locs ls hP hD hS (lv_sub hl [2, 1, 3, 0] rfl)
          replace hr := hj1
          refine lv_icmp_le (tgt := 83) hx hb dX9_goesRound_75 (by decide) (fun c3 => ?_) (fun c3 => ?_)
          · replace hr := it_t hr c3
            refine lv_iload_n hx hb dX9_goesRound_83 rfl (lv_at hl 2 rfl) ?_
            cases hr
            exact hJ2 H locs ls hP hD hS (lv_sub hl [3, 1, 4, 5] rfl)
          · replace hr := it_f hr c3
            refine lv_iload hx hb dX9_goesRound_78 (lv_at hl 0 rfl) ?_
            refine lv_goto (tgt := 84) hx hb dX9_goesRound_80 (by decide) ?_
            cases hr
            exact hJ2 H locs ls hP hD hS (lv_sub hl [3, 1, 4, 5] rfl)
        replace hr := hj2
        refine lv_if_ge (tgt := 50) hx hb dX9_goesRound_41 (by decide) (fun c2 => ?_) (fun c2 => ?_)
        · replace hr := it_t hr c2
          refine lv_iload hx hb dX9_goesRound_50 (lv_at hl 0 rfl) ?_
          cases hr
          exact hJ1 H locs ls hP hD hS (lv_sub hl [2, 5, 1] rfl)
        · replace hr := it_f hr c2
          refine lv_iload hx hb dX9_goesRound_44 (lv_at hl 0 rfl) ?_
          refine lv_ineg hx hb dX9_goesRound_46 ?_
          refine lv_goto (tgt := 52) hx hb dX9_goesRound_47 (by decide) ?_
          cases hr
          exact hJ1 H locs ls hP hD hS (lv_sub hl [2, 5, 1] rfl)
  obtain ⟨x1_1, T_time_2, T_place_2, hE, hr⟩ := bd3_some hr
  refine hL1 K T_begins 0 0 T_time T_place x1_1 T_time_2 T_place_2 hE ?_ H locs ls hP hD hS (lv_sub hl [3, 2, 1, 0] rfl)
  intro H locs ls hP hD hS hl
  refine lv_iload_n hx hb dX9_goesRound_116 rfl (lv_at hl 0 rfl) ?_
  have he := Option.some.inj hr
  subst he
  subst hQ
  exact ret_i hx hb hrt hK hP hD hS hlocks dX9_goesRound_117
def fX9_isKept (K : Nat) (x1 : Int32) (T_wishA : (Nat → Int32)) (T_wishB : (Nat → Int32)) (T_wishKind : (Nat → Int32)) (T_time : (Nat → Int32)) (T_place : (Nat → Int32)) : Option (Int32) :=
    gd (¬ ((x1 : Int32) < 0 ∨ 9 ≤ x1.toNatClampNeg)) (
    nm (T_wishA x1.toNatClampNeg) fun x2 =>
    gd (¬ ((x1 : Int32) < 0 ∨ 9 ≤ x1.toNatClampNeg)) (
    nm (T_wishB x1.toNatClampNeg) fun x3 =>
    gd (¬ ((x1 : Int32) < 0 ∨ 9 ≤ x1.toNatClampNeg)) (
    if ((T_wishKind x1.toNatClampNeg) : Int32) = 0 then (
    gd (¬ ((x2 : Int32) < 0 ∨ 6 ≤ x2.toNatClampNeg)) (
    gd (¬ ((x3 : Int32) < 0 ∨ 6 ≤ x3.toNatClampNeg)) (
    if (T_place x3.toNatClampNeg) ≤ ((T_place x2.toNatClampNeg) : Int32) then (
    some 0)
    else (
    some 1))))
    else (
    if ((T_wishKind x1.toNatClampNeg) : Int32) = 1 then (
    gd (¬ ((x2 : Int32) < 0 ∨ 6 ≤ x2.toNatClampNeg)) (
    gd (¬ ((x3 : Int32) < 0 ∨ 6 ≤ x3.toNatClampNeg)) (
    if ((T_place x2.toNatClampNeg) : Int32) = ((T_place x3.toNatClampNeg) + 1) then (
    some 1)
    else (
    some 0))))
    else (
    if ((T_wishKind x1.toNatClampNeg) : Int32) = 2 then (
    gd (¬ ((x2 : Int32) < 0 ∨ 6 ≤ x2.toNatClampNeg)) (
    if ((T_place x2.toNatClampNeg) : Int32) = 0 then (
    some 1)
    else (
    some 0)))
    else (
    if ((T_wishKind x1.toNatClampNeg) : Int32) = 3 then (
    some 1)
    else (
    gd (¬ ((x2 : Int32) < 0 ∨ 6 ≤ x2.toNatClampNeg)) (
    if x3 < ((T_time x2.toNatClampNeg) : Int32) then (
    some 0)
    else (
    some 1)))))))))
theorem mbX9_isKept_0 : Cond.fieldLink RX9 16 "BootsAtDawnModel" "wishA" "[I" ∈ wsX9_isKept := List.mem_of_getElem? (i := 1) rfl
theorem inX9_isKept_X9 : ∀ w ∈ u_ws RX9 TX9 36, w ∈ wsX9_isKept := fun _ h => (List.mem_cons_of_mem _ (List.mem_append_right _ h))
theorem mbX9_isKept_2 : Cond.fieldLink RX9 19 "BootsAtDawnModel" "wishB" "[I" ∈ wsX9_isKept := List.mem_of_getElem? (i := 2) rfl
theorem mbX9_isKept_3 : Cond.fieldLink RX9 13 "BootsAtDawnModel" "wishKind" "[I" ∈ wsX9_isKept := List.mem_of_getElem? (i := 3) rfl
theorem mbX9_isKept_4 : Cond.fieldLink RX9 70 "BootsAtDawnModel" "place" "[I" ∈ wsX9_isKept := List.mem_of_getElem? (i := 4) rfl
theorem mbX9_isKept_5 : Cond.fieldLink RX9 67 "BootsAtDawnModel" "time" "[I" ∈ wsX9_isKept := List.mem_of_getElem? (i := 5) rfl
abbrev rmX9_isKept : Room := { frames := 0, cells := 0, slots := 0, locals := 0 }
set_option maxHeartbeats 8000000 in
set_option maxRecDepth 100000 in
theorem kX9_isKept (l : Launch) (dC : Nat → ClassId) (dI : Nat → Nat → Nat) (cC cI cJ : ClassId) (sz : Nat) (K : Nat) (a_T a_T_kinds a_T_wishKind a_T_wishA a_T_wishB a_T_st a_T_was a_T_kept a_T_woke a_T_text a_T_told a_T_readKinds a_T_readFloors a_T_readWishKind a_T_readWishA a_T_readWishB a_T_come a_T_keptBy a_T_endsAt a_T_order a_T_time a_T_place : Nat) (x1 : Int32) (T_guests : Int32) (T_wishes : Int32) (T_begins : Int32) (T_acts : Int32) (T_keeps : Int32) (T_wokes : Int32) (T_texted : Int32) (T_at : Int32) (T_readGuests : Int32) (T_readWishes : Int32) (T_readBegins : Int32) (T_here : Int32) (T_stands : Int32) (T_many : Int32) (T_rounds : Int32) (T_wishA : (Nat → Int32)) (T_wishB : (Nat → Int32)) (T_wishKind : (Nat → Int32)) (T_time : (Nat → Int32)) (T_place : (Nat → Int32)) (R : Int32) (hr : fX9_isKept K x1 T_wishA T_wishB T_wishKind T_time T_place = some R) : Met l yX9_isKept wsX9_isKept rmX9_isKept (va_Pc ([.ref a_T, .int x1] : List Value) (PcW (dC, dI) (tysA cC cI cJ) sz [(a_T, .inr (9, [.int T_guests, .ref a_T_kinds, .int T_wishes, .ref a_T_wishKind, .ref a_T_wishA, .ref a_T_wishB, .int T_begins, .ref a_T_st, .int T_acts, .ref a_T_was, .int T_keeps, .ref a_T_kept, .int T_wokes, .ref a_T_woke, .ref a_T_text, .int T_texted, .int T_at, .ref a_T_told, .int T_readGuests, .ref a_T_readKinds, .ref a_T_readFloors, .int T_readWishes, .ref a_T_readWishKind, .ref a_T_readWishA, .ref a_T_readWishB, .int T_readBegins, .int T_here, .int T_stands, .int T_many, .int T_rounds, .ref a_T_come, .ref a_T_keptBy, .ref a_T_endsAt, .ref a_T_order, .ref a_T_time, .ref a_T_place])), (a_T_wishA, .inl (cI, 9, .inl T_wishA)), (a_T_wishB, .inl (cI, 9, .inl T_wishB)), (a_T_wishKind, .inl (cI, 9, .inl T_wishKind)), (a_T_time, .inl (cI, 6, .inl T_time)), (a_T_place, .inl (cI, 6, .inl T_place))])) (va_Qi (fun r (_ : Unit) => r = R) (fun _ => BW (dC, dI) (tysA cC cI cJ) (va_A [(a_T, .inr (9, [.int T_guests, .ref a_T_kinds, .int T_wishes, .ref a_T_wishKind, .ref a_T_wishA, .ref a_T_wishB, .int T_begins, .ref a_T_st, .int T_acts, .ref a_T_was, .int T_keeps, .ref a_T_kept, .int T_wokes, .ref a_T_woke, .ref a_T_text, .int T_texted, .int T_at, .ref a_T_told, .int T_readGuests, .ref a_T_readKinds, .ref a_T_readFloors, .int T_readWishes, .ref a_T_readWishKind, .ref a_T_readWishA, .ref a_T_readWishB, .int T_readBegins, .int T_here, .int T_stands, .int T_many, .int T_rounds, .ref a_T_come, .ref a_T_keptBy, .ref a_T_endsAt, .ref a_T_order, .ref a_T_time, .ref a_T_place])), (a_T_wishA, .inl (cI, 9, .inl T_wishA)), (a_T_wishB, .inl (cI, 9, .inl T_wishB)), (a_T_wishKind, .inl (cI, 9, .inl T_wishKind)), (a_T_time, .inl (cI, 6, .inl T_time)), (a_T_place, .inl (cI, 6, .inl T_place))] sz) [(a_T, .inr (9, [.int T_guests, .ref a_T_kinds, .int T_wishes, .ref a_T_wishKind, .ref a_T_wishA, .ref a_T_wishB, .int T_begins, .ref a_T_st, .int T_acts, .ref a_T_was, .int T_keeps, .ref a_T_kept, .int T_wokes, .ref a_T_woke, .ref a_T_text, .int T_texted, .int T_at, .ref a_T_told, .int T_readGuests, .ref a_T_readKinds, .ref a_T_readFloors, .int T_readWishes, .ref a_T_readWishKind, .ref a_T_readWishA, .ref a_T_readWishB, .int T_readBegins, .int T_here, .int T_stands, .int T_many, .int T_rounds, .ref a_T_come, .ref a_T_keptBy, .ref a_T_endsAt, .ref a_T_order, .ref a_T_time, .ref a_T_place])), (a_T_wishA, .inl (cI, 9, .inl T_wishA)), (a_T_wishB, .inl (cI, 9, .inl T_wishB)), (a_T_wishKind, .inl (cI, 9, .inl T_wishKind)), (a_T_time, .inl (cI, 6, .inl T_time)), (a_T_place, .inl (cI, 6, .inl T_place))]) (va_A [(a_T, .inr (9, [.int T_guests, .ref a_T_kinds, .int T_wishes, .ref a_T_wishKind, .ref a_T_wishA, .ref a_T_wishB, .int T_begins, .ref a_T_st, .int T_acts, .ref a_T_was, .int T_keeps, .ref a_T_kept, .int T_wokes, .ref a_T_woke, .ref a_T_text, .int T_texted, .int T_at, .ref a_T_told, .int T_readGuests, .ref a_T_readKinds, .ref a_T_readFloors, .int T_readWishes, .ref a_T_readWishKind, .ref a_T_readWishA, .ref a_T_readWishB, .int T_readBegins, .int T_here, .int T_stands, .int T_many, .int T_rounds, .ref a_T_come, .ref a_T_keptBy, .ref a_T_endsAt, .ref a_T_order, .ref a_T_time, .ref a_T_place])), (a_T_wishA, .inl (cI, 9, .inl T_wishA)), (a_T_wishB, .inl (cI, 9, .inl T_wishB)), (a_T_wishKind, .inl (cI, 9, .inl T_wishKind)), (a_T_time, .inl (cI, 6, .inl T_time)), (a_T_place, .inl (cI, 6, .inl T_place))] sz)) 0 0 (va_A [(a_T, .inr (9, [.int T_guests, .ref a_T_kinds, .int T_wishes, .ref a_T_wishKind, .ref a_T_wishA, .ref a_T_wishB, .int T_begins, .ref a_T_st, .int T_acts, .ref a_T_was, .int T_keeps, .ref a_T_kept, .int T_wokes, .ref a_T_woke, .ref a_T_text, .int T_texted, .int T_at, .ref a_T_told, .int T_readGuests, .ref a_T_readKinds, .ref a_T_readFloors, .int T_readWishes, .ref a_T_readWishKind, .ref a_T_readWishA, .ref a_T_readWishB, .int T_readBegins, .int T_here, .int T_stands, .int T_many, .int T_rounds, .ref a_T_come, .ref a_T_keptBy, .ref a_T_endsAt, .ref a_T_order, .ref a_T_time, .ref a_T_place])), (a_T_wishA, .inl (cI, 9, .inl T_wishA)), (a_T_wishB, .inl (cI, 9, .inl T_wishB)), (a_T_wishKind, .inl (cI, 9, .inl T_wishKind)), (a_T_time, .inl (cI, 6, .inl T_time)), (a_T_place, .inl (cI, 6, .inl T_place))] sz) := by
  refine Met.ofW (cc := cX9_isKept) (maxL := 4) (ret := (some .boolean)) (by decide) rfl ?_
  intro p e s m args below meth c s₁ B hml hv
  obtain ⟨rfl, hsz, hP, hK, hD0, hN⟩ := hv
  have hx := B.exec
  have hb := B.bytes
  have hrt := B.returns
  have hts := atoms_spec (ws := wsX9_isKept) B.pre
  have hown : s.vm.findClass RX9 = some m.cls := findClass_of_methodNamed B.named
  have hlocks := B.notSynchronized
  subst hsz
  have hD := hD0.self (sz := s.heap.size)
  generalize hAe : va_A [(a_T, .inr (9, [.int T_guests, .ref a_T_kinds, .int T_wishes, .ref a_T_wishKind, .ref a_T_wishA, .ref a_T_wishB, .int T_begins, .ref a_T_st, .int T_acts, .ref a_T_was, .int T_keeps, .ref a_T_kept, .int T_wokes, .ref a_T_woke, .ref a_T_text, .int T_texted, .int T_at, .ref a_T_told, .int T_readGuests, .ref a_T_readKinds, .ref a_T_readFloors, .int T_readWishes, .ref a_T_readWishKind, .ref a_T_readWishA, .ref a_T_readWishB, .int T_readBegins, .int T_here, .int T_stands, .int T_many, .int T_rounds, .ref a_T_come, .ref a_T_keptBy, .ref a_T_endsAt, .ref a_T_order, .ref a_T_time, .ref a_T_place])), (a_T_wishA, .inl (cI, 9, .inl T_wishA)), (a_T_wishB, .inl (cI, 9, .inl T_wishB)), (a_T_wishKind, .inl (cI, 9, .inl T_wishKind)), (a_T_time, .inl (cI, 6, .inl T_time)), (a_T_place, .inl (cI, 6, .inl T_place))] s.heap.size = A at hD ⊢
  have hA : ∀ q : Nat, s.heap.size ≤ q → A q := fun q h => by rw [← hAe]; exact Or.inr h
  have hS : va_S A s.heap s.heap [] := va_S.rf
  have hl := lv_entry ([.ref a_T, .int x1] : List Value) (n := 4) (Nat.le_of_ble_eq_true rfl)
  rw [lg_entry_eq]
  generalize (lg_sl ([.ref a_T, .int x1] : List Value) ++ List.replicate (4 - (lg_sl ([.ref a_T, .int x1] : List Value)).length) Slot.unset).toArray = ls at hl ⊢
  replace hl : lv_has ls 4 [(0, .ref a_T), (1, .int x1)] := hl
  obtain ⟨Q, hQ⟩ : ∃ Q, Q = MQ below (va_Qi (fun r (_ : Unit) => r = R) (fun _ => BW (dC, dI) (tysA cC cI cJ) A [(a_T, .inr (9, [.int T_guests, .ref a_T_kinds, .int T_wishes, .ref a_T_wishKind, .ref a_T_wishA, .ref a_T_wishB, .int T_begins, .ref a_T_st, .int T_acts, .ref a_T_was, .int T_keeps, .ref a_T_kept, .int T_wokes, .ref a_T_woke, .ref a_T_text, .int T_texted, .int T_at, .ref a_T_told, .int T_readGuests, .ref a_T_readKinds, .ref a_T_readFloors, .int T_readWishes, .ref a_T_readWishKind, .ref a_T_readWishA, .ref a_T_readWishB, .int T_readBegins, .int T_here, .int T_stands, .int T_many, .int T_rounds, .ref a_T_come, .ref a_T_keptBy, .ref a_T_endsAt, .ref a_T_order, .ref a_T_time, .ref a_T_place])), (a_T_wishA, .inl (cI, 9, .inl T_wishA)), (a_T_wishB, .inl (cI, 9, .inl T_wishB)), (a_T_wishKind, .inl (cI, 9, .inl T_wishKind)), (a_T_time, .inl (cI, 6, .inl T_time)), (a_T_place, .inl (cI, 6, .inl T_place))]) A) ([.ref a_T, .int x1] : List Value).toArray s 0 0 A := ⟨_, rfl⟩
  rw [← hQ]
  suffices hE : WG p l e rmX9_isKept s m ([.ref a_T, .int x1] : List Value).toArray below meth c 0 0 Q (dC, dI) A 0 4 [(a_T, .inr (9, [.int T_guests, .ref a_T_kinds, .int T_wishes, .ref a_T_wishKind, .ref a_T_wishA, .ref a_T_wishB, .int T_begins, .ref a_T_st, .int T_acts, .ref a_T_was, .int T_keeps, .ref a_T_kept, .int T_wokes, .ref a_T_woke, .ref a_T_text, .int T_texted, .int T_at, .ref a_T_told, .int T_readGuests, .ref a_T_readKinds, .ref a_T_readFloors, .int T_readWishes, .ref a_T_readWishKind, .ref a_T_readWishA, .ref a_T_readWishB, .int T_readBegins, .int T_here, .int T_stands, .int T_many, .int T_rounds, .ref a_T_come, .ref a_T_keptBy, .ref a_T_endsAt, .ref a_T_order, .ref a_T_time, .ref a_T_place])), (a_T_wishA, .inl (cI, 9, .inl T_wishA)), (a_T_wishB, .inl (cI, 9, .inl T_wishB)), (a_T_wishKind, .inl (cI, 9, .inl T_wishKind)), (a_T_time, .inl (cI, 6, .inl T_time)), (a_T_place, .inl (cI, 6, .inl T_place))] [(0, .ref a_T), (1, .int x1)] [] from hE _ _ _ hP hD hS hl
  clear hP hD hS hl hD0 hAe
  intro H locs ls hP hD hS hl
  unfold fX9_isKept at hr
  refine lv_aload_n hx hb dX9_isKept_0 rfl (lv_at hl 0 rfl) ?_
  refine va_get (D := (dC, dI)) (ci := 9) (v := .ref a_T_wishA) (C := RX9) (T := TX9) (N := 36) hx hb hts inX9_isKept_X9 hown hK hP 0 rfl rfl 4 (by decide) (hts _ mbX9_isKept_0) (fun _ h9 => h9) rfl dX9_isKept_1 ?_
  refine lv_iload_n hx hb dX9_isKept_4 rfl (lv_at hl 1 rfl) ?_
  obtain ⟨g1, hr⟩ := gd_some hr
  refine va_iald hx hb hK hP 1 1 rfl rfl g1 dX9_isKept_5 ?_
  obtain ⟨x2, e1, hr⟩ := nm_el hr
  refine lv_nmi e1 ?_
  refine lv_istore_n (lv' := [(2, .int x2), (0, .ref a_T), (1, .int x1)]) hx hb dX9_isKept_6 rfl hl (by decide) rfl (fun ls hl => ?_)
  refine lv_aload_n hx hb dX9_isKept_7 rfl (lv_at hl 1 rfl) ?_
  refine va_get (D := (dC, dI)) (ci := 9) (v := .ref a_T_wishB) (C := RX9) (T := TX9) (N := 36) hx hb hts inX9_isKept_X9 hown hK hP 0 rfl rfl 5 (by decide) (hts _ mbX9_isKept_2) (fun _ h9 => h9) rfl dX9_isKept_8 ?_
  refine lv_iload_n hx hb dX9_isKept_11 rfl (lv_at hl 2 rfl) ?_
  obtain ⟨g2, hr⟩ := gd_some hr
  refine va_iald hx hb hK hP 2 1 rfl rfl g2 dX9_isKept_12 ?_
  obtain ⟨x3, e2, hr⟩ := nm_el hr
  refine lv_nmi e2 ?_
  refine lv_istore_n (lv' := [(3, .int x3), (2, .int x2), (0, .ref a_T), (1, .int x1)]) hx hb dX9_isKept_13 rfl hl (by decide) rfl (fun ls hl => ?_)
  refine lv_aload_n hx hb dX9_isKept_14 rfl (lv_at hl 2 rfl) ?_
  refine va_get (D := (dC, dI)) (ci := 9) (v := .ref a_T_wishKind) (C := RX9) (T := TX9) (N := 36) hx hb hts inX9_isKept_X9 hown hK hP 0 rfl rfl 3 (by decide) (hts _ mbX9_isKept_3) (fun _ h9 => h9) rfl dX9_isKept_15 ?_
  refine lv_iload_n hx hb dX9_isKept_18 rfl (lv_at hl 3 rfl) ?_
  obtain ⟨g3, hr⟩ := gd_some hr
  refine va_iald hx hb hK hP 3 1 rfl rfl g3 dX9_isKept_19 ?_
  by_cases c1 : ((T_wishKind x1.toNatClampNeg) : Int32) = 0
  · replace hr := it_t hr c1
    refine lv_tableIn (tgt := 52) (off := 32) hx hb dX9_isKept_20 (by rw [c1]; decide) (by rw [c1]; decide) (by rw [c1]; rfl) (by decide) ?_
    refine lv_aload_n hx hb dX9_isKept_52 rfl (lv_at hl 2 rfl) ?_
    refine va_get (D := (dC, dI)) (ci := 9) (v := .ref a_T_place) (C := RX9) (T := TX9) (N := 36) hx hb hts inX9_isKept_X9 hown hK hP 0 rfl rfl 35 (by decide) (hts _ mbX9_isKept_4) (fun _ h9 => h9) rfl dX9_isKept_53 ?_
    refine lv_iload_n hx hb dX9_isKept_56 rfl (lv_at hl 1 rfl) ?_
    obtain ⟨g4, hr⟩ := gd_some hr
    refine va_iald hx hb hK hP 5 1 rfl rfl g4 dX9_isKept_57 ?_
    refine lv_aload_n hx hb dX9_isKept_58 rfl (lv_at hl 2 rfl) ?_
    refine va_get (D := (dC, dI)) (ci := 9) (v := .ref a_T_place) (C := RX9) (T := TX9) (N := 36) hx hb hts inX9_isKept_X9 hown hK hP 0 rfl rfl 35 (by decide) (hts _ mbX9_isKept_4) (fun _ h9 => h9) rfl dX9_isKept_59 ?_
    refine lv_iload_n hx hb dX9_isKept_62 rfl (lv_at hl 0 rfl) ?_
    obtain ⟨g5, hr⟩ := gd_some hr
    refine va_iald hx hb hK hP 5 1 rfl rfl g5 dX9_isKept_63 ?_
    refine lv_icmp_ge (tgt := 71) hx hb dX9_isKept_64 (by decide) (fun c2 => ?_) (fun c2 => ?_)
    · replace hr := it_t hr c2
      refine lv_iconst (v := 0) hx hb dX9_isKept_71 (by decide) ?_
      have he := Option.some.inj hr
      subst he
      subst hQ
      exact ret_z hx hb hrt (show narrow .boolean (.int 0) = .int 0 from rfl) hK hP hD hS hlocks dX9_isKept_72
    · replace hr := it_f hr c2
      refine lv_iconst (v := 1) hx hb dX9_isKept_67 (by decide) ?_
      refine lv_goto (tgt := 72) hx hb dX9_isKept_68 (by decide) ?_
      have he := Option.some.inj hr
      subst he
      subst hQ
      exact ret_z hx hb hrt (show narrow .boolean (.int 1) = .int 1 from rfl) hK hP hD hS hlocks dX9_isKept_72
  · replace hr := it_f hr c1
    by_cases c3 : ((T_wishKind x1.toNatClampNeg) : Int32) = 1
    · replace hr := it_t hr c3
      refine lv_tableIn (tgt := 73) (off := 53) hx hb dX9_isKept_20 (by rw [c3]; decide) (by rw [c3]; decide) (by rw [c3]; rfl) (by decide) ?_
      refine lv_aload_n hx hb dX9_isKept_73 rfl (lv_at hl 2 rfl) ?_
      refine va_get (D := (dC, dI)) (ci := 9) (v := .ref a_T_place) (C := RX9) (T := TX9) (N := 36) hx hb hts inX9_isKept_X9 hown hK hP 0 rfl rfl 35 (by decide) (hts _ mbX9_isKept_4) (fun _ h9 => h9) rfl dX9_isKept_74 ?_
      refine lv_iload_n hx hb dX9_isKept_77 rfl (lv_at hl 1 rfl) ?_
      obtain ⟨g6, hr⟩ := gd_some hr
      refine va_iald hx hb hK hP 5 1 rfl rfl g6 dX9_isKept_78 ?_
      refine lv_aload_n hx hb dX9_isKept_79 rfl (lv_at hl 2 rfl) ?_
      refine va_get (D := (dC, dI)) (ci := 9) (v := .ref a_T_place) (C := RX9) (T := TX9) (N := 36) hx hb hts inX9_isKept_X9 hown hK hP 0 rfl rfl 35 (by decide) (hts _ mbX9_isKept_4) (fun _ h9 => h9) rfl dX9_isKept_80 ?_
      refine lv_iload_n hx hb dX9_isKept_83 rfl (lv_at hl 0 rfl) ?_
      obtain ⟨g7, hr⟩ := gd_some hr
      refine va_iald hx hb hK hP 5 1 rfl rfl g7 dX9_isKept_84 ?_
      refine lv_iconst (v := 1) hx hb dX9_isKept_85 (by decide) ?_
      refine lv_iadd hx hb dX9_isKept_86 ?_
      refine lv_icmp_ne (tgt := 94) hx hb dX9_isKept_87 (by decide) (fun c4 => ?_) (fun c4 => ?_)
      · replace hr := it_f hr c4
        refine lv_iconst (v := 0) hx hb dX9_isKept_94 (by decide) ?_
        have he := Option.some.inj hr
        subst he
        subst hQ
        exact ret_z hx hb hrt (show narrow .boolean (.int 0) = .int 0 from rfl) hK hP hD hS hlocks dX9_isKept_95
      · replace hr := it_t hr c4
        refine lv_iconst (v := 1) hx hb dX9_isKept_90 (by decide) ?_
        refine lv_goto (tgt := 95) hx hb dX9_isKept_91 (by decide) ?_
        have he := Option.some.inj hr
        subst he
        subst hQ
        exact ret_z hx hb hrt (show narrow .boolean (.int 1) = .int 1 from rfl) hK hP hD hS hlocks dX9_isKept_95
    · replace hr := it_f hr c3
      by_cases c5 : ((T_wishKind x1.toNatClampNeg) : Int32) = 2
      · replace hr := it_t hr c5
        refine lv_tableIn (tgt := 96) (off := 76) hx hb dX9_isKept_20 (by rw [c5]; decide) (by rw [c5]; decide) (by rw [c5]; rfl) (by decide) ?_
        refine lv_aload_n hx hb dX9_isKept_96 rfl (lv_at hl 2 rfl) ?_
        refine va_get (D := (dC, dI)) (ci := 9) (v := .ref a_T_place) (C := RX9) (T := TX9) (N := 36) hx hb hts inX9_isKept_X9 hown hK hP 0 rfl rfl 35 (by decide) (hts _ mbX9_isKept_4) (fun _ h9 => h9) rfl dX9_isKept_97 ?_
        refine lv_iload_n hx hb dX9_isKept_100 rfl (lv_at hl 1 rfl) ?_
        obtain ⟨g8, hr⟩ := gd_some hr
        refine va_iald hx hb hK hP 5 1 rfl rfl g8 dX9_isKept_101 ?_
        refine lv_if_ne (tgt := 109) hx hb dX9_isKept_102 (by decide) (fun c6 => ?_) (fun c6 => ?_)
        · replace hr := it_f hr c6
          refine lv_iconst (v := 0) hx hb dX9_isKept_109 (by decide) ?_
          have he := Option.some.inj hr
          subst he
          subst hQ
          exact ret_z hx hb hrt (show narrow .boolean (.int 0) = .int 0 from rfl) hK hP hD hS hlocks dX9_isKept_110
        · replace hr := it_t hr c6
          refine lv_iconst (v := 1) hx hb dX9_isKept_105 (by decide) ?_
          refine lv_goto (tgt := 110) hx hb dX9_isKept_106 (by decide) ?_
          have he := Option.some.inj hr
          subst he
          subst hQ
          exact ret_z hx hb hrt (show narrow .boolean (.int 1) = .int 1 from rfl) hK hP hD hS hlocks dX9_isKept_110
      · replace hr := it_f hr c5
        by_cases c7 : ((T_wishKind x1.toNatClampNeg) : Int32) = 3
        · replace hr := it_t hr c7
          refine lv_tableIn (tgt := 111) (off := 91) hx hb dX9_isKept_20 (by rw [c7]; decide) (by rw [c7]; decide) (by rw [c7]; rfl) (by decide) ?_
          refine lv_iconst (v := 1) hx hb dX9_isKept_111 (by decide) ?_
          have he := Option.some.inj hr
          subst he
          subst hQ
          exact ret_z hx hb hrt (show narrow .boolean (.int 1) = .int 1 from rfl) hK hP hD hS hlocks dX9_isKept_112
        · replace hr := it_f hr c7
          refine lv_tableOut (tgt := 113) hx hb dX9_isKept_20 (ts_out (fun i h1 h2 => ?_)) (by decide) ?_
          · rcases (show i = 0 ∨ i = 1 ∨ i = 2 ∨ i = 3 by omega) with rfl | rfl | rfl | rfl
            · exact ts_ne c1
            · exact ts_ne c3
            · exact ts_ne c5
            · exact ts_ne c7
          · skip
            refine lv_aload_n hx hb dX9_isKept_113 rfl (lv_at hl 2 rfl) ?_
            refine va_get (D := (dC, dI)) (ci := 9) (v := .ref a_T_time) (C := RX9) (T := TX9) (N := 36) hx hb hts inX9_isKept_X9 hown hK hP 0 rfl rfl 34 (by decide) (hts _ mbX9_isKept_5) (fun _ h9 => h9) rfl dX9_isKept_114 ?_
            refine lv_iload_n hx hb dX9_isKept_117 rfl (lv_at hl 1 rfl) ?_
            obtain ⟨g9, hr⟩ := gd_some hr
            refine va_iald hx hb hK hP 4 1 rfl rfl g9 dX9_isKept_118 ?_
            refine lv_iload_n hx hb dX9_isKept_119 rfl (lv_at hl 0 rfl) ?_
            refine lv_icmp_gt (tgt := 127) hx hb dX9_isKept_120 (by decide) (fun c8 => ?_) (fun c8 => ?_)
            · replace hr := it_t hr c8
              refine lv_iconst (v := 0) hx hb dX9_isKept_127 (by decide) ?_
              have he := Option.some.inj hr
              subst he
              subst hQ
              exact ret_z hx hb hrt (show narrow .boolean (.int 0) = .int 0 from rfl) hK hP hD hS hlocks dX9_isKept_128
            · replace hr := it_f hr c8
              refine lv_iconst (v := 1) hx hb dX9_isKept_123 (by decide) ?_
              refine lv_goto (tgt := 128) hx hb dX9_isKept_124 (by decide) ?_
              have he := Option.some.inj hr
              subst he
              subst hQ
              exact ret_z hx hb hrt (show narrow .boolean (.int 1) = .int 1 from rfl) hK hP hD hS hlocks dX9_isKept_128
