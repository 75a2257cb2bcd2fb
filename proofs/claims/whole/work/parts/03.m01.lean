def fX8_has (K : Nat) (x0 : Int32) (x1 : Int32) : Option (Int32) :=
    if (((x0 >>> (x1 &&& 31)) &&& 1) : Int32) = 1 then (
    some 1)
    else (
    some 0)
abbrev rmX8_has : Room := { frames := 0, cells := 0, slots := 0, locals := 0 }
set_option maxHeartbeats 8000000 in
set_option maxRecDepth 100000 in
theorem kX8_has (l : Launch) (dC : Nat → ClassId) (dI : Nat → Nat → Nat) (cC cI cJ : ClassId) (sz : Nat) (K : Nat) (x0 : Int32) (x1 : Int32) (R : Int32) (hr : fX8_has K x0 x1 = some R) : Met l yX8_has wsX8_has rmX8_has (va_Pc ([.int x0, .int x1] : List Value) (PcW (dC, dI) (tysA cC cI cJ) sz [])) (va_Qi (fun r (_ : Unit) => r = R) (fun _ => BW (dC, dI) (tysA cC cI cJ) (va_A [] sz) []) (va_A [] sz)) 0 0 (va_A [] sz) := by
  refine Met.ofW (cc := cX8_has) (maxL := 2) (ret := (some .boolean)) (by decide) rfl ?_
  intro p e s m args below meth c s₁ B hml hv
  obtain ⟨rfl, hsz, hP, hK, hD0, hN⟩ := hv
  have hx := B.exec
  have hb := B.bytes
  have hrt := B.returns
  have hts := atoms_spec (ws := wsX8_has) B.pre
  have hown : s.vm.findClass RX8 = some m.cls := findClass_of_methodNamed B.named
  have hlocks := B.notSynchronized
  subst hsz
  have hD := hD0.self (sz := s.heap.size)
  generalize hAe : va_A [] s.heap.size = A at hD ⊢
  have hA : ∀ q : Nat, s.heap.size ≤ q → A q := fun q h => by rw [← hAe]; exact Or.inr h
  have hS : va_S A s.heap s.heap [] := va_S.rf
  have hl := lv_entry ([.int x0, .int x1] : List Value) (n := 2) (Nat.le_of_ble_eq_true rfl)
  rw [lg_entry_eq]
  generalize (lg_sl ([.int x0, .int x1] : List Value) ++ List.replicate (2 - (lg_sl ([.int x0, .int x1] : List Value)).length) Slot.unset).toArray = ls at hl ⊢
  replace hl : lv_has ls 2 [(0, .int x0), (1, .int x1)] := hl
  obtain ⟨Q, hQ⟩ : ∃ Q, Q = MQ below (va_Qi (fun r (_ : Unit) => r = R) (fun _ => BW (dC, dI) (tysA cC cI cJ) A []) A) ([.int x0, .int x1] : List Value).toArray s 0 0 A := ⟨_, rfl⟩
  rw [← hQ]
  suffices hE : WG p l e rmX8_has s m ([.int x0, .int x1] : List Value).toArray below meth c 0 0 Q (dC, dI) A 0 2 [] [(0, .int x0), (1, .int x1)] [] from hE _ _ _ hP hD hS hl
  clear hP hD hS hl hD0 hAe
  intro H locs ls hP hD hS hl
  unfold fX8_has at hr
  refine lv_iload_n hx hb dX8_has_0 rfl (lv_at hl 0 rfl) ?_
  refine lv_iload_n hx hb dX8_has_1 rfl (lv_at hl 1 rfl) ?_
  refine lv_ishr hx hb dX8_has_2 ?_
  refine lv_iconst (v := 1) hx hb dX8_has_3 (by decide) ?_
  refine lv_iand hx hb dX8_has_4 ?_
  refine lv_iconst (v := 1) hx hb dX8_has_5 (by decide) ?_
  refine lv_icmp_ne (tgt := 13) hx hb dX8_has_6 (by decide) (fun c1 => ?_) (fun c1 => ?_)
  · replace hr := it_f hr c1
    refine lv_iconst (v := 0) hx hb dX8_has_13 (by decide) ?_
    have he := Option.some.inj hr
    subst he
    subst hQ
    exact ret_z hx hb hrt rfl hK hP hD hS hlocks dX8_has_14
  · replace hr := it_t hr c1
    refine lv_iconst (v := 1) hx hb dX8_has_9 (by decide) ?_
    refine lv_goto (tgt := 14) hx hb dX8_has_10 (by decide) ?_
    have he := Option.some.inj hr
    subst he
    subst hQ
    exact ret_z hx hb hrt rfl hK hP hD hS hlocks dX8_has_14
def fX8_at (K : Nat) (n_P0 : Nat) (x1 : Int32) (P0 : (Nat → Int32)) : Option (Int32) :=
    if (x1 : Int32) < 0 then (
    some 0)
    else (
    if (nI n_P0) ≤ (x1 : Int32) then (
    some 0)
    else (
    gd (¬ ((x1 : Int32) < 0 ∨ n_P0 ≤ x1.toNatClampNeg)) (
    some (P0 x1.toNatClampNeg))))
abbrev rmX8_at : Room := { frames := 0, cells := 0, slots := 0, locals := 0 }
set_option maxHeartbeats 8000000 in
set_option maxRecDepth 100000 in
theorem kX8_at (l : Launch) (dC : Nat → ClassId) (dI : Nat → Nat → Nat) (cC cI cJ : ClassId) (sz : Nat) (K : Nat) (a_P0 : Nat) (n_P0 : Nat) (x1 : Int32) (P0 : (Nat → Int32)) (R : Int32) (hr : fX8_at K n_P0 x1 P0 = some R) : Met l yX8_at wsX8_at rmX8_at (va_Pc ([.ref a_P0, .int x1] : List Value) (PcW (dC, dI) (tysA cC cI cJ) sz [(a_P0, .inl (cI, n_P0, .inl P0))])) (va_Qi (fun r (_ : Unit) => r = R) (fun _ => BW (dC, dI) (tysA cC cI cJ) (va_A [(a_P0, .inl (cI, n_P0, .inl P0))] sz) [(a_P0, .inl (cI, n_P0, .inl P0))]) (va_A [(a_P0, .inl (cI, n_P0, .inl P0))] sz)) 0 0 (va_A [(a_P0, .inl (cI, n_P0, .inl P0))] sz) := by
  refine Met.ofW (cc := cX8_at) (maxL := 2) (ret := (some .int)) (by decide) rfl ?_
  intro p e s m args below meth c s₁ B hml hv
  obtain ⟨rfl, hsz, hP, hK, hD0, hN⟩ := hv
  have hx := B.exec
  have hb := B.bytes
  have hrt := B.returns
  have hts := atoms_spec (ws := wsX8_at) B.pre
  have hown : s.vm.findClass RX8 = some m.cls := findClass_of_methodNamed B.named
  have hlocks := B.notSynchronized
  subst hsz
  have hD := hD0.self (sz := s.heap.size)
  generalize hAe : va_A [(a_P0, .inl (cI, n_P0, .inl P0))] s.heap.size = A at hD ⊢
  have hA : ∀ q : Nat, s.heap.size ≤ q → A q := fun q h => by rw [← hAe]; exact Or.inr h
  have hS : va_S A s.heap s.heap [] := va_S.rf
  have hl := lv_entry ([.ref a_P0, .int x1] : List Value) (n := 2) (Nat.le_of_ble_eq_true rfl)
  rw [lg_entry_eq]
  generalize (lg_sl ([.ref a_P0, .int x1] : List Value) ++ List.replicate (2 - (lg_sl ([.ref a_P0, .int x1] : List Value)).length) Slot.unset).toArray = ls at hl ⊢
  replace hl : lv_has ls 2 [(0, .ref a_P0), (1, .int x1)] := hl
  obtain ⟨Q, hQ⟩ : ∃ Q, Q = MQ below (va_Qi (fun r (_ : Unit) => r = R) (fun _ => BW (dC, dI) (tysA cC cI cJ) A [(a_P0, .inl (cI, n_P0, .inl P0))]) A) ([.ref a_P0, .int x1] : List Value).toArray s 0 0 A := ⟨_, rfl⟩
  rw [← hQ]
  suffices hE : WG p l e rmX8_at s m ([.ref a_P0, .int x1] : List Value).toArray below meth c 0 0 Q (dC, dI) A 0 2 [(a_P0, .inl (cI, n_P0, .inl P0))] [(0, .ref a_P0), (1, .int x1)] [] from hE _ _ _ hP hD hS hl
  clear hP hD hS hl hD0 hAe
  intro H locs ls hP hD hS hl
  unfold fX8_at at hr
  refine lv_iload_n hx hb dX8_at_0 rfl (lv_at hl 1 rfl) ?_
  refine lv_if_lt (tgt := 16) hx hb dX8_at_1 (by decide) (fun c1 => ?_) (fun c1 => ?_)
  · replace hr := it_t hr c1
    refine lv_iconst (v := 0) hx hb dX8_at_16 (by decide) ?_
    have he := Option.some.inj hr
    subst he
    subst hQ
    exact ret_i hx hb hrt hK hP hD hS hlocks dX8_at_17
  · replace hr := it_f hr c1
    refine lv_iload_n hx hb dX8_at_4 rfl (lv_at hl 1 rfl) ?_
    refine lv_aload_n hx hb dX8_at_5 rfl (lv_at hl 0 rfl) ?_
    refine va_alen (v := nI n_P0) hx hb hK hP 0 1 rfl rfl rfl dX8_at_6 ?_
    refine lv_icmp_ge (tgt := 16) hx hb dX8_at_7 (by decide) (fun c2 => ?_) (fun c2 => ?_)
    · replace hr := it_t hr c2
      refine lv_iconst (v := 0) hx hb dX8_at_16 (by decide) ?_
      have he := Option.some.inj hr
      subst he
      subst hQ
      exact ret_i hx hb hrt hK hP hD hS hlocks dX8_at_17
    · replace hr := it_f hr c2
      refine lv_aload_n hx hb dX8_at_10 rfl (lv_at hl 0 rfl) ?_
      refine lv_iload_n hx hb dX8_at_11 rfl (lv_at hl 1 rfl) ?_
      obtain ⟨g1, hr⟩ := gd_some hr
      refine va_iald hx hb hK hP 0 1 rfl rfl g1 dX8_at_12 ?_
      refine lv_goto (tgt := 17) hx hb dX8_at_13 (by decide) ?_
      have he := Option.some.inj hr
      subst he
      subst hQ
      exact ret_i hx hb hrt hK hP hD hS hlocks dX8_at_17
def fX8_put (K : Nat) (n_P0 : Nat) (x1 : Int32) (x2 : Int32) (P0 : (Nat → Int32)) : Option ((Nat → Int32)) :=
    if (x1 : Int32) < 0 then (
    some P0)
    else (
    if (nI n_P0) ≤ (x1 : Int32) then (
    some P0)
    else (
    gd (¬ ((x1 : Int32) < 0 ∨ n_P0 ≤ x1.toNatClampNeg)) (
    nm (upd P0 x1.toNatClampNeg x2) fun P0_1 =>
    some P0_1)))
abbrev rmX8_put : Room := { frames := 0, cells := 0, slots := 0, locals := 0 }
set_option maxHeartbeats 8000000 in
set_option maxRecDepth 100000 in
theorem kX8_put (l : Launch) (dC : Nat → ClassId) (dI : Nat → Nat → Nat) (cC cI cJ : ClassId) (sz : Nat) (K : Nat) (a_P0 : Nat) (n_P0 : Nat) (x1 : Int32) (x2 : Int32) (P0 : (Nat → Int32)) (R : (Nat → Int32)) (hr : fX8_put K n_P0 x1 x2 P0 = some R) : Met l yX8_put wsX8_put rmX8_put (va_Pc ([.ref a_P0, .int x1, .int x2] : List Value) (PcW (dC, dI) (tysA cC cI cJ) sz [(a_P0, .inl (cI, n_P0, .inl P0))])) (va_Qv (fun (_ : Unit) => True) (fun _ => BW (dC, dI) (tysA cC cI cJ) (va_A [(a_P0, .inl (cI, n_P0, .inl P0))] sz) [(a_P0, .inl (cI, n_P0, .inl R))]) (va_A [(a_P0, .inl (cI, n_P0, .inl P0))] sz)) 0 0 (va_A [(a_P0, .inl (cI, n_P0, .inl P0))] sz) := by
  refine Met.ofW (cc := cX8_put) (maxL := 3) (ret := none) (by decide) rfl ?_
  intro p e s m args below meth c s₁ B hml hv
  obtain ⟨rfl, hsz, hP, hK, hD0, hN⟩ := hv
  have hx := B.exec
  have hb := B.bytes
  have hrt := B.returns
  have hts := atoms_spec (ws := wsX8_put) B.pre
  have hown : s.vm.findClass RX8 = some m.cls := findClass_of_methodNamed B.named
  have hlocks := B.notSynchronized
  subst hsz
  have hD := hD0.self (sz := s.heap.size)
  generalize hAe : va_A [(a_P0, .inl (cI, n_P0, .inl P0))] s.heap.size = A at hD ⊢
  have hA : ∀ q : Nat, s.heap.size ≤ q → A q := fun q h => by rw [← hAe]; exact Or.inr h
  have hS : va_S A s.heap s.heap [] := va_S.rf
  have hl := lv_entry ([.ref a_P0, .int x1, .int x2] : List Value) (n := 3) (Nat.le_of_ble_eq_true rfl)
  rw [lg_entry_eq]
  generalize (lg_sl ([.ref a_P0, .int x1, .int x2] : List Value) ++ List.replicate (3 - (lg_sl ([.ref a_P0, .int x1, .int x2] : List Value)).length) Slot.unset).toArray = ls at hl ⊢
  replace hl : lv_has ls 3 [(0, .ref a_P0), (1, .int x1), (2, .int x2)] := hl
  obtain ⟨Q, hQ⟩ : ∃ Q, Q = MQ below (va_Qv (fun (_ : Unit) => True) (fun _ => BW (dC, dI) (tysA cC cI cJ) A [(a_P0, .inl (cI, n_P0, .inl R))]) A) ([.ref a_P0, .int x1, .int x2] : List Value).toArray s 0 0 A := ⟨_, rfl⟩
  rw [← hQ]
  suffices hE : WG p l e rmX8_put s m ([.ref a_P0, .int x1, .int x2] : List Value).toArray below meth c 0 0 Q (dC, dI) A 0 3 [(a_P0, .inl (cI, n_P0, .inl P0))] [(0, .ref a_P0), (1, .int x1), (2, .int x2)] [] from hE _ _ _ hP hD hS hl
  clear hP hD hS hl hD0 hAe
  intro H locs ls hP hD hS hl
  unfold fX8_put at hr
  refine lv_iload_n hx hb dX8_put_0 rfl (lv_at hl 1 rfl) ?_
  refine lv_if_lt (tgt := 14) hx hb dX8_put_1 (by decide) (fun c1 => ?_) (fun c1 => ?_)
  · replace hr := it_t hr c1
    have he := Option.some.inj hr
    subst he
    subst hQ
    exact ret_v hx hb hrt hK hP hD hS hlocks dX8_put_14
  · replace hr := it_f hr c1
    refine lv_iload_n hx hb dX8_put_4 rfl (lv_at hl 1 rfl) ?_
    refine lv_aload_n hx hb dX8_put_5 rfl (lv_at hl 0 rfl) ?_
    refine va_alen (v := nI n_P0) hx hb hK hP 0 1 rfl rfl rfl dX8_put_6 ?_
    refine lv_icmp_ge (tgt := 14) hx hb dX8_put_7 (by decide) (fun c2 => ?_) (fun c2 => ?_)
    · replace hr := it_t hr c2
      have he := Option.some.inj hr
      subst he
      subst hQ
      exact ret_v hx hb hrt hK hP hD hS hlocks dX8_put_14
    · replace hr := it_f hr c2
      refine lv_aload_n hx hb dX8_put_10 rfl (lv_at hl 0 rfl) ?_
      refine lv_iload_n hx hb dX8_put_11 rfl (lv_at hl 1 rfl) ?_
      refine lv_iload_n hx hb dX8_put_12 rfl (lv_at hl 2 rfl) ?_
      obtain ⟨g1, hr⟩ := gd_some hr
      obtain ⟨P0_1, e1, hr⟩ := nm_el hr
      refine va_iast hx hb hK hP hD hS 0 1 rfl rfl g1 dX8_put_13 (fun H locs hP hD hS => ?_)
      rw [← e1] at hP hD
      replace hP : va_P (dC, dI) vwCl [(a_P0, .inl (cI, n_P0, .inl P0_1))] H := hP
      replace hD : va_D A [(a_P0, .inl (cI, n_P0, .inl P0_1))] := hD
      have he := Option.some.inj hr
      subst he
      subst hQ
      exact ret_v hx hb hrt hK hP hD hS hlocks dX8_put_14
def fX8_copy_L2 (K : Nat) (n_P0 : Nat) (n_P1 : Nat) (P0 : (Nat → Int32)) : Nat → Int32 → (Nat → Int32) → Option ((Nat → Int32))
  | 0, _, _ => none
  | n1 + 1, x2, P1_1 =>
    if (nI n_P0) ≤ (x2 : Int32) then (
    some P1_1)
    else (
    if (nI n_P1) ≤ (x2 : Int32) then (
    some P1_1)
    else (
    gd (¬ ((x2 : Int32) < 0 ∨ n_P0 ≤ x2.toNatClampNeg)) (
    gd (¬ ((x2 : Int32) < 0 ∨ n_P1 ≤ x2.toNatClampNeg)) (
    nm (upd P1_1 x2.toNatClampNeg (P0 x2.toNatClampNeg)) fun P1_3 =>
    nm (x2 + 1) fun x2_1 =>
    fX8_copy_L2 K n_P0 n_P1 P0 n1 x2_1 P1_3))))
def fX8_copy (K : Nat) (n_P0 : Nat) (n_P1 : Nat) (P0 : (Nat → Int32)) (P1 : (Nat → Int32)) : Option ((Nat → Int32)) :=
    bd1 (fX8_copy_L2 K n_P0 n_P1 P0 K 0 P1) fun P1_2 =>
    some P1_2
abbrev rmX8_copy : Room := { frames := 0, cells := 0, slots := 0, locals := 0 }
set_option maxHeartbeats 8000000 in
set_option maxRecDepth 100000 in
theorem kX8_copy (l : Launch) (dC : Nat → ClassId) (dI : Nat → Nat → Nat) (cC cI cJ : ClassId) (sz : Nat) (K : Nat) (a_P0 a_P1 : Nat) (n_P0 : Nat) (n_P1 : Nat) (P0 : (Nat → Int32)) (P1 : (Nat → Int32)) (R : (Nat → Int32)) (hr : fX8_copy K n_P0 n_P1 P0 P1 = some R) : Met l yX8_copy wsX8_copy rmX8_copy (va_Pc ([.ref a_P0, .ref a_P1] : List Value) (PcW (dC, dI) (tysA cC cI cJ) sz [(a_P0, .inl (cI, n_P0, .inl P0)), (a_P1, .inl (cI, n_P1, .inl P1))])) (va_Qv (fun (_ : Unit) => True) (fun _ => BW (dC, dI) (tysA cC cI cJ) (va_A [(a_P0, .inl (cI, n_P0, .inl P0)), (a_P1, .inl (cI, n_P1, .inl P1))] sz) [(a_P0, .inl (cI, n_P0, .inl P0)), (a_P1, .inl (cI, n_P1, .inl R))]) (va_A [(a_P0, .inl (cI, n_P0, .inl P0)), (a_P1, .inl (cI, n_P1, .inl P1))] sz)) 0 0 (va_A [(a_P0, .inl (cI, n_P0, .inl P0)), (a_P1, .inl (cI, n_P1, .inl P1))] sz) := by
  refine Met.ofW (cc := cX8_copy) (maxL := 3) (ret := none) (by decide) rfl ?_
  intro p e s m args below meth c s₁ B hml hv
  obtain ⟨rfl, hsz, hP, hK, hD0, hN⟩ := hv
  have hx := B.exec
  have hb := B.bytes
  have hrt := B.returns
  have hts := atoms_spec (ws := wsX8_copy) B.pre
  have hown : s.vm.findClass RX8 = some m.cls := findClass_of_methodNamed B.named
  have hlocks := B.notSynchronized
  subst hsz
  have hD := hD0.self (sz := s.heap.size)
  generalize hAe : va_A [(a_P0, .inl (cI, n_P0, .inl P0)), (a_P1, .inl (cI, n_P1, .inl P1))] s.heap.size = A at hD ⊢
  have hA : ∀ q : Nat, s.heap.size ≤ q → A q := fun q h => by rw [← hAe]; exact Or.inr h
  have hS : va_S A s.heap s.heap [] := va_S.rf
  have hl := lv_entry ([.ref a_P0, .ref a_P1] : List Value) (n := 3) (Nat.le_of_ble_eq_true rfl)
  rw [lg_entry_eq]
  generalize (lg_sl ([.ref a_P0, .ref a_P1] : List Value) ++ List.replicate (3 - (lg_sl ([.ref a_P0, .ref a_P1] : List Value)).length) Slot.unset).toArray = ls at hl ⊢
  replace hl : lv_has ls 3 [(0, .ref a_P0), (1, .ref a_P1)] := hl
  obtain ⟨Q, hQ⟩ : ∃ Q, Q = MQ below (va_Qv (fun (_ : Unit) => True) (fun _ => BW (dC, dI) (tysA cC cI cJ) A [(a_P0, .inl (cI, n_P0, .inl P0)), (a_P1, .inl (cI, n_P1, .inl R))]) A) ([.ref a_P0, .ref a_P1] : List Value).toArray s 0 0 A := ⟨_, rfl⟩
  rw [← hQ]
  suffices hE : WG p l e rmX8_copy s m ([.ref a_P0, .ref a_P1] : List Value).toArray below meth c 0 0 Q (dC, dI) A 0 3 [(a_P0, .inl (cI, n_P0, .inl P0)), (a_P1, .inl (cI, n_P1, .inl P1))] [(0, .ref a_P0), (1, .ref a_P1)] [] from hE _ _ _ hP hD hS hl
  clear hP hD hS hl hD0 hAe
  intro H locs ls hP hD hS hl
  unfold fX8_copy at hr
  refine lv_iconst (v := 0) hx hb dX8_copy_0 (by decide) ?_
  refine lv_istore_n (lv' := [(2, .int 0), (0, .ref a_P0), (1, .ref a_P1)]) hx hb dX8_copy_1 rfl hl (by decide) rfl (fun ls hl => ?_)
  have hL1 : ∀ (n1 : Nat) (x2 : Int32) (P1_1 : (Nat → Int32)) (P1_2 : (Nat → Int32)), fX8_copy_L2 K n_P0 n_P1 P0 n1 x2 P1_1 = some P1_2 → WG p l e rmX8_copy s m ([.ref a_P0, .ref a_P1] : List Value).toArray below meth c 0 0 Q (dC, dI) A 26 3 [(a_P0, .inl (cI, n_P0, .inl P0)), (a_P1, .inl (cI, n_P1, .inl P1_2))] [] [] → WG p l e rmX8_copy s m ([.ref a_P0, .ref a_P1] : List Value).toArray below meth c 0 0 Q (dC, dI) A 2 3 [(a_P0, .inl (cI, n_P0, .inl P0)), (a_P1, .inl (cI, n_P1, .inl P1_1))] [(0, .ref a_P0), (1, .ref a_P1), (2, .int x2)] [] := by
    intro n1
    induction n1 with
    | zero =>
      intro x2 P1_1 P1_2 hr
      rw [fX8_copy_L2] at hr
      cases hr
    | succ n1 ih2 =>
      intro x2 P1_1 P1_2 hr hX1 H locs ls hP hD hS hl
      rw [fX8_copy_L2] at hr
      refine lv_iload_n hx hb dX8_copy_2 rfl (lv_at hl 2 rfl) ?_
      refine lv_aload_n hx hb dX8_copy_3 rfl (lv_at hl 0 rfl) ?_
      refine va_alen (v := nI n_P0) hx hb hK hP 0 1 rfl rfl rfl dX8_copy_4 ?_
      refine lv_icmp_ge (tgt := 26) hx hb dX8_copy_5 (by decide) (fun c1 => ?_) (fun c1 => ?_)
      · replace hr := it_t hr c1
        have he := Option.some.inj hr
        cases he
        exact hX1 H locs ls hP hD hS (lv_sub hl [] rfl)
      · replace hr := it_f hr c1
        refine lv_iload_n hx hb dX8_copy_8 rfl (lv_at hl 2 rfl) ?_
        refine lv_aload_n hx hb dX8_copy_9 rfl (lv_at hl 1 rfl) ?_
        refine va_alen (v := nI n_P1) hx hb hK hP 1 1 rfl rfl rfl dX8_copy_10 ?_
        refine lv_icmp_ge (tgt := 26) hx hb dX8_copy_11 (by decide) (fun c2 => ?_) (fun c2 => ?_)
        · replace hr := it_t hr c2
          have he := Option.some.inj hr
          cases he
          exact hX1 H locs ls hP hD hS (lv_sub hl [] rfl)
        · replace hr := it_f hr c2
          refine lv_aload_n hx hb dX8_copy_14 rfl (lv_at hl 1 rfl) ?_
          refine lv_iload_n hx hb dX8_copy_15 rfl (lv_at hl 2 rfl) ?_
          refine lv_aload_n hx hb dX8_copy_16 rfl (lv_at hl 0 rfl) ?_
          refine lv_iload_n hx hb dX8_copy_17 rfl (lv_at hl 2 rfl) ?_
          obtain ⟨g1, hr⟩ := gd_some hr
          refine va_iald hx hb hK hP 0 1 rfl rfl g1 dX8_copy_18 ?_
          obtain ⟨g2, hr⟩ := gd_some hr
          obtain ⟨P1_3, e1, hr⟩ := nm_el hr
          refine va_iast hx hb hK hP hD hS 1 1 rfl rfl g2 dX8_copy_19 (fun H locs hP hD hS => ?_)
          rw [← e1] at hP hD
          replace hP : va_P (dC, dI) vwCl [(a_P0, .inl (cI, n_P0, .inl P0)), (a_P1, .inl (cI, n_P1, .inl P1_3))] H := hP
          replace hD : va_D A [(a_P0, .inl (cI, n_P0, .inl P0)), (a_P1, .inl (cI, n_P1, .inl P1_3))] := hD
          obtain ⟨x2_1, e2, hr⟩ := nm_el hr
          refine lv_iinc (v := x2_1) (lv' := [(2, .int x2_1), (0, .ref a_P0), (1, .ref a_P1)]) hx hb dX8_copy_20 hl (k := 2) rfl e2.symm (by decide) rfl (fun ls hl => ?_)
          refine lv_goto (tgt := 2) hx hb dX8_copy_23 (by decide) ?_
          exact ih2 _ _ _ hr hX1 H locs ls hP hD hS (lv_sub hl [1, 2, 0] rfl)
  obtain ⟨P1_2, hE, hr⟩ := bd1_some hr
  refine hL1 K 0 P1 P1_2 hE ?_ H locs ls hP hD hS (lv_sub hl [1, 2, 0] rfl)
  intro H locs ls hP hD hS hl
  have he := Option.some.inj hr
  subst he
  subst hQ
  exact ret_v hx hb hrt hK hP hD hS hlocks dX8_copy_26
def fX5_isGuest (K : Nat) (x1 : Int32) (T_guests : Int32) : Option (Int32) :=
    if (x1 : Int32) < 0 then (
    some 0)
    else (
    if T_guests ≤ (x1 : Int32) then (
    some 0)
    else (
    some 1))
theorem mbX5_isGuest_0 : Cond.fieldLink RX5 30 "BootsAtDawn$Slate" "guests" "I" ∈ wsX5_isGuest := List.mem_of_getElem? (i := 1) rfl
theorem inX5_isGuest_X5 : ∀ w ∈ u_ws RX5 TX5 9, w ∈ wsX5_isGuest := fun _ h => (List.mem_cons_of_mem _ (List.mem_append_right _ h))
abbrev rmX5_isGuest : Room := { frames := 0, cells := 0, slots := 0, locals := 0 }
set_option maxHeartbeats 8000000 in
set_option maxRecDepth 100000 in
theorem kX5_isGuest (l : Launch) (dC : Nat → ClassId) (dI : Nat → Nat → Nat) (cC cI cJ : ClassId) (sz : Nat) (K : Nat) (a_T a_T_guestKind a_T_guestFloor a_T_wishKind a_T_wishA a_T_wishB a_T_wishNames : Nat) (x1 : Int32) (T_guests : Int32) (T_wishes : Int32) (T_start : Int32) (R : Int32) (hr : fX5_isGuest K x1 T_guests = some R) : Met l yX5_isGuest wsX5_isGuest rmX5_isGuest (va_Pc ([.ref a_T, .int x1] : List Value) (PcW (dC, dI) (tysA cC cI cJ) sz [(a_T, .inr (5, [.ref a_T_guestKind, .ref a_T_guestFloor, .ref a_T_wishKind, .ref a_T_wishA, .ref a_T_wishB, .ref a_T_wishNames, .int T_guests, .int T_wishes, .int T_start]))])) (va_Qi (fun r (_ : Unit) => r = R) (fun _ => BW (dC, dI) (tysA cC cI cJ) (va_A [(a_T, .inr (5, [.ref a_T_guestKind, .ref a_T_guestFloor, .ref a_T_wishKind, .ref a_T_wishA, .ref a_T_wishB, .ref a_T_wishNames, .int T_guests, .int T_wishes, .int T_start]))] sz) [(a_T, .inr (5, [.ref a_T_guestKind, .ref a_T_guestFloor, .ref a_T_wishKind, .ref a_T_wishA, .ref a_T_wishB, .ref a_T_wishNames, .int T_guests, .int T_wishes, .int T_start]))]) (va_A [(a_T, .inr (5, [.ref a_T_guestKind, .ref a_T_guestFloor, .ref a_T_wishKind, .ref a_T_wishA, .ref a_T_wishB, .ref a_T_wishNames, .int T_guests, .int T_wishes, .int T_start]))] sz)) 0 0 (va_A [(a_T, .inr (5, [.ref a_T_guestKind, .ref a_T_guestFloor, .ref a_T_wishKind, .ref a_T_wishA, .ref a_T_wishB, .ref a_T_wishNames, .int T_guests, .int T_wishes, .int T_start]))] sz) := by
  refine Met.ofW (cc := cX5_isGuest) (maxL := 2) (ret := (some .boolean)) (by decide) rfl ?_
  intro p e s m args below meth c s₁ B hml hv
  obtain ⟨rfl, hsz, hP, hK, hD0, hN⟩ := hv
  have hx := B.exec
  have hb := B.bytes
  have hrt := B.returns
  have hts := atoms_spec (ws := wsX5_isGuest) B.pre
  have hown : s.vm.findClass RX5 = some m.cls := findClass_of_methodNamed B.named
  have hlocks := B.notSynchronized
  subst hsz
  have hD := hD0.self (sz := s.heap.size)
  generalize hAe : va_A [(a_T, .inr (5, [.ref a_T_guestKind, .ref a_T_guestFloor, .ref a_T_wishKind, .ref a_T_wishA, .ref a_T_wishB, .ref a_T_wishNames, .int T_guests, .int T_wishes, .int T_start]))] s.heap.size = A at hD ⊢
  have hA : ∀ q : Nat, s.heap.size ≤ q → A q := fun q h => by rw [← hAe]; exact Or.inr h
  have hS : va_S A s.heap s.heap [] := va_S.rf
  have hl := lv_entry ([.ref a_T, .int x1] : List Value) (n := 2) (Nat.le_of_ble_eq_true rfl)
  rw [lg_entry_eq]
  generalize (lg_sl ([.ref a_T, .int x1] : List Value) ++ List.replicate (2 - (lg_sl ([.ref a_T, .int x1] : List Value)).length) Slot.unset).toArray = ls at hl ⊢
  replace hl : lv_has ls 2 [(0, .ref a_T), (1, .int x1)] := hl
  obtain ⟨Q, hQ⟩ : ∃ Q, Q = MQ below (va_Qi (fun r (_ : Unit) => r = R) (fun _ => BW (dC, dI) (tysA cC cI cJ) A [(a_T, .inr (5, [.ref a_T_guestKind, .ref a_T_guestFloor, .ref a_T_wishKind, .ref a_T_wishA, .ref a_T_wishB, .ref a_T_wishNames, .int T_guests, .int T_wishes, .int T_start]))]) A) ([.ref a_T, .int x1] : List Value).toArray s 0 0 A := ⟨_, rfl⟩
  rw [← hQ]
  suffices hE : WG p l e rmX5_isGuest s m ([.ref a_T, .int x1] : List Value).toArray below meth c 0 0 Q (dC, dI) A 0 2 [(a_T, .inr (5, [.ref a_T_guestKind, .ref a_T_guestFloor, .ref a_T_wishKind, .ref a_T_wishA, .ref a_T_wishB, .ref a_T_wishNames, .int T_guests, .int T_wishes, .int T_start]))] [(0, .ref a_T), (1, .int x1)] [] from hE _ _ _ hP hD hS hl
  clear hP hD hS hl hD0 hAe
  intro H locs ls hP hD hS hl
  unfold fX5_isGuest at hr
  refine lv_iload_n hx hb dX5_isGuest_0 rfl (lv_at hl 1 rfl) ?_
  refine lv_if_lt (tgt := 16) hx hb dX5_isGuest_1 (by decide) (fun c1 => ?_) (fun c1 => ?_)
  · replace hr := it_t hr c1
    refine lv_iconst (v := 0) hx hb dX5_isGuest_16 (by decide) ?_
    have he := Option.some.inj hr
    subst he
    subst hQ
    exact ret_z hx hb hrt rfl hK hP hD hS hlocks dX5_isGuest_17
  · replace hr := it_f hr c1
    refine lv_iload_n hx hb dX5_isGuest_4 rfl (lv_at hl 1 rfl) ?_
    refine lv_aload_n hx hb dX5_isGuest_5 rfl (lv_at hl 0 rfl) ?_
    refine va_get (D := (dC, dI)) (ci := 5) (v := .int T_guests) (C := RX5) (T := TX5) (N := 9) hx hb hts inX5_isGuest_X5 hown hK hP 0 rfl rfl 6 (by decide) (hts _ mbX5_isGuest_0) (fun _ h9 => h9) rfl dX5_isGuest_6 ?_
    refine lv_icmp_ge (tgt := 16) hx hb dX5_isGuest_9 (by decide) (fun c2 => ?_) (fun c2 => ?_)
    · replace hr := it_t hr c2
      refine lv_iconst (v := 0) hx hb dX5_isGuest_16 (by decide) ?_
      have he := Option.some.inj hr
      subst he
      subst hQ
      exact ret_z hx hb hrt rfl hK hP hD hS hlocks dX5_isGuest_17
    · replace hr := it_f hr c2
      refine lv_iconst (v := 1) hx hb dX5_isGuest_12 (by decide) ?_
      refine lv_goto (tgt := 17) hx hb dX5_isGuest_13 (by decide) ?_
      have he := Option.some.inj hr
      subst he
      subst hQ
      exact ret_z hx hb hrt rfl hK hP hD hS hlocks dX5_isGuest_17
def fX1_stands (K : Nat) (x1 : Int32) (T_here : Int32) (T_struck : Int32) (T_slate_wishNames : (Nat → Int32)) : Option (Int32) :=
    bd1 (fX8_at K 9 x1 T_slate_wishNames) fun r =>
    bd1 (
    if ((r &&& (T_here ^^^ (-1))) : Int32) = 0 then (
    some 1)
    else (
    some 0)) fun y =>
    if (y : Int32) = 0 then (
    some 0)
    else (
    bd1 (fX8_has K T_struck x1) fun r_1 =>
    if (r_1 : Int32) = 0 then (
    some 1)
    else (
    some 0))
theorem mbX1_stands_0 : Cond.fieldLink RX1 15 "BootsAtDawn$Night" "slate" "LBootsAtDawn$Slate;" ∈ wsX1_stands := List.mem_of_getElem? (i := 1) rfl
theorem inX1_stands_X1 : ∀ w ∈ u_ws RX1 TX1 4, w ∈ wsX1_stands := fun _ h => (List.mem_cons_of_mem _ (List.mem_append_left _ (List.mem_append_right _ h)))
theorem inX1_stands_X5 : ∀ w ∈ u_ws RX5 TX5 9, w ∈ wsX1_stands := fun _ h => (List.mem_cons_of_mem _ (List.mem_append_right _ h))
theorem mbX1_stands_3 : Cond.initialized RX8 ∈ wsX1_stands := List.mem_of_getElem? (i := 5) rfl
theorem mbX1_stands_4 : Cond.static yX8_at ∈ wsX1_stands := List.mem_of_getElem? (i := 4) rfl
theorem mbX1_stands_5 : Cond.fieldLink RX1 32 "BootsAtDawn$Night" "here" "I" ∈ wsX1_stands := List.mem_of_getElem? (i := 2) rfl
theorem mbX1_stands_6 : Cond.fieldLink RX1 35 "BootsAtDawn$Night" "struck" "I" ∈ wsX1_stands := List.mem_of_getElem? (i := 3) rfl
theorem mbX1_stands_7 : Cond.static yX8_has ∈ wsX1_stands := List.mem_of_getElem? (i := 7) rfl
abbrev rmX1_stands : Room := { frames := 1, cells := 0, slots := 0, locals := 21 }
set_option maxHeartbeats 8000000 in
set_option maxRecDepth 100000 in
theorem kX1_stands (l : Launch) (dC : Nat → ClassId) (dI : Nat → Nat → Nat) (cC cI cJ : ClassId) (sz : Nat) (K : Nat) (a_T a_T_slate a_T_floors a_T_slate_guestKind a_T_slate_guestFloor a_T_slate_wishKind a_T_slate_wishA a_T_slate_wishB a_T_slate_wishNames : Nat) (x1 : Int32) (T_here : Int32) (T_struck : Int32) (T_slate_guests : Int32) (T_slate_wishes : Int32) (T_slate_start : Int32) (T_slate_wishNames : (Nat → Int32)) (R : Int32) (hr : fX1_stands K x1 T_here T_struck T_slate_wishNames = some R) : Met l yX1_stands wsX1_stands rmX1_stands (va_Pc ([.ref a_T, .int x1] : List Value) (PcW (dC, dI) (tysA cC cI cJ) sz [(a_T, .inr (1, [.ref a_T_slate, .ref a_T_floors, .int T_here, .int T_struck])), (a_T_slate, .inr (5, [.ref a_T_slate_guestKind, .ref a_T_slate_guestFloor, .ref a_T_slate_wishKind, .ref a_T_slate_wishA, .ref a_T_slate_wishB, .ref a_T_slate_wishNames, .int T_slate_guests, .int T_slate_wishes, .int T_slate_start])), (a_T_slate_wishNames, .inl (cI, 9, .inl T_slate_wishNames))])) (va_Qi (fun r (_ : Unit) => r = R) (fun _ => BW (dC, dI) (tysA cC cI cJ) (va_A [(a_T, .inr (1, [.ref a_T_slate, .ref a_T_floors, .int T_here, .int T_struck])), (a_T_slate, .inr (5, [.ref a_T_slate_guestKind, .ref a_T_slate_guestFloor, .ref a_T_slate_wishKind, .ref a_T_slate_wishA, .ref a_T_slate_wishB, .ref a_T_slate_wishNames, .int T_slate_guests, .int T_slate_wishes, .int T_slate_start])), (a_T_slate_wishNames, .inl (cI, 9, .inl T_slate_wishNames))] sz) [(a_T, .inr (1, [.ref a_T_slate, .ref a_T_floors, .int T_here, .int T_struck])), (a_T_slate, .inr (5, [.ref a_T_slate_guestKind, .ref a_T_slate_guestFloor, .ref a_T_slate_wishKind, .ref a_T_slate_wishA, .ref a_T_slate_wishB, .ref a_T_slate_wishNames, .int T_slate_guests, .int T_slate_wishes, .int T_slate_start])), (a_T_slate_wishNames, .inl (cI, 9, .inl T_slate_wishNames))]) (va_A [(a_T, .inr (1, [.ref a_T_slate, .ref a_T_floors, .int T_here, .int T_struck])), (a_T_slate, .inr (5, [.ref a_T_slate_guestKind, .ref a_T_slate_guestFloor, .ref a_T_slate_wishKind, .ref a_T_slate_wishA, .ref a_T_slate_wishB, .ref a_T_slate_wishNames, .int T_slate_guests, .int T_slate_wishes, .int T_slate_start])), (a_T_slate_wishNames, .inl (cI, 9, .inl T_slate_wishNames))] sz)) 0 0 (va_A [(a_T, .inr (1, [.ref a_T_slate, .ref a_T_floors, .int T_here, .int T_struck])), (a_T_slate, .inr (5, [.ref a_T_slate_guestKind, .ref a_T_slate_guestFloor, .ref a_T_slate_wishKind, .ref a_T_slate_wishA, .ref a_T_slate_wishB, .ref a_T_slate_wishNames, .int T_slate_guests, .int T_slate_wishes, .int T_slate_start])), (a_T_slate_wishNames, .inl (cI, 9, .inl T_slate_wishNames))] sz) := by
  refine Met.ofW (cc := cX1_stands) (maxL := 3) (ret := (some .boolean)) (by decide) rfl ?_
  intro p e s m args below meth c s₁ B hml hv
  obtain ⟨rfl, hsz, hP, hK, hD0, hN⟩ := hv
  have hx := B.exec
  have hb := B.bytes
  have hrt := B.returns
  have hts := atoms_spec (ws := wsX1_stands) B.pre
  have hown : s.vm.findClass RX1 = some m.cls := findClass_of_methodNamed B.named
  have hlocks := B.notSynchronized
  subst hsz
  have hD := hD0.self (sz := s.heap.size)
  generalize hAe : va_A [(a_T, .inr (1, [.ref a_T_slate, .ref a_T_floors, .int T_here, .int T_struck])), (a_T_slate, .inr (5, [.ref a_T_slate_guestKind, .ref a_T_slate_guestFloor, .ref a_T_slate_wishKind, .ref a_T_slate_wishA, .ref a_T_slate_wishB, .ref a_T_slate_wishNames, .int T_slate_guests, .int T_slate_wishes, .int T_slate_start])), (a_T_slate_wishNames, .inl (cI, 9, .inl T_slate_wishNames))] s.heap.size = A at hD ⊢
  have hA : ∀ q : Nat, s.heap.size ≤ q → A q := fun q h => by rw [← hAe]; exact Or.inr h
  have hS : va_S A s.heap s.heap [] := va_S.rf
  have hl := lv_entry ([.ref a_T, .int x1] : List Value) (n := 3) (Nat.le_of_ble_eq_true rfl)
  rw [lg_entry_eq]
  generalize (lg_sl ([.ref a_T, .int x1] : List Value) ++ List.replicate (3 - (lg_sl ([.ref a_T, .int x1] : List Value)).length) Slot.unset).toArray = ls at hl ⊢
  replace hl : lv_has ls 3 [(0, .ref a_T), (1, .int x1)] := hl
  obtain ⟨Q, hQ⟩ : ∃ Q, Q = MQ below (va_Qi (fun r (_ : Unit) => r = R) (fun _ => BW (dC, dI) (tysA cC cI cJ) A [(a_T, .inr (1, [.ref a_T_slate, .ref a_T_floors, .int T_here, .int T_struck])), (a_T_slate, .inr (5, [.ref a_T_slate_guestKind, .ref a_T_slate_guestFloor, .ref a_T_slate_wishKind, .ref a_T_slate_wishA, .ref a_T_slate_wishB, .ref a_T_slate_wishNames, .int T_slate_guests, .int T_slate_wishes, .int T_slate_start])), (a_T_slate_wishNames, .inl (cI, 9, .inl T_slate_wishNames))]) A) ([.ref a_T, .int x1] : List Value).toArray s 0 0 A := ⟨_, rfl⟩
  rw [← hQ]
  suffices hE : WG p l e rmX1_stands s m ([.ref a_T, .int x1] : List Value).toArray below meth c 0 0 Q (dC, dI) A 0 3 [(a_T, .inr (1, [.ref a_T_slate, .ref a_T_floors, .int T_here, .int T_struck])), (a_T_slate, .inr (5, [.ref a_T_slate_guestKind, .ref a_T_slate_guestFloor, .ref a_T_slate_wishKind, .ref a_T_slate_wishA, .ref a_T_slate_wishB, .ref a_T_slate_wishNames, .int T_slate_guests, .int T_slate_wishes, .int T_slate_start])), (a_T_slate_wishNames, .inl (cI, 9, .inl T_slate_wishNames))] [(0, .ref a_T), (1, .int x1)] [] from hE _ _ _ hP hD hS hl
  clear hP hD hS hl hD0 hAe
  intro H locs ls hP hD hS hl
  unfold fX1_stands at hr
  refine lv_aload_n hx hb dX1_stands_0 rfl (lv_at hl 0 rfl) ?_
  refine va_get (D := (dC, dI)) (ci := 1) (v := .ref a_T_slate) (C := RX1) (T := TX1) (N := 4) hx hb hts inX1_stands_X1 hown hK hP 0 rfl rfl 0 (by decide) (hts _ mbX1_stands_0) (fun _ h9 => h9) rfl dX1_stands_1 ?_
  refine va_getN (D := (dC, dI)) (ci := 5) (v := .ref a_T_slate_wishNames) (C := RX5) (T := TX5) (N := 9) hx hb hts inX1_stands_X5 hown hK hP 1 rfl rfl 5 (by decide) (nk_use hN nw_14) (fun _ h9 => h9) rfl dX1_stands_4 ?_
  refine lv_iload_n hx hb dX1_stands_7 rfl (lv_at hl 1 rfl) ?_
  obtain ⟨r, hc1, hr⟩ := bd1_some hr
  refine call_i (D := (dC, dI)) (tys := tysA cC cI cJ) (wc := [(a_T_slate_wishNames, .inl (cI, 9, .inl T_slate_wishNames))]) (wr := [(a_T, .inr (1, [.ref a_T_slate, .ref a_T_floors, .int T_here, .int T_struck])), (a_T_slate, .inr (5, [.ref a_T_slate_guestKind, .ref a_T_slate_guestFloor, .ref a_T_slate_wishKind, .ref a_T_slate_wishA, .ref a_T_slate_wishB, .ref a_T_slate_wishNames, .int T_slate_guests, .int T_slate_wishes, .int T_slate_start]))]) (w1 := [(a_T_slate_wishNames, .inl (cI, 9, .inl T_slate_wishNames))]) (wn := [(a_T, .inr (1, [.ref a_T_slate, .ref a_T_floors, .int T_here, .int T_struck])), (a_T_slate, .inr (5, [.ref a_T_slate_guestKind, .ref a_T_slate_guestFloor, .ref a_T_slate_wishKind, .ref a_T_slate_wishA, .ref a_T_slate_wishB, .ref a_T_slate_wishNames, .int T_slate_guests, .int T_slate_wishes, .int T_slate_start])), (a_T_slate_wishNames, .inl (cI, 9, .inl T_slate_wishNames))]) (r0 := r) hP hD hS hA [2] [0, 1] [0, 1, 2] rfl rfl (by decide +kernel) (by decide +kernel) rfl (by decide +kernel) (va_runSN (host := "BootsAtDawn") (As := [.ref a_T_slate_wishNames, .int x1]) (rest := []) ⟨hx, hb, hml, hown, hts⟩ (kX8_at l dC dI cC cI cJ H.size K a_T_slate_wishNames 9 x1 T_slate_wishNames r hc1) ⟨va_cnB 2 hts gX1_stands_X8_at_n45 rfl rfl rfl (hN _ nw_69) (hts _ mbX1_stands_3) (by decide +kernel) ⟨Nat.le_of_ble_eq_true rfl, Nat.le_of_ble_eq_true rfl⟩, (hts _ mbX1_stands_4), trivial⟩ ⟨fbW, preW hP hD hK hN [2] rfl (by decide +kernel)⟩ rfl rfl hl.1 rfl (lv_room (Nat.le_of_ble_eq_true rfl)) dX1_stands_8 ⟨Nat.zero_le _, Nat.zero_le _⟩) (fun H locs hP hD hS => ?_)
  refine lv_aload_n hx hb dX1_stands_11 rfl (lv_at hl 0 rfl) ?_
  refine va_get (D := (dC, dI)) (ci := 1) (v := .int T_here) (C := RX1) (T := TX1) (N := 4) hx hb hts inX1_stands_X1 hown hK hP 0 rfl rfl 2 (by decide) (hts _ mbX1_stands_5) (fun _ h9 => h9) rfl dX1_stands_12 ?_
  refine lv_iconst (v := (-1)) hx hb dX1_stands_15 (by decide) ?_
  refine lv_ixor hx hb dX1_stands_16 ?_
  refine lv_iand hx hb dX1_stands_17 ?_
  obtain ⟨y, hj1, hr⟩ := bd1_some hr
  have hJ1 : WG p l e rmX1_stands s m ([.ref a_T, .int x1] : List Value).toArray below meth c 0 0 Q (dC, dI) A 26 3 [(a_T, .inr (1, [.ref a_T_slate, .ref a_T_floors, .int T_here, .int T_struck])), (a_T_slate, .inr (5, [.ref a_T_slate_guestKind, .ref a_T_slate_guestFloor, .ref a_T_slate_wishKind, .ref a_T_slate_wishA, .ref a_T_slate_wishB, .ref a_T_slate_wishNames, .int T_slate_guests, .int T_slate_wishes, .int T_slate_start])), (a_T_slate_wishNames, .inl (cI, 9, .inl T_slate_wishNames))] [(0, .ref a_T), (1, .int x1)] [.int y] := by
    intro H locs ls hP hD hS hl
    refine lv_istore_n (lv' := [(2, .int y), (0, .ref a_T), (1, .int x1)]) hx hb dX1_stands_26 rfl hl (by decide) rfl (fun ls hl => ?_)
    refine lv_iload_n hx hb dX1_stands_27 rfl (lv_at hl 0 rfl) ?_
    refine lv_if_eq (tgt := 46) hx hb dX1_stands_28 (by decide) (fun c2 => ?_) (fun c2 => ?_)
    · replace hr := it_t hr c2
      refine lv_iconst (v := 0) hx hb dX1_stands_46 (by decide) ?_
      have he := Option.some.inj hr
      subst he
      subst hQ
      exact ret_z hx hb hrt rfl hK hP hD hS hlocks dX1_stands_47
    · replace hr := it_f hr c2
      refine lv_aload_n hx hb dX1_stands_31 rfl (lv_at hl 1 rfl) ?_
      refine va_get (D := (dC, dI)) (ci := 1) (v := .int T_struck) (C := RX1) (T := TX1) (N := 4) hx hb hts inX1_stands_X1 hown hK hP 0 rfl rfl 3 (by decide) (hts _ mbX1_stands_6) (fun _ h9 => h9) rfl dX1_stands_32 ?_
      refine lv_iload_n hx hb dX1_stands_35 rfl (lv_at hl 2 rfl) ?_
      obtain ⟨r_1, hc2, hr⟩ := bd1_some hr
      refine call_i (D := (dC, dI)) (tys := tysA cC cI cJ) (wc := []) (wr := [(a_T, .inr (1, [.ref a_T_slate, .ref a_T_floors, .int T_here, .int T_struck])), (a_T_slate, .inr (5, [.ref a_T_slate_guestKind, .ref a_T_slate_guestFloor, .ref a_T_slate_wishKind, .ref a_T_slate_wishA, .ref a_T_slate_wishB, .ref a_T_slate_wishNames, .int T_slate_guests, .int T_slate_wishes, .int T_slate_start])), (a_T_slate_wishNames, .inl (cI, 9, .inl T_slate_wishNames))]) (w1 := []) (wn := [(a_T, .inr (1, [.ref a_T_slate, .ref a_T_floors, .int T_here, .int T_struck])), (a_T_slate, .inr (5, [.ref a_T_slate_guestKind, .ref a_T_slate_guestFloor, .ref a_T_slate_wishKind, .ref a_T_slate_wishA, .ref a_T_slate_wishB, .ref a_T_slate_wishNames, .int T_slate_guests, .int T_slate_wishes, .int T_slate_start])), (a_T_slate_wishNames, .inl (cI, 9, .inl T_slate_wishNames))]) (r0 := r_1) hP hD hS hA [] [0, 1, 2] [0, 1, 2] rfl rfl (by decide +kernel) (by decide +kernel) rfl (by decide +kernel) (va_runSN (host := "BootsAtDawn") (As := [.int T_struck, .int x1]) (rest := []) ⟨hx, hb, hml, hown, hts⟩ (kX8_has l dC dI cC cI cJ H.size K T_struck x1 r_1 hc2) ⟨va_cnB 2 hts gX1_stands_X8_has_n52 rfl rfl rfl (hN _ nw_72) (hts _ mbX1_stands_3) (by decide +kernel) ⟨Nat.le_of_ble_eq_true rfl, Nat.le_of_ble_eq_true rfl⟩, (hts _ mbX1_stands_7), trivial⟩ ⟨fbW, preW hP hD hK hN [] rfl (by decide +kernel)⟩ rfl rfl hl.1 rfl (lv_room (Nat.le_of_ble_eq_true rfl)) dX1_stands_36 ⟨Nat.zero_le _, Nat.zero_le _⟩) (fun H locs hP hD hS => ?_)
      refine lv_if_ne (tgt := 46) hx hb dX1_stands_39 (by decide) (fun c3 => ?_) (fun c3 => ?_)
      · replace hr := it_f hr c3
        refine lv_iconst (v := 0) hx hb dX1_stands_46 (by decide) ?_
        have he := Option.some.inj hr
        subst he
        subst hQ
        exact ret_z hx hb hrt rfl hK hP hD hS hlocks dX1_stands_47
      · replace hr := it_t hr c3
        refine lv_iconst (v := 1) hx hb dX1_stands_42 (by decide) ?_
        refine lv_goto (tgt := 47) hx hb dX1_stands_43 (by decide) ?_
        have he := Option.some.inj hr
        subst he
        subst hQ
        exact ret_z hx hb hrt rfl hK hP hD hS hlocks dX1_stands_47
  replace hr := hj1
  refine lv_if_ne (tgt := 25) hx hb dX1_stands_18 (by decide) (fun c1 => ?_) (fun c1 => ?_)
  · replace hr := it_f hr c1
    refine lv_iconst (v := 0) hx hb dX1_stands_25 (by decide) ?_
    cases hr
    exact hJ1 H locs ls hP hD hS (lv_sub hl [0, 1] rfl)
  · replace hr := it_t hr c1
    refine lv_iconst (v := 1) hx hb dX1_stands_21 (by decide) ?_
    refine lv_goto (tgt := 26) hx hb dX1_stands_22 (by decide) ?_
    cases hr
    exact hJ1 H locs ls hP hD hS (lv_sub hl [0, 1] rfl)
def fX1_standing_L4 (K : Nat) (T_here : Int32) (T_struck : Int32) (T_slate_wishes : Int32) (T_slate_wishNames : (Nat → Int32)) : Nat → Int32 → Int32 → Option (Int32)
  | 0, _, _ => none
  | n1 + 1, x1, x2 =>
    if T_slate_wishes ≤ (x2 : Int32) then (
    some x1)
    else (
    bd1 (fX1_stands K x2 T_here T_struck T_slate_wishNames) fun r =>
    bd1 (
    if (r : Int32) = 0 then (
    some x1)
    else (
    nm (x1 ||| (1 <<< (x2 &&& 31))) fun x1_2 =>
    some x1_2)) fun x1_3 =>
    nm (x2 + 1) fun x2_1 =>
    fX1_standing_L4 K T_here T_struck T_slate_wishes T_slate_wishNames n1 x1_3 x2_1)
def fX1_standing (K : Nat) (T_here : Int32) (T_struck : Int32) (T_slate_wishes : Int32) (T_slate_wishNames : (Nat → Int32)) : Option (Int32) :=
    bd1 (fX1_standing_L4 K T_here T_struck T_slate_wishes T_slate_wishNames K 0 0) fun x1_1 =>
    some x1_1
theorem mbX1_standing_0 : Cond.fieldLink RX1 15 "BootsAtDawn$Night" "slate" "LBootsAtDawn$Slate;" ∈ wsX1_standing := List.mem_of_getElem? (i := 1) rfl
theorem inX1_standing_X1 : ∀ w ∈ u_ws RX1 TX1 4, w ∈ wsX1_standing := fun _ h => (List.mem_cons_of_mem _ (List.mem_append_left _ (List.mem_append_right _ h)))
theorem inX1_standing_X5 : ∀ w ∈ u_ws RX5 TX5 9, w ∈ wsX1_standing := fun _ h => (List.mem_cons_of_mem _ (List.mem_append_right _ h))
abbrev rmX1_standing : Room := { frames := 2, cells := 0, slots := 0, locals := 43 }
set_option maxHeartbeats 8000000 in
set_option maxRecDepth 100000 in
theorem kX1_standing (l : Launch) (dC : Nat → ClassId) (dI : Nat → Nat → Nat) (cC cI cJ : ClassId) (sz : Nat) (K : Nat) (a_T a_T_slate a_T_floors a_T_slate_guestKind a_T_slate_guestFloor a_T_slate_wishKind a_T_slate_wishA a_T_slate_wishB a_T_slate_wishNames : Nat) (T_here : Int32) (T_struck : Int32) (T_slate_guests : Int32) (T_slate_wishes : Int32) (T_slate_start : Int32) (T_slate_wishNames : (Nat → Int32)) (R : Int32) (hr : fX1_standing K T_here T_struck T_slate_wishes T_slate_wishNames = some R) : Met l yX1_standing wsX1_standing rmX1_standing (va_Pc ([.ref a_T] : List Value) (PcW (dC, dI) (tysA cC cI cJ) sz [(a_T, .inr (1, [.ref a_T_slate, .ref a_T_floors, .int T_here, .int T_struck])), (a_T_slate, .inr (5, [.ref a_T_slate_guestKind, .ref a_T_slate_guestFloor, .ref a_T_slate_wishKind, .ref a_T_slate_wishA, .ref a_T_slate_wishB, .ref a_T_slate_wishNames, .int T_slate_guests, .int T_slate_wishes, .int T_slate_start])), (a_T_slate_wishNames, .inl (cI, 9, .inl T_slate_wishNames))])) (va_Qi (fun r (_ : Unit) => r = R) (fun _ => BW (dC, dI) (tysA cC cI cJ) (va_A [(a_T, .inr (1, [.ref a_T_slate, .ref a_T_floors, .int T_here, .int T_struck])), (a_T_slate, .inr (5, [.ref a_T_slate_guestKind, .ref a_T_slate_guestFloor, .ref a_T_slate_wishKind, .ref a_T_slate_wishA, .ref a_T_slate_wishB, .ref a_T_slate_wishNames, .int T_slate_guests, .int T_slate_wishes, .int T_slate_start])), (a_T_slate_wishNames, .inl (cI, 9, .inl T_slate_wishNames))] sz) [(a_T, .inr (1, [.ref a_T_slate, .ref a_T_floors, .int T_here, .int T_struck])), (a_T_slate, .inr (5, [.ref a_T_slate_guestKind, .ref a_T_slate_guestFloor, .ref a_T_slate_wishKind, .ref a_T_slate_wishA, .ref a_T_slate_wishB, .ref a_T_slate_wishNames, .int T_slate_guests, .int T_slate_wishes, .int T_slate_start])), (a_T_slate_wishNames, .inl (cI, 9, .inl T_slate_wishNames))]) (va_A [(a_T, .inr (1, [.ref a_T_slate, .ref a_T_floors, .int T_here, .int T_struck])), (a_T_slate, .inr (5, [.ref a_T_slate_guestKind, .ref a_T_slate_guestFloor, .ref a_T_slate_wishKind, .ref a_T_slate_wishA, .ref a_T_slate_wishB, .ref a_T_slate_wishNames, .int T_slate_guests, .int T_slate_wishes, .int T_slate_start])), (a_T_slate_wishNames, .inl (cI, 9, .inl T_slate_wishNames))] sz)) 0 0 (va_A [(a_T, .inr (1, [.ref a_T_slate, .ref a_T_floors, .int T_here, .int T_struck])), (a_T_slate, .inr (5, [.ref a_T_slate_guestKind, .ref a_T_slate_guestFloor, .ref a_T_slate_wishKind, .ref a_T_slate_wishA, .ref a_T_slate_wishB, .ref a_T_slate_wishNames, .int T_slate_guests, .int T_slate_wishes, .int T_slate_start])), (a_T_slate_wishNames, .inl (cI, 9, .inl T_slate_wishNames))] sz) := by
  refine Met.ofW (cc := cX1_standing) (maxL := 3) (ret := (some .int)) (by decide) rfl ?_
  intro p e s m args below meth c s₁ B hml hv
  obtain ⟨rfl, hsz, hP, hK, hD0, hN⟩ := hv
  have hx := B.exec
  have hb := B.bytes
  have hrt := B.returns
  have hts := atoms_spec (ws := wsX1_standing) B.pre
  have hown : s.vm.findClass RX1 = some m.cls := findClass_of_methodNamed B.named
  have hlocks := B.notSynchronized
  subst hsz
  have hD := hD0.self (sz := s.heap.size)
  generalize hAe : va_A [(a_T, .inr (1, [.ref a_T_slate, .ref a_T_floors, .int T_here, .int T_struck])), (a_T_slate, .inr (5, [.ref a_T_slate_guestKind, .ref a_T_slate_guestFloor, .ref a_T_slate_wishKind, .ref a_T_slate_wishA, .ref a_T_slate_wishB, .ref a_T_slate_wishNames, .int T_slate_guests, .int T_slate_wishes, .int T_slate_start])), (a_T_slate_wishNames, .inl (cI, 9, .inl T_slate_wishNames))] s.heap.size = A at hD ⊢
  have hA : ∀ q : Nat, s.heap.size ≤ q → A q := fun q h => by rw [← hAe]; exact Or.inr h
  have hS : va_S A s.heap s.heap [] := va_S.rf
  have hl := lv_entry ([.ref a_T] : List Value) (n := 3) (Nat.le_of_ble_eq_true rfl)
  rw [lg_entry_eq]
  generalize (lg_sl ([.ref a_T] : List Value) ++ List.replicate (3 - (lg_sl ([.ref a_T] : List Value)).length) Slot.unset).toArray = ls at hl ⊢
  replace hl : lv_has ls 3 [(0, .ref a_T)] := hl
  obtain ⟨Q, hQ⟩ : ∃ Q, Q = MQ below (va_Qi (fun r (_ : Unit) => r = R) (fun _ => BW (dC, dI) (tysA cC cI cJ) A [(a_T, .inr (1, [.ref a_T_slate, .ref a_T_floors, .int T_here, .int T_struck])), (a_T_slate, .inr (5, [.ref a_T_slate_guestKind, .ref a_T_slate_guestFloor, .ref a_T_slate_wishKind, .ref a_T_slate_wishA, .ref a_T_slate_wishB, .ref a_T_slate_wishNames, .int T_slate_guests, .int T_slate_wishes, .int T_slate_start])), (a_T_slate_wishNames, .inl (cI, 9, .inl T_slate_wishNames))]) A) ([.ref a_T] : List Value).toArray s 0 0 A := ⟨_, rfl⟩
  rw [← hQ]
  suffices hE : WG p l e rmX1_standing s m ([.ref a_T] : List Value).toArray below meth c 0 0 Q (dC, dI) A 0 3 [(a_T, .inr (1, [.ref a_T_slate, .ref a_T_floors, .int T_here, .int T_struck])), (a_T_slate, .inr (5, [.ref a_T_slate_guestKind, .ref a_T_slate_guestFloor, .ref a_T_slate_wishKind, .ref a_T_slate_wishA, .ref a_T_slate_wishB, .ref a_T_slate_wishNames, .int T_slate_guests, .int T_slate_wishes, .int T_slate_start])), (a_T_slate_wishNames, .inl (cI, 9, .inl T_slate_wishNames))] [(0, .ref a_T)] [] from hE _ _ _ hP hD hS hl
  clear hP hD hS hl hD0 hAe
  intro H locs ls hP hD hS hl
  unfold fX1_standing at hr
  refine lv_iconst (v := 0) hx hb dX1_standing_0 (by decide) ?_
  refine lv_istore_n (lv' := [(1, .int 0), (0, .ref a_T)]) hx hb dX1_standing_1 rfl hl (by decide) rfl (fun ls hl => ?_)
  refine lv_iconst (v := 0) hx hb dX1_standing_2 (by decide) ?_
  refine lv_istore_n (lv' := [(2, .int 0), (1, .int 0), (0, .ref a_T)]) hx hb dX1_standing_3 rfl hl (by decide) rfl (fun ls hl => ?_)
  have hL1 : ∀ (n1 : Nat) (x1 : Int32) (x2 : Int32) (x1_1 : Int32), fX1_standing_L4 K T_here T_struck T_slate_wishes T_slate_wishNames n1 x1 x2 = some x1_1 → WG p l e rmX1_standing s m ([.ref a_T] : List Value).toArray below meth c 0 0 Q (dC, dI) A 35 3 [(a_T, .inr (1, [.ref a_T_slate, .ref a_T_floors, .int T_here, .int T_struck])), (a_T_slate, .inr (5, [.ref a_T_slate_guestKind, .ref a_T_slate_guestFloor, .ref a_T_slate_wishKind, .ref a_T_slate_wishA, .ref a_T_slate_wishB, .ref a_T_slate_wishNames, .int T_slate_guests, .int T_slate_wishes, .int T_slate_start])), (a_T_slate_wishNames, .inl (cI, 9, .inl T_slate_wishNames))] [(1, .int x1_1)] [] → WG p l e rmX1_standing s m ([.ref a_T] : List Value).toArray below meth c 0 0 Q (dC, dI) A 4 3 [(a_T, .inr (1, [.ref a_T_slate, .ref a_T_floors, .int T_here, .int T_struck])), (a_T_slate, .inr (5, [.ref a_T_slate_guestKind, .ref a_T_slate_guestFloor, .ref a_T_slate_wishKind, .ref a_T_slate_wishA, .ref a_T_slate_wishB, .ref a_T_slate_wishNames, .int T_slate_guests, .int T_slate_wishes, .int T_slate_start])), (a_T_slate_wishNames, .inl (cI, 9, .inl T_slate_wishNames))] [(0, .ref a_T), (1, .int x1), (2, .int x2)] [] := by
    intro n1
    induction n1 with
    | zero =>
      intro x1 x2 x1_1 hr
      rw [fX1_standing_L4] at hr
      cases hr
    | succ n1 ih4 =>
      intro x1 x2 x1_1 hr hX1 H locs ls hP hD hS hl
      rw [fX1_standing_L4] at hr
      refine lv_iload_n hx hb dX1_standing_4 rfl (lv_at hl 2 rfl) ?_
      refine lv_aload_n hx hb dX1_standing_5 rfl (lv_at hl 0 rfl) ?_
      refine va_get (D := (dC, dI)) (ci := 1) (v := .ref a_T_slate) (C := RX1) (T := TX1) (N := 4) hx hb hts inX1_standing_X1 hown hK hP 0 rfl rfl 0 (by decide) (hts _ mbX1_standing_0) (fun _ h9 => h9) rfl dX1_standing_6 ?_
      refine va_getN (D := (dC, dI)) (ci := 5) (v := .int T_slate_wishes) (C := RX5) (T := TX5) (N := 9) hx hb hts inX1_standing_X5 hown hK hP 1 rfl rfl 7 (by decide) (nk_use hN nw_18) (fun _ h9 => h9) rfl dX1_standing_9 ?_
      refine lv_icmp_ge (tgt := 35) hx hb dX1_standing_12 (by decide) (fun c1 => ?_) (fun c1 => ?_)
      · replace hr := it_t hr c1
        have he := Option.some.inj hr
        cases he
        exact hX1 H locs ls hP hD hS (lv_sub hl [1] rfl)
      · replace hr := it_f hr c1
        refine lv_aload_n hx hb dX1_standing_15 rfl (lv_at hl 0 rfl) ?_
        refine lv_iload_n hx hb dX1_standing_16 rfl (lv_at hl 2 rfl) ?_
        obtain ⟨r, hc1, hr⟩ := bd1_some hr
        refine call_i (D := (dC, dI)) (tys := tysA cC cI cJ) (wc := [(a_T, .inr (1, [.ref a_T_slate, .ref a_T_floors, .int T_here, .int T_struck])), (a_T_slate, .inr (5, [.ref a_T_slate_guestKind, .ref a_T_slate_guestFloor, .ref a_T_slate_wishKind, .ref a_T_slate_wishA, .ref a_T_slate_wishB, .ref a_T_slate_wishNames, .int T_slate_guests, .int T_slate_wishes, .int T_slate_start])), (a_T_slate_wishNames, .inl (cI, 9, .inl T_slate_wishNames))]) (wr := []) (w1 := [(a_T, .inr (1, [.ref a_T_slate, .ref a_T_floors, .int T_here, .int T_struck])), (a_T_slate, .inr (5, [.ref a_T_slate_guestKind, .ref a_T_slate_guestFloor, .ref a_T_slate_wishKind, .ref a_T_slate_wishA, .ref a_T_slate_wishB, .ref a_T_slate_wishNames, .int T_slate_guests, .int T_slate_wishes, .int T_slate_start])), (a_T_slate_wishNames, .inl (cI, 9, .inl T_slate_wishNames))]) (wn := [(a_T, .inr (1, [.ref a_T_slate, .ref a_T_floors, .int T_here, .int T_struck])), (a_T_slate, .inr (5, [.ref a_T_slate_guestKind, .ref a_T_slate_guestFloor, .ref a_T_slate_wishKind, .ref a_T_slate_wishA, .ref a_T_slate_wishB, .ref a_T_slate_wishNames, .int T_slate_guests, .int T_slate_wishes, .int T_slate_start])), (a_T_slate_wishNames, .inl (cI, 9, .inl T_slate_wishNames))]) (r0 := r) hP hD hS hA [0, 1, 2] [] [0, 1, 2] rfl rfl (by decide +kernel) (by decide +kernel) rfl (by decide +kernel) (va_runV (As := [.int x2]) (rest := []) ⟨hx, hb, hml, hown, hts⟩ (kX1_stands l dC dI cC cI cJ H.size K a_T a_T_slate a_T_floors a_T_slate_guestKind a_T_slate_guestFloor a_T_slate_wishKind a_T_slate_wishA a_T_slate_wishB a_T_slate_wishNames x2 T_here T_struck T_slate_guests T_slate_wishes T_slate_start T_slate_wishNames r hc1) (cwV 1 hts gX1_standing_X1_stands rfl rfl rfl (by decide +kernel) ⟨Nat.le_of_ble_eq_true rfl, Nat.le_of_ble_eq_true rfl⟩) ⟨fbW, va_recv hK hP (ci := 1) (q0 := 0) rfl rfl, preW hP hD hK hN [0, 1, 2] rfl (by decide +kernel)⟩ rfl rfl hl.1 rfl (lv_room (Nat.le_of_ble_eq_true rfl)) dX1_standing_17 ⟨Nat.zero_le _, Nat.zero_le _⟩) (fun H locs hP hD hS => ?_)
        obtain ⟨x1_3, hj1, hr⟩ := bd1_some hr
        have hJ1 : WG p l e rmX1_standing s m ([.ref a_T] : List Value).toArray below meth c 0 0 Q (dC, dI) A 29 3 [(a_T, .inr (1, [.ref a_T_slate, .ref a_T_floors, .int T_here, .int T_struck])), (a_T_slate, .inr (5, [.ref a_T_slate_guestKind, .ref a_T_slate_guestFloor, .ref a_T_slate_wishKind, .ref a_T_slate_wishA, .ref a_T_slate_wishB, .ref a_T_slate_wishNames, .int T_slate_guests, .int T_slate_wishes, .int T_slate_start])), (a_T_slate_wishNames, .inl (cI, 9, .inl T_slate_wishNames))] [(0, .ref a_T), (1, .int x1_3), (2, .int x2)] [] := by
          intro H locs ls hP hD hS hl
          obtain ⟨x2_1, e2, hr⟩ := nm_el hr
          refine lv_iinc (v := x2_1) (lv' := [(2, .int x2_1), (0, .ref a_T), (1, .int x1_3)]) hx hb dX1_standing_29 hl (k := 2) rfl e2.symm (by decide) rfl (fun ls hl => ?_)
          refine lv_goto (tgt := 4) hx hb dX1_standing_32 (by decide) ?_
          exact ih4 _ _ _ hr hX1 H locs ls hP hD hS (lv_sub hl [1, 2, 0] rfl)
        replace hr := hj1
        refine lv_if_eq (tgt := 29) hx hb dX1_standing_20 (by decide) (fun c2 => ?_) (fun c2 => ?_)
        · replace hr := it_t hr c2
          cases hr
          exact hJ1 H locs ls hP hD hS (lv_sub hl [0, 1, 2] rfl)
        · replace hr := it_f hr c2
          refine lv_iload_n hx hb dX1_standing_23 rfl (lv_at hl 1 rfl) ?_
          refine lv_iconst (v := 1) hx hb dX1_standing_24 (by decide) ?_
          refine lv_iload_n hx hb dX1_standing_25 rfl (lv_at hl 2 rfl) ?_
          refine lv_ishl hx hb dX1_standing_26 ?_
          refine lv_ior hx hb dX1_standing_27 ?_
          obtain ⟨x1_2, e1, hr⟩ := nm_el hr
          refine lv_nmi e1 ?_
          refine lv_istore_n (lv' := [(1, .int x1_2), (0, .ref a_T), (2, .int x2)]) hx hb dX1_standing_28 rfl hl (by decide) rfl (fun ls hl => ?_)
          cases hr
          exact hJ1 H locs ls hP hD hS (lv_sub hl [1, 0, 2] rfl)
  obtain ⟨x1_1, hE, hr⟩ := bd1_some hr
  refine hL1 K 0 0 x1_1 hE ?_ H locs ls hP hD hS (lv_sub hl [2, 1, 0] rfl)
  intro H locs ls hP hD hS hl
  refine lv_iload_n hx hb dX1_standing_35 rfl (lv_at hl 0 rfl) ?_
  have he := Option.some.inj hr
  subst he
  subst hQ
  exact ret_i hx hb hrt hK hP hD hS hlocks dX1_standing_36
