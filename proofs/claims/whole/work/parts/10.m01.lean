def fX0_isFull (K : Nat) (T_told : Int32) : Option (Int32) :=
    if (T_told : Int32) < 6 then (
    some 0)
    else (
    some 1)
theorem mbX0_isFull_0 : Cond.fieldLink RX0 18 "BootsAtDawn$Mornings" "told" "I" ∈ wsX0_isFull := List.mem_of_getElem? (i := 1) rfl
theorem inX0_isFull_X0 : ∀ w ∈ u_ws RX0 TX0 3, w ∈ wsX0_isFull := fun _ h => (List.mem_cons_of_mem _ (List.mem_append_right _ h))
abbrev rmX0_isFull : Room := { frames := 0, cells := 0, slots := 0, locals := 0 }
set_option maxHeartbeats 8000000 in
set_option maxRecDepth 100000 in
theorem kX0_isFull (l : Launch) (dC : Nat → ClassId) (dI : Nat → Nat → Nat) (cC cI cJ : ClassId) (sz : Nat) (K : Nat) (a_T a_T_ahead a_T_behind : Nat) (T_told : Int32) (R : Int32) (hr : fX0_isFull K T_told = some R) : Met l yX0_isFull wsX0_isFull rmX0_isFull (va_Pc ([.ref a_T] : List Value) (PcW (dC, dI) (tysA cC cI cJ) sz [(a_T, .inr (0, [.ref a_T_ahead, .ref a_T_behind, .int T_told]))])) (va_Qi (fun r (_ : Unit) => r = R) (fun _ => BW (dC, dI) (tysA cC cI cJ) (va_A [(a_T, .inr (0, [.ref a_T_ahead, .ref a_T_behind, .int T_told]))] sz) [(a_T, .inr (0, [.ref a_T_ahead, .ref a_T_behind, .int T_told]))]) (va_A [(a_T, .inr (0, [.ref a_T_ahead, .ref a_T_behind, .int T_told]))] sz)) 0 0 (va_A [(a_T, .inr (0, [.ref a_T_ahead, .ref a_T_behind, .int T_told]))] sz) := by
  refine Met.ofW (cc := cX0_isFull) (maxL := 1) (ret := (some .boolean)) (by decide) rfl ?_
  intro p e s m args below meth c s₁ B hml hv
  obtain ⟨rfl, hsz, hP, hK, hD0, hN⟩ := hv
  have hx := B.exec
  have hb := B.bytes
  have hrt := B.returns
  have hts := atoms_spec (ws := wsX0_isFull) B.pre
  have hown : s.vm.findClass RX0 = some m.cls := findClass_of_methodNamed B.named
  have hlocks := B.notSynchronized
  subst hsz
  have hD := hD0.self (sz := s.heap.size)
  generalize hAe : va_A [(a_T, .inr (0, [.ref a_T_ahead, .ref a_T_behind, .int T_told]))] s.heap.size = A at hD ⊢
  have hA : ∀ q : Nat, s.heap.size ≤ q → A q := fun q h => by rw [← hAe]; exact Or.inr h
  have hS : va_S A s.heap s.heap [] := va_S.rf
  have hl := lv_entry ([.ref a_T] : List Value) (n := 1) (Nat.le_of_ble_eq_true rfl)
  rw [lg_entry_eq]
  generalize (lg_sl ([.ref a_T] : List Value) ++ List.replicate (1 - (lg_sl ([.ref a_T] : List Value)).length) Slot.unset).toArray = ls at hl ⊢
  replace hl : lv_has ls 1 [(0, .ref a_T)] := hl
  obtain ⟨Q, hQ⟩ : ∃ Q, Q = MQ below (va_Qi (fun r (_ : Unit) => r = R) (fun _ => BW (dC, dI) (tysA cC cI cJ) A [(a_T, .inr (0, [.ref a_T_ahead, .ref a_T_behind, .int T_told]))]) A) ([.ref a_T] : List Value).toArray s 0 0 A := ⟨_, rfl⟩
  rw [← hQ]
  suffices hE : WG p l e rmX0_isFull s m ([.ref a_T] : List Value).toArray below meth c 0 0 Q (dC, dI) A 0 1 [(a_T, .inr (0, [.ref a_T_ahead, .ref a_T_behind, .int T_told]))] [(0, .ref a_T)] [] from hE _ _ _ hP hD hS hl
  clear hP hD hS hl hD0 hAe
  intro H locs ls hP hD hS hl
  unfold fX0_isFull at hr
  refine lv_aload_n hx hb dX0_isFull_0 rfl (lv_at hl 0 rfl) ?_
  refine va_get (D := (dC, dI)) (ci := 0) (v := .int T_told) (C := RX0) (T := TX0) (N := 3) hx hb hts inX0_isFull_X0 hown hK hP 0 rfl rfl 2 (by decide) (hts _ mbX0_isFull_0) (fun _ h9 => h9) rfl dX0_isFull_1 ?_
  refine lv_bipush (v := 6) hx hb dX0_isFull_4 (by decide) ?_
  refine lv_icmp_lt (tgt := 13) hx hb dX0_isFull_6 (by decide) (fun c1 => ?_) (fun c1 => ?_)
  · replace hr := it_t hr c1
    refine lv_iconst (v := 0) hx hb dX0_isFull_13 (by decide) ?_
    have he := Option.some.inj hr
    subst he
    subst hQ
    exact ret_z hx hb hrt (show narrow .boolean (.int 0) = .int 0 from rfl) hK hP hD hS hlocks dX0_isFull_14
  · replace hr := it_f hr c1
    refine lv_iconst (v := 1) hx hb dX0_isFull_9 (by decide) ?_
    refine lv_goto (tgt := 14) hx hb dX0_isFull_10 (by decide) ?_
    have he := Option.some.inj hr
    subst he
    subst hQ
    exact ret_z hx hb hrt (show narrow .boolean (.int 1) = .int 1 from rfl) hK hP hD hS hlocks dX0_isFull_14
def fX8_put (K : Nat) (n_P0 : Nat) (x1 : Int32) (x2 : Int32) (P0 : (Nat → Int32)) : Option ((Nat → Int32)) :=
    if (x1 : Int32) < 0 then (
    some P0)
    else (
    if (nI n_P0) ≤ (x1 : Int32) then (
    some P0)
    else (
    gd (¬ ((x1 : Int32) < 0 ∨ n_P0 ≤ x1.toNatClampNeg)) (
    nm (upd P0 x1.toNatClampNeg x2) fun P0_1 =>
    some P0_1)))
abbrev rmX8_put : Room := { frames := 0, cells := 0, slots := 0, locals := 0 }
set_option maxHeartbeats 8000000 in
set_option maxRecDepth 100000 in
theorem kX8_put (l : Launch) (dC : Nat → ClassId) (dI : Nat → Nat → Nat) (cC cI cJ : ClassId) (sz : Nat) (K : Nat) (a_P0 : Nat) (n_P0 : Nat) (x1 : Int32) (x2 : Int32) (P0 : (Nat → Int32)) (R : (Nat → Int32)) (hr : fX8_put K n_P0 x1 x2 P0 = some R) : Met l yX8_put wsX8_put rmX8_put (va_Pc ([.ref a_P0, .int x1, .int x2] : List Value) (PcW (dC, dI) (tysA cC cI cJ) sz [(a_P0, .inl (cI, n_P0, .inl P0))])) (va_Qv (fun (_ : Unit) => True) (fun _ => BW (dC, dI) (tysA cC cI cJ) (va_A [(a_P0, .inl (cI, n_P0, .inl P0))] sz) [(a_P0, .inl (cI, n_P0, .inl R))]) (va_A [(a_P0, .inl (cI, n_P0, .inl P0))] sz)) 0 0 (va_A [(a_P0, .inl (cI, n_P0, .inl P0))] sz) := by
  refine Met.ofW (cc := cX8_put) (maxL := 3) (ret := none) (by decide) rfl ?_
  intro p e s m args below meth c s₁ B hml hv
  obtain ⟨rfl, hsz, hP, hK, hD0, hN⟩ := hv
  have hx := B.exec
  have hb := B.bytes
  have hrt := B.returns
  have hts := atoms_spec (ws := wsX8_put) B.pre
  have hown : s.vm.findClass RX8 = some m.cls := findClass_of_methodNamed B.named
  have hlocks := B.notSynchronized
  subst hsz
  have hD := hD0.self (sz := s.heap.size)
  generalize hAe : va_A [(a_P0, .inl (cI, n_P0, .inl P0))] s.heap.size = A at hD ⊢
  have hA : ∀ q : Nat, s.heap.size ≤ q → A q := fun q h => by rw [← hAe]; exact Or.inr h
  have hS : va_S A s.heap s.heap [] := va_S.rf
  have hl := lv_entry ([.ref a_P0, .int x1, .int x2] : List Value) (n := 3) (Nat.le_of_ble_eq_true rfl)
  rw [lg_entry_eq]
  generalize (lg_sl ([.ref a_P0, .int x1, .int x2] : List Value) ++ List.replicate (3 - (lg_sl ([.ref a_P0, .int x1, .int x2] : List Value)).length) Slot.unset).toArray = ls at hl ⊢
  replace hl : lv_has ls 3 [(0, .ref a_P0), (1, .int x1), (2, .int x2)] := hl
  obtain ⟨Q, hQ⟩ : ∃ Q, Q = MQ below (va_Qv (fun (_ : Unit) => True) (fun _ => BW (dC, dI) (tysA cC cI cJ) A [(a_P0, .inl (cI, n_P0, .inl R))]) A) ([.ref a_P0, .int x1, .int x2] : List Value).toArray s 0 0 A := ⟨_, rfl⟩
  rw [← hQ]
  suffices hE : WG p l e rmX8_put s m ([.ref a_P0, .int x1, .int x2] : List Value).toArray below meth c 0 0 Q (dC, dI) A 0 3 [(a_P0, .inl (cI, n_P0, .inl P0))] [(0, .ref a_P0), (1, .int x1), (2, .int x2)] [] from hE _ _ _ hP hD hS hl
  clear hP hD hS hl hD0 hAe
  intro H locs ls hP hD hS hl
  unfold fX8_put at hr
  refine lv_iload_n hx hb dX8_put_0 rfl (lv_at hl 1 rfl) ?_
  refine lv_if_lt (tgt := 14) hx hb dX8_put_1 (by decide) (fun c1 => ?_) (fun c1 => ?_)
  · replace hr := it_t hr c1
    have he := Option.some.inj hr
    subst he
    subst hQ
    exact ret_v hx hb hrt hK hP hD hS hlocks dX8_put_14
  · replace hr := it_f hr c1
    refine lv_iload_n hx hb dX8_put_4 rfl (lv_at hl 1 rfl) ?_
    refine lv_aload_n hx hb dX8_put_5 rfl (lv_at hl 0 rfl) ?_
    refine va_alen (v := nI n_P0) hx hb hK hP 0 1 rfl rfl rfl dX8_put_6 ?_
    refine lv_icmp_ge (tgt := 14) hx hb dX8_put_7 (by decide) (fun c2 => ?_) (fun c2 => ?_)
    · replace hr := it_t hr c2
      have he := Option.some.inj hr
      subst he
      subst hQ
      exact ret_v hx hb hrt hK hP hD hS hlocks dX8_put_14
    · replace hr := it_f hr c2
      refine lv_aload_n hx hb dX8_put_10 rfl (lv_at hl 0 rfl) ?_
      refine lv_iload_n hx hb dX8_put_11 rfl (lv_at hl 1 rfl) ?_
      refine lv_iload_n hx hb dX8_put_12 rfl (lv_at hl 2 rfl) ?_
      obtain ⟨g1, hr⟩ := gd_some hr
      obtain ⟨P0_1, e1, hr⟩ := nm_el hr
      refine va_iast hx hb hK hP hD hS 0 1 rfl rfl g1 dX8_put_13 (fun H locs hP hD hS => ?_)
      rw [← e1] at hP hD
      replace hP : va_P (dC, dI) vwCl [(a_P0, .inl (cI, n_P0, .inl P0_1))] H := hP
      replace hD : va_D A [(a_P0, .inl (cI, n_P0, .inl P0_1))] := hD
      have he := Option.some.inj hr
      subst he
      subst hQ
      exact ret_v hx hb hrt hK hP hD hS hlocks dX8_put_14
def fX0_add (K : Nat) (x1 : Int32) (x2 : Int32) (T_told : Int32) (T_ahead : (Nat → Int32)) (T_behind : (Nat → Int32)) : Option (Int32 × (Nat → Int32) × (Nat → Int32)) :=
    bd1 (fX8_put K 6 T_told x1 T_ahead) fun T_ahead_1 =>
    bd1 (fX8_put K 6 T_told x2 T_behind) fun T_behind_1 =>
    nm (T_told + 1) fun T_told_1 =>
    some (T_told_1, T_ahead_1, T_behind_1)
theorem mbX0_add_0 : Cond.fieldLink RX0 9 "BootsAtDawn$Mornings" "ahead" "[I" ∈ wsX0_add := List.mem_of_getElem? (i := 1) rfl
theorem inX0_add_X0 : ∀ w ∈ u_ws RX0 TX0 3, w ∈ wsX0_add := fun _ h => (List.mem_cons_of_mem _ (List.mem_append_right _ h))
theorem mbX0_add_2 : Cond.fieldLink RX0 18 "BootsAtDawn$Mornings" "told" "I" ∈ wsX0_add := List.mem_of_getElem? (i := 2) rfl
theorem mbX0_add_3 : Cond.initialized RX8 ∈ wsX0_add := List.mem_of_getElem? (i := 5) rfl
theorem mbX0_add_4 : Cond.static yX8_put ∈ wsX0_add := List.mem_of_getElem? (i := 4) rfl
theorem mbX0_add_5 : Cond.fieldLink RX0 15 "BootsAtDawn$Mornings" "behind" "[I" ∈ wsX0_add := List.mem_of_getElem? (i := 3) rfl
abbrev rmX0_add : Room := { frames := 1, cells := 0, slots := 0, locals := 22 }
set_option maxHeartbeats 8000000 in
set_option maxRecDepth 100000 in
theorem kX0_add (l : Launch) (dC : Nat → ClassId) (dI : Nat → Nat → Nat) (cC cI cJ : ClassId) (sz : Nat) (K : Nat) (a_T a_T_ahead a_T_behind : Nat) (x1 : Int32) (x2 : Int32) (T_told : Int32) (T_ahead : (Nat → Int32)) (T_behind : (Nat → Int32)) (R : Int32 × (Nat → Int32) × (Nat → Int32)) (hr : fX0_add K x1 x2 T_told T_ahead T_behind = some R) : Met l yX0_add wsX0_add rmX0_add (va_Pc ([.ref a_T, .int x1, .int x2] : List Value) (PcW (dC, dI) (tysA cC cI cJ) sz [(a_T, .inr (0, [.ref a_T_ahead, .ref a_T_behind, .int T_told])), (a_T_ahead, .inl (cI, 6, .inl T_ahead)), (a_T_behind, .inl (cI, 6, .inl T_behind))])) (va_Qv (fun (_ : Unit) => True) (fun _ => BW (dC, dI) (tysA cC cI cJ) (va_A [(a_T, .inr (0, [.ref a_T_ahead, .ref a_T_behind, .int T_told])), (a_T_ahead, .inl (cI, 6, .inl T_ahead)), (a_T_behind, .inl (cI, 6, .inl T_behind))] sz) [(a_T, .inr (0, [.ref a_T_ahead, .ref a_T_behind, .int R.1])), (a_T_ahead, .inl (cI, 6, .inl R.2.1)), (a_T_behind, .inl (cI, 6, .inl R.2.2))]) (va_A [(a_T, .inr (0, [.ref a_T_ahead, .ref a_T_behind, .int T_told])), (a_T_ahead, .inl (cI, 6, .inl T_ahead)), (a_T_behind, .inl (cI, 6, .inl T_behind))] sz)) 0 0 (va_A [(a_T, .inr (0, [.ref a_T_ahead, .ref a_T_behind, .int T_told])), (a_T_ahead, .inl (cI, 6, .inl T_ahead)), (a_T_behind, .inl (cI, 6, .inl T_behind))] sz) := by
  refine Met.ofW (cc := cX0_add) (maxL := 3) (ret := none) (by decide) rfl ?_
  intro p e s m args below meth c s₁ B hml hv
  obtain ⟨rfl, hsz, hP, hK, hD0, hN⟩ := hv
  have hx := B.exec
  have hb := B.bytes
  have hrt := B.returns
  have hts := atoms_spec (ws := wsX0_add) B.pre
  have hown : s.vm.findClass RX0 = some m.cls := findClass_of_methodNamed B.named
  have hlocks := B.notSynchronized
  subst hsz
  have hD := hD0.self (sz := s.heap.size)
  generalize hAe : va_A [(a_T, .inr (0, [.ref a_T_ahead, .ref a_T_behind, .int T_told])), (a_T_ahead, .inl (cI, 6, .inl T_ahead)), (a_T_behind, .inl (cI, 6, .inl T_behind))] s.heap.size = A at hD ⊢
  have hA : ∀ q : Nat, s.heap.size ≤ q → A q := fun q h => by rw [← hAe]; exact Or.inr h
  have hS : va_S A s.heap s.heap [] := va_S.rf
  have hl := lv_entry ([.ref a_T, .int x1, .int x2] : List Value) (n := 3) (Nat.le_of_ble_eq_true rfl)
  rw [lg_entry_eq]
  generalize (lg_sl ([.ref a_T, .int x1, .int x2] : List Value) ++ List.replicate (3 - (lg_sl ([.ref a_T, .int x1, .int x2] : List Value)).length) Slot.unset).toArray = ls at hl ⊢
  replace hl : lv_has ls 3 [(0, .ref a_T), (1, .int x1), (2, .int x2)] := hl
  obtain ⟨Q, hQ⟩ : ∃ Q, Q = MQ below (va_Qv (fun (_ : Unit) => True) (fun _ => BW (dC, dI) (tysA cC cI cJ) A [(a_T, .inr (0, [.ref a_T_ahead, .ref a_T_behind, .int R.1])), (a_T_ahead, .inl (cI, 6, .inl R.2.1)), (a_T_behind, .inl (cI, 6, .inl R.2.2))]) A) ([.ref a_T, .int x1, .int x2] : List Value).toArray s 0 0 A := ⟨_, rfl⟩
  rw [← hQ]
  suffices hE : WG p l e rmX0_add s m ([.ref a_T, .int x1, .int x2] : List Value).toArray below meth c 0 0 Q (dC, dI) A 0 3 [(a_T, .inr (0, [.ref a_T_ahead, .ref a_T_behind, .int T_told])), (a_T_ahead, .inl (cI, 6, .inl T_ahead)), (a_T_behind, .inl (cI, 6, .inl T_behind))] [(0, .ref a_T), (1, .int x1), (2, .int x2)] [] from hE _ _ _ hP hD hS hl
  clear hP hD hS hl hD0 hAe
  intro H locs ls hP hD hS hl
  unfold fX0_add at hr
  refine lv_aload_n hx hb dX0_add_0 rfl (lv_at hl 0 rfl) ?_
  refine va_get (D := (dC, dI)) (ci := 0) (v := .ref a_T_ahead) (C := RX0) (T := TX0) (N := 3) hx hb hts inX0_add_X0 hown hK hP 0 rfl rfl 0 (by decide) (hts _ mbX0_add_0) (fun _ h9 => h9) rfl dX0_add_1 ?_
  refine lv_aload_n hx hb dX0_add_4 rfl (lv_at hl 0 rfl) ?_
  refine va_get (D := (dC, dI)) (ci := 0) (v := .int T_told) (C := RX0) (T := TX0) (N := 3) hx hb hts inX0_add_X0 hown hK hP 0 rfl rfl 2 (by decide) (hts _ mbX0_add_2) (fun _ h9 => h9) rfl dX0_add_5 ?_
  refine lv_iload_n hx hb dX0_add_8 rfl (lv_at hl 1 rfl) ?_
  obtain ⟨T_ahead_1, hc1, hr⟩ := bd1_some hr
  refine call_v (D := (dC, dI)) (tys := tysA cC cI cJ) (wc := [(a_T_ahead, .inl (cI, 6, .inl T_ahead))]) (wr := [(a_T, .inr (0, [.ref a_T_ahead, .ref a_T_behind, .int T_told])), (a_T_behind, .inl (cI, 6, .inl T_behind))]) (w1 := [(a_T_ahead, .inl (cI, 6, .inl T_ahead_1))]) (wn := [(a_T, .inr (0, [.ref a_T_ahead, .ref a_T_behind, .int T_told])), (a_T_ahead, .inl (cI, 6, .inl T_ahead_1)), (a_T_behind, .inl (cI, 6, .inl T_behind))]) hP hD hS hA [1] [0, 2] [0, 2, 1] rfl rfl (by decide +kernel) (by decide +kernel) rfl (by decide +kernel) (va_runSN (host := "BootsAtDawn") (As := [.ref a_T_ahead, .int T_told, .int x1]) (rest := []) ⟨hx, hb, hml, hown, hts⟩ (kX8_put l dC dI cC cI cJ H.size K a_T_ahead 6 T_told x1 T_ahead T_ahead_1 hc1) ⟨va_cnB 3 hts gX0_add_X8_put_n22 rfl rfl rfl (hN _ nw_102) (hts _ mbX0_add_3) (by decide +kernel) ⟨Nat.le_of_ble_eq_true rfl, Nat.le_of_ble_eq_true rfl⟩, (hts _ mbX0_add_4), trivial⟩ ⟨fbW, preW hP hD hK hN [1] rfl (by decide +kernel)⟩ rfl rfl hl.1 rfl (lv_room (Nat.le_of_ble_eq_true rfl)) dX0_add_9 ⟨Nat.zero_le _, Nat.zero_le _⟩) (fun H locs hP hD hS => ?_)
  refine lv_aload_n hx hb dX0_add_12 rfl (lv_at hl 0 rfl) ?_
  refine va_get (D := (dC, dI)) (ci := 0) (v := .ref a_T_behind) (C := RX0) (T := TX0) (N := 3) hx hb hts inX0_add_X0 hown hK hP 0 rfl rfl 1 (by decide) (hts _ mbX0_add_5) (fun _ h9 => h9) rfl dX0_add_13 ?_
  refine lv_aload_n hx hb dX0_add_16 rfl (lv_at hl 0 rfl) ?_
  refine va_get (D := (dC, dI)) (ci := 0) (v := .int T_told) (C := RX0) (T := TX0) (N := 3) hx hb hts inX0_add_X0 hown hK hP 0 rfl rfl 2 (by decide) (hts _ mbX0_add_2) (fun _ h9 => h9) rfl dX0_add_17 ?_
  refine lv_iload_n hx hb dX0_add_20 rfl (lv_at hl 2 rfl) ?_
  obtain ⟨T_behind_1, hc2, hr⟩ := bd1_some hr
  refine call_v (D := (dC, dI)) (tys := tysA cC cI cJ) (wc := [(a_T_behind, .inl (cI, 6, .inl T_behind))]) (wr := [(a_T, .inr (0, [.ref a_T_ahead, .ref a_T_behind, .int T_told])), (a_T_ahead, .inl (cI, 6, .inl T_ahead_1))]) (w1 := [(a_T_behind, .inl (cI, 6, .inl T_behind_1))]) (wn := [(a_T, .inr (0, [.ref a_T_ahead, .ref a_T_behind, .int T_told])), (a_T_ahead, .inl (cI, 6, .inl T_ahead_1)), (a_T_behind, .inl (cI, 6, .inl T_behind_1))]) hP hD hS hA [2] [0, 1] [0, 1, 2] rfl rfl (by decide +kernel) (by decide +kernel) rfl (by decide +kernel) (va_runSN (host := "BootsAtDawn") (As := [.ref a_T_behind, .int T_told, .int x2]) (rest := []) ⟨hx, hb, hml, hown, hts⟩ (kX8_put l dC dI cC cI cJ H.size K a_T_behind 6 T_told x2 T_behind T_behind_1 hc2) ⟨va_cnB 3 hts gX0_add_X8_put_n22 rfl rfl rfl (hN _ nw_102) (hts _ mbX0_add_3) (by decide +kernel) ⟨Nat.le_of_ble_eq_true rfl, Nat.le_of_ble_eq_true rfl⟩, (hts _ mbX0_add_4), trivial⟩ ⟨fbW, preW hP hD hK hN [2] rfl (by decide +kernel)⟩ rfl rfl hl.1 rfl (lv_room (Nat.le_of_ble_eq_true rfl)) dX0_add_21 ⟨Nat.zero_le _, Nat.zero_le _⟩) (fun H locs hP hD hS => ?_)
  refine lv_aload_n hx hb dX0_add_24 rfl (lv_at hl 0 rfl) ?_
  refine lv_dup hx hb dX0_add_25 rfl ?_
  refine va_get (D := (dC, dI)) (ci := 0) (v := .int T_told) (C := RX0) (T := TX0) (N := 3) hx hb hts inX0_add_X0 hown hK hP 0 rfl rfl 2 (by decide) (hts _ mbX0_add_2) (fun _ h9 => h9) rfl dX0_add_26 ?_
  refine lv_iconst (v := 1) hx hb dX0_add_29 (by decide) ?_
  refine lv_iadd hx hb dX0_add_30 ?_
  obtain ⟨T_told_1, e1, hr⟩ := nm_el hr
  refine lv_nmi e1 ?_
  refine va_put (D := (dC, dI)) (ci := 0) (v := .int T_told_1) (ty := .int) (C := RX0) (T := TX0) (N := 3) hx hb hts inX0_add_X0 tyX0 tyX0_ok nmX0 hown hK hP hD hS 0 rfl rfl 2 (by decide) (hts _ mbX0_add_2) (fun _ h9 => h9) rfl (by decide +kernel) rfl rfl (Nat.le_of_ble_eq_true rfl) dX0_add_31 (fun H locs hP hD hS => ?_)
  replace hP : va_P (dC, dI) vwCl [(a_T, .inr (0, [.ref a_T_ahead, .ref a_T_behind, .int T_told_1])), (a_T_ahead, .inl (cI, 6, .inl T_ahead_1)), (a_T_behind, .inl (cI, 6, .inl T_behind_1))] H := hP
  replace hD : va_D A [(a_T, .inr (0, [.ref a_T_ahead, .ref a_T_behind, .int T_told_1])), (a_T_ahead, .inl (cI, 6, .inl T_ahead_1)), (a_T_behind, .inl (cI, 6, .inl T_behind_1))] := hD
  have he := Option.some.inj hr
  subst he
  subst hQ
  exact ret_v hx hb hrt hK hP hD hS hlocks dX0_add_34
def fX0_clear (K : Nat) (T_told : Int32) : Option (Int32) :=
    some 0
theorem mbX0_clear_0 : Cond.fieldLink RX0 18 "BootsAtDawn$Mornings" "told" "I" ∈ wsX0_clear := List.mem_of_getElem? (i := 1) rfl
theorem inX0_clear_X0 : ∀ w ∈ u_ws RX0 TX0 3, w ∈ wsX0_clear := fun _ h => (List.mem_cons_of_mem _ (List.mem_append_right _ h))
abbrev rmX0_clear : Room := { frames := 0, cells := 0, slots := 0, locals := 0 }
set_option maxHeartbeats 8000000 in
set_option maxRecDepth 100000 in
theorem kX0_clear (l : Launch) (dC : Nat → ClassId) (dI : Nat → Nat → Nat) (cC cI cJ : ClassId) (sz : Nat) (K : Nat) (a_T a_T_ahead a_T_behind : Nat) (T_told : Int32) (R : Int32) (hr : fX0_clear K T_told = some R) : Met l yX0_clear wsX0_clear rmX0_clear (va_Pc ([.ref a_T] : List Value) (PcW (dC, dI) (tysA cC cI cJ) sz [(a_T, .inr (0, [.ref a_T_ahead, .ref a_T_behind, .int T_told]))])) (va_Qv (fun (_ : Unit) => True) (fun _ => BW (dC, dI) (tysA cC cI cJ) (va_A [(a_T, .inr (0, [.ref a_T_ahead, .ref a_T_behind, .int T_told]))] sz) [(a_T, .inr (0, [.ref a_T_ahead, .ref a_T_behind, .int R]))]) (va_A [(a_T, .inr (0, [.ref a_T_ahead, .ref a_T_behind, .int T_told]))] sz)) 0 0 (va_A [(a_T, .inr (0, [.ref a_T_ahead, .ref a_T_behind, .int T_told]))] sz) := by
  refine Met.ofW (cc := cX0_clear) (maxL := 1) (ret := none) (by decide) rfl ?_
  intro p e s m args below meth c s₁ B hml hv
  obtain ⟨rfl, hsz, hP, hK, hD0, hN⟩ := hv
  have hx := B.exec
  have hb := B.bytes
  have hrt := B.returns
  have hts := atoms_spec (ws := wsX0_clear) B.pre
  have hown : s.vm.findClass RX0 = some m.cls := findClass_of_methodNamed B.named
  have hlocks := B.notSynchronized
  subst hsz
  have hD := hD0.self (sz := s.heap.size)
  generalize hAe : va_A [(a_T, .inr (0, [.ref a_T_ahead, .ref a_T_behind, .int T_told]))] s.heap.size = A at hD ⊢
  have hA : ∀ q : Nat, s.heap.size ≤ q → A q := fun q h => by rw [← hAe]; exact Or.inr h
  have hS : va_S A s.heap s.heap [] := va_S.rf
  have hl := lv_entry ([.ref a_T] : List Value) (n := 1) (Nat.le_of_ble_eq_true rfl)
  rw [lg_entry_eq]
  generalize (lg_sl ([.ref a_T] : List Value) ++ List.replicate (1 - (lg_sl ([.ref a_T] : List Value)).length) Slot.unset).toArray = ls at hl ⊢
  replace hl : lv_has ls 1 [(0, .ref a_T)] := hl
  obtain ⟨Q, hQ⟩ : ∃ Q, Q = MQ below (va_Qv (fun (_ : Unit) => True) (fun _ => BW (dC, dI) (tysA cC cI cJ) A [(a_T, .inr (0, [.ref a_T_ahead, .ref a_T_behind, .int R]))]) A) ([.ref a_T] : List Value).toArray s 0 0 A := ⟨_, rfl⟩
  rw [← hQ]
  suffices hE : WG p l e rmX0_clear s m ([.ref a_T] : List Value).toArray below meth c 0 0 Q (dC, dI) A 0 1 [(a_T, .inr (0, [.ref a_T_ahead, .ref a_T_behind, .int T_told]))] [(0, .ref a_T)] [] from hE _ _ _ hP hD hS hl
  clear hP hD hS hl hD0 hAe
  intro H locs ls hP hD hS hl
  unfold fX0_clear at hr
  refine lv_aload_n hx hb dX0_clear_0 rfl (lv_at hl 0 rfl) ?_
  refine lv_iconst (v := 0) hx hb dX0_clear_1 (by decide) ?_
  refine va_put (D := (dC, dI)) (ci := 0) (v := .int 0) (ty := .int) (C := RX0) (T := TX0) (N := 3) hx hb hts inX0_clear_X0 tyX0 tyX0_ok nmX0 hown hK hP hD hS 0 rfl rfl 2 (by decide) (hts _ mbX0_clear_0) (fun _ h9 => h9) rfl (by decide +kernel) rfl rfl (Nat.le_of_ble_eq_true rfl) dX0_clear_2 (fun H locs hP hD hS => ?_)
  replace hP : va_P (dC, dI) vwCl [(a_T, .inr (0, [.ref a_T_ahead, .ref a_T_behind, .int 0]))] H := hP
  replace hD : va_D A [(a_T, .inr (0, [.ref a_T_ahead, .ref a_T_behind, .int 0]))] := hD
  have he := Option.some.inj hr
  subst he
  subst hQ
  exact ret_v hx hb hrt hK hP hD hS hlocks dX0_clear_5
def fX8_at (K : Nat) (n_P0 : Nat) (x1 : Int32) (P0 : (Nat → Int32)) : Option (Int32) :=
    if (x1 : Int32) < 0 then (
    some 0)
    else (
    if (nI n_P0) ≤ (x1 : Int32) then (
    some 0)
    else (
    gd (¬ ((x1 : Int32) < 0 ∨ n_P0 ≤ x1.toNatClampNeg)) (
    some (P0 x1.toNatClampNeg))))
abbrev rmX8_at : Room := { frames := 0, cells := 0, slots := 0, locals := 0 }
set_option maxHeartbeats 8000000 in
set_option maxRecDepth 100000 in
theorem kX8_at (l : Launch) (dC : Nat → ClassId) (dI : Nat → Nat → Nat) (cC cI cJ : ClassId) (sz : Nat) (K : Nat) (a_P0 : Nat) (n_P0 : Nat) (x1 : Int32) (P0 : (Nat → Int32)) (R : Int32) (hr : fX8_at K n_P0 x1 P0 = some R) : Met l yX8_at wsX8_at rmX8_at (va_Pc ([.ref a_P0, .int x1] : List Value) (PcW (dC, dI) (tysA cC cI cJ) sz [(a_P0, .inl (cI, n_P0, .inl P0))])) (va_Qi (fun r (_ : Unit) => r = R) (fun _ => BW (dC, dI) (tysA cC cI cJ) (va_A [(a_P0, .inl (cI, n_P0, .inl P0))] sz) [(a_P0, .inl (cI, n_P0, .inl P0))]) (va_A [(a_P0, .inl (cI, n_P0, .inl P0))] sz)) 0 0 (va_A [(a_P0, .inl (cI, n_P0, .inl P0))] sz) := by
  refine Met.ofW (cc := cX8_at) (maxL := 2) (ret := (some .int)) (by decide) rfl ?_
  intro p e s m args below meth c s₁ B hml hv
  obtain ⟨rfl, hsz, hP, hK, hD0, hN⟩ := hv
  have hx := B.exec
  have hb := B.bytes
  have hrt := B.returns
  have hts := atoms_spec (ws := wsX8_at) B.pre
  have hown : s.vm.findClass RX8 = some m.cls := findClass_of_methodNamed B.named
  have hlocks := B.notSynchronized
  subst hsz
  have hD := hD0.self (sz := s.heap.size)
  generalize hAe : va_A [(a_P0, .inl (cI, n_P0, .inl P0))] s.heap.size = A at hD ⊢
  have hA : ∀ q : Nat, s.heap.size ≤ q → A q := fun q h => by rw [← hAe]; exact Or.inr h
  have hS : va_S A s.heap s.heap [] := va_S.rf
  have hl := lv_entry ([.ref a_P0, .int x1] : List Value) (n := 2) (Nat.le_of_ble_eq_true rfl)
  rw [lg_entry_eq]
  generalize (lg_sl ([.ref a_P0, .int x1] : List Value) ++ List.replicate (2 - (lg_sl ([.ref a_P0, .int x1] : List Value)).length) Slot.unset).toArray = ls at hl ⊢
  replace hl : lv_has ls 2 [(0, .ref a_P0), (1, .int x1)] := hl
  obtain ⟨Q, hQ⟩ : ∃ Q, Q = MQ below (va_Qi (fun r (_ : Unit) => r = R) (fun _ => BW (dC, dI) (tysA cC cI cJ) A [(a_P0, .inl (cI, n_P0, .inl P0))]) A) ([.ref a_P0, .int x1] : List Value).toArray s 0 0 A := ⟨_, rfl⟩
  rw [← hQ]
  suffices hE : WG p l e rmX8_at s m ([.ref a_P0, .int x1] : List Value).toArray below meth c 0 0 Q (dC, dI) A 0 2 [(a_P0, .inl (cI, n_P0, .inl P0))] [(0, .ref a_P0), (1, .int x1)] [] from hE _ _ _ hP hD hS hl
  clear hP hD hS hl hD0 hAe
  intro H locs ls hP hD hS hl
  unfold fX8_at at hr
  refine lv_iload_n hx hb dX8_at_0 rfl (lv_at hl 1 rfl) ?_
  refine lv_if_lt (tgt := 16) hx hb dX8_at_1 (by decide) (fun c1 => ?_) (fun c1 => ?_)
  · replace hr := it_t hr c1
    refine lv_iconst (v := 0) hx hb dX8_at_16 (by decide) ?_
    have he := Option.some.inj hr
    subst he
    subst hQ
    exact ret_i hx hb hrt hK hP hD hS hlocks dX8_at_17
  · replace hr := it_f hr c1
    refine lv_iload_n hx hb dX8_at_4 rfl (lv_at hl 1 rfl) ?_
    refine lv_aload_n hx hb dX8_at_5 rfl (lv_at hl 0 rfl) ?_
    refine va_alen (v := nI n_P0) hx hb hK hP 0 1 rfl rfl rfl dX8_at_6 ?_
    refine lv_icmp_ge (tgt := 16) hx hb dX8_at_7 (by decide) (fun c2 => ?_) (fun c2 => ?_)
    · replace hr := it_t hr c2
      refine lv_iconst (v := 0) hx hb dX8_at_16 (by decide) ?_
      have he := Option.some.inj hr
      subst he
      subst hQ
      exact ret_i hx hb hrt hK hP hD hS hlocks dX8_at_17
    · replace hr := it_f hr c2
      refine lv_aload_n hx hb dX8_at_10 rfl (lv_at hl 0 rfl) ?_
      refine lv_iload_n hx hb dX8_at_11 rfl (lv_at hl 1 rfl) ?_
      obtain ⟨g1, hr⟩ := gd_some hr
      refine va_iald hx hb hK hP 0 1 rfl rfl g1 dX8_at_12 ?_
      refine lv_goto (tgt := 17) hx hb dX8_at_13 (by decide) ?_
      have he := Option.some.inj hr
      subst he
      subst hQ
      exact ret_i hx hb hrt hK hP hD hS hlocks dX8_at_17
def fX4_isAhead (K : Nat) (x1 : Int32) (x2 : Int32) (T_places : (Nat → Int32)) : Option (Int32) :=
    bd1 (fX8_at K 6 x1 T_places) fun r =>
    bd1 (fX8_at K 6 x2 T_places) fun r_1 =>
    if r_1 ≤ (r : Int32) then (
    some 0)
    else (
    some 1)
theorem mbX4_isAhead_0 : Cond.fieldLink RX4 15 "BootsAtDawn$Round" "places" "[I" ∈ wsX4_isAhead := List.mem_of_getElem? (i := 1) rfl
theorem inX4_isAhead_X4 : ∀ w ∈ u_ws RX4 TX4 7, w ∈ wsX4_isAhead := fun _ h => (List.mem_cons_of_mem _ (List.mem_append_right _ h))
theorem mbX4_isAhead_2 : Cond.initialized RX8 ∈ wsX4_isAhead := List.mem_of_getElem? (i := 3) rfl
theorem mbX4_isAhead_3 : Cond.static yX8_at ∈ wsX4_isAhead := List.mem_of_getElem? (i := 2) rfl
abbrev rmX4_isAhead : Room := { frames := 1, cells := 0, slots := 0, locals := 21 }
set_option maxHeartbeats 8000000 in
set_option maxRecDepth 100000 in
theorem kX4_isAhead (l : Launch) (dC : Nat → ClassId) (dI : Nat → Nat → Nat) (cC cI cJ : ClassId) (sz : Nat) (K : Nat) (a_T a_T_order a_T_places a_T_times a_T_waits a_T_wakings : Nat) (x1 : Int32) (x2 : Int32) (T_size : Int32) (T_end : Int32) (T_places : (Nat → Int32)) (R : Int32) (hr : fX4_isAhead K x1 x2 T_places = some R) : Met l yX4_isAhead wsX4_isAhead rmX4_isAhead (va_Pc ([.ref a_T, .int x1, .int x2] : List Value) (PcW (dC, dI) (tysA cC cI cJ) sz [(a_T, .inr (4, [.ref a_T_order, .ref a_T_places, .ref a_T_times, .ref a_T_waits, .ref a_T_wakings, .int T_size, .int T_end])), (a_T_places, .inl (cI, 6, .inl T_places))])) (va_Qi (fun r (_ : Unit) => r = R) (fun _ => BW (dC, dI) (tysA cC cI cJ) (va_A [(a_T, .inr (4, [.ref a_T_order, .ref a_T_places, .ref a_T_times, .ref a_T_waits, .ref a_T_wakings, .int T_size, .int T_end])), (a_T_places, .inl (cI, 6, .inl T_places))] sz) [(a_T, .inr (4, [.ref a_T_order, .ref a_T_places, .ref a_T_times, .ref a_T_waits, .ref a_T_wakings, .int T_size, .int T_end])), (a_T_places, .inl (cI, 6, .inl T_places))]) (va_A [(a_T, .inr (4, [.ref a_T_order, .ref a_T_places, .ref a_T_times, .ref a_T_waits, .ref a_T_wakings, .int T_size, .int T_end])), (a_T_places, .inl (cI, 6, .inl T_places))] sz)) 0 0 (va_A [(a_T, .inr (4, [.ref a_T_order, .ref a_T_places, .ref a_T_times, .ref a_T_waits, .ref a_T_wakings, .int T_size, .int T_end])), (a_T_places, .inl (cI, 6, .inl T_places))] sz) := by
  refine Met.ofW (cc := cX4_isAhead) (maxL := 3) (ret := (some .boolean)) (by decide) rfl ?_
  intro p e s m args below meth c s₁ B hml hv
  obtain ⟨rfl, hsz, hP, hK, hD0, hN⟩ := hv
  have hx := B.exec
  have hb := B.bytes
  have hrt := B.returns
  have hts := atoms_spec (ws := wsX4_isAhead) B.pre
  have hown : s.vm.findClass RX4 = some m.cls := findClass_of_methodNamed B.named
  have hlocks := B.notSynchronized
  subst hsz
  have hD := hD0.self (sz := s.heap.size)
  generalize hAe : va_A [(a_T, .inr (4, [.ref a_T_order, .ref a_T_places, .ref a_T_times, .ref a_T_waits, .ref a_T_wakings, .int T_size, .int T_end])), (a_T_places, .inl (cI, 6, .inl T_places))] s.heap.size = A at hD ⊢
  have hA : ∀ q : Nat, s.heap.size ≤ q → A q := fun q h => by rw [← hAe]; exact Or.inr h
  have hS : va_S A s.heap s.heap [] := va_S.rf
  have hl := lv_entry ([.ref a_T, .int x1, .int x2] : List Value) (n := 3) (Nat.le_of_ble_eq_true rfl)
  rw [lg_entry_eq]
  generalize (lg_sl ([.ref a_T, .int x1, .int x2] : List Value) ++ List.replicate (3 - (lg_sl ([.ref a_T, .int x1, .int x2] : List Value)).length) Slot.unset).toArray = ls at hl ⊢
  replace hl : lv_has ls 3 [(0, .ref a_T), (1, .int x1), (2, .int x2)] := hl
  obtain ⟨Q, hQ⟩ : ∃ Q, Q = MQ below (va_Qi (fun r (_ : Unit) => r = R) (fun _ => BW (dC, dI) (tysA cC cI cJ) A [(a_T, .inr (4, [.ref a_T_order, .ref a_T_places, .ref a_T_times, .ref a_T_waits, .ref a_T_wakings, .int T_size, .int T_end])), (a_T_places, .inl (cI, 6, .inl T_places))]) A) ([.ref a_T, .int x1, .int x2] : List Value).toArray s 0 0 A := ⟨_, rfl⟩
  rw [← hQ]
  suffices hE : WG p l e rmX4_isAhead s m ([.ref a_T, .int x1, .int x2] : List Value).toArray below meth c 0 0 Q (dC, dI) A 0 3 [(a_T, .inr (4, [.ref a_T_order, .ref a_T_places, .ref a_T_times, .ref a_T_waits, .ref a_T_wakings, .int T_size, .int T_end])), (a_T_places, .inl (cI, 6, .inl T_places))] [(0, .ref a_T), (1, .int x1), (2, .int x2)] [] from hE _ _ _ hP hD hS hl
  clear hP hD hS hl hD0 hAe
  intro H locs ls hP hD hS hl
  unfold fX4_isAhead at hr
  refine lv_aload_n hx hb dX4_isAhead_0 rfl (lv_at hl 0 rfl) ?_
  refine va_get (D := (dC, dI)) (ci := 4) (v := .ref a_T_places) (C := RX4) (T := TX4) (N := 7) hx hb hts inX4_isAhead_X4 hown hK hP 0 rfl rfl 1 (by decide) (hts _ mbX4_isAhead_0) (fun _ h9 => h9) rfl dX4_isAhead_1 ?_
  refine lv_iload_n hx hb dX4_isAhead_4 rfl (lv_at hl 1 rfl) ?_
  obtain ⟨r, hc1, hr⟩ := bd1_some hr
  refine call_i (D := (dC, dI)) (tys := tysA cC cI cJ) (wc := [(a_T_places, .inl (cI, 6, .inl T_places))]) (wr := [(a_T, .inr (4, [.ref a_T_order, .ref a_T_places, .ref a_T_times, .ref a_T_waits, .ref a_T_wakings, .int T_size, .int T_end]))]) (w1 := [(a_T_places, .inl (cI, 6, .inl T_places))]) (wn := [(a_T, .inr (4, [.ref a_T_order, .ref a_T_places, .ref a_T_times, .ref a_T_waits, .ref a_T_wakings, .int T_size, .int T_end])), (a_T_places, .inl (cI, 6, .inl T_places))]) (r0 := r) hP hD hS hA [1] [0] [0, 1] rfl rfl (by decide +kernel) (by decide +kernel) rfl (by decide +kernel) (va_runSN (host := "BootsAtDawn") (As := [.ref a_T_places, .int x1]) (rest := []) ⟨hx, hb, hml, hown, hts⟩ (kX8_at l dC dI cC cI cJ H.size K a_T_places 6 x1 T_places r hc1) ⟨va_cnB 2 hts gX4_isAhead_X8_at_n51 rfl rfl rfl (hN _ nw_85) (hts _ mbX4_isAhead_2) (by decide +kernel) ⟨Nat.le_of_ble_eq_true rfl, Nat.le_of_ble_eq_true rfl⟩, (hts _ mbX4_isAhead_3), trivial⟩ ⟨fbW, preW hP hD hK hN [1] rfl (by decide +kernel)⟩ rfl rfl hl.1 rfl (lv_room (Nat.le_of_ble_eq_true rfl)) dX4_isAhead_5 ⟨Nat.zero_le _, Nat.zero_le _⟩) (fun H locs hP hD hS => ?_)
  refine lv_aload_n hx hb dX4_isAhead_8 rfl (lv_at hl 0 rfl) ?_
  refine va_get (D := (dC, dI)) (ci := 4) (v := .ref a_T_places) (C := RX4) (T := TX4) (N := 7) hx hb hts inX4_isAhead_X4 hown hK hP 0 rfl rfl 1 (by decide) (hts _ mbX4_isAhead_0) (fun _ h9 => h9) rfl dX4_isAhead_9 ?_
  refine lv_iload_n hx hb dX4_isAhead_12 rfl (lv_at hl 2 rfl) ?_
  obtain ⟨r_1, hc2, hr⟩ := bd1_some hr
  refine call_i (D := (dC, dI)) (tys := tysA cC cI cJ) (wc := [(a_T_places, .inl (cI, 6, .inl T_places))]) (wr := [(a_T, .inr (4, [.ref a_T_order, .ref a_T_places, .ref a_T_times, .ref a_T_waits, .ref a_T_wakings, .int T_size, .int T_end]))]) (w1 := [(a_T_places, .inl (cI, 6, .inl T_places))]) (wn := [(a_T, .inr (4, [.ref a_T_order, .ref a_T_places, .ref a_T_times, .ref a_T_waits, .ref a_T_wakings, .int T_size, .int T_end])), (a_T_places, .inl (cI, 6, .inl T_places))]) (r0 := r_1) hP hD hS hA [1] [0] [0, 1] rfl rfl (by decide +kernel) (by decide +kernel) rfl (by decide +kernel) (va_runSN (host := "BootsAtDawn") (As := [.ref a_T_places, .int x2]) (rest := [.int r]) ⟨hx, hb, hml, hown, hts⟩ (kX8_at l dC dI cC cI cJ H.size K a_T_places 6 x2 T_places r_1 hc2) ⟨va_cnB 2 hts gX4_isAhead_X8_at_n51 rfl rfl rfl (hN _ nw_85) (hts _ mbX4_isAhead_2) (by decide +kernel) ⟨Nat.le_of_ble_eq_true rfl, Nat.le_of_ble_eq_true rfl⟩, (hts _ mbX4_isAhead_3), trivial⟩ ⟨fbW, preW hP hD hK hN [1] rfl (by decide +kernel)⟩ rfl rfl hl.1 rfl (lv_room (Nat.le_of_ble_eq_true rfl)) dX4_isAhead_13 ⟨Nat.zero_le _, Nat.zero_le _⟩) (fun H locs hP hD hS => ?_)
  refine lv_icmp_ge (tgt := 23) hx hb dX4_isAhead_16 (by decide) (fun c1 => ?_) (fun c1 => ?_)
  · replace hr := it_t hr c1
    refine lv_iconst (v := 0) hx hb dX4_isAhead_23 (by decide) ?_
    have he := Option.some.inj hr
    subst he
    subst hQ
    exact ret_z hx hb hrt (show narrow .boolean (.int 0) = .int 0 from rfl) hK hP hD hS hlocks dX4_isAhead_24
  · replace hr := it_f hr c1
    refine lv_iconst (v := 1) hx hb dX4_isAhead_19 (by decide) ?_
    refine lv_goto (tgt := 24) hx hb dX4_isAhead_20 (by decide) ?_
    have he := Option.some.inj hr
    subst he
    subst hQ
    exact ret_z hx hb hrt (show narrow .boolean (.int 1) = .int 1 from rfl) hK hP hD hS hlocks dX4_isAhead_24
def fX8_has (K : Nat) (x0 : Int32) (x1 : Int32) : Option (Int32) :=
    if (((x0 >>> (x1 &&& 31)) &&& 1) : Int32) = 1 then (
    some 1)
    else (
    some 0)
abbrev rmX8_has : Room := { frames := 0, cells := 0, slots := 0, locals := 0 }
set_option maxHeartbeats 8000000 in
set_option maxRecDepth 100000 in
theorem kX8_has (l : Launch) (dC : Nat → ClassId) (dI : Nat → Nat → Nat) (cC cI cJ : ClassId) (sz : Nat) (K : Nat) (x0 : Int32) (x1 : Int32) (R : Int32) (hr : fX8_has K x0 x1 = some R) : Met l yX8_has wsX8_has rmX8_has (va_Pc ([.int x0, .int x1] : List Value) (PcW (dC, dI) (tysA cC cI cJ) sz [])) (va_Qi (fun r (_ : Unit) => r = R) (fun _ => BW (dC, dI) (tysA cC cI cJ) (va_A [] sz) []) (va_A [] sz)) 0 0 (va_A [] sz) := by
  refine Met.ofW (cc := cX8_has) (maxL := 2) (ret := (some .boolean)) (by decide) rfl ?_
  intro p e s m args below meth c s₁ B hml hv
  obtain ⟨rfl, hsz, hP, hK, hD0, hN⟩ := hv
  have hx := B.exec
  have hb := B.bytes
  have hrt := B.returns
  have hts := atoms_spec (ws := wsX8_has) B.pre
  have hown : s.vm.findClass RX8 = some m.cls := findClass_of_methodNamed B.named
  have hlocks := B.notSynchronized
  subst hsz
  have hD := hD0.self (sz := s.heap.size)
  generalize hAe : va_A [] s.heap.size = A at hD ⊢
  have hA : ∀ q : Nat, s.heap.size ≤ q → A q := fun q h => by rw [← hAe]; exact Or.inr h
  have hS : va_S A s.heap s.heap [] := va_S.rf
  have hl := lv_entry ([.int x0, .int x1] : List Value) (n := 2) (Nat.le_of_ble_eq_true rfl)
  rw [lg_entry_eq]
  generalize (lg_sl ([.int x0, .int x1] : List Value) ++ List.replicate (2 - (lg_sl ([.int x0, .int x1] : List Value)).length) Slot.unset).toArray = ls at hl ⊢
  replace hl : lv_has ls 2 [(0, .int x0), (1, .int x1)] := hl
  obtain ⟨Q, hQ⟩ : ∃ Q, Q = MQ below (va_Qi (fun r (_ : Unit) => r = R) (fun _ => BW (dC, dI) (tysA cC cI cJ) A []) A) ([.int x0, .int x1] : List Value).toArray s 0 0 A := ⟨_, rfl⟩
  rw [← hQ]
  suffices hE : WG p l e rmX8_has s m ([.int x0, .int x1] : List Value).toArray below meth c 0 0 Q (dC, dI) A 0 2 [] [(0, .int x0), (1, .int x1)] [] from hE _ _ _ hP hD hS hl
  clear hP hD hS hl hD0 hAe
  intro H locs ls hP hD hS hl
  unfold fX8_has at hr
  refine lv_iload_n hx hb dX8_has_0 rfl (lv_at hl 0 rfl) ?_
  refine lv_iload_n hx hb dX8_has_1 rfl (lv_at hl 1 rfl) ?_
  refine lv_ishr hx hb dX8_has_2 ?_
  refine lv_iconst (v := 1) hx hb dX8_has_3 (by decide) ?_
  refine lv_iand hx hb dX8_has_4 ?_
  refine lv_iconst (v := 1) hx hb dX8_has_5 (by decide) ?_
  refine lv_icmp_ne (tgt := 13) hx hb dX8_has_6 (by decide) (fun c1 => ?_) (fun c1 => ?_)
  · replace hr := it_f hr c1
    refine lv_iconst (v := 0) hx hb dX8_has_13 (by decide) ?_
    have he := Option.some.inj hr
    subst he
    subst hQ
    exact ret_z hx hb hrt (show narrow .boolean (.int 0) = .int 0 from rfl) hK hP hD hS hlocks dX8_has_14
  · replace hr := it_t hr c1
    refine lv_iconst (v := 1) hx hb dX8_has_9 (by decide) ?_
    refine lv_goto (tgt := 14) hx hb dX8_has_10 (by decide) ?_
    have he := Option.some.inj hr
    subst he
    subst hQ
    exact ret_z hx hb hrt (show narrow .boolean (.int 1) = .int 1 from rfl) hK hP hD hS hlocks dX8_has_14
def fX0_agreeWith_L2 (K : Nat) (x2 : Int32) (T_told : Int32) (T_ahead : (Nat → Int32)) (T_behind : (Nat → Int32)) (P1_places : (Nat → Int32)) : Nat → Int32 → Option ((Int32) ⊕ (Unit))
  | 0, _ => none
  | n1 + 1, x3 =>
    if T_told ≤ (x3 : Int32) then (
    some (.inr ()))
    else (
    bd1 (fX8_at K 6 x3 T_ahead) fun r =>
    bd1 (fX8_at K 6 x3 T_behind) fun r_1 =>
    bd1 (fX8_has K x2 r) fun r_2 =>
    bs0 (
    if (r_2 : Int32) = 0 then (
    some (.inr ()))
    else (
    bd1 (fX8_has K x2 r_1) fun r_3 =>
    if (r_3 : Int32) = 0 then (
    some (.inr ()))
    else (
    bd1 (fX4_isAhead K r r_1 P1_places) fun r_4 =>
    if (r_4 : Int32) = 0 then (
    some (.inl (.inl 0)))
    else (
    some (.inr ()))))) (
    nm (x3 + 1) fun x3_1 =>
    fX0_agreeWith_L2 K x2 T_told T_ahead T_behind P1_places n1 x3_1))
def fX0_agreeWith (K : Nat) (x2 : Int32) (T_told : Int32) (T_ahead : (Nat → Int32)) (T_behind : (Nat → Int32)) (P1_places : (Nat → Int32)) : Option (Int32) :=
    bs0 (fX0_agreeWith_L2 K x2 T_told T_ahead T_behind P1_places K 0) (
    some 1)
theorem mbX0_agreeWith_0 : Cond.fieldLink RX0 18 "BootsAtDawn$Mornings" "told" "I" ∈ wsX0_agreeWith := List.mem_of_getElem? (i := 1) rfl
theorem inX0_agreeWith_X0 : ∀ w ∈ u_ws RX0 TX0 3, w ∈ wsX0_agreeWith := fun _ h => (List.mem_cons_of_mem _ (List.mem_append_left _ (List.mem_append_right _ h)))
theorem mbX0_agreeWith_2 : Cond.fieldLink RX0 9 "BootsAtDawn$Mornings" "ahead" "[I" ∈ wsX0_agreeWith := List.mem_of_getElem? (i := 2) rfl
theorem mbX0_agreeWith_3 : Cond.initialized RX8 ∈ wsX0_agreeWith := List.mem_of_getElem? (i := 5) rfl
theorem mbX0_agreeWith_4 : Cond.static yX8_at ∈ wsX0_agreeWith := List.mem_of_getElem? (i := 4) rfl
theorem mbX0_agreeWith_5 : Cond.fieldLink RX0 15 "BootsAtDawn$Mornings" "behind" "[I" ∈ wsX0_agreeWith := List.mem_of_getElem? (i := 3) rfl
theorem mbX0_agreeWith_6 : Cond.static yX8_has ∈ wsX0_agreeWith := List.mem_of_getElem? (i := 7) rfl
theorem mbX0_agreeWith_7 : Cond.initialized RX4 ∈ wsX0_agreeWith := List.mem_of_getElem? (i := 10) rfl
theorem mbX0_agreeWith_8 : Cond.instanceMethod yX4_isAhead ∈ wsX0_agreeWith := List.mem_of_getElem? (i := 9) rfl
theorem mbX0_agreeWith_9 : Cond.selects RX4 yX4_isAhead yX4_isAhead ∈ wsX0_agreeWith := List.mem_of_getElem? (i := 11) rfl
abbrev rmX0_agreeWith : Room := { frames := 2, cells := 0, slots := 0, locals := 43 }
set_option maxHeartbeats 8000000 in
set_option maxRecDepth 100000 in
theorem kX0_agreeWith (l : Launch) (dC : Nat → ClassId) (dI : Nat → Nat → Nat) (cC cI cJ : ClassId) (sz : Nat) (K : Nat) (a_T a_T_ahead a_T_behind a_P1 a_P1_order a_P1_places a_P1_times a_P1_waits a_P1_wakings : Nat) (x2 : Int32) (T_told : Int32) (T_ahead : (Nat → Int32)) (T_behind : (Nat → Int32)) (P1_size : Int32) (P1_end : Int32) (P1_places : (Nat → Int32)) (R : Int32) (hr : fX0_agreeWith K x2 T_told T_ahead T_behind P1_places = some R) : Met l yX0_agreeWith wsX0_agreeWith rmX0_agreeWith (va_Pc ([.ref a_T, .ref a_P1, .int x2] : List Value) (PcW (dC, dI) (tysA cC cI cJ) sz [(a_T, .inr (0, [.ref a_T_ahead, .ref a_T_behind, .int T_told])), (a_T_ahead, .inl (cI, 6, .inl T_ahead)), (a_T_behind, .inl (cI, 6, .inl T_behind)), (a_P1, .inr (4, [.ref a_P1_order, .ref a_P1_places, .ref a_P1_times, .ref a_P1_waits, .ref a_P1_wakings, .int P1_size, .int P1_end])), (a_P1_places, .inl (cI, 6, .inl P1_places))])) (va_Qi (fun r (_ : Unit) => r = R) (fun _ => BW (dC, dI) (tysA cC cI cJ) (va_A [(a_T, .inr (0, [.ref a_T_ahead, .ref a_T_behind, .int T_told])), (a_T_ahead, .inl (cI, 6, .inl T_ahead)), (a_T_behind, .inl (cI, 6, .inl T_behind)), (a_P1, .inr (4, [.ref a_P1_order, .ref a_P1_places, .ref a_P1_times, .ref a_P1_waits, .ref a_P1_wakings, .int P1_size, .int P1_end])), (a_P1_places, .inl (cI, 6, .inl P1_places))] sz) [(a_T, .inr (0, [.ref a_T_ahead, .ref a_T_behind, .int T_told])), (a_T_ahead, .inl (cI, 6, .inl T_ahead)), (a_T_behind, .inl (cI, 6, .inl T_behind)), (a_P1, .inr (4, [.ref a_P1_order, .ref a_P1_places, .ref a_P1_times, .ref a_P1_waits, .ref a_P1_wakings, .int P1_size, .int P1_end])), (a_P1_places, .inl (cI, 6, .inl P1_places))]) (va_A [(a_T, .inr (0, [.ref a_T_ahead, .ref a_T_behind, .int T_told])), (a_T_ahead, .inl (cI, 6, .inl T_ahead)), (a_T_behind, .inl (cI, 6, .inl T_behind)), (a_P1, .inr (4, [.ref a_P1_order, .ref a_P1_places, .ref a_P1_times, .ref a_P1_waits, .ref a_P1_wakings, .int P1_size, .int P1_end])), (a_P1_places, .inl (cI, 6, .inl P1_places))] sz)) 0 0 (va_A [(a_T, .inr (0, [.ref a_T_ahead, .ref a_T_behind, .int T_told])), (a_T_ahead, .inl (cI, 6, .inl T_ahead)), (a_T_behind, .inl (cI, 6, .inl T_behind)), (a_P1, .inr (4, [.ref a_P1_order, .ref a_P1_places, .ref a_P1_times, .ref a_P1_waits, .ref a_P1_wakings, .int P1_size, .int P1_end])), (a_P1_places, .inl (cI, 6, .inl P1_places))] sz) := by
  refine Met.ofW (cc := cX0_agreeWith) (maxL := 6) (ret := (some .boolean)) (by decide) rfl ?_
  intro p e s m args below meth c s₁ B hml hv
  obtain ⟨rfl, hsz, hP, hK, hD0, hN⟩ := hv
  have hx := B.exec
  have hb := B.bytes
  have hrt := B.returns
  have hts := atoms_spec (ws := wsX0_agreeWith) B.pre
  have hown : s.vm.findClass RX0 = some m.cls := findClass_of_methodNamed B.named
  have hlocks := B.notSynchronized
  subst hsz
  have hD := hD0.self (sz := s.heap.size)
  generalize hAe : va_A [(a_T, .inr (0, [.ref a_T_ahead, .ref a_T_behind, .int T_told])), (a_T_ahead, .inl (cI, 6, .inl T_ahead)), (a_T_behind, .inl (cI, 6, .inl T_behind)), (a_P1, .inr (4, [.ref a_P1_order, .ref a_P1_places, .ref a_P1_times, .ref a_P1_waits, .ref a_P1_wakings, .int P1_size, .int P1_end])), (a_P1_places, .inl (cI, 6, .inl P1_places))] s.heap.size = A at hD ⊢
  have hA : ∀ q : Nat, s.heap.size ≤ q → A q := fun q h => by rw [← hAe]; exact Or.inr h
  have hS : va_S A s.heap s.heap [] := va_S.rf
  have hl := lv_entry ([.ref a_T, .ref a_P1, .int x2] : List Value) (n := 6) (Nat.le_of_ble_eq_true rfl)
  rw [lg_entry_eq]
  generalize (lg_sl ([.ref a_T, .ref a_P1, .int x2] : List Value) ++ List.replicate (6 - (lg_sl ([.ref a_T, .ref a_P1, .int x2] : List Value)).length) Slot.unset).toArray = ls at hl ⊢
  replace hl : lv_has ls 6 [(0, .ref a_T), (1, .ref a_P1), (2, .int x2)] := hl
  obtain ⟨Q, hQ⟩ : ∃ Q, Q = MQ below (va_Qi (fun r (_ : Unit) => r = R) (fun _ => BW (dC, dI) (tysA cC cI cJ) A [(a_T, .inr (0, [.ref a_T_ahead, .ref a_T_behind, .int T_told])), (a_T_ahead, .inl (cI, 6, .inl T_ahead)), (a_T_behind, .inl (cI, 6, .inl T_behind)), (a_P1, .inr (4, [.ref a_P1_order, .ref a_P1_places, .ref a_P1_times, .ref a_P1_waits, .ref a_P1_wakings, .int P1_size, .int P1_end])), (a_P1_places, .inl (cI, 6, .inl P1_places))]) A) ([.ref a_T, .ref a_P1, .int x2] : List Value).toArray s 0 0 A := ⟨_, rfl⟩
  rw [← hQ]
  suffices hE : WG p l e rmX0_agreeWith s m ([.ref a_T, .ref a_P1, .int x2] : List Value).toArray below meth c 0 0 Q (dC, dI) A 0 6 [(a_T, .inr (0, [.ref a_T_ahead, .ref a_T_behind, .int T_told])), (a_T_ahead, .inl (cI, 6, .inl T_ahead)), (a_T_behind, .inl (cI, 6, .inl T_behind)), (a_P1, .inr (4, [.ref a_P1_order, .ref a_P1_places, .ref a_P1_times, .ref a_P1_waits, .ref a_P1_wakings, .int P1_size, .int P1_end])), (a_P1_places, .inl (cI, 6, .inl P1_places))] [(0, .ref a_T), (1, .ref a_P1), (2, .int x2)] [] from hE _ _ _ hP hD hS hl
  clear hP hD hS hl hD0 hAe
  intro H locs ls hP hD hS hl
  unfold fX0_agreeWith at hr
  refine lv_iconst (v := 0) hx hb dX0_agreeWith_0 (by decide) ?_
  refine lv_istore_n (lv' := [(3, .int 0), (0, .ref a_T), (1, .ref a_P1), (2, .int x2)]) hx hb dX0_agreeWith_1 rfl hl (by decide) rfl (fun ls hl => ?_)
  have hL1 : ∀ (n1 : Nat) (x3 : Int32) (X1 : (Int32) ⊕ (Unit)), fX0_agreeWith_L2 K x2 T_told T_ahead T_behind P1_places n1 x3 = some X1 → (∀ t, X1 = .inl t → t = R) → (X1 = .inr () → WG p l e rmX0_agreeWith s m ([.ref a_T, .ref a_P1, .int x2] : List Value).toArray below meth c 0 0 Q (dC, dI) A 67 6 [(a_T, .inr (0, [.ref a_T_ahead, .ref a_T_behind, .int T_told])), (a_T_ahead, .inl (cI, 6, .inl T_ahead)), (a_T_behind, .inl (cI, 6, .inl T_behind)), (a_P1, .inr (4, [.ref a_P1_order, .ref a_P1_places, .ref a_P1_times, .ref a_P1_waits, .ref a_P1_wakings, .int P1_size, .int P1_end])), (a_P1_places, .inl (cI, 6, .inl P1_places))] [] []) → WG p l e rmX0_agreeWith s m ([.ref a_T, .ref a_P1, .int x2] : List Value).toArray below meth c 0 0 Q (dC, dI) A 2 6 [(a_T, .inr (0, [.ref a_T_ahead, .ref a_T_behind, .int T_told])), (a_T_ahead, .inl (cI, 6, .inl T_ahead)), (a_T_behind, .inl (cI, 6, .inl T_behind)), (a_P1, .inr (4, [.ref a_P1_order, .ref a_P1_places, .ref a_P1_times, .ref a_P1_waits, .ref a_P1_wakings, .int P1_size, .int P1_end])), (a_P1_places, .inl (cI, 6, .inl P1_places))] [(0, .ref a_T), (1, .ref a_P1), (2, .int x2), (3, .int x3)] [] := by
    intro n1
    induction n1 with
    | zero =>
      intro x3 X1 hr
      rw [fX0_agreeWith_L2] at hr
      cases hr
    | succ n1 ih2 =>
      intro x3 X1 hr hi1 hX1 H locs ls hP hD hS hl
      rw [fX0_agreeWith_L2] at hr
      refine lv_iload_n hx hb dX0_agreeWith_2 rfl (lv_at hl 3 rfl) ?_
      refine lv_aload_n hx hb dX0_agreeWith_3 rfl (lv_at hl 0 rfl) ?_
      refine va_get (D := (dC, dI)) (ci := 0) (v := .int T_told) (C := RX0) (T := TX0) (N := 3) hx hb hts inX0_agreeWith_X0 hown hK hP 0 rfl rfl 2 (by decide) (hts _ mbX0_agreeWith_0) (fun _ h9 => h9) rfl dX0_agreeWith_4 ?_
      refine lv_icmp_ge (tgt := 67) hx hb dX0_agreeWith_7 (by decide) (fun c1 => ?_) (fun c1 => ?_)
      · replace hr := it_t hr c1
        have he := Option.some.inj hr
        exact hX1 he.symm H locs ls hP hD hS (lv_sub hl [] rfl)
      · replace hr := it_f hr c1
        refine lv_aload_n hx hb dX0_agreeWith_10 rfl (lv_at hl 0 rfl) ?_
        refine va_get (D := (dC, dI)) (ci := 0) (v := .ref a_T_ahead) (C := RX0) (T := TX0) (N := 3) hx hb hts inX0_agreeWith_X0 hown hK hP 0 rfl rfl 0 (by decide) (hts _ mbX0_agreeWith_2) (fun _ h9 => h9) rfl dX0_agreeWith_11 ?_
        refine lv_iload_n hx hb dX0_agreeWith_14 rfl (lv_at hl 3 rfl) ?_
        obtain ⟨r, hc1, hr⟩ := bd1_some hr
        refine call_i (D := (dC, dI)) (tys := tysA cC cI cJ) (wc := [(a_T_ahead, .inl (cI, 6, .inl T_ahead))]) (wr := [(a_T, .inr (0, [.ref a_T_ahead, .ref a_T_behind, .int T_told])), (a_T_behind, .inl (cI, 6, .inl T_behind)), (a_P1, .inr (4, [.ref a_P1_order, .ref a_P1_places, .ref a_P1_times, .ref a_P1_waits, .ref a_P1_wakings, .int P1_size, .int P1_end])), (a_P1_places, .inl (cI, 6, .inl P1_places))]) (w1 := [(a_T_ahead, .inl (cI, 6, .inl T_ahead))]) (wn := [(a_T, .inr (0, [.ref a_T_ahead, .ref a_T_behind, .int T_told])), (a_T_ahead, .inl (cI, 6, .inl T_ahead)), (a_T_behind, .inl (cI, 6, .inl T_behind)), (a_P1, .inr (4, [.ref a_P1_order, .ref a_P1_places, .ref a_P1_times, .ref a_P1_waits, .ref a_P1_wakings, .int P1_size, .int P1_end])), (a_P1_places, .inl (cI, 6, .inl P1_places))]) (r0 := r) hP hD hS hA [1] [0, 2, 3, 4] [0, 4, 1, 2, 3] rfl rfl (by decide +kernel) (by decide +kernel) rfl (by decide +kernel) (va_runSN (host := "BootsAtDawn") (As := [.ref a_T_ahead, .int x3]) (rest := []) ⟨hx, hb, hml, hown, hts⟩ (kX8_at l dC dI cC cI cJ H.size K a_T_ahead 6 x3 T_ahead r hc1) ⟨va_cnB 2 hts gX0_agreeWith_X8_at_n26 rfl rfl rfl (hN _ nw_89) (hts _ mbX0_agreeWith_3) (by decide +kernel) ⟨Nat.le_of_ble_eq_true rfl, Nat.le_of_ble_eq_true rfl⟩, (hts _ mbX0_agreeWith_4), trivial⟩ ⟨fbW, preW hP hD hK hN [1] rfl (by decide +kernel)⟩ rfl rfl hl.1 rfl (lv_room (Nat.le_of_ble_eq_true rfl)) dX0_agreeWith_15 ⟨Nat.zero_le _, Nat.zero_le _⟩) (fun H locs hP hD hS => ?_)
        refine lv_istore (lv' := [(4, .int r), (0, .ref a_T), (1, .ref a_P1), (2, .int x2), (3, .int x3)]) hx hb dX0_agreeWith_18 hl (by decide) rfl (fun ls hl => ?_)
        refine lv_aload_n hx hb dX0_agreeWith_20 rfl (lv_at hl 1 rfl) ?_
        refine va_get (D := (dC, dI)) (ci := 0) (v := .ref a_T_behind) (C := RX0) (T := TX0) (N := 3) hx hb hts inX0_agreeWith_X0 hown hK hP 0 rfl rfl 1 (by decide) (hts _ mbX0_agreeWith_5) (fun _ h9 => h9) rfl dX0_agreeWith_21 ?_
        refine lv_iload_n hx hb dX0_agreeWith_24 rfl (lv_at hl 4 rfl) ?_
        obtain ⟨r_1, hc2, hr⟩ := bd1_some hr
        refine call_i (D := (dC, dI)) (tys := tysA cC cI cJ) (wc := [(a_T_behind, .inl (cI, 6, .inl T_behind))]) (wr := [(a_T, .inr (0, [.ref a_T_ahead, .ref a_T_behind, .int T_told])), (a_T_ahead, .inl (cI, 6, .inl T_ahead)), (a_P1, .inr (4, [.ref a_P1_order, .ref a_P1_places, .ref a_P1_times, .ref a_P1_waits, .ref a_P1_wakings, .int P1_size, .int P1_end])), (a_P1_places, .inl (cI, 6, .inl P1_places))]) (w1 := [(a_T_behind, .inl (cI, 6, .inl T_behind))]) (wn := [(a_T, .inr (0, [.ref a_T_ahead, .ref a_T_behind, .int T_told])), (a_T_ahead, .inl (cI, 6, .inl T_ahead)), (a_T_behind, .inl (cI, 6, .inl T_behind)), (a_P1, .inr (4, [.ref a_P1_order, .ref a_P1_places, .ref a_P1_times, .ref a_P1_waits, .ref a_P1_wakings, .int P1_size, .int P1_end])), (a_P1_places, .inl (cI, 6, .inl P1_places))]) (r0 := r_1) hP hD hS hA [2] [0, 1, 3, 4] [0, 1, 4, 2, 3] rfl rfl (by decide +kernel) (by decide +kernel) rfl (by decide +kernel) (va_runSN (host := "BootsAtDawn") (As := [.ref a_T_behind, .int x3]) (rest := []) ⟨hx, hb, hml, hown, hts⟩ (kX8_at l dC dI cC cI cJ H.size K a_T_behind 6 x3 T_behind r_1 hc2) ⟨va_cnB 2 hts gX0_agreeWith_X8_at_n26 rfl rfl rfl (hN _ nw_89) (hts _ mbX0_agreeWith_3) (by decide +kernel) ⟨Nat.le_of_ble_eq_true rfl, Nat.le_of_ble_eq_true rfl⟩, (hts _ mbX0_agreeWith_4), trivial⟩ ⟨fbW, preW hP hD hK hN [2] rfl (by decide +kernel)⟩ rfl rfl hl.1 rfl (lv_room (Nat.le_of_ble_eq_true rfl)) dX0_agreeWith_25 ⟨Nat.zero_le _, Nat.zero_le _⟩) (fun H locs hP hD hS => ?_)
        refine lv_istore (lv' := [(5, .int r_1), (4, .int r), (0, .ref a_T), (1, .ref a_P1), (2, .int x2), (3, .int x3)]) hx hb dX0_agreeWith_28 hl (by decide) rfl (fun ls hl => ?_)
        refine lv_iload_n hx hb dX0_agreeWith_30 rfl (lv_at hl 4 rfl) ?_
        refine lv_iload hx hb dX0_agreeWith_31 (lv_at hl 1 rfl) ?_
        obtain ⟨r_2, hc3, hr⟩ := bd1_some hr
        refine call_i (D := (dC, dI)) (tys := tysA cC cI cJ) (wc := []) (wr := [(a_T, .inr (0, [.ref a_T_ahead, .ref a_T_behind, .int T_told])), (a_T_ahead, .inl (cI, 6, .inl T_ahead)), (a_T_behind, .inl (cI, 6, .inl T_behind)), (a_P1, .inr (4, [.ref a_P1_order, .ref a_P1_places, .ref a_P1_times, .ref a_P1_waits, .ref a_P1_wakings, .int P1_size, .int P1_end])), (a_P1_places, .inl (cI, 6, .inl P1_places))]) (w1 := []) (wn := [(a_T, .inr (0, [.ref a_T_ahead, .ref a_T_behind, .int T_told])), (a_T_ahead, .inl (cI, 6, .inl T_ahead)), (a_T_behind, .inl (cI, 6, .inl T_behind)), (a_P1, .inr (4, [.ref a_P1_order, .ref a_P1_places, .ref a_P1_times, .ref a_P1_waits, .ref a_P1_wakings, .int P1_size, .int P1_end])), (a_P1_places, .inl (cI, 6, .inl P1_places))]) (r0 := r_2) hP hD hS hA [] [0, 1, 2, 3, 4] [0, 1, 2, 3, 4] rfl rfl (by decide +kernel) (by decide +kernel) rfl (by decide +kernel) (va_runSN (host := "BootsAtDawn") (As := [.int x2, .int r]) (rest := []) ⟨hx, hb, hml, hown, hts⟩ (kX8_has l dC dI cC cI cJ H.size K x2 r r_2 hc3) ⟨va_cnB 2 hts gX0_agreeWith_X8_has_n30 rfl rfl rfl (hN _ nw_90) (hts _ mbX0_agreeWith_3) (by decide +kernel) ⟨Nat.le_of_ble_eq_true rfl, Nat.le_of_ble_eq_true rfl⟩, (hts _ mbX0_agreeWith_6), trivial⟩ ⟨fbW, preW hP hD hK hN [] rfl (by decide +kernel)⟩ rfl rfl hl.1 rfl (lv_room (Nat.le_of_ble_eq_true rfl)) dX0_agreeWith_33 ⟨Nat.zero_le _, Nat.zero_le _⟩) (fun H locs hP hD hS => ?_)
        obtain ⟨X2, hj, hi2, hk⟩ := bs0_some hr
        have hJ1 : X2 = .inr () → WG p l e rmX0_agreeWith s m ([.ref a_T, .ref a_P1, .int x2] : List Value).toArray below meth c 0 0 Q (dC, dI) A 61 6 [(a_T, .inr (0, [.ref a_T_ahead, .ref a_T_behind, .int T_told])), (a_T_ahead, .inl (cI, 6, .inl T_ahead)), (a_T_behind, .inl (cI, 6, .inl T_behind)), (a_P1, .inr (4, [.ref a_P1_order, .ref a_P1_places, .ref a_P1_times, .ref a_P1_waits, .ref a_P1_wakings, .int P1_size, .int P1_end])), (a_P1_places, .inl (cI, 6, .inl P1_places))] [(0, .ref a_T), (1, .ref a_P1), (2, .int x2), (3, .int x3)] [] := by
          intro he
          replace hr := hk he
          intro H locs ls hP hD hS hl
          obtain ⟨x3_1, e1, hr⟩ := nm_el hr
          refine lv_iinc (v := x3_1) (lv' := [(3, .int x3_1), (0, .ref a_T), (1, .ref a_P1), (2, .int x2)]) hx hb dX0_agreeWith_61 hl (k := 3) rfl e1.symm (by decide) rfl (fun ls hl => ?_)
          refine lv_goto (tgt := 2) hx hb dX0_agreeWith_64 (by decide) ?_
          exact ih2 _ _ hr hi1 hX1 H locs ls hP hD hS (lv_sub hl [1, 2, 3, 0] rfl)
        replace hr := hj
        refine lv_if_eq (tgt := 61) hx hb dX0_agreeWith_36 (by decide) (fun c2 => ?_) (fun c2 => ?_)
        · replace hr := it_t hr c2
          exact hJ1 (Option.some.inj hr).symm H locs ls hP hD hS (lv_sub hl [2, 3, 4, 5] rfl)
        · replace hr := it_f hr c2
          refine lv_iload_n hx hb dX0_agreeWith_39 rfl (lv_at hl 4 rfl) ?_
          refine lv_iload hx hb dX0_agreeWith_40 (lv_at hl 0 rfl) ?_
          obtain ⟨r_3, hc4, hr⟩ := bd1_some hr
          refine call_i (D := (dC, dI)) (tys := tysA cC cI cJ) (wc := []) (wr := [(a_T, .inr (0, [.ref a_T_ahead, .ref a_T_behind, .int T_told])), (a_T_ahead, .inl (cI, 6, .inl T_ahead)), (a_T_behind, .inl (cI, 6, .inl T_behind)), (a_P1, .inr (4, [.ref a_P1_order, .ref a_P1_places, .ref a_P1_times, .ref a_P1_waits, .ref a_P1_wakings, .int P1_size, .int P1_end])), (a_P1_places, .inl (cI, 6, .inl P1_places))]) (w1 := []) (wn := [(a_T, .inr (0, [.ref a_T_ahead, .ref a_T_behind, .int T_told])), (a_T_ahead, .inl (cI, 6, .inl T_ahead)), (a_T_behind, .inl (cI, 6, .inl T_behind)), (a_P1, .inr (4, [.ref a_P1_order, .ref a_P1_places, .ref a_P1_times, .ref a_P1_waits, .ref a_P1_wakings, .int P1_size, .int P1_end])), (a_P1_places, .inl (cI, 6, .inl P1_places))]) (r0 := r_3) hP hD hS hA [] [0, 1, 2, 3, 4] [0, 1, 2, 3, 4] rfl rfl (by decide +kernel) (by decide +kernel) rfl (by decide +kernel) (va_runSN (host := "BootsAtDawn") (As := [.int x2, .int r_1]) (rest := []) ⟨hx, hb, hml, hown, hts⟩ (kX8_has l dC dI cC cI cJ H.size K x2 r_1 r_3 hc4) ⟨va_cnB 2 hts gX0_agreeWith_X8_has_n30 rfl rfl rfl (hN _ nw_90) (hts _ mbX0_agreeWith_3) (by decide +kernel) ⟨Nat.le_of_ble_eq_true rfl, Nat.le_of_ble_eq_true rfl⟩, (hts _ mbX0_agreeWith_6), trivial⟩ ⟨fbW, preW hP hD hK hN [] rfl (by decide +kernel)⟩ rfl rfl hl.1 rfl (lv_room (Nat.le_of_ble_eq_true rfl)) dX0_agreeWith_42 ⟨Nat.zero_le _, Nat.zero_le _⟩) (fun H locs hP hD hS => ?_)
          refine lv_if_eq (tgt := 61) hx hb dX0_agreeWith_45 (by decide) (fun c3 => ?_) (fun c3 => ?_)
          · replace hr := it_t hr c3
            exact hJ1 (Option.some.inj hr).symm H locs ls hP hD hS (lv_sub hl [2, 3, 4, 5] rfl)
          · replace hr := it_f hr c3
            refine lv_aload_n hx hb dX0_agreeWith_48 rfl (lv_at hl 3 rfl) ?_
            refine lv_iload hx hb dX0_agreeWith_49 (lv_at hl 1 rfl) ?_
            refine lv_iload hx hb dX0_agreeWith_51 (lv_at hl 0 rfl) ?_
            obtain ⟨r_4, hc5, hr⟩ := bd1_some hr
            refine call_i (D := (dC, dI)) (tys := tysA cC cI cJ) (wc := [(a_P1, .inr (4, [.ref a_P1_order, .ref a_P1_places, .ref a_P1_times, .ref a_P1_waits, .ref a_P1_wakings, .int P1_size, .int P1_end])), (a_P1_places, .inl (cI, 6, .inl P1_places))]) (wr := [(a_T, .inr (0, [.ref a_T_ahead, .ref a_T_behind, .int T_told])), (a_T_ahead, .inl (cI, 6, .inl T_ahead)), (a_T_behind, .inl (cI, 6, .inl T_behind))]) (w1 := [(a_P1, .inr (4, [.ref a_P1_order, .ref a_P1_places, .ref a_P1_times, .ref a_P1_waits, .ref a_P1_wakings, .int P1_size, .int P1_end])), (a_P1_places, .inl (cI, 6, .inl P1_places))]) (wn := [(a_T, .inr (0, [.ref a_T_ahead, .ref a_T_behind, .int T_told])), (a_T_ahead, .inl (cI, 6, .inl T_ahead)), (a_T_behind, .inl (cI, 6, .inl T_behind)), (a_P1, .inr (4, [.ref a_P1_order, .ref a_P1_places, .ref a_P1_times, .ref a_P1_waits, .ref a_P1_wakings, .int P1_size, .int P1_end])), (a_P1_places, .inl (cI, 6, .inl P1_places))]) (r0 := r_4) hP hD hS hA [3, 4] [0, 1, 2] [0, 1, 2, 3, 4] rfl rfl (by decide +kernel) (by decide +kernel) rfl (by decide +kernel) (va_runVN (C := RX4) (host := "BootsAtDawn") (As := [.int r, .int r_1]) (rest := []) ⟨hx, hb, hml, hown, hts⟩ (kX4_isAhead l dC dI cC cI cJ H.size K a_P1 a_P1_order a_P1_places a_P1_times a_P1_waits a_P1_wakings r r_1 P1_size P1_end P1_places r_4 hc5) ⟨va_cnB 2 hts gX0_agreeWith_X4_isAhead_n34 rfl rfl rfl (hN _ nw_91) (hts _ mbX0_agreeWith_7) (by decide +kernel) ⟨Nat.le_of_ble_eq_true rfl, Nat.le_of_ble_eq_true rfl⟩, (hts _ mbX0_agreeWith_8), (hts _ mbX0_agreeWith_9)⟩ ⟨fbW, va_recv hK hP (ci := 4) (q0 := 3) rfl rfl, preW hP hD hK hN [3, 4] rfl (by decide +kernel)⟩ rfl rfl hl.1 rfl (lv_room (Nat.le_of_ble_eq_true rfl)) dX0_agreeWith_53 ⟨Nat.zero_le _, Nat.zero_le _⟩) (fun H locs hP hD hS => ?_)
            refine lv_if_ne (tgt := 61) hx hb dX0_agreeWith_56 (by decide) (fun c4 => ?_) (fun c4 => ?_)
            · replace hr := it_f hr c4
              exact hJ1 (Option.some.inj hr).symm H locs ls hP hD hS (lv_sub hl [2, 3, 4, 5] rfl)
            · replace hr := it_t hr c4
              refine lv_iconst (v := 0) hx hb dX0_agreeWith_59 (by decide) ?_
              have he := Option.some.inj hr
              replace he := hi2 _ he.symm
              replace he := hi1 _ he.symm
              subst he
              subst hQ
              exact ret_z hx hb hrt (show narrow .boolean (.int 0) = .int 0 from rfl) hK hP hD hS hlocks dX0_agreeWith_60
  obtain ⟨XE, hE, hi0, hk⟩ := bs0_some hr
  refine hL1 K 0 XE hE hi0 ?_ H locs ls hP hD hS (lv_sub hl [1, 2, 3, 0] rfl)
  intro he H locs ls hP hD hS hl
  replace hr := hk he
  refine lv_iconst (v := 1) hx hb dX0_agreeWith_67 (by decide) ?_
  have he := Option.some.inj hr
  subst he
  subst hQ
  exact ret_z hx hb hrt (show narrow .boolean (.int 1) = .int 1 from rfl) hK hP hD hS hlocks dX0_agreeWith_68
def fX8_copy_L2 (K : Nat) (n_P0 : Nat) (n_P1 : Nat) (P0 : (Nat → Int32)) : Nat → Int32 → (Nat → Int32) → Option ((Nat → Int32))
  | 0, _, _ => none
  | n1 + 1, x2, P1_1 =>
    if (nI n_P0) ≤ (x2 : Int32) then (
    some P1_1)
    else (
    if (nI n_P1) ≤ (x2 : Int32) then (
    some P1_1)
    else (
    gd (¬ ((x2 : Int32) < 0 ∨ n_P0 ≤ x2.toNatClampNeg)) (
    gd (¬ ((x2 : Int32) < 0 ∨ n_P1 ≤ x2.toNatClampNeg)) (
    nm (upd P1_1 x2.toNatClampNeg (P0 x2.toNatClampNeg)) fun P1_3 =>
    nm (x2 + 1) fun x2_1 =>
    fX8_copy_L2 K n_P0 n_P1 P0 n1 x2_1 P1_3))))
def fX8_copy (K : Nat) (n_P0 : Nat) (n_P1 : Nat) (P0 : (Nat → Int32)) (P1 : (Nat → Int32)) : Option ((Nat → Int32)) :=
    bd1 (fX8_copy_L2 K n_P0 n_P1 P0 K 0 P1) fun P1_2 =>
    some P1_2
abbrev rmX8_copy : Room := { frames := 0, cells := 0, slots := 0, locals := 0 }
set_option maxHeartbeats 8000000 in
set_option maxRecDepth 100000 in
theorem kX8_copy (l : Launch) (dC : Nat → ClassId) (dI : Nat → Nat → Nat) (cC cI cJ : ClassId) (sz : Nat) (K : Nat) (a_P0 a_P1 : Nat) (n_P0 : Nat) (n_P1 : Nat) (P0 : (Nat → Int32)) (P1 : (Nat → Int32)) (R : (Nat → Int32)) (hr : fX8_copy K n_P0 n_P1 P0 P1 = some R) : Met l yX8_copy wsX8_copy rmX8_copy (va_Pc ([.ref a_P0, .ref a_P1] : List Value) (PcW (dC, dI) (tysA cC cI cJ) sz [(a_P0, .inl (cI, n_P0, .inl P0)), (a_P1, .inl (cI, n_P1, .inl P1))])) (va_Qv (fun (_ : Unit) => True) (fun _ => BW (dC, dI) (tysA cC cI cJ) (va_A [(a_P0, .inl (cI, n_P0, .inl P0)), (a_P1, .inl (cI, n_P1, .inl P1))] sz) [(a_P0, .inl (cI, n_P0, .inl P0)), (a_P1, .inl (cI, n_P1, .inl R))]) (va_A [(a_P0, .inl (cI, n_P0, .inl P0)), (a_P1, .inl (cI, n_P1, .inl P1))] sz)) 0 0 (va_A [(a_P0, .inl (cI, n_P0, .inl P0)), (a_P1, .inl (cI, n_P1, .inl P1))] sz) := by
  refine Met.ofW (cc := cX8_copy) (maxL := 3) (ret := none) (by decide) rfl ?_
  intro p e s m args below meth c s₁ B hml hv
  obtain ⟨rfl, hsz, hP, hK, hD0, hN⟩ := hv
  have hx := B.exec
  have hb := B.bytes
  have hrt := B.returns
  have hts := atoms_spec (ws := wsX8_copy) B.pre
  have hown : s.vm.findClass RX8 = some m.cls := findClass_of_methodNamed B.named
  have hlocks := B.notSynchronized
  subst hsz
  have hD := hD0.self (sz := s.heap.size)
  generalize hAe : va_A [(a_P0, .inl (cI, n_P0, .inl P0)), (a_P1, .inl (cI, n_P1, .inl P1))] s.heap.size = A at hD ⊢
  have hA : ∀ q : Nat, s.heap.size ≤ q → A q := fun q h => by rw [← hAe]; exact Or.inr h
  have hS : va_S A s.heap s.heap [] := va_S.rf
  have hl := lv_entry ([.ref a_P0, .ref a_P1] : List Value) (n := 3) (Nat.le_of_ble_eq_true rfl)
  rw [lg_entry_eq]
  generalize (lg_sl ([.ref a_P0, .ref a_P1] : List Value) ++ List.replicate (3 - (lg_sl ([.ref a_P0, .ref a_P1] : List Value)).length) Slot.unset).toArray = ls at hl ⊢
  replace hl : lv_has ls 3 [(0, .ref a_P0), (1, .ref a_P1)] := hl
  obtain ⟨Q, hQ⟩ : ∃ Q, Q = MQ below (va_Qv (fun (_ : Unit) => True) (fun _ => BW (dC, dI) (tysA cC cI cJ) A [(a_P0, .inl (cI, n_P0, .inl P0)), (a_P1, .inl (cI, n_P1, .inl R))]) A) ([.ref a_P0, .ref a_P1] : List Value).toArray s 0 0 A := ⟨_, rfl⟩
  rw [← hQ]
  suffices hE : WG p l e rmX8_copy s m ([.ref a_P0, .ref a_P1] : List Value).toArray below meth c 0 0 Q (dC, dI) A 0 3 [(a_P0, .inl (cI, n_P0, .inl P0)), (a_P1, .inl (cI, n_P1, .inl P1))] [(0, .ref a_P0), (1, .ref a_P1)] [] from hE _ _ _ hP hD hS hl
  clear hP hD hS hl hD0 hAe
  intro H locs ls hP hD hS hl
  unfold fX8_copy at hr
  refine lv_iconst (v := 0) hx hb dX8_copy_0 (by decide) ?_
  refine lv_istore_n (lv' := [(2, .int 0), (0, .ref a_P0), (1, .ref a_P1)]) hx hb dX8_copy_1 rfl hl (by decide) rfl (fun ls hl => ?_)
  have hL1 : ∀ (n1 : Nat) (x2 : Int32) (P1_1 : (Nat → Int32)) (P1_2 : (Nat → Int32)), fX8_copy_L2 K n_P0 n_P1 P0 n1 x2 P1_1 = some P1_2 → WG p l e rmX8_copy s m ([.ref a_P0, .ref a_P1] : List Value).toArray below meth c 0 0 Q (dC, dI) A 26 3 [(a_P0, .inl (cI, n_P0, .inl P0)), (a_P1, .inl (cI, n_P1, .inl P1_2))] [] [] → WG p l e rmX8_copy s m ([.ref a_P0, .ref a_P1] : List Value).toArray below meth c 0 0 Q (dC, dI) A 2 3 [(a_P0, .inl (cI, n_P0, .inl P0)), (a_P1, .inl (cI, n_P1, .inl P1_1))] [(0, .ref a_P0), (1, .ref a_P1), (2, .int x2)] [] := by
    intro n1
    induction n1 with
    | zero =>
      intro x2 P1_1 P1_2 hr
      rw [fX8_copy_L2] at hr
      cases hr
    | succ n1 ih2 =>
      intro x2 P1_1 P1_2 hr hX1 H locs ls hP hD hS hl
      rw [fX8_copy_L2] at hr
      refine lv_iload_n hx hb dX8_copy_2 rfl (lv_at hl 2 rfl) ?_
      refine lv_aload_n hx hb dX8_copy_3 rfl (lv_at hl 0 rfl) ?_
      refine va_alen (v := nI n_P0) hx hb hK hP 0 1 rfl rfl rfl dX8_copy_4 ?_
      refine lv_icmp_ge (tgt := 26) hx hb dX8_copy_5 (by decide) (fun c1 => ?_) (fun c1 => ?_)
      · replace hr := it_t hr c1
        have he := Option.some.inj hr
        cases he
        exact hX1 H locs ls hP hD hS (lv_sub hl [] rfl)
      · replace hr := it_f hr c1
        refine lv_iload_n hx hb dX8_copy_8 rfl (lv_at hl 2 rfl) ?_
        refine lv_aload_n hx hb dX8_copy_9 rfl (lv_at hl 1 rfl) ?_
        refine va_alen (v := nI n_P1) hx hb hK hP 1 1 rfl rfl rfl dX8_copy_10 ?_
        refine lv_icmp_ge (tgt := 26) hx hb dX8_copy_11 (by decide) (fun c2 => ?_) (fun c2 => ?_)
        · replace hr := it_t hr c2
          have he := Option.some.inj hr
          cases he
          exact hX1 H locs ls hP hD hS (lv_sub hl [] rfl)
        · replace hr := it_f hr c2
          refine lv_aload_n hx hb dX8_copy_14 rfl (lv_at hl 1 rfl) ?_
          refine lv_iload_n hx hb dX8_copy_15 rfl (lv_at hl 2 rfl) ?_
          refine lv_aload_n hx hb dX8_copy_16 rfl (lv_at hl 0 rfl) ?_
          refine lv_iload_n hx hb dX8_copy_17 rfl (lv_at hl 2 rfl) ?_
          obtain ⟨g1, hr⟩ := gd_some hr
          refine va_iald hx hb hK hP 0 1 rfl rfl g1 dX8_copy_18 ?_
          obtain ⟨g2, hr⟩ := gd_some hr
          obtain ⟨P1_3, e1, hr⟩ := nm_el hr
          refine va_iast hx hb hK hP hD hS 1 1 rfl rfl g2 dX8_copy_19 (fun H locs hP hD hS => ?_)
          rw [← e1] at hP hD
          replace hP : va_P (dC, dI) vwCl [(a_P0, .inl (cI, n_P0, .inl P0)), (a_P1, .inl (cI, n_P1, .inl P1_3))] H := hP
          replace hD : va_D A [(a_P0, .inl (cI, n_P0, .inl P0)), (a_P1, .inl (cI, n_P1, .inl P1_3))] := hD
          obtain ⟨x2_1, e2, hr⟩ := nm_el hr
          refine lv_iinc (v := x2_1) (lv' := [(2, .int x2_1), (0, .ref a_P0), (1, .ref a_P1)]) hx hb dX8_copy_20 hl (k := 2) rfl e2.symm (by decide) rfl (fun ls hl => ?_)
          refine lv_goto (tgt := 2) hx hb dX8_copy_23 (by decide) ?_
          exact ih2 _ _ _ hr hX1 H locs ls hP hD hS (lv_sub hl [1, 2, 0] rfl)
  obtain ⟨P1_2, hE, hr⟩ := bd1_some hr
  refine hL1 K 0 P1 P1_2 hE ?_ H locs ls hP hD hS (lv_sub hl [1, 2, 0] rfl)
  intro H locs ls hP hD hS hl
  have he := Option.some.inj hr
  subst he
  subst hQ
  exact ret_v hx hb hrt hK hP hD hS hlocks dX8_copy_26
def fX1_begin (K : Nat) (T_here : Int32) (T_struck : Int32) (T_slate_guests : Int32) (T_slate_guestFloor : (Nat → Int32)) (T_floors : (Nat → Int32)) : Option (Int32 × Int32 × (Nat → Int32)) :=
    bd1 (fX8_copy K 6 6 T_slate_guestFloor T_floors) fun T_floors_1 =>
    nm ((1 <<< (T_slate_guests &&& 31)) - 1) fun T_here_1 =>
    some (T_here_1, 0, T_floors_1)
theorem mbX1_begin_0 : Cond.fieldLink RX1 15 "BootsAtDawn$Night" "slate" "LBootsAtDawn$Slate;" ∈ wsX1_begin := List.mem_of_getElem? (i := 1) rfl
theorem inX1_begin_X1 : ∀ w ∈ u_ws RX1 TX1 4, w ∈ wsX1_begin := fun _ h => (List.mem_cons_of_mem _ (List.mem_append_left _ (List.mem_append_right _ h)))
theorem inX1_begin_X5 : ∀ w ∈ u_ws RX5 TX5 9, w ∈ wsX1_begin := fun _ h => (List.mem_cons_of_mem _ (List.mem_append_right _ h))
theorem mbX1_begin_3 : Cond.fieldLink RX1 9 "BootsAtDawn$Night" "floors" "[I" ∈ wsX1_begin := List.mem_of_getElem? (i := 2) rfl
theorem mbX1_begin_4 : Cond.initialized RX8 ∈ wsX1_begin := List.mem_of_getElem? (i := 6) rfl
theorem mbX1_begin_5 : Cond.static yX8_copy ∈ wsX1_begin := List.mem_of_getElem? (i := 5) rfl
theorem mbX1_begin_6 : Cond.fieldLink RX1 32 "BootsAtDawn$Night" "here" "I" ∈ wsX1_begin := List.mem_of_getElem? (i := 3) rfl
theorem mbX1_begin_7 : Cond.fieldLink RX1 35 "BootsAtDawn$Night" "struck" "I" ∈ wsX1_begin := List.mem_of_getElem? (i := 4) rfl
abbrev rmX1_begin : Room := { frames := 1, cells := 0, slots := 0, locals := 22 }
set_option maxHeartbeats 8000000 in
set_option maxRecDepth 100000 in
theorem kX1_begin (l : Launch) (dC : Nat → ClassId) (dI : Nat → Nat → Nat) (cC cI cJ : ClassId) (sz : Nat) (K : Nat) (a_T a_T_slate a_T_floors a_T_slate_guestKind a_T_slate_guestFloor a_T_slate_wishKind a_T_slate_wishA a_T_slate_wishB a_T_slate_wishNames : Nat) (T_here : Int32) (T_struck : Int32) (T_slate_guests : Int32) (T_slate_wishes : Int32) (T_slate_start : Int32) (T_slate_guestFloor : (Nat → Int32)) (T_floors : (Nat → Int32)) (R : Int32 × Int32 × (Nat → Int32)) (hr : fX1_begin K T_here T_struck T_slate_guests T_slate_guestFloor T_floors = some R) : Met l yX1_begin wsX1_begin rmX1_begin (va_Pc ([.ref a_T] : List Value) (PcW (dC, dI) (tysA cC cI cJ) sz [(a_T, .inr (1, [.ref a_T_slate, .ref a_T_floors, .int T_here, .int T_struck])), (a_T_slate, .inr (5, [.ref a_T_slate_guestKind, .ref a_T_slate_guestFloor, .ref a_T_slate_wishKind, .ref a_T_slate_wishA, .ref a_T_slate_wishB, .ref a_T_slate_wishNames, .int T_slate_guests, .int T_slate_wishes, .int T_slate_start])), (a_T_slate_guestFloor, .inl (cI, 6, .inl T_slate_guestFloor)), (a_T_floors, .inl (cI, 6, .inl T_floors))])) (va_Qv (fun (_ : Unit) => True) (fun _ => BW (dC, dI) (tysA cC cI cJ) (va_A [(a_T, .inr (1, [.ref a_T_slate, .ref a_T_floors, .int T_here, .int T_struck])), (a_T_slate, .inr (5, [.ref a_T_slate_guestKind, .ref a_T_slate_guestFloor, .ref a_T_slate_wishKind, .ref a_T_slate_wishA, .ref a_T_slate_wishB, .ref a_T_slate_wishNames, .int T_slate_guests, .int T_slate_wishes, .int T_slate_start])), (a_T_slate_guestFloor, .inl (cI, 6, .inl T_slate_guestFloor)), (a_T_floors, .inl (cI, 6, .inl T_floors))] sz) [(a_T, .inr (1, [.ref a_T_slate, .ref a_T_floors, .int R.1, .int R.2.1])), (a_T_slate, .inr (5, [.ref a_T_slate_guestKind, .ref a_T_slate_guestFloor, .ref a_T_slate_wishKind, .ref a_T_slate_wishA, .ref a_T_slate_wishB, .ref a_T_slate_wishNames, .int T_slate_guests, .int T_slate_wishes, .int T_slate_start])), (a_T_slate_guestFloor, .inl (cI, 6, .inl T_slate_guestFloor)), (a_T_floors, .inl (cI, 6, .inl R.2.2))]) (va_A [(a_T, .inr (1, [.ref a_T_slate, .ref a_T_floors, .int T_here, .int T_struck])), (a_T_slate, .inr (5, [.ref a_T_slate_guestKind, .ref a_T_slate_guestFloor, .ref a_T_slate_wishKind, .ref a_T_slate_wishA, .ref a_T_slate_wishB, .ref a_T_slate_wishNames, .int T_slate_guests, .int T_slate_wishes, .int T_slate_start])), (a_T_slate_guestFloor, .inl (cI, 6, .inl T_slate_guestFloor)), (a_T_floors, .inl (cI, 6, .inl T_floors))] sz)) 0 0 (va_A [(a_T, .inr (1, [.ref a_T_slate, .ref a_T_floors, .int T_here, .int T_struck])), (a_T_slate, .inr (5, [.ref a_T_slate_guestKind, .ref a_T_slate_guestFloor, .ref a_T_slate_wishKind, .ref a_T_slate_wishA, .ref a_T_slate_wishB, .ref a_T_slate_wishNames, .int T_slate_guests, .int T_slate_wishes, .int T_slate_start])), (a_T_slate_guestFloor, .inl (cI, 6, .inl T_slate_guestFloor)), (a_T_floors, .inl (cI, 6, .inl T_floors))] sz) := by
  refine Met.ofW (cc := cX1_begin) (maxL := 1) (ret := none) (by decide) rfl ?_
  intro p e s m args below meth c s₁ B hml hv
  obtain ⟨rfl, hsz, hP, hK, hD0, hN⟩ := hv
  have hx := B.exec
  have hb := B.bytes
  have hrt := B.returns
  have hts := atoms_spec (ws := wsX1_begin) B.pre
  have hown : s.vm.findClass RX1 = some m.cls := findClass_of_methodNamed B.named
  have hlocks := B.notSynchronized
  subst hsz
  have hD := hD0.self (sz := s.heap.size)
  generalize hAe : va_A [(a_T, .inr (1, [.ref a_T_slate, .ref a_T_floors, .int T_here, .int T_struck])), (a_T_slate, .inr (5, [.ref a_T_slate_guestKind, .ref a_T_slate_guestFloor, .ref a_T_slate_wishKind, .ref a_T_slate_wishA, .ref a_T_slate_wishB, .ref a_T_slate_wishNames, .int T_slate_guests, .int T_slate_wishes, .int T_slate_start])), (a_T_slate_guestFloor, .inl (cI, 6, .inl T_slate_guestFloor)), (a_T_floors, .inl (cI, 6, .inl T_floors))] s.heap.size = A at hD ⊢
  have hA : ∀ q : Nat, s.heap.size ≤ q → A q := fun q h => by rw [← hAe]; exact Or.inr h
  have hS : va_S A s.heap s.heap [] := va_S.rf
  have hl := lv_entry ([.ref a_T] : List Value) (n := 1) (Nat.le_of_ble_eq_true rfl)
  rw [lg_entry_eq]
  generalize (lg_sl ([.ref a_T] : List Value) ++ List.replicate (1 - (lg_sl ([.ref a_T] : List Value)).length) Slot.unset).toArray = ls at hl ⊢
  replace hl : lv_has ls 1 [(0, .ref a_T)] := hl
  obtain ⟨Q, hQ⟩ : ∃ Q, Q = MQ below (va_Qv (fun (_ : Unit) => True) (fun _ => BW (dC, dI) (tysA cC cI cJ) A [(a_T, .inr (1, [.ref a_T_slate, .ref a_T_floors, .int R.1, .int R.2.1])), (a_T_slate, .inr (5, [.ref a_T_slate_guestKind, .ref a_T_slate_guestFloor, .ref a_T_slate_wishKind, .ref a_T_slate_wishA, .ref a_T_slate_wishB, .ref a_T_slate_wishNames, .int T_slate_guests, .int T_slate_wishes, .int T_slate_start])), (a_T_slate_guestFloor, .inl (cI, 6, .inl T_slate_guestFloor)), (a_T_floors, .inl (cI, 6, .inl R.2.2))]) A) ([.ref a_T] : List Value).toArray s 0 0 A := ⟨_, rfl⟩
  rw [← hQ]
  suffices hE : WG p l e rmX1_begin s m ([.ref a_T] : List Value).toArray below meth c 0 0 Q (dC, dI) A 0 1 [(a_T, .inr (1, [.ref a_T_slate, .ref a_T_floors, .int T_here, .int T_struck])), (a_T_slate, .inr (5, [.ref a_T_slate_guestKind, .ref a_T_slate_guestFloor, .ref a_T_slate_wishKind, .ref a_T_slate_wishA, .ref a_T_slate_wishB, .ref a_T_slate_wishNames, .int T_slate_guests, .int T_slate_wishes, .int T_slate_start])), (a_T_slate_guestFloor, .inl (cI, 6, .inl T_slate_guestFloor)), (a_T_floors, .inl (cI, 6, .inl T_floors))] [(0, .ref a_T)] [] from hE _ _ _ hP hD hS hl
  clear hP hD hS hl hD0 hAe
  intro H locs ls hP hD hS hl
  unfold fX1_begin at hr
  refine lv_aload_n hx hb dX1_begin_0 rfl (lv_at hl 0 rfl) ?_
  refine va_get (D := (dC, dI)) (ci := 1) (v := .ref a_T_slate) (C := RX1) (T := TX1) (N := 4) hx hb hts inX1_begin_X1 hown hK hP 0 rfl rfl 0 (by decide) (hts _ mbX1_begin_0) (fun _ h9 => h9) rfl dX1_begin_1 ?_
  refine va_getN (D := (dC, dI)) (ci := 5) (v := .ref a_T_slate_guestFloor) (C := RX5) (T := TX5) (N := 9) hx hb hts inX1_begin_X5 hown hK hP 1 rfl rfl 1 (by decide) (nk_use hN nw_4) (fun _ h9 => h9) rfl dX1_begin_4 ?_
  refine lv_aload_n hx hb dX1_begin_7 rfl (lv_at hl 0 rfl) ?_
  refine va_get (D := (dC, dI)) (ci := 1) (v := .ref a_T_floors) (C := RX1) (T := TX1) (N := 4) hx hb hts inX1_begin_X1 hown hK hP 0 rfl rfl 1 (by decide) (hts _ mbX1_begin_3) (fun _ h9 => h9) rfl dX1_begin_8 ?_
  obtain ⟨T_floors_1, hc1, hr⟩ := bd1_some hr
  refine call_v (D := (dC, dI)) (tys := tysA cC cI cJ) (wc := [(a_T_slate_guestFloor, .inl (cI, 6, .inl T_slate_guestFloor)), (a_T_floors, .inl (cI, 6, .inl T_floors))]) (wr := [(a_T, .inr (1, [.ref a_T_slate, .ref a_T_floors, .int T_here, .int T_struck])), (a_T_slate, .inr (5, [.ref a_T_slate_guestKind, .ref a_T_slate_guestFloor, .ref a_T_slate_wishKind, .ref a_T_slate_wishA, .ref a_T_slate_wishB, .ref a_T_slate_wishNames, .int T_slate_guests, .int T_slate_wishes, .int T_slate_start]))]) (w1 := [(a_T_slate_guestFloor, .inl (cI, 6, .inl T_slate_guestFloor)), (a_T_floors, .inl (cI, 6, .inl T_floors_1))]) (wn := [(a_T, .inr (1, [.ref a_T_slate, .ref a_T_floors, .int T_here, .int T_struck])), (a_T_slate, .inr (5, [.ref a_T_slate_guestKind, .ref a_T_slate_guestFloor, .ref a_T_slate_wishKind, .ref a_T_slate_wishA, .ref a_T_slate_wishB, .ref a_T_slate_wishNames, .int T_slate_guests, .int T_slate_wishes, .int T_slate_start])), (a_T_slate_guestFloor, .inl (cI, 6, .inl T_slate_guestFloor)), (a_T_floors, .inl (cI, 6, .inl T_floors_1))]) hP hD hS hA [2, 3] [0, 1] [0, 1, 2, 3] rfl rfl (by decide +kernel) (by decide +kernel) rfl (by decide +kernel) (va_runSN (host := "BootsAtDawn") (As := [.ref a_T_slate_guestFloor, .ref a_T_floors]) (rest := []) ⟨hx, hb, hml, hown, hts⟩ (kX8_copy l dC dI cC cI cJ H.size K a_T_slate_guestFloor a_T_floors 6 6 T_slate_guestFloor T_floors T_floors_1 hc1) ⟨va_cnB 2 hts gX1_begin_X8_copy_n24 rfl rfl rfl (hN _ nw_62) (hts _ mbX1_begin_4) (by decide +kernel) ⟨Nat.le_of_ble_eq_true rfl, Nat.le_of_ble_eq_true rfl⟩, (hts _ mbX1_begin_5), trivial⟩ ⟨fbW, preW hP hD hK hN [2, 3] rfl (by decide +kernel)⟩ rfl rfl hl.1 rfl (lv_room (Nat.le_of_ble_eq_true rfl)) dX1_begin_11 ⟨Nat.zero_le _, Nat.zero_le _⟩) (fun H locs hP hD hS => ?_)
  refine lv_aload_n hx hb dX1_begin_14 rfl (lv_at hl 0 rfl) ?_
  refine lv_iconst (v := 1) hx hb dX1_begin_15 (by decide) ?_
  refine lv_aload_n hx hb dX1_begin_16 rfl (lv_at hl 0 rfl) ?_
  refine va_get (D := (dC, dI)) (ci := 1) (v := .ref a_T_slate) (C := RX1) (T := TX1) (N := 4) hx hb hts inX1_begin_X1 hown hK hP 0 rfl rfl 0 (by decide) (hts _ mbX1_begin_0) (fun _ h9 => h9) rfl dX1_begin_17 ?_
  refine va_getN (D := (dC, dI)) (ci := 5) (v := .int T_slate_guests) (C := RX5) (T := TX5) (N := 9) hx hb hts inX1_begin_X5 hown hK hP 1 rfl rfl 6 (by decide) (nk_use hN nw_15) (fun _ h9 => h9) rfl dX1_begin_20 ?_
  refine lv_ishl hx hb dX1_begin_23 ?_
  refine lv_iconst (v := 1) hx hb dX1_begin_24 (by decide) ?_
  refine lv_isub hx hb dX1_begin_25 ?_
  obtain ⟨T_here_1, e1, hr⟩ := nm_el hr
  refine lv_nmi e1 ?_
  refine va_put (D := (dC, dI)) (ci := 1) (v := .int T_here_1) (ty := .int) (C := RX1) (T := TX1) (N := 4) hx hb hts inX1_begin_X1 tyX1 tyX1_ok nmX1 hown hK hP hD hS 0 rfl rfl 2 (by decide) (hts _ mbX1_begin_6) (fun _ h9 => h9) rfl (by decide +kernel) rfl rfl (Nat.le_of_ble_eq_true rfl) dX1_begin_26 (fun H locs hP hD hS => ?_)
  replace hP : va_P (dC, dI) vwCl [(a_T, .inr (1, [.ref a_T_slate, .ref a_T_floors, .int T_here_1, .int T_struck])), (a_T_slate, .inr (5, [.ref a_T_slate_guestKind, .ref a_T_slate_guestFloor, .ref a_T_slate_wishKind, .ref a_T_slate_wishA, .ref a_T_slate_wishB, .ref a_T_slate_wishNames, .int T_slate_guests, .int T_slate_wishes, .int T_slate_start])), (a_T_slate_guestFloor, .inl (cI, 6, .inl T_slate_guestFloor)), (a_T_floors, .inl (cI, 6, .inl T_floors_1))] H := hP
  replace hD : va_D A [(a_T, .inr (1, [.ref a_T_slate, .ref a_T_floors, .int T_here_1, .int T_struck])), (a_T_slate, .inr (5, [.ref a_T_slate_guestKind, .ref a_T_slate_guestFloor, .ref a_T_slate_wishKind, .ref a_T_slate_wishA, .ref a_T_slate_wishB, .ref a_T_slate_wishNames, .int T_slate_guests, .int T_slate_wishes, .int T_slate_start])), (a_T_slate_guestFloor, .inl (cI, 6, .inl T_slate_guestFloor)), (a_T_floors, .inl (cI, 6, .inl T_floors_1))] := hD
  refine lv_aload_n hx hb dX1_begin_29 rfl (lv_at hl 0 rfl) ?_
  refine lv_iconst (v := 0) hx hb dX1_begin_30 (by decide) ?_
  refine va_put (D := (dC, dI)) (ci := 1) (v := .int 0) (ty := .int) (C := RX1) (T := TX1) (N := 4) hx hb hts inX1_begin_X1 tyX1 tyX1_ok nmX1 hown hK hP hD hS 0 rfl rfl 3 (by decide) (hts _ mbX1_begin_7) (fun _ h9 => h9) rfl (by decide +kernel) rfl rfl (Nat.le_of_ble_eq_true rfl) dX1_begin_31 (fun H locs hP hD hS => ?_)
  replace hP : va_P (dC, dI) vwCl [(a_T, .inr (1, [.ref a_T_slate, .ref a_T_floors, .int T_here_1, .int 0])), (a_T_slate, .inr (5, [.ref a_T_slate_guestKind, .ref a_T_slate_guestFloor, .ref a_T_slate_wishKind, .ref a_T_slate_wishA, .ref a_T_slate_wishB, .ref a_T_slate_wishNames, .int T_slate_guests, .int T_slate_wishes, .int T_slate_start])), (a_T_slate_guestFloor, .inl (cI, 6, .inl T_slate_guestFloor)), (a_T_floors, .inl (cI, 6, .inl T_floors_1))] H := hP
  replace hD : va_D A [(a_T, .inr (1, [.ref a_T_slate, .ref a_T_floors, .int T_here_1, .int 0])), (a_T_slate, .inr (5, [.ref a_T_slate_guestKind, .ref a_T_slate_guestFloor, .ref a_T_slate_wishKind, .ref a_T_slate_wishA, .ref a_T_slate_wishB, .ref a_T_slate_wishNames, .int T_slate_guests, .int T_slate_wishes, .int T_slate_start])), (a_T_slate_guestFloor, .inl (cI, 6, .inl T_slate_guestFloor)), (a_T_floors, .inl (cI, 6, .inl T_floors_1))] := hD
  have he := Option.some.inj hr
  subst he
  subst hQ
  exact ret_v hx hb hrt hK hP hD hS hlocks dX1_begin_34
def fX1_packed_L4 (K : Nat) (T_floors : (Nat → Int32)) : Nat → Int64 → Int32 → Option (Int64)
  | 0, _, _ => none
  | n1 + 1, x1, x3 =>
    if (nI 6) ≤ (x3 : Int32) then (
    some x1)
    else (
    gd (¬ ((x3 : Int32) < 0 ∨ 6 ≤ x3.toNatClampNeg)) (
    nm ((x1 <<< ((4 : Int32).toInt64 &&& 63)) ||| ((T_floors x3.toNatClampNeg).toInt64)) fun x1_2 =>
    nm (x3 + 1) fun x3_1 =>
    fX1_packed_L4 K T_floors n1 x1_2 x3_1))
def fX1_packed (K : Nat) (T_here : Int32) (T_struck : Int32) (T_floors : (Nat → Int32)) : Option (Int64) :=
    bd1 (fX1_packed_L4 K T_floors K 0 0) fun x1_1 =>
    some (((x1_1 <<< ((15 : Int32).toInt64 &&& 63)) ||| ((T_struck <<< (6 &&& 31)).toInt64)) ||| T_here.toInt64)
theorem mbX1_packed_0 : Cond.fieldLink RX1 9 "BootsAtDawn$Night" "floors" "[I" ∈ wsX1_packed := List.mem_of_getElem? (i := 1) rfl
theorem inX1_packed_X1 : ∀ w ∈ u_ws RX1 TX1 4, w ∈ wsX1_packed := fun _ h => (List.mem_cons_of_mem _ (List.mem_append_right _ h))
theorem mbX1_packed_2 : Cond.fieldLink RX1 35 "BootsAtDawn$Night" "struck" "I" ∈ wsX1_packed := List.mem_of_getElem? (i := 2) rfl
theorem mbX1_packed_3 : Cond.fieldLink RX1 32 "BootsAtDawn$Night" "here" "I" ∈ wsX1_packed := List.mem_of_getElem? (i := 3) rfl
abbrev rmX1_packed : Room := { frames := 0, cells := 0, slots := 0, locals := 0 }
set_option maxHeartbeats 8000000 in
set_option maxRecDepth 100000 in
theorem kX1_packed (l : Launch) (dC : Nat → ClassId) (dI : Nat → Nat → Nat) (cC cI cJ : ClassId) (sz : Nat) (K : Nat) (a_T a_T_slate a_T_floors : Nat) (T_here : Int32) (T_struck : Int32) (T_floors : (Nat → Int32)) (R : Int64) (hr : fX1_packed K T_here T_struck T_floors = some R) : Met l yX1_packed wsX1_packed rmX1_packed (va_Pc ([.ref a_T] : List Value) (PcW (dC, dI) (tysA cC cI cJ) sz [(a_T, .inr (1, [.ref a_T_slate, .ref a_T_floors, .int T_here, .int T_struck])), (a_T_floors, .inl (cI, 6, .inl T_floors))])) (va_Ql (fun r (_ : Unit) => r = R) (fun _ => BW (dC, dI) (tysA cC cI cJ) (va_A [(a_T, .inr (1, [.ref a_T_slate, .ref a_T_floors, .int T_here, .int T_struck])), (a_T_floors, .inl (cI, 6, .inl T_floors))] sz) [(a_T, .inr (1, [.ref a_T_slate, .ref a_T_floors, .int T_here, .int T_struck])), (a_T_floors, .inl (cI, 6, .inl T_floors))]) (va_A [(a_T, .inr (1, [.ref a_T_slate, .ref a_T_floors, .int T_here, .int T_struck])), (a_T_floors, .inl (cI, 6, .inl T_floors))] sz)) 0 0 (va_A [(a_T, .inr (1, [.ref a_T_slate, .ref a_T_floors, .int T_here, .int T_struck])), (a_T_floors, .inl (cI, 6, .inl T_floors))] sz) := by
  refine Met.ofW (cc := cX1_packed) (maxL := 4) (ret := (some .long)) (by decide) rfl ?_
  intro p e s m args below meth c s₁ B hml hv
  obtain ⟨rfl, hsz, hP, hK, hD0, hN⟩ := hv
  have hx := B.exec
  have hb := B.bytes
  have hrt := B.returns
  have hts := atoms_spec (ws := wsX1_packed) B.pre
  have hown : s.vm.findClass RX1 = some m.cls := findClass_of_methodNamed B.named
  have hlocks := B.notSynchronized
  subst hsz
  have hD := hD0.self (sz := s.heap.size)
  generalize hAe : va_A [(a_T, .inr (1, [.ref a_T_slate, .ref a_T_floors, .int T_here, .int T_struck])), (a_T_floors, .inl (cI, 6, .inl T_floors))] s.heap.size = A at hD ⊢
  have hA : ∀ q : Nat, s.heap.size ≤ q → A q := fun q h => by rw [← hAe]; exact Or.inr h
  have hS : va_S A s.heap s.heap [] := va_S.rf
  have hl := lv_entry ([.ref a_T] : List Value) (n := 4) (Nat.le_of_ble_eq_true rfl)
  rw [lg_entry_eq]
  generalize (lg_sl ([.ref a_T] : List Value) ++ List.replicate (4 - (lg_sl ([.ref a_T] : List Value)).length) Slot.unset).toArray = ls at hl ⊢
  replace hl : lv_has ls 4 [(0, .ref a_T)] := hl
  obtain ⟨Q, hQ⟩ : ∃ Q, Q = MQ below (va_Ql (fun r (_ : Unit) => r = R) (fun _ => BW (dC, dI) (tysA cC cI cJ) A [(a_T, .inr (1, [.ref a_T_slate, .ref a_T_floors, .int T_here, .int T_struck])), (a_T_floors, .inl (cI, 6, .inl T_floors))]) A) ([.ref a_T] : List Value).toArray s 0 0 A := ⟨_, rfl⟩
  rw [← hQ]
  suffices hE : WG p l e rmX1_packed s m ([.ref a_T] : List Value).toArray below meth c 0 0 Q (dC, dI) A 0 4 [(a_T, .inr (1, [.ref a_T_slate, .ref a_T_floors, .int T_here, .int T_struck])), (a_T_floors, .inl (cI, 6, .inl T_floors))] [(0, .ref a_T)] [] from hE _ _ _ hP hD hS hl
  clear hP hD hS hl hD0 hAe
  intro H locs ls hP hD hS hl
  unfold fX1_packed at hr
  refine lv_lconst (v := 0) hx hb dX1_packed_0 (by decide) ?_
  refine lv_lstore_n (lv' := [(1, .long 0), (0, .ref a_T)]) hx hb dX1_packed_1 rfl hl (by decide) rfl (fun ls hl => ?_)
  refine lv_iconst (v := 0) hx hb dX1_packed_2 (by decide) ?_
  refine lv_istore_n (lv' := [(3, .int 0), (1, .long 0), (0, .ref a_T)]) hx hb dX1_packed_3 rfl hl (by decide) rfl (fun ls hl => ?_)
  have hL1 : ∀ (n1 : Nat) (x1 : Int64) (x3 : Int32) (x1_1 : Int64), fX1_packed_L4 K T_floors n1 x1 x3 = some x1_1 → WG p l e rmX1_packed s m ([.ref a_T] : List Value).toArray below meth c 0 0 Q (dC, dI) A 31 4 [(a_T, .inr (1, [.ref a_T_slate, .ref a_T_floors, .int T_here, .int T_struck])), (a_T_floors, .inl (cI, 6, .inl T_floors))] [(0, .ref a_T), (1, .long x1_1)] [] → WG p l e rmX1_packed s m ([.ref a_T] : List Value).toArray below meth c 0 0 Q (dC, dI) A 4 4 [(a_T, .inr (1, [.ref a_T_slate, .ref a_T_floors, .int T_here, .int T_struck])), (a_T_floors, .inl (cI, 6, .inl T_floors))] [(0, .ref a_T), (1, .long x1), (3, .int x3)] [] := by
    intro n1
    induction n1 with
    | zero =>
      intro x1 x3 x1_1 hr
      rw [fX1_packed_L4] at hr
      cases hr
    | succ n1 ih4 =>
      intro x1 x3 x1_1 hr hX1 H locs ls hP hD hS hl
      rw [fX1_packed_L4] at hr
      refine lv_iload_n hx hb dX1_packed_4 rfl (lv_at hl 2 rfl) ?_
      refine lv_aload_n hx hb dX1_packed_5 rfl (lv_at hl 0 rfl) ?_
      refine va_get (D := (dC, dI)) (ci := 1) (v := .ref a_T_floors) (C := RX1) (T := TX1) (N := 4) hx hb hts inX1_packed_X1 hown hK hP 0 rfl rfl 1 (by decide) (hts _ mbX1_packed_0) (fun _ h9 => h9) rfl dX1_packed_6 ?_
      refine va_alen (v := nI 6) hx hb hK hP 1 1 rfl rfl rfl dX1_packed_9 ?_
      refine lv_icmp_ge (tgt := 31) hx hb dX1_packed_10 (by decide) (fun c1 => ?_) (fun c1 => ?_)
      · replace hr := it_t hr c1
        have he := Option.some.inj hr
        cases he
        exact hX1 H locs ls hP hD hS (lv_sub hl [0, 1] rfl)
      · replace hr := it_f hr c1
        refine lv_lload_n hx hb dX1_packed_13 rfl (lv_at hl 1 rfl) ?_
        refine lv_iconst (v := 4) hx hb dX1_packed_14 (by decide) ?_
        refine lv_lshl hx hb dX1_packed_15 rfl ?_
        refine lv_aload_n hx hb dX1_packed_16 rfl (lv_at hl 0 rfl) ?_
        refine va_get (D := (dC, dI)) (ci := 1) (v := .ref a_T_floors) (C := RX1) (T := TX1) (N := 4) hx hb hts inX1_packed_X1 hown hK hP 0 rfl rfl 1 (by decide) (hts _ mbX1_packed_0) (fun _ h9 => h9) rfl dX1_packed_17 ?_
        refine lv_iload_n hx hb dX1_packed_20 rfl (lv_at hl 2 rfl) ?_
        obtain ⟨g1, hr⟩ := gd_some hr
        refine va_iald hx hb hK hP 1 1 rfl rfl g1 dX1_packed_21 ?_
        refine lv_i2l hx hb dX1_packed_22 rfl ?_
        refine lv_lor hx hb dX1_packed_23 ?_
        obtain ⟨x1_2, e1, hr⟩ := nm_el hr
        refine lv_nml e1 ?_
        refine lv_lstore_n (lv' := [(1, .long x1_2), (0, .ref a_T), (3, .int x3)]) hx hb dX1_packed_24 rfl hl (by decide) rfl (fun ls hl => ?_)
        obtain ⟨x3_1, e2, hr⟩ := nm_el hr
        refine lv_iinc (v := x3_1) (lv' := [(3, .int x3_1), (1, .long x1_2), (0, .ref a_T)]) hx hb dX1_packed_25 hl (k := 2) rfl e2.symm (by decide) rfl (fun ls hl => ?_)
        refine lv_goto (tgt := 4) hx hb dX1_packed_28 (by decide) ?_
        exact ih4 _ _ _ hr hX1 H locs ls hP hD hS (lv_sub hl [2, 1, 0] rfl)
  obtain ⟨x1_1, hE, hr⟩ := bd1_some hr
  refine hL1 K 0 0 x1_1 hE ?_ H locs ls hP hD hS (lv_sub hl [2, 1, 0] rfl)
  intro H locs ls hP hD hS hl
  refine lv_lload_n hx hb dX1_packed_31 rfl (lv_at hl 1 rfl) ?_
  refine lv_bipush (v := 15) hx hb dX1_packed_32 (by decide) ?_
  refine lv_lshl hx hb dX1_packed_34 rfl ?_
  refine lv_aload_n hx hb dX1_packed_35 rfl (lv_at hl 0 rfl) ?_
  refine va_get (D := (dC, dI)) (ci := 1) (v := .int T_struck) (C := RX1) (T := TX1) (N := 4) hx hb hts inX1_packed_X1 hown hK hP 0 rfl rfl 3 (by decide) (hts _ mbX1_packed_2) (fun _ h9 => h9) rfl dX1_packed_36 ?_
  refine lv_bipush (v := 6) hx hb dX1_packed_39 (by decide) ?_
  refine lv_ishl hx hb dX1_packed_41 ?_
  refine lv_i2l hx hb dX1_packed_42 rfl ?_
  refine lv_lor hx hb dX1_packed_43 ?_
  refine lv_aload_n hx hb dX1_packed_44 rfl (lv_at hl 0 rfl) ?_
  refine va_get (D := (dC, dI)) (ci := 1) (v := .int T_here) (C := RX1) (T := TX1) (N := 4) hx hb hts inX1_packed_X1 hown hK hP 0 rfl rfl 2 (by decide) (hts _ mbX1_packed_3) (fun _ h9 => h9) rfl dX1_packed_45 ?_
  refine lv_i2l hx hb dX1_packed_48 rfl ?_
  refine lv_lor hx hb dX1_packed_49 ?_
  have he := Option.some.inj hr
  subst he
  subst hQ
  exact ret_l hx hb hrt hK hP hD hS hlocks dX1_packed_50
def fX1_lowBits (K : Nat) (x0 : Int64) (x2 : Int32) : Option (Int32) :=
    some (x0.toInt32 &&& ((1 <<< (x2 &&& 31)) - 1))
abbrev rmX1_lowBits : Room := { frames := 0, cells := 0, slots := 0, locals := 0 }
set_option maxHeartbeats 8000000 in
set_option maxRecDepth 100000 in
theorem kX1_lowBits (l : Launch) (dC : Nat → ClassId) (dI : Nat → Nat → Nat) (cC cI cJ : ClassId) (sz : Nat) (K : Nat) (x0 : Int64) (x2 : Int32) (R : Int32) (hr : fX1_lowBits K x0 x2 = some R) : Met l yX1_lowBits wsX1_lowBits rmX1_lowBits (va_Pc ([.long x0, .int x2] : List Value) (PcW (dC, dI) (tysA cC cI cJ) sz [])) (va_Qi (fun r (_ : Unit) => r = R) (fun _ => BW (dC, dI) (tysA cC cI cJ) (va_A [] sz) []) (va_A [] sz)) 0 0 (va_A [] sz) := by
  refine Met.ofW (cc := cX1_lowBits) (maxL := 3) (ret := (some .int)) (by decide) rfl ?_
  intro p e s m args below meth c s₁ B hml hv
  obtain ⟨rfl, hsz, hP, hK, hD0, hN⟩ := hv
  have hx := B.exec
  have hb := B.bytes
  have hrt := B.returns
  have hts := atoms_spec (ws := wsX1_lowBits) B.pre
  have hown : s.vm.findClass RX1 = some m.cls := findClass_of_methodNamed B.named
  have hlocks := B.notSynchronized
  subst hsz
  have hD := hD0.self (sz := s.heap.size)
  generalize hAe : va_A [] s.heap.size = A at hD ⊢
  have hA : ∀ q : Nat, s.heap.size ≤ q → A q := fun q h => by rw [← hAe]; exact Or.inr h
  have hS : va_S A s.heap s.heap [] := va_S.rf
  have hl := lv_entry ([.long x0, .int x2] : List Value) (n := 3) (Nat.le_of_ble_eq_true rfl)
  rw [lg_entry_eq]
  generalize (lg_sl ([.long x0, .int x2] : List Value) ++ List.replicate (3 - (lg_sl ([.long x0, .int x2] : List Value)).length) Slot.unset).toArray = ls at hl ⊢
  replace hl : lv_has ls 3 [(0, .long x0), (2, .int x2)] := hl
  obtain ⟨Q, hQ⟩ : ∃ Q, Q = MQ below (va_Qi (fun r (_ : Unit) => r = R) (fun _ => BW (dC, dI) (tysA cC cI cJ) A []) A) ([.long x0, .int x2] : List Value).toArray s 0 0 A := ⟨_, rfl⟩
  rw [← hQ]
  suffices hE : WG p l e rmX1_lowBits s m ([.long x0, .int x2] : List Value).toArray below meth c 0 0 Q (dC, dI) A 0 3 [] [(0, .long x0), (2, .int x2)] [] from hE _ _ _ hP hD hS hl
  clear hP hD hS hl hD0 hAe
  intro H locs ls hP hD hS hl
  unfold fX1_lowBits at hr
  refine lv_lload_n hx hb dX1_lowBits_0 rfl (lv_at hl 0 rfl) ?_
  refine lv_l2i hx hb dX1_lowBits_1 rfl ?_
  refine lv_iconst (v := 1) hx hb dX1_lowBits_2 (by decide) ?_
  refine lv_iload_n hx hb dX1_lowBits_3 rfl (lv_at hl 1 rfl) ?_
  refine lv_ishl hx hb dX1_lowBits_4 ?_
  refine lv_iconst (v := 1) hx hb dX1_lowBits_5 (by decide) ?_
  refine lv_isub hx hb dX1_lowBits_6 ?_
  refine lv_iand hx hb dX1_lowBits_7 ?_
  have he := Option.some.inj hr
  subst he
  subst hQ
  exact ret_i hx hb hrt hK hP hD hS hlocks dX1_lowBits_8
def fX1_unpack_L37 (K : Nat) : Nat → Int64 → Int32 → (Nat → Int32) → Option ((Nat → Int32))
  | 0, _, _, _ => none
  | n1 + 1, x3_1, x5_1, T_floors_1 =>
    if (x5_1 : Int32) < 0 then (
    some T_floors_1)
    else (
    bd1 (fX1_lowBits K x3_1 4) fun r_2 =>
    gd (¬ ((x5_1 : Int32) < 0 ∨ 6 ≤ x5_1.toNatClampNeg)) (
    nm (upd T_floors_1 x5_1.toNatClampNeg r_2) fun T_floors_3 =>
    nm (x3_1 >>> ((4 : Int32).toInt64 &&& 63)) fun x3_2 =>
    nm (x5_1 + (-1)) fun x5_2 =>
    fX1_unpack_L37 K n1 x3_2 x5_2 T_floors_3))
def fX1_unpack (K : Nat) (x1 : Int64) (T_here : Int32) (T_struck : Int32) (T_floors : (Nat → Int32)) : Option (Int32 × Int32 × (Nat → Int32)) :=
    bd1 (fX1_lowBits K x1 6) fun r =>
    bd1 (fX1_lowBits K (x1 >>> ((6 : Int32).toInt64 &&& 63)) 9) fun r_1 =>
    nm (x1 >>> ((15 : Int32).toInt64 &&& 63)) fun x3 =>
    nm ((nI 6) - 1) fun x5 =>
    bd1 (fX1_unpack_L37 K K x3 x5 T_floors) fun T_floors_2 =>
    some (r, r_1, T_floors_2)
theorem mbX1_unpack_0 : Cond.fieldLink RX1 32 "BootsAtDawn$Night" "here" "I" ∈ wsX1_unpack := List.mem_of_getElem? (i := 1) rfl
theorem inX1_unpack_X1 : ∀ w ∈ u_ws RX1 TX1 4, w ∈ wsX1_unpack := fun _ h => (List.mem_cons_of_mem _ (List.mem_append_right _ h))
theorem mbX1_unpack_2 : Cond.fieldLink RX1 35 "BootsAtDawn$Night" "struck" "I" ∈ wsX1_unpack := List.mem_of_getElem? (i := 2) rfl
theorem mbX1_unpack_3 : Cond.fieldLink RX1 9 "BootsAtDawn$Night" "floors" "[I" ∈ wsX1_unpack := List.mem_of_getElem? (i := 3) rfl
abbrev rmX1_unpack : Room := { frames := 1, cells := 0, slots := 0, locals := 22 }
set_option maxHeartbeats 8000000 in
set_option maxRecDepth 100000 in
theorem kX1_unpack (l : Launch) (dC : Nat → ClassId) (dI : Nat → Nat → Nat) (cC cI cJ : ClassId) (sz : Nat) (K : Nat) (a_T a_T_slate a_T_floors : Nat) (x1 : Int64) (T_here : Int32) (T_struck : Int32) (T_floors : (Nat → Int32)) (R : Int32 × Int32 × (Nat → Int32)) (hr : fX1_unpack K x1 T_here T_struck T_floors = some R) : Met l yX1_unpack wsX1_unpack rmX1_unpack (va_Pc ([.ref a_T, .long x1] : List Value) (PcW (dC, dI) (tysA cC cI cJ) sz [(a_T, .inr (1, [.ref a_T_slate, .ref a_T_floors, .int T_here, .int T_struck])), (a_T_floors, .inl (cI, 6, .inl T_floors))])) (va_Qv (fun (_ : Unit) => True) (fun _ => BW (dC, dI) (tysA cC cI cJ) (va_A [(a_T, .inr (1, [.ref a_T_slate, .ref a_T_floors, .int T_here, .int T_struck])), (a_T_floors, .inl (cI, 6, .inl T_floors))] sz) [(a_T, .inr (1, [.ref a_T_slate, .ref a_T_floors, .int R.1, .int R.2.1])), (a_T_floors, .inl (cI, 6, .inl R.2.2))]) (va_A [(a_T, .inr (1, [.ref a_T_slate, .ref a_T_floors, .int T_here, .int T_struck])), (a_T_floors, .inl (cI, 6, .inl T_floors))] sz)) 0 0 (va_A [(a_T, .inr (1, [.ref a_T_slate, .ref a_T_floors, .int T_here, .int T_struck])), (a_T_floors, .inl (cI, 6, .inl T_floors))] sz) := by
  refine Met.ofW (cc := cX1_unpack) (maxL := 6) (ret := none) (by decide) rfl ?_
  intro p e s m args below meth c s₁ B hml hv
  obtain ⟨rfl, hsz, hP, hK, hD0, hN⟩ := hv
  have hx := B.exec
  have hb := B.bytes
  have hrt := B.returns
  have hts := atoms_spec (ws := wsX1_unpack) B.pre
  have hown : s.vm.findClass RX1 = some m.cls := findClass_of_methodNamed B.named
  have hlocks := B.notSynchronized
  subst hsz
  have hD := hD0.self (sz := s.heap.size)
  generalize hAe : va_A [(a_T, .inr (1, [.ref a_T_slate, .ref a_T_floors, .int T_here, .int T_struck])), (a_T_floors, .inl (cI, 6, .inl T_floors))] s.heap.size = A at hD ⊢
  have hA : ∀ q : Nat, s.heap.size ≤ q → A q := fun q h => by rw [← hAe]; exact Or.inr h
  have hS : va_S A s.heap s.heap [] := va_S.rf
  have hl := lv_entry ([.ref a_T, .long x1] : List Value) (n := 6) (Nat.le_of_ble_eq_true rfl)
  rw [lg_entry_eq]
  generalize (lg_sl ([.ref a_T, .long x1] : List Value) ++ List.replicate (6 - (lg_sl ([.ref a_T, .long x1] : List Value)).length) Slot.unset).toArray = ls at hl ⊢
  replace hl : lv_has ls 6 [(0, .ref a_T), (1, .long x1)] := hl
  obtain ⟨Q, hQ⟩ : ∃ Q, Q = MQ below (va_Qv (fun (_ : Unit) => True) (fun _ => BW (dC, dI) (tysA cC cI cJ) A [(a_T, .inr (1, [.ref a_T_slate, .ref a_T_floors, .int R.1, .int R.2.1])), (a_T_floors, .inl (cI, 6, .inl R.2.2))]) A) ([.ref a_T, .long x1] : List Value).toArray s 0 0 A := ⟨_, rfl⟩
  rw [← hQ]
  suffices hE : WG p l e rmX1_unpack s m ([.ref a_T, .long x1] : List Value).toArray below meth c 0 0 Q (dC, dI) A 0 6 [(a_T, .inr (1, [.ref a_T_slate, .ref a_T_floors, .int T_here, .int T_struck])), (a_T_floors, .inl (cI, 6, .inl T_floors))] [(0, .ref a_T), (1, .long x1)] [] from hE _ _ _ hP hD hS hl
  clear hP hD hS hl hD0 hAe
  intro H locs ls hP hD hS hl
  unfold fX1_unpack at hr
  refine lv_aload_n hx hb dX1_unpack_0 rfl (lv_at hl 0 rfl) ?_
  refine lv_lload_n hx hb dX1_unpack_1 rfl (lv_at hl 1 rfl) ?_
  refine lv_bipush (v := 6) hx hb dX1_unpack_2 (by decide) ?_
  obtain ⟨r, hc1, hr⟩ := bd1_some hr
  refine call_i (D := (dC, dI)) (tys := tysA cC cI cJ) (wc := []) (wr := [(a_T, .inr (1, [.ref a_T_slate, .ref a_T_floors, .int T_here, .int T_struck])), (a_T_floors, .inl (cI, 6, .inl T_floors))]) (w1 := []) (wn := [(a_T, .inr (1, [.ref a_T_slate, .ref a_T_floors, .int T_here, .int T_struck])), (a_T_floors, .inl (cI, 6, .inl T_floors))]) (r0 := r) hP hD hS hA [] [0, 1] [0, 1] rfl rfl (by decide +kernel) (by decide +kernel) rfl (by decide +kernel) (va_runS (As := [.long x1, .int 6]) (rest := [.ref a_T]) ⟨hx, hb, hml, hown, hts⟩ (kX1_lowBits l dC dI cC cI cJ H.size K x1 6 r hc1) (va_cwS 2 hts gX1_unpack_X1_lowBits rfl rfl rfl (by decide +kernel) ⟨Nat.le_of_ble_eq_true rfl, Nat.le_of_ble_eq_true rfl⟩) ⟨fbW, preW hP hD hK hN [] rfl (by decide +kernel)⟩ rfl rfl hl.1 rfl (lv_room (Nat.le_of_ble_eq_true rfl)) dX1_unpack_4 ⟨Nat.zero_le _, Nat.zero_le _⟩) (fun H locs hP hD hS => ?_)
  refine va_put (D := (dC, dI)) (ci := 1) (v := .int r) (ty := .int) (C := RX1) (T := TX1) (N := 4) hx hb hts inX1_unpack_X1 tyX1 tyX1_ok nmX1 hown hK hP hD hS 0 rfl rfl 2 (by decide) (hts _ mbX1_unpack_0) (fun _ h9 => h9) rfl (by decide +kernel) rfl rfl (Nat.le_of_ble_eq_true rfl) dX1_unpack_7 (fun H locs hP hD hS => ?_)
  replace hP : va_P (dC, dI) vwCl [(a_T, .inr (1, [.ref a_T_slate, .ref a_T_floors, .int r, .int T_struck])), (a_T_floors, .inl (cI, 6, .inl T_floors))] H := hP
  replace hD : va_D A [(a_T, .inr (1, [.ref a_T_slate, .ref a_T_floors, .int r, .int T_struck])), (a_T_floors, .inl (cI, 6, .inl T_floors))] := hD
  refine lv_aload_n hx hb dX1_unpack_10 rfl (lv_at hl 0 rfl) ?_
  refine lv_lload_n hx hb dX1_unpack_11 rfl (lv_at hl 1 rfl) ?_
  refine lv_bipush (v := 6) hx hb dX1_unpack_12 (by decide) ?_
  refine lv_lshr hx hb dX1_unpack_14 rfl ?_
  refine lv_bipush (v := 9) hx hb dX1_unpack_15 (by decide) ?_
  obtain ⟨r_1, hc2, hr⟩ := bd1_some hr
  refine call_i (D := (dC, dI)) (tys := tysA cC cI cJ) (wc := []) (wr := [(a_T, .inr (1, [.ref a_T_slate, .ref a_T_floors, .int r, .int T_struck])), (a_T_floors, .inl (cI, 6, .inl T_floors))]) (w1 := []) (wn := [(a_T, .inr (1, [.ref a_T_slate, .ref a_T_floors, .int r, .int T_struck])), (a_T_floors, .inl (cI, 6, .inl T_floors))]) (r0 := r_1) hP hD hS hA [] [0, 1] [0, 1] rfl rfl (by decide +kernel) (by decide +kernel) rfl (by decide +kernel) (va_runS (As := [.long (x1 >>> ((6 : Int32).toInt64 &&& 63)), .int 9]) (rest := [.ref a_T]) ⟨hx, hb, hml, hown, hts⟩ (kX1_lowBits l dC dI cC cI cJ H.size K (x1 >>> ((6 : Int32).toInt64 &&& 63)) 9 r_1 hc2) (va_cwS 2 hts gX1_unpack_X1_lowBits rfl rfl rfl (by decide +kernel) ⟨Nat.le_of_ble_eq_true rfl, Nat.le_of_ble_eq_true rfl⟩) ⟨fbW, preW hP hD hK hN [] rfl (by decide +kernel)⟩ rfl rfl hl.1 rfl (lv_room (Nat.le_of_ble_eq_true rfl)) dX1_unpack_17 ⟨Nat.zero_le _, Nat.zero_le _⟩) (fun H locs hP hD hS => ?_)
  refine va_put (D := (dC, dI)) (ci := 1) (v := .int r_1) (ty := .int) (C := RX1) (T := TX1) (N := 4) hx hb hts inX1_unpack_X1 tyX1 tyX1_ok nmX1 hown hK hP hD hS 0 rfl rfl 3 (by decide) (hts _ mbX1_unpack_2) (fun _ h9 => h9) rfl (by decide +kernel) rfl rfl (Nat.le_of_ble_eq_true rfl) dX1_unpack_20 (fun H locs hP hD hS => ?_)
  replace hP : va_P (dC, dI) vwCl [(a_T, .inr (1, [.ref a_T_slate, .ref a_T_floors, .int r, .int r_1])), (a_T_floors, .inl (cI, 6, .inl T_floors))] H := hP
  replace hD : va_D A [(a_T, .inr (1, [.ref a_T_slate, .ref a_T_floors, .int r, .int r_1])), (a_T_floors, .inl (cI, 6, .inl T_floors))] := hD
  refine lv_lload_n hx hb dX1_unpack_23 rfl (lv_at hl 1 rfl) ?_
  refine lv_bipush (v := 15) hx hb dX1_unpack_24 (by decide) ?_
  refine lv_lshr hx hb dX1_unpack_26 rfl ?_
  obtain ⟨x3, e1, hr⟩ := nm_el hr
  refine lv_nml e1 ?_
  refine lv_lstore_n (lv' := [(3, .long x3), (0, .ref a_T), (1, .long x1)]) hx hb dX1_unpack_27 rfl hl (by decide) rfl (fun ls hl => ?_)
  refine lv_aload_n hx hb dX1_unpack_28 rfl (lv_at hl 1 rfl) ?_
  refine va_get (D := (dC, dI)) (ci := 1) (v := .ref a_T_floors) (C := RX1) (T := TX1) (N := 4) hx hb hts inX1_unpack_X1 hown hK hP 0 rfl rfl 1 (by decide) (hts _ mbX1_unpack_3) (fun _ h9 => h9) rfl dX1_unpack_29 ?_
  refine va_alen (v := nI 6) hx hb hK hP 1 1 rfl rfl rfl dX1_unpack_32 ?_
  refine lv_iconst (v := 1) hx hb dX1_unpack_33 (by decide) ?_
  refine lv_isub hx hb dX1_unpack_34 ?_
  obtain ⟨x5, e2, hr⟩ := nm_el hr
  refine lv_nmi e2 ?_
  refine lv_istore (lv' := [(5, .int x5), (3, .long x3), (0, .ref a_T), (1, .long x1)]) hx hb dX1_unpack_35 hl (by decide) rfl (fun ls hl => ?_)
  have hL1 : ∀ (n1 : Nat) (x3_1 : Int64) (x5_1 : Int32) (T_floors_1 : (Nat → Int32)) (T_floors_2 : (Nat → Int32)), fX1_unpack_L37 K n1 x3_1 x5_1 T_floors_1 = some T_floors_2 → WG p l e rmX1_unpack s m ([.ref a_T, .long x1] : List Value).toArray below meth c 0 0 Q (dC, dI) A 64 6 [(a_T, .inr (1, [.ref a_T_slate, .ref a_T_floors, .int r, .int r_1])), (a_T_floors, .inl (cI, 6, .inl T_floors_2))] [] [] → WG p l e rmX1_unpack s m ([.ref a_T, .long x1] : List Value).toArray below meth c 0 0 Q (dC, dI) A 37 6 [(a_T, .inr (1, [.ref a_T_slate, .ref a_T_floors, .int r, .int r_1])), (a_T_floors, .inl (cI, 6, .inl T_floors_1))] [(0, .ref a_T), (3, .long x3_1), (5, .int x5_1)] [] := by
    intro n1
    induction n1 with
    | zero =>
      intro x3_1 x5_1 T_floors_1 T_floors_2 hr
      rw [fX1_unpack_L37] at hr
      cases hr
    | succ n1 ih37 =>
      intro x3_1 x5_1 T_floors_1 T_floors_2 hr hX1 H locs ls hP hD hS hl
      rw [fX1_unpack_L37] at hr
      refine lv_iload hx hb dX1_unpack_37 (lv_at hl 2 rfl) ?_
      refine lv_if_lt (tgt := 64) hx hb dX1_unpack_39 (by decide) (fun c1 => ?_) (fun c1 => ?_)
      · replace hr := it_t hr c1
        have he := Option.some.inj hr
        cases he
        exact hX1 H locs ls hP hD hS (lv_sub hl [] rfl)
      · replace hr := it_f hr c1
        refine lv_aload_n hx hb dX1_unpack_42 rfl (lv_at hl 0 rfl) ?_
        refine va_get (D := (dC, dI)) (ci := 1) (v := .ref a_T_floors) (C := RX1) (T := TX1) (N := 4) hx hb hts inX1_unpack_X1 hown hK hP 0 rfl rfl 1 (by decide) (hts _ mbX1_unpack_3) (fun _ h9 => h9) rfl dX1_unpack_43 ?_
        refine lv_iload hx hb dX1_unpack_46 (lv_at hl 2 rfl) ?_
        refine lv_lload_n hx hb dX1_unpack_48 rfl (lv_at hl 1 rfl) ?_
        refine lv_iconst (v := 4) hx hb dX1_unpack_49 (by decide) ?_
        obtain ⟨r_2, hc3, hr⟩ := bd1_some hr
        refine call_i (D := (dC, dI)) (tys := tysA cC cI cJ) (wc := []) (wr := [(a_T, .inr (1, [.ref a_T_slate, .ref a_T_floors, .int r, .int r_1])), (a_T_floors, .inl (cI, 6, .inl T_floors_1))]) (w1 := []) (wn := [(a_T, .inr (1, [.ref a_T_slate, .ref a_T_floors, .int r, .int r_1])), (a_T_floors, .inl (cI, 6, .inl T_floors_1))]) (r0 := r_2) hP hD hS hA [] [0, 1] [0, 1] rfl rfl (by decide +kernel) (by decide +kernel) rfl (by decide +kernel) (va_runS (As := [.long x3_1, .int 4]) (rest := [.int x5_1, .ref a_T_floors]) ⟨hx, hb, hml, hown, hts⟩ (kX1_lowBits l dC dI cC cI cJ H.size K x3_1 4 r_2 hc3) (va_cwS 2 hts gX1_unpack_X1_lowBits rfl rfl rfl (by decide +kernel) ⟨Nat.le_of_ble_eq_true rfl, Nat.le_of_ble_eq_true rfl⟩) ⟨fbW, preW hP hD hK hN [] rfl (by decide +kernel)⟩ rfl rfl hl.1 rfl (lv_room (Nat.le_of_ble_eq_true rfl)) dX1_unpack_50 ⟨Nat.zero_le _, Nat.zero_le _⟩) (fun H locs hP hD hS => ?_)
        obtain ⟨g1, hr⟩ := gd_some hr
        obtain ⟨T_floors_3, e3, hr⟩ := nm_el hr
        refine va_iast hx hb hK hP hD hS 1 1 rfl rfl g1 dX1_unpack_53 (fun H locs hP hD hS => ?_)
        rw [← e3] at hP hD
        replace hP : va_P (dC, dI) vwCl [(a_T, .inr (1, [.ref a_T_slate, .ref a_T_floors, .int r, .int r_1])), (a_T_floors, .inl (cI, 6, .inl T_floors_3))] H := hP
        replace hD : va_D A [(a_T, .inr (1, [.ref a_T_slate, .ref a_T_floors, .int r, .int r_1])), (a_T_floors, .inl (cI, 6, .inl T_floors_3))] := hD
        refine lv_lload_n hx hb dX1_unpack_54 rfl (lv_at hl 1 rfl) ?_
        refine lv_iconst (v := 4) hx hb dX1_unpack_55 (by decide) ?_
        refine lv_lshr hx hb dX1_unpack_56 rfl ?_
        obtain ⟨x3_2, e4, hr⟩ := nm_el hr
        refine lv_nml e4 ?_
        refine lv_lstore_n (lv' := [(3, .long x3_2), (0, .ref a_T), (5, .int x5_1)]) hx hb dX1_unpack_57 rfl hl (by decide) rfl (fun ls hl => ?_)
        obtain ⟨x5_2, e5, hr⟩ := nm_el hr
        refine lv_iinc (v := x5_2) (lv' := [(5, .int x5_2), (3, .long x3_2), (0, .ref a_T)]) hx hb dX1_unpack_58 hl (k := 2) rfl e5.symm (by decide) rfl (fun ls hl => ?_)
        refine lv_goto (tgt := 37) hx hb dX1_unpack_61 (by decide) ?_
        exact ih37 _ _ _ _ hr hX1 H locs ls hP hD hS (lv_sub hl [2, 1, 0] rfl)
  obtain ⟨T_floors_2, hE, hr⟩ := bd1_some hr
  refine hL1 K x3 x5 T_floors T_floors_2 hE ?_ H locs ls hP hD hS (lv_sub hl [2, 1, 0] rfl)
  intro H locs ls hP hD hS hl
  have he := Option.some.inj hr
  subst he
  subst hQ
  exact ret_v hx hb hrt hK hP hD hS hlocks dX1_unpack_64
def fX1_wakingOf (K : Nat) (x1 : Int32) (T_slate_guestKind : (Nat → Int32)) (T_floors : (Nat → Int32)) : Option (Int32) :=
    bd1 (fX8_at K 6 x1 T_slate_guestKind) fun r =>
    if (r : Int32) = 1 then (
    some 3)
    else (
    if (r : Int32) = 2 then (
    some 0)
    else (
    if (r : Int32) = 3 then (
    bd1 (fX8_at K 6 x1 T_floors) fun r_1 =>
    some (2 + r_1))
    else (
    some 1)))
theorem mbX1_wakingOf_0 : Cond.fieldLink RX1 15 "BootsAtDawn$Night" "slate" "LBootsAtDawn$Slate;" ∈ wsX1_wakingOf := List.mem_of_getElem? (i := 1) rfl
theorem inX1_wakingOf_X1 : ∀ w ∈ u_ws RX1 TX1 4, w ∈ wsX1_wakingOf := fun _ h => (List.mem_cons_of_mem _ (List.mem_append_left _ (List.mem_append_right _ h)))
theorem inX1_wakingOf_X5 : ∀ w ∈ u_ws RX5 TX5 9, w ∈ wsX1_wakingOf := fun _ h => (List.mem_cons_of_mem _ (List.mem_append_right _ h))
theorem mbX1_wakingOf_3 : Cond.initialized RX8 ∈ wsX1_wakingOf := List.mem_of_getElem? (i := 4) rfl
theorem mbX1_wakingOf_4 : Cond.static yX8_at ∈ wsX1_wakingOf := List.mem_of_getElem? (i := 3) rfl
theorem mbX1_wakingOf_5 : Cond.fieldLink RX1 9 "BootsAtDawn$Night" "floors" "[I" ∈ wsX1_wakingOf := List.mem_of_getElem? (i := 2) rfl
abbrev rmX1_wakingOf : Room := { frames := 1, cells := 0, slots := 0, locals := 21 }
set_option maxHeartbeats 8000000 in
set_option maxRecDepth 100000 in
theorem kX1_wakingOf (l : Launch) (dC : Nat → ClassId) (dI : Nat → Nat → Nat) (cC cI cJ : ClassId) (sz : Nat) (K : Nat) (a_T a_T_slate a_T_floors a_T_slate_guestKind a_T_slate_guestFloor a_T_slate_wishKind a_T_slate_wishA a_T_slate_wishB a_T_slate_wishNames : Nat) (x1 : Int32) (T_here : Int32) (T_struck : Int32) (T_slate_guests : Int32) (T_slate_wishes : Int32) (T_slate_start : Int32) (T_slate_guestKind : (Nat → Int32)) (T_floors : (Nat → Int32)) (R : Int32) (hr : fX1_wakingOf K x1 T_slate_guestKind T_floors = some R) : Met l yX1_wakingOf wsX1_wakingOf rmX1_wakingOf (va_Pc ([.ref a_T, .int x1] : List Value) (PcW (dC, dI) (tysA cC cI cJ) sz [(a_T, .inr (1, [.ref a_T_slate, .ref a_T_floors, .int T_here, .int T_struck])), (a_T_slate, .inr (5, [.ref a_T_slate_guestKind, .ref a_T_slate_guestFloor, .ref a_T_slate_wishKind, .ref a_T_slate_wishA, .ref a_T_slate_wishB, .ref a_T_slate_wishNames, .int T_slate_guests, .int T_slate_wishes, .int T_slate_start])), (a_T_slate_guestKind, .inl (cI, 6, .inl T_slate_guestKind)), (a_T_floors, .inl (cI, 6, .inl T_floors))])) (va_Qi (fun r (_ : Unit) => r = R) (fun _ => BW (dC, dI) (tysA cC cI cJ) (va_A [(a_T, .inr (1, [.ref a_T_slate, .ref a_T_floors, .int T_here, .int T_struck])), (a_T_slate, .inr (5, [.ref a_T_slate_guestKind, .ref a_T_slate_guestFloor, .ref a_T_slate_wishKind, .ref a_T_slate_wishA, .ref a_T_slate_wishB, .ref a_T_slate_wishNames, .int T_slate_guests, .int T_slate_wishes, .int T_slate_start])), (a_T_slate_guestKind, .inl (cI, 6, .inl T_slate_guestKind)), (a_T_floors, .inl (cI, 6, .inl T_floors))] sz) [(a_T, .inr (1, [.ref a_T_slate, .ref a_T_floors, .int T_here, .int T_struck])), (a_T_slate, .inr (5, [.ref a_T_slate_guestKind, .ref a_T_slate_guestFloor, .ref a_T_slate_wishKind, .ref a_T_slate_wishA, .ref a_T_slate_wishB, .ref a_T_slate_wishNames, .int T_slate_guests, .int T_slate_wishes, .int T_slate_start])), (a_T_slate_guestKind, .inl (cI, 6, .inl T_slate_guestKind)), (a_T_floors, .inl (cI, 6, .inl T_floors))]) (va_A [(a_T, .inr (1, [.ref a_T_slate, .ref a_T_floors, .int T_here, .int T_struck])), (a_T_slate, .inr (5, [.ref a_T_slate_guestKind, .ref a_T_slate_guestFloor, .ref a_T_slate_wishKind, .ref a_T_slate_wishA, .ref a_T_slate_wishB, .ref a_T_slate_wishNames, .int T_slate_guests, .int T_slate_wishes, .int T_slate_start])), (a_T_slate_guestKind, .inl (cI, 6, .inl T_slate_guestKind)), (a_T_floors, .inl (cI, 6, .inl T_floors))] sz)) 0 0 (va_A [(a_T, .inr (1, [.ref a_T_slate, .ref a_T_floors, .int T_here, .int T_struck])), (a_T_slate, .inr (5, [.ref a_T_slate_guestKind, .ref a_T_slate_guestFloor, .ref a_T_slate_wishKind, .ref a_T_slate_wishA, .ref a_T_slate_wishB, .ref a_T_slate_wishNames, .int T_slate_guests, .int T_slate_wishes, .int T_slate_start])), (a_T_slate_guestKind, .inl (cI, 6, .inl T_slate_guestKind)), (a_T_floors, .inl (cI, 6, .inl T_floors))] sz) := by
  refine Met.ofW (cc := cX1_wakingOf) (maxL := 2) (ret := (some .int)) (by decide) rfl ?_
  intro p e s m args below meth c s₁ B hml hv
  obtain ⟨rfl, hsz, hP, hK, hD0, hN⟩ := hv
  have hx := B.exec
  have hb := B.bytes
  have hrt := B.returns
  have hts := atoms_spec (ws := wsX1_wakingOf) B.pre
  have hown : s.vm.findClass RX1 = some m.cls := findClass_of_methodNamed B.named
  have hlocks := B.notSynchronized
  subst hsz
  have hD := hD0.self (sz := s.heap.size)
  generalize hAe : va_A [(a_T, .inr (1, [.ref a_T_slate, .ref a_T_floors, .int T_here, .int T_struck])), (a_T_slate, .inr (5, [.ref a_T_slate_guestKind, .ref a_T_slate_guestFloor, .ref a_T_slate_wishKind, .ref a_T_slate_wishA, .ref a_T_slate_wishB, .ref a_T_slate_wishNames, .int T_slate_guests, .int T_slate_wishes, .int T_slate_start])), (a_T_slate_guestKind, .inl (cI, 6, .inl T_slate_guestKind)), (a_T_floors, .inl (cI, 6, .inl T_floors))] s.heap.size = A at hD ⊢
  have hA : ∀ q : Nat, s.heap.size ≤ q → A q := fun q h => by rw [← hAe]; exact Or.inr h
  have hS : va_S A s.heap s.heap [] := va_S.rf
  have hl := lv_entry ([.ref a_T, .int x1] : List Value) (n := 2) (Nat.le_of_ble_eq_true rfl)
  rw [lg_entry_eq]
  generalize (lg_sl ([.ref a_T, .int x1] : List Value) ++ List.replicate (2 - (lg_sl ([.ref a_T, .int x1] : List Value)).length) Slot.unset).toArray = ls at hl ⊢
  replace hl : lv_has ls 2 [(0, .ref a_T), (1, .int x1)] := hl
  obtain ⟨Q, hQ⟩ : ∃ Q, Q = MQ below (va_Qi (fun r (_ : Unit) => r = R) (fun _ => BW (dC, dI) (tysA cC cI cJ) A [(a_T, .inr (1, [.ref a_T_slate, .ref a_T_floors, .int T_here, .int T_struck])), (a_T_slate, .inr (5, [.ref a_T_slate_guestKind, .ref a_T_slate_guestFloor, .ref a_T_slate_wishKind, .ref a_T_slate_wishA, .ref a_T_slate_wishB, .ref a_T_slate_wishNames, .int T_slate_guests, .int T_slate_wishes, .int T_slate_start])), (a_T_slate_guestKind, .inl (cI, 6, .inl T_slate_guestKind)), (a_T_floors, .inl (cI, 6, .inl T_floors))]) A) ([.ref a_T, .int x1] : List Value).toArray s 0 0 A := ⟨_, rfl⟩
  rw [← hQ]
  suffices hE : WG p l e rmX1_wakingOf s m ([.ref a_T, .int x1] : List Value).toArray below meth c 0 0 Q (dC, dI) A 0 2 [(a_T, .inr (1, [.ref a_T_slate, .ref a_T_floors, .int T_here, .int T_struck])), (a_T_slate, .inr (5, [.ref a_T_slate_guestKind, .ref a_T_slate_guestFloor, .ref a_T_slate_wishKind, .ref a_T_slate_wishA, .ref a_T_slate_wishB, .ref a_T_slate_wishNames, .int T_slate_guests, .int T_slate_wishes, .int T_slate_start])), (a_T_slate_guestKind, .inl (cI, 6, .inl T_slate_guestKind)), (a_T_floors, .inl (cI, 6, .inl T_floors))] [(0, .ref a_T), (1, .int x1)] [] from hE _ _ _ hP hD hS hl
  clear hP hD hS hl hD0 hAe
  intro H locs ls hP hD hS hl
  unfold fX1_wakingOf at hr
  refine lv_aload_n hx hb dX1_wakingOf_0 rfl (lv_at hl 0 rfl) ?_
  refine va_get (D := (dC, dI)) (ci := 1) (v := .ref a_T_slate) (C := RX1) (T := TX1) (N := 4) hx hb hts inX1_wakingOf_X1 hown hK hP 0 rfl rfl 0 (by decide) (hts _ mbX1_wakingOf_0) (fun _ h9 => h9) rfl dX1_wakingOf_1 ?_
  refine va_getN (D := (dC, dI)) (ci := 5) (v := .ref a_T_slate_guestKind) (C := RX5) (T := TX5) (N := 9) hx hb hts inX1_wakingOf_X5 hown hK hP 1 rfl rfl 0 (by decide) (nk_use hN nw_2) (fun _ h9 => h9) rfl dX1_wakingOf_4 ?_
  refine lv_iload_n hx hb dX1_wakingOf_7 rfl (lv_at hl 1 rfl) ?_
  obtain ⟨r, hc1, hr⟩ := bd1_some hr
  refine call_i (D := (dC, dI)) (tys := tysA cC cI cJ) (wc := [(a_T_slate_guestKind, .inl (cI, 6, .inl T_slate_guestKind))]) (wr := [(a_T, .inr (1, [.ref a_T_slate, .ref a_T_floors, .int T_here, .int T_struck])), (a_T_slate, .inr (5, [.ref a_T_slate_guestKind, .ref a_T_slate_guestFloor, .ref a_T_slate_wishKind, .ref a_T_slate_wishA, .ref a_T_slate_wishB, .ref a_T_slate_wishNames, .int T_slate_guests, .int T_slate_wishes, .int T_slate_start])), (a_T_floors, .inl (cI, 6, .inl T_floors))]) (w1 := [(a_T_slate_guestKind, .inl (cI, 6, .inl T_slate_guestKind))]) (wn := [(a_T, .inr (1, [.ref a_T_slate, .ref a_T_floors, .int T_here, .int T_struck])), (a_T_slate, .inr (5, [.ref a_T_slate_guestKind, .ref a_T_slate_guestFloor, .ref a_T_slate_wishKind, .ref a_T_slate_wishA, .ref a_T_slate_wishB, .ref a_T_slate_wishNames, .int T_slate_guests, .int T_slate_wishes, .int T_slate_start])), (a_T_slate_guestKind, .inl (cI, 6, .inl T_slate_guestKind)), (a_T_floors, .inl (cI, 6, .inl T_floors))]) (r0 := r) hP hD hS hA [2] [0, 1, 3] [0, 1, 3, 2] rfl rfl (by decide +kernel) (by decide +kernel) rfl (by decide +kernel) (va_runSN (host := "BootsAtDawn") (As := [.ref a_T_slate_guestKind, .int x1]) (rest := []) ⟨hx, hb, hml, hown, hts⟩ (kX8_at l dC dI cC cI cJ H.size K a_T_slate_guestKind 6 x1 T_slate_guestKind r hc1) ⟨va_cnB 2 hts gX1_wakingOf_X8_at_n45 rfl rfl rfl (hN _ nw_69) (hts _ mbX1_wakingOf_3) (by decide +kernel) ⟨Nat.le_of_ble_eq_true rfl, Nat.le_of_ble_eq_true rfl⟩, (hts _ mbX1_wakingOf_4), trivial⟩ ⟨fbW, preW hP hD hK hN [2] rfl (by decide +kernel)⟩ rfl rfl hl.1 rfl (lv_room (Nat.le_of_ble_eq_true rfl)) dX1_wakingOf_8 ⟨Nat.zero_le _, Nat.zero_le _⟩) (fun H locs hP hD hS => ?_)
  by_cases c1 : (r : Int32) = 1
  · replace hr := it_t hr c1
    refine lv_tableIn (tgt := 36) (off := 25) hx hb dX1_wakingOf_11 (by rw [c1]; decide) (by rw [c1]; decide) (by rw [c1]; rfl) (by decide) ?_
    refine lv_iconst (v := 3) hx hb dX1_wakingOf_36 (by decide) ?_
    have he := Option.some.inj hr
    subst he
    subst hQ
    exact ret_i hx hb hrt hK hP hD hS hlocks dX1_wakingOf_37
  · replace hr := it_f hr c1
    by_cases c2 : (r : Int32) = 2
    · replace hr := it_t hr c2
      refine lv_tableIn (tgt := 38) (off := 27) hx hb dX1_wakingOf_11 (by rw [c2]; decide) (by rw [c2]; decide) (by rw [c2]; rfl) (by decide) ?_
      refine lv_iconst (v := 0) hx hb dX1_wakingOf_38 (by decide) ?_
      have he := Option.some.inj hr
      subst he
      subst hQ
      exact ret_i hx hb hrt hK hP hD hS hlocks dX1_wakingOf_39
    · replace hr := it_f hr c2
      by_cases c3 : (r : Int32) = 3
      · replace hr := it_t hr c3
        refine lv_tableIn (tgt := 40) (off := 29) hx hb dX1_wakingOf_11 (by rw [c3]; decide) (by rw [c3]; decide) (by rw [c3]; rfl) (by decide) ?_
        refine lv_iconst (v := 2) hx hb dX1_wakingOf_40 (by decide) ?_
        refine lv_aload_n hx hb dX1_wakingOf_41 rfl (lv_at hl 0 rfl) ?_
        refine va_get (D := (dC, dI)) (ci := 1) (v := .ref a_T_floors) (C := RX1) (T := TX1) (N := 4) hx hb hts inX1_wakingOf_X1 hown hK hP 0 rfl rfl 1 (by decide) (hts _ mbX1_wakingOf_5) (fun _ h9 => h9) rfl dX1_wakingOf_42 ?_
        refine lv_iload_n hx hb dX1_wakingOf_45 rfl (lv_at hl 1 rfl) ?_
        obtain ⟨r_1, hc2, hr⟩ := bd1_some hr
        refine call_i (D := (dC, dI)) (tys := tysA cC cI cJ) (wc := [(a_T_floors, .inl (cI, 6, .inl T_floors))]) (wr := [(a_T, .inr (1, [.ref a_T_slate, .ref a_T_floors, .int T_here, .int T_struck])), (a_T_slate, .inr (5, [.ref a_T_slate_guestKind, .ref a_T_slate_guestFloor, .ref a_T_slate_wishKind, .ref a_T_slate_wishA, .ref a_T_slate_wishB, .ref a_T_slate_wishNames, .int T_slate_guests, .int T_slate_wishes, .int T_slate_start])), (a_T_slate_guestKind, .inl (cI, 6, .inl T_slate_guestKind))]) (w1 := [(a_T_floors, .inl (cI, 6, .inl T_floors))]) (wn := [(a_T, .inr (1, [.ref a_T_slate, .ref a_T_floors, .int T_here, .int T_struck])), (a_T_slate, .inr (5, [.ref a_T_slate_guestKind, .ref a_T_slate_guestFloor, .ref a_T_slate_wishKind, .ref a_T_slate_wishA, .ref a_T_slate_wishB, .ref a_T_slate_wishNames, .int T_slate_guests, .int T_slate_wishes, .int T_slate_start])), (a_T_slate_guestKind, .inl (cI, 6, .inl T_slate_guestKind)), (a_T_floors, .inl (cI, 6, .inl T_floors))]) (r0 := r_1) hP hD hS hA [3] [0, 1, 2] [0, 1, 2, 3] rfl rfl (by decide +kernel) (by decide +kernel) rfl (by decide +kernel) (va_runSN (host := "BootsAtDawn") (As := [.ref a_T_floors, .int x1]) (rest := [.int 2]) ⟨hx, hb, hml, hown, hts⟩ (kX8_at l dC dI cC cI cJ H.size K a_T_floors 6 x1 T_floors r_1 hc2) ⟨va_cnB 2 hts gX1_wakingOf_X8_at_n45 rfl rfl rfl (hN _ nw_69) (hts _ mbX1_wakingOf_3) (by decide +kernel) ⟨Nat.le_of_ble_eq_true rfl, Nat.le_of_ble_eq_true rfl⟩, (hts _ mbX1_wakingOf_4), trivial⟩ ⟨fbW, preW hP hD hK hN [3] rfl (by decide +kernel)⟩ rfl rfl hl.1 rfl (lv_room (Nat.le_of_ble_eq_true rfl)) dX1_wakingOf_46 ⟨Nat.zero_le _, Nat.zero_le _⟩) (fun H locs hP hD hS => ?_)
        refine lv_iadd hx hb dX1_wakingOf_49 ?_
        have he := Option.some.inj hr
        subst he
        subst hQ
        exact ret_i hx hb hrt hK hP hD hS hlocks dX1_wakingOf_50
      · replace hr := it_f hr c3
        refine lv_tableOut (tgt := 51) hx hb dX1_wakingOf_11 (ts_out (fun i h1 h2 => ?_)) (by decide) ?_
        · rcases (show i = 1 ∨ i = 2 ∨ i = 3 by omega) with rfl | rfl | rfl
          · exact ts_ne c1
          · exact ts_ne c2
          · exact ts_ne c3
        · skip
          refine lv_iconst (v := 1) hx hb dX1_wakingOf_51 (by decide) ?_
          have he := Option.some.inj hr
          subst he
          subst hQ
          exact ret_i hx hb hrt hK hP hD hS hlocks dX1_wakingOf_52
def fX1_stands (K : Nat) (x1 : Int32) (T_here : Int32) (T_struck : Int32) (T_slate_wishNames : (Nat → Int32)) : Option (Int32) :=
    bd1 (fX8_at K 9 x1 T_slate_wishNames) fun r =>
    bd1 (
    if ((r &&& (T_here ^^^ (-1))) : Int32) = 0 then (
    some 1)
    else (
    some 0)) fun y =>
    if (y : Int32) = 0 then (
    some 0)
    else (
    bd1 (fX8_has K T_struck x1) fun r_1 =>
    if (r_1 : Int32) = 0 then (
    some 1)
    else (
    some 0))
theorem mbX1_stands_0 : Cond.fieldLink RX1 15 "BootsAtDawn$Night" "slate" "LBootsAtDawn$Slate;" ∈ wsX1_stands := List.mem_of_getElem? (i := 1) rfl
theorem inX1_stands_X1 : ∀ w ∈ u_ws RX1 TX1 4, w ∈ wsX1_stands := fun _ h => (List.mem_cons_of_mem _ (List.mem_append_left _ (List.mem_append_right _ h)))
theorem inX1_stands_X5 : ∀ w ∈ u_ws RX5 TX5 9, w ∈ wsX1_stands := fun _ h => (List.mem_cons_of_mem _ (List.mem_append_right _ h))
theorem mbX1_stands_3 : Cond.initialized RX8 ∈ wsX1_stands := List.mem_of_getElem? (i := 5) rfl
theorem mbX1_stands_4 : Cond.static yX8_at ∈ wsX1_stands := List.mem_of_getElem? (i := 4) rfl
theorem mbX1_stands_5 : Cond.fieldLink RX1 32 "BootsAtDawn$Night" "here" "I" ∈ wsX1_stands := List.mem_of_getElem? (i := 2) rfl
theorem mbX1_stands_6 : Cond.fieldLink RX1 35 "BootsAtDawn$Night" "struck" "I" ∈ wsX1_stands := List.mem_of_getElem? (i := 3) rfl
theorem mbX1_stands_7 : Cond.static yX8_has ∈ wsX1_stands := List.mem_of_getElem? (i := 7) rfl
abbrev rmX1_stands : Room := { frames := 1, cells := 0, slots := 0, locals := 21 }
set_option maxHeartbeats 8000000 in
set_option maxRecDepth 100000 in
theorem kX1_stands (l : Launch) (dC : Nat → ClassId) (dI : Nat → Nat → Nat) (cC cI cJ : ClassId) (sz : Nat) (K : Nat) (a_T a_T_slate a_T_floors a_T_slate_guestKind a_T_slate_guestFloor a_T_slate_wishKind a_T_slate_wishA a_T_slate_wishB a_T_slate_wishNames : Nat) (x1 : Int32) (T_here : Int32) (T_struck : Int32) (T_slate_guests : Int32) (T_slate_wishes : Int32) (T_slate_start : Int32) (T_slate_wishNames : (Nat → Int32)) (R : Int32) (hr : fX1_stands K x1 T_here T_struck T_slate_wishNames = some R) : Met l yX1_stands wsX1_stands rmX1_stands (va_Pc ([.ref a_T, .int x1] : List Value) (PcW (dC, dI) (tysA cC cI cJ) sz [(a_T, .inr (1, [.ref a_T_slate, .ref a_T_floors, .int T_here, .int T_struck])), (a_T_slate, .inr (5, [.ref a_T_slate_guestKind, .ref a_T_slate_guestFloor, .ref a_T_slate_wishKind, .ref a_T_slate_wishA, .ref a_T_slate_wishB, .ref a_T_slate_wishNames, .int T_slate_guests, .int T_slate_wishes, .int T_slate_start])), (a_T_slate_wishNames, .inl (cI, 9, .inl T_slate_wishNames))])) (va_Qi (fun r (_ : Unit) => r = R) (fun _ => BW (dC, dI) (tysA cC cI cJ) (va_A [(a_T, .inr (1, [.ref a_T_slate, .ref a_T_floors, .int T_here, .int T_struck])), (a_T_slate, .inr (5, [.ref a_T_slate_guestKind, .ref a_T_slate_guestFloor, .ref a_T_slate_wishKind, .ref a_T_slate_wishA, .ref a_T_slate_wishB, .ref a_T_slate_wishNames, .int T_slate_guests, .int T_slate_wishes, .int T_slate_start])), (a_T_slate_wishNames, .inl (cI, 9, .inl T_slate_wishNames))] sz) [(a_T, .inr (1, [.ref a_T_slate, .ref a_T_floors, .int T_here, .int T_struck])), (a_T_slate, .inr (5, [.ref a_T_slate_guestKind, .ref a_T_slate_guestFloor, .ref a_T_slate_wishKind, .ref a_T_slate_wishA, .ref a_T_slate_wishB, .ref a_T_slate_wishNames, .int T_slate_guests, .int T_slate_wishes, .int T_slate_start])), (a_T_slate_wishNames, .inl (cI, 9, .inl T_slate_wishNames))]) (va_A [(a_T, .inr (1, [.ref a_T_slate, .ref a_T_floors, .int T_here, .int T_struck])), (a_T_slate, .inr (5, [.ref a_T_slate_guestKind, .ref a_T_slate_guestFloor, .ref a_T_slate_wishKind, .ref a_T_slate_wishA, .ref a_T_slate_wishB, .ref a_T_slate_wishNames, .int T_slate_guests, .int T_slate_wishes, .int T_slate_start])), (a_T_slate_wishNames, .inl (cI, 9, .inl T_slate_wishNames))] sz)) 0 0 (va_A [(a_T, .inr (1, [.ref a_T_slate, .ref a_T_floors, .int T_here, .int T_struck])), (a_T_slate, .inr (5, [.ref a_T_slate_guestKind, .ref a_T_slate_guestFloor, .ref a_T_slate_wishKind, .ref a_T_slate_wishA, .ref a_T_slate_wishB, .ref a_T_slate_wishNames, .int T_slate_guests, .int T_slate_wishes, .int T_slate_start])), (a_T_slate_wishNames, .inl (cI, 9, .inl T_slate_wishNames))] sz) := by
  refine Met.ofW (cc := cX1_stands) (maxL := 3) (ret := (some .boolean)) (by decide) rfl ?_
  intro p e s m args below meth c s₁ B hml hv
  obtain ⟨rfl, hsz, hP, hK, hD0, hN⟩ := hv
  have hx := B.exec
  have hb := B.bytes
  have hrt := B.returns
  have hts := atoms_spec (ws := wsX1_stands) B.pre
  have hown : s.vm.findClass RX1 = some m.cls := findClass_of_methodNamed B.named
  have hlocks := B.notSynchronized
  subst hsz
  have hD := hD0.self (sz := s.heap.size)
  generalize hAe : va_A [(a_T, .inr (1, [.ref a_T_slate, .ref a_T_floors, .int T_here, .int T_struck])), (a_T_slate, .inr (5, [.ref a_T_slate_guestKind, .ref a_T_slate_guestFloor, .ref a_T_slate_wishKind, .ref a_T_slate_wishA, .ref a_T_slate_wishB, .ref a_T_slate_wishNames, .int T_slate_guests, .int T_slate_wishes, .int T_slate_start])), (a_T_slate_wishNames, .inl (cI, 9, .inl T_slate_wishNames))] s.heap.size = A at hD ⊢
  have hA : ∀ q : Nat, s.heap.size ≤ q → A q := fun q h => by rw [← hAe]; exact Or.inr h
  have hS : va_S A s.heap s.heap [] := va_S.rf
  have hl := lv_entry ([.ref a_T, .int x1] : List Value) (n := 3) (Nat.le_of_ble_eq_true rfl)
  rw [lg_entry_eq]
  generalize (lg_sl ([.ref a_T, .int x1] : List Value) ++ List.replicate (3 - (lg_sl ([.ref a_T, .int x1] : List Value)).length) Slot.unset).toArray = ls at hl ⊢
  replace hl : lv_has ls 3 [(0, .ref a_T), (1, .int x1)] := hl
  obtain ⟨Q, hQ⟩ : ∃ Q, Q = MQ below (va_Qi (fun r (_ : Unit) => r = R) (fun _ => BW (dC, dI) (tysA cC cI cJ) A [(a_T, .inr (1, [.ref a_T_slate, .ref a_T_floors, .int T_here, .int T_struck])), (a_T_slate, .inr (5, [.ref a_T_slate_guestKind, .ref a_T_slate_guestFloor, .ref a_T_slate_wishKind, .ref a_T_slate_wishA, .ref a_T_slate_wishB, .ref a_T_slate_wishNames, .int T_slate_guests, .int T_slate_wishes, .int T_slate_start])), (a_T_slate_wishNames, .inl (cI, 9, .inl T_slate_wishNames))]) A) ([.ref a_T, .int x1] : List Value).toArray s 0 0 A := ⟨_, rfl⟩
  rw [← hQ]
  suffices hE : WG p l e rmX1_stands s m ([.ref a_T, .int x1] : List Value).toArray below meth c 0 0 Q (dC, dI) A 0 3 [(a_T, .inr (1, [.ref a_T_slate, .ref a_T_floors, .int T_here, .int T_struck])), (a_T_slate, .inr (5, [.ref a_T_slate_guestKind, .ref a_T_slate_guestFloor, .ref a_T_slate_wishKind, .ref a_T_slate_wishA, .ref a_T_slate_wishB, .ref a_T_slate_wishNames, .int T_slate_guests, .int T_slate_wishes, .int T_slate_start])), (a_T_slate_wishNames, .inl (cI, 9, .inl T_slate_wishNames))] [(0, .ref a_T), (1, .int x1)] [] from hE _ _ _ hP hD hS hl
  clear hP hD hS hl hD0 hAe
  intro H locs ls hP hD hS hl
  unfold fX1_stands at hr
  refine lv_aload_n hx hb dX1_stands_0 rfl (lv_at hl 0 rfl) ?_
  refine va_get (D := (dC, dI)) (ci := 1) (v := .ref a_T_slate) (C := RX1) (T := TX1) (N := 4) hx hb hts inX1_stands_X1 hown hK hP 0 rfl rfl 0 (by decide) (hts _ mbX1_stands_0) (fun _ h9 => h9) rfl dX1_stands_1 ?_
  refine va_getN (D := (dC, dI)) (ci := 5) (v := .ref a_T_slate_wishNames) (C := RX5) (T := TX5) (N := 9) hx hb hts inX1_stands_X5 hown hK hP 1 rfl rfl 5 (by decide) (nk_use hN nw_14) (fun _ h9 => h9) rfl dX1_stands_4 ?_
  refine lv_iload_n hx hb dX1_stands_7 rfl (lv_at hl 1 rfl) ?_
  obtain ⟨r, hc1, hr⟩ := bd1_some hr
  refine call_i (D := (dC, dI)) (tys := tysA cC cI cJ) (wc := [(a_T_slate_wishNames, .inl (cI, 9, .inl T_slate_wishNames))]) (wr := [(a_T, .inr (1, [.ref a_T_slate, .ref a_T_floors, .int T_here, .int T_struck])), (a_T_slate, .inr (5, [.ref a_T_slate_guestKind, .ref a_T_slate_guestFloor, .ref a_T_slate_wishKind, .ref a_T_slate_wishA, .ref a_T_slate_wishB, .ref a_T_slate_wishNames, .int T_slate_guests, .int T_slate_wishes, .int T_slate_start]))]) (w1 := [(a_T_slate_wishNames, .inl (cI, 9, .inl T_slate_wishNames))]) (wn := [(a_T, .inr (1, [.ref a_T_slate, .ref a_T_floors, .int T_here, .int T_struck])), (a_T_slate, .inr (5, [.ref a_T_slate_guestKind, .ref a_T_slate_guestFloor, .ref a_T_slate_wishKind, .ref a_T_slate_wishA, .ref a_T_slate_wishB, .ref a_T_slate_wishNames, .int T_slate_guests, .int T_slate_wishes, .int T_slate_start])), (a_T_slate_wishNames, .inl (cI, 9, .inl T_slate_wishNames))]) (r0 := r) hP hD hS hA [2] [0, 1] [0, 1, 2] rfl rfl (by decide +kernel) (by decide +kernel) rfl (by decide +kernel) (va_runSN (host := "BootsAtDawn") (As := [.ref a_T_slate_wishNames, .int x1]) (rest := []) ⟨hx, hb, hml, hown, hts⟩ (kX8_at l dC dI cC cI cJ H.size K a_T_slate_wishNames 9 x1 T_slate_wishNames r hc1) ⟨va_cnB 2 hts gX1_stands_X8_at_n45 rfl rfl rfl (hN _ nw_69) (hts _ mbX1_stands_3) (by decide +kernel) ⟨Nat.le_of_ble_eq_true rfl, Nat.le_of_ble_eq_true rfl⟩, (hts _ mbX1_stands_4), trivial⟩ ⟨fbW, preW hP hD hK hN [2] rfl (by decide +kernel)⟩ rfl rfl hl.1 rfl (lv_room (Nat.le_of_ble_eq_true rfl)) dX1_stands_8 ⟨Nat.zero_le _, Nat.zero_le _⟩) (fun H locs hP hD hS => ?_)
  refine lv_aload_n hx hb dX1_stands_11 rfl (lv_at hl 0 rfl) ?_
  refine va_get (D := (dC, dI)) (ci := 1) (v := .int T_here) (C := RX1) (T := TX1) (N := 4) hx hb hts inX1_stands_X1 hown hK hP 0 rfl rfl 2 (by decide) (hts _ mbX1_stands_5) (fun _ h9 => h9) rfl dX1_stands_12 ?_
  refine lv_iconst (v := (-1)) hx hb dX1_stands_15 (by decide) ?_
  refine lv_ixor hx hb dX1_stands_16 ?_
  refine lv_iand hx hb dX1_stands_17 ?_
  obtain ⟨y, hj1, hr⟩ := bd1_some hr
  have hJ1 : WG p l e rmX1_stands s m ([.ref a_T, .int x1] : List Value).toArray below meth c 0 0 Q (dC, dI) A 26 3 [(a_T, .inr (1, [.ref a_T_slate, .ref a_T_floors, .int T_here, .int T_struck])), (a_T_slate, .inr (5, [.ref a_T_slate_guestKind, .ref a_T_slate_guestFloor, .ref a_T_slate_wishKind, .ref a_T_slate_wishA, .ref a_T_slate_wishB, .ref a_T_slate_wishNames, .int T_slate_guests, .int T_slate_wishes, .int T_slate_start])), (a_T_slate_wishNames, .inl (cI, 9, .inl T_slate_wishNames))] [(0, .ref a_T), (1, .int x1)] [.int y] := by
    intro H locs ls hP hD hS hl
    refine lv_istore_n (lv' := [(2, .int y), (0, .ref a_T), (1, .int x1)]) hx hb dX1_stands_26 rfl hl (by decide) rfl (fun ls hl => ?_)
    refine lv_iload_n hx hb dX1_stands_27 rfl (lv_at hl 0 rfl) ?_
    refine lv_if_eq (tgt := 46) hx hb dX1_stands_28 (by decide) (fun c2 => ?_) (fun c2 => ?_)
    · replace hr := it_t hr c2
      refine lv_iconst (v := 0) hx hb dX1_stands_46 (by decide) ?_
      have he := Option.some.inj hr
      subst he
      subst hQ
      exact ret_z hx hb hrt (show narrow .boolean (.int 0) = .int 0 from rfl) hK hP hD hS hlocks dX1_stands_47
    · replace hr := it_f hr c2
      refine lv_aload_n hx hb dX1_stands_31 rfl (lv_at hl 1 rfl) ?_
      refine va_get (D := (dC, dI)) (ci := 1) (v := .int T_struck) (C := RX1) (T := TX1) (N := 4) hx hb hts inX1_stands_X1 hown hK hP 0 rfl rfl 3 (by decide) (hts _ mbX1_stands_6) (fun _ h9 => h9) rfl dX1_stands_32 ?_
      refine lv_iload_n hx hb dX1_stands_35 rfl (lv_at hl 2 rfl) ?_
      obtain ⟨r_1, hc2, hr⟩ := bd1_some hr
      refine call_i (D := (dC, dI)) (tys := tysA cC cI cJ) (wc := []) (wr := [(a_T, .inr (1, [.ref a_T_slate, .ref a_T_floors, .int T_here, .int T_struck])), (a_T_slate, .inr (5, [.ref a_T_slate_guestKind, .ref a_T_slate_guestFloor, .ref a_T_slate_wishKind, .ref a_T_slate_wishA, .ref a_T_slate_wishB, .ref a_T_slate_wishNames, .int T_slate_guests, .int T_slate_wishes, .int T_slate_start])), (a_T_slate_wishNames, .inl (cI, 9, .inl T_slate_wishNames))]) (w1 := []) (wn := [(a_T, .inr (1, [.ref a_T_slate, .ref a_T_floors, .int T_here, .int T_struck])), (a_T_slate, .inr (5, [.ref a_T_slate_guestKind, .ref a_T_slate_guestFloor, .ref a_T_slate_wishKind, .ref a_T_slate_wishA, .ref a_T_slate_wishB, .ref a_T_slate_wishNames, .int T_slate_guests, .int T_slate_wishes, .int T_slate_start])), (a_T_slate_wishNames, .inl (cI, 9, .inl T_slate_wishNames))]) (r0 := r_1) hP hD hS hA [] [0, 1, 2] [0, 1, 2] rfl rfl (by decide +kernel) (by decide +kernel) rfl (by decide +kernel) (va_runSN (host := "BootsAtDawn") (As := [.int T_struck, .int x1]) (rest := []) ⟨hx, hb, hml, hown, hts⟩ (kX8_has l dC dI cC cI cJ H.size K T_struck x1 r_1 hc2) ⟨va_cnB 2 hts gX1_stands_X8_has_n52 rfl rfl rfl (hN _ nw_72) (hts _ mbX1_stands_3) (by decide +kernel) ⟨Nat.le_of_ble_eq_true rfl, Nat.le_of_ble_eq_true rfl⟩, (hts _ mbX1_stands_7), trivial⟩ ⟨fbW, preW hP hD hK hN [] rfl (by decide +kernel)⟩ rfl rfl hl.1 rfl (lv_room (Nat.le_of_ble_eq_true rfl)) dX1_stands_36 ⟨Nat.zero_le _, Nat.zero_le _⟩) (fun H locs hP hD hS => ?_)
      refine lv_if_ne (tgt := 46) hx hb dX1_stands_39 (by decide) (fun c3 => ?_) (fun c3 => ?_)
      · replace hr := it_f hr c3
        refine lv_iconst (v := 0) hx hb dX1_stands_46 (by decide) ?_
        have he := Option.some.inj hr
        subst he
        subst hQ
        exact ret_z hx hb hrt (show narrow .boolean (.int 0) = .int 0 from rfl) hK hP hD hS hlocks dX1_stands_47
      · replace hr := it_t hr c3
        refine lv_iconst (v := 1) hx hb dX1_stands_42 (by decide) ?_
        refine lv_goto (tgt := 47) hx hb dX1_stands_43 (by decide) ?_
        have he := Option.some.inj hr
        subst he
        subst hQ
        exact ret_z hx hb hrt (show narrow .boolean (.int 1) = .int 1 from rfl) hK hP hD hS hlocks dX1_stands_47
  replace hr := hj1
  refine lv_if_ne (tgt := 25) hx hb dX1_stands_18 (by decide) (fun c1 => ?_) (fun c1 => ?_)
  · replace hr := it_f hr c1
    refine lv_iconst (v := 0) hx hb dX1_stands_25 (by decide) ?_
    cases hr
    exact hJ1 H locs ls hP hD hS (lv_sub hl [0, 1] rfl)
  · replace hr := it_t hr c1
    refine lv_iconst (v := 1) hx hb dX1_stands_21 (by decide) ?_
    refine lv_goto (tgt := 26) hx hb dX1_stands_22 (by decide) ?_
    cases hr
    exact hJ1 H locs ls hP hD hS (lv_sub hl [0, 1] rfl)
def fX1_standing_L4 (K : Nat) (T_here : Int32) (T_struck : Int32) (T_slate_wishes : Int32) (T_slate_wishNames : (Nat → Int32)) : Nat → Int32 → Int32 → Option (Int32)
  | 0, _, _ => none
  | n1 + 1, x1, x2 =>
    if T_slate_wishes ≤ (x2 : Int32) then (
    some x1)
    else (
    bd1 (fX1_stands K x2 T_here T_struck T_slate_wishNames) fun r =>
    bd1 (
    if (r : Int32) = 0 then (
    some x1)
    else (
    nm (x1 ||| (1 <<< (x2 &&& 31))) fun x1_2 =>
    some x1_2)) fun x1_3 =>
    nm (x2 + 1) fun x2_1 =>
    fX1_standing_L4 K T_here T_struck T_slate_wishes T_slate_wishNames n1 x1_3 x2_1)
def fX1_standing (K : Nat) (T_here : Int32) (T_struck : Int32) (T_slate_wishes : Int32) (T_slate_wishNames : (Nat → Int32)) : Option (Int32) :=
    bd1 (fX1_standing_L4 K T_here T_struck T_slate_wishes T_slate_wishNames K 0 0) fun x1_1 =>
    some x1_1
theorem mbX1_standing_0 : Cond.fieldLink RX1 15 "BootsAtDawn$Night" "slate" "LBootsAtDawn$Slate;" ∈ wsX1_standing := List.mem_of_getElem? (i := 1) rfl
theorem inX1_standing_X1 : ∀ w ∈ u_ws RX1 TX1 4, w ∈ wsX1_standing := fun _ h => (List.mem_cons_of_mem _ (List.mem_append_left _ (List.mem_append_right _ h)))
theorem inX1_standing_X5 : ∀ w ∈ u_ws RX5 TX5 9, w ∈ wsX1_standing := fun _ h => (List.mem_cons_of_mem _ (List.mem_append_right _ h))
abbrev rmX1_standing : Room := { frames := 2, cells := 0, slots := 0, locals := 43 }
set_option maxHeartbeats 8000000 in
set_option maxRecDepth 100000 in
theorem kX1_standing (l : Launch) (dC : Nat → ClassId) (dI : Nat → Nat → Nat) (cC cI cJ : ClassId) (sz : Nat) (K : Nat) (a_T a_T_slate a_T_floors a_T_slate_guestKind a_T_slate_guestFloor a_T_slate_wishKind a_T_slate_wishA a_T_slate_wishB a_T_slate_wishNames : Nat) (T_here : Int32) (T_struck : Int32) (T_slate_guests : Int32) (T_slate_wishes : Int32) (T_slate_start : Int32) (T_slate_wishNames : (Nat → Int32)) (R : Int32) (hr : fX1_standing K T_here T_struck T_slate_wishes T_slate_wishNames = some R) : Met l yX1_standing wsX1_standing rmX1_standing (va_Pc ([.ref a_T] : List Value) (PcW (dC, dI) (tysA cC cI cJ) sz [(a_T, .inr (1, [.ref a_T_slate, .ref a_T_floors, .int T_here, .int T_struck])), (a_T_slate, .inr (5, [.ref a_T_slate_guestKind, .ref a_T_slate_guestFloor, .ref a_T_slate_wishKind, .ref a_T_slate_wishA, .ref a_T_slate_wishB, .ref a_T_slate_wishNames, .int T_slate_guests, .int T_slate_wishes, .int T_slate_start])), (a_T_slate_wishNames, .inl (cI, 9, .inl T_slate_wishNames))])) (va_Qi (fun r (_ : Unit) => r = R) (fun _ => BW (dC, dI) (tysA cC cI cJ) (va_A [(a_T, .inr (1, [.ref a_T_slate, .ref a_T_floors, .int T_here, .int T_struck])), (a_T_slate, .inr (5, [.ref a_T_slate_guestKind, .ref a_T_slate_guestFloor, .ref a_T_slate_wishKind, .ref a_T_slate_wishA, .ref a_T_slate_wishB, .ref a_T_slate_wishNames, .int T_slate_guests, .int T_slate_wishes, .int T_slate_start])), (a_T_slate_wishNames, .inl (cI, 9, .inl T_slate_wishNames))] sz) [(a_T, .inr (1, [.ref a_T_slate, .ref a_T_floors, .int T_here, .int T_struck])), (a_T_slate, .inr (5, [.ref a_T_slate_guestKind, .ref a_T_slate_guestFloor, .ref a_T_slate_wishKind, .ref a_T_slate_wishA, .ref a_T_slate_wishB, .ref a_T_slate_wishNames, .int T_slate_guests, .int T_slate_wishes, .int T_slate_start])), (a_T_slate_wishNames, .inl (cI, 9, .inl T_slate_wishNames))]) (va_A [(a_T, .inr (1, [.ref a_T_slate, .ref a_T_floors, .int T_here, .int T_struck])), (a_T_slate, .inr (5, [.ref a_T_slate_guestKind, .ref a_T_slate_guestFloor, .ref a_T_slate_wishKind, .ref a_T_slate_wishA, .ref a_T_slate_wishB, .ref a_T_slate_wishNames, .int T_slate_guests, .int T_slate_wishes, .int T_slate_start])), (a_T_slate_wishNames, .inl (cI, 9, .inl T_slate_wishNames))] sz)) 0 0 (va_A [(a_T, .inr (1, [.ref a_T_slate, .ref a_T_floors, .int T_here, .int T_struck])), (a_T_slate, .inr (5, [.ref a_T_slate_guestKind, .ref a_T_slate_guestFloor, .ref a_T_slate_wishKind, .ref a_T_slate_wishA, .ref a_T_slate_wishB, .ref a_T_slate_wishNames, .int T_slate_guests, .int T_slate_wishes, .int T_slate_start])), (a_T_slate_wishNames, .inl (cI, 9, .inl T_slate_wishNames))] sz) := by
  refine Met.ofW (cc := cX1_standing) (maxL := 3) (ret := (some .int)) (by decide) rfl ?_
  intro p e s m args below meth c s₁ B hml hv
  obtain ⟨rfl, hsz, hP, hK, hD0, hN⟩ := hv
  have hx := B.exec
  have hb := B.bytes
  have hrt := B.returns
  have hts := atoms_spec (ws := wsX1_standing) B.pre
  have hown : s.vm.findClass RX1 = some m.cls := findClass_of_methodNamed B.named
  have hlocks := B.notSynchronized
  subst hsz
  have hD := hD0.self (sz := s.heap.size)
  generalize hAe : va_A [(a_T, .inr (1, [.ref a_T_slate, .ref a_T_floors, .int T_here, .int T_struck])), (a_T_slate, .inr (5, [.ref a_T_slate_guestKind, .ref a_T_slate_guestFloor, .ref a_T_slate_wishKind, .ref a_T_slate_wishA, .ref a_T_slate_wishB, .ref a_T_slate_wishNames, .int T_slate_guests, .int T_slate_wishes, .int T_slate_start])), (a_T_slate_wishNames, .inl (cI, 9, .inl T_slate_wishNames))] s.heap.size = A at hD ⊢
  have hA : ∀ q : Nat, s.heap.size ≤ q → A q := fun q h => by rw [← hAe]; exact Or.inr h
  have hS : va_S A s.heap s.heap [] := va_S.rf
  have hl := lv_entry ([.ref a_T] : List Value) (n := 3) (Nat.le_of_ble_eq_true rfl)
  rw [lg_entry_eq]
  generalize (lg_sl ([.ref a_T] : List Value) ++ List.replicate (3 - (lg_sl ([.ref a_T] : List Value)).length) Slot.unset).toArray = ls at hl ⊢
  replace hl : lv_has ls 3 [(0, .ref a_T)] := hl
  obtain ⟨Q, hQ⟩ : ∃ Q, Q = MQ below (va_Qi (fun r (_ : Unit) => r = R) (fun _ => BW (dC, dI) (tysA cC cI cJ) A [(a_T, .inr (1, [.ref a_T_slate, .ref a_T_floors, .int T_here, .int T_struck])), (a_T_slate, .inr (5, [.ref a_T_slate_guestKind, .ref a_T_slate_guestFloor, .ref a_T_slate_wishKind, .ref a_T_slate_wishA, .ref a_T_slate_wishB, .ref a_T_slate_wishNames, .int T_slate_guests, .int T_slate_wishes, .int T_slate_start])), (a_T_slate_wishNames, .inl (cI, 9, .inl T_slate_wishNames))]) A) ([.ref a_T] : List Value).toArray s 0 0 A := ⟨_, rfl⟩
  rw [← hQ]
  suffices hE : WG p l e rmX1_standing s m ([.ref a_T] : List Value).toArray below meth c 0 0 Q (dC, dI) A 0 3 [(a_T, .inr (1, [.ref a_T_slate, .ref a_T_floors, .int T_here, .int T_struck])), (a_T_slate, .inr (5, [.ref a_T_slate_guestKind, .ref a_T_slate_guestFloor, .ref a_T_slate_wishKind, .ref a_T_slate_wishA, .ref a_T_slate_wishB, .ref a_T_slate_wishNames, .int T_slate_guests, .int T_slate_wishes, .int T_slate_start])), (a_T_slate_wishNames, .inl (cI, 9, .inl T_slate_wishNames))] [(0, .ref a_T)] [] from hE _ _ _ hP hD hS hl
  clear hP hD hS hl hD0 hAe
  intro H locs ls hP hD hS hl
  unfold fX1_standing at hr
  refine lv_iconst (v := 0) hx hb dX1_standing_0 (by decide) ?_
  refine lv_istore_n (lv' := [(1, .int 0), (0, .ref a_T)]) hx hb dX1_standing_1 rfl hl (by decide) rfl (fun ls hl => ?_)
  refine lv_iconst (v := 0) hx hb dX1_standing_2 (by decide) ?_
  refine lv_istore_n (lv' := [(2, .int 0), (1, .int 0), (0, .ref a_T)]) hx hb dX1_standing_3 rfl hl (by decide) rfl (fun ls hl => ?_)
  have hL1 : ∀ (n1 : Nat) (x1 : Int32) (x2 : Int32) (x1_1 : Int32), fX1_standing_L4 K T_here T_struck T_slate_wishes T_slate_wishNames n1 x1 x2 = some x1_1 → WG p l e rmX1_standing s m ([.ref a_T] : List Value).toArray below meth c 0 0 Q (dC, dI) A 35 3 [(a_T, .inr (1, [.ref a_T_slate, .ref a_T_floors, .int T_here, .int T_struck])), (a_T_slate, .inr (5, [.ref a_T_slate_guestKind, .ref a_T_slate_guestFloor, .ref a_T_slate_wishKind, .ref a_T_slate_wishA, .ref a_T_slate_wishB, .ref a_T_slate_wishNames, .int T_slate_guests, .int T_slate_wishes, .int T_slate_start])), (a_T_slate_wishNames, .inl (cI, 9, .inl T_slate_wishNames))] [(1, .int x1_1)] [] → WG p l e rmX1_standing s m ([.ref a_T] : List Value).toArray below meth c 0 0 Q (dC, dI) A 4 3 [(a_T, .inr (1, [.ref a_T_slate, .ref a_T_floors, .int T_here, .int T_struck])), (a_T_slate, .inr (5, [.ref a_T_slate_guestKind, .ref a_T_slate_guestFloor, .ref a_T_slate_wishKind, .ref a_T_slate_wishA, .ref a_T_slate_wishB, .ref a_T_slate_wishNames, .int T_slate_guests, .int T_slate_wishes, .int T_slate_start])), (a_T_slate_wishNames, .inl (cI, 9, .inl T_slate_wishNames))] [(0, .ref a_T), (1, .int x1), (2, .int x2)] [] := by
    intro n1
    induction n1 with
    | zero =>
      intro x1 x2 x1_1 hr
      rw [fX1_standing_L4] at hr
      cases hr
    | succ n1 ih4 =>
      intro x1 x2 x1_1 hr hX1 H locs ls hP hD hS hl
      rw [fX1_standing_L4] at hr
      refine lv_iload_n hx hb dX1_standing_4 rfl (lv_at hl 2 rfl) ?_
      refine lv_aload_n hx hb dX1_standing_5 rfl (lv_at hl 0 rfl) ?_
      refine va_get (D := (dC, dI)) (ci := 1) (v := .ref a_T_slate) (C := RX1) (T := TX1) (N := 4) hx hb hts inX1_standing_X1 hown hK hP 0 rfl rfl 0 (by decide) (hts _ mbX1_standing_0) (fun _ h9 => h9) rfl dX1_standing_6 ?_
      refine va_getN (D := (dC, dI)) (ci := 5) (v := .int T_slate_wishes) (C := RX5) (T := TX5) (N := 9) hx hb hts inX1_standing_X5 hown hK hP 1 rfl rfl 7 (by decide) (nk_use hN nw_18) (fun _ h9 => h9) rfl dX1_standing_9 ?_
      refine lv_icmp_ge (tgt := 35) hx hb dX1_standing_12 (by decide) (fun c1 => ?_) (fun c1 => ?_)
      · replace hr := it_t hr c1
        have he := Option.some.inj hr
        cases he
        exact hX1 H locs ls hP hD hS (lv_sub hl [1] rfl)
      · replace hr := it_f hr c1
        refine lv_aload_n hx hb dX1_standing_15 rfl (lv_at hl 0 rfl) ?_
        refine lv_iload_n hx hb dX1_standing_16 rfl (lv_at hl 2 rfl) ?_
        obtain ⟨r, hc1, hr⟩ := bd1_some hr
        refine call_i (D := (dC, dI)) (tys := tysA cC cI cJ) (wc := [(a_T, .inr (1, [.ref a_T_slate, .ref a_T_floors, .int T_here, .int T_struck])), (a_T_slate, .inr (5, [.ref a_T_slate_guestKind, .ref a_T_slate_guestFloor, .ref a_T_slate_wishKind, .ref a_T_slate_wishA, .ref a_T_slate_wishB, .ref a_T_slate_wishNames, .int T_slate_guests, .int T_slate_wishes, .int T_slate_start])), (a_T_slate_wishNames, .inl (cI, 9, .inl T_slate_wishNames))]) (wr := []) (w1 := [(a_T, .inr (1, [.ref a_T_slate, .ref a_T_floors, .int T_here, .int T_struck])), (a_T_slate, .inr (5, [.ref a_T_slate_guestKind, .ref a_T_slate_guestFloor, .ref a_T_slate_wishKind, .ref a_T_slate_wishA, .ref a_T_slate_wishB, .ref a_T_slate_wishNames, .int T_slate_guests, .int T_slate_wishes, .int T_slate_start])), (a_T_slate_wishNames, .inl (cI, 9, .inl T_slate_wishNames))]) (wn := [(a_T, .inr (1, [.ref a_T_slate, .ref a_T_floors, .int T_here, .int T_struck])), (a_T_slate, .inr (5, [.ref a_T_slate_guestKind, .ref a_T_slate_guestFloor, .ref a_T_slate_wishKind, .ref a_T_slate_wishA, .ref a_T_slate_wishB, .ref a_T_slate_wishNames, .int T_slate_guests, .int T_slate_wishes, .int T_slate_start])), (a_T_slate_wishNames, .inl (cI, 9, .inl T_slate_wishNames))]) (r0 := r) hP hD hS hA [0, 1, 2] [] [0, 1, 2] rfl rfl (by decide +kernel) (by decide +kernel) rfl (by decide +kernel) (va_runV (As := [.int x2]) (rest := []) ⟨hx, hb, hml, hown, hts⟩ (kX1_stands l dC dI cC cI cJ H.size K a_T a_T_slate a_T_floors a_T_slate_guestKind a_T_slate_guestFloor a_T_slate_wishKind a_T_slate_wishA a_T_slate_wishB a_T_slate_wishNames x2 T_here T_struck T_slate_guests T_slate_wishes T_slate_start T_slate_wishNames r hc1) (cwV 1 hts gX1_standing_X1_stands rfl rfl rfl (by decide +kernel) ⟨Nat.le_of_ble_eq_true rfl, Nat.le_of_ble_eq_true rfl⟩) ⟨fbW, va_recv hK hP (ci := 1) (q0 := 0) rfl rfl, preW hP hD hK hN [0, 1, 2] rfl (by decide +kernel)⟩ rfl rfl hl.1 rfl (lv_room (Nat.le_of_ble_eq_true rfl)) dX1_standing_17 ⟨Nat.zero_le _, Nat.zero_le _⟩) (fun H locs hP hD hS => ?_)
        obtain ⟨x1_3, hj1, hr⟩ := bd1_some hr
        have hJ1 : WG p l e rmX1_standing s m ([.ref a_T] : List Value).toArray below meth c 0 0 Q (dC, dI) A 29 3 [(a_T, .inr (1, [.ref a_T_slate, .ref a_T_floors, .int T_here, .int T_struck])), (a_T_slate, .inr (5, [.ref a_T_slate_guestKind, .ref a_T_slate_guestFloor, .ref a_T_slate_wishKind, .ref a_T_slate_wishA, .ref a_T_slate_wishB, .ref a_T_slate_wishNames, .int T_slate_guests, .int T_slate_wishes, .int T_slate_start])), (a_T_slate_wishNames, .inl (cI, 9, .inl T_slate_wishNames))] [(0, .ref a_T), (1, .int x1_3), (2, .int x2)] [] := by
          intro H locs ls hP hD hS hl
          obtain ⟨x2_1, e2, hr⟩ := nm_el hr
          refine lv_iinc (v := x2_1) (lv' := [(2, .int x2_1), (0, .ref a_T), (1, .int x1_3)]) hx hb dX1_standing_29 hl (k := 2) rfl e2.symm (by decide) rfl (fun ls hl => ?_)
          refine lv_goto (tgt := 4) hx hb dX1_standing_32 (by decide) ?_
          exact ih4 _ _ _ hr hX1 H locs ls hP hD hS (lv_sub hl [1, 2, 0] rfl)
        replace hr := hj1
        refine lv_if_eq (tgt := 29) hx hb dX1_standing_20 (by decide) (fun c2 => ?_) (fun c2 => ?_)
        · replace hr := it_t hr c2
          cases hr
          exact hJ1 H locs ls hP hD hS (lv_sub hl [0, 1, 2] rfl)
        · replace hr := it_f hr c2
          refine lv_iload_n hx hb dX1_standing_23 rfl (lv_at hl 1 rfl) ?_
          refine lv_iconst (v := 1) hx hb dX1_standing_24 (by decide) ?_
          refine lv_iload_n hx hb dX1_standing_25 rfl (lv_at hl 2 rfl) ?_
          refine lv_ishl hx hb dX1_standing_26 ?_
          refine lv_ior hx hb dX1_standing_27 ?_
          obtain ⟨x1_2, e1, hr⟩ := nm_el hr
          refine lv_nmi e1 ?_
          refine lv_istore_n (lv' := [(1, .int x1_2), (0, .ref a_T), (2, .int x2)]) hx hb dX1_standing_28 rfl hl (by decide) rfl (fun ls hl => ?_)
          cases hr
          exact hJ1 H locs ls hP hD hS (lv_sub hl [1, 0, 2] rfl)
  obtain ⟨x1_1, hE, hr⟩ := bd1_some hr
  refine hL1 K 0 0 x1_1 hE ?_ H locs ls hP hD hS (lv_sub hl [2, 1, 0] rfl)
  intro H locs ls hP hD hS hl
  refine lv_iload_n hx hb dX1_standing_35 rfl (lv_at hl 0 rfl) ?_
  have he := Option.some.inj hr
  subst he
  subst hQ
  exact ret_i hx hb hrt hK hP hD hS hlocks dX1_standing_36
def fX1_notSoonerThan_L4 (K : Nat) (x1 : Int32) (T_here : Int32) (T_struck : Int32) (T_slate_wishes : Int32) (T_slate_wishKind : (Nat → Int32)) (T_slate_wishA : (Nat → Int32)) (T_slate_wishNames : (Nat → Int32)) (T_slate_wishB : (Nat → Int32)) : Nat → Int32 → Int32 → Option (Int32)
  | 0, _, _ => none
  | n1 + 1, x2, x3 =>
    if T_slate_wishes ≤ (x3 : Int32) then (
    some x2)
    else (
    bd1 (fX8_at K 9 x3 T_slate_wishKind) fun r =>
    bd1 (
    if (r : Int32) = 3 then (
    bd1 (fX8_at K 9 x3 T_slate_wishA) fun r_1 =>
    if (r_1 : Int32) = x1 then (
    bd1 (fX1_stands K x3 T_here T_struck T_slate_wishNames) fun r_2 =>
    if (r_2 : Int32) = 0 then (
    some x2)
    else (
    bd1 (fX8_at K 9 x3 T_slate_wishB) fun r_3 =>
    nm (if x2 < r_3 then r_3 else x2) fun x2_2 =>
    some x2_2))
    else (
    some x2))
    else (
    some x2)) fun x2_3 =>
    nm (x3 + 1) fun x3_1 =>
    fX1_notSoonerThan_L4 K x1 T_here T_struck T_slate_wishes T_slate_wishKind T_slate_wishA T_slate_wishNames T_slate_wishB n1 x2_3 x3_1)
def fX1_notSoonerThan (K : Nat) (x1 : Int32) (T_here : Int32) (T_struck : Int32) (T_slate_wishes : Int32) (T_slate_wishKind : (Nat → Int32)) (T_slate_wishA : (Nat → Int32)) (T_slate_wishNames : (Nat → Int32)) (T_slate_wishB : (Nat → Int32)) : Option (Int32) :=
    bd1 (fX1_notSoonerThan_L4 K x1 T_here T_struck T_slate_wishes T_slate_wishKind T_slate_wishA T_slate_wishNames T_slate_wishB K 0 0) fun x2_1 =>
    some x2_1
theorem mbX1_notSoonerThan_0 : Cond.fieldLink RX1 15 "BootsAtDawn$Night" "slate" "LBootsAtDawn$Slate;" ∈ wsX1_notSoonerThan := List.mem_of_getElem? (i := 1) rfl
theorem inX1_notSoonerThan_X1 : ∀ w ∈ u_ws RX1 TX1 4, w ∈ wsX1_notSoonerThan := fun _ h => (List.mem_cons_of_mem _ (List.mem_append_left _ (List.mem_append_right _ h)))
theorem inX1_notSoonerThan_X5 : ∀ w ∈ u_ws RX5 TX5 9, w ∈ wsX1_notSoonerThan := fun _ h => (List.mem_cons_of_mem _ (List.mem_append_right _ h))
theorem mbX1_notSoonerThan_3 : Cond.initialized RX8 ∈ wsX1_notSoonerThan := List.mem_of_getElem? (i := 7) rfl
theorem mbX1_notSoonerThan_4 : Cond.static yX8_at ∈ wsX1_notSoonerThan := List.mem_of_getElem? (i := 6) rfl
theorem mbX1_notSoonerThan_5 : Cond.methodLink RX1 72 Lib.Math.max.name ∈ wsX1_notSoonerThan := List.mem_of_getElem? (i := 2) rfl
theorem mbX1_notSoonerThan_6 : Cond.static Lib.Math.max.name ∈ wsX1_notSoonerThan := List.mem_of_getElem? (i := 3) rfl
theorem mbX1_notSoonerThan_7 : Cond.initialized "java/lang/Math" ∈ wsX1_notSoonerThan := List.mem_of_getElem? (i := 4) rfl
theorem mbX1_notSoonerThan_8 : Cond.code Lib.Math.max.name Lib.Math.max.code 2 (some .int) ∈ wsX1_notSoonerThan := List.mem_of_getElem? (i := 5) rfl
abbrev rmX1_notSoonerThan : Room := { frames := 2, cells := 0, slots := 0, locals := 43 }
set_option maxHeartbeats 8000000 in
set_option maxRecDepth 100000 in
theorem kX1_notSoonerThan (l : Launch) (dC : Nat → ClassId) (dI : Nat → Nat → Nat) (cC cI cJ : ClassId) (sz : Nat) (K : Nat) (a_T a_T_slate a_T_floors a_T_slate_guestKind a_T_slate_guestFloor a_T_slate_wishKind a_T_slate_wishA a_T_slate_wishB a_T_slate_wishNames : Nat) (x1 : Int32) (T_here : Int32) (T_struck : Int32) (T_slate_guests : Int32) (T_slate_wishes : Int32) (T_slate_start : Int32) (T_slate_wishKind : (Nat → Int32)) (T_slate_wishA : (Nat → Int32)) (T_slate_wishNames : (Nat → Int32)) (T_slate_wishB : (Nat → Int32)) (R : Int32) (hr : fX1_notSoonerThan K x1 T_here T_struck T_slate_wishes T_slate_wishKind T_slate_wishA T_slate_wishNames T_slate_wishB = some R) : Met l yX1_notSoonerThan wsX1_notSoonerThan rmX1_notSoonerThan (va_Pc ([.ref a_T, .int x1] : List Value) (PcW (dC, dI) (tysA cC cI cJ) sz [(a_T, .inr (1, [.ref a_T_slate, .ref a_T_floors, .int T_here, .int T_struck])), (a_T_slate, .inr (5, [.ref a_T_slate_guestKind, .ref a_T_slate_guestFloor, .ref a_T_slate_wishKind, .ref a_T_slate_wishA, .ref a_T_slate_wishB, .ref a_T_slate_wishNames, .int T_slate_guests, .int T_slate_wishes, .int T_slate_start])), (a_T_slate_wishKind, .inl (cI, 9, .inl T_slate_wishKind)), (a_T_slate_wishA, .inl (cI, 9, .inl T_slate_wishA)), (a_T_slate_wishNames, .inl (cI, 9, .inl T_slate_wishNames)), (a_T_slate_wishB, .inl (cI, 9, .inl T_slate_wishB))])) (va_Qi (fun r (_ : Unit) => r = R) (fun _ => BW (dC, dI) (tysA cC cI cJ) (va_A [(a_T, .inr (1, [.ref a_T_slate, .ref a_T_floors, .int T_here, .int T_struck])), (a_T_slate, .inr (5, [.ref a_T_slate_guestKind, .ref a_T_slate_guestFloor, .ref a_T_slate_wishKind, .ref a_T_slate_wishA, .ref a_T_slate_wishB, .ref a_T_slate_wishNames, .int T_slate_guests, .int T_slate_wishes, .int T_slate_start])), (a_T_slate_wishKind, .inl (cI, 9, .inl T_slate_wishKind)), (a_T_slate_wishA, .inl (cI, 9, .inl T_slate_wishA)), (a_T_slate_wishNames, .inl (cI, 9, .inl T_slate_wishNames)), (a_T_slate_wishB, .inl (cI, 9, .inl T_slate_wishB))] sz) [(a_T, .inr (1, [.ref a_T_slate, .ref a_T_floors, .int T_here, .int T_struck])), (a_T_slate, .inr (5, [.ref a_T_slate_guestKind, .ref a_T_slate_guestFloor, .ref a_T_slate_wishKind, .ref a_T_slate_wishA, .ref a_T_slate_wishB, .ref a_T_slate_wishNames, .int T_slate_guests, .int T_slate_wishes, .int T_slate_start])), (a_T_slate_wishKind, .inl (cI, 9, .inl T_slate_wishKind)), (a_T_slate_wishA, .inl (cI, 9, .inl T_slate_wishA)), (a_T_slate_wishNames, .inl (cI, 9, .inl T_slate_wishNames)), (a_T_slate_wishB, .inl (cI, 9, .inl T_slate_wishB))]) (va_A [(a_T, .inr (1, [.ref a_T_slate, .ref a_T_floors, .int T_here, .int T_struck])), (a_T_slate, .inr (5, [.ref a_T_slate_guestKind, .ref a_T_slate_guestFloor, .ref a_T_slate_wishKind, .ref a_T_slate_wishA, .ref a_T_slate_wishB, .ref a_T_slate_wishNames, .int T_slate_guests, .int T_slate_wishes, .int T_slate_start])), (a_T_slate_wishKind, .inl (cI, 9, .inl T_slate_wishKind)), (a_T_slate_wishA, .inl (cI, 9, .inl T_slate_wishA)), (a_T_slate_wishNames, .inl (cI, 9, .inl T_slate_wishNames)), (a_T_slate_wishB, .inl (cI, 9, .inl T_slate_wishB))] sz)) 0 0 (va_A [(a_T, .inr (1, [.ref a_T_slate, .ref a_T_floors, .int T_here, .int T_struck])), (a_T_slate, .inr (5, [.ref a_T_slate_guestKind, .ref a_T_slate_guestFloor, .ref a_T_slate_wishKind, .ref a_T_slate_wishA, .ref a_T_slate_wishB, .ref a_T_slate_wishNames, .int T_slate_guests, .int T_slate_wishes, .int T_slate_start])), (a_T_slate_wishKind, .inl (cI, 9, .inl T_slate_wishKind)), (a_T_slate_wishA, .inl (cI, 9, .inl T_slate_wishA)), (a_T_slate_wishNames, .inl (cI, 9, .inl T_slate_wishNames)), (a_T_slate_wishB, .inl (cI, 9, .inl T_slate_wishB))] sz) := by
  refine Met.ofW (cc := cX1_notSoonerThan) (maxL := 4) (ret := (some .int)) (by decide) rfl ?_
  intro p e s m args below meth c s₁ B hml hv
  obtain ⟨rfl, hsz, hP, hK, hD0, hN⟩ := hv
  have hx := B.exec
  have hb := B.bytes
  have hrt := B.returns
  have hts := atoms_spec (ws := wsX1_notSoonerThan) B.pre
  have hown : s.vm.findClass RX1 = some m.cls := findClass_of_methodNamed B.named
  have hlocks := B.notSynchronized
  subst hsz
  have hD := hD0.self (sz := s.heap.size)
  generalize hAe : va_A [(a_T, .inr (1, [.ref a_T_slate, .ref a_T_floors, .int T_here, .int T_struck])), (a_T_slate, .inr (5, [.ref a_T_slate_guestKind, .ref a_T_slate_guestFloor, .ref a_T_slate_wishKind, .ref a_T_slate_wishA, .ref a_T_slate_wishB, .ref a_T_slate_wishNames, .int T_slate_guests, .int T_slate_wishes, .int T_slate_start])), (a_T_slate_wishKind, .inl (cI, 9, .inl T_slate_wishKind)), (a_T_slate_wishA, .inl (cI, 9, .inl T_slate_wishA)), (a_T_slate_wishNames, .inl (cI, 9, .inl T_slate_wishNames)), (a_T_slate_wishB, .inl (cI, 9, .inl T_slate_wishB))] s.heap.size = A at hD ⊢
  have hA : ∀ q : Nat, s.heap.size ≤ q → A q := fun q h => by rw [← hAe]; exact Or.inr h
  have hS : va_S A s.heap s.heap [] := va_S.rf
  have hl := lv_entry ([.ref a_T, .int x1] : List Value) (n := 4) (Nat.le_of_ble_eq_true rfl)
  rw [lg_entry_eq]
  generalize (lg_sl ([.ref a_T, .int x1] : List Value) ++ List.replicate (4 - (lg_sl ([.ref a_T, .int x1] : List Value)).length) Slot.unset).toArray = ls at hl ⊢
  replace hl : lv_has ls 4 [(0, .ref a_T), (1, .int x1)] := hl
  obtain ⟨Q, hQ⟩ : ∃ Q, Q = MQ below (va_Qi (fun r (_ : Unit) => r = R) (fun _ => BW (dC, dI) (tysA cC cI cJ) A [(a_T, .inr (1, [.ref a_T_slate, .ref a_T_floors, .int T_here, .int T_struck])), (a_T_slate, .inr (5, [.ref a_T_slate_guestKind, .ref a_T_slate_guestFloor, .ref a_T_slate_wishKind, .ref a_T_slate_wishA, .ref a_T_slate_wishB, .ref a_T_slate_wishNames, .int T_slate_guests, .int T_slate_wishes, .int T_slate_start])), (a_T_slate_wishKind, .inl (cI, 9, .inl T_slate_wishKind)), (a_T_slate_wishA, .inl (cI, 9, .inl T_slate_wishA)), (a_T_slate_wishNames, .inl (cI, 9, .inl T_slate_wishNames)), (a_T_slate_wishB, .inl (cI, 9, .inl T_slate_wishB))]) A) ([.ref a_T, .int x1] : List Value).toArray s 0 0 A := ⟨_, rfl⟩
  rw [← hQ]
  suffices hE : WG p l e rmX1_notSoonerThan s m ([.ref a_T, .int x1] : List Value).toArray below meth c 0 0 Q (dC, dI) A 0 4 [(a_T, .inr (1, [.ref a_T_slate, .ref a_T_floors, .int T_here, .int T_struck])), (a_T_slate, .inr (5, [.ref a_T_slate_guestKind, .ref a_T_slate_guestFloor, .ref a_T_slate_wishKind, .ref a_T_slate_wishA, .ref a_T_slate_wishB, .ref a_T_slate_wishNames, .int T_slate_guests, .int T_slate_wishes, .int T_slate_start])), (a_T_slate_wishKind, .inl (cI, 9, .inl T_slate_wishKind)), (a_T_slate_wishA, .inl (cI, 9, .inl T_slate_wishA)), (a_T_slate_wishNames, .inl (cI, 9, .inl T_slate_wishNames)), (a_T_slate_wishB, .inl (cI, 9, .inl T_slate_wishB))] [(0, .ref a_T), (1, .int x1)] [] from hE _ _ _ hP hD hS hl
  clear hP hD hS hl hD0 hAe
  intro H locs ls hP hD hS hl
  unfold fX1_notSoonerThan at hr
  refine lv_iconst (v := 0) hx hb dX1_notSoonerThan_0 (by decide) ?_
  refine lv_istore_n (lv' := [(2, .int 0), (0, .ref a_T), (1, .int x1)]) hx hb dX1_notSoonerThan_1 rfl hl (by decide) rfl (fun ls hl => ?_)
  refine lv_iconst (v := 0) hx hb dX1_notSoonerThan_2 (by decide) ?_
  refine lv_istore_n (lv' := [(3, .int 0), (2, .int 0), (0, .ref a_T), (1, .int x1)]) hx hb dX1_notSoonerThan_3 rfl hl (by decide) rfl (fun ls hl => ?_)
  have hL1 : ∀ (n1 : Nat) (x2 : Int32) (x3 : Int32) (x2_1 : Int32), fX1_notSoonerThan_L4 K x1 T_here T_struck T_slate_wishes T_slate_wishKind T_slate_wishA T_slate_wishNames T_slate_wishB n1 x2 x3 = some x2_1 → WG p l e rmX1_notSoonerThan s m ([.ref a_T, .int x1] : List Value).toArray below meth c 0 0 Q (dC, dI) A 75 4 [(a_T, .inr (1, [.ref a_T_slate, .ref a_T_floors, .int T_here, .int T_struck])), (a_T_slate, .inr (5, [.ref a_T_slate_guestKind, .ref a_T_slate_guestFloor, .ref a_T_slate_wishKind, .ref a_T_slate_wishA, .ref a_T_slate_wishB, .ref a_T_slate_wishNames, .int T_slate_guests, .int T_slate_wishes, .int T_slate_start])), (a_T_slate_wishKind, .inl (cI, 9, .inl T_slate_wishKind)), (a_T_slate_wishA, .inl (cI, 9, .inl T_slate_wishA)), (a_T_slate_wishNames, .inl (cI, 9, .inl T_slate_wishNames)), (a_T_slate_wishB, .inl (cI, 9, .inl T_slate_wishB))] [(2, .int x2_1)] [] → WG p l e rmX1_notSoonerThan s m ([.ref a_T, .int x1] : List Value).toArray below meth c 0 0 Q (dC, dI) A 4 4 [(a_T, .inr (1, [.ref a_T_slate, .ref a_T_floors, .int T_here, .int T_struck])), (a_T_slate, .inr (5, [.ref a_T_slate_guestKind, .ref a_T_slate_guestFloor, .ref a_T_slate_wishKind, .ref a_T_slate_wishA, .ref a_T_slate_wishB, .ref a_T_slate_wishNames, .int T_slate_guests, .int T_slate_wishes, .int T_slate_start])), (a_T_slate_wishKind, .inl (cI, 9, .inl T_slate_wishKind)), (a_T_slate_wishA, .inl (cI, 9, .inl T_slate_wishA)), (a_T_slate_wishNames, .inl (cI, 9, .inl T_slate_wishNames)), (a_T_slate_wishB, .inl (cI, 9, .inl T_slate_wishB))] [(0, .ref a_T), (1, .int x1), (2, .int x2), (3, .int x3)] [] := by
    intro n1
    induction n1 with
    | zero =>
      intro x2 x3 x2_1 hr
      rw [fX1_notSoonerThan_L4] at hr
      cases hr
    | succ n1 ih4 =>
      intro x2 x3 x2_1 hr hX1 H locs ls hP hD hS hl
      rw [fX1_notSoonerThan_L4] at hr
      refine lv_iload_n hx hb dX1_notSoonerThan_4 rfl (lv_at hl 3 rfl) ?_
      refine lv_aload_n hx hb dX1_notSoonerThan_5 rfl (lv_at hl 0 rfl) ?_
      refine va_get (D := (dC, dI)) (ci := 1) (v := .ref a_T_slate) (C := RX1) (T := TX1) (N := 4) hx hb hts inX1_notSoonerThan_X1 hown hK hP 0 rfl rfl 0 (by decide) (hts _ mbX1_notSoonerThan_0) (fun _ h9 => h9) rfl dX1_notSoonerThan_6 ?_
      refine va_getN (D := (dC, dI)) (ci := 5) (v := .int T_slate_wishes) (C := RX5) (T := TX5) (N := 9) hx hb hts inX1_notSoonerThan_X5 hown hK hP 1 rfl rfl 7 (by decide) (nk_use hN nw_18) (fun _ h9 => h9) rfl dX1_notSoonerThan_9 ?_
      refine lv_icmp_ge (tgt := 75) hx hb dX1_notSoonerThan_12 (by decide) (fun c1 => ?_) (fun c1 => ?_)
      · replace hr := it_t hr c1
        have he := Option.some.inj hr
        cases he
        exact hX1 H locs ls hP hD hS (lv_sub hl [2] rfl)
      · replace hr := it_f hr c1
        refine lv_aload_n hx hb dX1_notSoonerThan_15 rfl (lv_at hl 0 rfl) ?_
        refine va_get (D := (dC, dI)) (ci := 1) (v := .ref a_T_slate) (C := RX1) (T := TX1) (N := 4) hx hb hts inX1_notSoonerThan_X1 hown hK hP 0 rfl rfl 0 (by decide) (hts _ mbX1_notSoonerThan_0) (fun _ h9 => h9) rfl dX1_notSoonerThan_16 ?_
        refine va_getN (D := (dC, dI)) (ci := 5) (v := .ref a_T_slate_wishKind) (C := RX5) (T := TX5) (N := 9) hx hb hts inX1_notSoonerThan_X5 hown hK hP 1 rfl rfl 2 (by decide) (nk_use hN nw_7) (fun _ h9 => h9) rfl dX1_notSoonerThan_19 ?_
        refine lv_iload_n hx hb dX1_notSoonerThan_22 rfl (lv_at hl 3 rfl) ?_
        obtain ⟨r, hc1, hr⟩ := bd1_some hr
        refine call_i (D := (dC, dI)) (tys := tysA cC cI cJ) (wc := [(a_T_slate_wishKind, .inl (cI, 9, .inl T_slate_wishKind))]) (wr := [(a_T, .inr (1, [.ref a_T_slate, .ref a_T_floors, .int T_here, .int T_struck])), (a_T_slate, .inr (5, [.ref a_T_slate_guestKind, .ref a_T_slate_guestFloor, .ref a_T_slate_wishKind, .ref a_T_slate_wishA, .ref a_T_slate_wishB, .ref a_T_slate_wishNames, .int T_slate_guests, .int T_slate_wishes, .int T_slate_start])), (a_T_slate_wishA, .inl (cI, 9, .inl T_slate_wishA)), (a_T_slate_wishNames, .inl (cI, 9, .inl T_slate_wishNames)), (a_T_slate_wishB, .inl (cI, 9, .inl T_slate_wishB))]) (w1 := [(a_T_slate_wishKind, .inl (cI, 9, .inl T_slate_wishKind))]) (wn := [(a_T, .inr (1, [.ref a_T_slate, .ref a_T_floors, .int T_here, .int T_struck])), (a_T_slate, .inr (5, [.ref a_T_slate_guestKind, .ref a_T_slate_guestFloor, .ref a_T_slate_wishKind, .ref a_T_slate_wishA, .ref a_T_slate_wishB, .ref a_T_slate_wishNames, .int T_slate_guests, .int T_slate_wishes, .int T_slate_start])), (a_T_slate_wishKind, .inl (cI, 9, .inl T_slate_wishKind)), (a_T_slate_wishA, .inl (cI, 9, .inl T_slate_wishA)), (a_T_slate_wishNames, .inl (cI, 9, .inl T_slate_wishNames)), (a_T_slate_wishB, .inl (cI, 9, .inl T_slate_wishB))]) (r0 := r) hP hD hS hA [2] [0, 1, 3, 4, 5] [0, 1, 5, 2, 3, 4] rfl rfl (by decide +kernel) (by decide +kernel) rfl (by decide +kernel) (va_runSN (host := "BootsAtDawn") (As := [.ref a_T_slate_wishKind, .int x3]) (rest := []) ⟨hx, hb, hml, hown, hts⟩ (kX8_at l dC dI cC cI cJ H.size K a_T_slate_wishKind 9 x3 T_slate_wishKind r hc1) ⟨va_cnB 2 hts gX1_notSoonerThan_X8_at_n45 rfl rfl rfl (hN _ nw_69) (hts _ mbX1_notSoonerThan_3) (by decide +kernel) ⟨Nat.le_of_ble_eq_true rfl, Nat.le_of_ble_eq_true rfl⟩, (hts _ mbX1_notSoonerThan_4), trivial⟩ ⟨fbW, preW hP hD hK hN [2] rfl (by decide +kernel)⟩ rfl rfl hl.1 rfl (lv_room (Nat.le_of_ble_eq_true rfl)) dX1_notSoonerThan_23 ⟨Nat.zero_le _, Nat.zero_le _⟩) (fun H locs hP hD hS => ?_)
        refine lv_iconst (v := 3) hx hb dX1_notSoonerThan_26 (by decide) ?_
        obtain ⟨x2_3, hj1, hr⟩ := bd1_some hr
        have hJ1 : WG p l e rmX1_notSoonerThan s m ([.ref a_T, .int x1] : List Value).toArray below meth c 0 0 Q (dC, dI) A 69 4 [(a_T, .inr (1, [.ref a_T_slate, .ref a_T_floors, .int T_here, .int T_struck])), (a_T_slate, .inr (5, [.ref a_T_slate_guestKind, .ref a_T_slate_guestFloor, .ref a_T_slate_wishKind, .ref a_T_slate_wishA, .ref a_T_slate_wishB, .ref a_T_slate_wishNames, .int T_slate_guests, .int T_slate_wishes, .int T_slate_start])), (a_T_slate_wishKind, .inl (cI, 9, .inl T_slate_wishKind)), (a_T_slate_wishA, .inl (cI, 9, .inl T_slate_wishA)), (a_T_slate_wishNames, .inl (cI, 9, .inl T_slate_wishNames)), (a_T_slate_wishB, .inl (cI, 9, .inl T_slate_wishB))] [(0, .ref a_T), (1, .int x1), (2, .int x2_3), (3, .int x3)] [] := by
          intro H locs ls hP hD hS hl
          obtain ⟨x3_1, e2, hr⟩ := nm_el hr
          refine lv_iinc (v := x3_1) (lv' := [(3, .int x3_1), (0, .ref a_T), (1, .int x1), (2, .int x2_3)]) hx hb dX1_notSoonerThan_69 hl (k := 3) rfl e2.symm (by decide) rfl (fun ls hl => ?_)
          refine lv_goto (tgt := 4) hx hb dX1_notSoonerThan_72 (by decide) ?_
          exact ih4 _ _ _ hr hX1 H locs ls hP hD hS (lv_sub hl [1, 2, 3, 0] rfl)
        replace hr := hj1
        refine lv_icmp_ne (tgt := 69) hx hb dX1_notSoonerThan_27 (by decide) (fun c2 => ?_) (fun c2 => ?_)
        · replace hr := it_f hr c2
          cases hr
          exact hJ1 H locs ls hP hD hS (lv_sub hl [0, 1, 2, 3] rfl)
        · replace hr := it_t hr c2
          refine lv_aload_n hx hb dX1_notSoonerThan_30 rfl (lv_at hl 0 rfl) ?_
          refine va_get (D := (dC, dI)) (ci := 1) (v := .ref a_T_slate) (C := RX1) (T := TX1) (N := 4) hx hb hts inX1_notSoonerThan_X1 hown hK hP 0 rfl rfl 0 (by decide) (hts _ mbX1_notSoonerThan_0) (fun _ h9 => h9) rfl dX1_notSoonerThan_31 ?_
          refine va_getN (D := (dC, dI)) (ci := 5) (v := .ref a_T_slate_wishA) (C := RX5) (T := TX5) (N := 9) hx hb hts inX1_notSoonerThan_X5 hown hK hP 1 rfl rfl 3 (by decide) (nk_use hN nw_10) (fun _ h9 => h9) rfl dX1_notSoonerThan_34 ?_
          refine lv_iload_n hx hb dX1_notSoonerThan_37 rfl (lv_at hl 3 rfl) ?_
          obtain ⟨r_1, hc2, hr⟩ := bd1_some hr
          refine call_i (D := (dC, dI)) (tys := tysA cC cI cJ) (wc := [(a_T_slate_wishA, .inl (cI, 9, .inl T_slate_wishA))]) (wr := [(a_T, .inr (1, [.ref a_T_slate, .ref a_T_floors, .int T_here, .int T_struck])), (a_T_slate, .inr (5, [.ref a_T_slate_guestKind, .ref a_T_slate_guestFloor, .ref a_T_slate_wishKind, .ref a_T_slate_wishA, .ref a_T_slate_wishB, .ref a_T_slate_wishNames, .int T_slate_guests, .int T_slate_wishes, .int T_slate_start])), (a_T_slate_wishKind, .inl (cI, 9, .inl T_slate_wishKind)), (a_T_slate_wishNames, .inl (cI, 9, .inl T_slate_wishNames)), (a_T_slate_wishB, .inl (cI, 9, .inl T_slate_wishB))]) (w1 := [(a_T_slate_wishA, .inl (cI, 9, .inl T_slate_wishA))]) (wn := [(a_T, .inr (1, [.ref a_T_slate, .ref a_T_floors, .int T_here, .int T_struck])), (a_T_slate, .inr (5, [.ref a_T_slate_guestKind, .ref a_T_slate_guestFloor, .ref a_T_slate_wishKind, .ref a_T_slate_wishA, .ref a_T_slate_wishB, .ref a_T_slate_wishNames, .int T_slate_guests, .int T_slate_wishes, .int T_slate_start])), (a_T_slate_wishKind, .inl (cI, 9, .inl T_slate_wishKind)), (a_T_slate_wishA, .inl (cI, 9, .inl T_slate_wishA)), (a_T_slate_wishNames, .inl (cI, 9, .inl T_slate_wishNames)), (a_T_slate_wishB, .inl (cI, 9, .inl T_slate_wishB))]) (r0 := r_1) hP hD hS hA [3] [0, 1, 2, 4, 5] [0, 1, 2, 5, 3, 4] rfl rfl (by decide +kernel) (by decide +kernel) rfl (by decide +kernel) (va_runSN (host := "BootsAtDawn") (As := [.ref a_T_slate_wishA, .int x3]) (rest := []) ⟨hx, hb, hml, hown, hts⟩ (kX8_at l dC dI cC cI cJ H.size K a_T_slate_wishA 9 x3 T_slate_wishA r_1 hc2) ⟨va_cnB 2 hts gX1_notSoonerThan_X8_at_n45 rfl rfl rfl (hN _ nw_69) (hts _ mbX1_notSoonerThan_3) (by decide +kernel) ⟨Nat.le_of_ble_eq_true rfl, Nat.le_of_ble_eq_true rfl⟩, (hts _ mbX1_notSoonerThan_4), trivial⟩ ⟨fbW, preW hP hD hK hN [3] rfl (by decide +kernel)⟩ rfl rfl hl.1 rfl (lv_room (Nat.le_of_ble_eq_true rfl)) dX1_notSoonerThan_38 ⟨Nat.zero_le _, Nat.zero_le _⟩) (fun H locs hP hD hS => ?_)
          refine lv_iload_n hx hb dX1_notSoonerThan_41 rfl (lv_at hl 1 rfl) ?_
          refine lv_icmp_ne (tgt := 69) hx hb dX1_notSoonerThan_42 (by decide) (fun c3 => ?_) (fun c3 => ?_)
          · replace hr := it_f hr c3
            cases hr
            exact hJ1 H locs ls hP hD hS (lv_sub hl [0, 1, 2, 3] rfl)
          · replace hr := it_t hr c3
            refine lv_aload_n hx hb dX1_notSoonerThan_45 rfl (lv_at hl 0 rfl) ?_
            refine lv_iload_n hx hb dX1_notSoonerThan_46 rfl (lv_at hl 3 rfl) ?_
            obtain ⟨r_2, hc3, hr⟩ := bd1_some hr
            refine call_i (D := (dC, dI)) (tys := tysA cC cI cJ) (wc := [(a_T, .inr (1, [.ref a_T_slate, .ref a_T_floors, .int T_here, .int T_struck])), (a_T_slate, .inr (5, [.ref a_T_slate_guestKind, .ref a_T_slate_guestFloor, .ref a_T_slate_wishKind, .ref a_T_slate_wishA, .ref a_T_slate_wishB, .ref a_T_slate_wishNames, .int T_slate_guests, .int T_slate_wishes, .int T_slate_start])), (a_T_slate_wishNames, .inl (cI, 9, .inl T_slate_wishNames))]) (wr := [(a_T_slate_wishKind, .inl (cI, 9, .inl T_slate_wishKind)), (a_T_slate_wishA, .inl (cI, 9, .inl T_slate_wishA)), (a_T_slate_wishB, .inl (cI, 9, .inl T_slate_wishB))]) (w1 := [(a_T, .inr (1, [.ref a_T_slate, .ref a_T_floors, .int T_here, .int T_struck])), (a_T_slate, .inr (5, [.ref a_T_slate_guestKind, .ref a_T_slate_guestFloor, .ref a_T_slate_wishKind, .ref a_T_slate_wishA, .ref a_T_slate_wishB, .ref a_T_slate_wishNames, .int T_slate_guests, .int T_slate_wishes, .int T_slate_start])), (a_T_slate_wishNames, .inl (cI, 9, .inl T_slate_wishNames))]) (wn := [(a_T, .inr (1, [.ref a_T_slate, .ref a_T_floors, .int T_here, .int T_struck])), (a_T_slate, .inr (5, [.ref a_T_slate_guestKind, .ref a_T_slate_guestFloor, .ref a_T_slate_wishKind, .ref a_T_slate_wishA, .ref a_T_slate_wishB, .ref a_T_slate_wishNames, .int T_slate_guests, .int T_slate_wishes, .int T_slate_start])), (a_T_slate_wishKind, .inl (cI, 9, .inl T_slate_wishKind)), (a_T_slate_wishA, .inl (cI, 9, .inl T_slate_wishA)), (a_T_slate_wishNames, .inl (cI, 9, .inl T_slate_wishNames)), (a_T_slate_wishB, .inl (cI, 9, .inl T_slate_wishB))]) (r0 := r_2) hP hD hS hA [0, 1, 4] [2, 3, 5] [3, 4, 0, 1, 5, 2] rfl rfl (by decide +kernel) (by decide +kernel) rfl (by decide +kernel) (va_runV (As := [.int x3]) (rest := []) ⟨hx, hb, hml, hown, hts⟩ (kX1_stands l dC dI cC cI cJ H.size K a_T a_T_slate a_T_floors a_T_slate_guestKind a_T_slate_guestFloor a_T_slate_wishKind a_T_slate_wishA a_T_slate_wishB a_T_slate_wishNames x3 T_here T_struck T_slate_guests T_slate_wishes T_slate_start T_slate_wishNames r_2 hc3) (cwV 1 hts gX1_notSoonerThan_X1_stands rfl rfl rfl (by decide +kernel) ⟨Nat.le_of_ble_eq_true rfl, Nat.le_of_ble_eq_true rfl⟩) ⟨fbW, va_recv hK hP (ci := 1) (q0 := 0) rfl rfl, preW hP hD hK hN [0, 1, 4] rfl (by decide +kernel)⟩ rfl rfl hl.1 rfl (lv_room (Nat.le_of_ble_eq_true rfl)) dX1_notSoonerThan_47 ⟨Nat.zero_le _, Nat.zero_le _⟩) (fun H locs hP hD hS => ?_)
            refine lv_if_eq (tgt := 69) hx hb dX1_notSoonerThan_50 (by decide) (fun c4 => ?_) (fun c4 => ?_)
            · replace hr := it_t hr c4
              cases hr
              exact hJ1 H locs ls hP hD hS (lv_sub hl [0, 1, 2, 3] rfl)
            · replace hr := it_f hr c4
              refine lv_iload_n hx hb dX1_notSoonerThan_53 rfl (lv_at hl 2 rfl) ?_
              refine lv_aload_n hx hb dX1_notSoonerThan_54 rfl (lv_at hl 0 rfl) ?_
              refine va_get (D := (dC, dI)) (ci := 1) (v := .ref a_T_slate) (C := RX1) (T := TX1) (N := 4) hx hb hts inX1_notSoonerThan_X1 hown hK hP 0 rfl rfl 0 (by decide) (hts _ mbX1_notSoonerThan_0) (fun _ h9 => h9) rfl dX1_notSoonerThan_55 ?_
              refine va_getN (D := (dC, dI)) (ci := 5) (v := .ref a_T_slate_wishB) (C := RX5) (T := TX5) (N := 9) hx hb hts inX1_notSoonerThan_X5 hown hK hP 1 rfl rfl 4 (by decide) (nk_use hN nw_13) (fun _ h9 => h9) rfl dX1_notSoonerThan_58 ?_
              refine lv_iload_n hx hb dX1_notSoonerThan_61 rfl (lv_at hl 3 rfl) ?_
              obtain ⟨r_3, hc4, hr⟩ := bd1_some hr
              refine call_i (D := (dC, dI)) (tys := tysA cC cI cJ) (wc := [(a_T_slate_wishB, .inl (cI, 9, .inl T_slate_wishB))]) (wr := [(a_T, .inr (1, [.ref a_T_slate, .ref a_T_floors, .int T_here, .int T_struck])), (a_T_slate, .inr (5, [.ref a_T_slate_guestKind, .ref a_T_slate_guestFloor, .ref a_T_slate_wishKind, .ref a_T_slate_wishA, .ref a_T_slate_wishB, .ref a_T_slate_wishNames, .int T_slate_guests, .int T_slate_wishes, .int T_slate_start])), (a_T_slate_wishKind, .inl (cI, 9, .inl T_slate_wishKind)), (a_T_slate_wishA, .inl (cI, 9, .inl T_slate_wishA)), (a_T_slate_wishNames, .inl (cI, 9, .inl T_slate_wishNames))]) (w1 := [(a_T_slate_wishB, .inl (cI, 9, .inl T_slate_wishB))]) (wn := [(a_T, .inr (1, [.ref a_T_slate, .ref a_T_floors, .int T_here, .int T_struck])), (a_T_slate, .inr (5, [.ref a_T_slate_guestKind, .ref a_T_slate_guestFloor, .ref a_T_slate_wishKind, .ref a_T_slate_wishA, .ref a_T_slate_wishB, .ref a_T_slate_wishNames, .int T_slate_guests, .int T_slate_wishes, .int T_slate_start])), (a_T_slate_wishKind, .inl (cI, 9, .inl T_slate_wishKind)), (a_T_slate_wishA, .inl (cI, 9, .inl T_slate_wishA)), (a_T_slate_wishNames, .inl (cI, 9, .inl T_slate_wishNames)), (a_T_slate_wishB, .inl (cI, 9, .inl T_slate_wishB))]) (r0 := r_3) hP hD hS hA [5] [0, 1, 2, 3, 4] [0, 1, 2, 3, 4, 5] rfl rfl (by decide +kernel) (by decide +kernel) rfl (by decide +kernel) (va_runSN (host := "BootsAtDawn") (As := [.ref a_T_slate_wishB, .int x3]) (rest := [.int x2]) ⟨hx, hb, hml, hown, hts⟩ (kX8_at l dC dI cC cI cJ H.size K a_T_slate_wishB 9 x3 T_slate_wishB r_3 hc4) ⟨va_cnB 2 hts gX1_notSoonerThan_X8_at_n45 rfl rfl rfl (hN _ nw_69) (hts _ mbX1_notSoonerThan_3) (by decide +kernel) ⟨Nat.le_of_ble_eq_true rfl, Nat.le_of_ble_eq_true rfl⟩, (hts _ mbX1_notSoonerThan_4), trivial⟩ ⟨fbW, preW hP hD hK hN [5] rfl (by decide +kernel)⟩ rfl rfl hl.1 rfl (lv_room (Nat.le_of_ble_eq_true rfl)) dX1_notSoonerThan_62 ⟨Nat.zero_le _, Nat.zero_le _⟩) (fun H locs hP hD hS => ?_)
              refine va_mmax hx hb (hml.trans hl.1.symm) hown (hts _ mbX1_notSoonerThan_5) (hts _ mbX1_notSoonerThan_6) (hts _ mbX1_notSoonerThan_7) (hts _ mbX1_notSoonerThan_8) (Nat.le_of_ble_eq_true rfl) (Nat.le_of_ble_eq_true rfl) (Nat.zero_le _) (Nat.zero_le _) dX1_notSoonerThan_65 ?_
              obtain ⟨x2_2, e1, hr⟩ := nm_el hr
              refine lv_nmi e1 ?_
              refine lv_istore_n (lv' := [(2, .int x2_2), (0, .ref a_T), (1, .int x1), (3, .int x3)]) hx hb dX1_notSoonerThan_68 rfl hl (by decide) rfl (fun ls hl => ?_)
              cases hr
              exact hJ1 H locs ls hP hD hS (lv_sub hl [1, 2, 0, 3] rfl)
  obtain ⟨x2_1, hE, hr⟩ := bd1_some hr
  refine hL1 K 0 0 x2_1 hE ?_ H locs ls hP hD hS (lv_sub hl [2, 3, 1, 0] rfl)
  intro H locs ls hP hD hS hl
  refine lv_iload_n hx hb dX1_notSoonerThan_75 rfl (lv_at hl 0 rfl) ?_
  have he := Option.some.inj hr
  subst he
  subst hQ
  exact ret_i hx hb hrt hK hP hD hS hlocks dX1_notSoonerThan_76
def fX5_isOfTwo (K : Nat) (x0 : Int32) : Option (Int32) :=
    if (x0 : Int32) = 0 then (
    some 1)
    else (
    if (x0 : Int32) = 1 then (
    some 1)
    else (
    some 0))
abbrev rmX5_isOfTwo : Room := { frames := 0, cells := 0, slots := 0, locals := 0 }
set_option maxHeartbeats 8000000 in
set_option maxRecDepth 100000 in
theorem kX5_isOfTwo (l : Launch) (dC : Nat → ClassId) (dI : Nat → Nat → Nat) (cC cI cJ : ClassId) (sz : Nat) (K : Nat) (x0 : Int32) (R : Int32) (hr : fX5_isOfTwo K x0 = some R) : Met l yX5_isOfTwo wsX5_isOfTwo rmX5_isOfTwo (va_Pc ([.int x0] : List Value) (PcW (dC, dI) (tysA cC cI cJ) sz [])) (va_Qi (fun r (_ : Unit) => r = R) (fun _ => BW (dC, dI) (tysA cC cI cJ) (va_A [] sz) []) (va_A [] sz)) 0 0 (va_A [] sz) := by
  refine Met.ofW (cc := cX5_isOfTwo) (maxL := 1) (ret := (some .boolean)) (by decide) rfl ?_
  intro p e s m args below meth c s₁ B hml hv
  obtain ⟨rfl, hsz, hP, hK, hD0, hN⟩ := hv
  have hx := B.exec
  have hb := B.bytes
  have hrt := B.returns
  have hts := atoms_spec (ws := wsX5_isOfTwo) B.pre
  have hown : s.vm.findClass RX5 = some m.cls := findClass_of_methodNamed B.named
  have hlocks := B.notSynchronized
  subst hsz
  have hD := hD0.self (sz := s.heap.size)
  generalize hAe : va_A [] s.heap.size = A at hD ⊢
  have hA : ∀ q : Nat, s.heap.size ≤ q → A q := fun q h => by rw [← hAe]; exact Or.inr h
  have hS : va_S A s.heap s.heap [] := va_S.rf
  have hl := lv_entry ([.int x0] : List Value) (n := 1) (Nat.le_of_ble_eq_true rfl)
  rw [lg_entry_eq]
  generalize (lg_sl ([.int x0] : List Value) ++ List.replicate (1 - (lg_sl ([.int x0] : List Value)).length) Slot.unset).toArray = ls at hl ⊢
  replace hl : lv_has ls 1 [(0, .int x0)] := hl
  obtain ⟨Q, hQ⟩ : ∃ Q, Q = MQ below (va_Qi (fun r (_ : Unit) => r = R) (fun _ => BW (dC, dI) (tysA cC cI cJ) A []) A) ([.int x0] : List Value).toArray s 0 0 A := ⟨_, rfl⟩
  rw [← hQ]
  suffices hE : WG p l e rmX5_isOfTwo s m ([.int x0] : List Value).toArray below meth c 0 0 Q (dC, dI) A 0 1 [] [(0, .int x0)] [] from hE _ _ _ hP hD hS hl
  clear hP hD hS hl hD0 hAe
  intro H locs ls hP hD hS hl
  unfold fX5_isOfTwo at hr
  refine lv_iload_n hx hb dX5_isOfTwo_0 rfl (lv_at hl 0 rfl) ?_
  refine lv_if_eq (tgt := 9) hx hb dX5_isOfTwo_1 (by decide) (fun c1 => ?_) (fun c1 => ?_)
  · replace hr := it_t hr c1
    refine lv_iconst (v := 1) hx hb dX5_isOfTwo_9 (by decide) ?_
    refine lv_goto (tgt := 14) hx hb dX5_isOfTwo_10 (by decide) ?_
    have he := Option.some.inj hr
    subst he
    subst hQ
    exact ret_z hx hb hrt (show narrow .boolean (.int 1) = .int 1 from rfl) hK hP hD hS hlocks dX5_isOfTwo_14
  · replace hr := it_f hr c1
    refine lv_iload_n hx hb dX5_isOfTwo_4 rfl (lv_at hl 0 rfl) ?_
    refine lv_iconst (v := 1) hx hb dX5_isOfTwo_5 (by decide) ?_
    refine lv_icmp_ne (tgt := 13) hx hb dX5_isOfTwo_6 (by decide) (fun c2 => ?_) (fun c2 => ?_)
    · replace hr := it_f hr c2
      refine lv_iconst (v := 0) hx hb dX5_isOfTwo_13 (by decide) ?_
      have he := Option.some.inj hr
      subst he
      subst hQ
      exact ret_z hx hb hrt (show narrow .boolean (.int 0) = .int 0 from rfl) hK hP hD hS hlocks dX5_isOfTwo_14
    · replace hr := it_t hr c2
      refine lv_iconst (v := 1) hx hb dX5_isOfTwo_9 (by decide) ?_
      refine lv_goto (tgt := 14) hx hb dX5_isOfTwo_10 (by decide) ?_
      have he := Option.some.inj hr
      subst he
      subst hQ
      exact ret_z hx hb hrt (show narrow .boolean (.int 1) = .int 1 from rfl) hK hP hD hS hlocks dX5_isOfTwo_14
