theorem law_arr {ty : FieldType} {A : Array Value} {s : State} (h : (Cond.arrayClass ty).before A s = true) (hp : refKind ty = false) : ∃ cA : ClassId, ArrOfT s cA ty ∧ va_RA s cA ty := by
  obtain ⟨cA, kA, comp, h1, h2, h3⟩ := Cond.arrayClass_spec h
  refine ⟨cA, fun n z => ⟨fun k h => (by cases h), kA, h2, comp, h3⟩, ?_⟩
  cases ty <;> first | exact h1 | cases hp
theorem law_ev {t : Term} {A : Array Value} {s : State} {x : Int32} (h : (Cond.eq t (.int x)).before A s = true) : t.eval A s none [] s = some (.int x) := va_eqt h
theorem law_S1 {len : List Nat} {byt : List (List Int32)} {ak av : Nat → Nat} {A : Nat → Prop} {s : State} {H : Heap} (h : vk_S 1 len byt ak av A s H) : vk_S 1 len byt (fun _ => ak 0) (fun _ => av 0) A s H := by
  refine ⟨fun i hi => ?_, fun i j hi hj _ => by omega⟩
  obtain rfl : i = 0 := by omega
  exact h.1 0 hi
theorem fbKR {D : va_G} {tys : List (ClassId × FieldType)} {sz : Nat} {ws : va_W} {ak av : Nat} {v : List Value} {own tx : String} {k : Nat} : FrameBlind (va_Pc v (fun U => PcK D tys sz ws ak av U ∧ vk_R own k tx ak U)) := by
  intro a U g mk h
  obtain ⟨h, h1, h2⟩ := h
  exact ⟨h, (fbK (v := v) a U g mk ⟨h, h1⟩).2, vk_R.same (u := U) (U := U.calling g mk a) rfl h2⟩
theorem preKR {s : State} {H : Heap} {locs : List Loc} {D : va_G} {tys : List (ClassId × FieldType)} {A : Nat → Prop} {ws wc : va_W} {ak av : Nat} {own tx : String} {k : Nat} (hP : va_P D vwCl ws H) (hD : va_D A ws) (hK : va_K D vwCl tys s) (hN : nk s) (hSK : SK ak av A s s.heap) (hSR : vk_R own k tx ak s) (hS : va_S A s.heap H locs) (hA : ∀ q, s.heap.size ≤ q → A q) (isC : List Nat) (hC : isC.map (fun i => ws[i]?) = wc.map some) (hn : va_nd isC = true) {v : List Value} :
    ∀ U : State, U.heap = H → s.WarmedH U.vm → va_Pc v (fun U => PcK D tys H.size wc ak av U ∧ vk_R own k tx ak U) v.toArray U := by
  intro U hU hW
  exact ⟨rfl, (preK hP hD hK hN hSK hS hA isC hC hn (v := v) U hU hW).2, vk_R.warm hW hSR⟩
set_option maxHeartbeats 16000000 in
set_option maxRecDepth 100000 in
theorem law_K {A : Array Value} {s : State} (hts : ∀ w ∈ wsL_law, w.before A s = true) : ∃ (dC : Nat → ClassId) (dI : Nat → Nat → Nat) (cC cI cJ : ClassId), va_K (dC, dI) vwCl (tysA cC cI cJ) s := by
  obtain ⟨c0, i0, k0⟩ := u_known (C := RX0) (T := TX0) (N := 3) (n := 3) hts inlX0 (hts _ (List.mem_of_getElem? (i := 36) (by decide +kernel)))
  obtain ⟨c1, i1, k1⟩ := u_known (C := RX1) (T := TX1) (N := 4) (n := 4) hts inlX1 (hts _ (List.mem_of_getElem? (i := 26) (by decide +kernel)))
  obtain ⟨c2, i2, k2⟩ := u_known (C := RX2) (T := TX2) (N := 2) (n := 2) hts inlX2 (hts _ (List.mem_of_getElem? (i := 31) (by decide +kernel)))
  obtain ⟨c3, i3, k3⟩ := u_known (C := RX3) (T := TX3) (N := 3) (n := 3) hts inlX3 (hts _ (List.mem_of_getElem? (i := 21) (by decide +kernel)))
  obtain ⟨c4, i4, k4⟩ := u_known (C := RX4) (T := TX4) (N := 7) (n := 7) hts inlX4 (hts _ (List.mem_of_getElem? (i := 84) (by decide +kernel)))
  obtain ⟨c5, i5, k5⟩ := u_known (C := RX5) (T := TX5) (N := 9) (n := 9) hts inlX5 (hts _ (List.mem_of_getElem? (i := 17) (by decide +kernel)))
  obtain ⟨c6, i6, k6⟩ := u_known (C := RX6) (T := TX6) (N := 12) (n := 12) hts inlX6 (hts _ (List.mem_of_getElem? (i := 40) (by decide +kernel)))
  obtain ⟨c7, i7, k7⟩ := u_known (C := RX7) (T := TX7) (N := 2) (n := 2) hts inlX7 (hts _ (List.mem_of_getElem? (i := 13) (by decide +kernel)))
  obtain ⟨c8, i8, k8⟩ := u_known (C := RX8) (T := TX8) (N := 13) (n := 13) hts inlX8 (hts _ (List.mem_of_getElem? (i := 1) (by decide +kernel)))
  obtain ⟨c9, i9, k9⟩ := u_known (C := RX9) (T := TX9) (N := 36) (n := 36) hts inlX9 (hts _ (List.mem_of_getElem? (i := 4) (by decide +kernel)))
  obtain ⟨cC, qC⟩ := law_arr (ty := .char) (hts _ (List.mem_of_getElem? (i := 49) (by decide +kernel))) rfl
  obtain ⟨cI, qI⟩ := law_arr (ty := .int) (hts _ (List.mem_of_getElem? (i := 44) (by decide +kernel))) rfl
  obtain ⟨cJ, qJ⟩ := law_arr (ty := .long) (hts _ (List.mem_of_getElem? (i := 73) (by decide +kernel))) rfl
  refine ⟨fun k => if k = 0 then c0 else if k = 1 then c1 else if k = 2 then c2 else if k = 3 then c3 else if k = 4 then c4 else if k = 5 then c5 else if k = 6 then c6 else if k = 7 then c7 else if k = 8 then c8 else c9, fun k => if k = 0 then i0 else if k = 1 then i1 else if k = 2 then i2 else if k = 3 then i3 else if k = 4 then i4 else if k = 5 then i5 else if k = 6 then i6 else if k = 7 then i7 else if k = 8 then i8 else i9, cC, cI, cJ, ?_, ?_⟩
  · intro k q hq
    match k, hq with
    | 0, hq => cases hq; exact k0
    | 1, hq => cases hq; exact k1
    | 2, hq => cases hq; exact k2
    | 3, hq => cases hq; exact k3
    | 4, hq => cases hq; exact k4
    | 5, hq => cases hq; exact k5
    | 6, hq => cases hq; exact k6
    | 7, hq => cases hq; exact k7
    | 8, hq => cases hq; exact k8
    | 9, hq => cases hq; exact k9
    | k + 10, hq => simp [vwCl] at hq
  · intro k q hq
    match k, hq with
    | 0, hq => cases hq; exact qC
    | 1, hq => cases hq; exact qI
    | 2, hq => cases hq; exact qJ
    | k + 3, hq => simp [tysA] at hq
def lw_fl : List Cond := flatC (Jvm.Cond.and given_1 narrow_1)
set_option maxRecDepth 100000 in
theorem lw_el : ∀ j : Nat, j < 60 → Cond.eq (.elem (.field (Term.string "BootsAtDawn" 80) "java/lang/String" "value" "[B") (.int (Int32.ofNat j))) (.int (scB.getD j 0)) ∈ lw_fl := by decide +kernel
set_option maxRecDepth 100000 in
set_option maxHeartbeats 16000000 in
theorem law_SK {A : Nat → Prop} {s : State} {b : Nat} (hts : ∀ w ∈ lw_tbl, w.before #[Value.ref b] s = true) (hgv : (Jvm.Cond.and given_1 narrow_1).before #[Value.ref b] s = true) (hA : ∀ a : Nat, a < s.heap.size → ¬ A a) : ∃ ak av : Nat, SK ak av A s s.heap ∧ vk_R RX8 80 "g0,1;g1,3;g0,2;g2,5;g3,3;b0,1;a2,0;b3,4;n1,12;u3,30;b1,3;s2;" ak s := by
  have hs : ∀ w ∈ lw_fl, w.before #[Value.ref b] s = true := flat_of_before _ hgv
  have hz : ∀ i : Nat, i < 1 → i = 0 := fun i hi => by omega
  obtain ⟨ak, av, h1, h2⟩ := vk_Sof (args := #[Value.ref b]) (s := s) (N := 1) (tm := fun _ => Term.string "BootsAtDawn" 80) (len := [60]) (byt := [scB]) (A := A)
    (fun i hi => by rw [hz i hi]; decide)
    (fun i hi => hs (Cond.exactly (.string "BootsAtDawn" 80) "java/lang/String") (by decide +kernel))
    (fun i hi => hs (Cond.eq (.field (.string "BootsAtDawn" 80) "java/lang/String" "coder" "B") (.int 0)) (by decide +kernel))
    (fun i hi => hs (Cond.arrayOf (.field (Term.string "BootsAtDawn" 80) "java/lang/String" "value" "[B") .byte) (by decide +kernel))
    (fun i hi => by rw [hz i hi]; exact hs (Cond.eq (.length (.field (Term.string "BootsAtDawn" 80) "java/lang/String" "value" "[B")) (.int 60)) (by decide +kernel))
    (fun i hi j hj => by
      have h0 := hz i hi
      subst h0
      exact hs _ (lw_el j hj))
    (fun i j hi hj hij => absurd (show i = j by omega) hij) hA
  have hv : (Term.static "java/lang/String" "COMPACT_STRINGS" "Z").eval #[Value.ref b] s none [] s = some (.int 1) := law_ev (hs (Cond.eq (.static "java/lang/String" "COMPACT_STRINGS" "Z") (.int 1)) (by decide +kernel))
  refine ⟨ak 0, av 0, ⟨va_Zof (hts _ (by decide +kernel)) (hts _ (by decide +kernel)) hv hA, law_S1 h1, va_Zqof (hts _ (by decide +kernel)) (hts _ (by decide +kernel)) (hs _ (by decide +kernel)) hA⟩, vk_R.of (hts _ (by decide +kernel)) (h2 0 (by omega))⟩
