/-! the class goes through all rounds -/
theorem sv_0 {V S h m t : Nat} {kd wk wa wb fl am bm : Nat → Nat} {soon : Int32} {KS FG SG E L B W : Nat → Int32} (hK : ∀ k, k < 512 → KS k = 0) (hB : ∀ g, g < 6 → B g = 0) (hW : ∀ g, g < 6 → W g = 0) : SvP V S kd wk wa wb fl h m t am bm 0 0 soon 0 KS FG SG E L B W :=
  ⟨rfl, rfl, fun k hk => hK k hk, fun i hi => (by cases hi), fun i hi => (by cases hi), fun g _ x hx => (by cases hx), fun g _ x hx => (by cases hx), fun g hg => hB g hg, fun g hg => hW g hg⟩
theorem g_loop {V S h s t : Nat} {kd wk wa wb fl am bm : Nat → Nat} {wK wA wB floors waits wak ah be : Nat → Int32}
    (hh : h < 64) (hS : S ≤ 99) (hG : GvW V h (mkb (stB wk wa wb h s) V) wk wa wb) (ht : t ≤ 6)
    (hW : ∀ w, w < V → wK w = nI (wk w) ∧ wA w = nI (wa w) ∧ wB w = wbI (wk w) (wb w)) (hF : ∀ g, g < 6 → floors g = nI (fl g) ∧ fl g < 16)
    (hmo : ∀ i, i < t → ah i = nI (am i) ∧ be i = nI (bm i) ∧ am i < 6 ∧ bm i < 6)
    (hwt : ∀ g, g < 6 → waits g = nI (wtS wk wa wb (mkb (stB wk wa wb h s) V) g V)) (hwn : ∀ g, g ∈ mem h → wak g = nI (wnS kd fl g)) :
    ∀ d i q (good soon woken endI : Int32) (KS B W order places times FG SG E L : Nat → Int32), i + d + 1 = (rds h).length → d + 1 < q → agr (mem h).length order (la (rho h i)) →
      SvP V S kd wk wa wb fl h (mkb (stB wk wa wb h s) V) t am bm i good soon woken KS FG SG E L B W →
    ∃ good' soon' woken' endI' KS' B' W' order' places' times' FG' SG' E' L', fX6_goThrough_L25 KK (nI (mkb (stB wk wa wb h s) V)) (nI (mem h).length) waits wak (nI h) (nI V) (nI S) wK wA wB floors (nI t) ah be q 1 (nI i) good soon woken KS B W endI order places times FG SG E L = some (good', soon', woken', KS', B', W', endI', order', places', times', FG', SG', E', L') ∧
      SvP V S kd wk wa wb fl h (mkb (stB wk wa wb h s) V) t am bm (rds h).length good' soon' woken' KS' FG' SG' E' L' B' W' := by
  obtain ⟨z1, z2, -⟩ := rds_len hh
  have hl6 := mem_len h
  have hWw := hG.2.2
  have one : ∀ i q (good soon woken endI : Int32) (KS B W order places times FG SG E L : Nat → Int32), i < (rds h).length → agr (mem h).length order (la (rho h i)) →
      SvP V S kd wk wa wb fl h (mkb (stB wk wa wb h s) V) t am bm i good soon woken KS FG SG E L B W →
      ∃ good' soon' woken' endI' KS' B' W' places' times' FG' SG' E' L', SvP V S kd wk wa wb fl h (mkb (stB wk wa wb h s) V) t am bm (i + 1) good' soon' woken' KS' FG' SG' E' L' B' W' ∧
        fX6_goThrough_L25 KK (nI (mkb (stB wk wa wb h s) V)) (nI (mem h).length) waits wak (nI h) (nI V) (nI S) wK wA wB floors (nI t) ah be (q + 1) 1 (nI i) good soon woken KS B W endI order places times FG SG E L =
        bd2 (fX4_turnToNext KK (nI (mem h).length) order) fun r_1 T_round_order_4 => fX6_goThrough_L25 KK (nI (mkb (stB wk wa wb h s) V)) (nI (mem h).length) waits wak (nI h) (nI V) (nI S) wK wA wB floors (nI t) ah be q r_1 (nI (i + 1)) good' soon' woken' KS' B' W' endI' T_round_order_4 places' times' FG' SG' E' L' := by
    intro i q good soon woken endI KS B W order places times FG SG E L hi hA hSv
    obtain ⟨r1, r2, r3⟩ := rho_ok hh hi
    obtain ⟨p', t', e1, e2, e3⟩ := w_walk4 (K := KK) (order := order) (waits := waits) (wak := wak) (floors := floors) (fl := fl) (wt := fun g => wtS wk wa wb (mkb (stB wk wa wb h s) V) g V) (wn := wnS kd fl) hl6 hF (fun g hg => ⟨hwt g hg, wtS_le (fun w hw => (hWw w hw).2.2.1)⟩) (rho h i) 0 0 S places times KK (by omega) (by have := KK_ge; omega) (fun k hk => by rw [Nat.zero_add, hA k (by omega)]; rfl)
      (fun g hg => ⟨q_mem ((r3 g).mp hg), hwn g ((r3 g).mp hg), wnS_le (hF g (q_mem ((r3 g).mp hg))).2⟩) r2 (by omega) (by omega)
    obtain ⟨good', soon', woken', KS', FG', SG', E', L', B', W', n1, n2⟩ := sv_step (size := nI (mem h).length) (endI := nI (enO V S kd wk wa wb fl (mkb (stB wk wa wb h s) V) (rho h i))) (places := p') (times := t') (order := order) hh hS hG hi ht hW (fun g hg => (hF g (q_mem hg)).2) hmo rfl rfl (fun g hg => by
      have := e2 g ((r3 g).mpr hg)
      rw [Nat.zero_add] at this
      exact this) hA hSv
    refine ⟨good', soon', woken', nI (wlkE fl (fun g => wtS wk wa wb (mkb (stB wk wa wb h s) V) g V) (wnS kd fl) (rho h i) 0 S), KS', B', W', p', t', FG', SG', E', L', n2, ?_⟩
    change fX4_walk_L13 _ _ _ _ _ _ _ 0 (nI S) 0 _ _ = _ at e1
    change fX6_note _ _ _ _ _ _ (nI (wlkE fl (fun g => wtS wk wa wb (mkb (stB wk wa wb h s) V) g V) (wnS kd fl) (rho h i) 0 S)) _ _ _ _ _ _ _ _ _ _ _ _ _ _ _ _ _ _ = _ at n1
    rw [fX6_goThrough_L25, if_neg (show ¬ (720 : Int32) ≤ nI i from nI_ge (b := 720) (by omega) (by omega)), if_neg q_n10]
    unfold fX4_walk
    rw [e1, bd3_eq, bd3_eq, n1, bd10_eq]
    simp only [nm, nI_1]
  have fin : ∀ q x4 (good soon woken endI : Int32) (KS B W order places times FG SG E L : Nat → Int32), fX6_goThrough_L25 KK (nI (mkb (stB wk wa wb h s) V)) (nI (mem h).length) waits wak (nI h) (nI V) (nI S) wK wA wB floors (nI t) ah be (q + 1) 0 x4 good soon woken KS B W endI order places times FG SG E L = some (good, soon, woken, KS, B, W, endI, order, places, times, FG, SG, E, L) := by
    intro q x4 good soon woken endI KS B W order places times FG SG E L
    rw [fX6_goThrough_L25, if_pos (show (0 : Int32) = 0 from rfl), ite_self]
  intro d
  induction d with
  | zero =>
    intro i q good soon woken endI KS B W order places times FG SG E L hi hq hA hSv
    obtain ⟨q, rfl⟩ : ∃ y, q = y + 1 + 1 := ⟨q - 2, by omega⟩
    obtain ⟨good', soon', woken', endI', KS', B', W', p', t', FG', SG', E', L', hS', e1⟩ := one i (q + 1) good soon woken endI KS B W order places times FG SG E L (by omega) hA hSv
    obtain ⟨O', -, e2, -⟩ := rho_last hh (by omega) hA hA
    refine ⟨good', soon', woken', endI', KS', B', W', O', p', t', FG', SG', E', L', ?_, by rw [← hi]; exact hS'⟩
    rw [e1, e2, bd2_eq, fin]
  | succ d ih =>
    intro i q good soon woken endI KS B W order places times FG SG E L hi hq hA hSv
    obtain ⟨q, rfl⟩ : ∃ y, q = y + 1 := ⟨q - 1, by omega⟩
    obtain ⟨good', soon', woken', endI', KS', B', W', p', t', FG', SG', E', L', hS', e1⟩ := one i q good soon woken endI KS B W order places times FG SG E L (by omega) hA hSv
    obtain ⟨O', -, e2, -, hA', -⟩ := rho_next hh (by omega) hA hA
    obtain ⟨good2, soon2, woken2, endI2, KS2, B2, W2, O2, p2, t2, FG2, SG2, E2, L2, e3, hS2⟩ := ih (i + 1) q good' soon' woken' endI' KS' B' W' O' p' t' FG' SG' E' L' (by omega) (by omega) hA' hS'
    refine ⟨good2, soon2, woken2, endI2, KS2, B2, W2, O2, p2, t2, FG2, SG2, E2, L2, ?_, hS2⟩
    rw [e1, e2, bd2_eq, e3]
/-- what goThrough leaves -/
theorem g_through {N V S h s t : Nat} {kd wk wa wb fl am bm : Nat → Nat} {gu wi st here struck told : Int32} {gK wK wA wB wN floors ah be : Nat → Int32}
    (hO : SlOK N V S kd wk wa wb) (hX : SlX N V S kd wk wa wb gu wi st gK wK wA wB wN) (hh : h < 2 ^ N) (hs : s < 2 ^ V) (hf : ∀ g, g < 6 → floors g = nI (fl g) ∧ fl g < 16) (he : here = nI h) (hst : struck = nI s)
    (hMo : MoOK N t am bm) (hMx : MoX t am bm told ah be) (sta good soon woken size endI : Int32) (KS B W order waits wak places times FG SG E L : Nat → Int32) :
    ∃ good' soon' woken' size' endI' KS' B' W' order' waits' wak' places' times' FG' SG' E' L', fX6_goThrough KK sta good soon woken KS B W size endI order waits wak places times FG SG E L here struck wi st wN wK wA wB gK floors told ah be =
      some (nI (mkb (stB wk wa wb h s) V), good', soon', woken', KS', B', W', size', endI', order', waits', wak', places', times', FG', SG', E', L') ∧
      SvP V S kd wk wa wb fl h (mkb (stB wk wa wb h s) V) t am bm (rds h).length good' soon' woken' KS' FG' SG' E' L' B' W' := by
  have hG := gvw (s := s) hO hh
  obtain ⟨hN1, hN6, hV, hS, hk, hw⟩ := hO
  obtain ⟨rfl, rfl, rfl, hki, hwi⟩ := hX
  obtain ⟨ht, hmo⟩ := hMo
  obtain ⟨rfl, hmx⟩ := hMx
  subst he
  subst hst
  have h64 := h_64 hh hN6
  obtain ⟨r1, r2, r3⟩ := rds_len h64
  have hNm : ∀ w, w < V → wN w = nI (nmM wk wa wb w) ∧ wa w < 6 ∧ (wk w ≤ 1 → wb w < 6) := fun w hwV => ⟨(hwi w hwV).2.2.2, by have := (hw w hwV).2.1; omega, fun q => by have := ((hw w hwV).2.2.1 q).1; omega⟩
  unfold fX6_goThrough fX6_clear
  obtain ⟨K1, k1, k2⟩ := g_fill (K := KK) (N := 512) (v := 0) (P := KS) (by omega) KK_ge
  obtain ⟨B1, b1, b2⟩ := g_fill (K := KK) (N := 6) (v := 0) (P := B) (by omega) KK_ge
  obtain ⟨W1, w1, w2⟩ := g_fill (K := KK) (N := 6) (v := 0) (P := W) (by omega) KK_ge
  rw [k1, bd1_eq, b1, bd1_eq, w1, bd1_eq, bd5_eq, p_standing1 KK_ge hV (by omega) (q_lt9 hs hV) hNm, bd1_eq]
  obtain ⟨o', w', kk', e1, e2, e3, e4⟩ := g_begin (K := KK) (kd := kd) (fl := fl) (gK := gK) (floors := floors) (size := size) (order := order) (waits := waits) (wakings := wak) KK_ge hV h64 (q_lt9 hs hV) (fun w hwV => ⟨(hwi w hwV).1, (hwi w hwV).2.1, (hwi w hwV).2.2.1, (hwi w hwV).2.2.2, (hw w hwV).1, by have := (hw w hwV).2.1; omega, fun q => by have := ((hw w hwV).2.2.1 q).1; omega, (hw w hwV).2.2.2⟩) (fun g hg => ⟨hki g (mem_N hh hg), hk g (mem_N hh hg), (hf g (q_mem hg)).1⟩)
  rw [e1, bd4_eq]
  obtain ⟨good', soon', woken', endI', KS', B', W', order', places', times', FG', SG', E', L', e5, e6⟩ := g_loop (kd := kd) (am := am) (bm := bm) (t := t) (floors := floors) (fl := fl) (ah := ah) (be := be) (waits := w') (wak := kk') (S := S) h64 hS hG ht (fun w hwV => ⟨(hwi w hwV).1, (hwi w hwV).2.1, (hwi w hwV).2.2.1⟩) hf (fun i hi => ⟨(hmx i hi).1, (hmx i hi).2, by have := (hmo i hi).1; omega, by have := (hmo i hi).2.1; omega⟩) e3 e4 ((rds h).length - 1) 0 KK 0 soon 0 endI K1 B1 W1 o' places times FG SG E L (by omega) (by unfold KK; omega) (by rw [r3]; exact e2) (sv_0 k2 b2 w2)
  change fX6_goThrough_L25 _ _ _ _ _ _ _ _ _ _ _ _ _ _ _ _ 1 0 _ _ _ _ _ _ _ _ _ _ _ _ _ _ = _ at e5
  rw [e5, bd14_eq]
  exact ⟨good', soon', woken', nI (mem h).length, endI', KS', B', W', order', w', kk', places', times', FG', SG', E', L', rfl, e6⟩
