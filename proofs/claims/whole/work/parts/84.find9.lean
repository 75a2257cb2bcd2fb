theorem tb_lt {h N g : Nat} (hh : h < 2 ^ N) (hg : h.testBit g = true) : g < N := by
  rcases Nat.lt_or_ge g N with q | q
  · exact q
  · have : h < 2 ^ g := Nat.lt_of_lt_of_le hh (Nat.pow_le_pow_right (by omega) q)
    rw [Nat.testBit_lt_two_pow this] at hg
    cases hg
theorem h_64 {h N : Nat} (hh : h < 2 ^ N) (hN : N ≤ 6) : h < 64 := Nat.lt_of_lt_of_le hh (Nat.pow_le_pow_right (by omega) hN)
theorem mem_N {h N g : Nat} (hh : h < 2 ^ N) (hg : g ∈ mem h) : g < N := tb_lt hh (mem_6.mp hg).2
theorem gvw {N V S h s : Nat} {kd wk wa wb : Nat → Nat} (hO : SlOK N V S kd wk wa wb) (hh : h < 2 ^ N) : GvW V h (mkb (stB wk wa wb h s) V) wk wa wb := by
  obtain ⟨hN1, hN6, hV, hS, hk, hw⟩ := hO
  refine ⟨hV, mkb_lt _ _, fun w hwV => ?_⟩
  obtain ⟨h1, h2, h3, h4⟩ := hw w hwV
  refine ⟨h1, by omega, h4, fun hb => ?_⟩
  rw [mkb_test] at hb
  simp only [stB, Bool.and_eq_true, decide_eq_true_eq, Bool.or_eq_true] at hb
  refine ⟨mem_6.mpr ⟨by omega, hb.2.1.1⟩, fun hk1 => ?_⟩
  rcases hb.2.1.2 with q | q
  · omega
  · exact mem_6.mpr ⟨by have := (h3 hk1).1; omega, q⟩
/-- the reference's rounds of those of h -/
theorem find9 {N V S h s : Nat} {kd wk wa wb fl : Nat → Nat} {gu wi be : Int32} {kinds wK wA wB st : Nat → Int32} (hO : SlOK N V S kd wk wa wb) (hM : SlM N V S kd wk wa wb gu wi be kinds wK wA wB) (hh : h < 2 ^ N) (hs : s < 2 ^ V) (hst : st 1 = nI s) (hfl : ∀ g, g < N → st (2 + g) = nI (fl g) ∧ fl g < 16)
    (here stands many rounds : Int32) (order time place endsAt keptBy come : Nat → Int32) :
    ∃ o' t' p' e' k' c', fX9_findRounds KK (nI h) gu wi be here stands many rounds st wA wK wB order time place kinds endsAt keptBy come = some (nI h, nI (mkb (stB wk wa wb h s) V), nI (mem h).length, nI (rds h).length, o', t', p', e', k', c') ∧
      FrP V S kd wk wa wb fl h (mkb (stB wk wa wb h s) V) (rds h).length e' k' c' := by
  have hG := gvw (s := s) hO hh
  obtain ⟨hN1, hN6, hV, hS, hk, hw⟩ := hO
  obtain ⟨rfl, rfl, rfl, hki, hwi⟩ := hM
  have h64 := h_64 hh hN6
  obtain ⟨r1, r2, r3⟩ := rds_len h64
  unfold fX9_findRounds
  rw [p_standing9 KK_ge hV (by omega) (q_lt9 hs hV) hst (fun w hwV => ⟨(hwi w hwV).1, (hwi w hwV).2.1, (hwi w hwV).2.2, (hw w hwV).1, by have := (hw w hwV).2.1; omega, fun q => by have := ((hw w hwV).2.2.1 q).1; omega⟩), bd1_eq]
  obtain ⟨T', e1, e2⟩ := f_order (K := KK) (T := order) KK_ge hN6 hh
  rw [e1, bd2_eq]
  obtain ⟨o', t', p', e', k', c', e3, hF⟩ := f_rounds (st := st) (wK := wK) (wA := wA) (wB := wB) (kinds := kinds) (fl := fl) (kd := kd) (S := S) h64 hS hG (fun w hwV => hwi w hwV) (fun g hg => ⟨hki g (mem_N hh hg), hk g (mem_N hh hg), (hfl g (mem_N hh hg)).1, (hfl g (mem_N hh hg)).2⟩) ((rds h).length - 1) 0 KK T' time place endsAt keptBy come (by omega) (by unfold KK; omega) (by rw [r3]; exact e2) (fun j hj => absurd hj (by omega))
  change fX9_findRounds_L70 _ _ _ _ _ _ _ _ _ _ _ _ 0 _ _ _ _ _ _ = _ at e3
  rw [e3, bd7_eq]
  exact ⟨o', t', p', e', k', c', rfl, hF⟩
