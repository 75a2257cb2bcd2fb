theorem off_lt {N h i : Nat} (hh : h < 2 ^ N) : off h i < 2 ^ N := Nat.lt_of_le_of_lt Nat.and_le_left hh
theorem dw_loop {N V S h s n a0 : Nat} {kd wk wa wb fl : Nat → Nat} {gu wi be : Int32} {kinds wK wA wB st EW : Nat → Int32} (hO : SlOK N V S kd wk wa wb) (hM : SlM N V S kd wk wa wb gu wi be kinds wK wA wB) (hh : h < 2 ^ N) (hs : s < 2 ^ V) (hst0 : st 0 = nI h) (hst : st 1 = nI s) (hfl : ∀ g, g < N → st (2 + g) = nI (fl g) ∧ fl g < 16) (hfl6 : ∀ g, g < 6 → fl g < 16) (ha : a0 < 10000) (hn : n ≤ 40)
    (hE : ∀ g, g < N → EW g = dwV V S kd wk wa wb fl (off h g) s) :
    ∀ d i q (x4 x5 here stands many rounds : Int32) (order time place endsAt keptBy come : Nat → Int32), i + d = n → d < q →
      ∃ a b here' stands' many' rounds' order' time' place' endsAt' keptBy' come', fX8_dawn_L46 KK (nI a0) (nI n) EW (nI N) q x4 x5 (nI i) = some (a, b) ∧
        fX9_dawn_L41 KK (nI a0) (nI n) (nI N) wi be st wA wK wB kinds q x4 x5 (nI i) here stands many rounds order time place endsAt keptBy come = some (a, b, here', stands', many', rounds', order', time', place', endsAt', keptBy', come') := by
  have hN6 := hO.2.1
  have hN1 := hO.1
  have h64 : h < 64 := h_64 hh hN6
  have hV : V ≤ 9 := hO.2.2.1
  intro d
  induction d with
  | zero =>
    intro i q x4 x5 here stands many rounds order time place endsAt keptBy come hi hq
    obtain ⟨q, rfl⟩ : ∃ y, q = y + 1 := ⟨q - 1, by omega⟩
    rw [fX8_dawn_L46, fX9_dawn_L41, if_pos (nI_le (show n ≤ i by omega) (by omega)), if_pos (nI_le (show n ≤ i by omega) (by omega))]
    exact ⟨_, _, _, _, _, _, _, _, _, _, _, _, rfl, rfl⟩
  | succ d ih =>
    intro i q x4 x5 here stands many rounds order time place endsAt keptBy come hi hq
    obtain ⟨q, rfl⟩ : ∃ y, q = y + 1 := ⟨q - 1, by omega⟩
    have hdr := dr_lt a0 i
    have hg : drV a0 i % N < N := Nat.mod_lt _ (by omega)
    rw [fX8_dawn_L46, fX9_dawn_L41, if_neg (nI_ge (show i < n by omega) (by omega)), if_neg (nI_ge (show i < n by omega) (by omega)), g_drawn ha (by omega) hN1 hN6, bd1_eq, q_at (show drV a0 i % N < 6 by omega) (by omega), bd1_eq, hE _ hg]
    simp only [nm]
    rw [gd_pos (by decide), gd_pos (by decide), gd_pos (by decide), gd_pos (show ¬ nI N = 0 from nI_ne0 (by omega) (by omega)), l_draw ha (by omega), lN_i, pk_rem (by omega) (by omega) (by omega), show (0 : Int32).toNatClampNeg = 0 from rfl, hst0, l_offN h64 (show drV a0 i % N < 6 by omega)]
    have ho2 : off h (drV a0 i % N) < 2 ^ N := off_lt hh
    have ho64 := h_64 ho2 hN6
    obtain ⟨o2, t2, p2, en2, k2, c2, e2, hF⟩ := find9 (gu := gu) hO hM ho2 hs hst hfl here stands many rounds order time place endsAt keptBy come
    rw [hM.1] at e2
    obtain ⟨r1, r2, -⟩ := rds_len ho64
    have hfm : ∀ g, g ∈ mem (off h (drV a0 i % N)) → fl g < 16 := fun g hg => hfl6 g (mem_6.mp hg).1
    have e3 := m_soonest (K := KK) (m := mkb (stB wk wa wb (off h (drV a0 i % N)) s) V) (n := (rds (off h (drV a0 i % N))).length) KK_ge (by omega) (q_frK hV hF) (fun j hj => ⟨(hF j hj).1, enO_le hO ho64 hj hfm⟩) (q_nm2 hV _)
    have e3' : fX9_soonestRound KK (nI (mkb (stB wk wa wb (off h (drV a0 i % N)) s) V)) (nI (rds (off h (drV a0 i % N))).length) k2 en2 = some (oI (dwB V S kd wk wa wb fl (off h (drV a0 i % N)) s)) := e3
    rw [e2, bd10_eq, e3', bd1_eq]
    cases hdb : dwB V S kd wk wa wb fl (off h (drV a0 i % N)) s with
    | none =>
      rw [show oI none = -1 from rfl, if_neg (show ¬ (0 : Int32) ≤ -1 by decide), if_neg (show ¬ (0 : Int32) ≤ -1 by decide), bd1_eq, bd1_eq, dwV_n hdb, if_pos rfl, bd2_eq, nI_1, Int32.add_zero, Int32.add_zero]
      exact ih (i + 1) q _ _ _ _ _ _ _ _ _ _ _ _ (by omega) (by omega)
    | some j =>
      have hj : j < (rds (off h (drV a0 i % N))).length := bst_lt _ hdb
      have hle := enO_le (m := mkb (stB wk wa wb (off h (drV a0 i % N)) s) V) hO ho64 hj hfm
      have hp := nI_pos' (show j < 2 ^ 31 by omega)
      rw [show oI (some j) = nI j from rfl, if_pos hp, if_pos hp, bd1_eq, p_gd (show j < 720 by omega) (by omega), nI_clamp (show j < 2 ^ 31 by omega), (hF j hj).1, bd1_eq, dwV_s hdb]
      rw [if_neg (show ¬ nI (enO V S kd wk wa wb fl (mkb (stB wk wa wb (off h (drV a0 i % N)) s) V) (rho (off h (drV a0 i % N)) j)) = (-4 : Int32) from fun q => absurd (show nI (enO V S kd wk wa wb fl (mkb (stB wk wa wb (off h (drV a0 i % N)) s) V) (rho (off h (drV a0 i % N)) j)) < 0 by rw [q]; decide) (nI_pos (by omega))), bd2_eq, nI_1]
      exact ih (i + 1) q _ _ _ _ _ _ _ _ _ _ _ _ (by omega) (by omega)
theorem q_inLe {K l u : Nat} (hl : l ≤ u) (hu : u < 2 ^ 31) (x : Int32) : ((x < nI l ∨ ¬ x < nI l ∧ nI u < x) ∧ fX9_in K x (nI l) (nI u) = some 0) ∨ ∃ y, l ≤ y ∧ y ≤ u ∧ x = nI y ∧ (¬ x < nI l) ∧ ¬ nI u < x ∧ fX9_in K x (nI l) (nI u) = some 1 := by
  unfold fX9_in
  by_cases h1 : x < nI l
  · left; exact ⟨Or.inl h1, by rw [if_pos h1]⟩
  · by_cases h2 : nI u < x
    · left; exact ⟨Or.inr ⟨h1, h2⟩, by rw [if_neg h1, if_pos h2]⟩
    · right
      have h0 : ¬ x < 0 := fun q => h1 (Int32.lt_of_lt_of_le q (nI_pos' (by omega)))
      obtain ⟨y, hy, rfl⟩ := nI_of h0
      refine ⟨y, ?_, ?_, rfl, h1, h2, by rw [if_neg h1, if_neg h2]⟩
      · rcases Nat.lt_or_ge y l with q | q
        · exact absurd (nI_lt q (by omega)) h1
        · exact q
      · rcases Nat.lt_or_ge u y with q | q
        · exact absurd (nI_lt q hy) h2
        · exact q
set_option maxHeartbeats 1000000 in
theorem s_dawn {X_surveyed X_text_length : Int32} {X_text_letters : (Nat → Int32)} {X_draft_guests X_draft_wishes X_draft_start : Int32} {X_draft_guestKind X_draft_guestFloor X_draft_wishKind X_draft_wishA X_draft_wishB X_draft_wishNames : (Nat → Int32)} {X_reader_next X_slate_guests X_slate_wishes X_slate_start : Int32} {X_slate_guestKind X_slate_guestFloor X_slate_wishKind X_slate_wishA X_slate_wishB X_slate_wishNames : (Nat → Int32)} {X_tonight_here X_tonight_struck : Int32} {X_tonight_floors : (Nat → Int32)} {X_otherNight_here X_otherNight_struck : Int32} {X_otherNight_floors : (Nat → Int32)} {X_undoable_size : Int32} {X_undoable_nights : (Nat → Int64)} {X_kept_size : Int32} {X_kept_nights : (Nat → Int64)} {X_mornings_told : Int32} {X_mornings_ahead X_mornings_behind : (Nat → Int32)} {X_survey_standing X_survey_goodRounds X_survey_soonestEnd X_survey_roundsAsWoken X_survey_round_size X_survey_round_end : Int32} {X_survey_round_order X_survey_round_places X_survey_round_times X_survey_round_waits X_survey_round_wakings X_survey_keptSets X_survey_firstGood X_survey_soonestGood X_survey_earliest X_survey_latest X_survey_behind X_survey_behindAsWoken : (Nat → Int32)} {X_otherSurvey_standing X_otherSurvey_goodRounds X_otherSurvey_soonestEnd X_otherSurvey_roundsAsWoken X_otherSurvey_round_size X_otherSurvey_round_end : Int32} {X_otherSurvey_round_order X_otherSurvey_round_places X_otherSurvey_round_times X_otherSurvey_round_waits X_otherSurvey_round_wakings X_otherSurvey_keptSets X_otherSurvey_firstGood X_otherSurvey_soonestGood X_otherSurvey_earliest X_otherSurvey_latest X_otherSurvey_behind X_otherSurvey_behindAsWoken X_endsWithout : (Nat → Int32)} {M_guests M_wishes M_begins M_acts M_keeps M_wokes M_texted M_at M_readGuests M_readWishes M_readBegins M_here M_stands M_many M_rounds : Int32} {M_kinds M_wishKind M_wishA M_wishB M_st M_was M_kept M_woke M_text M_told M_readKinds M_readFloors M_readWishKind M_readWishA M_readWishB M_come M_keptBy M_endsAt M_order M_time M_place : (Nat → Int32)} (h : Rel X_surveyed X_text_length X_text_letters X_draft_guests X_draft_wishes X_draft_start X_draft_guestKind X_draft_guestFloor X_draft_wishKind X_draft_wishA X_draft_wishB X_draft_wishNames X_reader_next X_slate_guests X_slate_wishes X_slate_start X_slate_guestKind X_slate_guestFloor X_slate_wishKind X_slate_wishA X_slate_wishB X_slate_wishNames X_tonight_here X_tonight_struck X_tonight_floors X_otherNight_here X_otherNight_struck X_otherNight_floors X_undoable_size X_undoable_nights X_kept_size X_kept_nights X_mornings_told X_mornings_ahead X_mornings_behind X_survey_standing X_survey_goodRounds X_survey_soonestEnd X_survey_roundsAsWoken X_survey_round_size X_survey_round_end X_survey_round_order X_survey_round_places X_survey_round_times X_survey_round_waits X_survey_round_wakings X_survey_keptSets X_survey_firstGood X_survey_soonestGood X_survey_earliest X_survey_latest X_survey_behind X_survey_behindAsWoken X_otherSurvey_standing X_otherSurvey_goodRounds X_otherSurvey_soonestEnd X_otherSurvey_roundsAsWoken X_otherSurvey_round_size X_otherSurvey_round_end X_otherSurvey_round_order X_otherSurvey_round_places X_otherSurvey_round_times X_otherSurvey_round_waits X_otherSurvey_round_wakings X_otherSurvey_keptSets X_otherSurvey_firstGood X_otherSurvey_soonestGood X_otherSurvey_earliest X_otherSurvey_latest X_otherSurvey_behind X_otherSurvey_behindAsWoken X_endsWithout M_guests M_wishes M_begins M_acts M_keeps M_wokes M_texted M_at M_readGuests M_readWishes M_readBegins M_here M_stands M_many M_rounds M_kinds M_wishKind M_wishA M_wishB M_st M_was M_kept M_woke M_text M_told M_readKinds M_readFloors M_readWishKind M_readWishA M_readWishB M_come M_keptBy M_endsAt M_order M_time M_place) (x1 : Int32) (x2 : Int32) (x3 : Int32) : ∃ (r : Int32) (X_endsWithout' : (Nat → Int32)) (X_otherNight_here' : Int32) (X_otherNight_struck' : Int32) (X_otherNight_floors' : (Nat → Int32)) (X_otherSurvey_standing' : Int32) (X_otherSurvey_goodRounds' : Int32) (X_otherSurvey_soonestEnd' : Int32) (X_otherSurvey_roundsAsWoken' : Int32) (X_otherSurvey_keptSets' : (Nat → Int32)) (X_otherSurvey_behind' : (Nat → Int32)) (X_otherSurvey_behindAsWoken' : (Nat → Int32)) (X_otherSurvey_round_size' : Int32) (X_otherSurvey_round_end' : Int32) (X_otherSurvey_round_order' : (Nat → Int32)) (X_otherSurvey_round_waits' : (Nat → Int32)) (X_otherSurvey_round_wakings' : (Nat → Int32)) (X_otherSurvey_round_places' : (Nat → Int32)) (X_otherSurvey_round_times' : (Nat → Int32)) (X_otherSurvey_firstGood' : (Nat → Int32)) (X_otherSurvey_soonestGood' : (Nat → Int32)) (X_otherSurvey_earliest' : (Nat → Int32)) (X_otherSurvey_latest' : (Nat → Int32)) (M_here' : Int32) (M_stands' : Int32) (M_many' : Int32) (M_rounds' : Int32) (M_order' : (Nat → Int32)) (M_time' : (Nat → Int32)) (M_place' : (Nat → Int32)) (M_endsAt' : (Nat → Int32)) (M_keptBy' : (Nat → Int32)) (M_come' : (Nat → Int32)), fX8_dawn KK x1 x2 x3 X_endsWithout X_tonight_here X_tonight_struck X_tonight_floors X_otherNight_here X_otherNight_struck X_otherNight_floors X_slate_guests X_slate_wishes X_slate_start X_otherSurvey_standing X_otherSurvey_goodRounds X_otherSurvey_soonestEnd X_otherSurvey_roundsAsWoken X_otherSurvey_keptSets X_otherSurvey_behind X_otherSurvey_behindAsWoken X_otherSurvey_round_size X_otherSurvey_round_end X_otherSurvey_round_order X_otherSurvey_round_waits X_otherSurvey_round_wakings X_otherSurvey_round_places X_otherSurvey_round_times X_otherSurvey_firstGood X_otherSurvey_soonestGood X_otherSurvey_earliest X_otherSurvey_latest X_slate_wishNames X_slate_wishKind X_slate_wishA X_slate_wishB X_slate_guestKind X_mornings_told X_mornings_ahead X_mornings_behind = some (r, X_endsWithout', X_otherNight_here', X_otherNight_struck', X_otherNight_floors', X_otherSurvey_standing', X_otherSurvey_goodRounds', X_otherSurvey_soonestEnd', X_otherSurvey_roundsAsWoken', X_otherSurvey_keptSets', X_otherSurvey_behind', X_otherSurvey_behindAsWoken', X_otherSurvey_round_size', X_otherSurvey_round_end', X_otherSurvey_round_order', X_otherSurvey_round_waits', X_otherSurvey_round_wakings', X_otherSurvey_round_places', X_otherSurvey_round_times', X_otherSurvey_firstGood', X_otherSurvey_soonestGood', X_otherSurvey_earliest', X_otherSurvey_latest') ∧ fX9_dawn KK x1 x2 x3 M_guests M_wishes M_begins M_here M_stands M_many M_rounds M_st M_wishA M_wishKind M_wishB M_order M_time M_place M_kinds M_endsAt M_keptBy M_come = some (r, M_here', M_stands', M_many', M_rounds', M_order', M_time', M_place', M_endsAt', M_keptBy', M_come') ∧ Rel X_surveyed X_text_length X_text_letters X_draft_guests X_draft_wishes X_draft_start X_draft_guestKind X_draft_guestFloor X_draft_wishKind X_draft_wishA X_draft_wishB X_draft_wishNames X_reader_next X_slate_guests X_slate_wishes X_slate_start X_slate_guestKind X_slate_guestFloor X_slate_wishKind X_slate_wishA X_slate_wishB X_slate_wishNames X_tonight_here X_tonight_struck X_tonight_floors X_otherNight_here' X_otherNight_struck' X_otherNight_floors' X_undoable_size X_undoable_nights X_kept_size X_kept_nights X_mornings_told X_mornings_ahead X_mornings_behind X_survey_standing X_survey_goodRounds X_survey_soonestEnd X_survey_roundsAsWoken X_survey_round_size X_survey_round_end X_survey_round_order X_survey_round_places X_survey_round_times X_survey_round_waits X_survey_round_wakings X_survey_keptSets X_survey_firstGood X_survey_soonestGood X_survey_earliest X_survey_latest X_survey_behind X_survey_behindAsWoken X_otherSurvey_standing' X_otherSurvey_goodRounds' X_otherSurvey_soonestEnd' X_otherSurvey_roundsAsWoken' X_otherSurvey_round_size' X_otherSurvey_round_end' X_otherSurvey_round_order' X_otherSurvey_round_places' X_otherSurvey_round_times' X_otherSurvey_round_waits' X_otherSurvey_round_wakings' X_otherSurvey_keptSets' X_otherSurvey_firstGood' X_otherSurvey_soonestGood' X_otherSurvey_earliest' X_otherSurvey_latest' X_otherSurvey_behind' X_otherSurvey_behindAsWoken' X_endsWithout' M_guests M_wishes M_begins M_acts M_keeps M_wokes M_texted M_at M_readGuests M_readWishes M_readBegins M_here' M_stands' M_many' M_rounds' M_kinds M_wishKind M_wishA M_wishB M_st M_was M_kept M_woke M_text M_told M_readKinds M_readFloors M_readWishKind M_readWishA M_readWishB M_come' M_keptBy' M_endsAt' M_order' M_time' M_place' := by
  obtain ⟨N,V,S,kd,wk,wa,wb,fl,h,s,t,am,bm,hO,hX,hM,hNt,hNx,hNm,hMo,hMx,hMm,hT,hU,hKp,hD,hSv⟩ := h
  unfold fX8_dawn fX9_dawn
  have h64 : h < 64 := h_64 hNt.1 hO.2.1
  rcases q_inLe (K := KK) (l := 0) (u := 9999) (by omega) (by omega) x1 with ⟨hx, f⟩ | ⟨a0, ha0, ha, rfl, hx0, hx1, f⟩
  · change fX9_in _ _ 0 9999 = _ at f
    rw [f, bd1_eq, if_pos rfl]
    rcases hx with hx | ⟨hx, hx2⟩
    · rw [if_pos (show x1 < 0 from hx)]
      exact ⟨_, _, _, _, _, _, _, _, _, _, _, _, _, _, _, _, _, _, _, _, _, _, _, _, _, _, _, _, _, _, _, _, _, rfl, rfl, N,V,S,kd,wk,wa,wb,fl,h,s,t,am,bm,hO,hX,hM,hNt,hNx,hNm,hMo,hMx,hMm,hT,hU,hKp,hD,hSv⟩
    · rw [if_neg (show ¬ x1 < 0 from hx), if_pos (show 9999 < x1 from hx2)]
      exact ⟨_, _, _, _, _, _, _, _, _, _, _, _, _, _, _, _, _, _, _, _, _, _, _, _, _, _, _, _, _, _, _, _, _, rfl, rfl, N,V,S,kd,wk,wa,wb,fl,h,s,t,am,bm,hO,hX,hM,hNt,hNx,hNm,hMo,hMx,hMm,hT,hU,hKp,hD,hSv⟩
  change fX9_in _ _ 0 9999 = _ at f
  rw [f, bd1_eq, if_neg q_n10, if_neg (show ¬ nI a0 < 0 from hx0), if_neg (show ¬ 9999 < nI a0 from hx1)]
  rcases q_inLe (K := KK) (l := 1) (u := 40) (by omega) (by omega) x2 with ⟨hx, f⟩ | ⟨n, hn0, hn, rfl, hx0, hx1, f⟩
  · change fX9_in _ _ 1 40 = _ at f
    rw [f, bd1_eq, if_pos rfl]
    rcases hx with hx | ⟨hx, hx2⟩
    · rw [if_pos (show x2 < 1 from hx)]
      exact ⟨_, _, _, _, _, _, _, _, _, _, _, _, _, _, _, _, _, _, _, _, _, _, _, _, _, _, _, _, _, _, _, _, _, rfl, rfl, N,V,S,kd,wk,wa,wb,fl,h,s,t,am,bm,hO,hX,hM,hNt,hNx,hNm,hMo,hMx,hMm,hT,hU,hKp,hD,hSv⟩
    · rw [if_neg (show ¬ x2 < 1 from hx), if_pos (show 40 < x2 from hx2)]
      exact ⟨_, _, _, _, _, _, _, _, _, _, _, _, _, _, _, _, _, _, _, _, _, _, _, _, _, _, _, _, _, _, _, _, _, rfl, rfl, N,V,S,kd,wk,wa,wb,fl,h,s,t,am,bm,hO,hX,hM,hNt,hNx,hNm,hMo,hMx,hMm,hT,hU,hKp,hD,hSv⟩
  change fX9_in _ _ 1 40 = _ at f
  rw [f, bd1_eq, if_neg q_n10, if_neg (show ¬ nI n < 1 from hx0), if_neg (show ¬ 40 < nI n from hx1)]
  rcases q_r1 (K := KK) x3 with ⟨hx, f⟩ | ⟨y, hy, rfl, hy0, hy1, f⟩
  · rw [f, bd1_eq, if_pos rfl]
    rcases hx with hx | ⟨hx, hx2⟩
    · rw [if_pos hx]
      exact ⟨_, _, _, _, _, _, _, _, _, _, _, _, _, _, _, _, _, _, _, _, _, _, _, _, _, _, _, _, _, _, _, _, _, rfl, rfl, N,V,S,kd,wk,wa,wb,fl,h,s,t,am,bm,hO,hX,hM,hNt,hNx,hNm,hMo,hMx,hMm,hT,hU,hKp,hD,hSv⟩
    · rw [if_neg hx, if_neg hx2]
      exact ⟨_, _, _, _, _, _, _, _, _, _, _, _, _, _, _, _, _, _, _, _, _, _, _, _, _, _, _, _, _, _, _, _, _, rfl, rfl, N,V,S,kd,wk,wa,wb,fl,h,s,t,am,bm,hO,hX,hM,hNt,hNx,hNm,hMo,hMx,hMm,hT,hU,hKp,hD,hSv⟩
  have hg1 := hX.1
  have hg2 := hM.1
  have hn1 := hNx.1
  have hn2 := hNx.2.1
  subst hg1 hg2 hn1 hn2
  rw [f, bd1_eq, if_neg q_n10, if_neg hy0, if_pos hy1]
  obtain ⟨EW, oh2, os2, of2, sta2, good2, soon2, woken2, KS2, B2, W2, size2, endI2, order2, waits2, wak2, places2, times2, FG2, SG2, E2, L2, e1, hE⟩ := g_reckon hO hX hNt.1 hNt.2.1 (fun g hg => ⟨hNx.2.2 g hg, hNt.2.2.2 g hg⟩) hMo hMx X_endsWithout X_otherNight_here X_otherNight_struck X_otherNight_floors X_otherSurvey_standing X_otherSurvey_goodRounds X_otherSurvey_soonestEnd X_otherSurvey_roundsAsWoken X_otherSurvey_keptSets X_otherSurvey_behind X_otherSurvey_behindAsWoken X_otherSurvey_round_size X_otherSurvey_round_end X_otherSurvey_round_order X_otherSurvey_round_waits X_otherSurvey_round_wakings X_otherSurvey_round_places X_otherSurvey_round_times X_otherSurvey_firstGood X_otherSurvey_soonestGood X_otherSurvey_earliest X_otherSurvey_latest
  obtain ⟨a, b, here', stands', many', rounds', order', time', place', endsAt', keptBy', come', d1, d2⟩ := dw_loop (n := n) (a0 := a0) hO hM hNt.1 hNt.2.1 hNm.1 hNm.2.1 (fun g hg => ⟨hNm.2.2 g hg, by have := hNt.2.2.1 g hg; omega⟩) hNt.2.2.2 (by omega) hn hE n 0 KK 0 0 M_here M_stands M_many M_rounds M_order M_time M_place M_endsAt M_keptBy M_come (by omega) (by have := KK_ge; omega)
  change fX8_dawn_L46 _ _ _ _ _ _ _ _ 0 = _ at d1
  change fX9_dawn_L41 _ _ _ _ _ _ _ _ _ _ _ _ _ _ 0 _ _ _ _ _ _ _ _ _ _ = _ at d2
  rw [e1, bd22_eq, d1, d2, bd2_eq, bd12_eq]
  by_cases hy00 : nI y = 0
  · rw [if_pos hy00, if_pos hy00]
    exact ⟨_, _, _, _, _, _, _, _, _, _, _, _, _, _, _, _, _, _, _, _, _, _, _, _, _, _, _, _, _, _, _, _, _, rfl, rfl, N,V,S,kd,wk,wa,wb,fl,h,s,t,am,bm,hO,hX,hM,hNt,hNx,hNm,hMo,hMx,hMm,hT,hU,hKp,hD,hSv⟩
  · rw [if_neg hy00, if_neg hy00]
    exact ⟨_, _, _, _, _, _, _, _, _, _, _, _, _, _, _, _, _, _, _, _, _, _, _, _, _, _, _, _, _, _, _, _, _, rfl, rfl, N,V,S,kd,wk,wa,wb,fl,h,s,t,am,bm,hO,hX,hM,hNt,hNx,hNm,hMo,hMx,hMm,hT,hU,hKp,hD,hSv⟩
