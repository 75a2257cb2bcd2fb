theorem q_bitB {m a : Nat} (hm : m < 2 ^ 31) (ha : a < 31) : (nI m >>> (nI a &&& 31)) &&& 1 = bI (m.testBit a) := by
  rw [q_bit hm ha]
  have := q_tb m a
  cases hb : m.testBit a with
  | false =>
    rw [hb] at this
    have h2 : m / 2 ^ a % 2 = 0 := by
      have : ¬ m / 2 ^ a % 2 = 1 := by rw [this]; decide
      omega
    rw [h2]; rfl
  | true => rw [hb] at this; rw [this.mpr rfl]; rfl
theorem q_r9 {K : Nat} (x : Int32) : ((x < 0 ∨ (¬ x < 0 ∧ ¬ x ≤ 9)) ∧ fX9_in K x 0 9 = some 0) ∨ ∃ g, g ≤ 9 ∧ x = nI g ∧ ¬ nI g < 0 ∧ nI g ≤ 9 ∧ fX9_in K (nI g) 0 9 = some 1 := by
  unfold fX9_in
  by_cases h1 : x < 0
  · rw [if_pos h1]; exact Or.inl ⟨Or.inl h1, rfl⟩
  · rw [if_neg h1]
    by_cases h2 : 9 < x
    · rw [if_pos h2]; exact Or.inl ⟨Or.inr ⟨h1, Int32.not_le.mpr h2⟩, rfl⟩
    · right
      rcases pk_ix x (n := 10) (by omega) with q | q | ⟨j, hj, rfl⟩
      · exact absurd q h1
      · exact absurd (Int32.lt_of_lt_of_le (b := nI 10) (by decide) q) h2
      · refine ⟨j, by omega, rfl, h1, Int32.not_lt.mp h2, ?_⟩
        rw [if_neg h1, if_neg h2]
/-- a bit of the night turned over -/
theorem q_flip {m a : Nat} (ha : a < 31) : nI m ^^^ ((1 : Int32) <<< (nI a &&& 31)) = nI (m ^^^ 2 ^ a) := by rw [q_shl ha, q_xor]
set_option maxHeartbeats 1000000 in
theorem s_leave {X_surveyed X_text_length : Int32} {X_text_letters : (Nat → Int32)} {X_draft_guests X_draft_wishes X_draft_start : Int32} {X_draft_guestKind X_draft_guestFloor X_draft_wishKind X_draft_wishA X_draft_wishB X_draft_wishNames : (Nat → Int32)} {X_reader_next X_slate_guests X_slate_wishes X_slate_start : Int32} {X_slate_guestKind X_slate_guestFloor X_slate_wishKind X_slate_wishA X_slate_wishB X_slate_wishNames : (Nat → Int32)} {X_tonight_here X_tonight_struck : Int32} {X_tonight_floors : (Nat → Int32)} {X_otherNight_here X_otherNight_struck : Int32} {X_otherNight_floors : (Nat → Int32)} {X_undoable_size : Int32} {X_undoable_nights : (Nat → Int64)} {X_kept_size : Int32} {X_kept_nights : (Nat → Int64)} {X_mornings_told : Int32} {X_mornings_ahead X_mornings_behind : (Nat → Int32)} {X_survey_standing X_survey_goodRounds X_survey_soonestEnd X_survey_roundsAsWoken X_survey_round_size X_survey_round_end : Int32} {X_survey_round_order X_survey_round_places X_survey_round_times X_survey_round_waits X_survey_round_wakings X_survey_keptSets X_survey_firstGood X_survey_soonestGood X_survey_earliest X_survey_latest X_survey_behind X_survey_behindAsWoken : (Nat → Int32)} {X_otherSurvey_standing X_otherSurvey_goodRounds X_otherSurvey_soonestEnd X_otherSurvey_roundsAsWoken X_otherSurvey_round_size X_otherSurvey_round_end : Int32} {X_otherSurvey_round_order X_otherSurvey_round_places X_otherSurvey_round_times X_otherSurvey_round_waits X_otherSurvey_round_wakings X_otherSurvey_keptSets X_otherSurvey_firstGood X_otherSurvey_soonestGood X_otherSurvey_earliest X_otherSurvey_latest X_otherSurvey_behind X_otherSurvey_behindAsWoken X_endsWithout : (Nat → Int32)} {M_guests M_wishes M_begins M_acts M_keeps M_wokes M_texted M_at M_readGuests M_readWishes M_readBegins M_here M_stands M_many M_rounds : Int32} {M_kinds M_wishKind M_wishA M_wishB M_st M_was M_kept M_woke M_text M_told M_readKinds M_readFloors M_readWishKind M_readWishA M_readWishB M_come M_keptBy M_endsAt M_order M_time M_place : (Nat → Int32)} (h : Rel X_surveyed X_text_length X_text_letters X_draft_guests X_draft_wishes X_draft_start X_draft_guestKind X_draft_guestFloor X_draft_wishKind X_draft_wishA X_draft_wishB X_draft_wishNames X_reader_next X_slate_guests X_slate_wishes X_slate_start X_slate_guestKind X_slate_guestFloor X_slate_wishKind X_slate_wishA X_slate_wishB X_slate_wishNames X_tonight_here X_tonight_struck X_tonight_floors X_otherNight_here X_otherNight_struck X_otherNight_floors X_undoable_size X_undoable_nights X_kept_size X_kept_nights X_mornings_told X_mornings_ahead X_mornings_behind X_survey_standing X_survey_goodRounds X_survey_soonestEnd X_survey_roundsAsWoken X_survey_round_size X_survey_round_end X_survey_round_order X_survey_round_places X_survey_round_times X_survey_round_waits X_survey_round_wakings X_survey_keptSets X_survey_firstGood X_survey_soonestGood X_survey_earliest X_survey_latest X_survey_behind X_survey_behindAsWoken X_otherSurvey_standing X_otherSurvey_goodRounds X_otherSurvey_soonestEnd X_otherSurvey_roundsAsWoken X_otherSurvey_round_size X_otherSurvey_round_end X_otherSurvey_round_order X_otherSurvey_round_places X_otherSurvey_round_times X_otherSurvey_round_waits X_otherSurvey_round_wakings X_otherSurvey_keptSets X_otherSurvey_firstGood X_otherSurvey_soonestGood X_otherSurvey_earliest X_otherSurvey_latest X_otherSurvey_behind X_otherSurvey_behindAsWoken X_endsWithout M_guests M_wishes M_begins M_acts M_keeps M_wokes M_texted M_at M_readGuests M_readWishes M_readBegins M_here M_stands M_many M_rounds M_kinds M_wishKind M_wishA M_wishB M_st M_was M_kept M_woke M_text M_told M_readKinds M_readFloors M_readWishKind M_readWishA M_readWishB M_come M_keptBy M_endsAt M_order M_time M_place) (x1 : Int32) : ∃ (r : Int32) (X_surveyed' : Int32) (X_tonight_here' : Int32) (X_undoable_size' : Int32) (X_undoable_nights' : (Nat → Int64)) (M_acts' : Int32) (M_was' : (Nat → Int32)) (M_st' : (Nat → Int32)), fX8_leave KK x1 X_surveyed X_slate_guests X_tonight_here X_tonight_struck X_tonight_floors X_undoable_size X_undoable_nights = some (r, X_surveyed', X_tonight_here', X_undoable_size', X_undoable_nights') ∧ fX9_leave KK x1 M_guests M_acts M_was M_st = some (r, M_acts', M_was', M_st') ∧ Rel X_surveyed' X_text_length X_text_letters X_draft_guests X_draft_wishes X_draft_start X_draft_guestKind X_draft_guestFloor X_draft_wishKind X_draft_wishA X_draft_wishB X_draft_wishNames X_reader_next X_slate_guests X_slate_wishes X_slate_start X_slate_guestKind X_slate_guestFloor X_slate_wishKind X_slate_wishA X_slate_wishB X_slate_wishNames X_tonight_here' X_tonight_struck X_tonight_floors X_otherNight_here X_otherNight_struck X_otherNight_floors X_undoable_size' X_undoable_nights' X_kept_size X_kept_nights X_mornings_told X_mornings_ahead X_mornings_behind X_survey_standing X_survey_goodRounds X_survey_soonestEnd X_survey_roundsAsWoken X_survey_round_size X_survey_round_end X_survey_round_order X_survey_round_places X_survey_round_times X_survey_round_waits X_survey_round_wakings X_survey_keptSets X_survey_firstGood X_survey_soonestGood X_survey_earliest X_survey_latest X_survey_behind X_survey_behindAsWoken X_otherSurvey_standing X_otherSurvey_goodRounds X_otherSurvey_soonestEnd X_otherSurvey_roundsAsWoken X_otherSurvey_round_size X_otherSurvey_round_end X_otherSurvey_round_order X_otherSurvey_round_places X_otherSurvey_round_times X_otherSurvey_round_waits X_otherSurvey_round_wakings X_otherSurvey_keptSets X_otherSurvey_firstGood X_otherSurvey_soonestGood X_otherSurvey_earliest X_otherSurvey_latest X_otherSurvey_behind X_otherSurvey_behindAsWoken X_endsWithout M_guests M_wishes M_begins M_acts' M_keeps M_wokes M_texted M_at M_readGuests M_readWishes M_readBegins M_here M_stands M_many M_rounds M_kinds M_wishKind M_wishA M_wishB M_st' M_was' M_kept M_woke M_text M_told M_readKinds M_readFloors M_readWishKind M_readWishA M_readWishB M_come M_keptBy M_endsAt M_order M_time M_place := by
  obtain ⟨N,V,S,kd,wk,wa,wb,fl,h,s,t,am,bm,hO,hX,hM,hNt,hNx,hNm,hMo,hMx,hMm,hT,hU,hKp,hD,hSv⟩ := h
  unfold fX8_leave fX9_leave
  have h64 : h < 64 := h_64 hNt.1 hO.2.1
  have hN6 := hO.2.1
  have z4 := hX.1
  have z7 := hM.1
  subst z4 z7
  rcases q_guest (K := KK) hO.2.1 x1 with ⟨e, e'⟩ | ⟨a, ha, rfl, e, e'⟩
  · rw [e, e', bd1_eq, bd1_eq, if_pos rfl, if_pos rfl]
    exact ⟨_, _, _, _, _, _, _, _, rfl, rfl, N,V,S,kd,wk,wa,wb,fl,h,s,t,am,bm,hO,hX,hM,hNt,hNx,hNm,hMo,hMx,hMm,hT,hU,hKp,hD,hSv⟩
  rw [e, e', bd1_eq, bd1_eq, if_neg q_n10, if_neg q_n10]
  obtain ⟨size', nights', acts', was', e1, e2, hU'⟩ := a_remember (sv := X_surveyed) hO.2.1 hO.2.2.1 hU hNt hNx hNm
  have y3 := hNx.1
  subst y3
  have hlt : h ^^^ 2 ^ a < 2 ^ N := Nat.xor_lt_two_pow hNt.1 (Nat.pow_lt_pow_right (by omega) ha)
  have hlt6 := h_64 hlt hO.2.1
  rw [e1, e2, bd3_eq, bd2_eq, gd_pos (by decide), gd_pos (by decide), show (0 : Int32).toNatClampNeg = 0 from rfl, hNm.1, q_flip (by omega)]
  simp only [nm]
  rw [gd_pos (by decide), q_updS, q_has (by omega) (by omega), bd1_eq, q_bitB (by omega) (by omega)]
  have hNt' : NtOK N V fl (h ^^^ 2 ^ a) s := ⟨hlt, hNt.2⟩
  have hNx' : NtX fl (h ^^^ 2 ^ a) s X_tonight_floors (nI (h ^^^ 2 ^ a)) X_tonight_struck := ⟨rfl, hNx.2⟩
  have hNm' : NtM N fl (h ^^^ 2 ^ a) s (upd M_st 0 (nI (h ^^^ 2 ^ a))) := ⟨q_updS _ _ _, by rw [q_updN (by omega)]; exact hNm.2.1, fun g hg => by rw [q_updN (show 2 + g ≠ 0 by omega)]; exact hNm.2.2 g hg⟩
  cases (h ^^^ 2 ^ a).testBit a with
  | false =>
    rw [bI_f, if_pos rfl]
    exact ⟨_, _, _, _, _, _, _, _, rfl, rfl, N,V,S,kd,wk,wa,wb,fl,_,s,t,am,bm,hO,hX,hM,hNt',hNx',hNm',hMo,hMx,hMm,hT,hU',hKp,hD,Or.inl rfl⟩
  | true =>
    rw [bI_t, if_neg q_n10]
    exact ⟨_, _, _, _, _, _, _, _, rfl, rfl, N,V,S,kd,wk,wa,wb,fl,_,s,t,am,bm,hO,hX,hM,hNt',hNx',hNm',hMo,hMx,hMm,hT,hU',hKp,hD,Or.inl rfl⟩
set_option maxHeartbeats 1000000 in
theorem s_move {X_surveyed X_text_length : Int32} {X_text_letters : (Nat → Int32)} {X_draft_guests X_draft_wishes X_draft_start : Int32} {X_draft_guestKind X_draft_guestFloor X_draft_wishKind X_draft_wishA X_draft_wishB X_draft_wishNames : (Nat → Int32)} {X_reader_next X_slate_guests X_slate_wishes X_slate_start : Int32} {X_slate_guestKind X_slate_guestFloor X_slate_wishKind X_slate_wishA X_slate_wishB X_slate_wishNames : (Nat → Int32)} {X_tonight_here X_tonight_struck : Int32} {X_tonight_floors : (Nat → Int32)} {X_otherNight_here X_otherNight_struck : Int32} {X_otherNight_floors : (Nat → Int32)} {X_undoable_size : Int32} {X_undoable_nights : (Nat → Int64)} {X_kept_size : Int32} {X_kept_nights : (Nat → Int64)} {X_mornings_told : Int32} {X_mornings_ahead X_mornings_behind : (Nat → Int32)} {X_survey_standing X_survey_goodRounds X_survey_soonestEnd X_survey_roundsAsWoken X_survey_round_size X_survey_round_end : Int32} {X_survey_round_order X_survey_round_places X_survey_round_times X_survey_round_waits X_survey_round_wakings X_survey_keptSets X_survey_firstGood X_survey_soonestGood X_survey_earliest X_survey_latest X_survey_behind X_survey_behindAsWoken : (Nat → Int32)} {X_otherSurvey_standing X_otherSurvey_goodRounds X_otherSurvey_soonestEnd X_otherSurvey_roundsAsWoken X_otherSurvey_round_size X_otherSurvey_round_end : Int32} {X_otherSurvey_round_order X_otherSurvey_round_places X_otherSurvey_round_times X_otherSurvey_round_waits X_otherSurvey_round_wakings X_otherSurvey_keptSets X_otherSurvey_firstGood X_otherSurvey_soonestGood X_otherSurvey_earliest X_otherSurvey_latest X_otherSurvey_behind X_otherSurvey_behindAsWoken X_endsWithout : (Nat → Int32)} {M_guests M_wishes M_begins M_acts M_keeps M_wokes M_texted M_at M_readGuests M_readWishes M_readBegins M_here M_stands M_many M_rounds : Int32} {M_kinds M_wishKind M_wishA M_wishB M_st M_was M_kept M_woke M_text M_told M_readKinds M_readFloors M_readWishKind M_readWishA M_readWishB M_come M_keptBy M_endsAt M_order M_time M_place : (Nat → Int32)} (h : Rel X_surveyed X_text_length X_text_letters X_draft_guests X_draft_wishes X_draft_start X_draft_guestKind X_draft_guestFloor X_draft_wishKind X_draft_wishA X_draft_wishB X_draft_wishNames X_reader_next X_slate_guests X_slate_wishes X_slate_start X_slate_guestKind X_slate_guestFloor X_slate_wishKind X_slate_wishA X_slate_wishB X_slate_wishNames X_tonight_here X_tonight_struck X_tonight_floors X_otherNight_here X_otherNight_struck X_otherNight_floors X_undoable_size X_undoable_nights X_kept_size X_kept_nights X_mornings_told X_mornings_ahead X_mornings_behind X_survey_standing X_survey_goodRounds X_survey_soonestEnd X_survey_roundsAsWoken X_survey_round_size X_survey_round_end X_survey_round_order X_survey_round_places X_survey_round_times X_survey_round_waits X_survey_round_wakings X_survey_keptSets X_survey_firstGood X_survey_soonestGood X_survey_earliest X_survey_latest X_survey_behind X_survey_behindAsWoken X_otherSurvey_standing X_otherSurvey_goodRounds X_otherSurvey_soonestEnd X_otherSurvey_roundsAsWoken X_otherSurvey_round_size X_otherSurvey_round_end X_otherSurvey_round_order X_otherSurvey_round_places X_otherSurvey_round_times X_otherSurvey_round_waits X_otherSurvey_round_wakings X_otherSurvey_keptSets X_otherSurvey_firstGood X_otherSurvey_soonestGood X_otherSurvey_earliest X_otherSurvey_latest X_otherSurvey_behind X_otherSurvey_behindAsWoken X_endsWithout M_guests M_wishes M_begins M_acts M_keeps M_wokes M_texted M_at M_readGuests M_readWishes M_readBegins M_here M_stands M_many M_rounds M_kinds M_wishKind M_wishA M_wishB M_st M_was M_kept M_woke M_text M_told M_readKinds M_readFloors M_readWishKind M_readWishA M_readWishB M_come M_keptBy M_endsAt M_order M_time M_place) (x1 : Int32) (x2 : Int32) : ∃ (r : Int32) (X_surveyed' : Int32) (X_tonight_floors' : (Nat → Int32)) (X_undoable_size' : Int32) (X_undoable_nights' : (Nat → Int64)) (M_acts' : Int32) (M_st' : (Nat → Int32)) (M_was' : (Nat → Int32)), fX8_move KK x1 x2 X_surveyed X_slate_guests X_tonight_here X_tonight_struck X_tonight_floors X_undoable_size X_undoable_nights = some (r, X_surveyed', X_tonight_floors', X_undoable_size', X_undoable_nights') ∧ fX9_move KK x1 x2 M_guests M_acts M_st M_was = some (r, M_acts', M_st', M_was') ∧ Rel X_surveyed' X_text_length X_text_letters X_draft_guests X_draft_wishes X_draft_start X_draft_guestKind X_draft_guestFloor X_draft_wishKind X_draft_wishA X_draft_wishB X_draft_wishNames X_reader_next X_slate_guests X_slate_wishes X_slate_start X_slate_guestKind X_slate_guestFloor X_slate_wishKind X_slate_wishA X_slate_wishB X_slate_wishNames X_tonight_here X_tonight_struck X_tonight_floors' X_otherNight_here X_otherNight_struck X_otherNight_floors X_undoable_size' X_undoable_nights' X_kept_size X_kept_nights X_mornings_told X_mornings_ahead X_mornings_behind X_survey_standing X_survey_goodRounds X_survey_soonestEnd X_survey_roundsAsWoken X_survey_round_size X_survey_round_end X_survey_round_order X_survey_round_places X_survey_round_times X_survey_round_waits X_survey_round_wakings X_survey_keptSets X_survey_firstGood X_survey_soonestGood X_survey_earliest X_survey_latest X_survey_behind X_survey_behindAsWoken X_otherSurvey_standing X_otherSurvey_goodRounds X_otherSurvey_soonestEnd X_otherSurvey_roundsAsWoken X_otherSurvey_round_size X_otherSurvey_round_end X_otherSurvey_round_order X_otherSurvey_round_places X_otherSurvey_round_times X_otherSurvey_round_waits X_otherSurvey_round_wakings X_otherSurvey_keptSets X_otherSurvey_firstGood X_otherSurvey_soonestGood X_otherSurvey_earliest X_otherSurvey_latest X_otherSurvey_behind X_otherSurvey_behindAsWoken X_endsWithout M_guests M_wishes M_begins M_acts' M_keeps M_wokes M_texted M_at M_readGuests M_readWishes M_readBegins M_here M_stands M_many M_rounds M_kinds M_wishKind M_wishA M_wishB M_st' M_was' M_kept M_woke M_text M_told M_readKinds M_readFloors M_readWishKind M_readWishA M_readWishB M_come M_keptBy M_endsAt M_order M_time M_place := by
  obtain ⟨N,V,S,kd,wk,wa,wb,fl,h,s,t,am,bm,hO,hX,hM,hNt,hNx,hNm,hMo,hMx,hMm,hT,hU,hKp,hD,hSv⟩ := h
  unfold fX8_move fX9_move
  have hN6 := hO.2.1
  have z4 := hX.1
  have z7 := hM.1
  subst z4 z7
  rcases q_guest (K := KK) hO.2.1 x1 with ⟨e, e'⟩ | ⟨a, ha, rfl, e, e'⟩
  · rw [e, e', bd1_eq, bd1_eq, if_pos rfl, if_pos rfl]
    exact ⟨_, _, _, _, _, _, _, _, rfl, rfl, N,V,S,kd,wk,wa,wb,fl,h,s,t,am,bm,hO,hX,hM,hNt,hNx,hNm,hMo,hMx,hMm,hT,hU,hKp,hD,hSv⟩
  rw [e, e', bd1_eq, bd1_eq, if_neg q_n10, if_neg q_n10]
  rcases q_r9 (K := KK) x2 with ⟨hx, f⟩ | ⟨y, hy, rfl, hy0, hy1, f⟩
  · rw [f, bd1_eq, if_pos rfl]
    rcases hx with hx | ⟨hx, hx2⟩
    · rw [if_pos hx]
      exact ⟨_, _, _, _, _, _, _, _, rfl, rfl, N,V,S,kd,wk,wa,wb,fl,h,s,t,am,bm,hO,hX,hM,hNt,hNx,hNm,hMo,hMx,hMm,hT,hU,hKp,hD,hSv⟩
    · rw [if_neg hx, if_neg hx2]
      exact ⟨_, _, _, _, _, _, _, _, rfl, rfl, N,V,S,kd,wk,wa,wb,fl,h,s,t,am,bm,hO,hX,hM,hNt,hNx,hNm,hMo,hMx,hMm,hT,hU,hKp,hD,hSv⟩
  have hfa := hNt.2.2.1 a ha
  rw [f, bd1_eq, if_neg q_n10, if_neg hy0, if_pos hy1, q_at (by omega) (by omega), bd1_eq, p_2g, p_gd (show 2 + a < 8 by omega) (by omega), nI_clamp (by omega), hNx.2.2 a (by omega), hNm.2.2 a ha]
  simp only [nm]
  by_cases hfy : fl a = y
  · rw [if_pos (congrArg nI hfy), if_pos (congrArg nI hfy)]
    exact ⟨_, _, _, _, _, _, _, _, rfl, rfl, N,V,S,kd,wk,wa,wb,fl,h,s,t,am,bm,hO,hX,hM,hNt,hNx,hNm,hMo,hMx,hMm,hT,hU,hKp,hD,hSv⟩
  have hne : ¬ nI (fl a) = nI y := fun q => hfy ((nI_eq (by omega) (by omega)).mp q)
  obtain ⟨size', nights', acts', was', e1, e2, hU'⟩ := a_remember (sv := X_surveyed) hO.2.1 hO.2.2.1 hU hNt hNx hNm
  rw [if_neg hne, if_neg hne, e1, e2, bd3_eq, bd2_eq, q_put (by omega) (by omega), bd1_eq, q_gdc (show 2 + a < 8 by omega) (by omega)]
  have hNt' : NtOK N V (fun i => if i = a then y else fl i) h s := ⟨hNt.1, hNt.2.1, fun g hg => by
    by_cases hga : g = a
    · simp only [hga, if_true]; omega
    · simp only [if_neg hga]; exact hNt.2.2.1 g hg, fun g hg => by
    by_cases hga : g = a
    · simp only [hga, if_true]; omega
    · simp only [if_neg hga]; exact hNt.2.2.2 g hg⟩
  have hNx' : NtX (fun i => if i = a then y else fl i) h s (upd X_tonight_floors a (nI y)) X_tonight_here X_tonight_struck := ⟨hNx.1, hNx.2.1, fun g hg => by
    by_cases hga : g = a
    · subst hga; rw [q_updS]; simp only [if_true]
    · rw [q_updN hga]; simp only [if_neg hga]; exact hNx.2.2 g hg⟩
  have hNm' : NtM N (fun i => if i = a then y else fl i) h s (upd M_st (2 + a) (nI y)) := ⟨by rw [q_updN (by omega)]; exact hNm.1, by rw [q_updN (by omega)]; exact hNm.2.1, fun g hg => by
    by_cases hga : g = a
    · subst hga; rw [q_updS]; simp only [if_true]
    · rw [q_updN (show 2 + g ≠ 2 + a by omega)]; simp only [if_neg hga]; exact hNm.2.2 g hg⟩
  exact ⟨_, _, _, _, _, _, _, _, rfl, rfl, N,V,S,kd,wk,wa,wb,_,h,s,t,am,bm,hO,hX,hM,hNt',hNx',hNm',hMo,hMx,hMm,hT,hU',hKp,hD,Or.inl rfl⟩
set_option maxHeartbeats 1000000 in
theorem s_strike {X_surveyed X_text_length : Int32} {X_text_letters : (Nat → Int32)} {X_draft_guests X_draft_wishes X_draft_start : Int32} {X_draft_guestKind X_draft_guestFloor X_draft_wishKind X_draft_wishA X_draft_wishB X_draft_wishNames : (Nat → Int32)} {X_reader_next X_slate_guests X_slate_wishes X_slate_start : Int32} {X_slate_guestKind X_slate_guestFloor X_slate_wishKind X_slate_wishA X_slate_wishB X_slate_wishNames : (Nat → Int32)} {X_tonight_here X_tonight_struck : Int32} {X_tonight_floors : (Nat → Int32)} {X_otherNight_here X_otherNight_struck : Int32} {X_otherNight_floors : (Nat → Int32)} {X_undoable_size : Int32} {X_undoable_nights : (Nat → Int64)} {X_kept_size : Int32} {X_kept_nights : (Nat → Int64)} {X_mornings_told : Int32} {X_mornings_ahead X_mornings_behind : (Nat → Int32)} {X_survey_standing X_survey_goodRounds X_survey_soonestEnd X_survey_roundsAsWoken X_survey_round_size X_survey_round_end : Int32} {X_survey_round_order X_survey_round_places X_survey_round_times X_survey_round_waits X_survey_round_wakings X_survey_keptSets X_survey_firstGood X_survey_soonestGood X_survey_earliest X_survey_latest X_survey_behind X_survey_behindAsWoken : (Nat → Int32)} {X_otherSurvey_standing X_otherSurvey_goodRounds X_otherSurvey_soonestEnd X_otherSurvey_roundsAsWoken X_otherSurvey_round_size X_otherSurvey_round_end : Int32} {X_otherSurvey_round_order X_otherSurvey_round_places X_otherSurvey_round_times X_otherSurvey_round_waits X_otherSurvey_round_wakings X_otherSurvey_keptSets X_otherSurvey_firstGood X_otherSurvey_soonestGood X_otherSurvey_earliest X_otherSurvey_latest X_otherSurvey_behind X_otherSurvey_behindAsWoken X_endsWithout : (Nat → Int32)} {M_guests M_wishes M_begins M_acts M_keeps M_wokes M_texted M_at M_readGuests M_readWishes M_readBegins M_here M_stands M_many M_rounds : Int32} {M_kinds M_wishKind M_wishA M_wishB M_st M_was M_kept M_woke M_text M_told M_readKinds M_readFloors M_readWishKind M_readWishA M_readWishB M_come M_keptBy M_endsAt M_order M_time M_place : (Nat → Int32)} (h : Rel X_surveyed X_text_length X_text_letters X_draft_guests X_draft_wishes X_draft_start X_draft_guestKind X_draft_guestFloor X_draft_wishKind X_draft_wishA X_draft_wishB X_draft_wishNames X_reader_next X_slate_guests X_slate_wishes X_slate_start X_slate_guestKind X_slate_guestFloor X_slate_wishKind X_slate_wishA X_slate_wishB X_slate_wishNames X_tonight_here X_tonight_struck X_tonight_floors X_otherNight_here X_otherNight_struck X_otherNight_floors X_undoable_size X_undoable_nights X_kept_size X_kept_nights X_mornings_told X_mornings_ahead X_mornings_behind X_survey_standing X_survey_goodRounds X_survey_soonestEnd X_survey_roundsAsWoken X_survey_round_size X_survey_round_end X_survey_round_order X_survey_round_places X_survey_round_times X_survey_round_waits X_survey_round_wakings X_survey_keptSets X_survey_firstGood X_survey_soonestGood X_survey_earliest X_survey_latest X_survey_behind X_survey_behindAsWoken X_otherSurvey_standing X_otherSurvey_goodRounds X_otherSurvey_soonestEnd X_otherSurvey_roundsAsWoken X_otherSurvey_round_size X_otherSurvey_round_end X_otherSurvey_round_order X_otherSurvey_round_places X_otherSurvey_round_times X_otherSurvey_round_waits X_otherSurvey_round_wakings X_otherSurvey_keptSets X_otherSurvey_firstGood X_otherSurvey_soonestGood X_otherSurvey_earliest X_otherSurvey_latest X_otherSurvey_behind X_otherSurvey_behindAsWoken X_endsWithout M_guests M_wishes M_begins M_acts M_keeps M_wokes M_texted M_at M_readGuests M_readWishes M_readBegins M_here M_stands M_many M_rounds M_kinds M_wishKind M_wishA M_wishB M_st M_was M_kept M_woke M_text M_told M_readKinds M_readFloors M_readWishKind M_readWishA M_readWishB M_come M_keptBy M_endsAt M_order M_time M_place) (x1 : Int32) (x2 : Int32) (hx2 : x2 = 0 ∨ x2 = 1) : ∃ (r : Int32) (X_surveyed' : Int32) (X_tonight_struck' : Int32) (X_undoable_size' : Int32) (X_undoable_nights' : (Nat → Int64)) (M_acts' : Int32) (M_st' : (Nat → Int32)) (M_was' : (Nat → Int32)), fX8_strike KK x1 x2 X_surveyed X_slate_wishes X_tonight_here X_tonight_struck X_tonight_floors X_undoable_size X_undoable_nights = some (r, X_surveyed', X_tonight_struck', X_undoable_size', X_undoable_nights') ∧ fX9_strike KK x1 x2 M_wishes M_acts M_st M_was = some (r, M_acts', M_st', M_was') ∧ Rel X_surveyed' X_text_length X_text_letters X_draft_guests X_draft_wishes X_draft_start X_draft_guestKind X_draft_guestFloor X_draft_wishKind X_draft_wishA X_draft_wishB X_draft_wishNames X_reader_next X_slate_guests X_slate_wishes X_slate_start X_slate_guestKind X_slate_guestFloor X_slate_wishKind X_slate_wishA X_slate_wishB X_slate_wishNames X_tonight_here X_tonight_struck' X_tonight_floors X_otherNight_here X_otherNight_struck X_otherNight_floors X_undoable_size' X_undoable_nights' X_kept_size X_kept_nights X_mornings_told X_mornings_ahead X_mornings_behind X_survey_standing X_survey_goodRounds X_survey_soonestEnd X_survey_roundsAsWoken X_survey_round_size X_survey_round_end X_survey_round_order X_survey_round_places X_survey_round_times X_survey_round_waits X_survey_round_wakings X_survey_keptSets X_survey_firstGood X_survey_soonestGood X_survey_earliest X_survey_latest X_survey_behind X_survey_behindAsWoken X_otherSurvey_standing X_otherSurvey_goodRounds X_otherSurvey_soonestEnd X_otherSurvey_roundsAsWoken X_otherSurvey_round_size X_otherSurvey_round_end X_otherSurvey_round_order X_otherSurvey_round_places X_otherSurvey_round_times X_otherSurvey_round_waits X_otherSurvey_round_wakings X_otherSurvey_keptSets X_otherSurvey_firstGood X_otherSurvey_soonestGood X_otherSurvey_earliest X_otherSurvey_latest X_otherSurvey_behind X_otherSurvey_behindAsWoken X_endsWithout M_guests M_wishes M_begins M_acts' M_keeps M_wokes M_texted M_at M_readGuests M_readWishes M_readBegins M_here M_stands M_many M_rounds M_kinds M_wishKind M_wishA M_wishB M_st' M_was' M_kept M_woke M_text M_told M_readKinds M_readFloors M_readWishKind M_readWishA M_readWishB M_come M_keptBy M_endsAt M_order M_time M_place := by
  obtain ⟨N,V,S,kd,wk,wa,wb,fl,h,s,t,am,bm,hO,hX,hM,hNt,hNx,hNm,hMo,hMx,hMm,hT,hU,hKp,hD,hSv⟩ := h
  unfold fX8_strike fX9_strike
  have hV := hO.2.2.1
  have z4 := hX.2.1
  have z7 := hM.2.1
  subst z4 z7
  rcases q_wish (K := KK) hV x1 with ⟨e, e'⟩ | ⟨w, hw, rfl, e, e'⟩
  · rw [e, e', bd1_eq, bd1_eq, if_pos rfl, if_pos rfl]
    exact ⟨_, _, _, _, _, _, _, _, rfl, rfl, N,V,S,kd,wk,wa,wb,fl,h,s,t,am,bm,hO,hX,hM,hNt,hNx,hNm,hMo,hMx,hMm,hT,hU,hKp,hD,hSv⟩
  rw [e, e', bd1_eq, bd1_eq, if_neg q_n10, if_neg q_n10]
  obtain ⟨size', nights', acts', was', e1, e2, hU'⟩ := a_remember (sv := X_surveyed) hO.2.1 hO.2.2.1 hU hNt hNx hNm
  have y4 := hNx.2.1
  subst y4
  have hlt : s ^^^ 2 ^ w < 2 ^ V := Nat.xor_lt_two_pow hNt.2.1 (Nat.pow_lt_pow_right (by omega) hw)
  have hlt9 : s ^^^ 2 ^ w < 512 := Nat.lt_of_lt_of_le hlt (Nat.pow_le_pow_right (n := 2) (by omega) hV)
  have hs9 := q_lt9 hNt.2.1 hV
  rw [gd_pos (by decide), show (1 : Int32).toNatClampNeg = 1 from rfl, hNm.2.1, q_has hs9 (by omega), q_has9 hs9 (by omega), bd1_eq, bd1_eq]
  by_cases hb : bI (s.testBit w) = x2
  · rw [if_pos hb, if_pos hb]
    exact ⟨_, _, _, _, _, _, _, _, rfl, rfl, N,V,S,kd,wk,wa,wb,fl,h,s,t,am,bm,hO,hX,hM,hNt,hNx,hNm,hMo,hMx,hMm,hT,hU,hKp,hD,hSv⟩
  obtain ⟨b2, w2, w2'⟩ := q_bits hlt9
  rw [if_neg hb, if_neg hb, e1, e2, bd3_eq, bd2_eq, gd_pos (by decide), gd_pos (by decide), q_flip (by omega)]
  simp only [nm]
  rw [gd_pos (by decide), q_updS, w2, w2', bd1_eq, bd1_eq]
  have hNt' : NtOK N V fl h (s ^^^ 2 ^ w) := ⟨hNt.1, hlt, hNt.2.2⟩
  have hNx' : NtX fl h (s ^^^ 2 ^ w) X_tonight_floors X_tonight_here (nI (s ^^^ 2 ^ w)) := ⟨hNx.1, rfl, hNx.2.2⟩
  have hNm' : NtM N fl h (s ^^^ 2 ^ w) (upd M_st 1 (nI (s ^^^ 2 ^ w))) := ⟨by rw [q_updN (by omega)]; exact hNm.1, q_updS _ _ _, fun g hg => by rw [q_updN (show 2 + g ≠ 1 by omega)]; exact hNm.2.2 g hg⟩
  exact ⟨_, _, _, _, _, _, _, _, rfl, rfl, N,V,S,kd,wk,wa,wb,fl,h,_,t,am,bm,hO,hX,hM,hNt',hNx',hNm',hMo,hMx,hMm,hT,hU',hKp,hD,Or.inl rfl⟩
