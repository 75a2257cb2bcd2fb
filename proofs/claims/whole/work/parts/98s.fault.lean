/-! the whole text -/
theorem rd_loop {n : Nat} {c : Nat → Nat} {le te : Nat → Int32} (h : TxO n c le te) :
    ∀ d i k q q' (gu : Int32) (wi : Int32) (st : Int32) (wN : (Nat → Int32)) (wK : (Nat → Int32)) (wA : (Nat → Int32)) (wB : (Nat → Int32)) (gK : (Nat → Int32)) (gF : (Nat → Int32)) (gu' : Int32) (wi' : Int32) (be' : Int32) (told : (Nat → Int32)) (rwK : (Nat → Int32)) (rwA : (Nat → Int32)) (rwB : (Nat → Int32)) (rK : (Nat → Int32)) (rF : (Nat → Int32)), i ≤ n → n ≤ i + d → k ≤ i → d < q → d < q' → FlD gF → DrR gu wi st gK gF wK wA wB wN gu' wi' be' rK rF rwK rwA rwB →
      (∃ m, m < 200 ∧ (∃ nx gu1 wi1 st1 wN1 wK1 wA1 wB1 gK1 gF1, fX3_readAll_L14 KK (nI n) le q (nI k) (nI i) gu wi st wN wK wA wB gK gF = some (.inl (nI m, nx, gu1, wi1, st1, wN1, wK1, wA1, wB1, gK1, gF1)) ∧ FlD gF1) ∧
        ∃ at1 g1 w1 b1 t1 k1 a1 b2 rk1 rf1, fX9_fault_L9 KK (nI n) te q' (nI i) gu' wi' be' told rwK rwA rwB rK rF = some (.inl (nI m, at1, g1, w1, b1, t1, k1, a1, b2, rk1, rf1))) ∨
      ∃ nx gu1 wi1 st1 wN1 wK1 wA1 wB1 gK1 gF1 at1 g1 w1 b1 t1 k1 a1 b2 rk1 rf1, fX3_readAll_L14 KK (nI n) le q (nI k) (nI i) gu wi st wN wK wA wB gK gF = some (.inr (nx, gu1, wi1, st1, wN1, wK1, wA1, wB1, gK1, gF1)) ∧
        fX9_fault_L9 KK (nI n) te q' (nI i) gu' wi' be' told rwK rwA rwB rK rF = some (.inr (at1, g1, w1, b1, t1, k1, a1, b2, rk1, rf1)) ∧ FlD gF1 ∧ DrR gu1 wi1 st1 gK1 gF1 wK1 wA1 wB1 wN1 g1 w1 b1 rk1 rf1 k1 a1 b2 := by
  have hn := h.1
  intro d
  induction d with
  | zero =>
    intro i k q q' gu wi st wN wK wA wB gK gF gu' wi' be' told rwK rwA rwB rK rF hi hd hk hq hq' hF hR
    obtain ⟨q, rfl⟩ : ∃ y, q = y + 1 := ⟨q - 1, by omega⟩
    obtain ⟨q', rfl⟩ : ∃ y, q' = y + 1 := ⟨q' - 1, by omega⟩
    right
    refine ⟨nI i, gu, wi, st, wN, wK, wA, wB, gK, gF, nI i, gu', wi', be', told, rwK, rwA, rwB, rK, rF, ?_, ?_, hF, hR⟩
    · rw [fX3_readAll_L14]
      by_cases h2 : (200 : Int32) ≤ nI k
      · rw [if_pos h2]
      · rw [if_neg h2, if_pos (nI_le (by omega) (by omega))]
    · rw [fX9_fault_L9, if_pos (nI_le (by omega) (by omega))]
  | succ d ih =>
    intro i k q q' gu wi st wN wK wA wB gK gF gu' wi' be' told rwK rwA rwB rK rF hi hd hk hq hq' hF hR
    obtain ⟨q, rfl⟩ : ∃ y, q = y + 1 := ⟨q - 1, by omega⟩
    obtain ⟨q', rfl⟩ : ∃ y, q' = y + 1 := ⟨q' - 1, by omega⟩
    by_cases hin : i < n
    · rw [fX3_readAll_L14, fX9_fault_L9, if_neg (nI_ge hin (by omega)), if_neg (nI_ge hin (by omega)), if_neg (show ¬ (200 : Int32) ≤ nI k from nI_ge (b := 200) (by omega) (by omega))]
      rcases dr_both gu wi st wN wK wA wB gK gF gu' wi' be' told rwK rwA rwB rK rF h hin hR hF with ⟨nx, gu2, wi2, st2, wN2, wK2, wA2, wB2, gK2, gF2, e1, hF2, at2, g2, w2, b2, t2, k2, a2, bb2, rk2, rf2, e2⟩ | ⟨j, gu2, wi2, st2, wN2, wK2, wA2, wB2, gK2, gF2, g2, w2, b2, t2, k2, a2, bb2, rk2, rf2, j1, j2, e1, e2, hF2, hR2⟩
      · left
        refine ⟨i, by omega, ⟨nx, gu2, wi2, st2, wN2, wK2, wA2, wB2, gK2, gF2, ?_, hF2⟩, at2, g2, w2, b2, t2, k2, a2, bb2, rk2, rf2, ?_⟩
        · rw [e1, bd11_eq, if_pos rfl]
        · rw [e2, bd11_eq, if_pos rfl]
      · rw [e1, e2, bd11_eq, bd11_eq, if_neg q_n10, if_neg q_n10]
        simp only [nm]
        rw [nI_1]
        exact ih j (k + 1) q q' _ _ _ _ _ _ _ _ _ _ _ _ _ _ _ _ _ _ j2 (by omega) (by omega) (by omega) (by omega) hF2 hR2
    · right
      refine ⟨nI i, gu, wi, st, wN, wK, wA, wB, gK, gF, nI i, gu', wi', be', told, rwK, rwA, rwB, rK, rF, ?_, ?_, hF, hR⟩
      · rw [fX3_readAll_L14]
        by_cases h2 : (200 : Int32) ≤ nI k
        · rw [if_pos h2]
        · rw [if_neg h2, if_pos (nI_le (by omega) (by omega))]
      · rw [fX9_fault_L9, if_pos (nI_le (by omega) (by omega))]
theorem rd_all {n : Nat} {c : Nat → Nat} {le te : Nat → Int32} (h : TxO n c le te) (nx at' : Int32) (gu : Int32) (wi : Int32) (st : Int32) (wN : (Nat → Int32)) (wK : (Nat → Int32)) (wA : (Nat → Int32)) (wB : (Nat → Int32)) (gK : (Nat → Int32)) (gF : (Nat → Int32)) (gu' : Int32) (wi' : Int32) (be' : Int32) (told : (Nat → Int32)) (rwK : (Nat → Int32)) (rwA : (Nat → Int32)) (rwB : (Nat → Int32)) (rK : (Nat → Int32)) (rF : (Nat → Int32)) (hF : FlD gF) :
      (∃ m, m < 200 ∧ (∃ nx1 gu1 wi1 st1 wN1 wK1 wA1 wB1 gK1 gF1, fX3_readAll KK nx gu wi st (nI n) le wN wK wA wB gK gF = some (nI m, nx1, gu1, wi1, st1, wN1, wK1, wA1, wB1, gK1, gF1) ∧ FlD gF1) ∧
        ∃ at1 g1 w1 b1 t1 k1 a1 b2 rk1 rf1, fX9_fault KK (nI n) at' gu' wi' be' te told rwK rwA rwB rK rF = some (nI m, at1, g1, w1, b1, t1, k1, a1, b2, rk1, rf1)) ∨
      ∃ nx1 gu1 wi1 st1 wN1 wK1 wA1 wB1 gK1 gF1 at1 g1 w1 b1 t1 k1 a1 b2 rk1 rf1, fX3_readAll KK nx gu wi st (nI n) le wN wK wA wB gK gF = some (-4, nx1, gu1, wi1, st1, wN1, wK1, wA1, wB1, gK1, gF1) ∧
        fX9_fault KK (nI n) at' gu' wi' be' te told rwK rwA rwB rK rF = some (-4, at1, g1, w1, b1, t1, k1, a1, b2, rk1, rf1) ∧ FlD gF1 ∧ DrR gu1 wi1 st1 gK1 gF1 wK1 wA1 wB1 wN1 g1 w1 b1 rk1 rf1 k1 a1 b2 := by
  have hn := h.1
  have h0 : DrR 0 0 0 gK gF wK wA wB wN 0 0 0 rK rF rwK rwA rwB := ⟨0, 0, 0, fun _ => 0, fun _ => 0, fun _ => 0, fun _ => 0, ⟨by omega, by omega, by omega, fun g hg => absurd hg (by omega), fun g hg => absurd hg (by omega)⟩, ⟨rfl, rfl, rfl, fun g hg => absurd hg (by omega), fun g hg => absurd hg (by omega)⟩, ⟨rfl, rfl, rfl, fun g hg => absurd hg (by omega), fun g hg => absurd hg (by omega)⟩, fun g hg => absurd hg (by omega)⟩
  have hK := KK_ge
  unfold fX3_readAll fX5_clear fX9_fault fX9_clearTold
  rw [bd3_eq, bd3_eq]
  rcases rd_loop h n 0 0 KK KK 0 0 0 wN wK wA wB gK gF 0 0 0 told rwK rwA rwB rK rF (by omega) (by omega) (by omega) (by omega) (by omega) hF h0 with ⟨m, hm, ⟨nx1, gu1, wi1, st1, wN1, wK1, wA1, wB1, gK1, gF1, e1, hF1⟩, at1, g1, w1, b1, t1, k1, a1, b2, rk1, rf1, e2⟩ | ⟨nx1, gu1, wi1, st1, wN1, wK1, wA1, wB1, gK1, gF1, at1, g1, w1, b1, t1, k1, a1, b2, rk1, rf1, e1, e2, hF1, hR1⟩
  · left
    change fX3_readAll_L14 KK (nI n) le KK 0 0 0 0 0 wN wK wA wB gK gF = _ at e1
    change fX9_fault_L9 KK (nI n) te KK 0 0 0 0 told rwK rwA rwB rK rF = _ at e2
    refine ⟨m, hm, ⟨nx1, gu1, wi1, st1, wN1, wK1, wA1, wB1, gK1, gF1, ?_, hF1⟩, at1, g1, w1, b1, t1, k1, a1, b2, rk1, rf1, ?_⟩
    · rw [e1] <;> rfl
    · rw [e2] <;> rfl
  · right
    change fX3_readAll_L14 KK (nI n) le KK 0 0 0 0 0 wN wK wA wB gK gF = _ at e1
    change fX9_fault_L9 KK (nI n) te KK 0 0 0 0 told rwK rwA rwB rK rF = _ at e2
    refine ⟨nx1, gu1, wi1, st1, wN1, wK1, wA1, wB1, gK1, gF1, at1, g1, w1, b1, t1, k1, a1, b2, rk1, rf1, ?_, ?_, hF1, hR1⟩
    · rw [e1] <;> rfl
    · rw [e2] <;> rfl
set_option maxHeartbeats 1000000 in
theorem s_fault {X_surveyed X_text_length : Int32} {X_text_letters : (Nat → Int32)} {X_draft_guests X_draft_wishes X_draft_start : Int32} {X_draft_guestKind X_draft_guestFloor X_draft_wishKind X_draft_wishA X_draft_wishB X_draft_wishNames : (Nat → Int32)} {X_reader_next X_slate_guests X_slate_wishes X_slate_start : Int32} {X_slate_guestKind X_slate_guestFloor X_slate_wishKind X_slate_wishA X_slate_wishB X_slate_wishNames : (Nat → Int32)} {X_tonight_here X_tonight_struck : Int32} {X_tonight_floors : (Nat → Int32)} {X_otherNight_here X_otherNight_struck : Int32} {X_otherNight_floors : (Nat → Int32)} {X_undoable_size : Int32} {X_undoable_nights : (Nat → Int64)} {X_kept_size : Int32} {X_kept_nights : (Nat → Int64)} {X_mornings_told : Int32} {X_mornings_ahead X_mornings_behind : (Nat → Int32)} {X_survey_standing X_survey_goodRounds X_survey_soonestEnd X_survey_roundsAsWoken X_survey_round_size X_survey_round_end : Int32} {X_survey_round_order X_survey_round_places X_survey_round_times X_survey_round_waits X_survey_round_wakings X_survey_keptSets X_survey_firstGood X_survey_soonestGood X_survey_earliest X_survey_latest X_survey_behind X_survey_behindAsWoken : (Nat → Int32)} {X_otherSurvey_standing X_otherSurvey_goodRounds X_otherSurvey_soonestEnd X_otherSurvey_roundsAsWoken X_otherSurvey_round_size X_otherSurvey_round_end : Int32} {X_otherSurvey_round_order X_otherSurvey_round_places X_otherSurvey_round_times X_otherSurvey_round_waits X_otherSurvey_round_wakings X_otherSurvey_keptSets X_otherSurvey_firstGood X_otherSurvey_soonestGood X_otherSurvey_earliest X_otherSurvey_latest X_otherSurvey_behind X_otherSurvey_behindAsWoken X_endsWithout : (Nat → Int32)} {M_guests M_wishes M_begins M_acts M_keeps M_wokes M_texted M_at M_readGuests M_readWishes M_readBegins M_here M_stands M_many M_rounds : Int32} {M_kinds M_wishKind M_wishA M_wishB M_st M_was M_kept M_woke M_text M_told M_readKinds M_readFloors M_readWishKind M_readWishA M_readWishB M_come M_keptBy M_endsAt M_order M_time M_place : (Nat → Int32)} (h : Rel X_surveyed X_text_length X_text_letters X_draft_guests X_draft_wishes X_draft_start X_draft_guestKind X_draft_guestFloor X_draft_wishKind X_draft_wishA X_draft_wishB X_draft_wishNames X_reader_next X_slate_guests X_slate_wishes X_slate_start X_slate_guestKind X_slate_guestFloor X_slate_wishKind X_slate_wishA X_slate_wishB X_slate_wishNames X_tonight_here X_tonight_struck X_tonight_floors X_otherNight_here X_otherNight_struck X_otherNight_floors X_undoable_size X_undoable_nights X_kept_size X_kept_nights X_mornings_told X_mornings_ahead X_mornings_behind X_survey_standing X_survey_goodRounds X_survey_soonestEnd X_survey_roundsAsWoken X_survey_round_size X_survey_round_end X_survey_round_order X_survey_round_places X_survey_round_times X_survey_round_waits X_survey_round_wakings X_survey_keptSets X_survey_firstGood X_survey_soonestGood X_survey_earliest X_survey_latest X_survey_behind X_survey_behindAsWoken X_otherSurvey_standing X_otherSurvey_goodRounds X_otherSurvey_soonestEnd X_otherSurvey_roundsAsWoken X_otherSurvey_round_size X_otherSurvey_round_end X_otherSurvey_round_order X_otherSurvey_round_places X_otherSurvey_round_times X_otherSurvey_round_waits X_otherSurvey_round_wakings X_otherSurvey_keptSets X_otherSurvey_firstGood X_otherSurvey_soonestGood X_otherSurvey_earliest X_otherSurvey_latest X_otherSurvey_behind X_otherSurvey_behindAsWoken X_endsWithout M_guests M_wishes M_begins M_acts M_keeps M_wokes M_texted M_at M_readGuests M_readWishes M_readBegins M_here M_stands M_many M_rounds M_kinds M_wishKind M_wishA M_wishB M_st M_was M_kept M_woke M_text M_told M_readKinds M_readFloors M_readWishKind M_readWishA M_readWishB M_come M_keptBy M_endsAt M_order M_time M_place) : ∃ (r : Int32) (X_reader_next' : Int32) (X_draft_guests' : Int32) (X_draft_wishes' : Int32) (X_draft_start' : Int32) (X_draft_wishNames' : (Nat → Int32)) (X_draft_wishKind' : (Nat → Int32)) (X_draft_wishA' : (Nat → Int32)) (X_draft_wishB' : (Nat → Int32)) (X_draft_guestKind' : (Nat → Int32)) (X_draft_guestFloor' : (Nat → Int32)) (M_at' : Int32) (M_readGuests' : Int32) (M_readWishes' : Int32) (M_readBegins' : Int32) (M_told' : (Nat → Int32)) (M_readWishKind' : (Nat → Int32)) (M_readWishA' : (Nat → Int32)) (M_readWishB' : (Nat → Int32)) (M_readKinds' : (Nat → Int32)) (M_readFloors' : (Nat → Int32)), fX8_fault KK X_reader_next X_draft_guests X_draft_wishes X_draft_start X_text_length X_text_letters X_draft_wishNames X_draft_wishKind X_draft_wishA X_draft_wishB X_draft_guestKind X_draft_guestFloor = some (r, X_reader_next', X_draft_guests', X_draft_wishes', X_draft_start', X_draft_wishNames', X_draft_wishKind', X_draft_wishA', X_draft_wishB', X_draft_guestKind', X_draft_guestFloor') ∧ fX9_fault KK M_texted M_at M_readGuests M_readWishes M_readBegins M_text M_told M_readWishKind M_readWishA M_readWishB M_readKinds M_readFloors = some (r, M_at', M_readGuests', M_readWishes', M_readBegins', M_told', M_readWishKind', M_readWishA', M_readWishB', M_readKinds', M_readFloors') ∧ Rel X_surveyed X_text_length X_text_letters X_draft_guests' X_draft_wishes' X_draft_start' X_draft_guestKind' X_draft_guestFloor' X_draft_wishKind' X_draft_wishA' X_draft_wishB' X_draft_wishNames' X_reader_next' X_slate_guests X_slate_wishes X_slate_start X_slate_guestKind X_slate_guestFloor X_slate_wishKind X_slate_wishA X_slate_wishB X_slate_wishNames X_tonight_here X_tonight_struck X_tonight_floors X_otherNight_here X_otherNight_struck X_otherNight_floors X_undoable_size X_undoable_nights X_kept_size X_kept_nights X_mornings_told X_mornings_ahead X_mornings_behind X_survey_standing X_survey_goodRounds X_survey_soonestEnd X_survey_roundsAsWoken X_survey_round_size X_survey_round_end X_survey_round_order X_survey_round_places X_survey_round_times X_survey_round_waits X_survey_round_wakings X_survey_keptSets X_survey_firstGood X_survey_soonestGood X_survey_earliest X_survey_latest X_survey_behind X_survey_behindAsWoken X_otherSurvey_standing X_otherSurvey_goodRounds X_otherSurvey_soonestEnd X_otherSurvey_roundsAsWoken X_otherSurvey_round_size X_otherSurvey_round_end X_otherSurvey_round_order X_otherSurvey_round_places X_otherSurvey_round_times X_otherSurvey_round_waits X_otherSurvey_round_wakings X_otherSurvey_keptSets X_otherSurvey_firstGood X_otherSurvey_soonestGood X_otherSurvey_earliest X_otherSurvey_latest X_otherSurvey_behind X_otherSurvey_behindAsWoken X_endsWithout M_guests M_wishes M_begins M_acts M_keeps M_wokes M_texted M_at' M_readGuests' M_readWishes' M_readBegins' M_here M_stands M_many M_rounds M_kinds M_wishKind M_wishA M_wishB M_st M_was M_kept M_woke M_text M_told' M_readKinds' M_readFloors' M_readWishKind' M_readWishA' M_readWishB' M_come M_keptBy M_endsAt M_order M_time M_place := by
  obtain ⟨N,V,S,kd,wk,wa,wb,fl,h,s,t,am,bm,hO,hX,hM,hNt,hNx,hNm,hMo,hMx,hMm,hT,hU,hKp,hD,hSv⟩ := h
  unfold fX8_fault
  obtain ⟨n, c, hn, hl1, hl2, hc⟩ := hT
  have hTx : TxO n c X_text_letters M_text := ⟨hn, hc⟩
  subst hl1 hl2
  have hT : TxR (nI n) X_text_letters (nI n) M_text := ⟨n, c, hn, rfl, rfl, hc⟩
  rcases rd_all hTx X_reader_next M_at X_draft_guests X_draft_wishes X_draft_start X_draft_wishNames X_draft_wishKind X_draft_wishA X_draft_wishB X_draft_guestKind X_draft_guestFloor M_readGuests M_readWishes M_readBegins M_told M_readWishKind M_readWishA M_readWishB M_readKinds M_readFloors hD with ⟨m, hm, ⟨nx1, gu1, wi1, st1, wN1, wK1, wA1, wB1, gK1, gF1, e1, hD⟩, at1, g1, w1, b1, t1, k1, a1, b2, rk1, rf1, e2⟩ | ⟨nx1, gu1, wi1, st1, wN1, wK1, wA1, wB1, gK1, gF1, at1, g1, w1, b1, t1, k1, a1, b2, rk1, rf1, e1, e2, hD, hR1⟩
  · rw [e1, e2, bd11_eq]
    exact ⟨_, _, _, _, _, _, _, _, _, _, _, _, _, _, _, _, _, _, _, _, _, rfl, rfl, N,V,S,kd,wk,wa,wb,fl,h,s,t,am,bm,hO,hX,hM,hNt,hNx,hNm,hMo,hMx,hMm,hT,hU,hKp,hD,hSv⟩
  · rw [e1, e2, bd11_eq]
    exact ⟨_, _, _, _, _, _, _, _, _, _, _, _, _, _, _, _, _, _, _, _, _, rfl, rfl, N,V,S,kd,wk,wa,wb,fl,h,s,t,am,bm,hO,hX,hM,hNt,hNx,hNm,hMo,hMx,hMm,hT,hU,hKp,hD,hSv⟩
