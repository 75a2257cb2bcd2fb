/-! laying a slate -/
theorem g_copyN {K m : Nat} {P Q : Nat → Int32} (hK : 1000 ≤ K) (hm : m ≤ 9) : ∃ T, fX8_copy K m m P Q = some T ∧ ∀ k, k < m → T k = P k := by
  have key : ∀ d i n (T : Nat → Int32), i + d = m → d < n → (∀ k, k < i → T k = P k) → ∃ T', fX8_copy_L2 K m m P n (nI i) T = some T' ∧ ∀ k, k < m → T' k = P k := by
    intro d
    induction d with
    | zero =>
      intro i n T hi hn hT
      obtain ⟨n, rfl⟩ : ∃ y, n = y + 1 := ⟨n - 1, by omega⟩
      refine ⟨T, by rw [fX8_copy_L2, if_pos (nI_le (by omega) (by omega))], fun k hk => hT k (by omega)⟩
    | succ d ih =>
      intro i n T hi hn hT
      obtain ⟨n, rfl⟩ : ∃ y, n = y + 1 := ⟨n - 1, by omega⟩
      rw [fX8_copy_L2, if_neg (nI_ge (show i < m by omega) (by omega)), if_neg (nI_ge (show i < m by omega) (by omega)), p_gd (show i < m by omega) (by omega), p_gd (show i < m by omega) (by omega)]
      simp only [nm]
      rw [nI_clamp (show i < 2 ^ 31 by omega), nI_1]
      refine ih (i + 1) n _ (by omega) (by omega) (fun k hk => ?_)
      by_cases hki : k = i
      · subst hki; rw [q_updS]
      · rw [q_updN hki]; exact hT k (by omega)
  unfold fX8_copy
  obtain ⟨T', e, hT⟩ := key m 0 K Q (by omega) (by omega) (fun k hk => absurd hk (by omega))
  change fX8_copy_L2 _ _ _ _ _ 0 _ = _ at e
  exact ⟨T', by rw [e, bd1_eq], hT⟩
theorem m_set26 {K N : Nat} {rK rF kinds st : Nat → Int32} (hK : 1000 ≤ K) (hN : N ≤ 6) : ∃ kinds' st', fX9_settles_L26 K (nI N) rK rF K 0 kinds st = some (kinds', st') ∧ ∀ g, g < N → kinds' g = rK g ∧ st' (2 + g) = rF g := by
  have key : ∀ d i n (T U : Nat → Int32), i + d = N → d < n → (∀ g, g < i → T g = rK g ∧ U (2 + g) = rF g) → ∃ T' U', fX9_settles_L26 K (nI N) rK rF n (nI i) T U = some (T', U') ∧ ∀ g, g < N → T' g = rK g ∧ U' (2 + g) = rF g := by
    intro d
    induction d with
    | zero =>
      intro i n T U hi hn hT
      obtain ⟨n, rfl⟩ : ∃ y, n = y + 1 := ⟨n - 1, by omega⟩
      refine ⟨T, U, by rw [fX9_settles_L26, if_pos (nI_le (by omega) (by omega))], fun k hk => hT k (by omega)⟩
    | succ d ih =>
      intro i n T U hi hn hT
      obtain ⟨n, rfl⟩ : ∃ y, n = y + 1 := ⟨n - 1, by omega⟩
      have a1 : (2 : Int32) + nI i = nI (2 + i) := nI_add 2 i
      rw [fX9_settles_L26, if_neg (nI_ge (show i < N by omega) (by omega)), a1]
      simp only [p_gd6 (show i < 6 by omega), p_gd (show 2 + i < 8 by omega) (show 8 < 2 ^ 31 by omega), nI_clamp (show i < 2 ^ 31 by omega), nI_clamp (show 2 + i < 2 ^ 31 by omega), nm]
      rw [q_gdc (show i < 6 by omega) (by omega), q_gdc (show i < 6 by omega) (by omega), q_gdc (show i < 6 by omega) (by omega), q_gdc (show 2 + i < 8 by omega) (by omega), nI_1]
      refine ih (i + 1) n _ _ (by omega) (by omega) (fun k hk => ?_)
      by_cases hki : k = i
      · subst hki; rw [q_updS, q_updS]; exact ⟨rfl, rfl⟩
      · rw [q_updN hki, q_updN (show 2 + k ≠ 2 + i by omega)]; exact hT k (by omega)
  obtain ⟨T', U', e, hT⟩ := key N 0 K kinds st (by omega) (by omega) (fun k hk => absurd hk (by omega))
  exact ⟨T', U', e, hT⟩
theorem m_set68 {K V : Nat} {rk ra rb wK wA wB : Nat → Int32} (hK : 1000 ≤ K) (hV : V ≤ 9) : ∃ wK' wA' wB', fX9_settles_L68 K (nI V) rk ra rb K 0 wK wA wB = some (wK', wA', wB') ∧ ∀ w, w < V → wK' w = rk w ∧ wA' w = ra w ∧ wB' w = rb w := by
  have key : ∀ d i n (T U W : Nat → Int32), i + d = V → d < n → (∀ w, w < i → T w = rk w ∧ U w = ra w ∧ W w = rb w) → ∃ T' U' W', fX9_settles_L68 K (nI V) rk ra rb n (nI i) T U W = some (T', U', W') ∧ ∀ w, w < V → T' w = rk w ∧ U' w = ra w ∧ W' w = rb w := by
    intro d
    induction d with
    | zero =>
      intro i n T U W hi hn hT
      obtain ⟨n, rfl⟩ : ∃ y, n = y + 1 := ⟨n - 1, by omega⟩
      refine ⟨T, U, W, by rw [fX9_settles_L68, if_pos (nI_le (by omega) (by omega))], fun k hk => hT k (by omega)⟩
    | succ d ih =>
      intro i n T U W hi hn hT
      obtain ⟨n, rfl⟩ : ∃ y, n = y + 1 := ⟨n - 1, by omega⟩
      rw [fX9_settles_L68, if_neg (nI_ge (show i < V by omega) (by omega))]
      simp only [p_gd9 (show i < 9 by omega), nI_clamp (show i < 2 ^ 31 by omega), nm]
      rw [q_gdc (show i < 9 by omega) (by omega), q_gdc (show i < 9 by omega) (by omega), q_gdc (show i < 9 by omega) (by omega), q_gdc (show i < 9 by omega) (by omega), q_gdc (show i < 9 by omega) (by omega), q_gdc (show i < 9 by omega) (by omega), nI_1]
      refine ih (i + 1) n _ _ _ (by omega) (by omega) (fun k hk => ?_)
      by_cases hki : k = i
      · subst hki; rw [q_updS, q_updS, q_updS]; exact ⟨rfl, rfl, rfl⟩
      · rw [q_updN hki, q_updN hki, q_updN hki]; exact hT k (by omega)
  obtain ⟨T', U', W', e, hT⟩ := key V 0 K wK wA wB (by omega) (by omega) (fun k hk => absurd hk (by omega))
  exact ⟨T', U', W', e, hT⟩
set_option maxHeartbeats 1000000 in
theorem s_lay {X_surveyed X_text_length : Int32} {X_text_letters : (Nat → Int32)} {X_draft_guests X_draft_wishes X_draft_start : Int32} {X_draft_guestKind X_draft_guestFloor X_draft_wishKind X_draft_wishA X_draft_wishB X_draft_wishNames : (Nat → Int32)} {X_reader_next X_slate_guests X_slate_wishes X_slate_start : Int32} {X_slate_guestKind X_slate_guestFloor X_slate_wishKind X_slate_wishA X_slate_wishB X_slate_wishNames : (Nat → Int32)} {X_tonight_here X_tonight_struck : Int32} {X_tonight_floors : (Nat → Int32)} {X_otherNight_here X_otherNight_struck : Int32} {X_otherNight_floors : (Nat → Int32)} {X_undoable_size : Int32} {X_undoable_nights : (Nat → Int64)} {X_kept_size : Int32} {X_kept_nights : (Nat → Int64)} {X_mornings_told : Int32} {X_mornings_ahead X_mornings_behind : (Nat → Int32)} {X_survey_standing X_survey_goodRounds X_survey_soonestEnd X_survey_roundsAsWoken X_survey_round_size X_survey_round_end : Int32} {X_survey_round_order X_survey_round_places X_survey_round_times X_survey_round_waits X_survey_round_wakings X_survey_keptSets X_survey_firstGood X_survey_soonestGood X_survey_earliest X_survey_latest X_survey_behind X_survey_behindAsWoken : (Nat → Int32)} {X_otherSurvey_standing X_otherSurvey_goodRounds X_otherSurvey_soonestEnd X_otherSurvey_roundsAsWoken X_otherSurvey_round_size X_otherSurvey_round_end : Int32} {X_otherSurvey_round_order X_otherSurvey_round_places X_otherSurvey_round_times X_otherSurvey_round_waits X_otherSurvey_round_wakings X_otherSurvey_keptSets X_otherSurvey_firstGood X_otherSurvey_soonestGood X_otherSurvey_earliest X_otherSurvey_latest X_otherSurvey_behind X_otherSurvey_behindAsWoken X_endsWithout : (Nat → Int32)} {M_guests M_wishes M_begins M_acts M_keeps M_wokes M_texted M_at M_readGuests M_readWishes M_readBegins M_here M_stands M_many M_rounds : Int32} {M_kinds M_wishKind M_wishA M_wishB M_st M_was M_kept M_woke M_text M_told M_readKinds M_readFloors M_readWishKind M_readWishA M_readWishB M_come M_keptBy M_endsAt M_order M_time M_place : (Nat → Int32)} (h : Rel X_surveyed X_text_length X_text_letters X_draft_guests X_draft_wishes X_draft_start X_draft_guestKind X_draft_guestFloor X_draft_wishKind X_draft_wishA X_draft_wishB X_draft_wishNames X_reader_next X_slate_guests X_slate_wishes X_slate_start X_slate_guestKind X_slate_guestFloor X_slate_wishKind X_slate_wishA X_slate_wishB X_slate_wishNames X_tonight_here X_tonight_struck X_tonight_floors X_otherNight_here X_otherNight_struck X_otherNight_floors X_undoable_size X_undoable_nights X_kept_size X_kept_nights X_mornings_told X_mornings_ahead X_mornings_behind X_survey_standing X_survey_goodRounds X_survey_soonestEnd X_survey_roundsAsWoken X_survey_round_size X_survey_round_end X_survey_round_order X_survey_round_places X_survey_round_times X_survey_round_waits X_survey_round_wakings X_survey_keptSets X_survey_firstGood X_survey_soonestGood X_survey_earliest X_survey_latest X_survey_behind X_survey_behindAsWoken X_otherSurvey_standing X_otherSurvey_goodRounds X_otherSurvey_soonestEnd X_otherSurvey_roundsAsWoken X_otherSurvey_round_size X_otherSurvey_round_end X_otherSurvey_round_order X_otherSurvey_round_places X_otherSurvey_round_times X_otherSurvey_round_waits X_otherSurvey_round_wakings X_otherSurvey_keptSets X_otherSurvey_firstGood X_otherSurvey_soonestGood X_otherSurvey_earliest X_otherSurvey_latest X_otherSurvey_behind X_otherSurvey_behindAsWoken X_endsWithout M_guests M_wishes M_begins M_acts M_keeps M_wokes M_texted M_at M_readGuests M_readWishes M_readBegins M_here M_stands M_many M_rounds M_kinds M_wishKind M_wishA M_wishB M_st M_was M_kept M_woke M_text M_told M_readKinds M_readFloors M_readWishKind M_readWishA M_readWishB M_come M_keptBy M_endsAt M_order M_time M_place) : ∃ (r : Int32) (X_surveyed' : Int32) (X_reader_next' : Int32) (X_draft_guests' : Int32) (X_draft_wishes' : Int32) (X_draft_start' : Int32) (X_draft_wishNames' : (Nat → Int32)) (X_draft_wishKind' : (Nat → Int32)) (X_draft_wishA' : (Nat → Int32)) (X_draft_wishB' : (Nat → Int32)) (X_draft_guestKind' : (Nat → Int32)) (X_draft_guestFloor' : (Nat → Int32)) (X_slate_guests' : Int32) (X_slate_wishes' : Int32) (X_slate_start' : Int32) (X_slate_guestKind' : (Nat → Int32)) (X_slate_guestFloor' : (Nat → Int32)) (X_slate_wishKind' : (Nat → Int32)) (X_slate_wishA' : (Nat → Int32)) (X_slate_wishB' : (Nat → Int32)) (X_slate_wishNames' : (Nat → Int32)) (X_tonight_here' : Int32) (X_tonight_struck' : Int32) (X_tonight_floors' : (Nat → Int32)) (X_undoable_size' : Int32) (X_kept_size' : Int32) (X_mornings_told' : Int32) (M_guests' : Int32) (M_wishes' : Int32) (M_begins' : Int32) (M_acts' : Int32) (M_keeps' : Int32) (M_wokes' : Int32) (M_at' : Int32) (M_readGuests' : Int32) (M_readWishes' : Int32) (M_readBegins' : Int32) (M_told' : (Nat → Int32)) (M_readWishKind' : (Nat → Int32)) (M_readWishA' : (Nat → Int32)) (M_readWishB' : (Nat → Int32)) (M_readKinds' : (Nat → Int32)) (M_readFloors' : (Nat → Int32)) (M_kinds' : (Nat → Int32)) (M_st' : (Nat → Int32)) (M_wishKind' : (Nat → Int32)) (M_wishA' : (Nat → Int32)) (M_wishB' : (Nat → Int32)), fX8_lay KK X_surveyed X_reader_next X_draft_guests X_draft_wishes X_draft_start X_text_length X_text_letters X_draft_wishNames X_draft_wishKind X_draft_wishA X_draft_wishB X_draft_guestKind X_draft_guestFloor X_slate_guests X_slate_wishes X_slate_start X_slate_guestKind X_slate_guestFloor X_slate_wishKind X_slate_wishA X_slate_wishB X_slate_wishNames X_tonight_here X_tonight_struck X_tonight_floors X_undoable_size X_kept_size X_mornings_told = some (r, X_surveyed', X_reader_next', X_draft_guests', X_draft_wishes', X_draft_start', X_draft_wishNames', X_draft_wishKind', X_draft_wishA', X_draft_wishB', X_draft_guestKind', X_draft_guestFloor', X_slate_guests', X_slate_wishes', X_slate_start', X_slate_guestKind', X_slate_guestFloor', X_slate_wishKind', X_slate_wishA', X_slate_wishB', X_slate_wishNames', X_tonight_here', X_tonight_struck', X_tonight_floors', X_undoable_size', X_kept_size', X_mornings_told') ∧ fX9_lay KK M_guests M_wishes M_begins M_acts M_keeps M_wokes M_texted M_at M_readGuests M_readWishes M_readBegins M_text M_told M_readWishKind M_readWishA M_readWishB M_readKinds M_readFloors M_kinds M_st M_wishKind M_wishA M_wishB = some (r, M_guests', M_wishes', M_begins', M_acts', M_keeps', M_wokes', M_at', M_readGuests', M_readWishes', M_readBegins', M_told', M_readWishKind', M_readWishA', M_readWishB', M_readKinds', M_readFloors', M_kinds', M_st', M_wishKind', M_wishA', M_wishB') ∧ Rel X_surveyed' X_text_length X_text_letters X_draft_guests' X_draft_wishes' X_draft_start' X_draft_guestKind' X_draft_guestFloor' X_draft_wishKind' X_draft_wishA' X_draft_wishB' X_draft_wishNames' X_reader_next' X_slate_guests' X_slate_wishes' X_slate_start' X_slate_guestKind' X_slate_guestFloor' X_slate_wishKind' X_slate_wishA' X_slate_wishB' X_slate_wishNames' X_tonight_here' X_tonight_struck' X_tonight_floors' X_otherNight_here X_otherNight_struck X_otherNight_floors X_undoable_size' X_undoable_nights X_kept_size' X_kept_nights X_mornings_told' X_mornings_ahead X_mornings_behind X_survey_standing X_survey_goodRounds X_survey_soonestEnd X_survey_roundsAsWoken X_survey_round_size X_survey_round_end X_survey_round_order X_survey_round_places X_survey_round_times X_survey_round_waits X_survey_round_wakings X_survey_keptSets X_survey_firstGood X_survey_soonestGood X_survey_earliest X_survey_latest X_survey_behind X_survey_behindAsWoken X_otherSurvey_standing X_otherSurvey_goodRounds X_otherSurvey_soonestEnd X_otherSurvey_roundsAsWoken X_otherSurvey_round_size X_otherSurvey_round_end X_otherSurvey_round_order X_otherSurvey_round_places X_otherSurvey_round_times X_otherSurvey_round_waits X_otherSurvey_round_wakings X_otherSurvey_keptSets X_otherSurvey_firstGood X_otherSurvey_soonestGood X_otherSurvey_earliest X_otherSurvey_latest X_otherSurvey_behind X_otherSurvey_behindAsWoken X_endsWithout M_guests' M_wishes' M_begins' M_acts' M_keeps' M_wokes' M_texted M_at' M_readGuests' M_readWishes' M_readBegins' M_here M_stands M_many M_rounds M_kinds' M_wishKind' M_wishA' M_wishB' M_st' M_was M_kept M_woke M_text M_told' M_readKinds' M_readFloors' M_readWishKind' M_readWishA' M_readWishB' M_come M_keptBy M_endsAt M_order M_time M_place := by
  obtain ⟨N,V,S,kd,wk,wa,wb,fl,h,s,t,am,bm,hO,hX,hM,hNt,hNx,hNm,hMo,hMx,hMm,hT,hU,hKp,hD,hSv⟩ := h
  unfold fX8_lay fX8_layText fX9_lay
  obtain ⟨n, c, hn, hl1, hl2, hc⟩ := hT
  have hTx : TxO n c X_text_letters M_text := ⟨hn, hc⟩
  subst hl1 hl2
  have hT : TxR (nI n) X_text_letters (nI n) M_text := ⟨n, c, hn, rfl, rfl, hc⟩
  rcases rd_all hTx X_reader_next M_at X_draft_guests X_draft_wishes X_draft_start X_draft_wishNames X_draft_wishKind X_draft_wishA X_draft_wishB X_draft_guestKind X_draft_guestFloor M_readGuests M_readWishes M_readBegins M_told M_readWishKind M_readWishA M_readWishB M_readKinds M_readFloors hD with ⟨m, hm, ⟨nx1, gu1, wi1, st1, wN1, wK1, wA1, wB1, gK1, gF1, e1, hD⟩, at1, g1, w1, b1, t1, k1, a1, b2, rk1, rf1, e2⟩ | ⟨nx1, gu1, wi1, st1, wN1, wK1, wA1, wB1, gK1, gF1, at1, g1, w1, b1, t1, k1, a1, b2, rk1, rf1, e1, e2, hD, hR1⟩
  · have hm4 : ¬ nI m = (-4 : Int32) := fun q => absurd (show nI m < 0 by rw [q]; decide) (nI_pos (by omega))
    rw [e1, e2, bd11_eq, bd11_eq, if_neg hm4, if_neg hm4, bd27_eq, if_pos rfl]
    exact ⟨_, _, _, _, _, _, _, _, _, _, _, _, _, _, _, _, _, _, _, _, _, _, _, _, _, _, _, _, _, _, _, _, _, _, _, _, _, _, _, _, _, _, _, _, _, _, _, _, rfl, rfl, N,V,S,kd,wk,wa,wb,fl,h,s,t,am,bm,hO,hX,hM,hNt,hNx,hNm,hMo,hMx,hMm,hT,hU,hKp,hD,hSv⟩
  · have hR2 := hR1
    obtain ⟨N1, V1, S1, kd1, wk1, wa1, wb1, hO1, hX1, hM1, hfl⟩ := hR1
    have x1 := hX1.1
    have y1 := hM1.1
    subst x1 y1
    have hN6 := hO1.1
    rw [e1, e2, bd11_eq, bd11_eq, if_pos rfl, if_pos rfl]
    by_cases hN0 : N1 = 0
    · subst hN0
      rw [if_neg (show ¬ (1 : Int32) ≤ nI 0 by decide), if_pos (show nI 0 = 0 from rfl), bd27_eq, if_pos rfl]
      exact ⟨_, _, _, _, _, _, _, _, _, _, _, _, _, _, _, _, _, _, _, _, _, _, _, _, _, _, _, _, _, _, _, _, _, _, _, _, _, _, _, _, _, _, _, _, _, _, _, _, rfl, rfl, N,V,S,kd,wk,wa,wb,fl,h,s,t,am,bm,hO,hX,hM,hNt,hNx,hNm,hMo,hMx,hMm,hT,hU,hKp,hD,hSv⟩
    · have hN1 : 1 ≤ N1 := by omega
      obtain ⟨gK2, f1, f1'⟩ := g_copyN (K := KK) (m := 6) (P := gK1) (Q := X_slate_guestKind) KK_ge (by omega)
      obtain ⟨gF2, f2, f2'⟩ := g_copyN (K := KK) (m := 6) (P := gF1) (Q := X_slate_guestFloor) KK_ge (by omega)
      obtain ⟨wK2, f3, f3'⟩ := g_copyN (K := KK) (m := 9) (P := wK1) (Q := X_slate_wishKind) KK_ge (by omega)
      obtain ⟨wA2, f4, f4'⟩ := g_copyN (K := KK) (m := 9) (P := wA1) (Q := X_slate_wishA) KK_ge (by omega)
      obtain ⟨wB2, f5, f5'⟩ := g_copyN (K := KK) (m := 9) (P := wB1) (Q := X_slate_wishB) KK_ge (by omega)
      obtain ⟨wN2, f6, f6'⟩ := g_copyN (K := KK) (m := 9) (P := wN1) (Q := X_slate_wishNames) KK_ge (by omega)
      obtain ⟨tf2, f7, f7'⟩ := g_copyN (K := KK) (m := 6) (P := gF2) (Q := X_tonight_floors) KK_ge (by omega)
      obtain ⟨kin2, st2, m1, m1'⟩ := m_set26 (K := KK) (N := N1) (rK := rk1) (rF := rf1) (kinds := M_kinds) (st := M_st) KK_ge hN6
      obtain ⟨mK2, mA2, mB2, m2, m2'⟩ := m_set68 (K := KK) (V := V1) (rk := k1) (ra := a1) (rb := b2) (wK := M_wishKind) (wA := M_wishA) (wB := M_wishB) KK_ge hO1.2.1
      have hw1 := hM1.2.1
      subst hw1
      rw [if_pos (show (1 : Int32) ≤ nI N1 from nI_le (a := 1) hN1 (by omega)), if_neg (nI_ne0 (by omega) (by omega))]
      unfold fX5_takeFrom fX1_begin fX2_clear fX0_clear fX9_settles
      rw [f1, bd1_eq, f2, bd1_eq, f3, bd1_eq, f4, bd1_eq, f5, bd1_eq, f6, bd1_eq, bd9_eq, f7, bd1_eq, m1, bd2_eq, m2, bd3_eq]
      simp only [nm]
      have hsh : ((1 : Int32) <<< (nI N1 &&& 31)) - 1 = nI (2 ^ N1 - 1) := by
        rw [q_shl (show N1 < 31 by omega)]
        exact pk_sub (a := 2 ^ N1) (b := 1) (Nat.two_pow_pos N1)
      rw [hsh, bd3_eq, bd1_eq, bd1_eq, bd1_eq, bd27_eq, if_neg q_n10, gd_pos (by decide), gd_pos (by decide), bd11_eq, show (0 : Int32).toNatClampNeg = 0 from rfl, show (1 : Int32).toNatClampNeg = 1 from rfl]
      have hfl2 : ∀ g, g < 6 → gF1 g = nI ((gF1 g).toNatClampNeg) ∧ (gF1 g).toNatClampNeg < 10 := fun g hg => by
        obtain ⟨x, hx, hx2⟩ := hD g hg
        rw [hx2, nI_clamp (show x < 2 ^ 31 by omega)]
        exact ⟨rfl, hx⟩
      clear hO hX hM hNt hNx hNm hMo hMx hMm hU hKp hSv
      obtain ⟨N, V, S, kd, wk, wa, wb, hN'⟩ : ∃ N' V' S' kd' wk' wa' wb', N' = N1 ∧ V' = V1 ∧ S' = S1 ∧ kd' = kd1 ∧ wk' = wk1 ∧ wa' = wa1 ∧ wb' = wb1 := ⟨_, _, _, _, _, _, _, rfl, rfl, rfl, rfl, rfl, rfl, rfl⟩
      obtain ⟨rfl, rfl, rfl, rfl, rfl, rfl, rfl⟩ := hN'
      obtain ⟨fl, hfl'⟩ : ∃ fl' : Nat → Nat, fl' = fun g => (gF1 g).toNatClampNeg := ⟨_, rfl⟩
      obtain ⟨h, hh⟩ : ∃ h', h' = 2 ^ N - 1 := ⟨_, rfl⟩
      obtain ⟨s, hs⟩ : ∃ s' : Nat, s' = 0 := ⟨_, rfl⟩
      obtain ⟨t, ht⟩ : ∃ t' : Nat, t' = 0 := ⟨_, rfl⟩
      obtain ⟨am, ham⟩ : ∃ am' : Nat → Nat, am' = fun _ => 0 := ⟨_, rfl⟩
      obtain ⟨bm, hbm⟩ : ∃ bm' : Nat → Nat, bm' = fun _ => 0 := ⟨_, rfl⟩
      have hfl3 : ∀ g, g < 6 → gF1 g = nI (fl g) ∧ fl g < 10 := by subst hfl'; exact hfl2
      have hO : SlOK N V S kd wk wa wb := ⟨hN1, hO1⟩
      have hV9 := hO1.2.1
      have hX : SlX N V S kd wk wa wb (nI N) wi1 st1 gK2 wK2 wA2 wB2 wN2 := ⟨rfl, hX1.2.1, hX1.2.2.1, fun g hg => by rw [f1' g (by omega)]; exact hX1.2.2.2.1 g hg, fun w hw => by
        rw [f3' w (by omega), f4' w (by omega), f5' w (by omega), f6' w (by omega)]
        exact hX1.2.2.2.2 w hw⟩
      have hM : SlM N V S kd wk wa wb (nI N) (nI V) b1 kin2 mK2 mA2 mB2 := ⟨rfl, rfl, hM1.2.2.1, fun g hg => by rw [(m1' g hg).1]; exact hM1.2.2.2.1 g hg, fun w hw => by
        rw [(m2' w hw).1, (m2' w hw).2.1, (m2' w hw).2.2]
        exact hM1.2.2.2.2 w hw⟩
      have hNt : NtOK N V fl h s := ⟨by have := Nat.two_pow_pos N; omega, by have := Nat.two_pow_pos V; omega, fun g hg => (hfl3 g (by omega)).2, fun g hg => by have := (hfl3 g hg).2; omega⟩
      have hNx : NtX fl h s tf2 (nI (2 ^ N - 1)) 0 := ⟨by rw [hh], by subst hs; exact rfl, fun g hg => by rw [f7' g hg, f2' g hg]; exact (hfl3 g hg).1⟩
      have hNm : NtM N fl h s (upd (upd st2 0 (nI (2 ^ N - 1))) 1 0) := ⟨by rw [q_updN (show (0 : Nat) ≠ 1 by decide), q_updS, hh], by rw [q_updS]; subst hs; exact rfl, fun g hg => by rw [q_updN (show 2 + g ≠ 1 by omega), q_updN (show 2 + g ≠ 0 by omega), (m1' g hg).2, ← hfl g hg]; exact (hfl3 g (by omega)).1⟩
      have hMo : MoOK N t am bm := ⟨by omega, fun i hi => absurd hi (by omega)⟩
      have hMx : MoX t am bm 0 X_mornings_ahead X_mornings_behind := ⟨by subst ht; exact rfl, fun i hi => absurd hi (by omega)⟩
      have hMm : MoM t am bm 0 M_woke := ⟨by subst ht; exact rfl, fun i hi => absurd hi (by omega)⟩
      have hU : PiR N V 8 0 X_undoable_nights 0 M_was := ⟨0, fun _ => 0, fun _ => 0, fun _ _ => 0, by omega, rfl, rfl, fun i hi => absurd hi (by omega)⟩
      have hKp : PiR N V 2 0 X_kept_nights 0 M_kept := ⟨0, fun _ => 0, fun _ => 0, fun _ _ => 0, by omega, rfl, rfl, fun i hi => absurd hi (by omega)⟩
      have hSv := Or.inl (b := (0 : Int32) = 1 ∧ X_survey_standing = nI (mkb (stB wk wa wb h s) V) ∧
      SvP V S kd wk wa wb fl h (mkb (stB wk wa wb h s) V) t am bm (rds h).length X_survey_goodRounds X_survey_soonestEnd X_survey_roundsAsWoken X_survey_keptSets X_survey_firstGood X_survey_soonestGood X_survey_earliest X_survey_latest X_survey_behind X_survey_behindAsWoken) (show (0 : Int32) = 0 from rfl)
      exact ⟨_, _, _, _, _, _, _, _, _, _, _, _, _, _, _, _, _, _, _, _, _, _, _, _, _, _, _, _, _, _, _, _, _, _, _, _, _, _, _, _, _, _, _, _, _, _, _, _, rfl, rfl, N,V,S,kd,wk,wa,wb,fl,h,s,t,am,bm,hO,hX,hM,hNt,hNx,hNm,hMo,hMx,hMm,hT,hU,hKp,hD,hSv⟩
