theorem m_ahead {K m n l a b : Nat} {kp : Nat → Nat} {o : Nat → List Nat} {keptBy come : Nat → Int32} (hK : 1000 ≤ K) (hn : n ≤ 720) (hm : m < 512) (hl : l ≤ 6) (hF : FoP kp o n l keptBy come) (ha : ∀ j, j < n → a ∈ o j) (hb : ∀ j, j < n → b ∈ o j) :
    fX9_ahead_L58 K (nI a) (nI b) (nI m) (nI n) keptBy come K (-4) 0 = some (oO (minI (fun i => decide (kp i = m)) (fun i => if (o i).idxOf a < (o i).idxOf b then 1 else 0) n)) := by
  have key : ∀ d i q, i + d = n → d < q → fX9_ahead_L58 K (nI a) (nI b) (nI m) (nI n) keptBy come q (oO (minI (fun i => decide (kp i = m)) (fun i => if (o i).idxOf a < (o i).idxOf b then 1 else 0) i)) (nI i) = some (oO (minI (fun i => decide (kp i = m)) (fun i => if (o i).idxOf a < (o i).idxOf b then 1 else 0) n)) := by
    intro d
    induction d with
    | zero =>
      intro i q hi hq
      obtain ⟨q, rfl⟩ : ∃ y, q = y + 1 := ⟨q - 1, by omega⟩
      have hi' : i = n := by omega
      subst hi'
      rw [fX9_ahead_L58, if_pos (nI_le (Nat.le_refl _) (by omega))]
    | succ d ih =>
      intro i q hi hq
      obtain ⟨q, rfl⟩ : ∃ y, q = y + 1 := ⟨q - 1, by omega⟩
      have ih' := ih (i + 1) q (by omega) (by omega)
      rw [minI] at ih'
      obtain ⟨f1, f2, f3, f4, f5, f6⟩ := hF i (by omega)
      rw [fX9_ahead_L58, if_neg (nI_ge (show i < n by omega) (by omega)), m_isGood (show i < n by omega) hn (fun j hj => ⟨(hF j hj).1, (hF j hj).2.1⟩) hm, bd1_eq]
      cases hp : decide (kp i = m) with
      | false =>
        simp only [hp, Bool.false_eq_true, if_false] at ih'
        rw [bI_f, if_pos rfl, bd1_eq]
        simp only [nm, nI_1]
        exact ih'
      | true =>
        simp only [hp, if_true] at ih'
        have hla := List.idxOf_lt_length_of_mem (ha i (by omega))
        have hlb := List.idxOf_lt_length_of_mem (hb i (by omega))
        rw [bI_t, if_neg q_n10, m_placeIn hK (by omega) (by omega) f4 (ha i (by omega)) f6 f5, m_placeIn hK (by omega) (by omega) f4 (hb i (by omega)) f6 f5, bd1_eq, bd1_eq]
        have hy : (if nI ((o i).idxOf b) ≤ nI ((o i).idxOf a) then some (0 : Int32) else some 1) = some (nI (if (o i).idxOf a < (o i).idxOf b then 1 else 0)) := by
          by_cases hlt : (o i).idxOf a < (o i).idxOf b
          · rw [if_neg (nI_ge hlt (by omega)), if_pos hlt]; rfl
          · rw [if_pos (nI_le (by omega) (by omega)), if_neg hlt]; rfl
        rw [hy, bd1_eq]
        have hbd := min_le (fun i => decide (kp i = m)) (fun i => if (o i).idxOf a < (o i).idxOf b then 1 else 0) 1 i (fun j hj => by
          by_cases hlt : (o j).idxOf a < (o j).idxOf b
          · simp only [if_pos hlt]; omega
          · simp only [if_neg hlt]; omega)
        have hz : (if (o i).idxOf a < (o i).idxOf b then 1 else 0) ≤ 1 := by
          by_cases hlt : (o i).idxOf a < (o i).idxOf b
          · rw [if_pos hlt]; omega
          · rw [if_neg hlt]; omega
        simp only [nm, nI_1]
        cases hmi : minI (fun i => decide (kp i = m)) (fun i => if (o i).idxOf a < (o i).idxOf b then 1 else 0) i with
        | none =>
          rw [hmi] at ih'
          rw [oO_n, if_pos (by decide), bd1_eq, bd1_eq]
          exact ih'
        | some v =>
          have hv := (hbd v).1 hmi
          rw [hmi] at ih'
          rw [oO_s] at ih' ⊢
          rw [if_neg (nI_pos (show v < 2 ^ 31 by omega))]
          generalize (if (o i).idxOf a < (o i).idxOf b then 1 else 0) = z at ih' hz ⊢
          have e1 : (if nI v ≤ nI z then some (nI v) else some (nI z)) = some (nI (min v z)) := by
            by_cases hlt2 : v ≤ z
            · rw [if_pos (nI_le hlt2 (by omega)), Nat.min_eq_left hlt2]
            · rw [if_neg (Int32.not_le.mpr (nI_lt (by omega) (by omega))), Nat.min_eq_right (by omega)]
          rw [e1, bd1_eq, bd1_eq]
          exact ih'
  have e := key n 0 K (by omega) (by omega)
  exact e
theorem m_washed {K N h t n : Nat} {am bm : Nat → Nat} {o : Nat → List Nat} {st woke come : Nat → Int32} (hK : 1000 ≤ K) (hN : N ≤ 6) (hst : st 0 = nI h) (hh : h < 64) (hO : MoOK N t am bm) (hw : ∀ i, i < t → woke (2 * i) = nI (am i) ∧ woke (2 * i + 1) = nI (bm i))
    (hn : n ≤ 720) (ho : ∀ j, j < n → (o j).length ≤ 6 ∧ (o j).Nodup ∧ (∀ g, g ∈ o j ↔ g ∈ mem h) ∧ ∀ k, k < (o j).length → come (6 * j + k) = nI ((o j).getD k 0)) :
    fX9_washed_L14 K (nI t) (nI n) st come woke K 0 0 = some (nI (cntI (fun i => wkO h t am bm (o i)) n)) := by
  have key : ∀ d i q, i + d = n → d < q → fX9_washed_L14 K (nI t) (nI n) st come woke q (nI (cntI (fun i => wkO h t am bm (o i)) i)) (nI i) = some (nI (cntI (fun i => wkO h t am bm (o i)) n)) := by
    intro d
    induction d with
    | zero =>
      intro i q hi hq
      obtain ⟨q, rfl⟩ : ∃ y, q = y + 1 := ⟨q - 1, by omega⟩
      have hi' : i = n := by omega
      subst hi'
      rw [fX9_washed_L14, if_pos (nI_le (Nat.le_refl _) (by omega))]
    | succ d ih =>
      intro i q hi hq
      obtain ⟨q, rfl⟩ : ∃ y, q = y + 1 := ⟨q - 1, by omega⟩
      have ih' := ih (i + 1) q (by omega) (by omega)
      rw [cntI] at ih'
      obtain ⟨f1, f2, f3, f4⟩ := ho i (by omega)
      rw [fX9_washed_L14, if_neg (nI_ge (show i < n by omega) (by omega)), m_isWoken hK hN hst hh hO hw (by omega) f1 f2 f3 f4, bd1_eq]
      cases hp : wkO h t am bm (o i) with
      | false =>
        simp only [hp, Bool.false_eq_true, if_false] at ih'
        rw [bI_f, if_pos rfl, bd1_eq]
        simp only [nm, nI_1]
        rw [Int32.add_zero]
        exact ih'
      | true =>
        simp only [hp, if_true] at ih'
        rw [bI_t, if_neg q_n10, bd1_eq]
        simp only [nm, nI_1]
        exact ih'
  exact key n 0 K (by omega) (by omega)
set_option maxHeartbeats 1000000 in
theorem s_washed {X_surveyed X_text_length : Int32} {X_text_letters : (Nat → Int32)} {X_draft_guests X_draft_wishes X_draft_start : Int32} {X_draft_guestKind X_draft_guestFloor X_draft_wishKind X_draft_wishA X_draft_wishB X_draft_wishNames : (Nat → Int32)} {X_reader_next X_slate_guests X_slate_wishes X_slate_start : Int32} {X_slate_guestKind X_slate_guestFloor X_slate_wishKind X_slate_wishA X_slate_wishB X_slate_wishNames : (Nat → Int32)} {X_tonight_here X_tonight_struck : Int32} {X_tonight_floors : (Nat → Int32)} {X_otherNight_here X_otherNight_struck : Int32} {X_otherNight_floors : (Nat → Int32)} {X_undoable_size : Int32} {X_undoable_nights : (Nat → Int64)} {X_kept_size : Int32} {X_kept_nights : (Nat → Int64)} {X_mornings_told : Int32} {X_mornings_ahead X_mornings_behind : (Nat → Int32)} {X_survey_standing X_survey_goodRounds X_survey_soonestEnd X_survey_roundsAsWoken X_survey_round_size X_survey_round_end : Int32} {X_survey_round_order X_survey_round_places X_survey_round_times X_survey_round_waits X_survey_round_wakings X_survey_keptSets X_survey_firstGood X_survey_soonestGood X_survey_earliest X_survey_latest X_survey_behind X_survey_behindAsWoken : (Nat → Int32)} {X_otherSurvey_standing X_otherSurvey_goodRounds X_otherSurvey_soonestEnd X_otherSurvey_roundsAsWoken X_otherSurvey_round_size X_otherSurvey_round_end : Int32} {X_otherSurvey_round_order X_otherSurvey_round_places X_otherSurvey_round_times X_otherSurvey_round_waits X_otherSurvey_round_wakings X_otherSurvey_keptSets X_otherSurvey_firstGood X_otherSurvey_soonestGood X_otherSurvey_earliest X_otherSurvey_latest X_otherSurvey_behind X_otherSurvey_behindAsWoken X_endsWithout : (Nat → Int32)} {M_guests M_wishes M_begins M_acts M_keeps M_wokes M_texted M_at M_readGuests M_readWishes M_readBegins M_here M_stands M_many M_rounds : Int32} {M_kinds M_wishKind M_wishA M_wishB M_st M_was M_kept M_woke M_text M_told M_readKinds M_readFloors M_readWishKind M_readWishA M_readWishB M_come M_keptBy M_endsAt M_order M_time M_place : (Nat → Int32)} (h : Rel X_surveyed X_text_length X_text_letters X_draft_guests X_draft_wishes X_draft_start X_draft_guestKind X_draft_guestFloor X_draft_wishKind X_draft_wishA X_draft_wishB X_draft_wishNames X_reader_next X_slate_guests X_slate_wishes X_slate_start X_slate_guestKind X_slate_guestFloor X_slate_wishKind X_slate_wishA X_slate_wishB X_slate_wishNames X_tonight_here X_tonight_struck X_tonight_floors X_otherNight_here X_otherNight_struck X_otherNight_floors X_undoable_size X_undoable_nights X_kept_size X_kept_nights X_mornings_told X_mornings_ahead X_mornings_behind X_survey_standing X_survey_goodRounds X_survey_soonestEnd X_survey_roundsAsWoken X_survey_round_size X_survey_round_end X_survey_round_order X_survey_round_places X_survey_round_times X_survey_round_waits X_survey_round_wakings X_survey_keptSets X_survey_firstGood X_survey_soonestGood X_survey_earliest X_survey_latest X_survey_behind X_survey_behindAsWoken X_otherSurvey_standing X_otherSurvey_goodRounds X_otherSurvey_soonestEnd X_otherSurvey_roundsAsWoken X_otherSurvey_round_size X_otherSurvey_round_end X_otherSurvey_round_order X_otherSurvey_round_places X_otherSurvey_round_times X_otherSurvey_round_waits X_otherSurvey_round_wakings X_otherSurvey_keptSets X_otherSurvey_firstGood X_otherSurvey_soonestGood X_otherSurvey_earliest X_otherSurvey_latest X_otherSurvey_behind X_otherSurvey_behindAsWoken X_endsWithout M_guests M_wishes M_begins M_acts M_keeps M_wokes M_texted M_at M_readGuests M_readWishes M_readBegins M_here M_stands M_many M_rounds M_kinds M_wishKind M_wishA M_wishB M_st M_was M_kept M_woke M_text M_told M_readKinds M_readFloors M_readWishKind M_readWishA M_readWishB M_come M_keptBy M_endsAt M_order M_time M_place) : ∃ (r : Int32) (X_surveyed' : Int32) (X_survey_standing' : Int32) (X_survey_goodRounds' : Int32) (X_survey_soonestEnd' : Int32) (X_survey_roundsAsWoken' : Int32) (X_survey_keptSets' : (Nat → Int32)) (X_survey_behind' : (Nat → Int32)) (X_survey_behindAsWoken' : (Nat → Int32)) (X_survey_round_size' : Int32) (X_survey_round_end' : Int32) (X_survey_round_order' : (Nat → Int32)) (X_survey_round_waits' : (Nat → Int32)) (X_survey_round_wakings' : (Nat → Int32)) (X_survey_round_places' : (Nat → Int32)) (X_survey_round_times' : (Nat → Int32)) (X_survey_firstGood' : (Nat → Int32)) (X_survey_soonestGood' : (Nat → Int32)) (X_survey_earliest' : (Nat → Int32)) (X_survey_latest' : (Nat → Int32)) (M_here' : Int32) (M_stands' : Int32) (M_many' : Int32) (M_rounds' : Int32) (M_order' : (Nat → Int32)) (M_time' : (Nat → Int32)) (M_place' : (Nat → Int32)) (M_endsAt' : (Nat → Int32)) (M_keptBy' : (Nat → Int32)) (M_come' : (Nat → Int32)), fX8_washed KK X_surveyed X_survey_standing X_survey_goodRounds X_survey_soonestEnd X_survey_roundsAsWoken X_survey_keptSets X_survey_behind X_survey_behindAsWoken X_survey_round_size X_survey_round_end X_survey_round_order X_survey_round_waits X_survey_round_wakings X_survey_round_places X_survey_round_times X_survey_firstGood X_survey_soonestGood X_survey_earliest X_survey_latest X_tonight_here X_tonight_struck X_slate_wishes X_slate_start X_slate_wishNames X_slate_wishKind X_slate_wishA X_slate_wishB X_slate_guestKind X_tonight_floors X_mornings_told X_mornings_ahead X_mornings_behind = some (r, X_surveyed', X_survey_standing', X_survey_goodRounds', X_survey_soonestEnd', X_survey_roundsAsWoken', X_survey_keptSets', X_survey_behind', X_survey_behindAsWoken', X_survey_round_size', X_survey_round_end', X_survey_round_order', X_survey_round_waits', X_survey_round_wakings', X_survey_round_places', X_survey_round_times', X_survey_firstGood', X_survey_soonestGood', X_survey_earliest', X_survey_latest') ∧ fX9_washed KK M_guests M_wishes M_begins M_wokes M_here M_stands M_many M_rounds M_st M_wishA M_wishKind M_wishB M_order M_time M_place M_kinds M_endsAt M_keptBy M_come M_woke = some (r, M_here', M_stands', M_many', M_rounds', M_order', M_time', M_place', M_endsAt', M_keptBy', M_come') ∧ Rel X_surveyed' X_text_length X_text_letters X_draft_guests X_draft_wishes X_draft_start X_draft_guestKind X_draft_guestFloor X_draft_wishKind X_draft_wishA X_draft_wishB X_draft_wishNames X_reader_next X_slate_guests X_slate_wishes X_slate_start X_slate_guestKind X_slate_guestFloor X_slate_wishKind X_slate_wishA X_slate_wishB X_slate_wishNames X_tonight_here X_tonight_struck X_tonight_floors X_otherNight_here X_otherNight_struck X_otherNight_floors X_undoable_size X_undoable_nights X_kept_size X_kept_nights X_mornings_told X_mornings_ahead X_mornings_behind X_survey_standing' X_survey_goodRounds' X_survey_soonestEnd' X_survey_roundsAsWoken' X_survey_round_size' X_survey_round_end' X_survey_round_order' X_survey_round_places' X_survey_round_times' X_survey_round_waits' X_survey_round_wakings' X_survey_keptSets' X_survey_firstGood' X_survey_soonestGood' X_survey_earliest' X_survey_latest' X_survey_behind' X_survey_behindAsWoken' X_otherSurvey_standing X_otherSurvey_goodRounds X_otherSurvey_soonestEnd X_otherSurvey_roundsAsWoken X_otherSurvey_round_size X_otherSurvey_round_end X_otherSurvey_round_order X_otherSurvey_round_places X_otherSurvey_round_times X_otherSurvey_round_waits X_otherSurvey_round_wakings X_otherSurvey_keptSets X_otherSurvey_firstGood X_otherSurvey_soonestGood X_otherSurvey_earliest X_otherSurvey_latest X_otherSurvey_behind X_otherSurvey_behindAsWoken X_endsWithout M_guests M_wishes M_begins M_acts M_keeps M_wokes M_texted M_at M_readGuests M_readWishes M_readBegins M_here' M_stands' M_many' M_rounds' M_kinds M_wishKind M_wishA M_wishB M_st M_was M_kept M_woke M_text M_told M_readKinds M_readFloors M_readWishKind M_readWishA M_readWishB M_come' M_keptBy' M_endsAt' M_order' M_time' M_place' := by
  obtain ⟨N,V,S,kd,wk,wa,wb,fl,h,s,t,am,bm,hO,hX,hM,hNt,hNx,hNm,hMo,hMx,hMm,hT,hU,hKp,hD,hSv⟩ := h
  obtain ⟨good', soon', woken', size', endI', KS', B', W', order', waits', wak', places', times', FG', SG', E', L', e1, hS1⟩ := g_survey hO hX hNt hNx hMo hMx X_survey_standing X_survey_goodRounds X_survey_soonestEnd X_survey_roundsAsWoken X_survey_round_size X_survey_round_end X_survey_keptSets X_survey_behind X_survey_behindAsWoken X_survey_round_order X_survey_round_waits X_survey_round_wakings X_survey_round_places X_survey_round_times X_survey_firstGood X_survey_soonestGood X_survey_earliest X_survey_latest hSv
  obtain ⟨o2, t2, p2, en2, k2, c2, e2, hF⟩ := find9 hO hM hNt.1 hNt.2.1 hNm.2.1 (fun g hg => ⟨hNm.2.2 g hg, by have := hNt.2.2.1 g hg; omega⟩) M_here M_stands M_many M_rounds M_order M_time M_place M_endsAt M_keptBy M_come
  have h64 : h < 64 := h_64 hNt.1 hO.2.1
  obtain ⟨r1, r2, -⟩ := rds_len h64
  have hV : V ≤ 9 := hO.2.2.1
  have hN6 : N ≤ 6 := hO.2.1
  have hl := mem_len h
  have hn1 := hNx.1
  subst hn1
  have hS0 := hS1.1
  subst hS0
  have hcl : cntI (fun i => decide (kpO V S kd wk wa wb fl (mkb (stB wk wa wb h s) V) (rho h i) = mkb (stB wk wa wb h s) V)) (rds h).length ≤ 720 := Nat.le_trans (cnt_le _ _) r2
  unfold fX8_washed fX9_washed
  have e3 := m_washed (K := KK) (o := rho h) (come := c2) KK_ge hN6 hNm.1 h64 hMo hMm.2 r2 (fun j hj => ⟨by have := (rho_ok h64 hj).1; omega, (rho_ok h64 hj).2.1, (rho_ok h64 hj).2.2, fun k hk => (hF j hj).2.2 k (by have := (rho_ok h64 hj).1; omega)⟩)
  have hm1 := hMm.1
  subst hm1
  rw [e1, bd19_eq, gd_pos (by decide), show (0 : Int32).toNatClampNeg = 0 from rfl, hNm.1, e2, bd10_eq, e3, bd1_eq]
  have hS2 := hS1.2.1
  subst hS2
  exact ⟨_, _, _, _, _, _, _, _, _, _, _, _, _, _, _, _, _, _, _, _, _, _, _, _, _, _, _, _, _, _, rfl, rfl, N,V,S,kd,wk,wa,wb,fl,h,s,t,am,bm,hO,hX,hM,hNt,hNx,hNm,hMo,hMx,hMm,hT,hU,hKp,hD,Or.inr ⟨rfl, rfl, hS1⟩⟩
set_option maxHeartbeats 1000000 in
theorem s_place {X_surveyed X_text_length : Int32} {X_text_letters : (Nat → Int32)} {X_draft_guests X_draft_wishes X_draft_start : Int32} {X_draft_guestKind X_draft_guestFloor X_draft_wishKind X_draft_wishA X_draft_wishB X_draft_wishNames : (Nat → Int32)} {X_reader_next X_slate_guests X_slate_wishes X_slate_start : Int32} {X_slate_guestKind X_slate_guestFloor X_slate_wishKind X_slate_wishA X_slate_wishB X_slate_wishNames : (Nat → Int32)} {X_tonight_here X_tonight_struck : Int32} {X_tonight_floors : (Nat → Int32)} {X_otherNight_here X_otherNight_struck : Int32} {X_otherNight_floors : (Nat → Int32)} {X_undoable_size : Int32} {X_undoable_nights : (Nat → Int64)} {X_kept_size : Int32} {X_kept_nights : (Nat → Int64)} {X_mornings_told : Int32} {X_mornings_ahead X_mornings_behind : (Nat → Int32)} {X_survey_standing X_survey_goodRounds X_survey_soonestEnd X_survey_roundsAsWoken X_survey_round_size X_survey_round_end : Int32} {X_survey_round_order X_survey_round_places X_survey_round_times X_survey_round_waits X_survey_round_wakings X_survey_keptSets X_survey_firstGood X_survey_soonestGood X_survey_earliest X_survey_latest X_survey_behind X_survey_behindAsWoken : (Nat → Int32)} {X_otherSurvey_standing X_otherSurvey_goodRounds X_otherSurvey_soonestEnd X_otherSurvey_roundsAsWoken X_otherSurvey_round_size X_otherSurvey_round_end : Int32} {X_otherSurvey_round_order X_otherSurvey_round_places X_otherSurvey_round_times X_otherSurvey_round_waits X_otherSurvey_round_wakings X_otherSurvey_keptSets X_otherSurvey_firstGood X_otherSurvey_soonestGood X_otherSurvey_earliest X_otherSurvey_latest X_otherSurvey_behind X_otherSurvey_behindAsWoken X_endsWithout : (Nat → Int32)} {M_guests M_wishes M_begins M_acts M_keeps M_wokes M_texted M_at M_readGuests M_readWishes M_readBegins M_here M_stands M_many M_rounds : Int32} {M_kinds M_wishKind M_wishA M_wishB M_st M_was M_kept M_woke M_text M_told M_readKinds M_readFloors M_readWishKind M_readWishA M_readWishB M_come M_keptBy M_endsAt M_order M_time M_place : (Nat → Int32)} (h : Rel X_surveyed X_text_length X_text_letters X_draft_guests X_draft_wishes X_draft_start X_draft_guestKind X_draft_guestFloor X_draft_wishKind X_draft_wishA X_draft_wishB X_draft_wishNames X_reader_next X_slate_guests X_slate_wishes X_slate_start X_slate_guestKind X_slate_guestFloor X_slate_wishKind X_slate_wishA X_slate_wishB X_slate_wishNames X_tonight_here X_tonight_struck X_tonight_floors X_otherNight_here X_otherNight_struck X_otherNight_floors X_undoable_size X_undoable_nights X_kept_size X_kept_nights X_mornings_told X_mornings_ahead X_mornings_behind X_survey_standing X_survey_goodRounds X_survey_soonestEnd X_survey_roundsAsWoken X_survey_round_size X_survey_round_end X_survey_round_order X_survey_round_places X_survey_round_times X_survey_round_waits X_survey_round_wakings X_survey_keptSets X_survey_firstGood X_survey_soonestGood X_survey_earliest X_survey_latest X_survey_behind X_survey_behindAsWoken X_otherSurvey_standing X_otherSurvey_goodRounds X_otherSurvey_soonestEnd X_otherSurvey_roundsAsWoken X_otherSurvey_round_size X_otherSurvey_round_end X_otherSurvey_round_order X_otherSurvey_round_places X_otherSurvey_round_times X_otherSurvey_round_waits X_otherSurvey_round_wakings X_otherSurvey_keptSets X_otherSurvey_firstGood X_otherSurvey_soonestGood X_otherSurvey_earliest X_otherSurvey_latest X_otherSurvey_behind X_otherSurvey_behindAsWoken X_endsWithout M_guests M_wishes M_begins M_acts M_keeps M_wokes M_texted M_at M_readGuests M_readWishes M_readBegins M_here M_stands M_many M_rounds M_kinds M_wishKind M_wishA M_wishB M_st M_was M_kept M_woke M_text M_told M_readKinds M_readFloors M_readWishKind M_readWishA M_readWishB M_come M_keptBy M_endsAt M_order M_time M_place) (x1 : Int32) (x2 : Int32) : ∃ (r : Int32) (X_surveyed' : Int32) (X_survey_standing' : Int32) (X_survey_goodRounds' : Int32) (X_survey_soonestEnd' : Int32) (X_survey_roundsAsWoken' : Int32) (X_survey_keptSets' : (Nat → Int32)) (X_survey_behind' : (Nat → Int32)) (X_survey_behindAsWoken' : (Nat → Int32)) (X_survey_round_size' : Int32) (X_survey_round_end' : Int32) (X_survey_round_order' : (Nat → Int32)) (X_survey_round_waits' : (Nat → Int32)) (X_survey_round_wakings' : (Nat → Int32)) (X_survey_round_places' : (Nat → Int32)) (X_survey_round_times' : (Nat → Int32)) (X_survey_firstGood' : (Nat → Int32)) (X_survey_soonestGood' : (Nat → Int32)) (X_survey_earliest' : (Nat → Int32)) (X_survey_latest' : (Nat → Int32)) (M_here' : Int32) (M_stands' : Int32) (M_many' : Int32) (M_rounds' : Int32) (M_order' : (Nat → Int32)) (M_time' : (Nat → Int32)) (M_place' : (Nat → Int32)) (M_endsAt' : (Nat → Int32)) (M_keptBy' : (Nat → Int32)) (M_come' : (Nat → Int32)), fX8_place KK x1 x2 X_surveyed X_slate_guests X_slate_wishes X_slate_start X_survey_standing X_survey_goodRounds X_survey_soonestEnd X_survey_roundsAsWoken X_survey_keptSets X_survey_behind X_survey_behindAsWoken X_survey_round_size X_survey_round_end X_survey_round_order X_survey_round_waits X_survey_round_wakings X_survey_round_places X_survey_round_times X_survey_firstGood X_survey_soonestGood X_survey_earliest X_survey_latest X_tonight_here X_tonight_struck X_slate_wishNames X_slate_wishKind X_slate_wishA X_slate_wishB X_slate_guestKind X_tonight_floors X_mornings_told X_mornings_ahead X_mornings_behind = some (r, X_surveyed', X_survey_standing', X_survey_goodRounds', X_survey_soonestEnd', X_survey_roundsAsWoken', X_survey_keptSets', X_survey_behind', X_survey_behindAsWoken', X_survey_round_size', X_survey_round_end', X_survey_round_order', X_survey_round_waits', X_survey_round_wakings', X_survey_round_places', X_survey_round_times', X_survey_firstGood', X_survey_soonestGood', X_survey_earliest', X_survey_latest') ∧ fX9_place KK x1 x2 M_guests M_wishes M_begins M_here M_stands M_many M_rounds M_st M_wishA M_wishKind M_wishB M_order M_time M_place M_kinds M_endsAt M_keptBy M_come = some (r, M_here', M_stands', M_many', M_rounds', M_order', M_time', M_place', M_endsAt', M_keptBy', M_come') ∧ Rel X_surveyed' X_text_length X_text_letters X_draft_guests X_draft_wishes X_draft_start X_draft_guestKind X_draft_guestFloor X_draft_wishKind X_draft_wishA X_draft_wishB X_draft_wishNames X_reader_next X_slate_guests X_slate_wishes X_slate_start X_slate_guestKind X_slate_guestFloor X_slate_wishKind X_slate_wishA X_slate_wishB X_slate_wishNames X_tonight_here X_tonight_struck X_tonight_floors X_otherNight_here X_otherNight_struck X_otherNight_floors X_undoable_size X_undoable_nights X_kept_size X_kept_nights X_mornings_told X_mornings_ahead X_mornings_behind X_survey_standing' X_survey_goodRounds' X_survey_soonestEnd' X_survey_roundsAsWoken' X_survey_round_size' X_survey_round_end' X_survey_round_order' X_survey_round_places' X_survey_round_times' X_survey_round_waits' X_survey_round_wakings' X_survey_keptSets' X_survey_firstGood' X_survey_soonestGood' X_survey_earliest' X_survey_latest' X_survey_behind' X_survey_behindAsWoken' X_otherSurvey_standing X_otherSurvey_goodRounds X_otherSurvey_soonestEnd X_otherSurvey_roundsAsWoken X_otherSurvey_round_size X_otherSurvey_round_end X_otherSurvey_round_order X_otherSurvey_round_places X_otherSurvey_round_times X_otherSurvey_round_waits X_otherSurvey_round_wakings X_otherSurvey_keptSets X_otherSurvey_firstGood X_otherSurvey_soonestGood X_otherSurvey_earliest X_otherSurvey_latest X_otherSurvey_behind X_otherSurvey_behindAsWoken X_endsWithout M_guests M_wishes M_begins M_acts M_keeps M_wokes M_texted M_at M_readGuests M_readWishes M_readBegins M_here' M_stands' M_many' M_rounds' M_kinds M_wishKind M_wishA M_wishB M_st M_was M_kept M_woke M_text M_told M_readKinds M_readFloors M_readWishKind M_readWishA M_readWishB M_come' M_keptBy' M_endsAt' M_order' M_time' M_place' := by
  obtain ⟨N,V,S,kd,wk,wa,wb,fl,h,s,t,am,bm,hO,hX,hM,hNt,hNx,hNm,hMo,hMx,hMm,hT,hU,hKp,hD,hSv⟩ := h
  unfold fX8_place fX9_place
  have hg1 := hX.1
  have hg2 := hM.1
  subst hg1 hg2
  rcases q_guest (K := KK) hO.2.1 x1 with ⟨e, e'⟩ | ⟨g, hg, rfl, e, e'⟩
  · rw [e, e', bd1_eq, bd1_eq, if_pos rfl, if_pos rfl]
    exact ⟨_, _, _, _, _, _, _, _, _, _, _, _, _, _, _, _, _, _, _, _, _, _, _, _, _, _, _, _, _, _, rfl, rfl, N,V,S,kd,wk,wa,wb,fl,h,s,t,am,bm,hO,hX,hM,hNt,hNx,hNm,hMo,hMx,hMm,hT,hU,hKp,hD,hSv⟩
  rw [e, e', bd1_eq, bd1_eq, if_neg q_n10, if_neg q_n10]
  rcases q_r1 (K := KK) x2 with ⟨hx, f⟩ | ⟨y, hy, rfl, hy0, hy1, f⟩
  · rw [f, bd1_eq, if_pos rfl]
    rcases hx with hx | ⟨hx, hx2⟩
    · rw [if_pos hx]
      exact ⟨_, _, _, _, _, _, _, _, _, _, _, _, _, _, _, _, _, _, _, _, _, _, _, _, _, _, _, _, _, _, rfl, rfl, N,V,S,kd,wk,wa,wb,fl,h,s,t,am,bm,hO,hX,hM,hNt,hNx,hNm,hMo,hMx,hMm,hT,hU,hKp,hD,hSv⟩
    · rw [if_neg hx, if_neg hx2]
      exact ⟨_, _, _, _, _, _, _, _, _, _, _, _, _, _, _, _, _, _, _, _, _, _, _, _, _, _, _, _, _, _, rfl, rfl, N,V,S,kd,wk,wa,wb,fl,h,s,t,am,bm,hO,hX,hM,hNt,hNx,hNm,hMo,hMx,hMm,hT,hU,hKp,hD,hSv⟩
  obtain ⟨good', soon', woken', size', endI', KS', B', W', order', waits', wak', places', times', FG', SG', E', L', e1, hS1⟩ := g_survey hO hX hNt hNx hMo hMx X_survey_standing X_survey_goodRounds X_survey_soonestEnd X_survey_roundsAsWoken X_survey_round_size X_survey_round_end X_survey_keptSets X_survey_behind X_survey_behindAsWoken X_survey_round_order X_survey_round_waits X_survey_round_wakings X_survey_round_places X_survey_round_times X_survey_firstGood X_survey_soonestGood X_survey_earliest X_survey_latest hSv
  obtain ⟨o2, t2, p2, en2, k2, c2, e2, hF⟩ := find9 hO hM hNt.1 hNt.2.1 hNm.2.1 (fun g hg => ⟨hNm.2.2 g hg, by have := hNt.2.2.1 g hg; omega⟩) M_here M_stands M_many M_rounds M_order M_time M_place M_endsAt M_keptBy M_come
  have h64 : h < 64 := h_64 hNt.1 hO.2.1
  obtain ⟨r1, r2, -⟩ := rds_len h64
  have hV : V ≤ 9 := hO.2.2.1
  have hN6 : N ≤ 6 := hO.2.1
  have hl := mem_len h
  have hn1 := hNx.1
  subst hn1
  have hS0 := hS1.1
  subst hS0
  have hcl : cntI (fun i => decide (kpO V S kd wk wa wb fl (mkb (stB wk wa wb h s) V) (rho h i) = mkb (stB wk wa wb h s) V)) (rds h).length ≤ 720 := Nat.le_trans (cnt_le _ _) r2
  have hg6 : g < 6 := by omega
  rw [f, bd1_eq, if_neg q_n10, if_neg hy0, if_pos hy1, e1, bd19_eq, q_has (by omega) (by omega), m_isHere hNm.1 h64 hg6, bd1_eq, bd1_eq]
  cases hb : h.testBit g with
  | false =>
    rw [bI_f, if_pos rfl, if_pos rfl]
    exact ⟨_, _, _, _, _, _, _, _, _, _, _, _, _, _, _, _, _, _, _, _, _, _, _, _, _, _, _, _, _, _, rfl, rfl, N,V,S,kd,wk,wa,wb,fl,h,s,t,am,bm,hO,hX,hM,hNt,hNx,hNm,hMo,hMx,hMm,hT,hU,hKp,hD,Or.inr ⟨rfl, rfl, hS1⟩⟩
  | true =>
    rw [bI_t, if_neg q_n10, if_neg q_n10]
    have hmg : g ∈ mem h := mem_6.mpr ⟨hg6, hb⟩
    have e3 := m_place (K := KK) (g := g) KK_ge r2 (q_nm2 hV (stB wk wa wb h s)) hl (q_fo hV h64 hF) (fun j hj => ((rho_ok h64 hj).2.2 g).mpr hmg)
    rw [gd_pos (by decide), show (0 : Int32).toNatClampNeg = 0 from rfl, hNm.1, e2, bd10_eq, e3, bd2_eq, q_at (by omega) (by omega), q_at (by omega) (by omega), bd1_eq, bd1_eq]
    rcases cnt_two (fun i => decide (kpO V S kd wk wa wb fl (mkb (stB wk wa wb h s) V) (rho h i) = mkb (stB wk wa wb h s) V)) (rds h).length with ⟨c1, -, -, c2'⟩ | ⟨c1, -, -, c2'⟩
    · rw [(c2' _).1, (c2' _).2, oO_n]
      rw [if_pos (show nI (cntI _ _) = 0 from congrArg nI c1)]
      by_cases hy00 : nI y = 0
      · rw [if_pos hy00]
        exact ⟨_, _, _, _, _, _, _, _, _, _, _, _, _, _, _, _, _, _, _, _, _, _, _, _, _, _, _, _, _, _, rfl, rfl, N,V,S,kd,wk,wa,wb,fl,h,s,t,am,bm,hO,hX,hM,hNt,hNx,hNm,hMo,hMx,hMm,hT,hU,hKp,hD,Or.inr ⟨rfl, rfl, hS1⟩⟩
      · rw [if_neg hy00]
        exact ⟨_, _, _, _, _, _, _, _, _, _, _, _, _, _, _, _, _, _, _, _, _, _, _, _, _, _, _, _, _, _, rfl, rfl, N,V,S,kd,wk,wa,wb,fl,h,s,t,am,bm,hO,hX,hM,hNt,hNx,hNm,hMo,hMx,hMm,hT,hU,hKp,hD,Or.inr ⟨rfl, rfl, hS1⟩⟩
    · have hne : ¬ nI (cntI (fun i => decide (kpO V S kd wk wa wb fl (mkb (stB wk wa wb h s) V) (rho h i) = mkb (stB wk wa wb h s) V)) (rds h).length) = 0 := fun q => (show ¬ cntI _ _ = 0 by omega) ((nI_eq (b := 0) (by omega) (by omega)).mp q)
      obtain ⟨⟨v, -, hv⟩, ⟨v2, -, hv2⟩⟩ := c2' (fun i => (rho h i).idxOf g + 1) 6 (fun i hi => by
        have h1 := List.idxOf_lt_length_of_mem (((rho_ok h64 hi).2.2 g).mpr hmg)
        have h2 := (rho_ok h64 hi).1
        omega)
      rw [hv, hv2, oO_s, oO_s, if_neg hne, hS1.2.2.2.2.2.1 g hmg v hv, hS1.2.2.2.2.2.2.1 g hmg v2 hv2]
      by_cases hy00 : nI y = 0
      · rw [if_pos hy00, if_pos hy00]
        exact ⟨_, _, _, _, _, _, _, _, _, _, _, _, _, _, _, _, _, _, _, _, _, _, _, _, _, _, _, _, _, _, rfl, rfl, N,V,S,kd,wk,wa,wb,fl,h,s,t,am,bm,hO,hX,hM,hNt,hNx,hNm,hMo,hMx,hMm,hT,hU,hKp,hD,Or.inr ⟨rfl, rfl, hS1⟩⟩
      · rw [if_neg hy00, if_neg hy00]
        exact ⟨_, _, _, _, _, _, _, _, _, _, _, _, _, _, _, _, _, _, _, _, _, _, _, _, _, _, _, _, _, _, rfl, rfl, N,V,S,kd,wk,wa,wb,fl,h,s,t,am,bm,hO,hX,hM,hNt,hNx,hNm,hMo,hMx,hMm,hT,hU,hKp,hD,Or.inr ⟨rfl, rfl, hS1⟩⟩
