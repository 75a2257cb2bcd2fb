/-! overslept: how many hang on him, and the fraction -/
def ovB (N V : Nat) (wk wa wb : Nat → Nat) (h s g i : Nat) : Bool := h.testBit i && (hgC N V wk wa wb h s i &&& (2 ^ 32 - 1 - 2 ^ i)).testBit g
theorem hgC_lt {N V S h s g : Nat} {kd wk wa wb : Nat → Nat} (hO : SlOK N V S kd wk wa wb) (hg : g < N) : hgC N V wk wa wb h s g < 64 := by
  have hP := rb_pas (N := N) (V := V) (e := hgE wk (stB wk wa wb h s)) (f := hgF wk wa wb) (t := hgT wk wa wb) (hgT_lt hO)
  have h64 : 2 ^ N ≤ 2 ^ 6 := Nat.pow_le_pow_right (by omega) hO.2.1
  have hM : 2 ^ g < 2 ^ N := Nat.pow_lt_pow_right (by omega) hg
  exact Nat.lt_of_lt_of_le (itr_lt hP hM N) h64
theorem off_self (M : Nat) {g : Nat} (hg : g < 6) : (M &&& (2 ^ 32 - 1 - 2 ^ g)).testBit g = false := by
  rw [Nat.testBit_and]
  have : (2 ^ 32 - 1 - 2 ^ g).testBit g = false := by
    have : g = 0 ∨ g = 1 ∨ g = 2 ∨ g = 3 ∨ g = 4 ∨ g = 5 := by omega
    rcases this with rfl | rfl | rfl | rfl | rfl | rfl <;> decide
  rw [this, Bool.and_false]
theorem g_others {K N V S h s g : Nat} {kd wk wa wb : Nat → Nat} {gu wi st : Int32} {gK wK wA wB wN : Nat → Int32} (hK : 1000 ≤ K) (hO : SlOK N V S kd wk wa wb) (hX : SlX N V S kd wk wa wb gu wi st gK wK wA wB wN) (hh : h < 64) (hs : s < 512) (hg : g < N) :
    fX8_othersHungOnBy K (nI g) (nI N) (nI V) (nI h) (nI s) wK wN wA wB = some (nI (cntI (ovB N V wk wa wb h s g) N)) := by
  have hN6 := hO.2.1
  have key : ∀ d i q, i + d = N → d < q → fX8_othersHungOnBy_L4 K (nI g) (nI N) (nI V) (nI h) (nI s) wK wN wA wB q (nI (cntI (ovB N V wk wa wb h s g) i)) (nI i) = some (nI (cntI (ovB N V wk wa wb h s g) N)) := by
    intro d
    induction d with
    | zero =>
      intro i q hi hq
      obtain ⟨q, rfl⟩ : ∃ y, q = y + 1 := ⟨q - 1, by omega⟩
      have hi' : i = N := by omega
      subst hi'
      rw [fX8_othersHungOnBy_L4, if_pos (nI_le (Nat.le_refl _) (by omega))]
    | succ d ih =>
      intro i q hi hq
      obtain ⟨q, rfl⟩ : ∃ y, q = y + 1 := ⟨q - 1, by omega⟩
      have ih' := ih (i + 1) q (by omega) (by omega)
      rw [cntI, ovB] at ih'
      have hl := hgC_lt (h := h) (s := s) hO (show i < N by omega)
      have hl2 : hgC N V wk wa wb h s i &&& (2 ^ 32 - 1 - 2 ^ i) < 64 := Nat.lt_of_le_of_lt Nat.and_le_left hl
      rw [fX8_othersHungOnBy_L4, if_neg (nI_ge (show i < N by omega) (by omega)), q_has (by omega) (by omega), bd1_eq]
      cases hb : h.testBit i with
      | false =>
        rw [hb, Bool.false_and, if_neg (by decide)] at ih'
        rw [bI_f, if_pos rfl, bd1_eq]
        simp only [nm]
        rw [nI_1]
        exact ih'
      | true =>
        rw [hb, Bool.true_and] at ih'
        rw [bI_t, if_neg q_n10, g_hangingOn hK hO hX hh hs (by omega), bd1_eq, q_has (by omega) (by omega), bd1_eq]
        cases hc : (hgC N V wk wa wb h s i &&& (2 ^ 32 - 1 - 2 ^ i)).testBit g with
        | false =>
          rw [hc, if_neg (by decide)] at ih'
          rw [bI_f, if_pos rfl, bd1_eq]
          simp only [nm]
          rw [nI_1]
          exact ih'
        | true =>
          rw [hc, if_pos rfl] at ih'
          rw [bI_t, if_neg q_n10]
          simp only [nm]
          rw [bd1_eq, nI_1, nI_1]
          exact ih'
  have e := key N 0 K (by omega) (by omega)
  change fX8_othersHungOnBy_L4 _ _ _ _ _ _ _ _ _ _ _ 0 0 = _ at e
  unfold fX8_othersHungOnBy
  rw [e, bd1_eq]
def pwI (a : Int32) : Nat → Int32
  | 0 => a
  | n + 1 => pwI a n * a
theorem m_others {K N V S h s g : Nat} {kd wk wa wb : Nat → Nat} {gu wi sta : Int32} {gK wK wA wB st : Nat → Int32} (hK : 1000 ≤ K) (hO : SlOK N V S kd wk wa wb) (hX : SlM N V S kd wk wa wb gu wi sta gK wK wA wB) (hst0 : st 0 = nI h) (hst1 : st 1 = nI s) (hh : h < 64) (hs : s < 512) (hg : g < N) (x : Int32) :
    fX9_overslept_L53 K (nI g) x (nI N) (nI V) st wA wK wB K (10 - x) 10 0 = some (pwI (10 - x) (cntI (ovB N V wk wa wb h s g) N), pwI 10 (cntI (ovB N V wk wa wb h s g) N)) := by
  have hN6 := hO.2.1
  have key : ∀ d i q, i + d = N → d < q → fX9_overslept_L53 K (nI g) x (nI N) (nI V) st wA wK wB q (pwI (10 - x) (cntI (ovB N V wk wa wb h s g) i)) (pwI 10 (cntI (ovB N V wk wa wb h s g) i)) (nI i) = some (pwI (10 - x) (cntI (ovB N V wk wa wb h s g) N), pwI 10 (cntI (ovB N V wk wa wb h s g) N)) := by
    intro d
    induction d with
    | zero =>
      intro i q hi hq
      obtain ⟨q, rfl⟩ : ∃ y, q = y + 1 := ⟨q - 1, by omega⟩
      have hi' : i = N := by omega
      subst hi'
      rw [fX9_overslept_L53, if_pos (nI_le (Nat.le_refl _) (by omega))]
    | succ d ih =>
      intro i q hi hq
      obtain ⟨q, rfl⟩ : ∃ y, q = y + 1 := ⟨q - 1, by omega⟩
      have ih' := ih (i + 1) q (by omega) (by omega)
      rw [cntI, ovB] at ih'
      have hl := hgC_lt (h := h) (s := s) hO (show i < N by omega)
      have hl2 : hgC N V wk wa wb h s i &&& (2 ^ 32 - 1 - 2 ^ i) < 64 := Nat.lt_of_le_of_lt Nat.and_le_left hl
      rw [fX9_overslept_L53, if_neg (nI_ge (show i < N by omega) (by omega)), m_isHere hst0 hh (by omega)]
      by_cases hig : i = g
      · subst hig
        rw [off_self _ (by omega), Bool.and_false, if_neg (by decide)] at ih'
        rw [if_pos rfl, bd1_eq, if_pos rfl, bd1_eq]
        simp only [nm]
        rw [if_pos trivial, bd1_eq, Int32.mul_one, Int32.mul_one, nI_1]
        exact ih'
      · have hne : ¬ nI i = nI g := fun q => hig ((nI_eq (by omega) (by omega)).mp q)
        rw [if_neg hne, bd1_eq]
        cases hb : h.testBit i with
        | false =>
          rw [hb, Bool.false_and, if_neg (by decide)] at ih'
          rw [bI_f, if_pos rfl, bs0, bd1_eq, if_pos rfl, bd1_eq]
          simp only [nm]
          rw [if_pos trivial, bd1_eq, Int32.mul_one, Int32.mul_one, nI_1]
          exact ih'
        | true =>
          rw [hb, Bool.true_and] at ih'
          rw [bI_t, if_neg q_n10, m_hangsOn hK hO hX hst0 hst1 hh hs (by omega), bd1_eq, q_has9 (by omega) (by omega), bd1_eq]
          cases hc : (hgC N V wk wa wb h s i &&& (2 ^ 32 - 1 - 2 ^ i)).testBit g with
          | false =>
            rw [hc, if_neg (by decide)] at ih'
            rw [bI_f, if_pos rfl, bs0, bd1_eq, if_pos rfl, bd1_eq]
            simp only [nm]
            rw [if_pos trivial, bd1_eq, Int32.mul_one, Int32.mul_one, nI_1]
            exact ih'
          | true =>
            rw [hc, if_pos rfl] at ih'
            rw [bI_t, if_neg q_n10, bs0, bd1_eq, if_neg q_n10, bd1_eq]
            simp only [nm]
            rw [if_neg q_n10, bd1_eq, nI_1]
            exact ih'
  exact key N 0 K (by omega) (by omega)
theorem ov_lt {N V : Nat} {wk wa wb : Nat → Nat} {h s g : Nat} (hN : N ≤ 6) (hg : g < N) : cntI (ovB N V wk wa wb h s g) N < 6 := by
  have hf : ovB N V wk wa wb h s g g = false := by
    unfold ovB
    rw [off_self _ (by omega), Bool.and_false]
  have h1 := cnt_10 (ovB N V wk wa wb h s g) (g + 1) (N - (g + 1))
  rw [show g + 1 + (N - (g + 1)) = N by omega] at h1
  rw [h1, cntI, hf, if_neg (by decide)]
  have h2 := cnt_le (ovB N V wk wa wb h s g) g
  have h3 := cnt_le (fun b => ovB N V wk wa wb h s g (g + 1 + b)) (N - (g + 1))
  omega
theorem ov_chk : ∀ x, x < 11 → ∀ n, n < 6 → ∀ y, y < 2 →
    (bd2 (fX8_overslept_L63 KK KK (10 - nI x) 10 10) fun x4_2 x5_1 => bd1 (if nI y = 0 then some x4_2 else some x5_1) fun y => bd1 (fX8_power KK y (1 + nI n)) fun r_3 => some r_3) =
    (bd1 (fX9_overslept_L145 KK KK (pwI (10 - nI x) n) (pwI 10 n)) fun x6_3 => bd1 (τ0 := Int32) (if nI y = 0 then some (pwI (10 - nI x) n) else some (pwI 10 n)) fun y_3 => gd (¬ (x6_3 : Int32) = 0) (some (y_3 / x6_3))) ∧
    (bd2 (fX8_overslept_L63 KK KK (10 - nI x) 10 10) fun x4_2 x5_1 => bd1 (if nI y = 0 then some x4_2 else some x5_1) fun y => bd1 (fX8_power KK y (1 + nI n)) fun r_3 => some r_3).isSome = true := by decide +kernel
theorem q_r10 {K : Nat} (x : Int32) : ((x < 0 ∨ ¬ x < 0 ∧ 10 < x) ∧ fX9_in K x 0 10 = some 0) ∨ ∃ y, y < 11 ∧ x = nI y ∧ (¬ x < 0) ∧ ¬ 10 < x ∧ fX9_in K x 0 10 = some 1 := by
  unfold fX9_in
  by_cases h1 : x < 0
  · left; exact ⟨Or.inl h1, by rw [if_pos h1]⟩
  · by_cases h2 : 10 < x
    · left; exact ⟨Or.inr ⟨h1, h2⟩, by rw [if_neg h1, if_pos h2]⟩
    · right
      obtain ⟨y, hy, rfl⟩ := nI_of h1
      refine ⟨y, ?_, rfl, h1, h2, by rw [if_neg h1, if_neg h2]⟩
      rcases Nat.lt_or_ge y 11 with q | q
      · exact q
      · exact absurd (show (10 : Int32) < nI y from nI_lt (a := 10) (by omega) hy) h2
set_option maxHeartbeats 1000000 in
theorem s_overslept {X_surveyed X_text_length : Int32} {X_text_letters : (Nat → Int32)} {X_draft_guests X_draft_wishes X_draft_start : Int32} {X_draft_guestKind X_draft_guestFloor X_draft_wishKind X_draft_wishA X_draft_wishB X_draft_wishNames : (Nat → Int32)} {X_reader_next X_slate_guests X_slate_wishes X_slate_start : Int32} {X_slate_guestKind X_slate_guestFloor X_slate_wishKind X_slate_wishA X_slate_wishB X_slate_wishNames : (Nat → Int32)} {X_tonight_here X_tonight_struck : Int32} {X_tonight_floors : (Nat → Int32)} {X_otherNight_here X_otherNight_struck : Int32} {X_otherNight_floors : (Nat → Int32)} {X_undoable_size : Int32} {X_undoable_nights : (Nat → Int64)} {X_kept_size : Int32} {X_kept_nights : (Nat → Int64)} {X_mornings_told : Int32} {X_mornings_ahead X_mornings_behind : (Nat → Int32)} {X_survey_standing X_survey_goodRounds X_survey_soonestEnd X_survey_roundsAsWoken X_survey_round_size X_survey_round_end : Int32} {X_survey_round_order X_survey_round_places X_survey_round_times X_survey_round_waits X_survey_round_wakings X_survey_keptSets X_survey_firstGood X_survey_soonestGood X_survey_earliest X_survey_latest X_survey_behind X_survey_behindAsWoken : (Nat → Int32)} {X_otherSurvey_standing X_otherSurvey_goodRounds X_otherSurvey_soonestEnd X_otherSurvey_roundsAsWoken X_otherSurvey_round_size X_otherSurvey_round_end : Int32} {X_otherSurvey_round_order X_otherSurvey_round_places X_otherSurvey_round_times X_otherSurvey_round_waits X_otherSurvey_round_wakings X_otherSurvey_keptSets X_otherSurvey_firstGood X_otherSurvey_soonestGood X_otherSurvey_earliest X_otherSurvey_latest X_otherSurvey_behind X_otherSurvey_behindAsWoken X_endsWithout : (Nat → Int32)} {M_guests M_wishes M_begins M_acts M_keeps M_wokes M_texted M_at M_readGuests M_readWishes M_readBegins M_here M_stands M_many M_rounds : Int32} {M_kinds M_wishKind M_wishA M_wishB M_st M_was M_kept M_woke M_text M_told M_readKinds M_readFloors M_readWishKind M_readWishA M_readWishB M_come M_keptBy M_endsAt M_order M_time M_place : (Nat → Int32)} (h : Rel X_surveyed X_text_length X_text_letters X_draft_guests X_draft_wishes X_draft_start X_draft_guestKind X_draft_guestFloor X_draft_wishKind X_draft_wishA X_draft_wishB X_draft_wishNames X_reader_next X_slate_guests X_slate_wishes X_slate_start X_slate_guestKind X_slate_guestFloor X_slate_wishKind X_slate_wishA X_slate_wishB X_slate_wishNames X_tonight_here X_tonight_struck X_tonight_floors X_otherNight_here X_otherNight_struck X_otherNight_floors X_undoable_size X_undoable_nights X_kept_size X_kept_nights X_mornings_told X_mornings_ahead X_mornings_behind X_survey_standing X_survey_goodRounds X_survey_soonestEnd X_survey_roundsAsWoken X_survey_round_size X_survey_round_end X_survey_round_order X_survey_round_places X_survey_round_times X_survey_round_waits X_survey_round_wakings X_survey_keptSets X_survey_firstGood X_survey_soonestGood X_survey_earliest X_survey_latest X_survey_behind X_survey_behindAsWoken X_otherSurvey_standing X_otherSurvey_goodRounds X_otherSurvey_soonestEnd X_otherSurvey_roundsAsWoken X_otherSurvey_round_size X_otherSurvey_round_end X_otherSurvey_round_order X_otherSurvey_round_places X_otherSurvey_round_times X_otherSurvey_round_waits X_otherSurvey_round_wakings X_otherSurvey_keptSets X_otherSurvey_firstGood X_otherSurvey_soonestGood X_otherSurvey_earliest X_otherSurvey_latest X_otherSurvey_behind X_otherSurvey_behindAsWoken X_endsWithout M_guests M_wishes M_begins M_acts M_keeps M_wokes M_texted M_at M_readGuests M_readWishes M_readBegins M_here M_stands M_many M_rounds M_kinds M_wishKind M_wishA M_wishB M_st M_was M_kept M_woke M_text M_told M_readKinds M_readFloors M_readWishKind M_readWishA M_readWishB M_come M_keptBy M_endsAt M_order M_time M_place) (x1 : Int32) (x2 : Int32) (x3 : Int32) : ∃ (r : Int32), fX8_overslept KK x1 x2 x3 X_slate_guests X_slate_wishes X_tonight_here X_tonight_struck X_slate_wishKind X_slate_wishNames X_slate_wishA X_slate_wishB = some r ∧ fX9_overslept KK x1 x2 x3 M_guests M_wishes M_st M_wishA M_wishKind M_wishB = some r ∧ Rel X_surveyed X_text_length X_text_letters X_draft_guests X_draft_wishes X_draft_start X_draft_guestKind X_draft_guestFloor X_draft_wishKind X_draft_wishA X_draft_wishB X_draft_wishNames X_reader_next X_slate_guests X_slate_wishes X_slate_start X_slate_guestKind X_slate_guestFloor X_slate_wishKind X_slate_wishA X_slate_wishB X_slate_wishNames X_tonight_here X_tonight_struck X_tonight_floors X_otherNight_here X_otherNight_struck X_otherNight_floors X_undoable_size X_undoable_nights X_kept_size X_kept_nights X_mornings_told X_mornings_ahead X_mornings_behind X_survey_standing X_survey_goodRounds X_survey_soonestEnd X_survey_roundsAsWoken X_survey_round_size X_survey_round_end X_survey_round_order X_survey_round_places X_survey_round_times X_survey_round_waits X_survey_round_wakings X_survey_keptSets X_survey_firstGood X_survey_soonestGood X_survey_earliest X_survey_latest X_survey_behind X_survey_behindAsWoken X_otherSurvey_standing X_otherSurvey_goodRounds X_otherSurvey_soonestEnd X_otherSurvey_roundsAsWoken X_otherSurvey_round_size X_otherSurvey_round_end X_otherSurvey_round_order X_otherSurvey_round_places X_otherSurvey_round_times X_otherSurvey_round_waits X_otherSurvey_round_wakings X_otherSurvey_keptSets X_otherSurvey_firstGood X_otherSurvey_soonestGood X_otherSurvey_earliest X_otherSurvey_latest X_otherSurvey_behind X_otherSurvey_behindAsWoken X_endsWithout M_guests M_wishes M_begins M_acts M_keeps M_wokes M_texted M_at M_readGuests M_readWishes M_readBegins M_here M_stands M_many M_rounds M_kinds M_wishKind M_wishA M_wishB M_st M_was M_kept M_woke M_text M_told M_readKinds M_readFloors M_readWishKind M_readWishA M_readWishB M_come M_keptBy M_endsAt M_order M_time M_place := by
  obtain ⟨N,V,S,kd,wk,wa,wb,fl,h,s,t,am,bm,hO,hX,hM,hNt,hNx,hNm,hMo,hMx,hMm,hT,hU,hKp,hD,hSv⟩ := h
  unfold fX8_overslept fX9_overslept
  have h64 : h < 64 := h_64 hNt.1 hO.2.1
  have hs5 : s < 512 := Nat.lt_of_lt_of_le hNt.2.1 (Nat.pow_le_pow_right (by omega) hO.2.2.1)
  have hg1 := hX.1
  have hg2 := hM.1
  have hg3 := hX.2.1
  have hg4 := hM.2.1
  have hn1 := hNx.1
  have hn2 := hNx.2.1
  subst hg1 hg2 hg3 hg4 hn1 hn2
  rcases q_guest (K := KK) hO.2.1 x1 with ⟨e, e'⟩ | ⟨g, hg, rfl, e, e'⟩
  · rw [e, e', bd1_eq, bd1_eq, if_pos rfl, if_pos rfl]
    exact ⟨_, rfl, rfl, N,V,S,kd,wk,wa,wb,fl,h,s,t,am,bm,hO,hX,hM,hNt,hNx,hNm,hMo,hMx,hMm,hT,hU,hKp,hD,hSv⟩
  have hN6 := hO.2.1
  rw [e, e', bd1_eq, bd1_eq, if_neg q_n10, if_neg q_n10]
  rcases q_r10 (K := KK) x2 with ⟨hx, f⟩ | ⟨x, hx, rfl, hx0, hx1, f⟩
  · rw [f, bd1_eq, if_pos rfl]
    rcases hx with hx | ⟨hx, hx2⟩
    · rw [if_pos hx]
      exact ⟨_, rfl, rfl, N,V,S,kd,wk,wa,wb,fl,h,s,t,am,bm,hO,hX,hM,hNt,hNx,hNm,hMo,hMx,hMm,hT,hU,hKp,hD,hSv⟩
    · rw [if_neg hx, if_pos hx2]
      exact ⟨_, rfl, rfl, N,V,S,kd,wk,wa,wb,fl,h,s,t,am,bm,hO,hX,hM,hNt,hNx,hNm,hMo,hMx,hMm,hT,hU,hKp,hD,hSv⟩
  rw [f, bd1_eq, if_neg q_n10, if_neg hx0, if_neg hx1]
  rcases q_r1 (K := KK) x3 with ⟨hx, f⟩ | ⟨y, hy, rfl, hy0, hy1, f⟩
  · rw [f, bd1_eq, if_pos rfl]
    rcases hx with hx | ⟨hx, hx2⟩
    · rw [if_pos hx]
      exact ⟨_, rfl, rfl, N,V,S,kd,wk,wa,wb,fl,h,s,t,am,bm,hO,hX,hM,hNt,hNx,hNm,hMo,hMx,hMm,hT,hU,hKp,hD,hSv⟩
    · rw [if_neg hx, if_neg hx2]
      exact ⟨_, rfl, rfl, N,V,S,kd,wk,wa,wb,fl,h,s,t,am,bm,hO,hX,hM,hNt,hNx,hNm,hMo,hMx,hMm,hT,hU,hKp,hD,hSv⟩
  rw [f, bd1_eq, if_neg q_n10, if_neg hy0, if_pos hy1, q_has (by omega) (by omega), m_isHere hNm.1 h64 (by omega), bd1_eq, bd1_eq]
  cases hb : h.testBit g with
  | false =>
    rw [bI_f, if_pos rfl, if_pos rfl]
    exact ⟨_, rfl, rfl, N,V,S,kd,wk,wa,wb,fl,h,s,t,am,bm,hO,hX,hM,hNt,hNx,hNm,hMo,hMx,hMm,hT,hU,hKp,hD,hSv⟩
  | true =>
    obtain ⟨c1, c2⟩ := ov_chk x hx (cntI (ovB N V wk wa wb h s g) N) (ov_lt hN6 hg) y (by omega)
    obtain ⟨r, hr⟩ := Option.isSome_iff_exists.mp c2
    rw [bI_t, if_neg q_n10, if_neg q_n10]
    simp only [nm]
    rw [g_others KK_ge hO hX h64 hs5 hg, m_others KK_ge hO hM hNm.1 hNm.2.1 h64 hs5 hg]
    simp only [bd1_eq, bd2_eq]
    rw [← c1, hr]
    exact ⟨_, rfl, rfl, N,V,S,kd,wk,wa,wb,fl,h,s,t,am,bm,hO,hX,hM,hNt,hNx,hNm,hMo,hMx,hMm,hT,hU,hKp,hD,hSv⟩
