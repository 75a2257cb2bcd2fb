theorem cnt_ext {p q : Nat → Bool} : ∀ n, (∀ i, i < n → p i = q i) → cntI p n = cntI q n
  | 0 => fun _ => rfl
  | n + 1 => fun h => by rw [cntI, cntI, cnt_ext n (fun i hi => h i (by omega)), h n (by omega)]
theorem cnt_f {p : Nat → Bool} : ∀ n, (∀ i, i < n → p i = false) → cntI p n = 0
  | 0 => fun _ => rfl
  | n + 1 => fun h => by rw [cntI, cnt_f n (fun i hi => h i (by omega)), h n (by omega)] <;> rfl
theorem sl_row {W : Nat → Nat} {a : Nat} (ha : a < 6) (hW : W a < 64) : cntI (fun b => sl2 W (10 * a + b)) 10 = bc (W a) := by
  unfold bc
  rw [cntI, cnt_ext (q := fun i => (W a).testBit i) 9 (fun b hb => by
    unfold sl2
    rw [show (10 * a + b) / 10 = a by omega, show (10 * a + b) % 10 = b by omega, decide_eq_true ha]
    by_cases hb6 : b < 6
    · rw [decide_eq_true hb6] <;> rfl
    · have : (64 : Nat) ≤ 2 ^ b := Nat.pow_le_pow_right (n := 2) (i := 6) (by omega) (by omega)
      rw [Nat.testBit_lt_two_pow (by omega), Bool.and_false])]
  have : sl2 W (10 * a + 9) = false := by
    unfold sl2
    rw [show (10 * a + 9) % 10 = 9 by omega]
    simp
  simp [this]
theorem cnt_up {p : Nat → Bool} {n m : Nat} (hm : n ≤ m) (h : ∀ b, n ≤ b → b < m → p b = false) : cntI p m = cntI p n := by
  obtain ⟨k, rfl⟩ : ∃ k, m = n + k := ⟨m - n, by omega⟩
  rw [cnt_10 p n k, cnt_f k (fun b hb => h (n + b) (by omega) (by omega)), Nat.add_zero]
theorem sl2_60 {W : Nat → Nat} {q : Nat} (h : 60 ≤ q) : sl2 W q = false := by
  unfold sl2
  rw [decide_eq_false (show ¬ q / 10 < 6 by omega)] <;> rfl
theorem g_twos {K : Nat} {W : Nat → Nat} {bW : Nat → Int32} (hK : 1000 ≤ K) (hW : ∀ g, g < 6 → bW g = nI (W g) ∧ W g < 64) : fX6_twosAsWoken K bW = some (nI (cntI (sl2 W) 100)) := by
  have key : ∀ d i q, i + d = 6 → d < q → fX6_twosAsWoken_L4 K bW q (nI (cntI (sl2 W) (10 * i))) (nI i) = some (nI (cntI (sl2 W) 60)) := by
    intro d
    induction d with
    | zero =>
      intro i q hi hq
      obtain ⟨q, rfl⟩ : ∃ y, q = y + 1 := ⟨q - 1, by omega⟩
      have hi' : i = 6 := by omega
      subst hi'
      rw [fX6_twosAsWoken_L4, if_pos (nI_le (Nat.le_refl _) (by omega))]
    | succ d ih =>
      intro i q hi hq
      obtain ⟨q, rfl⟩ : ∃ y, q = y + 1 := ⟨q - 1, by omega⟩
      obtain ⟨w1, w2⟩ := hW i (by omega)
      rw [fX6_twosAsWoken_L4, if_neg (nI_ge (show i < 6 by omega) (by omega)), p_gd6 (by omega), nI_clamp (by omega), w1, bc_j K (by omega), bd1_eq]
      simp only [nm]
      rw [nI_add, nI_1, ← sl_row (show i < 6 by omega) w2, ← cnt_10, show 10 * i + 10 = 10 * (i + 1) by omega]
      exact ih (i + 1) q (by omega) (by omega)
  unfold fX6_twosAsWoken
  have e := key 6 0 K (by omega) (by omega)
  change fX6_twosAsWoken_L4 _ _ _ 0 0 = _ at e
  rw [e, bd1_eq, cnt_up (p := sl2 W) (n := 60) (m := 100) (by omega) (fun b hb hb2 => sl2_60 hb)]
theorem fst_mono {p : Nat → Bool} {n j : Nat} (h : fstI p n = some j) : ∀ k, fstI p (n + k) = some j
  | 0 => h
  | k + 1 => by rw [show n + (k + 1) = (n + k) + 1 by omega, fstI, fst_mono h k]
theorem fst_up' {p : Nat → Bool} {n : Nat} : ∀ k, (∀ b, n ≤ b → b < n + k → p b = false) → fstI p (n + k) = fstI p n
  | 0 => fun _ => rfl
  | k + 1 => fun h => by
    rw [show n + (k + 1) = (n + k) + 1 by omega, fstI, fst_up' k (fun b h1 h2 => h b h1 (by omega)), h (n + k) (by omega) (by omega)]
    cases fstI p n <;> rfl
theorem fst_up {p : Nat → Bool} {n m : Nat} (hm : n ≤ m) (h : ∀ b, n ≤ b → b < m → p b = false) : fstI p m = fstI p n := by
  obtain ⟨k, rfl⟩ : ∃ k, m = n + k := ⟨m - n, by omega⟩
  exact fst_up' k h
theorem g_first2 {K : Nat} {W : Nat → Nat} {bW : Nat → Int32} (hK : 1000 ≤ K) (hW : ∀ g, g < 6 → bW g = nI (W g) ∧ W g < 64) : fX6_firstTwoAsWoken K bW = some (oO (fstI (sl2 W) 100)) := by
  have inner : ∀ a, a < 6 → ∀ d b q, b + d = 6 → d < q → fstI (sl2 W) (10 * a + b) = none → fX6_firstTwoAsWoken_L13 K (nI a) bW q (nI b) = some (match fstI (sl2 W) (10 * a + 6) with | some j => .inl (.inl (nI j)) | none => .inr ()) := by
    intro a ha d
    induction d with
    | zero =>
      intro b q hb hq hn
      obtain ⟨q, rfl⟩ : ∃ y, q = y + 1 := ⟨q - 1, by omega⟩
      have hb' : b = 6 := by omega
      subst hb'
      rw [fX6_firstTwoAsWoken_L13, if_pos (show (6 : Int32) ≤ nI 6 by decide), hn] <;> rfl
    | succ d ih =>
      intro b q hb hq hn
      obtain ⟨q, rfl⟩ : ∃ y, q = y + 1 := ⟨q - 1, by omega⟩
      obtain ⟨w1, w2⟩ := hW a ha
      rw [fX6_firstTwoAsWoken_L13, if_neg (show ¬ (6 : Int32) ≤ nI b from nI_ge (b := 6) (show b < 6 by omega) (by omega)), p_gd6 (by omega), nI_clamp (by omega), w1, q_has (by omega) (by omega), bd1_eq]
      have hs : sl2 W (10 * a + b) = (W a).testBit b := by
        unfold sl2
        rw [show (10 * a + b) / 10 = a by omega, show (10 * a + b) % 10 = b by omega, decide_eq_true ha, decide_eq_true (show b < 6 by omega)] <;> rfl
      cases hp : (W a).testBit b with
      | false =>
        rw [bI_f, if_pos rfl]
        simp only [nm]
        rw [nI_1]
        refine ih (b + 1) q (by omega) (by omega) ?_
        rw [show 10 * a + (b + 1) = (10 * a + b) + 1 by omega, fstI, hn, hs, hp] <;> rfl
      | true =>
        rw [bI_t, if_neg q_n10]
        have h1 : fstI (sl2 W) (10 * a + b + 1) = some (10 * a + b) := by
          rw [fstI, hn, hs, hp] <;> rfl
        have h2 := fst_mono h1 (5 - b)
        rw [show 10 * a + b + 1 + (5 - b) = 10 * a + 6 by omega] at h2
        rw [h2]
        have h3 : (10 : Int32) * nI a = nI (10 * a) := pk_mul 10 a
        rw [h3, nI_add] <;> rfl
  have row : ∀ a, a < 6 → fstI (sl2 W) (10 * (a + 1)) = fstI (sl2 W) (10 * a + 6) := fun a ha =>
    fst_up (by omega) (fun b h1 h2 => by
      unfold sl2
      rw [decide_eq_false (show ¬ b % 10 < 6 by omega), Bool.and_false, Bool.false_and])
  have key : ∀ d i q, i + d = 6 → d < q → fstI (sl2 W) (10 * i) = none → fX6_firstTwoAsWoken_L2 K bW q (nI i) = some (match fstI (sl2 W) 60 with | some j => .inl (nI j) | none => .inr ()) := by
    intro d
    induction d with
    | zero =>
      intro i q hi hq hn
      obtain ⟨q, rfl⟩ : ∃ y, q = y + 1 := ⟨q - 1, by omega⟩
      have hi' : i = 6 := by omega
      subst hi'
      rw [fX6_firstTwoAsWoken_L2, if_pos (nI_le (Nat.le_refl _) (by omega)), show 60 = 10 * 6 from rfl, hn] <;> rfl
    | succ d ih =>
      intro i q hi hq hn
      obtain ⟨q, rfl⟩ : ∃ y, q = y + 1 := ⟨q - 1, by omega⟩
      have hi6 : i < 6 := by omega
      have e := inner i hi6 6 0 K (by omega) (by omega) hn
      change fX6_firstTwoAsWoken_L13 _ _ _ _ 0 = _ at e
      rw [← row i hi6] at e
      rw [fX6_firstTwoAsWoken_L2, if_neg (nI_ge hi6 (by omega))]
      cases hf : fstI (sl2 W) (10 * (i + 1)) with
      | none =>
        rw [hf] at e
        rw [show fX6_firstTwoAsWoken_L13 K (nI i) bW K 0 = some (.inr ()) from e, bs0]
        simp only [nm]
        rw [nI_1]
        exact ih (i + 1) q (by omega) (by omega) hf
      | some j =>
        rw [hf] at e
        have h2 := fst_mono hf (60 - 10 * (i + 1))
        rw [show 10 * (i + 1) + (60 - 10 * (i + 1)) = 60 by omega] at h2
        rw [show fX6_firstTwoAsWoken_L13 K (nI i) bW K 0 = some (.inl (.inl (nI j))) from e, h2] <;> rfl
  have e := key 6 0 K (by omega) (by omega) rfl
  change fX6_firstTwoAsWoken_L2 _ _ _ 0 = _ at e
  unfold fX6_firstTwoAsWoken
  rw [e, fst_up (p := sl2 W) (n := 60) (m := 100) (by omega) (fun b hb hb2 => sl2_60 hb)]
  cases fstI (sl2 W) 60 <;> rfl
set_option maxHeartbeats 1000000 in
theorem s_slates {X_surveyed X_text_length : Int32} {X_text_letters : (Nat → Int32)} {X_draft_guests X_draft_wishes X_draft_start : Int32} {X_draft_guestKind X_draft_guestFloor X_draft_wishKind X_draft_wishA X_draft_wishB X_draft_wishNames : (Nat → Int32)} {X_reader_next X_slate_guests X_slate_wishes X_slate_start : Int32} {X_slate_guestKind X_slate_guestFloor X_slate_wishKind X_slate_wishA X_slate_wishB X_slate_wishNames : (Nat → Int32)} {X_tonight_here X_tonight_struck : Int32} {X_tonight_floors : (Nat → Int32)} {X_otherNight_here X_otherNight_struck : Int32} {X_otherNight_floors : (Nat → Int32)} {X_undoable_size : Int32} {X_undoable_nights : (Nat → Int64)} {X_kept_size : Int32} {X_kept_nights : (Nat → Int64)} {X_mornings_told : Int32} {X_mornings_ahead X_mornings_behind : (Nat → Int32)} {X_survey_standing X_survey_goodRounds X_survey_soonestEnd X_survey_roundsAsWoken X_survey_round_size X_survey_round_end : Int32} {X_survey_round_order X_survey_round_places X_survey_round_times X_survey_round_waits X_survey_round_wakings X_survey_keptSets X_survey_firstGood X_survey_soonestGood X_survey_earliest X_survey_latest X_survey_behind X_survey_behindAsWoken : (Nat → Int32)} {X_otherSurvey_standing X_otherSurvey_goodRounds X_otherSurvey_soonestEnd X_otherSurvey_roundsAsWoken X_otherSurvey_round_size X_otherSurvey_round_end : Int32} {X_otherSurvey_round_order X_otherSurvey_round_places X_otherSurvey_round_times X_otherSurvey_round_waits X_otherSurvey_round_wakings X_otherSurvey_keptSets X_otherSurvey_firstGood X_otherSurvey_soonestGood X_otherSurvey_earliest X_otherSurvey_latest X_otherSurvey_behind X_otherSurvey_behindAsWoken X_endsWithout : (Nat → Int32)} {M_guests M_wishes M_begins M_acts M_keeps M_wokes M_texted M_at M_readGuests M_readWishes M_readBegins M_here M_stands M_many M_rounds : Int32} {M_kinds M_wishKind M_wishA M_wishB M_st M_was M_kept M_woke M_text M_told M_readKinds M_readFloors M_readWishKind M_readWishA M_readWishB M_come M_keptBy M_endsAt M_order M_time M_place : (Nat → Int32)} (h : Rel X_surveyed X_text_length X_text_letters X_draft_guests X_draft_wishes X_draft_start X_draft_guestKind X_draft_guestFloor X_draft_wishKind X_draft_wishA X_draft_wishB X_draft_wishNames X_reader_next X_slate_guests X_slate_wishes X_slate_start X_slate_guestKind X_slate_guestFloor X_slate_wishKind X_slate_wishA X_slate_wishB X_slate_wishNames X_tonight_here X_tonight_struck X_tonight_floors X_otherNight_here X_otherNight_struck X_otherNight_floors X_undoable_size X_undoable_nights X_kept_size X_kept_nights X_mornings_told X_mornings_ahead X_mornings_behind X_survey_standing X_survey_goodRounds X_survey_soonestEnd X_survey_roundsAsWoken X_survey_round_size X_survey_round_end X_survey_round_order X_survey_round_places X_survey_round_times X_survey_round_waits X_survey_round_wakings X_survey_keptSets X_survey_firstGood X_survey_soonestGood X_survey_earliest X_survey_latest X_survey_behind X_survey_behindAsWoken X_otherSurvey_standing X_otherSurvey_goodRounds X_otherSurvey_soonestEnd X_otherSurvey_roundsAsWoken X_otherSurvey_round_size X_otherSurvey_round_end X_otherSurvey_round_order X_otherSurvey_round_places X_otherSurvey_round_times X_otherSurvey_round_waits X_otherSurvey_round_wakings X_otherSurvey_keptSets X_otherSurvey_firstGood X_otherSurvey_soonestGood X_otherSurvey_earliest X_otherSurvey_latest X_otherSurvey_behind X_otherSurvey_behindAsWoken X_endsWithout M_guests M_wishes M_begins M_acts M_keeps M_wokes M_texted M_at M_readGuests M_readWishes M_readBegins M_here M_stands M_many M_rounds M_kinds M_wishKind M_wishA M_wishB M_st M_was M_kept M_woke M_text M_told M_readKinds M_readFloors M_readWishKind M_readWishA M_readWishB M_come M_keptBy M_endsAt M_order M_time M_place) (x1 : Int32) : ∃ (r : Int32) (X_surveyed' : Int32) (X_survey_standing' : Int32) (X_survey_goodRounds' : Int32) (X_survey_soonestEnd' : Int32) (X_survey_roundsAsWoken' : Int32) (X_survey_keptSets' : (Nat → Int32)) (X_survey_behind' : (Nat → Int32)) (X_survey_behindAsWoken' : (Nat → Int32)) (X_survey_round_size' : Int32) (X_survey_round_end' : Int32) (X_survey_round_order' : (Nat → Int32)) (X_survey_round_waits' : (Nat → Int32)) (X_survey_round_wakings' : (Nat → Int32)) (X_survey_round_places' : (Nat → Int32)) (X_survey_round_times' : (Nat → Int32)) (X_survey_firstGood' : (Nat → Int32)) (X_survey_soonestGood' : (Nat → Int32)) (X_survey_earliest' : (Nat → Int32)) (X_survey_latest' : (Nat → Int32)) (M_here' : Int32) (M_stands' : Int32) (M_many' : Int32) (M_rounds' : Int32) (M_order' : (Nat → Int32)) (M_time' : (Nat → Int32)) (M_place' : (Nat → Int32)) (M_endsAt' : (Nat → Int32)) (M_keptBy' : (Nat → Int32)) (M_come' : (Nat → Int32)), fX8_slates KK x1 X_surveyed X_survey_standing X_survey_goodRounds X_survey_soonestEnd X_survey_roundsAsWoken X_survey_keptSets X_survey_behind X_survey_behindAsWoken X_survey_round_size X_survey_round_end X_survey_round_order X_survey_round_waits X_survey_round_wakings X_survey_round_places X_survey_round_times X_survey_firstGood X_survey_soonestGood X_survey_earliest X_survey_latest X_tonight_here X_tonight_struck X_slate_wishes X_slate_start X_slate_wishNames X_slate_wishKind X_slate_wishA X_slate_wishB X_slate_guestKind X_tonight_floors X_mornings_told X_mornings_ahead X_mornings_behind = some (r, X_surveyed', X_survey_standing', X_survey_goodRounds', X_survey_soonestEnd', X_survey_roundsAsWoken', X_survey_keptSets', X_survey_behind', X_survey_behindAsWoken', X_survey_round_size', X_survey_round_end', X_survey_round_order', X_survey_round_waits', X_survey_round_wakings', X_survey_round_places', X_survey_round_times', X_survey_firstGood', X_survey_soonestGood', X_survey_earliest', X_survey_latest') ∧ fX9_slates KK x1 M_guests M_wishes M_begins M_wokes M_here M_stands M_many M_rounds M_st M_wishA M_wishKind M_wishB M_order M_time M_place M_kinds M_endsAt M_keptBy M_come M_woke = some (r, M_here', M_stands', M_many', M_rounds', M_order', M_time', M_place', M_endsAt', M_keptBy', M_come') ∧ Rel X_surveyed' X_text_length X_text_letters X_draft_guests X_draft_wishes X_draft_start X_draft_guestKind X_draft_guestFloor X_draft_wishKind X_draft_wishA X_draft_wishB X_draft_wishNames X_reader_next X_slate_guests X_slate_wishes X_slate_start X_slate_guestKind X_slate_guestFloor X_slate_wishKind X_slate_wishA X_slate_wishB X_slate_wishNames X_tonight_here X_tonight_struck X_tonight_floors X_otherNight_here X_otherNight_struck X_otherNight_floors X_undoable_size X_undoable_nights X_kept_size X_kept_nights X_mornings_told X_mornings_ahead X_mornings_behind X_survey_standing' X_survey_goodRounds' X_survey_soonestEnd' X_survey_roundsAsWoken' X_survey_round_size' X_survey_round_end' X_survey_round_order' X_survey_round_places' X_survey_round_times' X_survey_round_waits' X_survey_round_wakings' X_survey_keptSets' X_survey_firstGood' X_survey_soonestGood' X_survey_earliest' X_survey_latest' X_survey_behind' X_survey_behindAsWoken' X_otherSurvey_standing X_otherSurvey_goodRounds X_otherSurvey_soonestEnd X_otherSurvey_roundsAsWoken X_otherSurvey_round_size X_otherSurvey_round_end X_otherSurvey_round_order X_otherSurvey_round_places X_otherSurvey_round_times X_otherSurvey_round_waits X_otherSurvey_round_wakings X_otherSurvey_keptSets X_otherSurvey_firstGood X_otherSurvey_soonestGood X_otherSurvey_earliest X_otherSurvey_latest X_otherSurvey_behind X_otherSurvey_behindAsWoken X_endsWithout M_guests M_wishes M_begins M_acts M_keeps M_wokes M_texted M_at M_readGuests M_readWishes M_readBegins M_here' M_stands' M_many' M_rounds' M_kinds M_wishKind M_wishA M_wishB M_st M_was M_kept M_woke M_text M_told M_readKinds M_readFloors M_readWishKind M_readWishA M_readWishB M_come' M_keptBy' M_endsAt' M_order' M_time' M_place' := by
  obtain ⟨N,V,S,kd,wk,wa,wb,fl,h,s,t,am,bm,hO,hX,hM,hNt,hNx,hNm,hMo,hMx,hMm,hT,hU,hKp,hD,hSv⟩ := h
  unfold fX8_slates fX9_slates
  rcases q_r1 (K := KK) x1 with ⟨hx, f⟩ | ⟨y, hy, rfl, hy0, hy1, f⟩
  · rw [f, bd1_eq, if_pos rfl]
    rcases hx with hx | ⟨hx, hx2⟩
    · rw [if_pos hx]
      exact ⟨_, _, _, _, _, _, _, _, _, _, _, _, _, _, _, _, _, _, _, _, _, _, _, _, _, _, _, _, _, _, rfl, rfl, N,V,S,kd,wk,wa,wb,fl,h,s,t,am,bm,hO,hX,hM,hNt,hNx,hNm,hMo,hMx,hMm,hT,hU,hKp,hD,hSv⟩
    · rw [if_neg hx, if_neg hx2]
      exact ⟨_, _, _, _, _, _, _, _, _, _, _, _, _, _, _, _, _, _, _, _, _, _, _, _, _, _, _, _, _, _, rfl, rfl, N,V,S,kd,wk,wa,wb,fl,h,s,t,am,bm,hO,hX,hM,hNt,hNx,hNm,hMo,hMx,hMm,hT,hU,hKp,hD,hSv⟩
  obtain ⟨good', soon', woken', size', endI', KS', B', W', order', waits', wak', places', times', FG', SG', E', L', e1, hS1⟩ := g_survey hO hX hNt hNx hMo hMx X_survey_standing X_survey_goodRounds X_survey_soonestEnd X_survey_roundsAsWoken X_survey_round_size X_survey_round_end X_survey_keptSets X_survey_behind X_survey_behindAsWoken X_survey_round_order X_survey_round_waits X_survey_round_wakings X_survey_round_places X_survey_round_times X_survey_firstGood X_survey_soonestGood X_survey_earliest X_survey_latest hSv
  obtain ⟨o2, t2, p2, en2, k2, c2, e2, hF⟩ := find9 hO hM hNt.1 hNt.2.1 hNm.2.1 (fun g hg => ⟨hNm.2.2 g hg, by have := hNt.2.2.1 g hg; omega⟩) M_here M_stands M_many M_rounds M_order M_time M_place M_endsAt M_keptBy M_come
  have h64 : h < 64 := h_64 hNt.1 hO.2.1
  obtain ⟨r1, r2, -⟩ := rds_len h64
  have hV : V ≤ 9 := hO.2.2.1
  have hN6 : N ≤ 6 := hO.2.1
  have hl := mem_len h
  have hn1 := hNx.1
  subst hn1
  have hS0 := hS1.1
  subst hS0
  have hcl : cntI (fun i => decide (kpO V S kd wk wa wb fl (mkb (stB wk wa wb h s) V) (rho h i) = mkb (stB wk wa wb h s) V)) (rds h).length ≤ 720 := Nat.le_trans (cnt_le _ _) r2
  have hW : ∀ g, g < 6 → W' g = nI (orI (fun i => decide (kpO V S kd wk wa wb fl (mkb (stB wk wa wb h s) V) (rho h i) = mkb (stB wk wa wb h s) V) && wkO h t am bm (rho h i)) (fun i => aftO (rho h i) g) (rds h).length) ∧ orI (fun i => decide (kpO V S kd wk wa wb fl (mkb (stB wk wa wb h s) V) (rho h i) = mkb (stB wk wa wb h s) V) && wkO h t am bm (rho h i)) (fun i => aftO (rho h i) g) (rds h).length < 64 := fun g hg => ⟨hS1.2.2.2.2.2.2.2.2 g hg, or_lt _ _ _ (fun i hi => aft_lt _ _)⟩
  have hm1 := hMm.1
  subst hm1
  have e3 := m_slates (K := KK) (o := rho h) (come := c2) KK_ge hN6 hNm.1 h64 hNt.1 hMo hMm.2 r2 r1 (q_nm2 hV (stB wk wa wb h s)) hl (q_fo hV h64 hF) (fun j hj => (rho_ok h64 hj).2.2)
  have hg1 := hX.1
  have hg2 := hM.1
  subst hg1 hg2
  rw [f, bd1_eq, if_neg q_n10, if_neg hy0, if_pos hy1, e1, bd19_eq, gd_pos (by decide), show (0 : Int32).toNatClampNeg = 0 from rfl, hNm.1, e2, bd10_eq, e3, bd2_eq]
  by_cases hy00 : nI y = 0
  · rw [if_pos hy00, if_pos hy00, g_twos (W := fun g => orI (fun i => decide (kpO V S kd wk wa wb fl (mkb (stB wk wa wb h s) V) (rho h i) = mkb (stB wk wa wb h s) V) && wkO h t am bm (rho h i)) (fun i => aftO (rho h i) g) (rds h).length) KK_ge hW, bd1_eq]
    exact ⟨_, _, _, _, _, _, _, _, _, _, _, _, _, _, _, _, _, _, _, _, _, _, _, _, _, _, _, _, _, _, rfl, rfl, N,V,S,kd,wk,wa,wb,fl,h,s,t,am,bm,hO,hX,hM,hNt,hNx,hNm,hMo,hMx,hMm,hT,hU,hKp,hD,Or.inr ⟨rfl, rfl, hS1⟩⟩
  · rw [if_neg hy00, if_neg hy00, g_first2 (W := fun g => orI (fun i => decide (kpO V S kd wk wa wb fl (mkb (stB wk wa wb h s) V) (rho h i) = mkb (stB wk wa wb h s) V) && wkO h t am bm (rho h i)) (fun i => aftO (rho h i) g) (rds h).length) KK_ge hW, bd1_eq]
    exact ⟨_, _, _, _, _, _, _, _, _, _, _, _, _, _, _, _, _, _, _, _, _, _, _, _, _, _, _, _, _, _, rfl, rfl, N,V,S,kd,wk,wa,wb,fl,h,s,t,am,bm,hO,hX,hM,hNt,hNx,hNm,hMo,hMx,hMm,hT,hU,hKp,hD,Or.inr ⟨rfl, rfl, hS1⟩⟩
