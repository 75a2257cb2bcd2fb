def bc (m : Nat) : Nat := cntI (fun i => m.testBit i) 9
theorem bc_chk : ∀ m, m < 512 → fJ6_bitCount_0f7a4 0 (nI m) = some (nI (bc m)) ∧ fX9_bits KK (nI m) = some (nI (bc m)) ∧ (bc m = 0 → m = 0) := by decide +kernel
theorem bc_j (K : Nat) {m : Nat} (h : m < 512) : fJ6_bitCount_0f7a4 K (nI m) = some (nI (bc m)) := (bc_chk m h).1
theorem bc_9 {m : Nat} (h : m < 512) : fX9_bits KK (nI m) = some (nI (bc m)) := (bc_chk m h).2.1
theorem bc_le (m : Nat) : bc m ≤ 9 := cnt_le _ 9
theorem bc_0 : bc 0 = 0 := by decide
/-- the first of the largest -/
def MoS (P : Nat → Prop) (r : Nat) : Prop := r < 512 ∧ P r ∧ ∀ k, k < 512 → P k → bc k < bc r ∨ bc k = bc r ∧ r ≤ k
theorem mo_uni {P : Nat → Prop} {r m : Nat} (h1 : MoS P r) (h2 : MoS P m) : r = m := by
  have a := h1.2.2 m h2.1 h2.2.1
  have b := h2.2.2 r h1.1 h1.2.1
  omega
theorem g_largest {K : Nat} {P : Nat → Bool} {KS : Nat → Int32} (hK : 1000 ≤ K) (hP : ∀ k, k < 512 → KS k = bI (P k)) (hne : ∃ k, k < 512 ∧ P k = true) : ∃ r, fX6_largestKept K KS = some (nI r) ∧ MoS (fun k => P k = true) r := by
  have key : ∀ d i q r, i + d = 512 → d < q → r < 512 → r ≤ i → (P r = true ∨ r = 0) → (∀ k, k < i → P k = true → bc k < bc r ∨ bc k = bc r ∧ r ≤ k) →
      ∃ r', fX6_largestKept_L4 K KS q (nI r) (nI i) = some (nI r') ∧ r' < 512 ∧ (P r' = true ∨ r' = 0) ∧ ∀ k, k < 512 → P k = true → bc k < bc r' ∨ bc k = bc r' ∧ r' ≤ k := by
    intro d
    induction d with
    | zero =>
      intro i q r hi hq hr hri hz hall
      obtain ⟨q, rfl⟩ : ∃ y, q = y + 1 := ⟨q - 1, by omega⟩
      have hi' : i = 512 := by omega
      subst hi'
      rw [fX6_largestKept_L4, if_pos (nI_le (Nat.le_refl _) (by omega))]
      exact ⟨r, rfl, hr, hz, hall⟩
    | succ d ih =>
      intro i q r hi hq hr hri hz hall
      obtain ⟨q, rfl⟩ : ∃ y, q = y + 1 := ⟨q - 1, by omega⟩
      have hb1 := bc_le i
      have hb2 := bc_le r
      rw [fX6_largestKept_L4, if_neg (nI_ge (show i < 512 by omega) (by omega)), p_gd (show i < 512 by omega) (by omega), nI_clamp (by omega), hP i (by omega), bc_j K (show i < 512 by omega), bc_j K hr, bd1_eq, bd1_eq]
      simp only [nm, nI_1]
      cases hp : P i with
      | false =>
        rw [bI_f, if_neg (show ¬ (0 : Int32) = 1 by decide), bd1_eq]
        exact ih (i + 1) q r (by omega) (by omega) hr (by omega) hz (fun k hk hpk => by
          by_cases hki : k = i
          · subst hki; rw [hp] at hpk; cases hpk
          · exact hall k (by omega) hpk)
      | true =>
        rw [bI_t, if_pos rfl]
        by_cases hle : bc i ≤ bc r
        · rw [if_pos (nI_le hle (by omega)), bd1_eq]
          exact ih (i + 1) q r (by omega) (by omega) hr (by omega) hz (fun k hk hpk => by
            by_cases hki : k = i
            · subst hki; omega
            · exact hall k (by omega) hpk)
        · rw [if_neg (Int32.not_le.mpr (nI_lt (by omega) (by omega))), bd1_eq]
          exact ih (i + 1) q i (by omega) (by omega) (by omega) (by omega) (Or.inl hp) (fun k hk hpk => by
            by_cases hki : k = i
            · subst hki; omega
            · have := hall k (by omega) hpk; omega)
  obtain ⟨r, e, h1, h2, h3⟩ := key 512 0 K 0 (by omega) (by omega) (by omega) (by omega) (Or.inr rfl) (fun k hk => by omega)
  unfold fX6_largestKept
  change fX6_largestKept_L4 _ _ _ 0 0 = _ at e
  rw [e, bd1_eq]
  refine ⟨r, rfl, h1, ?_, h3⟩
  rcases h2 with h2 | h2
  · exact h2
  · subst h2
    obtain ⟨k, hk, hpk⟩ := hne
    have h4 := h3 k hk hpk
    rw [bc_0] at h4
    have h5 := (bc_chk k hk).2.2 (by omega)
    subst h5
    exact hpk
theorem m_most {n : Nat} {kp : Nat → Nat} {keptBy : Nat → Int32} (hn0 : 0 < n) (hn : n ≤ 720) (hk : ∀ j, j < n → keptBy j = nI (kp j) ∧ kp j < 512) :
    ∃ m, fX9_most_L28 KK (nI n) keptBy KK (-1) 0 0 = some (nI (bc m), nI m) ∧ MoS (fun k => ∃ j, j < n ∧ kp j = k) m := by
  have key : ∀ d i q x2 x3, i + d = n → d < q → (i = 0 ∧ x2 = (-1 : Int32) ∧ x3 = (0 : Int32) ∨ ∃ m, m < 512 ∧ x2 = nI (bc m) ∧ x3 = nI m ∧ (∃ j, j < i ∧ kp j = m) ∧ ∀ j, j < i → bc (kp j) < bc m ∨ bc (kp j) = bc m ∧ m ≤ kp j) →
      ∃ m, fX9_most_L28 KK (nI n) keptBy q x2 x3 (nI i) = some (nI (bc m), nI m) ∧ m < 512 ∧ (∃ j, j < n ∧ kp j = m) ∧ ∀ j, j < n → bc (kp j) < bc m ∨ bc (kp j) = bc m ∧ m ≤ kp j := by
    intro d
    induction d with
    | zero =>
      intro i q x2 x3 hi hq hI
      obtain ⟨q, rfl⟩ : ∃ y, q = y + 1 := ⟨q - 1, by omega⟩
      have hi' : i = n := by omega
      subst hi'
      rw [fX9_most_L28, if_pos (nI_le (Nat.le_refl _) (by omega))]
      rcases hI with ⟨h0, -⟩ | ⟨m, h1, rfl, rfl, h2, h3⟩
      · omega
      · exact ⟨m, rfl, h1, h2, h3⟩
    | succ d ih =>
      intro i q x2 x3 hi hq hI
      obtain ⟨q, rfl⟩ : ∃ y, q = y + 1 := ⟨q - 1, by omega⟩
      obtain ⟨k1, k2⟩ := hk i (by omega)
      have hb1 := bc_le (kp i)
      rw [fX9_most_L28, if_neg (nI_ge (show i < n by omega) (by omega)), p_gd (show i < 720 by omega) (by omega), p_gd (show i < 720 by omega) (by omega), p_gd (show i < 720 by omega) (by omega), nI_clamp (by omega), k1, bc_9 k2, bd1_eq]
      simp only [nm, nI_1]
      rcases hI with ⟨h0, rfl, rfl⟩ | ⟨m, h1, rfl, rfl, ⟨j0, h2, h2'⟩, h3⟩
      · subst h0
        rw [if_pos (show (-1 : Int32) < nI (bc (kp 0)) from Int32.lt_of_lt_of_le (b := 0) (by decide) (Int32.not_lt.mp (nI_pos (by omega)))), bd1_eq, if_neg q_n10, if_neg q_n10, bd1_eq, bd1_eq]
        exact ih 1 q _ _ (by omega) (by omega) (Or.inr ⟨kp 0, k2, rfl, rfl, ⟨0, by omega, rfl⟩, fun j hj => by
          have : j = 0 := by omega
          subst this; omega⟩)
      · have hb2 := bc_le m
        by_cases hlt : bc m < bc (kp i)
        · rw [if_pos (nI_lt hlt (by omega)), bd1_eq, if_neg q_n10, if_neg q_n10, bd1_eq, bd1_eq]
          exact ih (i + 1) q _ _ (by omega) (by omega) (Or.inr ⟨kp i, k2, rfl, rfl, ⟨i, by omega, rfl⟩, fun j hj => by
            by_cases hji : j = i
            · subst hji; omega
            · have := h3 j (by omega); omega⟩)
        · rw [if_neg (Int32.not_lt.mpr (nI_le (show bc (kp i) ≤ bc m by omega) (by omega)))]
          by_cases heq : bc (kp i) = bc m
          · rw [if_pos (congrArg nI heq)]
            by_cases hle : m ≤ kp i
            · rw [if_pos (nI_le hle (by omega)), bs0, bd1_eq, if_pos rfl, if_pos rfl, bd1_eq, bd1_eq]
              exact ih (i + 1) q _ _ (by omega) (by omega) (Or.inr ⟨m, h1, rfl, rfl, ⟨j0, by omega, h2'⟩, fun j hj => by
                by_cases hji : j = i
                · subst hji; omega
                · exact h3 j (by omega)⟩)
            · rw [if_neg (Int32.not_le.mpr (nI_lt (show kp i < m by omega) (by omega))), bs0, bd1_eq, if_neg q_n10, if_neg q_n10, bd1_eq, bd1_eq]
              exact ih (i + 1) q _ _ (by omega) (by omega) (Or.inr ⟨kp i, k2, rfl, rfl, ⟨i, by omega, rfl⟩, fun j hj => by
                by_cases hji : j = i
                · subst hji; omega
                · have := h3 j (by omega); omega⟩)
          · rw [if_neg (show ¬ nI (bc (kp i)) = nI (bc m) from fun q => heq ((nI_eq (by omega) (by omega)).mp q)), bs0, bd1_eq, if_pos rfl, if_pos rfl, bd1_eq, bd1_eq]
            exact ih (i + 1) q _ _ (by omega) (by omega) (Or.inr ⟨m, h1, rfl, rfl, ⟨j0, by omega, h2'⟩, fun j hj => by
              by_cases hji : j = i
              · subst hji; omega
              · exact h3 j (by omega)⟩)
  obtain ⟨m, e, h1, h2, h3⟩ := key n 0 KK (-1) 0 (by omega) (by have := KK_ge; omega) (Or.inl ⟨rfl, rfl, rfl⟩)
  exact ⟨m, e, h1, h2, fun k hk ⟨j, hj, hjk⟩ => by subst hjk; exact h3 j hj⟩
theorem ex_iff {x : Nat → Nat} {k : Nat} : ∀ n, (exI x k n = true ↔ ∃ j, j < n ∧ x j = k)
  | 0 => by simp [exI]
  | n + 1 => by
    have ih := ex_iff (x := x) (k := k) n
    rw [exI, Bool.or_eq_true, ih, decide_eq_true_iff]
    constructor
    · rintro (⟨j, hj, h⟩ | h)
      · exact ⟨j, by omega, h⟩
      · exact ⟨n, by omega, h⟩
    · rintro ⟨j, hj, h⟩
      by_cases hjn : j = n
      · subst hjn; exact Or.inr h
      · exact Or.inl ⟨j, by omega, h⟩
set_option maxHeartbeats 1000000 in
theorem s_most {X_surveyed X_text_length : Int32} {X_text_letters : (Nat → Int32)} {X_draft_guests X_draft_wishes X_draft_start : Int32} {X_draft_guestKind X_draft_guestFloor X_draft_wishKind X_draft_wishA X_draft_wishB X_draft_wishNames : (Nat → Int32)} {X_reader_next X_slate_guests X_slate_wishes X_slate_start : Int32} {X_slate_guestKind X_slate_guestFloor X_slate_wishKind X_slate_wishA X_slate_wishB X_slate_wishNames : (Nat → Int32)} {X_tonight_here X_tonight_struck : Int32} {X_tonight_floors : (Nat → Int32)} {X_otherNight_here X_otherNight_struck : Int32} {X_otherNight_floors : (Nat → Int32)} {X_undoable_size : Int32} {X_undoable_nights : (Nat → Int64)} {X_kept_size : Int32} {X_kept_nights : (Nat → Int64)} {X_mornings_told : Int32} {X_mornings_ahead X_mornings_behind : (Nat → Int32)} {X_survey_standing X_survey_goodRounds X_survey_soonestEnd X_survey_roundsAsWoken X_survey_round_size X_survey_round_end : Int32} {X_survey_round_order X_survey_round_places X_survey_round_times X_survey_round_waits X_survey_round_wakings X_survey_keptSets X_survey_firstGood X_survey_soonestGood X_survey_earliest X_survey_latest X_survey_behind X_survey_behindAsWoken : (Nat → Int32)} {X_otherSurvey_standing X_otherSurvey_goodRounds X_otherSurvey_soonestEnd X_otherSurvey_roundsAsWoken X_otherSurvey_round_size X_otherSurvey_round_end : Int32} {X_otherSurvey_round_order X_otherSurvey_round_places X_otherSurvey_round_times X_otherSurvey_round_waits X_otherSurvey_round_wakings X_otherSurvey_keptSets X_otherSurvey_firstGood X_otherSurvey_soonestGood X_otherSurvey_earliest X_otherSurvey_latest X_otherSurvey_behind X_otherSurvey_behindAsWoken X_endsWithout : (Nat → Int32)} {M_guests M_wishes M_begins M_acts M_keeps M_wokes M_texted M_at M_readGuests M_readWishes M_readBegins M_here M_stands M_many M_rounds : Int32} {M_kinds M_wishKind M_wishA M_wishB M_st M_was M_kept M_woke M_text M_told M_readKinds M_readFloors M_readWishKind M_readWishA M_readWishB M_come M_keptBy M_endsAt M_order M_time M_place : (Nat → Int32)} (h : Rel X_surveyed X_text_length X_text_letters X_draft_guests X_draft_wishes X_draft_start X_draft_guestKind X_draft_guestFloor X_draft_wishKind X_draft_wishA X_draft_wishB X_draft_wishNames X_reader_next X_slate_guests X_slate_wishes X_slate_start X_slate_guestKind X_slate_guestFloor X_slate_wishKind X_slate_wishA X_slate_wishB X_slate_wishNames X_tonight_here X_tonight_struck X_tonight_floors X_otherNight_here X_otherNight_struck X_otherNight_floors X_undoable_size X_undoable_nights X_kept_size X_kept_nights X_mornings_told X_mornings_ahead X_mornings_behind X_survey_standing X_survey_goodRounds X_survey_soonestEnd X_survey_roundsAsWoken X_survey_round_size X_survey_round_end X_survey_round_order X_survey_round_places X_survey_round_times X_survey_round_waits X_survey_round_wakings X_survey_keptSets X_survey_firstGood X_survey_soonestGood X_survey_earliest X_survey_latest X_survey_behind X_survey_behindAsWoken X_otherSurvey_standing X_otherSurvey_goodRounds X_otherSurvey_soonestEnd X_otherSurvey_roundsAsWoken X_otherSurvey_round_size X_otherSurvey_round_end X_otherSurvey_round_order X_otherSurvey_round_places X_otherSurvey_round_times X_otherSurvey_round_waits X_otherSurvey_round_wakings X_otherSurvey_keptSets X_otherSurvey_firstGood X_otherSurvey_soonestGood X_otherSurvey_earliest X_otherSurvey_latest X_otherSurvey_behind X_otherSurvey_behindAsWoken X_endsWithout M_guests M_wishes M_begins M_acts M_keeps M_wokes M_texted M_at M_readGuests M_readWishes M_readBegins M_here M_stands M_many M_rounds M_kinds M_wishKind M_wishA M_wishB M_st M_was M_kept M_woke M_text M_told M_readKinds M_readFloors M_readWishKind M_readWishA M_readWishB M_come M_keptBy M_endsAt M_order M_time M_place) (x1 : Int32) : ∃ (r : Int32) (X_surveyed' : Int32) (X_survey_standing' : Int32) (X_survey_goodRounds' : Int32) (X_survey_soonestEnd' : Int32) (X_survey_roundsAsWoken' : Int32) (X_survey_keptSets' : (Nat → Int32)) (X_survey_behind' : (Nat → Int32)) (X_survey_behindAsWoken' : (Nat → Int32)) (X_survey_round_size' : Int32) (X_survey_round_end' : Int32) (X_survey_round_order' : (Nat → Int32)) (X_survey_round_waits' : (Nat → Int32)) (X_survey_round_wakings' : (Nat → Int32)) (X_survey_round_places' : (Nat → Int32)) (X_survey_round_times' : (Nat → Int32)) (X_survey_firstGood' : (Nat → Int32)) (X_survey_soonestGood' : (Nat → Int32)) (X_survey_earliest' : (Nat → Int32)) (X_survey_latest' : (Nat → Int32)) (M_here' : Int32) (M_stands' : Int32) (M_many' : Int32) (M_rounds' : Int32) (M_order' : (Nat → Int32)) (M_time' : (Nat → Int32)) (M_place' : (Nat → Int32)) (M_endsAt' : (Nat → Int32)) (M_keptBy' : (Nat → Int32)) (M_come' : (Nat → Int32)), fX8_most KK x1 X_surveyed X_survey_standing X_survey_goodRounds X_survey_soonestEnd X_survey_roundsAsWoken X_survey_keptSets X_survey_behind X_survey_behindAsWoken X_survey_round_size X_survey_round_end X_survey_round_order X_survey_round_waits X_survey_round_wakings X_survey_round_places X_survey_round_times X_survey_firstGood X_survey_soonestGood X_survey_earliest X_survey_latest X_tonight_here X_tonight_struck X_slate_wishes X_slate_start X_slate_wishNames X_slate_wishKind X_slate_wishA X_slate_wishB X_slate_guestKind X_tonight_floors X_mornings_told X_mornings_ahead X_mornings_behind = some (r, X_surveyed', X_survey_standing', X_survey_goodRounds', X_survey_soonestEnd', X_survey_roundsAsWoken', X_survey_keptSets', X_survey_behind', X_survey_behindAsWoken', X_survey_round_size', X_survey_round_end', X_survey_round_order', X_survey_round_waits', X_survey_round_wakings', X_survey_round_places', X_survey_round_times', X_survey_firstGood', X_survey_soonestGood', X_survey_earliest', X_survey_latest') ∧ fX9_most KK x1 M_guests M_wishes M_begins M_here M_stands M_many M_rounds M_st M_wishA M_wishKind M_wishB M_order M_time M_place M_kinds M_endsAt M_keptBy M_come = some (r, M_here', M_stands', M_many', M_rounds', M_order', M_time', M_place', M_endsAt', M_keptBy', M_come') ∧ Rel X_surveyed' X_text_length X_text_letters X_draft_guests X_draft_wishes X_draft_start X_draft_guestKind X_draft_guestFloor X_draft_wishKind X_draft_wishA X_draft_wishB X_draft_wishNames X_reader_next X_slate_guests X_slate_wishes X_slate_start X_slate_guestKind X_slate_guestFloor X_slate_wishKind X_slate_wishA X_slate_wishB X_slate_wishNames X_tonight_here X_tonight_struck X_tonight_floors X_otherNight_here X_otherNight_struck X_otherNight_floors X_undoable_size X_undoable_nights X_kept_size X_kept_nights X_mornings_told X_mornings_ahead X_mornings_behind X_survey_standing' X_survey_goodRounds' X_survey_soonestEnd' X_survey_roundsAsWoken' X_survey_round_size' X_survey_round_end' X_survey_round_order' X_survey_round_places' X_survey_round_times' X_survey_round_waits' X_survey_round_wakings' X_survey_keptSets' X_survey_firstGood' X_survey_soonestGood' X_survey_earliest' X_survey_latest' X_survey_behind' X_survey_behindAsWoken' X_otherSurvey_standing X_otherSurvey_goodRounds X_otherSurvey_soonestEnd X_otherSurvey_roundsAsWoken X_otherSurvey_round_size X_otherSurvey_round_end X_otherSurvey_round_order X_otherSurvey_round_places X_otherSurvey_round_times X_otherSurvey_round_waits X_otherSurvey_round_wakings X_otherSurvey_keptSets X_otherSurvey_firstGood X_otherSurvey_soonestGood X_otherSurvey_earliest X_otherSurvey_latest X_otherSurvey_behind X_otherSurvey_behindAsWoken X_endsWithout M_guests M_wishes M_begins M_acts M_keeps M_wokes M_texted M_at M_readGuests M_readWishes M_readBegins M_here' M_stands' M_many' M_rounds' M_kinds M_wishKind M_wishA M_wishB M_st M_was M_kept M_woke M_text M_told M_readKinds M_readFloors M_readWishKind M_readWishA M_readWishB M_come' M_keptBy' M_endsAt' M_order' M_time' M_place' := by
  obtain ⟨N,V,S,kd,wk,wa,wb,fl,h,s,t,am,bm,hO,hX,hM,hNt,hNx,hNm,hMo,hMx,hMm,hT,hU,hKp,hD,hSv⟩ := h
  unfold fX8_most fX9_most
  rcases q_r1 (K := KK) x1 with ⟨hx, f⟩ | ⟨y, hy, rfl, hy0, hy1, f⟩
  · rw [f, bd1_eq, if_pos rfl]
    rcases hx with hx | ⟨hx, hx2⟩
    · rw [if_pos hx]
      exact ⟨_, _, _, _, _, _, _, _, _, _, _, _, _, _, _, _, _, _, _, _, _, _, _, _, _, _, _, _, _, _, rfl, rfl, N,V,S,kd,wk,wa,wb,fl,h,s,t,am,bm,hO,hX,hM,hNt,hNx,hNm,hMo,hMx,hMm,hT,hU,hKp,hD,hSv⟩
    · rw [if_neg hx, if_neg hx2]
      exact ⟨_, _, _, _, _, _, _, _, _, _, _, _, _, _, _, _, _, _, _, _, _, _, _, _, _, _, _, _, _, _, rfl, rfl, N,V,S,kd,wk,wa,wb,fl,h,s,t,am,bm,hO,hX,hM,hNt,hNx,hNm,hMo,hMx,hMm,hT,hU,hKp,hD,hSv⟩
  obtain ⟨good', soon', woken', size', endI', KS', B', W', order', waits', wak', places', times', FG', SG', E', L', e1, hS1⟩ := g_survey hO hX hNt hNx hMo hMx X_survey_standing X_survey_goodRounds X_survey_soonestEnd X_survey_roundsAsWoken X_survey_round_size X_survey_round_end X_survey_keptSets X_survey_behind X_survey_behindAsWoken X_survey_round_order X_survey_round_waits X_survey_round_wakings X_survey_round_places X_survey_round_times X_survey_firstGood X_survey_soonestGood X_survey_earliest X_survey_latest hSv
  obtain ⟨o2, t2, p2, en2, k2, c2, e2, hF⟩ := find9 hO hM hNt.1 hNt.2.1 hNm.2.1 (fun g hg => ⟨hNm.2.2 g hg, by have := hNt.2.2.1 g hg; omega⟩) M_here M_stands M_many M_rounds M_order M_time M_place M_endsAt M_keptBy M_come
  have h64 : h < 64 := h_64 hNt.1 hO.2.1
  obtain ⟨r1, r2, -⟩ := rds_len h64
  have hV : V ≤ 9 := hO.2.2.1
  have hN6 : N ≤ 6 := hO.2.1
  have hl := mem_len h
  have hn1 := hNx.1
  subst hn1
  have hS0 := hS1.1
  subst hS0
  have hcl : cntI (fun i => decide (kpO V S kd wk wa wb fl (mkb (stB wk wa wb h s) V) (rho h i) = mkb (stB wk wa wb h s) V)) (rds h).length ≤ 720 := Nat.le_trans (cnt_le _ _) r2
  obtain ⟨m, e3, hm⟩ := m_most (kp := fun j => kpO V S kd wk wa wb fl (mkb (stB wk wa wb h s) V) (rho h j)) r1 r2 (q_frK hV hF)
  obtain ⟨r, e4, hr⟩ := g_largest (K := KK) (P := fun k => exI (fun j => kpO V S kd wk wa wb fl (mkb (stB wk wa wb h s) V) (rho h j)) k (rds h).length) KK_ge hS1.2.2.1 ⟨kpO V S kd wk wa wb fl (mkb (stB wk wa wb h s) V) (rho h 0), (q_frK hV hF 0 r1).2, (ex_iff _).mpr ⟨0, r1, rfl⟩⟩
  have hrm : r = m := mo_uni (P := fun k => ∃ j, j < (rds h).length ∧ kpO V S kd wk wa wb fl (mkb (stB wk wa wb h s) V) (rho h j) = k) ⟨hr.1, (ex_iff _).mp hr.2.1, fun k hk hp => hr.2.2 k hk ((ex_iff _).mpr hp)⟩ hm
  subst hrm
  rw [f, bd1_eq, if_neg q_n10, if_neg hy0, if_pos hy1, e1, bd19_eq, gd_pos (by decide), show (0 : Int32).toNatClampNeg = 0 from rfl, hNm.1, e2, bd10_eq, e3, bd2_eq, e4, bd1_eq, bc_j KK hr.1, bd1_eq]
  by_cases hy00 : nI y = 0
  · rw [if_pos hy00, if_pos hy00]
    exact ⟨_, _, _, _, _, _, _, _, _, _, _, _, _, _, _, _, _, _, _, _, _, _, _, _, _, _, _, _, _, _, rfl, rfl, N,V,S,kd,wk,wa,wb,fl,h,s,t,am,bm,hO,hX,hM,hNt,hNx,hNm,hMo,hMx,hMm,hT,hU,hKp,hD,Or.inr ⟨rfl, rfl, hS1⟩⟩
  · rw [if_neg hy00, if_neg hy00]
    exact ⟨_, _, _, _, _, _, _, _, _, _, _, _, _, _, _, _, _, _, _, _, _, _, _, _, _, _, _, _, _, _, rfl, rfl, N,V,S,kd,wk,wa,wb,fl,h,s,t,am,bm,hO,hX,hM,hNt,hNx,hNm,hMo,hMx,hMm,hT,hU,hKp,hD,Or.inr ⟨rfl, rfl, hS1⟩⟩
