theorem q_two5 {K k : Nat} (hk : k < 5) : fX5_isOfTwo K (nI k) = some (bI (decide (k ≤ 1))) := by
  have : k = 0 ∨ k = 1 ∨ k = 2 ∨ k = 3 ∨ k = 4 := by omega
  rcases this with e | e | e | e | e <;> rw [e] <;> rfl
theorem g_rightBehind {K N V S h s M : Nat} {kd wk wa wb : Nat → Nat} {gu wi st : Int32} {gK wK wA wB wN : Nat → Int32} (hK : 1000 ≤ K) (hO : SlOK N V S kd wk wa wb) (hX : SlX N V S kd wk wa wb gu wi st gK wK wA wB wN) (hh : h < 64) (hs : s < 512) (hM : M < 64) :
    fX1_rightBehind K (nI M) (nI h) (nI s) (nI V) wK wN wA wB = some (nI (rbN (hgE wk (stB wk wa wb h s)) (hgF wk wa wb) (hgT wk wa wb) M V)) := by
  obtain ⟨-, hN6, hV, -, -, hw⟩ := hO
  obtain ⟨-, -, -, -, hx⟩ := hX
  have key : ∀ d i q, i + d = V → d < q → fX1_rightBehind_L4 K (nI M) (nI h) (nI s) (nI V) wK wN wA wB q (nI (rbN (hgE wk (stB wk wa wb h s)) (hgF wk wa wb) (hgT wk wa wb) M i)) (nI i) = some (nI (rbN (hgE wk (stB wk wa wb h s)) (hgF wk wa wb) (hgT wk wa wb) M V)) := by
    intro d
    induction d with
    | zero =>
      intro i q hi hq
      obtain ⟨q, rfl⟩ : ∃ y, q = y + 1 := ⟨q - 1, by omega⟩
      have hi' : i = V := by omega
      subst hi'
      rw [fX1_rightBehind_L4, if_pos (nI_le (Nat.le_refl _) (by omega))]
    | succ d ih =>
      intro i q hi hq
      obtain ⟨q, rfl⟩ : ∃ y, q = y + 1 := ⟨q - 1, by omega⟩
      obtain ⟨w1, w2, w3, w4⟩ := hw i (by omega)
      obtain ⟨x1, x2, x3, x4⟩ := hx i (by omega)
      have ih' := ih (i + 1) q (by omega) (by omega)
      have he : hgE wk (stB wk wa wb h s) i = (decide (wk i ≤ 1) && stB wk wa wb h s i) := rfl
      have hF : hgF wk wa wb i = if wk i = 0 then wa i else wb i := rfl
      have hT : hgT wk wa wb i = if wk i = 0 then wb i else wa i := rfl
      rw [rbN, he, hF, hT] at ih'
      rw [fX1_rightBehind_L4, if_neg (nI_ge (show i < V by omega) (by omega)), q_at (show i < 9 by omega) (by omega), bd1_eq, x1, q_two5 w1, bd1_eq]
      by_cases hk : wk i ≤ 1
      · obtain ⟨w5, w6⟩ := w3 hk
        rw [decide_eq_true hk, bI_t, if_neg q_n10, p_stands (by omega) (by omega) (by omega) x4 (by omega) (fun _ => by omega), bd1_eq]
        rw [decide_eq_true hk, Bool.true_and] at ih'
        cases hst : stB wk wa wb h s i with
        | false =>
          rw [hst, Bool.false_and, if_neg (by decide)] at ih'
          rw [bI_f, if_pos rfl, bd1_eq]
          simp only [nm]
          rw [nI_1]
          exact ih'
        | true =>
          rw [hst, Bool.true_and] at ih'
          have x3' : wB i = nI (wb i) := by rw [x3, wbI, if_neg (by omega)]
          rw [bI_t, if_neg q_n10]
          simp only [q_at (show i < 9 by omega) (show 9 < 2 ^ 31 by omega), bd1_eq]
          rw [x2, x3']
          have k0 : (nI (wk i) = 0) = (wk i = 0) := propext (nI_eq (b := 0) (by omega) (by omega))
          simp only [k0]
          by_cases hk0 : wk i = 0
          · rw [if_pos hk0, if_pos hk0] at ih'
            rw [if_pos hk0, bd1_eq, if_neg q_n10, bd1_eq, if_neg q_n10, bd1_eq, q_has (by omega) (by omega), bd1_eq]
            cases hf : M.testBit (wa i) with
            | false =>
              rw [hf, if_neg (by decide)] at ih'
              rw [bI_f, if_pos rfl, bd1_eq]
              simp only [nm]
              rw [nI_1]
              exact ih'
            | true =>
              rw [hf, if_pos rfl] at ih'
              rw [bI_t, if_neg q_n10]
              simp only [nm]
              rw [q_or1 (show wb i < 31 by omega), bd1_eq, nI_1]
              exact ih'
          · rw [if_neg hk0, if_neg hk0] at ih'
            rw [if_neg hk0, bd1_eq, if_pos rfl, bd1_eq, if_pos rfl, bd1_eq, q_has (by omega) (by omega), bd1_eq]
            cases hf : M.testBit (wb i) with
            | false =>
              rw [hf, if_neg (by decide)] at ih'
              rw [bI_f, if_pos rfl, bd1_eq]
              simp only [nm]
              rw [nI_1]
              exact ih'
            | true =>
              rw [hf, if_pos rfl] at ih'
              rw [bI_t, if_neg q_n10]
              simp only [nm]
              rw [q_or1 (show wa i < 31 by omega), bd1_eq, nI_1]
              exact ih'
      · rw [decide_eq_false hk, Bool.false_and, Bool.false_and, if_neg (by decide)] at ih'
        rw [decide_eq_false hk, bI_f, if_pos rfl, bd1_eq]
        simp only [nm]
        rw [nI_1]
        exact ih'
  unfold fX1_rightBehind
  have e := key V 0 K (by omega) (by omega)
  change fX1_rightBehind_L4 _ _ _ _ _ _ _ _ _ _ 0 0 = _ at e
  rw [e, bd1_eq]
theorem hgT_lt {N V S h s : Nat} {kd wk wa wb : Nat → Nat} (hO : SlOK N V S kd wk wa wb) : ∀ w, w < V → hgE wk (stB wk wa wb h s) w = true → hgT wk wa wb w < N := by
  intro w hw he
  obtain ⟨w1, w2, w3, w4⟩ := hO.2.2.2.2.2 w hw
  unfold hgE at he
  rw [Bool.and_eq_true, decide_eq_true_iff] at he
  unfold hgT
  split
  · exact (w3 he.1).1
  · exact w2
/-- on whom a guest hangs, and himself -/
def hgC (N V : Nat) (wk wa wb : Nat → Nat) (h s g : Nat) : Nat := itr (fun M => M ||| rbN (hgE wk (stB wk wa wb h s)) (hgF wk wa wb) (hgT wk wa wb) M V) N (2 ^ g)
theorem l_off {K M g : Nat} (hM : M < 64) (hg : g < 6) : nI M &&& (((1 : Int32) <<< (nI g &&& 31)) ^^^ (-1)) = nI (M &&& (2 ^ 32 - 1 - 2 ^ g)) := by
  rw [q_shl (by omega), q_m1, q_xor, q_and]
  have : 2 ^ g ^^^ (2 ^ 32 - 1) = 2 ^ 32 - 1 - 2 ^ g := by
    have : g = 0 ∨ g = 1 ∨ g = 2 ∨ g = 3 ∨ g = 4 ∨ g = 5 := by omega
    rcases this with rfl | rfl | rfl | rfl | rfl | rfl <;> decide
  rw [this]
theorem g_hangingOn {K N V S h s g : Nat} {kd wk wa wb : Nat → Nat} {gu wi st : Int32} {gK wK wA wB wN : Nat → Int32} (hK : 1000 ≤ K) (hO : SlOK N V S kd wk wa wb) (hX : SlX N V S kd wk wa wb gu wi st gK wK wA wB wN) (hh : h < 64) (hs : s < 512) (hg : g < N) :
    fX1_hangingOn K (nI g) (nI h) (nI s) (nI N) (nI V) wK wN wA wB = some (nI (hgC N V wk wa wb h s g &&& (2 ^ 32 - 1 - 2 ^ g))) := by
  have hN6 := hO.2.1
  have hP := rb_pas (N := N) (V := V) (e := hgE wk (stB wk wa wb h s)) (f := hgF wk wa wb) (t := hgT wk wa wb) (hgT_lt hO)
  have h64 : 2 ^ N ≤ 2 ^ 6 := Nat.pow_le_pow_right (by omega) hN6
  have hM : 2 ^ g < 2 ^ N := Nat.pow_lt_pow_right (by omega) hg
  have key : ∀ d i q, i + d = N → d < q → fX1_hangingOn_L6 K (nI h) (nI s) (nI N) (nI V) wK wN wA wB q (nI (itr (fun M => M ||| rbN (hgE wk (stB wk wa wb h s)) (hgF wk wa wb) (hgT wk wa wb) M V) i (2 ^ g))) (nI i) = some (nI (hgC N V wk wa wb h s g)) := by
    intro d
    induction d with
    | zero =>
      intro i q hi hq
      obtain ⟨q, rfl⟩ : ∃ y, q = y + 1 := ⟨q - 1, by omega⟩
      have hi' : i = N := by omega
      subst hi'
      rw [fX1_hangingOn_L6, if_pos (nI_le (Nat.le_refl _) (by omega))] <;> rfl
    | succ d ih =>
      intro i q hi hq
      obtain ⟨q, rfl⟩ : ∃ y, q = y + 1 := ⟨q - 1, by omega⟩
      have hl := itr_lt hP hM i
      rw [fX1_hangingOn_L6, if_neg (nI_ge (show i < N by omega) (by omega)), g_rightBehind hK hO hX hh hs (by omega), bd1_eq]
      simp only [nm]
      rw [q_or, nI_1]
      exact ih (i + 1) q (by omega) (by omega)
  have e := key N 0 K (by omega) (by omega)
  change fX1_hangingOn_L6 _ _ _ _ _ _ _ _ _ _ (nI (2 ^ g)) 0 = _ at e
  have hl := itr_lt hP hM N
  unfold fX1_hangingOn
  rw [q_shl (show g < 31 by omega)]
  simp only [nm]
  rw [e, bd1_eq, ← q_shl (show g < 31 by omega), l_off (K := K) (show hgC N V wk wa wb h s g < 64 from Nat.lt_of_lt_of_le hl h64) (by omega)]
theorem m_pass {K N V S h s M : Nat} {kd wk wa wb : Nat → Nat} {gu wi st : Int32} {gK wK wA wB : Nat → Int32} (hK : 1000 ≤ K) (hO : SlOK N V S kd wk wa wb) (hX : SlM N V S kd wk wa wb gu wi st gK wK wA wB) (hM : M < 2 ^ N) :
    fX9_hangsOn_L28 K (nI (mkb (stB wk wa wb h s) V)) (nI V) wA wK wB K (nI M) 0 = some (nI (ipN (hgE wk (stB wk wa wb h s)) (hgF wk wa wb) (hgT wk wa wb) M V)) := by
  have hlt := ip_lt (f := hgF wk wa wb) (M := M) (hgT_lt (h := h) (s := s) hO) hM
  obtain ⟨-, hN6, hV, -, -, hw⟩ := hO
  obtain ⟨-, -, -, -, hx⟩ := hX
  have h64 : 2 ^ N ≤ 2 ^ 6 := Nat.pow_le_pow_right (by omega) hN6
  have hm : mkb (stB wk wa wb h s) V < 2 ^ 31 := q_lt9 (mkb_lt _ _) hV
  have key : ∀ d i q, i + d = V → d < q → fX9_hangsOn_L28 K (nI (mkb (stB wk wa wb h s) V)) (nI V) wA wK wB q (nI (ipN (hgE wk (stB wk wa wb h s)) (hgF wk wa wb) (hgT wk wa wb) M i)) (nI i) = some (nI (ipN (hgE wk (stB wk wa wb h s)) (hgF wk wa wb) (hgT wk wa wb) M V)) := by
    intro d
    induction d with
    | zero =>
      intro i q hi hq
      obtain ⟨q, rfl⟩ : ∃ y, q = y + 1 := ⟨q - 1, by omega⟩
      have hi' : i = V := by omega
      subst hi'
      rw [fX9_hangsOn_L28, if_pos (nI_le (Nat.le_refl _) (by omega))]
    | succ d ih =>
      intro i q hi hq
      obtain ⟨q, rfl⟩ : ∃ y, q = y + 1 := ⟨q - 1, by omega⟩
      obtain ⟨w1, w2, w3, w4⟩ := hw i (by omega)
      obtain ⟨x1, x2, x3⟩ := hx i (by omega)
      have hli := hlt i (by omega)
      have ih' := ih (i + 1) q (by omega) (by omega)
      have he : hgE wk (stB wk wa wb h s) i = (decide (wk i ≤ 1) && stB wk wa wb h s i) := rfl
      have hF : hgF wk wa wb i = if wk i = 0 then wa i else wb i := rfl
      have hT : hgT wk wa wb i = if wk i = 0 then wb i else wa i := rfl
      rw [ipN, he, hF, hT] at ih'
      rw [fX9_hangsOn_L28, if_neg (nI_ge (show i < V by omega) (by omega))]
      simp only [p_gd9 (show i < 9 by omega)]
      rw [nI_clamp (by omega), x1, x2]
      have k0 : (nI (wk i) = 0) = (wk i = 0) := propext (nI_eq (b := 0) (by omega) (by omega))
      simp only [k0]
      rw [q_has9 hm (by omega), mkb_test, decide_eq_true (show i < V by omega), Bool.true_and, p_ofTwo (by omega) x1 w1]
      by_cases hk : wk i ≤ 1
      · obtain ⟨w5, w6⟩ := w3 hk
        have x3' : wB i = nI (wb i) := by rw [x3, wbI, if_neg (by omega)]
        rw [decide_eq_true hk, Bool.true_and] at ih'
        rw [x3', decide_eq_true hk]
        cases hst : stB wk wa wb h s i with
        | false =>
          rw [hst, Bool.false_and, if_neg (by decide)] at ih'
          by_cases hk0 : wk i = 0
          · rw [if_pos hk0, bd1_eq, if_pos hk0, bd1_eq, bI_f, bd1_eq, if_pos rfl, bd1_eq, if_pos rfl, bd1_eq]
            simp only [nm]
            rw [q_or0, nI_1]
            exact ih'
          · rw [if_neg hk0, bd1_eq, if_neg hk0, bd1_eq, bI_f, bd1_eq, if_pos rfl, bd1_eq, if_pos rfl, bd1_eq]
            simp only [nm]
            rw [q_or0, nI_1]
            exact ih'
        | true =>
          rw [hst, Bool.true_and] at ih'
          by_cases hk0 : wk i = 0
          · rw [if_pos hk0, if_pos hk0] at ih'
            rw [if_pos hk0, bd1_eq, if_pos hk0, bd1_eq, bI_t, bd1_eq, if_neg q_n10, bd1_eq, if_neg q_n10, q_has9 (by omega) (by omega), bd1_eq]
            cases hf : (ipN (hgE wk (stB wk wa wb h s)) (hgF wk wa wb) (hgT wk wa wb) M i).testBit (wa i) with
            | false =>
              rw [hf, if_neg (by decide)] at ih'
              rw [bI_f, if_pos rfl, bs0, bd1_eq, if_pos rfl, bd1_eq]
              simp only [nm]
              rw [q_or0, nI_1]
              exact ih'
            | true =>
              rw [hf, if_pos rfl] at ih'
              rw [bI_t, if_neg q_n10, bs0, bd1_eq, if_neg q_n10, bd1_eq]
              simp only [nm]
              rw [q_or1 (show wb i < 31 by omega), nI_1]
              exact ih'
          · rw [if_neg hk0, if_neg hk0] at ih'
            rw [if_neg hk0, bd1_eq, if_neg hk0, bd1_eq, bI_t, bd1_eq, if_neg q_n10, bd1_eq, if_neg q_n10, q_has9 (by omega) (by omega), bd1_eq]
            cases hf : (ipN (hgE wk (stB wk wa wb h s)) (hgF wk wa wb) (hgT wk wa wb) M i).testBit (wb i) with
            | false =>
              rw [hf, if_neg (by decide)] at ih'
              rw [bI_f, if_pos rfl, bs0, bd1_eq, if_pos rfl, bd1_eq]
              simp only [nm]
              rw [q_or0, nI_1]
              exact ih'
            | true =>
              rw [hf, if_pos rfl] at ih'
              rw [bI_t, if_neg q_n10, bs0, bd1_eq, if_neg q_n10, bd1_eq]
              simp only [nm]
              rw [q_or1 (show wa i < 31 by omega), nI_1]
              exact ih'
      · rw [decide_eq_false hk, Bool.false_and, Bool.false_and, if_neg (by decide)] at ih'
        have hk0 : ¬ wk i = 0 := by omega
        rw [decide_eq_false hk, if_neg hk0, bd1_eq, if_neg hk0, bd1_eq]
        cases hst : stB wk wa wb h s i with
        | false =>
          rw [bI_f, bd1_eq, if_pos rfl, bd1_eq, if_pos rfl, bd1_eq]
          simp only [nm]
          rw [q_or0, nI_1]
          exact ih'
        | true =>
          rw [bI_t, bd1_eq, if_neg q_n10, bd1_eq, bI_f, if_pos rfl, bs0, bd1_eq, if_pos rfl, bd1_eq]
          simp only [nm]
          rw [q_or0, nI_1]
          exact ih'
  have e := key V 0 K (by omega) (by omega)
  exact e
theorem m_hangsOn {K N V S h s g : Nat} {kd wk wa wb : Nat → Nat} {gu wi sta : Int32} {gK wK wA wB st : Nat → Int32} (hK : 1000 ≤ K) (hO : SlOK N V S kd wk wa wb) (hX : SlM N V S kd wk wa wb gu wi sta gK wK wA wB) (hst0 : st 0 = nI h) (hst1 : st 1 = nI s) (hh : h < 64) (hs : s < 512) (hg : g < N) :
    fX9_hangsOn K (nI g) (nI V) st wA wK wB = some (nI (hgC N V wk wa wb h s g &&& (2 ^ 32 - 1 - 2 ^ g))) := by
  have hN6 := hO.2.1
  have hP := ip_pas (N := N) (V := V) (e := hgE wk (stB wk wa wb h s)) (f := hgF wk wa wb) (t := hgT wk wa wb) (hgT_lt hO)
  have hP1 := rb_pas (N := N) (V := V) (e := hgE wk (stB wk wa wb h s)) (f := hgF wk wa wb) (t := hgT wk wa wb) (hgT_lt hO)
  have h64 : 2 ^ N ≤ 2 ^ 6 := Nat.pow_le_pow_right (by omega) hN6
  have hM : 2 ^ g < 2 ^ N := Nat.pow_lt_pow_right (by omega) hg
  have key : ∀ d i q, i + d = 6 → d < q → fX9_hangsOn_L18 K (nI (mkb (stB wk wa wb h s) V)) (nI V) wA wK wB q (nI (itr (fun M => ipN (hgE wk (stB wk wa wb h s)) (hgF wk wa wb) (hgT wk wa wb) M V) i (2 ^ g))) (nI i) = some (nI (itr (fun M => ipN (hgE wk (stB wk wa wb h s)) (hgF wk wa wb) (hgT wk wa wb) M V) 6 (2 ^ g))) := by
    intro d
    induction d with
    | zero =>
      intro i q hi hq
      obtain ⟨q, rfl⟩ : ∃ y, q = y + 1 := ⟨q - 1, by omega⟩
      have hi' : i = 6 := by omega
      subst hi'
      rw [fX9_hangsOn_L18, if_pos (by decide)]
    | succ d ih =>
      intro i q hi hq
      obtain ⟨q, rfl⟩ : ∃ y, q = y + 1 := ⟨q - 1, by omega⟩
      have hl := itr_lt hP hM i
      rw [fX9_hangsOn_L18, if_neg (show ¬ (6 : Int32) ≤ nI i from nI_ge (b := 6) (show i < 6 by omega) (by omega)), m_pass hK hO hX hl, bd1_eq]
      simp only [nm]
      rw [nI_1]
      exact ih (i + 1) q (by omega) (by omega)
  have e := key 6 0 K (by omega) (by omega)
  change fX9_hangsOn_L18 _ _ _ _ _ _ _ (nI (2 ^ g)) 0 = _ at e
  rw [← hg_uni hN6 hP1 hP hg] at e
  have hl := itr_lt hP1 hM N
  unfold fX9_hangsOn
  rw [gd_pos (by decide), show (0 : Int32).toNatClampNeg = 0 from rfl, hst0, p_standing9 hK hO.2.2.1 (by omega) (by omega) hst1 (fun w hw => by
    obtain ⟨w1, w2, w3, w4⟩ := hO.2.2.2.2.2 w hw
    obtain ⟨x1, x2, x3⟩ := hX.2.2.2.2 w hw
    exact ⟨x1, x2, x3, w1, by omega, fun q => by have := (w3 q).1; omega⟩), bd1_eq, q_shl (show g < 31 by omega)]
  simp only [nm]
  rw [e, bd1_eq, ← q_shl (show g < 31 by omega), l_off (K := K) (Nat.lt_of_lt_of_le hl h64) (by omega)] <;> rfl
theorem s_hangs {X_surveyed X_text_length : Int32} {X_text_letters : (Nat → Int32)} {X_draft_guests X_draft_wishes X_draft_start : Int32} {X_draft_guestKind X_draft_guestFloor X_draft_wishKind X_draft_wishA X_draft_wishB X_draft_wishNames : (Nat → Int32)} {X_reader_next X_slate_guests X_slate_wishes X_slate_start : Int32} {X_slate_guestKind X_slate_guestFloor X_slate_wishKind X_slate_wishA X_slate_wishB X_slate_wishNames : (Nat → Int32)} {X_tonight_here X_tonight_struck : Int32} {X_tonight_floors : (Nat → Int32)} {X_otherNight_here X_otherNight_struck : Int32} {X_otherNight_floors : (Nat → Int32)} {X_undoable_size : Int32} {X_undoable_nights : (Nat → Int64)} {X_kept_size : Int32} {X_kept_nights : (Nat → Int64)} {X_mornings_told : Int32} {X_mornings_ahead X_mornings_behind : (Nat → Int32)} {X_survey_standing X_survey_goodRounds X_survey_soonestEnd X_survey_roundsAsWoken X_survey_round_size X_survey_round_end : Int32} {X_survey_round_order X_survey_round_places X_survey_round_times X_survey_round_waits X_survey_round_wakings X_survey_keptSets X_survey_firstGood X_survey_soonestGood X_survey_earliest X_survey_latest X_survey_behind X_survey_behindAsWoken : (Nat → Int32)} {X_otherSurvey_standing X_otherSurvey_goodRounds X_otherSurvey_soonestEnd X_otherSurvey_roundsAsWoken X_otherSurvey_round_size X_otherSurvey_round_end : Int32} {X_otherSurvey_round_order X_otherSurvey_round_places X_otherSurvey_round_times X_otherSurvey_round_waits X_otherSurvey_round_wakings X_otherSurvey_keptSets X_otherSurvey_firstGood X_otherSurvey_soonestGood X_otherSurvey_earliest X_otherSurvey_latest X_otherSurvey_behind X_otherSurvey_behindAsWoken X_endsWithout : (Nat → Int32)} {M_guests M_wishes M_begins M_acts M_keeps M_wokes M_texted M_at M_readGuests M_readWishes M_readBegins M_here M_stands M_many M_rounds : Int32} {M_kinds M_wishKind M_wishA M_wishB M_st M_was M_kept M_woke M_text M_told M_readKinds M_readFloors M_readWishKind M_readWishA M_readWishB M_come M_keptBy M_endsAt M_order M_time M_place : (Nat → Int32)} (h : Rel X_surveyed X_text_length X_text_letters X_draft_guests X_draft_wishes X_draft_start X_draft_guestKind X_draft_guestFloor X_draft_wishKind X_draft_wishA X_draft_wishB X_draft_wishNames X_reader_next X_slate_guests X_slate_wishes X_slate_start X_slate_guestKind X_slate_guestFloor X_slate_wishKind X_slate_wishA X_slate_wishB X_slate_wishNames X_tonight_here X_tonight_struck X_tonight_floors X_otherNight_here X_otherNight_struck X_otherNight_floors X_undoable_size X_undoable_nights X_kept_size X_kept_nights X_mornings_told X_mornings_ahead X_mornings_behind X_survey_standing X_survey_goodRounds X_survey_soonestEnd X_survey_roundsAsWoken X_survey_round_size X_survey_round_end X_survey_round_order X_survey_round_places X_survey_round_times X_survey_round_waits X_survey_round_wakings X_survey_keptSets X_survey_firstGood X_survey_soonestGood X_survey_earliest X_survey_latest X_survey_behind X_survey_behindAsWoken X_otherSurvey_standing X_otherSurvey_goodRounds X_otherSurvey_soonestEnd X_otherSurvey_roundsAsWoken X_otherSurvey_round_size X_otherSurvey_round_end X_otherSurvey_round_order X_otherSurvey_round_places X_otherSurvey_round_times X_otherSurvey_round_waits X_otherSurvey_round_wakings X_otherSurvey_keptSets X_otherSurvey_firstGood X_otherSurvey_soonestGood X_otherSurvey_earliest X_otherSurvey_latest X_otherSurvey_behind X_otherSurvey_behindAsWoken X_endsWithout M_guests M_wishes M_begins M_acts M_keeps M_wokes M_texted M_at M_readGuests M_readWishes M_readBegins M_here M_stands M_many M_rounds M_kinds M_wishKind M_wishA M_wishB M_st M_was M_kept M_woke M_text M_told M_readKinds M_readFloors M_readWishKind M_readWishA M_readWishB M_come M_keptBy M_endsAt M_order M_time M_place) (x1 : Int32) : ∃ (r : Int32), fX8_hangs KK x1 X_slate_guests X_slate_wishes X_tonight_here X_tonight_struck X_slate_wishKind X_slate_wishNames X_slate_wishA X_slate_wishB = some r ∧ fX9_hangs KK x1 M_guests M_wishes M_st M_wishA M_wishKind M_wishB = some r ∧ Rel X_surveyed X_text_length X_text_letters X_draft_guests X_draft_wishes X_draft_start X_draft_guestKind X_draft_guestFloor X_draft_wishKind X_draft_wishA X_draft_wishB X_draft_wishNames X_reader_next X_slate_guests X_slate_wishes X_slate_start X_slate_guestKind X_slate_guestFloor X_slate_wishKind X_slate_wishA X_slate_wishB X_slate_wishNames X_tonight_here X_tonight_struck X_tonight_floors X_otherNight_here X_otherNight_struck X_otherNight_floors X_undoable_size X_undoable_nights X_kept_size X_kept_nights X_mornings_told X_mornings_ahead X_mornings_behind X_survey_standing X_survey_goodRounds X_survey_soonestEnd X_survey_roundsAsWoken X_survey_round_size X_survey_round_end X_survey_round_order X_survey_round_places X_survey_round_times X_survey_round_waits X_survey_round_wakings X_survey_keptSets X_survey_firstGood X_survey_soonestGood X_survey_earliest X_survey_latest X_survey_behind X_survey_behindAsWoken X_otherSurvey_standing X_otherSurvey_goodRounds X_otherSurvey_soonestEnd X_otherSurvey_roundsAsWoken X_otherSurvey_round_size X_otherSurvey_round_end X_otherSurvey_round_order X_otherSurvey_round_places X_otherSurvey_round_times X_otherSurvey_round_waits X_otherSurvey_round_wakings X_otherSurvey_keptSets X_otherSurvey_firstGood X_otherSurvey_soonestGood X_otherSurvey_earliest X_otherSurvey_latest X_otherSurvey_behind X_otherSurvey_behindAsWoken X_endsWithout M_guests M_wishes M_begins M_acts M_keeps M_wokes M_texted M_at M_readGuests M_readWishes M_readBegins M_here M_stands M_many M_rounds M_kinds M_wishKind M_wishA M_wishB M_st M_was M_kept M_woke M_text M_told M_readKinds M_readFloors M_readWishKind M_readWishA M_readWishB M_come M_keptBy M_endsAt M_order M_time M_place := by
  obtain ⟨N,V,S,kd,wk,wa,wb,fl,h,s,t,am,bm,hO,hX,hM,hNt,hNx,hNm,hMo,hMx,hMm,hT,hU,hKp,hD,hSv⟩ := h
  unfold fX8_hangs fX9_hangs
  have h64 : h < 64 := h_64 hNt.1 hO.2.1
  have hs5 : s < 512 := Nat.lt_of_lt_of_le hNt.2.1 (Nat.pow_le_pow_right (by omega) hO.2.2.1)
  have hg1 := hX.1
  have hg2 := hM.1
  have hg3 := hX.2.1
  have hg4 := hM.2.1
  have hn1 := hNx.1
  have hn2 := hNx.2.1
  subst hg1 hg2 hg3 hg4 hn1 hn2
  rcases q_guest (K := KK) hO.2.1 x1 with ⟨e, e'⟩ | ⟨g, hg, rfl, e, e'⟩
  · rw [e, e', bd1_eq, bd1_eq, if_pos rfl, if_pos rfl]
    exact ⟨_, rfl, rfl, N,V,S,kd,wk,wa,wb,fl,h,s,t,am,bm,hO,hX,hM,hNt,hNx,hNm,hMo,hMx,hMm,hT,hU,hKp,hD,hSv⟩
  have hN6 := hO.2.1
  rw [e, e', bd1_eq, bd1_eq, if_neg q_n10, if_neg q_n10, q_has (by omega) (by omega), m_isHere hNm.1 h64 (by omega), bd1_eq, bd1_eq]
  cases hb : h.testBit g with
  | false =>
    rw [bI_f, if_pos rfl, if_pos rfl]
    exact ⟨_, rfl, rfl, N,V,S,kd,wk,wa,wb,fl,h,s,t,am,bm,hO,hX,hM,hNt,hNx,hNm,hMo,hMx,hMm,hT,hU,hKp,hD,hSv⟩
  | true =>
    rw [bI_t, if_neg q_n10, if_neg q_n10, g_hangingOn KK_ge hO hX h64 hs5 hg, m_hangsOn KK_ge hO hM hNm.1 hNm.2.1 h64 hs5 hg, bd1_eq]
    exact ⟨_, rfl, rfl, N,V,S,kd,wk,wa,wb,fl,h,s,t,am,bm,hO,hX,hM,hNt,hNx,hNm,hMo,hMx,hMm,hT,hU,hKp,hD,hSv⟩
