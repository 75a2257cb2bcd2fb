/-! the class's small ones: copies, fills, what agrees with other mornings, who waits -/
theorem g_copy {K : Nat} {P Q : Nat → Int32} (hK : 1000 ≤ K) : ∃ T, fX8_copy K 6 6 P Q = some T ∧ ∀ k, k < 6 → T k = P k := by
  have key : ∀ d i n (T : Nat → Int32), i + d = 6 → d < n → (∀ k, k < i → T k = P k) → ∃ T', fX8_copy_L2 K 6 6 P n (nI i) T = some T' ∧ ∀ k, k < 6 → T' k = P k := by
    intro d
    induction d with
    | zero =>
      intro i n T hi hn hT
      obtain ⟨n, rfl⟩ : ∃ q, n = q + 1 := ⟨n - 1, by omega⟩
      have : i = 6 := by omega
      subst this
      exact ⟨T, by rw [fX8_copy_L2, if_pos (nI_le (Nat.le_refl _) (by omega))], hT⟩
    | succ d ih =>
      intro i n T hi hn hT
      obtain ⟨n, rfl⟩ : ∃ q, n = q + 1 := ⟨n - 1, by omega⟩
      rw [fX8_copy_L2, if_neg (nI_ge (by omega) (by omega)), if_neg (nI_ge (by omega) (by omega)), p_gd6 (show i < 6 by omega), p_gd6 (show i < 6 by omega)]
      simp only [nm, nI_1, nI_clamp (show i < 2 ^ 31 by omega)]
      exact ih (i + 1) n _ (by omega) (by omega) (fun k hk => by
        by_cases hki : k = i
        · subst hki; rw [q_updS]
        · rw [q_updN hki]; exact hT k (by omega))
  unfold fX8_copy
  obtain ⟨T', e, h⟩ := key 6 0 K Q (by omega) (by omega) (fun k hk => absurd hk (by omega))
  change fX8_copy_L2 _ _ _ _ _ 0 _ = _ at e
  rw [e, bd1_eq]
  exact ⟨T', rfl, h⟩
theorem g_fill {K N : Nat} {v : Int32} {P : Nat → Int32} (hN : N ≤ 512) (hK : 1000 ≤ K) : ∃ T, fJ7_fill_53178 K N v P = some T ∧ ∀ k, k < N → T k = v := by
  have key : ∀ d i n (T : Nat → Int32), i + d = N → d < n → (∀ k, k < i → T k = v) → ∃ T', fJ7_fill_53178_L5 K N v (nI N) n (nI i) T = some T' ∧ ∀ k, k < N → T' k = v := by
    intro d
    induction d with
    | zero =>
      intro i n T hi hn hT
      obtain ⟨n, rfl⟩ : ∃ q, n = q + 1 := ⟨n - 1, by omega⟩
      have : i = N := by omega
      subst this
      exact ⟨T, by rw [fJ7_fill_53178_L5, if_pos (nI_le (Nat.le_refl _) (by omega))], hT⟩
    | succ d ih =>
      intro i n T hi hn hT
      obtain ⟨n, rfl⟩ : ∃ q, n = q + 1 := ⟨n - 1, by omega⟩
      rw [fJ7_fill_53178_L5, if_neg (nI_ge (by omega) (by omega)), p_gd (show i < N by omega) (by omega)]
      simp only [nm, nI_1, nI_clamp (show i < 2 ^ 31 by omega)]
      exact ih (i + 1) n _ (by omega) (by omega) (fun k hk => by
        by_cases hki : k = i
        · subst hki; rw [q_updS]
        · rw [q_updN hki]; exact hT k (by omega))
  unfold fJ7_fill_53178
  obtain ⟨T', e, h⟩ := key N 0 K P (by omega) (by omega) (fun k hk => absurd hk (by omega))
  change fJ7_fill_53178_L5 _ _ _ _ _ 0 _ = _ at e
  simp only [nm]
  rw [e, bd1_eq]
  exact ⟨T', rfl, h⟩
theorem alI_false {p : Nat → Bool} {i t : Nat} (h : p i = false) (hi : i < t) : alI p t = false := by
  induction t with
  | zero => omega
  | succ t ih =>
    rw [alI]
    by_cases hit : i = t
    · subst hit; rw [h, Bool.and_false]
    · rw [ih (by omega), Bool.false_and]
theorem alI_true {p : Nat → Bool} : ∀ {t : Nat}, (∀ i, i < t → p i = true) → alI p t = true
  | 0, _ => rfl
  | t + 1, h => by rw [alI, alI_true (fun i hi => h i (by omega)), h t (by omega)]; rfl
theorem g_agree {K h t : Nat} {am bm : Nat → Nat} {o : List Nat} {ah be places : Nat → Int32} (hK : 1000 ≤ K) (hh : h < 64) (ht : t ≤ 6) (ho : o.length ≤ 6) (hp : ∀ g, g ∈ mem h → places g = nI (o.idxOf g)) (hm : ∀ i, i < t → ah i = nI (am i) ∧ be i = nI (bm i) ∧ am i < 6 ∧ bm i < 6) :
    fX0_agreeWith K (nI h) (nI t) ah be places = some (bI (wkO h t am bm o)) := by
  have key : ∀ d i n, i + d = t → d < n → (∀ j, j < i → wkP h am bm o j = true) → fX0_agreeWith_L2 K (nI h) (nI t) ah be places n (nI i) = some (if wkO h t am bm o = true then .inr () else .inl 0) := by
    intro d
    induction d with
    | zero =>
      intro i n hi hn hj
      obtain ⟨n, rfl⟩ : ∃ q, n = q + 1 := ⟨n - 1, by omega⟩
      have : i = t := by omega
      subst this
      rw [fX0_agreeWith_L2, if_pos (nI_le (Nat.le_refl _) (by omega)), wkO, alI_true hj, if_pos rfl]
    | succ d ih =>
      intro i n hi hn hj
      obtain ⟨n, rfl⟩ : ∃ q, n = q + 1 := ⟨n - 1, by omega⟩
      obtain ⟨m1, m2, m3, m4⟩ := hm i (by omega)
      rw [fX0_agreeWith_L2, if_neg (nI_ge (by omega) (by omega)), q_at (show i < 6 by omega) (by omega), bd1_eq, q_at (show i < 6 by omega) (by omega), bd1_eq, m1, m2, q_has (by omega) (by omega), bd1_eq]
      have go : wkP h am bm o i = true → (nm (nI i + 1) fun x3_1 => fX0_agreeWith_L2 K (nI h) (nI t) ah be places n x3_1) = some (if wkO h t am bm o = true then .inr () else .inl 0) := by
        intro hw
        simp only [nm, nI_1]
        exact ih (i + 1) n (by omega) (by omega) (fun j hj2 => by
          by_cases hji : j = i
          · subst hji; exact hw
          · exact hj j (by omega))
      cases ha : h.testBit (am i) with
      | false =>
        rw [bI_f, if_pos rfl]
        exact go (by rw [wkP, ha]; rfl)
      | true =>
        rw [bI_t, if_neg q_n10, q_has (by omega) (by omega), bd1_eq]
        cases hb : h.testBit (bm i) with
        | false =>
          rw [bI_f, if_pos rfl]
          exact go (by rw [wkP, ha, hb]; rfl)
        | true =>
          rw [bI_t, if_neg q_n10]
          unfold fX4_isAhead
          rw [q_at m3 (by omega), bd1_eq, q_at m4 (by omega), bd1_eq, hp _ (mem_6.mpr ⟨m3, ha⟩), hp _ (mem_6.mpr ⟨m4, hb⟩), bI_lt _ _ (q_idxle ho _) (q_idxle ho _), bd1_eq]
          cases hc : decide (o.idxOf (am i) < o.idxOf (bm i)) with
          | false =>
            have hw : wkP h am bm o i = false := by rw [wkP, ha, hb, hc]; rfl
            rw [bI_f, if_pos rfl, wkO, alI_false hw (by omega)]
            rfl
          | true =>
            rw [bI_t, if_neg q_n10]
            exact go (by rw [wkP, ha, hb, hc]; rfl)
  unfold fX0_agreeWith
  have e := key t 0 K (by omega) (by omega) (fun j hj => absurd hj (by omega))
  change fX0_agreeWith_L2 _ _ _ _ _ _ _ 0 = _ at e
  rw [e]
  cases wkO h t am bm o <;> rfl
/-- until when the class waits -/
theorem g_notSooner {K V h s g : Nat} {wk wa wb : Nat → Nat} {wK wA wB wN : Nat → Int32} (hK : 1000 ≤ K) (hV : V ≤ 9) (hh : h < 2 ^ 31) (hs : s < 2 ^ 31) (hg : g < 6) (hN : ∀ w, w < V → wK w = nI (wk w) ∧ wA w = nI (wa w) ∧ wB w = wbI (wk w) (wb w) ∧ wN w = nI (nmM wk wa wb w) ∧ wk w < 5 ∧ wa w < 6 ∧ (wk w ≤ 1 → wb w < 6) ∧ wb w ≤ 99) :
    fX1_notSoonerThan K (nI g) (nI h) (nI s) (nI V) wK wA wN wB = some (nI (wtS wk wa wb (mkb (stB wk wa wb h s) V) g V)) := by
  have hb : ∀ w, w ≤ V → wtS wk wa wb (mkb (stB wk wa wb h s) V) g w ≤ 99 := by
    intro w
    induction w with
    | zero => intro _; exact Nat.zero_le _
    | succ w ih =>
      intro hw
      rw [wtS]
      have h1 := ih (by omega)
      have h2 := (hN w (by omega)).2.2.2.2.2.2.2
      split <;> omega
  have key : ∀ k w n, w + k = V → k < n → fX1_notSoonerThan_L4 K (nI g) (nI h) (nI s) (nI V) wK wA wN wB n (nI (wtS wk wa wb (mkb (stB wk wa wb h s) V) g w)) (nI w) = some (nI (wtS wk wa wb (mkb (stB wk wa wb h s) V) g V)) := by
    intro k
    induction k with
    | zero =>
      intro w n hw hn
      obtain ⟨n, rfl⟩ : ∃ q, n = q + 1 := ⟨n - 1, by omega⟩
      have : w = V := by omega
      subst this
      rw [fX1_notSoonerThan_L4, if_pos (nI_le (Nat.le_refl _) (by omega))]
    | succ k ih =>
      intro w n hw hn
      obtain ⟨n, rfl⟩ : ∃ q, n = q + 1 := ⟨n - 1, by omega⟩
      obtain ⟨h1, h2, h3, h4, h5, h6, h7, h8⟩ := hN w (by omega)
      have hbw := hb w (by omega)
      have ih' := ih (w + 1) n (by omega) (by omega)
      have hmb : (mkb (stB wk wa wb h s) V).testBit w = stB wk wa wb h s w := by rw [mkb_test]; simp; omega
      rw [wtS, hmb] at ih'
      rw [fX1_notSoonerThan_L4, if_neg (nI_ge (by omega) (by omega)), q_at (show w < 9 by omega) (by omega), bd1_eq, h1]
      by_cases hk3 : wk w = 3
      · have h9 : wB w = nI (wb w) := by rw [h3, wbI, if_neg (by omega)]
        rw [if_pos (show nI (wk w) = 3 by rw [hk3]; rfl), q_at (show w < 9 by omega) (by omega), bd1_eq, h2]
        by_cases hag : wa w = g
        · rw [if_pos (show nI (wa w) = nI g by rw [hag]), p_stands (by omega) hh hs h4 h6 h7, bd1_eq]
          cases hst : stB wk wa wb h s w with
          | false =>
            simp only [hst, Bool.false_eq_true, false_and, if_false] at ih'
            rw [bI_f, if_pos rfl, bd1_eq]
            simp only [nm, nI_1]
            exact ih'
          | true =>
            simp only [hst, hk3, hag, and_self, if_true] at ih'
            rw [bI_t, if_neg q_n10, q_at (show w < 9 by omega) (by omega), bd1_eq, h9, nI_max (by omega) (by omega)]
            simp only [nm, bd1_eq, nI_1]
            exact ih'
        · have hne : ¬ nI (wa w) = nI g := fun q => hag ((nI_eq (by omega) (by omega)).mp q)
          simp only [hag, and_false, if_false] at ih'
          rw [if_neg hne, bd1_eq]
          simp only [nm, nI_1]
          exact ih'
      · have hne : ¬ nI (wk w) = 3 := fun q => hk3 ((nI_eq (b := 3) (by omega) (by omega)).mp q)
        simp only [hk3, false_and, and_false, if_false] at ih'
        rw [if_neg hne, bd1_eq]
        simp only [nm, nI_1]
        exact ih'
  unfold fX1_notSoonerThan
  have := key V 0 K (by omega) (by omega)
  rw [wtS] at this
  rw [show (0 : Int32) = nI 0 from rfl, this, bd1_eq]
theorem g_waking {K g : Nat} {kinds floors : Nat → Int32} (hg : g < 6) : ∃ r, fX1_wakingOf K (nI g) kinds floors = some r := by
  unfold fX1_wakingOf
  rw [q_at hg (by omega), bd1_eq, q_at hg (by omega), bd1_eq]
  split
  · exact ⟨_, rfl⟩
  · split
    · exact ⟨_, rfl⟩
    · split <;> exact ⟨_, rfl⟩
