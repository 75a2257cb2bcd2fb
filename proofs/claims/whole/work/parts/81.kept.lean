/-! which wishes a round keeps -/
/-- what is known of a wish's row, and of the places and times that it asks -/
def WiO (wk wa wb tm : Nat → Nat) (o : List Nat) (wK wA wB places times : Nat → Int32) (w : Nat) : Prop :=
  wK w = nI (wk w) ∧ wk w < 5 ∧ wA w = nI (wa w) ∧ wa w < 6 ∧ wB w = wbI (wk w) (wb w) ∧ wb w ≤ 99 ∧ places (wa w) = nI (o.idxOf (wa w)) ∧ times (wa w) = nI (tm (wa w)) ∧ tm (wa w) < 2 ^ 20 ∧ (wk w ≤ 1 → wb w < 6 ∧ places (wb w) = nI (o.idxOf (wb w)))
theorem q_idxle {o : List Nat} (h : o.length ≤ 6) (g : Nat) : o.idxOf g < 2 ^ 20 := Nat.lt_of_le_of_lt List.idxOf_le_length (by omega)
theorem bI_lt (a b : Nat) (ha : a < 2 ^ 20) (hb : b < 2 ^ 20) : (if nI b ≤ nI a then some (0 : Int32) else some 1) = some (bI (decide (a < b))) := by
  by_cases h : a < b
  · rw [if_neg (nI_ge h (by omega)), decide_eq_true h]; rfl
  · rw [if_pos (nI_le (by omega) (by omega)), decide_eq_false h]; rfl
theorem bI_le (a b : Nat) (ha : a < 2 ^ 20) (hb : b < 2 ^ 20) : (if nI b < nI a then some (0 : Int32) else some 1) = some (bI (decide (a ≤ b))) := by
  by_cases h : a ≤ b
  · rw [if_neg (nI_nlt h (by omega)), decide_eq_true h]; rfl
  · rw [if_pos (nI_lt (by omega) (by omega)), decide_eq_false h]; rfl
theorem bI_eq (a b : Nat) (ha : a < 2 ^ 20) (hb : b < 2 ^ 20) : (if nI a = nI b then some (1 : Int32) else some 0) = some (bI (decide (a = b))) := by
  by_cases h : a = b
  · rw [if_pos (by rw [h]), decide_eq_true h]; rfl
  · rw [if_neg (fun q => h ((nI_eq (by omega) (by omega)).mp q)), decide_eq_false h]; rfl
theorem p_isKept4 {K w : Nat} {wk wa wb tm : Nat → Nat} {o : List Nat} {wK wA wB places times : Nat → Int32} (hw : w < 9) (ho : o.length ≤ 6) (h : WiO wk wa wb tm o wK wA wB places times w) :
    fX4_isKept K (nI w) times places wA wB wK = some (bI (okW wk wa wb tm o w)) := by
  obtain ⟨h1, h2, h3, h4, h5, h6, h7, h8, h9, h10⟩ := h
  unfold fX4_isKept
  rw [q_at hw (by omega), bd1_eq, q_at hw (by omega), bd1_eq, q_at hw (by omega), bd1_eq, h1, h3, h5]
  unfold okW wbI
  have hc : wk w = 0 ∨ wk w = 1 ∨ wk w = 2 ∨ wk w = 3 ∨ wk w = 4 := by omega
  rcases hc with e | e | e | e | e
  · obtain ⟨g1, g2⟩ := h10 (by omega)
    rw [e, if_pos (show nI 0 = 0 from rfl), if_neg (by decide), if_pos rfl, q_at h4 (by omega), bd1_eq, q_at g1 (by omega), bd1_eq, h7, g2, bI_lt _ _ (q_idxle ho _) (q_idxle ho _)]
  · obtain ⟨g1, g2⟩ := h10 (by omega)
    rw [e, if_neg (show ¬ nI 1 = 0 by decide), if_pos (show nI 1 = 1 from rfl), if_neg (show ¬ 1 = 2 by decide), if_neg (show ¬ 1 = 0 by decide), if_pos rfl, q_at h4 (by omega), bd1_eq, q_at g1 (by omega), bd1_eq, h7, g2, nI_1, bI_eq _ _ (q_idxle ho _) (by have := q_idxle ho (wb w); have : o.idxOf (wb w) ≤ o.length := List.idxOf_le_length; omega)]
  · rw [e, if_neg (show ¬ nI 2 = 0 by decide), if_neg (show ¬ nI 2 = 1 by decide), if_pos (show nI 2 = 2 from rfl), if_neg (show ¬ 2 = 0 by decide), if_neg (show ¬ 2 = 1 by decide), if_pos (show (2 : Nat) = 2 from rfl), q_at h4 (by omega), bd1_eq, h7]
    exact bI_eq _ 0 (q_idxle ho _) (by omega)
  · rw [e, if_neg (show ¬ nI 3 = 0 by decide), if_neg (show ¬ nI 3 = 1 by decide), if_neg (show ¬ nI 3 = 2 by decide), if_neg (show ¬ nI 3 = 4 by decide), if_neg (show ¬ 3 = 0 by decide), if_neg (show ¬ 3 = 1 by decide), if_neg (show ¬ 3 = 2 by decide), if_neg (show ¬ 3 = 4 by decide)]
    rfl
  · rw [e, if_neg (show ¬ nI 4 = 0 by decide), if_neg (show ¬ nI 4 = 1 by decide), if_neg (show ¬ nI 4 = 2 by decide), if_pos (show nI 4 = 4 from rfl), if_neg (show ¬ 4 = 0 by decide), if_neg (show ¬ 4 = 1 by decide), if_neg (show ¬ 4 = 2 by decide), if_pos (show (4 : Nat) = 4 from rfl), if_neg (show ¬ 4 = 2 by decide), q_at h4 (by omega), bd1_eq, h8, bI_le _ _ h9 (by omega)]
theorem p_isKept9 {K w : Nat} {wk wa wb tm : Nat → Nat} {o : List Nat} {wK wA wB places times : Nat → Int32} (hw : w < 9) (ho : o.length ≤ 6) (h : WiO wk wa wb tm o wK wA wB places times w) :
    fX9_isKept K (nI w) wA wB wK times places = some (bI (okW wk wa wb tm o w)) := by
  obtain ⟨h1, h2, h3, h4, h5, h6, h7, h8, h9, h10⟩ := h
  unfold fX9_isKept
  simp only [p_gd9 hw]
  simp only [nm, nI_clamp (show w < 2 ^ 31 by omega), h1, h3, h5]
  simp only [p_gd6 h4]
  simp only [nI_clamp (show wa w < 2 ^ 31 by omega), h7, h8]
  unfold okW
  have hc : wk w = 0 ∨ wk w = 1 ∨ wk w = 2 ∨ wk w = 3 ∨ wk w = 4 := by omega
  rcases hc with e | e | e | e | e
  · obtain ⟨g1, g2⟩ := h10 (by omega)
    unfold wbI
    rw [e, if_pos (show nI 0 = 0 from rfl), if_pos (show (0 : Nat) = 0 from rfl), if_neg (show ¬ 0 = 2 by decide)]
    simp only [p_gd6 g1]
    rw [nI_clamp (show wb w < 2 ^ 31 by omega), g2, bI_lt _ _ (q_idxle ho _) (q_idxle ho _)]
  · obtain ⟨g1, g2⟩ := h10 (by omega)
    unfold wbI
    rw [e, if_neg (show ¬ nI 1 = 0 by decide), if_pos (show nI 1 = 1 from rfl), if_neg (show ¬ 1 = 0 by decide), if_pos (show (1 : Nat) = 1 from rfl), if_neg (show ¬ 1 = 2 by decide)]
    simp only [p_gd6 g1]
    rw [nI_clamp (show wb w < 2 ^ 31 by omega), g2, nI_1, bI_eq _ _ (q_idxle ho _) (by have := q_idxle ho (wb w); have : o.idxOf (wb w) ≤ o.length := List.idxOf_le_length; omega)]
  · rw [e, if_neg (show ¬ nI 2 = 0 by decide), if_neg (show ¬ nI 2 = 1 by decide), if_pos (show nI 2 = 2 from rfl), if_neg (show ¬ 2 = 0 by decide), if_neg (show ¬ 2 = 1 by decide), if_pos (show (2 : Nat) = 2 from rfl)]
    exact bI_eq _ 0 (q_idxle ho _) (by omega)
  · rw [e, if_neg (show ¬ nI 3 = 0 by decide), if_neg (show ¬ nI 3 = 1 by decide), if_neg (show ¬ nI 3 = 2 by decide), if_pos (show nI 3 = 3 from rfl), if_neg (show ¬ 3 = 0 by decide), if_neg (show ¬ 3 = 1 by decide), if_neg (show ¬ 3 = 2 by decide), if_neg (show ¬ 3 = 4 by decide)]
    rfl
  · unfold wbI
    rw [e, if_neg (show ¬ nI 4 = 0 by decide), if_neg (show ¬ nI 4 = 1 by decide), if_neg (show ¬ nI 4 = 2 by decide), if_neg (show ¬ nI 4 = 3 by decide), if_neg (show ¬ 4 = 0 by decide), if_neg (show ¬ 4 = 1 by decide), if_neg (show ¬ 4 = 2 by decide), if_pos (show (4 : Nat) = 4 from rfl), if_neg (show ¬ 4 = 2 by decide), bI_le _ _ h9 (by omega)]
/-- the class's mask of the wishes of m that a round keeps -/
theorem p_keptOf {K V m : Nat} {wk wa wb tm : Nat → Nat} {o : List Nat} {wK wA wB places times : Nat → Int32} (hK : 1000 ≤ K) (hV : V ≤ 9) (hm : m < 2 ^ 31) (ho : o.length ≤ 6) (h : ∀ w, w < V → m.testBit w = true → WiO wk wa wb tm o wK wA wB places times w) :
    fX4_keptOf K (nI m) times places (nI V) wA wB wK = some (nI (mkb (fun w => m.testBit w && okW wk wa wb tm o w) V)) := by
  have key : ∀ k w n, w + k = V → k < n → fX4_keptOf_L5 K (nI m) times places (nI V) wA wB wK n (nI (mkb (fun w => m.testBit w && okW wk wa wb tm o w) w)) (nI w) = some (nI (mkb (fun w => m.testBit w && okW wk wa wb tm o w) V)) := by
    intro k
    induction k with
    | zero =>
      intro w n hw hn
      obtain ⟨n, rfl⟩ : ∃ q, n = q + 1 := ⟨n - 1, by omega⟩
      have : w = V := by omega
      subst this
      rw [fX4_keptOf_L5, if_pos (nI_le (Nat.le_refl _) (by omega))]
    | succ k ih =>
      intro w n hw hn
      obtain ⟨n, rfl⟩ : ∃ q, n = q + 1 := ⟨n - 1, by omega⟩
      have ih' := ih (w + 1) n (by omega) (by omega)
      rw [mkb] at ih'
      rw [fX4_keptOf_L5, if_neg (nI_ge (by omega) (by omega)), q_has hm (by omega), bd1_eq]
      cases hmb : m.testBit w with
      | false =>
        simp only [hmb, Bool.false_and, Bool.false_eq_true, if_false, Nat.or_zero] at ih'
        rw [bI_f, if_pos rfl, bd1_eq]
        simp only [nm, nI_1]
        exact ih'
      | true =>
        rw [bI_t, if_neg q_n10, p_isKept4 (by omega) ho (h w (by omega) hmb), bd1_eq]
        cases hok : okW wk wa wb tm o w with
        | false =>
          simp only [hmb, hok, Bool.and_false, Bool.false_eq_true, if_false, Nat.or_zero] at ih'
          rw [bI_f, if_pos rfl, bd1_eq]
          simp only [nm, nI_1]
          exact ih'
        | true =>
          simp only [hmb, hok, Bool.and_true, if_true] at ih'
          rw [bI_t, if_neg q_n10]
          simp only [nm, bd1_eq, nI_1, q_or1 (show w < 31 by omega)]
          exact ih'
  unfold fX4_keptOf
  have := key V 0 K (by omega) (by omega)
  rw [mkb] at this
  rw [show (0 : Int32) = nI 0 from rfl, this, bd1_eq]
