/-! the slate: which wishes stand -/
def stB (wk wa wb : Nat → Nat) (h s w : Nat) : Bool := h.testBit (wa w) && (decide (1 < wk w) || h.testBit (wb w)) && !s.testBit w
def nmM (wk wa wb : Nat → Nat) (w : Nat) : Nat := if wk w ≤ 1 then 2 ^ wa w ||| 2 ^ wb w else 2 ^ wa w
def wbI (k b : Nat) : Int32 := if k = 2 then -4 else nI b
/-- what a laid slate is: N guests, V wishes, S the start -/
def SlOK (N V S : Nat) (kd wk wa wb : Nat → Nat) : Prop := 1 ≤ N ∧ N ≤ 6 ∧ V ≤ 9 ∧ S ≤ 99 ∧ (∀ g, g < N → kd g < 4) ∧ ∀ w, w < V → wk w < 5 ∧ wa w < N ∧ (wk w ≤ 1 → wb w < N ∧ wa w ≠ wb w) ∧ wb w ≤ 99
/-- the class's rows of it -/
def SlX (N V S : Nat) (kd wk wa wb : Nat → Nat) (gu wi st : Int32) (gK wK wA wB wN : Nat → Int32) : Prop := gu = nI N ∧ wi = nI V ∧ st = nI S ∧ (∀ g, g < N → gK g = nI (kd g)) ∧ ∀ w, w < V → wK w = nI (wk w) ∧ wA w = nI (wa w) ∧ wB w = wbI (wk w) (wb w) ∧ wN w = nI (nmM wk wa wb w)
/-- the reference's -/
def SlM (N V S : Nat) (kd wk wa wb : Nat → Nat) (gu wi st : Int32) (gK wK wA wB : Nat → Int32) : Prop := gu = nI N ∧ wi = nI V ∧ st = nI S ∧ (∀ g, g < N → gK g = nI (kd g)) ∧ ∀ w, w < V → wK w = nI (wk w) ∧ wA w = nI (wa w) ∧ wB w = wbI (wk w) (wb w)
theorem p_sub {wk wa wb : Nat → Nat} {h w : Nat} : subm (nmM wk wa wb w) h = ((h.testBit (wa w) && (decide (1 < wk w) || h.testBit (wb w))) = true) := by
  apply propext
  unfold subm nmM
  by_cases hk : wk w ≤ 1
  · rw [if_pos hk]
    have hk2 : ¬ 1 < wk w := by omega
    constructor
    · intro H
      have h1 := H (wa w) (by simp [Nat.testBit_or, Nat.testBit_two_pow])
      have h2 := H (wb w) (by simp [Nat.testBit_or, Nat.testBit_two_pow])
      simp [h1, h2]
    · intro H i hi
      simp [hk2] at H
      rw [Nat.testBit_or, Nat.testBit_two_pow, Nat.testBit_two_pow] at hi
      simp at hi
      rcases hi with rfl | rfl
      · exact H.1
      · exact H.2
  · rw [if_neg hk]
    have hk2 : 1 < wk w := by omega
    constructor
    · intro H
      have h1 := H (wa w) (by simp [Nat.testBit_two_pow])
      simp [h1, hk2]
    · intro H i hi
      simp [hk2] at H
      rw [Nat.testBit_two_pow] at hi
      simp at hi
      subst hi
      exact H
theorem nmM_lt {wk wa wb : Nat → Nat} {w : Nat} (ha : wa w < 6) (hb : wk w ≤ 1 → wb w < 6) : nmM wk wa wb w < 64 := by
  have h1 : 2 ^ wa w < 2 ^ 6 := Nat.pow_lt_pow_right (by omega) ha
  unfold nmM
  by_cases hk : wk w ≤ 1
  · rw [if_pos hk]
    have h2 : 2 ^ wb w < 2 ^ 6 := Nat.pow_lt_pow_right (by omega) (hb hk)
    exact Nat.or_lt_two_pow h1 h2
  · rw [if_neg hk]; exact h1
theorem p_stands {K w h s : Nat} {wk wa wb : Nat → Nat} {wN : Nat → Int32} (hw : w < 9) (hh : h < 2 ^ 31) (hs : s < 2 ^ 31) (hN : wN w = nI (nmM wk wa wb w)) (ha : wa w < 6) (hb : wk w ≤ 1 → wb w < 6) :
    fX1_stands K (nI w) (nI h) (nI s) wN = some (bI (stB wk wa wb h s w)) := by
  unfold fX1_stands
  rw [q_at hw (by omega), bd1_eq, hN]
  simp only [q_nsub (Nat.lt_of_lt_of_le (nmM_lt ha hb) (by omega)), p_sub]
  rw [stB]
  by_cases h1 : (h.testBit (wa w) && (decide (1 < wk w) || h.testBit (wb w))) = true
  · rw [if_pos h1, bd1_eq, if_neg (by decide), q_has hs (by omega), bd1_eq, h1]
    cases s.testBit w <;> rfl
  · rw [if_neg h1, bd1_eq, if_pos rfl]
    simp only [Bool.not_eq_true] at h1
    rw [h1]
    rfl
theorem p_standing1L {K V h s : Nat} {wk wa wb : Nat → Nat} {wN : Nat → Int32} (hV : V ≤ 9) (hh : h < 2 ^ 31) (hs : s < 2 ^ 31) (hN : ∀ w, w < V → wN w = nI (nmM wk wa wb w) ∧ wa w < 6 ∧ (wk w ≤ 1 → wb w < 6)) :
    ∀ k w n, w + k = V → k < n → fX1_standing_L4 K (nI h) (nI s) (nI V) wN n (nI (mkb (stB wk wa wb h s) w)) (nI w) = some (nI (mkb (stB wk wa wb h s) V)) := by
  intro k
  induction k with
  | zero =>
    intro w n hw hn
    obtain ⟨n, rfl⟩ : ∃ m, n = m + 1 := ⟨n - 1, by omega⟩
    have : w = V := by omega
    subst this
    rw [fX1_standing_L4, if_pos (nI_le (Nat.le_refl _) (by omega))]
  | succ k ih =>
    intro w n hw hn
    obtain ⟨n, rfl⟩ : ∃ m, n = m + 1 := ⟨n - 1, by omega⟩
    obtain ⟨h1, h2, h3⟩ := hN w (by omega)
    rw [fX1_standing_L4, if_neg (nI_ge (by omega) (by omega)), p_stands (by omega) hh hs h1 h2 h3, bd1_eq]
    have e : nI w + 1 = nI (w + 1) := nI_1 w
    have ih' := ih (w + 1) n (by omega) (by omega)
    rw [mkb] at ih'
    cases hb : stB wk wa wb h s w with
    | false => simp only [hb, if_false, Nat.or_zero, Bool.false_eq_true] at ih'; rw [bI_f, if_pos rfl, bd1_eq]; simp only [nm, e]; exact ih'
    | true => simp only [hb, if_true] at ih'; rw [bI_t, if_neg (by decide)]; simp only [bd1_eq, nm, e, q_or1 (show w < 31 by omega)]; exact ih'
/-- the class: which stand -/
theorem p_standing1 {K V h s : Nat} {wk wa wb : Nat → Nat} {wN : Nat → Int32} (hK : 1000 ≤ K) (hV : V ≤ 9) (hh : h < 2 ^ 31) (hs : s < 2 ^ 31) (hN : ∀ w, w < V → wN w = nI (nmM wk wa wb w) ∧ wa w < 6 ∧ (wk w ≤ 1 → wb w < 6)) :
    fX1_standing K (nI h) (nI s) (nI V) wN = some (nI (mkb (stB wk wa wb h s) V)) := by
  unfold fX1_standing
  have := p_standing1L (K := K) (wN := wN) hV hh hs hN V 0 K (by omega) (by omega)
  rw [mkb] at this
  rw [show (0 : Int32) = nI 0 from rfl, this, bd1_eq]
theorem p_gd9 {α : Type} {w : Nat} (hw : w < 9) (k : Option α) : gd (¬ ((nI w : Int32) < 0 ∨ 9 ≤ (nI w).toNatClampNeg)) k = k := gd_pos (nI_in hw (by omega)) k
theorem p_gd6 {α : Type} {w : Nat} (hw : w < 6) (k : Option α) : gd (¬ ((nI w : Int32) < 0 ∨ 6 ≤ (nI w).toNatClampNeg)) k = k := gd_pos (nI_in hw (by omega)) k
theorem p_gd {α : Type} {w n : Nat} (hw : w < n) (hn : n < 2 ^ 31) (k : Option α) : gd (¬ ((nI w : Int32) < 0 ∨ n ≤ (nI w).toNatClampNeg)) k = k := gd_pos (nI_in hw hn) k
theorem p_ofTwo {K w : Nat} {wk : Nat → Nat} {wK : Nat → Int32} (hw : w < 9) (h : wK w = nI (wk w)) (h5 : wk w < 5) : fX9_isOfTwo K (nI w) wK = some (bI (decide (wk w ≤ 1))) := by
  unfold fX9_isOfTwo
  simp only [p_gd9 hw]
  rw [nI_clamp (by omega), h]
  have : wk w = 0 ∨ wk w = 1 ∨ wk w = 2 ∨ wk w = 3 ∨ wk w = 4 := by omega
  rcases this with e | e | e | e | e <;> rw [e] <;> rfl
theorem q_or0 (a : Nat) : nI a ||| 0 = nI a := (q_or a 0).trans (by rw [Nat.or_zero])
theorem p_standing9L {K V h s : Nat} {wk wa wb : Nat → Nat} {st wK wA wB : Nat → Int32} (hV : V ≤ 9) (hh : h < 2 ^ 31) (hs : s < 2 ^ 31) (hst : st 1 = nI s) (hN : ∀ w, w < V → wK w = nI (wk w) ∧ wA w = nI (wa w) ∧ wB w = wbI (wk w) (wb w) ∧ wk w < 5 ∧ wa w < 6 ∧ (wk w ≤ 1 → wb w < 6)) :
    ∀ k w n, w + k = V → k < n → fX9_standing_L4 K (nI h) (nI V) st wA wK wB n (nI (mkb (stB wk wa wb h s) w)) (nI w) = some (nI (mkb (stB wk wa wb h s) V)) := by
  intro k
  induction k with
  | zero =>
    intro w n hw hn
    obtain ⟨n, rfl⟩ : ∃ m, n = m + 1 := ⟨n - 1, by omega⟩
    have : w = V := by omega
    subst this
    rw [fX9_standing_L4, if_pos (nI_le (Nat.le_refl _) (by omega))]
  | succ k ih =>
    intro w n hw hn
    obtain ⟨n, rfl⟩ : ∃ m, n = m + 1 := ⟨n - 1, by omega⟩
    obtain ⟨h1, h2, h3, h4, h5, h6⟩ := hN w (by omega)
    have e : nI w + 1 = nI (w + 1) := nI_1 w
    have ih' := ih (w + 1) n (by omega) (by omega)
    rw [mkb] at ih'
    have hc : (nI w).toNatClampNeg = w := nI_clamp (by omega)
    rw [fX9_standing_L4, if_neg (nI_ge (by omega) (by omega)), gd_pos (by decide), show (1 : Int32).toNatClampNeg = 1 from by decide, hst, q_has9 hs (by omega), bd1_eq]
    by_cases hk : wk w ≤ 1
    · have h7 := h6 hk
      have h8 : wB w = nI (wb w) := by rw [h3, wbI, if_neg (by omega)]
      have hk2 : ¬ 1 < wk w := by omega
      simp only [p_gd9 (show w < 9 by omega)]
      simp only [hc, h2, h8, q_has9 hh (show wa w < 31 by omega), q_has9 hh (show wb w < 31 by omega), bd1_eq, p_ofTwo (show w < 9 by omega) h1 h4, q_shl (show w < 31 by omega)]
      cases ha : h.testBit (wa w) <;> cases hb : h.testBit (wb w) <;> cases hs1 : s.testBit w <;> simp [hk, hk2, ha, hb, hs1, bs0, bd1, nm, e, stB, q_or, q_or0, bI] at ih' ⊢ <;> exact ih'
    · have hk2 : 1 < wk w := by omega
      simp only [p_gd9 (show w < 9 by omega)]
      simp only [hc, h2, q_has9 hh (show wa w < 31 by omega), bd1_eq, p_ofTwo (show w < 9 by omega) h1 h4, q_shl (show w < 31 by omega)]
      cases ha : h.testBit (wa w) <;> cases hs1 : s.testBit w <;> simp [hk, hk2, ha, hs1, bs0, bd1, nm, e, stB, q_or, q_or0, bI] at ih' ⊢ <;> exact ih'
/-- the reference: which stand, when those of h are here -/
theorem p_standing9 {K V h s : Nat} {wk wa wb : Nat → Nat} {st wK wA wB : Nat → Int32} (hK : 1000 ≤ K) (hV : V ≤ 9) (hh : h < 2 ^ 31) (hs : s < 2 ^ 31) (hst : st 1 = nI s) (hN : ∀ w, w < V → wK w = nI (wk w) ∧ wA w = nI (wa w) ∧ wB w = wbI (wk w) (wb w) ∧ wk w < 5 ∧ wa w < 6 ∧ (wk w ≤ 1 → wb w < 6)) :
    fX9_standing K (nI h) (nI V) st wA wK wB = some (nI (mkb (stB wk wa wb h s) V)) := by
  unfold fX9_standing
  have := p_standing9L (K := K) hV hh hs hst hN V 0 K (by omega) (by omega)
  rw [mkb] at this
  rw [show (0 : Int32) = nI 0 from rfl, this, bd1_eq]
