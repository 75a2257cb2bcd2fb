/-! reading: a letter, a number -/
def ltA (n : Nat) (c : Nat → Nat) (i : Nat) : Nat := if i < n then c i else 0
def TxO (n : Nat) (c : Nat → Nat) (le te : Nat → Int32) : Prop := n ≤ 200 ∧ ∀ i, i < n → 32 ≤ c i ∧ c i ≤ 126 ∧ le i = nI (c i) ∧ te i = nI (c i)
theorem q_narc {c : Nat} (hc : c ≤ 126) : vp_nar .char (nI c) = nI c := by
  have : ∀ c : Nat, c < 127 → vp_nar .char (nI c) = nI c := by decide +kernel
  exact this c (by omega)
theorem lt_le {n : Nat} {c : Nat → Nat} {le te : Nat → Int32} (h : TxO n c le te) (i : Nat) : ltA n c i ≤ 126 ∧ (i < n → 32 ≤ ltA n c i) := by
  unfold ltA
  by_cases hi : i < n
  · rw [if_pos hi]
    obtain ⟨h1, h2, -⟩ := h.2 i hi
    exact ⟨h2, fun _ => h1⟩
  · rw [if_neg hi]
    exact ⟨by omega, fun q => absurd q hi⟩
theorem g_letterAt {K n i : Nat} {c : Nat → Nat} {le te : Nat → Int32} (h : TxO n c le te) (hi : i < 1000) : fX7_letterAt K (nI i) (nI n) le = some (nI (ltA n c i)) := by
  obtain ⟨hn, hc⟩ := h
  unfold fX7_letterAt ltA
  rw [if_neg (nI_pos (by omega))]
  by_cases hin : i < n
  · obtain ⟨c1, c2, c3, -⟩ := hc i hin
    rw [if_neg (nI_ge hin (by omega)), if_neg (nI_ge (show i < 200 by omega) (by omega)), p_gd (show i < 200 by omega) (by omega), nI_clamp (by omega), c3, gd_pos (q_narc c2), if_pos hin]
  · rw [if_pos (nI_le (by omega) (by omega)), if_neg hin] <;> rfl
def lt9 (n : Nat) (c : Nat → Nat) (i : Nat) : Int32 := if i < n then nI (c i) else -1
theorem m_letterAt {K n i : Nat} {c : Nat → Nat} {le te : Nat → Int32} (h : TxO n c le te) (hi : i < 1000) : fX9_letterAt K (nI i) (nI n) te = some (lt9 n c i) := by
  obtain ⟨hn, hc⟩ := h
  unfold fX9_letterAt lt9
  by_cases hin : i < n
  · obtain ⟨c1, c2, -, c4⟩ := hc i hin
    rw [if_neg (nI_ge hin (by omega)), p_gd (show i < 200 by omega) (by omega), nI_clamp (by omega), c4, if_pos hin]
  · rw [if_pos (nI_le (by omega) (by omega)), if_neg hin]
/-- a sign is the sign -/
theorem lt9_eq {n i k : Nat} {c : Nat → Nat} {le te : Nat → Int32} (h : TxO n c le te) (hk : 1 ≤ k) (hk2 : k < 1000) : (lt9 n c i = nI k) = (ltA n c i = k) := by
  unfold lt9 ltA
  by_cases hin : i < n
  · obtain ⟨c1, c2, -⟩ := h.2 i hin
    rw [if_pos hin, if_pos hin]
    exact propext (nI_eq (by omega) (by omega))
  · rw [if_neg hin, if_neg hin]
    apply propext
    constructor
    · intro q
      exact absurd (show nI k < 0 by rw [← q]; decide) (nI_pos (by omega))
    · intro q; omega
def fgB (n : Nat) (c : Nat → Nat) (i : Nat) : Bool := decide (48 ≤ ltA n c i) && decide (ltA n c i ≤ 57)
theorem m_isFigure {K n i : Nat} {c : Nat → Nat} {le te : Nat → Int32} (h : TxO n c le te) : fX9_isFigure K (lt9 n c i) = some (bI (fgB n c i)) := by
  unfold fX9_isFigure fX9_in lt9 fgB ltA
  by_cases hin : i < n
  · obtain ⟨c1, c2, -⟩ := h.2 i hin
    rw [if_pos hin, if_pos hin]
    by_cases h1 : 48 ≤ c i
    · rw [if_neg (show ¬ nI (c i) < 48 from nI_nlt (a := c i) (b := 48) h1 (by omega)), decide_eq_true h1]
      by_cases h2 : c i ≤ 57
      · rw [if_neg (show ¬ (57 : Int32) < nI (c i) from nI_nlt (a := 57) h2 (by omega)), decide_eq_true h2, bd1_eq] <;> rfl
      · rw [if_pos (show (57 : Int32) < nI (c i) from nI_lt (a := 57) (by omega) (by omega)), decide_eq_false h2, bd1_eq] <;> rfl
    · rw [if_pos (show nI (c i) < 48 from nI_lt (b := 48) (by omega) (by omega)), decide_eq_false h1, bd1_eq] <;> rfl
  · rw [if_neg hin, if_neg hin, if_pos (by decide), bd1_eq] <;> rfl
theorem g_figureAt {K n i : Nat} {c : Nat → Nat} {le te : Nat → Int32} (h : TxO n c le te) (hi : i < 1000) : fX3_figureAt K (nI i) (nI n) le = some (if fgB n c i = true then nI (ltA n c i - 48) else -4) := by
  unfold fX3_figureAt fgB
  rw [g_letterAt h hi, bd1_eq]
  obtain ⟨l1, -⟩ := lt_le h i
  generalize ltA n c i = z at l1
  by_cases h1 : 48 ≤ z
  · rw [if_neg (show ¬ nI z < 48 from nI_nlt (a := z) (b := 48) h1 (by omega)), decide_eq_true h1]
    by_cases h2 : z ≤ 57
    · rw [if_neg (show ¬ (57 : Int32) < nI z from nI_nlt (a := 57) h2 (by omega)), decide_eq_true h2]
      have : nI z - 48 = nI (z - 48) := pk_sub (a := z) (b := 48) h1
      rw [this] <;> rfl
    · rw [if_pos (show (57 : Int32) < nI z from nI_lt (a := 57) (by omega) (by omega)), decide_eq_false h2] <;> rfl
  · rw [if_pos (show nI z < 48 from nI_lt (b := 48) (by omega) (by omega)), decide_eq_false h1] <;> rfl
/-- a number of one figure or two: what it says, where it ends -/
def rdN (n : Nat) (c : Nat → Nat) (i : Nat) : Option (Nat × Nat) :=
  if fgB n c i = true then (if fgB n c (i + 1) = true then some (10 * (ltA n c i - 48) + (ltA n c (i + 1) - 48), i + 1 + 1) else some (ltA n c i - 48, i + 1)) else none
theorem fg_rg {n i : Nat} {c : Nat → Nat} (h : fgB n c i = true) : 48 ≤ ltA n c i ∧ ltA n c i ≤ 57 ∧ i < n := by
  unfold fgB at h
  rw [Bool.and_eq_true, decide_eq_true_iff, decide_eq_true_iff] at h
  refine ⟨h.1, h.2, ?_⟩
  rcases Nat.lt_or_ge i n with q | q
  · exact q
  · have h1 := h.1
    unfold ltA at h1
    rw [if_neg (by omega)] at h1
    omega
theorem rdN_rg {n i v j : Nat} {c : Nat → Nat} (h : rdN n c i = some (v, j)) : v ≤ 99 ∧ i < j ∧ j ≤ n := by
  unfold rdN at h
  by_cases h1 : fgB n c i = true
  · obtain ⟨a1, a2, a3⟩ := fg_rg h1
    rw [if_pos h1] at h
    by_cases h2 : fgB n c (i + 1) = true
    · obtain ⟨b1, b2, b3⟩ := fg_rg h2
      rw [if_pos h2] at h
      cases h
      omega
    · rw [if_neg h2] at h
      cases h
      omega
  · rw [if_neg h1] at h; cases h
theorem g_readNumber {K n i : Nat} {c : Nat → Nat} {le te : Nat → Int32} (h : TxO n c le te) (hi : i < 900) : fX3_readNumber K (nI i) (nI n) le = some (match rdN n c i with | some (v, j) => (nI v, nI j) | none => (-4, nI i)) := by
  unfold fX3_readNumber rdN
  rw [g_figureAt h (by omega), bd1_eq]
  cases h1 : fgB n c i with
  | false =>
    rw [if_neg (show ¬ (false = true) by decide), if_neg (show ¬ (false = true) by decide), if_neg (show ¬ (0 : Int32) ≤ -4 by decide)]
  | true =>
    obtain ⟨a1, a2, a3⟩ := fg_rg h1
    rw [if_pos rfl, if_pos rfl, if_pos (nI_pos' (show ltA n c i - 48 < 2 ^ 31 by omega))]
    simp only [nm]
    rw [nI_1, g_figureAt h (by omega), bd1_eq]
    cases h2 : fgB n c (i + 1) with
    | false => rw [if_neg (show ¬ (false = true) by decide), if_neg (show ¬ (false = true) by decide), if_pos (show (-4 : Int32) < 0 by decide)]
    | true =>
      obtain ⟨b1, b2, b3⟩ := fg_rg h2
      have e10 : (10 : Int32) * nI (ltA n c i - 48) = nI (10 * (ltA n c i - 48)) := pk_mul 10 _
      rw [if_pos rfl, if_pos rfl, if_neg (nI_pos (show ltA n c (i + 1) - 48 < 2 ^ 31 by omega)), nI_1, e10, nI_add]
theorem g_readSign {K n i k : Nat} {c : Nat → Nat} {le te : Nat → Int32} (h : TxO n c le te) (hi : i < 900) (hk : k < 1000) : fX3_readSign K (nI k) (nI i) (nI n) le = some (bI (decide (ltA n c i = k)), nI (i + 1)) := by
  have hl := (lt_le h i).1
  unfold fX3_readSign
  rw [g_letterAt h (by omega), bd1_eq, nI_1]
  simp only [nm]
  by_cases hk2 : ltA n c i = k
  · rw [hk2, if_pos rfl, bd1_eq, decide_eq_true rfl] <;> rfl
  · rw [if_neg (fun q => hk2 ((nI_eq (by omega) (by omega)).mp q)), bd1_eq, decide_eq_false hk2] <;> rfl
def prs1 (n : Nat) (c : Nat → Nat) (i : Nat) : Option (Nat × Nat) := match rdN n c i with
  | some (v, j) => if ltA n c j = 59 then some (v, j + 1) else none
  | none => none
def prs2 (n : Nat) (c : Nat → Nat) (i : Nat) : Option (Nat × Nat × Nat) := match rdN n c i with
  | some (v, j) => if ltA n c j = 44 then (match rdN n c (j + 1) with
    | some (w, k) => if ltA n c k = 59 then some (v, w, k + 1) else none
    | none => none) else none
  | none => none
theorem lt_in {n i k : Nat} {c : Nat → Nat} (hk : 1 ≤ k) (h : ltA n c i = k) : i < n := by
  rcases Nat.lt_or_ge i n with q | q
  · exact q
  · unfold ltA at h
    rw [if_neg (by omega)] at h
    omega
theorem prs1_rg {n i v j : Nat} {c : Nat → Nat} (h : prs1 n c i = some (v, j)) : v ≤ 99 ∧ i < j ∧ j ≤ n := by
  unfold prs1 at h
  cases hr : rdN n c i with
  | none => rw [hr] at h; cases h
  | some p =>
    obtain ⟨u, k⟩ := p
    obtain ⟨h1, h2, h3⟩ := rdN_rg hr
    rw [hr] at h
    simp only at h
    by_cases h5 : ltA n c k = 59
    · rw [if_pos h5] at h
      have := lt_in (by omega) h5
      cases h
      omega
    · rw [if_neg h5] at h; cases h
theorem prs2_rg {n i v w j : Nat} {c : Nat → Nat} (h : prs2 n c i = some (v, w, j)) : v ≤ 99 ∧ w ≤ 99 ∧ i < j ∧ j ≤ n := by
  unfold prs2 at h
  cases hr : rdN n c i with
  | none => rw [hr] at h; cases h
  | some p =>
    obtain ⟨u, k⟩ := p
    obtain ⟨h1, h2, h3⟩ := rdN_rg hr
    rw [hr] at h
    simp only at h
    by_cases h5 : ltA n c k = 44
    · rw [if_pos h5] at h
      cases hr2 : rdN n c (k + 1) with
      | none => rw [hr2] at h; cases h
      | some p2 =>
        obtain ⟨u2, k2⟩ := p2
        obtain ⟨g1, g2, g3⟩ := rdN_rg hr2
        rw [hr2] at h
        simp only at h
        by_cases h6 : ltA n c k2 = 59
        · rw [if_pos h6] at h
          have := lt_in (by omega) h6
          cases h
          omega
        · rw [if_neg h6] at h; cases h
    · rw [if_neg h5] at h; cases h
/-- the model's number, into a place of told; then the sign behind it -/
theorem m_num {K n i k y : Nat} {c : Nat → Nat} {le te told : Nat → Int32} (h : TxO n c le te) (hi : i < 800) (hk : k < y) (hy : y ≤ 2) :
    match rdN n c i with
    | some (v, j) => ∃ told', told' k = nI v ∧ (∀ z, z ≠ k → told' z = told z) ∧ ∀ q, fX9_readNumbers_L2 K (nI y) (nI n) te (q + 1) (nI k) (nI i) told = if ltA n c j = (if k + 1 = y then 59 else 44) then fX9_readNumbers_L2 K (nI y) (nI n) te q (nI (k + 1)) (nI (j + 1)) told' else some (.inl (0, nI j, told'))
    | none => ∀ q, fX9_readNumbers_L2 K (nI y) (nI n) te (q + 1) (nI k) (nI i) told = some (.inl (0, nI i, told)) := by
  unfold rdN
  cases h1 : fgB n c i with
  | false =>
    rw [if_neg (by decide)]
    intro q
    rw [fX9_readNumbers_L2, if_neg (nI_ge hk (by omega)), m_letterAt h (by omega), bd1_eq, m_isFigure h, bd1_eq, h1, bI_f, if_pos rfl]
  | true =>
    obtain ⟨a1, a2, a3⟩ := fg_rg h1
    rw [if_pos rfl]
    have l1 : lt9 n c i = nI (ltA n c i) := by unfold lt9 ltA; rw [if_pos a3, if_pos a3]
    have e48 : nI (ltA n c i) - 48 = nI (ltA n c i - 48) := pk_sub (b := 48) a1
    cases h2 : fgB n c (i + 1) with
    | false =>
      rw [if_neg (by decide)]
      refine ⟨upd told k (nI (ltA n c i - 48)), q_updS _ _ _, fun z hz => q_updN hz, fun q => ?_⟩
      rw [fX9_readNumbers_L2, if_neg (nI_ge hk (by omega)), m_letterAt h (by omega), bd1_eq, m_isFigure h, bd1_eq, h1, bI_t, if_neg q_n10, bd1_eq, p_gd (show k < 2 by omega) (by omega), nI_clamp (by omega), l1, e48]
      simp only [nm]
      rw [nI_1, m_letterAt h (by omega), bd1_eq, m_isFigure h, bd1_eq, h2, bI_f, if_pos rfl, bd2_eq, m_letterAt h (by omega), bd1_eq]
      by_cases hky : k + 1 = y
      · subst hky
        rw [nI_pred, if_pos (nI_le (Nat.le_refl _) (by omega)), bd1_eq, if_pos rfl]
        have e59 := lt9_eq (i := i + 1) (k := 59) h (by omega) (by omega)
        change (lt9 n c (i + 1) = 59) = _ at e59
        simp only [e59, nI_1]
      · obtain ⟨y, rfl⟩ : ∃ z, y = z + 1 := ⟨y - 1, by omega⟩
        rw [nI_pred, if_neg (nI_ge (show k < y by omega) (by omega)), bd1_eq, if_neg hky]
        have e44 := lt9_eq (i := i + 1) (k := 44) h (by omega) (by omega)
        change (lt9 n c (i + 1) = 44) = _ at e44
        simp only [e44, nI_1]
    | true =>
      obtain ⟨b1, b2, b3⟩ := fg_rg h2
      have l2 : lt9 n c (i + 1) = nI (ltA n c (i + 1)) := by unfold lt9 ltA; rw [if_pos b3, if_pos b3]
      rw [if_pos rfl]
      have e10 : (10 : Int32) * nI (ltA n c i - 48) + nI (ltA n c (i + 1)) - 48 = nI (10 * (ltA n c i - 48) + (ltA n c (i + 1) - 48)) := by
        rw [show (10 : Int32) * nI (ltA n c i - 48) = nI (10 * (ltA n c i - 48)) from pk_mul 10 _, nI_add]
        have := pk_sub (a := 10 * (ltA n c i - 48) + ltA n c (i + 1)) (b := 48) (by omega)
        rw [show (10 * (ltA n c i - 48) + ltA n c (i + 1)) - 48 = 10 * (ltA n c i - 48) + (ltA n c (i + 1) - 48) by omega] at this
        exact this
      refine ⟨upd (upd told k (nI (ltA n c i - 48))) k (nI (10 * (ltA n c i - 48) + (ltA n c (i + 1) - 48))), q_updS _ _ _, fun z hz => by rw [q_updN hz, q_updN hz], fun q => ?_⟩
      rw [fX9_readNumbers_L2, if_neg (nI_ge hk (by omega)), m_letterAt h (by omega), bd1_eq, m_isFigure h, bd1_eq, h1, bI_t, if_neg q_n10, bd1_eq, p_gd (show k < 2 by omega) (by omega), nI_clamp (by omega), l1, e48]
      simp only [nm]
      rw [nI_1, m_letterAt h (by omega), bd1_eq, m_isFigure h, bd1_eq, h2, bI_t, if_neg q_n10, bd1_eq, q_gdc (show k < 2 by omega) (by omega), q_gdc (show k < 2 by omega) (by omega), q_updS, l2, e10, bd2_eq, nI_1, m_letterAt h (by omega), bd1_eq]
      by_cases hky : k + 1 = y
      · subst hky
        rw [nI_pred, if_pos (nI_le (Nat.le_refl _) (by omega)), bd1_eq, if_pos rfl]
        have e59 := lt9_eq (i := i + 1 + 1) (k := 59) h (by omega) (by omega)
        change (lt9 n c (i + 1 + 1) = 59) = _ at e59
        simp only [e59, nI_1]
      · obtain ⟨y, rfl⟩ : ∃ z, y = z + 1 := ⟨y - 1, by omega⟩
        rw [nI_pred, if_neg (nI_ge (show k < y by omega) (by omega)), bd1_eq, if_neg hky]
        have e44 := lt9_eq (i := i + 1 + 1) (k := 44) h (by omega) (by omega)
        change (lt9 n c (i + 1 + 1) = 44) = _ at e44
        simp only [e44, nI_1]
theorem m_read1 {n i : Nat} {c : Nat → Nat} {le te : Nat → Int32} (h : TxO n c le te) (hi : i < 700) (told : Nat → Int32) :
    match prs1 n c i with
    | some (v, j) => ∃ told', told' 0 = nI v ∧ fX9_readNumbers KK 1 (nI n) (nI i) te told = some (1, nI j, told')
    | none => ∃ at' told', fX9_readNumbers KK 1 (nI n) (nI i) te told = some (0, at', told') := by
  have e := m_num (K := KK) (told := told) (i := i) (k := 0) (y := 1) h (by omega) (by omega) (by omega)
  unfold prs1
  cases hr : rdN n c i with
  | none =>
    rw [hr] at e
    refine ⟨nI i, told, ?_⟩
    unfold fX9_readNumbers
    have e2 := e 999
    change fX9_readNumbers_L2 KK 1 _ _ KK 0 _ _ = _ at e2
    rw [e2] <;> rfl
  | some p =>
    obtain ⟨v, j⟩ := p
    rw [hr] at e
    obtain ⟨told', t1, t2, t3⟩ := e
    have e2 := t3 999
    change fX9_readNumbers_L2 KK 1 _ _ KK 0 _ _ = _ at e2
    simp only
    by_cases h5 : ltA n c j = 59
    · rw [if_pos h5]
      rw [if_pos (show ltA n c j = (if 0 + 1 = 1 then 59 else 44) from h5)] at e2
      refine ⟨told', t1, ?_⟩
      unfold fX9_readNumbers
      rw [e2, show (999 : Nat) = 998 + 1 from rfl, fX9_readNumbers_L2, if_pos (show nI 1 ≤ nI (0 + 1) from Int32.le_refl _)] <;> rfl
    · rw [if_neg h5]
      rw [if_neg (show ¬ ltA n c j = (if 0 + 1 = 1 then 59 else 44) from h5)] at e2
      refine ⟨nI j, told', ?_⟩
      unfold fX9_readNumbers
      rw [e2] <;> rfl
theorem m_read2 {n i : Nat} {c : Nat → Nat} {le te : Nat → Int32} (h : TxO n c le te) (hi : i < 700) (told : Nat → Int32) :
    match prs2 n c i with
    | some (v, w, j) => ∃ told', told' 0 = nI v ∧ told' 1 = nI w ∧ fX9_readNumbers KK 2 (nI n) (nI i) te told = some (1, nI j, told')
    | none => ∃ at' told', fX9_readNumbers KK 2 (nI n) (nI i) te told = some (0, at', told') := by
  have e := m_num (K := KK) (told := told) (i := i) (k := 0) (y := 2) h (by omega) (by omega) (by omega)
  unfold prs2
  cases hr : rdN n c i with
  | none =>
    rw [hr] at e
    refine ⟨nI i, told, ?_⟩
    unfold fX9_readNumbers
    have e2 := e 999
    change fX9_readNumbers_L2 KK 2 _ _ KK 0 _ _ = _ at e2
    rw [e2] <;> rfl
  | some p =>
    obtain ⟨v, j⟩ := p
    have hrg := rdN_rg hr
    rw [hr] at e
    obtain ⟨told', t1, t2, t3⟩ := e
    have e2 := t3 999
    change fX9_readNumbers_L2 KK 2 _ _ KK 0 _ _ = _ at e2
    simp only
    by_cases h5 : ltA n c j = 44
    · rw [if_pos h5]
      rw [if_pos (show ltA n c j = (if 0 + 1 = 2 then 59 else 44) from h5)] at e2
      have hn := h.1
      have f := m_num (K := KK) (told := told') (i := j + 1) (k := 1) (y := 2) h (by omega) (by omega) (by omega)
      cases hr2 : rdN n c (j + 1) with
      | none =>
        rw [hr2] at f
        refine ⟨nI (j + 1), told', ?_⟩
        unfold fX9_readNumbers
        rw [e2, show (999 : Nat) = 998 + 1 from rfl]
        have f2 := f 998
        change fX9_readNumbers_L2 KK (nI 2) _ _ _ (nI (0 + 1)) _ _ = _ at f2
        rw [f2] <;> rfl
      | some p2 =>
        obtain ⟨w, k⟩ := p2
        rw [hr2] at f
        obtain ⟨told2, u1, u2, u3⟩ := f
        have f2 := u3 998
        change fX9_readNumbers_L2 KK (nI 2) _ _ _ (nI (0 + 1)) _ _ = _ at f2
        simp only
        by_cases h6 : ltA n c k = 59
        · rw [if_pos h6]
          rw [if_pos (show ltA n c k = (if 1 + 1 = 2 then 59 else 44) from h6)] at f2
          refine ⟨told2, by rw [u2 0 (by omega), t1], u1, ?_⟩
          unfold fX9_readNumbers
          rw [e2, show (999 : Nat) = 998 + 1 from rfl, f2, show (998 : Nat) = 997 + 1 from rfl, fX9_readNumbers_L2, if_pos (show nI 2 ≤ nI (1 + 1) from Int32.le_refl _)] <;> rfl
        · rw [if_neg h6]
          rw [if_neg (show ¬ ltA n c k = (if 1 + 1 = 2 then 59 else 44) from h6)] at f2
          refine ⟨nI k, told2, ?_⟩
          unfold fX9_readNumbers
          rw [e2, show (999 : Nat) = 998 + 1 from rfl, f2] <;> rfl
    · rw [if_neg h5]
      rw [if_neg (show ¬ ltA n c j = (if 0 + 1 = 2 then 59 else 44) from h5)] at e2
      refine ⟨nI j, told', ?_⟩
      unfold fX9_readNumbers
      rw [e2] <;> rfl
