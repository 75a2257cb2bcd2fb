/-! two boots: when the boots of a set of guests is done -/
def mxF (fl : Nat → Nat) (M : Nat) : Nat → Nat
  | 0 => 0
  | n + 1 => if M.testBit n = true then max (mxF fl M n) (fl n) else mxF fl M n
def smF (wn : Nat → Nat) (M : Nat) : Nat → Nat
  | 0 => 0
  | n + 1 => if M.testBit n = true then smF wn M n + wn n else smF wn M n
theorem mxF_le {fl : Nat → Nat} {M : Nat} (hf : ∀ g, g < 6 → fl g < 16) : ∀ n, n ≤ 6 → mxF fl M n < 16
  | 0 => fun _ => by simp [mxF]
  | n + 1 => fun h => by
    have ih := mxF_le (M := M) hf n (by omega)
    have := hf n (by omega)
    rw [mxF]
    split <;> omega
theorem smF_le {kd fl : Nat → Nat} {M : Nat} (hf : ∀ g, g < 6 → fl g < 16) : ∀ n, n ≤ 6 → smF (wnS kd fl) M n ≤ 17 * n
  | 0 => fun _ => by simp [smF]
  | n + 1 => fun h => by
    have ih := smF_le (kd := kd) (M := M) hf n (by omega)
    have := wnS_le (kd := kd) (hf n (by omega))
    rw [smF]
    split <;> omega
theorem mxF_up {fl : Nat → Nat} {M N : Nat} (hM : M < 2 ^ N) : ∀ k, mxF fl M (N + k) = mxF fl M N
  | 0 => rfl
  | k + 1 => by
    rw [show N + (k + 1) = (N + k) + 1 by omega, mxF, Nat.testBit_lt_two_pow (Nat.lt_of_lt_of_le hM (Nat.pow_le_pow_right (by omega) (by omega))), if_neg (by decide)]
    exact mxF_up hM k
theorem smF_up {wn : Nat → Nat} {M N : Nat} (hM : M < 2 ^ N) : ∀ k, smF wn M (N + k) = smF wn M N
  | 0 => rfl
  | k + 1 => by
    rw [show N + (k + 1) = (N + k) + 1 by omega, smF, Nat.testBit_lt_two_pow (Nat.lt_of_lt_of_le hM (Nat.pow_le_pow_right (by omega) (by omega))), if_neg (by decide)]
    exact smF_up hM k
def edB (N S : Nat) (kd fl : Nat → Nat) (M : Nat) : Nat := S + smF (wnS kd fl) M N + mxF fl M N
theorem edB_le {N V S M : Nat} {kd wk wa wb fl : Nat → Nat} (hO : SlOK N V S kd wk wa wb) (hf : ∀ g, g < 6 → fl g < 16) : edB N S kd fl M ≤ 300 := by
  have h1 := mxF_le (M := M) hf N hO.2.1
  have h2 := smF_le (kd := kd) (M := M) hf N hO.2.1
  have h3 := hO.2.2.2.1
  have h4 := hO.2.1
  unfold edB
  omega
theorem nI_maxE {a b : Nat} (ha : a < 2 ^ 31) (hb : b < 2 ^ 31) : (if nI a < nI b then nI b else nI a) = nI (max a b) := by
  by_cases h : a < b
  · rw [if_pos (nI_lt h hb), Nat.max_eq_right (by omega)]
  · rw [if_neg (Int32.not_lt.mpr (nI_le (by omega) ha)), Nat.max_eq_left (by omega)]
theorem nI_maxF {a b : Nat} (ha : a < 2 ^ 31) (hb : b < 2 ^ 31) : (if nI b ≤ nI a then (some (nI a) : Option Int32) else some (nI b)) = some (nI (max a b)) := by
  by_cases h : b ≤ a
  · rw [if_pos (nI_le h ha), Nat.max_eq_left h]
  · rw [if_neg (Int32.not_le.mpr (nI_lt (by omega) hb)), Nat.max_eq_right (by omega)]
theorem g_endOfBoots {K N V S M : Nat} {kd wk wa wb fl : Nat → Nat} {gu wi st : Int32} {gK wK wA wB wN floors : Nat → Int32} (hK : 1000 ≤ K) (hO : SlOK N V S kd wk wa wb) (hX : SlX N V S kd wk wa wb gu wi st gK wK wA wB wN) (hf : ∀ g, g < 6 → floors g = nI (fl g) ∧ fl g < 16) (hM : M < 2 ^ N) :
    fX1_endOfBoots K (nI M) floors (nI S) gK = some (nI (edB N S kd fl M)) := by
  obtain ⟨-, hN6, -, hS, hk, -⟩ := hO
  obtain ⟨-, -, -, hg, -⟩ := hX
  have h64 : 2 ^ N ≤ 2 ^ 6 := Nat.pow_le_pow_right (by omega) hN6
  have key : ∀ d i q, i + d = 6 → d < q → fX1_endOfBoots_L7 K (nI M) floors gK q (nI (mxF fl M i)) (nI (smF (wnS kd fl) M i)) (nI i) = some (nI (mxF fl M 6), nI (smF (wnS kd fl) M 6)) := by
    intro d
    induction d with
    | zero =>
      intro i q hi hq
      obtain ⟨q, rfl⟩ : ∃ y, q = y + 1 := ⟨q - 1, by omega⟩
      have hi' : i = 6 := by omega
      subst hi'
      rw [fX1_endOfBoots_L7, if_pos (nI_le (Nat.le_refl _) (by omega))]
    | succ d ih =>
      intro i q hi hq
      obtain ⟨q, rfl⟩ : ∃ y, q = y + 1 := ⟨q - 1, by omega⟩
      have ih' := ih (i + 1) q (by omega) (by omega)
      rw [mxF, smF] at ih'
      obtain ⟨f1, f2⟩ := hf i (by omega)
      have h1 := mxF_le (M := M) (fun g hg => (hf g hg).2) i (by omega)
      rw [fX1_endOfBoots_L7, if_neg (nI_ge (show i < 6 by omega) (by omega)), q_has (by omega) (by omega), bd1_eq]
      cases hb : M.testBit i with
      | false =>
        rw [hb, if_neg (by decide), if_neg (by decide)] at ih'
        rw [bI_f, if_pos rfl, bd2_eq]
        simp only [nm]
        rw [nI_1]
        exact ih'
      | true =>
        have hiN := tb_lt hM hb
        rw [hb, if_pos rfl, if_pos rfl] at ih'
        rw [bI_t, if_neg q_n10, p_gd6 (by omega), nI_clamp (by omega), f1]
        simp only [nm]
        rw [nI_maxE (by omega) (by omega), p_waking (by omega) (hg i hiN) (hk i hiN) f1, bd1_eq, bd2_eq, nI_add, nI_1]
        exact ih'
  have e := key 6 0 K (by omega) (by omega)
  change fX1_endOfBoots_L7 _ _ _ _ _ 0 0 0 = _ at e
  have e1 := mxF_up (fl := fl) hM (6 - N)
  have e2 := smF_up (wn := wnS kd fl) hM (6 - N)
  rw [show N + (6 - N) = 6 by omega] at e1 e2
  unfold fX1_endOfBoots edB
  rw [e, bd2_eq, e1, e2, nI_add, nI_add, show S + mxF fl M N + smF (wnS kd fl) M N = S + smF (wnS kd fl) M N + mxF fl M N by omega]
theorem m_endsWith {K N V S M : Nat} {kd wk wa wb fl : Nat → Nat} {gu wi sta : Int32} {gK wK wA wB st : Nat → Int32} (hK : 1000 ≤ K) (hO : SlOK N V S kd wk wa wb) (hX : SlM N V S kd wk wa wb gu wi sta gK wK wA wB) (hf : ∀ g, g < N → st (2 + g) = nI (fl g) ∧ fl g < 16) (hM : M < 2 ^ N) :
    fX9_endsWith K (nI M) (nI N) (nI S) st gK = some (nI (edB N S kd fl M)) := by
  obtain ⟨-, hN6, -, hS, hk, -⟩ := hO
  obtain ⟨-, -, -, hg, -⟩ := hX
  have h64 : 2 ^ N ≤ 2 ^ 6 := Nat.pow_le_pow_right (by omega) hN6
  have hmx : ∀ n, n ≤ N → mxF fl M n < 16 := by
    intro n
    induction n with
    | zero => intro _; simp [mxF]
    | succ n ih =>
      intro h
      have := ih (by omega)
      have := (hf n (by omega)).2
      rw [mxF]
      split <;> omega
  have key : ∀ d i q, i + d = N → d < q → fX9_endsWith_L10 K (nI M) (nI N) st gK q (nI (mxF fl M i)) (nI (S + smF (wnS kd fl) M i)) (nI i) = some (nI (mxF fl M N), nI (S + smF (wnS kd fl) M N)) := by
    intro d
    induction d with
    | zero =>
      intro i q hi hq
      obtain ⟨q, rfl⟩ : ∃ y, q = y + 1 := ⟨q - 1, by omega⟩
      have hi' : i = N := by omega
      subst hi'
      rw [fX9_endsWith_L10, if_pos (nI_le (Nat.le_refl _) (by omega))]
    | succ d ih =>
      intro i q hi hq
      obtain ⟨q, rfl⟩ : ∃ y, q = y + 1 := ⟨q - 1, by omega⟩
      have ih' := ih (i + 1) q (by omega) (by omega)
      rw [mxF, smF] at ih'
      obtain ⟨f1, f2⟩ := hf i (by omega)
      have h1 := hmx i (by omega)
      rw [fX9_endsWith_L10, if_neg (nI_ge (show i < N by omega) (by omega)), q_has9 (by omega) (by omega), bd1_eq]
      cases hb : M.testBit i with
      | false =>
        rw [hb, if_neg (by decide), if_neg (by decide)] at ih'
        rw [bI_f, if_pos rfl, bd2_eq]
        simp only [nm]
        rw [nI_1]
        exact ih'
      | true =>
        rw [hb, if_pos rfl, if_pos rfl] at ih'
        have a1 : (2 : Int32) + nI i = nI (2 + i) := nI_add 2 i
        rw [bI_t, if_neg q_n10, a1]
        simp only [p_gd (show 2 + i < 8 by omega) (show 8 < 2 ^ 31 by omega)]
        rw [nI_clamp (show 2 + i < 2 ^ 31 by omega), f1, nI_maxF (by omega) (by omega), p_wakes (by omega) (hg i (by omega)) (hk i (by omega)) f1, bd1_eq, bd1_eq]
        simp only [nm]
        rw [bd2_eq, nI_add, nI_1, show S + smF (wnS kd fl) M i + wnS kd fl i = S + (smF (wnS kd fl) M i + wnS kd fl i) by omega]
        exact ih'
  have e := key N 0 K (by omega) (by omega)
  change fX9_endsWith_L10 _ _ _ _ _ _ 0 (nI S) 0 = _ at e
  unfold fX9_endsWith edB
  rw [e, bd2_eq, nI_add]
/-- how late two boots are done, of whom the one has x and the other the rest of h -/
def oth (h x : Nat) : Nat := h &&& (x ^^^ (2 ^ 32 - 1))
theorem l_oth (h x : Nat) : nI h &&& (nI x ^^^ (-1)) = nI (oth h x) := by rw [q_m1, q_xor, q_and] <;> rfl
def ltB (N S : Nat) (kd fl : Nat → Nat) (h x : Nat) : Nat := max (edB N S kd fl x) (edB N S kd fl (oth h x))
theorem g_laterEnd {K N V S h x : Nat} {kd wk wa wb fl : Nat → Nat} {gu wi st : Int32} {gK wK wA wB wN floors : Nat → Int32} (hK : 1000 ≤ K) (hO : SlOK N V S kd wk wa wb) (hX : SlX N V S kd wk wa wb gu wi st gK wK wA wB wN) (hf : ∀ g, g < 6 → floors g = nI (fl g) ∧ fl g < 16) (hh : h < 2 ^ N) (hx : x < 2 ^ N) :
    fX1_laterEnd K (nI x) (nI h) floors (nI S) gK = some (nI (ltB N S kd fl h x)) := by
  have h1 := edB_le (M := x) hO (fun g hg => (hf g hg).2)
  have h2 := edB_le (M := oth h x) hO (fun g hg => (hf g hg).2)
  unfold fX1_laterEnd
  rw [l_oth, g_endOfBoots hK hO hX hf hx, g_endOfBoots hK hO hX hf (show oth h x < 2 ^ N from Nat.lt_of_le_of_lt Nat.and_le_left hh), bd1_eq, bd1_eq, nI_maxE (by omega) (by omega)] <;> rfl
def twP (h x : Nat) : Bool := decide (h &&& x = x)
theorem tw_sub {h x : Nat} (hx : x < 2 ^ 31) : (nI x &&& (nI h ^^^ (-1)) = 0) = (twP h x = true) := by
  rw [q_nsub hx, twP, decide_eq_true_iff]
  exact propext sub_and.symm
theorem bst_up {p : Nat → Bool} {E : Nat → Nat} {n : Nat} : ∀ k, (∀ b, n ≤ b → b < n + k → p b = false) → bstI p E (n + k) = bstI p E n
  | 0 => fun _ => rfl
  | k + 1 => fun h => by
    rw [show n + (k + 1) = (n + k) + 1 by omega, bstI, h (n + k) (by omega) (by omega), if_neg (by decide)]
    exact bst_up k (fun b h1 h2 => h b h1 (by omega))
theorem bst_lt {p : Nat → Bool} {E : Nat → Nat} {b : Nat} : ∀ n, bstI p E n = some b → b < n
  | 0 => fun h => by cases h
  | n + 1 => fun h => by
    rw [bstI] at h
    split at h
    · split at h
      · cases h; omega
      · rename_i b' hb'
        have := bst_lt n hb'
        split at h <;> cases h <;> omega
    · have := bst_lt n h
      omega
theorem tw_0 (h : Nat) : twP h 0 = true := by simp [twP]
theorem bst_some {p : Nat → Bool} {E : Nat → Nat} (h0 : p 0 = true) : ∀ n, ∃ b, bstI p E (n + 1) = some b
  | 0 => ⟨0, by rw [bstI, if_pos h0] <;> rfl⟩
  | n + 1 => by
    obtain ⟨b, hb⟩ := bst_some (E := E) h0 n
    rw [bstI, hb]
    split
    · simp only
      split
      · exact ⟨_, rfl⟩
      · exact ⟨_, rfl⟩
    · exact ⟨_, rfl⟩
theorem g_waking_any {K g : Nat} {kinds floors : Nat → Int32} (hg : g < 6) : ∃ v, fX1_wakingOf K (nI g) kinds floors = some v := by
  unfold fX1_wakingOf
  rw [q_at hg (by omega), bd1_eq, q_at hg (by omega), bd1_eq]
  split
  · exact ⟨_, rfl⟩
  · split
    · exact ⟨_, rfl⟩
    · split
      · exact ⟨_, rfl⟩
      · exact ⟨_, rfl⟩
theorem g_boots_any {K M : Nat} {st : Int32} {gK floors : Nat → Int32} (hK : 1000 ≤ K) (hM : M < 2 ^ 31) : ∃ v, fX1_endOfBoots K (nI M) floors st gK = some v := by
  have key : ∀ d i q x2 x3, i + d = 6 → d < q → ∃ a b, fX1_endOfBoots_L7 K (nI M) floors gK q x2 x3 (nI i) = some (a, b) := by
    intro d
    induction d with
    | zero =>
      intro i q x2 x3 hi hq
      obtain ⟨q, rfl⟩ : ∃ y, q = y + 1 := ⟨q - 1, by omega⟩
      have hi' : i = 6 := by omega
      subst hi'
      rw [fX1_endOfBoots_L7, if_pos (nI_le (Nat.le_refl _) (by omega))]
      exact ⟨_, _, rfl⟩
    | succ d ih =>
      intro i q x2 x3 hi hq
      obtain ⟨q, rfl⟩ : ∃ y, q = y + 1 := ⟨q - 1, by omega⟩
      rw [fX1_endOfBoots_L7, if_neg (nI_ge (show i < 6 by omega) (by omega)), q_has hM (by omega), bd1_eq]
      cases hb : M.testBit i with
      | false =>
        rw [bI_f, if_pos rfl, bd2_eq]
        simp only [nm]
        rw [nI_1]
        exact ih (i + 1) q _ _ (by omega) (by omega)
      | true =>
        obtain ⟨v, hv⟩ := g_waking_any (K := K) (kinds := gK) (floors := floors) (show i < 6 by omega)
        rw [bI_t, if_neg q_n10, p_gd6 (by omega)]
        simp only [nm]
        rw [hv, bd1_eq, bd2_eq, nI_1]
        exact ih (i + 1) q _ _ (by omega) (by omega)
  obtain ⟨a, b, e⟩ := key 6 0 K 0 0 (by omega) (by omega)
  change fX1_endOfBoots_L7 _ _ _ _ _ 0 0 0 = _ at e
  unfold fX1_endOfBoots
  rw [e, bd2_eq]
  exact ⟨_, rfl⟩
theorem g_later_any {K h x : Nat} {st : Int32} {gK floors : Nat → Int32} (hK : 1000 ≤ K) (hh : h < 2 ^ 31) (hx : x < 2 ^ 31) : ∃ v, fX1_laterEnd K (nI x) (nI h) floors st gK = some v := by
  obtain ⟨v1, e1⟩ := g_boots_any (st := st) (gK := gK) (floors := floors) hK hx
  obtain ⟨v2, e2⟩ := g_boots_any (st := st) (gK := gK) (floors := floors) hK (show oth h x < 2 ^ 31 from Nat.lt_of_le_of_lt Nat.and_le_left hh)
  unfold fX1_laterEnd
  rw [l_oth, e1, e2, bd1_eq, bd1_eq]
  exact ⟨_, rfl⟩
theorem bst_64 {h b : Nat} {E : Nat → Nat} (h64 : h < 64) (hb : bstI (twP h) E (h + 1) = some b) : bstI (twP h) E 64 = some b := by
  have e := bst_up (p := twP h) (E := E) (n := h + 1) (64 - (h + 1)) (fun b h1 h2 => by
    unfold twP
    have : h &&& b ≤ h := Nat.and_le_left
    exact decide_eq_false (by omega))
  rw [show h + 1 + (64 - (h + 1)) = 64 by omega, hb] at e
  exact e
theorem g_two {K N V S h : Nat} {kd wk wa wb fl : Nat → Nat} {gu wi st : Int32} {gK wK wA wB wN floors : Nat → Int32} (hK : 1000 ≤ K) (hO : SlOK N V S kd wk wa wb) (hX : SlX N V S kd wk wa wb gu wi st gK wK wA wB wN) (hf : ∀ g, g < 6 → floors g = nI (fl g) ∧ fl g < 16) (hh : h < 2 ^ N) {b : Nat} (hb : bstI (twP h) (ltB N S kd fl h) (h + 1) = some b) :
    fX8_two_L25 K (nI h) floors (nI S) gK K 0 (nI (ltB N S kd fl h 0)) 1 = some (nI b, nI (ltB N S kd fl h b)) := by
  have h64 : 2 ^ N ≤ 2 ^ 6 := Nat.pow_le_pow_right (by omega) hO.2.1
  have hb6 := bst_64 (show h < 64 by omega) hb
  have hle : ∀ x, ltB N S kd fl h x ≤ 300 := fun x => by
    have h1 := edB_le (M := x) hO (fun g hg => (hf g hg).2)
    have h2 := edB_le (M := oth h x) hO (fun g hg => (hf g hg).2)
    unfold ltB
    omega
  have key : ∀ d i q c, i + d = 64 → d < q → bstI (twP h) (ltB N S kd fl h) i = some c → fX8_two_L25 K (nI h) floors (nI S) gK q (nI c) (nI (ltB N S kd fl h c)) (nI i) = some (nI b, nI (ltB N S kd fl h b)) := by
    intro d
    induction d with
    | zero =>
      intro i q c hi hq hc
      obtain ⟨q, rfl⟩ : ∃ y, q = y + 1 := ⟨q - 1, by omega⟩
      have hi' : i = 64 := by omega
      subst hi'
      rw [hb6] at hc
      cases hc
      rw [fX8_two_L25, if_pos (show (64 : Int32) ≤ nI 64 from nI_le (Nat.le_refl 64) (by omega))]
    | succ d ih =>
      intro i q c hi hq hc
      obtain ⟨q, rfl⟩ : ∃ y, q = y + 1 := ⟨q - 1, by omega⟩
      have l1 := hle c
      have l2 := hle i
      have hn64 : ¬ (64 : Int32) ≤ nI i := nI_ge (a := i) (b := 64) (by omega) (by omega)
      cases hp : twP h i with
      | false =>
        have hn : bstI (twP h) (ltB N S kd fl h) (i + 1) = some c := by rw [bstI, hp, if_neg (by decide)]; exact hc
        obtain ⟨v, ev⟩ := g_later_any (K := K) (h := h) (x := i) (st := nI S) (gK := gK) (floors := floors) hK (by omega) (by omega)
        rw [fX8_two_L25, if_neg hn64, ev]
        simp only [tw_sub (show i < 2 ^ 31 by omega)]
        rw [hp, if_neg (by decide), bd1_eq, bd1_eq, if_pos rfl, bd2_eq]
        simp only [nm]
        rw [nI_1]
        exact ih (i + 1) q c (by omega) (by omega) hn
      | true =>
        have hih : i ≤ h := by
          have e : h &&& i = i := of_decide_eq_true hp
          have : h &&& i ≤ h := Nat.and_le_left
          omega
        rw [fX8_two_L25, if_neg hn64, g_laterEnd hK hO hX hf hh (show i < 2 ^ N by omega)]
        simp only [tw_sub (show i < 2 ^ 31 by omega)]
        rw [hp, if_pos rfl, bd1_eq, bd1_eq, if_neg q_n10]
        by_cases hlt : ltB N S kd fl h i < ltB N S kd fl h c
        · have hn : bstI (twP h) (ltB N S kd fl h) (i + 1) = some i := by rw [bstI, hp, if_pos rfl, hc]; simp only; rw [if_pos hlt]
          rw [if_neg (nI_ge hlt (by omega)), bd2_eq]
          simp only [nm]
          rw [nI_1]
          exact ih (i + 1) q i (by omega) (by omega) hn
        · have hn : bstI (twP h) (ltB N S kd fl h) (i + 1) = some c := by rw [bstI, hp, if_pos rfl, hc]; simp only; rw [if_neg hlt]
          rw [if_pos (nI_le (by omega) (by omega)), bd2_eq]
          simp only [nm]
          rw [nI_1]
          exact ih (i + 1) q c (by omega) (by omega) hn
  exact key 63 1 K 0 (by omega) (by omega) (by rw [bstI, tw_0, if_pos rfl] <;> rfl)
theorem m_two {K N V S h : Nat} {kd wk wa wb fl : Nat → Nat} {gu wi sta : Int32} {gK wK wA wB st : Nat → Int32} (hK : 1000 ≤ K) (hO : SlOK N V S kd wk wa wb) (hX : SlM N V S kd wk wa wb gu wi sta gK wK wA wB) (hst : st 0 = nI h) (hf : ∀ g, g < N → st (2 + g) = nI (fl g) ∧ fl g < 16) (hf6 : ∀ g, g < 6 → fl g < 16) (hh : h < 2 ^ N) {b : Nat} (hb : bstI (twP h) (ltB N S kd fl h) (h + 1) = some b) :
    fX9_two_L18 K (nI N) (nI S) st gK K (-1) 0 0 = some (nI b, nI (ltB N S kd fl h b)) := by
  have hN6 := hO.2.1
  have h64 : 2 ^ N ≤ 2 ^ 6 := Nat.pow_le_pow_right (by omega) hO.2.1
  have hle : ∀ x, ltB N S kd fl h x ≤ 300 := fun x => by
    have h1 := edB_le (M := x) hO hf6
    have h2 := edB_le (M := oth h x) hO hf6
    unfold ltB
    omega
  have hb2 : bstI (twP h) (ltB N S kd fl h) (2 ^ N) = some b := by
    have e := bst_up (p := twP h) (E := ltB N S kd fl h) (n := h + 1) (2 ^ N - (h + 1)) (fun b h1 h2 => by
      unfold twP
      have : h &&& b ≤ h := Nat.and_le_left
      exact decide_eq_false (by omega))
    rw [show h + 1 + (2 ^ N - (h + 1)) = 2 ^ N by omega, hb] at e
    exact e
  have hsh : (1 : Int32) <<< (nI N &&& 31) = nI (2 ^ N) := q_shl (by omega)
  have step : ∀ i q c x3 x2, i < 2 ^ N → (x2 = (-1 : Int32) ∧ c = none ∨ ∃ b', c = some b' ∧ b' < 64 ∧ x2 = nI b' ∧ x3 = nI (ltB N S kd fl h b')) → c = bstI (twP h) (ltB N S kd fl h) i →
      ∃ x2' x3', fX9_two_L18 K (nI N) (nI S) st gK (q + 1) x2 x3 (nI i) = fX9_two_L18 K (nI N) (nI S) st gK q x2' x3' (nI (i + 1)) ∧ (x2' = (-1 : Int32) ∧ bstI (twP h) (ltB N S kd fl h) (i + 1) = none ∨ ∃ b', bstI (twP h) (ltB N S kd fl h) (i + 1) = some b' ∧ b' < 64 ∧ x2' = nI b' ∧ x3' = nI (ltB N S kd fl h b')) := by
    intro i q c x3 x2 hi hx hc
    have l2 := hle i
    rw [fX9_two_L18, hsh, if_neg (nI_ge hi (by omega))]
    simp only [gd_pos (show ¬ ((0 : Int32) < 0 ∨ 8 ≤ (0 : Int32).toNatClampNeg) by decide)]
    rw [show (0 : Int32).toNatClampNeg = 0 from rfl, hst]
    simp only [tw_sub (show i < 2 ^ 31 by omega)]
    rw [bstI, ← hc]
    cases hp : twP h i with
    | false =>
      rw [if_neg (by decide), bd2_eq]
      simp only [nm]
      rw [nI_1]
      refine ⟨x2, x3, rfl, ?_⟩
      rw [if_neg (by decide)]
      exact hx
    | true =>
      rw [if_pos rfl, l_oth, m_endsWith hK hO hX hf hi, m_endsWith hK hO hX hf (show oth h i < 2 ^ N from Nat.lt_of_le_of_lt Nat.and_le_left hh), bd1_eq, bd1_eq]
      have h1 := edB_le (M := i) hO hf6
      have h2 := edB_le (M := oth h i) hO hf6
      have hmx : (if nI (edB N S kd fl i) ≤ nI (edB N S kd fl (oth h i)) then (some (nI (edB N S kd fl (oth h i))) : Option Int32) else some (nI (edB N S kd fl i))) = some (nI (ltB N S kd fl h i)) := by
        rw [nI_maxF (by omega) (by omega), ltB, Nat.max_comm]
      rw [hmx, bd1_eq, if_pos rfl]
      rcases hx with ⟨x2e, ce⟩ | ⟨b', ce, hb64, x2e, x3e⟩
      · rw [x2e, if_pos (show (-1 : Int32) < 0 by decide), bd1_eq, if_neg q_n10, bd1_eq, if_neg q_n10, bd1_eq, bd2_eq, ce]
        simp only [nm]
        rw [nI_1]
        exact ⟨_, _, rfl, Or.inr ⟨i, rfl, by omega, rfl, rfl⟩⟩
      · have l1 := hle b'
        rw [x2e, x3e, if_neg (nI_pos (by omega)), ce]
        simp only
        by_cases hlt : ltB N S kd fl h i < ltB N S kd fl h b'
        · rw [if_neg (nI_ge hlt (by omega)), bd1_eq, if_neg q_n10, bd1_eq, if_neg q_n10, bd1_eq, bd2_eq, if_pos hlt]
          simp only [nm]
          rw [nI_1]
          exact ⟨_, _, rfl, Or.inr ⟨i, rfl, by omega, rfl, rfl⟩⟩
        · rw [if_pos (nI_le (by omega) (by omega)), bd1_eq, if_pos rfl, bd1_eq, if_pos rfl, bd1_eq, bd2_eq, if_neg hlt]
          simp only [nm]
          rw [nI_1]
          exact ⟨_, _, rfl, Or.inr ⟨b', rfl, hb64, rfl, rfl⟩⟩
  have key : ∀ d i q x2 x3, i + d = 2 ^ N → d < q → (x2 = (-1 : Int32) ∧ bstI (twP h) (ltB N S kd fl h) i = none ∨ ∃ b', bstI (twP h) (ltB N S kd fl h) i = some b' ∧ b' < 64 ∧ x2 = nI b' ∧ x3 = nI (ltB N S kd fl h b')) → fX9_two_L18 K (nI N) (nI S) st gK q x2 x3 (nI i) = some (nI b, nI (ltB N S kd fl h b)) := by
    intro d
    induction d with
    | zero =>
      intro i q x2 x3 hi hq hx
      obtain ⟨q, rfl⟩ : ∃ y, q = y + 1 := ⟨q - 1, by omega⟩
      have hi' : i = 2 ^ N := by omega
      rcases hx with ⟨-, ce⟩ | ⟨b', ce, -, x2e, x3e⟩
      · rw [hi', hb2] at ce; cases ce
      · rw [hi', hb2] at ce
        cases ce
        rw [fX9_two_L18, hsh, if_pos (nI_le (by omega) (by omega)), x2e, x3e]
    | succ d ih =>
      intro i q x2 x3 hi hq hx
      obtain ⟨q, rfl⟩ : ∃ y, q = y + 1 := ⟨q - 1, by omega⟩
      obtain ⟨x2', x3', e, hx'⟩ := step i q _ x3 x2 (by omega) hx rfl
      rw [e]
      exact ih (i + 1) q x2' x3' (by omega) (by omega) hx'
  exact key (2 ^ N) 0 K (-1) 0 (by omega) (by omega) (Or.inl ⟨rfl, rfl⟩)
theorem s_two {X_surveyed X_text_length : Int32} {X_text_letters : (Nat → Int32)} {X_draft_guests X_draft_wishes X_draft_start : Int32} {X_draft_guestKind X_draft_guestFloor X_draft_wishKind X_draft_wishA X_draft_wishB X_draft_wishNames : (Nat → Int32)} {X_reader_next X_slate_guests X_slate_wishes X_slate_start : Int32} {X_slate_guestKind X_slate_guestFloor X_slate_wishKind X_slate_wishA X_slate_wishB X_slate_wishNames : (Nat → Int32)} {X_tonight_here X_tonight_struck : Int32} {X_tonight_floors : (Nat → Int32)} {X_otherNight_here X_otherNight_struck : Int32} {X_otherNight_floors : (Nat → Int32)} {X_undoable_size : Int32} {X_undoable_nights : (Nat → Int64)} {X_kept_size : Int32} {X_kept_nights : (Nat → Int64)} {X_mornings_told : Int32} {X_mornings_ahead X_mornings_behind : (Nat → Int32)} {X_survey_standing X_survey_goodRounds X_survey_soonestEnd X_survey_roundsAsWoken X_survey_round_size X_survey_round_end : Int32} {X_survey_round_order X_survey_round_places X_survey_round_times X_survey_round_waits X_survey_round_wakings X_survey_keptSets X_survey_firstGood X_survey_soonestGood X_survey_earliest X_survey_latest X_survey_behind X_survey_behindAsWoken : (Nat → Int32)} {X_otherSurvey_standing X_otherSurvey_goodRounds X_otherSurvey_soonestEnd X_otherSurvey_roundsAsWoken X_otherSurvey_round_size X_otherSurvey_round_end : Int32} {X_otherSurvey_round_order X_otherSurvey_round_places X_otherSurvey_round_times X_otherSurvey_round_waits X_otherSurvey_round_wakings X_otherSurvey_keptSets X_otherSurvey_firstGood X_otherSurvey_soonestGood X_otherSurvey_earliest X_otherSurvey_latest X_otherSurvey_behind X_otherSurvey_behindAsWoken X_endsWithout : (Nat → Int32)} {M_guests M_wishes M_begins M_acts M_keeps M_wokes M_texted M_at M_readGuests M_readWishes M_readBegins M_here M_stands M_many M_rounds : Int32} {M_kinds M_wishKind M_wishA M_wishB M_st M_was M_kept M_woke M_text M_told M_readKinds M_readFloors M_readWishKind M_readWishA M_readWishB M_come M_keptBy M_endsAt M_order M_time M_place : (Nat → Int32)} (h : Rel X_surveyed X_text_length X_text_letters X_draft_guests X_draft_wishes X_draft_start X_draft_guestKind X_draft_guestFloor X_draft_wishKind X_draft_wishA X_draft_wishB X_draft_wishNames X_reader_next X_slate_guests X_slate_wishes X_slate_start X_slate_guestKind X_slate_guestFloor X_slate_wishKind X_slate_wishA X_slate_wishB X_slate_wishNames X_tonight_here X_tonight_struck X_tonight_floors X_otherNight_here X_otherNight_struck X_otherNight_floors X_undoable_size X_undoable_nights X_kept_size X_kept_nights X_mornings_told X_mornings_ahead X_mornings_behind X_survey_standing X_survey_goodRounds X_survey_soonestEnd X_survey_roundsAsWoken X_survey_round_size X_survey_round_end X_survey_round_order X_survey_round_places X_survey_round_times X_survey_round_waits X_survey_round_wakings X_survey_keptSets X_survey_firstGood X_survey_soonestGood X_survey_earliest X_survey_latest X_survey_behind X_survey_behindAsWoken X_otherSurvey_standing X_otherSurvey_goodRounds X_otherSurvey_soonestEnd X_otherSurvey_roundsAsWoken X_otherSurvey_round_size X_otherSurvey_round_end X_otherSurvey_round_order X_otherSurvey_round_places X_otherSurvey_round_times X_otherSurvey_round_waits X_otherSurvey_round_wakings X_otherSurvey_keptSets X_otherSurvey_firstGood X_otherSurvey_soonestGood X_otherSurvey_earliest X_otherSurvey_latest X_otherSurvey_behind X_otherSurvey_behindAsWoken X_endsWithout M_guests M_wishes M_begins M_acts M_keeps M_wokes M_texted M_at M_readGuests M_readWishes M_readBegins M_here M_stands M_many M_rounds M_kinds M_wishKind M_wishA M_wishB M_st M_was M_kept M_woke M_text M_told M_readKinds M_readFloors M_readWishKind M_readWishA M_readWishB M_come M_keptBy M_endsAt M_order M_time M_place) (x1 : Int32) : ∃ (r : Int32), fX8_two KK x1 X_tonight_here X_tonight_floors X_slate_start X_slate_guestKind = some r ∧ fX9_two KK x1 M_guests M_begins M_st M_kinds = some r ∧ Rel X_surveyed X_text_length X_text_letters X_draft_guests X_draft_wishes X_draft_start X_draft_guestKind X_draft_guestFloor X_draft_wishKind X_draft_wishA X_draft_wishB X_draft_wishNames X_reader_next X_slate_guests X_slate_wishes X_slate_start X_slate_guestKind X_slate_guestFloor X_slate_wishKind X_slate_wishA X_slate_wishB X_slate_wishNames X_tonight_here X_tonight_struck X_tonight_floors X_otherNight_here X_otherNight_struck X_otherNight_floors X_undoable_size X_undoable_nights X_kept_size X_kept_nights X_mornings_told X_mornings_ahead X_mornings_behind X_survey_standing X_survey_goodRounds X_survey_soonestEnd X_survey_roundsAsWoken X_survey_round_size X_survey_round_end X_survey_round_order X_survey_round_places X_survey_round_times X_survey_round_waits X_survey_round_wakings X_survey_keptSets X_survey_firstGood X_survey_soonestGood X_survey_earliest X_survey_latest X_survey_behind X_survey_behindAsWoken X_otherSurvey_standing X_otherSurvey_goodRounds X_otherSurvey_soonestEnd X_otherSurvey_roundsAsWoken X_otherSurvey_round_size X_otherSurvey_round_end X_otherSurvey_round_order X_otherSurvey_round_places X_otherSurvey_round_times X_otherSurvey_round_waits X_otherSurvey_round_wakings X_otherSurvey_keptSets X_otherSurvey_firstGood X_otherSurvey_soonestGood X_otherSurvey_earliest X_otherSurvey_latest X_otherSurvey_behind X_otherSurvey_behindAsWoken X_endsWithout M_guests M_wishes M_begins M_acts M_keeps M_wokes M_texted M_at M_readGuests M_readWishes M_readBegins M_here M_stands M_many M_rounds M_kinds M_wishKind M_wishA M_wishB M_st M_was M_kept M_woke M_text M_told M_readKinds M_readFloors M_readWishKind M_readWishA M_readWishB M_come M_keptBy M_endsAt M_order M_time M_place := by
  obtain ⟨N,V,S,kd,wk,wa,wb,fl,h,s,t,am,bm,hO,hX,hM,hNt,hNx,hNm,hMo,hMx,hMm,hT,hU,hKp,hD,hSv⟩ := h
  unfold fX8_two fX9_two
  have h64 : h < 64 := h_64 hNt.1 hO.2.1
  rcases q_r1 (K := KK) x1 with ⟨hx, f⟩ | ⟨y, hy, rfl, hy0, hy1, f⟩
  · rw [f, bd1_eq, if_pos rfl]
    rcases hx with hx | ⟨hx, hx2⟩
    · rw [if_pos hx]
      exact ⟨_, rfl, rfl, N,V,S,kd,wk,wa,wb,fl,h,s,t,am,bm,hO,hX,hM,hNt,hNx,hNm,hMo,hMx,hMm,hT,hU,hKp,hD,hSv⟩
    · rw [if_neg hx, if_neg hx2]
      exact ⟨_, rfl, rfl, N,V,S,kd,wk,wa,wb,fl,h,s,t,am,bm,hO,hX,hM,hNt,hNx,hNm,hMo,hMx,hMm,hT,hU,hKp,hD,hSv⟩
  have hg2 := hM.1
  have hg3 := hX.2.2.1
  have hg4 := hM.2.2.1
  have hn1 := hNx.1
  subst hg2 hg3 hg4 hn1
  obtain ⟨b, hb⟩ := bst_some (p := twP h) (E := ltB N S kd fl h) (tw_0 h) h
  have hf1 : ∀ g, g < 6 → X_tonight_floors g = nI (fl g) ∧ fl g < 16 := fun g hg => ⟨hNx.2.2 g hg, hNt.2.2.2 g hg⟩
  have hf2 : ∀ g, g < N → M_st (2 + g) = nI (fl g) ∧ fl g < 16 := fun g hg => ⟨hNm.2.2 g hg, by have := hNt.2.2.1 g hg; omega⟩
  have e0 := g_laterEnd (K := KK) (x := 0) KK_ge hO hX hf1 hNt.1 (Nat.two_pow_pos N)
  change fX1_laterEnd _ 0 _ _ _ _ = _ at e0
  rw [f, bd1_eq, if_neg q_n10, if_neg hy0, if_pos hy1, e0, bd1_eq, g_two KK_ge hO hX hf1 hNt.1 hb, m_two KK_ge hO hM hNm.1 hf2 hNt.2.2.2 hNt.1 hb, bd2_eq]
  by_cases hy00 : nI y = 0
  · rw [if_pos hy00]
    exact ⟨_, rfl, rfl, N,V,S,kd,wk,wa,wb,fl,h,s,t,am,bm,hO,hX,hM,hNt,hNx,hNm,hMo,hMx,hMm,hT,hU,hKp,hD,hSv⟩
  · rw [if_neg hy00]
    exact ⟨_, rfl, rfl, N,V,S,kd,wk,wa,wb,fl,h,s,t,am,bm,hO,hX,hM,hNt,hNx,hNm,hMo,hMx,hMm,hT,hU,hKp,hD,hSv⟩
