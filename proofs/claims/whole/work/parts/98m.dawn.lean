/-! dawns: when a round without one is soonest done -/
def off (h i : Nat) : Nat := h &&& (2 ^ 32 - 1 - 2 ^ i)
theorem l_offN {h i : Nat} (hh : h < 64) (hi : i < 6) : nI h &&& (((1 : Int32) <<< (nI i &&& 31)) ^^^ (-1)) = nI (off h i) := l_off (K := 0) hh hi
def dwB (V S : Nat) (kd wk wa wb fl : Nat → Nat) (h s : Nat) : Option Nat := bstI (fun j => decide (kpO V S kd wk wa wb fl (mkb (stB wk wa wb h s) V) (rho h j) = mkb (stB wk wa wb h s) V)) (fun j => enO V S kd wk wa wb fl (mkb (stB wk wa wb h s) V) (rho h j)) (rds h).length
def dwV (V S : Nat) (kd wk wa wb fl : Nat → Nat) (h s : Nat) : Int32 := match dwB V S kd wk wa wb fl h s with
  | none => -4
  | some j => nI (enO V S kd wk wa wb fl (mkb (stB wk wa wb h s) V) (rho h j))
theorem dwV_n {V S h s : Nat} {kd wk wa wb fl : Nat → Nat} (q : dwB V S kd wk wa wb fl h s = none) : dwV V S kd wk wa wb fl h s = -4 := by
  unfold dwV
  rw [q]
theorem dwV_s {V S h s j : Nat} {kd wk wa wb fl : Nat → Nat} (q : dwB V S kd wk wa wb fl h s = some j) : dwV V S kd wk wa wb fl h s = nI (enO V S kd wk wa wb fl (mkb (stB wk wa wb h s) V) (rho h j)) := by
  unfold dwV
  rw [q]
theorem g_rkL {N V S h s t : Nat} {kd wk wa wb fl am bm : Nat → Nat} {gu wi st told : Int32} {gK wK wA wB wN floors ah be : Nat → Int32} (hO : SlOK N V S kd wk wa wb) (hX : SlX N V S kd wk wa wb gu wi st gK wK wA wB wN) (hh : h < 2 ^ N) (hs : s < 2 ^ V) (hf : ∀ g, g < 6 → floors g = nI (fl g) ∧ fl g < 16) (hMo : MoOK N t am bm) (hMx : MoX t am bm told ah be) :
    ∀ d i q (EW : Nat → Int32) (oh : Int32) (os : Int32) (of : Nat → Int32) (sta : Int32) (good : Int32) (soon : Int32) (woken : Int32) (KS : Nat → Int32) (B : Nat → Int32) (W : Nat → Int32) (size : Int32) (endI : Int32) (order : Nat → Int32) (waits : Nat → Int32) (wak : Nat → Int32) (places : Nat → Int32) (times : Nat → Int32) (FG : Nat → Int32) (SG : Nat → Int32) (E : Nat → Int32) (L : Nat → Int32), i + d = 6 → d < q → (∀ g, g < i → g < N → EW g = dwV V S kd wk wa wb fl (off h g) s) →
      ∃ EW' oh' os' of' sta' good' soon' woken' KS' B' W' size' endI' order' waits' wak' places' times' FG' SG' E' L', fX8_reckonEndsWithout_L2 KK (nI h) (nI s) floors gu wi st wN wK wA wB gK told ah be q (nI i) EW oh os of sta good soon woken KS B W size endI order waits wak places times FG SG E L = some (EW', oh', os', of', sta', good', soon', woken', KS', B', W', size', endI', order', waits', wak', places', times', FG', SG', E', L') ∧ ∀ g, g < N → EW' g = dwV V S kd wk wa wb fl (off h g) s := by
  have hN6 := hO.2.1
  have h64 : h < 64 := h_64 hh hN6
  have hs5 : s < 512 := Nat.lt_of_lt_of_le hs (Nat.pow_le_pow_right (by omega) hO.2.2.1)
  intro d
  induction d with
  | zero =>
    intro i q EW oh os of sta good soon woken KS B W size endI order waits wak places times FG SG E L hi hq hE
    obtain ⟨q, rfl⟩ : ∃ y, q = y + 1 := ⟨q - 1, by omega⟩
    rw [fX8_reckonEndsWithout_L2, if_pos (nI_le (show 6 ≤ i by omega) (by omega))]
    exact ⟨EW, oh, os, of, sta, good, soon, woken, KS, B, W, size, endI, order, waits, wak, places, times, FG, SG, E, L, rfl, fun g hg => hE g (by omega) hg⟩
  | succ d ih =>
    intro i q EW oh os of sta good soon woken KS B W size endI order waits wak places times FG SG E L hi hq hE
    obtain ⟨q, rfl⟩ : ∃ y, q = y + 1 := ⟨q - 1, by omega⟩
    obtain ⟨fl', e1, e2⟩ := a_unpack (K := KK) (h := h) (s := s) (f := fl) (here := oh) (struck := os) (floors := of) KK_ge h64 hs5 (fun g hg => (hf g hg).2)
    rw [fX8_reckonEndsWithout_L2, if_neg (nI_ge (show i < 6 by omega) (by omega)), a_packed KK_ge h64 hs5 hf, bd1_eq, e1, bd3_eq, l_offN h64 (show i < 6 by omega)]
    simp only [nm]
    rw [p_gd6 (show i < 6 by omega), nI_clamp (show i < 2 ^ 31 by omega)]
    have hg1 := hX.1
    rcases q_guest (K := KK) hN6 (nI i) with ⟨e, e'⟩ | ⟨g, hg, he, e, e'⟩
    · rw [← hg1] at e
      rw [e, bd1_eq, if_pos rfl, bd19_eq, nI_1]
      refine ih (i + 1) q (upd EW i (-4)) (nI (off h i)) (nI s) fl' sta good soon woken KS B W size endI order waits wak places times FG SG E L (by omega) (by omega) (fun g hg hgN => ?_)
      have hgi : g ≠ i := by
        intro q
        subst q
        unfold fX9_isGuest at e'
        unfold fX9_in at e'
        rw [if_neg (nI_pos (by omega)), if_neg (show ¬ (nI N - 1 < nI g) by
          obtain ⟨N, rfl⟩ : ∃ y, N = y + 1 := ⟨N - 1, by omega⟩
          rw [nI_pred]
          exact Int32.not_lt.mpr (nI_le (by omega) (by omega)))] at e'
        revert e'
        decide
      rw [q_updN hgi]
      exact hE g (by omega) hgN
    · have hig : i = g := (nI_eq (by omega) (by omega)).mp he
      subst hig
      have ho2 : off h i < 2 ^ N := Nat.lt_of_le_of_lt Nat.and_le_left hh
      have ho64 : off h i < 64 := h_64 ho2 hN6
      obtain ⟨good', soon', woken', size', endI', KS', B', W', order', waits', wak', places', times', FG', SG', E', L', e3, hS⟩ := g_through (here := nI (off h i)) (struck := nI s) hO hX ho2 hs (fun g hg => ⟨e2 g hg, (hf g hg).2⟩) rfl rfl hMo hMx sta good soon woken size endI KS B W order waits wak places times FG SG E L
      obtain ⟨r1, r2, -⟩ := rds_len ho64
      have hS0 := hS.1
      subst hS0
      have hcl : cntI (fun j => decide (kpO V S kd wk wa wb fl (mkb (stB wk wa wb (off h i) s) V) (rho (off h i) j) = mkb (stB wk wa wb (off h i) s) V)) (rds (off h i)).length ≤ 720 := Nat.le_trans (cnt_le _ _) r2
      rw [← hg1] at e
      rw [e, bd1_eq, if_neg q_n10, e3, bd18_eq, g_endOr hcl, bd1_eq, q_gdc (show i < 6 by omega) (by omega), bd19_eq, nI_1]
      refine ih (i + 1) q (upd (upd EW i (-4)) i _) (nI (off h i)) (nI s) fl' _ _ _ _ _ _ _ _ _ _ _ _ _ _ _ _ _ _ (by omega) (by omega) (fun g hg hgN => ?_)
      by_cases hgi : g = i
      · subst hgi
        rw [q_updS]
        rcases cnt_two (fun j => decide (kpO V S kd wk wa wb fl (mkb (stB wk wa wb (off h g) s) V) (rho (off h g) j) = mkb (stB wk wa wb (off h g) s) V)) (rds (off h g)).length with ⟨c1, -, c2', -⟩ | ⟨c1, -, c2', -⟩
        · rw [if_pos c1, dwV_n (V := V) (S := S) (kd := kd) (wk := wk) (wa := wa) (wb := wb) (fl := fl) (h := off h g) (s := s) (c2' _)]
        · obtain ⟨j, hj, hp, c2''⟩ := c2' (fun j => enO V S kd wk wa wb fl (mkb (stB wk wa wb (off h g) s) V) (rho (off h g) j))
          rw [if_neg (show ¬ cntI _ _ = 0 by omega), dwV_s (V := V) (S := S) (kd := kd) (wk := wk) (wa := wa) (wb := wb) (fl := fl) (h := off h g) (s := s) (j := j) c2'']
          exact (hS.2.2.2.2.1 j c2'').1
      · rw [q_updN hgi, q_updN hgi]
        exact hE g (by omega) hgN
theorem g_reckon {N V S h s t : Nat} {kd wk wa wb fl am bm : Nat → Nat} {gu wi st told : Int32} {gK wK wA wB wN floors ah be : Nat → Int32} (hO : SlOK N V S kd wk wa wb) (hX : SlX N V S kd wk wa wb gu wi st gK wK wA wB wN) (hh : h < 2 ^ N) (hs : s < 2 ^ V) (hf : ∀ g, g < 6 → floors g = nI (fl g) ∧ fl g < 16) (hMo : MoOK N t am bm) (hMx : MoX t am bm told ah be) (EW : Nat → Int32) (oh : Int32) (os : Int32) (of : Nat → Int32) (sta : Int32) (good : Int32) (soon : Int32) (woken : Int32) (KS : Nat → Int32) (B : Nat → Int32) (W : Nat → Int32) (size : Int32) (endI : Int32) (order : Nat → Int32) (waits : Nat → Int32) (wak : Nat → Int32) (places : Nat → Int32) (times : Nat → Int32) (FG : Nat → Int32) (SG : Nat → Int32) (E : Nat → Int32) (L : Nat → Int32) :
    ∃ EW' oh' os' of' sta' good' soon' woken' KS' B' W' size' endI' order' waits' wak' places' times' FG' SG' E' L', fX8_reckonEndsWithout KK EW (nI h) (nI s) floors oh os of gu wi st sta good soon woken KS B W size endI order waits wak places times FG SG E L wN wK wA wB gK told ah be = some (EW', oh', os', of', sta', good', soon', woken', KS', B', W', size', endI', order', waits', wak', places', times', FG', SG', E', L') ∧ ∀ g, g < N → EW' g = dwV V S kd wk wa wb fl (off h g) s := by
  obtain ⟨EW', oh', os', of', sta', good', soon', woken', KS', B', W', size', endI', order', waits', wak', places', times', FG', SG', E', L', e, hE⟩ := g_rkL hO hX hh hs hf hMo hMx 6 0 KK EW oh os of sta good soon woken KS B W size endI order waits wak places times FG SG E L (by omega) (by decide) (fun g hg => absurd hg (by omega))
  change fX8_reckonEndsWithout_L2 _ _ _ _ _ _ _ _ _ _ _ _ _ _ _ _ 0 _ _ _ _ _ _ _ _ _ _ _ _ _ _ _ _ _ _ _ _ _ _ = _ at e
  refine ⟨EW', oh', os', of', sta', good', soon', woken', KS', B', W', size', endI', order', waits', wak', places', times', FG', SG', E', L', ?_, hE⟩
  unfold fX8_reckonEndsWithout
  rw [e, bd22_eq]
def drV (a i : Nat) : Nat := (7919 * a + 6151 * i + 1) * (7919 * a + 6151 * i + 1) % 65521 / 8
theorem l_draw {a i : Nat} (ha : a < 10000) (hi : i < 40) : (((7919 : Int64) * (nI a).toInt64 + 6151 * (nI i).toInt64 + 1) * (7919 * (nI a).toInt64 + 6151 * (nI i).toInt64 + 1) - ((7919 : Int64) * (nI a).toInt64 + 6151 * (nI i).toInt64 + 1) * (7919 * (nI a).toInt64 + 6151 * (nI i).toInt64 + 1) / 65521 * 65521) / 8 = lN (drV a i) := by
  have e1 : ((7919 : Int64) * (nI a).toInt64 + 6151 * (nI i).toInt64 + 1) = lN (7919 * a + 6151 * i + 1) := by
    rw [nI_l (by omega), nI_l (by omega), show (7919 : Int64) = lN 7919 from rfl, show (6151 : Int64) = lN 6151 from rfl, lN_mul, lN_mul, lN_add, lN_1]
  have hz : 7919 * a + 6151 * i + 1 < 80000000 := by omega
  rw [e1, lN_mul]
  unfold drV
  generalize 7919 * a + 6151 * i + 1 = z at hz
  have hzz : z * z < 80000000 * 80000000 := Nat.mul_lt_mul'' hz hz
  rw [show (65521 : Int64) = lN 65521 from rfl, pk_lRem (by omega) (by omega) (by omega), show (8 : Int64) = lN 8 from rfl, pk_lDiv (by omega) (by omega) (by omega)]
theorem dr_lt (a i : Nat) : drV a i < 10000 := by
  unfold drV
  generalize (7919 * a + 6151 * i + 1) * (7919 * a + 6151 * i + 1) = z
  omega
theorem g_drawn {K a i N : Nat} (ha : a < 10000) (hi : i < 40) (hN : 1 ≤ N) (hN6 : N ≤ 6) : fX8_drawnGuest K (nI a) (nI i) (nI N) = some (nI (drV a i % N)) := by
  have hd := dr_lt a i
  unfold fX8_drawnGuest
  rw [if_pos (show (1 : Int32) ≤ nI N from nI_le (a := 1) hN (by omega))]
  simp only [nm]
  rw [gd_pos (by decide), gd_pos (by decide), l_draw ha hi, nI_l (by omega), gd_pos (show ¬ (lN N = 0) from fun q => by
    have := (pk_lEQ (a := N) (b := 0) (by omega) (by omega)).mp q
    omega), pk_lRem (by omega) (by omega) (by omega), lN_i]
