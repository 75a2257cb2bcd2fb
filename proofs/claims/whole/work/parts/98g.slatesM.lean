def sl2 (W : Nat → Nat) (q : Nat) : Bool := decide (q / 10 < 6) && decide (q % 10 < 6) && (W (q / 10)).testBit (q % 10)
theorem m_slates {K N h m t n l : Nat} {am bm : Nat → Nat} {kp : Nat → Nat} {o : Nat → List Nat} {st woke keptBy come : Nat → Int32} (hK : 1000 ≤ K) (hN : N ≤ 6) (hst : st 0 = nI h) (hh : h < 64) (hhN : h < 2 ^ N) (hO : MoOK N t am bm) (hw : ∀ i, i < t → woke (2 * i) = nI (am i) ∧ woke (2 * i + 1) = nI (bm i))
    (hn : n ≤ 720) (hn0 : 0 < n) (hm : m < 512) (hl : l ≤ 6) (hF : FoP kp o n l keptBy come) (hmo : ∀ j, j < n → ∀ g, g ∈ o j ↔ g ∈ mem h) :
    fX9_slates_L30 K (nI N) (nI t) (nI m) (nI n) st keptBy come woke K 0 (-4) 99 = some (nI (cntI (sl2 (fun a => orI (fun i => decide (kp i = m) && wkO h t am bm (o i)) (fun i => aftO (o i) a) n)) 100), oO (fstI (sl2 (fun a => orI (fun i => decide (kp i = m) && wkO h t am bm (o i)) (fun i => aftO (o i) a) n)) 100)) := by
  have key : ∀ i q c x3, i ≤ 100 → i < q → fX9_slates_L30 K (nI N) (nI t) (nI m) (nI n) st keptBy come woke q (nI c) x3 (nI i - 1) = some (nI (c + cntI (sl2 (fun a => orI (fun i => decide (kp i = m) && wkO h t am bm (o i)) (fun i => aftO (o i) a) n)) i), match fstI (sl2 (fun a => orI (fun i => decide (kp i = m) && wkO h t am bm (o i)) (fun i => aftO (o i) a) n)) i with | some j => nI j | none => x3) := by
    intro i
    induction i with
    | zero =>
      intro q c x3 hi hq
      obtain ⟨q, rfl⟩ : ∃ y, q = y + 1 := ⟨q - 1, by omega⟩
      rw [fX9_slates_L30, if_pos (by decide)]
      rfl
    | succ i ih =>
      intro q c x3 hi hq
      obtain ⟨q, rfl⟩ : ∃ y, q = y + 1 := ⟨q - 1, by omega⟩
      have e1 : nI i / 10 = nI (i / 10) := pk_div (d := 10) (by omega) (by omega) (by omega)
      have e2 : nI i - nI i / 10 * 10 = nI (i % 10) := pk_rem (d := 10) (by omega) (by omega) (by omega)
      have e3 := m_slateA (a := i / 10) (b := i % 10) hK hN hst hh hhN hO hw hn hn0 hm hl hF hmo (by omega) (by omega)
      rw [nI_pred, fX9_slates_L30, if_neg (nI_pos (by omega)), gd_pos (show ¬ (10 : Int32) = 0 by decide)]
      simp only [nm]
      rw [gd_pos (show ¬ (10 : Int32) = 0 by decide), e2, e1, e3, bd1_eq, x_pm, cntI, fstI]
      change (bd1 (if bI (sl2 (fun a => orI (fun i => decide (kp i = m) && wkO h t am bm (o i)) (fun i => aftO (o i) a) n) i) = 0 then _ else _) fun y_1 => bd1 (if bI (sl2 (fun a => orI (fun i => decide (kp i = m) && wkO h t am bm (o i)) (fun i => aftO (o i) a) n) i) = 0 then _ else _) _) = _
      generalize sl2 (fun a => orI (fun i => decide (kp i = m) && wkO h t am bm (o i)) (fun i => aftO (o i) a) n) = p2 at ih ⊢
      cases hp : p2 i with
      | false =>
        rw [bI_f, if_pos rfl, bd1_eq, if_pos rfl, bd1_eq, Int32.add_zero, ih q c x3 (by omega) (by omega)]
        simp only [Bool.false_eq_true, if_false, Nat.add_zero]
        cases fstI p2 i <;> rfl
      | true =>
        rw [bI_t, if_neg q_n10, bd1_eq, if_neg q_n10, bd1_eq, nI_1, ih q (c + 1) (nI i) (by omega) (by omega)]
        simp only [if_true]
        rw [show c + 1 + cntI p2 i = c + (cntI p2 i + 1) by omega]
        cases fstI p2 i <;> rfl
  have e := key 100 K 0 (-4) (by omega) (by omega)
  change fX9_slates_L30 _ _ _ _ _ _ _ _ _ _ 0 _ 99 = _ at e
  rw [e, Nat.zero_add]
  generalize fstI _ 100 = z
  cases z <;> rfl
