/-! the class's round begins: who comes, until when each waits, how long each takes -/
theorem g_begin {K V h s : Nat} {kd fl wk wa wb : Nat → Nat} {gK floors wK wA wB wN : Nat → Int32} {size : Int32} {order waits wakings : Nat → Int32} (hK : 1000 ≤ K) (hV : V ≤ 9) (hh : h < 64) (hs : s < 2 ^ 31)
    (hN : ∀ w, w < V → wK w = nI (wk w) ∧ wA w = nI (wa w) ∧ wB w = wbI (wk w) (wb w) ∧ wN w = nI (nmM wk wa wb w) ∧ wk w < 5 ∧ wa w < 6 ∧ (wk w ≤ 1 → wb w < 6) ∧ wb w ≤ 99)
    (hM : ∀ g, g ∈ mem h → gK g = nI (kd g) ∧ kd g < 4 ∧ floors g = nI (fl g)) :
    ∃ o' w' k', fX4_beginWith K size order waits wakings (nI h) (nI s) (nI V) wK wA wN wB gK floors = some (nI (mem h).length, o', w', k') ∧ agr (mem h).length o' (la (mem h)) ∧
      (∀ g, g < 6 → w' g = nI (wtS wk wa wb (mkb (stB wk wa wb h s) V) g V)) ∧ ∀ g, g ∈ mem h → k' g = nI (wnS kd fl g) := by
  have key : ∀ k g n (T W Z : Nat → Int32), g + k = 6 → k < n → agr (memN h g).length T (la (memN h g)) → (∀ x, x < g → W x = nI (wtS wk wa wb (mkb (stB wk wa wb h s) V) x V)) → (∀ x, x < g → x ∈ mem h → Z x = nI (wnS kd fl x)) →
      ∃ o' w' k', fX4_beginWith_L7 K (nI h) (nI s) (nI V) wK wA wN wB gK floors n (nI g) (nI (memN h g).length) T W Z = some (nI (mem h).length, o', w', k') ∧ agr (mem h).length o' (la (mem h)) ∧
      (∀ g, g < 6 → w' g = nI (wtS wk wa wb (mkb (stB wk wa wb h s) V) g V)) ∧ ∀ g, g ∈ mem h → k' g = nI (wnS kd fl g) := by
    intro k
    induction k with
    | zero =>
      intro g n T W Z hg hn hA hW hZ
      obtain ⟨n, rfl⟩ : ∃ q, n = q + 1 := ⟨n - 1, by omega⟩
      have : g = 6 := by omega
      subst this
      exact ⟨T, W, Z, by rw [fX4_beginWith_L7, if_pos (nI_le (Nat.le_refl _) (by omega))]; rfl, hA, hW, fun g hg => hZ g (q_mem hg) hg⟩
    | succ k ih =>
      intro g n T W Z hg hn hA hW hZ
      obtain ⟨n, rfl⟩ : ∃ q, n = q + 1 := ⟨n - 1, by omega⟩
      have hl := memN_le h g
      rw [fX4_beginWith_L7, if_neg (nI_ge (show g < 6 by omega) (by omega)), q_has (by omega) (by omega), bd1_eq]
      obtain ⟨rw_, hrw⟩ := g_waking (K := K) (kinds := gK) (floors := floors) (show g < 6 by omega)
      have hz : g ∈ mem h → rw_ = nI (wnS kd fl g) := by
        intro hgm
        obtain ⟨a1, a2, a3⟩ := hM g hgm
        rw [p_waking (show g < 6 by omega) a1 a2 a3] at hrw
        exact (Option.some.inj hrw).symm
      have go : ∀ T', agr (memN h (g + 1)).length T' (la (memN h (g + 1))) → ∃ o' w' k', (bd1 (fX1_notSoonerThan K (nI g) (nI h) (nI s) (nI V) wK wA wN wB) fun r_1 =>
          bd1 (fX8_put K 6 (nI g) r_1 W) fun T_waits_3 => bd1 (fX1_wakingOf K (nI g) gK floors) fun r_2 => bd1 (fX8_put K 6 (nI g) r_2 Z) fun T_wakings_3 => nm (nI g + 1) fun x2_1 =>
          fX4_beginWith_L7 K (nI h) (nI s) (nI V) wK wA wN wB gK floors n x2_1 (nI (memN h (g + 1)).length) T' T_waits_3 T_wakings_3) = some (nI (mem h).length, o', w', k') ∧ agr (mem h).length o' (la (mem h)) ∧
          (∀ g, g < 6 → w' g = nI (wtS wk wa wb (mkb (stB wk wa wb h s) V) g V)) ∧ ∀ g, g ∈ mem h → k' g = nI (wnS kd fl g) := by
        intro T' hT'
        rw [g_notSooner hK hV (by omega) hs (show g < 6 by omega) hN, bd1_eq, q_put (show g < 6 by omega) (by omega), bd1_eq, hrw, bd1_eq, q_put (show g < 6 by omega) (by omega), bd1_eq]
        simp only [nm, nI_1]
        exact ih (g + 1) n T' _ _ (by omega) (by omega) hT' (fun x hx => by
          by_cases hxg : x = g
          · subst hxg; rw [q_updS]
          · rw [q_updN hxg]; exact hW x (by omega)) (fun x hx hxm => by
          by_cases hxg : x = g
          · subst hxg; rw [q_updS]; exact hz hxm
          · rw [q_updN hxg]; exact hZ x (by omega) hxm)
      rw [memN_succ] at go
      cases hb : h.testBit g with
      | false =>
        simp only [hb, Bool.false_eq_true, if_false, List.append_nil] at go
        rw [bI_f, if_pos rfl, bd2_eq]
        exact go T hA
      | true =>
        simp only [hb, if_true] at go
        rw [bI_t, if_neg q_n10, q_put (show (memN h g).length < 6 by omega) (by omega), bd1_eq]
        simp only [nm, bd2_eq]
        have := go (upd T (memN h g).length (nI g)) (la_app hA)
        rw [List.length_append, List.length_singleton, ← nI_1 (memN h g).length] at this
        exact this
  unfold fX4_beginWith
  obtain ⟨o', w', k', e, h1, h2, h3⟩ := key 6 0 K order waits wakings (by omega) (by omega) (fun k hk => absurd hk (by simp [memN])) (fun x hx => absurd hx (by omega)) (fun x hx => absurd hx (by omega))
  change fX4_beginWith_L7 _ _ _ _ _ _ _ _ _ _ _ 0 0 _ _ _ = _ at e
  rw [e, bd4_eq]
  exact ⟨o', w', k', rfl, h1, h2, h3⟩
/-! a good round is noted -/
theorem q_idxget : ∀ (o : List Nat) (i : Nat) (hi : i < o.length), o.Nodup → o.idxOf o[i] = i
  | x :: r, 0, _, _ => List.idxOf_cons_self
  | x :: r, i + 1, hi, hnd => by
    have hi' : i < r.length := Nat.lt_of_succ_lt_succ hi
    have h1 := q_idxget r i hi' (List.nodup_cons.mp hnd).2
    have h2 : (x :: r)[i + 1] = r[i] := rfl
    have hne : r[i] ≠ x := fun q => (List.nodup_cons.mp hnd).1 (q ▸ List.getElem_mem hi')
    rw [h2, q_idx hne, h1]
/-- those of o at place i or behind it -/
def lmO (o : List Nat) (i : Nat) : Nat := mkb (fun b => decide (b ∈ o) && decide (i ≤ o.idxOf b)) 6
theorem lm_end {o : List Nat} : lmO o o.length = 0 := by
  apply Nat.eq_of_testBit_eq
  intro b
  rw [lmO, mkb_test, Nat.zero_testBit]
  by_cases hb : b ∈ o
  · have := List.idxOf_lt_length_iff.mpr hb
    have h2 : ¬ o.length ≤ o.idxOf b := by omega
    simp [h2]
  · simp [hb]
theorem lm_step {o : List Nat} {i : Nat} (hnd : o.Nodup) (h6 : ∀ g, g ∈ o → g < 6) (hi : i < o.length) : lmO o i = lmO o (i + 1) ||| 2 ^ o[i] := by
  apply Nat.eq_of_testBit_eq
  intro b
  rw [Nat.testBit_or, lmO, lmO, mkb_test, mkb_test, Nat.testBit_two_pow]
  have hm : o[i] ∈ o := List.getElem_mem hi
  have hx : o.idxOf o[i] = i := q_idxget o i hi hnd
  by_cases hb : o[i] = b
  · subst hb
    have h6' := h6 _ hm
    simp [hm, hx, h6']
  · by_cases hbo : b ∈ o
    · have hne : o.idxOf b ≠ i := fun q => hb (by
        have h1 : o[o.idxOf b]'(List.idxOf_lt_length_iff.mpr hbo) = b := List.getElem_idxOf (List.idxOf_lt_length_iff.mpr hbo)
        rw [← h1]
        congr 1
        exact q.symm)
      have : (i ≤ o.idxOf b) = (i + 1 ≤ o.idxOf b) := by apply propext; omega
      simp [hb, this]
    · simp [hb, hbo]
theorem aft_eq {o : List Nat} {i : Nat} (hnd : o.Nodup) (hi : i < o.length) : aftO o o[i] = lmO o (i + 1) := by
  have hm : o[i] ∈ o := List.getElem_mem hi
  have hx : o.idxOf o[i] = i := q_idxget o i hi hnd
  unfold aftO lmO
  apply mkb_ext
  intro b hb
  rw [hx]
  simp only [hm, decide_true, Bool.true_and]
  congr 1
theorem aft_out {o : List Nat} {g : Nat} (h : g ∉ o) : aftO o g = 0 := by
  apply Nat.eq_of_testBit_eq
  intro b
  rw [aftO, mkb_test, Nat.zero_testBit]
  simp [h]
/-- what the loop of a good round writes, guest by guest: places from i on have been gone through -/
def NgA (o : List Nat) (y x1 : Int32) (E L B W : Nat → Int32) (i : Nat) (E' L' B' W' : Nat → Int32) : Prop :=
  ∀ g, g < 6 → (g ∈ o ∧ i ≤ o.idxOf g →
      E' g = (if y = 0 then (if nI (o.idxOf g + 1) < E g then nI (o.idxOf g + 1) else E g) else nI (o.idxOf g + 1)) ∧
      L' g = (if y = 0 then (if L g < nI (o.idxOf g + 1) then nI (o.idxOf g + 1) else L g) else nI (o.idxOf g + 1)) ∧
      B' g = B g ||| nI (aftO o g) ∧ W' g = (if x1 = 0 then W g else W g ||| nI (aftO o g))) ∧
    (¬ (g ∈ o ∧ i ≤ o.idxOf g) → E' g = E g ∧ L' g = L g ∧ B' g = B g ∧ W' g = W g)
theorem g_note {K : Nat} {o : List Nat} {y x1 : Int32} {order : Nat → Int32} (E L B W : Nat → Int32) (hnd : o.Nodup) (h6 : ∀ g, g ∈ o → g < 6) (hl : o.length ≤ 6) (hA : agr o.length order (la o)) :
    ∀ i n (E' L' B' W' : Nat → Int32), i ≤ o.length → i < n → NgA o y x1 E L B W i E' L' B' W' →
    ∃ E2 L2 B2 W2, fX6_noteGood_L98 K x1 y order n (nI (lmO o i)) (nI i - 1) E' L' B' W' = some (E2, L2, B2, W2) ∧ NgA o y x1 E L B W 0 E2 L2 B2 W2 := by
  intro i
  induction i with
  | zero =>
    intro n E' L' B' W' hi hn hN
    obtain ⟨n, rfl⟩ : ∃ q, n = q + 1 := ⟨n - 1, by omega⟩
    exact ⟨E', L', B', W', by rw [fX6_noteGood_L98, if_pos (by decide)], hN⟩
  | succ i ih =>
    intro n E' L' B' W' hi hn hN
    obtain ⟨n, rfl⟩ : ∃ q, n = q + 1 := ⟨n - 1, by omega⟩
    have hio : i < o.length := by omega
    have hm : o[i] ∈ o := List.getElem_mem hio
    have hx : o.idxOf o[i] = i := q_idxget o i hio hnd
    have hg6 := h6 _ hm
    have hoi : order i = nI o[i] := by
      rw [hA i hio, la, List.getD_eq_getElem?_getD, List.getElem?_eq_getElem hio]
      rfl
    obtain ⟨-, hN2⟩ := hN o[i] hg6
    obtain ⟨u1, u2, u3, u4⟩ := hN2 (fun q => by rw [hx] at q; omega)
    rw [nI_pred, fX6_noteGood_L98, if_neg (nI_pos (by omega)), q_at (show i < 6 by omega) (by omega), bd1_eq, hoi, nI_1]
    have e1 : (if y = 0 then bd1 (fX8_at K 6 (nI o[i]) E') fun r_1 => some (if nI (i + 1) < r_1 then nI (i + 1) else r_1) else some (nI (i + 1))) = some (if y = 0 then (if nI (i + 1) < E o[i] then nI (i + 1) else E o[i]) else nI (i + 1)) := by
      by_cases hy : y = 0
      · rw [if_pos hy, if_pos hy, q_at hg6 (by omega), bd1_eq, u1]
      · rw [if_neg hy, if_neg hy]
    have e2 : (if y = 0 then bd1 (fX8_at K 6 (nI o[i]) L') fun r_1 => some (if r_1 < nI (i + 1) then nI (i + 1) else r_1) else some (nI (i + 1))) = some (if y = 0 then (if L o[i] < nI (i + 1) then nI (i + 1) else L o[i]) else nI (i + 1)) := by
      by_cases hy : y = 0
      · rw [if_pos hy, if_pos hy, q_at hg6 (by omega), bd1_eq, u2]
      · rw [if_neg hy, if_neg hy]
    have e3 : (if x1 = 0 then some W' else bd1 (fX8_at K 6 (nI o[i]) W') fun r_4 => bd1 (fX8_put K 6 (nI o[i]) (r_4 ||| nI (lmO o (i + 1))) W') fun T_behindAsWoken_3 => some T_behindAsWoken_3) = some (if x1 = 0 then W' else upd W' o[i] (W o[i] ||| nI (lmO o (i + 1)))) := by
      by_cases hy : x1 = 0
      · rw [if_pos hy, if_pos hy]
      · rw [if_neg hy, if_neg hy, q_at hg6 (by omega), bd1_eq, q_put hg6 (by omega), bd1_eq, u4]
    rw [e1, bd1_eq, q_put hg6 (by omega), bd1_eq, e2, bd1_eq, q_put hg6 (by omega), bd1_eq, q_at hg6 (by omega), bd1_eq, q_put hg6 (by omega), bd1_eq, e3, bd1_eq, u3]
    simp only [nm, x_pm]
    rw [q_or1 (show o[i] < 31 by omega), ← lm_step hnd h6 hio]
    refine ih n _ _ _ _ (by omega) (by omega) (fun g hg => ?_)
    obtain ⟨v1, v2⟩ := hN g hg
    by_cases hgo : g = o[i]
    · subst hgo
      rw [q_updS, q_updS, q_updS, hx]
      refine ⟨fun _ => ⟨rfl, rfl, by rw [aft_eq hnd hio], ?_⟩, fun q => absurd ⟨hm, Nat.le_refl _⟩ q⟩
      by_cases hy : x1 = 0
      · rw [if_pos hy, if_pos hy]; exact u4
      · rw [if_neg hy, if_neg hy, q_updS, aft_eq hnd hio]
    · have hW : (if x1 = 0 then W' else upd W' o[i] (W o[i] ||| nI (lmO o (i + 1)))) g = W' g := by
        by_cases hy : x1 = 0
        · rw [if_pos hy]
        · rw [if_neg hy, q_updN hgo]
      rw [q_updN hgo, q_updN hgo, q_updN hgo, hW]
      have hiff : (g ∈ o ∧ i ≤ o.idxOf g) ↔ (g ∈ o ∧ i + 1 ≤ o.idxOf g) := by
        refine ⟨fun q => ⟨q.1, ?_⟩, fun q => ⟨q.1, by omega⟩⟩
        have hne : o.idxOf g ≠ i := fun z => hgo (by
          have h1 : o[o.idxOf g]'(List.idxOf_lt_length_iff.mpr q.1) = g := List.getElem_idxOf (List.idxOf_lt_length_iff.mpr q.1)
          rw [← h1]
          congr 1)
        have := q.2
        omega
      rw [hiff]
      exact ⟨v1, v2⟩
