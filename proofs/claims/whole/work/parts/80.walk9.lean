theorem p_2g (g : Nat) : (2 : Int32) + nI g = nI (2 + g) := nI_add 2 g
theorem p_kd {k : Nat} (h : k < 4) : k = 0 ∨ k = 1 ∨ k = 2 ∨ k = 3 := by omega
theorem p_wakes {K g : Nat} {kd fl : Nat → Nat} {kinds st : Nat → Int32} (hg : g < 6) (h1 : kinds g = nI (kd g)) (h2 : kd g < 4) (h3 : st (2 + g) = nI (fl g)) : fX9_wakes K (nI g) kinds st = some (nI (wnS kd fl g)) := by
  unfold fX9_wakes
  rw [p_gd6 hg]
  simp only [nI_clamp (show g < 2 ^ 31 by omega), h1, p_2g, nI_clamp (show 2 + g < 2 ^ 31 by omega), q_gdc (show 2 + g < 8 by omega) (show 8 < 2 ^ 31 by omega), h3]
  unfold wnS
  rcases p_kd h2 with e | e | e | e <;> rw [e]
  · rfl
  · rfl
  · rfl
  · rw [if_neg (by decide), if_neg (by decide), if_pos (by decide), if_neg (by decide), if_neg (by decide), if_pos rfl, ← p_2g]
theorem p_waking {K g : Nat} {kd fl : Nat → Nat} {kinds floors : Nat → Int32} (hg : g < 6) (h1 : kinds g = nI (kd g)) (h2 : kd g < 4) (h3 : floors g = nI (fl g)) : fX1_wakingOf K (nI g) kinds floors = some (nI (wnS kd fl g)) := by
  unfold fX1_wakingOf
  rw [q_at hg (by omega), bd1_eq, h1, q_at hg (by omega), bd1_eq, h3]
  unfold wnS
  rcases p_kd h2 with e | e | e | e <;> rw [e]
  · rfl
  · rfl
  · rfl
  · rw [if_neg (by decide), if_neg (by decide), if_pos (by decide), if_neg (by decide), if_neg (by decide), if_pos rfl, ← p_2g]
theorem wnS_le {kd fl : Nat → Nat} {g : Nat} (h : fl g < 16) : wnS kd fl g ≤ 17 := by
  unfold wnS
  split
  · omega
  · split
    · omega
    · split <;> omega
theorem wtS_le {wk wa wb : Nat → Nat} {m g V : Nat} (h : ∀ w, w < V → wb w ≤ 99) : wtS wk wa wb m g V ≤ 99 := by
  have : ∀ w, w ≤ V → wtS wk wa wb m g w ≤ 99 := by
    intro w
    induction w with
    | zero => intro _; exact Nat.zero_le _
    | succ w ih =>
      intro hw
      rw [wtS]
      have h1 := ih (by omega)
      have h2 := h w (by omega)
      split <;> omega
  exact this V (Nat.le_refl _)
theorem p_abs9 {a b : Nat} (ha : a < 2 ^ 20) (hb : b < 2 ^ 20) : (if (0 : Int32) ≤ nI a - nI b then some (nI a - nI b) else some (-(nI a - nI b))) = some (nI (dst b a)) := by
  rw [← nI_abs ha hb]
  by_cases h : (0 : Int32) ≤ nI a - nI b
  · rw [if_pos h, if_pos h]
  · rw [if_neg h, if_neg h, Int32.zero_sub]
theorem p_max9 {a b : Nat} (ha : a < 2 ^ 31) (hb : b < 2 ^ 31) : (if nI b ≤ nI a then some (nI a) else some (nI b)) = some (nI (max a b)) := by
  by_cases h : b ≤ a
  · rw [if_pos (nI_le h ha), Nat.max_eq_left h]
  · rw [if_neg (nI_ge (by omega) (by omega)), Nat.max_eq_right (by omega)]
/-- the reference's walk from place i on -/
theorem w_walk9 {K n V m : Nat} {order st wK wA wB kinds : Nat → Int32} {kd fl wk wa wb : Nat → Nat} (hK : 1000 ≤ K) (hn : n ≤ 6) (hV : V ≤ 9) (hm : m < 2 ^ 31)
    (hN : ∀ w, w < V → wK w = nI (wk w) ∧ wA w = nI (wa w) ∧ wB w = wbI (wk w) (wb w) ∧ wk w < 5 ∧ wa w < 6 ∧ wb w ≤ 99) :
    ∀ (r : List Nat) (i f t : Nat) (time place : Nat → Int32) (q : Nat), i + r.length = n → r.length < q → (∀ k, k < r.length → order (i + k) = nI (r.getD k 0)) → (∀ g, g ∈ r → g < 6 ∧ kinds g = nI (kd g) ∧ kd g < 4 ∧ st (2 + g) = nI (fl g) ∧ fl g < 16) → r.Nodup → f < 16 → max t 99 + 40 * r.length ≤ 1000 →
    ∃ t' p', fX9_goesRound_L9 K (nI V) (nI m) (nI n) order st wK wA wB kinds q (nI t) (nI f) (nI i) time place = some (nI (wlkE fl (fun g => wtS wk wa wb m g V) (wnS kd fl) r f t), t', p') ∧
      (∀ g, g ∈ r → p' g = nI (i + r.idxOf g) ∧ t' g = nI (wlkT fl (fun g => wtS wk wa wb m g V) (wnS kd fl) r f t g)) ∧ ∀ g, g ∉ r → p' g = place g ∧ t' g = time g := by
  intro r
  induction r with
  | nil =>
    intro i f t time place q hi hq _ _ _ _ _
    obtain ⟨q, rfl⟩ : ∃ m, q = m + 1 := ⟨q - 1, by simp at hq; omega⟩
    simp at hi
    subst hi
    refine ⟨time, place, ?_, fun g hg => (by cases hg), fun g _ => ⟨rfl, rfl⟩⟩
    rw [fX9_goesRound_L9, if_pos (nI_le (Nat.le_refl _) (by omega))]
    rfl
  | cons x r ih =>
    intro i f t time place q hi hq ho hm2 hnd hf2 ht
    obtain ⟨q, rfl⟩ : ∃ m, q = m + 1 := ⟨q - 1, by simp at hq; omega⟩
    simp only [List.length_cons] at hi hq ht
    obtain ⟨hx, k1, k2, k3, k4⟩ := hm2 x (List.mem_cons_self ..)
    have h0 := ho 0 (by simp)
    simp only [Nat.add_zero, List.getD_cons_zero] at h0
    have hd : dst f (fl x) < 16 := by unfold dst; split <;> omega
    have hwt : wtS wk wa wb m x V ≤ 99 := wtS_le (fun w hw => (hN w hw).2.2.2.2.2)
    have hwn : wnS kd fl x ≤ 17 := wnS_le k4
    rw [fX9_goesRound_L9, if_neg (nI_ge (by omega) (by omega)), p_gd6 (show i < 6 by omega)]
    simp only [nm]
    rw [nI_clamp (show i < 2 ^ 31 by omega), h0]
    simp only [p_2g, nI_clamp (show 2 + x < 2 ^ 31 by omega), nI_clamp (show x < 2 ^ 31 by omega), q_gdc (show 2 + x < 8 by omega) (show 8 < 2 ^ 31 by omega), q_gdc hx (show 6 < 2 ^ 31 by omega), k3, p_abs9 (show fl x < 2 ^ 20 by omega) (show f < 2 ^ 20 by omega), bd1_eq, nI_add]
    rw [p_notSooner hK hV hm hx hN]
    simp only [bd1_eq, p_max9 (show t + dst f (fl x) < 2 ^ 31 by omega) (show wtS wk wa wb m x V < 2 ^ 31 by omega)]
    rw [p_wakes hx k1 k2 k3]
    simp only [bd1_eq, nI_add, nI_1]
    obtain ⟨t', p', e, g1, g2⟩ := ih (i + 1) (fl x) (max (t + dst f (fl x)) (wtS wk wa wb m x V) + wnS kd fl x) (upd time x (nI (max (t + dst f (fl x)) (wtS wk wa wb m x V)))) (upd place x (nI i)) q (by omega) (by omega) (fun k hk2 => by
      have := ho (k + 1) (by simp; omega)
      simp only [List.getD_cons_succ] at this
      rw [← this]
      congr 1
      omega) (fun g hg => hm2 g (List.mem_cons_of_mem _ hg)) (List.nodup_cons.mp hnd).2 k4 (by omega)
    refine ⟨t', p', e, ?_, ?_⟩
    · intro g hg
      by_cases hgx : g = x
      · subst hgx
        have hnr := (List.nodup_cons.mp hnd).1
        obtain ⟨z1, z2⟩ := g2 g hnr
        rw [z1, z2, q_updS, q_updS, List.idxOf_cons_self, wlkT, if_pos rfl]
        exact ⟨rfl, rfl⟩
      · have hgr : g ∈ r := (List.mem_cons.mp hg).resolve_left hgx
        obtain ⟨z1, z2⟩ := g1 g hgr
        rw [z1, z2, q_idx hgx, wlkT, if_neg hgx]
        refine ⟨?_, rfl⟩
        congr 1
        omega
    · intro g hg
      have hgx : g ≠ x := fun q => hg (q ▸ List.mem_cons_self ..)
      obtain ⟨z1, z2⟩ := g2 g (fun q => hg (List.mem_cons_of_mem _ q))
      rw [z1, z2, q_updN hgx, q_updN hgx]
      exact ⟨rfl, rfl⟩
