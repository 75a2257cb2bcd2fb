theorem q_idx {x g : Nat} {r : List Nat} (h : g ≠ x) : (x :: r).idxOf g = r.idxOf g + 1 := by
  have hb : (x == g) = false := by simpa using Ne.symm h
  rw [List.idxOf_cons, hb]
  rfl
/-! one round walked: times, places, its end -/
theorem nI_max {a b : Nat} (ha : a < 2 ^ 31) (hb : b < 2 ^ 31) : (if nI a < nI b then nI b else nI a) = nI (max a b) := by
  by_cases h : a < b
  · rw [if_pos (nI_lt h hb), Nat.max_eq_right (by omega)]
  · rw [if_neg (nI_nlt (by omega) ha), Nat.max_eq_left (by omega)]
theorem nI_abs {a b : Nat} (ha : a < 2 ^ 20) (hb : b < 2 ^ 20) : (if (0 : Int32) ≤ nI a - nI b then nI a - nI b else 0 - (nI a - nI b)) = nI (dst b a) := by
  unfold dst
  by_cases h : b ≤ a
  · rw [pk_sub h, if_pos (nI_pos' (by omega)), if_pos h]
  · have h1 : nI a - nI b < 0 := pk_sneg (by omega) (by omega)
    rw [if_neg (Int32.not_le.mpr h1), if_neg h, Int32.zero_sub, Int32.neg_sub, pk_sub (by omega)]
/-- the class's walk from place i on -/
theorem w_walk4 {K n : Nat} {order waits wak floors : Nat → Int32} {fl wt wn : Nat → Nat} (hn : n ≤ 6) (hf : ∀ g, g < 6 → floors g = nI (fl g) ∧ fl g < 16) (hw : ∀ g, g < 6 → waits g = nI (wt g) ∧ wt g ≤ 99):
    ∀ (r : List Nat) (i f t : Nat) (places times : Nat → Int32) (q : Nat), i + r.length = n → r.length < q → (∀ k, k < r.length → order (i + k) = nI (r.getD k 0)) → (∀ g, g ∈ r → g < 6 ∧ wak g = nI (wn g) ∧ wn g ≤ 17) → r.Nodup → f < 16 → max t 99 + 40 * r.length ≤ 1000 →
    ∃ p' t', fX4_walk_L13 K (nI n) order waits wak floors q (nI f) (nI t) (nI i) places times = some (nI (wlkE fl wt wn r f t), p', t') ∧
      (∀ g, g ∈ r → p' g = nI (i + r.idxOf g) ∧ t' g = nI (wlkT fl wt wn r f t g)) ∧ ∀ g, g ∉ r → p' g = places g ∧ t' g = times g := by
  intro r
  induction r with
  | nil =>
    intro i f t places times q hi hq _ _ _ _ _
    obtain ⟨q, rfl⟩ : ∃ m, q = m + 1 := ⟨q - 1, by simp at hq; omega⟩
    simp at hi
    subst hi
    refine ⟨places, times, ?_, fun g hg => (by cases hg), fun g _ => ⟨rfl, rfl⟩⟩
    rw [fX4_walk_L13, if_pos (nI_le (Nat.le_refl _) (by omega))]
    rfl
  | cons x r ih =>
    intro i f t places times q hi hq ho hm hnd hf2 ht
    obtain ⟨q, rfl⟩ : ∃ m, q = m + 1 := ⟨q - 1, by simp at hq; omega⟩
    simp only [List.length_cons] at hi hq ht
    obtain ⟨hx, c1, c2⟩ := hm x (List.mem_cons_self ..)
    have h0 := ho 0 (by simp)
    simp only [Nat.add_zero, List.getD_cons_zero] at h0
    obtain ⟨a1, a2⟩ := hf x hx
    obtain ⟨b1, b2⟩ := hw x hx
    have hd : dst f (fl x) < 16 := by unfold dst; split <;> omega
    rw [fX4_walk_L13, if_neg (nI_ge (by omega) (by omega)), q_at (show i < 6 by omega) (by omega), bd1_eq, h0, q_at hx (by omega), bd1_eq, q_at hx (by omega), bd1_eq, a1, b1, nI_abs (by omega) (by omega), nI_add, nI_max (by omega) (by omega)]
    simp only [nm]
    rw [q_put hx (by omega), bd1_eq, q_put hx (by omega), bd1_eq, q_at hx (by omega), bd1_eq, c1, nI_add, nI_1]
    have hmx : max (t + dst f (fl x)) (wt x) ≤ max (t + 15) 99 := by omega
    obtain ⟨p', t', e, g1, g2⟩ := ih (i + 1) (fl x) (max (t + dst f (fl x)) (wt x) + wn x) (upd places x (nI i)) (upd times x (nI (max (t + dst f (fl x)) (wt x)))) q (by omega) (by omega) (fun k hk2 => by
      have := ho (k + 1) (by simp; omega)
      simp only [List.getD_cons_succ] at this
      rw [← this]
      congr 1
      omega) (fun g hg => hm g (List.mem_cons_of_mem _ hg)) (List.nodup_cons.mp hnd).2 a2 (by omega)
    refine ⟨p', t', e, ?_, ?_⟩
    · intro g hg
      by_cases hgx : g = x
      · subst hgx
        have hnr := (List.nodup_cons.mp hnd).1
        obtain ⟨z1, z2⟩ := g2 g hnr
        rw [z1, z2, q_updS, q_updS, List.idxOf_cons_self, wlkT, if_pos rfl]
        exact ⟨rfl, rfl⟩
      · have hgr : g ∈ r := (List.mem_cons.mp hg).resolve_left hgx
        obtain ⟨z1, z2⟩ := g1 g hgr
        rw [z1, z2, q_idx hgx, wlkT, if_neg hgx]
        refine ⟨?_, rfl⟩
        congr 1
        omega
    · intro g hg
      have hgx : g ≠ x := fun q => hg (q ▸ List.mem_cons_self ..)
      obtain ⟨z1, z2⟩ := g2 g (fun q => hg (List.mem_cons_of_mem _ q))
      rw [z1, z2, q_updN hgx, q_updN hgx]
      exact ⟨rfl, rfl⟩
/-- what the reference waits for -/
theorem p_notSooner {K V m g : Nat} {wk wa wb : Nat → Nat} {wK wA wB : Nat → Int32} (hK : 1000 ≤ K) (hV : V ≤ 9) (hm : m < 2 ^ 31) (hg : g < 6) (hN : ∀ w, w < V → wK w = nI (wk w) ∧ wA w = nI (wa w) ∧ wB w = wbI (wk w) (wb w) ∧ wk w < 5 ∧ wa w < 6 ∧ wb w ≤ 99) :
    fX9_notSooner K (nI g) (nI V) (nI m) wK wA wB = some (nI (wtS wk wa wb m g V)) := by
  have hb : ∀ w, w ≤ V → wtS wk wa wb m g w ≤ 99 := by
    intro w
    induction w with
    | zero => intro _; exact Nat.zero_le _
    | succ w ih =>
      intro hw
      rw [wtS]
      have h1 := ih (by omega)
      have h2 := (hN w (by omega)).2.2.2.2.2
      split <;> omega
  have key : ∀ k w n, w + k = V → k < n → fX9_notSooner_L4 K (nI g) (nI V) (nI m) wK wA wB n (nI (wtS wk wa wb m g w)) (nI w) = some (nI (wtS wk wa wb m g V)) := by
    intro k
    induction k with
    | zero =>
      intro w n hw hn
      obtain ⟨n, rfl⟩ : ∃ q, n = q + 1 := ⟨n - 1, by omega⟩
      have : w = V := by omega
      subst this
      rw [fX9_notSooner_L4, if_pos (nI_le (Nat.le_refl _) (by omega))]
    | succ k ih =>
      intro w n hw hn
      obtain ⟨n, rfl⟩ : ∃ q, n = q + 1 := ⟨n - 1, by omega⟩
      obtain ⟨h1, h2, h3, h4, h5, h6⟩ := hN w (by omega)
      have hbw := hb w (by omega)
      have ih' := ih (w + 1) n (by omega) (by omega)
      rw [wtS] at ih'
      rw [fX9_notSooner_L4, if_neg (nI_ge (by omega) (by omega)), q_has9 hm (by omega), bd1_eq]
      simp only [p_gd9 (show w < 9 by omega)]
      simp only [nI_clamp (show w < 2 ^ 31 by omega), h1, h2, nm, nI_1]
      cases hmb : m.testBit w with
      | false =>
        simp only [hmb, Bool.false_eq_true, false_and, if_false] at ih'
        rw [bI_f, if_pos rfl, bd1_eq, if_pos rfl, bd1_eq]
        exact ih'
      | true =>
        rw [bI_t, if_neg q_n10]
        by_cases hk3 : wk w = 3
        · have h8 : wB w = nI (wb w) := by rw [h3, wbI, if_neg (by omega)]
          rw [if_pos (show nI (wk w) = 3 by rw [hk3]; rfl)]
          by_cases hag : wa w = g
          · simp only [hmb, hk3, hag, and_self, if_true] at ih'
            rw [if_pos (show nI (wa w) = nI g by rw [hag]), h8]
            by_cases hle : wb w ≤ wtS wk wa wb m g w
            · rw [if_pos (nI_le hle (by omega))]
              rw [Nat.max_eq_left hle] at ih'
              simpa [bs0, bd1] using ih'
            · rw [if_neg (nI_ge (by omega) (by omega))]
              rw [Nat.max_eq_right (by omega)] at ih'
              simpa [bs0, bd1] using ih'
          · have hne : ¬ nI (wa w) = nI g := fun q => hag ((nI_eq (by omega) (by omega)).mp q)
            simp only [hag, and_false, if_false] at ih'
            rw [if_neg hne]
            simpa [bs0, bd1] using ih'
        · have hne : ¬ nI (wk w) = 3 := fun q => hk3 ((nI_eq (b := 3) (by omega) (by omega)).mp q)
          simp only [hk3, false_and, and_false, if_false] at ih'
          rw [if_neg hne]
          simpa [bs0, bd1] using ih'
  unfold fX9_notSooner
  have := key V 0 K (by omega) (by omega)
  rw [wtS] at this
  rw [show (0 : Int32) = nI 0 from rfl, this, bd1_eq]
