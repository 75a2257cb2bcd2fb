/-! the class's survey, a round more -/
theorem wlkE_le {fl wt wn : Nat → Nat} (hw : ∀ g, wt g ≤ 99) : ∀ (r : List Nat) (f t : Nat), (∀ x, x ∈ r → fl x < 16 ∧ wn x ≤ 17) → f < 16 → wlkE fl wt wn r f t ≤ max t 99 + 40 * r.length := by
  intro r
  induction r with
  | nil => intro f t _ _; simp [wlkE]; omega
  | cons x r ih =>
    intro f t hr hf
    obtain ⟨h1, h2⟩ := hr x (List.mem_cons_self ..)
    have hd : dst f (fl x) < 16 := by unfold dst; split <;> omega
    have h3 := hw x
    rw [wlkE, List.length_cons]
    have := ih (fl x) (max (t + dst f (fl x)) (wt x) + wn x) (fun y hy => hr y (List.mem_cons_of_mem _ hy)) h1
    omega
theorem cnt_le (p : Nat → Bool) : ∀ n, cntI p n ≤ n
  | 0 => Nat.le_refl _
  | n + 1 => by
    have := cnt_le p n
    rw [cntI]
    split <;> omega
theorem cnt_two (p : Nat → Bool) : ∀ n, (cntI p n = 0 ∧ fstI p n = none ∧ (∀ E, bstI p E n = none) ∧ (∀ x, minI p x n = none ∧ maxI p x n = none)) ∨
    (0 < cntI p n ∧ (∃ i, i < n ∧ p i = true ∧ fstI p n = some i) ∧ (∀ E, ∃ b, b < n ∧ p b = true ∧ bstI p E n = some b) ∧ ∀ x B, (∀ i, i < n → x i ≤ B) → (∃ v, v ≤ B ∧ minI p x n = some v) ∧ ∃ v, v ≤ B ∧ maxI p x n = some v)
  | 0 => Or.inl ⟨rfl, rfl, fun _ => rfl, fun _ => ⟨rfl, rfl⟩⟩
  | n + 1 => by
    have ih := cnt_two p n
    rw [cntI]
    cases hp : p n with
    | false =>
      rcases ih with ⟨h1, h2, h3, h4⟩ | ⟨h1, ⟨i, h2, h2', h3⟩, h4, h5⟩
      · left
        refine ⟨by simp [h1], by simp [fstI, h2, hp], fun E => by simp [bstI, hp, h3], fun x => ⟨by simp [minI, hp, (h4 x).1], by simp [maxI, hp, (h4 x).2]⟩⟩
      · right
        refine ⟨by simp; omega, ⟨i, by omega, h2', by simp [fstI, h3]⟩, fun E => ?_, fun x B hB => ?_⟩
        · obtain ⟨b, hb, hb', hb2⟩ := h4 E
          exact ⟨b, by omega, hb', by simp [bstI, hp, hb2]⟩
        · obtain ⟨⟨v, v1, v2⟩, ⟨u, u1, u2⟩⟩ := h5 x B (fun i hi => hB i (by omega))
          exact ⟨⟨v, v1, by simp [minI, hp, v2]⟩, ⟨u, u1, by simp [maxI, hp, u2]⟩⟩
    | true =>
      right
      rcases ih with ⟨h1, h2, h3, h4⟩ | ⟨h1, ⟨i, h2, h2', h3⟩, h4, h5⟩
      · refine ⟨by simp, ⟨n, by omega, hp, by simp [fstI, h2, hp]⟩, fun E => ⟨n, by omega, hp, by simp [bstI, hp, h3]⟩, fun x B hB => ⟨⟨x n, hB n (by omega), by simp [minI, hp, (h4 x).1]⟩, ⟨x n, hB n (by omega), by simp [maxI, hp, (h4 x).2]⟩⟩⟩
      · refine ⟨by simp, ⟨i, by omega, h2', by simp [fstI, h3]⟩, fun E => ?_, fun x B hB => ?_⟩
        · obtain ⟨b, hb, hb', hb2⟩ := h4 E
          by_cases hE : E n < E b
          · exact ⟨n, by omega, hp, by simp [bstI, hp, hb2, hE]⟩
          · exact ⟨b, by omega, hb', by simp [bstI, hp, hb2, hE]⟩
        · obtain ⟨⟨v, v1, v2⟩, ⟨u, u1, u2⟩⟩ := h5 x B (fun i hi => hB i (by omega))
          have hn := hB n (by omega)
          exact ⟨⟨min v (x n), by omega, by simp [minI, hp, v2]⟩, ⟨max u (x n), by omega, by simp [maxI, hp, u2]⟩⟩
theorem g_noteGood {K c e : Nat} {o : List Nat} {x1 se : Int32} {order FG SG E L B W : Nat → Int32} (hK : 1000 ≤ K) (hc : c ≤ 720) (hnd : o.Nodup) (h6 : ∀ g, g ∈ o → g < 6) (hl : o.length ≤ 6) (hA : agr o.length order (la o)) :
    ∃ se' FG' SG' E' L' B' W', fX6_noteGood K x1 (nI c) se (nI o.length) (nI e) order FG SG E L B W = some (nI (c + 1), se', FG', SG', E', L', B', W') ∧
      (c = 0 → ∀ k, k < o.length → FG' k = la o k) ∧ (c ≠ 0 → FG' = FG) ∧
      ((c = 0 ∨ nI e < se) → se' = nI e ∧ ∀ k, k < o.length → SG' k = la o k) ∧ (¬ (c = 0 ∨ nI e < se) → se' = se ∧ SG' = SG) ∧
      NgA o (if c = 0 then 1 else 0) x1 E L B W 0 E' L' B' W' := by
  unfold fX6_noteGood
  simp only [nm, nI_1]
  obtain ⟨FG1, f1, f2⟩ := g_copy (K := K) (P := order) (Q := FG) hK
  obtain ⟨SG1, s1, s2⟩ := g_copy (K := K) (P := order) (Q := SG) hK
  have lm0 : (0 : Int32) = nI (lmO o o.length) := by rw [lm_end]; rfl
  by_cases h0 : c = 0
  · subst h0
    rw [if_pos (show nI (0 + 1) = 1 from rfl), bd1_eq, if_neg q_n10, f1, bd1_eq, bd1_eq, if_neg q_n10]
    obtain ⟨E2, L2, B2, W2, e1, e2⟩ := g_note (K := K) (y := 1) (x1 := x1) E L B W hnd h6 hl hA o.length K E L B W (Nat.le_refl _) (by omega) (fun g hg => ⟨fun q => absurd q.2 (by have := List.idxOf_lt_length_iff.mpr q.1; omega), fun _ => ⟨rfl, rfl, rfl, rfl⟩⟩)
    rw [← lm0] at e1
    rw [s1, bd1_eq]
    simp only [bs0]
    rw [bd2_eq, e1, bd4_eq]
    exact ⟨nI e, FG1, SG1, E2, L2, B2, W2, rfl, fun _ k hk => by rw [f2 k (by omega), hA k hk], fun q => absurd rfl q, fun _ => ⟨rfl, fun k hk => by rw [s2 k (by omega), hA k hk]⟩, fun q => absurd (Or.inl trivial) q, by rw [if_pos trivial]; exact e2⟩
  · have hne : ¬ nI (c + 1) = 1 := fun q => h0 (by have := (nI_eq (b := 1) (by omega) (by omega)).mp q; omega)
    rw [if_neg hne, bd1_eq, if_pos rfl, bd1_eq, if_pos rfl]
    obtain ⟨E2, L2, B2, W2, e1, e2⟩ := g_note (K := K) (y := 0) (x1 := x1) E L B W hnd h6 hl hA o.length K E L B W (Nat.le_refl _) (by omega) (fun g hg => ⟨fun q => absurd q.2 (by have := List.idxOf_lt_length_iff.mpr q.1; omega), fun _ => ⟨rfl, rfl, rfl, rfl⟩⟩)
    rw [← lm0] at e1
    by_cases hlt : nI e < se
    · rw [if_neg (Int32.not_le.mpr hlt), s1, bd1_eq]
      simp only [bs0]
      rw [bd2_eq, e1, bd4_eq]
      exact ⟨nI e, FG, SG1, E2, L2, B2, W2, rfl, fun q => absurd q h0, fun _ => rfl, fun _ => ⟨rfl, fun k hk => by rw [s2 k (by omega), hA k hk]⟩, fun q => absurd (Or.inr hlt) q, by rw [if_neg h0]; exact e2⟩
    · rw [if_pos (Int32.not_lt.mp hlt)]
      simp only [bs0]
      rw [bd2_eq, e1, bd4_eq]
      exact ⟨se, FG, SG, E2, L2, B2, W2, rfl, fun q => absurd q h0, fun _ => rfl, fun q => absurd q (fun z => z.elim h0 hlt), fun _ => ⟨rfl, rfl⟩, by rw [if_neg h0]; exact e2⟩
theorem bI_ex {x : Nat → Nat} {k n : Nat} {v : Nat} (hv : x n = v) (KS : Nat → Int32) (h : KS k = bI (exI x k n)) : upd KS v 1 k = bI (exI x k (n + 1)) := by
  rw [exI, hv]
  by_cases hk : k = v
  · subst hk; rw [q_updS]; simp [bI]
  · have : ¬ v = k := fun q => hk q.symm
    rw [q_updN hk, h]; simp [this]
/-- one more round is noted -/
theorem sv_step {V S h s t n : Nat} {kd wk wa wb fl am bm : Nat → Nat} {good soon woken size endI : Int32} {wK wA wB times places KS order FG SG E L B W ah be : Nat → Int32}
    (hh : h < 64) (hS : S ≤ 99) (hG : GvW V h (mkb (stB wk wa wb h s) V) wk wa wb) (hn : n < (rds h).length) (ht : t ≤ 6)
    (hW : ∀ w, w < V → wK w = nI (wk w) ∧ wA w = nI (wa w) ∧ wB w = wbI (wk w) (wb w)) (hF : ∀ g, g ∈ mem h → fl g < 16)
    (hmo : ∀ i, i < t → ah i = nI (am i) ∧ be i = nI (bm i) ∧ am i < 6 ∧ bm i < 6)
    (hsz : size = nI (mem h).length) (hen : endI = nI (enO V S kd wk wa wb fl (mkb (stB wk wa wb h s) V) (rho h n)))
    (hpl : ∀ g, g ∈ mem h → places g = nI ((rho h n).idxOf g) ∧ times g = nI (wlkT fl (fun g => wtS wk wa wb (mkb (stB wk wa wb h s) V) g V) (wnS kd fl) (rho h n) 0 S g))
    (hA : agr (mem h).length order (la (rho h n)))
    (hSv : SvP V S kd wk wa wb fl h (mkb (stB wk wa wb h s) V) t am bm n good soon woken KS FG SG E L B W) :
    ∃ good' soon' woken' KS' FG' SG' E' L' B' W', fX6_note KK (nI (mkb (stB wk wa wb h s) V)) good soon woken size endI times places KS order FG SG E L B W (nI h) (nI V) wA wB wK (nI t) ah be = some (good', soon', woken', KS', FG', SG', E', L', B', W') ∧
      SvP V S kd wk wa wb fl h (mkb (stB wk wa wb h s) V) t am bm (n + 1) good' soon' woken' KS' FG' SG' E' L' B' W' := by
  generalize hmE : mkb (stB wk wa wb h s) V = m at *
  obtain ⟨hV, hm, hWw⟩ := hG
  obtain ⟨r1, r2, r3⟩ := rho_ok hh hn
  obtain ⟨z1, z2, -⟩ := rds_len hh
  have hl6 := mem_len h
  have hm31 : m < 2 ^ 31 := q_lt9 hm hV
  have h6o : ∀ g, g ∈ rho h n → g < 6 := fun g hg => q_mem ((r3 g).mp hg)
  have hwi : ∀ w, w < V → m.testBit w = true → WiO wk wa wb (wlkT fl (fun g => wtS wk wa wb m g V) (wnS kd fl) (rho h n) 0 S) (rho h n) wK wA wB places times w := by
    intro w hw hb
    obtain ⟨a1, a2, a3⟩ := hW w hw
    obtain ⟨a4, a5, a6, a7⟩ := hWw w hw
    obtain ⟨b1, b2⟩ := a7 hb
    have hle := wlkT_le (fl := fl) (wn := wnS kd fl) (fun g => wtS_le (wk := wk) (wa := wa) (m := m) (g := g) (fun w hw => (hWw w hw).2.2.1)) (rho h n) 0 S (wa w) (fun x hx => ⟨hF x ((r3 x).mp hx), wnS_le (hF x ((r3 x).mp hx))⟩) (by omega)
    exact ⟨a1, a4, a2, a5, a3, a6, (hpl _ b1).1, (hpl _ b1).2, by omega, fun hk => ⟨q_mem (b2 hk), (hpl _ (b2 hk)).1⟩⟩
  have hkp := p_keptOf (K := KK) KK_ge hV hm31 (by omega) hwi
  have hkE : mkb (fun w => m.testBit w && okW wk wa wb (wlkT fl (fun g => wtS wk wa wb m g V) (wnS kd fl) (rho h n) 0 S) (rho h n) w) V = kpO V S kd wk wa wb fl m (rho h n) := rfl
  rw [hkE] at hkp
  have hkl : kpO V S kd wk wa wb fl m (rho h n) < 512 := Nat.lt_of_lt_of_le (mkb_lt _ _) (Nat.pow_le_pow_right (by omega) hV)
  have hag := g_agree (K := KK) (o := rho h n) (am := am) (bm := bm) (t := t) KK_ge hh ht (by omega) (fun g hg => (hpl g hg).1) hmo
  unfold SvP at hSv ⊢
  obtain ⟨q1, q2, q3, q4, q5, q6, q7, q8, q9⟩ := hSv
  subst q1; subst q2; subst hsz; subst hen
  unfold fX6_note
  rw [hkp, bd1_eq, q_put hkl (by omega), bd1_eq, hag, bd1_eq]
  have hwk : (if bI (wkO h t am bm (rho h n)) = 0 then some (nI (cntI (fun i => wkO h t am bm (rho h i)) n)) else nm (nI (cntI (fun i => wkO h t am bm (rho h i)) n) + 1) fun T_roundsAsWoken_1 => some T_roundsAsWoken_1) = some (nI (cntI (fun i => wkO h t am bm (rho h i)) (n + 1))) := by
    rw [cntI]
    cases wkO h t am bm (rho h n) with
    | false => rw [bI_f, if_pos rfl]; simp
    | true => rw [bI_t, if_neg q_n10]; simp [nm, nI_1]
  rw [hwk, bd1_eq]
  have hks : ∀ k, k < 512 → upd KS (kpO V S kd wk wa wb fl m (rho h n)) 1 k = bI (exI (fun i => kpO V S kd wk wa wb fl m (rho h i)) k (n + 1)) := fun k hk => bI_ex (x := fun i => kpO V S kd wk wa wb fl m (rho h i)) rfl KS (q3 k hk)
  by_cases hgd : kpO V S kd wk wa wb fl m (rho h n) = m
  · rw [if_pos (show nI (kpO V S kd wk wa wb fl m (rho h n)) = nI m by rw [hgd])]
    have hen : enO V S kd wk wa wb fl m (rho h n) ≤ 1000 := by
      have := wlkE_le (fl := fl) (wn := wnS kd fl) (fun g => wtS_le (wk := wk) (wa := wa) (m := m) (g := g) (fun w hw => (hWw w hw).2.2.1)) (rho h n) 0 S (fun x hx => ⟨hF x ((r3 x).mp hx), wnS_le (hF x ((r3 x).mp hx))⟩) (by omega)
      unfold enO
      omega
    have henb : ∀ b, b < n → enO V S kd wk wa wb fl m (rho h b) ≤ 1000 := by
      intro b hb
      obtain ⟨y1, y2, y3⟩ := rho_ok hh (show b < (rds h).length by omega)
      have := wlkE_le (fl := fl) (wn := wnS kd fl) (fun g => wtS_le (wk := wk) (wa := wa) (m := m) (g := g) (fun w hw => (hWw w hw).2.2.1)) (rho h b) 0 S (fun x hx => ⟨hF x ((y3 x).mp hx), wnS_le (hF x ((y3 x).mp hx))⟩) (by omega)
      unfold enO
      omega
    have hcl := cnt_le (fun i => decide (kpO V S kd wk wa wb fl m (rho h i) = m)) n
    obtain ⟨se', FG', SG', E', L', B', W', e1, e2, e3, e4, e5, e6⟩ := g_noteGood (K := KK) (c := cntI (fun i => decide (kpO V S kd wk wa wb fl m (rho h i) = m)) n) (e := enO V S kd wk wa wb fl m (rho h n)) (o := rho h n) (x1 := bI (wkO h t am bm (rho h n))) (se := soon) (order := order) (FG := FG) (SG := SG) (E := E) (L := L) (B := B) (W := W) KK_ge (by omega) r2 h6o (by omega) (by rw [r1]; exact hA)
    rw [r1] at e1
    rw [e1, bd8_eq]
    have hp : decide (kpO V S kd wk wa wb fl m (rho h n) = m) = true := decide_eq_true hgd
    have hBW : ∀ g, g < 6 → B' g = nI (orI (fun i => decide (kpO V S kd wk wa wb fl m (rho h i) = m)) (fun i => aftO (rho h i) g) n ||| aftO (rho h n) g) ∧
        W' g = nI (if wkO h t am bm (rho h n) = true then orI (fun i => decide (kpO V S kd wk wa wb fl m (rho h i) = m) && wkO h t am bm (rho h i)) (fun i => aftO (rho h i) g) n ||| aftO (rho h n) g else orI (fun i => decide (kpO V S kd wk wa wb fl m (rho h i) = m) && wkO h t am bm (rho h i)) (fun i => aftO (rho h i) g) n) := by
      intro g hg
      obtain ⟨u1, u2⟩ := e6 g hg
      by_cases hgo : g ∈ rho h n
      · obtain ⟨-, -, v3, v4⟩ := u1 ⟨hgo, Nat.zero_le _⟩
        rw [v3, v4, q8 g hg, q9 g hg, q_or]
        refine ⟨rfl, ?_⟩
        cases wkO h t am bm (rho h n) with
        | false => rw [bI_f, if_pos rfl]; rfl
        | true => rw [bI_t, if_neg q_n10, q_or]; rfl
      · obtain ⟨-, -, v3, v4⟩ := u2 (fun q => hgo q.1)
        rw [v3, v4, q8 g hg, q9 g hg, aft_out hgo, Nat.or_zero, Nat.or_zero]
        refine ⟨rfl, ?_⟩
        cases wkO h t am bm (rho h n) <;> rfl
    refine ⟨_, _, _, _, _, _, _, _, _, _, rfl, ?_, rfl, hks, ?_, ?_, ?_, ?_, ?_, ?_⟩
    · rw [cntI]; simp [hgd]
    · intro i hi k hk
      rw [fstI] at hi
      rcases cnt_two (fun i => decide (kpO V S kd wk wa wb fl m (rho h i) = m)) n with ⟨c1, c2, -, -⟩ | ⟨c1, ⟨i0, -, -, c2⟩, -, -⟩
      · rw [c2] at hi
        simp only [hp, if_true] at hi
        cases hi
        exact e2 c1 k hk
      · rw [c2] at hi
        cases hi
        rw [e3 (by omega)]
        exact q4 _ c2 k hk
    · intro i hi
      rw [bstI, if_pos hp] at hi
      rcases cnt_two (fun i => decide (kpO V S kd wk wa wb fl m (rho h i) = m)) n with ⟨c1, -, c2, -⟩ | ⟨c1, -, c2, -⟩
      · rw [c2] at hi
        cases hi
        exact e4 (Or.inl c1)
      · obtain ⟨b, hb, -, c3⟩ := c2 (fun i => enO V S kd wk wa wb fl m (rho h i))
        obtain ⟨d1, d2⟩ := q5 b c3
        replace d1 : soon = nI (enO V S kd wk wa wb fl m (rho h b)) := d1
        have hEb := henb b hb
        rw [c3] at hi
        by_cases hlt : enO V S kd wk wa wb fl m (rho h n) < enO V S kd wk wa wb fl m (rho h b)
        · simp only [hlt, if_true] at hi
          cases hi
          exact e4 (Or.inr (by rw [d1]; exact nI_lt hlt (by omega)))
        · simp only [hlt, if_false] at hi
          cases hi
          obtain ⟨f1, f2⟩ := e5 (fun z => z.elim (by omega) (fun z => by rw [d1] at z; exact nI_nlt (by omega) (by omega) z))
          rw [f1, f2]
          exact ⟨d1, d2⟩
    · intro g hg x hx
      obtain ⟨v1, -, -, -⟩ := (e6 g (q_mem hg)).1 ⟨(r3 g).mpr hg, Nat.zero_le _⟩
      have hil : (rho h n).idxOf g + 1 ≤ 7 := by have : (rho h n).idxOf g ≤ (rho h n).length := List.idxOf_le_length; omega
      rw [minI, if_pos hp] at hx
      rcases cnt_two (fun i => decide (kpO V S kd wk wa wb fl m (rho h i) = m)) n with ⟨c1, -, -, c2⟩ | ⟨c1, -, -, c2⟩
      · rw [(c2 _).1] at hx
        cases hx
        rw [v1, if_pos c1, if_neg q_n10]
      · obtain ⟨⟨v, hv, c3⟩, -⟩ := c2 (fun i => (rho h i).idxOf g + 1) 7 (fun i hi => by
          obtain ⟨y1, -, -⟩ := rho_ok hh (show i < (rds h).length by omega)
          have : (rho h i).idxOf g ≤ (rho h i).length := List.idxOf_le_length
          show (rho h i).idxOf g + 1 ≤ 7
          omega)
        rw [c3] at hx
        cases hx
        rw [v1, if_neg (show ¬ cntI (fun i => decide (kpO V S kd wk wa wb fl m (rho h i) = m)) n = 0 by omega), if_pos rfl, q6 g hg v c3]
        by_cases hlt : (rho h n).idxOf g + 1 < v
        · rw [if_pos (nI_lt hlt (by omega)), Nat.min_eq_right (by omega)]
        · rw [if_neg (nI_nlt (by omega) (by omega)), Nat.min_eq_left (by omega)]
    · intro g hg x hx
      obtain ⟨-, v1, -, -⟩ := (e6 g (q_mem hg)).1 ⟨(r3 g).mpr hg, Nat.zero_le _⟩
      have hil : (rho h n).idxOf g + 1 ≤ 7 := by have : (rho h n).idxOf g ≤ (rho h n).length := List.idxOf_le_length; omega
      rw [maxI, if_pos hp] at hx
      rcases cnt_two (fun i => decide (kpO V S kd wk wa wb fl m (rho h i) = m)) n with ⟨c1, -, -, c2⟩ | ⟨c1, -, -, c2⟩
      · rw [(c2 _).2] at hx
        cases hx
        rw [v1, if_pos c1, if_neg q_n10]
      · obtain ⟨-, ⟨v, hv, c3⟩⟩ := c2 (fun i => (rho h i).idxOf g + 1) 7 (fun i hi => by
          obtain ⟨y1, -, -⟩ := rho_ok hh (show i < (rds h).length by omega)
          have : (rho h i).idxOf g ≤ (rho h i).length := List.idxOf_le_length
          show (rho h i).idxOf g + 1 ≤ 7
          omega)
        rw [c3] at hx
        cases hx
        rw [v1, if_neg (show ¬ cntI (fun i => decide (kpO V S kd wk wa wb fl m (rho h i) = m)) n = 0 by omega), if_pos rfl, q7 g hg v c3]
        by_cases hlt : v < (rho h n).idxOf g + 1
        · rw [if_pos (nI_lt hlt (by omega)), Nat.max_eq_right (by omega)]
        · rw [if_neg (nI_nlt (by omega) (by omega)), Nat.max_eq_left (by omega)]
    · intro g hg; rw [(hBW g hg).1, orI, if_pos hp]
    · intro g hg
      rw [(hBW g hg).2, orI]
      simp only [hp, Bool.true_and]
  · have hne : ¬ nI (kpO V S kd wk wa wb fl m (rho h n)) = nI m := fun q => hgd ((nI_eq (by omega) (by omega)).mp q)
    rw [if_neg hne]
    have hp : decide (kpO V S kd wk wa wb fl m (rho h n) = m) = false := decide_eq_false hgd
    refine ⟨_, _, _, _, _, _, _, _, _, _, rfl, ?_, rfl, hks, ?_, ?_, ?_, ?_, ?_, ?_⟩
    · rw [cntI]; simp [hgd]
    · intro i hi; refine q4 i ?_
      rw [fstI] at hi
      cases hq : fstI (fun i => decide (kpO V S kd wk wa wb fl m (rho h i) = m)) n with
      | none => rw [hq] at hi; simp [hgd] at hi
      | some j => rw [hq] at hi; exact hi
    · intro i hi; refine q5 i ?_
      simpa [bstI, hgd] using hi
    · intro g hg x hx; refine q6 g hg x ?_
      simpa [minI, hgd] using hx
    · intro g hg x hx; refine q7 g hg x ?_
      simpa [maxI, hgd] using hx
    · intro g hg; rw [q8 g hg, orI]; simp [hgd]
    · intro g hg; rw [q9 g hg, orI]; simp [hgd]
