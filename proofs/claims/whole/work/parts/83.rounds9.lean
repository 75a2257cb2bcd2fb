/-- what is given of the slate, to go through its rounds: m is the mask of the wishes that stand -/
def GvW (V h m : Nat) (wk wa wb : Nat → Nat) : Prop := V ≤ 9 ∧ m < 2 ^ V ∧ ∀ w, w < V → wk w < 5 ∧ wa w < 6 ∧ wb w ≤ 99 ∧ (m.testBit w = true → wa w ∈ mem h ∧ (wk w ≤ 1 → wb w ∈ mem h))
/-- the rounds that the reference has kept: n of them -/
def FrP (V S : Nat) (kd wk wa wb fl : Nat → Nat) (h m n : Nat) (endsAt keptBy come : Nat → Int32) : Prop :=
  ∀ j, j < n → endsAt j = nI (enO V S kd wk wa wb fl m (rho h j)) ∧ keptBy j = nI (kpO V S kd wk wa wb fl m (rho h j)) ∧ ∀ k, k < (mem h).length → come (6 * j + k) = nI ((rho h j).getD k 0)
theorem wlkT_le {fl wt wn : Nat → Nat} (hw : ∀ g, wt g ≤ 99) : ∀ (r : List Nat) (f t g : Nat), (∀ x, x ∈ r → fl x < 16 ∧ wn x ≤ 17) → f < 16 → wlkT fl wt wn r f t g ≤ max t 99 + 40 * r.length := by
  intro r
  induction r with
  | nil => intro f t g _ _; simp [wlkT]
  | cons x r ih =>
    intro f t g hr hf
    obtain ⟨h1, h2⟩ := hr x (List.mem_cons_self ..)
    have hd : dst f (fl x) < 16 := by unfold dst; split <;> omega
    have h3 := hw x
    rw [wlkT, List.length_cons]
    split
    · omega
    · have := ih (fl x) (max (t + dst f (fl x)) (wt x) + wn x) g (fun y hy => hr y (List.mem_cons_of_mem _ hy)) h1
      omega
theorem q_mem {h g : Nat} (hg : g ∈ mem h) : g < 6 := (mem_6.mp hg).1
theorem f_rounds {V S h m : Nat} {kd wk wa wb fl : Nat → Nat} {st wK wA wB kinds : Nat → Int32} (hh : h < 64) (hS : S ≤ 99) (hG : GvW V h m wk wa wb)
    (hN : ∀ w, w < V → wK w = nI (wk w) ∧ wA w = nI (wa w) ∧ wB w = wbI (wk w) (wb w)) (hM : ∀ g, g ∈ mem h → kinds g = nI (kd g) ∧ kd g < 4 ∧ st (2 + g) = nI (fl g) ∧ fl g < 16) :
    ∀ d i q (order time place endsAt keptBy come : Nat → Int32), i + d + 1 = (rds h).length → d + 1 < q → agr (mem h).length order (la (rho h i)) → FrP V S kd wk wa wb fl h m i endsAt keptBy come →
    ∃ o' t' p' e' k' c', fX9_findRounds_L70 KK (nI V) (nI S) (nI m) (nI (mem h).length) st wA wK wB kinds q 1 (nI i) order time place endsAt keptBy come = some (nI (rds h).length, o', t', p', e', k', c') ∧ FrP V S kd wk wa wb fl h m (rds h).length e' k' c' := by
  obtain ⟨hV, hm, hW⟩ := hG
  have hm31 : m < 2 ^ 31 := q_lt9 hm hV
  -- one round, kept
  have one : ∀ i q (order time place endsAt keptBy come : Nat → Int32) x2, i < (rds h).length → agr (mem h).length order (la (rho h i)) → FrP V S kd wk wa wb fl h m i endsAt keptBy come → ¬ x2 = (0 : Int32) →
      ∃ t' p' e' k' c', FrP V S kd wk wa wb fl h m (i + 1) e' k' c' ∧ fX9_findRounds_L70 KK (nI V) (nI S) (nI m) (nI (mem h).length) st wA wK wB kinds (q + 1) x2 (nI i) order time place endsAt keptBy come =
        bd2 (fX9_nextOrder KK (nI (mem h).length) order) fun r_5 T_order_7 => fX9_findRounds_L70 KK (nI V) (nI S) (nI m) (nI (mem h).length) st wA wK wB kinds q r_5 (nI (i + 1)) T_order_7 t' p' e' k' c' := by
    intro i q order time place endsAt keptBy come x2 hi hA hF hx
    obtain ⟨r1, r2, r3⟩ := rho_ok hh hi
    obtain ⟨s1, s2, -⟩ := rds_len hh
    have hl6 := mem_len h
    have hWN : ∀ w, w < V → wK w = nI (wk w) ∧ wA w = nI (wa w) ∧ wB w = wbI (wk w) (wb w) ∧ wk w < 5 ∧ wa w < 6 ∧ wb w ≤ 99 := fun w hw => ⟨(hN w hw).1, (hN w hw).2.1, (hN w hw).2.2, (hW w hw).1, (hW w hw).2.1, (hW w hw).2.2.1⟩
    have hMr : ∀ g, g ∈ rho h i → g < 6 ∧ kinds g = nI (kd g) ∧ kd g < 4 ∧ st (2 + g) = nI (fl g) ∧ fl g < 16 := fun g hg => ⟨q_mem ((r3 g).mp hg), hM g ((r3 g).mp hg)⟩
    obtain ⟨t', p', e1, e2, e3⟩ := w_walk9 (K := KK) (order := order) (st := st) (kinds := kinds) (kd := kd) (fl := fl) KK_ge hl6 hV hm31 hWN (rho h i) 0 0 S time place KK (by omega) (by have := KK_ge; omega) (fun k hk => by
      rw [Nat.zero_add, hA k (by omega)]; rfl) hMr r2 (by omega) (by omega)
    have hwi : ∀ w, w < V → m.testBit w = true → WiO wk wa wb (wlkT fl (fun g => wtS wk wa wb m g V) (wnS kd fl) (rho h i) 0 S) (rho h i) wK wA wB p' t' w := by
      intro w hw hb
      obtain ⟨a1, a2, a3, a4, a5, a6⟩ := hWN w hw
      obtain ⟨b1, b2⟩ := (hW w hw).2.2.2 hb
      have c1 := e2 (wa w) ((r3 _).mpr b1)
      rw [Nat.zero_add] at c1
      have hle := wlkT_le (fl := fl) (wn := wnS kd fl) (fun g => wtS_le (wk := wk) (wa := wa) (m := m) (g := g) (fun w hw => (hW w hw).2.2.1)) (rho h i) 0 S (wa w) (fun x hx => ⟨(hMr x hx).2.2.2.2, wnS_le (hMr x hx).2.2.2.2⟩) (by omega)
      refine ⟨a1, a4, a2, a5, a3, a6, c1.1, c1.2, by omega, fun hk => ?_⟩
      have b3 := b2 hk
      have c2 := e2 (wb w) ((r3 _).mpr b3)
      rw [Nat.zero_add] at c2
      exact ⟨q_mem b3, c2.1⟩
    obtain ⟨K', g1, g2, g3⟩ := f_kept (K := KK) (j := i) hV hm31 (by omega) (by omega) hwi V 0 KK (upd keptBy i 0) (by omega) (by have := KK_ge; omega) (by rw [q_updS]; rfl)
    obtain ⟨C', f1, f2, f3⟩ := f_come (K := KK) (n := (mem h).length) (j := i) (order := order) hl6 (by omega) (mem h).length 0 KK come (by omega) (by have := KK_ge; omega) (fun x hx => absurd hx (by omega))
    refine ⟨t', p', upd endsAt i (nI (wlkE fl (fun g => wtS wk wa wb m g V) (wnS kd fl) (rho h i) 0 S)), K', C', ?_, ?_⟩
    · intro j hj
      by_cases hji : j = i
      · subst hji
        refine ⟨by rw [q_updS]; rfl, by rw [g2]; rfl, fun k hk => ?_⟩
        rw [f2 k hk, hA k hk]
        rfl
      · obtain ⟨z1, z2, z3⟩ := hF j (by omega)
        refine ⟨by rw [q_updN hji]; exact z1, by rw [g3 j hji, q_updN hji]; exact z2, fun k hk => ?_⟩
        rw [f3 _ (by omega)]
        exact z3 k hk
    · rw [fX9_findRounds_L70, if_neg hx]
      unfold fX9_goesRound
      change fX9_goesRound_L9 _ _ _ _ _ _ _ _ _ _ _ (nI S) 0 0 _ _ = _ at e1
      change fX9_findRounds_L99 _ _ _ _ _ _ _ _ _ _ 0 _ = _ at g1
      change fX9_findRounds_L153 _ _ _ _ _ 0 _ = _ at f1
      rw [e1, bd3_eq, bd3_eq, p_gd (show i < 720 by omega) (by omega)]
      simp only [nm]
      rw [p_gd (show i < 720 by omega) (by omega), nI_clamp (show i < 2 ^ 31 by omega), g1, bd1_eq, f1, bd1_eq, nI_1]
  have fin : ∀ n q (order time place endsAt keptBy come : Nat → Int32), fX9_findRounds_L70 KK (nI V) (nI S) (nI m) (nI (mem h).length) st wA wK wB kinds (q + 1) 0 n order time place endsAt keptBy come = some (n, order, time, place, endsAt, keptBy, come) := by
    intro n q order time place endsAt keptBy come
    rw [fX9_findRounds_L70, if_pos rfl]
  intro d
  induction d with
  | zero =>
    intro i q order time place endsAt keptBy come hi hq hA hF
    obtain ⟨q, rfl⟩ : ∃ y, q = y + 1 + 1 := ⟨q - 2, by omega⟩
    obtain ⟨t', p', e', k', c', hF', e1⟩ := one i (q + 1) order time place endsAt keptBy come 1 (by omega) hA hF (by decide)
    obtain ⟨-, O', -, e2⟩ := rho_last hh (by omega) hA hA
    refine ⟨O', t', p', e', k', c', ?_, by rw [← hi]; exact hF'⟩
    rw [e1, e2, bd2_eq, fin, ← hi]
  | succ d ih =>
    intro i q order time place endsAt keptBy come hi hq hA hF
    obtain ⟨q, rfl⟩ : ∃ y, q = y + 1 := ⟨q - 1, by omega⟩
    obtain ⟨t', p', e', k', c', hF', e1⟩ := one i q order time place endsAt keptBy come 1 (by omega) hA hF (by decide)
    obtain ⟨-, O', -, e2, -, hA'⟩ := rho_next hh (by omega) hA hA
    obtain ⟨o2, t2, p2, e2', k2, c2, e3, hF2⟩ := ih (i + 1) q O' t' p' e' k' c' (by omega) (by omega) hA' hF'
    refine ⟨o2, t2, p2, e2', k2, c2, ?_, hF2⟩
    rw [e1, e2, bd2_eq, e3]
