section Round2
variable {L : Nat} {xs : Nat → Int32} {C C' M M' : mM} {p : List Nat} {h sl sl' : Nat → Nat} {s n k g q : Nat}
def nQ (h sl : Nat → Nat) (s q : Nat) : Nat → Nat
  | 0 => 0
  | i + 1 => nQ h sl s q i + (if sl i + (if i + 1 = q then 1 else 0) = s then h i else 0)
theorem nQ_lo (hq : q = 0 ∨ n < q) : nQ h sl s q n = thS h sl s n := by
  induction n with
  | zero => rfl
  | succ n ih =>
    show nQ h sl s q n + (if sl n + (if n + 1 = q then 1 else 0) = s then h n else 0) = thS h sl s n + (if sl n = s then h n else 0)
    rw [ih (by omega), if_neg (show ¬ n + 1 = q by omega), Nat.add_zero]
theorem nQ_hi (hq : 0 < q) (hn : q ≤ n) : (sl (q - 1) + 1 = s → nQ h sl s q n = thS h sl s n + h (q - 1)) ∧ (sl (q - 1) + 1 ≠ s → nQ h sl s q n ≤ thS h sl s n) := by
  induction n with
  | zero => omega
  | succ n ih =>
    have e1 : nQ h sl s q (n + 1) = nQ h sl s q n + (if sl n + (if n + 1 = q then 1 else 0) = s then h n else 0) := rfl
    have e2 : thS h sl s (n + 1) = thS h sl s n + (if sl n = s then h n else 0) := rfl
    rw [e1, e2]
    by_cases e : n + 1 = q
    · have lo := nQ_lo (h := h) (sl := sl) (s := s) (q := q) (n := n) (.inr (by omega))
      have hqn : q - 1 = n := by omega
      rw [lo, if_pos e, hqn]
      constructor
      · intro h1
        rw [if_pos h1, if_neg (by omega)]
        rfl
      · intro h1
        rw [if_neg h1]
        omega
    · obtain ⟨a, b⟩ := ih (by omega)
      simp only [if_neg e, Nat.add_zero]
      constructor
      · intro h1
        rw [a h1]
        omega
      · intro h1
        have := b h1
        omega
theorem laS_mem : laS h sl s n = 0 ∨ ∃ j, j < n ∧ sl j + 1 = s ∧ h j = laS h sl s n := by
  induction n with
  | zero => exact .inl rfl
  | succ n ih =>
    have e : laS h sl s (n + 1) = if sl n + 1 = s then max (laS h sl s n) (h n) else laS h sl s n := rfl
    rw [e]
    by_cases h1 : sl n + 1 = s
    · rw [if_pos h1]
      by_cases h2 : laS h sl s n ≤ h n
      · rw [Nat.max_eq_right h2]
        exact .inr ⟨n, by omega, h1, rfl⟩
      · rw [Nat.max_eq_left (by omega)]
        rcases ih with q | ⟨j, j1, j2, j3⟩
        · exact .inl q
        · exact .inr ⟨j, by omega, j2, j3⟩
    · rw [if_neg h1]
      rcases ih with q | ⟨j, j1, j2, j3⟩
      · exact .inl q
      · exact .inr ⟨j, by omega, j2, j3⟩
theorem laS_ge {j : Nat} (hj : j < n) (h1 : sl j + 1 = s) : h j ≤ laS h sl s n := by
  induction n with
  | zero => omega
  | succ n ih =>
    show h j ≤ (if sl n + 1 = s then max (laS h sl s n) (h n) else laS h sl s n)
    by_cases e : j = n
    · subst e
      rw [if_pos h1]; omega
    · have := ih (by omega)
      split <;> omega
theorem nQ_any (hs : s < 6) : (∃ q, q ≤ n ∧ g < nQ h sl s q n) ↔ g < mI h sl s n := by
  unfold mI
  rw [if_neg (by omega)]
  constructor
  · rintro ⟨q, hq, hg⟩
    by_cases q0 : q = 0
    · rw [nQ_lo (.inl q0)] at hg; omega
    · obtain ⟨a, b⟩ := nQ_hi (h := h) (sl := sl) (s := s) (q := q) (n := n) (by omega) hq
      by_cases h1 : sl (q - 1) + 1 = s
      · rw [a h1] at hg
        have := laS_ge (h := h) (n := n) (j := q - 1) (by omega) h1
        omega
      · have := b h1; omega
  · intro hg
    rcases laS_mem (h := h) (sl := sl) (s := s) (n := n) with e | ⟨j, j1, j2, j3⟩
    · exact ⟨0, Nat.zero_le _, by rw [nQ_lo (.inl rfl)]; omega⟩
    · refine ⟨j + 1, by omega, ?_⟩
      rw [(nQ_hi (h := h) (sl := sl) (s := s) (q := j + 1) (n := n) (by omega) (by omega)).1 j2]
      show g < thS h sl s n + h j
      omega
def lQ (q : Nat) : Int32 := if q = 0 then oM 1 else oN (q - 1)
theorem lQ_s : lQ q + oN 1 = lQ (q + 1) := by
  unfold lQ
  rw [if_neg (show ¬ q + 1 = 0 by omega)]
  by_cases h0 : q = 0
  · subst h0; decide
  · rw [if_neg h0, n_add]
    congr 1; omega
theorem nQ_le {B : Nat} (hB : ∀ i, i < n → h i ≤ B) : nQ h sl s q n ≤ B * n := by
  induction n with
  | zero => exact Nat.zero_le _
  | succ n ih =>
    have h1 := ih (fun i hi => hB i (by omega))
    have h2 := hB n (by omega)
    have e : B * (n + 1) = B * n + B := Nat.mul_succ B n
    have h3 : (if sl n + (if n + 1 = q then 1 else 0) = s then h n else 0) ≤ h n := by
      by_cases c : sl n + (if n + 1 = q then 1 else 0) = s
      · rw [if_pos c]; exact Nat.le_refl _
      · rw [if_neg c]; exact Nat.zero_le _
    show nQ h sl s q n + (if sl n + (if n + 1 = q then 1 else 0) = s then h n else 0) ≤ _
    omega
set_option maxRecDepth 8000 in
theorem s_204 (hk : k ≤ 5) (hg : g ≤ 2000) (hh : ∀ i, i < k → h i ≤ 1000 ∧ sl i ≤ 5 ∧ M.1 [49, 1] i = oN (h i) ∧ M.1 [50, 1] i = oN (sl i)) : kI L xs 204 [vr 10 [1], vi (oN k), vi (oN g)] M = some (encP (fO (fun s => decide (g < mI h sl s k)) 0 6), M) := by
  have hB : ∀ n, n ≤ k → ∀ s q, nQ h sl s q n ≤ 5000 := fun n hn s q => by
    have := nQ_le (h := h) (sl := sl) (s := s) (q := q) (n := n) (B := 1000) (fun i hi => (hh i (by omega)).1)
    omega
  have sum : ∀ s, s < 6 → ∀ q, q ≤ k → ∀ r i, i + r = k → run L xs 204 25 (23, [some (vr 10 [1]), some (vi (oN k)), some (vi (oN g)), some (vi (oN s)), some (vi (lQ q)), some (vi (oN (nQ h sl s q i))), some (vi (oN i))], [], M) =
      if g < nQ h sl s q k then some (some (vi (oN s)), M) else run L xs 204 25 (11, [some (vr 10 [1]), some (vi (oN k)), some (vi (oN g)), some (vi (oN s)), some (vi (lQ (q + 1))), none, none], [], M) := by
    intro s hs q hq r
    induction r with
    | zero =>
      intro i hi
      have : i = k := by omega
      subst this
      have b := hB i (by omega) s q
      rw [h_204_23, ← lQ_s]
      by_cases hv : g < nQ h sl s q i
      · rw [if_pos hv]
        simp (disch := omega) only [↓Bool.cond_eq_ite, ↓reduceIte, Bool.false_eq_true, eq_self, n_lit, n_neg, n_add, n_mul, n_sub, n_subM, n_div, n_mod, n_addM, m_div, m_subn, n_tN, n_inS, n_eq_t, n_eq_f, n_ne_t, n_ne_f, n_lt_t, n_lt_f, n_ge_t, n_ge_f, n_gt_t, n_gt_f, n_le_t, n_le_f, mn_eq, mn_ne, mn_lt, mn_ge, mn_gt, mn_le, nm_eq, nm_ne, nm_lt, nm_ge, nm_gt, nm_le, n_gts_t, c_eq_refl, c_ne_refl, w_fold, w_2, wC_fold, lt_M, cond_true, cond_false, Bool.and_true, Bool.true_and, Bool.and_false, Bool.false_and, Bool.not_true, Bool.not_false, isZS_0, isZS_1]
      · rw [if_neg hv]
        simp (disch := omega) only [↓Bool.cond_eq_ite, ↓reduceIte, Bool.false_eq_true, eq_self, n_lit, n_neg, n_add, n_mul, n_sub, n_subM, n_div, n_mod, n_addM, m_div, m_subn, n_tN, n_inS, n_eq_t, n_eq_f, n_ne_t, n_ne_f, n_lt_t, n_lt_f, n_ge_t, n_ge_f, n_gt_t, n_gt_f, n_le_t, n_le_f, mn_eq, mn_ne, mn_lt, mn_ge, mn_gt, mn_le, nm_eq, nm_ne, nm_lt, nm_ge, nm_gt, nm_le, n_gts_t, c_eq_refl, c_ne_refl, w_fold, w_2, wC_fold, lt_M, cond_true, cond_false, Bool.and_true, Bool.true_and, Bool.and_false, Bool.false_and, Bool.not_true, Bool.not_false, isZS_0, isZS_1]
    | succ r ih =>
      intro i hi
      obtain ⟨a1, a2, a3, a4⟩ := hh i (by omega)
      have b := hB i (by omega) s q
      have b' := hB (i + 1) (by omega) s q
      have e1 : nQ h sl s q (i + 1) = nQ h sl s q i + (if sl i + (if i + 1 = q then 1 else 0) = s then h i else 0) := rfl
      rw [← ih (i + 1) (by omega), e1, h_204_23]
      by_cases c1 : i + 1 = q
      · have e2 : lQ q = oN i := by
          unfold lQ
          rw [if_neg (by omega)]
          congr 1; omega
        rw [if_pos c1, e2]
        by_cases c2 : sl i + 1 = s
        · rw [if_pos c2]
          simp (disch := omega) only [↓Bool.cond_eq_ite, ↓reduceIte, Bool.false_eq_true, eq_self, n_lit, n_neg, n_add, n_mul, n_sub, n_subM, n_div, n_mod, n_addM, m_div, m_subn, n_tN, n_inS, n_eq_t, n_eq_f, n_ne_t, n_ne_f, n_lt_t, n_lt_f, n_ge_t, n_ge_f, n_gt_t, n_gt_f, n_le_t, n_le_f, mn_eq, mn_ne, mn_lt, mn_ge, mn_gt, mn_le, nm_eq, nm_ne, nm_lt, nm_ge, nm_gt, nm_le, n_gts_t, c_eq_refl, c_ne_refl, w_fold, w_2, wC_fold, lt_M, cond_true, cond_false, Bool.and_true, Bool.true_and, Bool.and_false, Bool.false_and, Bool.not_true, Bool.not_false, isZS_0, isZS_1, a3, a4]
        · rw [if_neg c2]
          simp (disch := omega) only [↓Bool.cond_eq_ite, ↓reduceIte, Bool.false_eq_true, eq_self, n_lit, n_neg, n_add, n_mul, n_sub, n_subM, n_div, n_mod, n_addM, m_div, m_subn, n_tN, n_inS, n_eq_t, n_eq_f, n_ne_t, n_ne_f, n_lt_t, n_lt_f, n_ge_t, n_ge_f, n_gt_t, n_gt_f, n_le_t, n_le_f, mn_eq, mn_ne, mn_lt, mn_ge, mn_gt, mn_le, nm_eq, nm_ne, nm_lt, nm_ge, nm_gt, nm_le, n_gts_t, c_eq_refl, c_ne_refl, w_fold, w_2, wC_fold, lt_M, cond_true, cond_false, Bool.and_true, Bool.true_and, Bool.and_false, Bool.false_and, Bool.not_true, Bool.not_false, isZS_0, isZS_1, a3, a4]
      · have e2 : cmpS .ne (oN i) (lQ q) = true := by
          unfold lQ
          by_cases h0 : q = 0
          · rw [if_pos h0]; exact nm_ne (by omega) (by omega) (by omega)
          · rw [if_neg h0]; exact n_ne_t (by omega) (by omega) (by omega)
        rw [if_neg c1]
        by_cases c2 : sl i = s
        · rw [if_pos (by omega)]
          simp (disch := omega) only [↓Bool.cond_eq_ite, ↓reduceIte, Bool.false_eq_true, eq_self, n_lit, n_neg, n_add, n_mul, n_sub, n_subM, n_div, n_mod, n_addM, m_div, m_subn, n_tN, n_inS, n_eq_t, n_eq_f, n_ne_t, n_ne_f, n_lt_t, n_lt_f, n_ge_t, n_ge_f, n_gt_t, n_gt_f, n_le_t, n_le_f, mn_eq, mn_ne, mn_lt, mn_ge, mn_gt, mn_le, nm_eq, nm_ne, nm_lt, nm_ge, nm_gt, nm_le, n_gts_t, c_eq_refl, c_ne_refl, w_fold, w_2, wC_fold, lt_M, cond_true, cond_false, Bool.and_true, Bool.true_and, Bool.and_false, Bool.false_and, Bool.not_true, Bool.not_false, isZS_0, isZS_1, a3, a4, e2, Nat.add_zero]
        · rw [if_neg (by omega)]
          simp (disch := omega) only [↓Bool.cond_eq_ite, ↓reduceIte, Bool.false_eq_true, eq_self, n_lit, n_neg, n_add, n_mul, n_sub, n_subM, n_div, n_mod, n_addM, m_div, m_subn, n_tN, n_inS, n_eq_t, n_eq_f, n_ne_t, n_ne_f, n_lt_t, n_lt_f, n_ge_t, n_ge_f, n_gt_t, n_gt_f, n_le_t, n_le_f, mn_eq, mn_ne, mn_lt, mn_ge, mn_gt, mn_le, nm_eq, nm_ne, nm_lt, nm_ge, nm_gt, nm_le, n_gts_t, c_eq_refl, c_ne_refl, w_fold, w_2, wC_fold, lt_M, cond_true, cond_false, Bool.and_true, Bool.true_and, Bool.and_false, Bool.false_and, Bool.not_true, Bool.not_false, isZS_0, isZS_1, a3, a4, e2, Nat.add_zero]
  have lates : ∀ s, s < 6 → ∀ r q, q + r = k + 1 → ((∃ q', q ≤ q' ∧ q' ≤ k ∧ g < nQ h sl s q' k) → run L xs 204 25 (11, [some (vr 10 [1]), some (vi (oN k)), some (vi (oN g)), some (vi (oN s)), some (vi (lQ q)), none, none], [], M) = some (some (vi (oN s)), M)) ∧
      ((¬ ∃ q', q ≤ q' ∧ q' ≤ k ∧ g < nQ h sl s q' k) → run L xs 204 25 (11, [some (vr 10 [1]), some (vi (oN k)), some (vi (oN g)), some (vi (oN s)), some (vi (lQ q)), none, none], [], M) = run L xs 204 25 (2, [some (vr 10 [1]), some (vi (oN k)), some (vi (oN g)), some (vi (oN (s + 1))), none, none, none], [], M)) := by
    intro s hs r
    induction r with
    | zero =>
      intro q hq
      refine ⟨fun ⟨q', h1, h2, _⟩ => by omega, fun _ => ?_⟩
      have e : lQ q = oN k := by
        unfold lQ
        rw [if_neg (by omega)]
        congr 1; omega
      rw [h_204_11, e]
      simp (disch := omega) only [↓Bool.cond_eq_ite, ↓reduceIte, Bool.false_eq_true, eq_self, n_lit, n_neg, n_add, n_mul, n_sub, n_subM, n_div, n_mod, n_addM, m_div, m_subn, n_tN, n_inS, n_eq_t, n_eq_f, n_ne_t, n_ne_f, n_lt_t, n_lt_f, n_ge_t, n_ge_f, n_gt_t, n_gt_f, n_le_t, n_le_f, mn_eq, mn_ne, mn_lt, mn_ge, mn_gt, mn_le, nm_eq, nm_ne, nm_lt, nm_ge, nm_gt, nm_le, n_gts_t, c_eq_refl, c_ne_refl, w_fold, w_2, wC_fold, lt_M, cond_true, cond_false, Bool.and_true, Bool.true_and, Bool.and_false, Bool.false_and, Bool.not_true, Bool.not_false, isZS_0, isZS_1]
    | succ r ih =>
      intro q hq
      have e : cmpS .ge (lQ q) (oN k) = false := by
        unfold lQ
        by_cases h0 : q = 0
        · rw [if_pos h0]; exact mn_ge (by omega) (by omega) (by omega)
        · rw [if_neg h0]; exact n_ge_f (by omega) (by omega) (by omega)
      have st : run L xs 204 25 (11, [some (vr 10 [1]), some (vi (oN k)), some (vi (oN g)), some (vi (oN s)), some (vi (lQ q)), none, none], [], M) = run L xs 204 25 (23, [some (vr 10 [1]), some (vi (oN k)), some (vi (oN g)), some (vi (oN s)), some (vi (lQ q)), some (vi (oN 0)), some (vi (oN 0))], [], M) := by
        rw [h_204_11, e]; rfl
      have sm := sum s hs q (by omega) k 0 (by omega)
      have sm : run L xs 204 25 (23, [some (vr 10 [1]), some (vi (oN k)), some (vi (oN g)), some (vi (oN s)), some (vi (lQ q)), some (vi (oN 0)), some (vi (oN 0))], [], M) = _ := sm
      rw [st, sm]
      by_cases hv : g < nQ h sl s q k
      · rw [if_pos hv]
        exact ⟨fun _ => rfl, fun hn => absurd ⟨q, Nat.le_refl _, by omega, hv⟩ hn⟩
      · rw [if_neg hv]
        obtain ⟨i1, i2⟩ := ih (q + 1) (by omega)
        refine ⟨fun ⟨q', h1, h2, h3⟩ => i1 ⟨q', ?_, h2, h3⟩, fun hn => i2 (fun ⟨q', h1, h2, h3⟩ => hn ⟨q', by omega, h2, h3⟩)⟩
        by_cases e : q' = q
        · subst e; exact absurd h3 hv
        · omega
  have slots : ∀ r s, s + r = 6 → run L xs 204 25 (2, [some (vr 10 [1]), some (vi (oN k)), some (vi (oN g)), some (vi (oN s)), none, none, none], [], M) = some (some (vi (encP (fO (fun s => decide (g < mI h sl s k)) s r))), M) := by
    intro r
    induction r with
    | zero =>
      intro s hs
      have : s = 6 := by omega
      subst this
      rw [h_204_2]
      simp (disch := omega) only [↓Bool.cond_eq_ite, ↓reduceIte, Bool.false_eq_true, eq_self, n_lit, n_neg, n_add, n_mul, n_sub, n_subM, n_div, n_mod, n_addM, m_div, m_subn, n_tN, n_inS, n_eq_t, n_eq_f, n_ne_t, n_ne_f, n_lt_t, n_lt_f, n_ge_t, n_ge_f, n_gt_t, n_gt_f, n_le_t, n_le_f, mn_eq, mn_ne, mn_lt, mn_ge, mn_gt, mn_le, nm_eq, nm_ne, nm_lt, nm_ge, nm_gt, nm_le, n_gts_t, c_eq_refl, c_ne_refl, w_fold, w_2, wC_fold, lt_M, cond_true, cond_false, Bool.and_true, Bool.true_and, Bool.and_false, Bool.false_and, Bool.not_true, Bool.not_false, isZS_0, isZS_1, fO, encP]
    | succ r ih =>
      intro s hs
      obtain ⟨i1, i2⟩ := lates s (by omega) (k + 1) 0 (by omega)
      have any := nQ_any (h := h) (sl := sl) (s := s) (n := k) (g := g) (by omega)
      have e0 : lQ 0 = oM 1 := rfl
      rw [e0] at i1 i2
      rw [h_204_2]
      by_cases hq : g < mI h sl s k
      · obtain ⟨q, q1, q2⟩ := any.mpr hq
        have := i1 ⟨q, Nat.zero_le _, q1, q2⟩
        simp (disch := omega) only [↓Bool.cond_eq_ite, ↓reduceIte, Bool.false_eq_true, eq_self, n_lit, n_neg, n_add, n_mul, n_sub, n_subM, n_div, n_mod, n_addM, m_div, m_subn, n_tN, n_inS, n_eq_t, n_eq_f, n_ne_t, n_ne_f, n_lt_t, n_lt_f, n_ge_t, n_ge_f, n_gt_t, n_gt_f, n_le_t, n_le_f, mn_eq, mn_ne, mn_lt, mn_ge, mn_gt, mn_le, nm_eq, nm_ne, nm_lt, nm_ge, nm_gt, nm_le, n_gts_t, c_eq_refl, c_ne_refl, w_fold, w_2, wC_fold, lt_M, cond_true, cond_false, Bool.and_true, Bool.true_and, Bool.and_false, Bool.false_and, Bool.not_true, Bool.not_false, isZS_0, isZS_1, fO, decide_eq_true hq, if_true, encP]
        exact this
      · have := i2 (fun ⟨q, _, q1, q2⟩ => hq (any.mp ⟨q, q1, q2⟩))
        simp (disch := omega) only [↓Bool.cond_eq_ite, ↓reduceIte, Bool.false_eq_true, eq_self, n_lit, n_neg, n_add, n_mul, n_sub, n_subM, n_div, n_mod, n_addM, m_div, m_subn, n_tN, n_inS, n_eq_t, n_eq_f, n_ne_t, n_ne_f, n_lt_t, n_lt_f, n_ge_t, n_ge_f, n_gt_t, n_gt_f, n_le_t, n_le_f, mn_eq, mn_ne, mn_lt, mn_ge, mn_gt, mn_le, nm_eq, nm_ne, nm_lt, nm_ge, nm_gt, nm_le, n_gts_t, c_eq_refl, c_ne_refl, w_fold, w_2, wC_fold, lt_M, cond_true, cond_false, Bool.and_true, Bool.true_and, Bool.and_false, Bool.false_and, Bool.not_true, Bool.not_false, isZS_0, isZS_1, fO, decide_eq_false hq]
        exact this.trans (ih (s + 1) (by omega))
  refine kI_of ?_
  rw [e_204]
  exact slots 6 0 (by omega)
end Round2
