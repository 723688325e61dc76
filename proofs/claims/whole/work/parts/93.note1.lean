section Note1
variable {L : Nat} {xs : Nat → Int32} {C M : mM} {c nc nw nb np nt now td hm : Nat} {kd wa wb wd wl ws : Nat → Nat}
def maxN (f : Nat → Nat) : Nat → Nat
  | 0 => 0
  | n + 1 => max (maxN f n) (f n)
theorem maxN_le {f : Nat → Nat} {B : Nat} : ∀ {n : Nat}, (∀ i, i < n → f i ≤ B) → maxN f n ≤ B
  | 0, _ => Nat.zero_le _
  | n + 1, h => by
    have h1 := maxN_le (f := f) (B := B) (n := n) (fun i hi => h i (by omega))
    have h2 := h n (by omega)
    show max _ _ ≤ _
    omega
theorem mx_if {a b : Nat} (ha : a < 2147483648) (hb : b < 2147483648) : (if oN a < oN b then oN b else oN a) = oN (max a b) := by
  by_cases h : a < b
  · rw [if_pos (by rw [n_ltI ha hb]; exact h), Nat.max_eq_right (by omega)]
  · rw [if_neg (by rw [n_ltI ha hb]; exact h), Nat.max_eq_left (by omega)]
theorem s_75 {p q : List Nat} {f : Nat → Nat} (hw : C.1 p 0 = oN nw) (h24 : nw ≤ 24) (hf : ∀ w, w < nw → f w ≤ 100000 ∧ C.1 q w = oN (f w)) : kI L xs 75 [vr 8 p, vr 1000024 q] C = some (oN (maxN f nw), C) := by
  have key : ∀ k i, i + k = nw → run L xs 75 25 (4, [some (vr 8 p), some (vr 1000024 q), some (vi (oN (maxN f i))), some (vi (oN i))], [], C) = some (some (vi (oN (maxN f nw))), C) := by
    intro k
    induction k with
    | zero =>
      intro i hi
      have : i = nw := by omega
      subst this
      rw [h_75_4]
      simp (disch := omega) only [↓Bool.cond_eq_ite, ↓reduceIte, Bool.false_eq_true, eq_self, n_lit, n_neg, n_add, n_mul, n_sub, n_subM, n_div, n_mod, n_addM, m_div, m_subn, n_tN, n_inS, n_eq_t, n_eq_f, n_ne_t, n_ne_f, n_lt_t, n_lt_f, n_ge_t, n_ge_f, n_gt_t, n_gt_f, n_le_t, n_le_f, mn_eq, mn_ne, mn_lt, mn_ge, mn_gt, mn_le, nm_eq, nm_ne, nm_lt, nm_ge, nm_gt, nm_le, n_gts_t, c_eq_refl, c_ne_refl, w_fold, w_2, wC_fold, lt_M, cond_true, cond_false, Bool.and_true, Bool.true_and, Bool.and_false, Bool.false_and, Bool.not_true, Bool.not_false, isZS_0, isZS_1, hw]
    | succ k ih =>
      intro i hi
      obtain ⟨f1, f2⟩ := hf i (by omega)
      have hm := maxN_le (f := f) (B := 100000) (n := i) (fun j hj => (hf j (by omega)).1)
      rw [h_75_4]
      have := ih (i + 1) (by omega)
      simp (disch := omega) only [↓Bool.cond_eq_ite, ↓reduceIte, Bool.false_eq_true, eq_self, n_lit, n_neg, n_add, n_mul, n_sub, n_subM, n_div, n_mod, n_addM, m_div, m_subn, n_tN, n_inS, n_eq_t, n_eq_f, n_ne_t, n_ne_f, n_lt_t, n_lt_f, n_ge_t, n_ge_f, n_gt_t, n_gt_f, n_le_t, n_le_f, mn_eq, mn_ne, mn_lt, mn_ge, mn_gt, mn_le, nm_eq, nm_ne, nm_lt, nm_ge, nm_gt, nm_le, n_gts_t, c_eq_refl, c_ne_refl, w_fold, w_2, wC_fold, lt_M, cond_true, cond_false, Bool.and_true, Bool.true_and, Bool.and_false, Bool.false_and, Bool.not_true, Bool.not_false, isZS_0, isZS_1, hw, f2, mx_if]
      exact this
  refine kI_of ?_
  rw [e_75]
  exact key nw 0 (by omega)
theorem s_200 {f : Nat → Nat} (hw : M.1 [1, 1] 1 = oN nw) (h24 : nw ≤ 24) (hf : ∀ w, w < nw → f w ≤ 100000 ∧ M.1 [1, 1] (60 + w) = oN (f w)) : kI L xs 200 [vr 10 [1]] M = some (oN (maxN f nw), M) := by
  have key : ∀ k i, i + k = nw → run L xs 200 25 (4, [some (vr 10 [1]), some (vi (oN (maxN f i))), some (vi (oN i))], [], M) = some (some (vi (oN (maxN f nw))), M) := by
    intro k
    induction k with
    | zero =>
      intro i hi
      have : i = nw := by omega
      subst this
      rw [h_200_4]
      simp (disch := omega) only [↓Bool.cond_eq_ite, ↓reduceIte, Bool.false_eq_true, eq_self, n_lit, n_neg, n_add, n_mul, n_sub, n_subM, n_div, n_mod, n_addM, m_div, m_subn, n_tN, n_inS, n_eq_t, n_eq_f, n_ne_t, n_ne_f, n_lt_t, n_lt_f, n_ge_t, n_ge_f, n_gt_t, n_gt_f, n_le_t, n_le_f, mn_eq, mn_ne, mn_lt, mn_ge, mn_gt, mn_le, nm_eq, nm_ne, nm_lt, nm_ge, nm_gt, nm_le, n_gts_t, c_eq_refl, c_ne_refl, w_fold, w_2, wC_fold, lt_M, cond_true, cond_false, Bool.and_true, Bool.true_and, Bool.and_false, Bool.false_and, Bool.not_true, Bool.not_false, isZS_0, isZS_1, hw]
    | succ k ih =>
      intro i hi
      obtain ⟨f1, f2⟩ := hf i (by omega)
      have hm := maxN_le (f := f) (B := 100000) (n := i) (fun j hj => (hf j (by omega)).1)
      rw [h_200_4]
      have := ih (i + 1) (by omega)
      have e : maxN f (i + 1) = max (maxN f i) (f i) := rfl
      rw [e] at this
      by_cases h : f i ≤ maxN f i
      · rw [Nat.max_eq_left h] at this
        simp (disch := omega) only [↓Bool.cond_eq_ite, ↓reduceIte, Bool.false_eq_true, eq_self, n_lit, n_neg, n_add, n_mul, n_sub, n_subM, n_div, n_mod, n_addM, m_div, m_subn, n_tN, n_inS, n_eq_t, n_eq_f, n_ne_t, n_ne_f, n_lt_t, n_lt_f, n_ge_t, n_ge_f, n_gt_t, n_gt_f, n_le_t, n_le_f, mn_eq, mn_ne, mn_lt, mn_ge, mn_gt, mn_le, nm_eq, nm_ne, nm_lt, nm_ge, nm_gt, nm_le, n_gts_t, c_eq_refl, c_ne_refl, w_fold, w_2, wC_fold, lt_M, cond_true, cond_false, Bool.and_true, Bool.true_and, Bool.and_false, Bool.false_and, Bool.not_true, Bool.not_false, isZS_0, isZS_1, hw, f2]
        exact this
      · rw [Nat.max_eq_right (by omega)] at this
        simp (disch := omega) only [↓Bool.cond_eq_ite, ↓reduceIte, Bool.false_eq_true, eq_self, n_lit, n_neg, n_add, n_mul, n_sub, n_subM, n_div, n_mod, n_addM, m_div, m_subn, n_tN, n_inS, n_eq_t, n_eq_f, n_ne_t, n_ne_f, n_lt_t, n_lt_f, n_ge_t, n_ge_f, n_gt_t, n_gt_f, n_le_t, n_le_f, mn_eq, mn_ne, mn_lt, mn_ge, mn_gt, mn_le, nm_eq, nm_ne, nm_lt, nm_ge, nm_gt, nm_le, n_gts_t, c_eq_refl, c_ne_refl, w_fold, w_2, wC_fold, lt_M, cond_true, cond_false, Bool.and_true, Bool.true_and, Bool.and_false, Bool.false_and, Bool.not_true, Bool.not_false, isZS_0, isZS_1, hw, f2]
        exact this
  refine kI_of ?_
  rw [e_200]
  exact key nw 0 (by omega)
theorem s_215a {f : Nat → Nat} {t : Nat} (ht : t < 4321) (hw : M.1 [1, 1] 1 = oN nw) (h24 : nw ≤ 24) (hf : ∀ w, w < nw → f w ≤ 100000 ∧ M.1 [1, 1] (90 + w) = oN (f w)) :
    ∀ k i, i + k = nw → run L xs 215 27 (26, [some (vr 10 [1]), some (vi (oN t)), some (vi (oN i))], [], wI M [21, 1] t (oN (maxN f i))) = run L xs 215 27 (26, [some (vr 10 [1]), some (vi (oN t)), some (vi (oN nw))], [], wI M [21, 1] t (oN (maxN f nw))) := by
  have z1 : ∀ v, (wI M [21, 1] t v).1 [1, 1] = M.1 [1, 1] := fun v => w_ne (by simp)
  have z2 : ∀ v, (wI M [21, 1] t v).1 [21, 1] t = v := fun v => by rw [w_at, if_pos ⟨rfl, rfl⟩]
  intro k
  induction k with
  | zero =>
    intro i hi
    have : i = nw := by omega
    subst this
    rfl
  | succ k ih =>
    intro i hi
    obtain ⟨f1, f2⟩ := hf i (by omega)
    have hm := maxN_le (f := f) (B := 100000) (n := i) (fun j hj => (hf j (by omega)).1)
    have := ih (i + 1) (by omega)
    have e : maxN f (i + 1) = max (maxN f i) (f i) := rfl
    rw [e] at this
    rw [h_215_26]
    by_cases h : f i ≤ maxN f i
    · rw [Nat.max_eq_left h] at this
      simp (disch := omega) only [↓Bool.cond_eq_ite, ↓reduceIte, Bool.false_eq_true, eq_self, n_lit, n_neg, n_add, n_mul, n_sub, n_subM, n_div, n_mod, n_addM, m_div, m_subn, n_tN, n_inS, n_eq_t, n_eq_f, n_ne_t, n_ne_f, n_lt_t, n_lt_f, n_ge_t, n_ge_f, n_gt_t, n_gt_f, n_le_t, n_le_f, mn_eq, mn_ne, mn_lt, mn_ge, mn_gt, mn_le, nm_eq, nm_ne, nm_lt, nm_ge, nm_gt, nm_le, n_gts_t, c_eq_refl, c_ne_refl, w_fold, wC_fold, lt_M, cond_true, cond_false, Bool.and_true, Bool.true_and, Bool.and_false, Bool.false_and, Bool.not_true, Bool.not_false, isZS_0, isZS_1, z1, z2, hw, f2, w_w]
      exact this
    · rw [Nat.max_eq_right (by omega)] at this
      simp (disch := omega) only [↓Bool.cond_eq_ite, ↓reduceIte, Bool.false_eq_true, eq_self, n_lit, n_neg, n_add, n_mul, n_sub, n_subM, n_div, n_mod, n_addM, m_div, m_subn, n_tN, n_inS, n_eq_t, n_eq_f, n_ne_t, n_ne_f, n_lt_t, n_lt_f, n_ge_t, n_ge_f, n_gt_t, n_gt_f, n_le_t, n_le_f, mn_eq, mn_ne, mn_lt, mn_ge, mn_gt, mn_le, nm_eq, nm_ne, nm_lt, nm_ge, nm_gt, nm_le, n_gts_t, c_eq_refl, c_ne_refl, w_fold, wC_fold, lt_M, cond_true, cond_false, Bool.and_true, Bool.true_and, Bool.and_false, Bool.false_and, Bool.not_true, Bool.not_false, isZS_0, isZS_1, z1, z2, hw, f2, w_w]
      exact this
end Note1
