section Press1
variable {L : Nat} {xs : Nat → Int32} {C M : mM} {c nc nw nb np nt now td hm : Nat} {kd wa wb wd wl ws : Nat → Nat}
theorem sumN_nat {f : Nat → Int32} {g : Nat → Nat} : ∀ {n : Nat}, (∀ i, i < n → f i = oN (g i)) → sumN f n = oN (sm g n)
  | 0, _ => rfl
  | n + 1, h => by
    show sumN f n + f n = oN (sm g n + g n)
    rw [sumN_nat (fun i hi => h i (by omega)), h n (by omega), n_add]
theorem sm_le {g : Nat → Nat} {B : Nat} (h : ∀ i, g i ≤ B) : ∀ n, sm g n ≤ n * B
  | 0 => by simp [sm]
  | n + 1 => by
    have h1 := sm_le h n
    have h2 := h n
    show sm g n + g n ≤ (n + 1) * B
    rw [Nat.add_mul, Nat.one_mul]
    omega
def tch (wa wb : Nat → Nat) (w v : Nat) : Bool := decide (wa w = wa v) || (decide (wa w = wb v) || (decide (wb w = wa v) || decide (wb w = wb v)))
def nbP (wa wb pu : Nat → Nat) (w : Nat) : Nat → Nat
  | 0 => 0
  | k + 1 => if k ≠ w ∧ nbP wa wb pu w k < pu k ∧ tch wa wb w k = true then pu k else nbP wa wb pu w k
theorem nbP_le {pu : Nat → Nat} {w B : Nat} : ∀ {k : Nat}, (∀ i, i < k → pu i ≤ B) → nbP wa wb pu w k ≤ B
  | 0, _ => Nat.zero_le _
  | k + 1, h => by
    unfold nbP
    split
    · exact h k (by omega)
    · exact nbP_le (fun i hi => h i (by omega))
def qN (wa wb pr pu : Nat → Nat) (nw w : Nat) : Nat := if 60 < pr w then pr w - 60 + pu w / 2 else if 30 ≤ pr w then nbP wa wb pu w nw / 2 else 0
set_option maxRecDepth 8000 in
theorem s_237 (hW : mWy M nc nw wa wb wl ws) {w v : Nat} (hw : w < nw) (hv : v < nw) : kI L xs 237 [vr 10 [1], vi (oN w), vi (oN v)] M = some (oN (if tch wa wb w v = true then 1 else 0), M) := by
  obtain ⟨c0, h16, h24, hw0⟩ := hW
  obtain ⟨a1, a2, a3, a4, a5, a6, a7, a8, a9, a10⟩ := hw0 w hw
  obtain ⟨b1, b2, b3, b4, b5, b6, b7, b8, b9, b10⟩ := hw0 v hv
  refine kI_of ?_
  rw [e_237]
  unfold tch
  by_cases z1 : wa w = wa v
  · rw [if_pos (by simp [z1])]
    simp (disch := omega) only [↓Bool.cond_eq_ite, ↓reduceIte, Bool.false_eq_true, eq_self, n_lit, n_neg, n_add, n_mul, n_sub, n_subM, n_div, n_mod, n_addM, m_div, m_subn, n_tN, n_inS, n_eq_t, n_eq_f, n_ne_t, n_ne_f, n_lt_t, n_lt_f, n_ge_t, n_ge_f, n_gt_t, n_gt_f, n_le_t, n_le_f, mn_eq, mn_ne, mn_lt, mn_ge, mn_gt, mn_le, nm_eq, nm_ne, nm_lt, nm_ge, nm_gt, nm_le, n_gts_t, c_eq_refl, c_ne_refl, w_fold, w_2, wC_fold, lt_M, cond_true, cond_false, Bool.and_true, Bool.true_and, Bool.and_false, Bool.false_and, Bool.not_true, Bool.not_false, isZS_0, isZS_1, a7, a8, b7, b8]
  · by_cases z2 : wa w = wb v
    · rw [if_pos (by simp [z2])]
      simp (disch := omega) only [↓Bool.cond_eq_ite, ↓reduceIte, Bool.false_eq_true, eq_self, n_lit, n_neg, n_add, n_mul, n_sub, n_subM, n_div, n_mod, n_addM, m_div, m_subn, n_tN, n_inS, n_eq_t, n_eq_f, n_ne_t, n_ne_f, n_lt_t, n_lt_f, n_ge_t, n_ge_f, n_gt_t, n_gt_f, n_le_t, n_le_f, mn_eq, mn_ne, mn_lt, mn_ge, mn_gt, mn_le, nm_eq, nm_ne, nm_lt, nm_ge, nm_gt, nm_le, n_gts_t, c_eq_refl, c_ne_refl, w_fold, w_2, wC_fold, lt_M, cond_true, cond_false, Bool.and_true, Bool.true_and, Bool.and_false, Bool.false_and, Bool.not_true, Bool.not_false, isZS_0, isZS_1, a7, a8, b7, b8]
    · by_cases z3 : wb w = wa v
      · rw [if_pos (by simp [z3])]
        simp (disch := omega) only [↓Bool.cond_eq_ite, ↓reduceIte, Bool.false_eq_true, eq_self, n_lit, n_neg, n_add, n_mul, n_sub, n_subM, n_div, n_mod, n_addM, m_div, m_subn, n_tN, n_inS, n_eq_t, n_eq_f, n_ne_t, n_ne_f, n_lt_t, n_lt_f, n_ge_t, n_ge_f, n_gt_t, n_gt_f, n_le_t, n_le_f, mn_eq, mn_ne, mn_lt, mn_ge, mn_gt, mn_le, nm_eq, nm_ne, nm_lt, nm_ge, nm_gt, nm_le, n_gts_t, c_eq_refl, c_ne_refl, w_fold, w_2, wC_fold, lt_M, cond_true, cond_false, Bool.and_true, Bool.true_and, Bool.and_false, Bool.false_and, Bool.not_true, Bool.not_false, isZS_0, isZS_1, a7, a8, b7, b8]
      · by_cases z4 : wb w = wb v
        · rw [if_pos (by simp [z4])]
          simp (disch := omega) only [↓Bool.cond_eq_ite, ↓reduceIte, Bool.false_eq_true, eq_self, n_lit, n_neg, n_add, n_mul, n_sub, n_subM, n_div, n_mod, n_addM, m_div, m_subn, n_tN, n_inS, n_eq_t, n_eq_f, n_ne_t, n_ne_f, n_lt_t, n_lt_f, n_ge_t, n_ge_f, n_gt_t, n_gt_f, n_le_t, n_le_f, mn_eq, mn_ne, mn_lt, mn_ge, mn_gt, mn_le, nm_eq, nm_ne, nm_lt, nm_ge, nm_gt, nm_le, n_gts_t, c_eq_refl, c_ne_refl, w_fold, w_2, wC_fold, lt_M, cond_true, cond_false, Bool.and_true, Bool.true_and, Bool.and_false, Bool.false_and, Bool.not_true, Bool.not_false, isZS_0, isZS_1, a7, a8, b7, b8]
        · rw [if_neg (by simp [z1, z2, z3, z4])]
          simp (disch := omega) only [↓Bool.cond_eq_ite, ↓reduceIte, Bool.false_eq_true, eq_self, n_lit, n_neg, n_add, n_mul, n_sub, n_subM, n_div, n_mod, n_addM, m_div, m_subn, n_tN, n_inS, n_eq_t, n_eq_f, n_ne_t, n_ne_f, n_lt_t, n_lt_f, n_ge_t, n_ge_f, n_gt_t, n_gt_f, n_le_t, n_le_f, mn_eq, mn_ne, mn_lt, mn_ge, mn_gt, mn_le, nm_eq, nm_ne, nm_lt, nm_ge, nm_gt, nm_le, n_gts_t, c_eq_refl, c_ne_refl, w_fold, w_2, wC_fold, lt_M, cond_true, cond_false, Bool.and_true, Bool.true_and, Bool.and_false, Bool.false_and, Bool.not_true, Bool.not_false, isZS_0, isZS_1, a7, a8, b7, b8]
set_option maxRecDepth 8000 in
theorem s_15 (hW : cWy [6, c, 0] C nc nw wa wb wl ws) {w B : Nat} {pu : Nat → Nat} (hw : w < nw) (hB : B < 2147483648) (hpu : ∀ v, v < nw → pu v ≤ B ∧ C.1 [8, 6, c, 0] v = oN (pu v)) : kI L xs 15 [vr 8 [6, c, 0], vi (oN w)] C = some (oN (nbP wa wb pu w nw), C) := by
  obtain ⟨c0, h16, h24, hw0⟩ := hW
  obtain ⟨a1, a2, a3, a4, a5, a6, a7, a8, a9, a10⟩ := hw0 w hw
  refine kI_of ?_
  have key : ∀ k v, v + k = nw → run L xs 15 27 (4, [some (vr 8 [6, c, 0]), some (vi (oN w)), some (vi (oN (nbP wa wb pu w v))), some (vi (oN v))], [], C) = some (some (vi (oN (nbP wa wb pu w nw))), C) := by
    intro k
    induction k with
    | zero =>
      intro v hv
      have : v = nw := by omega
      subst this
      rw [h_15_4]
      simp (disch := omega) only [↓Bool.cond_eq_ite, ↓reduceIte, Bool.false_eq_true, eq_self, n_lit, n_neg, n_add, n_mul, n_sub, n_subM, n_div, n_mod, n_addM, m_div, m_subn, n_tN, n_inS, n_eq_t, n_eq_f, n_ne_t, n_ne_f, n_lt_t, n_lt_f, n_ge_t, n_ge_f, n_gt_t, n_gt_f, n_le_t, n_le_f, mn_eq, mn_ne, mn_lt, mn_ge, mn_gt, mn_le, nm_eq, nm_ne, nm_lt, nm_ge, nm_gt, nm_le, n_gts_t, c_eq_refl, c_ne_refl, w_fold, w_2, wC_fold, lt_M, cond_true, cond_false, Bool.and_true, Bool.true_and, Bool.and_false, Bool.false_and, Bool.not_true, Bool.not_false, isZS_0, isZS_1, c0]
    | succ k ih =>
      intro v hv
      have hi := ih (v + 1) (by omega)
      obtain ⟨b1, b2, b3, b4, b5, b6, b7, b8, b9, b10⟩ := hw0 v (by omega)
      obtain ⟨p1, p2⟩ := hpu v (by omega)
      have hn := nbP_le (wa := wa) (wb := wb) (w := w) (k := v) (fun i hi => (hpu i (by omega)).1)
      have hnb : nbP wa wb pu w (v + 1) = if v ≠ w ∧ nbP wa wb pu w v < pu v ∧ tch wa wb w v = true then pu v else nbP wa wb pu w v := rfl
      rw [h_15_4, ← hi, hnb]
      by_cases y1 : v = w
      · rw [if_neg (by omega)]
        simp (disch := omega) only [↓Bool.cond_eq_ite, ↓reduceIte, Bool.false_eq_true, eq_self, n_lit, n_neg, n_add, n_mul, n_sub, n_subM, n_div, n_mod, n_addM, m_div, m_subn, n_tN, n_inS, n_eq_t, n_eq_f, n_ne_t, n_ne_f, n_lt_t, n_lt_f, n_ge_t, n_ge_f, n_gt_t, n_gt_f, n_le_t, n_le_f, mn_eq, mn_ne, mn_lt, mn_ge, mn_gt, mn_le, nm_eq, nm_ne, nm_lt, nm_ge, nm_gt, nm_le, n_gts_t, c_eq_refl, c_ne_refl, w_fold, w_2, wC_fold, lt_M, cond_true, cond_false, Bool.and_true, Bool.true_and, Bool.and_false, Bool.false_and, Bool.not_true, Bool.not_false, isZS_0, isZS_1, c0]
      · by_cases y2 : nbP wa wb pu w v < pu v
        · by_cases z1 : wa w = wa v
          · rw [if_pos ⟨y1, y2, by unfold tch; simp [z1]⟩]
            simp (disch := omega) only [↓Bool.cond_eq_ite, ↓reduceIte, Bool.false_eq_true, eq_self, n_lit, n_neg, n_add, n_mul, n_sub, n_subM, n_div, n_mod, n_addM, m_div, m_subn, n_tN, n_inS, n_eq_t, n_eq_f, n_ne_t, n_ne_f, n_lt_t, n_lt_f, n_ge_t, n_ge_f, n_gt_t, n_gt_f, n_le_t, n_le_f, mn_eq, mn_ne, mn_lt, mn_ge, mn_gt, mn_le, nm_eq, nm_ne, nm_lt, nm_ge, nm_gt, nm_le, n_gts_t, c_eq_refl, c_ne_refl, w_fold, w_2, wC_fold, lt_M, cond_true, cond_false, Bool.and_true, Bool.true_and, Bool.and_false, Bool.false_and, Bool.not_true, Bool.not_false, isZS_0, isZS_1, c0, p2, a7, a8, b7, b8]
          · by_cases z3 : wa w = wb v
            · rw [if_pos ⟨y1, y2, by unfold tch; simp [z3]⟩]
              simp (disch := omega) only [↓Bool.cond_eq_ite, ↓reduceIte, Bool.false_eq_true, eq_self, n_lit, n_neg, n_add, n_mul, n_sub, n_subM, n_div, n_mod, n_addM, m_div, m_subn, n_tN, n_inS, n_eq_t, n_eq_f, n_ne_t, n_ne_f, n_lt_t, n_lt_f, n_ge_t, n_ge_f, n_gt_t, n_gt_f, n_le_t, n_le_f, mn_eq, mn_ne, mn_lt, mn_ge, mn_gt, mn_le, nm_eq, nm_ne, nm_lt, nm_ge, nm_gt, nm_le, n_gts_t, c_eq_refl, c_ne_refl, w_fold, w_2, wC_fold, lt_M, cond_true, cond_false, Bool.and_true, Bool.true_and, Bool.and_false, Bool.false_and, Bool.not_true, Bool.not_false, isZS_0, isZS_1, c0, p2, a7, a8, b7, b8]
            · by_cases z2 : wb w = wa v
              · rw [if_pos ⟨y1, y2, by unfold tch; simp [z2]⟩]
                simp (disch := omega) only [↓Bool.cond_eq_ite, ↓reduceIte, Bool.false_eq_true, eq_self, n_lit, n_neg, n_add, n_mul, n_sub, n_subM, n_div, n_mod, n_addM, m_div, m_subn, n_tN, n_inS, n_eq_t, n_eq_f, n_ne_t, n_ne_f, n_lt_t, n_lt_f, n_ge_t, n_ge_f, n_gt_t, n_gt_f, n_le_t, n_le_f, mn_eq, mn_ne, mn_lt, mn_ge, mn_gt, mn_le, nm_eq, nm_ne, nm_lt, nm_ge, nm_gt, nm_le, n_gts_t, c_eq_refl, c_ne_refl, w_fold, w_2, wC_fold, lt_M, cond_true, cond_false, Bool.and_true, Bool.true_and, Bool.and_false, Bool.false_and, Bool.not_true, Bool.not_false, isZS_0, isZS_1, c0, p2, a7, a8, b7, b8]
              · by_cases z4 : wb w = wb v
                · rw [if_pos ⟨y1, y2, by unfold tch; simp [z4]⟩]
                  simp (disch := omega) only [↓Bool.cond_eq_ite, ↓reduceIte, Bool.false_eq_true, eq_self, n_lit, n_neg, n_add, n_mul, n_sub, n_subM, n_div, n_mod, n_addM, m_div, m_subn, n_tN, n_inS, n_eq_t, n_eq_f, n_ne_t, n_ne_f, n_lt_t, n_lt_f, n_ge_t, n_ge_f, n_gt_t, n_gt_f, n_le_t, n_le_f, mn_eq, mn_ne, mn_lt, mn_ge, mn_gt, mn_le, nm_eq, nm_ne, nm_lt, nm_ge, nm_gt, nm_le, n_gts_t, c_eq_refl, c_ne_refl, w_fold, w_2, wC_fold, lt_M, cond_true, cond_false, Bool.and_true, Bool.true_and, Bool.and_false, Bool.false_and, Bool.not_true, Bool.not_false, isZS_0, isZS_1, c0, p2, a7, a8, b7, b8]
                · rw [if_neg (fun y => by have := y.2.2; unfold tch at this; simp [z1, z2, z3, z4] at this)]
                  simp (disch := omega) only [↓Bool.cond_eq_ite, ↓reduceIte, Bool.false_eq_true, eq_self, n_lit, n_neg, n_add, n_mul, n_sub, n_subM, n_div, n_mod, n_addM, m_div, m_subn, n_tN, n_inS, n_eq_t, n_eq_f, n_ne_t, n_ne_f, n_lt_t, n_lt_f, n_ge_t, n_ge_f, n_gt_t, n_gt_f, n_le_t, n_le_f, mn_eq, mn_ne, mn_lt, mn_ge, mn_gt, mn_le, nm_eq, nm_ne, nm_lt, nm_ge, nm_gt, nm_le, n_gts_t, c_eq_refl, c_ne_refl, w_fold, w_2, wC_fold, lt_M, cond_true, cond_false, Bool.and_true, Bool.true_and, Bool.and_false, Bool.false_and, Bool.not_true, Bool.not_false, isZS_0, isZS_1, c0, p2, a7, a8, b7, b8]
        · rw [if_neg (fun y => y2 y.2.1)]
          simp (disch := omega) only [↓Bool.cond_eq_ite, ↓reduceIte, Bool.false_eq_true, eq_self, n_lit, n_neg, n_add, n_mul, n_sub, n_subM, n_div, n_mod, n_addM, m_div, m_subn, n_tN, n_inS, n_eq_t, n_eq_f, n_ne_t, n_ne_f, n_lt_t, n_lt_f, n_ge_t, n_ge_f, n_gt_t, n_gt_f, n_le_t, n_le_f, mn_eq, mn_ne, mn_lt, mn_ge, mn_gt, mn_le, nm_eq, nm_ne, nm_lt, nm_ge, nm_gt, nm_le, n_gts_t, c_eq_refl, c_ne_refl, w_fold, w_2, wC_fold, lt_M, cond_true, cond_false, Bool.and_true, Bool.true_and, Bool.and_false, Bool.false_and, Bool.not_true, Bool.not_false, isZS_0, isZS_1, c0, p2]
  rw [e_15]
  exact key nw 0 (by omega)
end Press1
