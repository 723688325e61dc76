section Ops12
variable {L : Nat} {xs : Nat → Int32} {C M : mM} {hm : Nat}
theorem mm_ne {a b : Nat} (h : a ≠ b) (ha : a ≤ 2147483648) (hb : b ≤ 2147483648) : ¬ oM a = oM b := by
  intro e
  have := congrArg Int32.toInt e
  rw [m_toI ha, m_toI hb] at this
  omega
set_option maxRecDepth 8000 in
set_option maxHeartbeats 4000000 in
theorem op_worst {a1 a2 a3 : Int32} (hhm : hm ≤ 1000) (h : rI L xs C M hm) : opR L xs 144 248 [vi a1, vi a2, vi a3] C M hm := by
  have e := e_144 L xs [0] a1 a2 a3 C
  have f := e_248 L xs [1] a1 a2 a3 M
  have h1 : rI L xs C (wI M [1] 0 (0 : Int32)) hm := rI_ag (agC_refl _) (agM_w0 (by decide) (by decide)) h
  simp only [lt_M, w_fold] at f
  generalize wI M [1] 0 (0 : Int32) = M1 at f h1
  have h0 := h1
  obtain ⟨nc, nw, nb, np, nt, now, kd, wa, wb, wd, wl, ws, hP, hIm, hHi, hTx, hSh, hMi⟩ := h1
  have hP' := hP
  obtain ⟨g1, g2, g3, g4, g5, g6, g7, g8, g9, g10⟩ := hP'
  have hsc := g1
  obtain ⟨cN, cT, cC, cW, cB, cG, cP, S0, S1, S2, S3, S4, S5, b16, b24, b40, b8, b20, b4320⟩ := hsc
  have hle := cntG_le kd nb
  rcases I_cases a1 with ⟨w, w1, rfl⟩ | ⟨w, w0, w1, rfl⟩
  · by_cases q0 : w < nw
    case neg =>
      simp (disch := omega) only [↓Bool.cond_eq_ite, ↓reduceIte, Bool.false_eq_true, eq_self, n_lit, n_neg, n_add, n_mul, n_sub, n_subM, n_div, n_mod, n_addM, m_div, m_subn, n_tN, n_inS, n_eq_t, n_eq_f, n_ne_t, n_ne_f, n_lt_t, n_lt_f, n_ge_t, n_ge_f, n_gt_t, n_gt_f, n_le_t, n_le_f, mn_eq, mn_ne, mn_lt, mn_ge, mn_gt, mn_le, nm_eq, nm_ne, nm_lt, nm_ge, nm_gt, nm_le, n_gts_t, c_eq_refl, c_ne_refl, w_fold, w_2, wC_fold, lt_M, cond_true, cond_false, Bool.and_true, Bool.true_and, Bool.and_false, Bool.false_and, Bool.not_true, Bool.not_false, isZS_0, isZS_1, ↓reduceIte, w_at, w_2, wC_at, wC_2, List.cons.injEq, reduceCtorEq, and_false, false_and, and_true, true_and, if_true, if_false, eq_self, and_self, if_pos, if_neg, Nat.add_zero, cN, cT, cC, cW, cB, cG, cP, S0, S1, S2, S3, S4, S5] at e f
      exact ⟨_, _, _, kI_of e, kI_of f, h0⟩
    rcases I_cases a2 with ⟨s, s1, rfl⟩ | ⟨s, s0, s1, rfl⟩
    case inr =>
      simp (disch := omega) only [↓Bool.cond_eq_ite, ↓reduceIte, Bool.false_eq_true, eq_self, n_lit, n_neg, n_add, n_mul, n_sub, n_subM, n_div, n_mod, n_addM, m_div, m_subn, n_tN, n_inS, n_eq_t, n_eq_f, n_ne_t, n_ne_f, n_lt_t, n_lt_f, n_ge_t, n_ge_f, n_gt_t, n_gt_f, n_le_t, n_le_f, mn_eq, mn_ne, mn_lt, mn_ge, mn_gt, mn_le, nm_eq, nm_ne, nm_lt, nm_ge, nm_gt, nm_le, n_gts_t, c_eq_refl, c_ne_refl, w_fold, w_2, wC_fold, lt_M, cond_true, cond_false, Bool.and_true, Bool.true_and, Bool.and_false, Bool.false_and, Bool.not_true, Bool.not_false, isZS_0, isZS_1, ↓reduceIte, w_at, w_2, wC_at, wC_2, List.cons.injEq, reduceCtorEq, and_false, false_and, and_true, true_and, if_true, if_false, eq_self, and_self, if_pos, if_neg, Nat.add_zero, cN, cT, cC, cW, cB, cG, cP, S0, S1, S2, S3, S4, S5] at e f
      exact ⟨_, _, _, kI_of e, kI_of f, h0⟩
    by_cases q1 : s ≤ 3
    case neg =>
      simp (disch := omega) only [↓Bool.cond_eq_ite, ↓reduceIte, Bool.false_eq_true, eq_self, n_lit, n_neg, n_add, n_mul, n_sub, n_subM, n_div, n_mod, n_addM, m_div, m_subn, n_tN, n_inS, n_eq_t, n_eq_f, n_ne_t, n_ne_f, n_lt_t, n_lt_f, n_ge_t, n_ge_f, n_gt_t, n_gt_f, n_le_t, n_le_f, mn_eq, mn_ne, mn_lt, mn_ge, mn_gt, mn_le, nm_eq, nm_ne, nm_lt, nm_ge, nm_gt, nm_le, n_gts_t, c_eq_refl, c_ne_refl, w_fold, w_2, wC_fold, lt_M, cond_true, cond_false, Bool.and_true, Bool.true_and, Bool.and_false, Bool.false_and, Bool.not_true, Bool.not_false, isZS_0, isZS_1, ↓reduceIte, w_at, w_2, wC_at, wC_2, List.cons.injEq, reduceCtorEq, and_false, false_and, and_true, true_and, if_true, if_false, eq_self, and_self, if_pos, if_neg, Nat.add_zero, cN, cT, cC, cW, cB, cG, cP, S0, S1, S2, S3, S4, S5] at e f
      exact ⟨_, _, _, kI_of e, kI_of f, h0⟩
    rcases I_cases a3 with ⟨n, n1, rfl⟩ | ⟨n, n0, n1, rfl⟩
    case inr =>
      simp (disch := omega) only [↓Bool.cond_eq_ite, ↓reduceIte, Bool.false_eq_true, eq_self, n_lit, n_neg, n_add, n_mul, n_sub, n_subM, n_div, n_mod, n_addM, m_div, m_subn, n_tN, n_inS, n_eq_t, n_eq_f, n_ne_t, n_ne_f, n_lt_t, n_lt_f, n_ge_t, n_ge_f, n_gt_t, n_gt_f, n_le_t, n_le_f, mn_eq, mn_ne, mn_lt, mn_ge, mn_gt, mn_le, nm_eq, nm_ne, nm_lt, nm_ge, nm_gt, nm_le, n_gts_t, c_eq_refl, c_ne_refl, w_fold, w_2, wC_fold, lt_M, cond_true, cond_false, Bool.and_true, Bool.true_and, Bool.and_false, Bool.false_and, Bool.not_true, Bool.not_false, isZS_0, isZS_1, ↓reduceIte, w_at, w_2, wC_at, wC_2, List.cons.injEq, reduceCtorEq, and_false, false_and, and_true, true_and, if_true, if_false, eq_self, and_self, if_pos, if_neg, Nat.add_zero, cN, cT, cC, cW, cB, cG, cP, S0, S1, S2, S3, S4, S5] at e f
      exact ⟨_, _, _, kI_of e, kI_of f, h0⟩
    by_cases q2 : 1 ≤ n
    case neg =>
      simp (disch := omega) only [↓Bool.cond_eq_ite, ↓reduceIte, Bool.false_eq_true, eq_self, n_lit, n_neg, n_add, n_mul, n_sub, n_subM, n_div, n_mod, n_addM, m_div, m_subn, n_tN, n_inS, n_eq_t, n_eq_f, n_ne_t, n_ne_f, n_lt_t, n_lt_f, n_ge_t, n_ge_f, n_gt_t, n_gt_f, n_le_t, n_le_f, mn_eq, mn_ne, mn_lt, mn_ge, mn_gt, mn_le, nm_eq, nm_ne, nm_lt, nm_ge, nm_gt, nm_le, n_gts_t, c_eq_refl, c_ne_refl, w_fold, w_2, wC_fold, lt_M, cond_true, cond_false, Bool.and_true, Bool.true_and, Bool.and_false, Bool.false_and, Bool.not_true, Bool.not_false, isZS_0, isZS_1, ↓reduceIte, w_at, w_2, wC_at, wC_2, List.cons.injEq, reduceCtorEq, and_false, false_and, and_true, true_and, if_true, if_false, eq_self, and_self, if_pos, if_neg, Nat.add_zero, cN, cT, cC, cW, cB, cG, cP, S0, S1, S2, S3, S4, S5] at e f
      exact ⟨_, _, _, kI_of e, kI_of f, h0⟩
    by_cases q3 : n ≤ 120
    case neg =>
      simp (disch := omega) only [↓Bool.cond_eq_ite, ↓reduceIte, Bool.false_eq_true, eq_self, n_lit, n_neg, n_add, n_mul, n_sub, n_subM, n_div, n_mod, n_addM, m_div, m_subn, n_tN, n_inS, n_eq_t, n_eq_f, n_ne_t, n_ne_f, n_lt_t, n_lt_f, n_ge_t, n_ge_f, n_gt_t, n_gt_f, n_le_t, n_le_f, mn_eq, mn_ne, mn_lt, mn_ge, mn_gt, mn_le, nm_eq, nm_ne, nm_lt, nm_ge, nm_gt, nm_le, n_gts_t, c_eq_refl, c_ne_refl, w_fold, w_2, wC_fold, lt_M, cond_true, cond_false, Bool.and_true, Bool.true_and, Bool.and_false, Bool.false_and, Bool.not_true, Bool.not_false, isZS_0, isZS_1, ↓reduceIte, w_at, w_2, wC_at, wC_2, List.cons.injEq, reduceCtorEq, and_false, false_and, and_true, true_and, if_true, if_false, eq_self, and_self, if_pos, if_neg, Nat.add_zero, cN, cT, cC, cW, cB, cG, cP, S0, S1, S2, S3, S4, S5] at e f
      exact ⟨_, _, _, kI_of e, kI_of f, h0⟩
    by_cases q4 : now + n ≤ 4320
    case neg =>
      simp (disch := omega) only [↓Bool.cond_eq_ite, ↓reduceIte, Bool.false_eq_true, eq_self, n_lit, n_neg, n_add, n_mul, n_sub, n_subM, n_div, n_mod, n_addM, m_div, m_subn, n_tN, n_inS, n_eq_t, n_eq_f, n_ne_t, n_ne_f, n_lt_t, n_lt_f, n_ge_t, n_ge_f, n_gt_t, n_gt_f, n_le_t, n_le_f, mn_eq, mn_ne, mn_lt, mn_ge, mn_gt, mn_le, nm_eq, nm_ne, nm_lt, nm_ge, nm_gt, nm_le, n_gts_t, c_eq_refl, c_ne_refl, w_fold, w_2, wC_fold, lt_M, cond_true, cond_false, Bool.and_true, Bool.true_and, Bool.and_false, Bool.false_and, Bool.not_true, Bool.not_false, isZS_0, isZS_1, ↓reduceIte, w_at, w_2, wC_at, wC_2, List.cons.injEq, reduceCtorEq, and_false, false_and, and_true, true_and, if_true, if_false, eq_self, and_self, if_pos, if_neg, Nat.add_zero, cN, cT, cC, cW, cB, cG, cP, S0, S1, S2, S3, S4, S5] at e f
      exact ⟨_, _, _, kI_of e, kI_of f, h0⟩
    obtain ⟨vm, M', x1, x2, x3, x4⟩ := mind_ok (L := L) (xs := xs) hhm (n := n) (s := s) (by omega) (by omega) (by omega) (.inr ⟨w, q0, rfl⟩) (⟨hP, hIm, hHi, hTx, hSh, hMi⟩ : rIx L xs C M1 nc nw nb np nt now hm kd wa wb wd wl ws)
    obtain ⟨vc, C', y1, y2, y3, y4⟩ := x4 2147483647 (by omega)
    have hv : vc = vm := by omega
    subst hv
    simp (disch := omega) only [↓Bool.cond_eq_ite, ↓reduceIte, Bool.false_eq_true, eq_self, n_lit, n_neg, n_add, n_mul, n_sub, n_subM, n_div, n_mod, n_addM, m_div, m_subn, n_tN, n_inS, n_eq_t, n_eq_f, n_ne_t, n_ne_f, n_lt_t, n_lt_f, n_ge_t, n_ge_f, n_gt_t, n_gt_f, n_le_t, n_le_f, mn_eq, mn_ne, mn_lt, mn_ge, mn_gt, mn_le, nm_eq, nm_ne, nm_lt, nm_ge, nm_gt, nm_le, n_gts_t, c_eq_refl, c_ne_refl, w_fold, w_2, wC_fold, lt_M, cond_true, cond_false, Bool.and_true, Bool.true_and, Bool.and_false, Bool.false_and, Bool.not_true, Bool.not_false, isZS_0, isZS_1, ↓reduceIte, w_at, w_2, wC_at, wC_2, List.cons.injEq, reduceCtorEq, and_false, false_and, and_true, true_and, if_true, if_false, eq_self, and_self, if_pos, if_neg, Nat.add_zero, cN, cT, cC, cW, cB, cG, cP, S0, S1, S2, S3, S4, S5, y1, x1, Option.bind_some] at e f
    exact ⟨_, _, _, kI_of e, kI_of f, rI_ag y3 x3 h0⟩

  · by_cases q0 : w = 1
    case neg =>
      have zm : cmpS .eq (oM w) (oM 1) = false := c_eq_h (mm_ne q0 (by omega) (by omega))
      simp (disch := omega) only [↓Bool.cond_eq_ite, ↓reduceIte, Bool.false_eq_true, eq_self, n_lit, n_neg, n_add, n_mul, n_sub, n_subM, n_div, n_mod, n_addM, m_div, m_subn, n_tN, n_inS, n_eq_t, n_eq_f, n_ne_t, n_ne_f, n_lt_t, n_lt_f, n_ge_t, n_ge_f, n_gt_t, n_gt_f, n_le_t, n_le_f, mn_eq, mn_ne, mn_lt, mn_ge, mn_gt, mn_le, nm_eq, nm_ne, nm_lt, nm_ge, nm_gt, nm_le, n_gts_t, c_eq_refl, c_ne_refl, w_fold, w_2, wC_fold, lt_M, cond_true, cond_false, Bool.and_true, Bool.true_and, Bool.and_false, Bool.false_and, Bool.not_true, Bool.not_false, isZS_0, isZS_1, ↓reduceIte, w_at, w_2, wC_at, wC_2, List.cons.injEq, reduceCtorEq, and_false, false_and, and_true, true_and, if_true, if_false, eq_self, and_self, if_pos, if_neg, Nat.add_zero, cN, cT, cC, cW, cB, cG, cP, S0, S1, S2, S3, S4, S5, zm] at e f
      exact ⟨_, _, _, kI_of e, kI_of f, h0⟩
    subst q0
    rcases I_cases a2 with ⟨s, s1, rfl⟩ | ⟨s, s0, s1, rfl⟩
    case inr =>
      simp (disch := omega) only [↓Bool.cond_eq_ite, ↓reduceIte, Bool.false_eq_true, eq_self, n_lit, n_neg, n_add, n_mul, n_sub, n_subM, n_div, n_mod, n_addM, m_div, m_subn, n_tN, n_inS, n_eq_t, n_eq_f, n_ne_t, n_ne_f, n_lt_t, n_lt_f, n_ge_t, n_ge_f, n_gt_t, n_gt_f, n_le_t, n_le_f, mn_eq, mn_ne, mn_lt, mn_ge, mn_gt, mn_le, nm_eq, nm_ne, nm_lt, nm_ge, nm_gt, nm_le, n_gts_t, c_eq_refl, c_ne_refl, w_fold, w_2, wC_fold, lt_M, cond_true, cond_false, Bool.and_true, Bool.true_and, Bool.and_false, Bool.false_and, Bool.not_true, Bool.not_false, isZS_0, isZS_1, ↓reduceIte, w_at, w_2, wC_at, wC_2, List.cons.injEq, reduceCtorEq, and_false, false_and, and_true, true_and, if_true, if_false, eq_self, and_self, if_pos, if_neg, Nat.add_zero, cN, cT, cC, cW, cB, cG, cP, S0, S1, S2, S3, S4, S5] at e f
      exact ⟨_, _, _, kI_of e, kI_of f, h0⟩
    by_cases q1 : s ≤ 3
    case neg =>
      simp (disch := omega) only [↓Bool.cond_eq_ite, ↓reduceIte, Bool.false_eq_true, eq_self, n_lit, n_neg, n_add, n_mul, n_sub, n_subM, n_div, n_mod, n_addM, m_div, m_subn, n_tN, n_inS, n_eq_t, n_eq_f, n_ne_t, n_ne_f, n_lt_t, n_lt_f, n_ge_t, n_ge_f, n_gt_t, n_gt_f, n_le_t, n_le_f, mn_eq, mn_ne, mn_lt, mn_ge, mn_gt, mn_le, nm_eq, nm_ne, nm_lt, nm_ge, nm_gt, nm_le, n_gts_t, c_eq_refl, c_ne_refl, w_fold, w_2, wC_fold, lt_M, cond_true, cond_false, Bool.and_true, Bool.true_and, Bool.and_false, Bool.false_and, Bool.not_true, Bool.not_false, isZS_0, isZS_1, ↓reduceIte, w_at, w_2, wC_at, wC_2, List.cons.injEq, reduceCtorEq, and_false, false_and, and_true, true_and, if_true, if_false, eq_self, and_self, if_pos, if_neg, Nat.add_zero, cN, cT, cC, cW, cB, cG, cP, S0, S1, S2, S3, S4, S5] at e f
      exact ⟨_, _, _, kI_of e, kI_of f, h0⟩
    rcases I_cases a3 with ⟨n, n1, rfl⟩ | ⟨n, n0, n1, rfl⟩
    case inr =>
      simp (disch := omega) only [↓Bool.cond_eq_ite, ↓reduceIte, Bool.false_eq_true, eq_self, n_lit, n_neg, n_add, n_mul, n_sub, n_subM, n_div, n_mod, n_addM, m_div, m_subn, n_tN, n_inS, n_eq_t, n_eq_f, n_ne_t, n_ne_f, n_lt_t, n_lt_f, n_ge_t, n_ge_f, n_gt_t, n_gt_f, n_le_t, n_le_f, mn_eq, mn_ne, mn_lt, mn_ge, mn_gt, mn_le, nm_eq, nm_ne, nm_lt, nm_ge, nm_gt, nm_le, n_gts_t, c_eq_refl, c_ne_refl, w_fold, w_2, wC_fold, lt_M, cond_true, cond_false, Bool.and_true, Bool.true_and, Bool.and_false, Bool.false_and, Bool.not_true, Bool.not_false, isZS_0, isZS_1, ↓reduceIte, w_at, w_2, wC_at, wC_2, List.cons.injEq, reduceCtorEq, and_false, false_and, and_true, true_and, if_true, if_false, eq_self, and_self, if_pos, if_neg, Nat.add_zero, cN, cT, cC, cW, cB, cG, cP, S0, S1, S2, S3, S4, S5] at e f
      exact ⟨_, _, _, kI_of e, kI_of f, h0⟩
    by_cases q2 : 1 ≤ n
    case neg =>
      simp (disch := omega) only [↓Bool.cond_eq_ite, ↓reduceIte, Bool.false_eq_true, eq_self, n_lit, n_neg, n_add, n_mul, n_sub, n_subM, n_div, n_mod, n_addM, m_div, m_subn, n_tN, n_inS, n_eq_t, n_eq_f, n_ne_t, n_ne_f, n_lt_t, n_lt_f, n_ge_t, n_ge_f, n_gt_t, n_gt_f, n_le_t, n_le_f, mn_eq, mn_ne, mn_lt, mn_ge, mn_gt, mn_le, nm_eq, nm_ne, nm_lt, nm_ge, nm_gt, nm_le, n_gts_t, c_eq_refl, c_ne_refl, w_fold, w_2, wC_fold, lt_M, cond_true, cond_false, Bool.and_true, Bool.true_and, Bool.and_false, Bool.false_and, Bool.not_true, Bool.not_false, isZS_0, isZS_1, ↓reduceIte, w_at, w_2, wC_at, wC_2, List.cons.injEq, reduceCtorEq, and_false, false_and, and_true, true_and, if_true, if_false, eq_self, and_self, if_pos, if_neg, Nat.add_zero, cN, cT, cC, cW, cB, cG, cP, S0, S1, S2, S3, S4, S5] at e f
      exact ⟨_, _, _, kI_of e, kI_of f, h0⟩
    by_cases q3 : n ≤ 120
    case neg =>
      simp (disch := omega) only [↓Bool.cond_eq_ite, ↓reduceIte, Bool.false_eq_true, eq_self, n_lit, n_neg, n_add, n_mul, n_sub, n_subM, n_div, n_mod, n_addM, m_div, m_subn, n_tN, n_inS, n_eq_t, n_eq_f, n_ne_t, n_ne_f, n_lt_t, n_lt_f, n_ge_t, n_ge_f, n_gt_t, n_gt_f, n_le_t, n_le_f, mn_eq, mn_ne, mn_lt, mn_ge, mn_gt, mn_le, nm_eq, nm_ne, nm_lt, nm_ge, nm_gt, nm_le, n_gts_t, c_eq_refl, c_ne_refl, w_fold, w_2, wC_fold, lt_M, cond_true, cond_false, Bool.and_true, Bool.true_and, Bool.and_false, Bool.false_and, Bool.not_true, Bool.not_false, isZS_0, isZS_1, ↓reduceIte, w_at, w_2, wC_at, wC_2, List.cons.injEq, reduceCtorEq, and_false, false_and, and_true, true_and, if_true, if_false, eq_self, and_self, if_pos, if_neg, Nat.add_zero, cN, cT, cC, cW, cB, cG, cP, S0, S1, S2, S3, S4, S5] at e f
      exact ⟨_, _, _, kI_of e, kI_of f, h0⟩
    by_cases q4 : now + n ≤ 4320
    case neg =>
      simp (disch := omega) only [↓Bool.cond_eq_ite, ↓reduceIte, Bool.false_eq_true, eq_self, n_lit, n_neg, n_add, n_mul, n_sub, n_subM, n_div, n_mod, n_addM, m_div, m_subn, n_tN, n_inS, n_eq_t, n_eq_f, n_ne_t, n_ne_f, n_lt_t, n_lt_f, n_ge_t, n_ge_f, n_gt_t, n_gt_f, n_le_t, n_le_f, mn_eq, mn_ne, mn_lt, mn_ge, mn_gt, mn_le, nm_eq, nm_ne, nm_lt, nm_ge, nm_gt, nm_le, n_gts_t, c_eq_refl, c_ne_refl, w_fold, w_2, wC_fold, lt_M, cond_true, cond_false, Bool.and_true, Bool.true_and, Bool.and_false, Bool.false_and, Bool.not_true, Bool.not_false, isZS_0, isZS_1, ↓reduceIte, w_at, w_2, wC_at, wC_2, List.cons.injEq, reduceCtorEq, and_false, false_and, and_true, true_and, if_true, if_false, eq_self, and_self, if_pos, if_neg, Nat.add_zero, cN, cT, cC, cW, cB, cG, cP, S0, S1, S2, S3, S4, S5] at e f
      exact ⟨_, _, _, kI_of e, kI_of f, h0⟩
    obtain ⟨vm, M', x1, x2, x3, x4⟩ := mind_ok (L := L) (xs := xs) hhm (n := n) (s := s) (by omega) (by omega) (by omega) (.inl rfl) (⟨hP, hIm, hHi, hTx, hSh, hMi⟩ : rIx L xs C M1 nc nw nb np nt now hm kd wa wb wd wl ws)
    obtain ⟨vc, C', y1, y2, y3, y4⟩ := x4 2147483647 (by omega)
    have hv : vc = vm := by omega
    subst hv
    simp (disch := omega) only [↓Bool.cond_eq_ite, ↓reduceIte, Bool.false_eq_true, eq_self, n_lit, n_neg, n_add, n_mul, n_sub, n_subM, n_div, n_mod, n_addM, m_div, m_subn, n_tN, n_inS, n_eq_t, n_eq_f, n_ne_t, n_ne_f, n_lt_t, n_lt_f, n_ge_t, n_ge_f, n_gt_t, n_gt_f, n_le_t, n_le_f, mn_eq, mn_ne, mn_lt, mn_ge, mn_gt, mn_le, nm_eq, nm_ne, nm_lt, nm_ge, nm_gt, nm_le, n_gts_t, c_eq_refl, c_ne_refl, w_fold, w_2, wC_fold, lt_M, cond_true, cond_false, Bool.and_true, Bool.true_and, Bool.and_false, Bool.false_and, Bool.not_true, Bool.not_false, isZS_0, isZS_1, ↓reduceIte, w_at, w_2, wC_at, wC_2, List.cons.injEq, reduceCtorEq, and_false, false_and, and_true, true_and, if_true, if_false, eq_self, and_self, if_pos, if_neg, Nat.add_zero, cN, cT, cC, cW, cB, cG, cP, S0, S1, S2, S3, S4, S5, y1, x1, Option.bind_some] at e f
    exact ⟨_, _, _, kI_of e, kI_of f, rI_ag y3 x3 h0⟩


def bcL : Option (Nat × Nat) → Nat
  | none => 2147483647
  | some p => p.2
def bmL : Option (Nat × Nat) → Int32
  | none => oN 0
  | some p => oN p.2
def bH : Option (Nat × Nat) → Int32
  | none => oM 4
  | some p => oN p.1
theorem bH_n : bH none = oM 4 := rfl
theorem bH_s {p : Nat × Nat} : bH (some p) = oN p.1 := rfl
theorem bc_n : bcL none = 2147483647 := rfl
theorem bc_s {p : Nat × Nat} : bcL (some p) = p.2 := rfl
theorem bm_n : bmL none = oN 0 := rfl
theorem bm_s {p : Nat × Nat} : bmL (some p) = oN p.2 := rfl
def bOk (o : Option (Nat × Nat)) : Prop := ∀ p, o = some p → p.1 ≤ 100 ∧ p.2 ≤ 100000
variable {nc nw nb np nt now : Nat} {kd wa wb wd wl ws : Nat → Nat}
set_option maxRecDepth 8000 in
theorem best_in (hhm : hm ≤ 1000) {n w : Nat} (hn : n ≤ 120) (hnow : now + n ≤ 4320) (hw : w < nw) (hw8 : w < 8) : ∀ r s C M o, s + r = 4 → bOk o → rIx L xs C M nc nw nb np nt now hm kd wa wb wd wl ws →
    ∃ C' M' o', run L xs 84 31 (65, [some (vr 9 [0]), some (vi (oN n)), some (vi (oN (bcL o))), some (vi (bH o)), some (vi (oN w)), some (vi (oN s)), none], [], C) = run L xs 84 31 (40, [some (vr 9 [0]), some (vi (oN n)), some (vi (oN (bcL o'))), some (vi (bH o')), some (vi (oN (w + 1))), none, none], [], C') ∧
      run L xs 151 38 (47, [some (vr 10 [1]), some (vi (oN n)), none, some (vi (bH o)), some (vi (bmL o)), some (vi (oN w)), some (vi (oN s)), none], [], M) = run L xs 151 38 (26, [some (vr 10 [1]), some (vi (oN n)), none, some (vi (bH o')), some (vi (bmL o')), some (vi (oN (w + 1))), none, none], [], M') ∧ bOk o' ∧ rIx L xs C' M' nc nw nb np nt now hm kd wa wb wd wl ws := by
  intro r
  induction r with
  | zero =>
    intro s C M o hs ho hx
    have : s = 4 := by omega
    subst this
    refine ⟨C, M, o, ?_, ?_, ho, hx⟩
    · rw [h_84_65]
      simp (disch := omega) only [↓Bool.cond_eq_ite, ↓reduceIte, Bool.false_eq_true, eq_self, n_lit, n_neg, n_add, n_mul, n_sub, n_subM, n_div, n_mod, n_addM, m_div, m_subn, n_tN, n_inS, n_eq_t, n_eq_f, n_ne_t, n_ne_f, n_lt_t, n_lt_f, n_ge_t, n_ge_f, n_gt_t, n_gt_f, n_le_t, n_le_f, mn_eq, mn_ne, mn_lt, mn_ge, mn_gt, mn_le, nm_eq, nm_ne, nm_lt, nm_ge, nm_gt, nm_le, n_gts_t, c_eq_refl, c_ne_refl, w_fold, w_2, wC_fold, lt_M, cond_true, cond_false, Bool.and_true, Bool.true_and, Bool.and_false, Bool.false_and, Bool.not_true, Bool.not_false, isZS_0, isZS_1]
    · rw [h_151_47]
      simp (disch := omega) only [↓Bool.cond_eq_ite, ↓reduceIte, Bool.false_eq_true, eq_self, n_lit, n_neg, n_add, n_mul, n_sub, n_subM, n_div, n_mod, n_addM, m_div, m_subn, n_tN, n_inS, n_eq_t, n_eq_f, n_ne_t, n_ne_f, n_lt_t, n_lt_f, n_ge_t, n_ge_f, n_gt_t, n_gt_f, n_le_t, n_le_f, mn_eq, mn_ne, mn_lt, mn_ge, mn_gt, mn_le, nm_eq, nm_ne, nm_lt, nm_ge, nm_gt, nm_le, n_gts_t, c_eq_refl, c_ne_refl, w_fold, w_2, wC_fold, lt_M, cond_true, cond_false, Bool.and_true, Bool.true_and, Bool.and_false, Bool.false_and, Bool.not_true, Bool.not_false, isZS_0, isZS_1]
  | succ r ih =>
    intro s C M o hs ho hx
    obtain ⟨vm, M1, x1, x2, x3, x4⟩ := mind_ok (L := L) (xs := xs) hhm (n := n) (s := s) hn hnow (by omega) (.inr ⟨w, hw, rfl⟩) hx
    have hlim : bcL o < 2147483648 := by
      cases ho' : o with
      | none => show 2147483647 < _; omega
      | some p => have := (ho p ho').2; show p.2 < _; omega
    obtain ⟨vc, C1, y1, y2, y3, y4⟩ := x4 (bcL o) hlim
    have hx1 := rIx_ag y3 x3 hx
    by_cases hv : bcL o ≤ vc
    · obtain ⟨C', M', o', k1, k2, k3, k4⟩ := ih (s + 1) C1 M1 o (by omega) ho hx1
      refine ⟨C', M', o', ?_, ?_, k3, k4⟩
      · rw [h_84_65]
        simp (disch := omega) only [↓Bool.cond_eq_ite, ↓reduceIte, Bool.false_eq_true, eq_self, n_lit, n_neg, n_add, n_mul, n_sub, n_subM, n_div, n_mod, n_addM, m_div, m_subn, n_tN, n_inS, n_eq_t, n_eq_f, n_ne_t, n_ne_f, n_lt_t, n_lt_f, n_ge_t, n_ge_f, n_gt_t, n_gt_f, n_le_t, n_le_f, mn_eq, mn_ne, mn_lt, mn_ge, mn_gt, mn_le, nm_eq, nm_ne, nm_lt, nm_ge, nm_gt, nm_le, n_gts_t, c_eq_refl, c_ne_refl, w_fold, w_2, wC_fold, lt_M, cond_true, cond_false, Bool.and_true, Bool.true_and, Bool.and_false, Bool.false_and, Bool.not_true, Bool.not_false, isZS_0, isZS_1, y1, Option.bind_some]
        exact k1
      · cases ho' : o with
        | none => rw [ho'] at hv; have hv : 2147483647 ≤ vc := hv; omega
        | some p =>
          rw [ho'] at hv y4 k2
          have hv : p.2 ≤ vc := hv
          have y4 : vc = vm ∨ (p.2 ≤ vc ∧ p.2 ≤ vm) := y4
          have hp := ho p ho'
          rw [h_151_47]
          simp (disch := omega) only [↓Bool.cond_eq_ite, ↓reduceIte, Bool.false_eq_true, eq_self, n_lit, n_neg, n_add, n_mul, n_sub, n_subM, n_div, n_mod, n_addM, m_div, m_subn, n_tN, n_inS, n_eq_t, n_eq_f, n_ne_t, n_ne_f, n_lt_t, n_lt_f, n_ge_t, n_ge_f, n_gt_t, n_gt_f, n_le_t, n_le_f, mn_eq, mn_ne, mn_lt, mn_ge, mn_gt, mn_le, nm_eq, nm_ne, nm_lt, nm_ge, nm_gt, nm_le, n_gts_t, c_eq_refl, c_ne_refl, w_fold, w_2, wC_fold, lt_M, cond_true, cond_false, Bool.and_true, Bool.true_and, Bool.and_false, Bool.false_and, Bool.not_true, Bool.not_false, isZS_0, isZS_1, x1, bH_n, bH_s, bm_n, bm_s, Option.bind_some] at k2 ⊢
          exact k2
    · have hvm : vc = vm := by omega
      subst hvm
      obtain ⟨C', M', o', k1, k2, k3, k4⟩ := ih (s + 1) C1 M1 (some (10 * w + s, vc)) (by omega) (fun p hp => by
        cases hp
        exact ⟨by show 10 * w + s ≤ 100; omega, y2⟩) hx1
      refine ⟨C', M', o', ?_, ?_, k3, k4⟩
      · rw [h_84_65]
        simp (disch := omega) only [↓Bool.cond_eq_ite, ↓reduceIte, Bool.false_eq_true, eq_self, n_lit, n_neg, n_add, n_mul, n_sub, n_subM, n_div, n_mod, n_addM, m_div, m_subn, n_tN, n_inS, n_eq_t, n_eq_f, n_ne_t, n_ne_f, n_lt_t, n_lt_f, n_ge_t, n_ge_f, n_gt_t, n_gt_f, n_le_t, n_le_f, mn_eq, mn_ne, mn_lt, mn_ge, mn_gt, mn_le, nm_eq, nm_ne, nm_lt, nm_ge, nm_gt, nm_le, n_gts_t, c_eq_refl, c_ne_refl, w_fold, w_2, wC_fold, lt_M, cond_true, cond_false, Bool.and_true, Bool.true_and, Bool.and_false, Bool.false_and, Bool.not_true, Bool.not_false, isZS_0, isZS_1, y1, bH_n, bH_s, bc_n, bc_s, Option.bind_some] at k1 ⊢
        exact k1
      · cases ho' : o with
        | none =>
          rw [h_151_47]
          simp (disch := omega) only [↓Bool.cond_eq_ite, ↓reduceIte, Bool.false_eq_true, eq_self, n_lit, n_neg, n_add, n_mul, n_sub, n_subM, n_div, n_mod, n_addM, m_div, m_subn, n_tN, n_inS, n_eq_t, n_eq_f, n_ne_t, n_ne_f, n_lt_t, n_lt_f, n_ge_t, n_ge_f, n_gt_t, n_gt_f, n_le_t, n_le_f, mn_eq, mn_ne, mn_lt, mn_ge, mn_gt, mn_le, nm_eq, nm_ne, nm_lt, nm_ge, nm_gt, nm_le, n_gts_t, c_eq_refl, c_ne_refl, w_fold, w_2, wC_fold, lt_M, cond_true, cond_false, Bool.and_true, Bool.true_and, Bool.and_false, Bool.false_and, Bool.not_true, Bool.not_false, isZS_0, isZS_1, x1, bH_n, bH_s, bm_n, bm_s, c_eq_refl, Option.bind_some] at k2 ⊢
          exact k2
        | some p =>
          rw [ho'] at hv
          have hv : ¬ p.2 ≤ vc := hv
          have hp := ho p ho'
          rw [h_151_47]
          simp (disch := omega) only [↓Bool.cond_eq_ite, ↓reduceIte, Bool.false_eq_true, eq_self, n_lit, n_neg, n_add, n_mul, n_sub, n_subM, n_div, n_mod, n_addM, m_div, m_subn, n_tN, n_inS, n_eq_t, n_eq_f, n_ne_t, n_ne_f, n_lt_t, n_lt_f, n_ge_t, n_ge_f, n_gt_t, n_gt_f, n_le_t, n_le_f, mn_eq, mn_ne, mn_lt, mn_ge, mn_gt, mn_le, nm_eq, nm_ne, nm_lt, nm_ge, nm_gt, nm_le, n_gts_t, c_eq_refl, c_ne_refl, w_fold, w_2, wC_fold, lt_M, cond_true, cond_false, Bool.and_true, Bool.true_and, Bool.and_false, Bool.false_and, Bool.not_true, Bool.not_false, isZS_0, isZS_1, x1, bH_n, bH_s, bm_n, bm_s, Option.bind_some] at k2 ⊢
          exact k2
theorem best_out (hhm : hm ≤ 1000) {n : Nat} (hn : n ≤ 120) (hnow : now + n ≤ 4320) : ∀ r w C M o, w + r = 8 → bOk o → rIx L xs C M nc nw nb np nt now hm kd wa wb wd wl ws →
    ∃ v C' M', run L xs 84 31 (40, [some (vr 9 [0]), some (vi (oN n)), some (vi (oN (bcL o))), some (vi (bH o)), some (vi (oN w)), none, none], [], C) = some (some (vi v), C') ∧
      run L xs 151 38 (26, [some (vr 10 [1]), some (vi (oN n)), none, some (vi (bH o)), some (vi (bmL o)), some (vi (oN w)), none, none], [], M) = some (some (vi v), M') ∧ rIx L xs C' M' nc nw nb np nt now hm kd wa wb wd wl ws := by
  intro r
  induction r with
  | zero =>
    intro w C M o hw ho hx
    have : w = 8 := by omega
    subst this
    have cW : C.1 [6, 0, 0] 0 = oN nw := hx.1.1.2.2.2.1
    have b24 : nw ≤ 24 := hx.1.1.2.2.2.2.2.2.2.2.2.2.2.2.2.2.1
    refine ⟨bH o, C, M, ?_, ?_, hx⟩
    · rw [h_84_40]
      by_cases h : nw ≤ 8
      · simp (disch := omega) only [↓Bool.cond_eq_ite, ↓reduceIte, Bool.false_eq_true, eq_self, n_lit, n_neg, n_add, n_mul, n_sub, n_subM, n_div, n_mod, n_addM, m_div, m_subn, n_tN, n_inS, n_eq_t, n_eq_f, n_ne_t, n_ne_f, n_lt_t, n_lt_f, n_ge_t, n_ge_f, n_gt_t, n_gt_f, n_le_t, n_le_f, mn_eq, mn_ne, mn_lt, mn_ge, mn_gt, mn_le, nm_eq, nm_ne, nm_lt, nm_ge, nm_gt, nm_le, n_gts_t, c_eq_refl, c_ne_refl, w_fold, w_2, wC_fold, lt_M, cond_true, cond_false, Bool.and_true, Bool.true_and, Bool.and_false, Bool.false_and, Bool.not_true, Bool.not_false, isZS_0, isZS_1, cW]
      · simp (disch := omega) only [↓Bool.cond_eq_ite, ↓reduceIte, Bool.false_eq_true, eq_self, n_lit, n_neg, n_add, n_mul, n_sub, n_subM, n_div, n_mod, n_addM, m_div, m_subn, n_tN, n_inS, n_eq_t, n_eq_f, n_ne_t, n_ne_f, n_lt_t, n_lt_f, n_ge_t, n_ge_f, n_gt_t, n_gt_f, n_le_t, n_le_f, mn_eq, mn_ne, mn_lt, mn_ge, mn_gt, mn_le, nm_eq, nm_ne, nm_lt, nm_ge, nm_gt, nm_le, n_gts_t, c_eq_refl, c_ne_refl, w_fold, w_2, wC_fold, lt_M, cond_true, cond_false, Bool.and_true, Bool.true_and, Bool.and_false, Bool.false_and, Bool.not_true, Bool.not_false, isZS_0, isZS_1, cW]
    · rw [h_151_26]
      simp (disch := omega) only [↓Bool.cond_eq_ite, ↓reduceIte, Bool.false_eq_true, eq_self, n_lit, n_neg, n_add, n_mul, n_sub, n_subM, n_div, n_mod, n_addM, m_div, m_subn, n_tN, n_inS, n_eq_t, n_eq_f, n_ne_t, n_ne_f, n_lt_t, n_lt_f, n_ge_t, n_ge_f, n_gt_t, n_gt_f, n_le_t, n_le_f, mn_eq, mn_ne, mn_lt, mn_ge, mn_gt, mn_le, nm_eq, nm_ne, nm_lt, nm_ge, nm_gt, nm_le, n_gts_t, c_eq_refl, c_ne_refl, w_fold, w_2, wC_fold, lt_M, cond_true, cond_false, Bool.and_true, Bool.true_and, Bool.and_false, Bool.false_and, Bool.not_true, Bool.not_false, isZS_0, isZS_1]
  | succ r ih =>
    intro w C M o hw ho hx
    have cW : C.1 [6, 0, 0] 0 = oN nw := hx.1.1.2.2.2.1
    have S1 : M.1 [1, 1] 1 = oN nw := hx.1.1.2.2.2.2.2.2.2.2.1
    have b24 : nw ≤ 24 := hx.1.1.2.2.2.2.2.2.2.2.2.2.2.2.2.2.1
    by_cases h : nw ≤ w
    · refine ⟨bH o, C, M, ?_, ?_, hx⟩
      · rw [h_84_40]
        simp (disch := omega) only [↓Bool.cond_eq_ite, ↓reduceIte, Bool.false_eq_true, eq_self, n_lit, n_neg, n_add, n_mul, n_sub, n_subM, n_div, n_mod, n_addM, m_div, m_subn, n_tN, n_inS, n_eq_t, n_eq_f, n_ne_t, n_ne_f, n_lt_t, n_lt_f, n_ge_t, n_ge_f, n_gt_t, n_gt_f, n_le_t, n_le_f, mn_eq, mn_ne, mn_lt, mn_ge, mn_gt, mn_le, nm_eq, nm_ne, nm_lt, nm_ge, nm_gt, nm_le, n_gts_t, c_eq_refl, c_ne_refl, w_fold, w_2, wC_fold, lt_M, cond_true, cond_false, Bool.and_true, Bool.true_and, Bool.and_false, Bool.false_and, Bool.not_true, Bool.not_false, isZS_0, isZS_1, cW]
      · rw [h_151_26]
        simp (disch := omega) only [↓Bool.cond_eq_ite, ↓reduceIte, Bool.false_eq_true, eq_self, n_lit, n_neg, n_add, n_mul, n_sub, n_subM, n_div, n_mod, n_addM, m_div, m_subn, n_tN, n_inS, n_eq_t, n_eq_f, n_ne_t, n_ne_f, n_lt_t, n_lt_f, n_ge_t, n_ge_f, n_gt_t, n_gt_f, n_le_t, n_le_f, mn_eq, mn_ne, mn_lt, mn_ge, mn_gt, mn_le, nm_eq, nm_ne, nm_lt, nm_ge, nm_gt, nm_le, n_gts_t, c_eq_refl, c_ne_refl, w_fold, w_2, wC_fold, lt_M, cond_true, cond_false, Bool.and_true, Bool.true_and, Bool.and_false, Bool.false_and, Bool.not_true, Bool.not_false, isZS_0, isZS_1, S1]
    · obtain ⟨C1, M1, o1, a1, a2, a3, a4⟩ := best_in (L := L) (xs := xs) hhm hn hnow (w := w) (by omega) (by omega) 4 0 C M o (by omega) ho hx
      obtain ⟨v, C', M', k1, k2, k3⟩ := ih (w + 1) C1 M1 o1 (by omega) a3 a4
      refine ⟨v, C', M', ?_, ?_, k3⟩
      · rw [h_84_40, ← k1, ← a1]
        simp (disch := omega) only [↓Bool.cond_eq_ite, ↓reduceIte, Bool.false_eq_true, eq_self, n_lit, n_neg, n_add, n_mul, n_sub, n_subM, n_div, n_mod, n_addM, m_div, m_subn, n_tN, n_inS, n_eq_t, n_eq_f, n_ne_t, n_ne_f, n_lt_t, n_lt_f, n_ge_t, n_ge_f, n_gt_t, n_gt_f, n_le_t, n_le_f, mn_eq, mn_ne, mn_lt, mn_ge, mn_gt, mn_le, nm_eq, nm_ne, nm_lt, nm_ge, nm_gt, nm_le, n_gts_t, c_eq_refl, c_ne_refl, w_fold, w_2, wC_fold, lt_M, cond_true, cond_false, Bool.and_true, Bool.true_and, Bool.and_false, Bool.false_and, Bool.not_true, Bool.not_false, isZS_0, isZS_1, cW]
      · rw [h_151_26, ← k2, ← a2]
        simp (disch := omega) only [↓Bool.cond_eq_ite, ↓reduceIte, Bool.false_eq_true, eq_self, n_lit, n_neg, n_add, n_mul, n_sub, n_subM, n_div, n_mod, n_addM, m_div, m_subn, n_tN, n_inS, n_eq_t, n_eq_f, n_ne_t, n_ne_f, n_lt_t, n_lt_f, n_ge_t, n_ge_f, n_gt_t, n_gt_f, n_le_t, n_le_f, mn_eq, mn_ne, mn_lt, mn_ge, mn_gt, mn_le, nm_eq, nm_ne, nm_lt, nm_ge, nm_gt, nm_le, n_gts_t, c_eq_refl, c_ne_refl, w_fold, w_2, wC_fold, lt_M, cond_true, cond_false, Bool.and_true, Bool.true_and, Bool.and_false, Bool.false_and, Bool.not_true, Bool.not_false, isZS_0, isZS_1, S1]
set_option maxRecDepth 8000 in
set_option maxHeartbeats 4000000 in
theorem op_best {a1 : Int32} (hhm : hm ≤ 1000) (h : rI L xs C M hm) : opR L xs 84 151 [vi a1] C M hm := by
  have e := e_84 L xs [0] a1 C
  have f := e_151 L xs [1] a1 M
  have h1 : rI L xs C (wI M [1] 0 (0 : Int32)) hm := rI_ag (agC_refl _) (agM_w0 (by decide) (by decide)) h
  simp only [lt_M, w_fold] at f
  generalize wI M [1] 0 (0 : Int32) = M1 at f h1
  have h0 := h1
  obtain ⟨nc, nw, nb, np, nt, now, kd, wa, wb, wd, wl, ws, hP, hIm, hHi, hTx, hSh, hMi⟩ := h1
  have hP' := hP
  obtain ⟨g1, g2, g3, g4, g5, g6, g7, g8, g9, g10⟩ := hP'
  have hsc := g1
  obtain ⟨cN, cT, cC, cW, cB, cG, cP, S0, S1, S2, S3, S4, S5, b16, b24, b40, b8, b20, b4320⟩ := hsc
  have hle := cntG_le kd nb
  rcases I_cases a1 with ⟨n, n1, rfl⟩ | ⟨n, n0, n1, rfl⟩
  case inr =>
    simp (disch := omega) only [↓Bool.cond_eq_ite, ↓reduceIte, Bool.false_eq_true, eq_self, n_lit, n_neg, n_add, n_mul, n_sub, n_subM, n_div, n_mod, n_addM, m_div, m_subn, n_tN, n_inS, n_eq_t, n_eq_f, n_ne_t, n_ne_f, n_lt_t, n_lt_f, n_ge_t, n_ge_f, n_gt_t, n_gt_f, n_le_t, n_le_f, mn_eq, mn_ne, mn_lt, mn_ge, mn_gt, mn_le, nm_eq, nm_ne, nm_lt, nm_ge, nm_gt, nm_le, n_gts_t, c_eq_refl, c_ne_refl, w_fold, w_2, wC_fold, lt_M, cond_true, cond_false, Bool.and_true, Bool.true_and, Bool.and_false, Bool.false_and, Bool.not_true, Bool.not_false, isZS_0, isZS_1, ↓reduceIte, w_at, w_2, wC_at, wC_2, List.cons.injEq, reduceCtorEq, and_false, false_and, and_true, true_and, if_true, if_false, eq_self, and_self, if_pos, if_neg, Nat.add_zero, cN, cT, cC, cW, cB, cG, cP, S0, S1, S2, S3, S4, S5] at e f
    exact ⟨_, _, _, kI_of e, kI_of f, h0⟩
  by_cases q1 : 1 ≤ n
  case neg =>
    simp (disch := omega) only [↓Bool.cond_eq_ite, ↓reduceIte, Bool.false_eq_true, eq_self, n_lit, n_neg, n_add, n_mul, n_sub, n_subM, n_div, n_mod, n_addM, m_div, m_subn, n_tN, n_inS, n_eq_t, n_eq_f, n_ne_t, n_ne_f, n_lt_t, n_lt_f, n_ge_t, n_ge_f, n_gt_t, n_gt_f, n_le_t, n_le_f, mn_eq, mn_ne, mn_lt, mn_ge, mn_gt, mn_le, nm_eq, nm_ne, nm_lt, nm_ge, nm_gt, nm_le, n_gts_t, c_eq_refl, c_ne_refl, w_fold, w_2, wC_fold, lt_M, cond_true, cond_false, Bool.and_true, Bool.true_and, Bool.and_false, Bool.false_and, Bool.not_true, Bool.not_false, isZS_0, isZS_1, ↓reduceIte, w_at, w_2, wC_at, wC_2, List.cons.injEq, reduceCtorEq, and_false, false_and, and_true, true_and, if_true, if_false, eq_self, and_self, if_pos, if_neg, Nat.add_zero, cN, cT, cC, cW, cB, cG, cP, S0, S1, S2, S3, S4, S5] at e f
    exact ⟨_, _, _, kI_of e, kI_of f, h0⟩
  by_cases q2 : n ≤ 120
  case neg =>
    simp (disch := omega) only [↓Bool.cond_eq_ite, ↓reduceIte, Bool.false_eq_true, eq_self, n_lit, n_neg, n_add, n_mul, n_sub, n_subM, n_div, n_mod, n_addM, m_div, m_subn, n_tN, n_inS, n_eq_t, n_eq_f, n_ne_t, n_ne_f, n_lt_t, n_lt_f, n_ge_t, n_ge_f, n_gt_t, n_gt_f, n_le_t, n_le_f, mn_eq, mn_ne, mn_lt, mn_ge, mn_gt, mn_le, nm_eq, nm_ne, nm_lt, nm_ge, nm_gt, nm_le, n_gts_t, c_eq_refl, c_ne_refl, w_fold, w_2, wC_fold, lt_M, cond_true, cond_false, Bool.and_true, Bool.true_and, Bool.and_false, Bool.false_and, Bool.not_true, Bool.not_false, isZS_0, isZS_1, ↓reduceIte, w_at, w_2, wC_at, wC_2, List.cons.injEq, reduceCtorEq, and_false, false_and, and_true, true_and, if_true, if_false, eq_self, and_self, if_pos, if_neg, Nat.add_zero, cN, cT, cC, cW, cB, cG, cP, S0, S1, S2, S3, S4, S5] at e f
    exact ⟨_, _, _, kI_of e, kI_of f, h0⟩
  by_cases q3 : now + n ≤ 4320
  case neg =>
    simp (disch := omega) only [↓Bool.cond_eq_ite, ↓reduceIte, Bool.false_eq_true, eq_self, n_lit, n_neg, n_add, n_mul, n_sub, n_subM, n_div, n_mod, n_addM, m_div, m_subn, n_tN, n_inS, n_eq_t, n_eq_f, n_ne_t, n_ne_f, n_lt_t, n_lt_f, n_ge_t, n_ge_f, n_gt_t, n_gt_f, n_le_t, n_le_f, mn_eq, mn_ne, mn_lt, mn_ge, mn_gt, mn_le, nm_eq, nm_ne, nm_lt, nm_ge, nm_gt, nm_le, n_gts_t, c_eq_refl, c_ne_refl, w_fold, w_2, wC_fold, lt_M, cond_true, cond_false, Bool.and_true, Bool.true_and, Bool.and_false, Bool.false_and, Bool.not_true, Bool.not_false, isZS_0, isZS_1, ↓reduceIte, w_at, w_2, wC_at, wC_2, List.cons.injEq, reduceCtorEq, and_false, false_and, and_true, true_and, if_true, if_false, eq_self, and_self, if_pos, if_neg, Nat.add_zero, cN, cT, cC, cW, cB, cG, cP, S0, S1, S2, S3, S4, S5] at e f
    exact ⟨_, _, _, kI_of e, kI_of f, h0⟩
  obtain ⟨v, C', M', k1, k2, nc', h9⟩ := (fun h => h : (∃ v C' M', run L xs 84 31 (40, [some (vr 9 [0]), some (vi (oN n)), some (vi (oN (bcL none))), some (vi (bH none)), some (vi (oN 0)), none, none], [], C) = some (some (vi v), C') ∧
        run L xs 151 38 (26, [some (vr 10 [1]), some (vi (oN n)), none, some (vi (bH none)), some (vi (bmL none)), some (vi (oN 0)), none, none], [], M1) = some (some (vi v), M') ∧ rI L xs C' M' hm) → _) (by
      obtain ⟨v, C', M', k1, k2, k3⟩ := best_out (L := L) (xs := xs) hhm (n := n) (by omega) (by omega) 8 0 C M1 none (by omega) (fun p hp => by cases hp) (⟨hP, hIm, hHi, hTx, hSh, hMi⟩ : rIx L xs C M1 nc nw nb np nt now hm kd wa wb wd wl ws)
      exact ⟨v, C', M', k1, k2, nc, nw, nb, np, nt, now, kd, wa, wb, wd, wl, ws, k3⟩)
  simp only [bH_n, bH_s, bc_n, bc_s, bmL] at k1 k2
  simp (disch := omega) only [↓Bool.cond_eq_ite, ↓reduceIte, Bool.false_eq_true, eq_self, n_lit, n_neg, n_add, n_mul, n_sub, n_subM, n_div, n_mod, n_addM, m_div, m_subn, n_tN, n_inS, n_eq_t, n_eq_f, n_ne_t, n_ne_f, n_lt_t, n_lt_f, n_ge_t, n_ge_f, n_gt_t, n_gt_f, n_le_t, n_le_f, mn_eq, mn_ne, mn_lt, mn_ge, mn_gt, mn_le, nm_eq, nm_ne, nm_lt, nm_ge, nm_gt, nm_le, n_gts_t, c_eq_refl, c_ne_refl, w_fold, w_2, wC_fold, lt_M, cond_true, cond_false, Bool.and_true, Bool.true_and, Bool.and_false, Bool.false_and, Bool.not_true, Bool.not_false, isZS_0, isZS_1, ↓reduceIte, w_at, w_2, wC_at, wC_2, List.cons.injEq, reduceCtorEq, and_false, false_and, and_true, true_and, if_true, if_false, eq_self, and_self, if_pos, if_neg, Nat.add_zero, cN, cT, cC, cW, cB, cG, cP, S0, S1, S2, S3, S4, S5, k1, k2] at e f
  exact ⟨_, _, _, kI_of e, kI_of f, nc', h9⟩

end Ops12
