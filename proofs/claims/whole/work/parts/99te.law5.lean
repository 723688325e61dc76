section Law5
variable {L : Nat} {xs : Nat → Int32} {C C' M M1 M' mem : mM} {hm i : Nat}
set_option maxRecDepth 100000 in
set_option maxHeartbeats 4000000 in
theorem lw_6 (hi : i + 6 ≤ L) (hL : L ≤ 3072) (ht : xs i &&& oN 63 = oN 6) (h : rI L xs mem mem hm) : stO L xs i hm mem := by
  have h0 := h
  obtain ⟨nc, nw, nb, np, nt, now, kd, wa, wb, wd, wl, ws, hx⟩ := h
  have hx' := hx
  obtain ⟨hP, hIm, hHi, hTx, hSh, hMi⟩ := hx'
  have hP' := hP
  obtain ⟨g1, g2, g3, g4, g5, g6, g7, g8, g9, g10⟩ := hP'
  obtain ⟨cN, cT, cC, cW, cB, cG, cP, S0, S1, S2, S3, S4, S5, b16, b24, b40, b8, b20, b4320⟩ := g1
  have hle := cntG_le kd nb
  have hr : rI L xs (wI mem [1] 0 (oN 0)) (wI mem [1] 0 (oN 0)) hm := rI_ag (agC_frm (frm_w (und_a []))) (agM_w0 (by decide) (by decide)) h0
  rcases I_cases (xs (i + 1)) with ⟨u, u1, hu⟩ | ⟨u, u0, u1, hu⟩
  case inr =>
    have e := e_163 L xs [1] (xs (i + 1)) (xs (i + 2)) mem
    simp (disch := omega) only [↓Bool.cond_eq_ite, ↓reduceIte, Bool.false_eq_true, eq_self, n_lit, n_neg, n_add, n_mul, n_sub, n_subM, n_div, n_mod, n_addM, m_div, m_subn, n_tN, n_inS, n_eq_t, n_eq_f, n_ne_t, n_ne_f, n_lt_t, n_lt_f, n_ge_t, n_ge_f, n_gt_t, n_gt_f, n_le_t, n_le_f, mn_eq, mn_ne, mn_lt, mn_ge, mn_gt, mn_le, nm_eq, nm_ne, nm_lt, nm_ge, nm_gt, nm_le, n_gts_t, c_eq_refl, c_ne_refl, w_fold, wC_fold, lt_M, cond_true, cond_false, Bool.and_true, Bool.true_and, Bool.and_false, Bool.false_and, Bool.not_true, Bool.not_false, isZS_0, isZS_1, cN, cT, cC, cW, cB, cG, cP, S0, S1, S2, S3, S4, S5, w_at, List.cons.injEq, reduceCtorEq, and_false, false_and, and_true, true_and, if_false, if_true, hu] at e
    have k := kI_of e
    refine ⟨wI mem [1] 0 (oN 0), hm, ?_, hr, by omega, by omega, Nat.le_succ _⟩
    unfold lw
    rw [h_256_23]
    simp (disch := omega) only [↓Bool.cond_eq_ite, ↓reduceIte, Bool.false_eq_true, eq_self, n_lit, n_neg, n_add, n_mul, n_sub, n_subM, n_div, n_mod, n_addM, m_div, m_subn, n_tN, n_inS, n_eq_t, n_eq_f, n_ne_t, n_ne_f, n_lt_t, n_lt_f, n_ge_t, n_ge_f, n_gt_t, n_gt_f, n_le_t, n_le_f, mn_eq, mn_ne, mn_lt, mn_ge, mn_gt, mn_le, nm_eq, nm_ne, nm_lt, nm_ge, nm_gt, nm_le, n_gts_t, c_eq_refl, c_ne_refl, w_fold, wC_fold, lt_M, cond_true, cond_false, Bool.and_true, Bool.true_and, Bool.and_false, Bool.false_and, Bool.not_true, Bool.not_false, isZS_0, isZS_1, oNL, ht, cN, cT, cC, cW, cB, cG, cP, S0, S1, S2, S3, S4, S5, w_at, List.cons.injEq, reduceCtorEq, and_false, false_and, and_true, true_and, if_false, if_true, hu, k, c_eq_refl, c_ne_refl, Option.bind_some]
  by_cases q1 : u < nc
  case neg =>
    have e := e_163 L xs [1] (xs (i + 1)) (xs (i + 2)) mem
    simp (disch := omega) only [↓Bool.cond_eq_ite, ↓reduceIte, Bool.false_eq_true, eq_self, n_lit, n_neg, n_add, n_mul, n_sub, n_subM, n_div, n_mod, n_addM, m_div, m_subn, n_tN, n_inS, n_eq_t, n_eq_f, n_ne_t, n_ne_f, n_lt_t, n_lt_f, n_ge_t, n_ge_f, n_gt_t, n_gt_f, n_le_t, n_le_f, mn_eq, mn_ne, mn_lt, mn_ge, mn_gt, mn_le, nm_eq, nm_ne, nm_lt, nm_ge, nm_gt, nm_le, n_gts_t, c_eq_refl, c_ne_refl, w_fold, wC_fold, lt_M, cond_true, cond_false, Bool.and_true, Bool.true_and, Bool.and_false, Bool.false_and, Bool.not_true, Bool.not_false, isZS_0, isZS_1, cN, cT, cC, cW, cB, cG, cP, S0, S1, S2, S3, S4, S5, w_at, List.cons.injEq, reduceCtorEq, and_false, false_and, and_true, true_and, if_false, if_true, hu] at e
    have k := kI_of e
    refine ⟨wI mem [1] 0 (oN 0), hm, ?_, hr, by omega, by omega, Nat.le_succ _⟩
    unfold lw
    rw [h_256_23]
    simp (disch := omega) only [↓Bool.cond_eq_ite, ↓reduceIte, Bool.false_eq_true, eq_self, n_lit, n_neg, n_add, n_mul, n_sub, n_subM, n_div, n_mod, n_addM, m_div, m_subn, n_tN, n_inS, n_eq_t, n_eq_f, n_ne_t, n_ne_f, n_lt_t, n_lt_f, n_ge_t, n_ge_f, n_gt_t, n_gt_f, n_le_t, n_le_f, mn_eq, mn_ne, mn_lt, mn_ge, mn_gt, mn_le, nm_eq, nm_ne, nm_lt, nm_ge, nm_gt, nm_le, n_gts_t, c_eq_refl, c_ne_refl, w_fold, wC_fold, lt_M, cond_true, cond_false, Bool.and_true, Bool.true_and, Bool.and_false, Bool.false_and, Bool.not_true, Bool.not_false, isZS_0, isZS_1, oNL, ht, cN, cT, cC, cW, cB, cG, cP, S0, S1, S2, S3, S4, S5, w_at, List.cons.injEq, reduceCtorEq, and_false, false_and, and_true, true_and, if_false, if_true, hu, k, c_eq_refl, c_ne_refl, Option.bind_some]
  rcases I_cases (xs (i + 2)) with ⟨v, v1, hv⟩ | ⟨v, v0, v1, hv⟩
  case inr =>
    have e := e_163 L xs [1] (xs (i + 1)) (xs (i + 2)) mem
    simp (disch := omega) only [↓Bool.cond_eq_ite, ↓reduceIte, Bool.false_eq_true, eq_self, n_lit, n_neg, n_add, n_mul, n_sub, n_subM, n_div, n_mod, n_addM, m_div, m_subn, n_tN, n_inS, n_eq_t, n_eq_f, n_ne_t, n_ne_f, n_lt_t, n_lt_f, n_ge_t, n_ge_f, n_gt_t, n_gt_f, n_le_t, n_le_f, mn_eq, mn_ne, mn_lt, mn_ge, mn_gt, mn_le, nm_eq, nm_ne, nm_lt, nm_ge, nm_gt, nm_le, n_gts_t, c_eq_refl, c_ne_refl, w_fold, wC_fold, lt_M, cond_true, cond_false, Bool.and_true, Bool.true_and, Bool.and_false, Bool.false_and, Bool.not_true, Bool.not_false, isZS_0, isZS_1, cN, cT, cC, cW, cB, cG, cP, S0, S1, S2, S3, S4, S5, w_at, List.cons.injEq, reduceCtorEq, and_false, false_and, and_true, true_and, if_false, if_true, hu, hv] at e
    have k := kI_of e
    refine ⟨wI mem [1] 0 (oN 0), hm, ?_, hr, by omega, by omega, Nat.le_succ _⟩
    unfold lw
    rw [h_256_23]
    simp (disch := omega) only [↓Bool.cond_eq_ite, ↓reduceIte, Bool.false_eq_true, eq_self, n_lit, n_neg, n_add, n_mul, n_sub, n_subM, n_div, n_mod, n_addM, m_div, m_subn, n_tN, n_inS, n_eq_t, n_eq_f, n_ne_t, n_ne_f, n_lt_t, n_lt_f, n_ge_t, n_ge_f, n_gt_t, n_gt_f, n_le_t, n_le_f, mn_eq, mn_ne, mn_lt, mn_ge, mn_gt, mn_le, nm_eq, nm_ne, nm_lt, nm_ge, nm_gt, nm_le, n_gts_t, c_eq_refl, c_ne_refl, w_fold, wC_fold, lt_M, cond_true, cond_false, Bool.and_true, Bool.true_and, Bool.and_false, Bool.false_and, Bool.not_true, Bool.not_false, isZS_0, isZS_1, oNL, ht, cN, cT, cC, cW, cB, cG, cP, S0, S1, S2, S3, S4, S5, w_at, List.cons.injEq, reduceCtorEq, and_false, false_and, and_true, true_and, if_false, if_true, hu, hv, k, c_eq_refl, c_ne_refl, Option.bind_some]
  by_cases q2 : v < nc
  case neg =>
    have e := e_163 L xs [1] (xs (i + 1)) (xs (i + 2)) mem
    simp (disch := omega) only [↓Bool.cond_eq_ite, ↓reduceIte, Bool.false_eq_true, eq_self, n_lit, n_neg, n_add, n_mul, n_sub, n_subM, n_div, n_mod, n_addM, m_div, m_subn, n_tN, n_inS, n_eq_t, n_eq_f, n_ne_t, n_ne_f, n_lt_t, n_lt_f, n_ge_t, n_ge_f, n_gt_t, n_gt_f, n_le_t, n_le_f, mn_eq, mn_ne, mn_lt, mn_ge, mn_gt, mn_le, nm_eq, nm_ne, nm_lt, nm_ge, nm_gt, nm_le, n_gts_t, c_eq_refl, c_ne_refl, w_fold, wC_fold, lt_M, cond_true, cond_false, Bool.and_true, Bool.true_and, Bool.and_false, Bool.false_and, Bool.not_true, Bool.not_false, isZS_0, isZS_1, cN, cT, cC, cW, cB, cG, cP, S0, S1, S2, S3, S4, S5, w_at, List.cons.injEq, reduceCtorEq, and_false, false_and, and_true, true_and, if_false, if_true, hu, hv] at e
    have k := kI_of e
    refine ⟨wI mem [1] 0 (oN 0), hm, ?_, hr, by omega, by omega, Nat.le_succ _⟩
    unfold lw
    rw [h_256_23]
    simp (disch := omega) only [↓Bool.cond_eq_ite, ↓reduceIte, Bool.false_eq_true, eq_self, n_lit, n_neg, n_add, n_mul, n_sub, n_subM, n_div, n_mod, n_addM, m_div, m_subn, n_tN, n_inS, n_eq_t, n_eq_f, n_ne_t, n_ne_f, n_lt_t, n_lt_f, n_ge_t, n_ge_f, n_gt_t, n_gt_f, n_le_t, n_le_f, mn_eq, mn_ne, mn_lt, mn_ge, mn_gt, mn_le, nm_eq, nm_ne, nm_lt, nm_ge, nm_gt, nm_le, n_gts_t, c_eq_refl, c_ne_refl, w_fold, wC_fold, lt_M, cond_true, cond_false, Bool.and_true, Bool.true_and, Bool.and_false, Bool.false_and, Bool.not_true, Bool.not_false, isZS_0, isZS_1, oNL, ht, cN, cT, cC, cW, cB, cG, cP, S0, S1, S2, S3, S4, S5, w_at, List.cons.injEq, reduceCtorEq, and_false, false_and, and_true, true_and, if_false, if_true, hu, hv, k, c_eq_refl, c_ne_refl, Option.bind_some]
  obtain ⟨d0, C', M0, -, a2, -, -, -, -, -, -, a9, -⟩ := dist_ok (M := wI mem [1] 0 (oN 0)) q1 q2 (rIx_ag (agC_refl _) (agM_w0 (by decide) (by decide)) hx)
  have f1 := kV_frame und_4 a2 (okS_cons (okR (und_a [6, 0])) (okS_i (by simp)))
  have hx1 : rIx L xs mem (wI C' [1] 0 (oN 0)) nc nw nb np nt now hm kd wa wb wd wl ws := rIx_ag (agC_refl _) (agM_w0 (by decide) (by decide)) (rIx_ag (agC_refl _) (agM_frm f1) hx)
  obtain ⟨d, C2, M', b1, b2, b3, b4, b5, b6, -, b8, b9, b10⟩ := dist_ok (M := wI C' [1] 0 (oN 0)) q1 q2 hx1
  rw [a2] at b2
  cases b2
  have S0' : C'.1 [1, 1] 0 = oN nc := by rw [(f1 [1, 1] (nund (by simp) (by simp))).1]; exact S0
  have e := e_163 L xs [1] (oN u) (oN v) C'
  have x1 := kV_x (by decide) a2
  have x2 := kV_x (by decide) b4
  have x3 : (wI C' [1] 0 (oN 0)).2.2 = C'.2.2 := rfl
  by_cases hd : d < 1000000
  · simp (disch := omega) only [↓Bool.cond_eq_ite, ↓reduceIte, Bool.false_eq_true, eq_self, n_lit, n_neg, n_add, n_mul, n_sub, n_subM, n_div, n_mod, n_addM, m_div, m_subn, n_tN, n_inS, n_eq_t, n_eq_f, n_ne_t, n_ne_f, n_lt_t, n_lt_f, n_ge_t, n_ge_f, n_gt_t, n_gt_f, n_le_t, n_le_f, mn_eq, mn_ne, mn_lt, mn_ge, mn_gt, mn_le, nm_eq, nm_ne, nm_lt, nm_ge, nm_gt, nm_le, n_gts_t, c_eq_refl, c_ne_refl, w_fold, wC_fold, lt_M, cond_true, cond_false, Bool.and_true, Bool.true_and, Bool.and_false, Bool.false_and, Bool.not_true, Bool.not_false, isZS_0, isZS_1, S0', w_at, List.cons.injEq, reduceCtorEq, and_false, false_and, and_true, true_and, if_false, if_true, b4, b5, Option.bind_some] at e
    have k := kI_of e
    refine ⟨M', hm, ?_, ri_mm (rIx_I b6) (kI_frame und_4 k (okS_10 (by simp))), by omega, by omega, by omega⟩
    unfold lw
    rw [h_256_23]
    simp (disch := omega) only [↓Bool.cond_eq_ite, ↓reduceIte, Bool.false_eq_true, eq_self, n_lit, n_neg, n_add, n_mul, n_sub, n_subM, n_div, n_mod, n_addM, m_div, m_subn, n_tN, n_inS, n_eq_t, n_eq_f, n_ne_t, n_ne_f, n_lt_t, n_lt_f, n_ge_t, n_ge_f, n_gt_t, n_gt_f, n_le_t, n_le_f, mn_eq, mn_ne, mn_lt, mn_ge, mn_gt, mn_le, nm_eq, nm_ne, nm_lt, nm_ge, nm_gt, nm_le, n_gts_t, c_eq_refl, c_ne_refl, w_fold, wC_fold, lt_M, cond_true, cond_false, Bool.and_true, Bool.true_and, Bool.and_false, Bool.false_and, Bool.not_true, Bool.not_false, isZS_0, isZS_1, oNL, ht, cN, cT, cC, cW, cB, cG, cP, S0, S1, S2, S3, S4, S5, w_at, List.cons.injEq, reduceCtorEq, and_false, false_and, and_true, true_and, if_false, if_true, hu, hv, a2, b3, k, c_eq_refl, c_ne_refl, Option.bind_some]
  · have hd : d = 1000000 := by omega
    subst hd
    simp (disch := omega) only [↓Bool.cond_eq_ite, ↓reduceIte, Bool.false_eq_true, eq_self, n_lit, n_neg, n_add, n_mul, n_sub, n_subM, n_div, n_mod, n_addM, m_div, m_subn, n_tN, n_inS, n_eq_t, n_eq_f, n_ne_t, n_ne_f, n_lt_t, n_lt_f, n_ge_t, n_ge_f, n_gt_t, n_gt_f, n_le_t, n_le_f, mn_eq, mn_ne, mn_lt, mn_ge, mn_gt, mn_le, nm_eq, nm_ne, nm_lt, nm_ge, nm_gt, nm_le, n_gts_t, c_eq_refl, c_ne_refl, w_fold, wC_fold, lt_M, cond_true, cond_false, Bool.and_true, Bool.true_and, Bool.and_false, Bool.false_and, Bool.not_true, Bool.not_false, isZS_0, isZS_1, S0', w_at, List.cons.injEq, reduceCtorEq, and_false, false_and, and_true, true_and, if_false, if_true, b4, b5, Option.bind_some] at e
    have k := kI_of e
    refine ⟨M', hm, ?_, ri_mm (rIx_I b6) (kI_frame und_4 k (okS_10 (by simp))), by omega, by omega, by omega⟩
    unfold lw
    rw [h_256_23]
    simp (disch := omega) only [↓Bool.cond_eq_ite, ↓reduceIte, Bool.false_eq_true, eq_self, n_lit, n_neg, n_add, n_mul, n_sub, n_subM, n_div, n_mod, n_addM, m_div, m_subn, n_tN, n_inS, n_eq_t, n_eq_f, n_ne_t, n_ne_f, n_lt_t, n_lt_f, n_ge_t, n_ge_f, n_gt_t, n_gt_f, n_le_t, n_le_f, mn_eq, mn_ne, mn_lt, mn_ge, mn_gt, mn_le, nm_eq, nm_ne, nm_lt, nm_ge, nm_gt, nm_le, n_gts_t, c_eq_refl, c_ne_refl, w_fold, wC_fold, lt_M, cond_true, cond_false, Bool.and_true, Bool.true_and, Bool.and_false, Bool.false_and, Bool.not_true, Bool.not_false, isZS_0, isZS_1, oNL, ht, cN, cT, cC, cW, cB, cG, cP, S0, S1, S2, S3, S4, S5, w_at, List.cons.injEq, reduceCtorEq, and_false, false_and, and_true, true_and, if_false, if_true, hu, hv, a2, b3, k, c_eq_refl, c_ne_refl, Option.bind_some]

set_option maxRecDepth 100000 in
set_option maxHeartbeats 4000000 in
theorem lw_2 (hi : i + 6 ≤ L) (hL : L ≤ 3072) (ht : xs i &&& oN 63 = oN 2) (h : rI L xs mem mem hm) : stO L xs i hm mem := by
  have h0 := h
  obtain ⟨nc, nw, nb, np, nt, now, kd, wa, wb, wd, wl, ws, hx⟩ := h
  have hx' := hx
  obtain ⟨hP, hIm, hHi, hTx, hSh, hMi⟩ := hx'
  have hP' := hP
  obtain ⟨g1, g2, g3, g4, g5, g6, g7, g8, g9, g10⟩ := hP'
  obtain ⟨cN, cT, cC, cW, cB, cG, cP, S0, S1, S2, S3, S4, S5, b16, b24, b40, b8, b20, b4320⟩ := g1
  have hle := cntG_le kd nb
  have hr : rI L xs (wI mem [1] 0 (oN 0)) (wI mem [1] 0 (oN 0)) hm := rI_ag (agC_frm (frm_w (und_a []))) (agM_w0 (by decide) (by decide)) h0
  rcases I_cases (xs (i + 1)) with ⟨w, w1, hw⟩ | ⟨w, w0, w1, hw⟩
  case inr =>
    have e := e_223 L xs [1] (xs (i + 1)) (xs (i + 2)) mem
    simp (disch := omega) only [↓Bool.cond_eq_ite, ↓reduceIte, Bool.false_eq_true, eq_self, n_lit, n_neg, n_add, n_mul, n_sub, n_subM, n_div, n_mod, n_addM, m_div, m_subn, n_tN, n_inS, n_eq_t, n_eq_f, n_ne_t, n_ne_f, n_lt_t, n_lt_f, n_ge_t, n_ge_f, n_gt_t, n_gt_f, n_le_t, n_le_f, mn_eq, mn_ne, mn_lt, mn_ge, mn_gt, mn_le, nm_eq, nm_ne, nm_lt, nm_ge, nm_gt, nm_le, n_gts_t, c_eq_refl, c_ne_refl, w_fold, wC_fold, lt_M, cond_true, cond_false, Bool.and_true, Bool.true_and, Bool.and_false, Bool.false_and, Bool.not_true, Bool.not_false, isZS_0, isZS_1, cN, cT, cC, cW, cB, cG, cP, S0, S1, S2, S3, S4, S5, w_at, List.cons.injEq, reduceCtorEq, and_false, false_and, and_true, true_and, if_false, if_true, hw] at e
    have k := kI_of e
    refine ⟨wI mem [1] 0 (oN 0), hm, ?_, hr, by omega, by omega, Nat.le_succ _⟩
    unfold lw
    rw [h_256_23]
    simp (disch := omega) only [↓Bool.cond_eq_ite, ↓reduceIte, Bool.false_eq_true, eq_self, n_lit, n_neg, n_add, n_mul, n_sub, n_subM, n_div, n_mod, n_addM, m_div, m_subn, n_tN, n_inS, n_eq_t, n_eq_f, n_ne_t, n_ne_f, n_lt_t, n_lt_f, n_ge_t, n_ge_f, n_gt_t, n_gt_f, n_le_t, n_le_f, mn_eq, mn_ne, mn_lt, mn_ge, mn_gt, mn_le, nm_eq, nm_ne, nm_lt, nm_ge, nm_gt, nm_le, n_gts_t, c_eq_refl, c_ne_refl, w_fold, wC_fold, lt_M, cond_true, cond_false, Bool.and_true, Bool.true_and, Bool.and_false, Bool.false_and, Bool.not_true, Bool.not_false, isZS_0, isZS_1, oNL, ht, cN, cT, cC, cW, cB, cG, cP, S0, S1, S2, S3, S4, S5, w_at, List.cons.injEq, reduceCtorEq, and_false, false_and, and_true, true_and, if_false, if_true, hw, k, c_eq_refl, c_ne_refl, Option.bind_some]
  by_cases q1 : w < nw
  case neg =>
    have e := e_223 L xs [1] (xs (i + 1)) (xs (i + 2)) mem
    simp (disch := omega) only [↓Bool.cond_eq_ite, ↓reduceIte, Bool.false_eq_true, eq_self, n_lit, n_neg, n_add, n_mul, n_sub, n_subM, n_div, n_mod, n_addM, m_div, m_subn, n_tN, n_inS, n_eq_t, n_eq_f, n_ne_t, n_ne_f, n_lt_t, n_lt_f, n_ge_t, n_ge_f, n_gt_t, n_gt_f, n_le_t, n_le_f, mn_eq, mn_ne, mn_lt, mn_ge, mn_gt, mn_le, nm_eq, nm_ne, nm_lt, nm_ge, nm_gt, nm_le, n_gts_t, c_eq_refl, c_ne_refl, w_fold, wC_fold, lt_M, cond_true, cond_false, Bool.and_true, Bool.true_and, Bool.and_false, Bool.false_and, Bool.not_true, Bool.not_false, isZS_0, isZS_1, cN, cT, cC, cW, cB, cG, cP, S0, S1, S2, S3, S4, S5, w_at, List.cons.injEq, reduceCtorEq, and_false, false_and, and_true, true_and, if_false, if_true, hw] at e
    have k := kI_of e
    refine ⟨wI mem [1] 0 (oN 0), hm, ?_, hr, by omega, by omega, Nat.le_succ _⟩
    unfold lw
    rw [h_256_23]
    simp (disch := omega) only [↓Bool.cond_eq_ite, ↓reduceIte, Bool.false_eq_true, eq_self, n_lit, n_neg, n_add, n_mul, n_sub, n_subM, n_div, n_mod, n_addM, m_div, m_subn, n_tN, n_inS, n_eq_t, n_eq_f, n_ne_t, n_ne_f, n_lt_t, n_lt_f, n_ge_t, n_ge_f, n_gt_t, n_gt_f, n_le_t, n_le_f, mn_eq, mn_ne, mn_lt, mn_ge, mn_gt, mn_le, nm_eq, nm_ne, nm_lt, nm_ge, nm_gt, nm_le, n_gts_t, c_eq_refl, c_ne_refl, w_fold, wC_fold, lt_M, cond_true, cond_false, Bool.and_true, Bool.true_and, Bool.and_false, Bool.false_and, Bool.not_true, Bool.not_false, isZS_0, isZS_1, oNL, ht, cN, cT, cC, cW, cB, cG, cP, S0, S1, S2, S3, S4, S5, w_at, List.cons.injEq, reduceCtorEq, and_false, false_and, and_true, true_and, if_false, if_true, hw, k, c_eq_refl, c_ne_refl, Option.bind_some]
  rcases I_cases (xs (i + 2)) with ⟨s, s1, hs⟩ | ⟨s, s0, s1, hs⟩
  case inr =>
    have e := e_223 L xs [1] (xs (i + 1)) (xs (i + 2)) mem
    simp (disch := omega) only [↓Bool.cond_eq_ite, ↓reduceIte, Bool.false_eq_true, eq_self, n_lit, n_neg, n_add, n_mul, n_sub, n_subM, n_div, n_mod, n_addM, m_div, m_subn, n_tN, n_inS, n_eq_t, n_eq_f, n_ne_t, n_ne_f, n_lt_t, n_lt_f, n_ge_t, n_ge_f, n_gt_t, n_gt_f, n_le_t, n_le_f, mn_eq, mn_ne, mn_lt, mn_ge, mn_gt, mn_le, nm_eq, nm_ne, nm_lt, nm_ge, nm_gt, nm_le, n_gts_t, c_eq_refl, c_ne_refl, w_fold, wC_fold, lt_M, cond_true, cond_false, Bool.and_true, Bool.true_and, Bool.and_false, Bool.false_and, Bool.not_true, Bool.not_false, isZS_0, isZS_1, cN, cT, cC, cW, cB, cG, cP, S0, S1, S2, S3, S4, S5, w_at, List.cons.injEq, reduceCtorEq, and_false, false_and, and_true, true_and, if_false, if_true, hw, hs] at e
    have k := kI_of e
    refine ⟨wI mem [1] 0 (oN 0), hm, ?_, hr, by omega, by omega, Nat.le_succ _⟩
    unfold lw
    rw [h_256_23]
    simp (disch := omega) only [↓Bool.cond_eq_ite, ↓reduceIte, Bool.false_eq_true, eq_self, n_lit, n_neg, n_add, n_mul, n_sub, n_subM, n_div, n_mod, n_addM, m_div, m_subn, n_tN, n_inS, n_eq_t, n_eq_f, n_ne_t, n_ne_f, n_lt_t, n_lt_f, n_ge_t, n_ge_f, n_gt_t, n_gt_f, n_le_t, n_le_f, mn_eq, mn_ne, mn_lt, mn_ge, mn_gt, mn_le, nm_eq, nm_ne, nm_lt, nm_ge, nm_gt, nm_le, n_gts_t, c_eq_refl, c_ne_refl, w_fold, wC_fold, lt_M, cond_true, cond_false, Bool.and_true, Bool.true_and, Bool.and_false, Bool.false_and, Bool.not_true, Bool.not_false, isZS_0, isZS_1, oNL, ht, cN, cT, cC, cW, cB, cG, cP, S0, S1, S2, S3, S4, S5, w_at, List.cons.injEq, reduceCtorEq, and_false, false_and, and_true, true_and, if_false, if_true, hw, hs, k, c_eq_refl, c_ne_refl, Option.bind_some]
  by_cases q2 : s ≤ 3
  case neg =>
    have e := e_223 L xs [1] (xs (i + 1)) (xs (i + 2)) mem
    simp (disch := omega) only [↓Bool.cond_eq_ite, ↓reduceIte, Bool.false_eq_true, eq_self, n_lit, n_neg, n_add, n_mul, n_sub, n_subM, n_div, n_mod, n_addM, m_div, m_subn, n_tN, n_inS, n_eq_t, n_eq_f, n_ne_t, n_ne_f, n_lt_t, n_lt_f, n_ge_t, n_ge_f, n_gt_t, n_gt_f, n_le_t, n_le_f, mn_eq, mn_ne, mn_lt, mn_ge, mn_gt, mn_le, nm_eq, nm_ne, nm_lt, nm_ge, nm_gt, nm_le, n_gts_t, c_eq_refl, c_ne_refl, w_fold, wC_fold, lt_M, cond_true, cond_false, Bool.and_true, Bool.true_and, Bool.and_false, Bool.false_and, Bool.not_true, Bool.not_false, isZS_0, isZS_1, cN, cT, cC, cW, cB, cG, cP, S0, S1, S2, S3, S4, S5, w_at, List.cons.injEq, reduceCtorEq, and_false, false_and, and_true, true_and, if_false, if_true, hw, hs] at e
    have k := kI_of e
    refine ⟨wI mem [1] 0 (oN 0), hm, ?_, hr, by omega, by omega, Nat.le_succ _⟩
    unfold lw
    rw [h_256_23]
    simp (disch := omega) only [↓Bool.cond_eq_ite, ↓reduceIte, Bool.false_eq_true, eq_self, n_lit, n_neg, n_add, n_mul, n_sub, n_subM, n_div, n_mod, n_addM, m_div, m_subn, n_tN, n_inS, n_eq_t, n_eq_f, n_ne_t, n_ne_f, n_lt_t, n_lt_f, n_ge_t, n_ge_f, n_gt_t, n_gt_f, n_le_t, n_le_f, mn_eq, mn_ne, mn_lt, mn_ge, mn_gt, mn_le, nm_eq, nm_ne, nm_lt, nm_ge, nm_gt, nm_le, n_gts_t, c_eq_refl, c_ne_refl, w_fold, wC_fold, lt_M, cond_true, cond_false, Bool.and_true, Bool.true_and, Bool.and_false, Bool.false_and, Bool.not_true, Bool.not_false, isZS_0, isZS_1, oNL, ht, cN, cT, cC, cW, cB, cG, cP, S0, S1, S2, S3, S4, S5, w_at, List.cons.injEq, reduceCtorEq, and_false, false_and, and_true, true_and, if_false, if_true, hw, hs, k, c_eq_refl, c_ne_refl, Option.bind_some]
  obtain ⟨wa1, wb1, wne, wd1, wd60, wl1, wl30, ws3, ca, ma, cb, mb, cd, md, cl, ml, cs, hS2⟩ := g3 w q1
  by_cases hsw : s = ws w
  · obtain ⟨Z, hZ⟩ : ∃ Z, Z = wI mem [5, 6, 0, 0] w (oN s) := ⟨_, rfl⟩
    have fz : frm [[0], [4]] mem Z := by rw [hZ]; exact frm_w (und_a [5, 6, 0])
    have hx1 : rIx L xs mem (wI Z [1] 0 (oN 0)) nc nw nb np nt now hm kd wa wb wd wl ws := rIx_ag (agC_refl _) (agM_w0 (by decide) (by decide)) (rIx_ag (agC_refl _) (agM_frm fz) hx)
    have hS' : Z.1 [1, 1] 1 = oN nw := by rw [(fz [1, 1] (nund (by simp) (by simp))).1]; exact S1
    have hS2' : Z.1 [1, 1] (30 + w) = oN (ws w) := by rw [(fz [1, 1] (nund (by simp) (by simp))).1]; exact hS2
    have e := e_223 L xs [1] (oN w) (oN s) Z
    simp (disch := omega) only [↓Bool.cond_eq_ite, ↓reduceIte, Bool.false_eq_true, eq_self, n_lit, n_neg, n_add, n_mul, n_sub, n_subM, n_div, n_mod, n_addM, m_div, m_subn, n_tN, n_inS, n_eq_t, n_eq_f, n_ne_t, n_ne_f, n_lt_t, n_lt_f, n_ge_t, n_ge_f, n_gt_t, n_gt_f, n_le_t, n_le_f, mn_eq, mn_ne, mn_lt, mn_ge, mn_gt, mn_le, nm_eq, nm_ne, nm_lt, nm_ge, nm_gt, nm_le, n_gts_t, c_eq_refl, c_ne_refl, w_fold, wC_fold, lt_M, cond_true, cond_false, Bool.and_true, Bool.true_and, Bool.and_false, Bool.false_and, Bool.not_true, Bool.not_false, isZS_0, isZS_1, w_at, List.cons.injEq, reduceCtorEq, and_false, false_and, and_true, true_and, if_false, if_true, hS', hS2'] at e
    have k := kI_of e
    have hf := sign_ok (C' := Z) hx1 q1 q2 (fun q h1 h2 => by rw [hZ, w_ne h1]) (by rw [hZ, w_at, if_pos ⟨rfl, rfl⟩]) (fun j hj => by rw [hZ, w_ne_k hj]) (fun j hj => by rw [hZ, w_ne (by simp)]) (.inr ⟨by rw [hZ, w_ne (by simp)], hsw.symm⟩) (by rw [hZ]; rfl)
    refine ⟨_, hm, ?_, ri_mm hf (kI_frame und_4 k (okS_10 (by simp))), by omega, by omega, by show Z.2.2 ≤ _; rw [hZ]; exact Nat.le_succ _⟩
    rw [← hsw] at cs k
    unfold lw
    rw [h_256_23]
    simp (disch := omega) only [↓Bool.cond_eq_ite, ↓reduceIte, Bool.false_eq_true, eq_self, n_lit, n_neg, n_add, n_mul, n_sub, n_subM, n_div, n_mod, n_addM, m_div, m_subn, n_tN, n_inS, n_eq_t, n_eq_f, n_ne_t, n_ne_f, n_lt_t, n_lt_f, n_ge_t, n_ge_f, n_gt_t, n_gt_f, n_le_t, n_le_f, mn_eq, mn_ne, mn_lt, mn_ge, mn_gt, mn_le, nm_eq, nm_ne, nm_lt, nm_ge, nm_gt, nm_le, n_gts_t, c_eq_refl, c_ne_refl, w_fold, wC_fold, lt_M, cond_true, cond_false, Bool.and_true, Bool.true_and, Bool.and_false, Bool.false_and, Bool.not_true, Bool.not_false, isZS_0, isZS_1, oNL, ht, cN, cT, cC, cW, cB, cG, cP, S0, S1, S2, S3, S4, S5, w_at, List.cons.injEq, reduceCtorEq, and_false, false_and, and_true, true_and, if_false, if_true, hw, hs, cs, ← hZ, k, c_eq_refl, c_ne_refl, Option.bind_some]
  · obtain ⟨Z, hZ⟩ : ∃ Z, Z = wI (wI mem [5, 6, 0, 0] w (oN s)) [6, 0, 0] 11 (oN 0) := ⟨_, rfl⟩
    have fz : frm [[0], [4]] mem Z := by rw [hZ]; exact frm_trans (frm_w (und_a [5, 6, 0])) (frm_w (und_a [6, 0]))
    have hx1 : rIx L xs mem (wI Z [1] 0 (oN 0)) nc nw nb np nt now hm kd wa wb wd wl ws := rIx_ag (agC_refl _) (agM_w0 (by decide) (by decide)) (rIx_ag (agC_refl _) (agM_frm fz) hx)
    have hS' : Z.1 [1, 1] 1 = oN nw := by rw [(fz [1, 1] (nund (by simp) (by simp))).1]; exact S1
    have hS2' : Z.1 [1, 1] (30 + w) = oN (ws w) := by rw [(fz [1, 1] (nund (by simp) (by simp))).1]; exact hS2
    have e := e_223 L xs [1] (oN w) (oN s) Z
    simp (disch := omega) only [↓Bool.cond_eq_ite, ↓reduceIte, Bool.false_eq_true, eq_self, n_lit, n_neg, n_add, n_mul, n_sub, n_subM, n_div, n_mod, n_addM, m_div, m_subn, n_tN, n_inS, n_eq_t, n_eq_f, n_ne_t, n_ne_f, n_lt_t, n_lt_f, n_ge_t, n_ge_f, n_gt_t, n_gt_f, n_le_t, n_le_f, mn_eq, mn_ne, mn_lt, mn_ge, mn_gt, mn_le, nm_eq, nm_ne, nm_lt, nm_ge, nm_gt, nm_le, n_gts_t, c_eq_refl, c_ne_refl, w_fold, wC_fold, lt_M, cond_true, cond_false, Bool.and_true, Bool.true_and, Bool.and_false, Bool.false_and, Bool.not_true, Bool.not_false, isZS_0, isZS_1, w_at, List.cons.injEq, reduceCtorEq, and_false, false_and, and_true, true_and, if_false, if_true, hS', hS2'] at e
    have k := kI_of e
    have hf := sign_ok (C' := Z) hx1 q1 q2 (fun q h1 h2 => by rw [hZ, w_ne h2, w_ne h1]) (by rw [hZ, w_ne (by simp), w_at, if_pos ⟨rfl, rfl⟩]) (fun j hj => by rw [hZ, w_ne (by simp), w_ne_k hj]) (fun j hj => by rw [hZ, w_ne_k hj, w_ne (by simp)]) (.inl (by rw [hZ, w_at, if_pos ⟨rfl, rfl⟩])) (by rw [hZ]; rfl)
    refine ⟨_, hm, ?_, ri_mm hf (kI_frame und_4 k (okS_10 (by simp))), by omega, by omega, by show Z.2.2 ≤ _; rw [hZ]; exact Nat.le_succ _⟩
    unfold lw
    rw [h_256_23]
    simp (disch := omega) only [↓Bool.cond_eq_ite, ↓reduceIte, Bool.false_eq_true, eq_self, n_lit, n_neg, n_add, n_mul, n_sub, n_subM, n_div, n_mod, n_addM, m_div, m_subn, n_tN, n_inS, n_eq_t, n_eq_f, n_ne_t, n_ne_f, n_lt_t, n_lt_f, n_ge_t, n_ge_f, n_gt_t, n_gt_f, n_le_t, n_le_f, mn_eq, mn_ne, mn_lt, mn_ge, mn_gt, mn_le, nm_eq, nm_ne, nm_lt, nm_ge, nm_gt, nm_le, n_gts_t, c_eq_refl, c_ne_refl, w_fold, wC_fold, lt_M, cond_true, cond_false, Bool.and_true, Bool.true_and, Bool.and_false, Bool.false_and, Bool.not_true, Bool.not_false, isZS_0, isZS_1, oNL, ht, cN, cT, cC, cW, cB, cG, cP, S0, S1, S2, S3, S4, S5, w_at, List.cons.injEq, reduceCtorEq, and_false, false_and, and_true, true_and, if_false, if_true, hw, hs, cs, ← hZ, k, c_eq_refl, c_ne_refl, Option.bind_some]

set_option maxRecDepth 100000 in
set_option maxHeartbeats 4000000 in
theorem lw_12 (hi : i + 6 ≤ L) (hL : L ≤ 3072) (ht : xs i &&& oN 63 = oN 12) (h : rI L xs mem mem hm) : stO L xs i hm mem := by
  have h0 := h
  obtain ⟨nc, nw, nb, np, nt, now, kd, wa, wb, wd, wl, ws, hx⟩ := h
  have hx' := hx
  obtain ⟨hP, hIm, hHi, hTx, hSh, hMi⟩ := hx'
  have hP' := hP
  obtain ⟨g1, g2, g3, g4, g5, g6, g7, g8, g9, g10⟩ := hP'
  obtain ⟨cN, cT, cC, cW, cB, cG, cP, S0, S1, S2, S3, S4, S5, b16, b24, b40, b8, b20, b4320⟩ := g1
  have hle := cntG_le kd nb
  have hr : rI L xs (wI mem [1] 0 (oN 0)) (wI mem [1] 0 (oN 0)) hm := rI_ag (agC_frm (frm_w (und_a []))) (agM_w0 (by decide) (by decide)) h0
  have h1142 : ((11 : Nat) = 1) = False := eq_false (by decide)
  rcases I_cases (xs (i + 1)) with ⟨u, u1, hu⟩ | ⟨u, u0, u1, hu⟩
  case inr =>
    refine ⟨wI mem [1] 0 (oN 0), hm, ?_, hr, by omega, by omega, Nat.le_succ _⟩
    unfold lw
    rw [h_256_23]
    simp (disch := omega) only [↓Bool.cond_eq_ite, ↓reduceIte, Bool.false_eq_true, eq_self, n_lit, n_neg, n_add, n_mul, n_sub, n_subM, n_div, n_mod, n_addM, m_div, m_subn, n_tN, n_inS, n_eq_t, n_eq_f, n_ne_t, n_ne_f, n_lt_t, n_lt_f, n_ge_t, n_ge_f, n_gt_t, n_gt_f, n_le_t, n_le_f, mn_eq, mn_ne, mn_lt, mn_ge, mn_gt, mn_le, nm_eq, nm_ne, nm_lt, nm_ge, nm_gt, nm_le, n_gts_t, c_eq_refl, c_ne_refl, w_fold, wC_fold, lt_M, cond_true, cond_false, Bool.and_true, Bool.true_and, Bool.and_false, Bool.false_and, Bool.not_true, Bool.not_false, isZS_0, isZS_1, oNL, ht, cN, cT, cC, cW, cB, cG, cP, S0, S1, S2, S3, S4, S5, w_at, List.cons.injEq, reduceCtorEq, and_false, false_and, and_true, true_and, if_false, if_true, h1142, hu, c_eq_refl, c_ne_refl, Option.bind_some]
  by_cases q1 : u < nb
  case neg =>
    refine ⟨wI mem [1] 0 (oN 0), hm, ?_, hr, by omega, by omega, Nat.le_succ _⟩
    unfold lw
    rw [h_256_23]
    simp (disch := omega) only [↓Bool.cond_eq_ite, ↓reduceIte, Bool.false_eq_true, eq_self, n_lit, n_neg, n_add, n_mul, n_sub, n_subM, n_div, n_mod, n_addM, m_div, m_subn, n_tN, n_inS, n_eq_t, n_eq_f, n_ne_t, n_ne_f, n_lt_t, n_lt_f, n_ge_t, n_ge_f, n_gt_t, n_gt_f, n_le_t, n_le_f, mn_eq, mn_ne, mn_lt, mn_ge, mn_gt, mn_le, nm_eq, nm_ne, nm_lt, nm_ge, nm_gt, nm_le, n_gts_t, c_eq_refl, c_ne_refl, w_fold, wC_fold, lt_M, cond_true, cond_false, Bool.and_true, Bool.true_and, Bool.and_false, Bool.false_and, Bool.not_true, Bool.not_false, isZS_0, isZS_1, oNL, ht, cN, cT, cC, cW, cB, cG, cP, S0, S1, S2, S3, S4, S5, w_at, List.cons.injEq, reduceCtorEq, and_false, false_and, and_true, true_and, if_false, if_true, h1142, hu, c_eq_refl, c_ne_refl, Option.bind_some]
  obtain ⟨k1, k2, k3⟩ : mem.1 [u, 10, 0, 0] 1 = oN (kd u) ∧ mem.1 [11, 1] u = oN (kd u) ∧ kd u ≤ 5 := by
    obtain ⟨⟨a, -, b, c, -⟩, -⟩ := g7 u (by omega)
    exact ⟨b, c, a⟩
  by_cases q2 : kd u = 0
  case neg =>
    refine ⟨wI mem [1] 0 (oN 0), hm, ?_, hr, by omega, by omega, Nat.le_succ _⟩
    unfold lw
    rw [h_256_23]
    simp (disch := omega) only [↓Bool.cond_eq_ite, ↓reduceIte, Bool.false_eq_true, eq_self, n_lit, n_neg, n_add, n_mul, n_sub, n_subM, n_div, n_mod, n_addM, m_div, m_subn, n_tN, n_inS, n_eq_t, n_eq_f, n_ne_t, n_ne_f, n_lt_t, n_lt_f, n_ge_t, n_ge_f, n_gt_t, n_gt_f, n_le_t, n_le_f, mn_eq, mn_ne, mn_lt, mn_ge, mn_gt, mn_le, nm_eq, nm_ne, nm_lt, nm_ge, nm_gt, nm_le, n_gts_t, c_eq_refl, c_ne_refl, w_fold, wC_fold, lt_M, cond_true, cond_false, Bool.and_true, Bool.true_and, Bool.and_false, Bool.false_and, Bool.not_true, Bool.not_false, isZS_0, isZS_1, oNL, ht, cN, cT, cC, cW, cB, cG, cP, S0, S1, S2, S3, S4, S5, w_at, List.cons.injEq, reduceCtorEq, and_false, false_and, and_true, true_and, if_false, if_true, h1142, hu, k1, k2, c_eq_refl, c_ne_refl, Option.bind_some]
  rw [q2] at k1 k2
  obtain ⟨n, n8, n1, n2, n3⟩ := (g7 u (by omega)).2.2.2.2
  obtain ⟨Z, hZ⟩ : ∃ Z, Z = wI mem [18, u, 10, 0, 0] 0 (oN 0) := ⟨_, rfl⟩
  have fz : frm [[0], [4]] mem Z := by rw [hZ]; exact frm_w (und_a [18, u, 10, 0])
  have hx1 : rIx L xs mem (wI Z [1] 0 (oN 0)) nc nw nb np nt now hm kd wa wb wd wl ws := rIx_ag (agC_refl _) (agM_w0 (by decide) (by decide)) (rIx_ag (agC_refl _) (agM_frm fz) hx)
  have hf := unaim_ok (u := u) hx1 q1
  rw [← hZ] at hf
  have z11 : Z.1 [1, 1] = mem.1 [1, 1] := (fz [1, 1] (nund (by simp) (by simp))).1
  have z2 : Z.1 [1, 1] 2 = oN nb := by rw [z11]; exact S2
  have z3 : Z.1 [1, 1] (200 + 16 * u + 12) = oN n := by rw [z11]; exact n2
  have z4 : Z.1 [11, 1] u = oN 0 := by rw [(fz [11, 1] (nund (by simp) (by simp))).1]; exact k2
  refine ⟨wI (wI Z [1] 0 (oN 0)) [1, 1] (200 + 16 * u + 12) (oN 0), hm, ?_, ri_mm hf (frm_trans (frm_w (und_a [])) (frm_w (und_a [1]))), by omega, by omega, by show Z.2.2 ≤ _; rw [hZ]; exact Nat.le_succ _⟩
  unfold lw
  rw [h_256_23]
  simp (disch := omega) only [↓Bool.cond_eq_ite, ↓reduceIte, Bool.false_eq_true, eq_self, n_lit, n_neg, n_add, n_mul, n_sub, n_subM, n_div, n_mod, n_addM, m_div, m_subn, n_tN, n_inS, n_eq_t, n_eq_f, n_ne_t, n_ne_f, n_lt_t, n_lt_f, n_ge_t, n_ge_f, n_gt_t, n_gt_f, n_le_t, n_le_f, mn_eq, mn_ne, mn_lt, mn_ge, mn_gt, mn_le, nm_eq, nm_ne, nm_lt, nm_ge, nm_gt, nm_le, n_gts_t, c_eq_refl, c_ne_refl, w_fold, wC_fold, lt_M, cond_true, cond_false, Bool.and_true, Bool.true_and, Bool.and_false, Bool.false_and, Bool.not_true, Bool.not_false, isZS_0, isZS_1, oNL, ht, cN, cT, cC, cW, cB, cG, cP, S0, S1, S2, S3, S4, S5, w_at, List.cons.injEq, reduceCtorEq, and_false, false_and, and_true, true_and, if_false, if_true, h1142, hu, k1, k2, n1, ← hZ, z2, z3, z4, c_eq_refl, c_ne_refl, Option.bind_some]

set_option maxRecDepth 100000 in
set_option maxHeartbeats 4000000 in
theorem lw_33 (hi : i + 6 ≤ L) (hL : L ≤ 3072) (ht : xs i &&& oN 63 = oN 33) (hhm : hm ≤ 1000) (h : rI L xs mem mem hm) : stO L xs i hm mem := by
  have h0 := h
  obtain ⟨nc, nw, nb, np, nt, now, kd, wa, wb, wd, wl, ws, hx⟩ := h
  have hx' := hx
  obtain ⟨hP, hIm, hHi, hTx, hSh, hMi⟩ := hx'
  have hP' := hP
  obtain ⟨g1, g2, g3, g4, g5, g6, g7, g8, g9, g10⟩ := hP'
  obtain ⟨cN, cT, cC, cW, cB, cG, cP, S0, S1, S2, S3, S4, S5, b16, b24, b40, b8, b20, b4320⟩ := g1
  have hle := cntG_le kd nb
  have hr : rI L xs (wI mem [1] 0 (oN 0)) (wI mem [1] 0 (oN 0)) hm := rI_ag (agC_frm (frm_w (und_a []))) (agM_w0 (by decide) (by decide)) h0
  rcases I_cases (xs (i + 1)) with ⟨k, k1, hk⟩ | ⟨k, k0, k1, hk⟩
  case inr =>
    refine ⟨wI mem [1] 0 (oN 0), hm, ?_, hr, by omega, by omega, Nat.le_succ _⟩
    unfold lw
    rw [h_256_23]
    simp (disch := omega) only [↓Bool.cond_eq_ite, ↓reduceIte, Bool.false_eq_true, eq_self, n_lit, n_neg, n_add, n_mul, n_sub, n_subM, n_div, n_mod, n_addM, m_div, m_subn, n_tN, n_inS, n_eq_t, n_eq_f, n_ne_t, n_ne_f, n_lt_t, n_lt_f, n_ge_t, n_ge_f, n_gt_t, n_gt_f, n_le_t, n_le_f, mn_eq, mn_ne, mn_lt, mn_ge, mn_gt, mn_le, nm_eq, nm_ne, nm_lt, nm_ge, nm_gt, nm_le, n_gts_t, c_eq_refl, c_ne_refl, w_fold, wC_fold, lt_M, cond_true, cond_false, Bool.and_true, Bool.true_and, Bool.and_false, Bool.false_and, Bool.not_true, Bool.not_false, isZS_0, isZS_1, oNL, ht, cN, cT, cC, cW, cB, cG, cP, S0, S1, S2, S3, S4, S5, w_at, List.cons.injEq, reduceCtorEq, and_false, false_and, and_true, true_and, if_false, if_true, hk, c_eq_refl, c_ne_refl, Option.bind_some]
  by_cases q1 : 1 ≤ k
  case neg =>
    refine ⟨wI mem [1] 0 (oN 0), hm, ?_, hr, by omega, by omega, Nat.le_succ _⟩
    unfold lw
    rw [h_256_23]
    simp (disch := omega) only [↓Bool.cond_eq_ite, ↓reduceIte, Bool.false_eq_true, eq_self, n_lit, n_neg, n_add, n_mul, n_sub, n_subM, n_div, n_mod, n_addM, m_div, m_subn, n_tN, n_inS, n_eq_t, n_eq_f, n_ne_t, n_ne_f, n_lt_t, n_lt_f, n_ge_t, n_ge_f, n_gt_t, n_gt_f, n_le_t, n_le_f, mn_eq, mn_ne, mn_lt, mn_ge, mn_gt, mn_le, nm_eq, nm_ne, nm_lt, nm_ge, nm_gt, nm_le, n_gts_t, c_eq_refl, c_ne_refl, w_fold, wC_fold, lt_M, cond_true, cond_false, Bool.and_true, Bool.true_and, Bool.and_false, Bool.false_and, Bool.not_true, Bool.not_false, isZS_0, isZS_1, oNL, ht, cN, cT, cC, cW, cB, cG, cP, S0, S1, S2, S3, S4, S5, w_at, List.cons.injEq, reduceCtorEq, and_false, false_and, and_true, true_and, if_false, if_true, hk, c_eq_refl, c_ne_refl, Option.bind_some]
  by_cases q2 : k ≤ 5
  case neg =>
    refine ⟨wI mem [1] 0 (oN 0), hm, ?_, hr, by omega, by omega, Nat.le_succ _⟩
    unfold lw
    rw [h_256_23]
    simp (disch := omega) only [↓Bool.cond_eq_ite, ↓reduceIte, Bool.false_eq_true, eq_self, n_lit, n_neg, n_add, n_mul, n_sub, n_subM, n_div, n_mod, n_addM, m_div, m_subn, n_tN, n_inS, n_eq_t, n_eq_f, n_ne_t, n_ne_f, n_lt_t, n_lt_f, n_ge_t, n_ge_f, n_gt_t, n_gt_f, n_le_t, n_le_f, mn_eq, mn_ne, mn_lt, mn_ge, mn_gt, mn_le, nm_eq, nm_ne, nm_lt, nm_ge, nm_gt, nm_le, n_gts_t, c_eq_refl, c_ne_refl, w_fold, wC_fold, lt_M, cond_true, cond_false, Bool.and_true, Bool.true_and, Bool.and_false, Bool.false_and, Bool.not_true, Bool.not_false, isZS_0, isZS_1, oNL, ht, cN, cT, cC, cW, cB, cG, cP, S0, S1, S2, S3, S4, S5, w_at, List.cons.injEq, reduceCtorEq, and_false, false_and, and_true, true_and, if_false, if_true, hk, c_eq_refl, c_ne_refl, Option.bind_some]
  have k176 := s_176 (L := L) (xs := xs) (rP_mK (rIx_ag (agC_refl mem) (agM_w0 (M := mem) (k := 0) (v := oN 0) (by decide) (by decide)) hx).1)
  by_cases q3 : k ≤ cntG kd nb
  case neg =>
    refine ⟨wI mem [1] 0 (oN 0), hm, ?_, hr, by omega, by omega, Nat.le_succ _⟩
    unfold lw
    rw [h_256_23]
    simp (disch := omega) only [↓Bool.cond_eq_ite, ↓reduceIte, Bool.false_eq_true, eq_self, n_lit, n_neg, n_add, n_mul, n_sub, n_subM, n_div, n_mod, n_addM, m_div, m_subn, n_tN, n_inS, n_eq_t, n_eq_f, n_ne_t, n_ne_f, n_lt_t, n_lt_f, n_ge_t, n_ge_f, n_gt_t, n_gt_f, n_le_t, n_le_f, mn_eq, mn_ne, mn_lt, mn_ge, mn_gt, mn_le, nm_eq, nm_ne, nm_lt, nm_ge, nm_gt, nm_le, n_gts_t, c_eq_refl, c_ne_refl, w_fold, wC_fold, lt_M, cond_true, cond_false, Bool.and_true, Bool.true_and, Bool.and_false, Bool.false_and, Bool.not_true, Bool.not_false, isZS_0, isZS_1, oNL, ht, cN, cT, cC, cW, cB, cG, cP, S0, S1, S2, S3, S4, S5, w_at, List.cons.injEq, reduceCtorEq, and_false, false_and, and_true, true_and, if_false, if_true, hk, k176, c_eq_refl, c_ne_refl, Option.bind_some]
  rcases I_cases (xs (i + 2)) with ⟨g, g1, hg⟩ | ⟨g, g0, g1, hg⟩
  case inr =>
    refine ⟨wI mem [1] 0 (oN 0), hm, ?_, hr, by omega, by omega, Nat.le_succ _⟩
    unfold lw
    rw [h_256_23]
    simp (disch := omega) only [↓Bool.cond_eq_ite, ↓reduceIte, Bool.false_eq_true, eq_self, n_lit, n_neg, n_add, n_mul, n_sub, n_subM, n_div, n_mod, n_addM, m_div, m_subn, n_tN, n_inS, n_eq_t, n_eq_f, n_ne_t, n_ne_f, n_lt_t, n_lt_f, n_ge_t, n_ge_f, n_gt_t, n_gt_f, n_le_t, n_le_f, mn_eq, mn_ne, mn_lt, mn_ge, mn_gt, mn_le, nm_eq, nm_ne, nm_lt, nm_ge, nm_gt, nm_le, n_gts_t, c_eq_refl, c_ne_refl, w_fold, wC_fold, lt_M, cond_true, cond_false, Bool.and_true, Bool.true_and, Bool.and_false, Bool.false_and, Bool.not_true, Bool.not_false, isZS_0, isZS_1, oNL, ht, cN, cT, cC, cW, cB, cG, cP, S0, S1, S2, S3, S4, S5, w_at, List.cons.injEq, reduceCtorEq, and_false, false_and, and_true, true_and, if_false, if_true, hk, k176, hg, c_eq_refl, c_ne_refl, Option.bind_some]
  by_cases q4 : 1 ≤ g
  case neg =>
    refine ⟨wI mem [1] 0 (oN 0), hm, ?_, hr, by omega, by omega, Nat.le_succ _⟩
    unfold lw
    rw [h_256_23]
    simp (disch := omega) only [↓Bool.cond_eq_ite, ↓reduceIte, Bool.false_eq_true, eq_self, n_lit, n_neg, n_add, n_mul, n_sub, n_subM, n_div, n_mod, n_addM, m_div, m_subn, n_tN, n_inS, n_eq_t, n_eq_f, n_ne_t, n_ne_f, n_lt_t, n_lt_f, n_ge_t, n_ge_f, n_gt_t, n_gt_f, n_le_t, n_le_f, mn_eq, mn_ne, mn_lt, mn_ge, mn_gt, mn_le, nm_eq, nm_ne, nm_lt, nm_ge, nm_gt, nm_le, n_gts_t, c_eq_refl, c_ne_refl, w_fold, wC_fold, lt_M, cond_true, cond_false, Bool.and_true, Bool.true_and, Bool.and_false, Bool.false_and, Bool.not_true, Bool.not_false, isZS_0, isZS_1, oNL, ht, cN, cT, cC, cW, cB, cG, cP, S0, S1, S2, S3, S4, S5, w_at, List.cons.injEq, reduceCtorEq, and_false, false_and, and_true, true_and, if_false, if_true, hk, k176, hg, c_eq_refl, c_ne_refl, Option.bind_some]
  by_cases q5 : g ≤ 2000
  case neg =>
    refine ⟨wI mem [1] 0 (oN 0), hm, ?_, hr, by omega, by omega, Nat.le_succ _⟩
    unfold lw
    rw [h_256_23]
    simp (disch := omega) only [↓Bool.cond_eq_ite, ↓reduceIte, Bool.false_eq_true, eq_self, n_lit, n_neg, n_add, n_mul, n_sub, n_subM, n_div, n_mod, n_addM, m_div, m_subn, n_tN, n_inS, n_eq_t, n_eq_f, n_ne_t, n_ne_f, n_lt_t, n_lt_f, n_ge_t, n_ge_f, n_gt_t, n_gt_f, n_le_t, n_le_f, mn_eq, mn_ne, mn_lt, mn_ge, mn_gt, mn_le, nm_eq, nm_ne, nm_lt, nm_ge, nm_gt, nm_le, n_gts_t, c_eq_refl, c_ne_refl, w_fold, wC_fold, lt_M, cond_true, cond_false, Bool.and_true, Bool.true_and, Bool.and_false, Bool.false_and, Bool.not_true, Bool.not_false, isZS_0, isZS_1, oNL, ht, cN, cT, cC, cW, cB, cG, cP, S0, S1, S2, S3, S4, S5, w_at, List.cons.injEq, reduceCtorEq, and_false, false_and, and_true, true_and, if_false, if_true, hk, k176, hg, c_eq_refl, c_ne_refl, Option.bind_some]
  have hx0 : rIx L xs mem (wI mem [1] 0 (oN 0)) nc nw nb np nt now hm kd wa wb wd wl ws := rIx_ag (agC_refl _) (agM_w0 (by decide) (by decide)) hx
  obtain ⟨hh0, gb0, hI0⟩ := hd_of hhm hx0.1
  obtain ⟨C1, C', M0, a1, a2, a3, -, -, a6⟩ := rnd_ok (L := L) (xs := xs) hI0 (rP_mK hx0.1) b40 q2 q3 q5
  have k42 : ∃ v, kI L xs 42 [vr 3 [8, 0]] C1 = some (v, C') := by
    rcases a6 with ⟨y, -⟩ | ⟨t, -, y, -⟩
    · exact ⟨_, y⟩
    · exact ⟨_, y⟩
  obtain ⟨v, k42⟩ := k42
  have f1 : frm [[0], [4]] mem C' := frm_trans (kV_frame und_4 a1 (okS_cons (okR (und_a [8])) (okS_cons (okR (und_a [0])) (okS_i (by simp))))) (kI_frame und_4 k42 (okS_cons (okR (und_a [8])) okS_nil))
  have hx1 : rIx L xs mem (wI C' [1] 0 (oN 0)) nc nw nb np nt now hm kd wa wb wd wl ws := rIx_ag (agC_refl _) (agM_w0 (by decide) (by decide)) (rIx_ag (agC_refl _) (agM_frm f1) hx)
  obtain ⟨hh, gb, hI⟩ := hd_of hhm hx1.1
  obtain ⟨C2, C3, M', b1, b2, b3, b4, b5, b6⟩ := rnd_ok (L := L) (xs := xs) hI (rP_mK hx1.1) b40 q2 q3 q5
  rw [a1] at b1
  cases b1
  have k176' := s_176 (L := L) (xs := xs) (rP_mK hx1.1)
  have x1 := kV_x (by decide) a1
  have x2 := kI_x (by decide) k42
  have x3 : (wI C' [1] 0 (oN 0)).2.2 = C'.2.2 := rfl
  have x4 : M'.2.2 = C'.2.2 := by rw [b5]; rfl
  rcases b6 with ⟨y1, y2⟩ | ⟨t, t5, y1, y2, y3⟩
  · rw [k42] at y1
    cases y1
    have hf := rIx_I (rIx_ag (agC_r b2 b3) (agM_r b4 b5) hx1)
    refine ⟨M', hm, ?_, ri_mm hf (frm_trans (frm_w (und_a [])) (kI_frame und_4 y2 (okS_10 (by simp)))), by omega, by omega, by omega⟩
    unfold lw
    rw [h_256_23]
    simp (disch := omega) only [↓Bool.cond_eq_ite, ↓reduceIte, Bool.false_eq_true, eq_self, n_lit, n_neg, n_add, n_mul, n_sub, n_subM, n_div, n_mod, n_addM, m_div, m_subn, n_tN, n_inS, n_eq_t, n_eq_f, n_ne_t, n_ne_f, n_lt_t, n_lt_f, n_ge_t, n_ge_f, n_gt_t, n_gt_f, n_le_t, n_le_f, mn_eq, mn_ne, mn_lt, mn_ge, mn_gt, mn_le, nm_eq, nm_ne, nm_lt, nm_ge, nm_gt, nm_le, n_gts_t, c_eq_refl, c_ne_refl, w_fold, wC_fold, lt_M, cond_true, cond_false, Bool.and_true, Bool.true_and, Bool.and_false, Bool.false_and, Bool.not_true, Bool.not_false, isZS_0, isZS_1, oNL, ht, cN, cT, cC, cW, cB, cG, cP, S0, S1, S2, S3, S4, S5, w_at, List.cons.injEq, reduceCtorEq, and_false, false_and, and_true, true_and, if_false, if_true, hk, k176, hg, k176', a1, k42, y2, c_eq_refl, c_ne_refl, Option.bind_some]
  · rw [k42] at y1
    cases y1
    have hf := rIx_I (rIx_ag (agC_r b2 b3) (agM_r b4 b5) hx1)
    refine ⟨M', hm, ?_, ri_mm hf (frm_trans (frm_w (und_a [])) (kI_frame und_4 y2 (okS_10 (by simp)))), by omega, by omega, by omega⟩
    unfold lw
    rw [h_256_23]
    simp (disch := omega) only [↓Bool.cond_eq_ite, ↓reduceIte, Bool.false_eq_true, eq_self, n_lit, n_neg, n_add, n_mul, n_sub, n_subM, n_div, n_mod, n_addM, m_div, m_subn, n_tN, n_inS, n_eq_t, n_eq_f, n_ne_t, n_ne_f, n_lt_t, n_lt_f, n_ge_t, n_ge_f, n_gt_t, n_gt_f, n_le_t, n_le_f, mn_eq, mn_ne, mn_lt, mn_ge, mn_gt, mn_le, nm_eq, nm_ne, nm_lt, nm_ge, nm_gt, nm_le, n_gts_t, c_eq_refl, c_ne_refl, w_fold, wC_fold, lt_M, cond_true, cond_false, Bool.and_true, Bool.true_and, Bool.and_false, Bool.false_and, Bool.not_true, Bool.not_false, isZS_0, isZS_1, oNL, ht, cN, cT, cC, cW, cB, cG, cP, S0, S1, S2, S3, S4, S5, w_at, List.cons.injEq, reduceCtorEq, and_false, false_and, and_true, true_and, if_false, if_true, hk, k176, hg, k176', a1, k42, y2, c_eq_refl, c_ne_refl, Option.bind_some]

end Law5
