section Ops8
variable {L : Nat} {xs : Nat → Int32} {C M : mM} {hm : Nat}
set_option maxRecDepth 8000 in
set_option maxHeartbeats 4000000 in
theorem op_row {a1 a2 a3 : Int32} (h : rI L xs C M hm) : opR L xs 127 220 [vi a1, vi a2, vi a3] C M hm := by
  have e := e_127 L xs [0] a1 a2 a3 C
  have f := e_220 L xs [1] a1 a2 a3 M
  have h1 : rI L xs C (wI M [1] 0 (0 : Int32)) hm := rI_ag (agC_refl _) (agM_w0 (by decide) (by decide)) h
  simp only [lt_M, w_fold] at f
  generalize wI M [1] 0 (0 : Int32) = M1 at f h1
  have h0 := h1
  obtain ⟨nc, nw, nb, np, nt, now, kd, wa, wb, wd, wl, ws, hP, hIm, hHi, hTx, hSh, hMi⟩ := h1
  have hP' := hP
  obtain ⟨g1, g2, g3, g4, g5, g6, g7, g8, g9, g10⟩ := hP'
  have hsc := g1
  obtain ⟨cN, cT, cC, cW, cB, cG, cP, S0, S1, S2, S3, S4, S5, b16, b24, b40, b8, b20, b4320⟩ := hsc
  have hle := cntG_le kd nb
  rcases I_cases a1 with ⟨d, d1, rfl⟩ | ⟨d, d0, d1, rfl⟩
  case inr =>
    simp (disch := omega) only [↓Bool.cond_eq_ite, ↓reduceIte, Bool.false_eq_true, eq_self, n_lit, n_neg, n_add, n_mul, n_sub, n_subM, n_div, n_mod, n_addM, m_div, m_subn, n_tN, n_inS, n_eq_t, n_eq_f, n_ne_t, n_ne_f, n_lt_t, n_lt_f, n_ge_t, n_ge_f, n_gt_t, n_gt_f, n_le_t, n_le_f, mn_eq, mn_ne, mn_lt, mn_ge, mn_gt, mn_le, nm_eq, nm_ne, nm_lt, nm_ge, nm_gt, nm_le, n_gts_t, c_eq_refl, c_ne_refl, w_fold, w_2, wC_fold, lt_M, cond_true, cond_false, Bool.and_true, Bool.true_and, Bool.and_false, Bool.false_and, Bool.not_true, Bool.not_false, isZS_0, isZS_1, ↓reduceIte, w_at, w_2, wC_at, wC_2, List.cons.injEq, reduceCtorEq, and_false, false_and, and_true, true_and, if_true, if_false, eq_self, and_self, if_pos, if_neg, Nat.add_zero, cN, cT, cC, cW, cB, cG, cP, S0, S1, S2, S3, S4, S5] at e f
    exact ⟨_, _, _, kI_of e, kI_of f, h0⟩
  by_cases q1 : d ≤ 7
  case neg =>
    simp (disch := omega) only [↓Bool.cond_eq_ite, ↓reduceIte, Bool.false_eq_true, eq_self, n_lit, n_neg, n_add, n_mul, n_sub, n_subM, n_div, n_mod, n_addM, m_div, m_subn, n_tN, n_inS, n_eq_t, n_eq_f, n_ne_t, n_ne_f, n_lt_t, n_lt_f, n_ge_t, n_ge_f, n_gt_t, n_gt_f, n_le_t, n_le_f, mn_eq, mn_ne, mn_lt, mn_ge, mn_gt, mn_le, nm_eq, nm_ne, nm_lt, nm_ge, nm_gt, nm_le, n_gts_t, c_eq_refl, c_ne_refl, w_fold, w_2, wC_fold, lt_M, cond_true, cond_false, Bool.and_true, Bool.true_and, Bool.and_false, Bool.false_and, Bool.not_true, Bool.not_false, isZS_0, isZS_1, ↓reduceIte, w_at, w_2, wC_at, wC_2, List.cons.injEq, reduceCtorEq, and_false, false_and, and_true, true_and, if_true, if_false, eq_self, and_self, if_pos, if_neg, Nat.add_zero, cN, cT, cC, cW, cB, cG, cP, S0, S1, S2, S3, S4, S5] at e f
    exact ⟨_, _, _, kI_of e, kI_of f, h0⟩
  rcases I_cases a2 with ⟨s, s1, rfl⟩ | ⟨s, s0, s1, rfl⟩
  case inr =>
    simp (disch := omega) only [↓Bool.cond_eq_ite, ↓reduceIte, Bool.false_eq_true, eq_self, n_lit, n_neg, n_add, n_mul, n_sub, n_subM, n_div, n_mod, n_addM, m_div, m_subn, n_tN, n_inS, n_eq_t, n_eq_f, n_ne_t, n_ne_f, n_lt_t, n_lt_f, n_ge_t, n_ge_f, n_gt_t, n_gt_f, n_le_t, n_le_f, mn_eq, mn_ne, mn_lt, mn_ge, mn_gt, mn_le, nm_eq, nm_ne, nm_lt, nm_ge, nm_gt, nm_le, n_gts_t, c_eq_refl, c_ne_refl, w_fold, w_2, wC_fold, lt_M, cond_true, cond_false, Bool.and_true, Bool.true_and, Bool.and_false, Bool.false_and, Bool.not_true, Bool.not_false, isZS_0, isZS_1, ↓reduceIte, w_at, w_2, wC_at, wC_2, List.cons.injEq, reduceCtorEq, and_false, false_and, and_true, true_and, if_true, if_false, eq_self, and_self, if_pos, if_neg, Nat.add_zero, cN, cT, cC, cW, cB, cG, cP, S0, S1, S2, S3, S4, S5] at e f
    exact ⟨_, _, _, kI_of e, kI_of f, h0⟩
  by_cases q2 : s ≤ 2
  case neg =>
    simp (disch := omega) only [↓Bool.cond_eq_ite, ↓reduceIte, Bool.false_eq_true, eq_self, n_lit, n_neg, n_add, n_mul, n_sub, n_subM, n_div, n_mod, n_addM, m_div, m_subn, n_tN, n_inS, n_eq_t, n_eq_f, n_ne_t, n_ne_f, n_lt_t, n_lt_f, n_ge_t, n_ge_f, n_gt_t, n_gt_f, n_le_t, n_le_f, mn_eq, mn_ne, mn_lt, mn_ge, mn_gt, mn_le, nm_eq, nm_ne, nm_lt, nm_ge, nm_gt, nm_le, n_gts_t, c_eq_refl, c_ne_refl, w_fold, w_2, wC_fold, lt_M, cond_true, cond_false, Bool.and_true, Bool.true_and, Bool.and_false, Bool.false_and, Bool.not_true, Bool.not_false, isZS_0, isZS_1, ↓reduceIte, w_at, w_2, wC_at, wC_2, List.cons.injEq, reduceCtorEq, and_false, false_and, and_true, true_and, if_true, if_false, eq_self, and_self, if_pos, if_neg, Nat.add_zero, cN, cT, cC, cW, cB, cG, cP, S0, S1, S2, S3, S4, S5] at e f
    exact ⟨_, _, _, kI_of e, kI_of f, h0⟩
  rcases I_cases a3 with ⟨n, n1, rfl⟩ | ⟨n, n0, n1, rfl⟩
  case inr =>
    simp (disch := omega) only [↓Bool.cond_eq_ite, ↓reduceIte, Bool.false_eq_true, eq_self, n_lit, n_neg, n_add, n_mul, n_sub, n_subM, n_div, n_mod, n_addM, m_div, m_subn, n_tN, n_inS, n_eq_t, n_eq_f, n_ne_t, n_ne_f, n_lt_t, n_lt_f, n_ge_t, n_ge_f, n_gt_t, n_gt_f, n_le_t, n_le_f, mn_eq, mn_ne, mn_lt, mn_ge, mn_gt, mn_le, nm_eq, nm_ne, nm_lt, nm_ge, nm_gt, nm_le, n_gts_t, c_eq_refl, c_ne_refl, w_fold, w_2, wC_fold, lt_M, cond_true, cond_false, Bool.and_true, Bool.true_and, Bool.and_false, Bool.false_and, Bool.not_true, Bool.not_false, isZS_0, isZS_1, ↓reduceIte, w_at, w_2, wC_at, wC_2, List.cons.injEq, reduceCtorEq, and_false, false_and, and_true, true_and, if_true, if_false, eq_self, and_self, if_pos, if_neg, Nat.add_zero, cN, cT, cC, cW, cB, cG, cP, S0, S1, S2, S3, S4, S5] at e f
    exact ⟨_, _, _, kI_of e, kI_of f, h0⟩
  by_cases q3 : n ≤ 80
  case neg =>
    simp (disch := omega) only [↓Bool.cond_eq_ite, ↓reduceIte, Bool.false_eq_true, eq_self, n_lit, n_neg, n_add, n_mul, n_sub, n_subM, n_div, n_mod, n_addM, m_div, m_subn, n_tN, n_inS, n_eq_t, n_eq_f, n_ne_t, n_ne_f, n_lt_t, n_lt_f, n_ge_t, n_ge_f, n_gt_t, n_gt_f, n_le_t, n_le_f, mn_eq, mn_ne, mn_lt, mn_ge, mn_gt, mn_le, nm_eq, nm_ne, nm_lt, nm_ge, nm_gt, nm_le, n_gts_t, c_eq_refl, c_ne_refl, w_fold, w_2, wC_fold, lt_M, cond_true, cond_false, Bool.and_true, Bool.true_and, Bool.and_false, Bool.false_and, Bool.not_true, Bool.not_false, isZS_0, isZS_1, ↓reduceIte, w_at, w_2, wC_at, wC_2, List.cons.injEq, reduceCtorEq, and_false, false_and, and_true, true_and, if_true, if_false, eq_self, and_self, if_pos, if_neg, Nat.add_zero, cN, cT, cC, cW, cB, cG, cP, S0, S1, S2, S3, S4, S5] at e f
    exact ⟨_, _, _, kI_of e, kI_of f, h0⟩
  have e46 := e_46 L xs [d, 6, 0] (oN s) (oN n) C
  simp (disch := omega) only [↓Bool.cond_eq_ite, ↓reduceIte, Bool.false_eq_true, eq_self, n_lit, n_neg, n_add, n_mul, n_sub, n_subM, n_div, n_mod, n_addM, m_div, m_subn, n_tN, n_inS, n_eq_t, n_eq_f, n_ne_t, n_ne_f, n_lt_t, n_lt_f, n_ge_t, n_ge_f, n_gt_t, n_gt_f, n_le_t, n_le_f, mn_eq, mn_ne, mn_lt, mn_ge, mn_gt, mn_le, nm_eq, nm_ne, nm_lt, nm_ge, nm_gt, nm_le, n_gts_t, c_eq_refl, c_ne_refl, w_fold, w_2, wC_fold, lt_M, cond_true, cond_false, Bool.and_true, Bool.true_and, Bool.and_false, Bool.false_and, Bool.not_true, Bool.not_false, isZS_0, isZS_1] at e46
  obtain ⟨C', hc1, hc2, hc3, hc4⟩ := row_ok (L := L) (xs := xs) (d := d) (oN n) q3 rfl n 0 (wI (wI (wI C [d, 6, 0] 0 (oN 2)) [d, 6, 0] 2 (oN s)) [d, 6, 0] 3 (oN n)) (by omega)
  rw [hc1] at e46
  obtain ⟨M', hm1, hm2, hm5, hm3, hm4⟩ := rowM_ok (L := L) (xs := xs) (d := d) (by omega) 80 0 (wI (wI (wI M1 [52, 1] d (oN 2)) [55, 1] d (oN s)) [56, 1] d (oN n)) (by omega)
  simp (disch := omega) only [↓Bool.cond_eq_ite, ↓reduceIte, Bool.false_eq_true, eq_self, n_lit, n_neg, n_add, n_mul, n_sub, n_subM, n_div, n_mod, n_addM, m_div, m_subn, n_tN, n_inS, n_eq_t, n_eq_f, n_ne_t, n_ne_f, n_lt_t, n_lt_f, n_ge_t, n_ge_f, n_gt_t, n_gt_f, n_le_t, n_le_f, mn_eq, mn_ne, mn_lt, mn_ge, mn_gt, mn_le, nm_eq, nm_ne, nm_lt, nm_ge, nm_gt, nm_le, n_gts_t, c_eq_refl, c_ne_refl, w_fold, w_2, wC_fold, lt_M, cond_true, cond_false, Bool.and_true, Bool.true_and, Bool.and_false, Bool.false_and, Bool.not_true, Bool.not_false, isZS_0, isZS_1, ↓reduceIte, w_at, w_2, wC_at, wC_2, List.cons.injEq, reduceCtorEq, and_false, false_and, and_true, true_and, if_true, if_false, eq_self, and_self, if_pos, if_neg, Nat.add_zero, cN, cT, cC, cW, cB, cG, cP, S0, S1, S2, S3, S4, S5, kV_of e46, Option.bind_some, hm1] at e f
  refine ⟨_, _, _, kI_of e, kI_of f, rI_shelf (d := d) (by omega) ?_ ?_ ?_ ?_ ?_ h0 (by rw [hc2]; rfl)⟩
  · intro q hq
    have zq0 : q ≠ [d, 6, 0] := sh_ne (u := []) hq
    have zq1 : q ≠ [1, d, 6, 0] := sh_ne (u := [1]) hq
    have zq4 : q ≠ [4, d, 6, 0] := sh_ne (u := [4]) hq
    have zq18 : q ≠ [18, 1, d, 6, 0] := sh_ne (u := [18, 1]) hq
    have zq118 : q ≠ [1, 18, 1, d, 6, 0] := sh_ne (u := [1, 18, 1]) hq
    have zq218 : q ≠ [2, 18, 1, d, 6, 0] := sh_ne (u := [2, 18, 1]) hq
    rw [hc3 q zq4]
    repeat (first | rfl | rw [w_ne zq0] | rw [w_ne zq4] | rw [wC_ne zq4] | rw [w_ne zq1])
  · intro q m1 m2 m3 m4 m5
    rw [hm2]
    repeat (first | rfl | rw [wL_1] | rw [w_ne m1] | rw [w_ne m2] | rw [w_ne m3] | rw [w_ne m4] | rw [w_ne m5])
  · intro k j hk1 hk2 hj
    have hk : k = 52 ∨ k = 53 ∨ k = 54 ∨ k = 55 ∨ k = 56 := by omega
    rcases hk with rfl | rfl | rfl | rfl | rfl <;> simp (disch := omega) only [hm2, ↓reduceIte, wL_1, w_at, List.cons.injEq, reduceCtorEq, and_false, false_and, and_true, true_and, if_true, if_false, eq_self, and_self, if_neg]
  · intro j hj
    rw [hm4, if_neg (by omega)]
    rfl
  · have hs0 := hc3 [d, 6, 0] (by simp)
    refine .inr (.inr ⟨?_, ?_, s, n, q2, q3, ?_, ?_, ?_, ?_, ?_, ?_⟩)
    · rw [hs0]; simp (disch := omega) only [↓reduceIte, w_at, w_2, wC_at, wC_2, List.cons.injEq, reduceCtorEq, and_false, false_and, and_true, true_and, if_true, if_false, eq_self, and_self, if_pos, if_neg]
    · rw [hm2]; simp (disch := omega) only [↓reduceIte, w_at, w_2, wC_at, wC_2, List.cons.injEq, reduceCtorEq, and_false, false_and, and_true, true_and, if_true, if_false, eq_self, and_self, if_pos, if_neg]
    · rw [hs0]; simp (disch := omega) only [↓reduceIte, w_at, w_2, wC_at, wC_2, List.cons.injEq, reduceCtorEq, and_false, false_and, and_true, true_and, if_true, if_false, eq_self, and_self, if_pos, if_neg]
    · rw [hm2]; simp (disch := omega) only [↓reduceIte, w_at, w_2, wC_at, wC_2, List.cons.injEq, reduceCtorEq, and_false, false_and, and_true, true_and, if_true, if_false, eq_self, and_self, if_pos, if_neg]
    · rw [hs0]; simp (disch := omega) only [↓reduceIte, w_at, w_2, wC_at, wC_2, List.cons.injEq, reduceCtorEq, and_false, false_and, and_true, true_and, if_true, if_false, eq_self, and_self, if_pos, if_neg]
    · rw [hm2]; simp (disch := omega) only [↓reduceIte, w_at, w_2, wC_at, wC_2, List.cons.injEq, reduceCtorEq, and_false, false_and, and_true, true_and, if_true, if_false, eq_self, and_self, if_pos, if_neg]
    · intro i hi
      rw [hm4, hc4, if_pos (by omega), if_pos (by omega)]
      rfl
    · intro hs i hi
      rw [hc4, if_pos (by omega)]
      rfl
set_option maxRecDepth 8000 in
set_option maxHeartbeats 4000000 in
theorem op_put {a1 a2 a3 : Int32} (h : rI L xs C M hm) : opR L xs 121 209 [vi a1, vi a2, vi a3] C M hm := by
  have e := e_121 L xs [0] a1 a2 a3 C
  have f := e_209 L xs [1] a1 a2 a3 M
  have h1 : rI L xs C (wI M [1] 0 (0 : Int32)) hm := rI_ag (agC_refl _) (agM_w0 (by decide) (by decide)) h
  simp only [lt_M, w_fold] at f
  generalize wI M [1] 0 (0 : Int32) = M1 at f h1
  have h0 := h1
  obtain ⟨nc, nw, nb, np, nt, now, kd, wa, wb, wd, wl, ws, hP, hIm, hHi, hTx, hSh, hMi⟩ := h1
  have hP' := hP
  obtain ⟨g1, g2, g3, g4, g5, g6, g7, g8, g9, g10⟩ := hP'
  have hsc := g1
  obtain ⟨cN, cT, cC, cW, cB, cG, cP, S0, S1, S2, S3, S4, S5, b16, b24, b40, b8, b20, b4320⟩ := hsc
  have hle := cntG_le kd nb
  have e128 := e_128 L xs [0] a1 (oM 1) C
  have f252 := e_252 L xs [1] a1 M1
  have hv8 : ∀ v : Int32, (v.toInt8.toInt32).toInt8.toInt32 = v.toInt8.toInt32 := fun v => by simp
  rcases I_cases a1 with ⟨d, d1, rfl⟩ | ⟨d, d0, d1, rfl⟩
  case inr =>
    simp (disch := omega) only [↓Bool.cond_eq_ite, ↓reduceIte, Bool.false_eq_true, eq_self, n_lit, n_neg, n_add, n_mul, n_sub, n_subM, n_div, n_mod, n_addM, m_div, m_subn, n_tN, n_inS, n_eq_t, n_eq_f, n_ne_t, n_ne_f, n_lt_t, n_lt_f, n_ge_t, n_ge_f, n_gt_t, n_gt_f, n_le_t, n_le_f, mn_eq, mn_ne, mn_lt, mn_ge, mn_gt, mn_le, nm_eq, nm_ne, nm_lt, nm_ge, nm_gt, nm_le, n_gts_t, c_eq_refl, c_ne_refl, w_fold, w_2, wC_fold, lt_M, cond_true, cond_false, Bool.and_true, Bool.true_and, Bool.and_false, Bool.false_and, Bool.not_true, Bool.not_false, isZS_0, isZS_1, ↓reduceIte, w_at, w_2, wC_at, wC_2, List.cons.injEq, reduceCtorEq, and_false, false_and, and_true, true_and, if_true, if_false, eq_self, and_self, if_pos, if_neg, Nat.add_zero, cN, cT, cC, cW, cB, cG, cP, S0, S1, S2, S3, S4, S5] at e128 f252
    simp (disch := omega) only [↓Bool.cond_eq_ite, ↓reduceIte, Bool.false_eq_true, eq_self, n_lit, n_neg, n_add, n_mul, n_sub, n_subM, n_div, n_mod, n_addM, m_div, m_subn, n_tN, n_inS, n_eq_t, n_eq_f, n_ne_t, n_ne_f, n_lt_t, n_lt_f, n_ge_t, n_ge_f, n_gt_t, n_gt_f, n_le_t, n_le_f, mn_eq, mn_ne, mn_lt, mn_ge, mn_gt, mn_le, nm_eq, nm_ne, nm_lt, nm_ge, nm_gt, nm_le, n_gts_t, c_eq_refl, c_ne_refl, w_fold, w_2, wC_fold, lt_M, cond_true, cond_false, Bool.and_true, Bool.true_and, Bool.and_false, Bool.false_and, Bool.not_true, Bool.not_false, isZS_0, isZS_1, ↓reduceIte, w_at, w_2, wC_at, wC_2, List.cons.injEq, reduceCtorEq, and_false, false_and, and_true, true_and, if_true, if_false, eq_self, and_self, if_pos, if_neg, Nat.add_zero, cN, cT, cC, cW, cB, cG, cP, S0, S1, S2, S3, S4, S5, kI_of e128, kI_of f252, Option.bind_some] at e f
    exact ⟨_, _, _, kI_of e, kI_of f, h0⟩
  by_cases q1 : d ≤ 7
  case neg =>
    simp (disch := omega) only [↓Bool.cond_eq_ite, ↓reduceIte, Bool.false_eq_true, eq_self, n_lit, n_neg, n_add, n_mul, n_sub, n_subM, n_div, n_mod, n_addM, m_div, m_subn, n_tN, n_inS, n_eq_t, n_eq_f, n_ne_t, n_ne_f, n_lt_t, n_lt_f, n_ge_t, n_ge_f, n_gt_t, n_gt_f, n_le_t, n_le_f, mn_eq, mn_ne, mn_lt, mn_ge, mn_gt, mn_le, nm_eq, nm_ne, nm_lt, nm_ge, nm_gt, nm_le, n_gts_t, c_eq_refl, c_ne_refl, w_fold, w_2, wC_fold, lt_M, cond_true, cond_false, Bool.and_true, Bool.true_and, Bool.and_false, Bool.false_and, Bool.not_true, Bool.not_false, isZS_0, isZS_1, ↓reduceIte, w_at, w_2, wC_at, wC_2, List.cons.injEq, reduceCtorEq, and_false, false_and, and_true, true_and, if_true, if_false, eq_self, and_self, if_pos, if_neg, Nat.add_zero, cN, cT, cC, cW, cB, cG, cP, S0, S1, S2, S3, S4, S5] at e128 f252
    simp (disch := omega) only [↓Bool.cond_eq_ite, ↓reduceIte, Bool.false_eq_true, eq_self, n_lit, n_neg, n_add, n_mul, n_sub, n_subM, n_div, n_mod, n_addM, m_div, m_subn, n_tN, n_inS, n_eq_t, n_eq_f, n_ne_t, n_ne_f, n_lt_t, n_lt_f, n_ge_t, n_ge_f, n_gt_t, n_gt_f, n_le_t, n_le_f, mn_eq, mn_ne, mn_lt, mn_ge, mn_gt, mn_le, nm_eq, nm_ne, nm_lt, nm_ge, nm_gt, nm_le, n_gts_t, c_eq_refl, c_ne_refl, w_fold, w_2, wC_fold, lt_M, cond_true, cond_false, Bool.and_true, Bool.true_and, Bool.and_false, Bool.false_and, Bool.not_true, Bool.not_false, isZS_0, isZS_1, ↓reduceIte, w_at, w_2, wC_at, wC_2, List.cons.injEq, reduceCtorEq, and_false, false_and, and_true, true_and, if_true, if_false, eq_self, and_self, if_pos, if_neg, Nat.add_zero, cN, cT, cC, cW, cB, cG, cP, S0, S1, S2, S3, S4, S5, kI_of e128, kI_of f252, Option.bind_some] at e f
    exact ⟨_, _, _, kI_of e, kI_of f, h0⟩
  rcases hSh d (by omega) with ⟨s1, s2⟩ | ⟨s1, s2, -⟩ | ⟨s1, s2, s, n, n1, n2, n3, n4, n5, n6, n7, n8⟩
  · simp (disch := omega) only [↓Bool.cond_eq_ite, ↓reduceIte, Bool.false_eq_true, eq_self, n_lit, n_neg, n_add, n_mul, n_sub, n_subM, n_div, n_mod, n_addM, m_div, m_subn, n_tN, n_inS, n_eq_t, n_eq_f, n_ne_t, n_ne_f, n_lt_t, n_lt_f, n_ge_t, n_ge_f, n_gt_t, n_gt_f, n_le_t, n_le_f, mn_eq, mn_ne, mn_lt, mn_ge, mn_gt, mn_le, nm_eq, nm_ne, nm_lt, nm_ge, nm_gt, nm_le, n_gts_t, c_eq_refl, c_ne_refl, w_fold, w_2, wC_fold, lt_M, cond_true, cond_false, Bool.and_true, Bool.true_and, Bool.and_false, Bool.false_and, Bool.not_true, Bool.not_false, isZS_0, isZS_1, ↓reduceIte, w_at, w_2, wC_at, wC_2, List.cons.injEq, reduceCtorEq, and_false, false_and, and_true, true_and, if_true, if_false, eq_self, and_self, if_pos, if_neg, Nat.add_zero, cN, cT, cC, cW, cB, cG, cP, S0, S1, S2, S3, S4, S5, s1, s2] at e128 f252
    simp (disch := omega) only [↓Bool.cond_eq_ite, ↓reduceIte, Bool.false_eq_true, eq_self, n_lit, n_neg, n_add, n_mul, n_sub, n_subM, n_div, n_mod, n_addM, m_div, m_subn, n_tN, n_inS, n_eq_t, n_eq_f, n_ne_t, n_ne_f, n_lt_t, n_lt_f, n_ge_t, n_ge_f, n_gt_t, n_gt_f, n_le_t, n_le_f, mn_eq, mn_ne, mn_lt, mn_ge, mn_gt, mn_le, nm_eq, nm_ne, nm_lt, nm_ge, nm_gt, nm_le, n_gts_t, c_eq_refl, c_ne_refl, w_fold, w_2, wC_fold, lt_M, cond_true, cond_false, Bool.and_true, Bool.true_and, Bool.and_false, Bool.false_and, Bool.not_true, Bool.not_false, isZS_0, isZS_1, ↓reduceIte, w_at, w_2, wC_at, wC_2, List.cons.injEq, reduceCtorEq, and_false, false_and, and_true, true_and, if_true, if_false, eq_self, and_self, if_pos, if_neg, Nat.add_zero, cN, cT, cC, cW, cB, cG, cP, S0, S1, S2, S3, S4, S5, kI_of e128, kI_of f252, Option.bind_some] at e f
    exact ⟨_, _, _, kI_of e, kI_of f, h0⟩
  · simp (disch := omega) only [↓Bool.cond_eq_ite, ↓reduceIte, Bool.false_eq_true, eq_self, n_lit, n_neg, n_add, n_mul, n_sub, n_subM, n_div, n_mod, n_addM, m_div, m_subn, n_tN, n_inS, n_eq_t, n_eq_f, n_ne_t, n_ne_f, n_lt_t, n_lt_f, n_ge_t, n_ge_f, n_gt_t, n_gt_f, n_le_t, n_le_f, mn_eq, mn_ne, mn_lt, mn_ge, mn_gt, mn_le, nm_eq, nm_ne, nm_lt, nm_ge, nm_gt, nm_le, n_gts_t, c_eq_refl, c_ne_refl, w_fold, w_2, wC_fold, lt_M, cond_true, cond_false, Bool.and_true, Bool.true_and, Bool.and_false, Bool.false_and, Bool.not_true, Bool.not_false, isZS_0, isZS_1, ↓reduceIte, w_at, w_2, wC_at, wC_2, List.cons.injEq, reduceCtorEq, and_false, false_and, and_true, true_and, if_true, if_false, eq_self, and_self, if_pos, if_neg, Nat.add_zero, cN, cT, cC, cW, cB, cG, cP, S0, S1, S2, S3, S4, S5, s1, s2] at e128 f252
    simp (disch := omega) only [↓Bool.cond_eq_ite, ↓reduceIte, Bool.false_eq_true, eq_self, n_lit, n_neg, n_add, n_mul, n_sub, n_subM, n_div, n_mod, n_addM, m_div, m_subn, n_tN, n_inS, n_eq_t, n_eq_f, n_ne_t, n_ne_f, n_lt_t, n_lt_f, n_ge_t, n_ge_f, n_gt_t, n_gt_f, n_le_t, n_le_f, mn_eq, mn_ne, mn_lt, mn_ge, mn_gt, mn_le, nm_eq, nm_ne, nm_lt, nm_ge, nm_gt, nm_le, n_gts_t, c_eq_refl, c_ne_refl, w_fold, w_2, wC_fold, lt_M, cond_true, cond_false, Bool.and_true, Bool.true_and, Bool.and_false, Bool.false_and, Bool.not_true, Bool.not_false, isZS_0, isZS_1, ↓reduceIte, w_at, w_2, wC_at, wC_2, List.cons.injEq, reduceCtorEq, and_false, false_and, and_true, true_and, if_true, if_false, eq_self, and_self, if_pos, if_neg, Nat.add_zero, cN, cT, cC, cW, cB, cG, cP, S0, S1, S2, S3, S4, S5, kI_of e128, kI_of f252, Option.bind_some] at e f
    exact ⟨_, _, _, kI_of e, kI_of f, h0⟩
  have e128' := e128
  simp (disch := omega) only [↓Bool.cond_eq_ite, ↓reduceIte, Bool.false_eq_true, eq_self, n_lit, n_neg, n_add, n_mul, n_sub, n_subM, n_div, n_mod, n_addM, m_div, m_subn, n_tN, n_inS, n_eq_t, n_eq_f, n_ne_t, n_ne_f, n_lt_t, n_lt_f, n_ge_t, n_ge_f, n_gt_t, n_gt_f, n_le_t, n_le_f, mn_eq, mn_ne, mn_lt, mn_ge, mn_gt, mn_le, nm_eq, nm_ne, nm_lt, nm_ge, nm_gt, nm_le, n_gts_t, c_eq_refl, c_ne_refl, w_fold, w_2, wC_fold, lt_M, cond_true, cond_false, Bool.and_true, Bool.true_and, Bool.and_false, Bool.false_and, Bool.not_true, Bool.not_false, isZS_0, isZS_1, ↓reduceIte, w_at, w_2, wC_at, wC_2, List.cons.injEq, reduceCtorEq, and_false, false_and, and_true, true_and, if_true, if_false, eq_self, and_self, if_pos, if_neg, Nat.add_zero, cN, cT, cC, cW, cB, cG, cP, S0, S1, S2, S3, S4, S5, s1, s2, c_eq_refl] at e128 f252
  rcases I_cases a2 with ⟨i, i1, rfl⟩ | ⟨i, i0, i1, rfl⟩
  case inr =>
    simp (disch := omega) only [↓Bool.cond_eq_ite, ↓reduceIte, Bool.false_eq_true, eq_self, n_lit, n_neg, n_add, n_mul, n_sub, n_subM, n_div, n_mod, n_addM, m_div, m_subn, n_tN, n_inS, n_eq_t, n_eq_f, n_ne_t, n_ne_f, n_lt_t, n_lt_f, n_ge_t, n_ge_f, n_gt_t, n_gt_f, n_le_t, n_le_f, mn_eq, mn_ne, mn_lt, mn_ge, mn_gt, mn_le, nm_eq, nm_ne, nm_lt, nm_ge, nm_gt, nm_le, n_gts_t, c_eq_refl, c_ne_refl, w_fold, w_2, wC_fold, lt_M, cond_true, cond_false, Bool.and_true, Bool.true_and, Bool.and_false, Bool.false_and, Bool.not_true, Bool.not_false, isZS_0, isZS_1, ↓reduceIte, w_at, w_2, wC_at, wC_2, List.cons.injEq, reduceCtorEq, and_false, false_and, and_true, true_and, if_true, if_false, eq_self, and_self, if_pos, if_neg, Nat.add_zero, cN, cT, cC, cW, cB, cG, cP, S0, S1, S2, S3, S4, S5, kI_of e128, kI_of f252, Option.bind_some] at e f
    exact ⟨_, _, _, kI_of e, kI_of f, h0⟩
  by_cases hi : i < n
  case neg =>
    simp (disch := omega) only [↓Bool.cond_eq_ite, ↓reduceIte, Bool.false_eq_true, eq_self, n_lit, n_neg, n_add, n_mul, n_sub, n_subM, n_div, n_mod, n_addM, m_div, m_subn, n_tN, n_inS, n_eq_t, n_eq_f, n_ne_t, n_ne_f, n_lt_t, n_lt_f, n_ge_t, n_ge_f, n_gt_t, n_gt_f, n_le_t, n_le_f, mn_eq, mn_ne, mn_lt, mn_ge, mn_gt, mn_le, nm_eq, nm_ne, nm_lt, nm_ge, nm_gt, nm_le, n_gts_t, c_eq_refl, c_ne_refl, w_fold, w_2, wC_fold, lt_M, cond_true, cond_false, Bool.and_true, Bool.true_and, Bool.and_false, Bool.false_and, Bool.not_true, Bool.not_false, isZS_0, isZS_1, ↓reduceIte, w_at, w_2, wC_at, wC_2, List.cons.injEq, reduceCtorEq, and_false, false_and, and_true, true_and, if_true, if_false, eq_self, and_self, if_pos, if_neg, Nat.add_zero, cN, cT, cC, cW, cB, cG, cP, S0, S1, S2, S3, S4, S5, kI_of e128, kI_of f252, Option.bind_some, n5, n6] at e f
    exact ⟨_, _, _, kI_of e, kI_of f, h0⟩
  have e43 := e_43 L xs [d, 6, 0] (oN i) a3 C
  have hs : s = 0 ∨ s = 1 ∨ s = 2 := by omega
  rcases hs with rfl | rfl | rfl
  · simp (disch := omega) only [↓Bool.cond_eq_ite, ↓reduceIte, Bool.false_eq_true, eq_self, n_lit, n_neg, n_add, n_mul, n_sub, n_subM, n_div, n_mod, n_addM, m_div, m_subn, n_tN, n_inS, n_eq_t, n_eq_f, n_ne_t, n_ne_f, n_lt_t, n_lt_f, n_ge_t, n_ge_f, n_gt_t, n_gt_f, n_le_t, n_le_f, mn_eq, mn_ne, mn_lt, mn_ge, mn_gt, mn_le, nm_eq, nm_ne, nm_lt, nm_ge, nm_gt, nm_le, n_gts_t, c_eq_refl, c_ne_refl, w_fold, w_2, wC_fold, lt_M, cond_true, cond_false, Bool.and_true, Bool.true_and, Bool.and_false, Bool.false_and, Bool.not_true, Bool.not_false, isZS_0, isZS_1, ↓reduceIte, w_at, w_2, wC_at, wC_2, List.cons.injEq, reduceCtorEq, and_false, false_and, and_true, true_and, if_true, if_false, eq_self, and_self, if_pos, if_neg, Nat.add_zero, cN, cT, cC, cW, cB, cG, cP, S0, S1, S2, S3, S4, S5, n3] at e43
    simp (disch := omega) only [↓Bool.cond_eq_ite, ↓reduceIte, Bool.false_eq_true, eq_self, n_lit, n_neg, n_add, n_mul, n_sub, n_subM, n_div, n_mod, n_addM, m_div, m_subn, n_tN, n_inS, n_eq_t, n_eq_f, n_ne_t, n_ne_f, n_lt_t, n_lt_f, n_ge_t, n_ge_f, n_gt_t, n_gt_f, n_le_t, n_le_f, mn_eq, mn_ne, mn_lt, mn_ge, mn_gt, mn_le, nm_eq, nm_ne, nm_lt, nm_ge, nm_gt, nm_le, n_gts_t, c_eq_refl, c_ne_refl, w_fold, w_2, wC_fold, lt_M, cond_true, cond_false, Bool.and_true, Bool.true_and, Bool.and_false, Bool.false_and, Bool.not_true, Bool.not_false, isZS_0, isZS_1, ↓reduceIte, w_at, w_2, wC_at, wC_2, List.cons.injEq, reduceCtorEq, and_false, false_and, and_true, true_and, if_true, if_false, eq_self, and_self, if_pos, if_neg, Nat.add_zero, cN, cT, cC, cW, cB, cG, cP, S0, S1, S2, S3, S4, S5, kI_of e128, kI_of f252, kV_of e43, Option.bind_some, n4, n5, n6, wL_fold] at e f
    refine ⟨_, _, _, kI_of e, kI_of f, rI_shelf (d := d) (by omega) ?_ ?_ ?_ ?_ ?_ h0⟩
    · intro q hq
      have zq0 : q ≠ [d, 6, 0] := sh_ne (u := []) hq
      have zq1 : q ≠ [1, d, 6, 0] := sh_ne (u := [1]) hq
      have zq4 : q ≠ [4, d, 6, 0] := sh_ne (u := [4]) hq
      have zq18 : q ≠ [18, 1, d, 6, 0] := sh_ne (u := [18, 1]) hq
      have zq118 : q ≠ [1, 18, 1, d, 6, 0] := sh_ne (u := [1, 18, 1]) hq
      have zq218 : q ≠ [2, 18, 1, d, 6, 0] := sh_ne (u := [2, 18, 1]) hq
      repeat (first | rfl | rw [w_ne zq0] | rw [w_ne zq4] | rw [wC_ne zq4] | rw [w_ne zq1])
    · intro q m1 m2 m3 m4 m5
      repeat (first | rfl | rw [wL_1] | rw [w_ne m1] | rw [w_ne m2] | rw [w_ne m3] | rw [w_ne m4] | rw [w_ne m5])
    · intro k j hk1 hk2 hj
      have hk : k = 52 ∨ k = 53 ∨ k = 54 ∨ k = 55 ∨ k = 56 := by omega
      rcases hk with rfl | rfl | rfl | rfl | rfl <;> simp (disch := omega) only [↓reduceIte, wL_1, w_at, List.cons.injEq, reduceCtorEq, and_false, false_and, and_true, true_and, if_true, if_false, eq_self, and_self, if_neg]
    · intro j hj
      rw [wL_at, if_neg (by omega)]
    · refine .inr (.inr ⟨?_, ?_, 0, n, by omega, n2, ?_, ?_, ?_, ?_, ?_, ?_⟩)
      · rw [w_ne (by simp)]; exact s1
      · exact s2
      · rw [w_ne (by simp)]; exact n3
      · exact n4
      · rw [w_ne (by simp)]; exact n5
      · exact n6
      · intro j hj
        rw [wL_at, w_at]
        by_cases q : j = i
        · subst q; rw [if_pos ⟨rfl, rfl⟩, if_pos ⟨rfl, rfl⟩]
        · rw [if_neg (by omega), if_neg (fun x => q x.2)]; exact n7 j hj
      · intro hs j hj
        rw [w_at]
        by_cases q : j = i
        · subst q; rw [if_pos ⟨rfl, rfl⟩]; exact hv8 _
        · rw [if_neg (fun x => q x.2)]; exact n8 hs j hj
  · simp (disch := omega) only [↓Bool.cond_eq_ite, ↓reduceIte, Bool.false_eq_true, eq_self, n_lit, n_neg, n_add, n_mul, n_sub, n_subM, n_div, n_mod, n_addM, m_div, m_subn, n_tN, n_inS, n_eq_t, n_eq_f, n_ne_t, n_ne_f, n_lt_t, n_lt_f, n_ge_t, n_ge_f, n_gt_t, n_gt_f, n_le_t, n_le_f, mn_eq, mn_ne, mn_lt, mn_ge, mn_gt, mn_le, nm_eq, nm_ne, nm_lt, nm_ge, nm_gt, nm_le, n_gts_t, c_eq_refl, c_ne_refl, w_fold, w_2, wC_fold, lt_M, cond_true, cond_false, Bool.and_true, Bool.true_and, Bool.and_false, Bool.false_and, Bool.not_true, Bool.not_false, isZS_0, isZS_1, ↓reduceIte, w_at, w_2, wC_at, wC_2, List.cons.injEq, reduceCtorEq, and_false, false_and, and_true, true_and, if_true, if_false, eq_self, and_self, if_pos, if_neg, Nat.add_zero, cN, cT, cC, cW, cB, cG, cP, S0, S1, S2, S3, S4, S5, n3] at e43
    simp (disch := omega) only [↓Bool.cond_eq_ite, ↓reduceIte, Bool.false_eq_true, eq_self, n_lit, n_neg, n_add, n_mul, n_sub, n_subM, n_div, n_mod, n_addM, m_div, m_subn, n_tN, n_inS, n_eq_t, n_eq_f, n_ne_t, n_ne_f, n_lt_t, n_lt_f, n_ge_t, n_ge_f, n_gt_t, n_gt_f, n_le_t, n_le_f, mn_eq, mn_ne, mn_lt, mn_ge, mn_gt, mn_le, nm_eq, nm_ne, nm_lt, nm_ge, nm_gt, nm_le, n_gts_t, c_eq_refl, c_ne_refl, w_fold, w_2, wC_fold, lt_M, cond_true, cond_false, Bool.and_true, Bool.true_and, Bool.and_false, Bool.false_and, Bool.not_true, Bool.not_false, isZS_0, isZS_1, ↓reduceIte, w_at, w_2, wC_at, wC_2, List.cons.injEq, reduceCtorEq, and_false, false_and, and_true, true_and, if_true, if_false, eq_self, and_self, if_pos, if_neg, Nat.add_zero, cN, cT, cC, cW, cB, cG, cP, S0, S1, S2, S3, S4, S5, kI_of e128, kI_of f252, kV_of e43, Option.bind_some, n4, n5, n6, wL_fold] at e f
    refine ⟨_, _, _, kI_of e, kI_of f, rI_shelf (d := d) (by omega) ?_ ?_ ?_ ?_ ?_ h0⟩
    · intro q hq
      have zq0 : q ≠ [d, 6, 0] := sh_ne (u := []) hq
      have zq1 : q ≠ [1, d, 6, 0] := sh_ne (u := [1]) hq
      have zq4 : q ≠ [4, d, 6, 0] := sh_ne (u := [4]) hq
      have zq18 : q ≠ [18, 1, d, 6, 0] := sh_ne (u := [18, 1]) hq
      have zq118 : q ≠ [1, 18, 1, d, 6, 0] := sh_ne (u := [1, 18, 1]) hq
      have zq218 : q ≠ [2, 18, 1, d, 6, 0] := sh_ne (u := [2, 18, 1]) hq
      repeat (first | rfl | rw [w_ne zq0] | rw [w_ne zq4] | rw [wC_ne zq4] | rw [w_ne zq1])
    · intro q m1 m2 m3 m4 m5
      repeat (first | rfl | rw [wL_1] | rw [w_ne m1] | rw [w_ne m2] | rw [w_ne m3] | rw [w_ne m4] | rw [w_ne m5])
    · intro k j hk1 hk2 hj
      have hk : k = 52 ∨ k = 53 ∨ k = 54 ∨ k = 55 ∨ k = 56 := by omega
      rcases hk with rfl | rfl | rfl | rfl | rfl <;> simp (disch := omega) only [↓reduceIte, wL_1, w_at, List.cons.injEq, reduceCtorEq, and_false, false_and, and_true, true_and, if_true, if_false, eq_self, and_self, if_neg]
    · intro j hj
      rw [wL_at, if_neg (by omega)]
    · refine .inr (.inr ⟨?_, ?_, 1, n, by omega, n2, ?_, ?_, ?_, ?_, ?_, ?_⟩)
      · rw [w_ne (by simp)]; exact s1
      · exact s2
      · rw [w_ne (by simp)]; exact n3
      · exact n4
      · rw [w_ne (by simp)]; exact n5
      · exact n6
      · intro j hj
        rw [wL_at, w_at]
        by_cases q : j = i
        · subst q; rw [if_pos ⟨rfl, rfl⟩, if_pos ⟨rfl, rfl⟩]
        · rw [if_neg (by omega), if_neg (fun x => q x.2)]; exact n7 j hj
      · intro hs j hj
        rw [w_at]
        by_cases q : j = i
        · subst q; rw [if_pos ⟨rfl, rfl⟩]; omega
        · rw [if_neg (fun x => q x.2)]; exact n8 hs j hj
  · simp (disch := omega) only [↓Bool.cond_eq_ite, ↓reduceIte, Bool.false_eq_true, eq_self, n_lit, n_neg, n_add, n_mul, n_sub, n_subM, n_div, n_mod, n_addM, m_div, m_subn, n_tN, n_inS, n_eq_t, n_eq_f, n_ne_t, n_ne_f, n_lt_t, n_lt_f, n_ge_t, n_ge_f, n_gt_t, n_gt_f, n_le_t, n_le_f, mn_eq, mn_ne, mn_lt, mn_ge, mn_gt, mn_le, nm_eq, nm_ne, nm_lt, nm_ge, nm_gt, nm_le, n_gts_t, c_eq_refl, c_ne_refl, w_fold, w_2, wC_fold, lt_M, cond_true, cond_false, Bool.and_true, Bool.true_and, Bool.and_false, Bool.false_and, Bool.not_true, Bool.not_false, isZS_0, isZS_1, ↓reduceIte, w_at, w_2, wC_at, wC_2, List.cons.injEq, reduceCtorEq, and_false, false_and, and_true, true_and, if_true, if_false, eq_self, and_self, if_pos, if_neg, Nat.add_zero, cN, cT, cC, cW, cB, cG, cP, S0, S1, S2, S3, S4, S5, n3] at e43
    simp (disch := omega) only [↓Bool.cond_eq_ite, ↓reduceIte, Bool.false_eq_true, eq_self, n_lit, n_neg, n_add, n_mul, n_sub, n_subM, n_div, n_mod, n_addM, m_div, m_subn, n_tN, n_inS, n_eq_t, n_eq_f, n_ne_t, n_ne_f, n_lt_t, n_lt_f, n_ge_t, n_ge_f, n_gt_t, n_gt_f, n_le_t, n_le_f, mn_eq, mn_ne, mn_lt, mn_ge, mn_gt, mn_le, nm_eq, nm_ne, nm_lt, nm_ge, nm_gt, nm_le, n_gts_t, c_eq_refl, c_ne_refl, w_fold, w_2, wC_fold, lt_M, cond_true, cond_false, Bool.and_true, Bool.true_and, Bool.and_false, Bool.false_and, Bool.not_true, Bool.not_false, isZS_0, isZS_1, ↓reduceIte, w_at, w_2, wC_at, wC_2, List.cons.injEq, reduceCtorEq, and_false, false_and, and_true, true_and, if_true, if_false, eq_self, and_self, if_pos, if_neg, Nat.add_zero, cN, cT, cC, cW, cB, cG, cP, S0, S1, S2, S3, S4, S5, kI_of e128, kI_of f252, kV_of e43, Option.bind_some, n4, n5, n6, wL_fold] at e f
    refine ⟨_, _, _, kI_of e, kI_of f, rI_shelf (d := d) (by omega) ?_ ?_ ?_ ?_ ?_ h0⟩
    · intro q hq
      have zq0 : q ≠ [d, 6, 0] := sh_ne (u := []) hq
      have zq1 : q ≠ [1, d, 6, 0] := sh_ne (u := [1]) hq
      have zq4 : q ≠ [4, d, 6, 0] := sh_ne (u := [4]) hq
      have zq18 : q ≠ [18, 1, d, 6, 0] := sh_ne (u := [18, 1]) hq
      have zq118 : q ≠ [1, 18, 1, d, 6, 0] := sh_ne (u := [1, 18, 1]) hq
      have zq218 : q ≠ [2, 18, 1, d, 6, 0] := sh_ne (u := [2, 18, 1]) hq
      repeat (first | rfl | rw [w_ne zq0] | rw [w_ne zq4] | rw [wC_ne zq4] | rw [w_ne zq1])
    · intro q m1 m2 m3 m4 m5
      repeat (first | rfl | rw [wL_1] | rw [w_ne m1] | rw [w_ne m2] | rw [w_ne m3] | rw [w_ne m4] | rw [w_ne m5])
    · intro k j hk1 hk2 hj
      have hk : k = 52 ∨ k = 53 ∨ k = 54 ∨ k = 55 ∨ k = 56 := by omega
      rcases hk with rfl | rfl | rfl | rfl | rfl <;> simp (disch := omega) only [↓reduceIte, wL_1, w_at, List.cons.injEq, reduceCtorEq, and_false, false_and, and_true, true_and, if_true, if_false, eq_self, and_self, if_neg]
    · intro j hj
      rw [wL_at, if_neg (by omega)]
    · refine .inr (.inr ⟨?_, ?_, 2, n, by omega, n2, ?_, ?_, ?_, ?_, ?_, ?_⟩)
      · rw [w_ne (by simp)]; exact s1
      · exact s2
      · rw [w_ne (by simp)]; exact n3
      · exact n4
      · rw [w_ne (by simp)]; exact n5
      · exact n6
      · intro j hj
        rw [wL_at, w_at]
        by_cases q : j = i
        · subst q; rw [if_pos ⟨rfl, rfl⟩, if_pos ⟨rfl, rfl⟩]
        · rw [if_neg (by omega), if_neg (fun x => q x.2)]; exact n7 j hj
      · intro hs j hj
        rw [w_at]
        by_cases q : j = i
        · subst q; rw [if_pos ⟨rfl, rfl⟩]; omega
        · rw [if_neg (fun x => q x.2)]; exact n8 hs j hj
end Ops8
