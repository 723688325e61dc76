section Ops9
variable {L : Nat} {xs : Nat → Int32} {C M : mM} {hm : Nat}
set_option maxRecDepth 8000 in
set_option maxHeartbeats 4000000 in
theorem s_246 {u k : Nat} {A B T W : Int32} (hu : u < 40) (hk : k ≤ 5) (h : M.1 [11, 1] u = oN k) (hA : M.1 [1, 1] (200 + 16 * u + 3) = A) (hB : M.1 [1, 1] (200 + 16 * u + 12) = B) (hT : k = 1 → M.1 [13, 1] u = T) (hW : k = 4 → M.1 [15, 1] u = W) : kI L xs 246 [vr 10 [1], vi (oN u)] M =
    some ((if k = 0 then ((oN 10 + A) + oN 0) + B else if k = 1 then ((oN 10 + A) + oN 0) + T else if k = 2 then ((oN 10 + A) + oN 50) + oN 100 else if k = 3 then oN 2 * (((oN 10 + A) + oN 300) + oN 100) else if k = 4 then (((oN 10 + A) + oN 0) + oN 200) + W else (oN 10 + A) + oN 1), M) := by
  refine kI_of ?_
  rw [e_246]
  have h5 := s_222 (L := L) (xs := xs) hu hk h
  have : k = 0 ∨ k = 1 ∨ k = 2 ∨ k = 3 ∨ k = 4 ∨ k = 5 := by omega
  rcases this with rfl | rfl | rfl | rfl | rfl | rfl
  · simp (disch := omega) only [↓Bool.cond_eq_ite, ↓reduceIte, Bool.false_eq_true, eq_self, n_lit, n_neg, n_add, n_mul, n_sub, n_subM, n_div, n_mod, n_addM, m_div, m_subn, n_tN, n_inS, n_eq_t, n_eq_f, n_ne_t, n_ne_f, n_lt_t, n_lt_f, n_ge_t, n_ge_f, n_gt_t, n_gt_f, n_le_t, n_le_f, mn_eq, mn_ne, mn_lt, mn_ge, mn_gt, mn_le, nm_eq, nm_ne, nm_lt, nm_ge, nm_gt, nm_le, n_gts_t, c_eq_refl, c_ne_refl, w_fold, w_2, wC_fold, lt_M, cond_true, cond_false, Bool.and_true, Bool.true_and, Bool.and_false, Bool.false_and, Bool.not_true, Bool.not_false, isZS_0, isZS_1, h5, h, hA, hB, Option.bind_some]; rfl
  · have hT := hT rfl
    simp (disch := omega) only [↓Bool.cond_eq_ite, ↓reduceIte, Bool.false_eq_true, eq_self, n_lit, n_neg, n_add, n_mul, n_sub, n_subM, n_div, n_mod, n_addM, m_div, m_subn, n_tN, n_inS, n_eq_t, n_eq_f, n_ne_t, n_ne_f, n_lt_t, n_lt_f, n_ge_t, n_ge_f, n_gt_t, n_gt_f, n_le_t, n_le_f, mn_eq, mn_ne, mn_lt, mn_ge, mn_gt, mn_le, nm_eq, nm_ne, nm_lt, nm_ge, nm_gt, nm_le, n_gts_t, c_eq_refl, c_ne_refl, w_fold, w_2, wC_fold, lt_M, cond_true, cond_false, Bool.and_true, Bool.true_and, Bool.and_false, Bool.false_and, Bool.not_true, Bool.not_false, isZS_0, isZS_1, h5, h, hA, hT, Option.bind_some]; rfl
  · simp (disch := omega) only [↓Bool.cond_eq_ite, ↓reduceIte, Bool.false_eq_true, eq_self, n_lit, n_neg, n_add, n_mul, n_sub, n_subM, n_div, n_mod, n_addM, m_div, m_subn, n_tN, n_inS, n_eq_t, n_eq_f, n_ne_t, n_ne_f, n_lt_t, n_lt_f, n_ge_t, n_ge_f, n_gt_t, n_gt_f, n_le_t, n_le_f, mn_eq, mn_ne, mn_lt, mn_ge, mn_gt, mn_le, nm_eq, nm_ne, nm_lt, nm_ge, nm_gt, nm_le, n_gts_t, c_eq_refl, c_ne_refl, w_fold, w_2, wC_fold, lt_M, cond_true, cond_false, Bool.and_true, Bool.true_and, Bool.and_false, Bool.false_and, Bool.not_true, Bool.not_false, isZS_0, isZS_1, h5, h, hA, Option.bind_some]; rfl
  · simp (disch := omega) only [↓Bool.cond_eq_ite, ↓reduceIte, Bool.false_eq_true, eq_self, n_lit, n_neg, n_add, n_mul, n_sub, n_subM, n_div, n_mod, n_addM, m_div, m_subn, n_tN, n_inS, n_eq_t, n_eq_f, n_ne_t, n_ne_f, n_lt_t, n_lt_f, n_ge_t, n_ge_f, n_gt_t, n_gt_f, n_le_t, n_le_f, mn_eq, mn_ne, mn_lt, mn_ge, mn_gt, mn_le, nm_eq, nm_ne, nm_lt, nm_ge, nm_gt, nm_le, n_gts_t, c_eq_refl, c_ne_refl, w_fold, w_2, wC_fold, lt_M, cond_true, cond_false, Bool.and_true, Bool.true_and, Bool.and_false, Bool.false_and, Bool.not_true, Bool.not_false, isZS_0, isZS_1, h5, h, hA, Option.bind_some]; rfl
  · have hW := hW rfl
    simp (disch := omega) only [↓Bool.cond_eq_ite, ↓reduceIte, Bool.false_eq_true, eq_self, n_lit, n_neg, n_add, n_mul, n_sub, n_subM, n_div, n_mod, n_addM, m_div, m_subn, n_tN, n_inS, n_eq_t, n_eq_f, n_ne_t, n_ne_f, n_lt_t, n_lt_f, n_ge_t, n_ge_f, n_gt_t, n_gt_f, n_le_t, n_le_f, mn_eq, mn_ne, mn_lt, mn_ge, mn_gt, mn_le, nm_eq, nm_ne, nm_lt, nm_ge, nm_gt, nm_le, n_gts_t, c_eq_refl, c_ne_refl, w_fold, w_2, wC_fold, lt_M, cond_true, cond_false, Bool.and_true, Bool.true_and, Bool.and_false, Bool.false_and, Bool.not_true, Bool.not_false, isZS_0, isZS_1, h5, h, hA, hW, Option.bind_some]; rfl
  · simp (disch := omega) only [↓Bool.cond_eq_ite, ↓reduceIte, Bool.false_eq_true, eq_self, n_lit, n_neg, n_add, n_mul, n_sub, n_subM, n_div, n_mod, n_addM, m_div, m_subn, n_tN, n_inS, n_eq_t, n_eq_f, n_ne_t, n_ne_f, n_lt_t, n_lt_f, n_ge_t, n_ge_f, n_gt_t, n_gt_f, n_le_t, n_le_f, mn_eq, mn_ne, mn_lt, mn_ge, mn_gt, mn_le, nm_eq, nm_ne, nm_lt, nm_ge, nm_gt, nm_le, n_gts_t, c_eq_refl, c_ne_refl, w_fold, w_2, wC_fold, lt_M, cond_true, cond_false, Bool.and_true, Bool.true_and, Bool.and_false, Bool.false_and, Bool.not_true, Bool.not_false, isZS_0, isZS_1, h5, h, hA, Option.bind_some]; rfl

set_option maxRecDepth 8000 in
set_option maxHeartbeats 4000000 in
theorem op_keep {a1 a2 a3 : Int32} (h : rI L xs C M hm) : opR L xs 117 196 [vi a1, vi a2, vi a3] C M hm := by
  have e := e_117 L xs [0] a1 a2 a3 C
  have f := e_196 L xs [1] a1 a2 a3 M
  have h1 : rI L xs C (wI M [1] 0 (0 : Int32)) hm := rI_ag (agC_refl _) (agM_w0 (by decide) (by decide)) h
  simp only [lt_M, w_fold] at f
  generalize wI M [1] 0 (0 : Int32) = M1 at f h1
  have h0 := h1
  obtain ⟨nc, nw, nb, np, nt, now, kd, wa, wb, wd, wl, ws, hP, hIm, hHi, hTx, hSh, hMi⟩ := h1
  have hP' := hP
  obtain ⟨g1, g2, g3, g4, g5, g6, g7, g8, g9, g10⟩ := hP'
  have hsc := g1
  obtain ⟨cN, cT, cC, cW, cB, cG, cP, S0, S1, S2, S3, S4, S5, b16, b24, b40, b8, b20, b4320⟩ := hsc
  have hle := cntG_le kd nb
  rcases I_cases a1 with ⟨d, d1, rfl⟩ | ⟨d, d0, d1, rfl⟩
  case inr =>
    simp (disch := omega) only [↓Bool.cond_eq_ite, ↓reduceIte, Bool.false_eq_true, eq_self, n_lit, n_neg, n_add, n_mul, n_sub, n_subM, n_div, n_mod, n_addM, m_div, m_subn, n_tN, n_inS, n_eq_t, n_eq_f, n_ne_t, n_ne_f, n_lt_t, n_lt_f, n_ge_t, n_ge_f, n_gt_t, n_gt_f, n_le_t, n_le_f, mn_eq, mn_ne, mn_lt, mn_ge, mn_gt, mn_le, nm_eq, nm_ne, nm_lt, nm_ge, nm_gt, nm_le, n_gts_t, c_eq_refl, c_ne_refl, w_fold, w_2, wC_fold, lt_M, cond_true, cond_false, Bool.and_true, Bool.true_and, Bool.and_false, Bool.false_and, Bool.not_true, Bool.not_false, isZS_0, isZS_1, ↓reduceIte, w_at, w_2, wC_at, wC_2, List.cons.injEq, reduceCtorEq, and_false, false_and, and_true, true_and, if_true, if_false, eq_self, and_self, if_pos, if_neg, Nat.add_zero, cN, cT, cC, cW, cB, cG, cP, S0, S1, S2, S3, S4, S5] at e f
    exact ⟨_, _, _, kI_of e, kI_of f, h0⟩
  by_cases q1 : d ≤ 7
  case neg =>
    simp (disch := omega) only [↓Bool.cond_eq_ite, ↓reduceIte, Bool.false_eq_true, eq_self, n_lit, n_neg, n_add, n_mul, n_sub, n_subM, n_div, n_mod, n_addM, m_div, m_subn, n_tN, n_inS, n_eq_t, n_eq_f, n_ne_t, n_ne_f, n_lt_t, n_lt_f, n_ge_t, n_ge_f, n_gt_t, n_gt_f, n_le_t, n_le_f, mn_eq, mn_ne, mn_lt, mn_ge, mn_gt, mn_le, nm_eq, nm_ne, nm_lt, nm_ge, nm_gt, nm_le, n_gts_t, c_eq_refl, c_ne_refl, w_fold, w_2, wC_fold, lt_M, cond_true, cond_false, Bool.and_true, Bool.true_and, Bool.and_false, Bool.false_and, Bool.not_true, Bool.not_false, isZS_0, isZS_1, ↓reduceIte, w_at, w_2, wC_at, wC_2, List.cons.injEq, reduceCtorEq, and_false, false_and, and_true, true_and, if_true, if_false, eq_self, and_self, if_pos, if_neg, Nat.add_zero, cN, cT, cC, cW, cB, cG, cP, S0, S1, S2, S3, S4, S5] at e f
    exact ⟨_, _, _, kI_of e, kI_of f, h0⟩
  rcases I_cases a2 with ⟨w, w1, rfl⟩ | ⟨w, w0, w1, rfl⟩
  case inr =>
    simp (disch := omega) only [↓Bool.cond_eq_ite, ↓reduceIte, Bool.false_eq_true, eq_self, n_lit, n_neg, n_add, n_mul, n_sub, n_subM, n_div, n_mod, n_addM, m_div, m_subn, n_tN, n_inS, n_eq_t, n_eq_f, n_ne_t, n_ne_f, n_lt_t, n_lt_f, n_ge_t, n_ge_f, n_gt_t, n_gt_f, n_le_t, n_le_f, mn_eq, mn_ne, mn_lt, mn_ge, mn_gt, mn_le, nm_eq, nm_ne, nm_lt, nm_ge, nm_gt, nm_le, n_gts_t, c_eq_refl, c_ne_refl, w_fold, w_2, wC_fold, lt_M, cond_true, cond_false, Bool.and_true, Bool.true_and, Bool.and_false, Bool.false_and, Bool.not_true, Bool.not_false, isZS_0, isZS_1, ↓reduceIte, w_at, w_2, wC_at, wC_2, List.cons.injEq, reduceCtorEq, and_false, false_and, and_true, true_and, if_true, if_false, eq_self, and_self, if_pos, if_neg, Nat.add_zero, cN, cT, cC, cW, cB, cG, cP, S0, S1, S2, S3, S4, S5] at e f
    exact ⟨_, _, _, kI_of e, kI_of f, h0⟩
  by_cases q2 : w ≤ 1
  case neg =>
    simp (disch := omega) only [↓Bool.cond_eq_ite, ↓reduceIte, Bool.false_eq_true, eq_self, n_lit, n_neg, n_add, n_mul, n_sub, n_subM, n_div, n_mod, n_addM, m_div, m_subn, n_tN, n_inS, n_eq_t, n_eq_f, n_ne_t, n_ne_f, n_lt_t, n_lt_f, n_ge_t, n_ge_f, n_gt_t, n_gt_f, n_le_t, n_le_f, mn_eq, mn_ne, mn_lt, mn_ge, mn_gt, mn_le, nm_eq, nm_ne, nm_lt, nm_ge, nm_gt, nm_le, n_gts_t, c_eq_refl, c_ne_refl, w_fold, w_2, wC_fold, lt_M, cond_true, cond_false, Bool.and_true, Bool.true_and, Bool.and_false, Bool.false_and, Bool.not_true, Bool.not_false, isZS_0, isZS_1, ↓reduceIte, w_at, w_2, wC_at, wC_2, List.cons.injEq, reduceCtorEq, and_false, false_and, and_true, true_and, if_true, if_false, eq_self, and_self, if_pos, if_neg, Nat.add_zero, cN, cT, cC, cW, cB, cG, cP, S0, S1, S2, S3, S4, S5] at e f
    exact ⟨_, _, _, kI_of e, kI_of f, h0⟩
  by_cases hw0 : w = 0
  case pos =>
    subst hw0
    simp (disch := omega) only [↓Bool.cond_eq_ite, ↓reduceIte, Bool.false_eq_true, eq_self, n_lit, n_neg, n_add, n_mul, n_sub, n_subM, n_div, n_mod, n_addM, m_div, m_subn, n_tN, n_inS, n_eq_t, n_eq_f, n_ne_t, n_ne_f, n_lt_t, n_lt_f, n_ge_t, n_ge_f, n_gt_t, n_gt_f, n_le_t, n_le_f, mn_eq, mn_ne, mn_lt, mn_ge, mn_gt, mn_le, nm_eq, nm_ne, nm_lt, nm_ge, nm_gt, nm_le, n_gts_t, c_eq_refl, c_ne_refl, w_fold, w_2, wC_fold, lt_M, cond_true, cond_false, Bool.and_true, Bool.true_and, Bool.and_false, Bool.false_and, Bool.not_true, Bool.not_false, isZS_0, isZS_1, ↓reduceIte, w_at, w_2, wC_at, wC_2, List.cons.injEq, reduceCtorEq, and_false, false_and, and_true, true_and, if_true, if_false, eq_self, and_self, if_pos, if_neg, Nat.add_zero, cN, cT, cC, cW, cB, cG, cP, S0, S1, S2, S3, S4, S5] at e f
    refine ⟨_, _, _, kI_of e, kI_of f, rI_shelf (d := d) (by omega) ?_ ?_ ?_ ?_ ?_ h0⟩
    · intro q hq
      have zq0 : q ≠ [d, 6, 0] := sh_ne (u := []) hq
      have zq1 : q ≠ [1, d, 6, 0] := sh_ne (u := [1]) hq
      have zq4 : q ≠ [4, d, 6, 0] := sh_ne (u := [4]) hq
      have zq18 : q ≠ [18, 1, d, 6, 0] := sh_ne (u := [18, 1]) hq
      have zq118 : q ≠ [1, 18, 1, d, 6, 0] := sh_ne (u := [1, 18, 1]) hq
      have zq218 : q ≠ [2, 18, 1, d, 6, 0] := sh_ne (u := [2, 18, 1]) hq
      repeat (first | rfl | rw [w_ne zq0] | rw [w_ne zq4] | rw [wC_ne zq4] | rw [w_ne zq1])
    · intro q m1 m2 m3 m4 m5
      repeat (first | rfl | rw [wL_1] | rw [w_ne m1] | rw [w_ne m2] | rw [w_ne m3] | rw [w_ne m4] | rw [w_ne m5])
    · intro k j hk1 hk2 hj
      have hk : k = 52 ∨ k = 53 ∨ k = 54 ∨ k = 55 ∨ k = 56 := by omega
      rcases hk with rfl | rfl | rfl | rfl | rfl <;> simp (disch := omega) only [↓reduceIte, wL_1, w_at, List.cons.injEq, reduceCtorEq, and_false, false_and, and_true, true_and, if_true, if_false, eq_self, and_self, if_neg]
    · exact fun _ _ => rfl
    · refine .inl ⟨by simp (disch := omega) only [↓reduceIte, w_at, w_2, wC_at, wC_2, List.cons.injEq, reduceCtorEq, and_false, false_and, and_true, true_and, if_true, if_false, eq_self, and_self, if_pos, if_neg], by simp (disch := omega) only [↓reduceIte, w_at, w_2, wC_at, wC_2, List.cons.injEq, reduceCtorEq, and_false, false_and, and_true, true_and, if_true, if_false, eq_self, and_self, if_pos, if_neg]⟩
  have hw1 : w = 1 := by omega
  subst hw1
  rcases I_cases a3 with ⟨u, u1, rfl⟩ | ⟨u, u0, u1, rfl⟩
  case inr =>
    simp (disch := omega) only [↓Bool.cond_eq_ite, ↓reduceIte, Bool.false_eq_true, eq_self, n_lit, n_neg, n_add, n_mul, n_sub, n_subM, n_div, n_mod, n_addM, m_div, m_subn, n_tN, n_inS, n_eq_t, n_eq_f, n_ne_t, n_ne_f, n_lt_t, n_lt_f, n_ge_t, n_ge_f, n_gt_t, n_gt_f, n_le_t, n_le_f, mn_eq, mn_ne, mn_lt, mn_ge, mn_gt, mn_le, nm_eq, nm_ne, nm_lt, nm_ge, nm_gt, nm_le, n_gts_t, c_eq_refl, c_ne_refl, w_fold, w_2, wC_fold, lt_M, cond_true, cond_false, Bool.and_true, Bool.true_and, Bool.and_false, Bool.false_and, Bool.not_true, Bool.not_false, isZS_0, isZS_1, ↓reduceIte, w_at, w_2, wC_at, wC_2, List.cons.injEq, reduceCtorEq, and_false, false_and, and_true, true_and, if_true, if_false, eq_self, and_self, if_pos, if_neg, Nat.add_zero, cN, cT, cC, cW, cB, cG, cP, S0, S1, S2, S3, S4, S5] at e f
    exact ⟨_, _, _, kI_of e, kI_of f, h0⟩
  by_cases q3 : u < nb
  case neg =>
    simp (disch := omega) only [↓Bool.cond_eq_ite, ↓reduceIte, Bool.false_eq_true, eq_self, n_lit, n_neg, n_add, n_mul, n_sub, n_subM, n_div, n_mod, n_addM, m_div, m_subn, n_tN, n_inS, n_eq_t, n_eq_f, n_ne_t, n_ne_f, n_lt_t, n_lt_f, n_ge_t, n_ge_f, n_gt_t, n_gt_f, n_le_t, n_le_f, mn_eq, mn_ne, mn_lt, mn_ge, mn_gt, mn_le, nm_eq, nm_ne, nm_lt, nm_ge, nm_gt, nm_le, n_gts_t, c_eq_refl, c_ne_refl, w_fold, w_2, wC_fold, lt_M, cond_true, cond_false, Bool.and_true, Bool.true_and, Bool.and_false, Bool.false_and, Bool.not_true, Bool.not_false, isZS_0, isZS_1, ↓reduceIte, w_at, w_2, wC_at, wC_2, List.cons.injEq, reduceCtorEq, and_false, false_and, and_true, true_and, if_true, if_false, eq_self, and_self, if_pos, if_neg, Nat.add_zero, cN, cT, cC, cW, cB, cG, cP, S0, S1, S2, S3, S4, S5] at e f
    exact ⟨_, _, _, kI_of e, kI_of f, h0⟩
  obtain ⟨⟨k5, i0, i1, i11, i7, i8, i16, i14, i17⟩, ⟨p5, p⟩, ⟨⟨hd, hd1, hd2, hd3⟩, v9, v10, v11, v13, v14, v15⟩, -, n, n8, n1, n2, n3⟩ := g7 u (by omega)
  have hcb := bc_ok (L := L) (xs := xs) [1, d, 6, 0] [u, 10, 0, 0] (wI C [d, 6, 0] 0 (oN 1)) n8 (by rw [w_ne (by simp)]; exact n1) (by simp) (by simp) (by simp) (by simp) (by simp)
  have hfld : ∀ j, j < 18 → (tcM (cbM (wI C [d, 6, 0] 0 (oN 1)) [1, d, 6, 0] [u, 10, 0, 0]) [18, 1, d, 6, 0] [18, u, 10, 0, 0] n).1 [1, d, 6, 0] j = C.1 [u, 10, 0, 0] j := fun j hj => by
    unfold tcM
    rw [wC_ne (by simp), wC_ne (by simp), w_ne (by simp), cb_at, if_pos ⟨rfl, hj⟩, w_ne (by simp)]
  have hfld2 : (tcM (cbM (wI C [d, 6, 0] 0 (oN 1)) [1, d, 6, 0] [u, 10, 0, 0]) [18, 1, d, 6, 0] [18, u, 10, 0, 0] n).1 [18, 1, d, 6, 0] 0 = oN n := by
    unfold tcM
    rw [wC_ne (by simp), wC_ne (by simp), w_at, if_pos ⟨rfl, rfl⟩]
  have hfld3 : (tcM (cbM (wI C [d, 6, 0] 0 (oN 1)) [1, d, 6, 0] [u, 10, 0, 0]) [18, 1, d, 6, 0] [18, u, 10, 0, 0] n).1 [d, 6, 0] 0 = oN 1 := by
    unfold tcM
    rw [wC_ne (by simp), wC_ne (by simp), w_ne (by simp), cb_ne (by simp), w_at, if_pos ⟨rfl, rfl⟩]
  have hfr : ∀ q, (∀ t, q ≠ t ++ [d, 6, 0]) → (tcM (cbM (wI C [d, 6, 0] 0 (oN 1)) [1, d, 6, 0] [u, 10, 0, 0]) [18, 1, d, 6, 0] [18, u, 10, 0, 0] n).1 q = C.1 q := fun q hq => by
    unfold tcM
    rw [wC_ne (show q ≠ [2, 18, 1, d, 6, 0] from hq [2, 18, 1]), wC_ne (show q ≠ [1, 18, 1, d, 6, 0] from hq [1, 18, 1]), w_ne (show q ≠ [18, 1, d, 6, 0] from hq [18, 1]), cb_ne (show q ≠ [1, d, 6, 0] from hq [1]), w_ne (show q ≠ [d, 6, 0] from hq [])]
  obtain ⟨WT, hWT, f246⟩ : ∃ WT, WT = (if kd u = 0 then ((oN 10 + oN hd) + oN 0) + oN n else if kd u = 1 then ((oN 10 + oN hd) + oN 0) + C.1 [u, 10, 0, 0] 8 else if kd u = 2 then ((oN 10 + oN hd) + oN 50) + oN 100 else if kd u = 3 then oN 2 * (((oN 10 + oN hd) + oN 300) + oN 100) else if kd u = 4 then (((oN 10 + oN hd) + oN 0) + oN 200) + C.1 [u, 10, 0, 0] 3 else (oN 10 + oN hd) + oN 1) ∧ kI L xs 246 [vr 10 [1], vi (oN u)] (wI M1 [52, 1] d (oN 1)) = some (WT, wI M1 [52, 1] d (oN 1)) := ⟨_, rfl, s_246 (L := L) (xs := xs) (u := u) (k := kd u) (M := wI M1 [52, 1] d (oN 1)) (by omega) k5 (by rw [w_ne (by simp)]; exact i11) (A := oN hd) (by rw [w_ne (by simp)]; exact hd3) (B := oN n) (by rw [w_ne (by simp)]; exact n2) (T := C.1 [u, 10, 0, 0] 8) (fun hk => by rw [w_ne (by simp)]; exact (i17.2 (by omega)).symm) (W := C.1 [u, 10, 0, 0] 3) (fun hk => by
    rw [w_ne (by simp)]
    rcases p with ⟨k0, -⟩ | ⟨k0, -⟩ | ⟨k4, -, -, -, w, p1, p2, p3⟩ | ⟨k0, k4, -⟩
    · omega
    · omega
    · rw [p2, p3]
    · exact absurd hk k4)⟩
  simp (disch := omega) only [↓Bool.cond_eq_ite, ↓reduceIte, Bool.false_eq_true, eq_self, n_lit, n_neg, n_add, n_mul, n_sub, n_subM, n_div, n_mod, n_addM, m_div, m_subn, n_tN, n_inS, n_eq_t, n_eq_f, n_ne_t, n_ne_f, n_lt_t, n_lt_f, n_ge_t, n_ge_f, n_gt_t, n_gt_f, n_le_t, n_le_f, mn_eq, mn_ne, mn_lt, mn_ge, mn_gt, mn_le, nm_eq, nm_ne, nm_lt, nm_ge, nm_gt, nm_le, n_gts_t, c_eq_refl, c_ne_refl, w_fold, w_2, wC_fold, lt_M, cond_true, cond_false, Bool.and_true, Bool.true_and, Bool.and_false, Bool.false_and, Bool.not_true, Bool.not_false, isZS_0, isZS_1, ↓reduceIte, w_at, w_2, wC_at, wC_2, List.cons.injEq, reduceCtorEq, and_false, false_and, and_true, true_and, if_true, if_false, eq_self, and_self, if_pos, if_neg, Nat.add_zero, cN, cT, cC, cW, cB, cG, cP, S0, S1, S2, S3, S4, S5, hcb, f246, Option.bind_some] at e f
  have hsh : ∀ W, (∃ c, c < 16 ∧ C.1 [u, 10, 0, 0] 2 = oN c ∧ W = (if kd u = 5 then oM 15 else if kd u = 3 then oN (100 + u) else oN u)) ∨ (C.1 [u, 10, 0, 0] 2 = oM 1 ∧ W = oM 15) → rI L xs (tcM (cbM (wI C [d, 6, 0] 0 (oN 1)) [1, d, 6, 0] [u, 10, 0, 0]) [18, 1, d, 6, 0] [18, u, 10, 0, 0] n) (wI (wI (wI M1 [52, 1] d (oN 1)) [53, 1] d WT) [54, 1] d W) hm := by
    intro W hW
    refine rI_shelf (d := d) (by omega) hfr ?_ ?_ ?_ ?_ h0
    · intro q m1 m2 m3 m4 m5
      repeat (first | rfl | rw [wL_1] | rw [w_ne m1] | rw [w_ne m2] | rw [w_ne m3] | rw [w_ne m4] | rw [w_ne m5])
    · intro k j hk1 hk2 hj
      have hk : k = 52 ∨ k = 53 ∨ k = 54 ∨ k = 55 ∨ k = 56 := by omega
      rcases hk with rfl | rfl | rfl | rfl | rfl <;> simp (disch := omega) only [↓reduceIte, wL_1, w_at, List.cons.injEq, reduceCtorEq, and_false, false_and, and_true, true_and, if_true, if_false, eq_self, and_self, if_neg]
    · exact fun _ _ => rfl
    · refine .inr (.inl ⟨hfld3, by simp (disch := omega) only [↓reduceIte, w_at, w_2, wC_at, wC_2, List.cons.injEq, reduceCtorEq, and_false, false_and, and_true, true_and, if_true, if_false, eq_self, and_self, if_pos, if_neg], kd u, k5, ?_, ?_, ?_⟩)
      · rw [hfld 1 (by omega)]; exact i1
      · rw [hfld 6 (by omega), hfld 8 (by omega), hfld 3 (by omega), hfld2, hd2]
        rw [w_ne (by simp), w_at, if_pos ⟨rfl, rfl⟩]
        exact hWT
      · rw [hfld 2 (by omega), hfld 0 (by omega)]
        rcases hW with ⟨c, hc, hc2, hc3⟩ | ⟨hc, hc2⟩
        · exact .inr ⟨c, u, hc, by omega, hc2, i0, by rw [w_at, if_pos ⟨rfl, rfl⟩]; exact hc3⟩
        · exact .inl ⟨hc, by rw [w_at, if_pos ⟨rfl, rfl⟩]; exact hc2⟩
  have hk : kd u = 0 ∨ kd u = 1 ∨ kd u = 2 ∨ kd u = 3 ∨ kd u = 4 ∨ kd u = 5 := by omega
  have hop := rBp_opt b16 (g7 u (by omega)).2.1
  rcases hop with ⟨c1, c2⟩ | ⟨c, hc, c1, c2⟩
  · by_cases hk5 : kd u = 5
    · simp (disch := omega) only [↓Bool.cond_eq_ite, ↓reduceIte, Bool.false_eq_true, eq_self, n_lit, n_neg, n_add, n_mul, n_sub, n_subM, n_div, n_mod, n_addM, m_div, m_subn, n_tN, n_inS, n_eq_t, n_eq_f, n_ne_t, n_ne_f, n_lt_t, n_lt_f, n_ge_t, n_ge_f, n_gt_t, n_gt_f, n_le_t, n_le_f, mn_eq, mn_ne, mn_lt, mn_ge, mn_gt, mn_le, nm_eq, nm_ne, nm_lt, nm_ge, nm_gt, nm_le, n_gts_t, c_eq_refl, c_ne_refl, w_fold, w_2, wC_fold, lt_M, cond_true, cond_false, Bool.and_true, Bool.true_and, Bool.and_false, Bool.false_and, Bool.not_true, Bool.not_false, isZS_0, isZS_1, ↓reduceIte, w_at, w_2, wC_at, wC_2, List.cons.injEq, reduceCtorEq, and_false, false_and, and_true, true_and, if_true, if_false, eq_self, and_self, if_pos, if_neg, Nat.add_zero, cN, cT, cC, cW, cB, cG, cP, S0, S1, S2, S3, S4, S5, i11, c2] at e f
      exact ⟨_, _, _, kI_of e, kI_of f, hsh _ (.inr ⟨c1, rfl⟩)⟩
    · simp (disch := omega) only [↓Bool.cond_eq_ite, ↓reduceIte, Bool.false_eq_true, eq_self, n_lit, n_neg, n_add, n_mul, n_sub, n_subM, n_div, n_mod, n_addM, m_div, m_subn, n_tN, n_inS, n_eq_t, n_eq_f, n_ne_t, n_ne_f, n_lt_t, n_lt_f, n_ge_t, n_ge_f, n_gt_t, n_gt_f, n_le_t, n_le_f, mn_eq, mn_ne, mn_lt, mn_ge, mn_gt, mn_le, nm_eq, nm_ne, nm_lt, nm_ge, nm_gt, nm_le, n_gts_t, c_eq_refl, c_ne_refl, w_fold, w_2, wC_fold, lt_M, cond_true, cond_false, Bool.and_true, Bool.true_and, Bool.and_false, Bool.false_and, Bool.not_true, Bool.not_false, isZS_0, isZS_1, ↓reduceIte, w_at, w_2, wC_at, wC_2, List.cons.injEq, reduceCtorEq, and_false, false_and, and_true, true_and, if_true, if_false, eq_self, and_self, if_pos, if_neg, Nat.add_zero, cN, cT, cC, cW, cB, cG, cP, S0, S1, S2, S3, S4, S5, i11, c2] at e f
      exact ⟨_, _, _, kI_of e, kI_of f, hsh _ (.inr ⟨c1, rfl⟩)⟩
  · by_cases hk5 : kd u = 5
    · simp (disch := omega) only [↓Bool.cond_eq_ite, ↓reduceIte, Bool.false_eq_true, eq_self, n_lit, n_neg, n_add, n_mul, n_sub, n_subM, n_div, n_mod, n_addM, m_div, m_subn, n_tN, n_inS, n_eq_t, n_eq_f, n_ne_t, n_ne_f, n_lt_t, n_lt_f, n_ge_t, n_ge_f, n_gt_t, n_gt_f, n_le_t, n_le_f, mn_eq, mn_ne, mn_lt, mn_ge, mn_gt, mn_le, nm_eq, nm_ne, nm_lt, nm_ge, nm_gt, nm_le, n_gts_t, c_eq_refl, c_ne_refl, w_fold, w_2, wC_fold, lt_M, cond_true, cond_false, Bool.and_true, Bool.true_and, Bool.and_false, Bool.false_and, Bool.not_true, Bool.not_false, isZS_0, isZS_1, ↓reduceIte, w_at, w_2, wC_at, wC_2, List.cons.injEq, reduceCtorEq, and_false, false_and, and_true, true_and, if_true, if_false, eq_self, and_self, if_pos, if_neg, Nat.add_zero, cN, cT, cC, cW, cB, cG, cP, S0, S1, S2, S3, S4, S5, i11, c2] at e f
      exact ⟨_, _, _, kI_of e, kI_of f, hsh _ (.inl ⟨c, hc, c1, by rw [if_pos hk5]⟩)⟩
    · by_cases hk3 : kd u = 3
      · simp (disch := omega) only [↓Bool.cond_eq_ite, ↓reduceIte, Bool.false_eq_true, eq_self, n_lit, n_neg, n_add, n_mul, n_sub, n_subM, n_div, n_mod, n_addM, m_div, m_subn, n_tN, n_inS, n_eq_t, n_eq_f, n_ne_t, n_ne_f, n_lt_t, n_lt_f, n_ge_t, n_ge_f, n_gt_t, n_gt_f, n_le_t, n_le_f, mn_eq, mn_ne, mn_lt, mn_ge, mn_gt, mn_le, nm_eq, nm_ne, nm_lt, nm_ge, nm_gt, nm_le, n_gts_t, c_eq_refl, c_ne_refl, w_fold, w_2, wC_fold, lt_M, cond_true, cond_false, Bool.and_true, Bool.true_and, Bool.and_false, Bool.false_and, Bool.not_true, Bool.not_false, isZS_0, isZS_1, ↓reduceIte, w_at, w_2, wC_at, wC_2, List.cons.injEq, reduceCtorEq, and_false, false_and, and_true, true_and, if_true, if_false, eq_self, and_self, if_pos, if_neg, Nat.add_zero, cN, cT, cC, cW, cB, cG, cP, S0, S1, S2, S3, S4, S5, i11, c2] at e f
        exact ⟨_, _, _, kI_of e, kI_of f, hsh _ (.inl ⟨c, hc, c1, by rw [if_neg hk5, if_pos hk3]⟩)⟩
      · simp (disch := omega) only [↓Bool.cond_eq_ite, ↓reduceIte, Bool.false_eq_true, eq_self, n_lit, n_neg, n_add, n_mul, n_sub, n_subM, n_div, n_mod, n_addM, m_div, m_subn, n_tN, n_inS, n_eq_t, n_eq_f, n_ne_t, n_ne_f, n_lt_t, n_lt_f, n_ge_t, n_ge_f, n_gt_t, n_gt_f, n_le_t, n_le_f, mn_eq, mn_ne, mn_lt, mn_ge, mn_gt, mn_le, nm_eq, nm_ne, nm_lt, nm_ge, nm_gt, nm_le, n_gts_t, c_eq_refl, c_ne_refl, w_fold, w_2, wC_fold, lt_M, cond_true, cond_false, Bool.and_true, Bool.true_and, Bool.and_false, Bool.false_and, Bool.not_true, Bool.not_false, isZS_0, isZS_1, ↓reduceIte, w_at, w_2, wC_at, wC_2, List.cons.injEq, reduceCtorEq, and_false, false_and, and_true, true_and, if_true, if_false, eq_self, and_self, if_pos, if_neg, Nat.add_zero, cN, cT, cC, cW, cB, cG, cP, S0, S1, S2, S3, S4, S5, i11, c2] at e f
        exact ⟨_, _, _, kI_of e, kI_of f, hsh _ (.inl ⟨c, hc, c1, by rw [if_neg hk5, if_neg hk3]⟩)⟩
end Ops9
