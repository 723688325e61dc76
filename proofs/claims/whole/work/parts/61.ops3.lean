section Ops3
variable {L : Nat} {xs : Nat → Int32} {C M : mM} {hm : Nat}
set_option maxRecDepth 8000 in
set_option maxHeartbeats 4000000 in
theorem op_about {a1 a2 : Int32} (h : rI L xs C M hm) : opR L xs 81 147 [vi a1, vi a2] C M hm := by
  have e := e_81 L xs [0] a1 a2 C
  have f := e_147 L xs [1] a1 a2 M
  have h1 : rI L xs C (wI M [1] 0 (0 : Int32)) hm := rI_ag (agC_refl _) (agM_w0 (by decide) (by decide)) h
  simp only [lt_M, w_fold] at f
  generalize wI M [1] 0 (0 : Int32) = M1 at f h1
  have h0 := h1
  obtain ⟨nc, nw, nb, np, nt, now, kd, wa, wb, wd, wl, ws, hP, hIm, hHi, hTx, hSh, hMi⟩ := h1
  have hP' := hP
  obtain ⟨g1, g2, g3, g4, g5, g6, g7, g8, g9, g10⟩ := hP'
  have hsc := g1
  obtain ⟨cN, cT, cC, cW, cB, cG, cP, S0, S1, S2, S3, S4, S5, b16, b24, b40, b8, b20, b4320⟩ := hsc
  have hle := cntG_le kd nb
  rcases I_cases a1 with ⟨w, w1, rfl⟩ | ⟨w, w0, w1, rfl⟩
  case inr =>
    simp (disch := omega) only [↓Bool.cond_eq_ite, ↓reduceIte, Bool.false_eq_true, eq_self, n_lit, n_neg, n_add, n_mul, n_sub, n_subM, n_div, n_mod, n_addM, m_div, m_subn, n_tN, n_inS, n_eq_t, n_eq_f, n_ne_t, n_ne_f, n_lt_t, n_lt_f, n_ge_t, n_ge_f, n_gt_t, n_gt_f, n_le_t, n_le_f, mn_eq, mn_ne, mn_lt, mn_ge, mn_gt, mn_le, nm_eq, nm_ne, nm_lt, nm_ge, nm_gt, nm_le, n_gts_t, c_eq_refl, c_ne_refl, w_fold, w_2, wC_fold, lt_M, cond_true, cond_false, Bool.and_true, Bool.true_and, Bool.and_false, Bool.false_and, Bool.not_true, Bool.not_false, isZS_0, isZS_1, ↓reduceIte, w_at, w_2, wC_at, wC_2, List.cons.injEq, reduceCtorEq, and_false, false_and, and_true, true_and, if_true, if_false, eq_self, and_self, if_pos, if_neg, Nat.add_zero, cN, cT, cC, cW, cB, cG, cP, S0, S1, S2, S3, S4, S5] at e f
    exact ⟨_, _, _, kI_of e, kI_of f, h0⟩
  by_cases q1 : w < nw
  case neg =>
    simp (disch := omega) only [↓Bool.cond_eq_ite, ↓reduceIte, Bool.false_eq_true, eq_self, n_lit, n_neg, n_add, n_mul, n_sub, n_subM, n_div, n_mod, n_addM, m_div, m_subn, n_tN, n_inS, n_eq_t, n_eq_f, n_ne_t, n_ne_f, n_lt_t, n_lt_f, n_ge_t, n_ge_f, n_gt_t, n_gt_f, n_le_t, n_le_f, mn_eq, mn_ne, mn_lt, mn_ge, mn_gt, mn_le, nm_eq, nm_ne, nm_lt, nm_ge, nm_gt, nm_le, n_gts_t, c_eq_refl, c_ne_refl, w_fold, w_2, wC_fold, lt_M, cond_true, cond_false, Bool.and_true, Bool.true_and, Bool.and_false, Bool.false_and, Bool.not_true, Bool.not_false, isZS_0, isZS_1, ↓reduceIte, w_at, w_2, wC_at, wC_2, List.cons.injEq, reduceCtorEq, and_false, false_and, and_true, true_and, if_true, if_false, eq_self, and_self, if_pos, if_neg, Nat.add_zero, cN, cT, cC, cW, cB, cG, cP, S0, S1, S2, S3, S4, S5] at e f
    exact ⟨_, _, _, kI_of e, kI_of f, h0⟩
  rcases I_cases a2 with ⟨x, x1, rfl⟩ | ⟨x, x0, x1, rfl⟩
  case inr =>
    simp (disch := omega) only [↓Bool.cond_eq_ite, ↓reduceIte, Bool.false_eq_true, eq_self, n_lit, n_neg, n_add, n_mul, n_sub, n_subM, n_div, n_mod, n_addM, m_div, m_subn, n_tN, n_inS, n_eq_t, n_eq_f, n_ne_t, n_ne_f, n_lt_t, n_lt_f, n_ge_t, n_ge_f, n_gt_t, n_gt_f, n_le_t, n_le_f, mn_eq, mn_ne, mn_lt, mn_ge, mn_gt, mn_le, nm_eq, nm_ne, nm_lt, nm_ge, nm_gt, nm_le, n_gts_t, c_eq_refl, c_ne_refl, w_fold, w_2, wC_fold, lt_M, cond_true, cond_false, Bool.and_true, Bool.true_and, Bool.and_false, Bool.false_and, Bool.not_true, Bool.not_false, isZS_0, isZS_1, ↓reduceIte, w_at, w_2, wC_at, wC_2, List.cons.injEq, reduceCtorEq, and_false, false_and, and_true, true_and, if_true, if_false, eq_self, and_self, if_pos, if_neg, Nat.add_zero, cN, cT, cC, cW, cB, cG, cP, S0, S1, S2, S3, S4, S5] at e f
    exact ⟨_, _, _, kI_of e, kI_of f, h0⟩
  by_cases q2 : x ≤ 8
  case neg =>
    simp (disch := omega) only [↓Bool.cond_eq_ite, ↓reduceIte, Bool.false_eq_true, eq_self, n_lit, n_neg, n_add, n_mul, n_sub, n_subM, n_div, n_mod, n_addM, m_div, m_subn, n_tN, n_inS, n_eq_t, n_eq_f, n_ne_t, n_ne_f, n_lt_t, n_lt_f, n_ge_t, n_ge_f, n_gt_t, n_gt_f, n_le_t, n_le_f, mn_eq, mn_ne, mn_lt, mn_ge, mn_gt, mn_le, nm_eq, nm_ne, nm_lt, nm_ge, nm_gt, nm_le, n_gts_t, c_eq_refl, c_ne_refl, w_fold, w_2, wC_fold, lt_M, cond_true, cond_false, Bool.and_true, Bool.true_and, Bool.and_false, Bool.false_and, Bool.not_true, Bool.not_false, isZS_0, isZS_1, ↓reduceIte, w_at, w_2, wC_at, wC_2, List.cons.injEq, reduceCtorEq, and_false, false_and, and_true, true_and, if_true, if_false, eq_self, and_self, if_pos, if_neg, Nat.add_zero, cN, cT, cC, cW, cB, cG, cP, S0, S1, S2, S3, S4, S5] at e f
    exact ⟨_, _, _, kI_of e, kI_of f, h0⟩
  obtain ⟨wa1, wb1, wne, wd1, wd60, wl1, wl30, ws3, ca, ma, cb, mb, cd, md, cl, ml, cs, ms⟩ := g3 w (by omega)
  obtain ⟨⟨pr, pr1, cpr, mpr⟩, ⟨pu, pu1, cpu, mpu⟩, ⟨sh, sh1, csh, msh⟩⟩ := g4 w (by omega)
  have hs1 := s_34 (L := L) (xs := xs) (w := w) (by omega) b24 (rP_rG hP)
  have hs2 := s_177 (L := L) (xs := xs) (w := w) (by omega) b24 (rP_mK hP)
  rw [headsOn_eq (by omega) hP] at hs1
  have hx : x = 0 ∨ x = 1 ∨ x = 2 ∨ x = 3 ∨ x = 4 ∨ x = 5 ∨ x = 6 ∨ x = 7 ∨ x = 8 := by omega
  have hsh : sh = 0 ∨ sh = 1 := by omega
  rcases hsh with rfl | rfl <;> rcases hx with rfl | rfl | rfl | rfl | rfl | rfl | rfl | rfl | rfl <;>
    (simp (disch := omega) only [↓Bool.cond_eq_ite, ↓reduceIte, Bool.false_eq_true, eq_self, n_lit, n_neg, n_add, n_mul, n_sub, n_subM, n_div, n_mod, n_addM, m_div, m_subn, n_tN, n_inS, n_eq_t, n_eq_f, n_ne_t, n_ne_f, n_lt_t, n_lt_f, n_ge_t, n_ge_f, n_gt_t, n_gt_f, n_le_t, n_le_f, mn_eq, mn_ne, mn_lt, mn_ge, mn_gt, mn_le, nm_eq, nm_ne, nm_lt, nm_ge, nm_gt, nm_le, n_gts_t, c_eq_refl, c_ne_refl, w_fold, w_2, wC_fold, lt_M, cond_true, cond_false, Bool.and_true, Bool.true_and, Bool.and_false, Bool.false_and, Bool.not_true, Bool.not_false, isZS_0, isZS_1, ↓reduceIte, w_at, w_2, wC_at, wC_2, List.cons.injEq, reduceCtorEq, and_false, false_and, and_true, true_and, if_true, if_false, eq_self, and_self, if_pos, if_neg, Nat.add_zero, cN, cT, cC, cW, cB, cG, cP, S0, S1, S2, S3, S4, S5, hs1, hs2, Option.bind_some, ca, ma, cb, mb, cd, md, cl, ml, cs, ms, cpr, mpr, cpu, mpu, csh, msh] at e f; exact ⟨_, _, _, kI_of e, kI_of f, h0⟩)
set_option maxRecDepth 8000 in
set_option maxHeartbeats 4000000 in
theorem op_count {a1 : Int32} (h : rI L xs C M hm) : opR L xs 94 160 [vi a1] C M hm := by
  have e := e_94 L xs [0] a1 C
  have f := e_160 L xs [1] a1 M
  have h1 : rI L xs C (wI M [1] 0 (0 : Int32)) hm := rI_ag (agC_refl _) (agM_w0 (by decide) (by decide)) h
  simp only [lt_M, w_fold] at f
  generalize wI M [1] 0 (0 : Int32) = M1 at f h1
  have h0 := h1
  obtain ⟨nc, nw, nb, np, nt, now, kd, wa, wb, wd, wl, ws, hP, hIm, hHi, hTx, hSh, hMi⟩ := h1
  have hP' := hP
  obtain ⟨g1, g2, g3, g4, g5, g6, g7, g8, g9, g10⟩ := hP'
  have hsc := g1
  obtain ⟨cN, cT, cC, cW, cB, cG, cP, S0, S1, S2, S3, S4, S5, b16, b24, b40, b8, b20, b4320⟩ := hsc
  have hle := cntG_le kd nb
  rcases I_cases a1 with ⟨x, x1, rfl⟩ | ⟨x, x0, x1, rfl⟩
  case inr =>
    simp (disch := omega) only [↓Bool.cond_eq_ite, ↓reduceIte, Bool.false_eq_true, eq_self, n_lit, n_neg, n_add, n_mul, n_sub, n_subM, n_div, n_mod, n_addM, m_div, m_subn, n_tN, n_inS, n_eq_t, n_eq_f, n_ne_t, n_ne_f, n_lt_t, n_lt_f, n_ge_t, n_ge_f, n_gt_t, n_gt_f, n_le_t, n_le_f, mn_eq, mn_ne, mn_lt, mn_ge, mn_gt, mn_le, nm_eq, nm_ne, nm_lt, nm_ge, nm_gt, nm_le, n_gts_t, c_eq_refl, c_ne_refl, w_fold, w_2, wC_fold, lt_M, cond_true, cond_false, Bool.and_true, Bool.true_and, Bool.and_false, Bool.false_and, Bool.not_true, Bool.not_false, isZS_0, isZS_1, ↓reduceIte, w_at, w_2, wC_at, wC_2, List.cons.injEq, reduceCtorEq, and_false, false_and, and_true, true_and, if_true, if_false, eq_self, and_self, if_pos, if_neg, Nat.add_zero, cN, cT, cC, cW, cB, cG, cP, S0, S1, S2, S3, S4, S5] at e f
    exact ⟨_, _, _, kI_of e, kI_of f, h0⟩
  by_cases q1 : x ≤ 12
  case neg =>
    simp (disch := omega) only [↓Bool.cond_eq_ite, ↓reduceIte, Bool.false_eq_true, eq_self, n_lit, n_neg, n_add, n_mul, n_sub, n_subM, n_div, n_mod, n_addM, m_div, m_subn, n_tN, n_inS, n_eq_t, n_eq_f, n_ne_t, n_ne_f, n_lt_t, n_lt_f, n_ge_t, n_ge_f, n_gt_t, n_gt_f, n_le_t, n_le_f, mn_eq, mn_ne, mn_lt, mn_ge, mn_gt, mn_le, nm_eq, nm_ne, nm_lt, nm_ge, nm_gt, nm_le, n_gts_t, c_eq_refl, c_ne_refl, w_fold, w_2, wC_fold, lt_M, cond_true, cond_false, Bool.and_true, Bool.true_and, Bool.and_false, Bool.false_and, Bool.not_true, Bool.not_false, isZS_0, isZS_1, ↓reduceIte, w_at, w_2, wC_at, wC_2, List.cons.injEq, reduceCtorEq, and_false, false_and, and_true, true_and, if_true, if_false, eq_self, and_self, if_pos, if_neg, Nat.add_zero, cN, cT, cC, cW, cB, cG, cP, S0, S1, S2, S3, S4, S5] at e f
    exact ⟨_, _, _, kI_of e, kI_of f, h0⟩
  have hop : ∀ b, b < nb → opt (C.1 (b :: 10 :: [0, 0]) 2) (M1.1 [1, 1] (200 + 16 * b)) 16 := fun b hb => by
    obtain ⟨-, ⟨-, hp⟩, -⟩ := g7 b hb
    rcases hp with ⟨-, c, p1, p2, p3, -⟩ | ⟨-, w, e, t, -, -, -, -, p2, p3, -⟩ | ⟨-, p2, p3, -⟩ | ⟨-, -, p2, -⟩
    · exact .inr ⟨c, by omega, p2, p3⟩
    · exact .inl ⟨p2, p3⟩
    · exact .inl ⟨p2, p3⟩
    · exact opt_mono b16 p2
  have hk : ∀ b, b < nb → kd b ≤ 5 ∧ C.1 (b :: 10 :: [0, 0]) 1 = oN (kd b) := fun b hb => by
    obtain ⟨⟨a, -, b, -⟩, -⟩ := g7 b hb
    exact ⟨a, b⟩
  have q6 := s_29 (L := L) (xs := xs) (rP_rG hP)
  have q7 := s_28 (L := L) (xs := xs) (rP_rG hP)
  have q8 := s_27 (L := L) (xs := xs) (rP_rG hP)
  have q9 := s_26 (L := L) (xs := xs) (rP_rG hP)
  have q10 := s_37 (L := L) (xs := xs) (S := M1.1 [1, 1]) cB b40 hk hop
  have q11 := s_30 (L := L) (xs := xs) cC b16
  have r3 := s_176 (L := L) (xs := xs) (rP_mK hP)
  have r6 := s_229 (L := L) (xs := xs) (f := 3) (by omega) (rP_mK hP)
  have r7 := s_229 (L := L) (xs := xs) (f := 7) (by omega) (rP_mK hP)
  have r8 := s_229 (L := L) (xs := xs) (f := 8) (by omega) (rP_mK hP)
  have r9 := s_229 (L := L) (xs := xs) (f := 9) (by omega) (rP_mK hP)
  have r10 := s_160s (L := L) (xs := xs) (rP_mK hP) hop
  have r11 := s_160w (L := L) (xs := xs) S0 b16
  have t6 : sumN (fun b => if kd b = 0 then C.1 (b :: 10 :: [0, 0]) 6 else oN 0) nb = sumN (fun b => if kd b = 0 then M1.1 [1, 1] (200 + 16 * b + 3) else oN 0) nb := sumN_congr (fun b hb => by
    obtain ⟨-, -, ⟨⟨x, -, u6, v6⟩, -⟩, -⟩ := g7 b hb
    rw [u6, v6])
  have t7 : sumN (fun b => if kd b = 0 then C.1 (b :: 10 :: [0, 0]) 13 else oN 0) nb = sumN (fun b => if kd b = 0 then M1.1 [1, 1] (200 + 16 * b + 7) else oN 0) nb := sumN_congr (fun b hb => by rw [(g7 b hb).2.2.1.2.2.2.2.1])
  have t8 : sumN (fun b => if kd b = 0 then C.1 (b :: 10 :: [0, 0]) 14 else oN 0) nb = sumN (fun b => if kd b = 0 then M1.1 [1, 1] (200 + 16 * b + 8) else oN 0) nb := sumN_congr (fun b hb => by rw [(g7 b hb).2.2.1.2.2.2.2.2.1])
  have t9 : sumN (fun b => if kd b = 0 then C.1 (b :: 10 :: [0, 0]) 15 else oN 0) nb = sumN (fun b => if kd b = 0 then M1.1 [1, 1] (200 + 16 * b + 9) else oN 0) nb := sumN_congr (fun b hb => by rw [(g7 b hb).2.2.1.2.2.2.2.2.2])
  have t11 : sumN (fun i => C.1 (5 :: [0, 0]) i) nc = sumN (fun i => M1.1 [1, 1] (10 + i)) nc := sumN_congr (fun i hi => (g2 i hi).2.2)
  rw [t6] at q6
  rw [t7] at q7
  rw [t8] at q8
  rw [t9] at q9
  rw [t11] at q11
  clear t6 t7 t8 t9 t11
  have hx : x = 0 ∨ x = 1 ∨ x = 2 ∨ x = 3 ∨ x = 4 ∨ x = 5 ∨ x = 6 ∨ x = 7 ∨ x = 8 ∨ x = 9 ∨ x = 10 ∨ x = 11 ∨ x = 12 := by omega
  rcases hx with rfl | rfl | rfl | rfl | rfl | rfl | rfl | rfl | rfl | rfl | rfl | rfl | rfl <;>
    (simp (disch := omega) only [↓Bool.cond_eq_ite, ↓reduceIte, Bool.false_eq_true, eq_self, n_lit, n_neg, n_add, n_mul, n_sub, n_subM, n_div, n_mod, n_addM, m_div, m_subn, n_tN, n_inS, n_eq_t, n_eq_f, n_ne_t, n_ne_f, n_lt_t, n_lt_f, n_ge_t, n_ge_f, n_gt_t, n_gt_f, n_le_t, n_le_f, mn_eq, mn_ne, mn_lt, mn_ge, mn_gt, mn_le, nm_eq, nm_ne, nm_lt, nm_ge, nm_gt, nm_le, n_gts_t, c_eq_refl, c_ne_refl, w_fold, w_2, wC_fold, lt_M, cond_true, cond_false, Bool.and_true, Bool.true_and, Bool.and_false, Bool.false_and, Bool.not_true, Bool.not_false, isZS_0, isZS_1, ↓reduceIte, w_at, w_2, wC_at, wC_2, List.cons.injEq, reduceCtorEq, and_false, false_and, and_true, true_and, if_true, if_false, eq_self, and_self, if_pos, if_neg, Nat.add_zero, cN, cT, cC, cW, cB, cG, cP, S0, S1, S2, S3, S4, S5, q6, q7, q8, q9, q10, q11, r3, r6, r7, r8, r9, r10, r11, Option.bind_some] at e f; exact ⟨_, _, _, kI_of e, kI_of f, h0⟩)
end Ops3
