section Min2
variable {L : Nat} {xs : Nat → Int32} {C M : mM} {c nc nw nb np nt now td hm : Nat} {kd wa wb wd wl ws : Nat → Nat}
set_option maxRecDepth 8000 in
set_option maxHeartbeats 4000000 in
theorem fall_ok (hc : c ≠ 4) (hhm : hm ≤ 1000) (hP : rPt [c, 0] (M.1 [1, 1]) C M nc nw nb np nt now td hm kd wa wb wd wl ws) : ∃ C' M', kV L xs 13 [vr 2 [c, 0]] C = some C' ∧ kV L xs 162 [vr 10 [1]] M = some M' ∧ rPt [c, 0] (M'.1 [1, 1]) C' M' nc nw nb np nt now td hm kd wa wb wd wl ws ∧ frC [c, 0] C C' ∧ frM M M' := by
  have h40 : nb ≤ 40 := hP.1.2.2.2.2.2.2.2.2.2.2.2.2.2.2.2.1
  have hsy := syncG (X := fun i C1 => run L xs 13 26 (2, [some (vr 2 [c, 0]), some (vi (oN i)), none, none], [], C1)) (Y := fun b M1 => run L xs 162 26 (2, [some (vr 10 [1]), some (vi (oN b)), none, none], [], M1)) (J := (fun b C1 M1 => rPt [c, 0] (M1.1 [1, 1]) C1 M1 nc nw nb np nt now td hm kd wa wb wd wl ws ∧ frC [c, 0] C C1 ∧ frM M M1)) (nb := nb) kd (by
      intro b C1 M1 hb hJ hk
      obtain ⟨hP, hf, hg⟩ := hJ
      have hP' := hP
      obtain ⟨g1, g2, g3, g4, g5, g6, g7, g8, g9, g10⟩ := hP'
      have hsc := g1
      obtain ⟨cN, cT, cC, cW, cB, cG, cP, S0, S1, S2, S3, S4, S5, b16, b24, b40, b8, b20, b4320⟩ := hsc
      have hle := cntG_le kd nb
      obtain ⟨⟨k5, i0, i1, i11, i7, i8, i16, i14, i17⟩, ⟨p5, hp⟩, ⟨⟨hd, hd1, hd2, hd3⟩, v9, v10, v11, v13, v14, v15⟩, bt, ba⟩ := g7 b hb
      have hi := cntG_lt kd hb hk
      have hgr := g8 b hb hk
      rw [hk] at i11
      rcases hp with ⟨-, u, u1, u2, u3, u4, u5⟩ | ⟨-, w, e, t, w1, e1, t1, t2, u2, u3, u4, u5, u6, u7, u8, u9⟩ | ⟨k4, -⟩ | ⟨k0, -⟩
      · refine ⟨C1, M1, ?_, ?_, hP, hf, hg⟩
        · try dsimp only
          rw [h_13_2]
          simp (disch := omega) only [↓Bool.cond_eq_ite, ↓reduceIte, Bool.false_eq_true, eq_self, n_lit, n_neg, n_add, n_mul, n_sub, n_subM, n_div, n_mod, n_addM, m_div, m_subn, n_tN, n_inS, n_eq_t, n_eq_f, n_ne_t, n_ne_f, n_lt_t, n_lt_f, n_ge_t, n_ge_f, n_gt_t, n_gt_f, n_le_t, n_le_f, mn_eq, mn_ne, mn_lt, mn_ge, mn_gt, mn_le, nm_eq, nm_ne, nm_lt, nm_ge, nm_gt, nm_le, n_gts_t, c_eq_refl, c_ne_refl, w_fold, w_2, wC_fold, lt_M, cond_true, cond_false, Bool.and_true, Bool.true_and, Bool.and_false, Bool.false_and, Bool.not_true, Bool.not_false, isZS_0, isZS_1, cG, hgr, u4]
        · try dsimp only
          rw [h_162_2]
          simp (disch := omega) only [↓Bool.cond_eq_ite, ↓reduceIte, Bool.false_eq_true, eq_self, n_lit, n_neg, n_add, n_mul, n_sub, n_subM, n_div, n_mod, n_addM, m_div, m_subn, n_tN, n_inS, n_eq_t, n_eq_f, n_ne_t, n_ne_f, n_lt_t, n_lt_f, n_ge_t, n_ge_f, n_gt_t, n_gt_f, n_le_t, n_le_f, mn_eq, mn_ne, mn_lt, mn_ge, mn_gt, mn_le, nm_eq, nm_ne, nm_lt, nm_ge, nm_gt, nm_le, n_gts_t, c_eq_refl, c_ne_refl, w_fold, w_2, wC_fold, lt_M, cond_true, cond_false, Bool.and_true, Bool.true_and, Bool.and_false, Bool.false_and, Bool.not_true, Bool.not_false, isZS_0, isZS_1, S2, i11, u5]
      · obtain ⟨-, ⟨p, q1, q2, q3⟩, -⟩ := g4 w w1
        have hmul := Nat.mul_le_mul hd1 q1
        have hmul2 := Nat.mul_le_mul hhm (Nat.mul_le_mul (Nat.le_refl 80) hhm)
        have hmul3 : hm * (80 * hm) ≤ 80000000 := hmul2
        by_cases hpush : p < 20
        · refine ⟨C1, M1, ?_, ?_, hP, hf, hg⟩
          · try dsimp only
            rw [h_13_2]
            simp (disch := omega) only [↓Bool.cond_eq_ite, ↓reduceIte, Bool.false_eq_true, eq_self, n_lit, n_neg, n_add, n_mul, n_sub, n_subM, n_div, n_mod, n_addM, m_div, m_subn, n_tN, n_inS, n_eq_t, n_eq_f, n_ne_t, n_ne_f, n_lt_t, n_lt_f, n_ge_t, n_ge_f, n_gt_t, n_gt_f, n_le_t, n_le_f, mn_eq, mn_ne, mn_lt, mn_ge, mn_gt, mn_le, nm_eq, nm_ne, nm_lt, nm_ge, nm_gt, nm_le, n_gts_t, c_eq_refl, c_ne_refl, w_fold, w_2, wC_fold, lt_M, cond_true, cond_false, Bool.and_true, Bool.true_and, Bool.and_false, Bool.false_and, Bool.not_true, Bool.not_false, isZS_0, isZS_1, cG, hgr, u4, q2]
          · try dsimp only
            rw [h_162_2]
            simp (disch := omega) only [↓Bool.cond_eq_ite, ↓reduceIte, Bool.false_eq_true, eq_self, n_lit, n_neg, n_add, n_mul, n_sub, n_subM, n_div, n_mod, n_addM, m_div, m_subn, n_tN, n_inS, n_eq_t, n_eq_f, n_ne_t, n_ne_f, n_lt_t, n_lt_f, n_ge_t, n_ge_f, n_gt_t, n_gt_f, n_le_t, n_le_f, mn_eq, mn_ne, mn_lt, mn_ge, mn_gt, mn_le, nm_eq, nm_ne, nm_lt, nm_ge, nm_gt, nm_le, n_gts_t, c_eq_refl, c_ne_refl, w_fold, w_2, wC_fold, lt_M, cond_true, cond_false, Bool.and_true, Bool.true_and, Bool.and_false, Bool.false_and, Bool.not_true, Bool.not_false, isZS_0, isZS_1, S2, i11, u5, q3]
        · have key : ∀ x, x ≤ hd → rPt [c, 0] ((wI (wI M1 [1, 1] (200 + 16 * b + 7) (M1.1 [1, 1] (200 + 16 * b + 7) + oN x)) [1, 1] (200 + 16 * b + 3) (oN (hd - x))).1 [1, 1]) (wI (wI C1 [b, 10, c, 0] 6 (oN (hd - x))) [b, 10, c, 0] 13 (M1.1 [1, 1] (200 + 16 * b + 7) + oN x)) (wI (wI M1 [1, 1] (200 + 16 * b + 7) (M1.1 [1, 1] (200 + 16 * b + 7) + oN x)) [1, 1] (200 + 16 * b + 3) (oN (hd - x))) nc nw nb np nt now td hm kd wa wb wd wl ws ∧ frC [c, 0] C (wI (wI C1 [b, 10, c, 0] 6 (oN (hd - x))) [b, 10, c, 0] 13 (M1.1 [1, 1] (200 + 16 * b + 7) + oN x)) ∧ frM M (wI (wI M1 [1, 1] (200 + 16 * b + 7) (M1.1 [1, 1] (200 + 16 * b + 7) + oN x)) [1, 1] (200 + 16 * b + 3) (oN (hd - x))) := fun x hx =>
            ⟨rPt_one (b0 := b) hP (fun q hq => by rw [w_ne hq, w_ne hq]) (fun i h1 h2 => by (simp (disch := omega) only [↓reduceIte, w_at, w_2, List.cons.injEq, reduceCtorEq, and_false, false_and, and_true, true_and, if_true, if_false, eq_self, and_self, if_neg, if_pos, Nat.add_zero])) (fun q hq => by rw [w_ne hq, w_ne hq]) hb
              (rB_setv (by omega) (fun j j6 j9 j10 j11 j13 j14 j15 => by (simp (disch := omega) only [↓reduceIte, w_at, w_2, List.cons.injEq, reduceCtorEq, and_false, false_and, and_true, true_and, if_true, if_false, eq_self, and_self, if_neg, if_pos, Nat.add_zero])) (by rw [w_ne (by simp), w_ne (by simp)]) (by rw [w_ne (by simp), w_ne (by simp)]) (by rw [w_ne (by simp), w_ne (by simp)]) (fun i h1 h2 => by (simp (disch := omega) only [↓reduceIte, w_at, w_2, List.cons.injEq, reduceCtorEq, and_false, false_and, and_true, true_and, if_true, if_false, eq_self, and_self, if_neg, if_pos, Nat.add_zero])) (fun i h1 => by (simp (disch := omega) only [↓reduceIte, w_at, w_2, List.cons.injEq, reduceCtorEq, and_false, false_and, and_true, true_and, if_true, if_false, eq_self, and_self, if_neg, if_pos, Nat.add_zero])) (fun k h1 h2 => by rw [w_ne (by simp; omega), w_ne (by simp; omega)])
                ⟨⟨hd - x, by omega, by (simp (disch := omega) only [↓reduceIte, w_at, w_2, List.cons.injEq, reduceCtorEq, and_false, false_and, and_true, true_and, if_true, if_false, eq_self, and_self, if_neg, if_pos, Nat.add_zero]), by (simp (disch := omega) only [↓reduceIte, w_at, w_2, List.cons.injEq, reduceCtorEq, and_false, false_and, and_true, true_and, if_true, if_false, eq_self, and_self, if_neg, if_pos, Nat.add_zero])⟩, by (simp (disch := omega) only [↓reduceIte, w_at, w_2, List.cons.injEq, reduceCtorEq, and_false, false_and, and_true, true_and, if_true, if_false, eq_self, and_self, if_neg, if_pos, Nat.add_zero, v9, v10, v11, v13, v14, v15]), by (simp (disch := omega) only [↓reduceIte, w_at, w_2, List.cons.injEq, reduceCtorEq, and_false, false_and, and_true, true_and, if_true, if_false, eq_self, and_self, if_neg, if_pos, Nat.add_zero, v9, v10, v11, v13, v14, v15]), by (simp (disch := omega) only [↓reduceIte, w_at, w_2, List.cons.injEq, reduceCtorEq, and_false, false_and, and_true, true_and, if_true, if_false, eq_self, and_self, if_neg, if_pos, Nat.add_zero, v9, v10, v11, v13, v14, v15]), by (simp (disch := omega) only [↓reduceIte, w_at, w_2, List.cons.injEq, reduceCtorEq, and_false, false_and, and_true, true_and, if_true, if_false, eq_self, and_self, if_neg, if_pos, Nat.add_zero, v9, v10, v11, v13, v14, v15]), by (simp (disch := omega) only [↓reduceIte, w_at, w_2, List.cons.injEq, reduceCtorEq, and_false, false_and, and_true, true_and, if_true, if_false, eq_self, and_self, if_neg, if_pos, Nat.add_zero, v9, v10, v11, v13, v14, v15]), by (simp (disch := omega) only [↓reduceIte, w_at, w_2, List.cons.injEq, reduceCtorEq, and_false, false_and, and_true, true_and, if_true, if_false, eq_self, and_self, if_neg, if_pos, Nat.add_zero, v9, v10, v11, v13, v14, v15])⟩ (g7 b hb)),
             frC_trans hf (frC_trans (frC_w (u := [b, 10])) (frC_w (u := [b, 10]))), frM_trans hg (frM_trans frM_w frM_w)⟩
          by_cases hq : hd * p / 500 < hd
          · have e3 : hd - (hd - hd * p / 500) = hd * p / 500 := by omega
            obtain ⟨y1, y2, y3⟩ := key (hd * p / 500) (by omega)
            refine ⟨_, _, ?_, ?_, y1, y2, y3⟩
            · try dsimp only
              rw [h_13_2]
              simp (disch := omega) only [↓Bool.cond_eq_ite, ↓reduceIte, Bool.false_eq_true, eq_self, n_lit, n_neg, n_add, n_mul, n_sub, n_subM, n_div, n_mod, n_addM, m_div, m_subn, n_tN, n_inS, n_eq_t, n_eq_f, n_ne_t, n_ne_f, n_lt_t, n_lt_f, n_ge_t, n_ge_f, n_gt_t, n_gt_f, n_le_t, n_le_f, mn_eq, mn_ne, mn_lt, mn_ge, mn_gt, mn_le, nm_eq, nm_ne, nm_lt, nm_ge, nm_gt, nm_le, n_gts_t, c_eq_refl, c_ne_refl, w_fold, w_2, wC_fold, lt_M, cond_true, cond_false, Bool.and_true, Bool.true_and, Bool.and_false, Bool.false_and, Bool.not_true, Bool.not_false, isZS_0, isZS_1, ↓reduceIte, cG, hgr, u4, q2, hd2, n_ltI, if_pos, w_at, List.cons.injEq, reduceCtorEq, and_false, false_and, and_true, true_and, if_true, if_false, eq_self, and_self, if_neg, v13]
            · try dsimp only
              rw [h_162_2]
              simp (disch := omega) only [↓Bool.cond_eq_ite, ↓reduceIte, Bool.false_eq_true, eq_self, n_lit, n_neg, n_add, n_mul, n_sub, n_subM, n_div, n_mod, n_addM, m_div, m_subn, n_tN, n_inS, n_eq_t, n_eq_f, n_ne_t, n_ne_f, n_lt_t, n_lt_f, n_ge_t, n_ge_f, n_gt_t, n_gt_f, n_le_t, n_le_f, mn_eq, mn_ne, mn_lt, mn_ge, mn_gt, mn_le, nm_eq, nm_ne, nm_lt, nm_ge, nm_gt, nm_le, n_gts_t, c_eq_refl, c_ne_refl, w_fold, w_2, wC_fold, lt_M, cond_true, cond_false, Bool.and_true, Bool.true_and, Bool.and_false, Bool.false_and, Bool.not_true, Bool.not_false, isZS_0, isZS_1, ↓reduceIte, S2, i11, u5, q3, hd3, w_at, List.cons.injEq, reduceCtorEq, and_false, false_and, and_true, true_and, if_true, if_false, eq_self, and_self, if_neg, if_pos]
          · obtain ⟨y1, y2, y3⟩ := key hd (Nat.le_refl _)
            refine ⟨_, _, ?_, ?_, y1, y2, y3⟩
            · try dsimp only
              rw [h_13_2]
              simp (disch := omega) only [↓Bool.cond_eq_ite, ↓reduceIte, Bool.false_eq_true, eq_self, n_lit, n_neg, n_add, n_mul, n_sub, n_subM, n_div, n_mod, n_addM, m_div, m_subn, n_tN, n_inS, n_eq_t, n_eq_f, n_ne_t, n_ne_f, n_lt_t, n_lt_f, n_ge_t, n_ge_f, n_gt_t, n_gt_f, n_le_t, n_le_f, mn_eq, mn_ne, mn_lt, mn_ge, mn_gt, mn_le, nm_eq, nm_ne, nm_lt, nm_ge, nm_gt, nm_le, n_gts_t, c_eq_refl, c_ne_refl, w_fold, w_2, wC_fold, lt_M, cond_true, cond_false, Bool.and_true, Bool.true_and, Bool.and_false, Bool.false_and, Bool.not_true, Bool.not_false, isZS_0, isZS_1, ↓reduceIte, cG, hgr, u4, q2, hd2, n_ltI, if_pos, w_at, List.cons.injEq, reduceCtorEq, and_false, false_and, and_true, true_and, if_true, if_false, eq_self, and_self, if_neg, v13]
            · try dsimp only
              rw [h_162_2]
              by_cases hq2 : hd * p / 500 = hd
              · simp (disch := omega) only [↓Bool.cond_eq_ite, ↓reduceIte, Bool.false_eq_true, eq_self, n_lit, n_neg, n_add, n_mul, n_sub, n_subM, n_div, n_mod, n_addM, m_div, m_subn, n_tN, n_inS, n_eq_t, n_eq_f, n_ne_t, n_ne_f, n_lt_t, n_lt_f, n_ge_t, n_ge_f, n_gt_t, n_gt_f, n_le_t, n_le_f, mn_eq, mn_ne, mn_lt, mn_ge, mn_gt, mn_le, nm_eq, nm_ne, nm_lt, nm_ge, nm_gt, nm_le, n_gts_t, c_eq_refl, c_ne_refl, w_fold, w_2, wC_fold, lt_M, cond_true, cond_false, Bool.and_true, Bool.true_and, Bool.and_false, Bool.false_and, Bool.not_true, Bool.not_false, isZS_0, isZS_1, ↓reduceIte, S2, i11, u5, q3, hd3, w_at, List.cons.injEq, reduceCtorEq, and_false, false_and, and_true, true_and, if_true, if_false, eq_self, and_self, if_neg, if_pos, hq2]
              · simp (disch := omega) only [↓Bool.cond_eq_ite, ↓reduceIte, Bool.false_eq_true, eq_self, n_lit, n_neg, n_add, n_mul, n_sub, n_subM, n_div, n_mod, n_addM, m_div, m_subn, n_tN, n_inS, n_eq_t, n_eq_f, n_ne_t, n_ne_f, n_lt_t, n_lt_f, n_ge_t, n_ge_f, n_gt_t, n_gt_f, n_le_t, n_le_f, mn_eq, mn_ne, mn_lt, mn_ge, mn_gt, mn_le, nm_eq, nm_ne, nm_lt, nm_ge, nm_gt, nm_le, n_gts_t, c_eq_refl, c_ne_refl, w_fold, w_2, wC_fold, lt_M, cond_true, cond_false, Bool.and_true, Bool.true_and, Bool.and_false, Bool.false_and, Bool.not_true, Bool.not_false, isZS_0, isZS_1, ↓reduceIte, S2, i11, u5, q3, hd3, w_at, List.cons.injEq, reduceCtorEq, and_false, false_and, and_true, true_and, if_true, if_false, eq_self, and_self, if_neg, if_pos]
      · omega
      · exact absurd hk k0) (by
      intro b C1 M1 hb hJ hk
      obtain ⟨hP, hf, hg⟩ := hJ
      have hP' := hP
      obtain ⟨g1, g2, g3, g4, g5, g6, g7, g8, g9, g10⟩ := hP'
      have hsc := g1
      obtain ⟨cN, cT, cC, cW, cB, cG, cP, S0, S1, S2, S3, S4, S5, b16, b24, b40, b8, b20, b4320⟩ := hsc
      have hle := cntG_le kd nb
      have i11 := (g7 b hb).1.2.2.2.1
      have i5 := (g7 b hb).1.1
      refine ⟨M1, ?_, hP, hf, hg⟩
      try dsimp only
      rw [h_162_2]
      simp (disch := omega) only [↓Bool.cond_eq_ite, ↓reduceIte, Bool.false_eq_true, eq_self, n_lit, n_neg, n_add, n_mul, n_sub, n_subM, n_div, n_mod, n_addM, m_div, m_subn, n_tN, n_inS, n_eq_t, n_eq_f, n_ne_t, n_ne_f, n_lt_t, n_lt_f, n_ge_t, n_ge_f, n_gt_t, n_gt_f, n_le_t, n_le_f, mn_eq, mn_ne, mn_lt, mn_ge, mn_gt, mn_le, nm_eq, nm_ne, nm_lt, nm_ge, nm_gt, nm_le, n_gts_t, c_eq_refl, c_ne_refl, w_fold, w_2, wC_fold, lt_M, cond_true, cond_false, Bool.and_true, Bool.true_and, Bool.and_false, Bool.false_and, Bool.not_true, Bool.not_false, isZS_0, isZS_1, S2, i11])
  obtain ⟨C', M', x1, x2, hJ⟩ := hsy nb (Nat.le_refl _) C M ⟨hP, frC_refl, frM_refl⟩
  obtain ⟨hP, hf, hg⟩ := hJ
  have hP' := hP
  obtain ⟨g1, g2, g3, g4, g5, g6, g7, g8, g9, g10⟩ := hP'
  have hsc := g1
  obtain ⟨cN, cT, cC, cW, cB, cG, cP, S0, S1, S2, S3, S4, S5, b16, b24, b40, b8, b20, b4320⟩ := hsc
  have hle := cntG_le kd nb
  try dsimp only at x1
  try dsimp only at x2
  exact ⟨C', M', kV_of (by rw [e_13]; simp only [n_lit]; rw [x1, h_13_2]; simp (disch := omega) only [↓Bool.cond_eq_ite, ↓reduceIte, Bool.false_eq_true, eq_self, n_lit, n_neg, n_add, n_mul, n_sub, n_subM, n_div, n_mod, n_addM, m_div, m_subn, n_tN, n_inS, n_eq_t, n_eq_f, n_ne_t, n_ne_f, n_lt_t, n_lt_f, n_ge_t, n_ge_f, n_gt_t, n_gt_f, n_le_t, n_le_f, mn_eq, mn_ne, mn_lt, mn_ge, mn_gt, mn_le, nm_eq, nm_ne, nm_lt, nm_ge, nm_gt, nm_le, n_gts_t, c_eq_refl, c_ne_refl, w_fold, w_2, wC_fold, lt_M, cond_true, cond_false, Bool.and_true, Bool.true_and, Bool.and_false, Bool.false_and, Bool.not_true, Bool.not_false, isZS_0, isZS_1, cG]), kV_of (by rw [e_162]; simp only [n_lit]; rw [x2, h_162_2]; simp (disch := omega) only [↓Bool.cond_eq_ite, ↓reduceIte, Bool.false_eq_true, eq_self, n_lit, n_neg, n_add, n_mul, n_sub, n_subM, n_div, n_mod, n_addM, m_div, m_subn, n_tN, n_inS, n_eq_t, n_eq_f, n_ne_t, n_ne_f, n_lt_t, n_lt_f, n_ge_t, n_ge_f, n_gt_t, n_gt_f, n_le_t, n_le_f, mn_eq, mn_ne, mn_lt, mn_ge, mn_gt, mn_le, nm_eq, nm_ne, nm_lt, nm_ge, nm_gt, nm_le, n_gts_t, c_eq_refl, c_ne_refl, w_fold, w_2, wC_fold, lt_M, cond_true, cond_false, Bool.and_true, Bool.true_and, Bool.and_false, Bool.false_and, Bool.not_true, Bool.not_false, isZS_0, isZS_1, S2]), hP, hf, hg⟩

end Min2
