section Ops17
variable {L : Nat} {xs : Nat → Int32} {C C' M M' : mM} {hm : Nat} {nc nw nb np nt now : Nat} {kd wa wb wd wl ws : Nat → Nat}
theorem dist_ok {u v : Nat} (hu : u < nc) (hv : v < nc) (hx : rIx L xs C M nc nw nb np nt now hm kd wa wb wd wl ws) :
    ∃ d C' M', d ≤ 1000000 ∧ kV L xs 77 [vr 8 [6, 0, 0], vi (oN nc)] C = some C' ∧ C'.1 [12, 6, 0, 0] (u * 16 + v) = oN d ∧ kV L xs 167 [vr 10 [1], vi (oN v)] M = some M' ∧ M'.1 [27, 1] u = oN d ∧ rIx L xs C' M' nc nw nb np nt now hm kd wa wb wd wl ws ∧ (∀ z, z ≠ [6, 0, 0] → z ≠ [12, 6, 0, 0] → C'.1 z = C.1 z) ∧ M'.1 [1, 1] = M.1 [1, 1] ∧ C'.2 = C.2 ∧ M'.2 = M.2 := by
  obtain ⟨hP, hIm, hHi, hTx, hSh, h26⟩ := hx
  have hPt : rPt [0, 0] (M.1 [1, 1]) C M nc nw nb np nt now now hm kd wa wb wd wl ws := hP
  obtain ⟨C', c1, c2, c3, c4, c5, c6⟩ := reckon_ok (L := L) (xs := xs) (rPt_cWy hPt) hP.2.2.2.2.2.2.2.2.2
  obtain ⟨M', m1, m2, m3, m4⟩ := findFar_ok (L := L) (xs := xs) (rPt_mWy hPt) hv
  obtain ⟨d, d1, d2⟩ := c6 u v hu hv
  have b16 : nc ≤ 16 := hP.1.2.2.2.2.2.2.2.2.2.2.2.2.2.1
  obtain ⟨d', e1, e2⟩ := m4 u (by omega)
  have hdd : d = d' := wD_inj d2 e2
  subst hdd
  have f0 : ∀ t a b, (a ≠ 0 ∨ b ≠ 0) → C'.1 (t ++ [a, b]) = C.1 (t ++ [a, b]) := fun t a b h => by
    refine c3 _ (fun e => ?_) (fun e => ?_) <;>
    · have := congrArg (fun l => l.reverse.take 2) e
      simp at this; omega
  have hk : ∀ k, k ≠ 27 → M'.1 [k, 1] = M.1 [k, 1] := fun k h1 => m3 _ (by simp [h1])
  have hr : M'.1 [1] = M.1 [1] := m3 _ (by simp)
  have hg : mAg M M' nc nw nb np := mAg_of (fun k h1 h2 => hk k (by omega))
  refine ⟨d, C', M', d2.1, c1, d1, m1, e1, ⟨?_, ?_, ?_, ?_, ?_, ?_⟩, c3, hk 1 (by omega), c2, m2⟩
  · have := rPt_free hPt (C' := C') (M' := M') (fun q _ h1 h2 => c3 q h1 h2) c4 (.inr ⟨c5, c6⟩) (fun i _ => by rw [hk 1 (by omega)]) (fun k h1 h2 => hk k (by omega))
    exact this
  · exact rIm_congr (fun t => f0 t 1 0 (by omega)) (by rw [c3 [0] (by simp) (by simp)]) (by rw [hr]) (fun i _ => by rw [hk 2 (by omega)]) hg (Nat.le_refl _) (Nat.le_refl _) (Nat.le_refl _) (Nat.le_refl _) (Nat.le_refl _) (Nat.le_refl _) hIm
  · exact rHi_congr (f0 [0] 5 0 (by omega)) (by rw [c2]) (hk 20 (by omega)) (hk 21 (by omega)) (hk 22 (by omega)) (hk 23 (by omega)) (hk 24 (by omega)) (hk 25 (by omega)) (fun b _ => by rw [hk 16 (by omega)]) hHi
  · exact rTx_congr (f0 [0] 4 0 (by omega)) (f0 [1] 4 0 (by omega)) (hk 18 (by omega)) (hk 19 (by omega)) hTx
  · exact rSh_congr (fun t => f0 t 6 0 (by omega)) (hk 52 (by omega)) (hk 53 (by omega)) (hk 54 (by omega)) (hk 55 (by omega)) (hk 56 (by omega)) (by rw [m2]) hSh
  · rw [hr]; exact h26
set_option maxRecDepth 8000 in
set_option maxHeartbeats 4000000 in
theorem op_bring {a1 a2 : Int32} (h : rI L xs C M hm) : opR L xs 87 153 [vi a1, vi a2] C M hm := by
  have e := e_87 L xs [0] a1 a2 C
  have f := e_153 L xs [1] a1 a2 M
  have h1 : rI L xs C (wI M [1] 0 (0 : Int32)) hm := rI_ag (agC_refl _) (agM_w0 (by decide) (by decide)) h
  simp only [lt_M, w_fold] at f
  generalize wI M [1] 0 (0 : Int32) = M1 at f h1
  have h0 := h1
  obtain ⟨nc, nw, nb, np, nt, now, kd, wa, wb, wd, wl, ws, hP, hIm, hHi, hTx, hSh, hMi⟩ := h1
  have hP' := hP
  obtain ⟨g1, g2, g3, g4, g5, g6, g7, g8, g9, g10⟩ := hP'
  have hsc := g1
  obtain ⟨cN, cT, cC, cW, cB, cG, cP, S0, S1, S2, S3, S4, S5, b16, b24, b40, b8, b20, b4320⟩ := hsc
  have hle := cntG_le kd nb
  rcases I_cases a1 with ⟨s, s1, rfl⟩ | ⟨s, s0, s1, rfl⟩
  case inr =>
    simp (disch := omega) only [↓Bool.cond_eq_ite, ↓reduceIte, Bool.false_eq_true, eq_self, n_lit, n_neg, n_add, n_mul, n_sub, n_subM, n_div, n_mod, n_addM, m_div, m_subn, n_tN, n_inS, n_eq_t, n_eq_f, n_ne_t, n_ne_f, n_lt_t, n_lt_f, n_ge_t, n_ge_f, n_gt_t, n_gt_f, n_le_t, n_le_f, mn_eq, mn_ne, mn_lt, mn_ge, mn_gt, mn_le, nm_eq, nm_ne, nm_lt, nm_ge, nm_gt, nm_le, n_gts_t, c_eq_refl, c_ne_refl, w_fold, w_2, wC_fold, lt_M, cond_true, cond_false, Bool.and_true, Bool.true_and, Bool.and_false, Bool.false_and, Bool.not_true, Bool.not_false, isZS_0, isZS_1, ↓reduceIte, w_at, w_2, wC_at, wC_2, List.cons.injEq, reduceCtorEq, and_false, false_and, and_true, true_and, if_true, if_false, eq_self, and_self, if_pos, if_neg, Nat.add_zero, cN, cT, cC, cW, cB, cG, cP, S0, S1, S2, S3, S4, S5] at e f
    exact ⟨_, _, _, kI_of e, kI_of f, h0⟩
  by_cases q1 : s < nb
  case neg =>
    simp (disch := omega) only [↓Bool.cond_eq_ite, ↓reduceIte, Bool.false_eq_true, eq_self, n_lit, n_neg, n_add, n_mul, n_sub, n_subM, n_div, n_mod, n_addM, m_div, m_subn, n_tN, n_inS, n_eq_t, n_eq_f, n_ne_t, n_ne_f, n_lt_t, n_lt_f, n_ge_t, n_ge_f, n_gt_t, n_gt_f, n_le_t, n_le_f, mn_eq, mn_ne, mn_lt, mn_ge, mn_gt, mn_le, nm_eq, nm_ne, nm_lt, nm_ge, nm_gt, nm_le, n_gts_t, c_eq_refl, c_ne_refl, w_fold, w_2, wC_fold, lt_M, cond_true, cond_false, Bool.and_true, Bool.true_and, Bool.and_false, Bool.false_and, Bool.not_true, Bool.not_false, isZS_0, isZS_1, ↓reduceIte, w_at, w_2, wC_at, wC_2, List.cons.injEq, reduceCtorEq, and_false, false_and, and_true, true_and, if_true, if_false, eq_self, and_self, if_pos, if_neg, Nat.add_zero, cN, cT, cC, cW, cB, cG, cP, S0, S1, S2, S3, S4, S5] at e f
    exact ⟨_, _, _, kI_of e, kI_of f, h0⟩
  obtain ⟨j1, j2, j3⟩ : C.1 [s, 10, 0, 0] 1 = oN (kd s) ∧ M1.1 [11, 1] s = oN (kd s) ∧ kd s ≤ 5 := by
    obtain ⟨⟨a, -, b, c, -⟩, -⟩ := g7 s (by omega)
    exact ⟨b, c, a⟩
  by_cases jk : kd s = 1
  case neg =>
    simp (disch := omega) only [↓Bool.cond_eq_ite, ↓reduceIte, Bool.false_eq_true, eq_self, n_lit, n_neg, n_add, n_mul, n_sub, n_subM, n_div, n_mod, n_addM, m_div, m_subn, n_tN, n_inS, n_eq_t, n_eq_f, n_ne_t, n_ne_f, n_lt_t, n_lt_f, n_ge_t, n_ge_f, n_gt_t, n_gt_f, n_le_t, n_le_f, mn_eq, mn_ne, mn_lt, mn_ge, mn_gt, mn_le, nm_eq, nm_ne, nm_lt, nm_ge, nm_gt, nm_le, n_gts_t, c_eq_refl, c_ne_refl, w_fold, w_2, wC_fold, lt_M, cond_true, cond_false, Bool.and_true, Bool.true_and, Bool.and_false, Bool.false_and, Bool.not_true, Bool.not_false, isZS_0, isZS_1, ↓reduceIte, w_at, w_2, wC_at, wC_2, List.cons.injEq, reduceCtorEq, and_false, false_and, and_true, true_and, if_true, if_false, eq_self, and_self, if_pos, if_neg, Nat.add_zero, cN, cT, cC, cW, cB, cG, cP, S0, S1, S2, S3, S4, S5, j1, j2] at e f
    exact ⟨_, _, _, kI_of e, kI_of f, h0⟩
  rw [jk] at j1 j2
  rcases I_cases a2 with ⟨u, u1, rfl⟩ | ⟨u, u0, u1, rfl⟩
  case inr =>
    simp (disch := omega) only [↓Bool.cond_eq_ite, ↓reduceIte, Bool.false_eq_true, eq_self, n_lit, n_neg, n_add, n_mul, n_sub, n_subM, n_div, n_mod, n_addM, m_div, m_subn, n_tN, n_inS, n_eq_t, n_eq_f, n_ne_t, n_ne_f, n_lt_t, n_lt_f, n_ge_t, n_ge_f, n_gt_t, n_gt_f, n_le_t, n_le_f, mn_eq, mn_ne, mn_lt, mn_ge, mn_gt, mn_le, nm_eq, nm_ne, nm_lt, nm_ge, nm_gt, nm_le, n_gts_t, c_eq_refl, c_ne_refl, w_fold, w_2, wC_fold, lt_M, cond_true, cond_false, Bool.and_true, Bool.true_and, Bool.and_false, Bool.false_and, Bool.not_true, Bool.not_false, isZS_0, isZS_1, ↓reduceIte, w_at, w_2, wC_at, wC_2, List.cons.injEq, reduceCtorEq, and_false, false_and, and_true, true_and, if_true, if_false, eq_self, and_self, if_pos, if_neg, Nat.add_zero, cN, cT, cC, cW, cB, cG, cP, S0, S1, S2, S3, S4, S5, j1, j2] at e f
    exact ⟨_, _, _, kI_of e, kI_of f, h0⟩
  by_cases q2 : u < nb
  case neg =>
    simp (disch := omega) only [↓Bool.cond_eq_ite, ↓reduceIte, Bool.false_eq_true, eq_self, n_lit, n_neg, n_add, n_mul, n_sub, n_subM, n_div, n_mod, n_addM, m_div, m_subn, n_tN, n_inS, n_eq_t, n_eq_f, n_ne_t, n_ne_f, n_lt_t, n_lt_f, n_ge_t, n_ge_f, n_gt_t, n_gt_f, n_le_t, n_le_f, mn_eq, mn_ne, mn_lt, mn_ge, mn_gt, mn_le, nm_eq, nm_ne, nm_lt, nm_ge, nm_gt, nm_le, n_gts_t, c_eq_refl, c_ne_refl, w_fold, w_2, wC_fold, lt_M, cond_true, cond_false, Bool.and_true, Bool.true_and, Bool.and_false, Bool.false_and, Bool.not_true, Bool.not_false, isZS_0, isZS_1, ↓reduceIte, w_at, w_2, wC_at, wC_2, List.cons.injEq, reduceCtorEq, and_false, false_and, and_true, true_and, if_true, if_false, eq_self, and_self, if_pos, if_neg, Nat.add_zero, cN, cT, cC, cW, cB, cG, cP, S0, S1, S2, S3, S4, S5, j1, j2] at e f
    exact ⟨_, _, _, kI_of e, kI_of f, h0⟩
  obtain ⟨k1, k2, k3⟩ : C.1 [u, 10, 0, 0] 1 = oN (kd u) ∧ M1.1 [11, 1] u = oN (kd u) ∧ kd u ≤ 5 := by
    obtain ⟨⟨a, -, b, c, -⟩, -⟩ := g7 u (by omega)
    exact ⟨b, c, a⟩
  by_cases kk : kd u = 0
  case neg =>
    simp (disch := omega) only [↓Bool.cond_eq_ite, ↓reduceIte, Bool.false_eq_true, eq_self, n_lit, n_neg, n_add, n_mul, n_sub, n_subM, n_div, n_mod, n_addM, m_div, m_subn, n_tN, n_inS, n_eq_t, n_eq_f, n_ne_t, n_ne_f, n_lt_t, n_lt_f, n_ge_t, n_ge_f, n_gt_t, n_gt_f, n_le_t, n_le_f, mn_eq, mn_ne, mn_lt, mn_ge, mn_gt, mn_le, nm_eq, nm_ne, nm_lt, nm_ge, nm_gt, nm_le, n_gts_t, c_eq_refl, c_ne_refl, w_fold, w_2, wC_fold, lt_M, cond_true, cond_false, Bool.and_true, Bool.true_and, Bool.and_false, Bool.false_and, Bool.not_true, Bool.not_false, isZS_0, isZS_1, ↓reduceIte, w_at, w_2, wC_at, wC_2, List.cons.injEq, reduceCtorEq, and_false, false_and, and_true, true_and, if_true, if_false, eq_self, and_self, if_pos, if_neg, Nat.add_zero, cN, cT, cC, cW, cB, cG, cP, S0, S1, S2, S3, S4, S5, k1, k2, j1, j2] at e f
    exact ⟨_, _, _, kI_of e, kI_of f, h0⟩
  rw [kk] at k1 k2
  rcases opt_say (by omega) (rBp_opt b16 (g7 s (by omega)).2.1) with ⟨-, y2, y1⟩ | ⟨-, -, y2, c0, hc0, y1⟩
  · simp (disch := omega) only [↓Bool.cond_eq_ite, ↓reduceIte, Bool.false_eq_true, eq_self, n_lit, n_neg, n_add, n_mul, n_sub, n_subM, n_div, n_mod, n_addM, m_div, m_subn, n_tN, n_inS, n_eq_t, n_eq_f, n_ne_t, n_ne_f, n_lt_t, n_lt_f, n_ge_t, n_ge_f, n_gt_t, n_gt_f, n_le_t, n_le_f, mn_eq, mn_ne, mn_lt, mn_ge, mn_gt, mn_le, nm_eq, nm_ne, nm_lt, nm_ge, nm_gt, nm_le, n_gts_t, c_eq_refl, c_ne_refl, w_fold, w_2, wC_fold, lt_M, cond_true, cond_false, Bool.and_true, Bool.true_and, Bool.and_false, Bool.false_and, Bool.not_true, Bool.not_false, isZS_0, isZS_1, ↓reduceIte, w_at, w_2, wC_at, wC_2, List.cons.injEq, reduceCtorEq, and_false, false_and, and_true, true_and, if_true, if_false, eq_self, and_self, if_pos, if_neg, Nat.add_zero, cN, cT, cC, cW, cB, cG, cP, S0, S1, S2, S3, S4, S5, j1, j2, k1, k2, y1, y2] at e f
    exact ⟨_, _, _, kI_of e, kI_of f, h0⟩
  rw [y1] at y2
  have hs0 : c0 < nc := by
    obtain ⟨-, ⟨-, hp⟩, -⟩ := g7 s (by omega)
    rcases hp with ⟨e9, -⟩ | ⟨e9, -⟩ | ⟨e9, -⟩ | ⟨-, -, ho, -⟩
    · omega
    · omega
    · omega
    · rcases ho with ⟨z1, -⟩ | ⟨z, z0, z1, -⟩
      · exact absurd (y1.symm.trans z1) (oN_oM (by omega) (by omega) (by omega))
      · have := (n_inj (by omega) (by omega)).mp (y1.symm.trans z1)
        omega
  obtain ⟨-, ⟨-, gp⟩, -⟩ := g7 u (by omega)
  rcases gp with ⟨-, v, v0, v1, v2, -⟩ | ⟨-, w, v, t, w0, v0, t0, t1, p1, p2, p3, p4, p5, p6, -⟩ | ⟨e9, -⟩ | ⟨e9, -⟩
  · obtain ⟨d, C', M', x1, x2, x3, x4, x5, x6, x7, x8, -⟩ := dist_ok (L := L) (xs := xs) hs0 v0 (⟨hP, hIm, hHi, hTx, hSh, hMi⟩ : rIx L xs C M1 nc nw nb np nt now hm kd wa wb wd wl ws)
    have x8s := congrFun x8 (200 + 16 * s)
    rw [y2] at x8s
    have x3 : C'.1 [12, 6, 0, 0] (c0 * 16 + v) = oN d := x3
    by_cases hd9 : 1000000 ≤ d
    · simp (disch := omega) only [↓Bool.cond_eq_ite, ↓reduceIte, Bool.false_eq_true, eq_self, n_lit, n_neg, n_add, n_mul, n_sub, n_subM, n_div, n_mod, n_addM, m_div, m_subn, n_tN, n_inS, n_eq_t, n_eq_f, n_ne_t, n_ne_f, n_lt_t, n_lt_f, n_ge_t, n_ge_f, n_gt_t, n_gt_f, n_le_t, n_le_f, mn_eq, mn_ne, mn_lt, mn_ge, mn_gt, mn_le, nm_eq, nm_ne, nm_lt, nm_ge, nm_gt, nm_le, n_gts_t, c_eq_refl, c_ne_refl, w_fold, w_2, wC_fold, lt_M, cond_true, cond_false, Bool.and_true, Bool.true_and, Bool.and_false, Bool.false_and, Bool.not_true, Bool.not_false, isZS_0, isZS_1, ↓reduceIte, w_at, w_2, wC_at, wC_2, List.cons.injEq, reduceCtorEq, and_false, false_and, and_true, true_and, if_true, if_false, eq_self, and_self, if_pos, if_neg, Nat.add_zero, cN, cT, cC, cW, cB, cG, cP, S0, S1, S2, S3, S4, S5, y1, y2, j1, j2, k1, k2, v1, v2, cC, x3, x8s, x2, x4, x5, Option.bind_some] at e f
      exact ⟨_, _, _, kI_of e, kI_of f, rIx_I x6⟩
    · simp (disch := omega) only [↓Bool.cond_eq_ite, ↓reduceIte, Bool.false_eq_true, eq_self, n_lit, n_neg, n_add, n_mul, n_sub, n_subM, n_div, n_mod, n_addM, m_div, m_subn, n_tN, n_inS, n_eq_t, n_eq_f, n_ne_t, n_ne_f, n_lt_t, n_lt_f, n_ge_t, n_ge_f, n_gt_t, n_gt_f, n_le_t, n_le_f, mn_eq, mn_ne, mn_lt, mn_ge, mn_gt, mn_le, nm_eq, nm_ne, nm_lt, nm_ge, nm_gt, nm_le, n_gts_t, c_eq_refl, c_ne_refl, w_fold, w_2, wC_fold, lt_M, cond_true, cond_false, Bool.and_true, Bool.true_and, Bool.and_false, Bool.false_and, Bool.not_true, Bool.not_false, isZS_0, isZS_1, ↓reduceIte, w_at, w_2, wC_at, wC_2, List.cons.injEq, reduceCtorEq, and_false, false_and, and_true, true_and, if_true, if_false, eq_self, and_self, if_pos, if_neg, Nat.add_zero, cN, cT, cC, cW, cB, cG, cP, S0, S1, S2, S3, S4, S5, y1, y2, j1, j2, k1, k2, v1, v2, cC, x3, x8s, x2, x4, x5, Option.bind_some] at e f
      exact ⟨_, _, _, kI_of e, kI_of f, rIx_I x6⟩

  · obtain ⟨d, C', M', x1, x2, x3, x4, x5, x6, x7, x8, -⟩ := dist_ok (L := L) (xs := xs) hs0 v0 (⟨hP, hIm, hHi, hTx, hSh, hMi⟩ : rIx L xs C M1 nc nw nb np nt now hm kd wa wb wd wl ws)
    have x8s := congrFun x8 (200 + 16 * s)
    rw [y2] at x8s
    by_cases hd9 : 1000000 ≤ d
    · simp (disch := omega) only [↓Bool.cond_eq_ite, ↓reduceIte, Bool.false_eq_true, eq_self, n_lit, n_neg, n_add, n_mul, n_sub, n_subM, n_div, n_mod, n_addM, m_div, m_subn, n_tN, n_inS, n_eq_t, n_eq_f, n_ne_t, n_ne_f, n_lt_t, n_lt_f, n_ge_t, n_ge_f, n_gt_t, n_gt_f, n_le_t, n_le_f, mn_eq, mn_ne, mn_lt, mn_ge, mn_gt, mn_le, nm_eq, nm_ne, nm_lt, nm_ge, nm_gt, nm_le, n_gts_t, c_eq_refl, c_ne_refl, w_fold, w_2, wC_fold, lt_M, cond_true, cond_false, Bool.and_true, Bool.true_and, Bool.and_false, Bool.false_and, Bool.not_true, Bool.not_false, isZS_0, isZS_1, ↓reduceIte, w_at, w_2, wC_at, wC_2, List.cons.injEq, reduceCtorEq, and_false, false_and, and_true, true_and, if_true, if_false, eq_self, and_self, if_pos, if_neg, Nat.add_zero, cN, cT, cC, cW, cB, cG, cP, S0, S1, S2, S3, S4, S5, y1, y2, j1, j2, k1, k2, p1, p2, p5, p6, cC, x3, x8s, x2, x4, x5, Option.bind_some] at e f
      exact ⟨_, _, _, kI_of e, kI_of f, rIx_I x6⟩
    · simp (disch := omega) only [↓Bool.cond_eq_ite, ↓reduceIte, Bool.false_eq_true, eq_self, n_lit, n_neg, n_add, n_mul, n_sub, n_subM, n_div, n_mod, n_addM, m_div, m_subn, n_tN, n_inS, n_eq_t, n_eq_f, n_ne_t, n_ne_f, n_lt_t, n_lt_f, n_ge_t, n_ge_f, n_gt_t, n_gt_f, n_le_t, n_le_f, mn_eq, mn_ne, mn_lt, mn_ge, mn_gt, mn_le, nm_eq, nm_ne, nm_lt, nm_ge, nm_gt, nm_le, n_gts_t, c_eq_refl, c_ne_refl, w_fold, w_2, wC_fold, lt_M, cond_true, cond_false, Bool.and_true, Bool.true_and, Bool.and_false, Bool.false_and, Bool.not_true, Bool.not_false, isZS_0, isZS_1, ↓reduceIte, w_at, w_2, wC_at, wC_2, List.cons.injEq, reduceCtorEq, and_false, false_and, and_true, true_and, if_true, if_false, eq_self, and_self, if_pos, if_neg, Nat.add_zero, cN, cT, cC, cW, cB, cG, cP, S0, S1, S2, S3, S4, S5, y1, y2, j1, j2, k1, k2, p1, p2, p5, p6, cC, x3, x8s, x2, x4, x5, Option.bind_some] at e f
      exact ⟨_, _, _, kI_of e, kI_of f, rIx_I x6⟩

  · omega
  · exact absurd kk e9

end Ops17
