section Ops15
variable {L : Nat} {xs : Nat → Int32} {C C' M M' : mM} {hm : Nat} {nc nw nb np nt now : Nat} {kd wa wb wd wl ws : Nat → Nat}
set_option maxRecDepth 8000 in
theorem rc_ok (hSh : rSh C M) (a1 : Int32) :
    (∃ k, 1 ≤ k ∧ k ≤ 100 ∧ kI L xs 128 [vr 9 [0], vi a1, vi (oN 0)] C = some (oM k, C) ∧ kI L xs 197 [vr 10 [1], vi a1, vi (oN 0)] M = some (oM k, M)) ∨
    (∃ d n, a1 = oN d ∧ d < 8 ∧ n ≤ 80 ∧ kI L xs 128 [vr 9 [0], vi a1, vi (oN 0)] C = some (oN 0, C) ∧ kI L xs 197 [vr 10 [1], vi a1, vi (oN 0)] M = some (oN 0, M) ∧ C.1 [d, 6, 0] 3 = oN n ∧ M.1 [56, 1] d = oN n ∧
      (∀ i, i < n → M.2.1 [57, 1] (80 * d + i) = (C.1 [4, d, 6, 0] i).toInt64) ∧ ∀ i, i < n → (C.1 [4, d, 6, 0] i).toInt8.toInt32 = C.1 [4, d, 6, 0] i) := by
  have e := e_128 L xs [0] a1 (oN 0) C
  have f := e_197 L xs [1] a1 (oN 0) M
  rcases I_cases a1 with ⟨d, d1, rfl⟩ | ⟨d, d0, d1, rfl⟩
  case inr =>
    simp (disch := omega) only [↓Bool.cond_eq_ite, ↓reduceIte, Bool.false_eq_true, eq_self, n_lit, n_neg, n_add, n_mul, n_sub, n_subM, n_div, n_mod, n_addM, m_div, m_subn, n_tN, n_inS, n_eq_t, n_eq_f, n_ne_t, n_ne_f, n_lt_t, n_lt_f, n_ge_t, n_ge_f, n_gt_t, n_gt_f, n_le_t, n_le_f, mn_eq, mn_ne, mn_lt, mn_ge, mn_gt, mn_le, nm_eq, nm_ne, nm_lt, nm_ge, nm_gt, nm_le, n_gts_t, c_eq_refl, c_ne_refl, w_fold, w_2, wC_fold, lt_M, cond_true, cond_false, Bool.and_true, Bool.true_and, Bool.and_false, Bool.false_and, Bool.not_true, Bool.not_false, isZS_0, isZS_1] at e f
    exact .inl ⟨1, by omega, by omega, kI_of e, kI_of f⟩
  by_cases hd : d < 8
  case neg =>
    simp (disch := omega) only [↓Bool.cond_eq_ite, ↓reduceIte, Bool.false_eq_true, eq_self, n_lit, n_neg, n_add, n_mul, n_sub, n_subM, n_div, n_mod, n_addM, m_div, m_subn, n_tN, n_inS, n_eq_t, n_eq_f, n_ne_t, n_ne_f, n_lt_t, n_lt_f, n_ge_t, n_ge_f, n_gt_t, n_gt_f, n_le_t, n_le_f, mn_eq, mn_ne, mn_lt, mn_ge, mn_gt, mn_le, nm_eq, nm_ne, nm_lt, nm_ge, nm_gt, nm_le, n_gts_t, c_eq_refl, c_ne_refl, w_fold, w_2, wC_fold, lt_M, cond_true, cond_false, Bool.and_true, Bool.true_and, Bool.and_false, Bool.false_and, Bool.not_true, Bool.not_false, isZS_0, isZS_1] at e f
    exact .inl ⟨1, by omega, by omega, kI_of e, kI_of f⟩
  rcases hSh d hd with ⟨s1, s2⟩ | ⟨s1, s2, -⟩ | ⟨s1, s2, s, n, x1, x2, x3, x4, x5, x6, x7, x8⟩
  · simp (disch := omega) only [↓Bool.cond_eq_ite, ↓reduceIte, Bool.false_eq_true, eq_self, n_lit, n_neg, n_add, n_mul, n_sub, n_subM, n_div, n_mod, n_addM, m_div, m_subn, n_tN, n_inS, n_eq_t, n_eq_f, n_ne_t, n_ne_f, n_lt_t, n_lt_f, n_ge_t, n_ge_f, n_gt_t, n_gt_f, n_le_t, n_le_f, mn_eq, mn_ne, mn_lt, mn_ge, mn_gt, mn_le, nm_eq, nm_ne, nm_lt, nm_ge, nm_gt, nm_le, n_gts_t, c_eq_refl, c_ne_refl, w_fold, w_2, wC_fold, lt_M, cond_true, cond_false, Bool.and_true, Bool.true_and, Bool.and_false, Bool.false_and, Bool.not_true, Bool.not_false, isZS_0, isZS_1, s1, s2] at e f
    exact .inl ⟨11, by omega, by omega, kI_of e, kI_of f⟩
  · simp (disch := omega) only [↓Bool.cond_eq_ite, ↓reduceIte, Bool.false_eq_true, eq_self, n_lit, n_neg, n_add, n_mul, n_sub, n_subM, n_div, n_mod, n_addM, m_div, m_subn, n_tN, n_inS, n_eq_t, n_eq_f, n_ne_t, n_ne_f, n_lt_t, n_lt_f, n_ge_t, n_ge_f, n_gt_t, n_gt_f, n_le_t, n_le_f, mn_eq, mn_ne, mn_lt, mn_ge, mn_gt, mn_le, nm_eq, nm_ne, nm_lt, nm_ge, nm_gt, nm_le, n_gts_t, c_eq_refl, c_ne_refl, w_fold, w_2, wC_fold, lt_M, cond_true, cond_false, Bool.and_true, Bool.true_and, Bool.and_false, Bool.false_and, Bool.not_true, Bool.not_false, isZS_0, isZS_1, s1, s2] at e f
    exact .inl ⟨12, by omega, by omega, kI_of e, kI_of f⟩
  · by_cases hs : s = 0
    · subst hs
      simp (disch := omega) only [↓Bool.cond_eq_ite, ↓reduceIte, Bool.false_eq_true, eq_self, n_lit, n_neg, n_add, n_mul, n_sub, n_subM, n_div, n_mod, n_addM, m_div, m_subn, n_tN, n_inS, n_eq_t, n_eq_f, n_ne_t, n_ne_f, n_lt_t, n_lt_f, n_ge_t, n_ge_f, n_gt_t, n_gt_f, n_le_t, n_le_f, mn_eq, mn_ne, mn_lt, mn_ge, mn_gt, mn_le, nm_eq, nm_ne, nm_lt, nm_ge, nm_gt, nm_le, n_gts_t, c_eq_refl, c_ne_refl, w_fold, w_2, wC_fold, lt_M, cond_true, cond_false, Bool.and_true, Bool.true_and, Bool.and_false, Bool.false_and, Bool.not_true, Bool.not_false, isZS_0, isZS_1, s1, s2, x3, x4] at e f
      exact .inr ⟨d, n, rfl, hd, x2, kI_of e, kI_of f, x5, x6, x7, x8 rfl⟩
    · simp (disch := omega) only [↓Bool.cond_eq_ite, ↓reduceIte, Bool.false_eq_true, eq_self, n_lit, n_neg, n_add, n_mul, n_sub, n_subM, n_div, n_mod, n_addM, m_div, m_subn, n_tN, n_inS, n_eq_t, n_eq_f, n_ne_t, n_ne_f, n_lt_t, n_lt_f, n_ge_t, n_ge_f, n_gt_t, n_gt_f, n_le_t, n_le_f, mn_eq, mn_ne, mn_lt, mn_ge, mn_gt, mn_le, nm_eq, nm_ne, nm_lt, nm_ge, nm_gt, nm_le, n_gts_t, c_eq_refl, c_ne_refl, w_fold, w_2, wC_fold, lt_M, cond_true, cond_false, Bool.and_true, Bool.true_and, Bool.and_false, Bool.false_and, Bool.not_true, Bool.not_false, isZS_0, isZS_1, s1, s2, x3, x4] at e f
      exact .inl ⟨12, by omega, by omega, kI_of e, kI_of f⟩
set_option maxRecDepth 8000 in
theorem op_fault {a1 : Int32} (h : rI L xs C M hm) : ∃ v C', kI L xs 97 [vr 9 [0], vi a1] C = some (v, C') ∧ ∃ z M1, kI L xs 197 [vr 10 [1], vi a1, vi (oN 0)] (wI M [1] 0 (oN 0)) = some (z, M1) ∧ ((cmpS .ge z (oN 0) = false ∧ v = z ∧ rI L xs C' M1 hm) ∨
    (cmpS .ge z (oN 0) = true ∧ ∃ f M2, kI L xs 165 [vr 10 [1], vi a1] M1 = some (f, M2) ∧ ((cmpS .ge f (oN 0) = true ∧ v = f) ∨ (cmpS .ge f (oN 0) = false ∧ v = oM 4)) ∧ rI L xs C' M2 hm)) := by
  have h1 : rI L xs C (wI M [1] 0 (oN 0)) hm := rI_ag (agC_refl _) (agM_w0 (by decide) (by decide)) h
  generalize wI M [1] 0 (oN 0) = M1 at h1
  have h0 := h1
  obtain ⟨nc, nw, nb, np, nt, now, kd, wa, wb, wd, wl, ws, hP, hIm, hHi, hTx, hSh, hMi⟩ := h1
  have e := e_97 L xs [0] a1 C
  rcases rc_ok (L := L) (xs := xs) hSh a1 with ⟨k, k1, k2, k3, k4⟩ | ⟨d, n, rfl, hd, hn, k3, k4, x5, x6, x7, x8⟩
  · simp (disch := omega) only [↓Bool.cond_eq_ite, ↓reduceIte, Bool.false_eq_true, eq_self, n_lit, n_neg, n_add, n_mul, n_sub, n_subM, n_div, n_mod, n_addM, m_div, m_subn, n_tN, n_inS, n_eq_t, n_eq_f, n_ne_t, n_ne_f, n_lt_t, n_lt_f, n_ge_t, n_ge_f, n_gt_t, n_gt_f, n_le_t, n_le_f, mn_eq, mn_ne, mn_lt, mn_ge, mn_gt, mn_le, nm_eq, nm_ne, nm_lt, nm_ge, nm_gt, nm_le, n_gts_t, c_eq_refl, c_ne_refl, w_fold, w_2, wC_fold, lt_M, cond_true, cond_false, Bool.and_true, Bool.true_and, Bool.and_false, Bool.false_and, Bool.not_true, Bool.not_false, isZS_0, isZS_1, k3, Option.bind_some] at e
    exact ⟨_, _, kI_of e, _, _, k4, .inl ⟨mn_ge (by omega) (by omega) (by omega), rfl, h0⟩⟩
  · obtain ⟨C', M', y1, y2, y3, y4, y5, ⟨f, f1, f2, f3⟩ | ⟨β, cs, v, z1, z2, z3, z4, z5, z6, z7, z8, z9, z10⟩⟩ := fau_ok (L := L) (xs := xs) hd hn x6 x7 x8
    · simp (disch := omega) only [↓Bool.cond_eq_ite, ↓reduceIte, Bool.false_eq_true, eq_self, n_lit, n_neg, n_add, n_mul, n_sub, n_subM, n_div, n_mod, n_addM, m_div, m_subn, n_tN, n_inS, n_eq_t, n_eq_f, n_ne_t, n_ne_f, n_lt_t, n_lt_f, n_ge_t, n_ge_f, n_gt_t, n_gt_f, n_le_t, n_le_f, mn_eq, mn_ne, mn_lt, mn_ge, mn_gt, mn_le, nm_eq, nm_ne, nm_lt, nm_ge, nm_gt, nm_le, n_gts_t, c_eq_refl, c_ne_refl, w_fold, w_2, wC_fold, lt_M, cond_true, cond_false, Bool.and_true, Bool.true_and, Bool.and_false, Bool.false_and, Bool.not_true, Bool.not_false, isZS_0, isZS_1, k3, x5, f2, Option.bind_some] at e
      exact ⟨_, _, kI_of e, _, _, k4, .inr ⟨n_ge_t (by omega) (by omega) (by omega), _, _, f3, .inl ⟨n_ge_t (by omega) (by omega) (by omega), rfl⟩, rI_ag y1 y2 h0⟩⟩
    · simp (disch := omega) only [↓Bool.cond_eq_ite, ↓reduceIte, Bool.false_eq_true, eq_self, n_lit, n_neg, n_add, n_mul, n_sub, n_subM, n_div, n_mod, n_addM, m_div, m_subn, n_tN, n_inS, n_eq_t, n_eq_f, n_ne_t, n_ne_f, n_lt_t, n_lt_f, n_ge_t, n_ge_f, n_gt_t, n_gt_f, n_le_t, n_le_f, mn_eq, mn_ne, mn_lt, mn_ge, mn_gt, mn_le, nm_eq, nm_ne, nm_lt, nm_ge, nm_gt, nm_le, n_gts_t, c_eq_refl, c_ne_refl, w_fold, w_2, wC_fold, lt_M, cond_true, cond_false, Bool.and_true, Bool.true_and, Bool.and_false, Bool.false_and, Bool.not_true, Bool.not_false, isZS_0, isZS_1, k3, x5, z7, Option.bind_some] at e
      exact ⟨_, _, kI_of e, _, _, k4, .inr ⟨n_ge_t (by omega) (by omega) (by omega), _, _, z10, .inr ⟨mn_ge (by omega) (by omega) (by omega), rfl⟩, rI_ag y1 y2 h0⟩⟩
theorem s_233a {d n t : Nat} {B : Nat → Int32} (hd : d < 8) (ht : t < 20) (hn : n ≤ 80) (h56 : M.1 [56, 1] d = oN n) (hB : ∀ i, i < n → ((M.2.1 [57, 1] (80 * d + i)).toInt32 &&& (255 : Int32)) = B i) : ∀ r i H, i + r = n → (∀ j, j < i → H (80 * t + j) = B j) → (∀ j, (j < 80 * t ∨ 80 * t + 80 ≤ j) → H j = M.1 [18, 1] j) →
    ∃ H', run L xs 233 34 (70, [some (vr 10 [1]), some (vi (oN d)), none, none, some (vi (oN t)), some (vi (oN i))], [], stA M [18, 1] H) = run L xs 233 34 (70, [some (vr 10 [1]), some (vi (oN d)), none, none, some (vi (oN t)), some (vi (oN n))], [], stA M [18, 1] H') ∧ (∀ j, j < n → H' (80 * t + j) = B j) ∧ (∀ j, (j < 80 * t ∨ 80 * t + 80 ≤ j) → H' j = M.1 [18, 1] j) := by
  have z1 : ∀ H, (stA M [18, 1] H).1 [56, 1] = M.1 [56, 1] := fun H => stA_ne (by simp)
  intro r
  induction r with
  | zero =>
    intro i H hi hH ho
    have : i = n := by omega
    subst this
    exact ⟨H, rfl, hH, ho⟩
  | succ r ih =>
    intro i H hi hH ho
    obtain ⟨H', k1, k2⟩ := ih (i + 1) (upd H (80 * t + i) (B i)) (by omega) (fun j hj => by
      by_cases e : j = i
      · rw [e, upd_eq]
      · rw [upd_ne (by omega)]; exact hH j (by omega)) (fun j hj => by rw [upd_ne (by omega)]; exact ho j hj)
    refine ⟨H', ?_, k2⟩
    have hb := hB i (by omega)
    rw [h_233_70]
    simp (disch := omega) only [↓lt_stA, ↓Bool.cond_eq_ite, ↓reduceIte, Bool.false_eq_true, eq_self, n_lit, n_neg, n_add, n_mul, n_sub, n_subM, n_div, n_mod, n_addM, m_div, m_subn, n_tN, n_inS, n_eq_t, n_eq_f, n_ne_t, n_ne_f, n_lt_t, n_lt_f, n_ge_t, n_ge_f, n_gt_t, n_gt_f, n_le_t, n_le_f, mn_eq, mn_ne, mn_lt, mn_ge, mn_gt, mn_le, nm_eq, nm_ne, nm_lt, nm_ge, nm_gt, nm_le, n_gts_t, c_eq_refl, c_ne_refl, w_fold, w_2, wC_fold, lt_M, cond_true, cond_false, Bool.and_true, Bool.true_and, Bool.and_false, Bool.false_and, Bool.not_true, Bool.not_false, isZS_0, isZS_1, z1, h56, stA_same, stA_w, stA_u, stA_2] at hb ⊢
    rw [hb]
    exact k1
theorem rFo_up {r : List Nat} {S : Nat → Int32} (h : rFo r S C nt) : rFo r S C (nt + 1) := fun k hk => opt_mono (by omega) (h k hk)
set_option maxRecDepth 8000 in
set_option maxHeartbeats 4000000 in
theorem op_text {a1 : Int32} (h : rI L xs C M hm) : opR L xs 135 233 [vi a1] C M hm := by
  have e := e_135 L xs [0] a1 C
  have f := e_233 L xs [1] a1 M
  have h1 : rI L xs C (wI M [1] 0 (0 : Int32)) hm := rI_ag (agC_refl _) (agM_w0 (by decide) (by decide)) h
  simp only [lt_M, w_fold] at f
  generalize wI M [1] 0 (0 : Int32) = M1 at f h1
  have h0 := h1
  obtain ⟨nc, nw, nb, np, nt, now, kd, wa, wb, wd, wl, ws, hP, hIm, hHi, hTx, hSh, hMi⟩ := h1
  have hP' := hP
  obtain ⟨g1, g2, g3, g4, g5, g6, g7, g8, g9, g10⟩ := hP'
  have hsc := g1
  obtain ⟨cN, cT, cC, cW, cB, cG, cP, S0, S1, S2, S3, S4, S5, b16, b24, b40, b8, b20, b4320⟩ := hsc
  have hle := cntG_le kd nb
  rcases I_cases a1 with ⟨d, d1, rfl⟩ | ⟨d, d0, d1, rfl⟩
  case inr =>
    simp (disch := omega) only [↓Bool.cond_eq_ite, ↓reduceIte, Bool.false_eq_true, eq_self, n_lit, n_neg, n_add, n_mul, n_sub, n_subM, n_div, n_mod, n_addM, m_div, m_subn, n_tN, n_inS, n_eq_t, n_eq_f, n_ne_t, n_ne_f, n_lt_t, n_lt_f, n_ge_t, n_ge_f, n_gt_t, n_gt_f, n_le_t, n_le_f, mn_eq, mn_ne, mn_lt, mn_ge, mn_gt, mn_le, nm_eq, nm_ne, nm_lt, nm_ge, nm_gt, nm_le, n_gts_t, c_eq_refl, c_ne_refl, w_fold, w_2, wC_fold, lt_M, cond_true, cond_false, Bool.and_true, Bool.true_and, Bool.and_false, Bool.false_and, Bool.not_true, Bool.not_false, isZS_0, isZS_1, ↓reduceIte, w_at, w_2, wC_at, wC_2, List.cons.injEq, reduceCtorEq, and_false, false_and, and_true, true_and, if_true, if_false, eq_self, and_self, if_pos, if_neg, Nat.add_zero, cN, cT, cC, cW, cB, cG, cP, S0, S1, S2, S3, S4, S5] at e f
    exact ⟨_, _, _, kI_of e, kI_of f, h0⟩
  by_cases q1 : d < 8
  case neg =>
    simp (disch := omega) only [↓Bool.cond_eq_ite, ↓reduceIte, Bool.false_eq_true, eq_self, n_lit, n_neg, n_add, n_mul, n_sub, n_subM, n_div, n_mod, n_addM, m_div, m_subn, n_tN, n_inS, n_eq_t, n_eq_f, n_ne_t, n_ne_f, n_lt_t, n_lt_f, n_ge_t, n_ge_f, n_gt_t, n_gt_f, n_le_t, n_le_f, mn_eq, mn_ne, mn_lt, mn_ge, mn_gt, mn_le, nm_eq, nm_ne, nm_lt, nm_ge, nm_gt, nm_le, n_gts_t, c_eq_refl, c_ne_refl, w_fold, w_2, wC_fold, lt_M, cond_true, cond_false, Bool.and_true, Bool.true_and, Bool.and_false, Bool.false_and, Bool.not_true, Bool.not_false, isZS_0, isZS_1, ↓reduceIte, w_at, w_2, wC_at, wC_2, List.cons.injEq, reduceCtorEq, and_false, false_and, and_true, true_and, if_true, if_false, eq_self, and_self, if_pos, if_neg, Nat.add_zero, cN, cT, cC, cW, cB, cG, cP, S0, S1, S2, S3, S4, S5] at e f
    exact ⟨_, _, _, kI_of e, kI_of f, h0⟩
  by_cases q2 : nt < 20
  case neg =>
    simp (disch := omega) only [↓Bool.cond_eq_ite, ↓reduceIte, Bool.false_eq_true, eq_self, n_lit, n_neg, n_add, n_mul, n_sub, n_subM, n_div, n_mod, n_addM, m_div, m_subn, n_tN, n_inS, n_eq_t, n_eq_f, n_ne_t, n_ne_f, n_lt_t, n_lt_f, n_ge_t, n_ge_f, n_gt_t, n_gt_f, n_le_t, n_le_f, mn_eq, mn_ne, mn_lt, mn_ge, mn_gt, mn_le, nm_eq, nm_ne, nm_lt, nm_ge, nm_gt, nm_le, n_gts_t, c_eq_refl, c_ne_refl, w_fold, w_2, wC_fold, lt_M, cond_true, cond_false, Bool.and_true, Bool.true_and, Bool.and_false, Bool.false_and, Bool.not_true, Bool.not_false, isZS_0, isZS_1, ↓reduceIte, w_at, w_2, wC_at, wC_2, List.cons.injEq, reduceCtorEq, and_false, false_and, and_true, true_and, if_true, if_false, eq_self, and_self, if_pos, if_neg, Nat.add_zero, cN, cT, cC, cW, cB, cG, cP, S0, S1, S2, S3, S4, S5] at e f
    exact ⟨_, _, _, kI_of e, kI_of f, h0⟩
  rcases rc_ok (L := L) (xs := xs) hSh (oN d) with ⟨k, k1, k2, k3, k4⟩ | ⟨d', n, hdd, hd, hn, k3, k4, x5, x6, x7, x8⟩
  · simp (disch := omega) only [↓Bool.cond_eq_ite, ↓reduceIte, Bool.false_eq_true, eq_self, n_lit, n_neg, n_add, n_mul, n_sub, n_subM, n_div, n_mod, n_addM, m_div, m_subn, n_tN, n_inS, n_eq_t, n_eq_f, n_ne_t, n_ne_f, n_lt_t, n_lt_f, n_ge_t, n_ge_f, n_gt_t, n_gt_f, n_le_t, n_le_f, mn_eq, mn_ne, mn_lt, mn_ge, mn_gt, mn_le, nm_eq, nm_ne, nm_lt, nm_ge, nm_gt, nm_le, n_gts_t, c_eq_refl, c_ne_refl, w_fold, w_2, wC_fold, lt_M, cond_true, cond_false, Bool.and_true, Bool.true_and, Bool.and_false, Bool.false_and, Bool.not_true, Bool.not_false, isZS_0, isZS_1, ↓reduceIte, w_at, w_2, wC_at, wC_2, List.cons.injEq, reduceCtorEq, and_false, false_and, and_true, true_and, if_true, if_false, eq_self, and_self, if_pos, if_neg, Nat.add_zero, cN, cT, cC, cW, cB, cG, cP, S0, S1, S2, S3, S4, S5, k3, k4, Option.bind_some] at e f
    exact ⟨_, _, _, kI_of e, kI_of f, h0⟩
  have hdd : d' = d := (n_inj (by omega) (by omega)).mp hdd.symm
  subst hdd
  obtain ⟨C', M', y1, y2, y3, y4, y5, ⟨f', f1, f2, f3⟩ | ⟨β, cs, v, z1, z2, z3, z4, z5, z6, z7, z8, z9, z10⟩⟩ := fau_ok (L := L) (xs := xs) hd hn x6 x7 x8
  · simp (disch := omega) only [↓Bool.cond_eq_ite, ↓reduceIte, Bool.false_eq_true, eq_self, n_lit, n_neg, n_add, n_mul, n_sub, n_subM, n_div, n_mod, n_addM, m_div, m_subn, n_tN, n_inS, n_eq_t, n_eq_f, n_ne_t, n_ne_f, n_lt_t, n_lt_f, n_ge_t, n_ge_f, n_gt_t, n_gt_f, n_le_t, n_le_f, mn_eq, mn_ne, mn_lt, mn_ge, mn_gt, mn_le, nm_eq, nm_ne, nm_lt, nm_ge, nm_gt, nm_le, n_gts_t, c_eq_refl, c_ne_refl, w_fold, w_2, wC_fold, lt_M, cond_true, cond_false, Bool.and_true, Bool.true_and, Bool.and_false, Bool.false_and, Bool.not_true, Bool.not_false, isZS_0, isZS_1, ↓reduceIte, w_at, w_2, wC_at, wC_2, List.cons.injEq, reduceCtorEq, and_false, false_and, and_true, true_and, if_true, if_false, eq_self, and_self, if_pos, if_neg, Nat.add_zero, cN, cT, cC, cW, cB, cG, cP, S0, S1, S2, S3, S4, S5, k3, k4, x5, f2, f3, Option.bind_some] at e f
    exact ⟨_, _, _, kI_of e, kI_of f, rI_ag y1 y2 h0⟩
  have hx : rIx L xs C' M' nc nw nb np nt now hm kd wa wb wd wl ws := rIx_ag y1 y2 (⟨hP, hIm, hHi, hTx, hSh, hMi⟩ : rIx L xs C M1 nc nw nb np nt now hm kd wa wb wd wl ws)
  have cT0 := cT
  have S30 := S3
  clear hP hIm hHi hTx hSh hMi g1 g2 g3 g4 g5 g6 g7 g8 g9 g10 cN cT cC cW cB cG cP S0 S1 S2 S3 S4 S5
  obtain ⟨hP, hIm, hHi, hTx, hSh, hMi⟩ := hx
  obtain ⟨g1, g2, g3, g4, g5, g6, g7, g8, g9, g10⟩ := hP
  obtain ⟨cN, cT, cC, cW, cB, cG, cP, S0, S1, S2, S3, S4, S5, -⟩ := g1
  have hcp : cpyS ([2, 4, 0], 1000080) ([0, 4, 0], 1001600) C'.1 (oN 0) (oN (nt * 80)) (oN cs.length) = true := cpy_t (by decide) (by decide) (by show 0 + cs.length ≤ 80; omega) (by show nt * 80 + cs.length ≤ 1600; omega) (by omega) (by omega)
  obtain ⟨H, h1, h2, h3⟩ := s_233a (L := L) (xs := xs) (M := M') (d := d') (n := n) (t := nt) (B := bM β) hd (by omega) hn (by rw [y4]; exact x6) (fun i hi => by rw [y3]; exact z5 i hi) n 0 (M'.1 [18, 1]) (by omega) (fun j hj => by omega) (fun j _ => rfl)
  rw [stA_id] at h1
  have e56 : (stA M' [18, 1] H).1 [56, 1] d' = oN n := by rw [stA_ne (by simp), y4]; exact x6
  have e11 : (stA M' [18, 1] H).1 [1, 1] 3 = oN nt := by rw [stA_ne (by simp)]; exact S3
  have hfin : run L xs 233 34 (70, [some (vr 10 [1]), some (vi (oN d')), none, none, some (vi (oN nt)), some (vi (oN n))], [], stA M' [18, 1] H) = some (some (vi (oN nt)), wI (wI (stA M' [18, 1] H) [19, 1] nt (oN n)) [1, 1] 3 (oN (nt + 1))) := by
    have e12 : (wI (stA M' [18, 1] H) [19, 1] nt (oN n)).1 [1, 1] 3 = oN nt := by rw [w_ne (by simp)]; exact e11
    rw [h_233_70]
    simp (disch := omega) only [↓Bool.cond_eq_ite, ↓reduceIte, Bool.false_eq_true, eq_self, n_lit, n_neg, n_add, n_mul, n_sub, n_subM, n_div, n_mod, n_addM, m_div, m_subn, n_tN, n_inS, n_eq_t, n_eq_f, n_ne_t, n_ne_f, n_lt_t, n_lt_f, n_ge_t, n_ge_f, n_gt_t, n_gt_f, n_le_t, n_le_f, mn_eq, mn_ne, mn_lt, mn_ge, mn_gt, mn_le, nm_eq, nm_ne, nm_lt, nm_ge, nm_gt, nm_le, n_gts_t, c_eq_refl, c_ne_refl, w_fold, wC_fold, lt_M, cond_true, cond_false, Bool.and_true, Bool.true_and, Bool.and_false, Bool.false_and, Bool.not_true, Bool.not_false, isZS_0, isZS_1, e56, e12]
  have h1' := h1.trans hfin
  simp (disch := omega) only [↓Bool.cond_eq_ite, ↓reduceIte, Bool.false_eq_true, eq_self, n_lit, n_neg, n_add, n_mul, n_sub, n_subM, n_div, n_mod, n_addM, m_div, m_subn, n_tN, n_inS, n_eq_t, n_eq_f, n_ne_t, n_ne_f, n_lt_t, n_lt_f, n_ge_t, n_ge_f, n_gt_t, n_gt_f, n_le_t, n_le_f, mn_eq, mn_ne, mn_lt, mn_ge, mn_gt, mn_le, nm_eq, nm_ne, nm_lt, nm_ge, nm_gt, nm_le, n_gts_t, c_eq_refl, c_ne_refl, w_fold, w_2, wC_fold, lt_M, cond_true, cond_false, Bool.and_true, Bool.true_and, Bool.and_false, Bool.false_and, Bool.not_true, Bool.not_false, isZS_0, isZS_1, ↓reduceIte, w_at, w_2, wC_at, wC_2, List.cons.injEq, reduceCtorEq, and_false, false_and, and_true, true_and, if_true, if_false, eq_self, and_self, if_pos, if_neg, Nat.add_zero, cN, cT, cC, cW, cB, cG, cP, S0, S1, S2, S3, S4, S5, k3, k4, x5, z7, z10, c_eq_refl, hcp, cT, cT0, z8, S3, S30, h1', Option.bind_some] at e f
  have hcod : ∀ j, (wC C' [2, 4, 0] [0, 4, 0] 0 (nt * 80) cs.length).1 [0, 4, 0] j = if nt * 80 ≤ j ∧ j < nt * 80 + cs.length then C'.1 [2, 4, 0] (j - nt * 80) else C'.1 [0, 4, 0] j := fun j => by
    rw [wC_at]
    by_cases hj : nt * 80 ≤ j ∧ j < nt * 80 + cs.length
    · rw [if_pos ⟨rfl, hj.1, hj.2⟩, if_pos hj, Nat.zero_add]
    · rw [if_neg (fun q => hj q.2), if_neg hj]
  obtain ⟨Cn, hCn⟩ : ∃ Cn, Cn = wI (wI (wC C' [2, 4, 0] [0, 4, 0] 0 (nt * 80) cs.length) [1, 4, 0] nt (oN cs.length)) [0, 0] 1 (oN (nt + 1)) := ⟨_, rfl⟩
  obtain ⟨Mn, hMn⟩ : ∃ Mn, Mn = wI (wI (stA M' [18, 1] H) [19, 1] nt (oN n)) [1, 1] 3 (oN (nt + 1)) := ⟨_, rfl⟩
  rw [← hCn] at e
  rw [← hMn] at f
  have fC : ∀ q, q ≠ [0, 0] → q ≠ [0, 4, 0] → q ≠ [1, 4, 0] → Cn.1 q = C'.1 q := fun q h1 h2 h3 => by rw [hCn, w_ne h1, w_ne h3, wC_ne h2]
  have fC0 : ∀ j, j ≠ 1 → Cn.1 [0, 0] j = C'.1 [0, 0] j := fun j hj => by rw [hCn, w_ne_k hj, w_ne (by simp), wC_ne (by simp)]
  have fC1 : Cn.1 [0, 0] 1 = oN (nt + 1) := by rw [hCn, w_at, if_pos ⟨rfl, rfl⟩]
  have fT : ∀ t a b, (a ≠ 0 ∨ b ≠ 0) → (a ≠ 4 ∨ b ≠ 0) → Cn.1 (t ++ [a, b]) = C'.1 (t ++ [a, b]) := fun t a b h1 h2 => by
    refine fC _ (fun e => ?_) (fun e => ?_) (fun e => ?_) <;>
    · have := congrArg (fun l => l.reverse.take 2) e
      simp at this; omega
  have fM : ∀ k, k ≠ 1 → k ≠ 18 → k ≠ 19 → Mn.1 [k, 1] = M'.1 [k, 1] := fun k h1 h2 h3 => by rw [hMn, w_ne (by simp [h1]), w_ne (by simp [h3]), stA_ne (by simp [h2])]
  have fM0 : Mn.1 [1] = M'.1 [1] := by rw [hMn, w_ne (by simp), w_ne (by simp), stA_ne (by simp)]
  have fS : ∀ i, i ≠ 3 → Mn.1 [1, 1] i = M'.1 [1, 1] i := fun i hi => by rw [hMn, w_ne_k hi, w_ne (by simp), stA_ne (by simp)]
  have fS3 : Mn.1 [1, 1] 3 = oN (nt + 1) := by rw [hMn, w_at, if_pos ⟨rfl, rfl⟩]
  have hg : mAg M' Mn nc nw nb np := mAg_of (fun k h1 h2 => fM k (by omega) (by omega) (by omega))
  refine ⟨_, _, _, kI_of e, kI_of f, nc, nw, nb, np, nt + 1, now, kd, wa, wb, wd, wl, ws, ?_, ?_, ?_, ?_, ?_, ?_⟩
  · refine ⟨⟨by rw [fC0 0 (by omega)]; exact cN, fC1, by rw [fC0 2 (by omega)]; exact cC, by rw [fC _ (by simp) (by simp) (by simp)]; exact cW, by rw [fC0 9 (by omega)]; exact cB, by rw [fC0 11 (by omega)]; exact cG, by rw [fC0 13 (by omega)]; exact cP, by rw [fS 0 (by omega)]; exact S0, by rw [fS 1 (by omega)]; exact S1, by rw [fS 2 (by omega)]; exact S2, fS3, by rw [fS 4 (by omega)]; exact S4, by rw [fS 5 (by omega)]; exact S5, b16, b24, b40, b8, by omega, b4320⟩,
      rCe_congr (fC _ (by simp) (by simp) (by simp)) (fC _ (by simp) (by simp) (by simp)) (fC _ (by simp) (by simp) (by simp)) (fun i _ => fS _ (by omega)) hg.1 g2,
      rWa_congr (fC _ (by simp) (by simp) (by simp)) (fC _ (by simp) (by simp) (by simp)) (fC _ (by simp) (by simp) (by simp)) (fC _ (by simp) (by simp) (by simp)) (fC _ (by simp) (by simp) (by simp)) (fun i _ => fS _ (by omega)) hg.2.1 g3,
      rWd_congr (fC _ (by simp) (by simp) (by simp)) (fC _ (by simp) (by simp) (by simp)) (fC _ (by simp) (by simp) (by simp)) (fun i _ => fS _ (by omega)) (fun i _ => fS _ (by omega)) (fun i _ => fS _ (by omega)) g4,
      rHe_congr (fC _ (by simp) (by simp) (by simp)) (fun i _ => fS _ (by omega)) g5, rFo_up (rFo_congr (fC _ (by simp) (by simp) (by simp)) (fun i _ => fS _ (by omega)) g6),
      rBo_congr b40 (fun b _ => ⟨fC _ (by simp) (by simp) (by simp), fC _ (by simp) (by simp) (by simp), fC _ (by simp) (by simp) (by simp), fC _ (by simp) (by simp) (by simp)⟩) (fun i h1 h2 => fS i (by omega)) hg.2.2.1 g7,
      rGr_congr (fC _ (by simp) (by simp) (by simp)) g8, rPo_congr (fC _ (by simp) (by simp) (by simp)) (fun i _ => by rw [fM 17 (by omega) (by omega) (by omega)]) g9, rDi_congr (congrFun (fC _ (by simp) (by simp) (by simp)) 11) (fC _ (by simp) (by simp) (by simp)) g10⟩
  · exact rIm_congr (fun t => fT t 1 0 (by omega) (by omega)) (by rw [fC [0] (by simp) (by simp) (by simp)]) (by rw [fM0]) (fun i _ => by rw [fM 2 (by omega) (by omega) (by omega)]) hg (Nat.le_refl _) (Nat.le_refl _) (Nat.le_refl _) (Nat.le_refl _) (by omega) (Nat.le_refl _) hIm
  · exact rHi_congr (fT [0] 5 0 (by omega) (by omega)) (by rw [hCn]; rfl) (fM 20 (by omega) (by omega) (by omega)) (fM 21 (by omega) (by omega) (by omega)) (fM 22 (by omega) (by omega) (by omega)) (fM 23 (by omega) (by omega) (by omega)) (fM 24 (by omega) (by omega) (by omega)) (fM 25 (by omega) (by omega) (by omega)) (fun b _ => by rw [fM 16 (by omega) (by omega) (by omega)]) hHi
  · have c0 : ∀ j, Cn.1 [0, 4, 0] j = if nt * 80 ≤ j ∧ j < nt * 80 + cs.length then C'.1 [2, 4, 0] (j - nt * 80) else C'.1 [0, 4, 0] j := fun j => by rw [hCn, w_ne (by simp), w_ne (by simp), hcod]
    have c1 : ∀ j, Cn.1 [1, 4, 0] j = if j = nt then oN cs.length else C'.1 [1, 4, 0] j := fun j => by
      rw [hCn, w_ne (by simp), w_at]
      by_cases e : j = nt
      · rw [if_pos ⟨rfl, e⟩, if_pos e]
      · rw [if_neg (fun q => e q.2), if_neg e, wC_ne (by simp)]
    have m18 : Mn.1 [18, 1] = H := by rw [hMn, w_ne (by simp), w_ne (by simp), stA_same]
    have m19 : ∀ j, Mn.1 [19, 1] j = if j = nt then oN n else M'.1 [19, 1] j := fun j => by
      rw [hMn, w_ne (by simp), w_at]
      by_cases e : j = nt
      · rw [if_pos ⟨rfl, e⟩, if_pos e]
      · rw [if_neg (fun q => e q.2), if_neg e, stA_ne (by simp)]
    intro t ht
    by_cases ht' : t = nt
    · subst ht'
      refine ⟨n, β, cs, v, hn, z1, by omega, z3, z4, ?_, by rw [c1, if_pos rfl], by rw [m19, if_pos rfl], fun i hi => by rw [m18]; exact h2 i hi, z6⟩
      refine rdL_sh (g := C'.1 [2, 4, 0]) (i := 0) (fun j hj => ?_) (by rw [z9]; exact rdL_put)
      rw [c0, if_pos (by omega), Nat.zero_add, show 80 * t + j - t * 80 = j by omega]
    · refine txt_cg (fun j j1 j2 => by rw [c0, if_neg (by omega)]) (by rw [c1, if_neg ht']) (fun j j1 j2 => by rw [m18, h3 j (by omega)]) (by rw [m19, if_neg ht']) (hTx t (by omega))
  · exact rSh_congr (fun t => fT t 6 0 (by omega) (by omega)) (fM 52 (by omega) (by omega) (by omega)) (fM 53 (by omega) (by omega) (by omega)) (fM 54 (by omega) (by omega) (by omega)) (fM 55 (by omega) (by omega) (by omega)) (fM 56 (by omega) (by omega) (by omega)) (by rw [hMn]; rfl) hSh
  · rw [fM0]; exact hMi
end Ops15
