section Mind1
variable {L : Nat} {xs : Nat → Int32} {C C' M M' : mM} {S S' : Nat → Int32} {c nc nw nb np nt now td hm : Nat} {kd wa wb wd wl ws : Nat → Nat}
theorem rP_sign {w s : Nat} (hw : w < nw) (hs : s ≤ 3) (hC : ∀ q, q ≠ [5, 6, c, 0] → q ≠ [6, c, 0] → C'.1 q = C.1 q) (h5 : C'.1 [5, 6, c, 0] w = oN s) (h5' : ∀ j, j ≠ w → C'.1 [5, 6, c, 0] j = C.1 [5, 6, c, 0] j) (h6 : ∀ j, j ≠ 11 → C'.1 [6, c, 0] j = C.1 [6, c, 0] j)
    (h11 : C'.1 [6, c, 0] 11 = oN 0 ∨ (C'.1 [6, c, 0] 11 = C.1 [6, c, 0] 11 ∧ ws w = s)) (hS : S' (30 + w) = oN s) (hS' : ∀ i, i < 1600 → i ≠ 30 + w → S' i = S i) (hM : ∀ k, 5 ≤ k → k ≤ 17 → M'.1 [k, 1] = M.1 [k, 1]) (hP : rP [c, 0] S C M nc nw nb np nt now hm kd wa wb wd wl ws) :
    rP [c, 0] S' C' M' nc nw nb np nt now hm kd wa wb wd wl (updN ws w s) := by
  obtain ⟨g1, g2, g3, g4, g5, g6, g7, g8, g9, g10⟩ := hP
  obtain ⟨cN, cT, cC, cW, cB, cG, cP, S0, S1, S2, S3, S4, S5, b16, b24, b40, b8, b20, b4320⟩ := g1
  have z0 : C'.1 [c, 0] = C.1 [c, 0] := hC _ (by simp) (by simp)
  refine ⟨rSc_congr (C := C) (S := S) z0 (h6 0 (by omega)) (fun i hi => hS' i (by omega) (by omega)) ⟨cN, cT, cC, cW, cB, cG, cP, S0, S1, S2, S3, S4, S5, b16, b24, b40, b8, b20, b4320⟩,
    rCe_congr (hC _ (by simp) (by simp)) (hC _ (by simp) (by simp)) (hC _ (by simp) (by simp)) (fun i _ => hS' _ (by omega) (by omega)) (fun i _ => ⟨by rw [hM 5 (by omega) (by omega)], by rw [hM 6 (by omega) (by omega)]⟩) g2, ?_,
    rWd_congr (hC _ (by simp) (by simp)) (hC _ (by simp) (by simp)) (hC _ (by simp) (by simp)) (fun i _ => hS' _ (by omega) (by omega)) (fun i _ => hS' _ (by omega) (by omega)) (fun i _ => hS' _ (by omega) (by omega)) g4,
    rHe_congr (hC _ (by simp) (by simp)) (fun i _ => hS' _ (by omega) (by omega)) g5, rFo_congr (hC _ (by simp) (by simp)) (fun i _ => hS' _ (by omega) (by omega)) g6,
    rBo_congr b40 (fun b _ => ⟨hC _ (by simp) (by simp), hC _ (by simp) (by simp), hC _ (by simp) (by simp), hC _ (by simp) (by simp)⟩) (fun i h1 h2 => hS' i h2 (by omega)) (fun b _ => ⟨by rw [hM 11 (by omega) (by omega)], by rw [hM 12 (by omega) (by omega)], by rw [hM 13 (by omega) (by omega)], by rw [hM 14 (by omega) (by omega)], by rw [hM 15 (by omega) (by omega)], by rw [hM 16 (by omega) (by omega)]⟩) g7,
    rGr_congr (hC _ (by simp) (by simp)) g8, rPo_congr (hC _ (by simp) (by simp)) (fun i _ => by rw [hM 17 (by omega) (by omega)]) g9, ?_⟩
  · intro v hv
    obtain ⟨wa1, wb1, wne, wd1, wd60, wl1, wl30, ws3, ca, ma, cb, mb, cd, md, cl, ml, cs, ms⟩ := g3 v hv
    rw [hC [1, 6, c, 0] (by simp) (by simp), hC [2, 6, c, 0] (by simp) (by simp), hC [3, 6, c, 0] (by simp) (by simp), hC [4, 6, c, 0] (by simp) (by simp), hM 7 (by omega) (by omega), hM 8 (by omega) (by omega), hM 9 (by omega) (by omega), hM 10 (by omega) (by omega)]
    by_cases e : v = w
    · subst e
      rw [updN_same]
      exact ⟨wa1, wb1, wne, wd1, wd60, wl1, wl30, hs, ca, ma, cb, mb, cd, md, cl, ml, h5, hS⟩
    · rw [updN_ne e, h5' v e, hS' _ (by omega) (by omega)]
      exact ⟨wa1, wb1, wne, wd1, wd60, wl1, wl30, ws3, ca, ma, cb, mb, cd, md, cl, ml, cs, ms⟩
  · rcases h11 with e | ⟨e, e2⟩
    · exact .inl e
    · have : updN ws w s = ws := by
        funext j
        by_cases h : j = w
        · subst h; rw [updN_same, e2]
        · rw [updN_ne h]
      rw [this]
      exact rDi_congr e (hC _ (by simp) (by simp)) g10
theorem most_c (hhm : hm ≤ 1000) (hP : rPt [c, 0] (M.1 [1, 1]) C M nc nw nb np nt now td hm kd wa wb wd wl ws) : ∃ p, p ≤ 100000 ∧ kI L xs 75 [vr 8 [6, c, 0], vr 1000024 [6, 6, c, 0]] C = some (oN p, C) ∧ kI L xs 200 [vr 10 [1]] M = some (oN p, M) := by
  obtain ⟨pr, pu, hwa⟩ := wa_of hhm hP
  have hwy := hwa.2.2.2.2.2.2
  have cW : C.1 [6, c, 0] 0 = oN nw := hP.1.2.2.2.1
  have S1 : M.1 [1, 1] 1 = oN nw := hP.1.2.2.2.2.2.2.2.2.1
  have b24 := hwa.2.2.2.2.2.1
  exact ⟨maxN pr nw, maxN_le (fun w hw => (hwy w hw).1), s_75 cW b24 (fun w hw => ⟨(hwy w hw).1, (hwy w hw).2.2.1⟩), s_200 S1 b24 (fun w hw => ⟨(hwy w hw).1, (hwy w hw).2.2.2.2.1⟩)⟩
theorem mind_min (hc : c ≠ 4) (hhm : hm ≤ 1000) (hn : now < 4320) (hP : rP [c, 0] (M.1 [1, 1]) C M nc nw nb np nt now hm kd wa wb wd wl ws) (hTx : rTx L xs C M nt) (h26 : M.1 [1] 26 = oN 1) :
    ∃ C' M', kV L xs 16 [vr 2 [c, 0], vr 5 [4, 0]] C = some C' ∧ kV L xs 205 [vr 10 [1]] M = some M' ∧ rP [c, 0] (M'.1 [1, 1]) C' M' nc nw nb np nt (now + 1) hm kd wa wb wd wl ws ∧ frC [c, 0] C C' ∧ frP M M' := by
  obtain ⟨C8, M8, a1, a2, a3, a4, a5⟩ := pass_ok (L := L) (xs := xs) hc hhm hP hTx
  have m26 : M8.1 [1] 26 = oN 1 := by rw [a5.2.2.1]; exact h26
  have m2 : M8.1 [1, 1] 2 = oN nb := a3.1.2.2.2.2.2.2.2.2.2.1
  have m5 : M8.1 [1, 1] 5 = oN now := a3.1.2.2.2.2.2.2.2.2.2.2.2.2.1
  have b40 : nb ≤ 40 := a3.1.2.2.2.2.2.2.2.2.2.2.2.2.2.2.2.1
  refine ⟨wI C8 [c, 0] 0 (oN (now + 1)), wI M8 [1, 1] 5 (oN (now + 1)), a1, kV_of ?_, ?_, frC_trans a4 (frC_w (u := [])), frP_trans a5 (frP_of frM_w)⟩
  · rw [a2, h_205_50]
    simp (disch := omega) only [↓Bool.cond_eq_ite, ↓reduceIte, Bool.false_eq_true, eq_self, n_lit, n_neg, n_add, n_mul, n_sub, n_subM, n_div, n_mod, n_addM, m_div, m_subn, n_tN, n_inS, n_eq_t, n_eq_f, n_ne_t, n_ne_f, n_lt_t, n_lt_f, n_ge_t, n_ge_f, n_gt_t, n_gt_f, n_le_t, n_le_f, mn_eq, mn_ne, mn_lt, mn_ge, mn_gt, mn_le, nm_eq, nm_ne, nm_lt, nm_ge, nm_gt, nm_le, n_gts_t, c_eq_refl, c_ne_refl, w_fold, wC_fold, lt_M, cond_true, cond_false, Bool.and_true, Bool.true_and, Bool.and_false, Bool.false_and, Bool.not_true, Bool.not_false, isZS_0, isZS_1, m2, m26, m5]
  · refine tick_ok (C := C8) (S := M8.1 [1, 1]) (M := M8) hn a3 ?_ ?_ ?_ ?_ ?_ ?_
    · rw [w_at, if_pos ⟨rfl, rfl⟩]
    · intro j hj
      rw [w_ne_k hj]
    · intro t i
      rw [w_ne (fun e => by have := congrArg List.length e; simp at this)]
    · rw [w_at, if_pos ⟨rfl, rfl⟩]
    · intro i hi
      rw [w_ne_k hi]
    · intro k k1 k2
      rw [w_ne (by simp; omega)]
theorem mind_loop (hhm : hm ≤ 1000) {n : Nat} (hn : n ≤ 120) : ∀ r i g C M now, i + r = n → now + r ≤ 4320 → g ≤ 100000 → rP [2, 0] (M.1 [1, 1]) C M nc nw nb np nt now hm kd wa wb wd wl ws → rTx L xs C M nt → M.1 [1] 26 = oN 1 →
    ∃ vm M', run L xs 174 36 (4, [some (vr 10 [1]), some (vi (oN n)), some (vi (oN g)), some (vi (oN i)), none], [], M) = some (some (vi (oN vm)), M') ∧ g ≤ vm ∧ vm ≤ 100000 ∧ frP M M' ∧
      ∀ lim, lim < 2147483648 → ∃ vc C', run L xs 145 30 (34, [some (vr 9 [0]), none, none, some (vi (oN n)), some (vi (oN lim)), some (vi (oN g)), some (vi (oN i))], [], C) = some (some (vi (oN vc)), C') ∧ vc ≤ 100000 ∧ frC [2, 0] C C' ∧ (vc = vm ∨ (lim ≤ vc ∧ lim ≤ vm)) := by
  intro r
  induction r with
  | zero =>
    intro i g C M now hi hnow hg hP hTx h26
    have : i = n := by omega
    subst this
    refine ⟨g, M, ?_, Nat.le_refl _, hg, frP_refl, fun lim hlim => ⟨g, C, ?_, hg, frC_refl, .inl rfl⟩⟩
    · rw [h_174_4]
      simp (disch := omega) only [↓Bool.cond_eq_ite, ↓reduceIte, Bool.false_eq_true, eq_self, n_lit, n_neg, n_add, n_mul, n_sub, n_subM, n_div, n_mod, n_addM, m_div, m_subn, n_tN, n_inS, n_eq_t, n_eq_f, n_ne_t, n_ne_f, n_lt_t, n_lt_f, n_ge_t, n_ge_f, n_gt_t, n_gt_f, n_le_t, n_le_f, mn_eq, mn_ne, mn_lt, mn_ge, mn_gt, mn_le, nm_eq, nm_ne, nm_lt, nm_ge, nm_gt, nm_le, n_gts_t, c_eq_refl, c_ne_refl, w_fold, w_2, wC_fold, lt_M, cond_true, cond_false, Bool.and_true, Bool.true_and, Bool.and_false, Bool.false_and, Bool.not_true, Bool.not_false, isZS_0, isZS_1]
    · rw [h_145_34]
      simp (disch := omega) only [↓Bool.cond_eq_ite, ↓reduceIte, Bool.false_eq_true, eq_self, n_lit, n_neg, n_add, n_mul, n_sub, n_subM, n_div, n_mod, n_addM, m_div, m_subn, n_tN, n_inS, n_eq_t, n_eq_f, n_ne_t, n_ne_f, n_lt_t, n_lt_f, n_ge_t, n_ge_f, n_gt_t, n_gt_f, n_le_t, n_le_f, mn_eq, mn_ne, mn_lt, mn_ge, mn_gt, mn_le, nm_eq, nm_ne, nm_lt, nm_ge, nm_gt, nm_le, n_gts_t, c_eq_refl, c_ne_refl, w_fold, w_2, wC_fold, lt_M, cond_true, cond_false, Bool.and_true, Bool.true_and, Bool.and_false, Bool.false_and, Bool.not_true, Bool.not_false, isZS_0, isZS_1]
  | succ r ih =>
    intro i g C M now hi hnow hg hP hTx h26
    obtain ⟨C1, M1, a1, a2, a3, a4, a5⟩ := mind_min (L := L) (xs := xs) (c := 2) (by omega) hhm (by omega) hP hTx h26
    obtain ⟨p, p1, p2, p3⟩ := most_c (L := L) (xs := xs) (td := now + 1) hhm a3
    obtain ⟨vm, M', k1, k2, k3, k4, k5⟩ := ih (i + 1) (max g p) C1 M1 (now + 1) (by omega) (by omega) (by omega) a3 (rTx_frP (by omega) a4 a5 hTx) (by rw [a5.2.2.1]; exact h26)
    refine ⟨vm, M', ?_, by omega, k3, frP_trans a5 k4, fun lim hlim => ?_⟩
    · rw [h_174_4]
      by_cases hm : p ≤ g
      · rw [Nat.max_eq_left hm] at k1
        simp (disch := omega) only [↓Bool.cond_eq_ite, ↓reduceIte, Bool.false_eq_true, eq_self, n_lit, n_neg, n_add, n_mul, n_sub, n_subM, n_div, n_mod, n_addM, m_div, m_subn, n_tN, n_inS, n_eq_t, n_eq_f, n_ne_t, n_ne_f, n_lt_t, n_lt_f, n_ge_t, n_ge_f, n_gt_t, n_gt_f, n_le_t, n_le_f, mn_eq, mn_ne, mn_lt, mn_ge, mn_gt, mn_le, nm_eq, nm_ne, nm_lt, nm_ge, nm_gt, nm_le, n_gts_t, c_eq_refl, c_ne_refl, w_fold, w_2, wC_fold, lt_M, cond_true, cond_false, Bool.and_true, Bool.true_and, Bool.and_false, Bool.false_and, Bool.not_true, Bool.not_false, isZS_0, isZS_1, a2, p3, Option.bind_some]
        exact k1
      · rw [Nat.max_eq_right (by omega)] at k1
        simp (disch := omega) only [↓Bool.cond_eq_ite, ↓reduceIte, Bool.false_eq_true, eq_self, n_lit, n_neg, n_add, n_mul, n_sub, n_subM, n_div, n_mod, n_addM, m_div, m_subn, n_tN, n_inS, n_eq_t, n_eq_f, n_ne_t, n_ne_f, n_lt_t, n_lt_f, n_ge_t, n_ge_f, n_gt_t, n_gt_f, n_le_t, n_le_f, mn_eq, mn_ne, mn_lt, mn_ge, mn_gt, mn_le, nm_eq, nm_ne, nm_lt, nm_ge, nm_gt, nm_le, n_gts_t, c_eq_refl, c_ne_refl, w_fold, w_2, wC_fold, lt_M, cond_true, cond_false, Bool.and_true, Bool.true_and, Bool.and_false, Bool.false_and, Bool.not_true, Bool.not_false, isZS_0, isZS_1, a2, p3, Option.bind_some]
        exact k1
    · by_cases hl : lim ≤ g
      · refine ⟨g, C, ?_, hg, frC_refl, .inr ⟨hl, by omega⟩⟩
        rw [h_145_34]
        simp (disch := omega) only [↓Bool.cond_eq_ite, ↓reduceIte, Bool.false_eq_true, eq_self, n_lit, n_neg, n_add, n_mul, n_sub, n_subM, n_div, n_mod, n_addM, m_div, m_subn, n_tN, n_inS, n_eq_t, n_eq_f, n_ne_t, n_ne_f, n_lt_t, n_lt_f, n_ge_t, n_ge_f, n_gt_t, n_gt_f, n_le_t, n_le_f, mn_eq, mn_ne, mn_lt, mn_ge, mn_gt, mn_le, nm_eq, nm_ne, nm_lt, nm_ge, nm_gt, nm_le, n_gts_t, c_eq_refl, c_ne_refl, w_fold, w_2, wC_fold, lt_M, cond_true, cond_false, Bool.and_true, Bool.true_and, Bool.and_false, Bool.false_and, Bool.not_true, Bool.not_false, isZS_0, isZS_1]
      · obtain ⟨vc, C', c1, c2, c3, c4⟩ := k5 lim hlim
        refine ⟨vc, C', ?_, c2, frC_trans a4 c3, c4⟩
        rw [h_145_34]
        simp (disch := omega) only [↓Bool.cond_eq_ite, ↓reduceIte, Bool.false_eq_true, eq_self, n_lit, n_neg, n_add, n_mul, n_sub, n_subM, n_div, n_mod, n_addM, m_div, m_subn, n_tN, n_inS, n_eq_t, n_eq_f, n_ne_t, n_ne_f, n_lt_t, n_lt_f, n_ge_t, n_ge_f, n_gt_t, n_gt_f, n_le_t, n_le_f, mn_eq, mn_ne, mn_lt, mn_ge, mn_gt, mn_le, nm_eq, nm_ne, nm_lt, nm_ge, nm_gt, nm_le, n_gts_t, c_eq_refl, c_ne_refl, w_fold, w_2, wC_fold, lt_M, cond_true, cond_false, Bool.and_true, Bool.true_and, Bool.and_false, Bool.false_and, Bool.not_true, Bool.not_false, isZS_0, isZS_1, a1, p2, mx_if, Option.bind_some]
        exact c1
theorem s_249a {l1 l2 l3 : Int32} : ∀ r i H, i + r = 1600 → (∀ j, j < i → H j = M.1 [1, 1] j) → ∃ H', run L xs 249 37 (3, [some (vr 10 [1]), some (vi l1), some (vi l2), some (vi l3), some (vi (oN i)), none], [], stA M [3, 1] H) = run L xs 249 37 (3, [some (vr 10 [1]), some (vi l1), some (vi l2), some (vi l3), some (vi (oN 1600)), none], [], stA M [3, 1] H') ∧ ∀ j, j < 1600 → H' j = M.1 [1, 1] j := by
  have z1 : ∀ H, (stA M [3, 1] H).1 [1, 1] = M.1 [1, 1] := fun H => stA_ne (by simp)
  intro r
  induction r with
  | zero =>
    intro i H hi hH
    have : i = 1600 := by omega
    subst this
    exact ⟨H, rfl, hH⟩
  | succ r ih =>
    intro i H hi hH
    obtain ⟨H', k1, k2⟩ := ih (i + 1) (upd H i (M.1 [1, 1] i)) (by omega) (fun j hj => by
      by_cases e : j = i
      · rw [e, upd_eq]
      · rw [upd_ne e]; exact hH j (by omega))
    refine ⟨H', ?_, k2⟩
    rw [h_249_3]
    simp (disch := omega) only [↓lt_stA, ↓Bool.cond_eq_ite, ↓reduceIte, Bool.false_eq_true, eq_self, n_lit, n_neg, n_add, n_mul, n_sub, n_subM, n_div, n_mod, n_addM, m_div, m_subn, n_tN, n_inS, n_eq_t, n_eq_f, n_ne_t, n_ne_f, n_lt_t, n_lt_f, n_ge_t, n_ge_f, n_gt_t, n_gt_f, n_le_t, n_le_f, mn_eq, mn_ne, mn_lt, mn_ge, mn_gt, mn_le, nm_eq, nm_ne, nm_lt, nm_ge, nm_gt, nm_le, n_gts_t, c_eq_refl, c_ne_refl, w_fold, w_2, wC_fold, lt_M, cond_true, cond_false, Bool.and_true, Bool.true_and, Bool.and_false, Bool.false_and, Bool.not_true, Bool.not_false, isZS_0, isZS_1, z1, stA_same, stA_w, stA_u]
    exact k1
theorem s_249b {v : Int32} : ∀ r i H, i + r = 1600 → (∀ j, j < i → H j = M.1 [3, 1] j) → ∃ H', run L xs 249 37 (65, [some (vr 10 [1]), none, none, none, some (vi v), some (vi (oN i))], [], stA M [1, 1] H) = some (some (vi v), stA M [1, 1] H') ∧ ∀ j, j < 1600 → H' j = M.1 [3, 1] j := by
  have z1 : ∀ H, (stA M [1, 1] H).1 [3, 1] = M.1 [3, 1] := fun H => stA_ne (by simp)
  intro r
  induction r with
  | zero =>
    intro i H hi hH
    have : i = 1600 := by omega
    subst this
    refine ⟨H, ?_, hH⟩
    rw [h_249_65]
    simp (disch := omega) only [↓Bool.cond_eq_ite, ↓reduceIte, Bool.false_eq_true, eq_self, n_lit, n_neg, n_add, n_mul, n_sub, n_subM, n_div, n_mod, n_addM, m_div, m_subn, n_tN, n_inS, n_eq_t, n_eq_f, n_ne_t, n_ne_f, n_lt_t, n_lt_f, n_ge_t, n_ge_f, n_gt_t, n_gt_f, n_le_t, n_le_f, mn_eq, mn_ne, mn_lt, mn_ge, mn_gt, mn_le, nm_eq, nm_ne, nm_lt, nm_ge, nm_gt, nm_le, n_gts_t, c_eq_refl, c_ne_refl, w_fold, w_2, wC_fold, lt_M, cond_true, cond_false, Bool.and_true, Bool.true_and, Bool.and_false, Bool.false_and, Bool.not_true, Bool.not_false, isZS_0, isZS_1]
  | succ r ih =>
    intro i H hi hH
    obtain ⟨H', k1, k2⟩ := ih (i + 1) (upd H i (M.1 [3, 1] i)) (by omega) (fun j hj => by
      by_cases e : j = i
      · rw [e, upd_eq]
      · rw [upd_ne e]; exact hH j (by omega))
    refine ⟨H', ?_, k2⟩
    rw [h_249_65]
    simp (disch := omega) only [↓lt_stA, ↓Bool.cond_eq_ite, ↓reduceIte, Bool.false_eq_true, eq_self, n_lit, n_neg, n_add, n_mul, n_sub, n_subM, n_div, n_mod, n_addM, m_div, m_subn, n_tN, n_inS, n_eq_t, n_eq_f, n_ne_t, n_ne_f, n_lt_t, n_lt_f, n_ge_t, n_ge_f, n_gt_t, n_gt_f, n_le_t, n_le_f, mn_eq, mn_ne, mn_lt, mn_ge, mn_gt, mn_le, nm_eq, nm_ne, nm_lt, nm_ge, nm_gt, nm_le, n_gts_t, c_eq_refl, c_ne_refl, w_fold, w_2, wC_fold, lt_M, cond_true, cond_false, Bool.and_true, Bool.true_and, Bool.and_false, Bool.false_and, Bool.not_true, Bool.not_false, isZS_0, isZS_1, z1, stA_same, stA_w, stA_u]
    exact k1
end Mind1
