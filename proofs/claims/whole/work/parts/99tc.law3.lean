section Law3
variable {L : Nat} {xs : Nat → Int32} {C C' M M' mem : mM} {hm i : Nat}
theorem frm_w {rs : List (List Nat)} {m : mM} {p : List Nat} {k : Nat} {v : Int32} (h : undR rs p) : frm rs m (wI m p k v) := frm_I h
theorem ri_cm (h : rI L xs mem mem hm) (hf : frm [[0], [4]] mem C') : rI L xs mem C' hm := rI_ag (agC_refl _) (agM_frm hf) h
theorem ri_mm (h : rI L xs C' M' hm) (hf : frm [[1], [4]] C' M') : rI L xs M' M' hm := rI_ag (agC_frm hf) (agM_refl _) h
theorem kI_x {t : Nat} {as : List mV} {m m' : mM} {v : Int32} (ht : t < 256) (h : kI L xs t as m = some (v, m')) : m'.2.2 = m.2.2 := by
  obtain ⟨w, x⟩ := kI_call h
  exact call_x ht x
theorem kV_x {t : Nat} {as : List mV} {m m' : mM} (ht : t < 256) (h : kV L xs t as m = some m') : m'.2.2 = m.2.2 := by
  obtain ⟨w, x⟩ := kV_call h
  exact call_x ht x
theorem w_x {m : mM} {p : List Nat} {k : Nat} {v : Int32} : (wI m p k v).2.2 = m.2.2 := rfl
theorem okS_9 {as : List mV} (has : ∀ v, v ∈ as → ∃ x, v = vi x) : okS [[0], [4]] (vr 9 [0] :: as) := okS_cons (okR (und_a [])) (okS_i has)
theorem okS_10 {as : List mV} (has : ∀ v, v ∈ as → ∃ x, v = vi x) : okS [[1], [4]] (vr 10 [1] :: as) := okS_cons (okR (und_a [])) (okS_i has)
set_option maxRecDepth 100000 in
set_option maxHeartbeats 4000000 in
theorem lw_14 (hi : i + 6 ≤ L) (hL : L ≤ 3072) (ht : xs i &&& oN 63 = oN 14) (h : rI L xs mem mem hm) : stO L xs i hm mem := by
  obtain ⟨v, C', h1, -⟩ := op_fault (a1 := xs (i + 1)) h
  have f1 := kI_frame und_4 h1 (okS_9 (by simp))
  have x1 := kI_x (by decide) h1
  obtain ⟨v2, C2, g1, z, M1, g2, g3⟩ := op_fault (a1 := xs (i + 1)) (ri_cm h f1)
  rw [h1] at g1
  cases g1
  have f2 : frm [[1], [4]] C' M1 := frm_trans (frm_w (und_a [])) (kI_frame und_4 g2 (okS_10 (by simp)))
  have x2 := kI_x (by decide) g2
  have x3 : (wI C' [1] 0 (oN 0)).2.2 = C'.2.2 := rfl
  rcases g3 with ⟨b1, rfl, b3⟩ | ⟨b1, f, M2, b2, b3, b4⟩
  · refine ⟨M1, hm, ?_, ri_mm b3 f2, by omega, by omega, by omega⟩
    unfold lw
    rw [h_256_23]
    simp (disch := omega) only [↓Bool.cond_eq_ite, ↓reduceIte, Bool.false_eq_true, eq_self, n_lit, n_neg, n_add, n_mul, n_sub, n_subM, n_div, n_mod, n_addM, m_div, m_subn, n_tN, n_inS, n_eq_t, n_eq_f, n_ne_t, n_ne_f, n_lt_t, n_lt_f, n_ge_t, n_ge_f, n_gt_t, n_gt_f, n_le_t, n_le_f, mn_eq, mn_ne, mn_lt, mn_ge, mn_gt, mn_le, nm_eq, nm_ne, nm_lt, nm_ge, nm_gt, nm_le, n_gts_t, c_eq_refl, c_ne_refl, w_fold, wC_fold, lt_M, cond_true, cond_false, Bool.and_true, Bool.true_and, Bool.and_false, Bool.false_and, Bool.not_true, Bool.not_false, isZS_0, isZS_1, oNL, ht, h1, g2, b1, c_eq_refl, Option.bind_some]
  · have f3 := frm_trans f2 (kI_frame und_4 b2 (okS_10 (by simp)))
    have x4 := kI_x (by decide) b2
    refine ⟨M2, hm, ?_, ri_mm b4 f3, by omega, by omega, by omega⟩
    unfold lw
    rw [h_256_23]
    rcases b3 with ⟨c1, rfl⟩ | ⟨c1, rfl⟩
    · simp (disch := omega) only [↓Bool.cond_eq_ite, ↓reduceIte, Bool.false_eq_true, eq_self, n_lit, n_neg, n_add, n_mul, n_sub, n_subM, n_div, n_mod, n_addM, m_div, m_subn, n_tN, n_inS, n_eq_t, n_eq_f, n_ne_t, n_ne_f, n_lt_t, n_lt_f, n_ge_t, n_ge_f, n_gt_t, n_gt_f, n_le_t, n_le_f, mn_eq, mn_ne, mn_lt, mn_ge, mn_gt, mn_le, nm_eq, nm_ne, nm_lt, nm_ge, nm_gt, nm_le, n_gts_t, c_eq_refl, c_ne_refl, w_fold, wC_fold, lt_M, cond_true, cond_false, Bool.and_true, Bool.true_and, Bool.and_false, Bool.false_and, Bool.not_true, Bool.not_false, isZS_0, isZS_1, oNL, ht, h1, g2, b1, b2, c1, c_eq_refl, Option.bind_some]
    · simp (disch := omega) only [↓Bool.cond_eq_ite, ↓reduceIte, Bool.false_eq_true, eq_self, n_lit, n_neg, n_add, n_mul, n_sub, n_subM, n_div, n_mod, n_addM, m_div, m_subn, n_tN, n_inS, n_eq_t, n_eq_f, n_ne_t, n_ne_f, n_lt_t, n_lt_f, n_ge_t, n_ge_f, n_gt_t, n_gt_f, n_le_t, n_le_f, mn_eq, mn_ne, mn_lt, mn_ge, mn_gt, mn_le, nm_eq, nm_ne, nm_lt, nm_ge, nm_gt, nm_le, n_gts_t, c_eq_refl, c_ne_refl, w_fold, wC_fold, lt_M, cond_true, cond_false, Bool.and_true, Bool.true_and, Bool.and_false, Bool.false_and, Bool.not_true, Bool.not_false, isZS_0, isZS_1, oNL, ht, h1, g2, b1, b2, c1, c_eq_refl, Option.bind_some]
set_option maxRecDepth 100000 in
set_option maxHeartbeats 4000000 in
theorem lw_38 (hi : i + 6 ≤ L) (hL : L ≤ 3072) (ht : xs i &&& oN 63 = oN 38) (h : rI L xs mem mem hm) : stO L xs i hm mem := by
  have h0 := h
  obtain ⟨nc, nw, nb, np, nt, now, kd, wa, wb, wd, wl, ws, hx⟩ := h
  obtain ⟨C1, -, a1, a2, -, -⟩ := img_ok (M := mem) hx
  have f1 : frm [[0], [4]] mem (wI C1 [0] 3 (oN 1)) := frm_trans (kV_frame und_4 a1 (okS_cons (okR (und_a [1])) (okS_cons (okR (und_a [0])) okS_nil))) (frm_w (und_a []))
  obtain ⟨C2, M', b1, b2, b3, b4⟩ := img_ok (M := wI C1 [0] 3 (oN 1)) (rIx_ag (agC_refl _) (agM_frm f1) hx)
  rw [a1] at b1
  cases b1
  have x1 := kV_x (by decide) a1
  have x2 := kI_x (by decide) b3
  have x3 : (wI C1 [0] 3 (oN 1)).2.2 = C1.2.2 := rfl
  refine ⟨M', hm, ?_, ri_mm (rIx_I b4) (kI_frame und_4 b3 (okS_10 (by simp))), by omega, by omega, by omega⟩
  unfold lw
  rw [h_256_23]
  simp (disch := omega) only [↓Bool.cond_eq_ite, ↓reduceIte, Bool.false_eq_true, eq_self, n_lit, n_neg, n_add, n_mul, n_sub, n_subM, n_div, n_mod, n_addM, m_div, m_subn, n_tN, n_inS, n_eq_t, n_eq_f, n_ne_t, n_ne_f, n_lt_t, n_lt_f, n_ge_t, n_ge_f, n_gt_t, n_gt_f, n_le_t, n_le_f, mn_eq, mn_ne, mn_lt, mn_ge, mn_gt, mn_le, nm_eq, nm_ne, nm_lt, nm_ge, nm_gt, nm_le, n_gts_t, c_eq_refl, c_ne_refl, w_fold, wC_fold, lt_M, cond_true, cond_false, Bool.and_true, Bool.true_and, Bool.and_false, Bool.false_and, Bool.not_true, Bool.not_false, isZS_0, isZS_1, oNL, ht, a1, b3, w_at, List.cons.injEq, reduceCtorEq, and_false, false_and, if_false, b2, c_eq_refl, Option.bind_some]
set_option maxRecDepth 100000 in
set_option maxHeartbeats 4000000 in
theorem lw_39 (hi : i + 6 ≤ L) (hL : L ≤ 3072) (ht : xs i &&& oN 63 = oN 39) (h : rI L xs mem mem hm) : stO L xs i hm mem := by
  have h0 := h
  obtain ⟨nc, nw, nb, np, nt, now, kd, wa, wb, wd, wl, ws, hP, hIm, hx⟩ := h
  rcases hIm with ⟨a, b⟩ | ⟨a, b, -⟩
  · have k := res_no (L := L) (xs := xs) b
    refine ⟨wI mem [1] 0 (oN 0), hm, ?_, rI_ag (agC_frm (frm_w (und_a []))) (agM_w0 (by decide) (by decide)) h0, by omega, by omega, Nat.le_succ _⟩
    unfold lw
    rw [h_256_23]
    simp (disch := omega) only [↓Bool.cond_eq_ite, ↓reduceIte, Bool.false_eq_true, eq_self, n_lit, n_neg, n_add, n_mul, n_sub, n_subM, n_div, n_mod, n_addM, m_div, m_subn, n_tN, n_inS, n_eq_t, n_eq_f, n_ne_t, n_ne_f, n_lt_t, n_lt_f, n_ge_t, n_ge_f, n_gt_t, n_gt_f, n_le_t, n_le_f, mn_eq, mn_ne, mn_lt, mn_ge, mn_gt, mn_le, nm_eq, nm_ne, nm_lt, nm_ge, nm_gt, nm_le, n_gts_t, c_eq_refl, c_ne_refl, w_fold, wC_fold, lt_M, cond_true, cond_false, Bool.and_true, Bool.true_and, Bool.and_false, Bool.false_and, Bool.not_true, Bool.not_false, isZS_0, isZS_1, oNL, ht, a, k, c_ne_refl, c_eq_refl, Option.bind_some]
  · obtain ⟨v, C1, -, a1, -, -⟩ := res_ok a h0
    have f1 : frm [[0], [4]] mem C1 := kV_frame und_4 a1 (okS_cons (okR (und_a [0])) (okS_cons (okR (und_a [1])) okS_nil))
    obtain ⟨v2, C2, M', b1, b2, b3, b4⟩ := res_ok a (ri_cm h0 f1)
    rw [a1] at b1
    cases b1
    have x1 := kV_x (by decide) a1
    have x2 := kI_x (by decide) b3
    refine ⟨M', hm, ?_, ri_mm b4 (kI_frame und_4 b3 (okS_10 (by simp))), by omega, by omega, by omega⟩
    unfold lw
    rw [h_256_23]
    simp (disch := omega) only [↓Bool.cond_eq_ite, ↓reduceIte, Bool.false_eq_true, eq_self, n_lit, n_neg, n_add, n_mul, n_sub, n_subM, n_div, n_mod, n_addM, m_div, m_subn, n_tN, n_inS, n_eq_t, n_eq_f, n_ne_t, n_ne_f, n_lt_t, n_lt_f, n_ge_t, n_ge_f, n_gt_t, n_gt_f, n_le_t, n_le_f, mn_eq, mn_ne, mn_lt, mn_ge, mn_gt, mn_le, nm_eq, nm_ne, nm_lt, nm_ge, nm_gt, nm_le, n_gts_t, c_eq_refl, c_ne_refl, w_fold, wC_fold, lt_M, cond_true, cond_false, Bool.and_true, Bool.true_and, Bool.and_false, Bool.false_and, Bool.not_true, Bool.not_false, isZS_0, isZS_1, oNL, ht, a, a1, b3, b2, c_eq_refl, Option.bind_some]
set_option maxRecDepth 100000 in
set_option maxHeartbeats 4000000 in
theorem lw_20 (hi : i + 6 ≤ L) (hL : L ≤ 3072) (ht : xs i &&& oN 63 = oN 20) (hhm : hm ≤ 1000) (h : rI L xs mem mem hm) : stO L xs i hm mem := by
  have h0 := h
  obtain ⟨nc, nw, nb, np, nt, now, kd, wa, wb, wd, wl, ws, hx⟩ := h
  have c5 : mem.1 [0, 0] 0 = oN now := hx.1.1.1
  have S5 : mem.1 [1, 1] 5 = oN now := hx.1.1.2.2.2.2.2.2.2.2.2.2.2.2.1
  have b4320 : now ≤ 4320 := (by have := hx.1.1.2.2.2.2.2.2.2.2.2.2.2.2.2.2.2.2.2; exact this.2)
  have hr : rI L xs (wI mem [1] 0 (oN 0)) (wI mem [1] 0 (oN 0)) hm := rI_ag (agC_frm (frm_w (und_a []))) (agM_w0 (by decide) (by decide)) h0
  have e := e_100 L xs [0] (xs (i + 1)) mem
  by_cases ok : ∃ n, xs (i + 1) = oN n ∧ 1 ≤ n ∧ n ≤ 120
  case neg =>
    have k : kI L xs 100 [vr 9 [0], vi (xs (i + 1))] mem = some (oM 1, mem) := by
      rcases I_cases (xs (i + 1)) with ⟨n, n1, hn⟩ | ⟨n, n0, n1, hn⟩
      · rw [hn] at e ⊢
        have : n < 1 ∨ 120 < n := by
          by_cases q : 1 ≤ n
          · exact .inr (by
              by_cases q2 : n ≤ 120
              · exact absurd ⟨n, hn, q, q2⟩ ok
              · omega)
          · exact .inl (by omega)
        rcases this with q | q
        · simp (disch := omega) only [↓Bool.cond_eq_ite, ↓reduceIte, Bool.false_eq_true, eq_self, n_lit, n_neg, n_add, n_mul, n_sub, n_subM, n_div, n_mod, n_addM, m_div, m_subn, n_tN, n_inS, n_eq_t, n_eq_f, n_ne_t, n_ne_f, n_lt_t, n_lt_f, n_ge_t, n_ge_f, n_gt_t, n_gt_f, n_le_t, n_le_f, mn_eq, mn_ne, mn_lt, mn_ge, mn_gt, mn_le, nm_eq, nm_ne, nm_lt, nm_ge, nm_gt, nm_le, n_gts_t, c_eq_refl, c_ne_refl, w_fold, w_2, wC_fold, lt_M, cond_true, cond_false, Bool.and_true, Bool.true_and, Bool.and_false, Bool.false_and, Bool.not_true, Bool.not_false, isZS_0, isZS_1] at e
          exact kI_of e
        · simp (disch := omega) only [↓Bool.cond_eq_ite, ↓reduceIte, Bool.false_eq_true, eq_self, n_lit, n_neg, n_add, n_mul, n_sub, n_subM, n_div, n_mod, n_addM, m_div, m_subn, n_tN, n_inS, n_eq_t, n_eq_f, n_ne_t, n_ne_f, n_lt_t, n_lt_f, n_ge_t, n_ge_f, n_gt_t, n_gt_f, n_le_t, n_le_f, mn_eq, mn_ne, mn_lt, mn_ge, mn_gt, mn_le, nm_eq, nm_ne, nm_lt, nm_ge, nm_gt, nm_le, n_gts_t, c_eq_refl, c_ne_refl, w_fold, w_2, wC_fold, lt_M, cond_true, cond_false, Bool.and_true, Bool.true_and, Bool.and_false, Bool.false_and, Bool.not_true, Bool.not_false, isZS_0, isZS_1] at e
          exact kI_of e
      · rw [hn] at e ⊢
        simp (disch := omega) only [↓Bool.cond_eq_ite, ↓reduceIte, Bool.false_eq_true, eq_self, n_lit, n_neg, n_add, n_mul, n_sub, n_subM, n_div, n_mod, n_addM, m_div, m_subn, n_tN, n_inS, n_eq_t, n_eq_f, n_ne_t, n_ne_f, n_lt_t, n_lt_f, n_ge_t, n_ge_f, n_gt_t, n_gt_f, n_le_t, n_le_f, mn_eq, mn_ne, mn_lt, mn_ge, mn_gt, mn_le, nm_eq, nm_ne, nm_lt, nm_ge, nm_gt, nm_le, n_gts_t, c_eq_refl, c_ne_refl, w_fold, w_2, wC_fold, lt_M, cond_true, cond_false, Bool.and_true, Bool.true_and, Bool.and_false, Bool.false_and, Bool.not_true, Bool.not_false, isZS_0, isZS_1] at e
        exact kI_of e
    refine ⟨wI mem [1] 0 (oN 0), hm, ?_, hr, by omega, by omega, Nat.le_succ _⟩
    unfold lw
    rw [h_256_23]
    rcases I_cases (xs (i + 1)) with ⟨n, n1, hn⟩ | ⟨n, n0, n1, hn⟩
    · by_cases q : 1 ≤ n
      · have q2 : ¬ n ≤ 120 := fun q2 => ok ⟨n, hn, q, q2⟩
        rw [hn] at k
        simp (disch := omega) only [↓Bool.cond_eq_ite, ↓reduceIte, Bool.false_eq_true, eq_self, n_lit, n_neg, n_add, n_mul, n_sub, n_subM, n_div, n_mod, n_addM, m_div, m_subn, n_tN, n_inS, n_eq_t, n_eq_f, n_ne_t, n_ne_f, n_lt_t, n_lt_f, n_ge_t, n_ge_f, n_gt_t, n_gt_f, n_le_t, n_le_f, mn_eq, mn_ne, mn_lt, mn_ge, mn_gt, mn_le, nm_eq, nm_ne, nm_lt, nm_ge, nm_gt, nm_le, n_gts_t, c_eq_refl, c_ne_refl, w_fold, wC_fold, lt_M, cond_true, cond_false, Bool.and_true, Bool.true_and, Bool.and_false, Bool.false_and, Bool.not_true, Bool.not_false, isZS_0, isZS_1, oNL, ht, hn, k, c_eq_refl, Option.bind_some]
      · rw [hn] at k
        simp (disch := omega) only [↓Bool.cond_eq_ite, ↓reduceIte, Bool.false_eq_true, eq_self, n_lit, n_neg, n_add, n_mul, n_sub, n_subM, n_div, n_mod, n_addM, m_div, m_subn, n_tN, n_inS, n_eq_t, n_eq_f, n_ne_t, n_ne_f, n_lt_t, n_lt_f, n_ge_t, n_ge_f, n_gt_t, n_gt_f, n_le_t, n_le_f, mn_eq, mn_ne, mn_lt, mn_ge, mn_gt, mn_le, nm_eq, nm_ne, nm_lt, nm_ge, nm_gt, nm_le, n_gts_t, c_eq_refl, c_ne_refl, w_fold, wC_fold, lt_M, cond_true, cond_false, Bool.and_true, Bool.true_and, Bool.and_false, Bool.false_and, Bool.not_true, Bool.not_false, isZS_0, isZS_1, oNL, ht, hn, k, c_eq_refl, Option.bind_some]
    · rw [hn] at k
      simp (disch := omega) only [↓Bool.cond_eq_ite, ↓reduceIte, Bool.false_eq_true, eq_self, n_lit, n_neg, n_add, n_mul, n_sub, n_subM, n_div, n_mod, n_addM, m_div, m_subn, n_tN, n_inS, n_eq_t, n_eq_f, n_ne_t, n_ne_f, n_lt_t, n_lt_f, n_ge_t, n_ge_f, n_gt_t, n_gt_f, n_le_t, n_le_f, mn_eq, mn_ne, mn_lt, mn_ge, mn_gt, mn_le, nm_eq, nm_ne, nm_lt, nm_ge, nm_gt, nm_le, n_gts_t, c_eq_refl, c_ne_refl, w_fold, wC_fold, lt_M, cond_true, cond_false, Bool.and_true, Bool.true_and, Bool.and_false, Bool.false_and, Bool.not_true, Bool.not_false, isZS_0, isZS_1, oNL, ht, hn, k, c_eq_refl, Option.bind_some]
  case pos =>
  obtain ⟨n, hn, n1, n2⟩ := ok
  by_cases hle : now + n ≤ 4320
  case neg =>
    have k : kI L xs 100 [vr 9 [0], vi (oN n)] mem = some (oM 2, mem) := by
      rw [hn] at e
      simp (disch := omega) only [↓Bool.cond_eq_ite, ↓reduceIte, Bool.false_eq_true, eq_self, n_lit, n_neg, n_add, n_mul, n_sub, n_subM, n_div, n_mod, n_addM, m_div, m_subn, n_tN, n_inS, n_eq_t, n_eq_f, n_ne_t, n_ne_f, n_lt_t, n_lt_f, n_ge_t, n_ge_f, n_gt_t, n_gt_f, n_le_t, n_le_f, mn_eq, mn_ne, mn_lt, mn_ge, mn_gt, mn_le, nm_eq, nm_ne, nm_lt, nm_ge, nm_gt, nm_le, n_gts_t, c_eq_refl, c_ne_refl, w_fold, w_2, wC_fold, lt_M, cond_true, cond_false, Bool.and_true, Bool.true_and, Bool.and_false, Bool.false_and, Bool.not_true, Bool.not_false, isZS_0, isZS_1, c5] at e
      exact kI_of e
    refine ⟨wI mem [1] 0 (oN 0), hm, ?_, hr, by omega, by omega, Nat.le_succ _⟩
    unfold lw
    rw [h_256_23]
    simp (disch := omega) only [↓Bool.cond_eq_ite, ↓reduceIte, Bool.false_eq_true, eq_self, n_lit, n_neg, n_add, n_mul, n_sub, n_subM, n_div, n_mod, n_addM, m_div, m_subn, n_tN, n_inS, n_eq_t, n_eq_f, n_ne_t, n_ne_f, n_lt_t, n_lt_f, n_ge_t, n_ge_f, n_gt_t, n_gt_f, n_le_t, n_le_f, mn_eq, mn_ne, mn_lt, mn_ge, mn_gt, mn_le, nm_eq, nm_ne, nm_lt, nm_ge, nm_gt, nm_le, n_gts_t, c_eq_refl, c_ne_refl, w_fold, wC_fold, lt_M, cond_true, cond_false, Bool.and_true, Bool.true_and, Bool.and_false, Bool.false_and, Bool.not_true, Bool.not_false, isZS_0, isZS_1, oNL, ht, hn, k, w_at, List.cons.injEq, reduceCtorEq, and_false, false_and, if_false, S5, c_eq_refl, Option.bind_some]
  case pos =>
  have hx0 : rIx L xs mem (wI mem [1] 0 (oN 0)) nc nw nb np nt now hm kd wa wb wd wl ws := rIx_ag (agC_refl _) (agM_w0 (by decide) (by decide)) hx
  obtain ⟨v, C', -, a1, -, -⟩ := go_loop hhm n2 n 0 0 mem _ now (by omega) hle (by omega) hx0
  have k : kI L xs 100 [vr 9 [0], vi (oN n)] mem = some (v, C') := by
    rw [hn] at e
    simp (disch := omega) only [↓Bool.cond_eq_ite, ↓reduceIte, Bool.false_eq_true, eq_self, n_lit, n_neg, n_add, n_mul, n_sub, n_subM, n_div, n_mod, n_addM, m_div, m_subn, n_tN, n_inS, n_eq_t, n_eq_f, n_ne_t, n_ne_f, n_lt_t, n_lt_f, n_ge_t, n_ge_f, n_gt_t, n_gt_f, n_le_t, n_le_f, mn_eq, mn_ne, mn_lt, mn_ge, mn_gt, mn_le, nm_eq, nm_ne, nm_lt, nm_ge, nm_gt, nm_le, n_gts_t, c_eq_refl, c_ne_refl, w_fold, w_2, wC_fold, lt_M, cond_true, cond_false, Bool.and_true, Bool.true_and, Bool.and_false, Bool.false_and, Bool.not_true, Bool.not_false, isZS_0, isZS_1, c5] at e
    exact kI_of (e.trans a1)
  have f1 := kI_frame und_4 k (okS_9 (by simp))
  have hx1 : rIx L xs mem (wI C' [1] 0 (oN 0)) nc nw nb np nt now hm kd wa wb wd wl ws := rIx_ag (agC_refl _) (agM_w0 (by decide) (by decide)) (rIx_ag (agC_refl _) (agM_frm f1) hx)
  obtain ⟨v2, C2, M', b1, b2, b3⟩ := go_loop hhm n2 n 0 0 mem _ now (by omega) hle (by omega) hx1
  rw [a1] at b1
  cases b1
  have k2 : kI L xs 174 [vr 10 [1], vi (oN n)] (wI C' [1] 0 (oN 0)) = some (v, M') := kI_of ((e_174 L xs [1] (oN n) _).trans b2)
  have f2 : frm [[1], [4]] C' M' := frm_trans (frm_w (und_a [])) (kI_frame und_4 k2 (okS_10 (by simp)))
  have x1 := kI_x (by decide) k
  have x2 := kI_x (by decide) k2
  have x3 : (wI C' [1] 0 (oN 0)).2.2 = C'.2.2 := rfl
  have S5' : C'.1 [1, 1] 5 = oN now := by rw [(f1 [1, 1] (nund (by simp) (by simp))).1]; exact S5
  refine ⟨M', hm, ?_, ri_mm (rIx_I b3) f2, by omega, by omega, by omega⟩
  unfold lw
  rw [h_256_23]
  simp (disch := omega) only [↓Bool.cond_eq_ite, ↓reduceIte, Bool.false_eq_true, eq_self, n_lit, n_neg, n_add, n_mul, n_sub, n_subM, n_div, n_mod, n_addM, m_div, m_subn, n_tN, n_inS, n_eq_t, n_eq_f, n_ne_t, n_ne_f, n_lt_t, n_lt_f, n_ge_t, n_ge_f, n_gt_t, n_gt_f, n_le_t, n_le_f, mn_eq, mn_ne, mn_lt, mn_ge, mn_gt, mn_le, nm_eq, nm_ne, nm_lt, nm_ge, nm_gt, nm_le, n_gts_t, c_eq_refl, c_ne_refl, w_fold, wC_fold, lt_M, cond_true, cond_false, Bool.and_true, Bool.true_and, Bool.and_false, Bool.false_and, Bool.not_true, Bool.not_false, isZS_0, isZS_1, oNL, ht, hn, k, k2, w_at, List.cons.injEq, reduceCtorEq, and_false, false_and, if_false, S5', c_eq_refl, Option.bind_some]
end Law3
