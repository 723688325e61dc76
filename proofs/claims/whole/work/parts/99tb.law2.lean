section Law2
variable {L : Nat} {xs : Nat → Int32} {mem : mM} {hm i : Nat}
set_option maxRecDepth 100000 in
set_option maxHeartbeats 4000000 in
theorem lw_0 (hi : i + 6 ≤ L) (hL : L ≤ 3072) (ht : xs i &&& oN 63 = oN 0) (h400 : 400 ≤ hm) (h1000 : hm ≤ 1000) (h : rI L xs mem mem hm) : stO L xs i hm mem := by
  obtain ⟨v, C', M', h1, h2, h3, h4⟩ := two (c := 90) (m := 156) (as := [vi (xs (i + 1)), vi (xs (i + 2)), vi (xs (i + 3))]) h (by decide) (by decide) (by simp) (fun C M g => op_cell g)
  refine ⟨M', _, ?_, h3, by omega, by omega, by omega⟩
  unfold lw
  rw [h_256_23]
  simp (disch := omega) only [↓Bool.cond_eq_ite, ↓reduceIte, Bool.false_eq_true, eq_self, n_lit, n_neg, n_add, n_mul, n_sub, n_subM, n_div, n_mod, n_addM, m_div, m_subn, n_tN, n_inS, n_eq_t, n_eq_f, n_ne_t, n_ne_f, n_lt_t, n_lt_f, n_ge_t, n_ge_f, n_gt_t, n_gt_f, n_le_t, n_le_f, mn_eq, mn_ne, mn_lt, mn_ge, mn_gt, mn_le, nm_eq, nm_ne, nm_lt, nm_ge, nm_gt, nm_le, n_gts_t, c_eq_refl, c_ne_refl, w_fold, w_2, wC_fold, lt_M, cond_true, cond_false, Bool.and_true, Bool.true_and, Bool.and_false, Bool.false_and, Bool.not_true, Bool.not_false, isZS_0, isZS_1, oNL, ht, h1, h2, c_eq_refl, Option.bind_some]
set_option maxRecDepth 100000 in
set_option maxHeartbeats 4000000 in
theorem lw_1 (hi : i + 6 ≤ L) (hL : L ≤ 3072) (ht : xs i &&& oN 63 = oN 1) (h400 : 400 ≤ hm) (h1000 : hm ≤ 1000) (h : rI L xs mem mem hm) : stO L xs i hm mem := by
  obtain ⟨v, C', M', h1, h2, h3, h4⟩ := two (c := 140) (m := 244) (as := [vi (xs (i + 1)), vi (xs (i + 2)), vi (xs (i + 3))]) h (by decide) (by decide) (by simp) (fun C M g => op_way g)
  refine ⟨M', _, ?_, h3, by omega, by omega, by omega⟩
  unfold lw
  rw [h_256_23]
  simp (disch := omega) only [↓Bool.cond_eq_ite, ↓reduceIte, Bool.false_eq_true, eq_self, n_lit, n_neg, n_add, n_mul, n_sub, n_subM, n_div, n_mod, n_addM, m_div, m_subn, n_tN, n_inS, n_eq_t, n_eq_f, n_ne_t, n_ne_f, n_lt_t, n_lt_f, n_ge_t, n_ge_f, n_gt_t, n_gt_f, n_le_t, n_le_f, mn_eq, mn_ne, mn_lt, mn_ge, mn_gt, mn_le, nm_eq, nm_ne, nm_lt, nm_ge, nm_gt, nm_le, n_gts_t, c_eq_refl, c_ne_refl, w_fold, w_2, wC_fold, lt_M, cond_true, cond_false, Bool.and_true, Bool.true_and, Bool.and_false, Bool.false_and, Bool.not_true, Bool.not_false, isZS_0, isZS_1, oNL, ht, h1, h2, c_eq_refl, Option.bind_some]
set_option maxRecDepth 100000 in
set_option maxHeartbeats 4000000 in
theorem lw_3 (hi : i + 6 ≤ L) (hL : L ≤ 3072) (ht : xs i &&& oN 63 = oN 3) (h400 : 400 ≤ hm) (h1000 : hm ≤ 1000) (h : rI L xs mem mem hm) : stO L xs i hm mem := by
  obtain ⟨v, C', M', h1, h2, h3, h4⟩ := two (c := 102) (m := 178) (as := [vi (xs (i + 1)), vi (xs (i + 2))]) h (by decide) (by decide) (by simp) (fun C M g => op_heat g)
  refine ⟨M', _, ?_, h3, by omega, by omega, by omega⟩
  unfold lw
  rw [h_256_23]
  simp (disch := omega) only [↓Bool.cond_eq_ite, ↓reduceIte, Bool.false_eq_true, eq_self, n_lit, n_neg, n_add, n_mul, n_sub, n_subM, n_div, n_mod, n_addM, m_div, m_subn, n_tN, n_inS, n_eq_t, n_eq_f, n_ne_t, n_ne_f, n_lt_t, n_lt_f, n_ge_t, n_ge_f, n_gt_t, n_gt_f, n_le_t, n_le_f, mn_eq, mn_ne, mn_lt, mn_ge, mn_gt, mn_le, nm_eq, nm_ne, nm_lt, nm_ge, nm_gt, nm_le, n_gts_t, c_eq_refl, c_ne_refl, w_fold, w_2, wC_fold, lt_M, cond_true, cond_false, Bool.and_true, Bool.true_and, Bool.and_false, Bool.false_and, Bool.not_true, Bool.not_false, isZS_0, isZS_1, oNL, ht, h1, h2, c_eq_refl, Option.bind_some]
set_option maxRecDepth 100000 in
set_option maxHeartbeats 4000000 in
theorem lw_4 (hi : i + 6 ≤ L) (hL : L ≤ 3072) (ht : xs i &&& oN 63 = oN 4) (h400 : 400 ≤ hm) (h1000 : hm ≤ 1000) (h : rI L xs mem mem hm) : stO L xs i hm mem := by
  obtain ⟨v, C', M', h1, h2, h3, h4⟩ := two (c := 138) (m := 242) (as := [vi (xs (i + 1)), vi (xs (i + 2))]) h (by decide) (by decide) (by simp) (fun C M g => op_water g)
  refine ⟨M', _, ?_, h3, by omega, by omega, by omega⟩
  unfold lw
  rw [h_256_23]
  simp (disch := omega) only [↓Bool.cond_eq_ite, ↓reduceIte, Bool.false_eq_true, eq_self, n_lit, n_neg, n_add, n_mul, n_sub, n_subM, n_div, n_mod, n_addM, m_div, m_subn, n_tN, n_inS, n_eq_t, n_eq_f, n_ne_t, n_ne_f, n_lt_t, n_lt_f, n_ge_t, n_ge_f, n_gt_t, n_gt_f, n_le_t, n_le_f, mn_eq, mn_ne, mn_lt, mn_ge, mn_gt, mn_le, nm_eq, nm_ne, nm_lt, nm_ge, nm_gt, nm_le, n_gts_t, c_eq_refl, c_ne_refl, w_fold, w_2, wC_fold, lt_M, cond_true, cond_false, Bool.and_true, Bool.true_and, Bool.and_false, Bool.false_and, Bool.not_true, Bool.not_false, isZS_0, isZS_1, oNL, ht, h1, h2, c_eq_refl, Option.bind_some]
set_option maxRecDepth 100000 in
set_option maxHeartbeats 4000000 in
theorem lw_5 (hi : i + 6 ≤ L) (hL : L ≤ 3072) (ht : xs i &&& oN 63 = oN 5) (h400 : 400 ≤ hm) (h1000 : hm ≤ 1000) (h : rI L xs mem mem hm) : stO L xs i hm mem := by
  obtain ⟨v, C', M', h1, h2, h3, h4⟩ := two (c := 81) (m := 147) (as := [vi (xs (i + 1)), vi (xs (i + 2))]) h (by decide) (by decide) (by simp) (fun C M g => op_about g)
  refine ⟨M', _, ?_, h3, by omega, by omega, by omega⟩
  unfold lw
  rw [h_256_23]
  simp (disch := omega) only [↓Bool.cond_eq_ite, ↓reduceIte, Bool.false_eq_true, eq_self, n_lit, n_neg, n_add, n_mul, n_sub, n_subM, n_div, n_mod, n_addM, m_div, m_subn, n_tN, n_inS, n_eq_t, n_eq_f, n_ne_t, n_ne_f, n_lt_t, n_lt_f, n_ge_t, n_ge_f, n_gt_t, n_gt_f, n_le_t, n_le_f, mn_eq, mn_ne, mn_lt, mn_ge, mn_gt, mn_le, nm_eq, nm_ne, nm_lt, nm_ge, nm_gt, nm_le, n_gts_t, c_eq_refl, c_ne_refl, w_fold, w_2, wC_fold, lt_M, cond_true, cond_false, Bool.and_true, Bool.true_and, Bool.and_false, Bool.false_and, Bool.not_true, Bool.not_false, isZS_0, isZS_1, oNL, ht, h1, h2, c_eq_refl, Option.bind_some]
set_option maxRecDepth 100000 in
set_option maxHeartbeats 4000000 in
theorem lw_7 (hi : i + 6 ≤ L) (hL : L ≤ 3072) (ht : xs i &&& oN 63 = oN 7) (h400 : 400 ≤ hm) (h1000 : hm ≤ 1000) (h : rI L xs mem mem hm) : stO L xs i hm mem := by
  obtain ⟨v, C', M', h1, h2, h3, h4⟩ := two (c := 101) (m := 175) (as := [vi (xs (i + 1)), vi (xs (i + 2)), vi (xs (i + 3))]) h (by decide) (by decide) (by simp) (fun C M g => op_group h400 g)
  refine ⟨M', _, ?_, h3, by omega, by omega, by omega⟩
  unfold lw
  rw [h_256_23]
  simp (disch := omega) only [↓Bool.cond_eq_ite, ↓reduceIte, Bool.false_eq_true, eq_self, n_lit, n_neg, n_add, n_mul, n_sub, n_subM, n_div, n_mod, n_addM, m_div, m_subn, n_tN, n_inS, n_eq_t, n_eq_f, n_ne_t, n_ne_f, n_lt_t, n_lt_f, n_ge_t, n_ge_f, n_gt_t, n_gt_f, n_le_t, n_le_f, mn_eq, mn_ne, mn_lt, mn_ge, mn_gt, mn_le, nm_eq, nm_ne, nm_lt, nm_ge, nm_gt, nm_le, n_gts_t, c_eq_refl, c_ne_refl, w_fold, w_2, wC_fold, lt_M, cond_true, cond_false, Bool.and_true, Bool.true_and, Bool.and_false, Bool.false_and, Bool.not_true, Bool.not_false, isZS_0, isZS_1, oNL, ht, h1, h2, c_eq_refl, Option.bind_some]
set_option maxRecDepth 100000 in
set_option maxHeartbeats 4000000 in
theorem lw_8 (hi : i + 6 ≤ L) (hL : L ≤ 3072) (ht : xs i &&& oN 63 = oN 8) (h400 : 400 ≤ hm) (h1000 : hm ≤ 1000) (h : rI L xs mem mem hm) : stO L xs i hm mem := by
  obtain ⟨v, C', M', h1, h2, h3, h4⟩ := two (c := 133) (m := 228) (as := [vi (xs (i + 1)), vi (xs (i + 2)), vi (xs (i + 3)), vi (xs (i + 4))]) h (by decide) (by decide) (by simp) (fun C M g => op_stray h400 g)
  refine ⟨M', _, ?_, h3, by omega, by omega, by omega⟩
  unfold lw
  rw [h_256_23]
  simp (disch := omega) only [↓Bool.cond_eq_ite, ↓reduceIte, Bool.false_eq_true, eq_self, n_lit, n_neg, n_add, n_mul, n_sub, n_subM, n_div, n_mod, n_addM, m_div, m_subn, n_tN, n_inS, n_eq_t, n_eq_f, n_ne_t, n_ne_f, n_lt_t, n_lt_f, n_ge_t, n_ge_f, n_gt_t, n_gt_f, n_le_t, n_le_f, mn_eq, mn_ne, mn_lt, mn_ge, mn_gt, mn_le, nm_eq, nm_ne, nm_lt, nm_ge, nm_gt, nm_le, n_gts_t, c_eq_refl, c_ne_refl, w_fold, w_2, wC_fold, lt_M, cond_true, cond_false, Bool.and_true, Bool.true_and, Bool.and_false, Bool.false_and, Bool.not_true, Bool.not_false, isZS_0, isZS_1, oNL, ht, h1, h2, c_eq_refl, Option.bind_some]
set_option maxRecDepth 100000 in
set_option maxHeartbeats 4000000 in
theorem lw_9 (hi : i + 6 ≤ L) (hL : L ≤ 3072) (ht : xs i &&& oN 63 = oN 9) (h400 : 400 ≤ hm) (h1000 : hm ≤ 1000) (h : rI L xs mem mem hm) : stO L xs i hm mem := by
  obtain ⟨v, C', M', h1, h2, h3, h4⟩ := two (c := 92) (m := 158) (as := [vi (xs (i + 1)), vi (xs (i + 2))]) h (by decide) (by decide) (by simp) (fun C M g => op_comes g)
  refine ⟨M', _, ?_, h3, by omega, by omega, by omega⟩
  unfold lw
  rw [h_256_23]
  simp (disch := omega) only [↓Bool.cond_eq_ite, ↓reduceIte, Bool.false_eq_true, eq_self, n_lit, n_neg, n_add, n_mul, n_sub, n_subM, n_div, n_mod, n_addM, m_div, m_subn, n_tN, n_inS, n_eq_t, n_eq_f, n_ne_t, n_ne_f, n_lt_t, n_lt_f, n_ge_t, n_ge_f, n_gt_t, n_gt_f, n_le_t, n_le_f, mn_eq, mn_ne, mn_lt, mn_ge, mn_gt, mn_le, nm_eq, nm_ne, nm_lt, nm_ge, nm_gt, nm_le, n_gts_t, c_eq_refl, c_ne_refl, w_fold, w_2, wC_fold, lt_M, cond_true, cond_false, Bool.and_true, Bool.true_and, Bool.and_false, Bool.false_and, Bool.not_true, Bool.not_false, isZS_0, isZS_1, oNL, ht, h1, h2, c_eq_refl, Option.bind_some]
set_option maxRecDepth 100000 in
set_option maxHeartbeats 4000000 in
theorem lw_10 (hi : i + 6 ≤ L) (hL : L ≤ 3072) (ht : xs i &&& oN 63 = oN 10) (h400 : 400 ≤ hm) (h1000 : hm ≤ 1000) (h : rI L xs mem mem hm) : stO L xs i hm mem := by
  obtain ⟨v, C', M', h1, h2, h3, h4⟩ := two (c := 119) (m := 206) (as := [vi (xs (i + 1))]) h (by decide) (by decide) (by simp) (fun C M g => op_post g)
  refine ⟨M', _, ?_, h3, by omega, by omega, by omega⟩
  unfold lw
  rw [h_256_23]
  simp (disch := omega) only [↓Bool.cond_eq_ite, ↓reduceIte, Bool.false_eq_true, eq_self, n_lit, n_neg, n_add, n_mul, n_sub, n_subM, n_div, n_mod, n_addM, m_div, m_subn, n_tN, n_inS, n_eq_t, n_eq_f, n_ne_t, n_ne_f, n_lt_t, n_lt_f, n_ge_t, n_ge_f, n_gt_t, n_gt_f, n_le_t, n_le_f, mn_eq, mn_ne, mn_lt, mn_ge, mn_gt, mn_le, nm_eq, nm_ne, nm_lt, nm_ge, nm_gt, nm_le, n_gts_t, c_eq_refl, c_ne_refl, w_fold, w_2, wC_fold, lt_M, cond_true, cond_false, Bool.and_true, Bool.true_and, Bool.and_false, Bool.false_and, Bool.not_true, Bool.not_false, isZS_0, isZS_1, oNL, ht, h1, h2, c_eq_refl, Option.bind_some]
set_option maxRecDepth 100000 in
set_option maxHeartbeats 4000000 in
theorem lw_11 (hi : i + 6 ≤ L) (hL : L ≤ 3072) (ht : xs i &&& oN 63 = oN 11) (h400 : 400 ≤ hm) (h1000 : hm ≤ 1000) (h : rI L xs mem mem hm) : stO L xs i hm mem := by
  obtain ⟨v, C', M', h1, h2, h3, h4⟩ := two (c := 82) (m := 149) (as := [vi (xs (i + 1)), vi (xs (i + 2)), vi (xs (i + 3))]) h (by decide) (by decide) (by simp) (fun C M g => op_aim g)
  refine ⟨M', _, ?_, h3, by omega, by omega, by omega⟩
  unfold lw
  rw [h_256_23]
  simp (disch := omega) only [↓Bool.cond_eq_ite, ↓reduceIte, Bool.false_eq_true, eq_self, n_lit, n_neg, n_add, n_mul, n_sub, n_subM, n_div, n_mod, n_addM, m_div, m_subn, n_tN, n_inS, n_eq_t, n_eq_f, n_ne_t, n_ne_f, n_lt_t, n_lt_f, n_ge_t, n_ge_f, n_gt_t, n_gt_f, n_le_t, n_le_f, mn_eq, mn_ne, mn_lt, mn_ge, mn_gt, mn_le, nm_eq, nm_ne, nm_lt, nm_ge, nm_gt, nm_le, n_gts_t, c_eq_refl, c_ne_refl, w_fold, w_2, wC_fold, lt_M, cond_true, cond_false, Bool.and_true, Bool.true_and, Bool.and_false, Bool.false_and, Bool.not_true, Bool.not_false, isZS_0, isZS_1, oNL, ht, h1, h2, c_eq_refl, Option.bind_some]
set_option maxRecDepth 100000 in
set_option maxHeartbeats 4000000 in
theorem lw_13 (hi : i + 6 ≤ L) (hL : L ≤ 3072) (ht : xs i &&& oN 63 = oN 13) (h400 : 400 ≤ hm) (h1000 : hm ≤ 1000) (h : rI L xs mem mem hm) : stO L xs i hm mem := by
  obtain ⟨v, C', M', h1, h2, h3, h4⟩ := two (c := 85) (m := 152) (as := [vi (xs (i + 1)), vi (xs (i + 2))]) h (by decide) (by decide) (by simp) (fun C M g => op_body g)
  refine ⟨M', _, ?_, h3, by omega, by omega, by omega⟩
  unfold lw
  rw [h_256_23]
  simp (disch := omega) only [↓Bool.cond_eq_ite, ↓reduceIte, Bool.false_eq_true, eq_self, n_lit, n_neg, n_add, n_mul, n_sub, n_subM, n_div, n_mod, n_addM, m_div, m_subn, n_tN, n_inS, n_eq_t, n_eq_f, n_ne_t, n_ne_f, n_lt_t, n_lt_f, n_ge_t, n_ge_f, n_gt_t, n_gt_f, n_le_t, n_le_f, mn_eq, mn_ne, mn_lt, mn_ge, mn_gt, mn_le, nm_eq, nm_ne, nm_lt, nm_ge, nm_gt, nm_le, n_gts_t, c_eq_refl, c_ne_refl, w_fold, w_2, wC_fold, lt_M, cond_true, cond_false, Bool.and_true, Bool.true_and, Bool.and_false, Bool.false_and, Bool.not_true, Bool.not_false, isZS_0, isZS_1, oNL, ht, h1, h2, c_eq_refl, Option.bind_some]
set_option maxRecDepth 100000 in
set_option maxHeartbeats 4000000 in
theorem lw_15 (hi : i + 6 ≤ L) (hL : L ≤ 3072) (ht : xs i &&& oN 63 = oN 15) (h400 : 400 ≤ hm) (h1000 : hm ≤ 1000) (h : rI L xs mem mem hm) : stO L xs i hm mem := by
  obtain ⟨v, C', M', h1, h2, h3, h4⟩ := two (c := 135) (m := 233) (as := [vi (xs (i + 1))]) h (by decide) (by decide) (by simp) (fun C M g => op_text g)
  refine ⟨M', _, ?_, h3, by omega, by omega, by omega⟩
  unfold lw
  rw [h_256_23]
  simp (disch := omega) only [↓Bool.cond_eq_ite, ↓reduceIte, Bool.false_eq_true, eq_self, n_lit, n_neg, n_add, n_mul, n_sub, n_subM, n_div, n_mod, n_addM, m_div, m_subn, n_tN, n_inS, n_eq_t, n_eq_f, n_ne_t, n_ne_f, n_lt_t, n_lt_f, n_ge_t, n_ge_f, n_gt_t, n_gt_f, n_le_t, n_le_f, mn_eq, mn_ne, mn_lt, mn_ge, mn_gt, mn_le, nm_eq, nm_ne, nm_lt, nm_ge, nm_gt, nm_le, n_gts_t, c_eq_refl, c_ne_refl, w_fold, w_2, wC_fold, lt_M, cond_true, cond_false, Bool.and_true, Bool.true_and, Bool.and_false, Bool.false_and, Bool.not_true, Bool.not_false, isZS_0, isZS_1, oNL, ht, h1, h2, c_eq_refl, Option.bind_some]
set_option maxRecDepth 100000 in
set_option maxHeartbeats 4000000 in
theorem lw_16 (hi : i + 6 ≤ L) (hL : L ≤ 3072) (ht : xs i &&& oN 63 = oN 16) (h400 : 400 ≤ hm) (h1000 : hm ≤ 1000) (h : rI L xs mem mem hm) : stO L xs i hm mem := by
  obtain ⟨v, C', M', h1, h2, h3, h4⟩ := two (c := 98) (m := 171) (as := [vi (xs (i + 1)), vi (xs (i + 2))]) h (by decide) (by decide) (by simp) (fun C M g => op_force g)
  refine ⟨M', _, ?_, h3, by omega, by omega, by omega⟩
  unfold lw
  rw [h_256_23]
  simp (disch := omega) only [↓Bool.cond_eq_ite, ↓reduceIte, Bool.false_eq_true, eq_self, n_lit, n_neg, n_add, n_mul, n_sub, n_subM, n_div, n_mod, n_addM, m_div, m_subn, n_tN, n_inS, n_eq_t, n_eq_f, n_ne_t, n_ne_f, n_lt_t, n_lt_f, n_ge_t, n_ge_f, n_gt_t, n_gt_f, n_le_t, n_le_f, mn_eq, mn_ne, mn_lt, mn_ge, mn_gt, mn_le, nm_eq, nm_ne, nm_lt, nm_ge, nm_gt, nm_le, n_gts_t, c_eq_refl, c_ne_refl, w_fold, w_2, wC_fold, lt_M, cond_true, cond_false, Bool.and_true, Bool.true_and, Bool.and_false, Bool.false_and, Bool.not_true, Bool.not_false, isZS_0, isZS_1, oNL, ht, h1, h2, c_eq_refl, Option.bind_some]
set_option maxRecDepth 100000 in
set_option maxHeartbeats 4000000 in
theorem lw_17 (hi : i + 6 ≤ L) (hL : L ≤ 3072) (ht : xs i &&& oN 63 = oN 17) (h400 : 400 ≤ hm) (h1000 : hm ≤ 1000) (h : rI L xs mem mem hm) : stO L xs i hm mem := by
  obtain ⟨v, C', M', h1, h2, h3, h4⟩ := two (c := 103) (m := 180) (as := [vi (xs (i + 1)), vi (xs (i + 2)), vi (xs (i + 3))]) h (by decide) (by decide) (by simp) (fun C M g => op_holds h1000 g)
  refine ⟨M', _, ?_, h3, by omega, by omega, by omega⟩
  unfold lw
  rw [h_256_23]
  simp (disch := omega) only [↓Bool.cond_eq_ite, ↓reduceIte, Bool.false_eq_true, eq_self, n_lit, n_neg, n_add, n_mul, n_sub, n_subM, n_div, n_mod, n_addM, m_div, m_subn, n_tN, n_inS, n_eq_t, n_eq_f, n_ne_t, n_ne_f, n_lt_t, n_lt_f, n_ge_t, n_ge_f, n_gt_t, n_gt_f, n_le_t, n_le_f, mn_eq, mn_ne, mn_lt, mn_ge, mn_gt, mn_le, nm_eq, nm_ne, nm_lt, nm_ge, nm_gt, nm_le, n_gts_t, c_eq_refl, c_ne_refl, w_fold, w_2, wC_fold, lt_M, cond_true, cond_false, Bool.and_true, Bool.true_and, Bool.and_false, Bool.false_and, Bool.not_true, Bool.not_false, isZS_0, isZS_1, oNL, ht, h1, h2, c_eq_refl, Option.bind_some]
set_option maxRecDepth 100000 in
set_option maxHeartbeats 4000000 in
theorem lw_18 (hi : i + 6 ≤ L) (hL : L ≤ 3072) (ht : xs i &&& oN 63 = oN 18) (h400 : 400 ≤ hm) (h1000 : hm ≤ 1000) (h : rI L xs mem mem hm) : stO L xs i hm mem := by
  obtain ⟨v, C', M', h1, h2, h3, h4⟩ := two (c := 132) (m := 225) (as := [vi (xs (i + 1)), vi (xs (i + 2)), vi (xs (i + 3))]) h (by decide) (by decide) (by simp) (fun C M g => op_stands h1000 g)
  refine ⟨M', _, ?_, h3, by omega, by omega, by omega⟩
  unfold lw
  rw [h_256_23]
  simp (disch := omega) only [↓Bool.cond_eq_ite, ↓reduceIte, Bool.false_eq_true, eq_self, n_lit, n_neg, n_add, n_mul, n_sub, n_subM, n_div, n_mod, n_addM, m_div, m_subn, n_tN, n_inS, n_eq_t, n_eq_f, n_ne_t, n_ne_f, n_lt_t, n_lt_f, n_ge_t, n_ge_f, n_gt_t, n_gt_f, n_le_t, n_le_f, mn_eq, mn_ne, mn_lt, mn_ge, mn_gt, mn_le, nm_eq, nm_ne, nm_lt, nm_ge, nm_gt, nm_le, n_gts_t, c_eq_refl, c_ne_refl, w_fold, w_2, wC_fold, lt_M, cond_true, cond_false, Bool.and_true, Bool.true_and, Bool.and_false, Bool.false_and, Bool.not_true, Bool.not_false, isZS_0, isZS_1, oNL, ht, h1, h2, c_eq_refl, Option.bind_some]
set_option maxRecDepth 100000 in
set_option maxHeartbeats 4000000 in
theorem lw_19 (hi : i + 6 ≤ L) (hL : L ≤ 3072) (ht : xs i &&& oN 63 = oN 19) (h400 : 400 ≤ hm) (h1000 : hm ≤ 1000) (h : rI L xs mem mem hm) : stO L xs i hm mem := by
  obtain ⟨v, C', M', h1, h2, h3, h4⟩ := two (c := 129) (m := 221) (as := [vi (xs (i + 1)), vi (xs (i + 2))]) h (by decide) (by decide) (by simp) (fun C M g => op_schools h1000 g)
  refine ⟨M', _, ?_, h3, by omega, by omega, by omega⟩
  unfold lw
  rw [h_256_23]
  simp (disch := omega) only [↓Bool.cond_eq_ite, ↓reduceIte, Bool.false_eq_true, eq_self, n_lit, n_neg, n_add, n_mul, n_sub, n_subM, n_div, n_mod, n_addM, m_div, m_subn, n_tN, n_inS, n_eq_t, n_eq_f, n_ne_t, n_ne_f, n_lt_t, n_lt_f, n_ge_t, n_ge_f, n_gt_t, n_gt_f, n_le_t, n_le_f, mn_eq, mn_ne, mn_lt, mn_ge, mn_gt, mn_le, nm_eq, nm_ne, nm_lt, nm_ge, nm_gt, nm_le, n_gts_t, c_eq_refl, c_ne_refl, w_fold, w_2, wC_fold, lt_M, cond_true, cond_false, Bool.and_true, Bool.true_and, Bool.and_false, Bool.false_and, Bool.not_true, Bool.not_false, isZS_0, isZS_1, oNL, ht, h1, h2, c_eq_refl, Option.bind_some]
set_option maxRecDepth 100000 in
set_option maxHeartbeats 4000000 in
theorem lw_21 (hi : i + 6 ≤ L) (hL : L ≤ 3072) (ht : xs i &&& oN 63 = oN 21) (h400 : 400 ≤ hm) (h1000 : hm ≤ 1000) (h : rI L xs mem mem hm) : stO L xs i hm mem := by
  obtain ⟨v, C', M', h1, h2, h3, h4⟩ := two (c := 122) (m := 214) (as := [vi (xs (i + 1)), vi (xs (i + 2))]) h (by decide) (by decide) (by simp) (fun C M g => op_record g)
  refine ⟨M', _, ?_, h3, by omega, by omega, by omega⟩
  unfold lw
  rw [h_256_23]
  simp (disch := omega) only [↓Bool.cond_eq_ite, ↓reduceIte, Bool.false_eq_true, eq_self, n_lit, n_neg, n_add, n_mul, n_sub, n_subM, n_div, n_mod, n_addM, m_div, m_subn, n_tN, n_inS, n_eq_t, n_eq_f, n_ne_t, n_ne_f, n_lt_t, n_lt_f, n_ge_t, n_ge_f, n_gt_t, n_gt_f, n_le_t, n_le_f, mn_eq, mn_ne, mn_lt, mn_ge, mn_gt, mn_le, nm_eq, nm_ne, nm_lt, nm_ge, nm_gt, nm_le, n_gts_t, c_eq_refl, c_ne_refl, w_fold, w_2, wC_fold, lt_M, cond_true, cond_false, Bool.and_true, Bool.true_and, Bool.and_false, Bool.false_and, Bool.not_true, Bool.not_false, isZS_0, isZS_1, oNL, ht, h1, h2, c_eq_refl, Option.bind_some]
set_option maxRecDepth 100000 in
set_option maxHeartbeats 4000000 in
theorem lw_22 (hi : i + 6 ≤ L) (hL : L ≤ 3072) (ht : xs i &&& oN 63 = oN 22) (h400 : 400 ≤ hm) (h1000 : hm ≤ 1000) (h : rI L xs mem mem hm) : stO L xs i hm mem := by
  obtain ⟨v, C', M', h1, h2, h3, h4⟩ := two (c := 120) (m := 208) (as := [vi (xs (i + 1)), vi (xs (i + 2))]) h (by decide) (by decide) (by simp) (fun C M g => op_pushed g)
  refine ⟨M', _, ?_, h3, by omega, by omega, by omega⟩
  unfold lw
  rw [h_256_23]
  simp (disch := omega) only [↓Bool.cond_eq_ite, ↓reduceIte, Bool.false_eq_true, eq_self, n_lit, n_neg, n_add, n_mul, n_sub, n_subM, n_div, n_mod, n_addM, m_div, m_subn, n_tN, n_inS, n_eq_t, n_eq_f, n_ne_t, n_ne_f, n_lt_t, n_lt_f, n_ge_t, n_ge_f, n_gt_t, n_gt_f, n_le_t, n_le_f, mn_eq, mn_ne, mn_lt, mn_ge, mn_gt, mn_le, nm_eq, nm_ne, nm_lt, nm_ge, nm_gt, nm_le, n_gts_t, c_eq_refl, c_ne_refl, w_fold, w_2, wC_fold, lt_M, cond_true, cond_false, Bool.and_true, Bool.true_and, Bool.and_false, Bool.false_and, Bool.not_true, Bool.not_false, isZS_0, isZS_1, oNL, ht, h1, h2, c_eq_refl, Option.bind_some]
set_option maxRecDepth 100000 in
set_option maxHeartbeats 4000000 in
theorem lw_23 (hi : i + 6 ≤ L) (hL : L ≤ 3072) (ht : xs i &&& oN 63 = oN 23) (h400 : 400 ≤ hm) (h1000 : hm ≤ 1000) (h : rI L xs mem mem hm) : stO L xs i hm mem := by
  obtain ⟨v, C', M', h1, h2, h3, h4⟩ := two (c := 137) (m := 241) (as := [vi (xs (i + 1)), vi (xs (i + 2))]) h (by decide) (by decide) (by simp) (fun C M g => op_was g)
  refine ⟨M', _, ?_, h3, by omega, by omega, by omega⟩
  unfold lw
  rw [h_256_23]
  simp (disch := omega) only [↓Bool.cond_eq_ite, ↓reduceIte, Bool.false_eq_true, eq_self, n_lit, n_neg, n_add, n_mul, n_sub, n_subM, n_div, n_mod, n_addM, m_div, m_subn, n_tN, n_inS, n_eq_t, n_eq_f, n_ne_t, n_ne_f, n_lt_t, n_lt_f, n_ge_t, n_ge_f, n_gt_t, n_gt_f, n_le_t, n_le_f, mn_eq, mn_ne, mn_lt, mn_ge, mn_gt, mn_le, nm_eq, nm_ne, nm_lt, nm_ge, nm_gt, nm_le, n_gts_t, c_eq_refl, c_ne_refl, w_fold, w_2, wC_fold, lt_M, cond_true, cond_false, Bool.and_true, Bool.true_and, Bool.and_false, Bool.false_and, Bool.not_true, Bool.not_false, isZS_0, isZS_1, oNL, ht, h1, h2, c_eq_refl, Option.bind_some]
set_option maxRecDepth 100000 in
set_option maxHeartbeats 4000000 in
theorem lw_24 (hi : i + 6 ≤ L) (hL : L ≤ 3072) (ht : xs i &&& oN 63 = oN 24) (h400 : 400 ≤ hm) (h1000 : hm ≤ 1000) (h : rI L xs mem mem hm) : stO L xs i hm mem := by
  obtain ⟨v, C', M', h1, h2, h3, h4⟩ := two (c := 142) (m := 247) (as := [vi (xs (i + 1))]) h (by decide) (by decide) (by simp) (fun C M g => op_whose g)
  refine ⟨M', _, ?_, h3, by omega, by omega, by omega⟩
  unfold lw
  rw [h_256_23]
  simp (disch := omega) only [↓Bool.cond_eq_ite, ↓reduceIte, Bool.false_eq_true, eq_self, n_lit, n_neg, n_add, n_mul, n_sub, n_subM, n_div, n_mod, n_addM, m_div, m_subn, n_tN, n_inS, n_eq_t, n_eq_f, n_ne_t, n_ne_f, n_lt_t, n_lt_f, n_ge_t, n_ge_f, n_gt_t, n_gt_f, n_le_t, n_le_f, mn_eq, mn_ne, mn_lt, mn_ge, mn_gt, mn_le, nm_eq, nm_ne, nm_lt, nm_ge, nm_gt, nm_le, n_gts_t, c_eq_refl, c_ne_refl, w_fold, w_2, wC_fold, lt_M, cond_true, cond_false, Bool.and_true, Bool.true_and, Bool.and_false, Bool.false_and, Bool.not_true, Bool.not_false, isZS_0, isZS_1, oNL, ht, h1, h2, c_eq_refl, Option.bind_some]
set_option maxRecDepth 100000 in
set_option maxHeartbeats 4000000 in
theorem lw_25 (hi : i + 6 ≤ L) (hL : L ≤ 3072) (ht : xs i &&& oN 63 = oN 25) (h400 : 400 ≤ hm) (h1000 : hm ≤ 1000) (h : rI L xs mem mem hm) : stO L xs i hm mem := by
  obtain ⟨v, C', M', h1, h2, h3, h4⟩ := two (c := 134) (m := 230) (as := [vi (xs (i + 1))]) h (by decide) (by decide) (by simp) (fun C M g => op_sure g)
  refine ⟨M', _, ?_, h3, by omega, by omega, by omega⟩
  unfold lw
  rw [h_256_23]
  simp (disch := omega) only [↓Bool.cond_eq_ite, ↓reduceIte, Bool.false_eq_true, eq_self, n_lit, n_neg, n_add, n_mul, n_sub, n_subM, n_div, n_mod, n_addM, m_div, m_subn, n_tN, n_inS, n_eq_t, n_eq_f, n_ne_t, n_ne_f, n_lt_t, n_lt_f, n_ge_t, n_ge_f, n_gt_t, n_gt_f, n_le_t, n_le_f, mn_eq, mn_ne, mn_lt, mn_ge, mn_gt, mn_le, nm_eq, nm_ne, nm_lt, nm_ge, nm_gt, nm_le, n_gts_t, c_eq_refl, c_ne_refl, w_fold, w_2, wC_fold, lt_M, cond_true, cond_false, Bool.and_true, Bool.true_and, Bool.and_false, Bool.false_and, Bool.not_true, Bool.not_false, isZS_0, isZS_1, oNL, ht, h1, h2, c_eq_refl, Option.bind_some]
set_option maxRecDepth 100000 in
set_option maxHeartbeats 4000000 in
theorem lw_26 (hi : i + 6 ≤ L) (hL : L ≤ 3072) (ht : xs i &&& oN 63 = oN 26) (h400 : 400 ≤ hm) (h1000 : hm ≤ 1000) (h : rI L xs mem mem hm) : stO L xs i hm mem := by
  obtain ⟨v, C', M', h1, h2, h3, h4⟩ := two (c := 87) (m := 153) (as := [vi (xs (i + 1)), vi (xs (i + 2))]) h (by decide) (by decide) (by simp) (fun C M g => op_bring g)
  refine ⟨M', _, ?_, h3, by omega, by omega, by omega⟩
  unfold lw
  rw [h_256_23]
  simp (disch := omega) only [↓Bool.cond_eq_ite, ↓reduceIte, Bool.false_eq_true, eq_self, n_lit, n_neg, n_add, n_mul, n_sub, n_subM, n_div, n_mod, n_addM, m_div, m_subn, n_tN, n_inS, n_eq_t, n_eq_f, n_ne_t, n_ne_f, n_lt_t, n_lt_f, n_ge_t, n_ge_f, n_gt_t, n_gt_f, n_le_t, n_le_f, mn_eq, mn_ne, mn_lt, mn_ge, mn_gt, mn_le, nm_eq, nm_ne, nm_lt, nm_ge, nm_gt, nm_le, n_gts_t, c_eq_refl, c_ne_refl, w_fold, w_2, wC_fold, lt_M, cond_true, cond_false, Bool.and_true, Bool.true_and, Bool.and_false, Bool.false_and, Bool.not_true, Bool.not_false, isZS_0, isZS_1, oNL, ht, h1, h2, c_eq_refl, Option.bind_some]
set_option maxRecDepth 100000 in
set_option maxHeartbeats 4000000 in
theorem lw_27 (hi : i + 6 ≤ L) (hL : L ≤ 3072) (ht : xs i &&& oN 63 = oN 27) (h400 : 400 ≤ hm) (h1000 : hm ≤ 1000) (h : rI L xs mem mem hm) : stO L xs i hm mem := by
  obtain ⟨v, C', M', h1, h2, h3, h4⟩ := two (c := 99) (m := 172) (as := [vi (xs (i + 1)), vi (xs (i + 2))]) h (by decide) (by decide) (by simp) (fun C M g => op_found g)
  refine ⟨M', _, ?_, h3, by omega, by omega, by omega⟩
  unfold lw
  rw [h_256_23]
  simp (disch := omega) only [↓Bool.cond_eq_ite, ↓reduceIte, Bool.false_eq_true, eq_self, n_lit, n_neg, n_add, n_mul, n_sub, n_subM, n_div, n_mod, n_addM, m_div, m_subn, n_tN, n_inS, n_eq_t, n_eq_f, n_ne_t, n_ne_f, n_lt_t, n_lt_f, n_ge_t, n_ge_f, n_gt_t, n_gt_f, n_le_t, n_le_f, mn_eq, mn_ne, mn_lt, mn_ge, mn_gt, mn_le, nm_eq, nm_ne, nm_lt, nm_ge, nm_gt, nm_le, n_gts_t, c_eq_refl, c_ne_refl, w_fold, w_2, wC_fold, lt_M, cond_true, cond_false, Bool.and_true, Bool.true_and, Bool.and_false, Bool.false_and, Bool.not_true, Bool.not_false, isZS_0, isZS_1, oNL, ht, h1, h2, c_eq_refl, Option.bind_some]
set_option maxRecDepth 100000 in
set_option maxHeartbeats 4000000 in
theorem lw_28 (hi : i + 6 ≤ L) (hL : L ≤ 3072) (ht : xs i &&& oN 63 = oN 28) (h400 : 400 ≤ hm) (h1000 : hm ≤ 1000) (h : rI L xs mem mem hm) : stO L xs i hm mem := by
  obtain ⟨v, C', M', h1, h2, h3, h4⟩ := two (c := 89) (m := 155) (as := [vi (xs (i + 1)), vi (xs (i + 2))]) h (by decide) (by decide) (by simp) (fun C M g => op_carry g)
  refine ⟨M', _, ?_, h3, by omega, by omega, by omega⟩
  unfold lw
  rw [h_256_23]
  simp (disch := omega) only [↓Bool.cond_eq_ite, ↓reduceIte, Bool.false_eq_true, eq_self, n_lit, n_neg, n_add, n_mul, n_sub, n_subM, n_div, n_mod, n_addM, m_div, m_subn, n_tN, n_inS, n_eq_t, n_eq_f, n_ne_t, n_ne_f, n_lt_t, n_lt_f, n_ge_t, n_ge_f, n_gt_t, n_gt_f, n_le_t, n_le_f, mn_eq, mn_ne, mn_lt, mn_ge, mn_gt, mn_le, nm_eq, nm_ne, nm_lt, nm_ge, nm_gt, nm_le, n_gts_t, c_eq_refl, c_ne_refl, w_fold, w_2, wC_fold, lt_M, cond_true, cond_false, Bool.and_true, Bool.true_and, Bool.and_false, Bool.false_and, Bool.not_true, Bool.not_false, isZS_0, isZS_1, oNL, ht, h1, h2, c_eq_refl, Option.bind_some]
set_option maxRecDepth 100000 in
set_option maxHeartbeats 4000000 in
theorem lw_29 (hi : i + 6 ≤ L) (hL : L ≤ 3072) (ht : xs i &&& oN 63 = oN 29) (h400 : 400 ≤ hm) (h1000 : hm ≤ 1000) (h : rI L xs mem mem hm) : stO L xs i hm mem := by
  obtain ⟨v, C', M', h1, h2, h3, h4⟩ := two (c := 146) (m := 250) (as := [vi (xs (i + 1))]) h (by decide) (by decide) (by simp) (fun C M g => op_wrong g)
  refine ⟨M', _, ?_, h3, by omega, by omega, by omega⟩
  unfold lw
  rw [h_256_23]
  simp (disch := omega) only [↓Bool.cond_eq_ite, ↓reduceIte, Bool.false_eq_true, eq_self, n_lit, n_neg, n_add, n_mul, n_sub, n_subM, n_div, n_mod, n_addM, m_div, m_subn, n_tN, n_inS, n_eq_t, n_eq_f, n_ne_t, n_ne_f, n_lt_t, n_lt_f, n_ge_t, n_ge_f, n_gt_t, n_gt_f, n_le_t, n_le_f, mn_eq, mn_ne, mn_lt, mn_ge, mn_gt, mn_le, nm_eq, nm_ne, nm_lt, nm_ge, nm_gt, nm_le, n_gts_t, c_eq_refl, c_ne_refl, w_fold, w_2, wC_fold, lt_M, cond_true, cond_false, Bool.and_true, Bool.true_and, Bool.and_false, Bool.false_and, Bool.not_true, Bool.not_false, isZS_0, isZS_1, oNL, ht, h1, h2, c_eq_refl, Option.bind_some]
set_option maxRecDepth 100000 in
set_option maxHeartbeats 4000000 in
theorem lw_30 (hi : i + 6 ≤ L) (hL : L ≤ 3072) (ht : xs i &&& oN 63 = oN 30) (h400 : 400 ≤ hm) (h1000 : hm ≤ 1000) (h : rI L xs mem mem hm) : stO L xs i hm mem := by
  obtain ⟨v, C', M', h1, h2, h3, h4⟩ := two (c := 91) (m := 157) (as := [vi (xs (i + 1)), vi (xs (i + 2))]) h (by decide) (by decide) (by simp) (fun C M g => op_closes g)
  refine ⟨M', _, ?_, h3, by omega, by omega, by omega⟩
  unfold lw
  rw [h_256_23]
  simp (disch := omega) only [↓Bool.cond_eq_ite, ↓reduceIte, Bool.false_eq_true, eq_self, n_lit, n_neg, n_add, n_mul, n_sub, n_subM, n_div, n_mod, n_addM, m_div, m_subn, n_tN, n_inS, n_eq_t, n_eq_f, n_ne_t, n_ne_f, n_lt_t, n_lt_f, n_ge_t, n_ge_f, n_gt_t, n_gt_f, n_le_t, n_le_f, mn_eq, mn_ne, mn_lt, mn_ge, mn_gt, mn_le, nm_eq, nm_ne, nm_lt, nm_ge, nm_gt, nm_le, n_gts_t, c_eq_refl, c_ne_refl, w_fold, w_2, wC_fold, lt_M, cond_true, cond_false, Bool.and_true, Bool.true_and, Bool.and_false, Bool.false_and, Bool.not_true, Bool.not_false, isZS_0, isZS_1, oNL, ht, h1, h2, c_eq_refl, Option.bind_some]
set_option maxRecDepth 100000 in
set_option maxHeartbeats 4000000 in
theorem lw_31 (hi : i + 6 ≤ L) (hL : L ≤ 3072) (ht : xs i &&& oN 63 = oN 31) (h400 : 400 ≤ hm) (h1000 : hm ≤ 1000) (h : rI L xs mem mem hm) : stO L xs i hm mem := by
  obtain ⟨v, C', M', h1, h2, h3, h4⟩ := two (c := 139) (m := 243) (as := [vi (xs (i + 1)), vi (xs (i + 2))]) h (by decide) (by decide) (by simp) (fun C M g => op_wave h1000 g)
  refine ⟨M', _, ?_, h3, by omega, by omega, by omega⟩
  unfold lw
  rw [h_256_23]
  simp (disch := omega) only [↓Bool.cond_eq_ite, ↓reduceIte, Bool.false_eq_true, eq_self, n_lit, n_neg, n_add, n_mul, n_sub, n_subM, n_div, n_mod, n_addM, m_div, m_subn, n_tN, n_inS, n_eq_t, n_eq_f, n_ne_t, n_ne_f, n_lt_t, n_lt_f, n_ge_t, n_ge_f, n_gt_t, n_gt_f, n_le_t, n_le_f, mn_eq, mn_ne, mn_lt, mn_ge, mn_gt, mn_le, nm_eq, nm_ne, nm_lt, nm_ge, nm_gt, nm_le, n_gts_t, c_eq_refl, c_ne_refl, w_fold, w_2, wC_fold, lt_M, cond_true, cond_false, Bool.and_true, Bool.true_and, Bool.and_false, Bool.false_and, Bool.not_true, Bool.not_false, isZS_0, isZS_1, oNL, ht, h1, h2, c_eq_refl, Option.bind_some]
set_option maxRecDepth 100000 in
set_option maxHeartbeats 4000000 in
theorem lw_32 (hi : i + 6 ≤ L) (hL : L ≤ 3072) (ht : xs i &&& oN 63 = oN 32) (h400 : 400 ≤ hm) (h1000 : hm ≤ 1000) (h : rI L xs mem mem hm) : stO L xs i hm mem := by
  obtain ⟨v, C', M', h1, h2, h3, h4⟩ := two (c := 124) (m := 217) (as := [vi (xs (i + 1)), vi (xs (i + 2))]) h (by decide) (by decide) (by simp) (fun C M g => op_rides h1000 g)
  refine ⟨M', _, ?_, h3, by omega, by omega, by omega⟩
  unfold lw
  rw [h_256_23]
  simp (disch := omega) only [↓Bool.cond_eq_ite, ↓reduceIte, Bool.false_eq_true, eq_self, n_lit, n_neg, n_add, n_mul, n_sub, n_subM, n_div, n_mod, n_addM, m_div, m_subn, n_tN, n_inS, n_eq_t, n_eq_f, n_ne_t, n_ne_f, n_lt_t, n_lt_f, n_ge_t, n_ge_f, n_gt_t, n_gt_f, n_le_t, n_le_f, mn_eq, mn_ne, mn_lt, mn_ge, mn_gt, mn_le, nm_eq, nm_ne, nm_lt, nm_ge, nm_gt, nm_le, n_gts_t, c_eq_refl, c_ne_refl, w_fold, w_2, wC_fold, lt_M, cond_true, cond_false, Bool.and_true, Bool.true_and, Bool.and_false, Bool.false_and, Bool.not_true, Bool.not_false, isZS_0, isZS_1, oNL, ht, h1, h2, c_eq_refl, Option.bind_some]
set_option maxRecDepth 100000 in
set_option maxHeartbeats 4000000 in
theorem lw_34 (hi : i + 6 ≤ L) (hL : L ≤ 3072) (ht : xs i &&& oN 63 = oN 34) (h400 : 400 ≤ hm) (h1000 : hm ≤ 1000) (h : rI L xs mem mem hm) : stO L xs i hm mem := by
  obtain ⟨v, C', M', h1, h2, h3, h4⟩ := two (c := 131) (m := 224) (as := [vi (xs (i + 1)), vi (xs (i + 2)), vi (xs (i + 3))]) h (by decide) (by decide) (by simp) (fun C M g => op_slot h1000 g)
  refine ⟨M', _, ?_, h3, by omega, by omega, by omega⟩
  unfold lw
  rw [h_256_23]
  simp (disch := omega) only [↓Bool.cond_eq_ite, ↓reduceIte, Bool.false_eq_true, eq_self, n_lit, n_neg, n_add, n_mul, n_sub, n_subM, n_div, n_mod, n_addM, m_div, m_subn, n_tN, n_inS, n_eq_t, n_eq_f, n_ne_t, n_ne_f, n_lt_t, n_lt_f, n_ge_t, n_ge_f, n_gt_t, n_gt_f, n_le_t, n_le_f, mn_eq, mn_ne, mn_lt, mn_ge, mn_gt, mn_le, nm_eq, nm_ne, nm_lt, nm_ge, nm_gt, nm_le, n_gts_t, c_eq_refl, c_ne_refl, w_fold, w_2, wC_fold, lt_M, cond_true, cond_false, Bool.and_true, Bool.true_and, Bool.and_false, Bool.false_and, Bool.not_true, Bool.not_false, isZS_0, isZS_1, oNL, ht, h1, h2, c_eq_refl, Option.bind_some]
set_option maxRecDepth 100000 in
set_option maxHeartbeats 4000000 in
theorem lw_35 (hi : i + 6 ≤ L) (hL : L ≤ 3072) (ht : xs i &&& oN 63 = oN 35) (h400 : 400 ≤ hm) (h1000 : hm ≤ 1000) (h : rI L xs mem mem hm) : stO L xs i hm mem := by
  obtain ⟨v, C', M', h1, h2, h3, h4⟩ := two (c := 116) (m := 195) (as := [vi (xs (i + 1)), vi (xs (i + 2))]) h (by decide) (by decide) (by simp) (fun C M g => op_judge h1000 g)
  refine ⟨M', _, ?_, h3, by omega, by omega, by omega⟩
  unfold lw
  rw [h_256_23]
  simp (disch := omega) only [↓Bool.cond_eq_ite, ↓reduceIte, Bool.false_eq_true, eq_self, n_lit, n_neg, n_add, n_mul, n_sub, n_subM, n_div, n_mod, n_addM, m_div, m_subn, n_tN, n_inS, n_eq_t, n_eq_f, n_ne_t, n_ne_f, n_lt_t, n_lt_f, n_ge_t, n_ge_f, n_gt_t, n_gt_f, n_le_t, n_le_f, mn_eq, mn_ne, mn_lt, mn_ge, mn_gt, mn_le, nm_eq, nm_ne, nm_lt, nm_ge, nm_gt, nm_le, n_gts_t, c_eq_refl, c_ne_refl, w_fold, w_2, wC_fold, lt_M, cond_true, cond_false, Bool.and_true, Bool.true_and, Bool.and_false, Bool.false_and, Bool.not_true, Bool.not_false, isZS_0, isZS_1, oNL, ht, h1, h2, c_eq_refl, Option.bind_some]
set_option maxRecDepth 100000 in
set_option maxHeartbeats 4000000 in
theorem lw_36 (hi : i + 6 ≤ L) (hL : L ≤ 3072) (ht : xs i &&& oN 63 = oN 36) (h400 : 400 ≤ hm) (h1000 : hm ≤ 1000) (h : rI L xs mem mem hm) : stO L xs i hm mem := by
  obtain ⟨v, C', M', h1, h2, h3, h4⟩ := two (c := 144) (m := 248) (as := [vi (xs (i + 1)), vi (xs (i + 2)), vi (xs (i + 3))]) h (by decide) (by decide) (by simp) (fun C M g => op_worst h1000 g)
  refine ⟨M', _, ?_, h3, by omega, by omega, by omega⟩
  unfold lw
  rw [h_256_23]
  simp (disch := omega) only [↓Bool.cond_eq_ite, ↓reduceIte, Bool.false_eq_true, eq_self, n_lit, n_neg, n_add, n_mul, n_sub, n_subM, n_div, n_mod, n_addM, m_div, m_subn, n_tN, n_inS, n_eq_t, n_eq_f, n_ne_t, n_ne_f, n_lt_t, n_lt_f, n_ge_t, n_ge_f, n_gt_t, n_gt_f, n_le_t, n_le_f, mn_eq, mn_ne, mn_lt, mn_ge, mn_gt, mn_le, nm_eq, nm_ne, nm_lt, nm_ge, nm_gt, nm_le, n_gts_t, c_eq_refl, c_ne_refl, w_fold, w_2, wC_fold, lt_M, cond_true, cond_false, Bool.and_true, Bool.true_and, Bool.and_false, Bool.false_and, Bool.not_true, Bool.not_false, isZS_0, isZS_1, oNL, ht, h1, h2, c_eq_refl, Option.bind_some]
set_option maxRecDepth 100000 in
set_option maxHeartbeats 4000000 in
theorem lw_37 (hi : i + 6 ≤ L) (hL : L ≤ 3072) (ht : xs i &&& oN 63 = oN 37) (h400 : 400 ≤ hm) (h1000 : hm ≤ 1000) (h : rI L xs mem mem hm) : stO L xs i hm mem := by
  obtain ⟨v, C', M', h1, h2, h3, h4⟩ := two (c := 84) (m := 151) (as := [vi (xs (i + 1))]) h (by decide) (by decide) (by simp) (fun C M g => op_best h1000 g)
  refine ⟨M', _, ?_, h3, by omega, by omega, by omega⟩
  unfold lw
  rw [h_256_23]
  simp (disch := omega) only [↓Bool.cond_eq_ite, ↓reduceIte, Bool.false_eq_true, eq_self, n_lit, n_neg, n_add, n_mul, n_sub, n_subM, n_div, n_mod, n_addM, m_div, m_subn, n_tN, n_inS, n_eq_t, n_eq_f, n_ne_t, n_ne_f, n_lt_t, n_lt_f, n_ge_t, n_ge_f, n_gt_t, n_gt_f, n_le_t, n_le_f, mn_eq, mn_ne, mn_lt, mn_ge, mn_gt, mn_le, nm_eq, nm_ne, nm_lt, nm_ge, nm_gt, nm_le, n_gts_t, c_eq_refl, c_ne_refl, w_fold, w_2, wC_fold, lt_M, cond_true, cond_false, Bool.and_true, Bool.true_and, Bool.and_false, Bool.false_and, Bool.not_true, Bool.not_false, isZS_0, isZS_1, oNL, ht, h1, h2, c_eq_refl, Option.bind_some]
set_option maxRecDepth 100000 in
set_option maxHeartbeats 4000000 in
theorem lw_40 (hi : i + 6 ≤ L) (hL : L ≤ 3072) (ht : xs i &&& oN 63 = oN 40) (h400 : 400 ≤ hm) (h1000 : hm ≤ 1000) (h : rI L xs mem mem hm) : stO L xs i hm mem := by
  obtain ⟨v, C', M', h1, h2, h3, h4⟩ := two (c := 94) (m := 160) (as := [vi (xs (i + 1))]) h (by decide) (by decide) (by simp) (fun C M g => op_count g)
  refine ⟨M', _, ?_, h3, by omega, by omega, by omega⟩
  unfold lw
  rw [h_256_23]
  simp (disch := omega) only [↓Bool.cond_eq_ite, ↓reduceIte, Bool.false_eq_true, eq_self, n_lit, n_neg, n_add, n_mul, n_sub, n_subM, n_div, n_mod, n_addM, m_div, m_subn, n_tN, n_inS, n_eq_t, n_eq_f, n_ne_t, n_ne_f, n_lt_t, n_lt_f, n_ge_t, n_ge_f, n_gt_t, n_gt_f, n_le_t, n_le_f, mn_eq, mn_ne, mn_lt, mn_ge, mn_gt, mn_le, nm_eq, nm_ne, nm_lt, nm_ge, nm_gt, nm_le, n_gts_t, c_eq_refl, c_ne_refl, w_fold, w_2, wC_fold, lt_M, cond_true, cond_false, Bool.and_true, Bool.true_and, Bool.and_false, Bool.false_and, Bool.not_true, Bool.not_false, isZS_0, isZS_1, oNL, ht, h1, h2, c_eq_refl, Option.bind_some]
set_option maxRecDepth 100000 in
set_option maxHeartbeats 4000000 in
theorem lw_41 (hi : i + 6 ≤ L) (hL : L ≤ 3072) (ht : xs i &&& oN 63 = oN 41) (h400 : 400 ≤ hm) (h1000 : hm ≤ 1000) (h : rI L xs mem mem hm) : stO L xs i hm mem := by
  obtain ⟨v, C', M', h1, h2, h3, h4⟩ := two (c := 117) (m := 196) (as := [vi (xs (i + 1)), vi (xs (i + 2)), vi (xs (i + 3))]) h (by decide) (by decide) (by simp) (fun C M g => op_keep g)
  refine ⟨M', _, ?_, h3, by omega, by omega, by omega⟩
  unfold lw
  rw [h_256_23]
  simp (disch := omega) only [↓Bool.cond_eq_ite, ↓reduceIte, Bool.false_eq_true, eq_self, n_lit, n_neg, n_add, n_mul, n_sub, n_subM, n_div, n_mod, n_addM, m_div, m_subn, n_tN, n_inS, n_eq_t, n_eq_f, n_ne_t, n_ne_f, n_lt_t, n_lt_f, n_ge_t, n_ge_f, n_gt_t, n_gt_f, n_le_t, n_le_f, mn_eq, mn_ne, mn_lt, mn_ge, mn_gt, mn_le, nm_eq, nm_ne, nm_lt, nm_ge, nm_gt, nm_le, n_gts_t, c_eq_refl, c_ne_refl, w_fold, w_2, wC_fold, lt_M, cond_true, cond_false, Bool.and_true, Bool.true_and, Bool.and_false, Bool.false_and, Bool.not_true, Bool.not_false, isZS_0, isZS_1, oNL, ht, h1, h2, c_eq_refl, Option.bind_some]
set_option maxRecDepth 100000 in
set_option maxHeartbeats 4000000 in
theorem lw_42 (hi : i + 6 ≤ L) (hL : L ≤ 3072) (ht : xs i &&& oN 63 = oN 42) (h400 : 400 ≤ hm) (h1000 : hm ≤ 1000) (h : rI L xs mem mem hm) : stO L xs i hm mem := by
  obtain ⟨v, C', M', h1, h2, h3, h4⟩ := two (c := 127) (m := 220) (as := [vi (xs (i + 1)), vi (xs (i + 2)), vi (xs (i + 3))]) h (by decide) (by decide) (by simp) (fun C M g => op_row g)
  refine ⟨M', _, ?_, h3, by omega, by omega, by omega⟩
  unfold lw
  rw [h_256_23]
  simp (disch := omega) only [↓Bool.cond_eq_ite, ↓reduceIte, Bool.false_eq_true, eq_self, n_lit, n_neg, n_add, n_mul, n_sub, n_subM, n_div, n_mod, n_addM, m_div, m_subn, n_tN, n_inS, n_eq_t, n_eq_f, n_ne_t, n_ne_f, n_lt_t, n_lt_f, n_ge_t, n_ge_f, n_gt_t, n_gt_f, n_le_t, n_le_f, mn_eq, mn_ne, mn_lt, mn_ge, mn_gt, mn_le, nm_eq, nm_ne, nm_lt, nm_ge, nm_gt, nm_le, n_gts_t, c_eq_refl, c_ne_refl, w_fold, w_2, wC_fold, lt_M, cond_true, cond_false, Bool.and_true, Bool.true_and, Bool.and_false, Bool.false_and, Bool.not_true, Bool.not_false, isZS_0, isZS_1, oNL, ht, h1, h2, c_eq_refl, Option.bind_some]
set_option maxRecDepth 100000 in
set_option maxHeartbeats 4000000 in
theorem lw_43 (hi : i + 6 ≤ L) (hL : L ≤ 3072) (ht : xs i &&& oN 63 = oN 43) (h400 : 400 ≤ hm) (h1000 : hm ≤ 1000) (h : rI L xs mem mem hm) : stO L xs i hm mem := by
  obtain ⟨v, C', M', h1, h2, h3, h4⟩ := two (c := 121) (m := 209) (as := [vi (xs (i + 1)), vi (xs (i + 2)), vi (xs (i + 3))]) h (by decide) (by decide) (by simp) (fun C M g => op_put g)
  refine ⟨M', _, ?_, h3, by omega, by omega, by omega⟩
  unfold lw
  rw [h_256_23]
  simp (disch := omega) only [↓Bool.cond_eq_ite, ↓reduceIte, Bool.false_eq_true, eq_self, n_lit, n_neg, n_add, n_mul, n_sub, n_subM, n_div, n_mod, n_addM, m_div, m_subn, n_tN, n_inS, n_eq_t, n_eq_f, n_ne_t, n_ne_f, n_lt_t, n_lt_f, n_ge_t, n_ge_f, n_gt_t, n_gt_f, n_le_t, n_le_f, mn_eq, mn_ne, mn_lt, mn_ge, mn_gt, mn_le, nm_eq, nm_ne, nm_lt, nm_ge, nm_gt, nm_le, n_gts_t, c_eq_refl, c_ne_refl, w_fold, w_2, wC_fold, lt_M, cond_true, cond_false, Bool.and_true, Bool.true_and, Bool.and_false, Bool.false_and, Bool.not_true, Bool.not_false, isZS_0, isZS_1, oNL, ht, h1, h2, c_eq_refl, Option.bind_some]
set_option maxRecDepth 100000 in
set_option maxHeartbeats 4000000 in
theorem lw_45 (hi : i + 6 ≤ L) (hL : L ≤ 3072) (ht : xs i &&& oN 63 = oN 45) (h400 : 400 ≤ hm) (h1000 : hm ≤ 1000) (h : rI L xs mem mem hm) : stO L xs i hm mem := by
  obtain ⟨v, C', M', h1, h2, h3, h4⟩ := two (c := 93) (m := 159) (as := [vi (xs (i + 1)), vi (xs (i + 2)), vi (xs (i + 3)), vi (xs (i + 4)), vi (xs (i + 5))]) h (by decide) (by decide) (by simp) (fun C M g => op_copy g)
  refine ⟨M', _, ?_, h3, by omega, by omega, by omega⟩
  unfold lw
  rw [h_256_23]
  simp (disch := omega) only [↓Bool.cond_eq_ite, ↓reduceIte, Bool.false_eq_true, eq_self, n_lit, n_neg, n_add, n_mul, n_sub, n_subM, n_div, n_mod, n_addM, m_div, m_subn, n_tN, n_inS, n_eq_t, n_eq_f, n_ne_t, n_ne_f, n_lt_t, n_lt_f, n_ge_t, n_ge_f, n_gt_t, n_gt_f, n_le_t, n_le_f, mn_eq, mn_ne, mn_lt, mn_ge, mn_gt, mn_le, nm_eq, nm_ne, nm_lt, nm_ge, nm_gt, nm_le, n_gts_t, c_eq_refl, c_ne_refl, w_fold, w_2, wC_fold, lt_M, cond_true, cond_false, Bool.and_true, Bool.true_and, Bool.and_false, Bool.false_and, Bool.not_true, Bool.not_false, isZS_0, isZS_1, oNL, ht, h1, h2, c_eq_refl, Option.bind_some]
end Law2
