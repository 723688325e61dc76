section Law6
variable {L : Nat} {xs : Nat → Int32} {C C' M M' mem : mM} {hm i : Nat} {f : List Nat → Nat → Int32} {d : Nat}
theorem inB_t (h : d < 8) : inB (oN d) 8 = true := by rw [← inS_eq]; exact n_inS h (by omega)
theorem inB_f (h : 8 ≤ d) (h2 : d < 2147483648) : inB (oN d) 8 = false := by
  unfold inB
  rw [n_tN h2, decide_eq_false (show ¬ d < 8 by omega), Bool.and_false]
theorem inB_m (h : 0 < d) (h2 : d ≤ 2147483648) : inB (oM d) 8 = false := by
  unfold inB
  rw [decide_eq_false, Bool.false_and]
  intro q
  have := Int32.le_iff_toInt_le.mp q
  rw [m_toI h2] at this
  have h0 : (0 : Int32).toInt = 0 := by decide
  omega
theorem sT_n {a : Int32} (h : inB a 8 = false) : sTos f a = oM 1 := by
  unfold sTos
  rw [h]
  rfl
theorem sT_0 (hd : d < 8) (h : f [d, 6, 0] 0 = oN 0) : sTos f (oN d) = oM 11 := by
  unfold sTos
  rw [inB_t hd, n_tN (by omega)]
  dsimp only [cond_true]
  rw [h, if_pos (by decide)]
  rfl
theorem sT_2 (hd : d < 8) (h : f [d, 6, 0] 0 = oN 2) : sTos f (oN d) = oM 12 := by
  unfold sTos
  rw [inB_t hd, n_tN (by omega)]
  dsimp only [cond_true]
  rw [h, if_neg (by decide), if_neg (by decide)]
  rfl
theorem lt0_m : (oM 1 : Int32) < 0 := by decide
theorem lt0_n {c : Nat} (h : c < 2147483648) : ¬ oN c < (0 : Int32) := fun q => by
  have := Int32.lt_iff_toInt_lt.mp q
  rw [n_toI h] at this
  have h0 : (0 : Int32).toInt = 0 := by decide
  omega
theorem oN_nq {a b : Nat} (h : a ≠ b) (ha : a < 2147483648) (hb : b < 2147483648) : ¬ oN a = oN b := fun q => h ((n_inj ha hb).mp q)
theorem sT_1 (hd : d < 8) (h : C.1 [d, 6, 0] 0 = oN 1) (hB : rShB C M d) : sTos C.1 (oN d) = M.1 [54, 1] d := by
  obtain ⟨k, k5, h1, -, h54⟩ := hB
  unfold sTos
  rw [inB_t hd, n_tN (by omega)]
  dsimp only [cond_true]
  rw [h, if_neg (by decide), if_pos (by decide), h1]
  rcases h54 with ⟨a, b⟩ | ⟨c, n, hc, hn, a, a0, b⟩
  · rw [a, b]
    split
    · rfl
    · rw [if_pos lt0_m]; rfl
  · rw [a, b]
    by_cases q : k = 5
    · subst q; rw [if_pos (by decide), if_pos rfl]; rfl
    · rw [if_neg (show ¬ oN k = 5 from oN_nq (b := 5) q (by omega) (by omega)), if_neg (lt0_n (by omega)), if_neg q]
      by_cases q3 : k = 3
      · subst q3; rw [if_pos (by decide), if_pos rfl, a0]; exact n_add 100 n
      · rw [if_neg (show ¬ oN k = 3 from oN_nq (b := 3) q3 (by omega) (by omega)), if_neg q3, a0]
set_option maxRecDepth 8000 in
theorem s_2 (hB : rShB C M d) : kI L xs 2 [vr 0 [1, d, 6, 0]] C = some (M.1 [53, 1] d, C) := by
  obtain ⟨k, k5, h1, h53, -⟩ := hB
  have e := e_2 L xs [1, d, 6, 0] C
  have hk : k = 0 ∨ k = 1 ∨ k = 2 ∨ k = 3 ∨ k = 4 ∨ k = 5 := by omega
  rcases hk with hk | hk | hk | hk | hk | hk <;> subst hk
  · rw [if_pos rfl] at h53
    simp (disch := omega) only [↓Bool.cond_eq_ite, ↓reduceIte, n_lit, h1, n_eq_t, n_eq_f, Bool.false_eq_true] at e
    rw [h53]; exact kI_of e
  · rw [if_neg (by omega), if_pos rfl] at h53
    simp (disch := omega) only [↓Bool.cond_eq_ite, ↓reduceIte, n_lit, h1, n_eq_t, n_eq_f, Bool.false_eq_true] at e
    rw [h53]; exact kI_of e
  · rw [if_neg (by omega), if_neg (by omega), if_pos rfl] at h53
    simp (disch := omega) only [↓Bool.cond_eq_ite, ↓reduceIte, n_lit, h1, n_eq_t, n_eq_f, Bool.false_eq_true] at e
    rw [h53]; exact kI_of e
  · rw [if_neg (by omega), if_neg (by omega), if_neg (by omega), if_pos rfl] at h53
    simp (disch := omega) only [↓Bool.cond_eq_ite, ↓reduceIte, n_lit, h1, n_eq_t, n_eq_f, Bool.false_eq_true] at e
    rw [h53]; exact kI_of e
  · rw [if_neg (by omega), if_neg (by omega), if_neg (by omega), if_neg (by omega), if_pos rfl] at h53
    simp (disch := omega) only [↓Bool.cond_eq_ite, ↓reduceIte, n_lit, h1, n_eq_t, n_eq_f, Bool.false_eq_true] at e
    rw [h53]; exact kI_of e
  · rw [if_neg (by omega), if_neg (by omega), if_neg (by omega), if_neg (by omega), if_neg (by omega)] at h53
    simp (disch := omega) only [↓Bool.cond_eq_ite, ↓reduceIte, n_lit, h1, n_eq_t, n_eq_f, Bool.false_eq_true] at e
    rw [h53]; exact kI_of e
theorem s_253 (hSh : rSh C M) (a1 : Int32) : (∃ k, 1 ≤ k ∧ k ≤ 100 ∧ kI L xs 253 [vr 10 [1], vi a1] M = some (oM k, M) ∧ kI L xs 86 [vr 9 [0], vi a1] C = some (oM k, C) ∧ sTos C.1 a1 = oM k) ∨
    ∃ d, a1 = oN d ∧ d < 8 ∧ kI L xs 253 [vr 10 [1], vi a1] M = some (oN 0, M) ∧ kI L xs 86 [vr 9 [0], vi a1] C = some (oN 0, C) ∧ sTos C.1 a1 = M.1 [54, 1] d ∧ kI L xs 2 [vr 0 [1, d, 6, 0]] C = some (M.1 [53, 1] d, C) := by
  have e := e_253 L xs [1] a1 M
  have f := e_86 L xs [0] a1 C
  rcases I_cases a1 with ⟨d, d1, rfl⟩ | ⟨d, d0, d1, rfl⟩
  case inr =>
    simp (disch := omega) only [↓Bool.cond_eq_ite, ↓reduceIte, Bool.false_eq_true, eq_self, n_lit, n_neg, n_add, n_mul, n_sub, n_subM, n_div, n_mod, n_addM, m_div, m_subn, n_tN, n_inS, n_eq_t, n_eq_f, n_ne_t, n_ne_f, n_lt_t, n_lt_f, n_ge_t, n_ge_f, n_gt_t, n_gt_f, n_le_t, n_le_f, mn_eq, mn_ne, mn_lt, mn_ge, mn_gt, mn_le, nm_eq, nm_ne, nm_lt, nm_ge, nm_gt, nm_le, n_gts_t, c_eq_refl, c_ne_refl, w_fold, w_2, wC_fold, lt_M, cond_true, cond_false, Bool.and_true, Bool.true_and, Bool.and_false, Bool.false_and, Bool.not_true, Bool.not_false, isZS_0, isZS_1] at e f
    exact .inl ⟨1, by omega, by omega, kI_of e, kI_of f, sT_n (inB_m d0 d1)⟩
  by_cases hd : d < 8
  case neg =>
    simp (disch := omega) only [↓Bool.cond_eq_ite, ↓reduceIte, Bool.false_eq_true, eq_self, n_lit, n_neg, n_add, n_mul, n_sub, n_subM, n_div, n_mod, n_addM, m_div, m_subn, n_tN, n_inS, n_eq_t, n_eq_f, n_ne_t, n_ne_f, n_lt_t, n_lt_f, n_ge_t, n_ge_f, n_gt_t, n_gt_f, n_le_t, n_le_f, mn_eq, mn_ne, mn_lt, mn_ge, mn_gt, mn_le, nm_eq, nm_ne, nm_lt, nm_ge, nm_gt, nm_le, n_gts_t, c_eq_refl, c_ne_refl, w_fold, w_2, wC_fold, lt_M, cond_true, cond_false, Bool.and_true, Bool.true_and, Bool.and_false, Bool.false_and, Bool.not_true, Bool.not_false, isZS_0, isZS_1] at e f
    exact .inl ⟨1, by omega, by omega, kI_of e, kI_of f, sT_n (inB_f (by omega) d1)⟩
  rcases hSh d hd with ⟨h1, h2⟩ | ⟨h1, h2, h3⟩ | ⟨h1, h2, -⟩
  · simp (disch := omega) only [↓Bool.cond_eq_ite, ↓reduceIte, Bool.false_eq_true, eq_self, n_lit, n_neg, n_add, n_mul, n_sub, n_subM, n_div, n_mod, n_addM, m_div, m_subn, n_tN, n_inS, n_eq_t, n_eq_f, n_ne_t, n_ne_f, n_lt_t, n_lt_f, n_ge_t, n_ge_f, n_gt_t, n_gt_f, n_le_t, n_le_f, mn_eq, mn_ne, mn_lt, mn_ge, mn_gt, mn_le, nm_eq, nm_ne, nm_lt, nm_ge, nm_gt, nm_le, n_gts_t, c_eq_refl, c_ne_refl, w_fold, w_2, wC_fold, lt_M, cond_true, cond_false, Bool.and_true, Bool.true_and, Bool.and_false, Bool.false_and, Bool.not_true, Bool.not_false, isZS_0, isZS_1, h1, h2] at e f
    exact .inl ⟨11, by omega, by omega, kI_of e, kI_of f, sT_0 hd h1⟩
  · simp (disch := omega) only [↓Bool.cond_eq_ite, ↓reduceIte, Bool.false_eq_true, eq_self, n_lit, n_neg, n_add, n_mul, n_sub, n_subM, n_div, n_mod, n_addM, m_div, m_subn, n_tN, n_inS, n_eq_t, n_eq_f, n_ne_t, n_ne_f, n_lt_t, n_lt_f, n_ge_t, n_ge_f, n_gt_t, n_gt_f, n_le_t, n_le_f, mn_eq, mn_ne, mn_lt, mn_ge, mn_gt, mn_le, nm_eq, nm_ne, nm_lt, nm_ge, nm_gt, nm_le, n_gts_t, c_eq_refl, c_ne_refl, w_fold, w_2, wC_fold, lt_M, cond_true, cond_false, Bool.and_true, Bool.true_and, Bool.and_false, Bool.false_and, Bool.not_true, Bool.not_false, isZS_0, isZS_1, h1, h2] at e f
    exact .inr ⟨d, rfl, hd, kI_of e, kI_of f, sT_1 hd h1 h3, s_2 h3⟩
  · simp (disch := omega) only [↓Bool.cond_eq_ite, ↓reduceIte, Bool.false_eq_true, eq_self, n_lit, n_neg, n_add, n_mul, n_sub, n_subM, n_div, n_mod, n_addM, m_div, m_subn, n_tN, n_inS, n_eq_t, n_eq_f, n_ne_t, n_ne_f, n_lt_t, n_lt_f, n_ge_t, n_ge_f, n_gt_t, n_gt_f, n_le_t, n_le_f, mn_eq, mn_ne, mn_lt, mn_ge, mn_gt, mn_le, nm_eq, nm_ne, nm_lt, nm_ge, nm_gt, nm_le, n_gts_t, c_eq_refl, c_ne_refl, w_fold, w_2, wC_fold, lt_M, cond_true, cond_false, Bool.and_true, Bool.true_and, Bool.and_false, Bool.false_and, Bool.not_true, Bool.not_false, isZS_0, isZS_1, h1, h2] at e f
    exact .inl ⟨12, by omega, by omega, kI_of e, kI_of f, sT_2 hd h1⟩
theorem rI_rSh (h : rI L xs C M hm) : rSh C M := by
  obtain ⟨_, _, _, _, _, _, _, _, _, _, _, _, h⟩ := h
  exact h.2.2.2.2.1
set_option maxRecDepth 100000 in
set_option maxHeartbeats 4000000 in
theorem lw_46 (hi : i + 6 ≤ L) (hL : L ≤ 3072) (ht : xs i &&& oN 63 = oN 46) (h : rI L xs mem mem hm) : stO L xs i hm mem := by
  have hr : rI L xs (wI mem [1] 0 (oN 0)) (wI mem [1] 0 (oN 0)) hm := rI_ag (agC_frm (frm_w (und_a []))) (agM_w0 (by decide) (by decide)) h
  have hs : rSh mem (wI mem [1] 0 (oN 0)) := rI_rSh (rI_ag (agC_refl _) (agM_w0 (by decide) (by decide)) h)
  refine ⟨wI mem [1] 0 (oN 0), hm, ?_, hr, by omega, by omega, Nat.le_succ _⟩
  unfold lw
  rw [h_256_23]
  rcases s_253 (L := L) (xs := xs) hs (xs (i + 1)) with ⟨k, k1, k2, k3, k4, -⟩ | ⟨d, hd, d8, k3, k4, -, k5⟩
  · simp (disch := omega) only [↓Bool.cond_eq_ite, ↓reduceIte, Bool.false_eq_true, eq_self, n_lit, n_neg, n_add, n_mul, n_sub, n_subM, n_div, n_mod, n_addM, m_div, m_subn, n_tN, n_inS, n_eq_t, n_eq_f, n_ne_t, n_ne_f, n_lt_t, n_lt_f, n_ge_t, n_ge_f, n_gt_t, n_gt_f, n_le_t, n_le_f, mn_eq, mn_ne, mn_lt, mn_ge, mn_gt, mn_le, nm_eq, nm_ne, nm_lt, nm_ge, nm_gt, nm_le, n_gts_t, c_eq_refl, c_ne_refl, w_fold, wC_fold, lt_M, cond_true, cond_false, Bool.and_true, Bool.true_and, Bool.and_false, Bool.false_and, Bool.not_true, Bool.not_false, isZS_0, isZS_1, oNL, ht, k3, k4, c_eq_refl, Option.bind_some]
  · rw [hd] at k3 k4
    simp (disch := omega) only [↓Bool.cond_eq_ite, ↓reduceIte, Bool.false_eq_true, eq_self, n_lit, n_neg, n_add, n_mul, n_sub, n_subM, n_div, n_mod, n_addM, m_div, m_subn, n_tN, n_inS, n_eq_t, n_eq_f, n_ne_t, n_ne_f, n_lt_t, n_lt_f, n_ge_t, n_ge_f, n_gt_t, n_gt_f, n_le_t, n_le_f, mn_eq, mn_ne, mn_lt, mn_ge, mn_gt, mn_le, nm_eq, nm_ne, nm_lt, nm_ge, nm_gt, nm_le, n_gts_t, c_eq_refl, c_ne_refl, w_fold, wC_fold, lt_M, cond_true, cond_false, Bool.and_true, Bool.true_and, Bool.and_false, Bool.false_and, Bool.not_true, Bool.not_false, isZS_0, isZS_1, oNL, ht, hd, k3, k4, k5, c_eq_refl, Option.bind_some]
theorem ri_ex {m2 : mM} (h : rI L xs mem mem hm) (h1 : m2.1 = mem.1) (h2 : m2.2.1 [57, 1] = mem.2.1 [57, 1]) (h3 : m2.2.1 [1, 5, 0] = mem.2.1 [1, 5, 0]) : rI L xs m2 m2 hm :=
  rI_ag ⟨fun _ => by rw [h1], fun _ => by rw [h1], by rw [h1], by rw [h1], by rw [h1], by rw [h1], h3, fun _ => by rw [h1]⟩ ⟨fun _ _ => by rw [h1], by rw [h1], fun _ _ _ => by rw [h1], fun _ _ _ => by rw [h1], by rw [h1], by rw [h1], h2⟩ h
set_option maxRecDepth 100000 in
set_option maxHeartbeats 4000000 in
theorem lw_47 (hi : i + 6 ≤ L) (hL : L ≤ 3072) (ht : xs i &&& oN 63 = oN 47) (h : rI L xs mem mem hm) : stO L xs i hm mem := by
  obtain ⟨Z, hZ⟩ : ∃ Z : mM, Z = (mem.1, (mem.2.1, mem.2.2 + 1)) := ⟨_, rfl⟩
  have h' : rI L xs Z Z hm := by rw [hZ]; exact ri_ex h rfl rfl rfl
  have z1 : Z.1 = mem.1 := by rw [hZ]
  have hr : rI L xs (wI Z [1] 0 (oN 0)) (wI Z [1] 0 (oN 0)) hm := rI_ag (agC_frm (frm_w (und_a []))) (agM_w0 (by decide) (by decide)) h'
  have hs : rSh Z (wI Z [1] 0 (oN 0)) := rI_rSh (rI_ag (agC_refl _) (agM_w0 (by decide) (by decide)) h')
  refine ⟨wI Z [1] 0 (oN 0), hm, ?_, hr, by omega, by omega, by show Z.2.2 ≤ _; rw [hZ]; exact Nat.le_refl _⟩
  unfold lw
  rw [h_256_23]
  rcases s_253 (L := L) (xs := xs) hs (xs (i + 1)) with ⟨k, k1, k2, k3, -, k4⟩ | ⟨d, hd, d8, k3, -, k4, -⟩
  · rw [z1] at k4
    simp (disch := omega) only [↓Bool.cond_eq_ite, ↓reduceIte, Bool.false_eq_true, eq_self, n_lit, n_neg, n_add, n_mul, n_sub, n_subM, n_div, n_mod, n_addM, m_div, m_subn, n_tN, n_inS, n_eq_t, n_eq_f, n_ne_t, n_ne_f, n_lt_t, n_lt_f, n_ge_t, n_ge_f, n_gt_t, n_gt_f, n_le_t, n_le_f, mn_eq, mn_ne, mn_lt, mn_ge, mn_gt, mn_le, nm_eq, nm_ne, nm_lt, nm_ge, nm_gt, nm_le, n_gts_t, c_eq_refl, c_ne_refl, w_fold, wC_fold, lt_M, cond_true, cond_false, Bool.and_true, Bool.true_and, Bool.and_false, Bool.false_and, Bool.not_true, Bool.not_false, isZS_0, isZS_1, ← hZ, oNL, ht, k3, k4, c_eq_refl, Option.bind_some]
  · rw [z1, hd] at k4
    rw [hd] at k3
    simp (disch := omega) only [↓Bool.cond_eq_ite, ↓reduceIte, Bool.false_eq_true, eq_self, n_lit, n_neg, n_add, n_mul, n_sub, n_subM, n_div, n_mod, n_addM, m_div, m_subn, n_tN, n_inS, n_eq_t, n_eq_f, n_ne_t, n_ne_f, n_lt_t, n_lt_f, n_ge_t, n_ge_f, n_gt_t, n_gt_f, n_le_t, n_le_f, mn_eq, mn_ne, mn_lt, mn_ge, mn_gt, mn_le, nm_eq, nm_ne, nm_lt, nm_ge, nm_gt, nm_le, n_gts_t, c_eq_refl, c_ne_refl, w_fold, wC_fold, lt_M, cond_true, cond_false, Bool.and_true, Bool.true_and, Bool.and_false, Bool.false_and, Bool.not_true, Bool.not_false, isZS_0, isZS_1, ← hZ, oNL, ht, hd, k3, k4, c_eq_refl, Option.bind_some]
end Law6
