section Text3
variable {L : Nat} {xs : Nat → Int32} {C M : mM} {B F : Nat → Int32} {n i t a m : Nat} {fl : Int32}
theorem s_179 (h : mTx M n B) (h32 : M.1 [1] 32 = oN i) (hi : i ≤ 80) : kI L xs 179 [vr 10 [1]] M = some (lAt B n i, M) := by
  obtain ⟨hn, h31, t, h30, hk⟩ := h
  refine kI_of ?_
  rw [e_179]
  unfold lAt
  by_cases hl : i < n
  · rw [if_pos hl]
    rcases hk with ⟨h29, ht, hb⟩ | ⟨h29, ht, hb⟩
    · simp (disch := omega) only [↓Bool.cond_eq_ite, ↓reduceIte, Bool.false_eq_true, eq_self, n_lit, n_neg, n_add, n_mul, n_sub, n_subM, n_div, n_mod, n_addM, m_div, m_subn, n_tN, n_inS, n_eq_t, n_eq_f, n_ne_t, n_ne_f, n_lt_t, n_lt_f, n_ge_t, n_ge_f, n_gt_t, n_gt_f, n_le_t, n_le_f, mn_eq, mn_ne, mn_lt, mn_ge, mn_gt, mn_le, nm_eq, nm_ne, nm_lt, nm_ge, nm_gt, nm_le, n_gts_t, c_eq_refl, c_ne_refl, w_fold, w_2, wC_fold, lt_M, cond_true, cond_false, Bool.and_true, Bool.true_and, Bool.and_false, Bool.false_and, Bool.not_true, Bool.not_false, isZS_0, isZS_1, h31, h32, h30, h29, hb i hl]
    · have := hb i hl
      simp (disch := omega) only [↓Bool.cond_eq_ite, ↓reduceIte, Bool.false_eq_true, eq_self, n_lit, n_neg, n_add, n_mul, n_sub, n_subM, n_div, n_mod, n_addM, m_div, n_tN, n_inS, n_eq_t, n_eq_f, n_ne_t, n_ne_f, n_lt_t, n_lt_f, n_ge_t, n_ge_f, n_gt_t, n_gt_f, n_le_t, n_le_f, mn_eq, mn_ne, mn_lt, mn_ge, mn_gt, mn_le, nm_eq, nm_ne, nm_lt, nm_ge, nm_gt, nm_le, n_gts_t, c_eq_refl, c_ne_refl, w_fold, w_2, wC_fold, lt_M, cond_true, cond_false, Bool.and_true, Bool.true_and, Bool.and_false, Bool.false_and, Bool.not_true, Bool.not_false, isZS_0, isZS_1, h31, h32, h30, h29]
      rw [← this]; rfl
  · rw [if_neg hl]
    simp (disch := omega) only [↓Bool.cond_eq_ite, ↓reduceIte, Bool.false_eq_true, eq_self, n_lit, n_neg, n_add, n_mul, n_sub, n_subM, n_div, n_mod, n_addM, m_div, m_subn, n_tN, n_inS, n_eq_t, n_eq_f, n_ne_t, n_ne_f, n_lt_t, n_lt_f, n_ge_t, n_ge_f, n_gt_t, n_gt_f, n_le_t, n_le_f, mn_eq, mn_ne, mn_lt, mn_ge, mn_gt, mn_le, nm_eq, nm_ne, nm_lt, nm_ge, nm_gt, nm_le, n_gts_t, c_eq_refl, c_ne_refl, w_fold, w_2, wC_fold, lt_M, cond_true, cond_false, Bool.and_true, Bool.true_and, Bool.and_false, Bool.false_and, Bool.not_true, Bool.not_false, isZS_0, isZS_1, h31, h32]
theorem s_235 (h40 : M.1 [1] 40 = oN m) (hm : m ≤ 200) : kI L xs 235 [vr 10 [1]] M = some (if m = 0 then oN 0 else M.1 [39, 1] (m - 1), M) := by
  refine kI_of ?_
  rw [e_235]
  by_cases h0 : m = 0
  · subst h0
    simp (disch := omega) only [↓Bool.cond_eq_ite, ↓reduceIte, Bool.false_eq_true, eq_self, n_lit, n_neg, n_add, n_mul, n_sub, n_subM, n_div, n_mod, n_addM, m_div, m_subn, n_tN, n_inS, n_eq_t, n_eq_f, n_ne_t, n_ne_f, n_lt_t, n_lt_f, n_ge_t, n_ge_f, n_gt_t, n_gt_f, n_le_t, n_le_f, mn_eq, mn_ne, mn_lt, mn_ge, mn_gt, mn_le, nm_eq, nm_ne, nm_lt, nm_ge, nm_gt, nm_le, n_gts_t, c_eq_refl, c_ne_refl, w_fold, w_2, wC_fold, lt_M, cond_true, cond_false, Bool.and_true, Bool.true_and, Bool.and_false, Bool.false_and, Bool.not_true, Bool.not_false, isZS_0, isZS_1, h40]
  · rw [if_neg h0]
    simp (disch := omega) only [↓Bool.cond_eq_ite, ↓reduceIte, Bool.false_eq_true, eq_self, n_lit, n_neg, n_add, n_mul, n_sub, n_subM, n_div, n_mod, n_addM, m_div, m_subn, n_tN, n_inS, n_eq_t, n_eq_f, n_ne_t, n_ne_f, n_lt_t, n_lt_f, n_ge_t, n_ge_f, n_gt_t, n_gt_f, n_le_t, n_le_f, mn_eq, mn_ne, mn_lt, mn_ge, mn_gt, mn_le, nm_eq, nm_ne, nm_lt, nm_ge, nm_gt, nm_le, n_gts_t, c_eq_refl, c_ne_refl, w_fold, w_2, wC_fold, lt_M, cond_true, cond_false, Bool.and_true, Bool.true_and, Bool.and_false, Bool.false_and, Bool.not_true, Bool.not_false, isZS_0, isZS_1, h40]
def tM (C : mM) (a : Nat) (fl : Int32) (m : Nat) (F : Nat → Int32) : mM := stA (stA C [4, 0] (upd (upd (upd (C.1 [4, 0]) 3 (oN m)) 6 (oN a)) 7 fl)) [2, 4, 0] F
theorem tM_3 : (tM C a fl m F).1 [4, 0] 3 = oN m := rfl
theorem tM_5 : (tM C a fl m F).1 [4, 0] 5 = C.1 [4, 0] 5 := rfl
theorem tM_6 : (tM C a fl m F).1 [4, 0] 6 = oN a := rfl
theorem tM_7 : (tM C a fl m F).1 [4, 0] 7 = fl := rfl
theorem tM_r : (tM C a fl m F).1 [4, 4, 0] = C.1 [4, 4, 0] := rfl
theorem tM_F : (tM C a fl m F).1 [2, 4, 0] = F := rfl
theorem s_53 (hn : n ≤ 80) (h5 : C.1 [4, 0] 5 = oN n) (hB : ∀ i, i < n → C.1 [4, 4, 0] i = B i) (ha : a ≤ 80) : kI L xs 53 [vr 5 [4, 0]] (tM C a (oM 4) m F) = some (lAt B n a, tM C a (oM 4) m F) := by
  refine kI_of ?_
  rw [e_53]
  unfold lAt
  by_cases hl : a < n
  · rw [if_pos hl]
    simp (disch := omega) only [↓Bool.cond_eq_ite, ↓reduceIte, Bool.false_eq_true, eq_self, n_lit, n_neg, n_add, n_mul, n_sub, n_subM, n_div, n_mod, n_addM, m_div, m_subn, n_tN, n_inS, n_eq_t, n_eq_f, n_ne_t, n_ne_f, n_lt_t, n_lt_f, n_ge_t, n_ge_f, n_gt_t, n_gt_f, n_le_t, n_le_f, mn_eq, mn_ne, mn_lt, mn_ge, mn_gt, mn_le, nm_eq, nm_ne, nm_lt, nm_ge, nm_gt, nm_le, n_gts_t, c_eq_refl, c_ne_refl, w_fold, w_2, wC_fold, lt_M, cond_true, cond_false, Bool.and_true, Bool.true_and, Bool.and_false, Bool.false_and, Bool.not_true, Bool.not_false, isZS_0, isZS_1, tM_7, tM_6, tM_5, tM_r, h5, hB a hl]
  · rw [if_neg hl]
    simp (disch := omega) only [↓Bool.cond_eq_ite, ↓reduceIte, Bool.false_eq_true, eq_self, n_lit, n_neg, n_add, n_mul, n_sub, n_subM, n_div, n_mod, n_addM, m_div, m_subn, n_tN, n_inS, n_eq_t, n_eq_f, n_ne_t, n_ne_f, n_lt_t, n_lt_f, n_ge_t, n_ge_f, n_gt_t, n_gt_f, n_le_t, n_le_f, mn_eq, mn_ne, mn_lt, mn_ge, mn_gt, mn_le, nm_eq, nm_ne, nm_lt, nm_ge, nm_gt, nm_le, n_gts_t, c_eq_refl, c_ne_refl, w_fold, w_2, wC_fold, lt_M, cond_true, cond_false, Bool.and_true, Bool.true_and, Bool.and_false, Bool.false_and, Bool.not_true, Bool.not_false, isZS_0, isZS_1, tM_7, tM_6, tM_5, tM_r, h5]
theorem s_53f {f : Nat} (hf : f ≤ 100) : kI L xs 53 [vr 5 [4, 0]] (tM C a (oN f) m F) = some (oM 1, tM C a (oN f) m F) := by
  refine kI_of ?_
  rw [e_53]
  simp (disch := omega) only [↓Bool.cond_eq_ite, ↓reduceIte, Bool.false_eq_true, eq_self, n_lit, n_neg, n_add, n_mul, n_sub, n_subM, n_div, n_mod, n_addM, m_div, m_subn, n_tN, n_inS, n_eq_t, n_eq_f, n_ne_t, n_ne_f, n_lt_t, n_lt_f, n_ge_t, n_ge_f, n_gt_t, n_gt_f, n_le_t, n_le_f, mn_eq, mn_ne, mn_lt, mn_ge, mn_gt, mn_le, nm_eq, nm_ne, nm_lt, nm_ge, nm_gt, nm_le, n_gts_t, c_eq_refl, c_ne_refl, w_fold, w_2, wC_fold, lt_M, cond_true, cond_false, Bool.and_true, Bool.true_and, Bool.and_false, Bool.false_and, Bool.not_true, Bool.not_false, isZS_0, isZS_1, tM_7]
theorem tM_w (b : Nat) (k : Nat) (v : Int32) (hk : k = 3 ∧ v = oN b ∨ k = 6 ∧ v = oN b ∨ k = 7) : wI (tM C a fl m F) [4, 0] k v = if k = 3 then tM C a fl b F else if k = 6 then tM C b fl m F else tM C a v m F := by
  have key : ∀ G G' : Nat → Int32, (∀ j, upd G k v j = G' j) → wI (stA (stA C [4, 0] G) [2, 4, 0] F) [4, 0] k v = stA (stA C [4, 0] G') [2, 4, 0] F := by
    intro G G' hG
    unfold wI
    refine Prod.ext ?_ rfl
    funext q
    show uI _ _ _ q = uI _ _ _ q
    unfold uI
    by_cases h1 : q = [2, 4, 0]
    · subst h1; rfl
    · by_cases h2 : q = [4, 0]
      · subst h2; funext j
        show upd G k v j = _
        exact hG j
      · rw [if_neg h2]
        show (stA (stA C [4, 0] G) [2, 4, 0] F).1 q = (stA (stA C [4, 0] G') [2, 4, 0] F).1 q
        rw [stA_ne h1, stA_ne h1, stA_ne h2, stA_ne h2]
  unfold tM
  rcases hk with ⟨e1, e2⟩ | ⟨e1, e2⟩ | e1
  · subst e1; subst e2
    rw [if_pos rfl]
    refine key _ _ (fun j => ?_)
    simp only [upd_at]
    split <;> simp_all
  · subst e1; subst e2
    rw [if_neg (by decide), if_pos rfl]
    refine key _ _ (fun j => ?_)
    simp only [upd_at]
    split <;> simp_all
  · subst e1
    rw [if_neg (by decide), if_neg (by decide)]
    refine key _ _ (fun j => ?_)
    simp only [upd_at]
    split <;> simp_all
theorem tM_w3 {b : Nat} : wI (tM C a fl m F) [4, 0] 3 (oN b) = tM C a fl b F := (tM_w b 3 _ (.inl ⟨rfl, rfl⟩)).trans (if_pos rfl)
theorem tM_w6 {b : Nat} : wI (tM C a fl m F) [4, 0] 6 (oN b) = tM C b fl m F := ((tM_w b 6 _ (.inr (.inl ⟨rfl, rfl⟩))).trans (if_neg (by decide))).trans (if_pos rfl)
theorem tM_w7 {v : Int32} : wI (tM C a fl m F) [4, 0] 7 v = tM C a v m F := ((tM_w 0 7 v (.inr (.inr rfl))).trans (if_neg (by decide))).trans (if_neg (by decide))
theorem tM_wF {k : Nat} {v : Int32} : wI (tM C a fl m F) [2, 4, 0] k v = tM C a fl m (upd F k v) := stA_w
theorem s_59t (ha : a ≤ 80) : kV L xs 59 [vr 5 [4, 0], vi (oN 1)] (tM C a (oM 4) m F) = some (tM C (a + 1) (oM 4) m F) := by
  refine kV_of ?_
  rw [e_59]
  simp (disch := omega) only [↓Bool.cond_eq_ite, ↓reduceIte, Bool.false_eq_true, eq_self, n_lit, n_neg, n_add, n_mul, n_sub, n_subM, n_div, n_mod, n_addM, m_div, m_subn, n_tN, n_inS, n_eq_t, n_eq_f, n_ne_t, n_ne_f, n_lt_t, n_lt_f, n_ge_t, n_ge_f, n_gt_t, n_gt_f, n_le_t, n_le_f, mn_eq, mn_ne, mn_lt, mn_ge, mn_gt, mn_le, nm_eq, nm_ne, nm_lt, nm_ge, nm_gt, nm_le, n_gts_t, c_eq_refl, c_ne_refl, w_fold, w_2, wC_fold, lt_M, cond_true, cond_false, Bool.and_true, Bool.true_and, Bool.and_false, Bool.false_and, Bool.not_true, Bool.not_false, isZS_0, isZS_1, tM_7, tM_6, tM_w6]
theorem s_59f : kV L xs 59 [vr 5 [4, 0], vi (oN 0)] (tM C a (oM 4) m F) = some (tM C a (oN a) m F) := by
  refine kV_of ?_
  rw [e_59]
  simp (disch := omega) only [↓Bool.cond_eq_ite, ↓reduceIte, Bool.false_eq_true, eq_self, n_lit, n_neg, n_add, n_mul, n_sub, n_subM, n_div, n_mod, n_addM, m_div, m_subn, n_tN, n_inS, n_eq_t, n_eq_f, n_ne_t, n_ne_f, n_lt_t, n_lt_f, n_ge_t, n_ge_f, n_gt_t, n_gt_f, n_le_t, n_le_f, mn_eq, mn_ne, mn_lt, mn_ge, mn_gt, mn_le, nm_eq, nm_ne, nm_lt, nm_ge, nm_gt, nm_le, n_gts_t, c_eq_refl, c_ne_refl, w_fold, w_2, wC_fold, lt_M, cond_true, cond_false, Bool.and_true, Bool.true_and, Bool.and_false, Bool.false_and, Bool.not_true, Bool.not_false, isZS_0, isZS_1, tM_7, tM_6, tM_w7]
theorem s_59n {f : Nat} {v : Int32} (hf : f ≤ 100) : kV L xs 59 [vr 5 [4, 0], vi v] (tM C a (oN f) m F) = some (tM C a (oN f) m F) := by
  refine kV_of ?_
  rw [e_59]
  simp (disch := omega) only [↓Bool.cond_eq_ite, ↓reduceIte, Bool.false_eq_true, eq_self, n_lit, n_neg, n_add, n_mul, n_sub, n_subM, n_div, n_mod, n_addM, m_div, m_subn, n_tN, n_inS, n_eq_t, n_eq_f, n_ne_t, n_ne_f, n_lt_t, n_lt_f, n_ge_t, n_ge_f, n_gt_t, n_gt_f, n_le_t, n_le_f, mn_eq, mn_ne, mn_lt, mn_ge, mn_gt, mn_le, nm_eq, nm_ne, nm_lt, nm_ge, nm_gt, nm_le, n_gts_t, c_eq_refl, c_ne_refl, w_fold, w_2, wC_fold, lt_M, cond_true, cond_false, Bool.and_true, Bool.true_and, Bool.and_false, Bool.false_and, Bool.not_true, Bool.not_false, isZS_0, isZS_1, tM_7]
theorem s_52 {v : Int32} (hm : m < 80) : kV L xs 52 [vr 5 [4, 0], vi v] (tM C a (oM 4) m F) = some (tM C a (oM 4) (m + 1) (upd F m v)) := by
  refine kV_of ?_
  rw [e_52]
  simp (disch := omega) only [↓Bool.cond_eq_ite, ↓reduceIte, Bool.false_eq_true, eq_self, n_lit, n_neg, n_add, n_mul, n_sub, n_subM, n_div, n_mod, n_addM, m_div, m_subn, n_tN, n_inS, n_eq_t, n_eq_f, n_ne_t, n_ne_f, n_lt_t, n_lt_f, n_ge_t, n_ge_f, n_gt_t, n_gt_f, n_le_t, n_le_f, mn_eq, mn_ne, mn_lt, mn_ge, mn_gt, mn_le, nm_eq, nm_ne, nm_lt, nm_ge, nm_gt, nm_le, n_gts_t, c_eq_refl, c_ne_refl, w_fold, w_2, wC_fold, lt_M, cond_true, cond_false, Bool.and_true, Bool.true_and, Bool.and_false, Bool.false_and, Bool.not_true, Bool.not_false, isZS_0, isZS_1, tM_7, tM_3, tM_w3, tM_wF]
theorem s_52n {f : Nat} {v : Int32} (hf : f ≤ 100) : kV L xs 52 [vr 5 [4, 0], vi v] (tM C a (oN f) m F) = some (tM C a (oN f) m F) := by
  refine kV_of ?_
  rw [e_52]
  simp (disch := omega) only [↓Bool.cond_eq_ite, ↓reduceIte, Bool.false_eq_true, eq_self, n_lit, n_neg, n_add, n_mul, n_sub, n_subM, n_div, n_mod, n_addM, m_div, m_subn, n_tN, n_inS, n_eq_t, n_eq_f, n_ne_t, n_ne_f, n_lt_t, n_lt_f, n_ge_t, n_ge_f, n_gt_t, n_gt_f, n_le_t, n_le_f, mn_eq, mn_ne, mn_lt, mn_ge, mn_gt, mn_le, nm_eq, nm_ne, nm_lt, nm_ge, nm_gt, nm_le, n_gts_t, c_eq_refl, c_ne_refl, w_fold, w_2, wC_fold, lt_M, cond_true, cond_false, Bool.and_true, Bool.true_and, Bool.and_false, Bool.false_and, Bool.not_true, Bool.not_false, isZS_0, isZS_1, tM_7]
end Text3
