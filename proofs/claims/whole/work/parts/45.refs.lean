section Ref
variable {L : Nat} {xs : Nat → Int32} {C M : mM} {nw : Nat}
theorem lg_0 (x y : Int64) : cmpS .ne (lg_cmp x y) (oN 0) = !decide (x = y) := by
  rw [c_ne]
  congr 1
  unfold lg_cmp
  by_cases h : x > y
  · rw [if_pos h]
    have : x ≠ y := fun e => by subst e; exact absurd h (Int64.lt_irrefl)
    rw [decide_eq_false this]; rfl
  · rw [if_neg h]
    by_cases e : x = y
    · rw [if_pos e, decide_eq_true e]; rfl
    · rw [if_neg e, decide_eq_false e]; rfl
theorem lg_e (x y : Int64) : cmpS .eq (lg_cmp x y) (oN 0) = decide (x = y) := by
  have h := lg_0 x y
  rw [c_ne] at h
  rw [c_eq]
  generalize decide (lg_cmp x y = oN 0) = a at h ⊢
  generalize decide (x = y) = b at h ⊢
  cases a <;> cases b <;> simp_all
theorem l_sub4 (a b e h : Int64) : (a - b) + (e - h) = (a + e) - (b + h) := by
  simp only [Int64.sub_eq_add_neg, Int64.neg_add]
  ac_rfl
theorem bref {s : Nat} (hs : s ≤ 2) (hSh : rSh C M) (a1 : Int32) : (∃ v, kI L xs 128 [vr 9 [0], vi a1, vi (oN s)] C = some (v, C) ∧ kI L xs 197 [vr 10 [1], vi a1, vi (oN s)] M = some (v, M) ∧ (v = oM 1 ∨ v = oM 11 ∨ v = oM 12)) ∨
    (∃ d n, d < 8 ∧ a1 = oN d ∧ kI L xs 128 [vr 9 [0], vi a1, vi (oN s)] C = some (oN 0, C) ∧ kI L xs 197 [vr 10 [1], vi a1, vi (oN s)] M = some (oN 0, M) ∧ n ≤ 80 ∧ C.1 [d, 6, 0] 2 = oN s ∧ C.1 [d, 6, 0] 3 = oN n ∧ M.1 [56, 1] d = oN n ∧
      (∀ i, i < n → M.2.1 [57, 1] (80 * d + i) = (C.1 [4, d, 6, 0] i).toInt64) ∧ (s = 0 → ∀ i, i < n → (C.1 [4, d, 6, 0] i).toInt8.toInt32 = C.1 [4, d, 6, 0] i)) := by
  have e := e_128 L xs [0] a1 (oN s) C
  have f := e_197 L xs [1] a1 (oN s) M
  rcases I_cases a1 with ⟨d, d1, rfl⟩ | ⟨d, d0, d1, rfl⟩
  case inr =>
    simp (disch := omega) only [↓Bool.cond_eq_ite, ↓reduceIte, Bool.false_eq_true, eq_self, n_lit, n_neg, n_add, n_mul, n_sub, n_subM, n_div, n_mod, n_addM, m_div, m_subn, n_tN, n_inS, n_eq_t, n_eq_f, n_ne_t, n_ne_f, n_lt_t, n_lt_f, n_ge_t, n_ge_f, n_gt_t, n_gt_f, n_le_t, n_le_f, mn_eq, mn_ne, mn_lt, mn_ge, mn_gt, mn_le, nm_eq, nm_ne, nm_lt, nm_ge, nm_gt, nm_le, n_gts_t, c_eq_refl, c_ne_refl, w_fold, w_2, wC_fold, lt_M, cond_true, cond_false, Bool.and_true, Bool.true_and, Bool.and_false, Bool.false_and, Bool.not_true, Bool.not_false, isZS_0, isZS_1] at e f
    exact .inl ⟨_, kI_of e, kI_of f, .inl rfl⟩
  by_cases hd : d ≤ 7
  case neg =>
    simp (disch := omega) only [↓Bool.cond_eq_ite, ↓reduceIte, Bool.false_eq_true, eq_self, n_lit, n_neg, n_add, n_mul, n_sub, n_subM, n_div, n_mod, n_addM, m_div, m_subn, n_tN, n_inS, n_eq_t, n_eq_f, n_ne_t, n_ne_f, n_lt_t, n_lt_f, n_ge_t, n_ge_f, n_gt_t, n_gt_f, n_le_t, n_le_f, mn_eq, mn_ne, mn_lt, mn_ge, mn_gt, mn_le, nm_eq, nm_ne, nm_lt, nm_ge, nm_gt, nm_le, n_gts_t, c_eq_refl, c_ne_refl, w_fold, w_2, wC_fold, lt_M, cond_true, cond_false, Bool.and_true, Bool.true_and, Bool.and_false, Bool.false_and, Bool.not_true, Bool.not_false, isZS_0, isZS_1] at e f
    exact .inl ⟨_, kI_of e, kI_of f, .inl rfl⟩
  rcases hSh d (by omega) with ⟨s1, s2⟩ | ⟨s1, s2, -⟩ | ⟨s1, s2, t, n, n1, n2, n3, n4, n5, n6, n7, n8⟩
  · simp (disch := omega) only [↓Bool.cond_eq_ite, ↓reduceIte, Bool.false_eq_true, eq_self, n_lit, n_neg, n_add, n_mul, n_sub, n_subM, n_div, n_mod, n_addM, m_div, m_subn, n_tN, n_inS, n_eq_t, n_eq_f, n_ne_t, n_ne_f, n_lt_t, n_lt_f, n_ge_t, n_ge_f, n_gt_t, n_gt_f, n_le_t, n_le_f, mn_eq, mn_ne, mn_lt, mn_ge, mn_gt, mn_le, nm_eq, nm_ne, nm_lt, nm_ge, nm_gt, nm_le, n_gts_t, c_eq_refl, c_ne_refl, w_fold, w_2, wC_fold, lt_M, cond_true, cond_false, Bool.and_true, Bool.true_and, Bool.and_false, Bool.false_and, Bool.not_true, Bool.not_false, isZS_0, isZS_1, s1, s2] at e f
    exact .inl ⟨_, kI_of e, kI_of f, .inr (.inl rfl)⟩
  · simp (disch := omega) only [↓Bool.cond_eq_ite, ↓reduceIte, Bool.false_eq_true, eq_self, n_lit, n_neg, n_add, n_mul, n_sub, n_subM, n_div, n_mod, n_addM, m_div, m_subn, n_tN, n_inS, n_eq_t, n_eq_f, n_ne_t, n_ne_f, n_lt_t, n_lt_f, n_ge_t, n_ge_f, n_gt_t, n_gt_f, n_le_t, n_le_f, mn_eq, mn_ne, mn_lt, mn_ge, mn_gt, mn_le, nm_eq, nm_ne, nm_lt, nm_ge, nm_gt, nm_le, n_gts_t, c_eq_refl, c_ne_refl, w_fold, w_2, wC_fold, lt_M, cond_true, cond_false, Bool.and_true, Bool.true_and, Bool.and_false, Bool.false_and, Bool.not_true, Bool.not_false, isZS_0, isZS_1, s1, s2] at e f
    exact .inl ⟨_, kI_of e, kI_of f, .inr (.inr rfl)⟩
  · by_cases ht : t = s
    · subst ht
      simp (disch := omega) only [↓Bool.cond_eq_ite, ↓reduceIte, Bool.false_eq_true, eq_self, n_lit, n_neg, n_add, n_mul, n_sub, n_subM, n_div, n_mod, n_addM, m_div, m_subn, n_tN, n_inS, n_eq_t, n_eq_f, n_ne_t, n_ne_f, n_lt_t, n_lt_f, n_ge_t, n_ge_f, n_gt_t, n_gt_f, n_le_t, n_le_f, mn_eq, mn_ne, mn_lt, mn_ge, mn_gt, mn_le, nm_eq, nm_ne, nm_lt, nm_ge, nm_gt, nm_le, n_gts_t, c_eq_refl, c_ne_refl, w_fold, w_2, wC_fold, lt_M, cond_true, cond_false, Bool.and_true, Bool.true_and, Bool.and_false, Bool.false_and, Bool.not_true, Bool.not_false, isZS_0, isZS_1, s1, s2, n3, n4] at e f
      exact .inr ⟨d, n, by omega, rfl, kI_of e, kI_of f, n2, n3, n5, n6, n7, n8⟩
    · simp (disch := omega) only [↓Bool.cond_eq_ite, ↓reduceIte, Bool.false_eq_true, eq_self, n_lit, n_neg, n_add, n_mul, n_sub, n_subM, n_div, n_mod, n_addM, m_div, m_subn, n_tN, n_inS, n_eq_t, n_eq_f, n_ne_t, n_ne_f, n_lt_t, n_lt_f, n_ge_t, n_ge_f, n_gt_t, n_gt_f, n_le_t, n_le_f, mn_eq, mn_ne, mn_lt, mn_ge, mn_gt, mn_le, nm_eq, nm_ne, nm_lt, nm_ge, nm_gt, nm_le, n_gts_t, c_eq_refl, c_ne_refl, w_fold, w_2, wC_fold, lt_M, cond_true, cond_false, Bool.and_true, Bool.true_and, Bool.and_false, Bool.false_and, Bool.not_true, Bool.not_false, isZS_0, isZS_1, s1, s2, n3, n4] at e f
      exact .inl ⟨_, kI_of e, kI_of f, .inr (.inr rfl)⟩
theorem cref (hSh : rSh C M) (cW : C.1 [6, 0, 0] 0 = oN nw) (S1 : M.1 [1, 1] 1 = oN nw) (b24 : nw ≤ 24) (a1 : Int32) :
    (∃ v, kI L xs 95 [vr 9 [0], vi a1] C = some (v, C) ∧ (v = oM 1 ∨ v = oM 11 ∨ v = oM 12 ∨ v = oM 13) ∧ ((kI L xs 197 [vr 10 [1], vi a1, vi (oN 2)] M = some (v, M) ∧ v ≠ oM 13) ∨ (∃ d n, d < 8 ∧ a1 = oN d ∧ n ≤ 80 ∧ n ≠ nw ∧ kI L xs 197 [vr 10 [1], vi a1, vi (oN 2)] M = some (oN 0, M) ∧ M.1 [56, 1] d = oN n ∧ v = oM 13))) ∨
    (∃ d, d < 8 ∧ a1 = oN d ∧ kI L xs 95 [vr 9 [0], vi a1] C = some (oN 0, C) ∧ kI L xs 197 [vr 10 [1], vi a1, vi (oN 2)] M = some (oN 0, M) ∧ M.1 [56, 1] d = oN nw ∧ (∀ i, i < nw → M.2.1 [57, 1] (80 * d + i) = (C.1 [4, d, 6, 0] i).toInt64)) := by
  have e := e_95 L xs [0] a1 C
  rcases bref (L := L) (xs := xs) (s := 2) (by omega) hSh a1 with ⟨v, h1, h2, h3⟩ | ⟨d, n, hd, rfl, h1, h2, hn, h3, h4, h5, h6, -⟩
  · have hv : cmpS .eq v (oN 0) = false := by
      rcases h3 with rfl | rfl | rfl <;> exact mn_eq (by omega) (by omega) (by omega)
    simp (disch := omega) only [↓Bool.cond_eq_ite, ↓reduceIte, Bool.false_eq_true, eq_self, n_lit, n_neg, n_add, n_mul, n_sub, n_subM, n_div, n_mod, n_addM, m_div, m_subn, n_tN, n_inS, n_eq_t, n_eq_f, n_ne_t, n_ne_f, n_lt_t, n_lt_f, n_ge_t, n_ge_f, n_gt_t, n_gt_f, n_le_t, n_le_f, mn_eq, mn_ne, mn_lt, mn_ge, mn_gt, mn_le, nm_eq, nm_ne, nm_lt, nm_ge, nm_gt, nm_le, n_gts_t, c_eq_refl, c_ne_refl, w_fold, w_2, wC_fold, lt_M, cond_true, cond_false, Bool.and_true, Bool.true_and, Bool.and_false, Bool.false_and, Bool.not_true, Bool.not_false, isZS_0, isZS_1, h1, Option.bind_some, hv] at e
    refine .inl ⟨v, kI_of e, ?_, .inl ⟨h2, ?_⟩⟩
    · rcases h3 with h | h | h
      · exact .inl h
      · exact .inr (.inl h)
      · exact .inr (.inr (.inl h))
    · rcases h3 with rfl | rfl | rfl <;> exact oM_oM (by omega) (by omega) (by omega)
  · by_cases hq : n = nw
    · subst hq
      simp (disch := omega) only [↓Bool.cond_eq_ite, ↓reduceIte, Bool.false_eq_true, eq_self, n_lit, n_neg, n_add, n_mul, n_sub, n_subM, n_div, n_mod, n_addM, m_div, m_subn, n_tN, n_inS, n_eq_t, n_eq_f, n_ne_t, n_ne_f, n_lt_t, n_lt_f, n_ge_t, n_ge_f, n_gt_t, n_gt_f, n_le_t, n_le_f, mn_eq, mn_ne, mn_lt, mn_ge, mn_gt, mn_le, nm_eq, nm_ne, nm_lt, nm_ge, nm_gt, nm_le, n_gts_t, c_eq_refl, c_ne_refl, w_fold, w_2, wC_fold, lt_M, cond_true, cond_false, Bool.and_true, Bool.true_and, Bool.and_false, Bool.false_and, Bool.not_true, Bool.not_false, isZS_0, isZS_1, h1, Option.bind_some, h4, cW] at e
      exact .inr ⟨d, hd, rfl, kI_of e, h2, h5, h6⟩
    · simp (disch := omega) only [↓Bool.cond_eq_ite, ↓reduceIte, Bool.false_eq_true, eq_self, n_lit, n_neg, n_add, n_mul, n_sub, n_subM, n_div, n_mod, n_addM, m_div, m_subn, n_tN, n_inS, n_eq_t, n_eq_f, n_ne_t, n_ne_f, n_lt_t, n_lt_f, n_ge_t, n_ge_f, n_gt_t, n_gt_f, n_le_t, n_le_f, mn_eq, mn_ne, mn_lt, mn_ge, mn_gt, mn_le, nm_eq, nm_ne, nm_lt, nm_ge, nm_gt, nm_le, n_gts_t, c_eq_refl, c_ne_refl, w_fold, w_2, wC_fold, lt_M, cond_true, cond_false, Bool.and_true, Bool.true_and, Bool.and_false, Bool.false_and, Bool.not_true, Bool.not_false, isZS_0, isZS_1, h1, Option.bind_some, h4, cW] at e
      exact .inl ⟨_, kI_of e, .inr (.inr (.inr rfl)), .inr ⟨d, n, hd, rfl, hn, hq, h2, h5, rfl⟩⟩
end Ref
