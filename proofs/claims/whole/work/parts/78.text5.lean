section Text5
variable {L : Nat} {xs : Nat → Int32} {C M : mM} {B F : Nat → Int32} {n : Nat} {β : Nat → Nat}
theorem mTx_w {j : Nat} (h : mTx M n B) : mTx (wI M [1] 32 (oN j)) n B := by
  obtain ⟨hn, h31, t, h30, hk⟩ := h
  refine ⟨hn, ?_, t, ?_, ?_⟩
  · rw [w_ne_k (by decide)]; exact h31
  · rw [w_ne_k (by decide)]; exact h30
  · rw [w_ne_k (by decide), w_ne (by simp)]; exact hk
theorem w_id {p : List Nat} {k : Nat} : wI M p k (M.1 p k) = M := by
  have : upd (M.1 p) k (M.1 p k) = M.1 p := by
    funext j
    rw [upd_at]
    split
    · rename_i h; rw [h]
    · rfl
  unfold wI
  rw [this]
  exact stA_id
theorem w_w {p : List Nat} {k : Nat} {v v' : Int32} : wI (wI M p k v) p k v' = wI M p k v' := by
  show stA _ p _ = stA _ p _
  have : upd ((wI M p k v).1 p) k v' = upd (M.1 p) k v' := by
    funext j
    rw [upd_at, upd_at]
    split
    · rfl
    · rename_i h; exact w_ne_k h
  rw [this]
  exact stA_u
theorem lAt_l {i : Nat} (hβ : ∀ i, i < n → B i = oN (β i) ∧ β i ≤ 255) : lAt B n i = oM 1 ∨ (i < n ∧ lAt B n i = oN (β i) ∧ β i ≤ 255) := by
  unfold lAt
  by_cases h : i < n
  · rw [if_pos h]; exact .inr ⟨h, hβ i h⟩
  · rw [if_neg h]; exact .inl rfl
set_option maxRecDepth 8000 in
theorem num_ok (hβ : ∀ i, i < n → B i = oN (β i) ∧ β i ≤ 255) (hn : n ≤ 80) (h5 : C.1 [4, 0] 5 = oN n) (hr : ∀ i, i < n → C.1 [4, 4, 0] i = B i) {c0 : Nat} (hc : 48 ≤ c0 ∧ c0 ≤ 57) :
    ∀ k l v a m (F : Nat → Int32) (M : mM), l + k = 4 → a ≤ n → m < 80 → v + 1 ≤ 10 ^ l → (v = 0 ↔ c0 = 48) → mTx M n B → M.1 [1] 32 = oN a →
    ∃ j v', a ≤ j ∧ j ≤ n ∧ v' + 1 ≤ 10000 ∧ run L xs 55 26 (63, [some (vr 5 [4, 0]), none, none, some (vi (oN v)), some (vi (oN l))], [], tM C a (oM 4) m F) = some (none, tM C j (oM 4) (m + 1) (upd F m (oN v'))) ∧
      run L xs 210 29 (74, [some (vr 10 [1]), some (vi (oN c0)), some (vi (oN v)), some (vi (oN l))], [], M) = some (some (vi (oN v')), wI M [1] 32 (oN j)) := by
  intro k
  induction k with
  | zero =>
    intro l v a m F M hl ha hm hv h0 hM h32
    have : l = 4 := by omega
    subst this
    have hv : v + 1 ≤ 10000 := hv
    refine ⟨a, v, Nat.le_refl _, ha, hv, ?_, ?_⟩
    · rw [h_55_63]
      simp (disch := omega) only [↓Bool.cond_eq_ite, ↓reduceIte, Bool.false_eq_true, eq_self, n_lit, n_neg, n_add, n_mul, n_sub, n_subM, n_div, n_mod, n_addM, m_div, m_subn, n_tN, n_inS, n_eq_t, n_eq_f, n_ne_t, n_ne_f, n_lt_t, n_lt_f, n_ge_t, n_ge_f, n_gt_t, n_gt_f, n_le_t, n_le_f, mn_eq, mn_ne, mn_lt, mn_ge, mn_gt, mn_le, nm_eq, nm_ne, nm_lt, nm_ge, nm_gt, nm_le, n_gts_t, c_eq_refl, c_ne_refl, w_fold, w_2, wC_fold, lt_M, cond_true, cond_false, Bool.and_true, Bool.true_and, Bool.and_false, Bool.false_and, Bool.not_true, Bool.not_false, isZS_0, isZS_1, s_52, Option.bind_some]
    · rw [h_210_74, ← h32, w_id]
      simp (disch := omega) only [↓Bool.cond_eq_ite, ↓reduceIte, Bool.false_eq_true, eq_self, n_lit, n_neg, n_add, n_mul, n_sub, n_subM, n_div, n_mod, n_addM, m_div, m_subn, n_tN, n_inS, n_eq_t, n_eq_f, n_ne_t, n_ne_f, n_lt_t, n_lt_f, n_ge_t, n_ge_f, n_gt_t, n_gt_f, n_le_t, n_le_f, mn_eq, mn_ne, mn_lt, mn_ge, mn_gt, mn_le, nm_eq, nm_ne, nm_lt, nm_ge, nm_gt, nm_le, n_gts_t, c_eq_refl, c_ne_refl, w_fold, w_2, wC_fold, lt_M, cond_true, cond_false, Bool.and_true, Bool.true_and, Bool.and_false, Bool.false_and, Bool.not_true, Bool.not_false, isZS_0, isZS_1]
  | succ k ih =>
    intro l v a m F M hl ha hm hv h0 hM h32
    have hP : 10 ^ l ≤ 10 ^ 3 := Nat.pow_le_pow_right (by omega) (by omega)
    have hP : 10 ^ l ≤ 1000 := hP
    have hS : 10 ^ (l + 1) = 10 ^ l * 10 := Nat.pow_succ 10 l
    by_cases hz : v = 0
    · have : c0 = 48 := h0.mp hz
      subst this; subst hz
      refine ⟨a, 0, Nat.le_refl _, ha, by omega, ?_, ?_⟩
      · rw [h_55_63]
        simp (disch := omega) only [↓Bool.cond_eq_ite, ↓reduceIte, Bool.false_eq_true, eq_self, n_lit, n_neg, n_add, n_mul, n_sub, n_subM, n_div, n_mod, n_addM, m_div, m_subn, n_tN, n_inS, n_eq_t, n_eq_f, n_ne_t, n_ne_f, n_lt_t, n_lt_f, n_ge_t, n_ge_f, n_gt_t, n_gt_f, n_le_t, n_le_f, mn_eq, mn_ne, mn_lt, mn_ge, mn_gt, mn_le, nm_eq, nm_ne, nm_lt, nm_ge, nm_gt, nm_le, n_gts_t, c_eq_refl, c_ne_refl, w_fold, w_2, wC_fold, lt_M, cond_true, cond_false, Bool.and_true, Bool.true_and, Bool.and_false, Bool.false_and, Bool.not_true, Bool.not_false, isZS_0, isZS_1, s_52, Option.bind_some]
      · rw [h_210_74, ← h32, w_id]
        simp (disch := omega) only [↓Bool.cond_eq_ite, ↓reduceIte, Bool.false_eq_true, eq_self, n_lit, n_neg, n_add, n_mul, n_sub, n_subM, n_div, n_mod, n_addM, m_div, m_subn, n_tN, n_inS, n_eq_t, n_eq_f, n_ne_t, n_ne_f, n_lt_t, n_lt_f, n_ge_t, n_ge_f, n_gt_t, n_gt_f, n_le_t, n_le_f, mn_eq, mn_ne, mn_lt, mn_ge, mn_gt, mn_le, nm_eq, nm_ne, nm_lt, nm_ge, nm_gt, nm_le, n_gts_t, c_eq_refl, c_ne_refl, w_fold, w_2, wC_fold, lt_M, cond_true, cond_false, Bool.and_true, Bool.true_and, Bool.and_false, Bool.false_and, Bool.not_true, Bool.not_false, isZS_0, isZS_1]
    · have hc' : c0 ≠ 48 := fun h => hz (h0.mpr h)
      have k53 := s_53 (L := L) (xs := xs) (C := C) (m := m) (F := F) (a := a) hn h5 hr (by omega)
      have k179 := s_179 (L := L) (xs := xs) hM h32 (by omega)
      have stop : lAt B n a = oM 1 ∨ (∃ x, x ≤ 255 ∧ lAt B n a = oN x ∧ (x < 48 ∨ 57 < x)) → ∃ j v', a ≤ j ∧ j ≤ n ∧ v' + 1 ≤ 10000 ∧ run L xs 55 26 (63, [some (vr 5 [4, 0]), none, none, some (vi (oN v)), some (vi (oN l))], [], tM C a (oM 4) m F) = some (none, tM C j (oM 4) (m + 1) (upd F m (oN v'))) ∧
          run L xs 210 29 (74, [some (vr 10 [1]), some (vi (oN c0)), some (vi (oN v)), some (vi (oN l))], [], M) = some (some (vi (oN v')), wI M [1] 32 (oN j)) := by
        intro hx
        refine ⟨a, v, Nat.le_refl _, ha, by omega, ?_, ?_⟩
        · rw [h_55_63]
          rcases hx with hx | ⟨x, hx1, hx, hx2⟩
          · rw [hx] at k53
            simp (disch := omega) only [↓Bool.cond_eq_ite, ↓reduceIte, Bool.false_eq_true, eq_self, n_lit, n_neg, n_add, n_mul, n_sub, n_subM, n_div, n_mod, n_addM, m_div, m_subn, n_tN, n_inS, n_eq_t, n_eq_f, n_ne_t, n_ne_f, n_lt_t, n_lt_f, n_ge_t, n_ge_f, n_gt_t, n_gt_f, n_le_t, n_le_f, mn_eq, mn_ne, mn_lt, mn_ge, mn_gt, mn_le, nm_eq, nm_ne, nm_lt, nm_ge, nm_gt, nm_le, n_gts_t, c_eq_refl, c_ne_refl, w_fold, w_2, wC_fold, lt_M, cond_true, cond_false, Bool.and_true, Bool.true_and, Bool.and_false, Bool.false_and, Bool.not_true, Bool.not_false, isZS_0, isZS_1, k53, s_48m, s_52, Option.bind_some]
          · rw [hx] at k53
            have k48 := s_48 (L := L) (xs := xs) (C := tM C a (oM 4) m F) hx1
            rw [if_neg (by omega)] at k48
            simp (disch := omega) only [↓Bool.cond_eq_ite, ↓reduceIte, Bool.false_eq_true, eq_self, n_lit, n_neg, n_add, n_mul, n_sub, n_subM, n_div, n_mod, n_addM, m_div, m_subn, n_tN, n_inS, n_eq_t, n_eq_f, n_ne_t, n_ne_f, n_lt_t, n_lt_f, n_ge_t, n_ge_f, n_gt_t, n_gt_f, n_le_t, n_le_f, mn_eq, mn_ne, mn_lt, mn_ge, mn_gt, mn_le, nm_eq, nm_ne, nm_lt, nm_ge, nm_gt, nm_le, n_gts_t, c_eq_refl, c_ne_refl, w_fold, w_2, wC_fold, lt_M, cond_true, cond_false, Bool.and_true, Bool.true_and, Bool.and_false, Bool.false_and, Bool.not_true, Bool.not_false, isZS_0, isZS_1, k53, k48, s_52, Option.bind_some]
        · rw [h_210_74, ← h32, w_id]
          rcases hx with hx | ⟨x, hx1, hx, hx2⟩
          · rw [hx] at k179
            simp (disch := omega) only [↓Bool.cond_eq_ite, ↓reduceIte, Bool.false_eq_true, eq_self, n_lit, n_neg, n_add, n_mul, n_sub, n_subM, n_div, n_mod, n_addM, m_div, m_subn, n_tN, n_inS, n_eq_t, n_eq_f, n_ne_t, n_ne_f, n_lt_t, n_lt_f, n_ge_t, n_ge_f, n_gt_t, n_gt_f, n_le_t, n_le_f, mn_eq, mn_ne, mn_lt, mn_ge, mn_gt, mn_le, nm_eq, nm_ne, nm_lt, nm_ge, nm_gt, nm_le, n_gts_t, c_eq_refl, c_ne_refl, w_fold, w_2, wC_fold, lt_M, cond_true, cond_false, Bool.and_true, Bool.true_and, Bool.and_false, Bool.false_and, Bool.not_true, Bool.not_false, isZS_0, isZS_1, k179, Option.bind_some]
          · rw [hx] at k179
            rcases hx2 with hx2 | hx2
            · simp (disch := omega) only [↓Bool.cond_eq_ite, ↓reduceIte, Bool.false_eq_true, eq_self, n_lit, n_neg, n_add, n_mul, n_sub, n_subM, n_div, n_mod, n_addM, m_div, m_subn, n_tN, n_inS, n_eq_t, n_eq_f, n_ne_t, n_ne_f, n_lt_t, n_lt_f, n_ge_t, n_ge_f, n_gt_t, n_gt_f, n_le_t, n_le_f, mn_eq, mn_ne, mn_lt, mn_ge, mn_gt, mn_le, nm_eq, nm_ne, nm_lt, nm_ge, nm_gt, nm_le, n_gts_t, c_eq_refl, c_ne_refl, w_fold, w_2, wC_fold, lt_M, cond_true, cond_false, Bool.and_true, Bool.true_and, Bool.and_false, Bool.false_and, Bool.not_true, Bool.not_false, isZS_0, isZS_1, k179, Option.bind_some]
            · by_cases h48 : x < 48
              · omega
              · simp (disch := omega) only [↓Bool.cond_eq_ite, ↓reduceIte, Bool.false_eq_true, eq_self, n_lit, n_neg, n_add, n_mul, n_sub, n_subM, n_div, n_mod, n_addM, m_div, m_subn, n_tN, n_inS, n_eq_t, n_eq_f, n_ne_t, n_ne_f, n_lt_t, n_lt_f, n_ge_t, n_ge_f, n_gt_t, n_gt_f, n_le_t, n_le_f, mn_eq, mn_ne, mn_lt, mn_ge, mn_gt, mn_le, nm_eq, nm_ne, nm_lt, nm_ge, nm_gt, nm_le, n_gts_t, c_eq_refl, c_ne_refl, w_fold, w_2, wC_fold, lt_M, cond_true, cond_false, Bool.and_true, Bool.true_and, Bool.and_false, Bool.false_and, Bool.not_true, Bool.not_false, isZS_0, isZS_1, k179, Option.bind_some]
      rcases lAt_l (i := a) hβ with hx | ⟨hl1, hx, hx1⟩
      · exact stop (.inl hx)
      · by_cases hd : β a < 48 ∨ 57 < β a
        · exact stop (.inr ⟨β a, hx1, hx, hd⟩)
        · rw [hx] at k53 k179
          obtain ⟨j, v', i1, i2, i3, i4, i5⟩ := ih (l + 1) (10 * v + β a - 48) (a + 1) m F (wI M [1] 32 (oN (a + 1))) (by omega) (by omega) hm (by omega) (by omega) (mTx_w hM) (by rw [w_at]; simp)
          refine ⟨j, v', by omega, i2, i3, ?_, ?_⟩
          · rw [h_55_63]
            have k48 := s_48 (L := L) (xs := xs) (C := tM C a (oM 4) m F) hx1
            rw [if_pos (by omega)] at k48
            simp (disch := omega) only [↓Bool.cond_eq_ite, ↓reduceIte, Bool.false_eq_true, eq_self, n_lit, n_neg, n_add, n_mul, n_sub, n_subM, n_div, n_mod, n_addM, m_div, m_subn, n_tN, n_inS, n_eq_t, n_eq_f, n_ne_t, n_ne_f, n_lt_t, n_lt_f, n_ge_t, n_ge_f, n_gt_t, n_gt_f, n_le_t, n_le_f, mn_eq, mn_ne, mn_lt, mn_ge, mn_gt, mn_le, nm_eq, nm_ne, nm_lt, nm_ge, nm_gt, nm_le, n_gts_t, c_eq_refl, c_ne_refl, w_fold, w_2, wC_fold, lt_M, cond_true, cond_false, Bool.and_true, Bool.true_and, Bool.and_false, Bool.false_and, Bool.not_true, Bool.not_false, isZS_0, isZS_1, k53, k48, tM_6, tM_w6, Option.bind_some]
            exact i4
          · rw [w_w] at i5
            rw [h_210_74]
            simp (disch := omega) only [↓Bool.cond_eq_ite, ↓reduceIte, Bool.false_eq_true, eq_self, n_lit, n_neg, n_add, n_mul, n_sub, n_subM, n_div, n_mod, n_addM, m_div, m_subn, n_tN, n_inS, n_eq_t, n_eq_f, n_ne_t, n_ne_f, n_lt_t, n_lt_f, n_ge_t, n_ge_f, n_gt_t, n_gt_f, n_le_t, n_le_f, mn_eq, mn_ne, mn_lt, mn_ge, mn_gt, mn_le, nm_eq, nm_ne, nm_lt, nm_ge, nm_gt, nm_le, n_gts_t, c_eq_refl, c_ne_refl, w_fold, w_2, wC_fold, lt_M, cond_true, cond_false, Bool.and_true, Bool.true_and, Bool.and_false, Bool.false_and, Bool.not_true, Bool.not_false, isZS_0, isZS_1, k179, h32, Option.bind_some]
            exact i5
end Text5
