section Seats
variable {L : Nat} {xs : Nat → Int32} {C M : mM} {hm : Nat}
set_option maxRecDepth 8000 in
set_option maxHeartbeats 4000000 in
theorem s_222 {b k : Nat} (hb : b < 40) (hk : k ≤ 5) (h : M.1 [11, 1] b = oN k) : kI L xs 222 [vr 10 [1], vi (oN b)] M = some (oN (if k = 2 then 50 else if k = 3 then 300 else if k = 5 then 1 else 0), M) := by
  refine kI_of ?_
  rw [e_222]
  have : k = 0 ∨ k = 1 ∨ k = 2 ∨ k = 3 ∨ k = 4 ∨ k = 5 := by omega
  rcases this with rfl | rfl | rfl | rfl | rfl | rfl <;> simp (disch := omega) only [↓Bool.cond_eq_ite, ↓reduceIte, Bool.false_eq_true, eq_self, n_lit, n_neg, n_add, n_mul, n_sub, n_subM, n_div, n_mod, n_addM, m_div, m_subn, n_tN, n_inS, n_eq_t, n_eq_f, n_ne_t, n_ne_f, n_lt_t, n_lt_f, n_ge_t, n_ge_f, n_gt_t, n_gt_f, n_le_t, n_le_f, mn_eq, mn_ne, mn_lt, mn_ge, mn_gt, mn_le, nm_eq, nm_ne, nm_lt, nm_ge, nm_gt, nm_le, n_gts_t, c_eq_refl, c_ne_refl, w_fold, w_2, wC_fold, lt_M, cond_true, cond_false, Bool.and_true, Bool.true_and, Bool.and_false, Bool.false_and, Bool.not_true, Bool.not_false, isZS_0, isZS_1, h] <;> rfl
end Seats
