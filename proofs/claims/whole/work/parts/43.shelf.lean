section Shelf
variable {L : Nat} {xs : Nat → Int32} {C C' M M' : mM} {hm : Nat}
def rSh1 (C M : mM) (d : Nat) : Prop := (C.1 [d, 6, 0] 0 = oN 0 ∧ M.1 [52, 1] d = oN 0) ∨ (C.1 [d, 6, 0] 0 = oN 1 ∧ M.1 [52, 1] d = oN 1 ∧ rShB C M d) ∨ (C.1 [d, 6, 0] 0 = oN 2 ∧ M.1 [52, 1] d = oN 2 ∧ rShR C M d)
theorem rSh1_congr {d : Nat} (h0 : C'.1 [d, 6, 0] = C.1 [d, 6, 0]) (h1 : C'.1 [1, d, 6, 0] = C.1 [1, d, 6, 0]) (h18 : C'.1 [18, 1, d, 6, 0] = C.1 [18, 1, d, 6, 0]) (h4 : C'.1 [4, d, 6, 0] = C.1 [4, d, 6, 0]) (hM : ∀ k, 52 ≤ k → k ≤ 56 → M'.1 [k, 1] d = M.1 [k, 1] d) (h57 : ∀ i, i < 80 → M'.2.1 [57, 1] (80 * d + i) = M.2.1 [57, 1] (80 * d + i)) (h : rSh1 C M d) : rSh1 C' M' d := by
  unfold rSh1 at h ⊢
  rw [h0, hM 52 (by omega) (by omega)]
  rcases h with h | ⟨a, b, h⟩ | ⟨a, b, h⟩
  · exact .inl h
  · exact .inr (.inl ⟨a, b, rShB_congr h1 h18 (hM 53 (by omega) (by omega)) (hM 54 (by omega) (by omega)) h⟩)
  · exact .inr (.inr ⟨a, b, rShR_congr h0 h4 (hM 55 (by omega) (by omega)) (hM 56 (by omega) (by omega)) h57 h⟩)
theorem rI_shelf {d : Nat} (hd : d < 8) (hC : ∀ q, (∀ t, q ≠ t ++ [d, 6, 0]) → C'.1 q = C.1 q)
    (hM : ∀ q, q ≠ [52, 1] → q ≠ [53, 1] → q ≠ [54, 1] → q ≠ [55, 1] → q ≠ [56, 1] → M'.1 q = M.1 q)
    (hM2 : ∀ k j, 52 ≤ k → k ≤ 56 → j ≠ d → M'.1 [k, 1] j = M.1 [k, 1] j) (hL : ∀ j, (j < 80 * d ∨ 80 * d + 80 ≤ j) → M'.2.1 [57, 1] j = M.2.1 [57, 1] j)
    (hnew : rSh1 C' M' d) (h : rI L xs C M hm) (hCL : C'.2.1 [1, 5, 0] = C.2.1 [1, 5, 0] := by first | rfl | assumption) : rI L xs C' M' hm := by
  obtain ⟨nc, nw, nb, np, nt, now, kd, wa, wb, wd, wl, ws, h1, h2, h3, h4, h5, h6⟩ := h
  have hk : ∀ k, (k < 52 ∨ 56 < k) → M'.1 [k, 1] = M.1 [k, 1] := fun k hk => hM _ (by simp; omega) (by simp; omega) (by simp; omega) (by simp; omega) (by simp; omega)
  have hr : M'.1 [1] = M.1 [1] := hM _ (by simp) (by simp) (by simp) (by simp) (by simp)
  have hg : mAg M M' nc nw nb np := mAg_of (fun k a b => hk k (by omega))
  have hc2 : ∀ (t : List Nat) (a b : Nat), [a, b] ≠ [6, 0] → C'.1 (t ++ [a, b]) = C.1 (t ++ [a, b]) := fun t a b hab => hC _ (fun s e => by
    have e2 : (t ++ [a, b]).reverse.take 2 = (s ++ [d, 6, 0]).reverse.take 2 := by rw [e]
    simp at e2
    exact hab (by rw [e2.1, e2.2]))
  refine ⟨nc, nw, nb, np, nt, now, kd, wa, wb, wd, wl, ws, rP_congr (fun t => hc2 t 0 0 (by simp)) (fun i _ => by rw [hk 1 (by omega)]) hg h1,
    rIm_congr (fun t => hc2 t 1 0 (by simp)) (by rw [hC [0] (fun s e => by have := congrArg List.length e; simp at this)]) (by rw [hr]) (fun i _ => by rw [hk 2 (by omega)]) hg (Nat.le_refl _) (Nat.le_refl _) (Nat.le_refl _) (Nat.le_refl _) (Nat.le_refl _) (Nat.le_refl _) h2, ?_, ?_, ?_, ?_⟩
  · exact rHi_congr (hc2 [0] 5 0 (by simp)) hCL (hk 20 (by omega)) (hk 21 (by omega)) (hk 22 (by omega)) (hk 23 (by omega)) (hk 24 (by omega)) (hk 25 (by omega)) (fun b _ => by rw [hk 16 (by omega)]) h3
  · exact rTx_congr (hc2 [0] 4 0 (by simp)) (hc2 [1] 4 0 (by simp)) (hk 18 (by omega)) (hk 19 (by omega)) h4
  · intro d' hd'
    by_cases e : d' = d
    · subst e; exact hnew
    · have hn : ∀ (u : List Nat), C'.1 (u ++ [d', 6, 0]) = C.1 (u ++ [d', 6, 0]) := fun u => hC _ (fun s es => by
        have e2 : (u ++ [d', 6, 0]).reverse.take 3 = (s ++ [d, 6, 0]).reverse.take 3 := by rw [es]
        simp at e2
        exact e e2)
      exact rSh1_congr (hn []) (hn [1]) (hn [18, 1]) (hn [4]) (fun k a b => hM2 k d' a b e) (fun i hi => hL _ (by omega)) (h5 d' hd')
  · rw [hr]; exact h6
theorem sh_ne {d : Nat} {q u : List Nat} (h : ∀ t, q ≠ t ++ [d, 6, 0]) : q ≠ u ++ [d, 6, 0] := h u
set_option maxRecDepth 8000 in
theorem row_ok {d n : Nat} (l2 : Int32) (hn : n ≤ 80) (hl : l2 = oN n) : ∀ (k i : Nat) (C : mM), i + k = n → ∃ C', run L xs 46 25 (17, [some (vr 4 [d, 6, 0]), none, some (vi l2), some (vi (oN i))], [], C) = some (none, C') ∧ C'.2 = C.2 ∧ (∀ q, q ≠ [4, d, 6, 0] → C'.1 q = C.1 q) ∧ ∀ j, C'.1 [4, d, 6, 0] j = if i ≤ j ∧ j < n then oN 0 else C.1 [4, d, 6, 0] j
  | 0, i, C, h => by
    subst hl
    refine ⟨C, ?_, rfl, fun _ _ => rfl, fun j => by rw [if_neg (by omega)]⟩
    rw [h_46_17]
    simp (disch := omega) only [↓Bool.cond_eq_ite, ↓reduceIte, Bool.false_eq_true, eq_self, n_lit, n_neg, n_add, n_mul, n_sub, n_subM, n_div, n_mod, n_addM, m_div, m_subn, n_tN, n_inS, n_eq_t, n_eq_f, n_ne_t, n_ne_f, n_lt_t, n_lt_f, n_ge_t, n_ge_f, n_gt_t, n_gt_f, n_le_t, n_le_f, mn_eq, mn_ne, mn_lt, mn_ge, mn_gt, mn_le, nm_eq, nm_ne, nm_lt, nm_ge, nm_gt, nm_le, n_gts_t, c_eq_refl, c_ne_refl, w_fold, w_2, wC_fold, lt_M, cond_true, cond_false, Bool.and_true, Bool.true_and, Bool.and_false, Bool.false_and, Bool.not_true, Bool.not_false, isZS_0, isZS_1]
  | k + 1, i, C, h => by
    subst hl
    obtain ⟨C', h1, h2, h3, h4⟩ := row_ok (oN n) hn rfl k (i + 1) (wI C [4, d, 6, 0] i (oN 0)) (by omega)
    refine ⟨C', ?_, h2, fun q hq => (h3 q hq).trans (w_ne hq), fun j => ?_⟩
    · rw [h_46_17]
      simp (disch := omega) only [↓Bool.cond_eq_ite, ↓reduceIte, Bool.false_eq_true, eq_self, n_lit, n_neg, n_add, n_mul, n_sub, n_subM, n_div, n_mod, n_addM, m_div, m_subn, n_tN, n_inS, n_eq_t, n_eq_f, n_ne_t, n_ne_f, n_lt_t, n_lt_f, n_ge_t, n_ge_f, n_gt_t, n_gt_f, n_le_t, n_le_f, mn_eq, mn_ne, mn_lt, mn_ge, mn_gt, mn_le, nm_eq, nm_ne, nm_lt, nm_ge, nm_gt, nm_le, n_gts_t, c_eq_refl, c_ne_refl, w_fold, w_2, wC_fold, lt_M, cond_true, cond_false, Bool.and_true, Bool.true_and, Bool.and_false, Bool.false_and, Bool.not_true, Bool.not_false, isZS_0, isZS_1]
      exact h1
    · rw [h4]
      simp only [w_at, true_and]
      by_cases e : j = i
      · subst e; simp (disch := omega) only [if_neg, if_pos]; simp
      · by_cases e2 : i + 1 ≤ j ∧ j < n
        · rw [if_pos e2, if_pos (by omega)]
        · rw [if_neg e2, if_neg e, if_neg (by omega)]
set_option maxRecDepth 8000 in
theorem rowM_ok {d : Nat} (hd : d < 8) : ∀ (k i : Nat) (M : mM), i + k = 80 → ∃ M', run L xs 220 26 (63, [some (vr 10 [1]), some (vi (oN d)), none, none, some (vi (oN i))], [], M) = some (some (vi (oN 0)), M') ∧ M'.1 = M.1 ∧ M'.2.2 = M.2.2 ∧ (∀ q, q ≠ [57, 1] → M'.2.1 q = M.2.1 q) ∧ ∀ j, M'.2.1 [57, 1] j = if 80 * d + i ≤ j ∧ j < 80 * d + 80 then 0 else M.2.1 [57, 1] j
  | 0, i, M, h => by
    refine ⟨M, ?_, rfl, rfl, fun _ _ => rfl, fun j => by rw [if_neg (by omega)]⟩
    rw [h_220_63]
    simp (disch := omega) only [↓Bool.cond_eq_ite, ↓reduceIte, Bool.false_eq_true, eq_self, n_lit, n_neg, n_add, n_mul, n_sub, n_subM, n_div, n_mod, n_addM, m_div, m_subn, n_tN, n_inS, n_eq_t, n_eq_f, n_ne_t, n_ne_f, n_lt_t, n_lt_f, n_ge_t, n_ge_f, n_gt_t, n_gt_f, n_le_t, n_le_f, mn_eq, mn_ne, mn_lt, mn_ge, mn_gt, mn_le, nm_eq, nm_ne, nm_lt, nm_ge, nm_gt, nm_le, n_gts_t, c_eq_refl, c_ne_refl, w_fold, w_2, wC_fold, lt_M, cond_true, cond_false, Bool.and_true, Bool.true_and, Bool.and_false, Bool.false_and, Bool.not_true, Bool.not_false, isZS_0, isZS_1]
  | k + 1, i, M, h => by
    obtain ⟨M', h1, h2, h5, h3, h4⟩ := rowM_ok hd k (i + 1) (wL M [57, 1] (80 * d + i) 0) (by omega)
    refine ⟨M', ?_, h2, h5, fun q hq => (h3 q hq).trans (wL_ne hq), fun j => ?_⟩
    · rw [h_220_63]
      simp (disch := omega) only [↓Bool.cond_eq_ite, ↓reduceIte, Bool.false_eq_true, eq_self, n_lit, n_neg, n_add, n_mul, n_sub, n_subM, n_div, n_mod, n_addM, m_div, m_subn, n_tN, n_inS, n_eq_t, n_eq_f, n_ne_t, n_ne_f, n_lt_t, n_lt_f, n_ge_t, n_ge_f, n_gt_t, n_gt_f, n_le_t, n_le_f, mn_eq, mn_ne, mn_lt, mn_ge, mn_gt, mn_le, nm_eq, nm_ne, nm_lt, nm_ge, nm_gt, nm_le, n_gts_t, c_eq_refl, c_ne_refl, w_fold, w_2, wC_fold, lt_M, cond_true, cond_false, Bool.and_true, Bool.true_and, Bool.and_false, Bool.false_and, Bool.not_true, Bool.not_false, isZS_0, isZS_1, wL_fold]
      exact h1
    · rw [h4]
      simp only [wL_at, true_and]
      by_cases e : j = 80 * d + i
      · subst e; simp (disch := omega) only [if_neg, if_pos]; simp
      · by_cases e2 : 80 * d + (i + 1) ≤ j ∧ j < 80 * d + 80
        · rw [if_pos e2, if_pos (by omega)]
        · rw [if_neg e2, if_neg e, if_neg (by omega)]
end Shelf
