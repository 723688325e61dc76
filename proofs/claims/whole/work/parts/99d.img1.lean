section Img1
variable {L : Nat} {xs : Nat → Int32} {C C' M M' : mM} {nc nw nb np nt now hm : Nat} {kd wa wb wd wl ws : Nat → Nat}
theorem s_183a : ∀ r i H, i + r = 1600 → (∀ j, j < i → H j = M.1 [1, 1] j) → ∃ H', run L xs 183 25 (12, [some (vr 10 [1]), some (vi (oN i))], [], stA M [2, 1] H) = some (some (vi (M.1 [1, 1] 5)), stA M [2, 1] H') ∧ ∀ j, j < 1600 → H' j = M.1 [1, 1] j := by
  have z1 : ∀ H, (stA M [2, 1] H).1 [1, 1] = M.1 [1, 1] := fun H => stA_ne (by simp)
  intro r
  induction r with
  | zero =>
    intro i H hi hH
    have : i = 1600 := by omega
    subst this
    refine ⟨H, ?_, hH⟩
    rw [h_183_12]
    simp (disch := omega) only [↓Bool.cond_eq_ite, ↓reduceIte, Bool.false_eq_true, eq_self, n_lit, n_neg, n_add, n_mul, n_sub, n_subM, n_div, n_mod, n_addM, m_div, m_subn, n_tN, n_inS, n_eq_t, n_eq_f, n_ne_t, n_ne_f, n_lt_t, n_lt_f, n_ge_t, n_ge_f, n_gt_t, n_gt_f, n_le_t, n_le_f, mn_eq, mn_ne, mn_lt, mn_ge, mn_gt, mn_le, nm_eq, nm_ne, nm_lt, nm_ge, nm_gt, nm_le, n_gts_t, c_eq_refl, c_ne_refl, w_fold, w_2, wC_fold, lt_M, cond_true, cond_false, Bool.and_true, Bool.true_and, Bool.and_false, Bool.false_and, Bool.not_true, Bool.not_false, isZS_0, isZS_1, z1]
  | succ r ih =>
    intro i H hi hH
    obtain ⟨H', k1, k2⟩ := ih (i + 1) (upd H i (M.1 [1, 1] i)) (by omega) (fun j hj => by
      by_cases e : j = i
      · rw [e, upd_eq]
      · rw [upd_ne e]; exact hH j (by omega))
    refine ⟨H', ?_, k2⟩
    rw [h_183_12]
    simp (disch := omega) only [↓lt_stA, ↓Bool.cond_eq_ite, ↓reduceIte, Bool.false_eq_true, eq_self, n_lit, n_neg, n_add, n_mul, n_sub, n_subM, n_div, n_mod, n_addM, m_div, m_subn, n_tN, n_inS, n_eq_t, n_eq_f, n_ne_t, n_ne_f, n_lt_t, n_lt_f, n_ge_t, n_ge_f, n_gt_t, n_gt_f, n_le_t, n_le_f, mn_eq, mn_ne, mn_lt, mn_ge, mn_gt, mn_le, nm_eq, nm_ne, nm_lt, nm_ge, nm_gt, nm_le, n_gts_t, c_eq_refl, c_ne_refl, w_fold, w_2, wC_fold, lt_M, cond_true, cond_false, Bool.and_true, Bool.true_and, Bool.and_false, Bool.false_and, Bool.not_true, Bool.not_false, isZS_0, isZS_1, z1, stA_same, stA_w, stA_u]
    exact k1
theorem s_216a : ∀ r i H, i + r = 1600 → (∀ j, j < i → H j = M.1 [2, 1] j) → ∃ H', run L xs 216 25 (17, [some (vr 10 [1]), some (vi (oN i))], [], stA M [1, 1] H) = some (some (vi (M.1 [2, 1] 5)), stA M [1, 1] H') ∧ ∀ j, j < 1600 → H' j = M.1 [2, 1] j := by
  have z1 : ∀ H, (stA M [1, 1] H).1 [2, 1] = M.1 [2, 1] := fun H => stA_ne (by simp)
  intro r
  induction r with
  | zero =>
    intro i H hi hH
    have : i = 1600 := by omega
    subst this
    refine ⟨H, ?_, hH⟩
    have h5 := hH 5 (by omega)
    rw [h_216_17]
    simp (disch := omega) only [↓Bool.cond_eq_ite, ↓reduceIte, Bool.false_eq_true, eq_self, n_lit, n_neg, n_add, n_mul, n_sub, n_subM, n_div, n_mod, n_addM, m_div, m_subn, n_tN, n_inS, n_eq_t, n_eq_f, n_ne_t, n_ne_f, n_lt_t, n_lt_f, n_ge_t, n_ge_f, n_gt_t, n_gt_f, n_le_t, n_le_f, mn_eq, mn_ne, mn_lt, mn_ge, mn_gt, mn_le, nm_eq, nm_ne, nm_lt, nm_ge, nm_gt, nm_le, n_gts_t, c_eq_refl, c_ne_refl, w_fold, w_2, wC_fold, lt_M, cond_true, cond_false, Bool.and_true, Bool.true_and, Bool.and_false, Bool.false_and, Bool.not_true, Bool.not_false, isZS_0, isZS_1, stA_same, h5]
  | succ r ih =>
    intro i H hi hH
    obtain ⟨H', k1, k2⟩ := ih (i + 1) (upd H i (M.1 [2, 1] i)) (by omega) (fun j hj => by
      by_cases e : j = i
      · rw [e, upd_eq]
      · rw [upd_ne e]; exact hH j (by omega))
    refine ⟨H', ?_, k2⟩
    rw [h_216_17]
    simp (disch := omega) only [↓lt_stA, ↓Bool.cond_eq_ite, ↓reduceIte, Bool.false_eq_true, eq_self, n_lit, n_neg, n_add, n_mul, n_sub, n_subM, n_div, n_mod, n_addM, m_div, m_subn, n_tN, n_inS, n_eq_t, n_eq_f, n_ne_t, n_ne_f, n_lt_t, n_lt_f, n_ge_t, n_ge_f, n_gt_t, n_gt_f, n_le_t, n_le_f, mn_eq, mn_ne, mn_lt, mn_ge, mn_gt, mn_le, nm_eq, nm_ne, nm_lt, nm_ge, nm_gt, nm_le, n_gts_t, c_eq_refl, c_ne_refl, w_fold, w_2, wC_fold, lt_M, cond_true, cond_false, Bool.and_true, Bool.true_and, Bool.and_false, Bool.false_and, Bool.not_true, Bool.not_false, isZS_0, isZS_1, z1, stA_same, stA_w, stA_u]
    exact k1
theorem sf_no {t p : List Nat} {a b : Nat} (h : p.reverse.take 2 ≠ [b, a]) : ∀ u, p ≠ u ++ [a, b] := fun u e => h (by rw [e]; simp)
theorem img_ok (hx : rIx L xs C M nc nw nb np nt now hm kd wa wb wd wl ws) : ∃ C1 M', kV L xs 31 [vr 2 [1, 0], vr 2 [0, 0]] C = some C1 ∧ C1.1 [0, 0] 0 = oN now ∧ kI L xs 183 [vr 10 [1]] M = some (oN now, M') ∧ rIx L xs (wI C1 [0] 3 (oN 1)) M' nc nw nb np nt now hm kd wa wb wd wl ws := by
  obtain ⟨hP, hIm, hHi, hTx, hSh, h26⟩ := hx
  obtain ⟨C1, na, c1, c2, c3⟩ := copy_ok (L := L) (xs := xs) (pc := 1) (qc := 0) (by omega) hP
  have hP1 : rP [1, 0] (M.1 [1, 1]) C1 M nc nw nb np nt now hm kd wa wb wd wl ws := rP_cp c3 c2 hP
  have c2' := c2.2.1
  obtain ⟨M1, hM1⟩ : ∃ M1, M1 = wI (wI M [1] 0 (oN 0)) [1] 4 (oN 1) := ⟨_, rfl⟩
  have e1 : ∀ q, q ≠ [1] → M1.1 q = M.1 q := fun q h => by rw [hM1, w_ne h, w_ne h]
  have S5 : M1.1 [1, 1] 5 = oN now := by rw [e1 _ (by simp)]; exact hP.1.2.2.2.2.2.2.2.2.2.2.2.2.1
  obtain ⟨H, m1, m2⟩ := s_183a (L := L) (xs := xs) (M := M1) 1600 0 (M1.1 [2, 1]) (by omega) (fun j hj => by omega)
  rw [stA_id, S5] at m1
  have f0 : ∀ t a b, (a ≠ 1 ∨ b ≠ 0) → (wI C1 [0] 3 (oN 1)).1 (t ++ [a, b]) = C.1 (t ++ [a, b]) := fun t a b h => by
    rw [w_ne (fun e => by have := congrArg List.length e; simp at this)]
    exact c2' _ (fun u e => by have := sf_t e; omega)
  have g1 : ∀ k, k ≠ 1 → k ≠ 2 → (stA M1 [2, 1] H).1 [k, 1] = M.1 [k, 1] := fun k h1 h2 => by rw [stA_ne (by simp [h2]), e1 _ (by simp)]
  have hg : ∀ a b d e, mAg M (stA M1 [2, 1] H) a b d e := fun a b d e => mAg_of (fun k h1 h2 => g1 k (by omega) (by omega))
  refine ⟨C1, stA M1 [2, 1] H, c1, ?_, kI_of ?_, ?_, ?_, ?_, ?_, ?_, ?_⟩
  · rw [c2' _ (fun u e => by have := sf_t (t := []) e; omega)]
    exact hP.1.1
  · rw [e_183]
    simp (disch := omega) only [↓Bool.cond_eq_ite, ↓reduceIte, Bool.false_eq_true, eq_self, n_lit, n_neg, n_add, n_mul, n_sub, n_subM, n_div, n_mod, n_addM, m_div, m_subn, n_tN, n_inS, n_eq_t, n_eq_f, n_ne_t, n_ne_f, n_lt_t, n_lt_f, n_ge_t, n_ge_f, n_gt_t, n_gt_f, n_le_t, n_le_f, mn_eq, mn_ne, mn_lt, mn_ge, mn_gt, mn_le, nm_eq, nm_ne, nm_lt, nm_ge, nm_gt, nm_le, n_gts_t, c_eq_refl, c_ne_refl, w_fold, wC_fold, lt_M, cond_true, cond_false, Bool.and_true, Bool.true_and, Bool.and_false, Bool.false_and, Bool.not_true, Bool.not_false, isZS_0, isZS_1, ← hM1]
    exact m1
  · exact rP_congr (fun t => f0 t 0 0 (by omega)) (fun i _ => by rw [stA_ne (by simp), e1 _ (by simp)]) (hg _ _ _ _) hP
  · refine .inr ⟨by rw [w_at, if_pos ⟨rfl, rfl⟩], by rw [stA_ne (by simp), hM1, w_at, if_pos ⟨rfl, rfl⟩], nc, nw, nb, np, nt, now, kd, wa, wb, wd, wl, ws, ?_, Nat.le_refl _, Nat.le_refl _, Nat.le_refl _, Nat.le_refl _, Nat.le_refl _, Nat.le_refl _⟩
    exact rP_congr (fun t => w_ne (fun e => by have := congrArg List.length e; simp at this)) (fun i hi => by rw [stA_same, m2 i hi, e1 _ (by simp)]) (hg _ _ _ _) hP1
  · exact rHi_congr (f0 [0] 5 0 (by omega)) (by show C1.2.1 [1, 5, 0] = _; rw [c2.1]) (g1 20 (by omega) (by omega)) (g1 21 (by omega) (by omega)) (g1 22 (by omega) (by omega)) (g1 23 (by omega) (by omega)) (g1 24 (by omega) (by omega)) (g1 25 (by omega) (by omega)) (fun b _ => by rw [g1 16 (by omega) (by omega)]) hHi
  · exact rTx_congr (f0 [0] 4 0 (by omega)) (f0 [1] 4 0 (by omega)) (g1 18 (by omega) (by omega)) (g1 19 (by omega) (by omega)) hTx
  · exact rSh_congr (fun t => f0 t 6 0 (by omega)) (g1 52 (by omega) (by omega)) (g1 53 (by omega) (by omega)) (g1 54 (by omega) (by omega)) (g1 55 (by omega) (by omega)) (g1 56 (by omega) (by omega)) (by show M1.2.1 [57, 1] = _; rw [hM1]; rfl) hSh
  · rw [stA_ne (by simp), hM1, w_ne_k (by omega), w_ne_k (by omega)]
    exact h26
theorem res_no (h : M.1 [1] 4 = oN 0) : kI L xs 216 [vr 10 [1]] M = some (oM 3, wI M [1] 0 (oN 0)) := by
  refine kI_of ?_
  have h4 : (wI M [1] 0 (oN 0)).1 [1] 4 = oN 0 := by rw [w_ne_k (by omega)]; exact h
  rw [e_216]
  simp (disch := omega) only [↓Bool.cond_eq_ite, ↓reduceIte, Bool.false_eq_true, eq_self, n_lit, n_neg, n_add, n_mul, n_sub, n_subM, n_div, n_mod, n_addM, m_div, m_subn, n_tN, n_inS, n_eq_t, n_eq_f, n_ne_t, n_ne_f, n_lt_t, n_lt_f, n_ge_t, n_ge_f, n_gt_t, n_gt_f, n_le_t, n_le_f, mn_eq, mn_ne, mn_lt, mn_ge, mn_gt, mn_le, nm_eq, nm_ne, nm_lt, nm_ge, nm_gt, nm_le, n_gts_t, c_eq_refl, c_ne_refl, w_fold, wC_fold, lt_M, cond_true, cond_false, Bool.and_true, Bool.true_and, Bool.and_false, Bool.false_and, Bool.not_true, Bool.not_false, isZS_0, isZS_1, h4]
theorem res_ok (h3 : C.1 [0] 3 = oN 1) (hx : rI L xs C M hm) : ∃ v C1 M', kV L xs 31 [vr 2 [0, 0], vr 2 [1, 0]] C = some C1 ∧ C1.1 [0, 0] 0 = v ∧ kI L xs 216 [vr 10 [1]] M = some (v, M') ∧ rI L xs C1 M' hm := by
  obtain ⟨nc, nw, nb, np, nt, now, kd, wa, wb, wd, wl, ws, hP, hIm, hHi, hTx, hSh, h26⟩ := hx
  rcases hIm with ⟨a, -⟩ | ⟨a1, a2, nc', nw', nb', np', nt', now', kd', wa', wb', wd', wl', ws', hP', l1, l2, l3, l4, l5, l6⟩
  · exact absurd (h3.symm.trans a) (by decide)
  obtain ⟨C1, na, c1, c2, c3⟩ := copy_ok (L := L) (xs := xs) (pc := 0) (qc := 1) (by omega) hP'
  have hP1 : rP [0, 0] (M.1 [2, 1]) C1 M nc' nw' nb' np' nt' now' hm kd' wa' wb' wd' wl' ws' := rP_cp c3 c2 hP'
  have c2' := c2.2.1
  obtain ⟨M1, hM1⟩ : ∃ M1, M1 = wI M [1] 0 (oN 0) := ⟨_, rfl⟩
  have e1 : ∀ q, q ≠ [1] → M1.1 q = M.1 q := fun q h => by rw [hM1, w_ne h]
  have m14 : M1.1 [1] 4 = oN 1 := by rw [hM1, w_ne_k (by omega)]; exact a2
  have S5 : M1.1 [2, 1] 5 = oN now' := by rw [e1 _ (by simp)]; exact hP'.1.2.2.2.2.2.2.2.2.2.2.2.2.1
  obtain ⟨H, m1, m2⟩ := s_216a (L := L) (xs := xs) (M := M1) 1600 0 (M1.1 [1, 1]) (by omega) (fun j hj => by omega)
  rw [stA_id, S5] at m1
  have f0 : ∀ t a b, (a ≠ 0 ∨ b ≠ 0) → C1.1 (t ++ [a, b]) = C.1 (t ++ [a, b]) := fun t a b h => c2' _ (fun u e => by have := sf_t e; omega)
  have g1 : ∀ k, k ≠ 1 → (stA M1 [1, 1] H).1 [k, 1] = M.1 [k, 1] := fun k h1 => by rw [stA_ne (by simp [h1]), e1 _ (by simp)]
  have hg : ∀ a b d e, mAg M (stA M1 [1, 1] H) a b d e := fun a b d e => mAg_of (fun k h1 h2 => g1 k (by omega))
  have hkd : ∀ b, b < nb' → kd' b = kd b := fun b hb => by
    obtain ⟨⟨x1, -, -, x4, -⟩, -⟩ := hP'.2.2.2.2.2.2.1 b hb
    obtain ⟨⟨y1, -, -, y4, -⟩, -⟩ := hP.2.2.2.2.2.2.1 b (by omega)
    exact (n_inj (by omega) (by omega)).mp (x4.symm.trans y4)
  refine ⟨oN now', C1, stA M1 [1, 1] H, c1, hP1.1.1, kI_of ?_, nc', nw', nb', np', nt', now', kd', wa', wb', wd', wl', ws', ?_, ?_, ?_, ?_, ?_, ?_⟩
  · rw [e_216]
    simp (disch := omega) only [↓Bool.cond_eq_ite, ↓reduceIte, Bool.false_eq_true, eq_self, n_lit, n_neg, n_add, n_mul, n_sub, n_subM, n_div, n_mod, n_addM, m_div, m_subn, n_tN, n_inS, n_eq_t, n_eq_f, n_ne_t, n_ne_f, n_lt_t, n_lt_f, n_ge_t, n_ge_f, n_gt_t, n_gt_f, n_le_t, n_le_f, mn_eq, mn_ne, mn_lt, mn_ge, mn_gt, mn_le, nm_eq, nm_ne, nm_lt, nm_ge, nm_gt, nm_le, n_gts_t, c_eq_refl, c_ne_refl, w_fold, wC_fold, lt_M, cond_true, cond_false, Bool.and_true, Bool.true_and, Bool.and_false, Bool.false_and, Bool.not_true, Bool.not_false, isZS_0, isZS_1, ← hM1, m14]
    exact m1
  · exact rP_congr (fun t => rfl) (fun i hi => by rw [stA_same, m2 i hi, e1 _ (by simp)]) (hg _ _ _ _) hP1
  · refine .inr ⟨by rw [c2' [0] (fun u e => by have := congrArg List.length e; simp at this)]; exact a1, by rw [stA_ne (by simp)]; exact m14, nc', nw', nb', np', nt', now', kd', wa', wb', wd', wl', ws', ?_, Nat.le_refl _, Nat.le_refl _, Nat.le_refl _, Nat.le_refl _, Nat.le_refl _, Nat.le_refl _⟩
    exact rP_congr (fun t => f0 t 1 0 (by omega)) (fun i hi => by rw [g1 2 (by omega)]) (hg _ _ _ _) hP'
  · obtain ⟨H1, H2⟩ := hHi
    refine ⟨fun m hm' => ?_, fun b m n hb hk hm' h16 hn hnm => ?_⟩
    · rw [show C1.1 [0, 5, 0] = C.1 [0, 5, 0] from f0 [0] 5 0 (by omega), g1 20 (by omega), g1 21 (by omega), g1 22 (by omega), g1 23 (by omega), g1 24 (by omega)]
      exact H1 m (by omega)
    · rw [show C1.2.1 [1, 5, 0] = C.2.1 [1, 5, 0] from by rw [c2.1], g1 25 (by omega)]
      rw [g1 16 (by omega)] at h16
      exact H2 b m n (by omega) (by rw [← hkd b hb]; exact hk) (by omega) h16 hn hnm
  · have ht : rTx L xs C M nt' := fun t h => hTx t (by omega)
    exact rTx_congr (f0 [0] 4 0 (by omega)) (f0 [1] 4 0 (by omega)) (g1 18 (by omega)) (g1 19 (by omega)) ht
  · exact rSh_congr (fun t => f0 t 6 0 (by omega)) (g1 52 (by omega)) (g1 53 (by omega)) (g1 54 (by omega)) (g1 55 (by omega)) (g1 56 (by omega)) (by show M1.2.1 [57, 1] = _; rw [hM1]; rfl) hSh
  · rw [stA_ne (by simp), hM1, w_ne_k (by omega)]
    exact h26
end Img1
