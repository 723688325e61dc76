section Pass1
variable {L : Nat} {xs : Nat → Int32} {C C' M M' : mM} {S S' : Nat → Int32} {c nc nw nb np nt now td hm : Nat} {kd wa wb wd wl ws : Nat → Nat}
theorem pass_ok (hc : c ≠ 4) (hhm : hm ≤ 1000) (hP : rPt [c, 0] (M.1 [1, 1]) C M nc nw nb np nt now now hm kd wa wb wd wl ws) (hTx : rTx L xs C M nt) :
    ∃ C' M', kV L xs 16 [vr 2 [c, 0], vr 5 [4, 0]] C = some (wI C' [c, 0] 0 (oN (now + 1))) ∧ call L xs 205 [vr 10 [1]] M = run L xs 205 35 (50, [some (vr 10 [1]), some (vi (oN nb))], [], M') ∧ rPt [c, 0] (M'.1 [1, 1]) C' M' nc nw nb np nt now (now + 1) hm kd wa wb wd wl ws ∧ frC [c, 0] C C' ∧ frP M M' := by
  obtain ⟨C1, C2, M2, a1, a2, a3, a4, a5, a6⟩ := press1_ok (L := L) (xs := xs) hc hhm hP
  obtain ⟨C3, M3, b1, b2, b3, b4, b5⟩ := shut_ok (L := L) (xs := xs) hc hhm a4 (rTx_frP hc a5 a6 hTx)
  obtain ⟨C4, M4, c1, c2, c3, c4, c5⟩ := fall_ok (L := L) (xs := xs) hc hhm b3
  obtain ⟨C5, M5, d1, d2, d3, d4, d5⟩ := walk_ok (L := L) (xs := xs) hc hhm c3
  obtain ⟨C6, M6, e1, e2, e3, e4, e5⟩ := step_ok (L := L) (xs := xs) hc hhm d3
  obtain ⟨C7, M7, f1, f2, f3, f4, f5⟩ := rite_ok (L := L) (xs := xs) hc hhm e3
  obtain ⟨C8, M8, g1, g2, g3, g4, g5⟩ := heat_ok (L := L) (xs := xs) hc hhm f3
  have h0 : C8.1 [c, 0] 0 = oN now := g3.1.1
  have k207 : kV L xs 207 [vr 10 [1]] M = some M3 := kV_of (by
    rw [e_207]
    exact a3.trans b2)
  refine ⟨C8, M8, kV_of ?_, ?_, g3, frC_trans a5 (frC_trans b4 (frC_trans c4 (frC_trans d4 (frC_trans e4 (frC_trans f4 g4))))), frP_trans a6 (frP_trans b5 (frP_trans (frP_of c5) (frP_trans (frP_of d5) (frP_trans (frP_of2 e5) (frP_trans (frP_of f5) (frP_of g5))))))⟩
  · rw [e_16]
    simp (disch := omega) only [↓Bool.cond_eq_ite, ↓reduceIte, Bool.false_eq_true, eq_self, n_lit, n_neg, n_add, n_mul, n_sub, n_subM, n_div, n_mod, n_addM, m_div, m_subn, n_tN, n_inS, n_eq_t, n_eq_f, n_ne_t, n_ne_f, n_lt_t, n_lt_f, n_ge_t, n_ge_f, n_gt_t, n_gt_f, n_le_t, n_le_f, mn_eq, mn_ne, mn_lt, mn_ge, mn_gt, mn_le, nm_eq, nm_ne, nm_lt, nm_ge, nm_gt, nm_le, n_gts_t, c_eq_refl, c_ne_refl, w_fold, wC_fold, lt_M, cond_true, cond_false, Bool.and_true, Bool.true_and, Bool.and_false, Bool.false_and, Bool.not_true, Bool.not_false, isZS_0, isZS_1, a1, a2, b1, c1, d1, e1, f1, g1, h0, Option.bind_some]
  · rw [e_205]
    simp only [k207, c2, d2, e2, Option.bind_some]
    exact f2.trans g2
theorem tick_ok (hn : now < 4320) (hP : rPt [c, 0] S C M nc nw nb np nt now (now + 1) hm kd wa wb wd wl ws) (h0 : C'.1 [c, 0] 0 = oN (now + 1)) (hk : ∀ j, j ≠ 0 → C'.1 [c, 0] j = C.1 [c, 0] j) (hC : ∀ t i, C'.1 (i :: t ++ [c, 0]) = C.1 (i :: t ++ [c, 0]))
    (h5 : S' 5 = oN (now + 1)) (hS : ∀ i, i ≠ 5 → S' i = S i) (hM : ∀ k, 5 ≤ k → k ≤ 17 → M'.1 [k, 1] = M.1 [k, 1]) : rP [c, 0] S' C' M' nc nw nb np nt (now + 1) hm kd wa wb wd wl ws := by
  obtain ⟨g1, g2, g3, g4, g5, g6, g7, g8, g9, g10⟩ := hP
  obtain ⟨cN, cT, cC, cW, cB, cG, cP, S0, S1, S2, S3, S4, S5, b16, b24, b40, b8, b20, b4320⟩ := g1
  have z1 : ∀ i, C'.1 [i, c, 0] = C.1 [i, c, 0] := fun i => hC [] i
  have z2 : ∀ i j, C'.1 [i, j, c, 0] = C.1 [i, j, c, 0] := fun i j => hC [j] i
  have z3 : ∀ i j k, C'.1 [i, j, k, c, 0] = C.1 [i, j, k, c, 0] := fun i j k => hC [j, k] i
  have z4 : ∀ i j k l, C'.1 [i, j, k, l, c, 0] = C.1 [i, j, k, l, c, 0] := fun i j k l => hC [j, k, l] i
  refine ⟨⟨h0, by rw [hk 1 (by omega)]; exact cT, by rw [hk 2 (by omega)]; exact cC, by rw [z1]; exact cW, by rw [hk 9 (by omega)]; exact cB, by rw [hk 11 (by omega)]; exact cG, by rw [hk 13 (by omega)]; exact cP, by rw [hS 0 (by omega)]; exact S0, by rw [hS 1 (by omega)]; exact S1, by rw [hS 2 (by omega)]; exact S2, by rw [hS 3 (by omega)]; exact S3, by rw [hS 4 (by omega)]; exact S4, h5, b16, b24, b40, b8, b20, by omega⟩,
    rCe_congr (z1 3) (z1 4) (z1 5) (fun i _ => hS _ (by omega)) (fun i _ => ⟨by rw [hM 5 (by omega) (by omega)], by rw [hM 6 (by omega) (by omega)]⟩) g2,
    rWa_congr (z2 1 6) (z2 2 6) (z2 3 6) (z2 4 6) (z2 5 6) (fun i _ => hS _ (by omega)) (fun i _ => ⟨by rw [hM 7 (by omega) (by omega)], by rw [hM 8 (by omega) (by omega)], by rw [hM 9 (by omega) (by omega)], by rw [hM 10 (by omega) (by omega)]⟩) g3,
    rWd_congr (z2 6 6) (z2 7 6) (z2 9 6) (fun i _ => hS _ (by omega)) (fun i _ => hS _ (by omega)) (fun i _ => hS _ (by omega)) g4,
    rHe_congr (z1 7) (fun i _ => hS _ (by omega)) g5, rFo_congr (z1 8) (fun i _ => hS _ (by omega)) g6,
    rBo_congr b40 (fun b _ => ⟨z2 b 10, z3 18 b 10, z4 1 18 b 10, z4 2 18 b 10⟩) (fun i h1 h2 => hS i (by omega)) (fun b _ => ⟨by rw [hM 11 (by omega) (by omega)], by rw [hM 12 (by omega) (by omega)], by rw [hM 13 (by omega) (by omega)], by rw [hM 14 (by omega) (by omega)], by rw [hM 15 (by omega) (by omega)], by rw [hM 16 (by omega) (by omega)]⟩) g7,
    rGr_congr (z1 12) g8, rPo_congr (z1 14) (fun i _ => by rw [hM 17 (by omega) (by omega)]) g9, rDi_congr (congrFun (z1 6) 11) (z2 12 6) g10⟩
end Pass1
