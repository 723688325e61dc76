section PressT
variable {L : Nat} {xs : Nat → Int32} {C M : mM} {c nc nw nb np nt now td hm : Nat} {kd wa wb wd wl ws : Nat → Nat}
variable {bk wk : Nat → Nat} {tk : Nat → Option Nat} {vv : Nat → (Nat → Int32) → Bool} {pr pu : Nat → Nat} {he : Int32}
set_option maxRecDepth 8000 in
theorem shut_m2 (hnw : M.1 [1, 1] 1 = oN nw) (hnp : M.1 [1, 1] 4 = oN np) (h8 : np ≤ 8) (h40 : nb ≤ 40) (h20 : nt ≤ 20) (hwa : waI C M c nw now pr pu he ws) (hpo : poI C M c nb nw nt np bk wk tk) (htx : ∀ t, t < nt → txW L xs C M t (vv t)) :
    ∀ r w M1, w + r = nw → shK M M1 w (fun w => shB ws wk (tvP vv now pr pu he wk tk) w np) → ∃ M2, run L xs 207 34 (213, [some (vr 10 [1]), some (vi (oN w)), none, none, none], [], M1) = some (none, M2) ∧ shK M M2 nw (fun w => shB ws wk (tvP vv now pr pu he wk tk) w np) := by
  have hwa' := hwa
  obtain ⟨a0, a1, a2, a3, a4, a5, hwy⟩ := hwa'
  intro r
  induction r with
  | zero =>
    intro w M1 hw hK
    have : w = nw := by omega
    subst this
    refine ⟨M1, ?_, hK⟩
    have m1 : M1.1 [1, 1] 1 = oN w := by rw [hK.2.2.2.1 1 (by omega)]; exact hnw
    rw [h_207_213]
    simp (disch := omega) only [↓Bool.cond_eq_ite, ↓reduceIte, Bool.false_eq_true, eq_self, n_lit, n_neg, n_add, n_mul, n_sub, n_subM, n_div, n_mod, n_addM, m_div, m_subn, n_tN, n_inS, n_eq_t, n_eq_f, n_ne_t, n_ne_f, n_lt_t, n_lt_f, n_ge_t, n_ge_f, n_gt_t, n_gt_f, n_le_t, n_le_f, mn_eq, mn_ne, mn_lt, mn_ge, mn_gt, mn_le, nm_eq, nm_ne, nm_lt, nm_ge, nm_gt, nm_le, n_gts_t, c_eq_refl, c_ne_refl, w_fold, w_2, wC_fold, lt_M, cond_true, cond_false, Bool.and_true, Bool.true_and, Bool.and_false, Bool.false_and, Bool.not_true, Bool.not_false, isZS_0, isZS_1, m1]
  | succ r ih =>
    intro w M1 hw hK
    have m1 : M1.1 [1, 1] 1 = oN nw := by rw [hK.2.2.2.1 1 (by omega)]; exact hnw
    obtain ⟨w1, w2, w3, w4, w5, w6, w7, w8, w9⟩ := hwy w (by omega)
    have m30 : M1.1 [1, 1] (30 + w) = oN (ws w) := by rw [hK.2.2.2.1 _ (by omega)]; exact w9
    obtain ⟨M', k1, k2⟩ := shut_m1 (L := L) (xs := xs) hnp h8 h40 h20 a5 (show w < nw by omega) hwa hpo htx hK np 0 M1 (by omega) frH_refl
    have e1 : M'.1 [1, 1] = M1.1 [1, 1] := k2.1 _ (by simp) (by simp) (by simp)
    obtain ⟨M2, g1, g2⟩ := ih (w + 1) (wI M' [1, 1] (120 + w) (b2 (shB ws wk (tvP vv now pr pu he wk tk) w np))) (by omega) ⟨fun q h1 h2 h3 h4 => by rw [w_ne h1, k2.1 q h2 h3 h4]; exact hK.1 q h1 h2 h3 h4, fun k hk => by rw [w_ne (by simp), k2.2.1 k hk]; exact hK.2.1 k hk, k2.2.2.trans hK.2.2.1, fun i hi => by rw [w_ne_k (by omega), e1]; exact hK.2.2.2.1 i (by omega), fun j hj => by
      by_cases e : j = w
      · subst e; rw [w_at, if_pos ⟨rfl, rfl⟩]
      · rw [w_ne_k (by omega), e1]; exact hK.2.2.2.2 j (by omega)⟩
    refine ⟨M2, ?_, g2⟩
    rw [h_207_213, ← g1, ← k1]
    by_cases h3 : ws w = 3
    · simp (disch := omega) only [↓Bool.cond_eq_ite, ↓reduceIte, Bool.false_eq_true, eq_self, n_lit, n_neg, n_add, n_mul, n_sub, n_subM, n_div, n_mod, n_addM, m_div, m_subn, n_tN, n_inS, n_eq_t, n_eq_f, n_ne_t, n_ne_f, n_lt_t, n_lt_f, n_ge_t, n_ge_f, n_gt_t, n_gt_f, n_le_t, n_le_f, mn_eq, mn_ne, mn_lt, mn_ge, mn_gt, mn_le, nm_eq, nm_ne, nm_lt, nm_ge, nm_gt, nm_le, n_gts_t, c_eq_refl, c_ne_refl, w_fold, w_2, wC_fold, lt_M, cond_true, cond_false, Bool.and_true, Bool.true_and, Bool.and_false, Bool.false_and, Bool.not_true, Bool.not_false, isZS_0, isZS_1, m1, m30, shB, h3, beq_self_eq_true, b2]
    · simp (disch := omega) only [↓Bool.cond_eq_ite, ↓reduceIte, Bool.false_eq_true, eq_self, n_lit, n_neg, n_add, n_mul, n_sub, n_subM, n_div, n_mod, n_addM, m_div, m_subn, n_tN, n_inS, n_eq_t, n_eq_f, n_ne_t, n_ne_f, n_lt_t, n_lt_f, n_ge_t, n_ge_f, n_gt_t, n_gt_f, n_le_t, n_le_f, mn_eq, mn_ne, mn_lt, mn_ge, mn_gt, mn_le, nm_eq, nm_ne, nm_lt, nm_ge, nm_gt, nm_le, n_gts_t, c_eq_refl, c_ne_refl, w_fold, w_2, wC_fold, lt_M, cond_true, cond_false, Bool.and_true, Bool.true_and, Bool.and_false, Bool.false_and, Bool.not_true, Bool.not_false, isZS_0, isZS_1, m1, m30, shB, show (ws w == 3) = false from by simpa using h3, b2]
theorem b2_le (x : Bool) : ∃ k, k ≤ 1 ∧ b2 x = oN k := by
  cases x
  · exact ⟨0, by omega, rfl⟩
  · exact ⟨1, by omega, rfl⟩
theorem shut_ok (hc : c ≠ 4) (hhm : hm ≤ 1000) (hP : rPt [c, 0] (M.1 [1, 1]) C M nc nw nb np nt now td hm kd wa wb wd wl ws) (hTx : rTx L xs C M nt) : ∃ C' M', kV L xs 18 [vr 2 [c, 0], vr 5 [4, 0]] C = some C' ∧
    run L xs 207 34 (213, [some (vr 10 [1]), some (vi (oN 0)), none, none, none], [], M) = some (none, M') ∧ rPt [c, 0] (M'.1 [1, 1]) C' M' nc nw nb np nt now td hm kd wa wb wd wl ws ∧ frC [c, 0] C C' ∧ frP M M' := by
  obtain ⟨bk, wk, tk, hpo⟩ := po_of hP
  obtain ⟨pr, pu, hwa⟩ := wa_of hhm hP
  obtain ⟨vv, htx⟩ := txW_of hTx
  have hP' := hP
  obtain ⟨g1, g2, g3, g4, g5, g6, g7, g8, g9, g10⟩ := hP'
  have hsc := g1
  obtain ⟨cN, cT, cC, cW, cB, cG, cP, S0, S1, S2, S3, S4, S5, b16, b24, b40, b8, b20, b4320⟩ := hsc
  have hwy := hwa.2.2.2.2.2.2
  obtain ⟨H, k1, k2⟩ := shut_c1 (L := L) (xs := xs) (C := C) (c := c) (nw := nw) (ws := ws) cW b24 (fun w hw => by
    obtain ⟨-, -, -, -, -, -, w7, w8, -⟩ := hwy w hw
    exact ⟨w7, w8⟩) nw 0 (C.1 [9, 6, c, 0]) (by omega) (fun j hj => by omega)
  rw [stA_id] at k1
  obtain ⟨C', k3, k4, k5, k6⟩ := shut_c2 (L := L) (xs := xs) (vv := vv) hc cP b8 b40 b20 hwa hpo htx np 0 (stA C [9, 6, c, 0] H) (by omega) ⟨fun q h1 _ _ => stA_ne h1, rfl, fun w hw => by rw [stA_same, k2 w hw]; rfl⟩
  obtain ⟨M', m1, m2, m3, m4, m5, m6⟩ := shut_m2 (L := L) (xs := xs) (vv := vv) S1 S4 b8 b40 b20 hwa hpo htx nw 0 M (by omega) ⟨fun _ _ _ _ _ => rfl, fun _ _ => rfl, rfl, fun _ _ => rfl, fun j hj => by omega⟩
  refine ⟨C', M', kV_of ?_, m1, ?_, ⟨fun q h1 h2 => k4 q (h1 [9, 6]) (h1 [15]) h2, k5⟩, ⟨fun k h1 h2 h3 h4 h5 => m2 _ (by simp [h1]) (by simp) (by simp [h3]) (by simp [h4]), m3 4 (by omega), m3 26 (by omega), m4⟩⟩
  · rw [e_18]
    exact k1.trans k3
  · refine rPt_dyn hP (fun q h1 h2 h3 h4 h5 h6 h7 => k4 q h4 h6 h7) hc (fun i hi h1 h2 h3 => m5 i (by omega)) (fun k h1 h2 => m2 _ (by simp; omega) (by simp) (by simp; omega) (by simp; omega)) (fun w hw => ?_)
    obtain ⟨⟨p, p1, p2, p3⟩, ⟨q, q1, q2, q3⟩, -⟩ := g4 w hw
    obtain ⟨z, z1, z2⟩ := b2_le (shB ws wk (tvP vv now pr pu (M.1 [1, 1] (150 + now / 60 % 24)) wk tk) w np)
    refine ⟨⟨p, p1, by rw [k4 _ (by simp) (by simp) (by simp)]; exact p2, by rw [m5 _ (by omega)]; exact p3⟩, ⟨q, q1, by rw [k4 _ (by simp) (by simp) (by simp)]; exact q2, by rw [m5 _ (by omega)]; exact q3⟩, ⟨z, z1, ?_, ?_⟩⟩
    · rw [k6 w hw]; exact z2
    · rw [m6 w hw]; exact z2
theorem rTx_frP {C' M' : mM} (hc : c ≠ 4) (h1 : frC [c, 0] C C') (h2 : frP M M') (h : rTx L xs C M nt) : rTx L xs C' M' nt :=
  rTx_congr (h1.1 _ (fun t e => by
    have := congrArg (fun l => l.reverse.take 2) e
    simp at this; omega) (by simp)) (h1.1 _ (fun t e => by
    have := congrArg (fun l => l.reverse.take 2) e
    simp at this; omega) (by simp)) (h2.1 18 (by omega) (by omega) (by omega) (by omega) (by omega)) (h2.1 19 (by omega) (by omega) (by omega) (by omega) (by omega)) h
end PressT
