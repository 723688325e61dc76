section Ops18
variable {L : Nat} {xs : Nat → Int32} {C C' M M' : mM} {hm : Nat} {nc nw nb np nt now : Nat} {kd wa wb wd wl ws : Nat → Nat}
set_option maxRecDepth 8000 in
theorem found_rI {s u hd : Nat} (hs : s < nb) (hks : kd s = 1) (hu : u < nb) (hku : kd u = 0) (hhd : hd ≤ hm) (hC6 : C.1 [u, 10, 0, 0] 6 = oN hd) (hx : rIx L xs C M nc nw nb np nt now hm kd wa wb wd wl ws) :
    rIx L xs (wI (wI (wI C [s, 10, 0, 0] 2 (oM 1)) [s, 10, 0, 0] 6 (oN 0)) [u, 10, 0, 0] 6 (oN (hd + 1))) (wI (wI (wI M [1, 1] (200 + 16 * s) (oM 4)) [1, 1] (200 + 16 * s + 3) (oN 0)) [1, 1] (200 + 16 * u + 3) (oN (hd + 1))) nc nw nb np nt now (hm + 1) kd wa wb wd wl ws := by
  obtain ⟨hP, hIm, hHi, hTx, hSh, h26⟩ := hx
  have hsu : s ≠ u := fun e => by rw [e] at hks; omega
  obtain ⟨Cn, hCn⟩ : ∃ Cn, Cn = wI (wI (wI C [s, 10, 0, 0] 2 (oM 1)) [s, 10, 0, 0] 6 (oN 0)) [u, 10, 0, 0] 6 (oN (hd + 1)) := ⟨_, rfl⟩
  obtain ⟨Mn, hMn⟩ : ∃ Mn, Mn = wI (wI (wI M [1, 1] (200 + 16 * s) (oM 4)) [1, 1] (200 + 16 * s + 3) (oN 0)) [1, 1] (200 + 16 * u + 3) (oN (hd + 1)) := ⟨_, rfl⟩
  rw [← hCn, ← hMn]
  have fC : ∀ q, q ≠ [s, 10, 0, 0] → q ≠ [u, 10, 0, 0] → Cn.1 q = C.1 q := fun q h1 h2 => by rw [hCn, w_ne h2, w_ne h1, w_ne h1]
  have fs : ∀ j, j ≠ 2 → j ≠ 6 → Cn.1 [s, 10, 0, 0] j = C.1 [s, 10, 0, 0] j := fun j h1 h2 => by rw [hCn, w_ne (by simp [hsu]), w_ne_k h2, w_ne_k h1]
  have fs2 : Cn.1 [s, 10, 0, 0] 2 = oM 1 := by rw [hCn, w_ne (by simp [hsu]), w_ne_k (by omega), w_at, if_pos ⟨rfl, rfl⟩]
  have fs6 : Cn.1 [s, 10, 0, 0] 6 = oN 0 := by rw [hCn, w_ne (by simp [hsu]), w_at, if_pos ⟨rfl, rfl⟩]
  have fu : ∀ j, j ≠ 6 → Cn.1 [u, 10, 0, 0] j = C.1 [u, 10, 0, 0] j := fun j h => by rw [hCn, w_ne_k h, w_ne (by simp; omega), w_ne (by simp; omega)]
  have fu6 : Cn.1 [u, 10, 0, 0] 6 = oN (hd + 1) := by rw [hCn, w_at, if_pos ⟨rfl, rfl⟩]
  have fM : ∀ q, q ≠ [1, 1] → Mn.1 q = M.1 q := fun q h => by rw [hMn, w_ne h, w_ne h, w_ne h]
  have fS : ∀ i, i ≠ 200 + 16 * s → i ≠ 200 + 16 * s + 3 → i ≠ 200 + 16 * u + 3 → Mn.1 [1, 1] i = M.1 [1, 1] i := fun i h1 h2 h3 => by rw [hMn, w_ne_k h3, w_ne_k h2, w_ne_k h1]
  have fS0 : Mn.1 [1, 1] (200 + 16 * s) = oM 4 := by rw [hMn, w_ne_k (by omega), w_ne_k (by omega), w_at, if_pos ⟨rfl, rfl⟩]
  have fS3 : Mn.1 [1, 1] (200 + 16 * s + 3) = oN 0 := by rw [hMn, w_ne_k (by omega), w_at, if_pos ⟨rfl, rfl⟩]
  have fU3 : Mn.1 [1, 1] (200 + 16 * u + 3) = oN (hd + 1) := by rw [hMn, w_at, if_pos ⟨rfl, rfl⟩]
  have hM2 : Mn.2 = M.2 := by rw [hMn]; rfl
  have hg : mAg M Mn nc nw nb np := mAg_of (fun k h1 h2 => fM _ (by simp; omega))
  have fT : ∀ t a b, (a ≠ 0 ∨ b ≠ 0) → Cn.1 (t ++ [a, b]) = C.1 (t ++ [a, b]) := fun t a b h => by
    refine fC _ (fun e => ?_) (fun e => ?_) <;>
    · have := congrArg (fun l => l.reverse.take 2) e
      simp at this; omega
  have hsm : ∀ a b d, Cn.1 [a, b, 10, 0, 0] = C.1 [a, b, 10, 0, 0] ∧ Cn.1 [d, a, b, 10, 0, 0] = C.1 [d, a, b, 10, 0, 0] := fun a b d => ⟨fC _ (by simp) (by simp), fC _ (by simp) (by simp)⟩
  obtain ⟨g1, g2, g3, g4, g5, g6, g7, g8, g9, g10⟩ := hP
  have b40 : nb ≤ 40 := g1.2.2.2.2.2.2.2.2.2.2.2.2.2.2.2.1
  have b24 : nw ≤ 24 := g1.2.2.2.2.2.2.2.2.2.2.2.2.2.2.1
  have b16 : nc ≤ 16 := g1.2.2.2.2.2.2.2.2.2.2.2.2.2.1
  refine ⟨⟨rSc_congr (fC _ (by simp) (by simp)) (congrFun (fC _ (by simp) (by simp)) 0) (fun i hi => fS i (by omega) (by omega) (by omega)) g1,
    rCe_congr (fC _ (by simp) (by simp)) (fC _ (by simp) (by simp)) (fC _ (by simp) (by simp)) (fun i _ => fS _ (by omega) (by omega) (by omega)) hg.1 g2,
    rWa_congr (fC _ (by simp) (by simp)) (fC _ (by simp) (by simp)) (fC _ (by simp) (by simp)) (fC _ (by simp) (by simp)) (fC _ (by simp) (by simp)) (fun i _ => fS _ (by omega) (by omega) (by omega)) hg.2.1 g3,
    rWd_mono (Nat.le_succ hm) (rWd_congr (fC _ (by simp) (by simp)) (fC _ (by simp) (by simp)) (fC _ (by simp) (by simp)) (fun i _ => fS _ (by omega) (by omega) (by omega)) (fun i _ => fS _ (by omega) (by omega) (by omega)) (fun i _ => fS _ (by omega) (by omega) (by omega)) g4),
    rHe_congr (fC _ (by simp) (by simp)) (fun i _ => fS _ (by omega) (by omega) (by omega)) g5, rFo_congr (fC _ (by simp) (by simp)) (fun i _ => fS _ (by omega) (by omega) (by omega)) g6, ?_,
    rGr_congr (fC _ (by simp) (by simp)) g8, rPo_congr (fC _ (by simp) (by simp)) (fun i _ => by rw [fM _ (by simp)]) g9, rDi_congr (congrFun (fC _ (by simp) (by simp)) 11) (fC _ (by simp) (by simp)) g10⟩, ?_, ?_, ?_, ?_, ?_⟩
  · intro b hb
    by_cases ebs : b = s
    · subst ebs
      obtain ⟨r1, r2, r3, r4, r5⟩ := g7 b hb
      refine ⟨?_, ?_, ?_, ?_, ?_⟩
      · unfold rBi at r1 ⊢
        rw [fs 0 (by omega) (by omega), fs 1 (by omega) (by omega), fs 7 (by omega) (by omega), fs 8 (by omega) (by omega), fs 16 (by omega) (by omega), fs 17 (by omega) (by omega), fM _ (by simp), fM _ (by simp), fM _ (by simp), fM _ (by simp), fM _ (by simp)]
        exact r1
      · obtain ⟨p5, hp⟩ := r2
        refine ⟨by rw [fs 5 (by omega) (by omega), fS _ (by omega) (by omega) (by omega)]; exact p5, .inr (.inr (.inr ?_))⟩
        rcases hp with ⟨e, -⟩ | ⟨e, -⟩ | ⟨e, -⟩ | ⟨k0, k4, -, p3, p1⟩
        · omega
        · omega
        · omega
        · exact ⟨k0, k4, .inl ⟨fs2, fS0⟩, by rw [fs 3 (by omega) (by omega)]; exact p3, by rw [fS _ (by omega) (by omega) (by omega)]; exact p1⟩
      · obtain ⟨-, v9, v10, v11, v13, v14, v15⟩ := r3
        exact ⟨⟨0, by omega, fs6, fS3⟩, by rw [fs 9 (by omega) (by omega), fS _ (by omega) (by omega) (by omega)]; exact v9, by rw [fs 10 (by omega) (by omega), fS _ (by omega) (by omega) (by omega)]; exact v10, by rw [fs 11 (by omega) (by omega), fS _ (by omega) (by omega) (by omega)]; exact v11, by rw [fs 13 (by omega) (by omega), fS _ (by omega) (by omega) (by omega)]; exact v13, by rw [fs 14 (by omega) (by omega), fS _ (by omega) (by omega) (by omega)]; exact v14, by rw [fs 15 (by omega) (by omega), fS _ (by omega) (by omega) (by omega)]; exact v15⟩
      · intro h0; omega
      · obtain ⟨n, n8, a1, a2, a3⟩ := r5
        refine ⟨n, n8, by rw [(hsm 18 b 0).1]; exact a1, by rw [fS _ (by omega) (by omega) (by omega)]; exact a2, fun i hi => ?_⟩
        rw [(hsm 18 b 1).2, (hsm 18 b 2).2, fS _ (by omega) (by omega) (by omega), fS _ (by omega) (by omega) (by omega)]
        exact a3 i hi
    · by_cases ebu : b = u
      · subst ebu
        obtain ⟨r1, r2, r3, r4, r5⟩ := g7 b hb
        refine ⟨?_, ?_, ?_, ?_, ?_⟩
        · unfold rBi at r1 ⊢
          rw [fu 0 (by omega), fu 1 (by omega), fu 7 (by omega), fu 8 (by omega), fu 16 (by omega), fu 17 (by omega), fM _ (by simp), fM _ (by simp), fM _ (by simp), fM _ (by simp), fM _ (by simp)]
          exact r1
        · unfold rBp at r2 ⊢
          rw [fu 5 (by omega), fu 2 (by omega), fu 3 (by omega), fu 4 (by omega), fM [15, 1] (by simp), fS _ (by omega) (by omega) (by omega), fS _ (by omega) (by omega) (by omega), fS _ (by omega) (by omega) (by omega), fS _ (by omega) (by omega) (by omega)]
          exact r2
        · obtain ⟨-, v9, v10, v11, v13, v14, v15⟩ := r3
          exact ⟨⟨hd + 1, by omega, fu6, fU3⟩, by rw [fu 9 (by omega), fS _ (by omega) (by omega) (by omega)]; exact v9, by rw [fu 10 (by omega), fS _ (by omega) (by omega) (by omega)]; exact v10, by rw [fu 11 (by omega), fS _ (by omega) (by omega) (by omega)]; exact v11, by rw [fu 13 (by omega), fS _ (by omega) (by omega) (by omega)]; exact v13, by rw [fu 14 (by omega), fS _ (by omega) (by omega) (by omega)]; exact v14, by rw [fu 15 (by omega), fS _ (by omega) (by omega) (by omega)]; exact v15⟩
        · unfold rBt at r4 ⊢
          rw [fu 12 (by omega), fS _ (by omega) (by omega) (by omega), fS _ (by omega) (by omega) (by omega)]
          exact r4
        · obtain ⟨n, n8, a1, a2, a3⟩ := r5
          refine ⟨n, n8, by rw [(hsm 18 b 0).1]; exact a1, by rw [fS _ (by omega) (by omega) (by omega)]; exact a2, fun i hi => ?_⟩
          rw [(hsm 18 b 1).2, (hsm 18 b 2).2, fS _ (by omega) (by omega) (by omega), fS _ (by omega) (by omega) (by omega)]
          exact a3 i hi
      · refine rB_mono (Nat.le_refl _) (Nat.le_refl _) (Nat.le_succ hm) (rB_congr (C := C) (S := M.1 [1, 1]) (M := M) (by omega) ⟨⟨fC _ (by simp [ebs]) (by simp [ebu]), (hsm 18 b 0).1, (hsm 18 b 1).2, (hsm 18 b 2).2⟩, fun i hi => fS _ (by omega) (by omega) (by omega), fun i hi => fS _ (by omega) (by omega) (by omega), by rw [fM _ (by simp)], by rw [fM _ (by simp)], by rw [fM _ (by simp)], by rw [fM _ (by simp)], by rw [fM _ (by simp)], by rw [fM _ (by simp)]⟩ (g7 b hb))
  · exact rIm_hm (nt' := nt) (Nat.le_succ hm) (rIm_congr (fun t => fT t 1 0 (by omega)) (by rw [fC [0] (by simp) (by simp)]) (by rw [fM _ (by simp)]) (fun i _ => by rw [fM _ (by simp)]) hg (Nat.le_refl _) (Nat.le_refl _) (Nat.le_refl _) (Nat.le_refl _) (Nat.le_refl _) (Nat.le_refl _) hIm)
  · exact rHi_congr (fT [0] 5 0 (by omega)) (by rw [hCn]; rfl) (fM _ (by simp)) (fM _ (by simp)) (fM _ (by simp)) (fM _ (by simp)) (fM _ (by simp)) (fM _ (by simp)) (fun b _ => by rw [fM _ (by simp)]) hHi
  · exact rTx_congr (fT [0] 4 0 (by omega)) (fT [1] 4 0 (by omega)) (fM _ (by simp)) (fM _ (by simp)) hTx
  · exact rSh_congr (fun t => fT t 6 0 (by omega)) (fM _ (by simp)) (fM _ (by simp)) (fM _ (by simp)) (fM _ (by simp)) (fM _ (by simp)) (by rw [hM2]) hSh
  · rw [fM _ (by simp)]; exact h26
set_option maxRecDepth 8000 in
set_option maxHeartbeats 4000000 in
theorem op_found {a1 a2 : Int32} (h : rI L xs C M hm) : opR L xs 99 172 [vi a1, vi a2] C M (hm + 1) := by
  have e := e_99 L xs [0] a1 a2 C
  have f := e_172 L xs [1] a1 a2 M
  have h1 : rI L xs C (wI M [1] 0 (0 : Int32)) hm := rI_ag (agC_refl _) (agM_w0 (by decide) (by decide)) h
  simp only [lt_M, w_fold] at f
  generalize wI M [1] 0 (0 : Int32) = M1 at f h1
  have h0 := h1
  obtain ⟨nc, nw, nb, np, nt, now, kd, wa, wb, wd, wl, ws, hP, hIm, hHi, hTx, hSh, hMi⟩ := h1
  have hP' := hP
  obtain ⟨g1, g2, g3, g4, g5, g6, g7, g8, g9, g10⟩ := hP'
  have hsc := g1
  obtain ⟨cN, cT, cC, cW, cB, cG, cP, S0, S1, S2, S3, S4, S5, b16, b24, b40, b8, b20, b4320⟩ := hsc
  have hle := cntG_le kd nb
  rcases I_cases a1 with ⟨s, s1, rfl⟩ | ⟨s, s0, s1, rfl⟩
  case inr =>
    simp (disch := omega) only [↓Bool.cond_eq_ite, ↓reduceIte, Bool.false_eq_true, eq_self, n_lit, n_neg, n_add, n_mul, n_sub, n_subM, n_div, n_mod, n_addM, m_div, m_subn, n_tN, n_inS, n_eq_t, n_eq_f, n_ne_t, n_ne_f, n_lt_t, n_lt_f, n_ge_t, n_ge_f, n_gt_t, n_gt_f, n_le_t, n_le_f, mn_eq, mn_ne, mn_lt, mn_ge, mn_gt, mn_le, nm_eq, nm_ne, nm_lt, nm_ge, nm_gt, nm_le, n_gts_t, c_eq_refl, c_ne_refl, w_fold, w_2, wC_fold, lt_M, cond_true, cond_false, Bool.and_true, Bool.true_and, Bool.and_false, Bool.false_and, Bool.not_true, Bool.not_false, isZS_0, isZS_1, ↓reduceIte, w_at, w_2, wC_at, wC_2, List.cons.injEq, reduceCtorEq, and_false, false_and, and_true, true_and, if_true, if_false, eq_self, and_self, if_pos, if_neg, Nat.add_zero, cN, cT, cC, cW, cB, cG, cP, S0, S1, S2, S3, S4, S5] at e f
    exact ⟨_, _, _, kI_of e, kI_of f, rI_hm (Nat.le_succ hm) h0⟩
  by_cases q1 : s < nb
  case neg =>
    simp (disch := omega) only [↓Bool.cond_eq_ite, ↓reduceIte, Bool.false_eq_true, eq_self, n_lit, n_neg, n_add, n_mul, n_sub, n_subM, n_div, n_mod, n_addM, m_div, m_subn, n_tN, n_inS, n_eq_t, n_eq_f, n_ne_t, n_ne_f, n_lt_t, n_lt_f, n_ge_t, n_ge_f, n_gt_t, n_gt_f, n_le_t, n_le_f, mn_eq, mn_ne, mn_lt, mn_ge, mn_gt, mn_le, nm_eq, nm_ne, nm_lt, nm_ge, nm_gt, nm_le, n_gts_t, c_eq_refl, c_ne_refl, w_fold, w_2, wC_fold, lt_M, cond_true, cond_false, Bool.and_true, Bool.true_and, Bool.and_false, Bool.false_and, Bool.not_true, Bool.not_false, isZS_0, isZS_1, ↓reduceIte, w_at, w_2, wC_at, wC_2, List.cons.injEq, reduceCtorEq, and_false, false_and, and_true, true_and, if_true, if_false, eq_self, and_self, if_pos, if_neg, Nat.add_zero, cN, cT, cC, cW, cB, cG, cP, S0, S1, S2, S3, S4, S5] at e f
    exact ⟨_, _, _, kI_of e, kI_of f, rI_hm (Nat.le_succ hm) h0⟩
  obtain ⟨j1, j2, j3⟩ : C.1 [s, 10, 0, 0] 1 = oN (kd s) ∧ M1.1 [11, 1] s = oN (kd s) ∧ kd s ≤ 5 := by
    obtain ⟨⟨a, -, b, c, -⟩, -⟩ := g7 s (by omega)
    exact ⟨b, c, a⟩
  by_cases jk : kd s = 1
  case neg =>
    simp (disch := omega) only [↓Bool.cond_eq_ite, ↓reduceIte, Bool.false_eq_true, eq_self, n_lit, n_neg, n_add, n_mul, n_sub, n_subM, n_div, n_mod, n_addM, m_div, m_subn, n_tN, n_inS, n_eq_t, n_eq_f, n_ne_t, n_ne_f, n_lt_t, n_lt_f, n_ge_t, n_ge_f, n_gt_t, n_gt_f, n_le_t, n_le_f, mn_eq, mn_ne, mn_lt, mn_ge, mn_gt, mn_le, nm_eq, nm_ne, nm_lt, nm_ge, nm_gt, nm_le, n_gts_t, c_eq_refl, c_ne_refl, w_fold, w_2, wC_fold, lt_M, cond_true, cond_false, Bool.and_true, Bool.true_and, Bool.and_false, Bool.false_and, Bool.not_true, Bool.not_false, isZS_0, isZS_1, ↓reduceIte, w_at, w_2, wC_at, wC_2, List.cons.injEq, reduceCtorEq, and_false, false_and, and_true, true_and, if_true, if_false, eq_self, and_self, if_pos, if_neg, Nat.add_zero, cN, cT, cC, cW, cB, cG, cP, S0, S1, S2, S3, S4, S5, j1, j2] at e f
    exact ⟨_, _, _, kI_of e, kI_of f, rI_hm (Nat.le_succ hm) h0⟩
  rw [jk] at j1 j2
  rcases I_cases a2 with ⟨u, u1, rfl⟩ | ⟨u, u0, u1, rfl⟩
  case inr =>
    simp (disch := omega) only [↓Bool.cond_eq_ite, ↓reduceIte, Bool.false_eq_true, eq_self, n_lit, n_neg, n_add, n_mul, n_sub, n_subM, n_div, n_mod, n_addM, m_div, m_subn, n_tN, n_inS, n_eq_t, n_eq_f, n_ne_t, n_ne_f, n_lt_t, n_lt_f, n_ge_t, n_ge_f, n_gt_t, n_gt_f, n_le_t, n_le_f, mn_eq, mn_ne, mn_lt, mn_ge, mn_gt, mn_le, nm_eq, nm_ne, nm_lt, nm_ge, nm_gt, nm_le, n_gts_t, c_eq_refl, c_ne_refl, w_fold, w_2, wC_fold, lt_M, cond_true, cond_false, Bool.and_true, Bool.true_and, Bool.and_false, Bool.false_and, Bool.not_true, Bool.not_false, isZS_0, isZS_1, ↓reduceIte, w_at, w_2, wC_at, wC_2, List.cons.injEq, reduceCtorEq, and_false, false_and, and_true, true_and, if_true, if_false, eq_self, and_self, if_pos, if_neg, Nat.add_zero, cN, cT, cC, cW, cB, cG, cP, S0, S1, S2, S3, S4, S5, j1, j2] at e f
    exact ⟨_, _, _, kI_of e, kI_of f, rI_hm (Nat.le_succ hm) h0⟩
  by_cases q2 : u < nb
  case neg =>
    simp (disch := omega) only [↓Bool.cond_eq_ite, ↓reduceIte, Bool.false_eq_true, eq_self, n_lit, n_neg, n_add, n_mul, n_sub, n_subM, n_div, n_mod, n_addM, m_div, m_subn, n_tN, n_inS, n_eq_t, n_eq_f, n_ne_t, n_ne_f, n_lt_t, n_lt_f, n_ge_t, n_ge_f, n_gt_t, n_gt_f, n_le_t, n_le_f, mn_eq, mn_ne, mn_lt, mn_ge, mn_gt, mn_le, nm_eq, nm_ne, nm_lt, nm_ge, nm_gt, nm_le, n_gts_t, c_eq_refl, c_ne_refl, w_fold, w_2, wC_fold, lt_M, cond_true, cond_false, Bool.and_true, Bool.true_and, Bool.and_false, Bool.false_and, Bool.not_true, Bool.not_false, isZS_0, isZS_1, ↓reduceIte, w_at, w_2, wC_at, wC_2, List.cons.injEq, reduceCtorEq, and_false, false_and, and_true, true_and, if_true, if_false, eq_self, and_self, if_pos, if_neg, Nat.add_zero, cN, cT, cC, cW, cB, cG, cP, S0, S1, S2, S3, S4, S5, j1, j2] at e f
    exact ⟨_, _, _, kI_of e, kI_of f, rI_hm (Nat.le_succ hm) h0⟩
  obtain ⟨k1, k2, k3⟩ : C.1 [u, 10, 0, 0] 1 = oN (kd u) ∧ M1.1 [11, 1] u = oN (kd u) ∧ kd u ≤ 5 := by
    obtain ⟨⟨a, -, b, c, -⟩, -⟩ := g7 u (by omega)
    exact ⟨b, c, a⟩
  by_cases kk : kd u = 0
  case neg =>
    simp (disch := omega) only [↓Bool.cond_eq_ite, ↓reduceIte, Bool.false_eq_true, eq_self, n_lit, n_neg, n_add, n_mul, n_sub, n_subM, n_div, n_mod, n_addM, m_div, m_subn, n_tN, n_inS, n_eq_t, n_eq_f, n_ne_t, n_ne_f, n_lt_t, n_lt_f, n_ge_t, n_ge_f, n_gt_t, n_gt_f, n_le_t, n_le_f, mn_eq, mn_ne, mn_lt, mn_ge, mn_gt, mn_le, nm_eq, nm_ne, nm_lt, nm_ge, nm_gt, nm_le, n_gts_t, c_eq_refl, c_ne_refl, w_fold, w_2, wC_fold, lt_M, cond_true, cond_false, Bool.and_true, Bool.true_and, Bool.and_false, Bool.false_and, Bool.not_true, Bool.not_false, isZS_0, isZS_1, ↓reduceIte, w_at, w_2, wC_at, wC_2, List.cons.injEq, reduceCtorEq, and_false, false_and, and_true, true_and, if_true, if_false, eq_self, and_self, if_pos, if_neg, Nat.add_zero, cN, cT, cC, cW, cB, cG, cP, S0, S1, S2, S3, S4, S5, k1, k2, j1, j2] at e f
    exact ⟨_, _, _, kI_of e, kI_of f, rI_hm (Nat.le_succ hm) h0⟩
  rw [kk] at k1 k2
  rcases opt_say (by omega) (rBp_opt b16 (g7 s (by omega)).2.1) with ⟨-, y2, y1⟩ | ⟨-, -, y2, c0, hc0, y1⟩
  · simp (disch := omega) only [↓Bool.cond_eq_ite, ↓reduceIte, Bool.false_eq_true, eq_self, n_lit, n_neg, n_add, n_mul, n_sub, n_subM, n_div, n_mod, n_addM, m_div, m_subn, n_tN, n_inS, n_eq_t, n_eq_f, n_ne_t, n_ne_f, n_lt_t, n_lt_f, n_ge_t, n_ge_f, n_gt_t, n_gt_f, n_le_t, n_le_f, mn_eq, mn_ne, mn_lt, mn_ge, mn_gt, mn_le, nm_eq, nm_ne, nm_lt, nm_ge, nm_gt, nm_le, n_gts_t, c_eq_refl, c_ne_refl, w_fold, w_2, wC_fold, lt_M, cond_true, cond_false, Bool.and_true, Bool.true_and, Bool.and_false, Bool.false_and, Bool.not_true, Bool.not_false, isZS_0, isZS_1, ↓reduceIte, w_at, w_2, wC_at, wC_2, List.cons.injEq, reduceCtorEq, and_false, false_and, and_true, true_and, if_true, if_false, eq_self, and_self, if_pos, if_neg, Nat.add_zero, cN, cT, cC, cW, cB, cG, cP, S0, S1, S2, S3, S4, S5, j1, j2, k1, k2, y1, y2] at e f
    exact ⟨_, _, _, kI_of e, kI_of f, rI_hm (Nat.le_succ hm) h0⟩
  rw [y1] at y2
  obtain ⟨x, z1, z2⟩ := can_ok (L := L) (xs := xs) (s := s) (g := u) hP hHi (by omega) hc0 y1 y2 (by omega) kk
  cases x with
  | false =>
    simp (disch := omega) only [↓Bool.cond_eq_ite, ↓reduceIte, Bool.false_eq_true, eq_self, n_lit, n_neg, n_add, n_mul, n_sub, n_subM, n_div, n_mod, n_addM, m_div, m_subn, n_tN, n_inS, n_eq_t, n_eq_f, n_ne_t, n_ne_f, n_lt_t, n_lt_f, n_ge_t, n_ge_f, n_gt_t, n_gt_f, n_le_t, n_le_f, mn_eq, mn_ne, mn_lt, mn_ge, mn_gt, mn_le, nm_eq, nm_ne, nm_lt, nm_ge, nm_gt, nm_le, n_gts_t, c_eq_refl, c_ne_refl, w_fold, w_2, wC_fold, lt_M, cond_true, cond_false, Bool.and_true, Bool.true_and, Bool.and_false, Bool.false_and, Bool.not_true, Bool.not_false, isZS_0, isZS_1, ↓reduceIte, w_at, w_2, wC_at, wC_2, List.cons.injEq, reduceCtorEq, and_false, false_and, and_true, true_and, if_true, if_false, eq_self, and_self, if_pos, if_neg, Nat.add_zero, cN, cT, cC, cW, cB, cG, cP, S0, S1, S2, S3, S4, S5, j1, j2, k1, k2, y1, y2, z1, z2, b2, Option.bind_some] at e f
    exact ⟨_, _, _, kI_of e, kI_of f, rI_hm (Nat.le_succ hm) h0⟩

  | true =>
  obtain ⟨⟨hd, hd1, hd2, hd3⟩, -⟩ := (g7 u (by omega)).2.2.1
  obtain ⟨-, -, -, -, -, -, i16, i14, -⟩ := (g7 s (by omega)).1
  have hsu : s ≠ u := fun e9 => by rw [e9] at jk; omega
  have hus : u ≠ s := fun e9 => hsu e9.symm
  have hgood := found_rI (L := L) (xs := xs) (s := s) (u := u) (hd := hd) (by omega) jk (by omega) kk hd1 hd2 (⟨hP, hIm, hHi, hTx, hSh, hMi⟩ : rIx L xs C M1 nc nw nb np nt now hm kd wa wb wd wl ws)
  rcases i14 with q | ⟨g, g0, q⟩
  · rw [q] at i16
    simp (disch := omega) only [↓Bool.cond_eq_ite, ↓reduceIte, Bool.false_eq_true, eq_self, n_lit, n_neg, n_add, n_mul, n_sub, n_subM, n_div, n_mod, n_addM, m_div, m_subn, n_tN, n_inS, n_eq_t, n_eq_f, n_ne_t, n_ne_f, n_lt_t, n_lt_f, n_ge_t, n_ge_f, n_gt_t, n_gt_f, n_le_t, n_le_f, mn_eq, mn_ne, mn_lt, mn_ge, mn_gt, mn_le, nm_eq, nm_ne, nm_lt, nm_ge, nm_gt, nm_le, n_gts_t, c_eq_refl, c_ne_refl, w_fold, w_2, wC_fold, lt_M, cond_true, cond_false, Bool.and_true, Bool.true_and, Bool.and_false, Bool.false_and, Bool.not_true, Bool.not_false, isZS_0, isZS_1, ↓reduceIte, w_at, w_2, wC_at, wC_2, List.cons.injEq, reduceCtorEq, and_false, false_and, and_true, true_and, if_true, if_false, eq_self, and_self, if_pos, if_neg, Nat.add_zero, cN, cT, cC, cW, cB, cG, cP, S0, S1, S2, S3, S4, S5, j1, j2, k1, k2, y1, y2, i16, q, hsu, hus, c_eq_refl, z1, z2, b2, hd2, hd3, Option.bind_some] at e f
    exact ⟨_, _, _, kI_of e, kI_of f, rIx_I hgood⟩

  · rw [q] at i16
    by_cases hgu : g = u
    · subst hgu
      simp (disch := omega) only [↓Bool.cond_eq_ite, ↓reduceIte, Bool.false_eq_true, eq_self, n_lit, n_neg, n_add, n_mul, n_sub, n_subM, n_div, n_mod, n_addM, m_div, m_subn, n_tN, n_inS, n_eq_t, n_eq_f, n_ne_t, n_ne_f, n_lt_t, n_lt_f, n_ge_t, n_ge_f, n_gt_t, n_gt_f, n_le_t, n_le_f, mn_eq, mn_ne, mn_lt, mn_ge, mn_gt, mn_le, nm_eq, nm_ne, nm_lt, nm_ge, nm_gt, nm_le, n_gts_t, c_eq_refl, c_ne_refl, w_fold, w_2, wC_fold, lt_M, cond_true, cond_false, Bool.and_true, Bool.true_and, Bool.and_false, Bool.false_and, Bool.not_true, Bool.not_false, isZS_0, isZS_1, ↓reduceIte, w_at, w_2, wC_at, wC_2, List.cons.injEq, reduceCtorEq, and_false, false_and, and_true, true_and, if_true, if_false, eq_self, and_self, if_pos, if_neg, Nat.add_zero, cN, cT, cC, cW, cB, cG, cP, S0, S1, S2, S3, S4, S5, j1, j2, k1, k2, y1, y2, i16, q, hsu, hus, c_eq_refl, z1, z2, b2, hd2, hd3, Option.bind_some] at e f
      exact ⟨_, _, _, kI_of e, kI_of f, rIx_I hgood⟩

    · simp (disch := omega) only [↓Bool.cond_eq_ite, ↓reduceIte, Bool.false_eq_true, eq_self, n_lit, n_neg, n_add, n_mul, n_sub, n_subM, n_div, n_mod, n_addM, m_div, m_subn, n_tN, n_inS, n_eq_t, n_eq_f, n_ne_t, n_ne_f, n_lt_t, n_lt_f, n_ge_t, n_ge_f, n_gt_t, n_gt_f, n_le_t, n_le_f, mn_eq, mn_ne, mn_lt, mn_ge, mn_gt, mn_le, nm_eq, nm_ne, nm_lt, nm_ge, nm_gt, nm_le, n_gts_t, c_eq_refl, c_ne_refl, w_fold, w_2, wC_fold, lt_M, cond_true, cond_false, Bool.and_true, Bool.true_and, Bool.and_false, Bool.false_and, Bool.not_true, Bool.not_false, isZS_0, isZS_1, ↓reduceIte, w_at, w_2, wC_at, wC_2, List.cons.injEq, reduceCtorEq, and_false, false_and, and_true, true_and, if_true, if_false, eq_self, and_self, if_pos, if_neg, Nat.add_zero, cN, cT, cC, cW, cB, cG, cP, S0, S1, S2, S3, S4, S5, j1, j2, k1, k2, y1, y2, i16, q, z1, z2, b2, Option.bind_some] at e f
      exact ⟨_, _, _, kI_of e, kI_of f, rI_hm (Nat.le_succ hm) h0⟩


end Ops18
