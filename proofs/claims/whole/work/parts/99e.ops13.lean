section Ops13
variable {L : Nat} {xs : Nat → Int32} {C C' M M' : mM} {hm : Nat} {nc nw nb np nt now : Nat} {kd wa wb wd wl ws : Nat → Nat}
theorem rIx_h (hC : ∀ q, q ≠ [15, 0, 0] → q ≠ [8, 4, 0] → C'.1 q = C.1 q) (hM : frH M M') (hx : rIx L xs C M nc nw nb np nt now hm kd wa wb wd wl ws) (hCL : C'.2.1 [1, 5, 0] = C.2.1 [1, 5, 0] := by first | rfl | assumption) : rIx L xs C' M' nc nw nb np nt now hm kd wa wb wd wl ws := by
  obtain ⟨hP, hIm, hHi, hTx, hSh, h26⟩ := hx
  have hk : ∀ k, k ≠ 37 → k ≠ 39 → M'.1 [k, 1] = M.1 [k, 1] := fun k h1 h2 => hM.1 _ (by simp) (by simp [h1]) (by simp [h2])
  have f0 : ∀ t a b, (a ≠ 0 ∨ b ≠ 0) → (a ≠ 4 ∨ b ≠ 0) → C'.1 (t ++ [a, b]) = C.1 (t ++ [a, b]) := fun t a b h1 h2 => hC _ (fun e => by
    have := congrArg (fun l => l.reverse.take 2) e
    simp at this; omega) (fun e => by
    have := congrArg (fun l => l.reverse.take 2) e
    simp at this; omega)
  have hg : mAg M M' nc nw nb np := mAg_of (fun k h1 h2 => hk k (by omega) (by omega))
  have h1 : M'.1 [1, 1] = M.1 [1, 1] := hk 1 (by omega) (by omega)
  refine ⟨?_, ?_, ?_, ?_, ?_, ?_⟩
  · exact rPt_dyn (c := 0) hP (fun q _ _ _ _ _ h6 h7 => hC q h6 h7) (by omega) (fun i _ _ _ _ => by rw [h1]) (fun k h1 h2 => hk k (by omega) (by omega)) (rWd_congr (hC _ (by simp) (by simp)) (hC _ (by simp) (by simp)) (hC _ (by simp) (by simp)) (fun i _ => by rw [h1]) (fun i _ => by rw [h1]) (fun i _ => by rw [h1]) hP.2.2.2.1)
  · exact rIm_congr (fun t => f0 t 1 0 (by omega) (by omega)) (by rw [hC [0] (by simp) (by simp)]) (hM.2.1 4 (by omega)) (fun i _ => by rw [hk 2 (by omega) (by omega)]) hg (Nat.le_refl _) (Nat.le_refl _) (Nat.le_refl _) (Nat.le_refl _) (Nat.le_refl _) (Nat.le_refl _) hIm
  · exact rHi_congr (f0 [0] 5 0 (by omega) (by omega)) hCL (hk 20 (by omega) (by omega)) (hk 21 (by omega) (by omega)) (hk 22 (by omega) (by omega)) (hk 23 (by omega) (by omega)) (hk 24 (by omega) (by omega)) (hk 25 (by omega) (by omega)) (fun b _ => by rw [hk 16 (by omega) (by omega)]) hHi
  · exact rTx_congr (hC _ (by simp) (by simp)) (hC _ (by simp) (by simp)) (hk 18 (by omega) (by omega)) (hk 19 (by omega) (by omega)) hTx
  · exact rSh_congr (fun t => f0 t 6 0 (by omega) (by omega)) (hk 52 (by omega) (by omega)) (hk 53 (by omega) (by omega)) (hk 54 (by omega) (by omega)) (hk 55 (by omega) (by omega)) (hk 56 (by omega) (by omega)) (by rw [hM.2.2]) hSh
  · rw [hM.2.1 26 (by omega)]; exact h26
theorem rIx_I (h : rIx L xs C M nc nw nb np nt now hm kd wa wb wd wl ws) : rI L xs C M hm := ⟨nc, nw, nb, np, nt, now, kd, wa, wb, wd, wl, ws, h⟩
theorem b2_ne (x : Bool) : (bif cmpS .eq (b2 x) (oN 0) then oN 0 else oN 1) = b2 x := by
  cases x
  · rw [show cmpS .eq (b2 false) (oN 0) = true from c_eq_refl _]; rfl
  · rw [show cmpS .eq (b2 true) (oN 0) = false from n_eq_f (a := 1) (b := 0) (by omega) (by omega) (by omega)]; rfl
set_option maxRecDepth 8000 in
theorem rs_ok {b r s : Nat} (hhm : hm ≤ 1000) (hb : b < nb) (hk : kd b = 0) (hr : r ≤ 1) (hs : s ≤ 3) (hx : rIx L xs C M nc nw nb np nt now hm kd wa wb wd wl ws) :
    ∃ x C' M', kI L xs 125 [vr 9 [0], vr 0 [b, 10, 0, 0], vi (oN r), vi (oN s)] C = some (b2 x, C') ∧ kI L xs 226 [vr 10 [1], vi (oN b), vi (oN r), vi (oN s)] M = some (b2 x, M') ∧ rIx L xs C' M' nc nw nb np nt now hm kd wa wb wd wl ws := by
  have hx' := hx
  obtain ⟨hP, hIm, hHi, hTx, hSh, h26⟩ := hx'
  have b40 : nb ≤ 40 := hP.1.2.2.2.2.2.2.2.2.2.2.2.2.2.2.2.1
  have b20 : nt ≤ 20 := hP.1.2.2.2.2.2.2.2.2.2.2.2.2.2.2.2.2.2.1
  obtain ⟨-, -, ⟨-, v3, v4, v5, -⟩, -⟩ := hP.2.2.2.2.2.2.1 b hb
  rcases hP.2.2.2.2.2.1 (4 * r + s) (by omega) with ⟨f1, f2⟩ | ⟨t, t1, f1, f2⟩
  · rw [show 180 + (4 * r + s) = 180 + 4 * r + s by omega] at f2
    have hr' : r = 0 ∨ r = 1 := by omega
    rcases hr' with e | e <;> subst e
    · refine ⟨!cmpS .lt (M.1 [1, 1] (200 + 16 * b + 5)) (oN 60), C, M, kI_of ?_, kI_of ?_, hx⟩
      · rw [e_125]
        simp (disch := omega) only [↓Bool.cond_eq_ite, ↓reduceIte, Bool.false_eq_true, eq_self, n_lit, n_neg, n_add, n_mul, n_sub, n_subM, n_div, n_mod, n_addM, m_div, m_subn, n_tN, n_inS, n_eq_t, n_eq_f, n_ne_t, n_ne_f, n_lt_t, n_lt_f, n_ge_t, n_ge_f, n_gt_t, n_gt_f, n_le_t, n_le_f, mn_eq, mn_ne, mn_lt, mn_ge, mn_gt, mn_le, nm_eq, nm_ne, nm_lt, nm_ge, nm_gt, nm_le, n_gts_t, c_eq_refl, c_ne_refl, w_fold, w_2, wC_fold, lt_M, cond_true, cond_false, Bool.and_true, Bool.true_and, Bool.and_false, Bool.false_and, Bool.not_true, Bool.not_false, isZS_0, isZS_1, f1, v4, b2_n]
        cases cmpS .lt (M.1 [1, 1] (200 + 16 * b + 5)) (oN 60) <;> rfl
      · rw [e_226]
        simp (disch := omega) only [↓Bool.cond_eq_ite, ↓reduceIte, Bool.false_eq_true, eq_self, n_lit, n_neg, n_add, n_mul, n_sub, n_subM, n_div, n_mod, n_addM, m_div, m_subn, n_tN, n_inS, n_eq_t, n_eq_f, n_ne_t, n_ne_f, n_lt_t, n_lt_f, n_ge_t, n_ge_f, n_gt_t, n_gt_f, n_le_t, n_le_f, mn_eq, mn_ne, mn_lt, mn_ge, mn_gt, mn_le, nm_eq, nm_ne, nm_lt, nm_ge, nm_gt, nm_le, n_gts_t, c_eq_refl, c_ne_refl, w_fold, w_2, wC_fold, lt_M, cond_true, cond_false, Bool.and_true, Bool.true_and, Bool.and_false, Bool.false_and, Bool.not_true, Bool.not_false, isZS_0, isZS_1, f2, b2_n]
        cases cmpS .lt (M.1 [1, 1] (200 + 16 * b + 5)) (oN 60) <;> rfl
    · refine ⟨!cmpS .lt (M.1 [1, 1] (200 + 16 * b + 6)) (oN 3), C, M, kI_of ?_, kI_of ?_, hx⟩
      · rw [e_125]
        simp (disch := omega) only [↓Bool.cond_eq_ite, ↓reduceIte, Bool.false_eq_true, eq_self, n_lit, n_neg, n_add, n_mul, n_sub, n_subM, n_div, n_mod, n_addM, m_div, m_subn, n_tN, n_inS, n_eq_t, n_eq_f, n_ne_t, n_ne_f, n_lt_t, n_lt_f, n_ge_t, n_ge_f, n_gt_t, n_gt_f, n_le_t, n_le_f, mn_eq, mn_ne, mn_lt, mn_ge, mn_gt, mn_le, nm_eq, nm_ne, nm_lt, nm_ge, nm_gt, nm_le, n_gts_t, c_eq_refl, c_ne_refl, w_fold, w_2, wC_fold, lt_M, cond_true, cond_false, Bool.and_true, Bool.true_and, Bool.and_false, Bool.false_and, Bool.not_true, Bool.not_false, isZS_0, isZS_1, f1, v5, b2_n]
        cases cmpS .lt (M.1 [1, 1] (200 + 16 * b + 6)) (oN 3) <;> rfl
      · rw [e_226]
        simp (disch := omega) only [↓Bool.cond_eq_ite, ↓reduceIte, Bool.false_eq_true, eq_self, n_lit, n_neg, n_add, n_mul, n_sub, n_subM, n_div, n_mod, n_addM, m_div, m_subn, n_tN, n_inS, n_eq_t, n_eq_f, n_ne_t, n_ne_f, n_lt_t, n_lt_f, n_ge_t, n_ge_f, n_gt_t, n_gt_f, n_le_t, n_le_f, mn_eq, mn_ne, mn_lt, mn_ge, mn_gt, mn_le, nm_eq, nm_ne, nm_lt, nm_ge, nm_gt, nm_le, n_gts_t, c_eq_refl, c_ne_refl, w_fold, w_2, wC_fold, lt_M, cond_true, cond_false, Bool.and_true, Bool.true_and, Bool.and_false, Bool.false_and, Bool.not_true, Bool.not_false, isZS_0, isZS_1, f2, b2_n]
        cases cmpS .lt (M.1 [1, 1] (200 + 16 * b + 6)) (oN 3) <;> rfl
  · rw [show 180 + (4 * r + s) = 180 + 4 * r + s by omega] at f2
    obtain ⟨x, F, G, M', k1, k2, k3, k4⟩ := hold_ok (L := L) (xs := xs) (c := 0) (W := none) (G := some b) hhm hP hTx t1 (fun w e => by cases e) (fun b' e => by cases e; exact ⟨hb, hk⟩)
    have k1 : call L xs 32 [vr 2 [0, 0], vi (oM 1), vr 0 [b, 10, 0, 0]] C = some (some (vr 1000012 [15, 0, 0]), stA C [15, 0, 0] F) := k1
    have k3 : kI L xs 181 [vr 10 [1], vi (oN t), vi (oM 1), vi (oN b)] M = some (b2 x, M') := k3
    have hl : (some (vr 1000012 [15, 0, 0]) : Option mV).toList ++ [vi (oN t), vr 5 [4, 0]] = [vr 1000012 [15, 0, 0], vi (oN t), vr 5 [4, 0]] := rfl
    refine ⟨x, stA (stA C [15, 0, 0] F) [8, 4, 0] G, M', kI_of ?_, kI_of ?_, rIx_h (fun q h1 h2 => by rw [stA_ne h2, stA_ne h1]) k4 hx⟩
    · rw [e_125]
      simp (disch := omega) only [↓Bool.cond_eq_ite, ↓reduceIte, Bool.false_eq_true, eq_self, n_lit, n_neg, n_add, n_mul, n_sub, n_subM, n_div, n_mod, n_addM, m_div, m_subn, n_tN, n_inS, n_eq_t, n_eq_f, n_ne_t, n_ne_f, n_lt_t, n_lt_f, n_ge_t, n_ge_f, n_gt_t, n_gt_f, n_le_t, n_le_f, mn_eq, mn_ne, mn_lt, mn_ge, mn_gt, mn_le, nm_eq, nm_ne, nm_lt, nm_ge, nm_gt, nm_le, n_gts_t, c_eq_refl, c_ne_refl, w_fold, w_2, wC_fold, lt_M, cond_true, cond_false, Bool.and_true, Bool.true_and, Bool.and_false, Bool.false_and, Bool.not_true, Bool.not_false, isZS_0, isZS_1, f1, k1, hl, Option.bind_some]
      rw [r_RRIII_125_35, k2, Option.bind_some]
      simp only [b2_ZS, Bool.and_self, cond_true]
    · rw [e_226]
      simp (disch := omega) only [↓Bool.cond_eq_ite, ↓reduceIte, Bool.false_eq_true, eq_self, n_lit, n_neg, n_add, n_mul, n_sub, n_subM, n_div, n_mod, n_addM, m_div, m_subn, n_tN, n_inS, n_eq_t, n_eq_f, n_ne_t, n_ne_f, n_lt_t, n_lt_f, n_ge_t, n_ge_f, n_gt_t, n_gt_f, n_le_t, n_le_f, mn_eq, mn_ne, mn_lt, mn_ge, mn_gt, mn_le, nm_eq, nm_ne, nm_lt, nm_ge, nm_gt, nm_le, n_gts_t, c_eq_refl, c_ne_refl, w_fold, w_2, wC_fold, lt_M, cond_true, cond_false, Bool.and_true, Bool.true_and, Bool.and_false, Bool.false_and, Bool.not_true, Bool.not_false, isZS_0, isZS_1, f2, k3, Option.bind_some, b2_ZS, Bool.and_self, cond_true]
theorem or_z (v : Int32) : v ||| oN 0 = v := Int32.or_zero
set_option maxRecDepth 8000 in
theorem schools_loop {b r : Nat} (hhm : hm ≤ 1000) (hb : b < nb) (hk : kd b = 0) (hr : r ≤ 1) : ∀ n s v C M, s + n = 4 → rIx L xs C M nc nw nb np nt now hm kd wa wb wd wl ws →
    ∃ v' C' M', run L xs 129 29 (23, [some (vr 9 [0]), some (vi (oN b)), some (vi (oN r)), some (vi v), some (vi (oN s))], [], C) = some (some (vi v'), C') ∧ run L xs 221 35 (29, [some (vr 10 [1]), some (vi (oN b)), some (vi (oN r)), some (vi v), some (vi (oN s))], [], M) = some (some (vi v'), M') ∧ rIx L xs C' M' nc nw nb np nt now hm kd wa wb wd wl ws := by
  intro n
  induction n with
  | zero =>
    intro s v C M hs hx
    have : s = 4 := by omega
    subst this
    refine ⟨v, C, M, ?_, ?_, hx⟩
    · rw [h_129_23]
      simp (disch := omega) only [↓Bool.cond_eq_ite, ↓reduceIte, Bool.false_eq_true, eq_self, n_lit, n_neg, n_add, n_mul, n_sub, n_subM, n_div, n_mod, n_addM, m_div, m_subn, n_tN, n_inS, n_eq_t, n_eq_f, n_ne_t, n_ne_f, n_lt_t, n_lt_f, n_ge_t, n_ge_f, n_gt_t, n_gt_f, n_le_t, n_le_f, mn_eq, mn_ne, mn_lt, mn_ge, mn_gt, mn_le, nm_eq, nm_ne, nm_lt, nm_ge, nm_gt, nm_le, n_gts_t, c_eq_refl, c_ne_refl, w_fold, w_2, wC_fold, lt_M, cond_true, cond_false, Bool.and_true, Bool.true_and, Bool.and_false, Bool.false_and, Bool.not_true, Bool.not_false, isZS_0, isZS_1]
    · rw [h_221_29]
      simp (disch := omega) only [↓Bool.cond_eq_ite, ↓reduceIte, Bool.false_eq_true, eq_self, n_lit, n_neg, n_add, n_mul, n_sub, n_subM, n_div, n_mod, n_addM, m_div, m_subn, n_tN, n_inS, n_eq_t, n_eq_f, n_ne_t, n_ne_f, n_lt_t, n_lt_f, n_ge_t, n_ge_f, n_gt_t, n_gt_f, n_le_t, n_le_f, mn_eq, mn_ne, mn_lt, mn_ge, mn_gt, mn_le, nm_eq, nm_ne, nm_lt, nm_ge, nm_gt, nm_le, n_gts_t, c_eq_refl, c_ne_refl, w_fold, w_2, wC_fold, lt_M, cond_true, cond_false, Bool.and_true, Bool.true_and, Bool.and_false, Bool.false_and, Bool.not_true, Bool.not_false, isZS_0, isZS_1]
  | succ n ih =>
    intro s v C M hs hx
    have b40 : nb ≤ 40 := hx.1.1.2.2.2.2.2.2.2.2.2.2.2.2.2.2.2.1
    obtain ⟨x, C1, M1, k1, k2, k3⟩ := rs_ok (L := L) (xs := xs) (b := b) (r := r) (s := s) hhm hb hk hr (by omega) hx
    cases x with
    | false =>
      obtain ⟨v', C', M', a1, a2, a3⟩ := ih (s + 1) v C1 M1 (by omega) k3
      refine ⟨v', C', M', ?_, ?_, a3⟩
      · rw [h_129_23]
        simp (disch := omega) only [↓Bool.cond_eq_ite, ↓reduceIte, Bool.false_eq_true, eq_self, n_lit, n_neg, n_add, n_mul, n_sub, n_subM, n_div, n_mod, n_addM, m_div, m_subn, n_tN, n_inS, n_eq_t, n_eq_f, n_ne_t, n_ne_f, n_lt_t, n_lt_f, n_ge_t, n_ge_f, n_gt_t, n_gt_f, n_le_t, n_le_f, mn_eq, mn_ne, mn_lt, mn_ge, mn_gt, mn_le, nm_eq, nm_ne, nm_lt, nm_ge, nm_gt, nm_le, n_gts_t, c_eq_refl, c_ne_refl, w_fold, w_2, wC_fold, lt_M, cond_true, cond_false, Bool.and_true, Bool.true_and, Bool.and_false, Bool.false_and, Bool.not_true, Bool.not_false, isZS_0, isZS_1, k1, b2, Option.bind_some]
        exact a1
      · rw [h_221_29]
        simp (disch := omega) only [↓Bool.cond_eq_ite, ↓reduceIte, Bool.false_eq_true, eq_self, n_lit, n_neg, n_add, n_mul, n_sub, n_subM, n_div, n_mod, n_addM, m_div, m_subn, n_tN, n_inS, n_eq_t, n_eq_f, n_ne_t, n_ne_f, n_lt_t, n_lt_f, n_ge_t, n_ge_f, n_gt_t, n_gt_f, n_le_t, n_le_f, mn_eq, mn_ne, mn_lt, mn_ge, mn_gt, mn_le, nm_eq, nm_ne, nm_lt, nm_ge, nm_gt, nm_le, n_gts_t, c_eq_refl, c_ne_refl, w_fold, w_2, wC_fold, lt_M, cond_true, cond_false, Bool.and_true, Bool.true_and, Bool.and_false, Bool.false_and, Bool.not_true, Bool.not_false, isZS_0, isZS_1, k2, b2, or_z, Option.bind_some]
        exact a2
    | true =>
      obtain ⟨v', C', M', a1, a2, a3⟩ := ih (s + 1) (v ||| (oN 1 <<< (oN s &&& oN 31))) C1 M1 (by omega) k3
      refine ⟨v', C', M', ?_, ?_, a3⟩
      · rw [h_129_23]
        simp (disch := omega) only [↓Bool.cond_eq_ite, ↓reduceIte, Bool.false_eq_true, eq_self, n_lit, n_neg, n_add, n_mul, n_sub, n_subM, n_div, n_mod, n_addM, m_div, m_subn, n_tN, n_inS, n_eq_t, n_eq_f, n_ne_t, n_ne_f, n_lt_t, n_lt_f, n_ge_t, n_ge_f, n_gt_t, n_gt_f, n_le_t, n_le_f, mn_eq, mn_ne, mn_lt, mn_ge, mn_gt, mn_le, nm_eq, nm_ne, nm_lt, nm_ge, nm_gt, nm_le, n_gts_t, c_eq_refl, c_ne_refl, w_fold, w_2, wC_fold, lt_M, cond_true, cond_false, Bool.and_true, Bool.true_and, Bool.and_false, Bool.false_and, Bool.not_true, Bool.not_false, isZS_0, isZS_1, k1, b2, Option.bind_some]
        exact a1
      · rw [h_221_29]
        simp (disch := omega) only [↓Bool.cond_eq_ite, ↓reduceIte, Bool.false_eq_true, eq_self, n_lit, n_neg, n_add, n_mul, n_sub, n_subM, n_div, n_mod, n_addM, m_div, m_subn, n_tN, n_inS, n_eq_t, n_eq_f, n_ne_t, n_ne_f, n_lt_t, n_lt_f, n_ge_t, n_ge_f, n_gt_t, n_gt_f, n_le_t, n_le_f, mn_eq, mn_ne, mn_lt, mn_ge, mn_gt, mn_le, nm_eq, nm_ne, nm_lt, nm_ge, nm_gt, nm_le, n_gts_t, c_eq_refl, c_ne_refl, w_fold, w_2, wC_fold, lt_M, cond_true, cond_false, Bool.and_true, Bool.true_and, Bool.and_false, Bool.false_and, Bool.not_true, Bool.not_false, isZS_0, isZS_1, k2, b2, Option.bind_some]
        exact a2
set_option maxRecDepth 8000 in
set_option maxHeartbeats 4000000 in
theorem op_stands {a1 a2 a3 : Int32} (hhm : hm ≤ 1000) (h : rI L xs C M hm) : opR L xs 132 225 [vi a1, vi a2, vi a3] C M hm := by
  have e := e_132 L xs [0] a1 a2 a3 C
  have f := e_225 L xs [1] a1 a2 a3 M
  have h1 : rI L xs C (wI M [1] 0 (0 : Int32)) hm := rI_ag (agC_refl _) (agM_w0 (by decide) (by decide)) h
  simp only [lt_M, w_fold] at f
  generalize wI M [1] 0 (0 : Int32) = M1 at f h1
  have h0 := h1
  obtain ⟨nc, nw, nb, np, nt, now, kd, wa, wb, wd, wl, ws, hP, hIm, hHi, hTx, hSh, hMi⟩ := h1
  have hP' := hP
  obtain ⟨g1, g2, g3, g4, g5, g6, g7, g8, g9, g10⟩ := hP'
  have hsc := g1
  obtain ⟨cN, cT, cC, cW, cB, cG, cP, S0, S1, S2, S3, S4, S5, b16, b24, b40, b8, b20, b4320⟩ := hsc
  have hle := cntG_le kd nb
  rcases I_cases a1 with ⟨u, u1, rfl⟩ | ⟨u, u0, u1, rfl⟩
  case inr =>
    simp (disch := omega) only [↓Bool.cond_eq_ite, ↓reduceIte, Bool.false_eq_true, eq_self, n_lit, n_neg, n_add, n_mul, n_sub, n_subM, n_div, n_mod, n_addM, m_div, m_subn, n_tN, n_inS, n_eq_t, n_eq_f, n_ne_t, n_ne_f, n_lt_t, n_lt_f, n_ge_t, n_ge_f, n_gt_t, n_gt_f, n_le_t, n_le_f, mn_eq, mn_ne, mn_lt, mn_ge, mn_gt, mn_le, nm_eq, nm_ne, nm_lt, nm_ge, nm_gt, nm_le, n_gts_t, c_eq_refl, c_ne_refl, w_fold, w_2, wC_fold, lt_M, cond_true, cond_false, Bool.and_true, Bool.true_and, Bool.and_false, Bool.false_and, Bool.not_true, Bool.not_false, isZS_0, isZS_1, ↓reduceIte, w_at, w_2, wC_at, wC_2, List.cons.injEq, reduceCtorEq, and_false, false_and, and_true, true_and, if_true, if_false, eq_self, and_self, if_pos, if_neg, Nat.add_zero, cN, cT, cC, cW, cB, cG, cP, S0, S1, S2, S3, S4, S5] at e f
    exact ⟨_, _, _, kI_of e, kI_of f, h0⟩
  by_cases q1 : u < nb
  case neg =>
    simp (disch := omega) only [↓Bool.cond_eq_ite, ↓reduceIte, Bool.false_eq_true, eq_self, n_lit, n_neg, n_add, n_mul, n_sub, n_subM, n_div, n_mod, n_addM, m_div, m_subn, n_tN, n_inS, n_eq_t, n_eq_f, n_ne_t, n_ne_f, n_lt_t, n_lt_f, n_ge_t, n_ge_f, n_gt_t, n_gt_f, n_le_t, n_le_f, mn_eq, mn_ne, mn_lt, mn_ge, mn_gt, mn_le, nm_eq, nm_ne, nm_lt, nm_ge, nm_gt, nm_le, n_gts_t, c_eq_refl, c_ne_refl, w_fold, w_2, wC_fold, lt_M, cond_true, cond_false, Bool.and_true, Bool.true_and, Bool.and_false, Bool.false_and, Bool.not_true, Bool.not_false, isZS_0, isZS_1, ↓reduceIte, w_at, w_2, wC_at, wC_2, List.cons.injEq, reduceCtorEq, and_false, false_and, and_true, true_and, if_true, if_false, eq_self, and_self, if_pos, if_neg, Nat.add_zero, cN, cT, cC, cW, cB, cG, cP, S0, S1, S2, S3, S4, S5] at e f
    exact ⟨_, _, _, kI_of e, kI_of f, h0⟩
  obtain ⟨k1, k2, k3⟩ : C.1 [u, 10, 0, 0] 1 = oN (kd u) ∧ M1.1 [11, 1] u = oN (kd u) ∧ kd u ≤ 5 := by
    obtain ⟨⟨a, -, b, c, -⟩, -⟩ := g7 u (by omega)
    exact ⟨b, c, a⟩
  by_cases kk : kd u = 0
  case neg =>
    simp (disch := omega) only [↓Bool.cond_eq_ite, ↓reduceIte, Bool.false_eq_true, eq_self, n_lit, n_neg, n_add, n_mul, n_sub, n_subM, n_div, n_mod, n_addM, m_div, m_subn, n_tN, n_inS, n_eq_t, n_eq_f, n_ne_t, n_ne_f, n_lt_t, n_lt_f, n_ge_t, n_ge_f, n_gt_t, n_gt_f, n_le_t, n_le_f, mn_eq, mn_ne, mn_lt, mn_ge, mn_gt, mn_le, nm_eq, nm_ne, nm_lt, nm_ge, nm_gt, nm_le, n_gts_t, c_eq_refl, c_ne_refl, w_fold, w_2, wC_fold, lt_M, cond_true, cond_false, Bool.and_true, Bool.true_and, Bool.and_false, Bool.false_and, Bool.not_true, Bool.not_false, isZS_0, isZS_1, ↓reduceIte, w_at, w_2, wC_at, wC_2, List.cons.injEq, reduceCtorEq, and_false, false_and, and_true, true_and, if_true, if_false, eq_self, and_self, if_pos, if_neg, Nat.add_zero, cN, cT, cC, cW, cB, cG, cP, S0, S1, S2, S3, S4, S5, k1, k2] at e f
    exact ⟨_, _, _, kI_of e, kI_of f, h0⟩
  rw [kk] at k1 k2
  rcases I_cases a2 with ⟨r, r1, rfl⟩ | ⟨r, r0, r1, rfl⟩
  case inr =>
    simp (disch := omega) only [↓Bool.cond_eq_ite, ↓reduceIte, Bool.false_eq_true, eq_self, n_lit, n_neg, n_add, n_mul, n_sub, n_subM, n_div, n_mod, n_addM, m_div, m_subn, n_tN, n_inS, n_eq_t, n_eq_f, n_ne_t, n_ne_f, n_lt_t, n_lt_f, n_ge_t, n_ge_f, n_gt_t, n_gt_f, n_le_t, n_le_f, mn_eq, mn_ne, mn_lt, mn_ge, mn_gt, mn_le, nm_eq, nm_ne, nm_lt, nm_ge, nm_gt, nm_le, n_gts_t, c_eq_refl, c_ne_refl, w_fold, w_2, wC_fold, lt_M, cond_true, cond_false, Bool.and_true, Bool.true_and, Bool.and_false, Bool.false_and, Bool.not_true, Bool.not_false, isZS_0, isZS_1, ↓reduceIte, w_at, w_2, wC_at, wC_2, List.cons.injEq, reduceCtorEq, and_false, false_and, and_true, true_and, if_true, if_false, eq_self, and_self, if_pos, if_neg, Nat.add_zero, cN, cT, cC, cW, cB, cG, cP, S0, S1, S2, S3, S4, S5, k1, k2] at e f
    exact ⟨_, _, _, kI_of e, kI_of f, h0⟩
  by_cases q2 : r ≤ 1
  case neg =>
    simp (disch := omega) only [↓Bool.cond_eq_ite, ↓reduceIte, Bool.false_eq_true, eq_self, n_lit, n_neg, n_add, n_mul, n_sub, n_subM, n_div, n_mod, n_addM, m_div, m_subn, n_tN, n_inS, n_eq_t, n_eq_f, n_ne_t, n_ne_f, n_lt_t, n_lt_f, n_ge_t, n_ge_f, n_gt_t, n_gt_f, n_le_t, n_le_f, mn_eq, mn_ne, mn_lt, mn_ge, mn_gt, mn_le, nm_eq, nm_ne, nm_lt, nm_ge, nm_gt, nm_le, n_gts_t, c_eq_refl, c_ne_refl, w_fold, w_2, wC_fold, lt_M, cond_true, cond_false, Bool.and_true, Bool.true_and, Bool.and_false, Bool.false_and, Bool.not_true, Bool.not_false, isZS_0, isZS_1, ↓reduceIte, w_at, w_2, wC_at, wC_2, List.cons.injEq, reduceCtorEq, and_false, false_and, and_true, true_and, if_true, if_false, eq_self, and_self, if_pos, if_neg, Nat.add_zero, cN, cT, cC, cW, cB, cG, cP, S0, S1, S2, S3, S4, S5, k1, k2] at e f
    exact ⟨_, _, _, kI_of e, kI_of f, h0⟩
  rcases I_cases a3 with ⟨s, s1, rfl⟩ | ⟨s, s0, s1, rfl⟩
  case inr =>
    simp (disch := omega) only [↓Bool.cond_eq_ite, ↓reduceIte, Bool.false_eq_true, eq_self, n_lit, n_neg, n_add, n_mul, n_sub, n_subM, n_div, n_mod, n_addM, m_div, m_subn, n_tN, n_inS, n_eq_t, n_eq_f, n_ne_t, n_ne_f, n_lt_t, n_lt_f, n_ge_t, n_ge_f, n_gt_t, n_gt_f, n_le_t, n_le_f, mn_eq, mn_ne, mn_lt, mn_ge, mn_gt, mn_le, nm_eq, nm_ne, nm_lt, nm_ge, nm_gt, nm_le, n_gts_t, c_eq_refl, c_ne_refl, w_fold, w_2, wC_fold, lt_M, cond_true, cond_false, Bool.and_true, Bool.true_and, Bool.and_false, Bool.false_and, Bool.not_true, Bool.not_false, isZS_0, isZS_1, ↓reduceIte, w_at, w_2, wC_at, wC_2, List.cons.injEq, reduceCtorEq, and_false, false_and, and_true, true_and, if_true, if_false, eq_self, and_self, if_pos, if_neg, Nat.add_zero, cN, cT, cC, cW, cB, cG, cP, S0, S1, S2, S3, S4, S5, k1, k2] at e f
    exact ⟨_, _, _, kI_of e, kI_of f, h0⟩
  by_cases q3 : s ≤ 3
  case neg =>
    simp (disch := omega) only [↓Bool.cond_eq_ite, ↓reduceIte, Bool.false_eq_true, eq_self, n_lit, n_neg, n_add, n_mul, n_sub, n_subM, n_div, n_mod, n_addM, m_div, m_subn, n_tN, n_inS, n_eq_t, n_eq_f, n_ne_t, n_ne_f, n_lt_t, n_lt_f, n_ge_t, n_ge_f, n_gt_t, n_gt_f, n_le_t, n_le_f, mn_eq, mn_ne, mn_lt, mn_ge, mn_gt, mn_le, nm_eq, nm_ne, nm_lt, nm_ge, nm_gt, nm_le, n_gts_t, c_eq_refl, c_ne_refl, w_fold, w_2, wC_fold, lt_M, cond_true, cond_false, Bool.and_true, Bool.true_and, Bool.and_false, Bool.false_and, Bool.not_true, Bool.not_false, isZS_0, isZS_1, ↓reduceIte, w_at, w_2, wC_at, wC_2, List.cons.injEq, reduceCtorEq, and_false, false_and, and_true, true_and, if_true, if_false, eq_self, and_self, if_pos, if_neg, Nat.add_zero, cN, cT, cC, cW, cB, cG, cP, S0, S1, S2, S3, S4, S5, k1, k2] at e f
    exact ⟨_, _, _, kI_of e, kI_of f, h0⟩
  obtain ⟨x, C', M', y1, y2, y3⟩ := rs_ok (L := L) (xs := xs) (b := u) (r := r) (s := s) hhm (by omega) kk (by omega) (by omega) (⟨hP, hIm, hHi, hTx, hSh, hMi⟩ : rIx L xs C M1 nc nw nb np nt now hm kd wa wb wd wl ws)
  cases x with
  | false =>
    simp (disch := omega) only [↓Bool.cond_eq_ite, ↓reduceIte, Bool.false_eq_true, eq_self, n_lit, n_neg, n_add, n_mul, n_sub, n_subM, n_div, n_mod, n_addM, m_div, m_subn, n_tN, n_inS, n_eq_t, n_eq_f, n_ne_t, n_ne_f, n_lt_t, n_lt_f, n_ge_t, n_ge_f, n_gt_t, n_gt_f, n_le_t, n_le_f, mn_eq, mn_ne, mn_lt, mn_ge, mn_gt, mn_le, nm_eq, nm_ne, nm_lt, nm_ge, nm_gt, nm_le, n_gts_t, c_eq_refl, c_ne_refl, w_fold, w_2, wC_fold, lt_M, cond_true, cond_false, Bool.and_true, Bool.true_and, Bool.and_false, Bool.false_and, Bool.not_true, Bool.not_false, isZS_0, isZS_1, ↓reduceIte, w_at, w_2, wC_at, wC_2, List.cons.injEq, reduceCtorEq, and_false, false_and, and_true, true_and, if_true, if_false, eq_self, and_self, if_pos, if_neg, Nat.add_zero, cN, cT, cC, cW, cB, cG, cP, S0, S1, S2, S3, S4, S5, k1, k2, y1, y2, b2, Option.bind_some] at e f y1 y2
    exact ⟨_, _, _, kI_of e, kI_of f, rIx_I y3⟩
  | true =>
    simp (disch := omega) only [↓Bool.cond_eq_ite, ↓reduceIte, Bool.false_eq_true, eq_self, n_lit, n_neg, n_add, n_mul, n_sub, n_subM, n_div, n_mod, n_addM, m_div, m_subn, n_tN, n_inS, n_eq_t, n_eq_f, n_ne_t, n_ne_f, n_lt_t, n_lt_f, n_ge_t, n_ge_f, n_gt_t, n_gt_f, n_le_t, n_le_f, mn_eq, mn_ne, mn_lt, mn_ge, mn_gt, mn_le, nm_eq, nm_ne, nm_lt, nm_ge, nm_gt, nm_le, n_gts_t, c_eq_refl, c_ne_refl, w_fold, w_2, wC_fold, lt_M, cond_true, cond_false, Bool.and_true, Bool.true_and, Bool.and_false, Bool.false_and, Bool.not_true, Bool.not_false, isZS_0, isZS_1, ↓reduceIte, w_at, w_2, wC_at, wC_2, List.cons.injEq, reduceCtorEq, and_false, false_and, and_true, true_and, if_true, if_false, eq_self, and_self, if_pos, if_neg, Nat.add_zero, cN, cT, cC, cW, cB, cG, cP, S0, S1, S2, S3, S4, S5, k1, k2, y1, y2, b2, Option.bind_some] at e f y1 y2
    exact ⟨_, _, _, kI_of e, kI_of f, rIx_I y3⟩

set_option maxRecDepth 8000 in
set_option maxHeartbeats 4000000 in
theorem op_schools {a1 a2 : Int32} (hhm : hm ≤ 1000) (h : rI L xs C M hm) : opR L xs 129 221 [vi a1, vi a2] C M hm := by
  have e := e_129 L xs [0] a1 a2 C
  have f := e_221 L xs [1] a1 a2 M
  have h1 : rI L xs C (wI M [1] 0 (0 : Int32)) hm := rI_ag (agC_refl _) (agM_w0 (by decide) (by decide)) h
  simp only [lt_M, w_fold] at f
  generalize wI M [1] 0 (0 : Int32) = M1 at f h1
  have h0 := h1
  obtain ⟨nc, nw, nb, np, nt, now, kd, wa, wb, wd, wl, ws, hP, hIm, hHi, hTx, hSh, hMi⟩ := h1
  have hP' := hP
  obtain ⟨g1, g2, g3, g4, g5, g6, g7, g8, g9, g10⟩ := hP'
  have hsc := g1
  obtain ⟨cN, cT, cC, cW, cB, cG, cP, S0, S1, S2, S3, S4, S5, b16, b24, b40, b8, b20, b4320⟩ := hsc
  have hle := cntG_le kd nb
  rcases I_cases a1 with ⟨u, u1, rfl⟩ | ⟨u, u0, u1, rfl⟩
  case inr =>
    simp (disch := omega) only [↓Bool.cond_eq_ite, ↓reduceIte, Bool.false_eq_true, eq_self, n_lit, n_neg, n_add, n_mul, n_sub, n_subM, n_div, n_mod, n_addM, m_div, m_subn, n_tN, n_inS, n_eq_t, n_eq_f, n_ne_t, n_ne_f, n_lt_t, n_lt_f, n_ge_t, n_ge_f, n_gt_t, n_gt_f, n_le_t, n_le_f, mn_eq, mn_ne, mn_lt, mn_ge, mn_gt, mn_le, nm_eq, nm_ne, nm_lt, nm_ge, nm_gt, nm_le, n_gts_t, c_eq_refl, c_ne_refl, w_fold, w_2, wC_fold, lt_M, cond_true, cond_false, Bool.and_true, Bool.true_and, Bool.and_false, Bool.false_and, Bool.not_true, Bool.not_false, isZS_0, isZS_1, ↓reduceIte, w_at, w_2, wC_at, wC_2, List.cons.injEq, reduceCtorEq, and_false, false_and, and_true, true_and, if_true, if_false, eq_self, and_self, if_pos, if_neg, Nat.add_zero, cN, cT, cC, cW, cB, cG, cP, S0, S1, S2, S3, S4, S5] at e f
    exact ⟨_, _, _, kI_of e, kI_of f, h0⟩
  by_cases q1 : u < nb
  case neg =>
    simp (disch := omega) only [↓Bool.cond_eq_ite, ↓reduceIte, Bool.false_eq_true, eq_self, n_lit, n_neg, n_add, n_mul, n_sub, n_subM, n_div, n_mod, n_addM, m_div, m_subn, n_tN, n_inS, n_eq_t, n_eq_f, n_ne_t, n_ne_f, n_lt_t, n_lt_f, n_ge_t, n_ge_f, n_gt_t, n_gt_f, n_le_t, n_le_f, mn_eq, mn_ne, mn_lt, mn_ge, mn_gt, mn_le, nm_eq, nm_ne, nm_lt, nm_ge, nm_gt, nm_le, n_gts_t, c_eq_refl, c_ne_refl, w_fold, w_2, wC_fold, lt_M, cond_true, cond_false, Bool.and_true, Bool.true_and, Bool.and_false, Bool.false_and, Bool.not_true, Bool.not_false, isZS_0, isZS_1, ↓reduceIte, w_at, w_2, wC_at, wC_2, List.cons.injEq, reduceCtorEq, and_false, false_and, and_true, true_and, if_true, if_false, eq_self, and_self, if_pos, if_neg, Nat.add_zero, cN, cT, cC, cW, cB, cG, cP, S0, S1, S2, S3, S4, S5] at e f
    exact ⟨_, _, _, kI_of e, kI_of f, h0⟩
  obtain ⟨k1, k2, k3⟩ : C.1 [u, 10, 0, 0] 1 = oN (kd u) ∧ M1.1 [11, 1] u = oN (kd u) ∧ kd u ≤ 5 := by
    obtain ⟨⟨a, -, b, c, -⟩, -⟩ := g7 u (by omega)
    exact ⟨b, c, a⟩
  by_cases kk : kd u = 0
  case neg =>
    simp (disch := omega) only [↓Bool.cond_eq_ite, ↓reduceIte, Bool.false_eq_true, eq_self, n_lit, n_neg, n_add, n_mul, n_sub, n_subM, n_div, n_mod, n_addM, m_div, m_subn, n_tN, n_inS, n_eq_t, n_eq_f, n_ne_t, n_ne_f, n_lt_t, n_lt_f, n_ge_t, n_ge_f, n_gt_t, n_gt_f, n_le_t, n_le_f, mn_eq, mn_ne, mn_lt, mn_ge, mn_gt, mn_le, nm_eq, nm_ne, nm_lt, nm_ge, nm_gt, nm_le, n_gts_t, c_eq_refl, c_ne_refl, w_fold, w_2, wC_fold, lt_M, cond_true, cond_false, Bool.and_true, Bool.true_and, Bool.and_false, Bool.false_and, Bool.not_true, Bool.not_false, isZS_0, isZS_1, ↓reduceIte, w_at, w_2, wC_at, wC_2, List.cons.injEq, reduceCtorEq, and_false, false_and, and_true, true_and, if_true, if_false, eq_self, and_self, if_pos, if_neg, Nat.add_zero, cN, cT, cC, cW, cB, cG, cP, S0, S1, S2, S3, S4, S5, k1, k2] at e f
    exact ⟨_, _, _, kI_of e, kI_of f, h0⟩
  rw [kk] at k1 k2
  rcases I_cases a2 with ⟨r, r1, rfl⟩ | ⟨r, r0, r1, rfl⟩
  case inr =>
    simp (disch := omega) only [↓Bool.cond_eq_ite, ↓reduceIte, Bool.false_eq_true, eq_self, n_lit, n_neg, n_add, n_mul, n_sub, n_subM, n_div, n_mod, n_addM, m_div, m_subn, n_tN, n_inS, n_eq_t, n_eq_f, n_ne_t, n_ne_f, n_lt_t, n_lt_f, n_ge_t, n_ge_f, n_gt_t, n_gt_f, n_le_t, n_le_f, mn_eq, mn_ne, mn_lt, mn_ge, mn_gt, mn_le, nm_eq, nm_ne, nm_lt, nm_ge, nm_gt, nm_le, n_gts_t, c_eq_refl, c_ne_refl, w_fold, w_2, wC_fold, lt_M, cond_true, cond_false, Bool.and_true, Bool.true_and, Bool.and_false, Bool.false_and, Bool.not_true, Bool.not_false, isZS_0, isZS_1, ↓reduceIte, w_at, w_2, wC_at, wC_2, List.cons.injEq, reduceCtorEq, and_false, false_and, and_true, true_and, if_true, if_false, eq_self, and_self, if_pos, if_neg, Nat.add_zero, cN, cT, cC, cW, cB, cG, cP, S0, S1, S2, S3, S4, S5, k1, k2] at e f
    exact ⟨_, _, _, kI_of e, kI_of f, h0⟩
  by_cases q2 : r ≤ 1
  case neg =>
    simp (disch := omega) only [↓Bool.cond_eq_ite, ↓reduceIte, Bool.false_eq_true, eq_self, n_lit, n_neg, n_add, n_mul, n_sub, n_subM, n_div, n_mod, n_addM, m_div, m_subn, n_tN, n_inS, n_eq_t, n_eq_f, n_ne_t, n_ne_f, n_lt_t, n_lt_f, n_ge_t, n_ge_f, n_gt_t, n_gt_f, n_le_t, n_le_f, mn_eq, mn_ne, mn_lt, mn_ge, mn_gt, mn_le, nm_eq, nm_ne, nm_lt, nm_ge, nm_gt, nm_le, n_gts_t, c_eq_refl, c_ne_refl, w_fold, w_2, wC_fold, lt_M, cond_true, cond_false, Bool.and_true, Bool.true_and, Bool.and_false, Bool.false_and, Bool.not_true, Bool.not_false, isZS_0, isZS_1, ↓reduceIte, w_at, w_2, wC_at, wC_2, List.cons.injEq, reduceCtorEq, and_false, false_and, and_true, true_and, if_true, if_false, eq_self, and_self, if_pos, if_neg, Nat.add_zero, cN, cT, cC, cW, cB, cG, cP, S0, S1, S2, S3, S4, S5, k1, k2] at e f
    exact ⟨_, _, _, kI_of e, kI_of f, h0⟩
  obtain ⟨v, C', M', y1, y2, y3⟩ := schools_loop (L := L) (xs := xs) (b := u) (r := r) hhm (by omega) kk (by omega) 4 0 (oN 0) C M1 (by omega) (⟨hP, hIm, hHi, hTx, hSh, hMi⟩ : rIx L xs C M1 nc nw nb np nt now hm kd wa wb wd wl ws)
  simp (disch := omega) only [↓Bool.cond_eq_ite, ↓reduceIte, Bool.false_eq_true, eq_self, n_lit, n_neg, n_add, n_mul, n_sub, n_subM, n_div, n_mod, n_addM, m_div, m_subn, n_tN, n_inS, n_eq_t, n_eq_f, n_ne_t, n_ne_f, n_lt_t, n_lt_f, n_ge_t, n_ge_f, n_gt_t, n_gt_f, n_le_t, n_le_f, mn_eq, mn_ne, mn_lt, mn_ge, mn_gt, mn_le, nm_eq, nm_ne, nm_lt, nm_ge, nm_gt, nm_le, n_gts_t, c_eq_refl, c_ne_refl, w_fold, w_2, wC_fold, lt_M, cond_true, cond_false, Bool.and_true, Bool.true_and, Bool.and_false, Bool.false_and, Bool.not_true, Bool.not_false, isZS_0, isZS_1, ↓reduceIte, w_at, w_2, wC_at, wC_2, List.cons.injEq, reduceCtorEq, and_false, false_and, and_true, true_and, if_true, if_false, eq_self, and_self, if_pos, if_neg, Nat.add_zero, cN, cT, cC, cW, cB, cG, cP, S0, S1, S2, S3, S4, S5, k1, k2, y1, y2] at e f
  exact ⟨_, _, _, kI_of e, kI_of f, rIx_I y3⟩

end Ops13
