section Press2
variable {L : Nat} {xs : Nat → Int32} {C M : mM} {c nc nw nb np nt now td hm : Nat} {kd wa wb wd wl ws : Nat → Nat}
set_option maxRecDepth 8000 in
theorem w_loop {pn : Nat → Nat} (cW : C.1 [6, c, 0] 0 = oN nw) (b24 : nw ≤ 24) (hwd : ∀ w, w < nw → 1 ≤ wd w ∧ wd w ≤ 60 ∧ C.1 [3, 6, c, 0] w = oN (wd w)) (hld : ∀ w, w < nw → ∃ z, z < 2147483648 ∧ C.1 [10, 6, c, 0] w = oN z ∧ z / wd w = pn w) : ∀ (k w : Nat) (G : Nat → Int32), w + k = nw → (∀ j, j < w → G j = oN (pn j)) →
    ∃ G', run L xs 23 27 (11, [none, some (vr 8 [6, c, 0]), some (vi (oN w))], [], stA C [6, 6, c, 0] G) = some (none, stA C [6, 6, c, 0] G') ∧ ∀ j, j < nw → G' j = oN (pn j)
  | 0, w, G, h, hG => by
    have cW' : (stA C [6, 6, c, 0] G).1 [6, c, 0] 0 = oN nw := by rw [stA_ne (by simp)]; exact cW
    refine ⟨G, ?_, fun j hj => hG j (by omega)⟩
    rw [h_23_11]
    simp (disch := omega) only [↓Bool.cond_eq_ite, ↓reduceIte, Bool.false_eq_true, eq_self, n_lit, n_neg, n_add, n_mul, n_sub, n_subM, n_div, n_mod, n_addM, m_div, m_subn, n_tN, n_inS, n_eq_t, n_eq_f, n_ne_t, n_ne_f, n_lt_t, n_lt_f, n_ge_t, n_ge_f, n_gt_t, n_gt_f, n_le_t, n_le_f, mn_eq, mn_ne, mn_lt, mn_ge, mn_gt, mn_le, nm_eq, nm_ne, nm_lt, nm_ge, nm_gt, nm_le, n_gts_t, c_eq_refl, c_ne_refl, w_fold, w_2, wC_fold, lt_M, cond_true, cond_false, Bool.and_true, Bool.true_and, Bool.and_false, Bool.false_and, Bool.not_true, Bool.not_false, isZS_0, isZS_1, cW']
  | k + 1, w, G, h, hG => by
    have cW' : (stA C [6, 6, c, 0] G).1 [6, c, 0] 0 = oN nw := by rw [stA_ne (by simp)]; exact cW
    obtain ⟨d1, d2, d3⟩ := hwd w (by omega)
    obtain ⟨z, z1, z2, z3⟩ := hld w (by omega)
    have d3' : (stA C [6, 6, c, 0] G).1 [3, 6, c, 0] w = oN (wd w) := by rw [stA_ne (by simp)]; exact d3
    have z2' : (stA C [6, 6, c, 0] G).1 [10, 6, c, 0] w = oN z := by rw [stA_ne (by simp)]; exact z2
    obtain ⟨G', g1, g2⟩ := w_loop cW b24 hwd hld k (w + 1) (upd G w (oN (pn w))) (by omega) (fun j hj => by
      rw [upd_at]
      by_cases y : j = w
      · rw [if_pos y, y]
      · rw [if_neg y]; exact hG j (by omega))
    refine ⟨G', ?_, g2⟩
    rw [h_23_11, ← g1]
    simp (disch := omega) only [↓Bool.cond_eq_ite, ↓reduceIte, Bool.false_eq_true, eq_self, n_lit, n_neg, n_add, n_mul, n_sub, n_subM, n_div, n_mod, n_addM, m_div, m_subn, n_tN, n_inS, n_eq_t, n_eq_f, n_ne_t, n_ne_f, n_lt_t, n_lt_f, n_ge_t, n_ge_f, n_gt_t, n_gt_f, n_le_t, n_le_f, mn_eq, mn_ne, mn_lt, mn_ge, mn_gt, mn_le, nm_eq, nm_ne, nm_lt, nm_ge, nm_gt, nm_le, n_gts_t, c_eq_refl, c_ne_refl, w_fold, wC_fold, lt_M, cond_true, cond_false, Bool.and_true, Bool.true_and, Bool.and_false, Bool.false_and, Bool.not_true, Bool.not_false, isZS_0, isZS_1, cW', d3', z2', z3, stA_same, stA_w, stA_u]
set_option maxRecDepth 8000 in
theorem p_loop {pn pu : Nat → Nat} {B : Nat} (hB : B < 1000000) (hW : cWy [6, c, 0] C nc nw wa wb wl ws) (hpn : ∀ w, w < nw → pn w ≤ B ∧ C.1 [6, 6, c, 0] w = oN (pn w)) (hpu : ∀ v, v < nw → pu v ≤ B ∧ C.1 [8, 6, c, 0] v = oN (pu v)) : ∀ (k w : Nat) (G : Nat → Int32), w + k = nw → (∀ j, j < w → G j = oN (qN wa wb pn pu nw j)) →
    ∃ G', run L xs 17 28 (19, [some (vr 8 [6, c, 0]), some (vi (oN w)), none], [], stA C [7, 6, c, 0] G) = some (none, stA C [7, 6, c, 0] G') ∧ ∀ j, j < nw → G' j = oN (qN wa wb pn pu nw j)
  | 0, w, G, h, hG => by
    obtain ⟨c0, h16, h24, hw0⟩ := hW
    have cW' : (stA C [7, 6, c, 0] G).1 [6, c, 0] 0 = oN nw := by rw [stA_ne (by simp)]; exact c0
    refine ⟨G, ?_, fun j hj => hG j (by omega)⟩
    rw [h_17_19]
    simp (disch := omega) only [↓Bool.cond_eq_ite, ↓reduceIte, Bool.false_eq_true, eq_self, n_lit, n_neg, n_add, n_mul, n_sub, n_subM, n_div, n_mod, n_addM, m_div, m_subn, n_tN, n_inS, n_eq_t, n_eq_f, n_ne_t, n_ne_f, n_lt_t, n_lt_f, n_ge_t, n_ge_f, n_gt_t, n_gt_f, n_le_t, n_le_f, mn_eq, mn_ne, mn_lt, mn_ge, mn_gt, mn_le, nm_eq, nm_ne, nm_lt, nm_ge, nm_gt, nm_le, n_gts_t, c_eq_refl, c_ne_refl, w_fold, w_2, wC_fold, lt_M, cond_true, cond_false, Bool.and_true, Bool.true_and, Bool.and_false, Bool.false_and, Bool.not_true, Bool.not_false, isZS_0, isZS_1, cW']
  | k + 1, w, G, h, hG => by
    have hW' : cWy [6, c, 0] (stA C [7, 6, c, 0] G) nc nw wa wb wl ws := by
      unfold cWy at hW ⊢
      rw [stA_ne (by simp), stA_ne (by simp), stA_ne (by simp), stA_ne (by simp), stA_ne (by simp)]
      exact hW
    have c0 := hW'.1
    have h24 := hW'.2.2.1
    obtain ⟨p1, p2⟩ := hpn w (by omega)
    obtain ⟨u1, u2⟩ := hpu w (by omega)
    have p2' : (stA C [7, 6, c, 0] G).1 [6, 6, c, 0] w = oN (pn w) := by rw [stA_ne (by simp)]; exact p2
    have u2' : (stA C [7, 6, c, 0] G).1 [8, 6, c, 0] w = oN (pu w) := by rw [stA_ne (by simp)]; exact u2
    have h15 := s_15 (L := L) (xs := xs) hW' (w := w) (pu := pu) (B := B) (by omega) (by omega) (fun v hv => ⟨(hpu v hv).1, by rw [stA_ne (by simp)]; exact (hpu v hv).2⟩)
    have hnb := nbP_le (wa := wa) (wb := wb) (w := w) (k := nw) (fun i hi => (hpu i hi).1)
    obtain ⟨G', g1, g2⟩ := p_loop hB hW hpn hpu k (w + 1) (upd G w (oN (qN wa wb pn pu nw w))) (by omega) (fun j hj => by
      rw [upd_at]
      by_cases y : j = w
      · rw [if_pos y, y]
      · rw [if_neg y]; exact hG j (by omega))
    refine ⟨G', ?_, g2⟩
    rw [h_17_19, ← g1]
    unfold qN
    by_cases y1 : 60 < pn w
    · rw [if_pos y1]
      simp (disch := omega) only [↓Bool.cond_eq_ite, ↓reduceIte, Bool.false_eq_true, eq_self, n_lit, n_neg, n_add, n_mul, n_sub, n_subM, n_div, n_mod, n_addM, m_div, m_subn, n_tN, n_inS, n_eq_t, n_eq_f, n_ne_t, n_ne_f, n_lt_t, n_lt_f, n_ge_t, n_ge_f, n_gt_t, n_gt_f, n_le_t, n_le_f, mn_eq, mn_ne, mn_lt, mn_ge, mn_gt, mn_le, nm_eq, nm_ne, nm_lt, nm_ge, nm_gt, nm_le, n_gts_t, c_eq_refl, c_ne_refl, w_fold, wC_fold, lt_M, cond_true, cond_false, Bool.and_true, Bool.true_and, Bool.and_false, Bool.false_and, Bool.not_true, Bool.not_false, isZS_0, isZS_1, c0, p2', u2', stA_same, stA_w, stA_u]
    · rw [if_neg y1]
      by_cases y2 : 30 ≤ pn w
      · rw [if_pos y2]
        simp (disch := omega) only [↓Bool.cond_eq_ite, ↓reduceIte, Bool.false_eq_true, eq_self, n_lit, n_neg, n_add, n_mul, n_sub, n_subM, n_div, n_mod, n_addM, m_div, m_subn, n_tN, n_inS, n_eq_t, n_eq_f, n_ne_t, n_ne_f, n_lt_t, n_lt_f, n_ge_t, n_ge_f, n_gt_t, n_gt_f, n_le_t, n_le_f, mn_eq, mn_ne, mn_lt, mn_ge, mn_gt, mn_le, nm_eq, nm_ne, nm_lt, nm_ge, nm_gt, nm_le, n_gts_t, c_eq_refl, c_ne_refl, w_fold, wC_fold, lt_M, cond_true, cond_false, Bool.and_true, Bool.true_and, Bool.and_false, Bool.false_and, Bool.not_true, Bool.not_false, isZS_0, isZS_1, c0, p2', u2', h15, Option.bind_some, stA_same, stA_w, stA_u]
      · rw [if_neg y2]
        simp (disch := omega) only [↓Bool.cond_eq_ite, ↓reduceIte, Bool.false_eq_true, eq_self, n_lit, n_neg, n_add, n_mul, n_sub, n_subM, n_div, n_mod, n_addM, m_div, m_subn, n_tN, n_inS, n_eq_t, n_eq_f, n_ne_t, n_ne_f, n_lt_t, n_lt_f, n_ge_t, n_ge_f, n_gt_t, n_gt_f, n_le_t, n_le_f, mn_eq, mn_ne, mn_lt, mn_ge, mn_gt, mn_le, nm_eq, nm_ne, nm_lt, nm_ge, nm_gt, nm_le, n_gts_t, c_eq_refl, c_ne_refl, w_fold, wC_fold, lt_M, cond_true, cond_false, Bool.and_true, Bool.true_and, Bool.and_false, Bool.false_and, Bool.not_true, Bool.not_false, isZS_0, isZS_1, c0, p2', u2', stA_same, stA_w, stA_u]
def hoN (c : Nat) (C : mM) (kd : Nat → Nat) (w : Nat) : Nat → Nat := fun b => if kd b = 0 ∧ C.1 [b, 10, c, 0] 3 = oN w then (C.1 [b, 10, c, 0] 6).toNatClampNeg else 0
theorem ho_nat (hhm : hm ≤ 1000) (hP : rPt [c, 0] (M.1 [1, 1]) C M nc nw nb np nt now td hm kd wa wb wd wl ws) (w : Nat) : ∃ z, z ≤ 40 * hm ∧ sumN (hoF c C kd w) nb = oN z := by
  have b40 := hP.1.2.2.2.2.2.2.2.2.2.2.2.2.2.2.2.1
  have hh : ∀ b, b < nb → ∃ h, h ≤ hm ∧ C.1 [b, 10, c, 0] 6 = oN h := fun b hb => by
    obtain ⟨-, -, ⟨⟨h, h1, h2, -⟩, -⟩, -⟩ := hP.2.2.2.2.2.2.1 b hb
    exact ⟨h, h1, h2⟩
  have hle : ∀ b, (if b < nb then hoN c C kd w b else 0) ≤ hm := fun b => by
    by_cases hb : b < nb
    · rw [if_pos hb]
      unfold hoN
      obtain ⟨h, h1, h2⟩ := hh b hb
      rw [h2, n_tN (by omega)]
      split <;> omega
    · rw [if_neg hb]; omega
  refine ⟨sm (fun b => if b < nb then hoN c C kd w b else 0) nb, ?_, sumN_nat (fun b hb => ?_)⟩
  · have := sm_le hle nb
    have h2 := Nat.mul_le_mul_right hm b40
    omega
  · obtain ⟨h, h1, h2⟩ := hh b hb
    rw [if_pos hb]
    unfold hoF hoN
    by_cases hk : kd b = 0
    · rw [if_pos hk]
      by_cases z : C.1 [b, 10, c, 0] 3 = oN w
      · rw [if_pos z, if_pos ⟨hk, z⟩, h2, n_tN (by omega)]
      · rw [if_neg z, if_neg (fun y => z y.2)]
    · rw [if_neg hk, if_neg (fun y => hk y.1)]
set_option maxHeartbeats 4000000 in
theorem weigh_ok (hhm : hm ≤ 1000) (hP : rPt [c, 0] (M.1 [1, 1]) C M nc nw nb np nt now td hm kd wa wb wd wl ws) : ∃ pn pu C1 C2, kV L xs 23 [vr 2 [c, 0]] C = some C1 ∧ kV L xs 17 [vr 8 [6, c, 0]] C1 = some C2 ∧
    (∀ w, w < nw → pn w ≤ 40 * hm ∧ pu w ≤ 80 * hm ∧ (∃ z, z ≤ 40 * hm ∧ sumN (hoF c C kd w) nb = oN z ∧ z / wd w = pn w) ∧ C.1 [7, 6, c, 0] w = oN (pu w) ∧ C2.1 [6, 6, c, 0] w = oN (pn w) ∧ C2.1 [7, 6, c, 0] w = oN (qN wa wb pn pu nw w)) ∧
    (∀ q, q ≠ [6, 6, c, 0] → q ≠ [7, 6, c, 0] → q ≠ [8, 6, c, 0] → q ≠ [10, 6, c, 0] → C2.1 q = C.1 q) ∧ C2.2 = C.2 := by
  obtain ⟨g1, g2, g3, g4, g5, g6, g7, g8, g9, g10⟩ := hP
  have hP : rPt [c, 0] (M.1 [1, 1]) C M nc nw nb np nt now td hm kd wa wb wd wl ws := ⟨g1, g2, g3, g4, g5, g6, g7, g8, g9, g10⟩
  have hsc := g1
  obtain ⟨cN, cT, cC, cW, cB, cG, cP, S0, S1, S2, S3, S4, S5, b16, b24, b40, b8, b20, b4320⟩ := hsc
  obtain ⟨pu, hpu⟩ := (Classical.skolem (p := fun w k => w < nw → k ≤ 80 * hm ∧ C.1 [7, 6, c, 0] w = oN k)).mp (fun w => by
    by_cases hw : w < nw
    · obtain ⟨-, ⟨k, k1, k2, -⟩, -⟩ := g4 w hw
      exact ⟨k, fun _ => ⟨k1, k2⟩⟩
    · exact ⟨0, fun y => absurd y hw⟩)
  obtain ⟨zn, hzn⟩ := (Classical.skolem (p := fun w z => z ≤ 40 * hm ∧ sumN (hoF c C kd w) nb = oN z)).mp (fun w => ho_nat hhm hP w)
  obtain ⟨F, l1, l2⟩ := load_ok (L := L) (xs := xs) (c := c) (C := C) (nb := nb) (kd := kd) cW ⟨cG, b40, g8⟩ b24 (fun b hb hk => by
    obtain ⟨-, ⟨-, hp⟩, -⟩ := g7 b hb
    rcases hp with ⟨-, u, -, -, -, u4, -⟩ | ⟨-, w, e, tg, w1, -, -, -, -, -, u4, -⟩ | ⟨k4, -⟩ | ⟨k0, -⟩
    · exact .inl u4
    · exact .inr ⟨w, w1, u4⟩
    · omega
    · exact absurd hk k0)
  have hwd : ∀ w, w < nw → 1 ≤ wd w ∧ wd w ≤ 60 ∧ C.1 [3, 6, c, 0] w = oN (wd w) := fun w hw => by
    obtain ⟨-, -, -, wd1, wd60, -, -, -, -, -, -, -, cd, -⟩ := g3 w hw
    exact ⟨wd1, wd60, cd⟩
  have hdiv : ∀ w, zn w / wd w ≤ 40 * hm := fun w => Nat.le_trans (Nat.div_le_self _ _) (hzn w).1
  obtain ⟨G, w1, w2⟩ := w_loop (L := L) (xs := xs) (C := stA C [10, 6, c, 0] F) (c := c) (nw := nw) (wd := wd) (pn := fun w => zn w / wd w) (by rw [stA_ne (by simp)]; exact cW) b24 (fun w hw => by
    obtain ⟨x1, x2, x3⟩ := hwd w hw
    exact ⟨x1, x2, by rw [stA_ne (by simp)]; exact x3⟩) (fun w hw => ⟨zn w, by have := (hzn w).1; omega, by rw [stA_same, l2 w hw]; exact (hzn w).2, rfl⟩) nw 0 ((stA C [10, 6, c, 0] F).1 [6, 6, c, 0]) (by omega) (fun j hj => by omega)
  rw [stA_id] at w1
  have e23 : kV L xs 23 [vr 2 [c, 0]] C = some (stA (stA C [10, 6, c, 0] F) [6, 6, c, 0] G) := kV_of (by
    rw [e_23, l1, Option.bind_some]
    simp only [n_lit]
    exact w1)
  generalize hC1 : stA (stA C [10, 6, c, 0] F) [6, 6, c, 0] G = C1 at e23
  have r1 : ∀ q, q ≠ [6, 6, c, 0] → q ≠ [10, 6, c, 0] → C1.1 q = C.1 q := fun q h1 h2 => by rw [← hC1, stA_ne h1, stA_ne h2]
  have hcp := cpy_t (p0 := [7, 6, c, 0]) (p1 := [8, 6, c, 0]) (f := C1.1) (t0 := 1000024) (t1 := 1000024) (a := 0) (b := 0) (n := nw) rfl rfl (by show 0 + nw ≤ 24; omega) (by show 0 + nw ≤ 24; omega) (by omega) (by omega)
  have hcw := rPt_cWy hP
  have hcwC : cWy [6, c, 0] (wC C1 [7, 6, c, 0] [8, 6, c, 0] 0 0 nw) nc nw wa wb wl ws := by
    unfold cWy at hcw ⊢
    rw [wC_ne (by simp), wC_ne (by simp), wC_ne (by simp), wC_ne (by simp), wC_ne (by simp), r1 _ (by simp) (by simp), r1 _ (by simp) (by simp), r1 _ (by simp) (by simp), r1 _ (by simp) (by simp), r1 _ (by simp) (by simp)]
    exact hcw
  obtain ⟨H, p1, p2⟩ := p_loop (L := L) (xs := xs) (c := c) (C := wC C1 [7, 6, c, 0] [8, 6, c, 0] 0 0 nw) (pn := fun w => zn w / wd w) (pu := pu) (B := 80 * hm) (by omega) hcwC (fun w hw => ⟨by have := hdiv w; omega, by rw [wC_ne (by simp), ← hC1, stA_same]; exact w2 w hw⟩)
    (fun v hv => ⟨(hpu v hv).1, by rw [wC_at, if_pos ⟨rfl, by omega, by omega⟩, r1 _ (by simp) (by simp)]; show C.1 [7, 6, c, 0] (0 + (v - 0)) = _; rw [show 0 + (v - 0) = v by omega]; exact (hpu v hv).2⟩) nw 0 ((wC C1 [7, 6, c, 0] [8, 6, c, 0] 0 0 nw).1 [7, 6, c, 0]) (by omega) (fun j hj => by omega)
  rw [stA_id] at p1
  have c0 : C1.1 [6, c, 0] 0 = oN nw := by rw [r1 _ (by simp) (by simp)]; exact cW
  refine ⟨fun w => zn w / wd w, pu, C1, stA (wC C1 [7, 6, c, 0] [8, 6, c, 0] 0 0 nw) [7, 6, c, 0] H, e23, kV_of ?_, fun w hw => ⟨hdiv w, (hpu w hw).1, ⟨zn w, (hzn w).1, (hzn w).2, rfl⟩, (hpu w hw).2, ?_, ?_⟩, fun q h1 h2 h3 h4 => ?_, ?_⟩
  · rw [e_17]
    simp (disch := omega) only [↓Bool.cond_eq_ite, ↓reduceIte, Bool.false_eq_true, eq_self, n_lit, n_neg, n_add, n_mul, n_sub, n_subM, n_div, n_mod, n_addM, m_div, m_subn, n_tN, n_inS, n_eq_t, n_eq_f, n_ne_t, n_ne_f, n_lt_t, n_lt_f, n_ge_t, n_ge_f, n_gt_t, n_gt_f, n_le_t, n_le_f, mn_eq, mn_ne, mn_lt, mn_ge, mn_gt, mn_le, nm_eq, nm_ne, nm_lt, nm_ge, nm_gt, nm_le, n_gts_t, c_eq_refl, c_ne_refl, w_fold, w_2, wC_fold, lt_M, cond_true, cond_false, Bool.and_true, Bool.true_and, Bool.and_false, Bool.false_and, Bool.not_true, Bool.not_false, isZS_0, isZS_1, c0, hcp, p1]
  · rw [stA_ne (by simp), wC_ne (by simp), ← hC1, stA_same]
    exact w2 w hw
  · rw [stA_same]; exact p2 w hw
  · rw [stA_ne h2, wC_ne h3, r1 _ h1 h4]
  · rw [← hC1]; rfl
end Press2
