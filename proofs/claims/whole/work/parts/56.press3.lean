section Press3
variable {L : Nat} {xs : Nat → Int32} {C M : mM} {c nc nw nb np nt now td hm : Nat} {kd wa wb wd wl ws : Nat → Nat}
theorem mWy_ne {X : mM} (h : ∀ q, q ≠ [41, 1] → X.1 q = M.1 q) (hW : mWy M nc nw wa wb wl ws) : mWy X nc nw wa wb wl ws := by
  unfold mWy at hW ⊢
  rw [h _ (by simp), h [7, 1] (by simp), h [8, 1] (by simp), h [10, 1] (by simp)]
  exact hW
theorem a_loop {pn zn : Nat → Nat} (b24 : nw ≤ 24) (hwd : ∀ w, w < nw → 1 ≤ wd w ∧ wd w ≤ 60 ∧ M.1 [9, 1] w = oN (wd w)) (hz : ∀ w, zn w < 2147483648 ∧ zn w / wd w = pn w) (S1 : M.1 [1, 1] 1 = oN nw)
    (h177 : ∀ S' w, w < nw → (∀ i, (i < 60 ∨ 60 + nw ≤ i) → S' i = M.1 [1, 1] i) → kI L xs 177 [vr 10 [1], vi (oN w)] (stA M [1, 1] S') = some (oN (zn w), stA M [1, 1] S')) : ∀ (k w : Nat) (S' : Nat → Int32), w + k = nw → (∀ j, j < w → S' (60 + j) = oN (pn j)) → (∀ i, (i < 60 ∨ 60 + nw ≤ i) → S' i = M.1 [1, 1] i) →
    ∃ S'', run L xs 207 34 (2, [some (vr 10 [1]), some (vi (oN w)), none, none, none], [], stA M [1, 1] S') = run L xs 207 34 (41, [some (vr 10 [1]), some (vi (oN 0)), none, none, none], [], stA M [1, 1] S'') ∧ (∀ j, j < nw → S'' (60 + j) = oN (pn j)) ∧ (∀ i, (i < 60 ∨ 60 + nw ≤ i) → S'' i = M.1 [1, 1] i)
  | 0, w, S', h, h1, h2 => by
    have s1 : (stA M [1, 1] S').1 [1, 1] 1 = oN nw := by rw [stA_same, h2 1 (by omega)]; exact S1
    refine ⟨S', ?_, fun j hj => h1 j (by omega), h2⟩
    rw [h_207_2]
    simp (disch := omega) only [↓Bool.cond_eq_ite, ↓reduceIte, Bool.false_eq_true, eq_self, n_lit, n_neg, n_add, n_mul, n_sub, n_subM, n_div, n_mod, n_addM, m_div, m_subn, n_tN, n_inS, n_eq_t, n_eq_f, n_ne_t, n_ne_f, n_lt_t, n_lt_f, n_ge_t, n_ge_f, n_gt_t, n_gt_f, n_le_t, n_le_f, mn_eq, mn_ne, mn_lt, mn_ge, mn_gt, mn_le, nm_eq, nm_ne, nm_lt, nm_ge, nm_gt, nm_le, n_gts_t, c_eq_refl, c_ne_refl, w_fold, w_2, wC_fold, lt_M, cond_true, cond_false, Bool.and_true, Bool.true_and, Bool.and_false, Bool.false_and, Bool.not_true, Bool.not_false, isZS_0, isZS_1, s1]
  | k + 1, w, S', h, h1, h2 => by
    have s1 : (stA M [1, 1] S').1 [1, 1] 1 = oN nw := by rw [stA_same, h2 1 (by omega)]; exact S1
    obtain ⟨d1, d2, d3⟩ := hwd w (by omega)
    have d3' : (stA M [1, 1] S').1 [9, 1] w = oN (wd w) := by rw [stA_ne (by simp)]; exact d3
    obtain ⟨z1, z2⟩ := hz w
    have hk := h177 S' w (by omega) h2
    obtain ⟨S'', g1, g2, g3⟩ := a_loop b24 hwd hz S1 h177 k (w + 1) (upd S' (60 + w) (oN (pn w))) (by omega) (fun j hj => by
      rw [upd_at]
      by_cases y : j = w
      · rw [if_pos (by omega), y]
      · rw [if_neg (by omega)]; exact h1 j (by omega)) (fun i hi => by
      rw [upd_at, if_neg (by omega)]; exact h2 i hi)
    refine ⟨S'', ?_, g2, g3⟩
    rw [h_207_2, ← g1]
    simp (disch := omega) only [↓Bool.cond_eq_ite, ↓reduceIte, Bool.false_eq_true, eq_self, n_lit, n_neg, n_add, n_mul, n_sub, n_subM, n_div, n_mod, n_addM, m_div, m_subn, n_tN, n_inS, n_eq_t, n_eq_f, n_ne_t, n_ne_f, n_lt_t, n_lt_f, n_ge_t, n_ge_f, n_gt_t, n_gt_f, n_le_t, n_le_f, mn_eq, mn_ne, mn_lt, mn_ge, mn_gt, mn_le, nm_eq, nm_ne, nm_lt, nm_ge, nm_gt, nm_le, n_gts_t, c_eq_refl, c_ne_refl, w_fold, wC_fold, lt_M, cond_true, cond_false, Bool.and_true, Bool.true_and, Bool.and_false, Bool.false_and, Bool.not_true, Bool.not_false, isZS_0, isZS_1, s1, hk, Option.bind_some, d3', z2, stA_w, stA_u]
theorem b_in {X : mM} {pn pu : Nat → Nat} {B w : Nat} (hB : B < 1000000) (hW : mWy X nc nw wa wb wl ws) (hw : w < nw) (hpn : pn w ≤ B) (hpu : ∀ v, v < nw → pu v ≤ B ∧ X.1 [1, 1] (90 + v) = oN (pu v)) : ∀ (k v : Nat), v + k = nw →
    run L xs 207 34 (66, [some (vr 10 [1]), some (vi (oN w)), some (vi (oN (pn w))), some (vi (oN (nbP wa wb pu w v))), some (vi (oN v))], [], X) = run L xs 207 34 (41, [some (vr 10 [1]), some (vi (oN (w + 1))), none, none, none], [], wI X [41, 1] w (oN (qN wa wb pn pu nw w)))
  | 0, v, h => by
    have hv : v = nw := by omega
    subst hv
    obtain ⟨c0, h16, h24, hw0⟩ := hW
    have hnb := nbP_le (wa := wa) (wb := wb) (w := w) (k := v) (fun i hi => (hpu i hi).1)
    obtain ⟨u1, u2⟩ := hpu w hw
    rw [h_207_66]
    unfold qN
    by_cases y1 : 60 < pn w
    · rw [if_pos y1]
      simp (disch := omega) only [↓Bool.cond_eq_ite, ↓reduceIte, Bool.false_eq_true, eq_self, n_lit, n_neg, n_add, n_mul, n_sub, n_subM, n_div, n_mod, n_addM, m_div, m_subn, n_tN, n_inS, n_eq_t, n_eq_f, n_ne_t, n_ne_f, n_lt_t, n_lt_f, n_ge_t, n_ge_f, n_gt_t, n_gt_f, n_le_t, n_le_f, mn_eq, mn_ne, mn_lt, mn_ge, mn_gt, mn_le, nm_eq, nm_ne, nm_lt, nm_ge, nm_gt, nm_le, n_gts_t, c_eq_refl, c_ne_refl, w_fold, w_2, wC_fold, lt_M, cond_true, cond_false, Bool.and_true, Bool.true_and, Bool.and_false, Bool.false_and, Bool.not_true, Bool.not_false, isZS_0, isZS_1, c0, u2]
    · rw [if_neg y1]
      by_cases y2 : 30 ≤ pn w
      · rw [if_pos y2]
        simp (disch := omega) only [↓Bool.cond_eq_ite, ↓reduceIte, Bool.false_eq_true, eq_self, n_lit, n_neg, n_add, n_mul, n_sub, n_subM, n_div, n_mod, n_addM, m_div, m_subn, n_tN, n_inS, n_eq_t, n_eq_f, n_ne_t, n_ne_f, n_lt_t, n_lt_f, n_ge_t, n_ge_f, n_gt_t, n_gt_f, n_le_t, n_le_f, mn_eq, mn_ne, mn_lt, mn_ge, mn_gt, mn_le, nm_eq, nm_ne, nm_lt, nm_ge, nm_gt, nm_le, n_gts_t, c_eq_refl, c_ne_refl, w_fold, w_2, wC_fold, lt_M, cond_true, cond_false, Bool.and_true, Bool.true_and, Bool.and_false, Bool.false_and, Bool.not_true, Bool.not_false, isZS_0, isZS_1, c0, u2]
      · rw [if_neg y2]
        simp (disch := omega) only [↓Bool.cond_eq_ite, ↓reduceIte, Bool.false_eq_true, eq_self, n_lit, n_neg, n_add, n_mul, n_sub, n_subM, n_div, n_mod, n_addM, m_div, m_subn, n_tN, n_inS, n_eq_t, n_eq_f, n_ne_t, n_ne_f, n_lt_t, n_lt_f, n_ge_t, n_ge_f, n_gt_t, n_gt_f, n_le_t, n_le_f, mn_eq, mn_ne, mn_lt, mn_ge, mn_gt, mn_le, nm_eq, nm_ne, nm_lt, nm_ge, nm_gt, nm_le, n_gts_t, c_eq_refl, c_ne_refl, w_fold, w_2, wC_fold, lt_M, cond_true, cond_false, Bool.and_true, Bool.true_and, Bool.and_false, Bool.false_and, Bool.not_true, Bool.not_false, isZS_0, isZS_1, c0, u2]
  | k + 1, v, h => by
    have hi := b_in (w := w) hB hW hw hpn hpu k (v + 1) (by omega)
    have hW' := hW
    obtain ⟨c0, h16, h24, hw0⟩ := hW'
    have hnb := nbP_le (wa := wa) (wb := wb) (w := w) (k := v) (fun i hi => (hpu i (by omega)).1)
    obtain ⟨u1, u2⟩ := hpu v (by omega)
    have h237 := s_237 (L := L) (xs := xs) hW hw (show v < nw by omega)
    have hnv : nbP wa wb pu w (v + 1) = if v ≠ w ∧ nbP wa wb pu w v < pu v ∧ tch wa wb w v = true then pu v else nbP wa wb pu w v := rfl
    rw [hnv] at hi
    rw [h_207_66]
    by_cases y1 : v = w
    · rw [if_neg (by omega)] at hi
      simp (disch := omega) only [↓Bool.cond_eq_ite, ↓reduceIte, Bool.false_eq_true, eq_self, n_lit, n_neg, n_add, n_mul, n_sub, n_subM, n_div, n_mod, n_addM, m_div, m_subn, n_tN, n_inS, n_eq_t, n_eq_f, n_ne_t, n_ne_f, n_lt_t, n_lt_f, n_ge_t, n_ge_f, n_gt_t, n_gt_f, n_le_t, n_le_f, mn_eq, mn_ne, mn_lt, mn_ge, mn_gt, mn_le, nm_eq, nm_ne, nm_lt, nm_ge, nm_gt, nm_le, n_gts_t, c_eq_refl, c_ne_refl, w_fold, w_2, wC_fold, lt_M, cond_true, cond_false, Bool.and_true, Bool.true_and, Bool.and_false, Bool.false_and, Bool.not_true, Bool.not_false, isZS_0, isZS_1, c0, h_207_120]
      exact hi
    · by_cases y3 : tch wa wb w v = true
      · rw [if_pos y3] at h237
        by_cases y2 : nbP wa wb pu w v < pu v
        · rw [if_pos ⟨y1, y2, y3⟩] at hi
          rw [h237, Option.bind_some]
          simp (disch := omega) only [↓Bool.cond_eq_ite, ↓reduceIte, Bool.false_eq_true, eq_self, n_lit, n_neg, n_add, n_mul, n_sub, n_subM, n_div, n_mod, n_addM, m_div, m_subn, n_tN, n_inS, n_eq_t, n_eq_f, n_ne_t, n_ne_f, n_lt_t, n_lt_f, n_ge_t, n_ge_f, n_gt_t, n_gt_f, n_le_t, n_le_f, mn_eq, mn_ne, mn_lt, mn_ge, mn_gt, mn_le, nm_eq, nm_ne, nm_lt, nm_ge, nm_gt, nm_le, n_gts_t, c_eq_refl, c_ne_refl, w_fold, w_2, wC_fold, lt_M, cond_true, cond_false, Bool.and_true, Bool.true_and, Bool.and_false, Bool.false_and, Bool.not_true, Bool.not_false, isZS_0, isZS_1, c0, u2]
          exact hi
        · rw [if_neg (fun y => y2 y.2.1)] at hi
          rw [h237, Option.bind_some]
          simp (disch := omega) only [↓Bool.cond_eq_ite, ↓reduceIte, Bool.false_eq_true, eq_self, n_lit, n_neg, n_add, n_mul, n_sub, n_subM, n_div, n_mod, n_addM, m_div, m_subn, n_tN, n_inS, n_eq_t, n_eq_f, n_ne_t, n_ne_f, n_lt_t, n_lt_f, n_ge_t, n_ge_f, n_gt_t, n_gt_f, n_le_t, n_le_f, mn_eq, mn_ne, mn_lt, mn_ge, mn_gt, mn_le, nm_eq, nm_ne, nm_lt, nm_ge, nm_gt, nm_le, n_gts_t, c_eq_refl, c_ne_refl, w_fold, w_2, wC_fold, lt_M, cond_true, cond_false, Bool.and_true, Bool.true_and, Bool.and_false, Bool.false_and, Bool.not_true, Bool.not_false, isZS_0, isZS_1, c0, u2, h_207_120]
          exact hi
      · rw [if_neg y3] at h237
        rw [if_neg (fun y => y3 y.2.2)] at hi
        rw [h237, Option.bind_some]
        simp (disch := omega) only [↓Bool.cond_eq_ite, ↓reduceIte, Bool.false_eq_true, eq_self, n_lit, n_neg, n_add, n_mul, n_sub, n_subM, n_div, n_mod, n_addM, m_div, m_subn, n_tN, n_inS, n_eq_t, n_eq_f, n_ne_t, n_ne_f, n_lt_t, n_lt_f, n_ge_t, n_ge_f, n_gt_t, n_gt_f, n_le_t, n_le_f, mn_eq, mn_ne, mn_lt, mn_ge, mn_gt, mn_le, nm_eq, nm_ne, nm_lt, nm_ge, nm_gt, nm_le, n_gts_t, c_eq_refl, c_ne_refl, w_fold, w_2, wC_fold, lt_M, cond_true, cond_false, Bool.and_true, Bool.true_and, Bool.and_false, Bool.false_and, Bool.not_true, Bool.not_false, isZS_0, isZS_1, c0, h_207_120]
        exact hi
theorem b_loop {pn pu : Nat → Nat} {B : Nat} (hB : B < 1000000) (hW : mWy M nc nw wa wb wl ws) (hpn : ∀ w, w < nw → pn w ≤ B ∧ M.1 [1, 1] (60 + w) = oN (pn w)) (hpu : ∀ v, v < nw → pu v ≤ B ∧ M.1 [1, 1] (90 + v) = oN (pu v)) : ∀ (k w : Nat) (G : Nat → Int32), w + k = nw → (∀ j, j < w → G j = oN (qN wa wb pn pu nw j)) →
    ∃ G', run L xs 207 34 (41, [some (vr 10 [1]), some (vi (oN w)), none, none, none], [], stA M [41, 1] G) = run L xs 207 34 (180, [some (vr 10 [1]), some (vi (oN 0)), none, none, none], [], stA M [41, 1] G') ∧ ∀ j, j < nw → G' j = oN (qN wa wb pn pu nw j)
  | 0, w, G, h, hG => by
    obtain ⟨c0, h16, h24, hw0⟩ := hW
    have c0' : (stA M [41, 1] G).1 [1, 1] 1 = oN nw := by rw [stA_ne (by simp)]; exact c0
    refine ⟨G, ?_, fun j hj => hG j (by omega)⟩
    rw [h_207_41]
    simp (disch := omega) only [↓Bool.cond_eq_ite, ↓reduceIte, Bool.false_eq_true, eq_self, n_lit, n_neg, n_add, n_mul, n_sub, n_subM, n_div, n_mod, n_addM, m_div, m_subn, n_tN, n_inS, n_eq_t, n_eq_f, n_ne_t, n_ne_f, n_lt_t, n_lt_f, n_ge_t, n_ge_f, n_gt_t, n_gt_f, n_le_t, n_le_f, mn_eq, mn_ne, mn_lt, mn_ge, mn_gt, mn_le, nm_eq, nm_ne, nm_lt, nm_ge, nm_gt, nm_le, n_gts_t, c_eq_refl, c_ne_refl, w_fold, w_2, wC_fold, lt_M, cond_true, cond_false, Bool.and_true, Bool.true_and, Bool.and_false, Bool.false_and, Bool.not_true, Bool.not_false, isZS_0, isZS_1, c0']
  | k + 1, w, G, h, hG => by
    have hW' : mWy (stA M [41, 1] G) nc nw wa wb wl ws := mWy_ne (fun q hq => stA_ne hq) hW
    have c0 := hW'.1
    have h24 := hW'.2.2.1
    obtain ⟨p1, p2⟩ := hpn w (by omega)
    have p2' : (stA M [41, 1] G).1 [1, 1] (60 + w) = oN (pn w) := by rw [stA_ne (by simp)]; exact p2
    have hin := b_in (L := L) (xs := xs) (w := w) (pn := pn) hB hW' (by omega) p1 (fun v hv => ⟨(hpu v hv).1, by rw [stA_ne (by simp)]; exact (hpu v hv).2⟩) nw 0 (by omega)
    obtain ⟨G', g1, g2⟩ := b_loop hB hW hpn hpu k (w + 1) (upd G w (oN (qN wa wb pn pu nw w))) (by omega) (fun j hj => by
      rw [upd_at]
      by_cases y : j = w
      · rw [if_pos y, y]
      · rw [if_neg y]; exact hG j (by omega))
    refine ⟨G', ?_, g2⟩
    rw [h_207_41, ← g1, ← stA_w, ← hin]
    simp (disch := omega) only [↓Bool.cond_eq_ite, ↓reduceIte, Bool.false_eq_true, eq_self, n_lit, n_neg, n_add, n_mul, n_sub, n_subM, n_div, n_mod, n_addM, m_div, m_subn, n_tN, n_inS, n_eq_t, n_eq_f, n_ne_t, n_ne_f, n_lt_t, n_lt_f, n_ge_t, n_ge_f, n_gt_t, n_gt_f, n_le_t, n_le_f, mn_eq, mn_ne, mn_lt, mn_ge, mn_gt, mn_le, nm_eq, nm_ne, nm_lt, nm_ge, nm_gt, nm_le, n_gts_t, c_eq_refl, c_ne_refl, w_fold, w_2, wC_fold, lt_M, cond_true, cond_false, Bool.and_true, Bool.true_and, Bool.and_false, Bool.false_and, Bool.not_true, Bool.not_false, isZS_0, isZS_1, c0, p2']
    rfl
theorem c_loop {qn : Nat → Nat} (b24 : nw ≤ 24) (S1 : M.1 [1, 1] 1 = oN nw) (hq : ∀ j, j < nw → M.1 [41, 1] j = oN (qn j)) : ∀ (k w : Nat) (S' : Nat → Int32), w + k = nw → (∀ j, j < w → S' (90 + j) = oN (qn j)) → (∀ i, (i < 90 ∨ 90 + nw ≤ i) → S' i = M.1 [1, 1] i) →
    ∃ S'', run L xs 207 34 (180, [some (vr 10 [1]), some (vi (oN w)), none, none, none], [], stA M [1, 1] S') = run L xs 207 34 (213, [some (vr 10 [1]), some (vi (oN 0)), none, none, none], [], stA M [1, 1] S'') ∧ (∀ j, j < nw → S'' (90 + j) = oN (qn j)) ∧ (∀ i, (i < 90 ∨ 90 + nw ≤ i) → S'' i = M.1 [1, 1] i)
  | 0, w, S', h, h1, h2 => by
    have s1 : (stA M [1, 1] S').1 [1, 1] 1 = oN nw := by rw [stA_same, h2 1 (by omega)]; exact S1
    refine ⟨S', ?_, fun j hj => h1 j (by omega), h2⟩
    rw [h_207_180]
    simp (disch := omega) only [↓Bool.cond_eq_ite, ↓reduceIte, Bool.false_eq_true, eq_self, n_lit, n_neg, n_add, n_mul, n_sub, n_subM, n_div, n_mod, n_addM, m_div, m_subn, n_tN, n_inS, n_eq_t, n_eq_f, n_ne_t, n_ne_f, n_lt_t, n_lt_f, n_ge_t, n_ge_f, n_gt_t, n_gt_f, n_le_t, n_le_f, mn_eq, mn_ne, mn_lt, mn_ge, mn_gt, mn_le, nm_eq, nm_ne, nm_lt, nm_ge, nm_gt, nm_le, n_gts_t, c_eq_refl, c_ne_refl, w_fold, w_2, wC_fold, lt_M, cond_true, cond_false, Bool.and_true, Bool.true_and, Bool.and_false, Bool.false_and, Bool.not_true, Bool.not_false, isZS_0, isZS_1, s1]
  | k + 1, w, S', h, h1, h2 => by
    have s1 : (stA M [1, 1] S').1 [1, 1] 1 = oN nw := by rw [stA_same, h2 1 (by omega)]; exact S1
    have q1 : (stA M [1, 1] S').1 [41, 1] w = oN (qn w) := by rw [stA_ne (by simp)]; exact hq w (by omega)
    obtain ⟨S'', g1, g2, g3⟩ := c_loop b24 S1 hq k (w + 1) (upd S' (90 + w) (oN (qn w))) (by omega) (fun j hj => by
      rw [upd_at]
      by_cases y : j = w
      · rw [if_pos (by omega), y]
      · rw [if_neg (by omega)]; exact h1 j (by omega)) (fun i hi => by
      rw [upd_at, if_neg (by omega)]; exact h2 i hi)
    refine ⟨S'', ?_, g2, g3⟩
    rw [h_207_180, ← g1]
    simp (disch := omega) only [↓Bool.cond_eq_ite, ↓reduceIte, Bool.false_eq_true, eq_self, n_lit, n_neg, n_add, n_mul, n_sub, n_subM, n_div, n_mod, n_addM, m_div, m_subn, n_tN, n_inS, n_eq_t, n_eq_f, n_ne_t, n_ne_f, n_lt_t, n_lt_f, n_ge_t, n_ge_f, n_gt_t, n_gt_f, n_le_t, n_le_f, mn_eq, mn_ne, mn_lt, mn_ge, mn_gt, mn_le, nm_eq, nm_ne, nm_lt, nm_ge, nm_gt, nm_le, n_gts_t, c_eq_refl, c_ne_refl, w_fold, wC_fold, lt_M, cond_true, cond_false, Bool.and_true, Bool.true_and, Bool.and_false, Bool.false_and, Bool.not_true, Bool.not_false, isZS_0, isZS_1, s1, q1, stA_w, stA_u]
end Press3
