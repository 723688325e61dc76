section Mind2
variable {L : Nat} {xs : Nat → Int32} {C C' M M' : mM} {S S' : Nat → Int32} {c nc nw nb np nt now td hm : Nat} {kd wa wb wd wl ws : Nat → Nat}
theorem agC_fr (h : frC [2, 0] C C') : agC C C' := by
  have h2 : ∀ (t : List Nat) (a b : Nat), (a ≠ 2 ∨ b ≠ 0) → (a ≠ 4 ∨ b ≠ 0) → C'.1 (t ++ [a, b]) = C.1 (t ++ [a, b]) := fun t a b h1 h2 => h.1 _ (fun u e => by have := sf_t e; omega) (fun e => by
    have := congrArg (fun l => l.reverse.take 2) e
    simp at this; omega)
  have h4 : ∀ k, k ≠ 8 → C'.1 [k, 4, 0] = C.1 [k, 4, 0] := fun k hk => h.1 _ (fun u e => by
    have := congrArg (fun l => l.reverse.take 2) e
    simp at this) (by simp [hk])
  refine ⟨fun t => h2 t 0 0 (by omega) (by omega), fun t => h2 t 1 0 (by omega) (by omega), ?_, h4 0 (by omega), h4 1 (by omega), h2 [0] 5 0 (by omega) (by omega), by rw [h.2], fun t => h2 t 6 0 (by omega) (by omega)⟩
  rw [h.1 [0] (fun u e => by have := congrArg List.length e; simp at this) (by simp)]
theorem rIx_ag (hC : agC C C') (hM : agM M M') (h : rIx L xs C M nc nw nb np nt now hm kd wa wb wd wl ws) : rIx L xs C' M' nc nw nb np nt now hm kd wa wb wd wl ws := by
  obtain ⟨h1, h2, h3, h4, h5, h6⟩ := h
  obtain ⟨a1, a2, a3, a4, a5, a6, a7, a8⟩ := hC
  obtain ⟨b1, b2, b3, b4, b5, b6, b7⟩ := hM
  have hg := mAg_of (M := M) (M' := M') (nc := nc) (nw := nw) (nb := nb) (np := np) (fun k h1 h2 => b3 k h1 (by omega))
  refine ⟨rP_congr a1 b1 hg h1, rIm_congr a2 a3 b5 (fun i _ => by rw [b2]) hg (Nat.le_refl _) (Nat.le_refl _) (Nat.le_refl _) (Nat.le_refl _) (Nat.le_refl _) (Nat.le_refl _) h2, ?_, ?_, ?_, ?_⟩
  · exact rHi_congr a6 a7 (b3 20 (by omega) (by omega)) (b3 21 (by omega) (by omega)) (b3 22 (by omega) (by omega)) (b3 23 (by omega) (by omega)) (b3 24 (by omega) (by omega)) (b3 25 (by omega) (by omega)) (fun b _ => by rw [b3 16 (by omega) (by omega)]) h3
  · exact rTx_congr a4 a5 (b3 18 (by omega) (by omega)) (b3 19 (by omega) (by omega)) h4
  · exact rSh_congr a8 (b4 52 (by omega) (by omega)) (b4 53 (by omega) (by omega)) (b4 54 (by omega) (by omega)) (b4 55 (by omega) (by omega)) (b4 56 (by omega) (by omega)) b7 h5
  · rw [b6]; exact h6
set_option maxRecDepth 8000 in
theorem mind_ok (hhm : hm ≤ 1000) {n s : Nat} {a : Int32} (hn : n ≤ 120) (hnow : now + n ≤ 4320) (hs : s ≤ 3) (ha : a = oM 1 ∨ ∃ w, w < nw ∧ a = oN w) (hx : rIx L xs C M nc nw nb np nt now hm kd wa wb wd wl ws) :
    ∃ vm M', kI L xs 249 [vr 10 [1], vi a, vi (oN s), vi (oN n)] M = some (oN vm, M') ∧ vm ≤ 100000 ∧ agM M M' ∧
      ∀ lim, lim < 2147483648 → ∃ vc C', kI L xs 145 [vr 9 [0], vi a, vi (oN s), vi (oN n), vi (oN lim)] C = some (oN vc, C') ∧ vc ≤ 100000 ∧ agC C C' ∧ (vc = vm ∨ (lim ≤ vc ∧ lim ≤ vm)) := by
  obtain ⟨hP, hIm, hHi, hTx, hSh, h26⟩ := hx
  obtain ⟨C1, na, c1, c2, c3⟩ := copy_ok (L := L) (xs := xs) (pc := 2) (qc := 0) (by omega) hP
  have hP1 : rP [2, 0] (M.1 [1, 1]) C1 M nc nw nb np nt now hm kd wa wb wd wl ws := rP_cp c3 c2 hP
  have hf1 : frC [2, 0] C C1 := ⟨fun q h _ => c2.2.1 q h, c2.1⟩
  obtain ⟨H, m1, m2⟩ := s_249a (L := L) (xs := xs) (M := M) (l1 := a) (l2 := oN s) (l3 := oN n) 1600 0 (M.1 [3, 1]) (by omega) (fun j hj => by omega)
  rw [stA_id] at m1
  have b24 : nw ≤ 24 := hP.1.2.2.2.2.2.2.2.2.2.2.2.2.2.2.1
  have key : ∃ Cx Mx ws', (∀ lim : Int32, call L xs 145 [vr 9 [0], vi a, vi (oN s), vi (oN n), vi lim] C = run L xs 145 30 (34, [some (vr 9 [0]), none, none, some (vi (oN n)), some (vi lim), some (vi (oN 0)), some (vi (oN 0))], [], Cx)) ∧
      (call L xs 249 [vr 10 [1], vi a, vi (oN s), vi (oN n)] M = ((kI L xs 174 [vr 10 [1], vi (oN n)] Mx).bind fun z => run L xs 249 37 (65, [some (vr 10 [1]), none, none, none, some (vi z.1), some (vi (oN 0))], [], wI z.2 [1] 26 (oN 0)))) ∧
      rP [2, 0] (Mx.1 [1, 1]) Cx Mx nc nw nb np nt now hm kd wa wb wd wl ws' ∧ frC [2, 0] C Cx ∧ (∀ q, q ≠ [3, 1] → q ≠ [1, 1] → q ≠ [1] → Mx.1 q = M.1 q) ∧ Mx.1 [3, 1] = H ∧ Mx.1 [1] 26 = oN 1 ∧ Mx.1 [1] 4 = M.1 [1] 4 ∧ Mx.2 = M.2 := by
    rcases ha with e | ⟨w, hw, e⟩
    · subst e
      refine ⟨C1, wI (stA M [3, 1] H) [1] 26 (oN 1), ws, fun lim => ?_, ?_, ?_, hf1, fun q h1 h2 h3 => by rw [w_ne h3, stA_ne h1], by rw [w_ne (by simp), stA_same], by rw [w_at, if_pos ⟨rfl, rfl⟩], by rw [w_ne_k (by omega), stA_ne (by simp)], rfl⟩
      · rw [e_145]
        simp (disch := omega) only [↓Bool.cond_eq_ite, ↓reduceIte, Bool.false_eq_true, eq_self, n_lit, n_neg, n_add, n_mul, n_sub, n_subM, n_div, n_mod, n_addM, m_div, m_subn, n_tN, n_inS, n_eq_t, n_eq_f, n_ne_t, n_ne_f, n_lt_t, n_lt_f, n_ge_t, n_ge_f, n_gt_t, n_gt_f, n_le_t, n_le_f, mn_eq, mn_ne, mn_lt, mn_ge, mn_gt, mn_le, nm_eq, nm_ne, nm_lt, nm_ge, nm_gt, nm_le, n_gts_t, c_eq_refl, c_ne_refl, w_fold, wC_fold, lt_M, cond_true, cond_false, Bool.and_true, Bool.true_and, Bool.and_false, Bool.false_and, Bool.not_true, Bool.not_false, isZS_0, isZS_1, c1, Option.bind_some]
      · rw [e_249]
        simp only [n_lit]
        rw [m1, h_249_3]
        simp (disch := omega) only [↓Bool.cond_eq_ite, ↓reduceIte, Bool.false_eq_true, eq_self, n_lit, n_neg, n_add, n_mul, n_sub, n_subM, n_div, n_mod, n_addM, m_div, m_subn, n_tN, n_inS, n_eq_t, n_eq_f, n_ne_t, n_ne_f, n_lt_t, n_lt_f, n_ge_t, n_ge_f, n_gt_t, n_gt_f, n_le_t, n_le_f, mn_eq, mn_ne, mn_lt, mn_ge, mn_gt, mn_le, nm_eq, nm_ne, nm_lt, nm_ge, nm_gt, nm_le, n_gts_t, c_eq_refl, c_ne_refl, w_fold, wC_fold, lt_M, cond_true, cond_false, Bool.and_true, Bool.true_and, Bool.and_false, Bool.false_and, Bool.not_true, Bool.not_false, isZS_0, isZS_1]
      · refine rP_congr (fun t => rfl) (fun i _ => ?_) (mAg_of (fun k h1 h2 => ?_)) hP1
        · rw [w_ne (by simp), stA_ne (by simp)]
        · rw [w_ne (by simp), stA_ne (by simp; omega)]
    · subst e
      have hk5 : C1.1 [5, 6, 2, 0] w = oN (ws w) := by
        obtain ⟨-, -, -, -, -, -, -, -, -, -, -, -, -, -, -, -, cs, -⟩ := hP1.2.2.1 w hw
        exact cs
      have hws : ws w ≤ 3 := (hP1.2.2.1 w hw).2.2.2.2.2.2.2.1
      have hMx : ∀ Cx : mM, (∀ q, q ≠ [5, 6, 2, 0] → q ≠ [6, 2, 0] → Cx.1 q = C1.1 q) → Cx.1 [5, 6, 2, 0] w = oN s → (∀ j, j ≠ w → Cx.1 [5, 6, 2, 0] j = C1.1 [5, 6, 2, 0] j) → (∀ j, j ≠ 11 → Cx.1 [6, 2, 0] j = C1.1 [6, 2, 0] j) → (Cx.1 [6, 2, 0] 11 = oN 0 ∨ (Cx.1 [6, 2, 0] 11 = C1.1 [6, 2, 0] 11 ∧ ws w = s)) →
          rP [2, 0] ((wI (wI (stA M [3, 1] H) [1, 1] (30 + w) (oN s)) [1] 26 (oN 1)).1 [1, 1]) Cx (wI (wI (stA M [3, 1] H) [1, 1] (30 + w) (oN s)) [1] 26 (oN 1)) nc nw nb np nt now hm kd wa wb wd wl (updN ws w s) := fun Cx h1 h2 h3 h4 h5 => by
        refine rP_sign (C := C1) (S := M.1 [1, 1]) (M := M) hw hs h1 h2 h3 h4 h5 ?_ (fun i _ hi => ?_) (fun k k1 k2 => ?_) hP1
        · rw [w_ne (by simp), w_at, if_pos ⟨rfl, rfl⟩]
        · rw [w_ne (by simp), w_ne_k hi, stA_ne (by simp)]
        · rw [w_ne (by simp), w_ne (by simp; omega), stA_ne (by simp; omega)]
      have mo : call L xs 249 [vr 10 [1], vi (oN w), vi (oN s), vi (oN n)] M = ((kI L xs 174 [vr 10 [1], vi (oN n)] (wI (wI (stA M [3, 1] H) [1, 1] (30 + w) (oN s)) [1] 26 (oN 1))).bind fun z => run L xs 249 37 (65, [some (vr 10 [1]), none, none, none, some (vi z.1), some (vi (oN 0))], [], wI z.2 [1] 26 (oN 0))) := by
        rw [e_249]
        simp only [n_lit]
        rw [m1, h_249_3]
        simp (disch := omega) only [↓Bool.cond_eq_ite, ↓reduceIte, Bool.false_eq_true, eq_self, n_lit, n_neg, n_add, n_mul, n_sub, n_subM, n_div, n_mod, n_addM, m_div, m_subn, n_tN, n_inS, n_eq_t, n_eq_f, n_ne_t, n_ne_f, n_lt_t, n_lt_f, n_ge_t, n_ge_f, n_gt_t, n_gt_f, n_le_t, n_le_f, mn_eq, mn_ne, mn_lt, mn_ge, mn_gt, mn_le, nm_eq, nm_ne, nm_lt, nm_ge, nm_gt, nm_le, n_gts_t, c_eq_refl, c_ne_refl, w_fold, wC_fold, lt_M, cond_true, cond_false, Bool.and_true, Bool.true_and, Bool.and_false, Bool.false_and, Bool.not_true, Bool.not_false, isZS_0, isZS_1]
      have rest : (∀ q, q ≠ [3, 1] → q ≠ [1, 1] → q ≠ [1] → (wI (wI (stA M [3, 1] H) [1, 1] (30 + w) (oN s)) [1] 26 (oN 1)).1 q = M.1 q) ∧ (wI (wI (stA M [3, 1] H) [1, 1] (30 + w) (oN s)) [1] 26 (oN 1)).1 [3, 1] = H ∧ (wI (wI (stA M [3, 1] H) [1, 1] (30 + w) (oN s)) [1] 26 (oN 1)).1 [1] 26 = oN 1 ∧ (wI (wI (stA M [3, 1] H) [1, 1] (30 + w) (oN s)) [1] 26 (oN 1)).1 [1] 4 = M.1 [1] 4 ∧ (wI (wI (stA M [3, 1] H) [1, 1] (30 + w) (oN s)) [1] 26 (oN 1)).2 = M.2 :=
        ⟨fun q h1 h2 h3 => by rw [w_ne h3, w_ne h2, stA_ne h1], by rw [w_ne (by simp), w_ne (by simp), stA_same], by rw [w_at, if_pos ⟨rfl, rfl⟩], by rw [w_ne_k (by omega), w_ne (by simp), stA_ne (by simp)], rfl⟩
      by_cases hsw : ws w = s
      · refine ⟨wI C1 [5, 6, 2, 0] w (oN s), wI (wI (stA M [3, 1] H) [1, 1] (30 + w) (oN s)) [1] 26 (oN 1), updN ws w s, fun lim => ?_, mo, hMx _ (fun q h1 _ => w_ne h1) (by rw [w_at, if_pos ⟨rfl, rfl⟩]) (fun j hj => w_ne_k hj) (fun j _ => by rw [w_ne (by simp)]) (.inr ⟨by rw [w_ne (by simp)], hsw⟩), frC_trans hf1 (frC_w (u := [5, 6])), rest⟩
        rw [e_145]
        simp (disch := omega) only [↓Bool.cond_eq_ite, ↓reduceIte, Bool.false_eq_true, eq_self, n_lit, n_neg, n_add, n_mul, n_sub, n_subM, n_div, n_mod, n_addM, m_div, m_subn, n_tN, n_inS, n_eq_t, n_eq_f, n_ne_t, n_ne_f, n_lt_t, n_lt_f, n_ge_t, n_ge_f, n_gt_t, n_gt_f, n_le_t, n_le_f, mn_eq, mn_ne, mn_lt, mn_ge, mn_gt, mn_le, nm_eq, nm_ne, nm_lt, nm_ge, nm_gt, nm_le, n_gts_t, c_eq_refl, c_ne_refl, w_fold, wC_fold, lt_M, cond_true, cond_false, Bool.and_true, Bool.true_and, Bool.and_false, Bool.false_and, Bool.not_true, Bool.not_false, isZS_0, isZS_1, c1, hk5, hsw, Option.bind_some]
      · refine ⟨wI (wI C1 [5, 6, 2, 0] w (oN s)) [6, 2, 0] 11 (oN 0), wI (wI (stA M [3, 1] H) [1, 1] (30 + w) (oN s)) [1] 26 (oN 1), updN ws w s, fun lim => ?_, mo, hMx _ (fun q h1 h2 => by rw [w_ne h2, w_ne h1]) (by rw [w_ne (by simp), w_at, if_pos ⟨rfl, rfl⟩]) (fun j hj => by rw [w_ne (by simp), w_ne_k hj]) (fun j hj => by rw [w_ne_k hj, w_ne (by simp)]) (.inl (by rw [w_at, if_pos ⟨rfl, rfl⟩])), frC_trans hf1 (frC_trans (frC_w (u := [5, 6])) (frC_w (u := [6]))), rest⟩
        rw [e_145]
        simp (disch := omega) only [↓Bool.cond_eq_ite, ↓reduceIte, Bool.false_eq_true, eq_self, n_lit, n_neg, n_add, n_mul, n_sub, n_subM, n_div, n_mod, n_addM, m_div, m_subn, n_tN, n_inS, n_eq_t, n_eq_f, n_ne_t, n_ne_f, n_lt_t, n_lt_f, n_ge_t, n_ge_f, n_gt_t, n_gt_f, n_le_t, n_le_f, mn_eq, mn_ne, mn_lt, mn_ge, mn_gt, mn_le, nm_eq, nm_ne, nm_lt, nm_ge, nm_gt, nm_le, n_gts_t, c_eq_refl, c_ne_refl, w_fold, wC_fold, lt_M, cond_true, cond_false, Bool.and_true, Bool.true_and, Bool.and_false, Bool.false_and, Bool.not_true, Bool.not_false, isZS_0, isZS_1, c1, hk5, Option.bind_some]
  obtain ⟨Cx, Mx, ws', x1, x2, x3, x4, x5, x6, x7, x8, x9⟩ := key
  obtain ⟨vm, M2, k1, k2, k3, k4, k5⟩ := mind_loop (L := L) (xs := xs) (n := n) hhm hn n 0 0 Cx Mx now (by omega) hnow (by omega) x3 (rTx_congr (x4.1 _ (fun u e => by have := congrArg (fun l => l.reverse.take 2) e; simp at this) (by simp)) (x4.1 _ (fun u e => by have := congrArg (fun l => l.reverse.take 2) e; simp at this) (by simp)) (x5 _ (by simp) (by simp) (by simp)) (x5 _ (by simp) (by simp) (by simp)) hTx) x7
  have k174 : kI L xs 174 [vr 10 [1], vi (oN n)] Mx = some (oN vm, M2) := kI_of (by
    rw [e_174]; exact k1)
  obtain ⟨H2, y1, y2⟩ := s_249b (L := L) (xs := xs) (M := wI M2 [1] 26 (oN 0)) (v := oN vm) 1600 0 ((wI M2 [1] 26 (oN 0)).1 [1, 1]) (by omega) (fun j hj => by omega)
  rw [stA_id] at y1
  refine ⟨vm, stA (wI M2 [1] 26 (oN 0)) [1, 1] H2, kI_of ?_, k3, ⟨fun i hi => ?_, ?_, fun k h1 h2 => ?_, fun k h1 h2 => ?_, ?_, ?_, ?_⟩, fun lim hlim => ?_⟩
  · rw [x2, k174, Option.bind_some]
    exact y1
  · rw [stA_same, y2 i hi, w_ne (by simp), k4.1 3 (by omega) (by omega) (by omega) (by omega) (by omega), x6, m2 i hi]
  · rw [stA_ne (by simp), w_ne (by simp), k4.1 2 (by omega) (by omega) (by omega) (by omega) (by omega), x5 _ (by simp) (by simp) (by simp)]
  · rw [stA_ne (by simp; omega), w_ne (by simp), k4.1 k (by omega) (by omega) (by omega) (by omega) (by omega), x5 _ (by simp; omega) (by simp; omega) (by simp)]
  · rw [stA_ne (by simp; omega), w_ne (by simp), k4.1 k (by omega) (by omega) (by omega) (by omega) (by omega), x5 _ (by simp; omega) (by simp; omega) (by simp)]
  · rw [stA_ne (by simp), w_ne_k (by omega), k4.2.1, x8]
  · rw [stA_ne (by simp), w_at, if_pos ⟨rfl, rfl⟩, h26]
  · show M2.2.1 [57, 1] = _
    rw [k4.2.2.2, x9]
  · obtain ⟨vc, C', z1, z2, z3, z4⟩ := k5 lim hlim
    exact ⟨vc, C', kI_of (by rw [x1]; exact z1), z2, agC_fr (frC_trans x4 z3), z4⟩
end Mind2
