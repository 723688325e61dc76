section Step4
variable {L : Nat} {xs : Nat → Int32} {C M : mM} {c nc nw nb np nt now td hm : Nat} {kd wa wb wd wl ws : Nat → Nat}
set_option maxRecDepth 8000 in
set_option maxHeartbeats 4000000 in
theorem step_ok (hc : c ≠ 4) (hhm : hm ≤ 1000) (hP : rPt [c, 0] (M.1 [1, 1]) C M nc nw nb np nt now td hm kd wa wb wd wl ws) : ∃ C' M', kV L xs 19 [vr 2 [c, 0]] C = some C' ∧ kV L xs 227 [vr 10 [1]] M = some M' ∧ rPt [c, 0] (M'.1 [1, 1]) C' M' nc nw nb np nt now td hm kd wa wb wd wl ws ∧ frC [c, 0] C C' ∧ frM2 M M' := by
  have h40 : nb ≤ 40 := hP.1.2.2.2.2.2.2.2.2.2.2.2.2.2.2.2.1
  have h4320 : now ≤ 4320 := hP.1.2.2.2.2.2.2.2.2.2.2.2.2.2.2.2.2.2.2
  have hsy := syncG (X := fun i C1 => run L xs 19 28 (17, [some (vr 2 [c, 0]), some (vi (oN i)), none, none], [], C1)) (Y := fun b M1 => run L xs 227 27 (2, [some (vr 10 [1]), some (vi (oN b)), none, none, none, none, none, none], [], M1)) (J := (fun b C1 M1 => rPt [c, 0] (M1.1 [1, 1]) C1 M1 nc nw nb np nt now td hm kd wa wb wd wl ws ∧ frC [c, 0] C C1 ∧ frM2 M M1 ∧ C1.1 [6, c, 0] 11 = oN 1 ∧ ∀ w, w < nw → C1.1 [10, 6, c, 0] w = sumN (hoF c C1 kd w) nb)) (nb := nb) kd (by
    intro b C1 M1 hb hJ hk
    obtain ⟨hP, hf, hg, hrk, hld⟩ := hJ
    have hP' := hP
    obtain ⟨g1, g2, g3, g4, g5, g6, g7, g8, g9, g10⟩ := hP'
    have hsc := g1
    obtain ⟨cN, cT, cC, cW, cB, cG, cP, S0, S1, S2, S3, S4, S5, b16, b24, b40, b8, b20, b4320⟩ := hsc
    have hle := cntG_le kd nb
    have hi := cntG_lt kd hb hk
    have hgr := g8 b hb hk
    obtain ⟨⟨k5, i0, i1, i11, i7, i8, i16, i14, i17⟩, ⟨p5, hp⟩, ⟨⟨hd, hd1, hd2, hd3⟩, v9, v10, v11, v13, v14, v15⟩, bt, ba⟩ := g7 b hb
    rw [hk] at i11
    rcases hp with ⟨-, u, u1, u2, u3, u4, u5⟩ | ⟨-, w, e, tg, w1, e1, t1, t2, u2, u3, -⟩ | ⟨k4, -⟩ | ⟨k0, -⟩
    · by_cases hd0 : hd = 0
      · subst hd0
        refine ⟨C1, M1, ?_, ?_, hP, hf, hg, hrk, hld⟩
        · try dsimp only
          rw [h_19_17]
          simp (disch := omega) only [↓Bool.cond_eq_ite, ↓reduceIte, Bool.false_eq_true, eq_self, n_lit, n_neg, n_add, n_mul, n_sub, n_subM, n_div, n_mod, n_addM, m_div, m_subn, n_tN, n_inS, n_eq_t, n_eq_f, n_ne_t, n_ne_f, n_lt_t, n_lt_f, n_ge_t, n_ge_f, n_gt_t, n_gt_f, n_le_t, n_le_f, mn_eq, mn_ne, mn_lt, mn_ge, mn_gt, mn_le, nm_eq, nm_ne, nm_lt, nm_ge, nm_gt, nm_le, n_gts_t, c_eq_refl, c_ne_refl, w_fold, w_2, wC_fold, lt_M, cond_true, cond_false, Bool.and_true, Bool.true_and, Bool.and_false, Bool.false_and, Bool.not_true, Bool.not_false, isZS_0, isZS_1, cG, hgr, u2, hd2]
        · try dsimp only
          rw [h_227_2]
          simp (disch := omega) only [↓Bool.cond_eq_ite, ↓reduceIte, Bool.false_eq_true, eq_self, n_lit, n_neg, n_add, n_mul, n_sub, n_subM, n_div, n_mod, n_addM, m_div, m_subn, n_tN, n_inS, n_eq_t, n_eq_f, n_ne_t, n_ne_f, n_lt_t, n_lt_f, n_ge_t, n_ge_f, n_gt_t, n_gt_f, n_le_t, n_le_f, mn_eq, mn_ne, mn_lt, mn_ge, mn_gt, mn_le, nm_eq, nm_ne, nm_lt, nm_ge, nm_gt, nm_le, n_gts_t, c_eq_refl, c_ne_refl, w_fold, w_2, wC_fold, lt_M, cond_true, cond_false, Bool.and_true, Bool.true_and, Bool.and_false, Bool.false_and, Bool.not_true, Bool.not_false, isZS_0, isZS_1, S2, i11, u3, hd3, Nat.add_zero, h_227_47, c_eq_refl]
      obtain ⟨n, n8, ba1, ba2, ba3⟩ := ba
      have hA : lastI (fun i => cmpS .le (C1.1 (1 :: [18, b, 10, c, 0]) i) (oN now)) n = lastI (fun i => cmpS .le (M1.1 [1, 1] (900 + 16 * b + 2 * i)) (M1.1 [1, 1] 5)) n := lastI_congr (fun i hi => by
        show cmpS .le (C1.1 [1, 18, b, 10, c, 0] i) (oN now) = _
        rw [(ba3 i hi).1, S5])
      have h62 := s_62 (L := L) (xs := xs) (C := C1) (p := [18, b, 10, c, 0]) (T := oN now) n8 ba1
      have h150 := s_150 (L := L) (xs := xs) (M := M1) (g := b) (by omega) n8 ba2
      rw [hA] at h62
      have hlt := fun i => lastI_lt (P := fun i => cmpS .le (M1.1 [1, 1] (900 + 16 * b + 2 * i)) (M1.1 [1, 1] 5)) (n := n) (i := i)
      generalize lastI (fun i => cmpS .le (M1.1 [1, 1] (900 + 16 * b + 2 * i)) (M1.1 [1, 1] 5)) n = o at h62 h150 hlt
      cases o with
      | none =>
        refine ⟨C1, M1, ?_, ?_, hP, hf, hg, hrk, hld⟩
        · try dsimp only
          rw [h_19_17]
          simp (disch := omega) only [↓Bool.cond_eq_ite, ↓reduceIte, Bool.false_eq_true, eq_self, n_lit, n_neg, n_add, n_mul, n_sub, n_subM, n_div, n_mod, n_addM, m_div, m_subn, n_tN, n_inS, n_eq_t, n_eq_f, n_ne_t, n_ne_f, n_lt_t, n_lt_f, n_ge_t, n_ge_f, n_gt_t, n_gt_f, n_le_t, n_le_f, mn_eq, mn_ne, mn_lt, mn_ge, mn_gt, mn_le, nm_eq, nm_ne, nm_lt, nm_ge, nm_gt, nm_le, n_gts_t, c_eq_refl, c_ne_refl, w_fold, w_2, wC_fold, lt_M, cond_true, cond_false, Bool.and_true, Bool.true_and, Bool.and_false, Bool.false_and, Bool.not_true, Bool.not_false, isZS_0, isZS_1, cG, hgr, u2, hd2, cN]
          rw [h62, Option.bind_some]
          simp (disch := omega) only [↓Bool.cond_eq_ite, ↓reduceIte, Bool.false_eq_true, eq_self, n_lit, n_neg, n_add, n_mul, n_sub, n_subM, n_div, n_mod, n_addM, m_div, m_subn, n_tN, n_inS, n_eq_t, n_eq_f, n_ne_t, n_ne_f, n_lt_t, n_lt_f, n_ge_t, n_ge_f, n_gt_t, n_gt_f, n_le_t, n_le_f, mn_eq, mn_ne, mn_lt, mn_ge, mn_gt, mn_le, nm_eq, nm_ne, nm_lt, nm_ge, nm_gt, nm_le, n_gts_t, c_eq_refl, c_ne_refl, w_fold, w_2, wC_fold, lt_M, cond_true, cond_false, Bool.and_true, Bool.true_and, Bool.and_false, Bool.false_and, Bool.not_true, Bool.not_false, isZS_0, isZS_1, encI]
        · try dsimp only
          rw [h_227_2, h150, Option.bind_some]
          dsimp only
          simp (disch := omega) only [↓Bool.cond_eq_ite, ↓reduceIte, Bool.false_eq_true, eq_self, n_lit, n_neg, n_add, n_mul, n_sub, n_subM, n_div, n_mod, n_addM, m_div, m_subn, n_tN, n_inS, n_eq_t, n_eq_f, n_ne_t, n_ne_f, n_lt_t, n_lt_f, n_ge_t, n_ge_f, n_gt_t, n_gt_f, n_le_t, n_le_f, mn_eq, mn_ne, mn_lt, mn_ge, mn_gt, mn_le, nm_eq, nm_ne, nm_lt, nm_ge, nm_gt, nm_le, n_gts_t, c_eq_refl, c_ne_refl, w_fold, w_2, wC_fold, lt_M, cond_true, cond_false, Bool.and_true, Bool.true_and, Bool.and_false, Bool.false_and, Bool.not_true, Bool.not_false, isZS_0, isZS_1, S2, i11, u3, hd3, Nat.add_zero, encI, c_eq_refl]
      | some i =>
      have hin := hlt i rfl
      obtain ⟨-, g, gc, a1, a2⟩ := ba3 i hin
      by_cases hgu : g = u
      · subst hgu
        refine ⟨C1, M1, ?_, ?_, hP, hf, hg, hrk, hld⟩
        · try dsimp only
          rw [h_19_17]
          simp (disch := omega) only [↓Bool.cond_eq_ite, ↓reduceIte, Bool.false_eq_true, eq_self, n_lit, n_neg, n_add, n_mul, n_sub, n_subM, n_div, n_mod, n_addM, m_div, m_subn, n_tN, n_inS, n_eq_t, n_eq_f, n_ne_t, n_ne_f, n_lt_t, n_lt_f, n_ge_t, n_ge_f, n_gt_t, n_gt_f, n_le_t, n_le_f, mn_eq, mn_ne, mn_lt, mn_ge, mn_gt, mn_le, nm_eq, nm_ne, nm_lt, nm_ge, nm_gt, nm_le, n_gts_t, c_eq_refl, c_ne_refl, w_fold, w_2, wC_fold, lt_M, cond_true, cond_false, Bool.and_true, Bool.true_and, Bool.and_false, Bool.false_and, Bool.not_true, Bool.not_false, isZS_0, isZS_1, cG, hgr, u2, hd2, cN]
          rw [h62, Option.bind_some]
          simp (disch := omega) only [↓Bool.cond_eq_ite, ↓reduceIte, Bool.false_eq_true, eq_self, n_lit, n_neg, n_add, n_mul, n_sub, n_subM, n_div, n_mod, n_addM, m_div, m_subn, n_tN, n_inS, n_eq_t, n_eq_f, n_ne_t, n_ne_f, n_lt_t, n_lt_f, n_ge_t, n_ge_f, n_gt_t, n_gt_f, n_le_t, n_le_f, mn_eq, mn_ne, mn_lt, mn_ge, mn_gt, mn_le, nm_eq, nm_ne, nm_lt, nm_ge, nm_gt, nm_le, n_gts_t, c_eq_refl, c_ne_refl, w_fold, w_2, wC_fold, lt_M, cond_true, cond_false, Bool.and_true, Bool.true_and, Bool.and_false, Bool.false_and, Bool.not_true, Bool.not_false, isZS_0, isZS_1, encI, a1, u2, c_eq_refl]
        · try dsimp only
          rw [h_227_2, h150, Option.bind_some]
          dsimp only
          simp (disch := omega) only [↓Bool.cond_eq_ite, ↓reduceIte, Bool.false_eq_true, eq_self, n_lit, n_neg, n_add, n_mul, n_sub, n_subM, n_div, n_mod, n_addM, m_div, m_subn, n_tN, n_inS, n_eq_t, n_eq_f, n_ne_t, n_ne_f, n_lt_t, n_lt_f, n_ge_t, n_ge_f, n_gt_t, n_gt_f, n_le_t, n_le_f, mn_eq, mn_ne, mn_lt, mn_ge, mn_gt, mn_le, nm_eq, nm_ne, nm_lt, nm_ge, nm_gt, nm_le, n_gts_t, c_eq_refl, c_ne_refl, w_fold, w_2, wC_fold, lt_M, cond_true, cond_false, Bool.and_true, Bool.true_and, Bool.and_false, Bool.false_and, Bool.not_true, Bool.not_false, isZS_0, isZS_1, S2, i11, u3, hd3, Nat.add_zero, encI, a2, c_eq_refl]
      have hcw := rPt_cWy hP
      have hmw := rPt_mWy hP
      obtain ⟨M2, f1, f2, f3, f4⟩ := findFar_ok (L := L) (xs := xs) hmw gc
      have hDi : ∀ x, x < nc → ∃ d, C1.1 [12, 6, c, 0] (x * 16 + g) = oN d ∧ wD nw wa wb wl ws x g d := fun x hx => by
        rcases g10 with y | ⟨-, y⟩
        · rw [hrk] at y
          exact absurd y (oN_ne (by omega) (by omega) (by omega))
        · exact y x g hx gc
      obtain ⟨t, ht⟩ : ∃ t : Nat → Nat, ∀ x, x < 16 → M2.1 [27, 1] x = oN (t x) ∧ wD nw wa wb wl ws x g (t x) := ⟨fun x => if h : x < 16 then (f4 x h).choose else 0, fun x hx => by
        dsimp only; rw [dif_pos hx]; exact (f4 x hx).choose_spec⟩
      have hD : ∀ x, x < nc → C1.1 [12, 6, c, 0] (x * 16 + g) = oN (t x) ∧ t x ≤ 1000000 := fun x hx => by
        obtain ⟨d, d1, d2⟩ := hDi x hx
        obtain ⟨t1, t2⟩ := ht x (by omega)
        rw [d1, wD_inj d2 t2]
        exact ⟨rfl, t2.1⟩
      obtain ⟨sh, hshc, hshm⟩ : ∃ sh : Nat → Nat, (∀ w, w < nw → sh w ≤ 1 ∧ C1.1 [9, 6, c, 0] w = oN (sh w)) ∧ (∀ w, w < nw → sh w ≤ 1 ∧ M2.1 [1, 1] (120 + w) = oN (sh w)) := by
        obtain ⟨sh, hsh⟩ := (Classical.skolem (p := fun w k => w < nw → k ≤ 1 ∧ C1.1 [9, 6, c, 0] w = oN k ∧ M1.1 [1, 1] (120 + w) = oN k)).mp (fun w => by
          by_cases hw : w < nw
          · obtain ⟨-, -, k, k1, k2, k3⟩ := g4 w hw
            exact ⟨k, fun _ => ⟨k1, k2, k3⟩⟩
          · exact ⟨0, fun y => absurd y hw⟩)
        exact ⟨sh, fun w hw => ⟨(hsh w hw).1, (hsh w hw).2.1⟩, fun w hw => ⟨(hsh w hw).1, by rw [f3 [1, 1] (by simp)]; exact (hsh w hw).2.2⟩⟩
      have hP2 : rPt [c, 0] (M2.1 [1, 1]) C1 M2 nc nw nb np nt now td hm kd wa wb wd wl ws := rPt_free hP (fun _ _ _ _ => rfl) (fun _ _ => rfl) g10 (fun i _ => by rw [f3 [1, 1] (by simp)]) (fun k h1 h2 => f3 _ (by simp; omega))
      have hg2 : frM2 M M2 := frM2_trans hg ⟨fun q _ h2 => f3 q h2, f2⟩
      have hmw2 := rPt_mWy hP2
      have hWb : ∀ w, w < nw → wa w < nc ∧ wb w < nc ∧ 1 ≤ wl w ∧ wl w ≤ 30 := fun w hw => by
        obtain ⟨x1, x2, x3, x4, x5, x6, -⟩ := hmw.2.2.2 w hw
        exact ⟨x1, x2, x4, x5⟩
      have h11 := s_11 (L := L) (xs := xs) hcw (D := t) (sh := sh) (u := u) (g := g) u1 gc hshc hD
      rw [srch_eq (e := g) (sh := sh) hWb (fun x hx => (ht x (by omega)).2) b16 u1] at h11
      have hsr := srch_ok (L := L) (xs := xs) hmw2 (b := b) (u := u) (by omega) u1 hshm (fun x hx => ⟨(ht x hx).1, (ht x hx).2.1⟩) nw none (Nat.le_refl _) (fun x hx => by cases hx)
      have hors : orS (firW (modP wa wb wl ws sh t u) nw 0) none = firW (modP wa wb wl ws sh t u) nw 0 := by cases firW (modP wa wb wl ws sh t u) nw 0 <;> rfl
      rw [hors] at hsr
      have hfw := fun x => firW_some (P := modP wa wb wl ws sh t u) (k := nw) (w := 0) (x := x)
      generalize firW (modP wa wb wl ws sh t u) nw 0 = o2 at h11 hsr hfw
      have eM : run L xs 227 27 (2, [some (vr 10 [1]), some (vi (oN b)), none, none, none, none, none, none], [], M1) = run L xs 227 27 (110, [some (vr 10 [1]), some (vi (oN b)), none, some (vi (oN u)), none, some (vi (encI o2)), some (vi (oN 0 - oN 1)), none], [], M2) := by
        rw [← hsr, h_227_2, h150, Option.bind_some]
        dsimp only
        have s1 : M2.1 [1, 1] 1 = oN nw := hmw2.1
        have hne : cmpS .eq (oN g) (oN u) = false := n_eq_f hgu (by omega) (by omega)
        simp (disch := omega) only [↓Bool.cond_eq_ite, ↓reduceIte, Bool.false_eq_true, eq_self, n_lit, n_neg, n_add, n_mul, n_sub, n_subM, n_div, n_mod, n_addM, m_div, m_subn, n_tN, n_inS, n_eq_t, n_eq_f, n_ne_t, n_ne_f, n_lt_t, n_lt_f, n_ge_t, n_ge_f, n_gt_t, n_gt_f, n_le_t, n_le_f, mn_eq, mn_ne, mn_lt, mn_ge, mn_gt, mn_le, nm_eq, nm_ne, nm_lt, nm_ge, nm_gt, nm_le, n_gts_t, c_eq_refl, c_ne_refl, w_fold, w_2, wC_fold, lt_M, cond_true, cond_false, Bool.and_true, Bool.true_and, Bool.and_false, Bool.false_and, Bool.not_true, Bool.not_false, isZS_0, isZS_1, S2, i11, u3, hd3, Nat.add_zero, encI, a2, hne, f1]
        rw [Option.bind_some]
        try dsimp only
        rw [s1]
      have eC : ∀ C2, kV L xs 20 [vr 8 [6, c, 0], vr 0 [b, 10, c, 0], vi (oN g)] C1 = some C2 → run L xs 19 28 (17, [some (vr 2 [c, 0]), some (vi (oN (cntG kd b))), none, none], [], C1) = run L xs 19 28 (17, [some (vr 2 [c, 0]), some (vi (oN (cntG kd b + 1))), none, none], [], C2) := fun C2 h20 => by
        rw [h_19_17]
        simp (disch := omega) only [↓Bool.cond_eq_ite, ↓reduceIte, Bool.false_eq_true, eq_self, n_lit, n_neg, n_add, n_mul, n_sub, n_subM, n_div, n_mod, n_addM, m_div, m_subn, n_tN, n_inS, n_eq_t, n_eq_f, n_ne_t, n_ne_f, n_lt_t, n_lt_f, n_ge_t, n_ge_f, n_gt_t, n_gt_f, n_le_t, n_le_f, mn_eq, mn_ne, mn_lt, mn_ge, mn_gt, mn_le, nm_eq, nm_ne, nm_lt, nm_ge, nm_gt, nm_le, n_gts_t, c_eq_refl, c_ne_refl, w_fold, w_2, wC_fold, lt_M, cond_true, cond_false, Bool.and_true, Bool.true_and, Bool.and_false, Bool.false_and, Bool.not_true, Bool.not_false, isZS_0, isZS_1, cG, hgr, u2, hd2, cN]
        rw [h62, Option.bind_some]
        have hne : cmpS .eq (oN g) (oN u) = false := n_eq_f hgu (by omega) (by omega)
        simp (disch := omega) only [↓Bool.cond_eq_ite, ↓reduceIte, Bool.false_eq_true, eq_self, n_lit, n_neg, n_add, n_mul, n_sub, n_subM, n_div, n_mod, n_addM, m_div, m_subn, n_tN, n_inS, n_eq_t, n_eq_f, n_ne_t, n_ne_f, n_lt_t, n_lt_f, n_ge_t, n_ge_f, n_gt_t, n_gt_f, n_le_t, n_le_f, mn_eq, mn_ne, mn_lt, mn_ge, mn_gt, mn_le, nm_eq, nm_ne, nm_lt, nm_ge, nm_gt, nm_le, n_gts_t, c_eq_refl, c_ne_refl, w_fold, w_2, wC_fold, lt_M, cond_true, cond_false, Bool.and_true, Bool.true_and, Bool.and_false, Bool.false_and, Bool.not_true, Bool.not_false, isZS_0, isZS_1, encI, a1, u2, hne, h20, Option.bind_some]
      have h177 : ∀ w0, w0 < nw → kI L xs 177 [vr 10 [1], vi (oN w0)] M2 = some (C1.1 [10, 6, c, 0] w0, M2) := fun w0 hw0 => by
        have := s_177 (L := L) (xs := xs) (w := w0) (nw := nw) (M := M2) (nb := nb) (kd := kd) hw0 b24 ⟨by rw [f3 [1, 1] (by simp)]; exact S2, b40, fun b' hb' => by
          obtain ⟨⟨x1, -, -, x4, -⟩, -⟩ := g7 b' hb'
          exact ⟨x1, by rw [f3 _ (by simp)]; exact x4⟩⟩
        rw [this, hld w0 hw0, headsT_eq hw0 hP2]
      have e20 := e_20 L xs [6, c, 0] [b, 10, c, 0] (oN g) C1
      rw [u2, h11, Option.bind_some] at e20
      cases o2 with
      | none =>
        refine ⟨C1, M2, ?_, ?_, hP2, hf, hg2, hrk, hld⟩
        · try dsimp only
          refine eC _ (kV_of ?_)
          rw [e20]
          simp (disch := omega) only [↓Bool.cond_eq_ite, ↓reduceIte, Bool.false_eq_true, eq_self, n_lit, n_neg, n_add, n_mul, n_sub, n_subM, n_div, n_mod, n_addM, m_div, m_subn, n_tN, n_inS, n_eq_t, n_eq_f, n_ne_t, n_ne_f, n_lt_t, n_lt_f, n_ge_t, n_ge_f, n_gt_t, n_gt_f, n_le_t, n_le_f, mn_eq, mn_ne, mn_lt, mn_ge, mn_gt, mn_le, nm_eq, nm_ne, nm_lt, nm_ge, nm_gt, nm_le, n_gts_t, c_eq_refl, c_ne_refl, w_fold, w_2, wC_fold, lt_M, cond_true, cond_false, Bool.and_true, Bool.true_and, Bool.and_false, Bool.false_and, Bool.not_true, Bool.not_false, isZS_0, isZS_1, encI]
        · try dsimp only
          rw [eM, h_227_110]
          simp (disch := omega) only [↓Bool.cond_eq_ite, ↓reduceIte, Bool.false_eq_true, eq_self, n_lit, n_neg, n_add, n_mul, n_sub, n_subM, n_div, n_mod, n_addM, m_div, m_subn, n_tN, n_inS, n_eq_t, n_eq_f, n_ne_t, n_ne_f, n_lt_t, n_lt_f, n_ge_t, n_ge_f, n_gt_t, n_gt_f, n_le_t, n_le_f, mn_eq, mn_ne, mn_lt, mn_ge, mn_gt, mn_le, nm_eq, nm_ne, nm_lt, nm_ge, nm_gt, nm_le, n_gts_t, c_eq_refl, c_ne_refl, w_fold, w_2, wC_fold, lt_M, cond_true, cond_false, Bool.and_true, Bool.true_and, Bool.and_false, Bool.false_and, Bool.not_true, Bool.not_false, isZS_0, isZS_1, encI]
      | some w0 =>
      obtain ⟨-, hw0, hmp⟩ := hfw w0 rfl
      rw [Nat.zero_add] at hw0
      obtain ⟨x, hx⟩ : ∃ x, endW wa wb ws w0 u = some x := by
        unfold modP at hmp
        cases he : endW wa wb ws w0 u with
        | none => rw [he] at hmp; cases hmp
        | some x => exact ⟨x, rfl⟩
      obtain ⟨wa1, wb1, wne, wd1, wd60, wl1, wl30, ws3, ca, ma, cb, mb, cd, md, cl, ml, cs, ms⟩ := g3 w0 hw0
      have hxc : x < nc := endW_lt hx ⟨wa1, wb1⟩
      have md2 : M2.1 [9, 1] w0 = oN (wd w0) := by rw [f3 _ (by simp)]; exact md
      have ml2 : M2.1 [10, 1] w0 = oN (wl w0) := by rw [f3 _ (by simp)]; exact ml
      have ma2 : M2.1 [7, 1] w0 = oN (wa w0) := by rw [f3 _ (by simp)]; exact ma
      have mb2 : M2.1 [8, 1] w0 = oN (wb w0) := by rw [f3 _ (by simp)]; exact mb
      have hd32 : M2.1 [1, 1] (200 + 16 * b + 3) = oN hd := by rw [f3 [1, 1] (by simp)]; exact hd3
      have hgt : cmpS .gt (C1.1 [10, 6, c, 0] w0 + oN hd) (oN (100 * wd w0)) = !cmpS .le (C1.1 [10, 6, c, 0] w0 + oN hd) (oN (100 * wd w0)) := by
        rw [c_gt, c_le]
        by_cases z : (C1.1 [10, 6, c, 0] w0 + oN hd).toInt ≤ (oN (100 * wd w0)).toInt
        · rw [decide_eq_true z, decide_eq_false (by omega)]; rfl
        · rw [decide_eq_false z, decide_eq_true (by omega)]; rfl
      cases ct : cmpS .le (C1.1 [10, 6, c, 0] w0 + oN hd) (oN (100 * wd w0)) with
      | false =>
        rw [ct] at hgt
        refine ⟨C1, M2, ?_, ?_, hP2, hf, hg2, hrk, hld⟩
        · try dsimp only
          refine eC _ (kV_of ?_)
          rw [e20]
          simp (disch := omega) only [↓Bool.cond_eq_ite, ↓reduceIte, Bool.false_eq_true, eq_self, n_lit, n_neg, n_add, n_mul, n_sub, n_subM, n_div, n_mod, n_addM, m_div, m_subn, n_tN, n_inS, n_eq_t, n_eq_f, n_ne_t, n_ne_f, n_lt_t, n_lt_f, n_ge_t, n_ge_f, n_gt_t, n_gt_f, n_le_t, n_le_f, mn_eq, mn_ne, mn_lt, mn_ge, mn_gt, mn_le, nm_eq, nm_ne, nm_lt, nm_ge, nm_gt, nm_le, n_gts_t, c_eq_refl, c_ne_refl, w_fold, w_2, wC_fold, lt_M, cond_true, cond_false, Bool.and_true, Bool.true_and, Bool.and_false, Bool.false_and, Bool.not_true, Bool.not_false, isZS_0, isZS_1, encI, hd2, cd, ct]
        · try dsimp only
          rw [eM, h_227_110]
          simp (disch := omega) only [↓Bool.cond_eq_ite, ↓reduceIte, Bool.false_eq_true, eq_self, n_lit, n_neg, n_add, n_mul, n_sub, n_subM, n_div, n_mod, n_addM, m_div, m_subn, n_tN, n_inS, n_eq_t, n_eq_f, n_ne_t, n_ne_f, n_lt_t, n_lt_f, n_ge_t, n_ge_f, n_gt_t, n_gt_f, n_le_t, n_le_f, mn_eq, mn_ne, mn_lt, mn_ge, mn_gt, mn_le, nm_eq, nm_ne, nm_lt, nm_ge, nm_gt, nm_le, n_gts_t, c_eq_refl, c_ne_refl, w_fold, w_2, wC_fold, lt_M, cond_true, cond_false, Bool.and_true, Bool.true_and, Bool.and_false, Bool.false_and, Bool.not_true, Bool.not_false, isZS_0, isZS_1, encI, h177 w0 hw0, Option.bind_some, hd32, md2, hgt]
      | true =>
        rw [ct] at hgt
        have hP3 : rPt [c, 0] (M2.1 [1, 1]) (wI C1 [10, 6, c, 0] w0 (C1.1 [10, 6, c, 0] w0 + oN hd)) M2 nc nw nb np nt now td hm kd wa wb wd wl ws := rPt_free hP2 (fun q h1 _ _ => w_ne h1) (fun j _ => by rw [w_ne (by simp)]) (rDi_congr (by rw [w_ne (by simp)]) (w_ne (by simp)) g10) (fun _ _ => rfl) (fun _ _ _ => rfl)
        have h74 := s_74 (L := L) (xs := xs) (rPt_cWy hP3) (w := w0) (x := u) hw0 (by omega)
        rw [hx] at h74
        have hb3 := hP3.2.2.2.2.2.2.1 b hb
        refine ⟨wI (wI (wI (wI (wI C1 [10, 6, c, 0] w0 (C1.1 [10, 6, c, 0] w0 + oN hd)) [b, 10, c, 0] 4 (oN x)) [b, 10, c, 0] 5 (oN (wl w0))) [b, 10, c, 0] 3 (oN w0)) [b, 10, c, 0] 2 (oM 1),
          wI (wI (wI (wI M2 [1, 1] (200 + 16 * b + 13) (oN x)) [1, 1] (200 + 16 * b) (oM 4)) [1, 1] (200 + 16 * b + 1) (oN w0)) [1, 1] (200 + 16 * b + 2) (oN (wl w0)), ?_, ?_, ?_, ?_, ?_, ?_, ?_⟩
        · try dsimp only
          refine eC _ (kV_of ?_)
          rw [e20]
          simp (disch := omega) only [↓Bool.cond_eq_ite, ↓reduceIte, Bool.false_eq_true, eq_self, n_lit, n_neg, n_add, n_mul, n_sub, n_subM, n_div, n_mod, n_addM, m_div, m_subn, n_tN, n_inS, n_eq_t, n_eq_f, n_ne_t, n_ne_f, n_lt_t, n_lt_f, n_ge_t, n_ge_f, n_gt_t, n_gt_f, n_le_t, n_le_f, mn_eq, mn_ne, mn_lt, mn_ge, mn_gt, mn_le, nm_eq, nm_ne, nm_lt, nm_ge, nm_gt, nm_le, n_gts_t, c_eq_refl, c_ne_refl, w_fold, wC_fold, lt_M, cond_true, cond_false, Bool.and_true, Bool.true_and, Bool.and_false, Bool.false_and, Bool.not_true, Bool.not_false, isZS_0, isZS_1, encI, hd2, cd, ct, u2, ↓reduceIte, w_at, List.cons.injEq, reduceCtorEq, and_false, false_and, and_true, true_and, if_true, if_false, eq_self, and_self, if_neg, if_pos, Nat.add_zero]
          rw [h74, Option.bind_some]
          simp (disch := omega) only [↓Bool.cond_eq_ite, ↓reduceIte, Bool.false_eq_true, eq_self, n_lit, n_neg, n_add, n_mul, n_sub, n_subM, n_div, n_mod, n_addM, m_div, m_subn, n_tN, n_inS, n_eq_t, n_eq_f, n_ne_t, n_ne_f, n_lt_t, n_lt_f, n_ge_t, n_ge_f, n_gt_t, n_gt_f, n_le_t, n_le_f, mn_eq, mn_ne, mn_lt, mn_ge, mn_gt, mn_le, nm_eq, nm_ne, nm_lt, nm_ge, nm_gt, nm_le, n_gts_t, c_eq_refl, c_ne_refl, w_fold, wC_fold, lt_M, cond_true, cond_false, Bool.and_true, Bool.true_and, Bool.and_false, Bool.false_and, Bool.not_true, Bool.not_false, isZS_0, isZS_1, encI, cl, ↓reduceIte, w_at, List.cons.injEq, reduceCtorEq, and_false, false_and, and_true, true_and, if_true, if_false, eq_self, and_self, if_neg, if_pos, Nat.add_zero]
        · try dsimp only
          rw [eM, h_227_110]
          simp (disch := omega) only [↓Bool.cond_eq_ite, ↓reduceIte, Bool.false_eq_true, eq_self, n_lit, n_neg, n_add, n_mul, n_sub, n_subM, n_div, n_mod, n_addM, m_div, m_subn, n_tN, n_inS, n_eq_t, n_eq_f, n_ne_t, n_ne_f, n_lt_t, n_lt_f, n_ge_t, n_ge_f, n_gt_t, n_gt_f, n_le_t, n_le_f, mn_eq, mn_ne, mn_lt, mn_ge, mn_gt, mn_le, nm_eq, nm_ne, nm_lt, nm_ge, nm_gt, nm_le, n_gts_t, c_eq_refl, c_ne_refl, w_fold, wC_fold, lt_M, cond_true, cond_false, Bool.and_true, Bool.true_and, Bool.and_false, Bool.false_and, Bool.not_true, Bool.not_false, isZS_0, isZS_1, encI, h177 w0 hw0, Option.bind_some, hd32, md2, hgt]
          by_cases qa : wa w0 = u
          · have hxb : wb w0 = x := by
              unfold endW at hx
              by_cases y : ws w0 = 0 ∨ ws w0 = 1
              · rw [if_pos ⟨qa, y⟩] at hx; exact Option.some.inj hx
              · rw [if_neg (by omega), if_neg (by omega)] at hx; cases hx
            rw [qa] at ma2
            rw [hxb] at mb2
            simp (disch := omega) only [↓Bool.cond_eq_ite, ↓reduceIte, Bool.false_eq_true, eq_self, n_lit, n_neg, n_add, n_mul, n_sub, n_subM, n_div, n_mod, n_addM, m_div, m_subn, n_tN, n_inS, n_eq_t, n_eq_f, n_ne_t, n_ne_f, n_lt_t, n_lt_f, n_ge_t, n_ge_f, n_gt_t, n_gt_f, n_le_t, n_le_f, mn_eq, mn_ne, mn_lt, mn_ge, mn_gt, mn_le, nm_eq, nm_ne, nm_lt, nm_ge, nm_gt, nm_le, n_gts_t, c_eq_refl, c_ne_refl, w_fold, wC_fold, lt_M, cond_true, cond_false, Bool.and_true, Bool.true_and, Bool.and_false, Bool.false_and, Bool.not_true, Bool.not_false, isZS_0, isZS_1, ma2, mb2, ml2, ↓reduceIte, w_at, List.cons.injEq, reduceCtorEq, and_false, false_and, and_true, true_and, if_true, if_false, eq_self, and_self, if_neg, if_pos, Nat.add_zero]
          · have hxa : wa w0 = x := by
              unfold endW at hx
              rw [if_neg (by omega)] at hx
              by_cases y : wb w0 = u ∧ (ws w0 = 0 ∨ ws w0 = 2)
              · rw [if_pos y] at hx; exact Option.some.inj hx
              · rw [if_neg y] at hx; cases hx
            have hne : cmpS .ne (oN (wa w0)) (oN u) = true := n_ne_t qa (by omega) (by omega)
            rw [hxa] at ma2 hne
            simp (disch := omega) only [↓Bool.cond_eq_ite, ↓reduceIte, Bool.false_eq_true, eq_self, n_lit, n_neg, n_add, n_mul, n_sub, n_subM, n_div, n_mod, n_addM, m_div, m_subn, n_tN, n_inS, n_eq_t, n_eq_f, n_ne_t, n_ne_f, n_lt_t, n_lt_f, n_ge_t, n_ge_f, n_gt_t, n_gt_f, n_le_t, n_le_f, mn_eq, mn_ne, mn_lt, mn_ge, mn_gt, mn_le, nm_eq, nm_ne, nm_lt, nm_ge, nm_gt, nm_le, n_gts_t, c_eq_refl, c_ne_refl, w_fold, wC_fold, lt_M, cond_true, cond_false, Bool.and_true, Bool.true_and, Bool.and_false, Bool.false_and, Bool.not_true, Bool.not_false, isZS_0, isZS_1, ma2, hne, ml2, ↓reduceIte, w_at, List.cons.injEq, reduceCtorEq, and_false, false_and, and_true, true_and, if_true, if_false, eq_self, and_self, if_neg, if_pos, Nat.add_zero]
        · refine rPt_one (b0 := b) hP3 (fun q hq => by rw [w_ne hq, w_ne hq, w_ne hq, w_ne hq]) (fun i h1 h2 => by (simp (disch := omega) only [↓reduceIte, w_at, w_2, List.cons.injEq, reduceCtorEq, and_false, false_and, and_true, true_and, if_true, if_false, eq_self, and_self, if_neg, if_pos, Nat.add_zero])) (fun q hq => by rw [w_ne hq, w_ne hq, w_ne hq, w_ne hq]) hb ⟨?_, ⟨?_, .inr (.inl ⟨hk, w0, x, wl w0, hw0, hxc, wl1, wl30, by (simp (disch := omega) only [↓reduceIte, w_at, w_2, List.cons.injEq, reduceCtorEq, and_false, false_and, and_true, true_and, if_true, if_false, eq_self, and_self, if_neg, if_pos, Nat.add_zero]), by (simp (disch := omega) only [↓reduceIte, w_at, w_2, List.cons.injEq, reduceCtorEq, and_false, false_and, and_true, true_and, if_true, if_false, eq_self, and_self, if_neg, if_pos, Nat.add_zero]), by (simp (disch := omega) only [↓reduceIte, w_at, w_2, List.cons.injEq, reduceCtorEq, and_false, false_and, and_true, true_and, if_true, if_false, eq_self, and_self, if_neg, if_pos, Nat.add_zero]), by (simp (disch := omega) only [↓reduceIte, w_at, w_2, List.cons.injEq, reduceCtorEq, and_false, false_and, and_true, true_and, if_true, if_false, eq_self, and_self, if_neg, if_pos, Nat.add_zero]), by (simp (disch := omega) only [↓reduceIte, w_at, w_2, List.cons.injEq, reduceCtorEq, and_false, false_and, and_true, true_and, if_true, if_false, eq_self, and_self, if_neg, if_pos, Nat.add_zero]), by (simp (disch := omega) only [↓reduceIte, w_at, w_2, List.cons.injEq, reduceCtorEq, and_false, false_and, and_true, true_and, if_true, if_false, eq_self, and_self, if_neg, if_pos, Nat.add_zero]), by (simp (disch := omega) only [↓reduceIte, w_at, w_2, List.cons.injEq, reduceCtorEq, and_false, false_and, and_true, true_and, if_true, if_false, eq_self, and_self, if_neg, if_pos, Nat.add_zero]), by (simp (disch := omega) only [↓reduceIte, w_at, w_2, List.cons.injEq, reduceCtorEq, and_false, false_and, and_true, true_and, if_true, if_false, eq_self, and_self, if_neg, if_pos, Nat.add_zero])⟩)⟩, ?_, ?_, ?_⟩
          · obtain ⟨y1, -⟩ := hb3
            unfold rBi at y1 ⊢
            simp (disch := omega) only [↓reduceIte, w_at, w_2, List.cons.injEq, reduceCtorEq, and_false, false_and, and_true, true_and, if_true, if_false, eq_self, and_self, if_neg, if_pos, Nat.add_zero] at y1 ⊢
            exact y1
          · (simp (disch := omega) only [↓reduceIte, w_at, w_2, List.cons.injEq, reduceCtorEq, and_false, false_and, and_true, true_and, if_true, if_false, eq_self, and_self, if_neg, if_pos, Nat.add_zero])
          · obtain ⟨-, -, y1, -⟩ := hb3
            unfold rBv at y1 ⊢
            simp (disch := omega) only [↓reduceIte, w_at, w_2, List.cons.injEq, reduceCtorEq, and_false, false_and, and_true, true_and, if_true, if_false, eq_self, and_self, if_neg, if_pos, Nat.add_zero] at y1 ⊢
            exact y1
          · obtain ⟨-, -, -, y1, -⟩ := hb3
            unfold rBt at y1 ⊢
            simp (disch := omega) only [↓reduceIte, w_at, w_2, List.cons.injEq, reduceCtorEq, and_false, false_and, and_true, true_and, if_true, if_false, eq_self, and_self, if_neg, if_pos, Nat.add_zero] at y1 ⊢
            exact y1
          · exact rBa_congr (by omega) (by rw [w_ne (by simp), w_ne (by simp), w_ne (by simp), w_ne (by simp)]) (by rw [w_ne (by simp), w_ne (by simp), w_ne (by simp), w_ne (by simp)]) (by rw [w_ne (by simp), w_ne (by simp), w_ne (by simp), w_ne (by simp)]) (by (simp (disch := omega) only [↓reduceIte, w_at, w_2, List.cons.injEq, reduceCtorEq, and_false, false_and, and_true, true_and, if_true, if_false, eq_self, and_self, if_neg, if_pos, Nat.add_zero])) (fun i h1 => by (simp (disch := omega) only [↓reduceIte, w_at, w_2, List.cons.injEq, reduceCtorEq, and_false, false_and, and_true, true_and, if_true, if_false, eq_self, and_self, if_neg, if_pos, Nat.add_zero])) hb3.2.2.2.2
        · exact frC_trans hf (frC_trans (frC_w (u := [10, 6])) (frC_trans (frC_w (u := [b, 10])) (frC_trans (frC_w (u := [b, 10])) (frC_trans (frC_w (u := [b, 10])) (frC_w (u := [b, 10]))))))
        · exact frM2_trans hg2 (frM2_of (frM_trans frM_w (frM_trans frM_w (frM_trans frM_w frM_w))))
        · rw [w_ne (by simp), w_ne (by simp), w_ne (by simp), w_ne (by simp), w_ne (by simp)]; exact hrk
        · intro w hw
          rw [w_ne (by simp), w_ne (by simp), w_ne (by simp), w_ne (by simp), w_at]
          by_cases z : w = w0
          · rw [if_pos ⟨rfl, z⟩, z, hld w0 hw0]
            refine (sumN_upd (b0 := b) (fun i hi => ?_) ?_ hb).symm
            · unfold hoF
              rw [w_ne (by simp [hi]), w_ne (by simp [hi]), w_ne (by simp [hi]), w_ne (by simp [hi]), w_ne (by simp)]
            · unfold hoF
              rw [if_pos hk, if_pos hk, u4, if_neg (oN_oM (by omega) (by omega) (by omega)).symm]
              simp (disch := omega) only [↓reduceIte, w_at, w_2, List.cons.injEq, reduceCtorEq, and_false, false_and, and_true, true_and, if_true, if_false, eq_self, and_self, if_neg, if_pos, Nat.add_zero]
              rw [hd2, Int32.add_comm, add_o0]
          · rw [if_neg (fun y => z y.2), hld w hw]
            refine sumN_congr (fun i hi => ?_)
            unfold hoF
            by_cases y : i = b
            · subst y
              rw [if_pos hk, if_pos hk, u4, if_neg (oN_oM (by omega) (by omega) (by omega)).symm]
              simp (disch := omega) only [↓reduceIte, w_at, w_2, List.cons.injEq, reduceCtorEq, and_false, false_and, and_true, true_and, if_true, if_false, eq_self, and_self, if_neg, if_pos, Nat.add_zero]
              rw [if_neg (oN_ne (fun y => z y.symm) (by omega) (by omega))]
            · rw [w_ne (by simp [y]), w_ne (by simp [y]), w_ne (by simp [y]), w_ne (by simp [y]), w_ne (by simp)]
    · refine ⟨C1, M1, ?_, ?_, hP, hf, hg, hrk, hld⟩
      · try dsimp only
        rw [h_19_17]
        simp (disch := omega) only [↓Bool.cond_eq_ite, ↓reduceIte, Bool.false_eq_true, eq_self, n_lit, n_neg, n_add, n_mul, n_sub, n_subM, n_div, n_mod, n_addM, m_div, m_subn, n_tN, n_inS, n_eq_t, n_eq_f, n_ne_t, n_ne_f, n_lt_t, n_lt_f, n_ge_t, n_ge_f, n_gt_t, n_gt_f, n_le_t, n_le_f, mn_eq, mn_ne, mn_lt, mn_ge, mn_gt, mn_le, nm_eq, nm_ne, nm_lt, nm_ge, nm_gt, nm_le, n_gts_t, c_eq_refl, c_ne_refl, w_fold, w_2, wC_fold, lt_M, cond_true, cond_false, Bool.and_true, Bool.true_and, Bool.and_false, Bool.false_and, Bool.not_true, Bool.not_false, isZS_0, isZS_1, cG, hgr, u2]
      · try dsimp only
        rw [h_227_2]
        simp (disch := omega) only [↓Bool.cond_eq_ite, ↓reduceIte, Bool.false_eq_true, eq_self, n_lit, n_neg, n_add, n_mul, n_sub, n_subM, n_div, n_mod, n_addM, m_div, m_subn, n_tN, n_inS, n_eq_t, n_eq_f, n_ne_t, n_ne_f, n_lt_t, n_lt_f, n_ge_t, n_ge_f, n_gt_t, n_gt_f, n_le_t, n_le_f, mn_eq, mn_ne, mn_lt, mn_ge, mn_gt, mn_le, nm_eq, nm_ne, nm_lt, nm_ge, nm_gt, nm_le, n_gts_t, c_eq_refl, c_ne_refl, w_fold, w_2, wC_fold, lt_M, cond_true, cond_false, Bool.and_true, Bool.true_and, Bool.and_false, Bool.false_and, Bool.not_true, Bool.not_false, isZS_0, isZS_1, S2, i11, u3, Nat.add_zero, h_227_47, c_eq_refl]
    · omega
    · exact absurd hk k0) (by
    intro b C1 M1 hb hJ hk
    obtain ⟨hP, hf, hg, hrk, hld⟩ := hJ
    have hP' := hP
    obtain ⟨g1, g2, g3, g4, g5, g6, g7, g8, g9, g10⟩ := hP'
    have hsc := g1
    obtain ⟨cN, cT, cC, cW, cB, cG, cP, S0, S1, S2, S3, S4, S5, b16, b24, b40, b8, b20, b4320⟩ := hsc
    have hle := cntG_le kd nb
    have i11 := (g7 b hb).1.2.2.2.1
    have i5 := (g7 b hb).1.1
    refine ⟨M1, ?_, hP, hf, hg, hrk, hld⟩
    try dsimp only
    rw [h_227_2]
    simp (disch := omega) only [↓Bool.cond_eq_ite, ↓reduceIte, Bool.false_eq_true, eq_self, n_lit, n_neg, n_add, n_mul, n_sub, n_subM, n_div, n_mod, n_addM, m_div, m_subn, n_tN, n_inS, n_eq_t, n_eq_f, n_ne_t, n_ne_f, n_lt_t, n_lt_f, n_ge_t, n_ge_f, n_gt_t, n_gt_f, n_le_t, n_le_f, mn_eq, mn_ne, mn_lt, mn_ge, mn_gt, mn_le, nm_eq, nm_ne, nm_lt, nm_ge, nm_gt, nm_le, n_gts_t, c_eq_refl, c_ne_refl, w_fold, w_2, wC_fold, lt_M, cond_true, cond_false, Bool.and_true, Bool.true_and, Bool.and_false, Bool.false_and, Bool.not_true, Bool.not_false, isZS_0, isZS_1, S2, i11, h_227_47, c_eq_refl])
  have hP0 := hP
  obtain ⟨g1, g2, g3, g4, g5, g6, g7, g8, g9, g10⟩ := hP0
  have hsc := g1
  obtain ⟨cN, cT, cC, cW, cB, cG, cP, S0, S1, S2, S3, S4, S5, b16, b24, b40, b8, b20, b4320⟩ := hsc
  have hle := cntG_le kd nb
  obtain ⟨F, l1, l2⟩ := load_ok (L := L) (xs := xs) (c := c) (C := C) (nb := nb) (kd := kd) cW ⟨cG, b40, g8⟩ b24 (fun b hb hk => by
    obtain ⟨-, ⟨-, hp⟩, -⟩ := g7 b hb
    rcases hp with ⟨-, u, -, -, -, u4, -⟩ | ⟨-, w, e, tg, w1, -, -, -, -, -, u4, -⟩ | ⟨k4, -⟩ | ⟨k0, -⟩
    · exact .inl u4
    · exact .inr ⟨w, w1, u4⟩
    · omega
    · exact absurd hk k0)
  have hP1 : rPt [c, 0] (M.1 [1, 1]) (stA C [10, 6, c, 0] F) M nc nw nb np nt now td hm kd wa wb wd wl ws := rPt_free hP (fun q h1 _ _ => stA_ne h1) (fun j _ => by rw [stA_ne (by simp)]) (rDi_congr (by rw [stA_ne (by simp)]) (stA_ne (by simp)) g10) (fun _ _ => rfl) (fun _ _ _ => rfl)
  obtain ⟨C2, r1, r2, r3, r4, r5, r6⟩ := reckon_ok (L := L) (xs := xs) (rPt_cWy hP1) hP1.2.2.2.2.2.2.2.2.2
  have hP2 : rPt [c, 0] (M.1 [1, 1]) C2 M nc nw nb np nt now td hm kd wa wb wd wl ws := rPt_free hP1 (fun q _ h2 h3 => r3 q h2 h3) r4 (.inr ⟨r5, r6⟩) (fun _ _ => rfl) (fun _ _ _ => rfl)
  have hfC : frC [c, 0] C C2 := ⟨fun q hq _ => by
    rw [r3 q (hq [6]) (hq [12, 6]), stA_ne (show q ≠ [10, 6, c, 0] from hq [10, 6])], by rw [r2]; rfl⟩
  have hld0 : ∀ w, w < nw → C2.1 [10, 6, c, 0] w = sumN (hoF c C2 kd w) nb := fun w hw => by
    rw [r3 _ (by simp) (by simp), stA_same, l2 w hw]
    refine sumN_congr (fun i hi => ?_)
    unfold hoF
    rw [r3 _ (by simp) (by simp), stA_ne (by simp)]
  obtain ⟨C', M', x1, x2, hJ⟩ := hsy nb (Nat.le_refl _) C2 M ⟨hP2, hfC, frM2_refl, r5, hld0⟩
  obtain ⟨hPE, hfE, hgE, -, -⟩ := hJ
  have cGE := hPE.1.2.2.2.2.2.1
  have SBE := hPE.1.2.2.2.2.2.2.2.2.2.1
  try dsimp only at x1
  try dsimp only at x2
  refine ⟨C', M', kV_of ?_, kV_of ?_, hPE, hfE, hgE⟩
  · have cC1 : (stA C [10, 6, c, 0] F).1 [c, 0] 2 = oN nc := by rw [stA_ne (by simp)]; exact cC
    rw [e_19, l1, Option.bind_some, cC1, r1, Option.bind_some]
    simp only [n_lit]
    rw [x1, h_19_17]
    simp (disch := omega) only [↓Bool.cond_eq_ite, ↓reduceIte, Bool.false_eq_true, eq_self, n_lit, n_neg, n_add, n_mul, n_sub, n_subM, n_div, n_mod, n_addM, m_div, m_subn, n_tN, n_inS, n_eq_t, n_eq_f, n_ne_t, n_ne_f, n_lt_t, n_lt_f, n_ge_t, n_ge_f, n_gt_t, n_gt_f, n_le_t, n_le_f, mn_eq, mn_ne, mn_lt, mn_ge, mn_gt, mn_le, nm_eq, nm_ne, nm_lt, nm_ge, nm_gt, nm_le, n_gts_t, c_eq_refl, c_ne_refl, w_fold, w_2, wC_fold, lt_M, cond_true, cond_false, Bool.and_true, Bool.true_and, Bool.and_false, Bool.false_and, Bool.not_true, Bool.not_false, isZS_0, isZS_1, cGE]
  · rw [e_227]
    simp only [n_lit]
    rw [x2, h_227_2]
    simp (disch := omega) only [↓Bool.cond_eq_ite, ↓reduceIte, Bool.false_eq_true, eq_self, n_lit, n_neg, n_add, n_mul, n_sub, n_subM, n_div, n_mod, n_addM, m_div, m_subn, n_tN, n_inS, n_eq_t, n_eq_f, n_ne_t, n_ne_f, n_lt_t, n_lt_f, n_ge_t, n_ge_f, n_gt_t, n_gt_f, n_le_t, n_le_f, mn_eq, mn_ne, mn_lt, mn_ge, mn_gt, mn_le, nm_eq, nm_ne, nm_lt, nm_ge, nm_gt, nm_le, n_gts_t, c_eq_refl, c_ne_refl, w_fold, w_2, wC_fold, lt_M, cond_true, cond_false, Bool.and_true, Bool.true_and, Bool.and_false, Bool.false_and, Bool.not_true, Bool.not_false, isZS_0, isZS_1, SBE]
end Step4
