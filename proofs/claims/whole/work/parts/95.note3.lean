section Note3
variable {L : Nat} {xs : Nat → Int32} {C M : mM} {c nc nw nb np nt now td hm : Nat} {kd wa wb wd wl ws : Nat → Nat}
theorem kp_w {E D : mM} {p : List Nat} {k : Nat} {v : Int32} (h : ∀ q, q ≠ p → E.1 q = D.1 q) : ∀ q, q ≠ p → (wI E p k v).1 q = D.1 q := fun q hq => by rw [w_ne hq]; exact h q hq
set_option maxRecDepth 8000 in
theorem note_ok (hhm : hm ≤ 1000) (hn : now < 4320) (hP : rPt [0, 0] (M.1 [1, 1]) C M nc nw nb np nt now td hm kd wa wb wd wl ws) :
    ∃ C' M', kV L xs 4 [vr 1 [5, 0], vr 2 [0, 0]] (wI C [0, 0] 0 (oN (now + 1))) = some C' ∧ kV L xs 215 [vr 10 [1]] M = some M' ∧ (∀ q, q ≠ [0, 5, 0] → q ≠ [1, 5, 0] → C'.1 q = (wI C [0, 0] 0 (oN (now + 1))).1 q) ∧ C'.2.2 = C.2.2 ∧
      (∀ q, (∀ k, 20 ≤ k → k ≤ 25 → q ≠ [k, 1]) → M'.1 q = M.1 q) ∧ M'.2 = M.2 ∧ (rHi C M nb now kd → rHi C' M' nb (now + 1) kd) := by
  obtain ⟨pr, pu, hwa⟩ := wa_of hhm hP
  have hwy := hwa.2.2.2.2.2.2
  have hP' := hP
  obtain ⟨g1, g2, g3, g4, g5, g6, g7, g8, g9, g10⟩ := hP'
  have hsc := g1
  obtain ⟨cN, cT, cC, cW, cB, cG, cP, S0, S1, S2, S3, S4, S5, b16, b24, b40, b8, b20, b4320⟩ := hsc
  obtain ⟨D, hD⟩ : ∃ D, D = wI C [0, 0] 0 (oN (now + 1)) := ⟨_, rfl⟩
  have d0 : D.1 [0, 0] 0 = oN (now + 1) := by rw [hD, w_at, if_pos ⟨rfl, rfl⟩]
  have dk : ∀ j, j ≠ 0 → D.1 [0, 0] j = C.1 [0, 0] j := fun j hj => by rw [hD, w_ne_k hj]
  have dq : ∀ q, q ≠ [0, 0] → D.1 q = C.1 q := fun q hq => by rw [hD, w_ne hq]
  have hmp := maxN_le (f := pr) (B := 100000) (n := nw) (fun w hw => (hwy w hw).1)
  have r75 : ∀ E : mM, (∀ q, q ≠ [0, 5, 0] → E.1 q = D.1 q) → kI L xs 75 [vr 8 [6, 0, 0], vr 1000024 [6, 6, 0, 0]] E = some (oN (maxN pr nw), E) := fun E hE => s_75 (by rw [hE _ (by simp), dq _ (by simp)]; exact cW) b24 (fun w hw => ⟨(hwy w hw).1, by rw [hE _ (by simp), dq _ (by simp)]; exact (hwy w hw).2.2.1⟩)
  have r75u : ∀ E : mM, (∀ q, q ≠ [0, 5, 0] → E.1 q = D.1 q) → kI L xs 75 [vr 8 [6, 0, 0], vr 1000024 [7, 6, 0, 0]] E = some (oN (maxN pu nw), E) := fun E hE => s_75 (by rw [hE _ (by simp), dq _ (by simp)]; exact cW) b24 (fun w hw => ⟨(hwy w hw).2.1, by rw [hE _ (by simp), dq _ (by simp)]; exact (hwy w hw).2.2.2.1⟩)
  have rG' : ∀ E : mM, (∀ q, q ≠ [0, 5, 0] → E.1 q = D.1 q) → rG [0, 0] E nb kd := fun E hE => ⟨by rw [hE _ (by simp), dk 11 (by omega)]; exact cG, b40, rGr_congr (by rw [hE _ (by simp), dq _ (by simp)]) g8⟩
  have eB : ∀ E : mM, (∀ q, q ≠ [0, 5, 0] → E.1 q = D.1 q) → ∀ b, E.1 [b, 10, 0, 0] = C.1 [b, 10, 0, 0] := fun E hE b => by rw [hE _ (by simp), dq _ (by simp)]
  have r29 : ∀ E : mM, (∀ q, q ≠ [0, 5, 0] → E.1 q = D.1 q) → kI L xs 29 [vr 2 [0, 0]] E = some (sumN (fun b => if kd b = 0 then M.1 [1, 1] (200 + 16 * b + 3) else oN 0) nb, E) := fun E hE => by
    rw [s_29 (rG' E hE)]
    congr 2
    refine sumN_congr (fun b hb => ?_)
    obtain ⟨-, -, ⟨⟨h, v0, v1, v2⟩, -⟩, -⟩ := g7 b hb
    rw [eB E hE, v1, v2]
  have r28 : ∀ E : mM, (∀ q, q ≠ [0, 5, 0] → E.1 q = D.1 q) → kI L xs 28 [vr 2 [0, 0]] E = some (sumN (fun b => if kd b = 0 then M.1 [1, 1] (200 + 16 * b + 7) else oN 0) nb, E) := fun E hE => by
    rw [s_28 (rG' E hE)]
    congr 2
    refine sumN_congr (fun b hb => ?_)
    obtain ⟨-, -, ⟨-, -, -, -, v5, -⟩, -⟩ := g7 b hb
    rw [eB E hE, v5]
  have r27 : ∀ E : mM, (∀ q, q ≠ [0, 5, 0] → E.1 q = D.1 q) → kI L xs 27 [vr 2 [0, 0]] E = some (sumN (fun b => if kd b = 0 then M.1 [1, 1] (200 + 16 * b + 8) else oN 0) nb, E) := fun E hE => by
    rw [s_27 (rG' E hE)]
    congr 2
    refine sumN_congr (fun b hb => ?_)
    obtain ⟨-, -, ⟨-, -, -, -, -, v6, -⟩, -⟩ := g7 b hb
    rw [eB E hE, v6]
  obtain ⟨h3, eh3⟩ : ∃ h3, h3 = sumN (fun b => if kd b = 0 then M.1 [1, 1] (200 + 16 * b + 3) else oN 0) nb := ⟨_, rfl⟩
  obtain ⟨h7, eh7⟩ : ∃ h7, h7 = sumN (fun b => if kd b = 0 then M.1 [1, 1] (200 + 16 * b + 7) else oN 0) nb := ⟨_, rfl⟩
  obtain ⟨h8, eh8⟩ : ∃ h8, h8 = sumN (fun b => if kd b = 0 then M.1 [1, 1] (200 + 16 * b + 8) else oN 0) nb := ⟨_, rfl⟩
  rw [← eh3] at r29
  rw [← eh7] at r28
  rw [← eh8] at r27
  have q0 : ∀ q, q ≠ [0, 5, 0] → D.1 q = D.1 q := fun _ _ => rfl
  have q1 := kp_w (k := 5 * now) (v := oN (maxN pr nw)) q0
  have q2 := kp_w (k := 5 * now + 1) (v := oN (maxN pu nw)) q1
  have q3 := kp_w (k := 5 * now + 2) (v := h3) q2
  have q4 := kp_w (k := 5 * now + 3) (v := h7) q3
  have q5 := kp_w (k := 5 * now + 4) (v := h8) q4
  obtain ⟨E5, eE5⟩ : ∃ E5, E5 = wI (wI (wI (wI (wI D [0, 5, 0] (5 * now) (oN (maxN pr nw))) [0, 5, 0] (5 * now + 1) (oN (maxN pu nw))) [0, 5, 0] (5 * now + 2) h3) [0, 5, 0] (5 * now + 3) h7) [0, 5, 0] (5 * now + 4) h8 := ⟨_, rfl⟩
  have cls : call L xs 4 [vr 1 [5, 0], vr 2 [0, 0]] D = run L xs 4 27 (104, [some (vr 1 [5, 0]), some (vr 2 [0, 0]), some (vi (oN now)), none, some (vi (oN 0)), none], [], E5) := by
    rw [e_4]
    simp (disch := omega) only [↓Bool.cond_eq_ite, ↓reduceIte, Bool.false_eq_true, eq_self, n_lit, n_neg, n_add, n_mul, n_sub, n_subM, n_div, n_mod, n_addM, m_div, m_subn, n_tN, n_inS, n_eq_t, n_eq_f, n_ne_t, n_ne_f, n_lt_t, n_lt_f, n_ge_t, n_ge_f, n_gt_t, n_gt_f, n_le_t, n_le_f, mn_eq, mn_ne, mn_lt, mn_ge, mn_gt, mn_le, nm_eq, nm_ne, nm_lt, nm_ge, nm_gt, nm_le, n_gts_t, c_eq_refl, c_ne_refl, w_fold, wC_fold, lt_M, cond_true, cond_false, Bool.and_true, Bool.true_and, Bool.and_false, Bool.false_and, Bool.not_true, Bool.not_false, isZS_0, isZS_1, d0, Nat.add_sub_cancel, r75 D q0, r75u _ q1, r29 _ q2, r28 _ q3, r27 _ q4, Option.bind_some]
    rw [eE5]
  have m200 : kI L xs 200 [vr 10 [1]] M = some (oN (maxN pr nw), M) := s_200 S1 b24 (fun w hw => ⟨(hwy w hw).1, (hwy w hw).2.2.2.2.1⟩)
  obtain ⟨N1, eN1⟩ : ∃ N1, N1 = wI M [20, 1] now (oN (maxN pr nw)) := ⟨_, rfl⟩
  have n1 : ∀ q, q ≠ [20, 1] → N1.1 q = M.1 q := fun q hq => by rw [eN1, w_ne hq]
  have mpu := s_215a (L := L) (xs := xs) (M := N1) (f := pu) (t := now) (nw := nw) (by omega) (by rw [n1 _ (by simp)]; exact S1) b24 (fun w hw => ⟨(hwy w hw).2.1, by rw [n1 _ (by simp)]; exact (hwy w hw).2.2.2.2.2.1⟩) nw 0 (by omega)
  obtain ⟨N2, eN2⟩ : ∃ N2, N2 = wI N1 [21, 1] now (oN (maxN pu nw)) := ⟨_, rfl⟩
  have mk : ∀ E : mM, E.1 [1, 1] = M.1 [1, 1] → E.1 [11, 1] = M.1 [11, 1] → mKd E nb kd := fun E e1 e2 => ⟨by rw [e1]; exact S2, b40, fun b hb => by
    obtain ⟨⟨x1, -, -, x4, -⟩, -⟩ := g7 b hb
    exact ⟨x1, by rw [e2]; exact x4⟩⟩
  have n2 : ∀ q, q ≠ [20, 1] → q ≠ [21, 1] → N2.1 q = M.1 q := fun q h1 h2 => by rw [eN2, w_ne h2]; exact n1 q h1
  have t3 := s_229 (L := L) (xs := xs) (f := 3) (by omega) (mk N2 (n2 _ (by simp) (by simp)) (n2 _ (by simp) (by simp)))
  obtain ⟨N3, eN3⟩ : ∃ N3, N3 = wI N2 [22, 1] now h3 := ⟨_, rfl⟩
  have n3 : ∀ q, q ≠ [20, 1] → q ≠ [21, 1] → q ≠ [22, 1] → N3.1 q = M.1 q := fun q h1 h2 h3' => by rw [eN3, w_ne h3']; exact n2 q h1 h2
  have t7 := s_229 (L := L) (xs := xs) (f := 7) (by omega) (mk N3 (n3 _ (by simp) (by simp) (by simp)) (n3 _ (by simp) (by simp) (by simp)))
  obtain ⟨N4, eN4⟩ : ∃ N4, N4 = wI N3 [23, 1] now h7 := ⟨_, rfl⟩
  have n4 : ∀ q, q ≠ [20, 1] → q ≠ [21, 1] → q ≠ [22, 1] → q ≠ [23, 1] → N4.1 q = M.1 q := fun q h1 h2 h3' h4 => by rw [eN4, w_ne h4]; exact n3 q h1 h2 h3'
  have t8 := s_229 (L := L) (xs := xs) (f := 8) (by omega) (mk N4 (n4 _ (by simp) (by simp) (by simp) (by simp)) (n4 _ (by simp) (by simp) (by simp) (by simp)))
  obtain ⟨N5, eN5⟩ : ∃ N5, N5 = wI N4 [24, 1] now h8 := ⟨_, rfl⟩
  have n5 : ∀ q, q ≠ [20, 1] → q ≠ [21, 1] → q ≠ [22, 1] → q ≠ [23, 1] → q ≠ [24, 1] → N5.1 q = M.1 q := fun q h1 h2 h3' h4 h5 => by rw [eN5, w_ne h5]; exact n4 q h1 h2 h3' h4
  rw [n2 [1, 1] (by simp) (by simp), ← eh3] at t3
  rw [n3 [1, 1] (by simp) (by simp) (by simp), ← eh7] at t7
  rw [n4 [1, 1] (by simp) (by simp) (by simp) (by simp), ← eh8] at t8
  have mod : call L xs 215 [vr 10 [1]] M = run L xs 215 27 (121, [some (vr 10 [1]), some (vi (oN now)), some (vi (oN 0))], [], N5) := by
    have w1 : N2.1 [1, 1] 1 = oN nw := by rw [n2 _ (by simp) (by simp)]; exact S1
    rw [e_215]
    simp (disch := omega) only [↓Bool.cond_eq_ite, ↓reduceIte, Bool.false_eq_true, eq_self, n_lit, n_neg, n_add, n_mul, n_sub, n_subM, n_div, n_mod, n_addM, m_div, m_subn, n_tN, n_inS, n_eq_t, n_eq_f, n_ne_t, n_ne_f, n_lt_t, n_lt_f, n_ge_t, n_ge_f, n_gt_t, n_gt_f, n_le_t, n_le_f, mn_eq, mn_ne, mn_lt, mn_ge, mn_gt, mn_le, nm_eq, nm_ne, nm_lt, nm_ge, nm_gt, nm_le, n_gts_t, c_eq_refl, c_ne_refl, w_fold, wC_fold, lt_M, cond_true, cond_false, Bool.and_true, Bool.true_and, Bool.and_false, Bool.false_and, Bool.not_true, Bool.not_false, isZS_0, isZS_1, m200, S5, ← eN1, Option.bind_some]
    refine mpu.trans ?_
    rw [← eN2, h_215_26]
    simp (disch := omega) only [↓Bool.cond_eq_ite, ↓reduceIte, Bool.false_eq_true, eq_self, n_lit, n_neg, n_add, n_mul, n_sub, n_subM, n_div, n_mod, n_addM, m_div, m_subn, n_tN, n_inS, n_eq_t, n_eq_f, n_ne_t, n_ne_f, n_lt_t, n_lt_f, n_ge_t, n_ge_f, n_gt_t, n_gt_f, n_le_t, n_le_f, mn_eq, mn_ne, mn_lt, mn_ge, mn_gt, mn_le, nm_eq, nm_ne, nm_lt, nm_ge, nm_gt, nm_le, n_gts_t, c_eq_refl, c_ne_refl, w_fold, wC_fold, lt_M, cond_true, cond_false, Bool.and_true, Bool.true_and, Bool.and_false, Bool.false_and, Bool.not_true, Bool.not_false, isZS_0, isZS_1, w1, t3, ← eN3, t7, ← eN4, t8, ← eN5, Option.bind_some]
  obtain ⟨C', M', k1, k2, j1, j2, j3, j4, j5, j6, j7⟩ := place_loop (L := L) (xs := xs) (Cb := E5) (Mb := N5) (now := now) (nb := nb) (kd := kd) hn (by rw [eE5, q5 _ (by simp), dk 11 (by omega)]; exact cG) b40 (rGr_congr (by rw [eE5, q5 _ (by simp), dq _ (by simp)]) g8) (by rw [n5 _ (by simp) (by simp) (by simp) (by simp) (by simp)]; exact S2) (fun b hb hk => by
    obtain ⟨⟨x1, x2, -⟩, ⟨-, hp⟩, -⟩ := g7 b hb
    rw [n5 [1, 1] (by simp) (by simp) (by simp) (by simp) (by simp), eE5, q5 [b, 10, 0, 0] (by simp), dq [b, 10, 0, 0] (by simp)]
    refine ⟨x2, ?_⟩
    rcases hp with ⟨-, u, u1, u2, u3, u4, u5⟩ | ⟨-, w, e, t, w1, w2, w3, w4, w5, w6, w7, w8, -⟩ | ⟨e, -⟩ | ⟨e, -⟩
    · exact .inl ⟨u, by omega, u2, u3⟩
    · exact .inr ⟨w, by omega, w5, w6, w7, w8⟩
    · omega
    · exact absurd hk e)
  rw [← hD]
  refine ⟨C', M', kV_of (cls.trans k1), kV_of (mod.trans k2), fun q h1 h2 => ?_, ?_, fun q hq => ?_, ?_, ?_⟩
  · rw [j1, eE5, q5 q h1]
  · rw [j2, eE5, hD]; rfl
  · rw [j3 q (hq 25 (by omega) (by omega)), n5 q (hq 20 (by omega) (by omega)) (hq 21 (by omega) (by omega)) (hq 22 (by omega) (by omega)) (hq 23 (by omega) (by omega)) (hq 24 (by omega) (by omega))]
  · rw [j4, eN5, eN4, eN3, eN2, eN1]; rfl
  · intro hH
    obtain ⟨H1, H2⟩ := hH
    have m20 : M'.1 [20, 1] = (wI M [20, 1] now (oN (maxN pr nw))).1 [20, 1] := by rw [j3 _ (by simp), eN5, w_ne (by simp), eN4, w_ne (by simp), eN3, w_ne (by simp), eN2, w_ne (by simp), eN1]
    have m21 : M'.1 [21, 1] = (wI N1 [21, 1] now (oN (maxN pu nw))).1 [21, 1] := by rw [j3 _ (by simp), eN5, w_ne (by simp), eN4, w_ne (by simp), eN3, w_ne (by simp), eN2]
    have m22 : M'.1 [22, 1] = (wI N2 [22, 1] now h3).1 [22, 1] := by rw [j3 _ (by simp), eN5, w_ne (by simp), eN4, w_ne (by simp), eN3]
    have m23 : M'.1 [23, 1] = (wI N3 [23, 1] now h7).1 [23, 1] := by rw [j3 _ (by simp), eN5, w_ne (by simp), eN4]
    have m24 : M'.1 [24, 1] = (wI N4 [24, 1] now h8).1 [24, 1] := by rw [j3 _ (by simp), eN5]
    have c05 : C'.1 [0, 5, 0] = E5.1 [0, 5, 0] := by rw [j1]
    have dd : D.1 [0, 5, 0] = C.1 [0, 5, 0] := dq _ (by simp)
    refine ⟨fun m hm' => ?_, fun b m n hb hk hm' h16 hn' hnm => ?_⟩
    · rw [m20, m21, m22, m23, m24, c05, eE5]
      by_cases e : m = now
      · subst e
        simp (disch := omega) only [w_at, eq_self, true_and, if_true, if_neg]
      · obtain ⟨x1, x2, x3, x4, x5⟩ := H1 m (by omega)
        rw [w_ne_k e, w_ne_k e, w_ne_k e, w_ne_k e, w_ne_k e, n1 _ (by simp), n2 _ (by simp) (by simp), n3 _ (by simp) (by simp) (by simp), n4 _ (by simp) (by simp) (by simp) (by simp)]
        refine ⟨?_, ?_, ?_, ?_, ?_⟩
        · rw [w_ne_k (by omega), w_ne_k (by omega), w_ne_k (by omega), w_ne_k (by omega), w_ne_k (by omega), dd]; exact x1
        · rw [w_ne_k (by omega), w_ne_k (by omega), w_ne_k (by omega), w_ne_k (by omega), w_ne_k (by omega), dd]; exact x2
        · rw [w_ne_k (by omega), w_ne_k (by omega), w_ne_k (by omega), w_ne_k (by omega), w_ne_k (by omega), dd]; exact x3
        · rw [w_ne_k (by omega), w_ne_k (by omega), w_ne_k (by omega), w_ne_k (by omega), w_ne_k (by omega), dd]; exact x4
        · rw [w_ne_k (by omega), w_ne_k (by omega), w_ne_k (by omega), w_ne_k (by omega), w_ne_k (by omega), dd]; exact x5
    · by_cases e : m = now
      · subst e
        exact j5 b hb hk
      · have eL : E5.2.1 = C.2.1 := by rw [eE5, hD]; rfl
        rw [j6 _ (fun b' => by omega), j7 _ (fun b' => by omega), eL, n5 _ (by simp) (by simp) (by simp) (by simp) (by simp)]
        rw [j3 [16, 1] (by simp), n5 _ (by simp) (by simp) (by simp) (by simp) (by simp)] at h16
        exact H2 b m n hb hk (by omega) h16 hn' hnm
end Note3
