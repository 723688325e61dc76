section Min5
variable {L : Nat} {xs : Nat → Int32} {C M : mM} {c nc nw nb np nt now td hm : Nat} {kd wa wb wd wl ws : Nat → Nat}
variable {r : List Nat} {S S' : Nat → Int32} {C' M' : mM}
theorem rB_setr {k b t t' : Nat} (hb : b < 40) (hC : ∀ j, j ≠ 10 → j ≠ 11 → j ≠ 12 → C'.1 (b :: 10 :: r) j = C.1 (b :: 10 :: r) j)
    (hC0 : C'.1 (18 :: b :: 10 :: r) = C.1 (18 :: b :: 10 :: r)) (hC1 : C'.1 (1 :: 18 :: b :: 10 :: r) = C.1 (1 :: 18 :: b :: 10 :: r)) (hC2 : C'.1 (2 :: 18 :: b :: 10 :: r) = C.1 (2 :: 18 :: b :: 10 :: r))
    (hS : ∀ i, i < 16 → i ≠ 5 → i ≠ 6 → i ≠ 10 → i ≠ 11 → S' (200 + 16 * b + i) = S (200 + 16 * b + i)) (hA : ∀ i, i < 16 → S' (900 + 16 * b + i) = S (900 + 16 * b + i))
    (hM : ∀ k, 11 ≤ k → k ≤ 16 → M'.1 [k, 1] b = M.1 [k, 1] b) (h10 : C'.1 (b :: 10 :: r) 10 = S' (200 + 16 * b + 5)) (h11 : C'.1 (b :: 10 :: r) 11 = S' (200 + 16 * b + 6)) (ht : rBt r S' C' t' k b)
    (h : rB r S C M nc nw t hm k b) : rB r S' C' M' nc nw t' hm k b := by
  obtain ⟨a1, a2, a3, -, a5⟩ := h
  have s0 := hS 0 (by omega) (by omega) (by omega) (by omega) (by omega)
  rw [Nat.add_zero] at s0
  have hc : ∀ j, j < 10 ∨ 12 < j → C'.1 (b :: 10 :: r) j = C.1 (b :: 10 :: r) j := fun j hj => hC j (by omega) (by omega) (by omega)
  have hs : ∀ i, i < 5 ∨ i = 7 ∨ i = 8 ∨ i = 9 ∨ i = 12 ∨ i = 13 → S' (200 + 16 * b + i) = S (200 + 16 * b + i) := fun i hi => hS i (by omega) (by omega) (by omega) (by omega) (by omega)
  refine ⟨?_, ?_, ?_, ht, rBa_congr hb hC0 hC1 hC2 (hs 12 (by omega)) hA a5⟩
  · unfold rBi at a1 ⊢
    rw [hc 0 (by omega), hc 1 (by omega), hc 7 (by omega), hc 8 (by omega), hc 16 (by omega), hc 17 (by omega), hM 11 (by omega) (by omega), hM 12 (by omega) (by omega), hM 13 (by omega) (by omega), hM 14 (by omega) (by omega), hM 16 (by omega) (by omega)]
    exact a1
  · unfold rBp at a2 ⊢
    rw [hc 2 (by omega), hc 3 (by omega), hc 4 (by omega), hc 5 (by omega), s0, hs 1 (by omega), hs 2 (by omega), hs 13 (by omega), hM 15 (by omega) (by omega)]
    exact a2
  · obtain ⟨v6, v9, -, -, v13, v14, v15⟩ := a3
    refine ⟨?_, ?_, h10, h11, ?_, ?_, ?_⟩
    · rw [hc 6 (by omega), hs 3 (by omega)]; exact v6
    · rw [hc 9 (by omega), hs 4 (by omega)]; exact v9
    · rw [hc 13 (by omega), hs 7 (by omega)]; exact v13
    · rw [hc 14 (by omega), hs 8 (by omega)]; exact v14
    · rw [hc 15 (by omega), hs 9 (by omega)]; exact v15
set_option maxRecDepth 8000 in
set_option maxHeartbeats 4000000 in
theorem rite_ok (hc : c ≠ 4) (hhm : hm ≤ 1000) (hP : rPt [c, 0] (M.1 [1, 1]) C M nc nw nb np nt now now hm kd wa wb wd wl ws) : ∃ C' M', kV L xs 12 [vr 2 [c, 0]] C = some C' ∧ run L xs 205 35 (18, [some (vr 10 [1]), some (vi (oN 0))], [], M) = run L xs 205 35 (50, [some (vr 10 [1]), some (vi (oN 0))], [], M') ∧ rPt [c, 0] (M'.1 [1, 1]) C' M' nc nw nb np nt now (now + 1) hm kd wa wb wd wl ws ∧ frC [c, 0] C C' ∧ frM M M' := by
  have h40 : nb ≤ 40 := hP.1.2.2.2.2.2.2.2.2.2.2.2.2.2.2.2.1
  have h4320 : now ≤ 4320 := hP.1.2.2.2.2.2.2.2.2.2.2.2.2.2.2.2.2.2.2
  have hm24 : now / 60 - now / 60 / 24 * 24 = now / 60 % 24 := by omega
  have hm60 : now - now / 60 * 60 = now % 60 := by omega
  have hm1440 : now - now / 1440 * 1440 = now % 1440 := by omega
  by_cases hno : ¬ (12 ≤ now / 60 % 24 ∧ now / 60 % 24 ≤ 17) ∧ now % 60 ≠ 0
  · obtain ⟨g1, g2, g3, g4, g5, g6, g7, g8, g9, g10⟩ := hP
    have hsc := g1
    obtain ⟨cN, cT, cC, cW, cB, cG, cP, S0, S1, S2, S3, S4, S5, b16, b24, b40, b8, b20, b4320⟩ := hsc
    have key : ∀ k b, b + k = nb → run L xs 205 35 (18, [some (vr 10 [1]), some (vi (oN b))], [], M) = run L xs 205 35 (50, [some (vr 10 [1]), some (vi (oN 0))], [], M) := by
      intro k
      induction k with
      | zero =>
        intro b hb
        rw [h_205_18]
        simp (disch := omega) only [↓Bool.cond_eq_ite, ↓reduceIte, Bool.false_eq_true, eq_self, n_lit, n_neg, n_add, n_mul, n_sub, n_subM, n_div, n_mod, n_addM, m_div, m_subn, n_tN, n_inS, n_eq_t, n_eq_f, n_ne_t, n_ne_f, n_lt_t, n_lt_f, n_ge_t, n_ge_f, n_gt_t, n_gt_f, n_le_t, n_le_f, mn_eq, mn_ne, mn_lt, mn_ge, mn_gt, mn_le, nm_eq, nm_ne, nm_lt, nm_ge, nm_gt, nm_le, n_gts_t, c_eq_refl, c_ne_refl, w_fold, w_2, wC_fold, lt_M, cond_true, cond_false, Bool.and_true, Bool.true_and, Bool.and_false, Bool.false_and, Bool.not_true, Bool.not_false, isZS_0, isZS_1, S2]
      | succ k ih =>
        intro b hb
        obtain ⟨⟨k5, i0, i1, i11, -⟩, ⟨p5, hp⟩, ⟨⟨hd, hd1, hd2, hd3⟩, -⟩, -, -⟩ := g7 b (by omega)
        rw [← ih (b + 1) (by omega), h_205_18]
        by_cases hk : kd b = 0
        · have e218 : kV L xs 218 [vr 10 [1], vi (oN b)] M = some M := by
            refine kV_of ?_
            rw [e_218]
            rcases hp with ⟨-, u, u1, u2, u3, u4, u5⟩ | ⟨-, w, e, t, w1, e1, t1, t2, u2, u3, -⟩ | ⟨k4, -⟩ | ⟨k0, -⟩
            · by_cases hd0 : hd = 0
              · simp (disch := omega) only [↓Bool.cond_eq_ite, ↓reduceIte, Bool.false_eq_true, eq_self, n_lit, n_neg, n_add, n_mul, n_sub, n_subM, n_div, n_mod, n_addM, m_div, m_subn, n_tN, n_inS, n_eq_t, n_eq_f, n_ne_t, n_ne_f, n_lt_t, n_lt_f, n_ge_t, n_ge_f, n_gt_t, n_gt_f, n_le_t, n_le_f, mn_eq, mn_ne, mn_lt, mn_ge, mn_gt, mn_le, nm_eq, nm_ne, nm_lt, nm_ge, nm_gt, nm_le, n_gts_t, c_eq_refl, c_ne_refl, w_fold, w_2, wC_fold, lt_M, cond_true, cond_false, Bool.and_true, Bool.true_and, Bool.and_false, Bool.false_and, Bool.not_true, Bool.not_false, isZS_0, isZS_1, Nat.add_zero, u3, hd3]
              · by_cases s1 : M.1 [5, 1] u = oN 1
                · by_cases hh : now / 60 % 24 < 12
                  · simp (disch := omega) only [↓Bool.cond_eq_ite, ↓reduceIte, Bool.false_eq_true, eq_self, n_lit, n_neg, n_add, n_mul, n_sub, n_subM, n_div, n_mod, n_addM, m_div, m_subn, n_tN, n_inS, n_eq_t, n_eq_f, n_ne_t, n_ne_f, n_lt_t, n_lt_f, n_ge_t, n_ge_f, n_gt_t, n_gt_f, n_le_t, n_le_f, mn_eq, mn_ne, mn_lt, mn_ge, mn_gt, mn_le, nm_eq, nm_ne, nm_lt, nm_ge, nm_gt, nm_le, n_gts_t, c_eq_refl, c_ne_refl, w_fold, w_2, wC_fold, lt_M, cond_true, cond_false, Bool.and_true, Bool.true_and, Bool.and_false, Bool.false_and, Bool.not_true, Bool.not_false, isZS_0, isZS_1, Nat.add_zero, u3, hd3, s1, S5, hm24]
                  · simp (disch := omega) only [↓Bool.cond_eq_ite, ↓reduceIte, Bool.false_eq_true, eq_self, n_lit, n_neg, n_add, n_mul, n_sub, n_subM, n_div, n_mod, n_addM, m_div, m_subn, n_tN, n_inS, n_eq_t, n_eq_f, n_ne_t, n_ne_f, n_lt_t, n_lt_f, n_ge_t, n_ge_f, n_gt_t, n_gt_f, n_le_t, n_le_f, mn_eq, mn_ne, mn_lt, mn_ge, mn_gt, mn_le, nm_eq, nm_ne, nm_lt, nm_ge, nm_gt, nm_le, n_gts_t, c_eq_refl, c_ne_refl, w_fold, w_2, wC_fold, lt_M, cond_true, cond_false, Bool.and_true, Bool.true_and, Bool.and_false, Bool.false_and, Bool.not_true, Bool.not_false, isZS_0, isZS_1, Nat.add_zero, u3, hd3, s1, S5, hm24]
                · by_cases s2 : M.1 [5, 1] u = oN 2
                  · simp (disch := omega) only [↓Bool.cond_eq_ite, ↓reduceIte, Bool.false_eq_true, eq_self, n_lit, n_neg, n_add, n_mul, n_sub, n_subM, n_div, n_mod, n_addM, m_div, m_subn, n_tN, n_inS, n_eq_t, n_eq_f, n_ne_t, n_ne_f, n_lt_t, n_lt_f, n_ge_t, n_ge_f, n_gt_t, n_gt_f, n_le_t, n_le_f, mn_eq, mn_ne, mn_lt, mn_ge, mn_gt, mn_le, nm_eq, nm_ne, nm_lt, nm_ge, nm_gt, nm_le, n_gts_t, c_eq_refl, c_ne_refl, w_fold, w_2, wC_fold, lt_M, cond_true, cond_false, Bool.and_true, Bool.true_and, Bool.and_false, Bool.false_and, Bool.not_true, Bool.not_false, isZS_0, isZS_1, Nat.add_zero, u3, hd3, s2, S5, hm60]
                  · simp (disch := omega) only [↓Bool.cond_eq_ite, ↓reduceIte, Bool.false_eq_true, eq_self, n_lit, n_neg, n_add, n_mul, n_sub, n_subM, n_div, n_mod, n_addM, m_div, m_subn, n_tN, n_inS, n_eq_t, n_eq_f, n_ne_t, n_ne_f, n_lt_t, n_lt_f, n_ge_t, n_ge_f, n_gt_t, n_gt_f, n_le_t, n_le_f, mn_eq, mn_ne, mn_lt, mn_ge, mn_gt, mn_le, nm_eq, nm_ne, nm_lt, nm_ge, nm_gt, nm_le, n_gts_t, c_eq_refl, c_ne_refl, w_fold, w_2, wC_fold, lt_M, cond_true, cond_false, Bool.and_true, Bool.true_and, Bool.and_false, Bool.false_and, Bool.not_true, Bool.not_false, isZS_0, isZS_1, Nat.add_zero, u3, hd3, c_ne_t s1, c_ne_t s2]
            · simp (disch := omega) only [↓Bool.cond_eq_ite, ↓reduceIte, Bool.false_eq_true, eq_self, n_lit, n_neg, n_add, n_mul, n_sub, n_subM, n_div, n_mod, n_addM, m_div, m_subn, n_tN, n_inS, n_eq_t, n_eq_f, n_ne_t, n_ne_f, n_lt_t, n_lt_f, n_ge_t, n_ge_f, n_gt_t, n_gt_f, n_le_t, n_le_f, mn_eq, mn_ne, mn_lt, mn_ge, mn_gt, mn_le, nm_eq, nm_ne, nm_lt, nm_ge, nm_gt, nm_le, n_gts_t, c_eq_refl, c_ne_refl, w_fold, w_2, wC_fold, lt_M, cond_true, cond_false, Bool.and_true, Bool.true_and, Bool.and_false, Bool.false_and, Bool.not_true, Bool.not_false, isZS_0, isZS_1, Nat.add_zero, u3]
            · omega
            · exact absurd hk k0
          rw [hk] at i11
          simp (disch := omega) only [↓Bool.cond_eq_ite, ↓reduceIte, Bool.false_eq_true, eq_self, n_lit, n_neg, n_add, n_mul, n_sub, n_subM, n_div, n_mod, n_addM, m_div, m_subn, n_tN, n_inS, n_eq_t, n_eq_f, n_ne_t, n_ne_f, n_lt_t, n_lt_f, n_ge_t, n_ge_f, n_gt_t, n_gt_f, n_le_t, n_le_f, mn_eq, mn_ne, mn_lt, mn_ge, mn_gt, mn_le, nm_eq, nm_ne, nm_lt, nm_ge, nm_gt, nm_le, n_gts_t, c_eq_refl, c_ne_refl, w_fold, w_2, wC_fold, lt_M, cond_true, cond_false, Bool.and_true, Bool.true_and, Bool.and_false, Bool.false_and, Bool.not_true, Bool.not_false, isZS_0, isZS_1, S2, i11, e218, Option.bind_some]
        · simp (disch := omega) only [↓Bool.cond_eq_ite, ↓reduceIte, Bool.false_eq_true, eq_self, n_lit, n_neg, n_add, n_mul, n_sub, n_subM, n_div, n_mod, n_addM, m_div, m_subn, n_tN, n_inS, n_eq_t, n_eq_f, n_ne_t, n_ne_f, n_lt_t, n_lt_f, n_ge_t, n_ge_f, n_gt_t, n_gt_f, n_le_t, n_le_f, mn_eq, mn_ne, mn_lt, mn_ge, mn_gt, mn_le, nm_eq, nm_ne, nm_lt, nm_ge, nm_gt, nm_le, n_gts_t, c_eq_refl, c_ne_refl, w_fold, w_2, wC_fold, lt_M, cond_true, cond_false, Bool.and_true, Bool.true_and, Bool.and_false, Bool.false_and, Bool.not_true, Bool.not_false, isZS_0, isZS_1, S2, i11]
    refine ⟨C, M, kV_of ?_, key nb 0 (by omega), ⟨g1, g2, g3, g4, g5, g6, fun b hb => ?_, g8, g9, g10⟩, frC_refl, frM_refl⟩
    · rw [e_12]
      by_cases hh : now / 60 % 24 < 12
      · simp (disch := omega) only [↓Bool.cond_eq_ite, ↓reduceIte, Bool.false_eq_true, eq_self, n_lit, n_neg, n_add, n_mul, n_sub, n_subM, n_div, n_mod, n_addM, m_div, m_subn, n_tN, n_inS, n_eq_t, n_eq_f, n_ne_t, n_ne_f, n_lt_t, n_lt_f, n_ge_t, n_ge_f, n_gt_t, n_gt_f, n_le_t, n_le_f, mn_eq, mn_ne, mn_lt, mn_ge, mn_gt, mn_le, nm_eq, nm_ne, nm_lt, nm_ge, nm_gt, nm_le, n_gts_t, c_eq_refl, c_ne_refl, w_fold, w_2, wC_fold, lt_M, cond_true, cond_false, Bool.and_true, Bool.true_and, Bool.and_false, Bool.false_and, Bool.not_true, Bool.not_false, isZS_0, isZS_1, cN, hm24, h_12_21, hm60]
      · simp (disch := omega) only [↓Bool.cond_eq_ite, ↓reduceIte, Bool.false_eq_true, eq_self, n_lit, n_neg, n_add, n_mul, n_sub, n_subM, n_div, n_mod, n_addM, m_div, m_subn, n_tN, n_inS, n_eq_t, n_eq_f, n_ne_t, n_ne_f, n_lt_t, n_lt_f, n_ge_t, n_ge_f, n_gt_t, n_gt_f, n_le_t, n_le_f, mn_eq, mn_ne, mn_lt, mn_ge, mn_gt, mn_le, nm_eq, nm_ne, nm_lt, nm_ge, nm_gt, nm_le, n_gts_t, c_eq_refl, c_ne_refl, w_fold, w_2, wC_fold, lt_M, cond_true, cond_false, Bool.and_true, Bool.true_and, Bool.and_false, Bool.false_and, Bool.not_true, Bool.not_false, isZS_0, isZS_1, cN, hm24, h_12_21, hm60]
    · obtain ⟨a1, a2, a3, a4, a5⟩ := g7 b hb
      exact ⟨a1, a2, a3, rBt_next (by omega) a4, a5⟩
  have hstart : call L xs 12 [vr 2 [c, 0]] C = run L xs 12 26 (51, [some (vr 2 [c, 0]), none, some (vi (oN (if 12 ≤ now / 60 % 24 ∧ now / 60 % 24 ≤ 17 then 1 else 0))), some (vi (oN (if now % 60 = 0 then 1 else 0))), some (vi (oN 0)), none, none], [], C) := by
    obtain ⟨cN, -⟩ := hP.1
    rw [e_12]
    by_cases z60 : now % 60 = 0
    · by_cases h1 : now / 60 % 24 < 12
      · rw [if_neg (by omega), if_pos z60]
        simp (disch := omega) only [↓Bool.cond_eq_ite, ↓reduceIte, Bool.false_eq_true, eq_self, n_lit, n_neg, n_add, n_mul, n_sub, n_subM, n_div, n_mod, n_addM, m_div, m_subn, n_tN, n_inS, n_eq_t, n_eq_f, n_ne_t, n_ne_f, n_lt_t, n_lt_f, n_ge_t, n_ge_f, n_gt_t, n_gt_f, n_le_t, n_le_f, mn_eq, mn_ne, mn_lt, mn_ge, mn_gt, mn_le, nm_eq, nm_ne, nm_lt, nm_ge, nm_gt, nm_le, n_gts_t, c_eq_refl, c_ne_refl, w_fold, w_2, wC_fold, lt_M, cond_true, cond_false, Bool.and_true, Bool.true_and, Bool.and_false, Bool.false_and, Bool.not_true, Bool.not_false, isZS_0, isZS_1, cN, hm24, h_12_21, hm60, h_12_48]
      · by_cases h2 : now / 60 % 24 ≤ 17
        · rw [if_pos (by omega), if_pos z60]
          simp (disch := omega) only [↓Bool.cond_eq_ite, ↓reduceIte, Bool.false_eq_true, eq_self, n_lit, n_neg, n_add, n_mul, n_sub, n_subM, n_div, n_mod, n_addM, m_div, m_subn, n_tN, n_inS, n_eq_t, n_eq_f, n_ne_t, n_ne_f, n_lt_t, n_lt_f, n_ge_t, n_ge_f, n_gt_t, n_gt_f, n_le_t, n_le_f, mn_eq, mn_ne, mn_lt, mn_ge, mn_gt, mn_le, nm_eq, nm_ne, nm_lt, nm_ge, nm_gt, nm_le, n_gts_t, c_eq_refl, c_ne_refl, w_fold, w_2, wC_fold, lt_M, cond_true, cond_false, Bool.and_true, Bool.true_and, Bool.and_false, Bool.false_and, Bool.not_true, Bool.not_false, isZS_0, isZS_1, cN, hm24, h_12_21, hm60, h_12_48]
        · rw [if_neg (by omega), if_pos z60]
          simp (disch := omega) only [↓Bool.cond_eq_ite, ↓reduceIte, Bool.false_eq_true, eq_self, n_lit, n_neg, n_add, n_mul, n_sub, n_subM, n_div, n_mod, n_addM, m_div, m_subn, n_tN, n_inS, n_eq_t, n_eq_f, n_ne_t, n_ne_f, n_lt_t, n_lt_f, n_ge_t, n_ge_f, n_gt_t, n_gt_f, n_le_t, n_le_f, mn_eq, mn_ne, mn_lt, mn_ge, mn_gt, mn_le, nm_eq, nm_ne, nm_lt, nm_ge, nm_gt, nm_le, n_gts_t, c_eq_refl, c_ne_refl, w_fold, w_2, wC_fold, lt_M, cond_true, cond_false, Bool.and_true, Bool.true_and, Bool.and_false, Bool.false_and, Bool.not_true, Bool.not_false, isZS_0, isZS_1, cN, hm24, h_12_21, hm60, h_12_48]
    · have h1 : 12 ≤ now / 60 % 24 ∧ now / 60 % 24 ≤ 17 := Classical.byContradiction (fun h => hno ⟨h, z60⟩)
      rw [if_pos h1, if_neg z60]
      simp (disch := omega) only [↓Bool.cond_eq_ite, ↓reduceIte, Bool.false_eq_true, eq_self, n_lit, n_neg, n_add, n_mul, n_sub, n_subM, n_div, n_mod, n_addM, m_div, m_subn, n_tN, n_inS, n_eq_t, n_eq_f, n_ne_t, n_ne_f, n_lt_t, n_lt_f, n_ge_t, n_ge_f, n_gt_t, n_gt_f, n_le_t, n_le_f, mn_eq, mn_ne, mn_lt, mn_ge, mn_gt, mn_le, nm_eq, nm_ne, nm_lt, nm_ge, nm_gt, nm_le, n_gts_t, c_eq_refl, c_ne_refl, w_fold, w_2, wC_fold, lt_M, cond_true, cond_false, Bool.and_true, Bool.true_and, Bool.and_false, Bool.false_and, Bool.not_true, Bool.not_false, isZS_0, isZS_1, cN, hm24, h_12_21, hm60, h_12_48]
  have hsy := syncG (X := fun i C1 => run L xs 12 26 (51, [some (vr 2 [c, 0]), none, some (vi (oN (if 12 ≤ now / 60 % 24 ∧ now / 60 % 24 ≤ 17 then 1 else 0))), some (vi (oN (if now % 60 = 0 then 1 else 0))), some (vi (oN i)), none, none], [], C1)) (Y := fun b M1 => run L xs 205 35 (18, [some (vr 10 [1]), some (vi (oN b))], [], M1)) (J := (fun b C1 M1 => rPf [c, 0] (M1.1 [1, 1]) C1 M1 nc nw nb np nt now (fun x => if x < b then now + 1 else now) hm kd wa wb wd wl ws ∧ frC [c, 0] C C1 ∧ frM M M1)) (nb := nb) kd (by
    intro b C1 M1 hb hJ hk
    obtain ⟨hP, hf, hg⟩ := hJ
    have hP' := hP
    obtain ⟨g1, g2, g3, g4, g5, g6, g7, g8, g9, g10⟩ := hP'
    have hsc := g1
    obtain ⟨cN, cT, cC, cW, cB, cG, cP, S0, S1, S2, S3, S4, S5, b16, b24, b40, b8, b20, b4320⟩ := hsc
    have hle := cntG_le kd nb
    have hi := cntG_lt kd hb hk
    have hgr := g8 b hb hk
    have hb0 := g7 b hb
    try dsimp only at hb0
    rw [if_neg (Nat.lt_irrefl b), hk] at hb0
    obtain ⟨⟨k5, i0, i1, i11, i7, i8, i16, i14, i17⟩, ⟨p5, hp⟩, ⟨⟨hd, hd1, hd2, hd3⟩, v9, v10, v11, v13, v14, v15⟩, bt, ba⟩ := hb0
    have hb0 := g7 b hb
    try dsimp only at hb0
    rw [if_neg (Nat.lt_irrefl b), hk] at hb0
    obtain ⟨t, t7, ht1, ht2, ht3⟩ := rBt_eff h4320 bt
    have hY : ∀ M2, kV L xs 218 [vr 10 [1], vi (oN b)] M1 = some M2 → run L xs 205 35 (18, [some (vr 10 [1]), some (vi (oN b))], [], M1) = run L xs 205 35 (18, [some (vr 10 [1]), some (vi (oN (b + 1)))], [], M2) := fun M2 h2 => by
      rw [h_205_18]
      simp (disch := omega) only [↓Bool.cond_eq_ite, ↓reduceIte, Bool.false_eq_true, eq_self, n_lit, n_neg, n_add, n_mul, n_sub, n_subM, n_div, n_mod, n_addM, m_div, m_subn, n_tN, n_inS, n_eq_t, n_eq_f, n_ne_t, n_ne_f, n_lt_t, n_lt_f, n_ge_t, n_ge_f, n_gt_t, n_gt_f, n_le_t, n_le_f, mn_eq, mn_ne, mn_lt, mn_ge, mn_gt, mn_le, nm_eq, nm_ne, nm_lt, nm_ge, nm_gt, nm_le, n_gts_t, c_eq_refl, c_ne_refl, w_fold, w_2, wC_fold, lt_M, cond_true, cond_false, Bool.and_true, Bool.true_and, Bool.and_false, Bool.false_and, Bool.not_true, Bool.not_false, isZS_0, isZS_1, S2, i11, h2, Option.bind_some]
    obtain ⟨C2, x51, hP2, hf2, c12⟩ : ∃ C2, run L xs 12 26 (51, [some (vr 2 [c, 0]), none, some (vi (oN (if 12 ≤ now / 60 % 24 ∧ now / 60 % 24 ≤ 17 then 1 else 0))), some (vi (oN (if now % 60 = 0 then 1 else 0))), some (vi (oN (cntG kd b))), none, none], [], C1) = run L xs 12 26 (85, [some (vr 2 [c, 0]), none, some (vi (oN (if 12 ≤ now / 60 % 24 ∧ now / 60 % 24 ≤ 17 then 1 else 0))), some (vi (oN (if now % 60 = 0 then 1 else 0))), some (vi (oN (cntG kd b))), some (vr 0 [b, 10, c, 0]), none], [], C2) ∧ rPf [c, 0] (M1.1 [1, 1]) C2 M1 nc nw nb np nt now (fun x => if x < b + 1 then now + 1 else now) hm kd wa wb wd wl ws ∧ frC [c, 0] C C2 ∧ C2.1 [b, 10, c, 0] 12 = oN t := by
      by_cases z : now % 1440 = 0
      · refine ⟨wI C1 [b, 10, c, 0] 12 (oN 0), ?_, rPf_one (b0 := b) hP (fun q hq => by (first | rfl | (repeat rw [w_ne hq]))) (fun i h1 h2 => by first | rfl | (simp (disch := omega) only [↓reduceIte, w_at, w_2, List.cons.injEq, reduceCtorEq, and_false, false_and, and_true, true_and, if_true, if_false, eq_self, and_self, if_neg, if_pos, Nat.add_zero])) (fun q hq => by (first | rfl | (repeat rw [w_ne hq]))) hb (fun x hx hne => by
      by_cases hx2 : x < b
      · rw [if_pos hx2, if_pos (by omega)]
      · rw [if_neg hx2, if_neg (by omega)]) (by
      try dsimp only
      rw [if_pos (show b < b + 1 by omega), hk]
      refine rB_setr (by omega) (fun j j10 j11 j12 => by first | rfl | (simp (disch := omega) only [↓reduceIte, w_at, w_2, List.cons.injEq, reduceCtorEq, and_false, false_and, and_true, true_and, if_true, if_false, eq_self, and_self, if_neg, if_pos, Nat.add_zero])) (by first | rfl | (repeat (first | rw [w_ne (by simp)]))) (by first | rfl | (repeat (first | rw [w_ne (by simp)]))) (by first | rfl | (repeat (first | rw [w_ne (by simp)]))) (fun i h1 h2 h3 h4 h5 => by first | rfl | (simp (disch := omega) only [↓reduceIte, w_at, w_2, List.cons.injEq, reduceCtorEq, and_false, false_and, and_true, true_and, if_true, if_false, eq_self, and_self, if_neg, if_pos, Nat.add_zero])) (fun i h1 => by first | rfl | (simp (disch := omega) only [↓reduceIte, w_at, w_2, List.cons.injEq, reduceCtorEq, and_false, false_and, and_true, true_and, if_true, if_false, eq_self, and_self, if_neg, if_pos, Nat.add_zero])) (fun k h1 h2 => by first | rfl | (repeat (rw [w_ne (by simp; omega)]))) ?_ ?_ ?_ hb0
      · first | exact v10 | (simp (disch := omega) only [↓reduceIte, w_at, w_2, List.cons.injEq, reduceCtorEq, and_false, false_and, and_true, true_and, if_true, if_false, eq_self, and_self, if_neg, if_pos, Nat.add_zero, v10, v11]; done)
      · first | exact v11 | (simp (disch := omega) only [↓reduceIte, w_at, w_2, List.cons.injEq, reduceCtorEq, and_false, false_and, and_true, true_and, if_true, if_false, eq_self, and_self, if_neg, if_pos, Nat.add_zero, v10, v11]; done)
      · exact rBt_reset z (by (simp (disch := omega) only [↓reduceIte, w_at, w_2, List.cons.injEq, reduceCtorEq, and_false, false_and, and_true, true_and, if_true, if_false, eq_self, and_self, if_neg, if_pos, Nat.add_zero])) (fun i _ _ => rfl) bt), frC_trans hf (frC_w (u := [b, 10])), by rw [w_at, if_pos ⟨rfl, rfl⟩, ht2 z]⟩
        rw [h_12_51]
        simp (disch := omega) only [↓Bool.cond_eq_ite, ↓reduceIte, Bool.false_eq_true, eq_self, n_lit, n_neg, n_add, n_mul, n_sub, n_subM, n_div, n_mod, n_addM, m_div, m_subn, n_tN, n_inS, n_eq_t, n_eq_f, n_ne_t, n_ne_f, n_lt_t, n_lt_f, n_ge_t, n_ge_f, n_gt_t, n_gt_f, n_le_t, n_le_f, mn_eq, mn_ne, mn_lt, mn_ge, mn_gt, mn_le, nm_eq, nm_ne, nm_lt, nm_ge, nm_gt, nm_le, n_gts_t, c_eq_refl, c_ne_refl, w_fold, w_2, wC_fold, lt_M, cond_true, cond_false, Bool.and_true, Bool.true_and, Bool.and_false, Bool.false_and, Bool.not_true, Bool.not_false, isZS_0, isZS_1, cG, hgr, cN, hm1440]
      · refine ⟨C1, ?_, rPf_one (b0 := b) hP (fun q hq => by (first | rfl | (repeat rw [w_ne hq]))) (fun i h1 h2 => by first | rfl | (simp (disch := omega) only [↓reduceIte, w_at, w_2, List.cons.injEq, reduceCtorEq, and_false, false_and, and_true, true_and, if_true, if_false, eq_self, and_self, if_neg, if_pos, Nat.add_zero])) (fun q hq => by (first | rfl | (repeat rw [w_ne hq]))) hb (fun x hx hne => by
      by_cases hx2 : x < b
      · rw [if_pos hx2, if_pos (by omega)]
      · rw [if_neg hx2, if_neg (by omega)]) (by
      try dsimp only
      rw [if_pos (show b < b + 1 by omega), hk]
      refine rB_setr (by omega) (fun j j10 j11 j12 => by first | rfl | (simp (disch := omega) only [↓reduceIte, w_at, w_2, List.cons.injEq, reduceCtorEq, and_false, false_and, and_true, true_and, if_true, if_false, eq_self, and_self, if_neg, if_pos, Nat.add_zero])) (by first | rfl | (repeat (first | rw [w_ne (by simp)]))) (by first | rfl | (repeat (first | rw [w_ne (by simp)]))) (by first | rfl | (repeat (first | rw [w_ne (by simp)]))) (fun i h1 h2 h3 h4 h5 => by first | rfl | (simp (disch := omega) only [↓reduceIte, w_at, w_2, List.cons.injEq, reduceCtorEq, and_false, false_and, and_true, true_and, if_true, if_false, eq_self, and_self, if_neg, if_pos, Nat.add_zero])) (fun i h1 => by first | rfl | (simp (disch := omega) only [↓reduceIte, w_at, w_2, List.cons.injEq, reduceCtorEq, and_false, false_and, and_true, true_and, if_true, if_false, eq_self, and_self, if_neg, if_pos, Nat.add_zero])) (fun k h1 h2 => by first | rfl | (repeat (rw [w_ne (by simp; omega)]))) ?_ ?_ ?_ hb0
      · first | exact v10 | (simp (disch := omega) only [↓reduceIte, w_at, w_2, List.cons.injEq, reduceCtorEq, and_false, false_and, and_true, true_and, if_true, if_false, eq_self, and_self, if_neg, if_pos, Nat.add_zero, v10, v11]; done)
      · first | exact v11 | (simp (disch := omega) only [↓reduceIte, w_at, w_2, List.cons.injEq, reduceCtorEq, and_false, false_and, and_true, true_and, if_true, if_false, eq_self, and_self, if_neg, if_pos, Nat.add_zero, v10, v11]; done)
      · exact rBt_next z bt), hf, ht1 z⟩
        rw [h_12_51]
        simp (disch := omega) only [↓Bool.cond_eq_ite, ↓reduceIte, Bool.false_eq_true, eq_self, n_lit, n_neg, n_add, n_mul, n_sub, n_subM, n_div, n_mod, n_addM, m_div, m_subn, n_tN, n_inS, n_eq_t, n_eq_f, n_ne_t, n_ne_f, n_lt_t, n_lt_f, n_ge_t, n_ge_f, n_gt_t, n_gt_f, n_le_t, n_le_f, mn_eq, mn_ne, mn_lt, mn_ge, mn_gt, mn_le, nm_eq, nm_ne, nm_lt, nm_ge, nm_gt, nm_le, n_gts_t, c_eq_refl, c_ne_refl, w_fold, w_2, wC_fold, lt_M, cond_true, cond_false, Bool.and_true, Bool.true_and, Bool.and_false, Bool.false_and, Bool.not_true, Bool.not_false, isZS_0, isZS_1, cG, hgr, cN, hm1440]
    clear hb0 bt ba v9 v10 v11 v13 v14 v15 hd2 hd3 hd1 hd hp p5 i17 i14 i16 i8 i7 i11 i1 i0 k5 g1 g2 g3 g4 g5 g6 g7 g8 g9 g10 cN cT cC cW cB cG cP S0 S1 S2 S3 S4 S5 hP hf
    rename rPf [c, 0] (M1.1 [1, 1]) C2 M1 nc nw nb np nt now (fun x => if x < b + 1 then now + 1 else now) hm kd wa wb wd wl ws => hP
    rename frC [c, 0] C C2 => hf
    have hP' := hP
    obtain ⟨g1, g2, g3, g4, g5, g6, g7, g8, g9, g10⟩ := hP'
    have hsc := g1
    obtain ⟨cN, cT, cC, cW, cB, cG, cP, S0, S1, S2, S3, S4, S5, -, -, -, -, -, -⟩ := hsc
    have hb0 := g7 b hb
    try dsimp only at hb0
    rw [if_pos (show b < b + 1 by omega), hk] at hb0
    obtain ⟨⟨k5, i0, i1, i11, i7, i8, i16, i14, i17⟩, ⟨p5, hp⟩, ⟨⟨hd, hd1, hd2, hd3⟩, v9, v10, v11, v13, v14, v15⟩, bt, ba⟩ := hb0
    have hb0 := g7 b hb
    try dsimp only at hb0
    rw [if_pos (show b < b + 1 by omega), hk] at hb0
    have O1 : run L xs 12 26 (85, [some (vr 2 [c, 0]), none, some (vi (oN (if 12 ≤ now / 60 % 24 ∧ now / 60 % 24 ≤ 17 then 1 else 0))), some (vi (oN (if now % 60 = 0 then 1 else 0))), some (vi (oN (cntG kd b))), some (vr 0 [b, 10, c, 0]), none], [], C2) = run L xs 12 26 (51, [some (vr 2 [c, 0]), none, some (vi (oN (if 12 ≤ now / 60 % 24 ∧ now / 60 % 24 ≤ 17 then 1 else 0))), some (vi (oN (if now % 60 = 0 then 1 else 0))), some (vi (oN (cntG kd b + 1))), none, none], [], C2) → kV L xs 218 [vr 10 [1], vi (oN b)] M1 = some M1 → ∃ C' M', run L xs 12 26 (51, [some (vr 2 [c, 0]), none, some (vi (oN (if 12 ≤ now / 60 % 24 ∧ now / 60 % 24 ≤ 17 then 1 else 0))), some (vi (oN (if now % 60 = 0 then 1 else 0))), some (vi (oN (cntG kd b))), none, none], [], C1) = run L xs 12 26 (51, [some (vr 2 [c, 0]), none, some (vi (oN (if 12 ≤ now / 60 % 24 ∧ now / 60 % 24 ≤ 17 then 1 else 0))), some (vi (oN (if now % 60 = 0 then 1 else 0))), some (vi (oN (cntG kd b + 1))), none, none], [], C') ∧ run L xs 205 35 (18, [some (vr 10 [1]), some (vi (oN b))], [], M1) = run L xs 205 35 (18, [some (vr 10 [1]), some (vi (oN (b + 1)))], [], M') ∧ rPf [c, 0] (M'.1 [1, 1]) C' M' nc nw nb np nt now (fun x => if x < b + 1 then now + 1 else now) hm kd wa wb wd wl ws ∧ frC [c, 0] C C' ∧ frM M M'  := fun hx hy => ⟨C2, M1, by rw [x51, hx], hY _ hy, hP, hf, hg⟩
    rcases hp with ⟨-, u, u1, u2, u3, u4, u5⟩ | ⟨-, w, e, tg, w1, e1, t1, t2, u2, u3, u4, u5, u6, u7, u8, u9⟩ | ⟨k4, -⟩ | ⟨k0, -⟩
    · have hsort := (g2 u u1).1
      by_cases hd0 : hd = 0
      · refine O1 ?_ (kV_of ?_)
        · rw [h_12_85]
          simp (disch := omega) only [↓Bool.cond_eq_ite, ↓reduceIte, Bool.false_eq_true, eq_self, n_lit, n_neg, n_add, n_mul, n_sub, n_subM, n_div, n_mod, n_addM, m_div, m_subn, n_tN, n_inS, n_eq_t, n_eq_f, n_ne_t, n_ne_f, n_lt_t, n_lt_f, n_ge_t, n_ge_f, n_gt_t, n_gt_f, n_le_t, n_le_f, mn_eq, mn_ne, mn_lt, mn_ge, mn_gt, mn_le, nm_eq, nm_ne, nm_lt, nm_ge, nm_gt, nm_le, n_gts_t, c_eq_refl, c_ne_refl, w_fold, w_2, wC_fold, lt_M, cond_true, cond_false, Bool.and_true, Bool.true_and, Bool.and_false, Bool.false_and, Bool.not_true, Bool.not_false, isZS_0, isZS_1, u2, hd2, h_12_176]
        · rw [e_218]
          simp (disch := omega) only [↓Bool.cond_eq_ite, ↓reduceIte, Bool.false_eq_true, eq_self, n_lit, n_neg, n_add, n_mul, n_sub, n_subM, n_div, n_mod, n_addM, m_div, m_subn, n_tN, n_inS, n_eq_t, n_eq_f, n_ne_t, n_ne_f, n_lt_t, n_lt_f, n_ge_t, n_ge_f, n_gt_t, n_gt_f, n_le_t, n_le_f, mn_eq, mn_ne, mn_lt, mn_ge, mn_gt, mn_le, nm_eq, nm_ne, nm_lt, nm_ge, nm_gt, nm_le, n_gts_t, c_eq_refl, c_ne_refl, w_fold, w_2, wC_fold, lt_M, cond_true, cond_false, Bool.and_true, Bool.true_and, Bool.and_false, Bool.false_and, Bool.not_true, Bool.not_false, isZS_0, isZS_1, Nat.add_zero, u3, hd3]
      by_cases s1 : M1.1 [5, 1] u = oN 1
      · by_cases st : 12 ≤ now / 60 % 24 ∧ now / 60 % 24 ≤ 17
        · refine ⟨wI C2 [b, 10, c, 0] 10 (C2.1 [b, 10, c, 0] 10 + oN 1), wI M1 [1, 1] (200 + 16 * b + 5) (M1.1 [1, 1] (200 + 16 * b + 5) + oN 1), ?_, hY _ (kV_of ?_), rPf_one (b0 := b) hP (fun q hq => by (first | rfl | (repeat rw [w_ne hq]))) (fun i h1 h2 => by first | rfl | (simp (disch := omega) only [↓reduceIte, w_at, w_2, List.cons.injEq, reduceCtorEq, and_false, false_and, and_true, true_and, if_true, if_false, eq_self, and_self, if_neg, if_pos, Nat.add_zero])) (fun q hq => by (first | rfl | (repeat rw [w_ne hq]))) hb (fun x hx hne => rfl) (by
      try dsimp only
      rw [if_pos (show b < b + 1 by omega), hk]
      refine rB_setr (by omega) (fun j j10 j11 j12 => by first | rfl | (simp (disch := omega) only [↓reduceIte, w_at, w_2, List.cons.injEq, reduceCtorEq, and_false, false_and, and_true, true_and, if_true, if_false, eq_self, and_self, if_neg, if_pos, Nat.add_zero])) (by first | rfl | (repeat (first | rw [w_ne (by simp)]))) (by first | rfl | (repeat (first | rw [w_ne (by simp)]))) (by first | rfl | (repeat (first | rw [w_ne (by simp)]))) (fun i h1 h2 h3 h4 h5 => by first | rfl | (simp (disch := omega) only [↓reduceIte, w_at, w_2, List.cons.injEq, reduceCtorEq, and_false, false_and, and_true, true_and, if_true, if_false, eq_self, and_self, if_neg, if_pos, Nat.add_zero])) (fun i h1 => by first | rfl | (simp (disch := omega) only [↓reduceIte, w_at, w_2, List.cons.injEq, reduceCtorEq, and_false, false_and, and_true, true_and, if_true, if_false, eq_self, and_self, if_neg, if_pos, Nat.add_zero])) (fun k h1 h2 => by first | rfl | (repeat (rw [w_ne (by simp; omega)]))) ?_ ?_ ?_ hb0
      · first | exact v10 | (simp (disch := omega) only [↓reduceIte, w_at, w_2, List.cons.injEq, reduceCtorEq, and_false, false_and, and_true, true_and, if_true, if_false, eq_self, and_self, if_neg, if_pos, Nat.add_zero, v10, v11]; done)
      · first | exact v11 | (simp (disch := omega) only [↓reduceIte, w_at, w_2, List.cons.injEq, reduceCtorEq, and_false, false_and, and_true, true_and, if_true, if_false, eq_self, and_self, if_neg, if_pos, Nat.add_zero, v10, v11]; done)
      · exact rBt_congr' (by (simp (disch := omega) only [↓reduceIte, w_at, w_2, List.cons.injEq, reduceCtorEq, and_false, false_and, and_true, true_and, if_true, if_false, eq_self, and_self, if_neg, if_pos, Nat.add_zero])) (fun i h1 h2 => by (simp (disch := omega) only [↓reduceIte, w_at, w_2, List.cons.injEq, reduceCtorEq, and_false, false_and, and_true, true_and, if_true, if_false, eq_self, and_self, if_neg, if_pos, Nat.add_zero])) bt), frC_trans hf (frC_w (u := [b, 10])), frM_trans hg frM_w⟩
          · try dsimp only
            rw [x51, h_12_85, if_pos st]
            simp (disch := omega) only [↓Bool.cond_eq_ite, ↓reduceIte, Bool.false_eq_true, eq_self, n_lit, n_neg, n_add, n_mul, n_sub, n_subM, n_div, n_mod, n_addM, m_div, m_subn, n_tN, n_inS, n_eq_t, n_eq_f, n_ne_t, n_ne_f, n_lt_t, n_lt_f, n_ge_t, n_ge_f, n_gt_t, n_gt_f, n_le_t, n_le_f, mn_eq, mn_ne, mn_lt, mn_ge, mn_gt, mn_le, nm_eq, nm_ne, nm_lt, nm_ge, nm_gt, nm_le, n_gts_t, c_eq_refl, c_ne_refl, w_fold, w_2, wC_fold, lt_M, cond_true, cond_false, Bool.and_true, Bool.true_and, Bool.and_false, Bool.false_and, Bool.not_true, Bool.not_false, isZS_0, isZS_1, u2, hd2, hsort, s1, h_12_134, h_12_176]
          · rw [e_218]
            simp (disch := omega) only [↓Bool.cond_eq_ite, ↓reduceIte, Bool.false_eq_true, eq_self, n_lit, n_neg, n_add, n_mul, n_sub, n_subM, n_div, n_mod, n_addM, m_div, m_subn, n_tN, n_inS, n_eq_t, n_eq_f, n_ne_t, n_ne_f, n_lt_t, n_lt_f, n_ge_t, n_ge_f, n_gt_t, n_gt_f, n_le_t, n_le_f, mn_eq, mn_ne, mn_lt, mn_ge, mn_gt, mn_le, nm_eq, nm_ne, nm_lt, nm_ge, nm_gt, nm_le, n_gts_t, c_eq_refl, c_ne_refl, w_fold, w_2, wC_fold, lt_M, cond_true, cond_false, Bool.and_true, Bool.true_and, Bool.and_false, Bool.false_and, Bool.not_true, Bool.not_false, isZS_0, isZS_1, Nat.add_zero, u3, hd3, s1, S5, hm24, hm60]
            simp (disch := omega) only [↓reduceIte, w_at, List.cons.injEq, reduceCtorEq, and_false, false_and, and_true, true_and, if_true, if_false, eq_self, and_self, if_neg, if_pos, Nat.add_zero, Nat.add_zero, u3, s1, ↓Bool.cond_eq_ite, ↓reduceIte, Bool.false_eq_true, eq_self, n_lit, n_neg, n_add, n_mul, n_sub, n_subM, n_div, n_mod, n_addM, m_div, m_subn, n_tN, n_inS, n_eq_t, n_eq_f, n_ne_t, n_ne_f, n_lt_t, n_lt_f, n_ge_t, n_ge_f, n_gt_t, n_gt_f, n_le_t, n_le_f, mn_eq, mn_ne, mn_lt, mn_ge, mn_gt, mn_le, nm_eq, nm_ne, nm_lt, nm_ge, nm_gt, nm_le, n_gts_t, c_eq_refl, c_ne_refl, w_fold, w_2, wC_fold, lt_M, cond_true, cond_false, Bool.and_true, Bool.true_and, Bool.and_false, Bool.false_and, Bool.not_true, Bool.not_false, isZS_0, isZS_1]
        · refine O1 ?_ (kV_of ?_)
          · rw [h_12_85, if_neg st]
            simp (disch := omega) only [↓Bool.cond_eq_ite, ↓reduceIte, Bool.false_eq_true, eq_self, n_lit, n_neg, n_add, n_mul, n_sub, n_subM, n_div, n_mod, n_addM, m_div, m_subn, n_tN, n_inS, n_eq_t, n_eq_f, n_ne_t, n_ne_f, n_lt_t, n_lt_f, n_ge_t, n_ge_f, n_gt_t, n_gt_f, n_le_t, n_le_f, mn_eq, mn_ne, mn_lt, mn_ge, mn_gt, mn_le, nm_eq, nm_ne, nm_lt, nm_ge, nm_gt, nm_le, n_gts_t, c_eq_refl, c_ne_refl, w_fold, w_2, wC_fold, lt_M, cond_true, cond_false, Bool.and_true, Bool.true_and, Bool.and_false, Bool.false_and, Bool.not_true, Bool.not_false, isZS_0, isZS_1, u2, hd2, hsort, s1, h_12_134, h_12_176]
          · rw [e_218]
            by_cases hh : now / 60 % 24 < 12
            · simp (disch := omega) only [↓Bool.cond_eq_ite, ↓reduceIte, Bool.false_eq_true, eq_self, n_lit, n_neg, n_add, n_mul, n_sub, n_subM, n_div, n_mod, n_addM, m_div, m_subn, n_tN, n_inS, n_eq_t, n_eq_f, n_ne_t, n_ne_f, n_lt_t, n_lt_f, n_ge_t, n_ge_f, n_gt_t, n_gt_f, n_le_t, n_le_f, mn_eq, mn_ne, mn_lt, mn_ge, mn_gt, mn_le, nm_eq, nm_ne, nm_lt, nm_ge, nm_gt, nm_le, n_gts_t, c_eq_refl, c_ne_refl, w_fold, w_2, wC_fold, lt_M, cond_true, cond_false, Bool.and_true, Bool.true_and, Bool.and_false, Bool.false_and, Bool.not_true, Bool.not_false, isZS_0, isZS_1, Nat.add_zero, u3, hd3, s1, S5, hm24]
            · simp (disch := omega) only [↓Bool.cond_eq_ite, ↓reduceIte, Bool.false_eq_true, eq_self, n_lit, n_neg, n_add, n_mul, n_sub, n_subM, n_div, n_mod, n_addM, m_div, m_subn, n_tN, n_inS, n_eq_t, n_eq_f, n_ne_t, n_ne_f, n_lt_t, n_lt_f, n_ge_t, n_ge_f, n_gt_t, n_gt_f, n_le_t, n_le_f, mn_eq, mn_ne, mn_lt, mn_ge, mn_gt, mn_le, nm_eq, nm_ne, nm_lt, nm_ge, nm_gt, nm_le, n_gts_t, c_eq_refl, c_ne_refl, w_fold, w_2, wC_fold, lt_M, cond_true, cond_false, Bool.and_true, Bool.true_and, Bool.and_false, Bool.false_and, Bool.not_true, Bool.not_false, isZS_0, isZS_1, Nat.add_zero, u3, hd3, s1, S5, hm24]
      by_cases s2 : M1.1 [5, 1] u = oN 2
      · by_cases th : now % 60 = 0
        · by_cases h7 : t = 7
          · refine O1 ?_ (kV_of ?_)
            · rw [h_12_85, if_pos th]
              simp (disch := omega) only [↓Bool.cond_eq_ite, ↓reduceIte, Bool.false_eq_true, eq_self, n_lit, n_neg, n_add, n_mul, n_sub, n_subM, n_div, n_mod, n_addM, m_div, m_subn, n_tN, n_inS, n_eq_t, n_eq_f, n_ne_t, n_ne_f, n_lt_t, n_lt_f, n_ge_t, n_ge_f, n_gt_t, n_gt_f, n_le_t, n_le_f, mn_eq, mn_ne, mn_lt, mn_ge, mn_gt, mn_le, nm_eq, nm_ne, nm_lt, nm_ge, nm_gt, nm_le, n_gts_t, c_eq_refl, c_ne_refl, w_fold, w_2, wC_fold, lt_M, cond_true, cond_false, Bool.and_true, Bool.true_and, Bool.and_false, Bool.false_and, Bool.not_true, Bool.not_false, isZS_0, isZS_1, u2, hd2, hsort, s2, h_12_134, h_12_176, c12]
            · rw [e_218]
              rcases ht3 with ⟨y1, y2⟩ | ⟨y1, y2⟩
              · simp (disch := omega) only [↓Bool.cond_eq_ite, ↓reduceIte, Bool.false_eq_true, eq_self, n_lit, n_neg, n_add, n_mul, n_sub, n_subM, n_div, n_mod, n_addM, m_div, m_subn, n_tN, n_inS, n_eq_t, n_eq_f, n_ne_t, n_ne_f, n_lt_t, n_lt_f, n_ge_t, n_ge_f, n_gt_t, n_gt_f, n_le_t, n_le_f, mn_eq, mn_ne, mn_lt, mn_ge, mn_gt, mn_le, nm_eq, nm_ne, nm_lt, nm_ge, nm_gt, nm_le, n_gts_t, c_eq_refl, c_ne_refl, w_fold, w_2, wC_fold, lt_M, cond_true, cond_false, Bool.and_true, Bool.true_and, Bool.and_false, Bool.false_and, Bool.not_true, Bool.not_false, isZS_0, isZS_1, Nat.add_zero, u3, hd3, s2, S5, hm60, y1, y2]
              · omega
          · refine ⟨wI (wI C2 [b, 10, c, 0] 11 (C2.1 [b, 10, c, 0] 11 + oN 1)) [b, 10, c, 0] 12 (oN (t + 1)), wI (wI (wI M1 [1, 1] (200 + 16 * b + 6) (M1.1 [1, 1] (200 + 16 * b + 6) + oN 1)) [1, 1] (200 + 16 * b + 10) (oN (now / 1440))) [1, 1] (200 + 16 * b + 11) (oN (t + 1)), ?_, hY _ (kV_of ?_), rPf_one (b0 := b) hP (fun q hq => by (first | rfl | (repeat rw [w_ne hq]))) (fun i h1 h2 => by first | rfl | (simp (disch := omega) only [↓reduceIte, w_at, w_2, List.cons.injEq, reduceCtorEq, and_false, false_and, and_true, true_and, if_true, if_false, eq_self, and_self, if_neg, if_pos, Nat.add_zero])) (fun q hq => by (first | rfl | (repeat rw [w_ne hq]))) hb (fun x hx hne => rfl) (by
      try dsimp only
      rw [if_pos (show b < b + 1 by omega), hk]
      refine rB_setr (by omega) (fun j j10 j11 j12 => by first | rfl | (simp (disch := omega) only [↓reduceIte, w_at, w_2, List.cons.injEq, reduceCtorEq, and_false, false_and, and_true, true_and, if_true, if_false, eq_self, and_self, if_neg, if_pos, Nat.add_zero])) (by first | rfl | (repeat (first | rw [w_ne (by simp)]))) (by first | rfl | (repeat (first | rw [w_ne (by simp)]))) (by first | rfl | (repeat (first | rw [w_ne (by simp)]))) (fun i h1 h2 h3 h4 h5 => by first | rfl | (simp (disch := omega) only [↓reduceIte, w_at, w_2, List.cons.injEq, reduceCtorEq, and_false, false_and, and_true, true_and, if_true, if_false, eq_self, and_self, if_neg, if_pos, Nat.add_zero])) (fun i h1 => by first | rfl | (simp (disch := omega) only [↓reduceIte, w_at, w_2, List.cons.injEq, reduceCtorEq, and_false, false_and, and_true, true_and, if_true, if_false, eq_self, and_self, if_neg, if_pos, Nat.add_zero])) (fun k h1 h2 => by first | rfl | (repeat (rw [w_ne (by simp; omega)]))) ?_ ?_ ?_ hb0
      · first | exact v10 | (simp (disch := omega) only [↓reduceIte, w_at, w_2, List.cons.injEq, reduceCtorEq, and_false, false_and, and_true, true_and, if_true, if_false, eq_self, and_self, if_neg, if_pos, Nat.add_zero, v10, v11]; done)
      · first | exact v11 | (simp (disch := omega) only [↓reduceIte, w_at, w_2, List.cons.injEq, reduceCtorEq, and_false, false_and, and_true, true_and, if_true, if_false, eq_self, and_self, if_neg, if_pos, Nat.add_zero, v10, v11]; done)
      · exact rBt_throw (t := t) h4320 (by omega) (by (simp (disch := omega) only [↓reduceIte, w_at, w_2, List.cons.injEq, reduceCtorEq, and_false, false_and, and_true, true_and, if_true, if_false, eq_self, and_self, if_neg, if_pos, Nat.add_zero])) (by (simp (disch := omega) only [↓reduceIte, w_at, w_2, List.cons.injEq, reduceCtorEq, and_false, false_and, and_true, true_and, if_true, if_false, eq_self, and_self, if_neg, if_pos, Nat.add_zero])) (by (simp (disch := omega) only [↓reduceIte, w_at, w_2, List.cons.injEq, reduceCtorEq, and_false, false_and, and_true, true_and, if_true, if_false, eq_self, and_self, if_neg, if_pos, Nat.add_zero]))), frC_trans hf (frC_trans (frC_w (u := [b, 10])) (frC_w (u := [b, 10]))), frM_trans hg (frM_trans frM_w (frM_trans frM_w frM_w))⟩
            · try dsimp only
              rw [x51, h_12_85, if_pos th]
              simp (disch := omega) only [↓Bool.cond_eq_ite, ↓reduceIte, Bool.false_eq_true, eq_self, n_lit, n_neg, n_add, n_mul, n_sub, n_subM, n_div, n_mod, n_addM, m_div, m_subn, n_tN, n_inS, n_eq_t, n_eq_f, n_ne_t, n_ne_f, n_lt_t, n_lt_f, n_ge_t, n_ge_f, n_gt_t, n_gt_f, n_le_t, n_le_f, mn_eq, mn_ne, mn_lt, mn_ge, mn_gt, mn_le, nm_eq, nm_ne, nm_lt, nm_ge, nm_gt, nm_le, n_gts_t, c_eq_refl, c_ne_refl, w_fold, w_2, wC_fold, lt_M, cond_true, cond_false, Bool.and_true, Bool.true_and, Bool.and_false, Bool.false_and, Bool.not_true, Bool.not_false, isZS_0, isZS_1, u2, hd2, hsort, s2, h_12_134, h_12_176, c12, ↓reduceIte, w_at, List.cons.injEq, reduceCtorEq, and_false, false_and, and_true, true_and, if_true, if_false, eq_self, and_self, if_neg, if_pos, Nat.add_zero]
            · rw [e_218]
              rcases ht3 with ⟨y1, y2⟩ | ⟨y1, y2⟩
              · simp (disch := omega) only [↓Bool.cond_eq_ite, ↓reduceIte, Bool.false_eq_true, eq_self, n_lit, n_neg, n_add, n_mul, n_sub, n_subM, n_div, n_mod, n_addM, m_div, m_subn, n_tN, n_inS, n_eq_t, n_eq_f, n_ne_t, n_ne_f, n_lt_t, n_lt_f, n_ge_t, n_ge_f, n_gt_t, n_gt_f, n_le_t, n_le_f, mn_eq, mn_ne, mn_lt, mn_ge, mn_gt, mn_le, nm_eq, nm_ne, nm_lt, nm_ge, nm_gt, nm_le, n_gts_t, c_eq_refl, c_ne_refl, w_fold, w_2, wC_fold, lt_M, cond_true, cond_false, Bool.and_true, Bool.true_and, Bool.and_false, Bool.false_and, Bool.not_true, Bool.not_false, isZS_0, isZS_1, Nat.add_zero, u3, hd3, s2, S5, hm60, y1, y2]
              · subst y2
                simp (disch := omega) only [↓Bool.cond_eq_ite, ↓reduceIte, Bool.false_eq_true, eq_self, n_lit, n_neg, n_add, n_mul, n_sub, n_subM, n_div, n_mod, n_addM, m_div, m_subn, n_tN, n_inS, n_eq_t, n_eq_f, n_ne_t, n_ne_f, n_lt_t, n_lt_f, n_ge_t, n_ge_f, n_gt_t, n_gt_f, n_le_t, n_le_f, mn_eq, mn_ne, mn_lt, mn_ge, mn_gt, mn_le, nm_eq, nm_ne, nm_lt, nm_ge, nm_gt, nm_le, n_gts_t, c_eq_refl, c_ne_refl, w_fold, w_2, wC_fold, lt_M, cond_true, cond_false, Bool.and_true, Bool.true_and, Bool.and_false, Bool.false_and, Bool.not_true, Bool.not_false, isZS_0, isZS_1, Nat.add_zero, u3, hd3, s2, S5, hm60, c_ne_t y1]
        · refine O1 ?_ (kV_of ?_)
          · rw [h_12_85, if_neg th]
            simp (disch := omega) only [↓Bool.cond_eq_ite, ↓reduceIte, Bool.false_eq_true, eq_self, n_lit, n_neg, n_add, n_mul, n_sub, n_subM, n_div, n_mod, n_addM, m_div, m_subn, n_tN, n_inS, n_eq_t, n_eq_f, n_ne_t, n_ne_f, n_lt_t, n_lt_f, n_ge_t, n_ge_f, n_gt_t, n_gt_f, n_le_t, n_le_f, mn_eq, mn_ne, mn_lt, mn_ge, mn_gt, mn_le, nm_eq, nm_ne, nm_lt, nm_ge, nm_gt, nm_le, n_gts_t, c_eq_refl, c_ne_refl, w_fold, w_2, wC_fold, lt_M, cond_true, cond_false, Bool.and_true, Bool.true_and, Bool.and_false, Bool.false_and, Bool.not_true, Bool.not_false, isZS_0, isZS_1, u2, hd2, hsort, s2, h_12_134, h_12_176]
          · rw [e_218]
            simp (disch := omega) only [↓Bool.cond_eq_ite, ↓reduceIte, Bool.false_eq_true, eq_self, n_lit, n_neg, n_add, n_mul, n_sub, n_subM, n_div, n_mod, n_addM, m_div, m_subn, n_tN, n_inS, n_eq_t, n_eq_f, n_ne_t, n_ne_f, n_lt_t, n_lt_f, n_ge_t, n_ge_f, n_gt_t, n_gt_f, n_le_t, n_le_f, mn_eq, mn_ne, mn_lt, mn_ge, mn_gt, mn_le, nm_eq, nm_ne, nm_lt, nm_ge, nm_gt, nm_le, n_gts_t, c_eq_refl, c_ne_refl, w_fold, w_2, wC_fold, lt_M, cond_true, cond_false, Bool.and_true, Bool.true_and, Bool.and_false, Bool.false_and, Bool.not_true, Bool.not_false, isZS_0, isZS_1, Nat.add_zero, u3, hd3, s2, S5, hm60]
      · refine O1 ?_ (kV_of ?_)
        · rw [h_12_85]
          simp (disch := omega) only [↓Bool.cond_eq_ite, ↓reduceIte, Bool.false_eq_true, eq_self, n_lit, n_neg, n_add, n_mul, n_sub, n_subM, n_div, n_mod, n_addM, m_div, m_subn, n_tN, n_inS, n_eq_t, n_eq_f, n_ne_t, n_ne_f, n_lt_t, n_lt_f, n_ge_t, n_ge_f, n_gt_t, n_gt_f, n_le_t, n_le_f, mn_eq, mn_ne, mn_lt, mn_ge, mn_gt, mn_le, nm_eq, nm_ne, nm_lt, nm_ge, nm_gt, nm_le, n_gts_t, c_eq_refl, c_ne_refl, w_fold, w_2, wC_fold, lt_M, cond_true, cond_false, Bool.and_true, Bool.true_and, Bool.and_false, Bool.false_and, Bool.not_true, Bool.not_false, isZS_0, isZS_1, u2, hd2, hsort, c_ne_t s1, c_ne_t s2, h_12_134, h_12_176]
        · rw [e_218]
          simp (disch := omega) only [↓Bool.cond_eq_ite, ↓reduceIte, Bool.false_eq_true, eq_self, n_lit, n_neg, n_add, n_mul, n_sub, n_subM, n_div, n_mod, n_addM, m_div, m_subn, n_tN, n_inS, n_eq_t, n_eq_f, n_ne_t, n_ne_f, n_lt_t, n_lt_f, n_ge_t, n_ge_f, n_gt_t, n_gt_f, n_le_t, n_le_f, mn_eq, mn_ne, mn_lt, mn_ge, mn_gt, mn_le, nm_eq, nm_ne, nm_lt, nm_ge, nm_gt, nm_le, n_gts_t, c_eq_refl, c_ne_refl, w_fold, w_2, wC_fold, lt_M, cond_true, cond_false, Bool.and_true, Bool.true_and, Bool.and_false, Bool.false_and, Bool.not_true, Bool.not_false, isZS_0, isZS_1, Nat.add_zero, u3, hd3, c_ne_t s1, c_ne_t s2]
    · refine O1 ?_ (kV_of ?_)
      · rw [h_12_85]
        simp (disch := omega) only [↓Bool.cond_eq_ite, ↓reduceIte, Bool.false_eq_true, eq_self, n_lit, n_neg, n_add, n_mul, n_sub, n_subM, n_div, n_mod, n_addM, m_div, m_subn, n_tN, n_inS, n_eq_t, n_eq_f, n_ne_t, n_ne_f, n_lt_t, n_lt_f, n_ge_t, n_ge_f, n_gt_t, n_gt_f, n_le_t, n_le_f, mn_eq, mn_ne, mn_lt, mn_ge, mn_gt, mn_le, nm_eq, nm_ne, nm_lt, nm_ge, nm_gt, nm_le, n_gts_t, c_eq_refl, c_ne_refl, w_fold, w_2, wC_fold, lt_M, cond_true, cond_false, Bool.and_true, Bool.true_and, Bool.and_false, Bool.false_and, Bool.not_true, Bool.not_false, isZS_0, isZS_1, u2, h_12_176]
      · rw [e_218]
        simp (disch := omega) only [↓Bool.cond_eq_ite, ↓reduceIte, Bool.false_eq_true, eq_self, n_lit, n_neg, n_add, n_mul, n_sub, n_subM, n_div, n_mod, n_addM, m_div, m_subn, n_tN, n_inS, n_eq_t, n_eq_f, n_ne_t, n_ne_f, n_lt_t, n_lt_f, n_ge_t, n_ge_f, n_gt_t, n_gt_f, n_le_t, n_le_f, mn_eq, mn_ne, mn_lt, mn_ge, mn_gt, mn_le, nm_eq, nm_ne, nm_lt, nm_ge, nm_gt, nm_le, n_gts_t, c_eq_refl, c_ne_refl, w_fold, w_2, wC_fold, lt_M, cond_true, cond_false, Bool.and_true, Bool.true_and, Bool.and_false, Bool.false_and, Bool.not_true, Bool.not_false, isZS_0, isZS_1, Nat.add_zero, u3]
    · omega
    · exact absurd rfl k0) (by
    intro b C1 M1 hb hJ hk
    obtain ⟨hP, hf, hg⟩ := hJ
    have hP' := hP
    obtain ⟨g1, g2, g3, g4, g5, g6, g7, g8, g9, g10⟩ := hP'
    have hsc := g1
    obtain ⟨cN, cT, cC, cW, cB, cG, cP, S0, S1, S2, S3, S4, S5, b16, b24, b40, b8, b20, b4320⟩ := hsc
    have hle := cntG_le kd nb
    have i11 := (g7 b hb).1.2.2.2.1
    have i5 := (g7 b hb).1.1
    refine ⟨M1, ?_, rPf_td hP (fun x hx hkx => ?_), hf, hg⟩
    · try dsimp only
      rw [h_205_18]
      simp (disch := omega) only [↓Bool.cond_eq_ite, ↓reduceIte, Bool.false_eq_true, eq_self, n_lit, n_neg, n_add, n_mul, n_sub, n_subM, n_div, n_mod, n_addM, m_div, m_subn, n_tN, n_inS, n_eq_t, n_eq_f, n_ne_t, n_ne_f, n_lt_t, n_lt_f, n_ge_t, n_ge_f, n_gt_t, n_gt_f, n_le_t, n_le_f, mn_eq, mn_ne, mn_lt, mn_ge, mn_gt, mn_le, nm_eq, nm_ne, nm_lt, nm_ge, nm_gt, nm_le, n_gts_t, c_eq_refl, c_ne_refl, w_fold, w_2, wC_fold, lt_M, cond_true, cond_false, Bool.and_true, Bool.true_and, Bool.and_false, Bool.false_and, Bool.not_true, Bool.not_false, isZS_0, isZS_1, S2, i11]
    · have hxb : x ≠ b := fun e => hk (by rw [← e]; exact hkx)
      by_cases hx2 : x < b
      · rw [if_pos hx2, if_pos (by omega)]
      · rw [if_neg hx2, if_neg (by omega)])
  obtain ⟨C', M', x1, x2, hJ⟩ := hsy nb (Nat.le_refl _) C M ⟨rPf_td (rPf_iff.mp hP) (fun x _ _ => by simp), frC_refl, frM_refl⟩
  obtain ⟨hP, hf, hg⟩ := hJ
  have hP' := hP
  obtain ⟨g1, g2, g3, g4, g5, g6, g7, g8, g9, g10⟩ := hP'
  have hsc := g1
  obtain ⟨cN, cT, cC, cW, cB, cG, cP, S0, S1, S2, S3, S4, S5, b16, b24, b40, b8, b20, b4320⟩ := hsc
  have hle := cntG_le kd nb
  try dsimp only at x1
  try dsimp only at x2
  refine ⟨C', M', kV_of ?_, ?_, rPf_iff.mpr (rPf_td hP (fun x hx _ => by rw [if_pos hx])), hf, hg⟩
  · rw [hstart, x1, h_12_51]
    simp (disch := omega) only [↓Bool.cond_eq_ite, ↓reduceIte, Bool.false_eq_true, eq_self, n_lit, n_neg, n_add, n_mul, n_sub, n_subM, n_div, n_mod, n_addM, m_div, m_subn, n_tN, n_inS, n_eq_t, n_eq_f, n_ne_t, n_ne_f, n_lt_t, n_lt_f, n_ge_t, n_ge_f, n_gt_t, n_gt_f, n_le_t, n_le_f, mn_eq, mn_ne, mn_lt, mn_ge, mn_gt, mn_le, nm_eq, nm_ne, nm_lt, nm_ge, nm_gt, nm_le, n_gts_t, c_eq_refl, c_ne_refl, w_fold, w_2, wC_fold, lt_M, cond_true, cond_false, Bool.and_true, Bool.true_and, Bool.and_false, Bool.false_and, Bool.not_true, Bool.not_false, isZS_0, isZS_1, cG]
  · rw [x2, h_205_18]
    simp (disch := omega) only [↓Bool.cond_eq_ite, ↓reduceIte, Bool.false_eq_true, eq_self, n_lit, n_neg, n_add, n_mul, n_sub, n_subM, n_div, n_mod, n_addM, m_div, m_subn, n_tN, n_inS, n_eq_t, n_eq_f, n_ne_t, n_ne_f, n_lt_t, n_lt_f, n_ge_t, n_ge_f, n_gt_t, n_gt_f, n_le_t, n_le_f, mn_eq, mn_ne, mn_lt, mn_ge, mn_gt, mn_le, nm_eq, nm_ne, nm_lt, nm_ge, nm_gt, nm_le, n_gts_t, c_eq_refl, c_ne_refl, w_fold, w_2, wC_fold, lt_M, cond_true, cond_false, Bool.and_true, Bool.true_and, Bool.and_false, Bool.false_and, Bool.not_true, Bool.not_false, isZS_0, isZS_1, S2]
end Min5
