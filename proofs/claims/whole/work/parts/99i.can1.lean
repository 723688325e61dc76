section Can1
variable {L : Nat} {xs : Nat → Int32} {C C' M M' : mM} {hm : Nat} {nc nw nb np nt now : Nat} {kd wa wb wd wl ws : Nat → Nat}
theorem m_ltN {a b : Nat} (h : 0 < a + b) (ha : a ≤ 2147483648) (hb : b < 2147483648) : (oM a < oN b) = True := by
  rw [Int32.lt_iff_toInt_lt, m_toI ha, n_toI hb]
  exact eq_true (by omega)
set_option maxRecDepth 8000 in
theorem was_in {g n : Nat} {c0 : Int32} (hg : g < 40) (hn : n ≤ 4320) (hnow : now ≤ 4320) (S5 : M.1 [1, 1] 5 = oN now) (h16 : M.1 [16, 1] g = oN n) (hH : ∀ m, m < now → n ≤ m → pl (C.2.1 [1, 5, 0]) (g * 4320 + m) = M.1 [25, 1] (4321 * g + m)) :
    ∀ r i, i + r = now → ∃ x, run L xs 7 26 (7, [some (vr 1 [5, 0]), some (vi (oN g)), some (vi c0), none, some (vi (oN now)), some (vi (oN (max i n)))], [], C) = some (some (vi (b2 x)), C) ∧ run L xs 154 26 (71, [some (vr 10 [1]), none, some (vi (oN g)), some (vi c0), some (vi (oN i))], [], M) = some (some (vi (b2 x)), M) := by
  intro r
  induction r with
  | zero =>
    intro i hi
    have : i = now := by omega
    subst this
    refine ⟨false, ?_, ?_⟩
    · rw [h8_7, n_ge_t (by omega) (by omega) (by omega)]; rfl
    · rw [h_154_71]
      simp (disch := omega) only [↓Bool.cond_eq_ite, ↓reduceIte, Bool.false_eq_true, eq_self, n_lit, n_neg, n_add, n_mul, n_sub, n_subM, n_div, n_mod, n_addM, m_div, m_subn, n_tN, n_inS, n_eq_t, n_eq_f, n_ne_t, n_ne_f, n_lt_t, n_lt_f, n_ge_t, n_ge_f, n_gt_t, n_gt_f, n_le_t, n_le_f, mn_eq, mn_ne, mn_lt, mn_ge, mn_gt, mn_le, nm_eq, nm_ne, nm_lt, nm_ge, nm_gt, nm_le, n_gts_t, c_eq_refl, c_ne_refl, w_fold, w_2, wC_fold, lt_M, cond_true, cond_false, Bool.and_true, Bool.true_and, Bool.and_false, Bool.false_and, Bool.not_true, Bool.not_false, isZS_0, isZS_1, S5, b2]
  | succ r ih =>
    intro i hi
    obtain ⟨x, k1, k2⟩ := ih (i + 1) (by omega)
    by_cases hin : i < n
    · refine ⟨x, ?_, ?_⟩
      · rw [show max i n = max (i + 1) n by omega]; exact k1
      · rw [h_154_71]
        simp (disch := omega) only [↓Bool.cond_eq_ite, ↓reduceIte, Bool.false_eq_true, eq_self, n_lit, n_neg, n_add, n_mul, n_sub, n_subM, n_div, n_mod, n_addM, m_div, m_subn, n_tN, n_inS, n_eq_t, n_eq_f, n_ne_t, n_ne_f, n_lt_t, n_lt_f, n_ge_t, n_ge_f, n_gt_t, n_gt_f, n_le_t, n_le_f, mn_eq, mn_ne, mn_lt, mn_ge, mn_gt, mn_le, nm_eq, nm_ne, nm_lt, nm_ge, nm_gt, nm_le, n_gts_t, c_eq_refl, c_ne_refl, w_fold, w_2, wC_fold, lt_M, cond_true, cond_false, Bool.and_true, Bool.true_and, Bool.and_false, Bool.false_and, Bool.not_true, Bool.not_false, isZS_0, isZS_1, S5, h16]
        exact k2
    · rw [show max i n = i by omega]
      rw [show max (i + 1) n = i + 1 by omega] at k1
      have e : plR (C.2.1 [1, 5, 0] ((g * 4320 + i) / 8)) (oN ((g * 4320 + i - (g * 4320 + i) / 8 * 8) * 8)) = M.1 [25, 1] (4321 * g + i) := hH i (by omega) (by omega)
      by_cases hv : M.1 [25, 1] (4321 * g + i) = c0
      · refine ⟨true, ?_, ?_⟩
        · rw [h8_7]
          simp (disch := omega) only [↓Bool.cond_eq_ite, ↓reduceIte, Bool.false_eq_true, eq_self, n_lit, n_neg, n_add, n_mul, n_sub, n_subM, n_div, n_mod, n_addM, m_div, m_subn, n_tN, n_inS, n_eq_t, n_eq_f, n_ne_t, n_ne_f, n_lt_t, n_lt_f, n_ge_t, n_ge_f, n_gt_t, n_gt_f, n_le_t, n_le_f, mn_eq, mn_ne, mn_lt, mn_ge, mn_gt, mn_le, nm_eq, nm_ne, nm_lt, nm_ge, nm_gt, nm_le, n_gts_t, c_eq_refl, c_ne_refl, w_fold, w_2, wC_fold, lt_M, cond_true, cond_false, Bool.and_true, Bool.true_and, Bool.and_false, Bool.false_and, Bool.not_true, Bool.not_false, isZS_0, isZS_1, e, hv, c_ne_refl, b2]
        · rw [h_154_71]
          simp (disch := omega) only [↓Bool.cond_eq_ite, ↓reduceIte, Bool.false_eq_true, eq_self, n_lit, n_neg, n_add, n_mul, n_sub, n_subM, n_div, n_mod, n_addM, m_div, m_subn, n_tN, n_inS, n_eq_t, n_eq_f, n_ne_t, n_ne_f, n_lt_t, n_lt_f, n_ge_t, n_ge_f, n_gt_t, n_gt_f, n_le_t, n_le_f, mn_eq, mn_ne, mn_lt, mn_ge, mn_gt, mn_le, nm_eq, nm_ne, nm_lt, nm_ge, nm_gt, nm_le, n_gts_t, c_eq_refl, c_ne_refl, w_fold, w_2, wC_fold, lt_M, cond_true, cond_false, Bool.and_true, Bool.true_and, Bool.and_false, Bool.false_and, Bool.not_true, Bool.not_false, isZS_0, isZS_1, S5, h16, hv, c_ne_refl, b2]
      · have cv := c_ne_h hv
        refine ⟨x, ?_, ?_⟩
        · rw [h8_7]
          simp (disch := omega) only [↓Bool.cond_eq_ite, ↓reduceIte, Bool.false_eq_true, eq_self, n_lit, n_neg, n_add, n_mul, n_sub, n_subM, n_div, n_mod, n_addM, m_div, m_subn, n_tN, n_inS, n_eq_t, n_eq_f, n_ne_t, n_ne_f, n_lt_t, n_lt_f, n_ge_t, n_ge_f, n_gt_t, n_gt_f, n_le_t, n_le_f, mn_eq, mn_ne, mn_lt, mn_ge, mn_gt, mn_le, nm_eq, nm_ne, nm_lt, nm_ge, nm_gt, nm_le, n_gts_t, c_eq_refl, c_ne_refl, w_fold, w_2, wC_fold, lt_M, cond_true, cond_false, Bool.and_true, Bool.true_and, Bool.and_false, Bool.false_and, Bool.not_true, Bool.not_false, isZS_0, isZS_1, e, cv]
          exact k1
        · rw [h_154_71]
          simp (disch := omega) only [↓Bool.cond_eq_ite, ↓reduceIte, Bool.false_eq_true, eq_self, n_lit, n_neg, n_add, n_mul, n_sub, n_subM, n_div, n_mod, n_addM, m_div, m_subn, n_tN, n_inS, n_eq_t, n_eq_f, n_ne_t, n_ne_f, n_lt_t, n_lt_f, n_ge_t, n_ge_f, n_gt_t, n_gt_f, n_le_t, n_le_f, mn_eq, mn_ne, mn_lt, mn_ge, mn_gt, mn_le, nm_eq, nm_ne, nm_lt, nm_ge, nm_gt, nm_le, n_gts_t, c_eq_refl, c_ne_refl, w_fold, w_2, wC_fold, lt_M, cond_true, cond_false, Bool.and_true, Bool.true_and, Bool.and_false, Bool.false_and, Bool.not_true, Bool.not_false, isZS_0, isZS_1, S5, h16, cv]
          exact k2
theorem can_no {s g : Nat} (hg : g < nb) (hk : kd g ≠ 0) (hK : mKd M nb kd) : kI L xs 154 [vr 10 [1], vi (oN s), vi (oN g)] M = some (oN 0, M) := by
  obtain ⟨-, b40, h⟩ := hK
  obtain ⟨k5, k11⟩ := h g hg
  refine kI_of ?_
  rw [e_154]
  simp (disch := omega) only [↓Bool.cond_eq_ite, ↓reduceIte, Bool.false_eq_true, eq_self, n_lit, n_neg, n_add, n_mul, n_sub, n_subM, n_div, n_mod, n_addM, m_div, m_subn, n_tN, n_inS, n_eq_t, n_eq_f, n_ne_t, n_ne_f, n_lt_t, n_lt_f, n_ge_t, n_ge_f, n_gt_t, n_gt_f, n_le_t, n_le_f, mn_eq, mn_ne, mn_lt, mn_ge, mn_gt, mn_le, nm_eq, nm_ne, nm_lt, nm_ge, nm_gt, nm_le, n_gts_t, c_eq_refl, c_ne_refl, w_fold, w_2, wC_fold, lt_M, cond_true, cond_false, Bool.and_true, Bool.true_and, Bool.and_false, Bool.false_and, Bool.not_true, Bool.not_false, isZS_0, isZS_1, k11]
set_option maxRecDepth 8000 in
theorem can_ok {s g c0 : Nat} (hP : rP [0, 0] (M.1 [1, 1]) C M nc nw nb np nt now hm kd wa wb wd wl ws) (hHi : rHi C M nb now kd) (hs : s < nb) (hc : c0 < 16) (hs2 : C.1 [s, 10, 0, 0] 2 = oN c0) (hsS : M.1 [1, 1] (200 + 16 * s) = oN c0) (hg : g < nb) (hk : kd g = 0) :
    ∃ x, kI L xs 88 [vr 9 [0], vi (oN s), vi (oN g)] C = some (b2 x, C) ∧ kI L xs 154 [vr 10 [1], vi (oN s), vi (oN g)] M = some (b2 x, M) := by
  obtain ⟨g1, g2, g3, g4, g5, g6, g7, g8, g9, g10⟩ := hP
  obtain ⟨cN, cT, cC, cW, cB, cG, cP, S0, S1, S2, S3, S4, S5, b16, b24, b40, b8, b20, b4320⟩ := g1
  obtain ⟨⟨i5, i0, i1, i11, i7, i8, i16, i14, ⟨n, n4, i17, j16⟩, -⟩, gp, -⟩ := g7 g hg
  obtain ⟨⟨s5, s0, s1, s11, s7, s8, s16, s14, s17⟩, -⟩ := g7 s hs
  have og := rBp_opt b16 gp
  have e1 := opt_eq (by omega) i7 s7
  have e2 := opt_eq (by omega) og (.inr ⟨c0, hc, hs2, hsS⟩ : opt (C.1 [s, 10, 0, 0] 2) (M.1 [1, 1] (200 + 16 * s)) 16)
  rw [hk] at i11
  by_cases h7 : C.1 [g, 10, 0, 0] 7 = C.1 [s, 10, 0, 0] 7
  · have c1 : cmpS .eq (C.1 [g, 10, 0, 0] 7) (C.1 [s, 10, 0, 0] 7) = true := by rw [h7]; exact c_eq_refl _
    have c2 : cmpS .eq (M.1 [12, 1] g) (M.1 [12, 1] s) = true := by rw [e1.mp h7]; exact c_eq_refl _
    by_cases h2 : C.1 [g, 10, 0, 0] 2 = C.1 [s, 10, 0, 0] 2
    · have c3 : cmpS .ne (C.1 [g, 10, 0, 0] 2) (C.1 [s, 10, 0, 0] 2) = false := by rw [h2]; exact c_ne_refl _
      have c4 : cmpS .ne (M.1 [1, 1] (200 + 16 * g)) (M.1 [1, 1] (200 + 16 * s)) = false := by rw [e2.mp h2]; exact c_ne_refl _
      refine ⟨true, kI_of ?_, kI_of ?_⟩
      · rw [e_88]
        simp (disch := omega) only [↓Bool.cond_eq_ite, ↓reduceIte, Bool.false_eq_true, eq_self, n_lit, n_neg, n_add, n_mul, n_sub, n_subM, n_div, n_mod, n_addM, m_div, m_subn, n_tN, n_inS, n_eq_t, n_eq_f, n_ne_t, n_ne_f, n_lt_t, n_lt_f, n_ge_t, n_ge_f, n_gt_t, n_gt_f, n_le_t, n_le_f, mn_eq, mn_ne, mn_lt, mn_ge, mn_gt, mn_le, nm_eq, nm_ne, nm_lt, nm_ge, nm_gt, nm_le, n_gts_t, c_eq_refl, c_ne_refl, w_fold, w_2, wC_fold, lt_M, cond_true, cond_false, Bool.and_true, Bool.true_and, Bool.and_false, Bool.false_and, Bool.not_true, Bool.not_false, isZS_0, isZS_1, c1, c3, b2]
      · rw [e_154]
        simp (disch := omega) only [↓Bool.cond_eq_ite, ↓reduceIte, Bool.false_eq_true, eq_self, n_lit, n_neg, n_add, n_mul, n_sub, n_subM, n_div, n_mod, n_addM, m_div, m_subn, n_tN, n_inS, n_eq_t, n_eq_f, n_ne_t, n_ne_f, n_lt_t, n_lt_f, n_ge_t, n_ge_f, n_gt_t, n_gt_f, n_le_t, n_le_f, mn_eq, mn_ne, mn_lt, mn_ge, mn_gt, mn_le, nm_eq, nm_ne, nm_lt, nm_ge, nm_gt, nm_le, n_gts_t, c_eq_refl, c_ne_refl, w_fold, w_2, wC_fold, lt_M, cond_true, cond_false, Bool.and_true, Bool.true_and, Bool.and_false, Bool.false_and, Bool.not_true, Bool.not_false, isZS_0, isZS_1, Nat.add_zero, i11, c2, c4, b2]
    · have c3 := c_ne_h h2
      have c4 := c_ne_h (fun h => h2 (e2.mpr h))
      rw [hs2] at c3
      rw [hsS] at c4
      have hH : ∀ m, m < now → n ≤ m → pl (C.2.1 [1, 5, 0]) (g * 4320 + m) = M.1 [25, 1] (4321 * g + m) := fun m h1 h2 => hHi.2 g m n hg hk h1 j16 n4 h2
      by_cases h120 : now < 120
      · obtain ⟨x, k1, k2⟩ := was_in (L := L) (xs := xs) (c0 := oN c0) (by omega) n4 b4320 S5 j16 hH now 0 (by omega)
        refine ⟨x, kI_of ?_, kI_of ?_⟩
        · have k7 : kI L xs 7 [vr 1 [5, 0], vi (oN g), vi (oN c0), vi (oN n), vi (oN now)] C = some (b2 x, C) := kI_of (by
            have hh : (if (0 : Int32) < oN n then oN n else (0 : Int32)) = oN (max 0 n) := mx_if (a := 0) (b := n) (by omega) (by omega)
            rw [e_7, hh]
            exact k1)
          rw [e_88]
          simp (disch := omega) only [↓Bool.cond_eq_ite, ↓reduceIte, Bool.false_eq_true, eq_self, n_lit, n_neg, n_add, n_mul, n_sub, n_subM, n_div, n_mod, n_addM, m_div, m_subn, n_tN, n_inS, n_eq_t, n_eq_f, n_ne_t, n_ne_f, n_lt_t, n_lt_f, n_ge_t, n_ge_f, n_gt_t, n_gt_f, n_le_t, n_le_f, mn_eq, mn_ne, mn_lt, mn_ge, mn_gt, mn_le, nm_eq, nm_ne, nm_lt, nm_ge, nm_gt, nm_le, n_gts_t, c_eq_refl, c_ne_refl, w_fold, w_2, wC_fold, lt_M, cond_true, cond_false, Bool.and_true, Bool.true_and, Bool.and_false, Bool.false_and, Bool.not_true, Bool.not_false, isZS_0, isZS_1, c1, c3, hs2, i17, cN, m_ltN, if_true, k7, b2_ZS, Bool.and_self, Option.bind_some]
        · rw [e_154]
          simp (disch := omega) only [↓Bool.cond_eq_ite, ↓reduceIte, Bool.false_eq_true, eq_self, n_lit, n_neg, n_add, n_mul, n_sub, n_subM, n_div, n_mod, n_addM, m_div, m_subn, n_tN, n_inS, n_eq_t, n_eq_f, n_ne_t, n_ne_f, n_lt_t, n_lt_f, n_ge_t, n_ge_f, n_gt_t, n_gt_f, n_le_t, n_le_f, mn_eq, mn_ne, mn_lt, mn_ge, mn_gt, mn_le, nm_eq, nm_ne, nm_lt, nm_ge, nm_gt, nm_le, n_gts_t, c_eq_refl, c_ne_refl, w_fold, w_2, wC_fold, lt_M, cond_true, cond_false, Bool.and_true, Bool.true_and, Bool.and_false, Bool.false_and, Bool.not_true, Bool.not_false, isZS_0, isZS_1, Nat.add_zero, i11, c2, c4, hsS, S5]
          exact k2
      · obtain ⟨x, k1, k2⟩ := was_in (L := L) (xs := xs) (c0 := oN c0) (by omega) n4 b4320 S5 j16 hH 120 (now - 120) (by omega)
        refine ⟨x, kI_of ?_, kI_of ?_⟩
        · have k7 : kI L xs 7 [vr 1 [5, 0], vi (oN g), vi (oN c0), vi (oN (max (now - 120) n)), vi (oN now)] C = some (b2 x, C) := kI_of (by
            have hh : (if (0 : Int32) < oN (max (now - 120) n) then oN (max (now - 120) n) else (0 : Int32)) = oN (max 0 (max (now - 120) n)) := mx_if (a := 0) (b := max (now - 120) n) (by omega) (by omega)
            rw [e_7, hh, show max 0 (max (now - 120) n) = max (now - 120) n by omega]
            exact k1)
          rw [e_88]
          simp (disch := omega) only [↓Bool.cond_eq_ite, ↓reduceIte, Bool.false_eq_true, eq_self, n_lit, n_neg, n_add, n_mul, n_sub, n_subM, n_div, n_mod, n_addM, m_div, m_subn, n_tN, n_inS, n_eq_t, n_eq_f, n_ne_t, n_ne_f, n_lt_t, n_lt_f, n_ge_t, n_ge_f, n_gt_t, n_gt_f, n_le_t, n_le_f, mn_eq, mn_ne, mn_lt, mn_ge, mn_gt, mn_le, nm_eq, nm_ne, nm_lt, nm_ge, nm_gt, nm_le, n_gts_t, c_eq_refl, c_ne_refl, w_fold, w_2, wC_fold, lt_M, cond_true, cond_false, Bool.and_true, Bool.true_and, Bool.and_false, Bool.false_and, Bool.not_true, Bool.not_false, isZS_0, isZS_1, c1, c3, hs2, i17, cN, mx_if, k7, b2_ZS, Bool.and_self, Option.bind_some]
        · rw [e_154]
          simp (disch := omega) only [↓Bool.cond_eq_ite, ↓reduceIte, Bool.false_eq_true, eq_self, n_lit, n_neg, n_add, n_mul, n_sub, n_subM, n_div, n_mod, n_addM, m_div, m_subn, n_tN, n_inS, n_eq_t, n_eq_f, n_ne_t, n_ne_f, n_lt_t, n_lt_f, n_ge_t, n_ge_f, n_gt_t, n_gt_f, n_le_t, n_le_f, mn_eq, mn_ne, mn_lt, mn_ge, mn_gt, mn_le, nm_eq, nm_ne, nm_lt, nm_ge, nm_gt, nm_le, n_gts_t, c_eq_refl, c_ne_refl, w_fold, w_2, wC_fold, lt_M, cond_true, cond_false, Bool.and_true, Bool.true_and, Bool.and_false, Bool.false_and, Bool.not_true, Bool.not_false, isZS_0, isZS_1, Nat.add_zero, i11, c2, c4, hsS, S5]
          exact k2
  · have c1 := c_eq_h h7
    have c2 := c_eq_h (fun h => h7 (e1.mpr h))
    refine ⟨false, kI_of ?_, kI_of ?_⟩
    · rw [e_88]
      simp (disch := omega) only [↓Bool.cond_eq_ite, ↓reduceIte, Bool.false_eq_true, eq_self, n_lit, n_neg, n_add, n_mul, n_sub, n_subM, n_div, n_mod, n_addM, m_div, m_subn, n_tN, n_inS, n_eq_t, n_eq_f, n_ne_t, n_ne_f, n_lt_t, n_lt_f, n_ge_t, n_ge_f, n_gt_t, n_gt_f, n_le_t, n_le_f, mn_eq, mn_ne, mn_lt, mn_ge, mn_gt, mn_le, nm_eq, nm_ne, nm_lt, nm_ge, nm_gt, nm_le, n_gts_t, c_eq_refl, c_ne_refl, w_fold, w_2, wC_fold, lt_M, cond_true, cond_false, Bool.and_true, Bool.true_and, Bool.and_false, Bool.false_and, Bool.not_true, Bool.not_false, isZS_0, isZS_1, c1, b2]
    · rw [e_154]
      simp (disch := omega) only [↓Bool.cond_eq_ite, ↓reduceIte, Bool.false_eq_true, eq_self, n_lit, n_neg, n_add, n_mul, n_sub, n_subM, n_div, n_mod, n_addM, m_div, m_subn, n_tN, n_inS, n_eq_t, n_eq_f, n_ne_t, n_ne_f, n_lt_t, n_lt_f, n_ge_t, n_ge_f, n_gt_t, n_gt_f, n_le_t, n_le_f, mn_eq, mn_ne, mn_lt, mn_ge, mn_gt, mn_le, nm_eq, nm_ne, nm_lt, nm_ge, nm_gt, nm_le, n_gts_t, c_eq_refl, c_ne_refl, w_fold, w_2, wC_fold, lt_M, cond_true, cond_false, Bool.and_true, Bool.true_and, Bool.and_false, Bool.false_and, Bool.not_true, Bool.not_false, isZS_0, isZS_1, i11, c2, b2]
end Can1
