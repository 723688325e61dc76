section Law8
variable {L : Nat} {xs : Nat → Int32} {mem : mM} {hm i : Nat}
theorem and63 (v : Int32) : ∃ k, k < 64 ∧ v &&& oN 63 = oN k := by
  refine ⟨(v.toBitVec &&& 63#32).toNat, ?_, ?_⟩
  · rw [BitVec.toNat_and]
    have : (63#32 : BitVec 32).toNat = 63 := rfl
    rw [this]
    have := Nat.and_le_right (n := v.toBitVec.toNat) (m := 63)
    omega
  · apply Int32.toBitVec_inj.mp
    show v.toBitVec &&& 63#32 = (oN _).toBitVec
    apply BitVec.eq_of_toNat_eq
    show _ = (BitVec.ofNat 32 (v.toBitVec &&& 63#32).toNat).toNat
    rw [BitVec.toNat_ofNat, Nat.mod_eq_of_lt (BitVec.isLt _)]
set_option maxRecDepth 100000 in
set_option maxHeartbeats 4000000 in
theorem lw_x {k : Nat} (hi : i + 6 ≤ L) (hL : L ≤ 3072) (hk : 48 ≤ k) (hk2 : k < 64) (ht : xs i &&& oN 63 = oN k) (h : rI L xs mem mem hm) : stO L xs i hm mem := by
  refine ⟨mem, hm, ?_, h, by omega, by omega, Nat.le_succ _⟩
  unfold lw
  rw [h_256_23]
  simp (disch := omega) only [↓Bool.cond_eq_ite, ↓reduceIte, Bool.false_eq_true, eq_self, n_lit, n_neg, n_add, n_mul, n_sub, n_subM, n_div, n_mod, n_addM, m_div, m_subn, n_tN, n_inS, n_eq_t, n_eq_f, n_ne_t, n_ne_f, n_lt_t, n_lt_f, n_ge_t, n_ge_f, n_gt_t, n_gt_f, n_le_t, n_le_f, mn_eq, mn_ne, mn_lt, mn_ge, mn_gt, mn_le, nm_eq, nm_ne, nm_lt, nm_ge, nm_gt, nm_le, n_gts_t, c_eq_refl, c_ne_refl, w_fold, w_2, wC_fold, lt_M, cond_true, cond_false, Bool.and_true, Bool.true_and, Bool.and_false, Bool.false_and, Bool.not_true, Bool.not_false, isZS_0, isZS_1, oNL, ht]
theorem lw_all (hi : i + 6 ≤ L) (hL : L ≤ 3072) (h400 : 400 ≤ hm) (h1000 : hm ≤ 1000) (h : rI L xs mem mem hm) : stO L xs i hm mem := by
  obtain ⟨k, hk, ht⟩ := and63 (xs i)
  by_cases q0 : k = 0
  · subst q0; exact lw_0 hi hL ht h400 h1000 h
  by_cases q1 : k = 1
  · subst q1; exact lw_1 hi hL ht h400 h1000 h
  by_cases q2 : k = 2
  · subst q2; exact lw_2 hi hL ht h
  by_cases q3 : k = 3
  · subst q3; exact lw_3 hi hL ht h400 h1000 h
  by_cases q4 : k = 4
  · subst q4; exact lw_4 hi hL ht h400 h1000 h
  by_cases q5 : k = 5
  · subst q5; exact lw_5 hi hL ht h400 h1000 h
  by_cases q6 : k = 6
  · subst q6; exact lw_6 hi hL ht h
  by_cases q7 : k = 7
  · subst q7; exact lw_7 hi hL ht h400 h1000 h
  by_cases q8 : k = 8
  · subst q8; exact lw_8 hi hL ht h400 h1000 h
  by_cases q9 : k = 9
  · subst q9; exact lw_9 hi hL ht h400 h1000 h
  by_cases q10 : k = 10
  · subst q10; exact lw_10 hi hL ht h400 h1000 h
  by_cases q11 : k = 11
  · subst q11; exact lw_11 hi hL ht h400 h1000 h
  by_cases q12 : k = 12
  · subst q12; exact lw_12 hi hL ht h
  by_cases q13 : k = 13
  · subst q13; exact lw_13 hi hL ht h400 h1000 h
  by_cases q14 : k = 14
  · subst q14; exact lw_14 hi hL ht h
  by_cases q15 : k = 15
  · subst q15; exact lw_15 hi hL ht h400 h1000 h
  by_cases q16 : k = 16
  · subst q16; exact lw_16 hi hL ht h400 h1000 h
  by_cases q17 : k = 17
  · subst q17; exact lw_17 hi hL ht h400 h1000 h
  by_cases q18 : k = 18
  · subst q18; exact lw_18 hi hL ht h400 h1000 h
  by_cases q19 : k = 19
  · subst q19; exact lw_19 hi hL ht h400 h1000 h
  by_cases q20 : k = 20
  · subst q20; exact lw_20 hi hL ht h1000 h
  by_cases q21 : k = 21
  · subst q21; exact lw_21 hi hL ht h400 h1000 h
  by_cases q22 : k = 22
  · subst q22; exact lw_22 hi hL ht h400 h1000 h
  by_cases q23 : k = 23
  · subst q23; exact lw_23 hi hL ht h400 h1000 h
  by_cases q24 : k = 24
  · subst q24; exact lw_24 hi hL ht h400 h1000 h
  by_cases q25 : k = 25
  · subst q25; exact lw_25 hi hL ht h400 h1000 h
  by_cases q26 : k = 26
  · subst q26; exact lw_26 hi hL ht h400 h1000 h
  by_cases q27 : k = 27
  · subst q27; exact lw_27 hi hL ht h400 h1000 h
  by_cases q28 : k = 28
  · subst q28; exact lw_28 hi hL ht h400 h1000 h
  by_cases q29 : k = 29
  · subst q29; exact lw_29 hi hL ht h400 h1000 h
  by_cases q30 : k = 30
  · subst q30; exact lw_30 hi hL ht h400 h1000 h
  by_cases q31 : k = 31
  · subst q31; exact lw_31 hi hL ht h400 h1000 h
  by_cases q32 : k = 32
  · subst q32; exact lw_32 hi hL ht h400 h1000 h
  by_cases q33 : k = 33
  · subst q33; exact lw_33 hi hL ht h1000 h
  by_cases q34 : k = 34
  · subst q34; exact lw_34 hi hL ht h400 h1000 h
  by_cases q35 : k = 35
  · subst q35; exact lw_35 hi hL ht h400 h1000 h
  by_cases q36 : k = 36
  · subst q36; exact lw_36 hi hL ht h400 h1000 h
  by_cases q37 : k = 37
  · subst q37; exact lw_37 hi hL ht h400 h1000 h
  by_cases q38 : k = 38
  · subst q38; exact lw_38 hi hL ht h
  by_cases q39 : k = 39
  · subst q39; exact lw_39 hi hL ht h
  by_cases q40 : k = 40
  · subst q40; exact lw_40 hi hL ht h400 h1000 h
  by_cases q41 : k = 41
  · subst q41; exact lw_41 hi hL ht h400 h1000 h
  by_cases q42 : k = 42
  · subst q42; exact lw_42 hi hL ht h400 h1000 h
  by_cases q43 : k = 43
  · subst q43; exact lw_43 hi hL ht h400 h1000 h
  by_cases q44 : k = 44
  · subst q44; exact lw_44 hi hL ht h
  by_cases q45 : k = 45
  · subst q45; exact lw_45 hi hL ht h400 h1000 h
  by_cases q46 : k = 46
  · subst q46; exact lw_46 hi hL ht h
  by_cases q47 : k = 47
  · subst q47; exact lw_47 hi hL ht h
  exact lw_x hi hL (by omega) hk ht h
theorem lw_end {j : Nat} (hL : L ≤ 3072) (h : L < 6 * j + 6) (hj : j ≤ 513) : run L xs 256 63 (23, lw (6 * j), [], mem) = some (some (vi (oN 1)), mem) := by
  unfold lw
  rw [h_256_23]
  by_cases q : 6 ≤ L
  · simp (disch := omega) only [↓Bool.cond_eq_ite, ↓reduceIte, Bool.false_eq_true, eq_self, n_lit, n_neg, n_add, n_mul, n_sub, n_subM, n_div, n_mod, n_addM, m_div, m_subn, n_tN, n_inS, n_eq_t, n_eq_f, n_ne_t, n_ne_f, n_lt_t, n_lt_f, n_ge_t, n_ge_f, n_gt_t, n_gt_f, n_le_t, n_le_f, mn_eq, mn_ne, mn_lt, mn_ge, mn_gt, mn_le, nm_eq, nm_ne, nm_lt, nm_ge, nm_gt, nm_le, n_gts_t, c_eq_refl, c_ne_refl, w_fold, w_2, wC_fold, lt_M, cond_true, cond_false, Bool.and_true, Bool.true_and, Bool.and_false, Bool.false_and, Bool.not_true, Bool.not_false, isZS_0, isZS_1, oNL]
  · simp (disch := omega) only [↓Bool.cond_eq_ite, ↓reduceIte, Bool.false_eq_true, eq_self, n_lit, n_neg, n_add, n_mul, n_sub, n_subM, n_div, n_mod, n_addM, m_div, m_subn, n_tN, n_inS, n_eq_t, n_eq_f, n_ne_t, n_ne_f, n_lt_t, n_lt_f, n_ge_t, n_ge_f, n_gt_t, n_gt_f, n_le_t, n_le_f, mn_eq, mn_ne, mn_lt, mn_ge, mn_gt, mn_le, nm_eq, nm_ne, nm_lt, nm_ge, nm_gt, nm_le, n_gts_t, c_eq_refl, c_ne_refl, w_fold, w_2, wC_fold, lt_M, cond_true, cond_false, Bool.and_true, Bool.true_and, Bool.and_false, Bool.false_and, Bool.not_true, Bool.not_false, isZS_0, isZS_1, oNL]
theorem law_ok (hL : L ≤ 3072) : ∀ r j hm mem, j + r ≤ 512 → L < 6 * (j + r) + 6 → 400 ≤ hm → hm ≤ 400 + j → rI L xs mem mem hm → ∃ mem', run L xs 256 63 (23, lw (6 * j), [], mem) = some (some (vi (oN 1)), mem') ∧ mem'.2.2 ≤ mem.2.2 + r := by
  intro r
  induction r with
  | zero =>
    intro j hm mem hj hl h1 h2 h
    exact ⟨mem, lw_end hL (by omega) (by omega), Nat.le_refl _⟩
  | succ r ih =>
    intro j hm mem hj hl h1 h2 h
    by_cases q : L < 6 * j + 6
    · exact ⟨mem, lw_end hL q (by omega), by omega⟩
    · obtain ⟨m1, hm1, e, g1, g2, g3, g4⟩ := lw_all (L := L) (xs := xs) (i := 6 * j) (by omega) hL h1 (by omega) h
      obtain ⟨m2, k1, k2⟩ := ih (j + 1) hm1 m1 (by omega) (by omega) (by omega) (by omega) g1
      refine ⟨m2, ?_, by omega⟩
      rw [e]
      exact k1
end Law8
