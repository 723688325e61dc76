section Text1
variable {L : Nat} {xs : Nat → Int32} {C M : mM} {c nc nw nb np nt now td hm w : Nat} {kd wa wb wd wl ws : Nat → Nat}
def fEq (F : Nat → Int32) (now pr pu : Nat) (hd tr la su st th he : Int32) : Prop :=
  F 0 = oN (now % 1440) ∧ F 1 = oN (now / 60 % 24) ∧ F 2 = oN (now / 1440) ∧ F 3 = oN pr ∧ F 4 = oN pu ∧ F 5 = hd ∧ F 6 = tr ∧ F 7 = la ∧ F 8 = su ∧ F 9 = st ∧ F 10 = th ∧ F 11 = he
theorem lt_stA {α : Type} {C : mM} {p : List Nat} {F G : Nat → Int32} {f : mM → Option α} : ltM (uI (stA C p F).1 p G, (stA C p F).2) f = f (stA C p G) := by rw [lt_M, stA_u]
theorem fields_w0 {F : Nat → Int32} {pr pu : Nat} {he : Int32} (hn : now ≤ 4320) (hw : w < 24) (hpr : pr ≤ 100000) (hpu : pu ≤ 100000) (h0 : C.1 [c, 0] 0 = oN now) (h3 : C.1 [6, 6, c, 0] w = oN pr) (h4 : C.1 [7, 6, c, 0] w = oN pu)
    (h7 : C.1 [7, c, 0] (now / 60 % 24) = he) : ∃ F', call L xs 32 [vr 2 [c, 0], vi (oN w), vn] (stA C [15, c, 0] F) = some (some (vr 1000012 [15, c, 0]), stA C [15, c, 0] F') ∧ fEq F' now pr pu (oN 0) (oN 0) (oN 0) (oN 0) (oN 0) (oN 0) he := by
  have r0 : ∀ G : Nat → Int32, (stA C [15, c, 0] G).1 [c, 0] 0 = oN now := fun G => by rw [stA_ne (by simp)]; exact h0
  have r3 : ∀ G : Nat → Int32, (stA C [15, c, 0] G).1 [6, 6, c, 0] w = oN pr := fun G => by rw [stA_ne (by simp)]; exact h3
  have r4 : ∀ G : Nat → Int32, (stA C [15, c, 0] G).1 [7, 6, c, 0] w = oN pu := fun G => by rw [stA_ne (by simp)]; exact h4
  have hb2 : now / 60 - now / 60 / 24 * 24 = now / 60 % 24 := by omega
  have hb : now / 60 - now / 60 / 24 * 24 < 24 := by omega
  have r7 : ∀ G : Nat → Int32, (stA C [15, c, 0] G).1 [7, c, 0] (now / 60 - now / 60 / 24 * 24) = he := fun G => by rw [stA_ne (by simp), hb2]; exact h7
  rw [q_32_0]
  simp (disch := omega) only [↓lt_stA, ↓Bool.cond_eq_ite, ↓reduceIte, Bool.false_eq_true, eq_self, n_lit, n_neg, n_add, n_mul, n_sub, n_subM, n_div, n_mod, n_addM, m_div, m_subn, n_tN, n_inS, n_eq_t, n_eq_f, n_ne_t, n_ne_f, n_lt_t, n_lt_f, n_ge_t, n_ge_f, n_gt_t, n_gt_f, n_le_t, n_le_f, mn_eq, mn_ne, mn_lt, mn_ge, mn_gt, mn_le, nm_eq, nm_ne, nm_lt, nm_ge, nm_gt, nm_le, n_gts_t, c_eq_refl, c_ne_refl, w_fold, w_2, wC_fold, lt_M, cond_true, cond_false, Bool.and_true, Bool.true_and, Bool.and_false, Bool.false_and, Bool.not_true, Bool.not_false, isZS_0, isZS_1, stA_w, stA_u, stA_same, r0, r3, r4, r7, q_32_44, q_32_47, q_32_67, q_32_70, q_32_84]
  refine ⟨_, rfl, ?_⟩
  have e1 : now - now / 1440 * 1440 = now % 1440 := by omega
  exact ⟨by rw [← e1]; rfl, by rw [← hb2]; rfl, rfl, rfl, rfl, rfl, rfl, rfl, rfl, rfl, rfl, rfl⟩
theorem fields_n0 {F : Nat → Int32} {he : Int32} (hn : now ≤ 4320) (h0 : C.1 [c, 0] 0 = oN now) (h7 : C.1 [7, c, 0] (now / 60 % 24) = he) : ∃ F', call L xs 32 [vr 2 [c, 0], vi (oM 1), vn] (stA C [15, c, 0] F) = some (some (vr 1000012 [15, c, 0]), stA C [15, c, 0] F') ∧ fEq F' now 0 0 (oN 0) (oN 0) (oN 0) (oN 0) (oN 0) (oN 0) he := by
  have r0 : ∀ G : Nat → Int32, (stA C [15, c, 0] G).1 [c, 0] 0 = oN now := fun G => by rw [stA_ne (by simp)]; exact h0
  have hb2 : now / 60 - now / 60 / 24 * 24 = now / 60 % 24 := by omega
  have hb : now / 60 - now / 60 / 24 * 24 < 24 := by omega
  have r7 : ∀ G : Nat → Int32, (stA C [15, c, 0] G).1 [7, c, 0] (now / 60 - now / 60 / 24 * 24) = he := fun G => by rw [stA_ne (by simp), hb2]; exact h7
  rw [q_32_0]
  simp (disch := omega) only [↓lt_stA, ↓Bool.cond_eq_ite, ↓reduceIte, Bool.false_eq_true, eq_self, n_lit, n_neg, n_add, n_mul, n_sub, n_subM, n_div, n_mod, n_addM, m_div, m_subn, n_tN, n_inS, n_eq_t, n_eq_f, n_ne_t, n_ne_f, n_lt_t, n_lt_f, n_ge_t, n_ge_f, n_gt_t, n_gt_f, n_le_t, n_le_f, mn_eq, mn_ne, mn_lt, mn_ge, mn_gt, mn_le, nm_eq, nm_ne, nm_lt, nm_ge, nm_gt, nm_le, n_gts_t, c_eq_refl, c_ne_refl, w_fold, w_2, wC_fold, lt_M, cond_true, cond_false, Bool.and_true, Bool.true_and, Bool.and_false, Bool.false_and, Bool.not_true, Bool.not_false, isZS_0, isZS_1, stA_w, stA_u, stA_same, r0, r7, q_32_44, q_32_59, q_32_67, q_32_82, q_32_84]
  refine ⟨_, rfl, ?_⟩
  have e1 : now - now / 1440 * 1440 = now % 1440 := by omega
  exact ⟨by rw [← e1]; rfl, by rw [← hb2]; rfl, rfl, rfl, rfl, rfl, rfl, rfl, rfl, rfl, rfl, rfl⟩
theorem fields_g0 {F : Nat → Int32} {he m : Int32} {b i : Nat} (hn : now ≤ 4320) (h0 : C.1 [c, 0] 0 = oN now) (h7 : C.1 [7, c, 0] (now / 60 % 24) = he) (h62 : ∀ G : Nat → Int32, kI L xs 62 [vr 6 [18, b, 10, c, 0], vi (oN now)] (stA C [15, c, 0] G) = some (oM 1, stA C [15, c, 0] G))  : ∃ F', call L xs 32 [vr 2 [c, 0], vi (oM 1), vr 0 [b, 10, c, 0]] (stA C [15, c, 0] F) = some (some (vr 1000012 [15, c, 0]), stA C [15, c, 0] F') ∧
    fEq F' now 0 0 (C.1 [b, 10, c, 0] 6) (C.1 [b, 10, c, 0] 8) (oN 0) (C.1 [b, 10, c, 0] 9) (C.1 [b, 10, c, 0] 10) (C.1 [b, 10, c, 0] 11) he := by
  have r0 : ∀ G : Nat → Int32, (stA C [15, c, 0] G).1 [c, 0] 0 = oN now := fun G => by rw [stA_ne (by simp)]; exact h0
  have hb2 : now / 60 - now / 60 / 24 * 24 = now / 60 % 24 := by omega
  have hb : now / 60 - now / 60 / 24 * 24 < 24 := by omega
  have r7 : ∀ G : Nat → Int32, (stA C [15, c, 0] G).1 [7, c, 0] (now / 60 - now / 60 / 24 * 24) = he := fun G => by rw [stA_ne (by simp), hb2]; exact h7
  have b6 : ∀ G : Nat → Int32, (stA C [15, c, 0] G).1 [b, 10, c, 0] = C.1 [b, 10, c, 0] := fun G => stA_ne (by simp)
  have b18 : ∀ G : Nat → Int32, (stA C [15, c, 0] G).1 [1, 18, b, 10, c, 0] = C.1 [1, 18, b, 10, c, 0] := fun G => stA_ne (by simp)
  rw [e_32]
  simp (disch := omega) only [↓lt_stA, ↓Option.bind_some, ↓Bool.cond_eq_ite, ↓reduceIte, Bool.false_eq_true, eq_self, n_lit, n_neg, n_add, n_mul, n_sub, n_subM, n_div, n_mod, n_addM, m_div, m_subn, n_tN, n_inS, n_eq_t, n_eq_f, n_ne_t, n_ne_f, n_lt_t, n_lt_f, n_ge_t, n_ge_f, n_gt_t, n_gt_f, n_le_t, n_le_f, mn_eq, mn_ne, mn_lt, mn_ge, mn_gt, mn_le, nm_eq, nm_ne, nm_lt, nm_ge, nm_gt, nm_le, n_gts_t, c_eq_refl, c_ne_refl, w_fold, w_2, wC_fold, lt_M, cond_true, cond_false, Bool.and_true, Bool.true_and, Bool.and_false, Bool.false_and, Bool.not_true, Bool.not_false, isZS_0, isZS_1, stA_w, stA_u, stA_same, r0, r7, b6, b18, h62]
  refine ⟨_, rfl, ?_⟩
  have e1 : now - now / 1440 * 1440 = now % 1440 := by omega
  exact ⟨by rw [← e1]; rfl, by rw [← hb2]; rfl, rfl, rfl, rfl, rfl, rfl, rfl, rfl, rfl, rfl, rfl⟩
theorem fields_g1 {F : Nat → Int32} {he m : Int32} {b i : Nat} (hn : now ≤ 4320) (h0 : C.1 [c, 0] 0 = oN now) (h7 : C.1 [7, c, 0] (now / 60 % 24) = he) (h62 : ∀ G : Nat → Int32, kI L xs 62 [vr 6 [18, b, 10, c, 0], vi (oN now)] (stA C [15, c, 0] G) = some (oN i, stA C [15, c, 0] G))  (hi : i < 8) (hm : C.1 [1, 18, b, 10, c, 0] i = m) : ∃ F', call L xs 32 [vr 2 [c, 0], vi (oM 1), vr 0 [b, 10, c, 0]] (stA C [15, c, 0] F) = some (some (vr 1000012 [15, c, 0]), stA C [15, c, 0] F') ∧
    fEq F' now 0 0 (C.1 [b, 10, c, 0] 6) (C.1 [b, 10, c, 0] 8) (oN now - m) (C.1 [b, 10, c, 0] 9) (C.1 [b, 10, c, 0] 10) (C.1 [b, 10, c, 0] 11) he := by
  have r0 : ∀ G : Nat → Int32, (stA C [15, c, 0] G).1 [c, 0] 0 = oN now := fun G => by rw [stA_ne (by simp)]; exact h0
  have hb2 : now / 60 - now / 60 / 24 * 24 = now / 60 % 24 := by omega
  have hb : now / 60 - now / 60 / 24 * 24 < 24 := by omega
  have r7 : ∀ G : Nat → Int32, (stA C [15, c, 0] G).1 [7, c, 0] (now / 60 - now / 60 / 24 * 24) = he := fun G => by rw [stA_ne (by simp), hb2]; exact h7
  have b6 : ∀ G : Nat → Int32, (stA C [15, c, 0] G).1 [b, 10, c, 0] = C.1 [b, 10, c, 0] := fun G => stA_ne (by simp)
  have b18 : ∀ G : Nat → Int32, (stA C [15, c, 0] G).1 [1, 18, b, 10, c, 0] = C.1 [1, 18, b, 10, c, 0] := fun G => stA_ne (by simp)
  rw [e_32]
  simp (disch := omega) only [↓lt_stA, ↓Option.bind_some, ↓Bool.cond_eq_ite, ↓reduceIte, Bool.false_eq_true, eq_self, n_lit, n_neg, n_add, n_mul, n_sub, n_subM, n_div, n_mod, n_addM, m_div, m_subn, n_tN, n_inS, n_eq_t, n_eq_f, n_ne_t, n_ne_f, n_lt_t, n_lt_f, n_ge_t, n_ge_f, n_gt_t, n_gt_f, n_le_t, n_le_f, mn_eq, mn_ne, mn_lt, mn_ge, mn_gt, mn_le, nm_eq, nm_ne, nm_lt, nm_ge, nm_gt, nm_le, n_gts_t, c_eq_refl, c_ne_refl, w_fold, w_2, wC_fold, lt_M, cond_true, cond_false, Bool.and_true, Bool.true_and, Bool.and_false, Bool.false_and, Bool.not_true, Bool.not_false, isZS_0, isZS_1, stA_w, stA_u, stA_same, r0, r7, b6, b18, h62, hm]
  refine ⟨_, rfl, ?_⟩
  have e1 : now - now / 1440 * 1440 = now % 1440 := by omega
  exact ⟨by rw [← e1]; rfl, by rw [← hb2]; rfl, rfl, rfl, rfl, rfl, rfl, rfl, rfl, rfl, rfl, rfl⟩
theorem fields_b0 {F : Nat → Int32} {he m : Int32} {b i : Nat} {pr pu : Nat} (hn : now ≤ 4320) (hw : w < 24) (hpr : pr ≤ 100000) (hpu : pu ≤ 100000) (h0 : C.1 [c, 0] 0 = oN now) (h3 : C.1 [6, 6, c, 0] w = oN pr) (h4 : C.1 [7, 6, c, 0] w = oN pu) (h7 : C.1 [7, c, 0] (now / 60 % 24) = he) (h62 : ∀ G : Nat → Int32, kI L xs 62 [vr 6 [18, b, 10, c, 0], vi (oN now)] (stA C [15, c, 0] G) = some (oM 1, stA C [15, c, 0] G))  : ∃ F', call L xs 32 [vr 2 [c, 0], vi (oN w), vr 0 [b, 10, c, 0]] (stA C [15, c, 0] F) = some (some (vr 1000012 [15, c, 0]), stA C [15, c, 0] F') ∧
    fEq F' now pr pu (C.1 [b, 10, c, 0] 6) (C.1 [b, 10, c, 0] 8) (oN 0) (C.1 [b, 10, c, 0] 9) (C.1 [b, 10, c, 0] 10) (C.1 [b, 10, c, 0] 11) he := by
  have r0 : ∀ G : Nat → Int32, (stA C [15, c, 0] G).1 [c, 0] 0 = oN now := fun G => by rw [stA_ne (by simp)]; exact h0
  have hb2 : now / 60 - now / 60 / 24 * 24 = now / 60 % 24 := by omega
  have hb : now / 60 - now / 60 / 24 * 24 < 24 := by omega
  have r7 : ∀ G : Nat → Int32, (stA C [15, c, 0] G).1 [7, c, 0] (now / 60 - now / 60 / 24 * 24) = he := fun G => by rw [stA_ne (by simp), hb2]; exact h7
  have r3 : ∀ G : Nat → Int32, (stA C [15, c, 0] G).1 [6, 6, c, 0] w = oN pr := fun G => by rw [stA_ne (by simp)]; exact h3
  have r4 : ∀ G : Nat → Int32, (stA C [15, c, 0] G).1 [7, 6, c, 0] w = oN pu := fun G => by rw [stA_ne (by simp)]; exact h4
  have b6 : ∀ G : Nat → Int32, (stA C [15, c, 0] G).1 [b, 10, c, 0] = C.1 [b, 10, c, 0] := fun G => stA_ne (by simp)
  have b18 : ∀ G : Nat → Int32, (stA C [15, c, 0] G).1 [1, 18, b, 10, c, 0] = C.1 [1, 18, b, 10, c, 0] := fun G => stA_ne (by simp)
  rw [e_32]
  simp (disch := omega) only [↓lt_stA, ↓Option.bind_some, ↓Bool.cond_eq_ite, ↓reduceIte, Bool.false_eq_true, eq_self, n_lit, n_neg, n_add, n_mul, n_sub, n_subM, n_div, n_mod, n_addM, m_div, m_subn, n_tN, n_inS, n_eq_t, n_eq_f, n_ne_t, n_ne_f, n_lt_t, n_lt_f, n_ge_t, n_ge_f, n_gt_t, n_gt_f, n_le_t, n_le_f, mn_eq, mn_ne, mn_lt, mn_ge, mn_gt, mn_le, nm_eq, nm_ne, nm_lt, nm_ge, nm_gt, nm_le, n_gts_t, c_eq_refl, c_ne_refl, w_fold, w_2, wC_fold, lt_M, cond_true, cond_false, Bool.and_true, Bool.true_and, Bool.and_false, Bool.false_and, Bool.not_true, Bool.not_false, isZS_0, isZS_1, stA_w, stA_u, stA_same, r0, r7, b6, b18, h62, r3, r4]
  refine ⟨_, rfl, ?_⟩
  have e1 : now - now / 1440 * 1440 = now % 1440 := by omega
  exact ⟨by rw [← e1]; rfl, by rw [← hb2]; rfl, rfl, rfl, rfl, rfl, rfl, rfl, rfl, rfl, rfl, rfl⟩
theorem fields_b1 {F : Nat → Int32} {he m : Int32} {b i : Nat} {pr pu : Nat} (hn : now ≤ 4320) (hw : w < 24) (hpr : pr ≤ 100000) (hpu : pu ≤ 100000) (h0 : C.1 [c, 0] 0 = oN now) (h3 : C.1 [6, 6, c, 0] w = oN pr) (h4 : C.1 [7, 6, c, 0] w = oN pu) (h7 : C.1 [7, c, 0] (now / 60 % 24) = he) (h62 : ∀ G : Nat → Int32, kI L xs 62 [vr 6 [18, b, 10, c, 0], vi (oN now)] (stA C [15, c, 0] G) = some (oN i, stA C [15, c, 0] G))  (hi : i < 8) (hm : C.1 [1, 18, b, 10, c, 0] i = m) : ∃ F', call L xs 32 [vr 2 [c, 0], vi (oN w), vr 0 [b, 10, c, 0]] (stA C [15, c, 0] F) = some (some (vr 1000012 [15, c, 0]), stA C [15, c, 0] F') ∧
    fEq F' now pr pu (C.1 [b, 10, c, 0] 6) (C.1 [b, 10, c, 0] 8) (oN now - m) (C.1 [b, 10, c, 0] 9) (C.1 [b, 10, c, 0] 10) (C.1 [b, 10, c, 0] 11) he := by
  have r0 : ∀ G : Nat → Int32, (stA C [15, c, 0] G).1 [c, 0] 0 = oN now := fun G => by rw [stA_ne (by simp)]; exact h0
  have hb2 : now / 60 - now / 60 / 24 * 24 = now / 60 % 24 := by omega
  have hb : now / 60 - now / 60 / 24 * 24 < 24 := by omega
  have r7 : ∀ G : Nat → Int32, (stA C [15, c, 0] G).1 [7, c, 0] (now / 60 - now / 60 / 24 * 24) = he := fun G => by rw [stA_ne (by simp), hb2]; exact h7
  have r3 : ∀ G : Nat → Int32, (stA C [15, c, 0] G).1 [6, 6, c, 0] w = oN pr := fun G => by rw [stA_ne (by simp)]; exact h3
  have r4 : ∀ G : Nat → Int32, (stA C [15, c, 0] G).1 [7, 6, c, 0] w = oN pu := fun G => by rw [stA_ne (by simp)]; exact h4
  have b6 : ∀ G : Nat → Int32, (stA C [15, c, 0] G).1 [b, 10, c, 0] = C.1 [b, 10, c, 0] := fun G => stA_ne (by simp)
  have b18 : ∀ G : Nat → Int32, (stA C [15, c, 0] G).1 [1, 18, b, 10, c, 0] = C.1 [1, 18, b, 10, c, 0] := fun G => stA_ne (by simp)
  rw [e_32]
  simp (disch := omega) only [↓lt_stA, ↓Option.bind_some, ↓Bool.cond_eq_ite, ↓reduceIte, Bool.false_eq_true, eq_self, n_lit, n_neg, n_add, n_mul, n_sub, n_subM, n_div, n_mod, n_addM, m_div, m_subn, n_tN, n_inS, n_eq_t, n_eq_f, n_ne_t, n_ne_f, n_lt_t, n_lt_f, n_ge_t, n_ge_f, n_gt_t, n_gt_f, n_le_t, n_le_f, mn_eq, mn_ne, mn_lt, mn_ge, mn_gt, mn_le, nm_eq, nm_ne, nm_lt, nm_ge, nm_gt, nm_le, n_gts_t, c_eq_refl, c_ne_refl, w_fold, w_2, wC_fold, lt_M, cond_true, cond_false, Bool.and_true, Bool.true_and, Bool.and_false, Bool.false_and, Bool.not_true, Bool.not_false, isZS_0, isZS_1, stA_w, stA_u, stA_same, r0, r7, b6, b18, h62, r3, r4, hm]
  refine ⟨_, rfl, ?_⟩
  have e1 : now - now / 1440 * 1440 = now % 1440 := by omega
  exact ⟨by rw [← e1]; rfl, by rw [← hb2]; rfl, rfl, rfl, rfl, rfl, rfl, rfl, rfl, rfl, rfl, rfl⟩
theorem fields_w (hhm : hm ≤ 1000) (hP : rPt [c, 0] (M.1 [1, 1]) C M nc nw nb np nt now td hm kd wa wb wd wl ws) (hw : w < nw) : ∃ F pr pu, call L xs 32 [vr 2 [c, 0], vi (oN w), vn] C = some (some (vr 1000012 [15, c, 0]), stA C [15, c, 0] F) ∧
    fEq F now pr pu (oN 0) (oN 0) (oN 0) (oN 0) (oN 0) (oN 0) (M.1 [1, 1] (150 + now / 60 % 24)) ∧ pr ≤ 40000 ∧ pu ≤ 80000 ∧ M.1 [1, 1] (60 + w) = oN pr ∧ M.1 [1, 1] (90 + w) = oN pu := by
  obtain ⟨g1, g2, g3, g4, g5, g6, g7, g8, g9, g10⟩ := hP
  obtain ⟨cN, cT, cC, cW, cB, cG, cP, S0, S1, S2, S3, S4, S5, b16, b24, b40, b8, b20, b4320⟩ := g1
  obtain ⟨⟨pr, p1, p2, p3⟩, ⟨pu, u1, u2, u3⟩, -⟩ := g4 w hw
  obtain ⟨h1, -⟩ := g5 (now / 60 % 24) (by omega)
  obtain ⟨F', k1, k2⟩ := fields_w0 (L := L) (xs := xs) (C := C) (c := c) (w := w) (now := now) (F := C.1 [15, c, 0]) (pr := pr) (pu := pu) b4320 (by omega) (by omega) (by omega) cN p2 u2 h1
  rw [stA_id] at k1
  exact ⟨F', pr, pu, k1, k2, by omega, by omega, p3, u3⟩
end Text1
