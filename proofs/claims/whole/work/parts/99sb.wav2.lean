section Wave3
variable {L : Nat} {xs : Nat → Int32} {C C' : mM} {w cap c : Nat → Nat} {R G V e : Nat}
def dE (R d : Nat) : Int32 := if d < R then oN d else oM 1
def wm (C : mM) (Rm H K : Nat → Int32) (mo : Nat) : mM := stA (stA (stA (stA C [7, 0] (upd (C.1 [7, 0]) 10 (lQ mo))) [7, 7, 0] Rm) [8, 7, 0] H) [9, 7, 0] K
variable {Rm H K F : Nat → Int32} {mo : Nat}
theorem wm_P : (wm C Rm H K mo).1 [7, 0] = upd (C.1 [7, 0]) 10 (lQ mo) := by unfold wm; rw [stA_ne (by simp), stA_ne (by simp), stA_ne (by simp), stA_same]
theorem wm_7 : (wm C Rm H K mo).1 [7, 7, 0] = Rm := by unfold wm; rw [stA_ne (by simp), stA_ne (by simp), stA_same]
theorem wm_8 : (wm C Rm H K mo).1 [8, 7, 0] = H := by unfold wm; rw [stA_ne (by simp), stA_same]
theorem wm_9 : (wm C Rm H K mo).1 [9, 7, 0] = K := stA_same
theorem wm_q {q : List Nat} (h1 : q ≠ [7, 0]) (h2 : q ≠ [7, 7, 0]) (h3 : q ≠ [8, 7, 0]) (h4 : q ≠ [9, 7, 0]) : (wm C Rm H K mo).1 q = C.1 q := by unfold wm; rw [stA_ne h4, stA_ne h3, stA_ne h2, stA_ne h1]
theorem stA_eq {C : mM} {p : List Nat} {F G : Nat → Int32} (h : F = G) : stA C p F = stA C p G := by rw [h]
theorem stA_com {C : mM} {p q : List Nat} {F G : Nat → Int32} (h : p ≠ q) : stA (stA C p F) q G = stA (stA C q G) p F := by
  have : (stA (stA C p F) q G).1 = (stA (stA C q G) p F).1 := by
    funext z
    by_cases h1 : z = q
    · subst h1; rw [stA_same, stA_ne (Ne.symm h), stA_same]
    · rw [stA_ne h1]
      by_cases h2 : z = p
      · subst h2; rw [stA_same, stA_same]
      · rw [stA_ne h2, stA_ne h2, stA_ne h1]
  exact Prod.ext this rfl
theorem stA_stA {C : mM} {p : List Nat} {F G : Nat → Int32} : stA (stA C p F) p G = stA C p G := by
  have : (stA (stA C p F) p G).1 = (stA C p G).1 := by
    funext z
    by_cases h1 : z = p
    · subst h1; rw [stA_same, stA_same]
    · rw [stA_ne h1, stA_ne h1, stA_ne h1]
  exact Prod.ext this rfl
theorem wm_f9 : (uI (wm C Rm H K mo).1 [9, 7, 0] F, (wm C Rm H K mo).2) = wm C Rm H F mo := stA_stA
theorem wm_f8 : (uI (wm C Rm H K mo).1 [8, 7, 0] F, (wm C Rm H K mo).2) = wm C Rm F K mo := by
  show stA (wm C Rm H K mo) [8, 7, 0] F = _
  unfold wm
  rw [stA_com (by simp), stA_stA]
theorem wm_f7 : (uI (wm C Rm H K mo).1 [7, 7, 0] F, (wm C Rm H K mo).2) = wm C F H K mo := by
  show stA (wm C Rm H K mo) [7, 7, 0] F = _
  unfold wm
  rw [stA_com (p := [9, 7, 0]) (q := [7, 7, 0]) (by simp), stA_com (p := [8, 7, 0]) (q := [7, 7, 0]) (by simp), stA_stA]
theorem wm_fP {g : Nat} : (uI (wm C Rm H K mo).1 [7, 0] (upd (upd (C.1 [7, 0]) 10 (lQ mo)) 10 (oN g)), (wm C Rm H K mo).2) = wm C Rm H K (g + 1) := by
  show stA (wm C Rm H K mo) [7, 0] _ = _
  unfold wm
  rw [stA_com (p := [9, 7, 0]) (q := [7, 0]) (by simp), stA_com (p := [8, 7, 0]) (q := [7, 0]) (by simp), stA_com (p := [7, 7, 0]) (q := [7, 0]) (by simp), stA_stA]
  refine congrArg (fun z => stA (stA (stA (stA C [7, 0] z) [7, 7, 0] Rm) [8, 7, 0] H) [9, 7, 0] K) ?_
  funext z
  by_cases h : z = 10
  · subst h; rw [upd_eq, upd_eq]; rfl
  · rw [upd_ne h, upd_ne h, upd_ne h]
theorem wm_w9 {i : Nat} {v : Int32} : wI (wm C Rm H K mo) [9, 7, 0] i v = wm C Rm H (upd K i v) mo := by
  unfold wI; rw [wm_9, wm_f9]
theorem wm_w8 {i : Nat} {v : Int32} : wI (wm C Rm H K mo) [8, 7, 0] i v = wm C Rm (upd H i v) K mo := by
  unfold wI; rw [wm_8, wm_f8]
theorem wm_w7 {i : Nat} {v : Int32} : wI (wm C Rm H K mo) [7, 7, 0] i v = wm C (upd Rm i v) H K mo := by
  unfold wI; rw [wm_7, wm_f7]
theorem wm_wP {g : Nat} : wI (wm C Rm H K mo) [7, 0] 10 (oN g) = wm C Rm H K (g + 1) := by
  unfold wI; rw [wm_P, wm_fP]
def wC7 (C : mM) (w cap : Nat → Nat) (G V e R : Nat) : Prop := G ≤ 6 ∧ V ≤ 3 ∧ 1 ≤ e ∧ e ≤ 2 ∧ V * e = R ∧ C.1 [7, 0] 0 = oN G ∧ C.1 [7, 0] 4 = oN V ∧ C.1 [7, 0] 6 = oN e ∧ (∀ i, i < G → w i ≤ 1000 ∧ C.1 [2, 7, 0] i = oN (w i)) ∧ (∀ i, i ≤ G → C.1 [3, 7, 0] i = oN (hp w G - hp w i)) ∧ (∀ r, r < R → cap r ≤ 300)
def wS (G R : Nat) (K : Nat → Int32) (mo : Nat) (kp : Nat → Nat) : Prop := 0 < mo → ∀ l, l < G → K l = dE R (kp l)
theorem rk_e {q : List Nat} {d v : Int32} : rkM 64 [vr 7 q, vi d, vi v] = rkM 64 [vr 7 [], vi d, vi (oN 0)] := rfl
theorem rk_d : ∀ i, i < 7 → Nat.blt 25 (rkM 64 [vr 7 [], vi (oN i), vi (oN 0)]) = true ∧ (i < 6 → Nat.blt (rkM 64 [vr 7 [], vi (oN (i + 1)), vi (oN 0)]) (rkM 64 [vr 7 [], vi (oN i), vi (oN 0)]) = true) ∧ Nat.blt (rkM 64 [vr 7 [], vi (oN 0), vi (oN 0)]) 35 = true := by decide +kernel
theorem rk_64 {i : Nat} (hi : i < 7) (v v' : Int32) {q : List Nat} : Nat.blt 25 (rkM 64 [vr 7 q, vi (oN i), vi v]) = true ∧ (i < 6 → Nat.blt (rkM 64 [vr 7 q, vi (oN (i + 1)), vi v']) (rkM 64 [vr 7 q, vi (oN i), vi v]) = true) := by
  rw [rk_e, rk_e]
  exact ⟨(rk_d i hi).1, (rk_d i hi).2.1⟩
theorem c_le_lQ {a q : Nat} (ha : a < 100000) (hq : q < 100000) : cmpS .le (oN a) (lQ q) = decide (a < q) := by
  unfold lQ
  by_cases h0 : q = 0
  · subst h0; simp (disch := omega) only [if_pos, ↓Bool.cond_eq_ite, ↓reduceIte, Bool.false_eq_true, eq_self, n_lit, n_neg, n_add, n_mul, n_sub, n_subM, n_div, n_mod, n_addM, m_div, m_subn, n_tN, n_inS, n_eq_t, n_eq_f, n_ne_t, n_ne_f, n_lt_t, n_lt_f, n_ge_t, n_ge_f, n_gt_t, n_gt_f, n_le_t, n_le_f, mn_eq, mn_ne, mn_lt, mn_ge, mn_gt, mn_le, nm_eq, nm_ne, nm_lt, nm_ge, nm_gt, nm_le, n_gts_t, c_eq_refl, c_ne_refl, w_fold, w_2, wC_fold, lt_M, cond_true, cond_false, Bool.and_true, Bool.true_and, Bool.and_false, Bool.false_and, Bool.not_true, Bool.not_false, isZS_0, isZS_1]; simp
  · rw [if_neg h0]
    by_cases h : a < q
    · simp (disch := omega) only [↓Bool.cond_eq_ite, ↓reduceIte, Bool.false_eq_true, eq_self, n_lit, n_neg, n_add, n_mul, n_sub, n_subM, n_div, n_mod, n_addM, m_div, m_subn, n_tN, n_inS, n_eq_t, n_eq_f, n_ne_t, n_ne_f, n_lt_t, n_lt_f, n_ge_t, n_ge_f, n_gt_t, n_gt_f, n_le_t, n_le_f, mn_eq, mn_ne, mn_lt, mn_ge, mn_gt, mn_le, nm_eq, nm_ne, nm_lt, nm_ge, nm_gt, nm_le, n_gts_t, c_eq_refl, c_ne_refl, w_fold, w_2, wC_fold, lt_M, cond_true, cond_false, Bool.and_true, Bool.true_and, Bool.and_false, Bool.false_and, Bool.not_true, Bool.not_false, isZS_0, isZS_1]; exact (decide_eq_true h).symm
    · simp (disch := omega) only [↓Bool.cond_eq_ite, ↓reduceIte, Bool.false_eq_true, eq_self, n_lit, n_neg, n_add, n_mul, n_sub, n_subM, n_div, n_mod, n_addM, m_div, m_subn, n_tN, n_inS, n_eq_t, n_eq_f, n_ne_t, n_ne_f, n_lt_t, n_lt_f, n_ge_t, n_ge_f, n_gt_t, n_gt_f, n_le_t, n_le_f, mn_eq, mn_ne, mn_lt, mn_ge, mn_gt, mn_le, nm_eq, nm_ne, nm_lt, nm_ge, nm_gt, nm_le, n_gts_t, c_eq_refl, c_ne_refl, w_fold, w_2, wC_fold, lt_M, cond_true, cond_false, Bool.and_true, Bool.true_and, Bool.and_false, Bool.false_and, Bool.not_true, Bool.not_false, isZS_0, isZS_1]; exact (decide_eq_false h).symm
theorem c_gt_lQ {a q : Nat} (ha : a < 100000) (hq : q < 100000) : cmpS .gt (oN a) (lQ q) = decide (q ≤ a) := by
  unfold lQ
  by_cases h0 : q = 0
  · subst h0; simp (disch := omega) only [if_pos, ↓Bool.cond_eq_ite, ↓reduceIte, Bool.false_eq_true, eq_self, n_lit, n_neg, n_add, n_mul, n_sub, n_subM, n_div, n_mod, n_addM, m_div, m_subn, n_tN, n_inS, n_eq_t, n_eq_f, n_ne_t, n_ne_f, n_lt_t, n_lt_f, n_ge_t, n_ge_f, n_gt_t, n_gt_f, n_le_t, n_le_f, mn_eq, mn_ne, mn_lt, mn_ge, mn_gt, mn_le, nm_eq, nm_ne, nm_lt, nm_ge, nm_gt, nm_le, n_gts_t, c_eq_refl, c_ne_refl, w_fold, w_2, wC_fold, lt_M, cond_true, cond_false, Bool.and_true, Bool.true_and, Bool.and_false, Bool.false_and, Bool.not_true, Bool.not_false, isZS_0, isZS_1]; simp
  · rw [if_neg h0]
    by_cases h : q ≤ a
    · simp (disch := omega) only [↓Bool.cond_eq_ite, ↓reduceIte, Bool.false_eq_true, eq_self, n_lit, n_neg, n_add, n_mul, n_sub, n_subM, n_div, n_mod, n_addM, m_div, m_subn, n_tN, n_inS, n_eq_t, n_eq_f, n_ne_t, n_ne_f, n_lt_t, n_lt_f, n_ge_t, n_ge_f, n_gt_t, n_gt_f, n_le_t, n_le_f, mn_eq, mn_ne, mn_lt, mn_ge, mn_gt, mn_le, nm_eq, nm_ne, nm_lt, nm_ge, nm_gt, nm_le, n_gts_t, c_eq_refl, c_ne_refl, w_fold, w_2, wC_fold, lt_M, cond_true, cond_false, Bool.and_true, Bool.true_and, Bool.and_false, Bool.false_and, Bool.not_true, Bool.not_false, isZS_0, isZS_1]; exact (decide_eq_true h).symm
    · simp (disch := omega) only [↓Bool.cond_eq_ite, ↓reduceIte, Bool.false_eq_true, eq_self, n_lit, n_neg, n_add, n_mul, n_sub, n_subM, n_div, n_mod, n_addM, m_div, m_subn, n_tN, n_inS, n_eq_t, n_eq_f, n_ne_t, n_ne_f, n_lt_t, n_lt_f, n_ge_t, n_ge_f, n_gt_t, n_gt_f, n_le_t, n_le_f, mn_eq, mn_ne, mn_lt, mn_ge, mn_gt, mn_le, nm_eq, nm_ne, nm_lt, nm_ge, nm_gt, nm_le, n_gts_t, c_eq_refl, c_ne_refl, w_fold, w_2, wC_fold, lt_M, cond_true, cond_false, Bool.and_true, Bool.true_and, Bool.and_false, Bool.false_and, Bool.not_true, Bool.not_false, isZS_0, isZS_1]; exact (decide_eq_false h).symm
theorem s_66 {m : mM} {ρ : Nat → Nat} {s : Nat} (hs : s < 6) (hr : ∀ r, r ≤ s → ρ r ≤ 1000 ∧ m.1 [7, 7, 0] r = oN (ρ r)) : (∃ a, a < s ∧ ρ a = ρ s ∧ kI L xs 66 [vr 7 [7, 0], vi (oN s)] m = some (oN 1, m)) ∨ ((∀ a, a < s → ρ a ≠ ρ s) ∧ kI L xs 66 [vr 7 [7, 0], vi (oN s)] m = some (oN 0, m)) := by
  have key : ∀ n a, a + n = s → (∃ b, b < s ∧ ρ b = ρ s ∧ run L xs 66 25 (2, [some (vr 7 [7, 0]), some (vi (oN s)), some (vi (oN a))], [], m) = some (some (vi (oN 1)), m)) ∨ ((∀ b, a ≤ b → b < s → ρ b ≠ ρ s) ∧ run L xs 66 25 (2, [some (vr 7 [7, 0]), some (vi (oN s)), some (vi (oN a))], [], m) = some (some (vi (oN 0)), m)) := by
    intro n
    induction n with
    | zero =>
      intro a ha
      have : a = s := by omega
      subst this
      refine .inr ⟨fun b h1 h2 => by omega, ?_⟩
      rw [h_66_2]
      simp (disch := omega) only [↓Bool.cond_eq_ite, ↓reduceIte, Bool.false_eq_true, eq_self, n_lit, n_neg, n_add, n_mul, n_sub, n_subM, n_div, n_mod, n_addM, m_div, m_subn, n_tN, n_inS, n_eq_t, n_eq_f, n_ne_t, n_ne_f, n_lt_t, n_lt_f, n_ge_t, n_ge_f, n_gt_t, n_gt_f, n_le_t, n_le_f, mn_eq, mn_ne, mn_lt, mn_ge, mn_gt, mn_le, nm_eq, nm_ne, nm_lt, nm_ge, nm_gt, nm_le, n_gts_t, c_eq_refl, c_ne_refl, w_fold, w_2, wC_fold, lt_M, cond_true, cond_false, Bool.and_true, Bool.true_and, Bool.and_false, Bool.false_and, Bool.not_true, Bool.not_false, isZS_0, isZS_1]
    | succ n ih =>
      intro a ha
      obtain ⟨b1, r1⟩ := hr a (by omega)
      obtain ⟨b2, r2⟩ := hr s (by omega)
      by_cases q : ρ a = ρ s
      · refine .inl ⟨a, by omega, q, ?_⟩
        rw [q] at r1
        rw [h_66_2]
        simp (disch := omega) only [↓Bool.cond_eq_ite, ↓reduceIte, Bool.false_eq_true, eq_self, n_lit, n_neg, n_add, n_mul, n_sub, n_subM, n_div, n_mod, n_addM, m_div, m_subn, n_tN, n_inS, n_eq_t, n_eq_f, n_ne_t, n_ne_f, n_lt_t, n_lt_f, n_ge_t, n_ge_f, n_gt_t, n_gt_f, n_le_t, n_le_f, mn_eq, mn_ne, mn_lt, mn_ge, mn_gt, mn_le, nm_eq, nm_ne, nm_lt, nm_ge, nm_gt, nm_le, n_gts_t, c_eq_refl, c_ne_refl, w_fold, w_2, wC_fold, lt_M, cond_true, cond_false, Bool.and_true, Bool.true_and, Bool.and_false, Bool.false_and, Bool.not_true, Bool.not_false, isZS_0, isZS_1, r1, r2, c_ne_refl]
      · have q' := q
        rw [h_66_2]
        simp (disch := omega) only [↓Bool.cond_eq_ite, ↓reduceIte, Bool.false_eq_true, eq_self, n_lit, n_neg, n_add, n_mul, n_sub, n_subM, n_div, n_mod, n_addM, m_div, m_subn, n_tN, n_inS, n_eq_t, n_eq_f, n_ne_t, n_ne_f, n_lt_t, n_lt_f, n_ge_t, n_ge_f, n_gt_t, n_gt_f, n_le_t, n_le_f, mn_eq, mn_ne, mn_lt, mn_ge, mn_gt, mn_le, nm_eq, nm_ne, nm_lt, nm_ge, nm_gt, nm_le, n_gts_t, c_eq_refl, c_ne_refl, w_fold, w_2, wC_fold, lt_M, cond_true, cond_false, Bool.and_true, Bool.true_and, Bool.and_false, Bool.false_and, Bool.not_true, Bool.not_false, isZS_0, isZS_1, r1, r2]
        rcases ih (a + 1) (by omega) with h | ⟨h1, h2⟩
        · exact .inl h
        · refine .inr ⟨fun b x y => ?_, h2⟩
          by_cases z : b = a
          · subst z; exact q'
          · exact h1 b (by omega) y
  rcases key s 0 (by omega) with ⟨a, a1, a2, a3⟩ | ⟨a1, a2⟩
  · exact .inl ⟨a, a1, a2, kI_of (by rw [e_66]; exact a3)⟩
  · exact .inr ⟨fun a h => a1 a (Nat.zero_le _) h, kI_of (by rw [e_66]; exact a2)⟩
end Wave3
