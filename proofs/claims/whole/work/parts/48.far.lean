section Far
variable {L : Nat} {xs : Nat → Int32} {M : mM} {nc nw e : Nat} {wa wb wl ws : Nat → Nat}
def mWy (M : mM) (nc nw : Nat) (wa wb wl ws : Nat → Nat) : Prop := M.1 [1, 1] 1 = oN nw ∧ nc ≤ 16 ∧ nw ≤ 24 ∧ ∀ w, w < nw → wa w < nc ∧ wb w < nc ∧ wa w ≠ wb w ∧ 1 ≤ wl w ∧ wl w ≤ 30 ∧ ws w ≤ 3 ∧ M.1 [7, 1] w = oN (wa w) ∧ M.1 [8, 1] w = oN (wb w) ∧ M.1 [10, 1] w = oN (wl w) ∧ M.1 [1, 1] (30 + w) = oN (ws w)
theorem mWy_st {F : Nat → Int32} (h : mWy M nc nw wa wb wl ws) : mWy (stA M [27, 1] F) nc nw wa wb wl ws := by
  unfold mWy at h ⊢
  rw [stA_ne (by simp), stA_ne (z := [7, 1]) (by simp), stA_ne (z := [8, 1]) (by simp), stA_ne (z := [10, 1]) (by simp)]
  exact h
set_option maxRecDepth 8000 in
set_option maxHeartbeats 4000000 in
theorem s_199 (hW : mWy M nc nw wa wb wl ws) {w x : Nat} (hw : w < nw) (hx : x < 16) : kI L xs 199 [vr 10 [1], vi (oN w), vi (oN x)] M = some (oN (if (wa w = x ∧ (ws w = 0 ∨ ws w = 1)) ∨ (wb w = x ∧ (ws w = 0 ∨ ws w = 2)) then 1 else 0), M) := by
  obtain ⟨c0, h16, h24, hw0⟩ := hW
  obtain ⟨a1, a2, a3, a4, a5, a6, a7, a8, a9, a10⟩ := hw0 w hw
  refine kI_of ?_
  rw [e_199]
  have : ws w = 0 ∨ ws w = 1 ∨ ws w = 2 ∨ ws w = 3 := by omega
  by_cases qa : wa w = x
  · have qb : wb w ≠ x := by omega
    rcases this with z | z | z | z <;> rw [z] at a10 ⊢
    · rw [if_pos (by omega)]; simp (disch := omega) only [↓Bool.cond_eq_ite, ↓reduceIte, Bool.false_eq_true, eq_self, n_lit, n_neg, n_add, n_mul, n_sub, n_subM, n_div, n_mod, n_addM, m_div, m_subn, n_tN, n_inS, n_eq_t, n_eq_f, n_ne_t, n_ne_f, n_lt_t, n_lt_f, n_ge_t, n_ge_f, n_gt_t, n_gt_f, n_le_t, n_le_f, mn_eq, mn_ne, mn_lt, mn_ge, mn_gt, mn_le, nm_eq, nm_ne, nm_lt, nm_ge, nm_gt, nm_le, n_gts_t, c_eq_refl, c_ne_refl, w_fold, w_2, wC_fold, lt_M, cond_true, cond_false, Bool.and_true, Bool.true_and, Bool.and_false, Bool.false_and, Bool.not_true, Bool.not_false, isZS_0, isZS_1, a7, a8, a10]
    · rw [if_pos (by omega)]; simp (disch := omega) only [↓Bool.cond_eq_ite, ↓reduceIte, Bool.false_eq_true, eq_self, n_lit, n_neg, n_add, n_mul, n_sub, n_subM, n_div, n_mod, n_addM, m_div, m_subn, n_tN, n_inS, n_eq_t, n_eq_f, n_ne_t, n_ne_f, n_lt_t, n_lt_f, n_ge_t, n_ge_f, n_gt_t, n_gt_f, n_le_t, n_le_f, mn_eq, mn_ne, mn_lt, mn_ge, mn_gt, mn_le, nm_eq, nm_ne, nm_lt, nm_ge, nm_gt, nm_le, n_gts_t, c_eq_refl, c_ne_refl, w_fold, w_2, wC_fold, lt_M, cond_true, cond_false, Bool.and_true, Bool.true_and, Bool.and_false, Bool.false_and, Bool.not_true, Bool.not_false, isZS_0, isZS_1, a7, a8, a10]
    · rw [if_neg (by omega)]; simp (disch := omega) only [↓Bool.cond_eq_ite, ↓reduceIte, Bool.false_eq_true, eq_self, n_lit, n_neg, n_add, n_mul, n_sub, n_subM, n_div, n_mod, n_addM, m_div, m_subn, n_tN, n_inS, n_eq_t, n_eq_f, n_ne_t, n_ne_f, n_lt_t, n_lt_f, n_ge_t, n_ge_f, n_gt_t, n_gt_f, n_le_t, n_le_f, mn_eq, mn_ne, mn_lt, mn_ge, mn_gt, mn_le, nm_eq, nm_ne, nm_lt, nm_ge, nm_gt, nm_le, n_gts_t, c_eq_refl, c_ne_refl, w_fold, w_2, wC_fold, lt_M, cond_true, cond_false, Bool.and_true, Bool.true_and, Bool.and_false, Bool.false_and, Bool.not_true, Bool.not_false, isZS_0, isZS_1, a7, a8, a10]
    · rw [if_neg (by omega)]; simp (disch := omega) only [↓Bool.cond_eq_ite, ↓reduceIte, Bool.false_eq_true, eq_self, n_lit, n_neg, n_add, n_mul, n_sub, n_subM, n_div, n_mod, n_addM, m_div, m_subn, n_tN, n_inS, n_eq_t, n_eq_f, n_ne_t, n_ne_f, n_lt_t, n_lt_f, n_ge_t, n_ge_f, n_gt_t, n_gt_f, n_le_t, n_le_f, mn_eq, mn_ne, mn_lt, mn_ge, mn_gt, mn_le, nm_eq, nm_ne, nm_lt, nm_ge, nm_gt, nm_le, n_gts_t, c_eq_refl, c_ne_refl, w_fold, w_2, wC_fold, lt_M, cond_true, cond_false, Bool.and_true, Bool.true_and, Bool.and_false, Bool.false_and, Bool.not_true, Bool.not_false, isZS_0, isZS_1, a7, a8, a10]
  · by_cases qb : wb w = x
    · rcases this with z | z | z | z <;> rw [z] at a10 ⊢
      · rw [if_pos (by omega)]; simp (disch := omega) only [↓Bool.cond_eq_ite, ↓reduceIte, Bool.false_eq_true, eq_self, n_lit, n_neg, n_add, n_mul, n_sub, n_subM, n_div, n_mod, n_addM, m_div, m_subn, n_tN, n_inS, n_eq_t, n_eq_f, n_ne_t, n_ne_f, n_lt_t, n_lt_f, n_ge_t, n_ge_f, n_gt_t, n_gt_f, n_le_t, n_le_f, mn_eq, mn_ne, mn_lt, mn_ge, mn_gt, mn_le, nm_eq, nm_ne, nm_lt, nm_ge, nm_gt, nm_le, n_gts_t, c_eq_refl, c_ne_refl, w_fold, w_2, wC_fold, lt_M, cond_true, cond_false, Bool.and_true, Bool.true_and, Bool.and_false, Bool.false_and, Bool.not_true, Bool.not_false, isZS_0, isZS_1, a7, a8, a10]
      · rw [if_neg (by omega)]; simp (disch := omega) only [↓Bool.cond_eq_ite, ↓reduceIte, Bool.false_eq_true, eq_self, n_lit, n_neg, n_add, n_mul, n_sub, n_subM, n_div, n_mod, n_addM, m_div, m_subn, n_tN, n_inS, n_eq_t, n_eq_f, n_ne_t, n_ne_f, n_lt_t, n_lt_f, n_ge_t, n_ge_f, n_gt_t, n_gt_f, n_le_t, n_le_f, mn_eq, mn_ne, mn_lt, mn_ge, mn_gt, mn_le, nm_eq, nm_ne, nm_lt, nm_ge, nm_gt, nm_le, n_gts_t, c_eq_refl, c_ne_refl, w_fold, w_2, wC_fold, lt_M, cond_true, cond_false, Bool.and_true, Bool.true_and, Bool.and_false, Bool.false_and, Bool.not_true, Bool.not_false, isZS_0, isZS_1, a7, a8, a10]
      · rw [if_pos (by omega)]; simp (disch := omega) only [↓Bool.cond_eq_ite, ↓reduceIte, Bool.false_eq_true, eq_self, n_lit, n_neg, n_add, n_mul, n_sub, n_subM, n_div, n_mod, n_addM, m_div, m_subn, n_tN, n_inS, n_eq_t, n_eq_f, n_ne_t, n_ne_f, n_lt_t, n_lt_f, n_ge_t, n_ge_f, n_gt_t, n_gt_f, n_le_t, n_le_f, mn_eq, mn_ne, mn_lt, mn_ge, mn_gt, mn_le, nm_eq, nm_ne, nm_lt, nm_ge, nm_gt, nm_le, n_gts_t, c_eq_refl, c_ne_refl, w_fold, w_2, wC_fold, lt_M, cond_true, cond_false, Bool.and_true, Bool.true_and, Bool.and_false, Bool.false_and, Bool.not_true, Bool.not_false, isZS_0, isZS_1, a7, a8, a10]
      · rw [if_neg (by omega)]; simp (disch := omega) only [↓Bool.cond_eq_ite, ↓reduceIte, Bool.false_eq_true, eq_self, n_lit, n_neg, n_add, n_mul, n_sub, n_subM, n_div, n_mod, n_addM, m_div, m_subn, n_tN, n_inS, n_eq_t, n_eq_f, n_ne_t, n_ne_f, n_lt_t, n_lt_f, n_ge_t, n_ge_f, n_gt_t, n_gt_f, n_le_t, n_le_f, mn_eq, mn_ne, mn_lt, mn_ge, mn_gt, mn_le, nm_eq, nm_ne, nm_lt, nm_ge, nm_gt, nm_le, n_gts_t, c_eq_refl, c_ne_refl, w_fold, w_2, wC_fold, lt_M, cond_true, cond_false, Bool.and_true, Bool.true_and, Bool.and_false, Bool.false_and, Bool.not_true, Bool.not_false, isZS_0, isZS_1, a7, a8, a10]
    · rw [if_neg (by omega)]
      rcases this with z | z | z | z <;> rw [z] at a10 <;> simp (disch := omega) only [↓Bool.cond_eq_ite, ↓reduceIte, Bool.false_eq_true, eq_self, n_lit, n_neg, n_add, n_mul, n_sub, n_subM, n_div, n_mod, n_addM, m_div, m_subn, n_tN, n_inS, n_eq_t, n_eq_f, n_ne_t, n_ne_f, n_lt_t, n_lt_f, n_ge_t, n_ge_f, n_gt_t, n_gt_f, n_le_t, n_le_f, mn_eq, mn_ne, mn_lt, mn_ge, mn_gt, mn_le, nm_eq, nm_ne, nm_lt, nm_ge, nm_gt, nm_le, n_gts_t, c_eq_refl, c_ne_refl, w_fold, w_2, wC_fold, lt_M, cond_true, cond_false, Bool.and_true, Bool.true_and, Bool.and_false, Bool.false_and, Bool.not_true, Bool.not_false, isZS_0, isZS_1, a7, a8, a10]
def fF (F : Nat → Int32) (t : Nat → Nat) : Prop := ∀ j, j < 16 → F j = oN (t j)
def tS (nw : Nat) (wa wb wl ws : Nat → Nat) (e : Nat) (t : Nat → Nat) : Prop := t e = 0 ∧ ∀ u, u < 16 → t u ≤ 1000000 ∧ (t u < 1000000 → ∃ k, wW nw wa wb wl ws k u e (t u))
theorem fF_upd {F : Nat → Int32} {t : Nat → Nat} {a v : Nat} (h : fF F t) : fF (upd F a (oN v)) (updN t a v) := fun j hj => by
  rw [upd_at]
  unfold updN
  split
  · rfl
  · exact h j hj
theorem tS_upd {t : Nat → Nat} {a x c : Nat} (h : tS nw wa wb wl ws e t) (hE : wE nw wa wb wl ws a x c) (hx : x < 16) (ha : a < 16) (hlt : t x + c < t a) : tS nw wa wb wl ws e (updN t a (t x + c)) := by
  obtain ⟨h0, h1⟩ := h
  have hne : a ≠ e := fun z => by rw [z, h0] at hlt; omega
  refine ⟨by rw [updN_ne (Ne.symm hne)]; exact h0, fun u hu => ?_⟩
  have hb := (h1 a ha).1
  by_cases z : u = a
  · subst z
    rw [updN_same]
    obtain ⟨k, hk⟩ := (h1 x hx).2 (by omega)
    exact ⟨by omega, fun _ => ⟨k + 1, x, c, t x, hE, hk, by omega⟩⟩
  · rw [updN_ne z]; exact h1 u hu
def sm (t : Nat → Nat) : Nat → Nat
  | 0 => 0
  | n + 1 => sm t n + t n
theorem sm_congr {t t' : Nat → Nat} : ∀ {n : Nat}, (∀ j, j < n → t' j = t j) → sm t' n = sm t n
  | 0, _ => rfl
  | n + 1, h => by
    show sm t' n + t' n = sm t n + t n
    rw [sm_congr (fun j hj => h j (by omega)), h n (by omega)]
theorem sm_upd {t : Nat → Nat} {a v : Nat} (hv : v < t a) : ∀ {n : Nat}, a < n → sm (updN t a v) n < sm t n
  | 0, h => by omega
  | n + 1, h => by
    show sm (updN t a v) n + updN t a v n < sm t n + t n
    by_cases z : a = n
    · subst z
      rw [updN_same, show sm (updN t a v) a = sm t a from sm_congr (fun j hj => updN_ne (by omega))]
      omega
    · rw [updN_ne (Ne.symm z)]
      have := sm_upd hv (n := n) (by omega)
      omega
def mvd (t t' : Nat → Nat) (mo mo' : Nat) : Prop := (mo' = mo ∧ t' = t) ∨ (mo' = 1 ∧ sm t' 16 < sm t 16)
set_option maxRecDepth 8000 in
set_option maxHeartbeats 4000000 in
theorem f_side0 (hW : mWy M nc nw wa wb wl ws) {w mo : Nat} (hw : w < nw) {F : Nat → Int32} {t : Nat → Nat} (hF : fF F t) (hT : tS nw wa wb wl ws e t) : ∃ F' t' mo', run L xs 167 26 (54, [some (vr 10 [1]), none, some (vi (oN mo)), some (vi (oN w)), some (vi (oN 0)), none, none], [], stA M [27, 1] F) = run L xs 167 26 (54, [some (vr 10 [1]), none, some (vi (oN mo')), some (vi (oN w)), some (vi (oN 1)), none, none], [], stA M [27, 1] F') ∧ fF F' t' ∧ tS nw wa wb wl ws e t' ∧ (mo' = mo ∨ mo' = 1) ∧
    ((mo' = mo ∧ t' = t ∧ ((ws w = 0 ∨ ws w = 1) → t (wa w) ≤ t (wb w) + wl w)) ∨ (mo' = 1 ∧ sm t' 16 < sm t 16)) := by
  have hW' := mWy_st (F := F) hW
  obtain ⟨c0, h16, h24, hw0⟩ := hW'
  obtain ⟨a1, a2, a3, a4, a5, a6, a7, a8, a9, a10⟩ := hw0 w hw
  have hl := s_199 (L := L) (xs := xs) (mWy_st (F := F) hW) hw (show wa w < 16 by omega)
  have ra := hF (wa w) (by omega)
  have rb := hF (wb w) (by omega)
  have ba := (hT.2 (wa w) (by omega)).1
  have bb := (hT.2 (wb w) (by omega)).1
  by_cases q1 : ws w = 0 ∨ ws w = 1
  · rw [if_pos (.inl ⟨rfl, q1⟩)] at hl
    by_cases q2 : t (wa w) ≤ t (wb w) + wl w
    · refine ⟨F, t, mo, ?_, hF, hT, .inl rfl, .inl ⟨rfl, rfl, fun _ => q2⟩⟩
      rw [h_167_54]
      simp (disch := omega) only [↓Bool.cond_eq_ite, ↓reduceIte, Bool.false_eq_true, eq_self, n_lit, n_neg, n_add, n_mul, n_sub, n_subM, n_div, n_mod, n_addM, m_div, m_subn, n_tN, n_inS, n_eq_t, n_eq_f, n_ne_t, n_ne_f, n_lt_t, n_lt_f, n_ge_t, n_ge_f, n_gt_t, n_gt_f, n_le_t, n_le_f, mn_eq, mn_ne, mn_lt, mn_ge, mn_gt, mn_le, nm_eq, nm_ne, nm_lt, nm_ge, nm_gt, nm_le, n_gts_t, c_eq_refl, c_ne_refl, w_fold, w_2, wC_fold, lt_M, cond_true, cond_false, Bool.and_true, Bool.true_and, Bool.and_false, Bool.false_and, Bool.not_true, Bool.not_false, isZS_0, isZS_1, a7, a8, a9, hl, Option.bind_some, stA_same, ra, rb, h_167_136, Nat.zero_add]
    · refine ⟨upd F (wa w) (oN (t (wb w) + wl w)), _, 1, ?_, fF_upd hF, tS_upd hT ⟨w, hw, rfl, .inl ⟨rfl, rfl, q1⟩⟩ (by omega) (by omega) (by omega), .inr rfl, .inr ⟨rfl, sm_upd (by omega) (by omega)⟩⟩
      rw [h_167_54]
      simp (disch := omega) only [↓Bool.cond_eq_ite, ↓reduceIte, Bool.false_eq_true, eq_self, n_lit, n_neg, n_add, n_mul, n_sub, n_subM, n_div, n_mod, n_addM, m_div, m_subn, n_tN, n_inS, n_eq_t, n_eq_f, n_ne_t, n_ne_f, n_lt_t, n_lt_f, n_ge_t, n_ge_f, n_gt_t, n_gt_f, n_le_t, n_le_f, mn_eq, mn_ne, mn_lt, mn_ge, mn_gt, mn_le, nm_eq, nm_ne, nm_lt, nm_ge, nm_gt, nm_le, n_gts_t, c_eq_refl, c_ne_refl, w_fold, w_2, wC_fold, lt_M, cond_true, cond_false, Bool.and_true, Bool.true_and, Bool.and_false, Bool.false_and, Bool.not_true, Bool.not_false, isZS_0, isZS_1, a7, a8, a9, hl, Option.bind_some, stA_same, stA_w, stA_u, ra, rb, h_167_136, Nat.zero_add]
  · rw [if_neg (by omega)] at hl
    refine ⟨F, t, mo, ?_, hF, hT, .inl rfl, .inl ⟨rfl, rfl, fun y => absurd y q1⟩⟩
    rw [h_167_54]
    simp (disch := omega) only [↓Bool.cond_eq_ite, ↓reduceIte, Bool.false_eq_true, eq_self, n_lit, n_neg, n_add, n_mul, n_sub, n_subM, n_div, n_mod, n_addM, m_div, m_subn, n_tN, n_inS, n_eq_t, n_eq_f, n_ne_t, n_ne_f, n_lt_t, n_lt_f, n_ge_t, n_ge_f, n_gt_t, n_gt_f, n_le_t, n_le_f, mn_eq, mn_ne, mn_lt, mn_ge, mn_gt, mn_le, nm_eq, nm_ne, nm_lt, nm_ge, nm_gt, nm_le, n_gts_t, c_eq_refl, c_ne_refl, w_fold, w_2, wC_fold, lt_M, cond_true, cond_false, Bool.and_true, Bool.true_and, Bool.and_false, Bool.false_and, Bool.not_true, Bool.not_false, isZS_0, isZS_1, a7, a8, a9, hl, Option.bind_some, stA_same, ra, rb, h_167_136, Nat.zero_add]
set_option maxRecDepth 8000 in
set_option maxHeartbeats 4000000 in
theorem f_side1 (hW : mWy M nc nw wa wb wl ws) {w mo : Nat} (hw : w < nw) {F : Nat → Int32} {t : Nat → Nat} (hF : fF F t) (hT : tS nw wa wb wl ws e t) : ∃ F' t' mo', run L xs 167 26 (54, [some (vr 10 [1]), none, some (vi (oN mo)), some (vi (oN w)), some (vi (oN 1)), none, none], [], stA M [27, 1] F) = run L xs 167 26 (41, [some (vr 10 [1]), none, some (vi (oN mo')), some (vi (oN (w + 1))), none, none, none], [], stA M [27, 1] F') ∧ fF F' t' ∧ tS nw wa wb wl ws e t' ∧ (mo' = mo ∨ mo' = 1) ∧
    ((mo' = mo ∧ t' = t ∧ ((ws w = 0 ∨ ws w = 2) → t (wb w) ≤ t (wa w) + wl w)) ∨ (mo' = 1 ∧ sm t' 16 < sm t 16)) := by
  have hW' := mWy_st (F := F) hW
  obtain ⟨c0, h16, h24, hw0⟩ := hW'
  obtain ⟨a1, a2, a3, a4, a5, a6, a7, a8, a9, a10⟩ := hw0 w hw
  have hl := s_199 (L := L) (xs := xs) (mWy_st (F := F) hW) hw (show wb w < 16 by omega)
  have ra := hF (wa w) (by omega)
  have rb := hF (wb w) (by omega)
  have ba := (hT.2 (wa w) (by omega)).1
  have bb := (hT.2 (wb w) (by omega)).1
  have ex : ∀ mo G, run L xs 167 26 (54, [some (vr 10 [1]), none, some (vi (oN mo)), some (vi (oN w)), some (vi (oN (1 + 1))), none, none], [], G) = run L xs 167 26 (41, [some (vr 10 [1]), none, some (vi (oN mo)), some (vi (oN (w + 1))), none, none, none], [], G) := fun mo G => by
    rw [h_167_54]
    simp (disch := omega) only [↓Bool.cond_eq_ite, ↓reduceIte, Bool.false_eq_true, eq_self, n_lit, n_neg, n_add, n_mul, n_sub, n_subM, n_div, n_mod, n_addM, m_div, m_subn, n_tN, n_inS, n_eq_t, n_eq_f, n_ne_t, n_ne_f, n_lt_t, n_lt_f, n_ge_t, n_ge_f, n_gt_t, n_gt_f, n_le_t, n_le_f, mn_eq, mn_ne, mn_lt, mn_ge, mn_gt, mn_le, nm_eq, nm_ne, nm_lt, nm_ge, nm_gt, nm_le, n_gts_t, c_eq_refl, c_ne_refl, w_fold, w_2, wC_fold, lt_M, cond_true, cond_false, Bool.and_true, Bool.true_and, Bool.and_false, Bool.false_and, Bool.not_true, Bool.not_false, isZS_0, isZS_1]
  by_cases q1 : ws w = 0 ∨ ws w = 2
  · rw [if_pos (.inr ⟨rfl, q1⟩)] at hl
    by_cases q2 : t (wb w) ≤ t (wa w) + wl w
    · refine ⟨F, t, mo, ?_, hF, hT, .inl rfl, .inl ⟨rfl, rfl, fun _ => q2⟩⟩
      rw [← ex, h_167_54]
      simp (disch := omega) only [↓Bool.cond_eq_ite, ↓reduceIte, Bool.false_eq_true, eq_self, n_lit, n_neg, n_add, n_mul, n_sub, n_subM, n_div, n_mod, n_addM, m_div, m_subn, n_tN, n_inS, n_eq_t, n_eq_f, n_ne_t, n_ne_f, n_lt_t, n_lt_f, n_ge_t, n_ge_f, n_gt_t, n_gt_f, n_le_t, n_le_f, mn_eq, mn_ne, mn_lt, mn_ge, mn_gt, mn_le, nm_eq, nm_ne, nm_lt, nm_ge, nm_gt, nm_le, n_gts_t, c_eq_refl, c_ne_refl, w_fold, w_2, wC_fold, lt_M, cond_true, cond_false, Bool.and_true, Bool.true_and, Bool.and_false, Bool.false_and, Bool.not_true, Bool.not_false, isZS_0, isZS_1, a7, a8, a9, hl, Option.bind_some, stA_same, ra, rb, h_167_136]
    · refine ⟨upd F (wb w) (oN (t (wa w) + wl w)), _, 1, ?_, fF_upd hF, tS_upd hT ⟨w, hw, rfl, .inr ⟨rfl, rfl, q1⟩⟩ (by omega) (by omega) (by omega), .inr rfl, .inr ⟨rfl, sm_upd (by omega) (by omega)⟩⟩
      rw [← ex, h_167_54]
      simp (disch := omega) only [↓Bool.cond_eq_ite, ↓reduceIte, Bool.false_eq_true, eq_self, n_lit, n_neg, n_add, n_mul, n_sub, n_subM, n_div, n_mod, n_addM, m_div, m_subn, n_tN, n_inS, n_eq_t, n_eq_f, n_ne_t, n_ne_f, n_lt_t, n_lt_f, n_ge_t, n_ge_f, n_gt_t, n_gt_f, n_le_t, n_le_f, mn_eq, mn_ne, mn_lt, mn_ge, mn_gt, mn_le, nm_eq, nm_ne, nm_lt, nm_ge, nm_gt, nm_le, n_gts_t, c_eq_refl, c_ne_refl, w_fold, w_2, wC_fold, lt_M, cond_true, cond_false, Bool.and_true, Bool.true_and, Bool.and_false, Bool.false_and, Bool.not_true, Bool.not_false, isZS_0, isZS_1, a7, a8, a9, hl, Option.bind_some, stA_same, stA_w, stA_u, ra, rb, h_167_136]
  · rw [if_neg (by omega)] at hl
    refine ⟨F, t, mo, ?_, hF, hT, .inl rfl, .inl ⟨rfl, rfl, fun y => absurd y q1⟩⟩
    rw [← ex, h_167_54]
    simp (disch := omega) only [↓Bool.cond_eq_ite, ↓reduceIte, Bool.false_eq_true, eq_self, n_lit, n_neg, n_add, n_mul, n_sub, n_subM, n_div, n_mod, n_addM, m_div, m_subn, n_tN, n_inS, n_eq_t, n_eq_f, n_ne_t, n_ne_f, n_lt_t, n_lt_f, n_ge_t, n_ge_f, n_gt_t, n_gt_f, n_le_t, n_le_f, mn_eq, mn_ne, mn_lt, mn_ge, mn_gt, mn_le, nm_eq, nm_ne, nm_lt, nm_ge, nm_gt, nm_le, n_gts_t, c_eq_refl, c_ne_refl, w_fold, w_2, wC_fold, lt_M, cond_true, cond_false, Bool.and_true, Bool.true_and, Bool.and_false, Bool.false_and, Bool.not_true, Bool.not_false, isZS_0, isZS_1, a7, a8, a9, hl, Option.bind_some, stA_same, ra, rb, h_167_136]
def rlxd (wa wb wl ws : Nat → Nat) (t : Nat → Nat) (w : Nat) : Prop := ((ws w = 0 ∨ ws w = 1) → t (wa w) ≤ t (wb w) + wl w) ∧ ((ws w = 0 ∨ ws w = 2) → t (wb w) ≤ t (wa w) + wl w)
theorem f_pass (hW : mWy M nc nw wa wb wl ws) : ∀ (k w mo : Nat) (F : Nat → Int32) (t : Nat → Nat), w + k = nw → fF F t → tS nw wa wb wl ws e t → ∃ F' t' mo', run L xs 167 26 (41, [some (vr 10 [1]), none, some (vi (oN mo)), some (vi (oN w)), none, none, none], [], stA M [27, 1] F) = run L xs 167 26 (33, [some (vr 10 [1]), none, some (vi (oN mo')), none, none, none, none], [], stA M [27, 1] F') ∧ fF F' t' ∧ tS nw wa wb wl ws e t' ∧
    ((mo' = mo ∧ t' = t ∧ ∀ x, w ≤ x → x < nw → rlxd wa wb wl ws t x) ∨ (mo' = 1 ∧ sm t' 16 < sm t 16))
  | 0, w, mo, F, t, h, hF, hT => by
    obtain ⟨c0, h16, h24, hw0⟩ := mWy_st (F := F) hW
    refine ⟨F, t, mo, ?_, hF, hT, .inl ⟨rfl, rfl, fun x h1 h2 => by omega⟩⟩
    rw [h_167_41]
    simp (disch := omega) only [↓Bool.cond_eq_ite, ↓reduceIte, Bool.false_eq_true, eq_self, n_lit, n_neg, n_add, n_mul, n_sub, n_subM, n_div, n_mod, n_addM, m_div, m_subn, n_tN, n_inS, n_eq_t, n_eq_f, n_ne_t, n_ne_f, n_lt_t, n_lt_f, n_ge_t, n_ge_f, n_gt_t, n_gt_f, n_le_t, n_le_f, mn_eq, mn_ne, mn_lt, mn_ge, mn_gt, mn_le, nm_eq, nm_ne, nm_lt, nm_ge, nm_gt, nm_le, n_gts_t, c_eq_refl, c_ne_refl, w_fold, w_2, wC_fold, lt_M, cond_true, cond_false, Bool.and_true, Bool.true_and, Bool.and_false, Bool.false_and, Bool.not_true, Bool.not_false, isZS_0, isZS_1, c0]
  | k + 1, w, mo, F, t, h, hF, hT => by
    obtain ⟨c0, h16, h24, hw0⟩ := mWy_st (F := F) hW
    obtain ⟨F1, t1, m1, a1, a2, a3, a4, a5⟩ := f_side0 (L := L) (xs := xs) (mo := mo) hW (show w < nw by omega) hF hT
    obtain ⟨F2, t2, m2, b1, b2, b3, b4, b5⟩ := f_side1 (L := L) (xs := xs) (mo := m1) hW (show w < nw by omega) a2 a3
    obtain ⟨F3, t3, m3, c1, c2, c3, c4⟩ := f_pass hW k (w + 1) m2 F2 t2 (by omega) b2 b3
    refine ⟨F3, t3, m3, ?_, c2, c3, ?_⟩
    · rw [h_167_41, ← c1, ← b1, ← a1]
      simp (disch := omega) only [↓Bool.cond_eq_ite, ↓reduceIte, Bool.false_eq_true, eq_self, n_lit, n_neg, n_add, n_mul, n_sub, n_subM, n_div, n_mod, n_addM, m_div, m_subn, n_tN, n_inS, n_eq_t, n_eq_f, n_ne_t, n_ne_f, n_lt_t, n_lt_f, n_ge_t, n_ge_f, n_gt_t, n_gt_f, n_le_t, n_le_f, mn_eq, mn_ne, mn_lt, mn_ge, mn_gt, mn_le, nm_eq, nm_ne, nm_lt, nm_ge, nm_gt, nm_le, n_gts_t, c_eq_refl, c_ne_refl, w_fold, w_2, wC_fold, lt_M, cond_true, cond_false, Bool.and_true, Bool.true_and, Bool.and_false, Bool.false_and, Bool.not_true, Bool.not_false, isZS_0, isZS_1, c0]
    · rcases a5 with ⟨x1, x2, x3⟩ | ⟨x1, x2⟩ <;> rcases b5 with ⟨y1, y2, y3⟩ | ⟨y1, y2⟩ <;> rcases c4 with ⟨z1, z2, z3⟩ | ⟨z1, z2⟩
      · subst x2 y2 z2
        refine .inl ⟨by omega, rfl, fun x h1 h2 => ?_⟩
        by_cases q : x = w
        · subst q; exact ⟨x3, y3⟩
        · exact z3 x (by omega) h2
      · subst x2 y2; exact .inr ⟨z1, z2⟩
      · subst x2 z2; exact .inr ⟨by omega, y2⟩
      · subst x2; exact .inr ⟨z1, by omega⟩
      · subst y2 z2; exact .inr ⟨by omega, x2⟩
      · subst y2; exact .inr ⟨z1, by omega⟩
      · subst z2; exact .inr ⟨by omega, by omega⟩
      · exact .inr ⟨z1, by omega⟩
theorem f_walk {t : Nat → Nat} (h0 : t e = 0) (hr : ∀ x, x < nw → rlxd wa wb wl ws t x) : ∀ (k u m : Nat), wW nw wa wb wl ws k u e m → t u ≤ m
  | 0, u, m, ⟨h, _⟩ => by rw [h, h0]; omega
  | k + 1, u, m, ⟨x, c, m', ⟨w, hw, hc, hh⟩, h2, h3⟩ => by
    have ih := f_walk h0 hr k x m' h2
    rcases hh with ⟨y1, y2, y3⟩ | ⟨y1, y2, y3⟩
    · have := (hr w hw).1 y3
      rw [y1, y2] at this
      omega
    · have := (hr w hw).2 y3
      rw [y1, y2] at this
      omega
theorem f_loop (hW : mWy M nc nw wa wb wl ws) : ∀ (n : Nat) (F : Nat → Int32) (t : Nat → Nat), sm t 16 ≤ n → fF F t → tS nw wa wb wl ws e t → ∃ F' t', run L xs 167 26 (33, [some (vr 10 [1]), none, some (vi (oN 1)), none, none, none, none], [], stA M [27, 1] F) = some (none, stA M [27, 1] F') ∧ fF F' t' ∧ tS nw wa wb wl ws e t' ∧ ∀ x, x < nw → rlxd wa wb wl ws t' x := by
  intro n
  induction n using Nat.strongRecOn with
  | _ n ih =>
    intro F t hn hF hT
    obtain ⟨F1, t1, m1, a1, a2, a3, a4⟩ := f_pass (L := L) (xs := xs) (e := e) hW nw 0 0 F t (by omega) hF hT
    rw [h_167_33]
    simp (disch := omega) only [↓Bool.cond_eq_ite, ↓reduceIte, Bool.false_eq_true, eq_self, n_lit, n_neg, n_add, n_mul, n_sub, n_subM, n_div, n_mod, n_addM, m_div, m_subn, n_tN, n_inS, n_eq_t, n_eq_f, n_ne_t, n_ne_f, n_lt_t, n_lt_f, n_ge_t, n_ge_f, n_gt_t, n_gt_f, n_le_t, n_le_f, mn_eq, mn_ne, mn_lt, mn_ge, mn_gt, mn_le, nm_eq, nm_ne, nm_lt, nm_ge, nm_gt, nm_le, n_gts_t, c_eq_refl, c_ne_refl, w_fold, w_2, wC_fold, lt_M, cond_true, cond_false, Bool.and_true, Bool.true_and, Bool.and_false, Bool.false_and, Bool.not_true, Bool.not_false, isZS_0, isZS_1]
    rw [a1]
    rcases a4 with ⟨x1, x2, x3⟩ | ⟨x1, x2⟩
    · subst x1 x2
      refine ⟨F1, t1, ?_, a2, a3, fun x hx => x3 x (by omega) hx⟩
      rw [h_167_33]
      simp (disch := omega) only [↓Bool.cond_eq_ite, ↓reduceIte, Bool.false_eq_true, eq_self, n_lit, n_neg, n_add, n_mul, n_sub, n_subM, n_div, n_mod, n_addM, m_div, m_subn, n_tN, n_inS, n_eq_t, n_eq_f, n_ne_t, n_ne_f, n_lt_t, n_lt_f, n_ge_t, n_ge_f, n_gt_t, n_gt_f, n_le_t, n_le_f, mn_eq, mn_ne, mn_lt, mn_ge, mn_gt, mn_le, nm_eq, nm_ne, nm_lt, nm_ge, nm_gt, nm_le, n_gts_t, c_eq_refl, c_ne_refl, w_fold, w_2, wC_fold, lt_M, cond_true, cond_false, Bool.and_true, Bool.true_and, Bool.and_false, Bool.false_and, Bool.not_true, Bool.not_false, isZS_0, isZS_1]
    · subst x1
      exact ih (sm t1 16) (by omega) F1 t1 (Nat.le_refl _) a2 a3
set_option maxRecDepth 8000 in
theorem f_init (he : e < 16) : ∀ (k j : Nat) (F : Nat → Int32), j + k = 16 → (∀ i, i < j → F i = oN (if i = e then 0 else 1000000)) → ∃ F', run L xs 167 26 (2, [some (vr 10 [1]), some (vi (oN e)), some (vi (oN j)), none, none, none, none], [], stA M [27, 1] F) = run L xs 167 26 (33, [some (vr 10 [1]), none, some (vi (oN 1)), none, none, none, none], [], stA M [27, 1] F') ∧ ∀ i, i < 16 → F' i = oN (if i = e then 0 else 1000000)
  | 0, j, F, h, hF => by
    refine ⟨F, ?_, fun i hi => hF i (by omega)⟩
    rw [h_167_2]
    simp (disch := omega) only [↓Bool.cond_eq_ite, ↓reduceIte, Bool.false_eq_true, eq_self, n_lit, n_neg, n_add, n_mul, n_sub, n_subM, n_div, n_mod, n_addM, m_div, m_subn, n_tN, n_inS, n_eq_t, n_eq_f, n_ne_t, n_ne_f, n_lt_t, n_lt_f, n_ge_t, n_ge_f, n_gt_t, n_gt_f, n_le_t, n_le_f, mn_eq, mn_ne, mn_lt, mn_ge, mn_gt, mn_le, nm_eq, nm_ne, nm_lt, nm_ge, nm_gt, nm_le, n_gts_t, c_eq_refl, c_ne_refl, w_fold, w_2, wC_fold, lt_M, cond_true, cond_false, Bool.and_true, Bool.true_and, Bool.and_false, Bool.false_and, Bool.not_true, Bool.not_false, isZS_0, isZS_1]
  | k + 1, j, F, h, hF => by
    rw [h_167_2]
    by_cases z : j = e
    · obtain ⟨F', h1, h2⟩ := f_init he k (j + 1) (upd F j (oN 0)) (by omega) (fun i hi => by
        rw [upd_at]
        by_cases y : i = j
        · rw [if_pos y, if_pos (by omega)]
        · rw [if_neg y]; exact hF i (by omega))
      refine ⟨F', ?_, h2⟩
      rw [← h1]
      simp (disch := omega) only [↓Bool.cond_eq_ite, ↓reduceIte, Bool.false_eq_true, eq_self, n_lit, n_neg, n_add, n_mul, n_sub, n_subM, n_div, n_mod, n_addM, m_div, m_subn, n_tN, n_inS, n_eq_t, n_eq_f, n_ne_t, n_ne_f, n_lt_t, n_lt_f, n_ge_t, n_ge_f, n_gt_t, n_gt_f, n_le_t, n_le_f, mn_eq, mn_ne, mn_lt, mn_ge, mn_gt, mn_le, nm_eq, nm_ne, nm_lt, nm_ge, nm_gt, nm_le, n_gts_t, c_eq_refl, c_ne_refl, w_fold, w_2, wC_fold, lt_M, cond_true, cond_false, Bool.and_true, Bool.true_and, Bool.and_false, Bool.false_and, Bool.not_true, Bool.not_false, isZS_0, isZS_1, stA_same, stA_w, stA_u]
    · obtain ⟨F', h1, h2⟩ := f_init he k (j + 1) (upd F j (oN 1000000)) (by omega) (fun i hi => by
        rw [upd_at]
        by_cases y : i = j
        · rw [if_pos y, if_neg (by omega)]
        · rw [if_neg y]; exact hF i (by omega))
      refine ⟨F', ?_, h2⟩
      rw [← h1]
      simp (disch := omega) only [↓Bool.cond_eq_ite, ↓reduceIte, Bool.false_eq_true, eq_self, n_lit, n_neg, n_add, n_mul, n_sub, n_subM, n_div, n_mod, n_addM, m_div, m_subn, n_tN, n_inS, n_eq_t, n_eq_f, n_ne_t, n_ne_f, n_lt_t, n_lt_f, n_ge_t, n_ge_f, n_gt_t, n_gt_f, n_le_t, n_le_f, mn_eq, mn_ne, mn_lt, mn_ge, mn_gt, mn_le, nm_eq, nm_ne, nm_lt, nm_ge, nm_gt, nm_le, n_gts_t, c_eq_refl, c_ne_refl, w_fold, w_2, wC_fold, lt_M, cond_true, cond_false, Bool.and_true, Bool.true_and, Bool.and_false, Bool.false_and, Bool.not_true, Bool.not_false, isZS_0, isZS_1, stA_same, stA_w, stA_u]
theorem findFar_ok (hW : mWy M nc nw wa wb wl ws) (he : e < nc) : ∃ M', kV L xs 167 [vr 10 [1], vi (oN e)] M = some M' ∧ M'.2 = M.2 ∧ (∀ z, z ≠ [27, 1] → M'.1 z = M.1 z) ∧ ∀ u, u < 16 → ∃ d, M'.1 [27, 1] u = oN d ∧ wD nw wa wb wl ws u e d := by
  have h16 := hW.2.1
  obtain ⟨F1, a1, a2⟩ := f_init (L := L) (xs := xs) (M := M) (show e < 16 by omega) 16 0 (M.1 [27, 1]) (by omega) (fun i hi => by omega)
  rw [stA_id] at a1
  obtain ⟨F2, t2, b1, b2, b3, b4⟩ := f_loop (L := L) (xs := xs) (e := e) hW _ F1 (fun i => if i = e then 0 else 1000000) (Nat.le_refl _) a2 ⟨if_pos rfl, fun u hu => by
    dsimp only
    by_cases z : u = e
    · rw [if_pos z]; exact ⟨by omega, fun _ => ⟨0, z, rfl⟩⟩
    · rw [if_neg z]; exact ⟨by omega, fun y => absurd y (Nat.lt_irrefl _)⟩⟩
  refine ⟨stA M [27, 1] F2, kV_of ?_, rfl, fun z hz => stA_ne hz, fun u hu => ⟨t2 u, ?_, (b3.2 u hu).1, (b3.2 u hu).2, fun k m hk => f_walk b3.1 b4 k u m hk⟩⟩
  · rw [e_167]
    simp only [n_lit]
    rw [a1, b1]
  · rw [stA_same]; exact b2 u hu
end Far
