section Text9
variable {L : Nat} {xs : Nat → Int32} {C M : mM} {n : Nat} {β : Nat → Nat} {a d vn sn : Nat} {b : Int32} {V S : Nat → Int32}
def tp (sn : Nat) (S : Nat → Int32) : Int32 := if sn = 0 then oN 0 else S (sn - 1)
theorem p_235 (h : sn ≤ 200) : kI L xs 235 [vr 10 [1]] (pM M a b d vn V sn S) = some (tp sn S, pM M a b d vn V sn S) := by
  rw [s_235 pM_40 h]; rfl
theorem tp_s {c : Int32} (h : S sn = c) : tp (sn + 1) S = c := by
  show (if sn + 1 = 0 then _ else S (sn + 1 - 1)) = c
  rw [if_neg (by omega)]
  exact h
theorem b2_c (x : Bool) : b2 x = bif x then oN 1 else oN 0 := rfl
theorem p_232 (hv : vn < 100) (s0 : Nat) : ∀ k V, s0 + k ≤ 200 → (∀ i, s0 ≤ i → i < s0 + k → S i = oN 33) → ¬ tp s0 S = oN 33 → ∃ V', run L xs 232 26 (0, [some (vr 10 [1])], [], pM M a b d (vn + 1) V (s0 + k) S) = some (none, pM M a b d (vn + 1) V' s0 S) ∧ (∀ i, i < vn → V' i = V i) ∧ ∀ y, V vn = b2 y → V' vn = b2 (y ^^ (k % 2 == 1)) := by
  intro k
  induction k with
  | zero =>
    intro V hk hS h0
    refine ⟨V, ?_, fun i _ => rfl, fun y h => by rw [h]; cases y <;> rfl⟩
    have e := c_ne_h h0
    have k235 := p_235 (L := L) (xs := xs) (M := M) (a := a) (b := b) (d := d) (vn := vn + 1) (V := V) (sn := s0) (S := S) (by omega)
    show run L xs 232 26 (0, [some (vr 10 [1])], [], pM M a b d (vn + 1) V s0 S) = _
    rw [h_232_0]
    simp (disch := omega) only [↓Bool.cond_eq_ite, ↓reduceIte, Bool.false_eq_true, eq_self, n_lit, n_neg, n_add, n_mul, n_sub, n_subM, n_div, n_mod, n_addM, m_div, m_subn, n_tN, n_inS, n_eq_t, n_eq_f, n_ne_t, n_ne_f, n_lt_t, n_lt_f, n_ge_t, n_ge_f, n_gt_t, n_gt_f, n_le_t, n_le_f, mn_eq, mn_ne, mn_lt, mn_ge, mn_gt, mn_le, nm_eq, nm_ne, nm_lt, nm_ge, nm_gt, nm_le, n_gts_t, c_eq_refl, c_ne_refl, w_fold, w_2, wC_fold, lt_M, cond_true, cond_false, Bool.and_true, Bool.true_and, Bool.and_false, Bool.false_and, Bool.not_true, Bool.not_false, isZS_0, isZS_1, k235, e, Option.bind_some]
  | succ k ih =>
    intro V hk hS h0
    have k235 := p_235 (L := L) (xs := xs) (M := M) (a := a) (b := b) (d := d) (vn := vn + 1) (V := V) (sn := s0 + (k + 1)) (S := S) (by omega)
    have hh : tp (s0 + (k + 1)) S = oN 33 := tp_s (sn := s0 + k) (hS (s0 + k) (by omega) (by omega))
    rw [hh] at k235
    have go : ∀ x : Nat, x ≤ 1 → (bif cmpS .ne (V vn) (oN 0) then oN 0 else oN 1) = oN x → ∃ V', run L xs 232 26 (0, [some (vr 10 [1])], [], pM M a b d (vn + 1) (upd V vn (oN x)) (s0 + k) S) = some (none, pM M a b d (vn + 1) V' s0 S) ∧ (∀ i, i < vn → V' i = V i) ∧ ∀ y, V vn = b2 y → V' vn = b2 (y ^^ ((k + 1) % 2 == 1)) := by
      intro x hx hV
      obtain ⟨V', h1, h2, h3⟩ := ih (upd V vn (oN x)) (by omega) (fun i h1 h2 => hS i h1 (by omega)) h0
      refine ⟨V', h1, fun i hi => by rw [h2 i hi, upd_at, if_neg (by omega)], fun y hy => ?_⟩
      have hz : oN x = b2 (!y) := by
        rw [← hV, hy]
        cases y
        · exact congrArg (fun q => bif q then oN 0 else oN 1) (show cmpS .ne (oN 0) (oN 0) = false from c_ne_refl _)
        · exact congrArg (fun q => bif q then oN 0 else oN 1) (show cmpS .ne (oN 1) (oN 0) = true from n_ne_t (by omega) (by omega) (by omega))
      rw [h3 (!y) (by rw [upd_at, if_pos rfl]; exact hz)]
      congr 1
      have hk2 : k % 2 = 0 ∨ k % 2 = 1 := by omega
      rcases hk2 with q | q
      · rw [show (k + 1) % 2 = 1 by omega, q]; cases y <;> rfl
      · rw [show (k + 1) % 2 = 0 by omega, q]; cases y <;> rfl
    cases hq : cmpS .ne (V vn) (oN 0) with
    | true =>
      obtain ⟨V', h1, h2, h3⟩ := go 0 (by omega) (by rw [hq]; rfl)
      refine ⟨V', ?_, h2, h3⟩
      rw [h_232_0]
      simp (disch := omega) only [↓Bool.cond_eq_ite, ↓reduceIte, Bool.false_eq_true, eq_self, n_lit, n_neg, n_add, n_mul, n_sub, n_subM, n_div, n_mod, n_addM, m_div, m_subn, n_tN, n_inS, n_eq_t, n_eq_f, n_ne_t, n_ne_f, n_lt_t, n_lt_f, n_ge_t, n_ge_f, n_gt_t, n_gt_f, n_le_t, n_le_f, mn_eq, mn_ne, mn_lt, mn_ge, mn_gt, mn_le, nm_eq, nm_ne, nm_lt, nm_ge, nm_gt, nm_le, n_gts_t, c_eq_refl, c_ne_refl, w_fold, w_2, wC_fold, lt_M, cond_true, cond_false, Bool.and_true, Bool.true_and, Bool.and_false, Bool.false_and, Bool.not_true, Bool.not_false, isZS_0, isZS_1, k235, pM_38, pM_40, pM_V, pM_wV, pM_w40, nar_b0, hq, Option.bind_some, Nat.add_sub_cancel]
      exact h1
    | false =>
      obtain ⟨V', h1, h2, h3⟩ := go 1 (by omega) (by rw [hq]; rfl)
      refine ⟨V', ?_, h2, h3⟩
      rw [h_232_0]
      simp (disch := omega) only [↓Bool.cond_eq_ite, ↓reduceIte, Bool.false_eq_true, eq_self, n_lit, n_neg, n_add, n_mul, n_sub, n_subM, n_div, n_mod, n_addM, m_div, m_subn, n_tN, n_inS, n_eq_t, n_eq_f, n_ne_t, n_ne_f, n_lt_t, n_lt_f, n_ge_t, n_ge_f, n_gt_t, n_gt_f, n_le_t, n_le_f, mn_eq, mn_ne, mn_lt, mn_ge, mn_gt, mn_le, nm_eq, nm_ne, nm_lt, nm_ge, nm_gt, nm_le, n_gts_t, c_eq_refl, c_ne_refl, w_fold, w_2, wC_fold, lt_M, cond_true, cond_false, Bool.and_true, Bool.true_and, Bool.and_false, Bool.false_and, Bool.not_true, Bool.not_false, isZS_0, isZS_1, k235, pM_38, pM_40, pM_V, pM_wV, pM_w40, nar_b1, hq, Option.bind_some, Nat.add_sub_cancel]
      exact h1
theorem r_232 {mem : mM} : call L xs 232 [vr 10 [1]] mem = run L xs 232 26 (0, [some (vr 10 [1])], [], mem) := by rw [e_232, h_232_0]
theorem q_232 (hv : vn < 100) {s0 k : Nat} (hk : s0 + k ≤ 200) (hS : ∀ i, s0 ≤ i → i < s0 + k → S i = oN 33) (h0 : ¬ tp s0 S = oN 33) : ∃ V', kV L xs 232 [vr 10 [1]] (pM M a b d (vn + 1) V (s0 + k) S) = some (pM M a b d (vn + 1) V' s0 S) ∧ (∀ i, i < vn → V' i = V i) ∧ ∀ y, V vn = b2 y → V' vn = b2 (y ^^ (k % 2 == 1)) := by
  obtain ⟨V', h1, h2, h3⟩ := p_232 (L := L) (xs := xs) (M := M) (a := a) (b := b) (d := d) hv s0 k V hk hS h0
  exact ⟨V', kV_c (by rw [r_232]; exact h1), h2, h3⟩
theorem j_no {c : Nat} (hs : sn ≤ 200) (h : ¬ tp sn S = oN c) : kV L xs 194 [vr 10 [1], vi (oN c)] (pM M a b d vn V sn S) = some (pM M a b d vn V sn S) := by
  refine kV_c ?_
  have e := c_ne_h h
  have k235 := p_235 (L := L) (xs := xs) (M := M) (a := a) (b := b) (d := d) (vn := vn) (V := V) (S := S) hs
  rw [e_194]
  simp (disch := omega) only [↓Bool.cond_eq_ite, ↓reduceIte, Bool.false_eq_true, eq_self, n_lit, n_neg, n_add, n_mul, n_sub, n_subM, n_div, n_mod, n_addM, m_div, m_subn, n_tN, n_inS, n_eq_t, n_eq_f, n_ne_t, n_ne_f, n_lt_t, n_lt_f, n_ge_t, n_ge_f, n_gt_t, n_gt_f, n_le_t, n_le_f, mn_eq, mn_ne, mn_lt, mn_ge, mn_gt, mn_le, nm_eq, nm_ne, nm_lt, nm_ge, nm_gt, nm_le, n_gts_t, c_eq_refl, c_ne_refl, w_fold, w_2, wC_fold, lt_M, cond_true, cond_false, Bool.and_true, Bool.true_and, Bool.and_false, Bool.false_and, Bool.not_true, Bool.not_false, isZS_0, isZS_1, k235, e, Option.bind_some]
theorem j_and {x y : Bool} (hv : vn + 1 < 100) (hs : sn < 200) (h : S sn = oN 38) (h0 : ¬ tp sn S = oN 38) (hx : V vn = b2 x) (hy : V (vn + 1) = b2 y) : kV L xs 194 [vr 10 [1], vi (oN 38)] (pM M a b d (vn + 2) V (sn + 1) S) = some (pM M a b d (vn + 1) (upd V vn (b2 (x && y))) sn S) := by
  refine kV_c ?_
  have e := c_ne_h h0
  have k235 := p_235 (L := L) (xs := xs) (M := M) (a := a) (b := b) (d := d) (vn := vn + 2) (V := V) (S := S) (sn := sn + 1) (by omega)
  rw [tp_s h] at k235
  have g := fun V => p_235 (L := L) (xs := xs) (M := M) (a := a) (b := b) (d := d) (vn := vn + 1) (V := V) (S := S) (sn := sn) (by omega)
  rw [e_194, k235, Option.bind_some]
  dsimp only
  rw [pM_38]
  cases x <;> cases y <;> simp only [b2_c, cond_true, cond_false] at hx hy <;>
    simp (disch := omega) only [↓Bool.cond_eq_ite, ↓reduceIte, Bool.false_eq_true, eq_self, n_lit, n_neg, n_add, n_mul, n_sub, n_subM, n_div, n_mod, n_addM, m_div, m_subn, n_tN, n_inS, n_eq_t, n_eq_f, n_ne_t, n_ne_f, n_lt_t, n_lt_f, n_ge_t, n_ge_f, n_gt_t, n_gt_f, n_le_t, n_le_f, mn_eq, mn_ne, mn_lt, mn_ge, mn_gt, mn_le, nm_eq, nm_ne, nm_lt, nm_ge, nm_gt, nm_le, n_gts_t, c_eq_refl, c_ne_refl, w_fold, w_2, wC_fold, lt_M, cond_true, cond_false, Bool.and_true, Bool.true_and, Bool.and_false, Bool.false_and, Bool.not_true, Bool.not_false, isZS_0, isZS_1, pM_38, pM_40, pM_V, pM_wV, pM_w38, pM_w40, nar_b0, nar_b1, hx, hy, Option.bind_some, Nat.add_sub_cancel, show ∀ v : Nat, v + 2 - 1 = v + 1 from fun _ => rfl] <;>
    rw [h_194_0, g, Option.bind_some] <;> dsimp only <;> simp (disch := omega) only [↓Bool.cond_eq_ite, ↓reduceIte, Bool.false_eq_true, eq_self, n_lit, n_neg, n_add, n_mul, n_sub, n_subM, n_div, n_mod, n_addM, m_div, m_subn, n_tN, n_inS, n_eq_t, n_eq_f, n_ne_t, n_ne_f, n_lt_t, n_lt_f, n_ge_t, n_ge_f, n_gt_t, n_gt_f, n_le_t, n_le_f, mn_eq, mn_ne, mn_lt, mn_ge, mn_gt, mn_le, nm_eq, nm_ne, nm_lt, nm_ge, nm_gt, nm_le, n_gts_t, c_eq_refl, c_ne_refl, w_fold, w_2, wC_fold, lt_M, cond_true, cond_false, Bool.and_true, Bool.true_and, Bool.and_false, Bool.false_and, Bool.not_true, Bool.not_false, isZS_0, isZS_1, e, b2_c] <;> rfl
theorem j_or {x y : Bool} (hv : vn + 1 < 100) (hs : sn < 200) (h : S sn = oN 124) (h0 : ¬ tp sn S = oN 124) (hx : V vn = b2 x) (hy : V (vn + 1) = b2 y) : kV L xs 194 [vr 10 [1], vi (oN 124)] (pM M a b d (vn + 2) V (sn + 1) S) = some (pM M a b d (vn + 1) (upd V vn (b2 (x || y))) sn S) := by
  refine kV_c ?_
  have e := c_ne_h h0
  have k235 := p_235 (L := L) (xs := xs) (M := M) (a := a) (b := b) (d := d) (vn := vn + 2) (V := V) (S := S) (sn := sn + 1) (by omega)
  rw [tp_s h] at k235
  have g := fun V => p_235 (L := L) (xs := xs) (M := M) (a := a) (b := b) (d := d) (vn := vn + 1) (V := V) (S := S) (sn := sn) (by omega)
  rw [e_194, k235, Option.bind_some]
  dsimp only
  rw [pM_38]
  cases x <;> cases y <;> simp only [b2_c, cond_true, cond_false] at hx hy <;>
    simp (disch := omega) only [↓Bool.cond_eq_ite, ↓reduceIte, Bool.false_eq_true, eq_self, n_lit, n_neg, n_add, n_mul, n_sub, n_subM, n_div, n_mod, n_addM, m_div, m_subn, n_tN, n_inS, n_eq_t, n_eq_f, n_ne_t, n_ne_f, n_lt_t, n_lt_f, n_ge_t, n_ge_f, n_gt_t, n_gt_f, n_le_t, n_le_f, mn_eq, mn_ne, mn_lt, mn_ge, mn_gt, mn_le, nm_eq, nm_ne, nm_lt, nm_ge, nm_gt, nm_le, n_gts_t, c_eq_refl, c_ne_refl, w_fold, w_2, wC_fold, lt_M, cond_true, cond_false, Bool.and_true, Bool.true_and, Bool.and_false, Bool.false_and, Bool.not_true, Bool.not_false, isZS_0, isZS_1, pM_38, pM_40, pM_V, pM_wV, pM_w38, pM_w40, nar_b0, nar_b1, hx, hy, Option.bind_some, Nat.add_sub_cancel, show ∀ v : Nat, v + 2 - 1 = v + 1 from fun _ => rfl] <;>
    rw [h_194_0, g, Option.bind_some] <;> dsimp only <;> simp (disch := omega) only [↓Bool.cond_eq_ite, ↓reduceIte, Bool.false_eq_true, eq_self, n_lit, n_neg, n_add, n_mul, n_sub, n_subM, n_div, n_mod, n_addM, m_div, m_subn, n_tN, n_inS, n_eq_t, n_eq_f, n_ne_t, n_ne_f, n_lt_t, n_lt_f, n_ge_t, n_ge_f, n_gt_t, n_gt_f, n_le_t, n_le_f, mn_eq, mn_ne, mn_lt, mn_ge, mn_gt, mn_le, nm_eq, nm_ne, nm_lt, nm_ge, nm_gt, nm_le, n_gts_t, c_eq_refl, c_ne_refl, w_fold, w_2, wC_fold, lt_M, cond_true, cond_false, Bool.and_true, Bool.true_and, Bool.and_false, Bool.false_and, Bool.not_true, Bool.not_false, isZS_0, isZS_1, e, b2_c] <;> rfl
noncomputable def k27 (L : Nat) (xs : Nat → Int32) (w : Nat) (M : mM) := run L xs 213 32 (27, [some (vr 10 [1]), some (vi (oN w)), none], [], M)
theorem l_bad {w : Nat} : k27 L xs w (pM M a (oN 1) d vn V sn S) = some (some (vi (oN 0)), pM M a (oN 1) d vn V sn S) := by
  unfold k27
  rw [h_213_27]
  simp (disch := omega) only [↓Bool.cond_eq_ite, ↓reduceIte, Bool.false_eq_true, eq_self, n_lit, n_neg, n_add, n_mul, n_sub, n_subM, n_div, n_mod, n_addM, m_div, m_subn, n_tN, n_inS, n_eq_t, n_eq_f, n_ne_t, n_ne_f, n_lt_t, n_lt_f, n_ge_t, n_ge_f, n_gt_t, n_gt_f, n_le_t, n_le_f, mn_eq, mn_ne, mn_lt, mn_ge, mn_gt, mn_le, nm_eq, nm_ne, nm_lt, nm_ge, nm_gt, nm_le, n_gts_t, c_eq_refl, c_ne_refl, w_fold, w_2, wC_fold, lt_M, cond_true, cond_false, Bool.and_true, Bool.true_and, Bool.and_false, Bool.false_and, Bool.not_true, Bool.not_false, isZS_0, isZS_1, pM_33, h_213_335, h_213_370]
variable (hM : mTx M n (bM β)) (hβ : ∀ i, i < n → β i ≤ 255) (hn : n ≤ 80)
theorem l_not (hM : mTx M n (bM β)) (hβ : ∀ i, i < n → β i ≤ 255) (hn : n ≤ 80) (ha : a < n) (hs : sn < 200) (hd : d ≤ 8) (hl : β a = 33) : k27 L xs 1 (pM M a (oN 0) d vn V sn S) = k27 L xs 1 (pM M (a + 1) (oN 0) d vn V (sn + 1) (upd S sn (oN 33))) := by
  have k179 := p_179 (L := L) (xs := xs) (b := oN 0) (d := d) (vn := vn) (V := V) (sn := sn) (S := S) hM (show a ≤ 80 by omega)
  rw [(lM_eq hβ (i := a) (c := 33) (by omega)).mpr ⟨ha, hl⟩] at k179
  unfold k27
  rw [h_213_27]
  simp (disch := omega) only [↓Bool.cond_eq_ite, ↓reduceIte, Bool.false_eq_true, eq_self, n_lit, n_neg, n_add, n_mul, n_sub, n_subM, n_div, n_mod, n_addM, m_div, m_subn, n_tN, n_inS, n_eq_t, n_eq_f, n_ne_t, n_ne_f, n_lt_t, n_lt_f, n_ge_t, n_ge_f, n_gt_t, n_gt_f, n_le_t, n_le_f, mn_eq, mn_ne, mn_lt, mn_ge, mn_gt, mn_le, nm_eq, nm_ne, nm_lt, nm_ge, nm_gt, nm_le, n_gts_t, c_eq_refl, c_ne_refl, w_fold, w_2, wC_fold, lt_M, cond_true, cond_false, Bool.and_true, Bool.true_and, Bool.and_false, Bool.false_and, Bool.not_true, Bool.not_false, isZS_0, isZS_1, pM_33]
  rw [h_213_49, k179, Option.bind_some]
  simp (disch := omega) only [↓Bool.cond_eq_ite, ↓reduceIte, Bool.false_eq_true, eq_self, n_lit, n_neg, n_add, n_mul, n_sub, n_subM, n_div, n_mod, n_addM, m_div, m_subn, n_tN, n_inS, n_eq_t, n_eq_f, n_ne_t, n_ne_f, n_lt_t, n_lt_f, n_ge_t, n_ge_f, n_gt_t, n_gt_f, n_le_t, n_le_f, mn_eq, mn_ne, mn_lt, mn_ge, mn_gt, mn_le, nm_eq, nm_ne, nm_lt, nm_ge, nm_gt, nm_le, n_gts_t, c_eq_refl, c_ne_refl, w_fold, w_2, wC_fold, lt_M, cond_true, cond_false, Bool.and_true, Bool.true_and, Bool.and_false, Bool.false_and, Bool.not_true, Bool.not_false, isZS_0, isZS_1]
  rw [h_213_70]
  simp (disch := omega) only [↓Bool.cond_eq_ite, ↓reduceIte, Bool.false_eq_true, eq_self, n_lit, n_neg, n_add, n_mul, n_sub, n_subM, n_div, n_mod, n_addM, m_div, m_subn, n_tN, n_inS, n_eq_t, n_eq_f, n_ne_t, n_ne_f, n_lt_t, n_lt_f, n_ge_t, n_ge_f, n_gt_t, n_gt_f, n_le_t, n_le_f, mn_eq, mn_ne, mn_lt, mn_ge, mn_gt, mn_le, nm_eq, nm_ne, nm_lt, nm_ge, nm_gt, nm_le, n_gts_t, c_eq_refl, c_ne_refl, w_fold, w_2, wC_fold, lt_M, cond_true, cond_false, Bool.and_true, Bool.true_and, Bool.and_false, Bool.false_and, Bool.not_true, Bool.not_false, isZS_0, isZS_1, pM_33, pM_32, pM_34, pM_40, pM_w32, pM_w33, pM_w34, pM_w40, pM_wS, Nat.add_zero]
theorem l_opn (hM : mTx M n (bM β)) (hβ : ∀ i, i < n → β i ≤ 255) (hn : n ≤ 80) (ha : a < n) (hs : sn < 200) (hd : d < 8) (hl : β a = 40) : k27 L xs 1 (pM M a (oN 0) d vn V sn S) = k27 L xs 1 (pM M (a + 1) (oN 0) (d + 1) vn V (sn + 1) (upd S sn (oN 40))) := by
  have k179 := p_179 (L := L) (xs := xs) (b := oN 0) (d := d) (vn := vn) (V := V) (sn := sn) (S := S) hM (show a ≤ 80 by omega)
  rw [(lM_eq hβ (i := a) (c := 40) (by omega)).mpr ⟨ha, hl⟩] at k179
  unfold k27
  rw [h_213_27]
  simp (disch := omega) only [↓Bool.cond_eq_ite, ↓reduceIte, Bool.false_eq_true, eq_self, n_lit, n_neg, n_add, n_mul, n_sub, n_subM, n_div, n_mod, n_addM, m_div, m_subn, n_tN, n_inS, n_eq_t, n_eq_f, n_ne_t, n_ne_f, n_lt_t, n_lt_f, n_ge_t, n_ge_f, n_gt_t, n_gt_f, n_le_t, n_le_f, mn_eq, mn_ne, mn_lt, mn_ge, mn_gt, mn_le, nm_eq, nm_ne, nm_lt, nm_ge, nm_gt, nm_le, n_gts_t, c_eq_refl, c_ne_refl, w_fold, w_2, wC_fold, lt_M, cond_true, cond_false, Bool.and_true, Bool.true_and, Bool.and_false, Bool.false_and, Bool.not_true, Bool.not_false, isZS_0, isZS_1, pM_33]
  rw [h_213_49, k179, Option.bind_some]
  simp (disch := omega) only [↓Bool.cond_eq_ite, ↓reduceIte, Bool.false_eq_true, eq_self, n_lit, n_neg, n_add, n_mul, n_sub, n_subM, n_div, n_mod, n_addM, m_div, m_subn, n_tN, n_inS, n_eq_t, n_eq_f, n_ne_t, n_ne_f, n_lt_t, n_lt_f, n_ge_t, n_ge_f, n_gt_t, n_gt_f, n_le_t, n_le_f, mn_eq, mn_ne, mn_lt, mn_ge, mn_gt, mn_le, nm_eq, nm_ne, nm_lt, nm_ge, nm_gt, nm_le, n_gts_t, c_eq_refl, c_ne_refl, w_fold, w_2, wC_fold, lt_M, cond_true, cond_false, Bool.and_true, Bool.true_and, Bool.and_false, Bool.false_and, Bool.not_true, Bool.not_false, isZS_0, isZS_1]
  rw [h_213_70]
  simp (disch := omega) only [↓Bool.cond_eq_ite, ↓reduceIte, Bool.false_eq_true, eq_self, n_lit, n_neg, n_add, n_mul, n_sub, n_subM, n_div, n_mod, n_addM, m_div, m_subn, n_tN, n_inS, n_eq_t, n_eq_f, n_ne_t, n_ne_f, n_lt_t, n_lt_f, n_ge_t, n_ge_f, n_gt_t, n_gt_f, n_le_t, n_le_f, mn_eq, mn_ne, mn_lt, mn_ge, mn_gt, mn_le, nm_eq, nm_ne, nm_lt, nm_ge, nm_gt, nm_le, n_gts_t, c_eq_refl, c_ne_refl, w_fold, w_2, wC_fold, lt_M, cond_true, cond_false, Bool.and_true, Bool.true_and, Bool.and_false, Bool.false_and, Bool.not_true, Bool.not_false, isZS_0, isZS_1, pM_33, pM_32, pM_34, pM_40, pM_w32, pM_w33, pM_w34, pM_w40, pM_wS, Nat.add_zero]
theorem l_deep (hM : mTx M n (bM β)) (hβ : ∀ i, i < n → β i ≤ 255) (hn : n ≤ 80) (ha : a < n) (hl : β a = 40) : k27 L xs 1 (pM M a (oN 0) 8 vn V sn S) = some (some (vi (oN 0)), pM M a (oN 1) 8 vn V sn S) := by
  have k179 := p_179 (L := L) (xs := xs) (b := oN 0) (d := 8) (vn := vn) (V := V) (sn := sn) (S := S) hM (show a ≤ 80 by omega)
  rw [(lM_eq hβ (i := a) (c := 40) (by omega)).mpr ⟨ha, hl⟩] at k179
  have lb := l_bad (L := L) (xs := xs) (M := M) (a := a) (d := 8) (vn := vn) (V := V) (sn := sn) (S := S) (w := 1)
  unfold k27 at lb ⊢
  rw [h_213_27]
  simp (disch := omega) only [↓Bool.cond_eq_ite, ↓reduceIte, Bool.false_eq_true, eq_self, n_lit, n_neg, n_add, n_mul, n_sub, n_subM, n_div, n_mod, n_addM, m_div, m_subn, n_tN, n_inS, n_eq_t, n_eq_f, n_ne_t, n_ne_f, n_lt_t, n_lt_f, n_ge_t, n_ge_f, n_gt_t, n_gt_f, n_le_t, n_le_f, mn_eq, mn_ne, mn_lt, mn_ge, mn_gt, mn_le, nm_eq, nm_ne, nm_lt, nm_ge, nm_gt, nm_le, n_gts_t, c_eq_refl, c_ne_refl, w_fold, w_2, wC_fold, lt_M, cond_true, cond_false, Bool.and_true, Bool.true_and, Bool.and_false, Bool.false_and, Bool.not_true, Bool.not_false, isZS_0, isZS_1, pM_33]
  rw [h_213_49, k179, Option.bind_some]
  simp (disch := omega) only [↓Bool.cond_eq_ite, ↓reduceIte, Bool.false_eq_true, eq_self, n_lit, n_neg, n_add, n_mul, n_sub, n_subM, n_div, n_mod, n_addM, m_div, m_subn, n_tN, n_inS, n_eq_t, n_eq_f, n_ne_t, n_ne_f, n_lt_t, n_lt_f, n_ge_t, n_ge_f, n_gt_t, n_gt_f, n_le_t, n_le_f, mn_eq, mn_ne, mn_lt, mn_ge, mn_gt, mn_le, nm_eq, nm_ne, nm_lt, nm_ge, nm_gt, nm_le, n_gts_t, c_eq_refl, c_ne_refl, w_fold, w_2, wC_fold, lt_M, cond_true, cond_false, Bool.and_true, Bool.true_and, Bool.and_false, Bool.false_and, Bool.not_true, Bool.not_false, isZS_0, isZS_1]
  rw [h_213_70]
  simp (disch := omega) only [↓Bool.cond_eq_ite, ↓reduceIte, Bool.false_eq_true, eq_self, n_lit, n_neg, n_add, n_mul, n_sub, n_subM, n_div, n_mod, n_addM, m_div, m_subn, n_tN, n_inS, n_eq_t, n_eq_f, n_ne_t, n_ne_f, n_lt_t, n_lt_f, n_ge_t, n_ge_f, n_gt_t, n_gt_f, n_le_t, n_le_f, mn_eq, mn_ne, mn_lt, mn_ge, mn_gt, mn_le, nm_eq, nm_ne, nm_lt, nm_ge, nm_gt, nm_le, n_gts_t, c_eq_refl, c_ne_refl, w_fold, w_2, wC_fold, lt_M, cond_true, cond_false, Bool.and_true, Bool.true_and, Bool.and_false, Bool.false_and, Bool.not_true, Bool.not_false, isZS_0, isZS_1, pM_33, pM_34, pM_w33]
  exact lb
theorem l_tst (hM : mTx M n (bM β)) (hβ : ∀ i, i < n → β i ≤ 255) (hn : n ≤ 80) (ha : a ≤ n) (hl : ¬ (a < n ∧ (β a = 33 ∨ β a = 40))) {x b' : Int32} {j : Nat} {m' : mM} (hv : vn < 100) (hk : k212 L xs (pM M a (oN 0) d vn V sn S) = some (some (vi x), pM M j b' d vn V sn S)) (h232 : kV L xs 232 [vr 10 [1]] (pM M j b' d (vn + 1) (upd V vn (vp_nar .boolean x)) sn S) = some m') : k27 L xs 1 (pM M a (oN 0) d vn V sn S) = k27 L xs 0 m' := by
  have k179 := p_179 (L := L) (xs := xs) (b := oN 0) (d := d) (vn := vn) (V := V) (sn := sn) (S := S) hM (show a ≤ 80 by omega)
  have e1 := c_eq_h (fun e => hl ⟨((lM_eq hβ (by omega)).mp e).1, .inl ((lM_eq hβ (by omega)).mp e).2⟩ : ¬ lAt (bM β) n a = oN 33)
  have e2 := c_ne_h (fun e => hl ⟨((lM_eq hβ (by omega)).mp e).1, .inr ((lM_eq hβ (by omega)).mp e).2⟩ : ¬ lAt (bM β) n a = oN 40)
  have hk := kI_c (hk : call _ _ _ _ _ = _)
  unfold k27
  rw [h_213_27]
  simp (disch := omega) only [↓Bool.cond_eq_ite, ↓reduceIte, Bool.false_eq_true, eq_self, n_lit, n_neg, n_add, n_mul, n_sub, n_subM, n_div, n_mod, n_addM, m_div, m_subn, n_tN, n_inS, n_eq_t, n_eq_f, n_ne_t, n_ne_f, n_lt_t, n_lt_f, n_ge_t, n_ge_f, n_gt_t, n_gt_f, n_le_t, n_le_f, mn_eq, mn_ne, mn_lt, mn_ge, mn_gt, mn_le, nm_eq, nm_ne, nm_lt, nm_ge, nm_gt, nm_le, n_gts_t, c_eq_refl, c_ne_refl, w_fold, w_2, wC_fold, lt_M, cond_true, cond_false, Bool.and_true, Bool.true_and, Bool.and_false, Bool.false_and, Bool.not_true, Bool.not_false, isZS_0, isZS_1, pM_33]
  rw [h_213_49, k179, Option.bind_some]
  simp (disch := omega) only [↓Bool.cond_eq_ite, ↓reduceIte, Bool.false_eq_true, eq_self, n_lit, n_neg, n_add, n_mul, n_sub, n_subM, n_div, n_mod, n_addM, m_div, m_subn, n_tN, n_inS, n_eq_t, n_eq_f, n_ne_t, n_ne_f, n_lt_t, n_lt_f, n_ge_t, n_ge_f, n_gt_t, n_gt_f, n_le_t, n_le_f, mn_eq, mn_ne, mn_lt, mn_ge, mn_gt, mn_le, nm_eq, nm_ne, nm_lt, nm_ge, nm_gt, nm_le, n_gts_t, c_eq_refl, c_ne_refl, w_fold, w_2, wC_fold, lt_M, cond_true, cond_false, Bool.and_true, Bool.true_and, Bool.and_false, Bool.false_and, Bool.not_true, Bool.not_false, isZS_0, isZS_1, e1, e2]
  rw [h_213_154]
  simp (disch := omega) only [↓Bool.cond_eq_ite, ↓reduceIte, Bool.false_eq_true, eq_self, n_lit, n_neg, n_add, n_mul, n_sub, n_subM, n_div, n_mod, n_addM, m_div, m_subn, n_tN, n_inS, n_eq_t, n_eq_f, n_ne_t, n_ne_f, n_lt_t, n_lt_f, n_ge_t, n_ge_f, n_gt_t, n_gt_f, n_le_t, n_le_f, mn_eq, mn_ne, mn_lt, mn_ge, mn_gt, mn_le, nm_eq, nm_ne, nm_lt, nm_ge, nm_gt, nm_le, n_gts_t, c_eq_refl, c_ne_refl, w_fold, w_2, wC_fold, lt_M, cond_true, cond_false, Bool.and_true, Bool.true_and, Bool.and_false, Bool.false_and, Bool.not_true, Bool.not_false, isZS_0, isZS_1, pM_38, pM_w38, pM_wV, hk, h232, Option.bind_some]
end Text9
