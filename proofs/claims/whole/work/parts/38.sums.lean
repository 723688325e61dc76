section Sums
variable {L : Nat} {xs : Nat → Int32} {r : List Nat} {S : Nat → Int32} {C M : mM} {nc nw nb np nt now hm : Nat} {kd wa wb wd wl ws : Nat → Nat}
def sumN (f : Nat → Int32) : Nat → Int32
  | 0 => oN 0
  | n + 1 => sumN f n + f n
theorem sumN_congr {f g : Nat → Int32} : ∀ {n : Nat}, (∀ i, i < n → f i = g i) → sumN f n = sumN g n
  | 0, _ => rfl
  | n + 1, h => by
    show sumN f n + f n = sumN g n + g n
    rw [sumN_congr (fun i hi => h i (by omega)), h n (by omega)]
theorem add_o0 (v : Int32) : v + oN 0 = v := Int32.add_zero v
theorem loopB {Y : Nat → Int32 → mZ} {F : Nat → Int32} {nb : Nat} (h : ∀ b acc, b < nb → Y b acc = Y (b + 1) (acc + F b)) : ∀ b, b ≤ nb → Y 0 (oN 0) = Y b (sumN F b)
  | 0, _ => rfl
  | b + 1, hb => (loopB h b (by omega)).trans (h b _ (by omega))
theorem loopG {X : Nat → Int32 → mZ} {F : Nat → Int32} {nb : Nat} (kd : Nat → Nat) (h : ∀ b acc, b < nb → kd b = 0 → X (cntG kd b) acc = X (cntG kd b + 1) (acc + F b)) : ∀ b, b ≤ nb → X 0 (oN 0) = X (cntG kd b) (sumN (fun b => if kd b = 0 then F b else oN 0) b)
  | 0, _ => rfl
  | b + 1, hb => by
    refine (loopG kd h b (by omega)).trans ?_
    by_cases hk : kd b = 0
    · rw [h b _ (by omega) hk, cntG_t hk]
      show _ = X _ (_ + (if kd b = 0 then F b else oN 0))
      rw [if_pos hk]
    · rw [cntG_f hk]
      show _ = X _ (_ + (if kd b = 0 then F b else oN 0))
      rw [if_neg hk, add_o0]
def rG (r : List Nat) (C : mM) (nb : Nat) (kd : Nat → Nat) : Prop := C.1 r 11 = oN (cntG kd nb) ∧ nb ≤ 40 ∧ rGr r C nb kd
def mKd (M : mM) (nb : Nat) (kd : Nat → Nat) : Prop := M.1 [1, 1] 2 = oN nb ∧ nb ≤ 40 ∧ ∀ b, b < nb → kd b ≤ 5 ∧ M.1 [11, 1] b = oN (kd b)
theorem rP_rG (h : rP r S C M nc nw nb np nt now hm kd wa wb wd wl ws) : rG r C nb kd := ⟨h.1.2.2.2.2.2.1, h.1.2.2.2.2.2.2.2.2.2.2.2.2.2.2.2.1, h.2.2.2.2.2.2.2.1⟩
theorem rP_mK (h : rP r (M.1 [1, 1]) C M nc nw nb np nt now hm kd wa wb wd wl ws) : mKd M nb kd := ⟨h.1.2.2.2.2.2.2.2.2.2.1, h.1.2.2.2.2.2.2.2.2.2.2.2.2.2.2.2.1, fun b hb => by
  obtain ⟨⟨a, -, -, b, -⟩, -⟩ := h.2.2.2.2.2.2.1 b hb
  exact ⟨a, b⟩⟩

set_option maxHeartbeats 4000000 in
theorem s_26 (hG : rG r C nb kd) : kI L xs 26 [vr 2 r] C = some (sumN (fun b => if kd b = 0 then C.1 (b :: 10 :: r) 15 else oN 0) nb, C) := by
  obtain ⟨c1, c2, c3⟩ := hG
  refine kI_of ?_
  rw [e_26]
  have hle := cntG_le kd nb
  have := loopG (X := fun i acc => run L xs 26 26 (4, [some (vr 2 r), some (vi acc), some (vi (oN i))], [], C)) (F := fun b => C.1 (b :: 10 :: r) 15) (nb := nb) kd (fun b acc hb hk => by
    have h1 := cntG_lt kd hb hk
    have h2 := c3 b hb hk
    try dsimp only
    rw [h_26_4]
    simp (disch := omega) only [↓Bool.cond_eq_ite, ↓reduceIte, Bool.false_eq_true, eq_self, n_lit, n_neg, n_add, n_mul, n_sub, n_subM, n_div, n_mod, n_addM, m_div, m_subn, n_tN, n_inS, n_eq_t, n_eq_f, n_ne_t, n_ne_f, n_lt_t, n_lt_f, n_ge_t, n_ge_f, n_gt_t, n_gt_f, n_le_t, n_le_f, mn_eq, mn_ne, mn_lt, mn_ge, mn_gt, mn_le, nm_eq, nm_ne, nm_lt, nm_ge, nm_gt, nm_le, n_gts_t, c_eq_refl, c_ne_refl, w_fold, w_2, wC_fold, lt_M, cond_true, cond_false, Bool.and_true, Bool.true_and, Bool.and_false, Bool.false_and, Bool.not_true, Bool.not_false, isZS_0, isZS_1, c1, h2]) nb (Nat.le_refl _)
  try dsimp only at this
  simp only [n_lit]
  rw [this, h_26_4]
  simp (disch := omega) only [↓Bool.cond_eq_ite, ↓reduceIte, Bool.false_eq_true, eq_self, n_lit, n_neg, n_add, n_mul, n_sub, n_subM, n_div, n_mod, n_addM, m_div, m_subn, n_tN, n_inS, n_eq_t, n_eq_f, n_ne_t, n_ne_f, n_lt_t, n_lt_f, n_ge_t, n_ge_f, n_gt_t, n_gt_f, n_le_t, n_le_f, mn_eq, mn_ne, mn_lt, mn_ge, mn_gt, mn_le, nm_eq, nm_ne, nm_lt, nm_ge, nm_gt, nm_le, n_gts_t, c_eq_refl, c_ne_refl, w_fold, w_2, wC_fold, lt_M, cond_true, cond_false, Bool.and_true, Bool.true_and, Bool.and_false, Bool.false_and, Bool.not_true, Bool.not_false, isZS_0, isZS_1, c1]
set_option maxHeartbeats 4000000 in
theorem s_27 (hG : rG r C nb kd) : kI L xs 27 [vr 2 r] C = some (sumN (fun b => if kd b = 0 then C.1 (b :: 10 :: r) 14 else oN 0) nb, C) := by
  obtain ⟨c1, c2, c3⟩ := hG
  refine kI_of ?_
  rw [e_27]
  have hle := cntG_le kd nb
  have := loopG (X := fun i acc => run L xs 27 26 (4, [some (vr 2 r), some (vi acc), some (vi (oN i))], [], C)) (F := fun b => C.1 (b :: 10 :: r) 14) (nb := nb) kd (fun b acc hb hk => by
    have h1 := cntG_lt kd hb hk
    have h2 := c3 b hb hk
    try dsimp only
    rw [h_27_4]
    simp (disch := omega) only [↓Bool.cond_eq_ite, ↓reduceIte, Bool.false_eq_true, eq_self, n_lit, n_neg, n_add, n_mul, n_sub, n_subM, n_div, n_mod, n_addM, m_div, m_subn, n_tN, n_inS, n_eq_t, n_eq_f, n_ne_t, n_ne_f, n_lt_t, n_lt_f, n_ge_t, n_ge_f, n_gt_t, n_gt_f, n_le_t, n_le_f, mn_eq, mn_ne, mn_lt, mn_ge, mn_gt, mn_le, nm_eq, nm_ne, nm_lt, nm_ge, nm_gt, nm_le, n_gts_t, c_eq_refl, c_ne_refl, w_fold, w_2, wC_fold, lt_M, cond_true, cond_false, Bool.and_true, Bool.true_and, Bool.and_false, Bool.false_and, Bool.not_true, Bool.not_false, isZS_0, isZS_1, c1, h2]) nb (Nat.le_refl _)
  try dsimp only at this
  simp only [n_lit]
  rw [this, h_27_4]
  simp (disch := omega) only [↓Bool.cond_eq_ite, ↓reduceIte, Bool.false_eq_true, eq_self, n_lit, n_neg, n_add, n_mul, n_sub, n_subM, n_div, n_mod, n_addM, m_div, m_subn, n_tN, n_inS, n_eq_t, n_eq_f, n_ne_t, n_ne_f, n_lt_t, n_lt_f, n_ge_t, n_ge_f, n_gt_t, n_gt_f, n_le_t, n_le_f, mn_eq, mn_ne, mn_lt, mn_ge, mn_gt, mn_le, nm_eq, nm_ne, nm_lt, nm_ge, nm_gt, nm_le, n_gts_t, c_eq_refl, c_ne_refl, w_fold, w_2, wC_fold, lt_M, cond_true, cond_false, Bool.and_true, Bool.true_and, Bool.and_false, Bool.false_and, Bool.not_true, Bool.not_false, isZS_0, isZS_1, c1]
set_option maxHeartbeats 4000000 in
theorem s_28 (hG : rG r C nb kd) : kI L xs 28 [vr 2 r] C = some (sumN (fun b => if kd b = 0 then C.1 (b :: 10 :: r) 13 else oN 0) nb, C) := by
  obtain ⟨c1, c2, c3⟩ := hG
  refine kI_of ?_
  rw [e_28]
  have hle := cntG_le kd nb
  have := loopG (X := fun i acc => run L xs 28 26 (4, [some (vr 2 r), some (vi acc), some (vi (oN i))], [], C)) (F := fun b => C.1 (b :: 10 :: r) 13) (nb := nb) kd (fun b acc hb hk => by
    have h1 := cntG_lt kd hb hk
    have h2 := c3 b hb hk
    try dsimp only
    rw [h_28_4]
    simp (disch := omega) only [↓Bool.cond_eq_ite, ↓reduceIte, Bool.false_eq_true, eq_self, n_lit, n_neg, n_add, n_mul, n_sub, n_subM, n_div, n_mod, n_addM, m_div, m_subn, n_tN, n_inS, n_eq_t, n_eq_f, n_ne_t, n_ne_f, n_lt_t, n_lt_f, n_ge_t, n_ge_f, n_gt_t, n_gt_f, n_le_t, n_le_f, mn_eq, mn_ne, mn_lt, mn_ge, mn_gt, mn_le, nm_eq, nm_ne, nm_lt, nm_ge, nm_gt, nm_le, n_gts_t, c_eq_refl, c_ne_refl, w_fold, w_2, wC_fold, lt_M, cond_true, cond_false, Bool.and_true, Bool.true_and, Bool.and_false, Bool.false_and, Bool.not_true, Bool.not_false, isZS_0, isZS_1, c1, h2]) nb (Nat.le_refl _)
  try dsimp only at this
  simp only [n_lit]
  rw [this, h_28_4]
  simp (disch := omega) only [↓Bool.cond_eq_ite, ↓reduceIte, Bool.false_eq_true, eq_self, n_lit, n_neg, n_add, n_mul, n_sub, n_subM, n_div, n_mod, n_addM, m_div, m_subn, n_tN, n_inS, n_eq_t, n_eq_f, n_ne_t, n_ne_f, n_lt_t, n_lt_f, n_ge_t, n_ge_f, n_gt_t, n_gt_f, n_le_t, n_le_f, mn_eq, mn_ne, mn_lt, mn_ge, mn_gt, mn_le, nm_eq, nm_ne, nm_lt, nm_ge, nm_gt, nm_le, n_gts_t, c_eq_refl, c_ne_refl, w_fold, w_2, wC_fold, lt_M, cond_true, cond_false, Bool.and_true, Bool.true_and, Bool.and_false, Bool.false_and, Bool.not_true, Bool.not_false, isZS_0, isZS_1, c1]
set_option maxHeartbeats 4000000 in
theorem s_29 (hG : rG r C nb kd) : kI L xs 29 [vr 2 r] C = some (sumN (fun b => if kd b = 0 then C.1 (b :: 10 :: r) 6 else oN 0) nb, C) := by
  obtain ⟨c1, c2, c3⟩ := hG
  refine kI_of ?_
  rw [e_29]
  have hle := cntG_le kd nb
  have := loopG (X := fun i acc => run L xs 29 26 (4, [some (vr 2 r), some (vi acc), some (vi (oN i))], [], C)) (F := fun b => C.1 (b :: 10 :: r) 6) (nb := nb) kd (fun b acc hb hk => by
    have h1 := cntG_lt kd hb hk
    have h2 := c3 b hb hk
    try dsimp only
    rw [h_29_4]
    simp (disch := omega) only [↓Bool.cond_eq_ite, ↓reduceIte, Bool.false_eq_true, eq_self, n_lit, n_neg, n_add, n_mul, n_sub, n_subM, n_div, n_mod, n_addM, m_div, m_subn, n_tN, n_inS, n_eq_t, n_eq_f, n_ne_t, n_ne_f, n_lt_t, n_lt_f, n_ge_t, n_ge_f, n_gt_t, n_gt_f, n_le_t, n_le_f, mn_eq, mn_ne, mn_lt, mn_ge, mn_gt, mn_le, nm_eq, nm_ne, nm_lt, nm_ge, nm_gt, nm_le, n_gts_t, c_eq_refl, c_ne_refl, w_fold, w_2, wC_fold, lt_M, cond_true, cond_false, Bool.and_true, Bool.true_and, Bool.and_false, Bool.false_and, Bool.not_true, Bool.not_false, isZS_0, isZS_1, c1, h2]) nb (Nat.le_refl _)
  try dsimp only at this
  simp only [n_lit]
  rw [this, h_29_4]
  simp (disch := omega) only [↓Bool.cond_eq_ite, ↓reduceIte, Bool.false_eq_true, eq_self, n_lit, n_neg, n_add, n_mul, n_sub, n_subM, n_div, n_mod, n_addM, m_div, m_subn, n_tN, n_inS, n_eq_t, n_eq_f, n_ne_t, n_ne_f, n_lt_t, n_lt_f, n_ge_t, n_ge_f, n_gt_t, n_gt_f, n_le_t, n_le_f, mn_eq, mn_ne, mn_lt, mn_ge, mn_gt, mn_le, nm_eq, nm_ne, nm_lt, nm_ge, nm_gt, nm_le, n_gts_t, c_eq_refl, c_ne_refl, w_fold, w_2, wC_fold, lt_M, cond_true, cond_false, Bool.and_true, Bool.true_and, Bool.and_false, Bool.false_and, Bool.not_true, Bool.not_false, isZS_0, isZS_1, c1]
set_option maxHeartbeats 4000000 in
theorem s_34 {w : Nat} (hw : w < nw) (hnw : nw ≤ 24) (hG : rG r C nb kd) : kI L xs 34 [vr 2 r, vi (oN w)] C = some (sumN (fun b => if kd b = 0 then (if C.1 (b :: 10 :: r) 3 = oN w then C.1 (b :: 10 :: r) 6 else oN 0) else oN 0) nb, C) := by
  obtain ⟨c1, c2, c3⟩ := hG
  refine kI_of ?_
  rw [e_34]
  have hle := cntG_le kd nb
  have := loopG (X := fun i acc => run L xs 34 26 (4, [some (vr 2 r), some (vi (oN w)), some (vi acc), some (vi (oN i))], [], C)) (F := fun b => if C.1 (b :: 10 :: r) 3 = oN w then C.1 (b :: 10 :: r) 6 else oN 0) (nb := nb) kd (fun b acc hb hk => by
    have h1 := cntG_lt kd hb hk
    have h2 := c3 b hb hk
    try dsimp only
    rw [h_34_4]
    simp (disch := omega) only [↓Bool.cond_eq_ite, ↓reduceIte, Bool.false_eq_true, eq_self, n_lit, n_neg, n_add, n_mul, n_sub, n_subM, n_div, n_mod, n_addM, m_div, m_subn, n_tN, n_inS, n_eq_t, n_eq_f, n_ne_t, n_ne_f, n_lt_t, n_lt_f, n_ge_t, n_ge_f, n_gt_t, n_gt_f, n_le_t, n_le_f, mn_eq, mn_ne, mn_lt, mn_ge, mn_gt, mn_le, nm_eq, nm_ne, nm_lt, nm_ge, nm_gt, nm_le, n_gts_t, c_eq_refl, c_ne_refl, w_fold, w_2, wC_fold, lt_M, cond_true, cond_false, Bool.and_true, Bool.true_and, Bool.and_false, Bool.false_and, Bool.not_true, Bool.not_false, isZS_0, isZS_1, c1, h2, c_ne]
    by_cases q : C.1 (b :: 10 :: r) 3 = oN w
    · rw [decide_eq_true q, if_pos q]; rfl
    · rw [decide_eq_false q, if_neg q, add_o0]; rfl) nb (Nat.le_refl _)
  try dsimp only at this
  simp only [n_lit]
  rw [this, h_34_4]
  simp (disch := omega) only [↓Bool.cond_eq_ite, ↓reduceIte, Bool.false_eq_true, eq_self, n_lit, n_neg, n_add, n_mul, n_sub, n_subM, n_div, n_mod, n_addM, m_div, m_subn, n_tN, n_inS, n_eq_t, n_eq_f, n_ne_t, n_ne_f, n_lt_t, n_lt_f, n_ge_t, n_ge_f, n_gt_t, n_gt_f, n_le_t, n_le_f, mn_eq, mn_ne, mn_lt, mn_ge, mn_gt, mn_le, nm_eq, nm_ne, nm_lt, nm_ge, nm_gt, nm_le, n_gts_t, c_eq_refl, c_ne_refl, w_fold, w_2, wC_fold, lt_M, cond_true, cond_false, Bool.and_true, Bool.true_and, Bool.and_false, Bool.false_and, Bool.not_true, Bool.not_false, isZS_0, isZS_1, c1]
set_option maxHeartbeats 4000000 in
theorem s_177 {w : Nat} (hw : w < nw) (hnw : nw ≤ 24) (hK : mKd M nb kd) : kI L xs 177 [vr 10 [1], vi (oN w)] M = some (sumN (fun b => if kd b = 0 then (if M.1 [1, 1] (200 + 16 * b + 1) = oN w then M.1 [1, 1] (200 + 16 * b + 3) else oN 0) else oN 0) nb, M) := by
  obtain ⟨c1, c2, c3⟩ := hK
  refine kI_of ?_
  rw [e_177]
  have := loopB (Y := fun i acc => run L xs 177 26 (4, [some (vr 10 [1]), some (vi (oN w)), some (vi acc), some (vi (oN i))], [], M)) (F := fun b => if kd b = 0 then (if M.1 [1, 1] (200 + 16 * b + 1) = oN w then M.1 [1, 1] (200 + 16 * b + 3) else oN 0) else oN 0) (nb := nb) (fun b acc hb => by
    obtain ⟨h1, h2⟩ := c3 b hb
    try dsimp only
    rw [h_177_4]
    by_cases hk : kd b = 0
    · rw [if_pos hk]
      rw [hk] at h2
      simp (disch := omega) only [↓Bool.cond_eq_ite, ↓reduceIte, Bool.false_eq_true, eq_self, n_lit, n_neg, n_add, n_mul, n_sub, n_subM, n_div, n_mod, n_addM, m_div, m_subn, n_tN, n_inS, n_eq_t, n_eq_f, n_ne_t, n_ne_f, n_lt_t, n_lt_f, n_ge_t, n_ge_f, n_gt_t, n_gt_f, n_le_t, n_le_f, mn_eq, mn_ne, mn_lt, mn_ge, mn_gt, mn_le, nm_eq, nm_ne, nm_lt, nm_ge, nm_gt, nm_le, n_gts_t, c_eq_refl, c_ne_refl, w_fold, w_2, wC_fold, lt_M, cond_true, cond_false, Bool.and_true, Bool.true_and, Bool.and_false, Bool.false_and, Bool.not_true, Bool.not_false, isZS_0, isZS_1, c1, h2, c_ne]
      by_cases q : M.1 [1, 1] (200 + 16 * b + 1) = oN w
      · simp (disch := omega) only [↓Bool.cond_eq_ite, ↓reduceIte, Bool.false_eq_true, eq_self, n_lit, n_neg, n_add, n_mul, n_sub, n_subM, n_div, n_mod, n_addM, m_div, m_subn, n_tN, n_inS, n_eq_t, n_eq_f, n_ne_t, n_ne_f, n_lt_t, n_lt_f, n_ge_t, n_ge_f, n_gt_t, n_gt_f, n_le_t, n_le_f, mn_eq, mn_ne, mn_lt, mn_ge, mn_gt, mn_le, nm_eq, nm_ne, nm_lt, nm_ge, nm_gt, nm_le, n_gts_t, c_eq_refl, c_ne_refl, w_fold, w_2, wC_fold, lt_M, cond_true, cond_false, Bool.and_true, Bool.true_and, Bool.and_false, Bool.false_and, Bool.not_true, Bool.not_false, isZS_0, isZS_1, q, if_true, decide_true]
      · simp (disch := omega) only [↓Bool.cond_eq_ite, ↓reduceIte, Bool.false_eq_true, eq_self, n_lit, n_neg, n_add, n_mul, n_sub, n_subM, n_div, n_mod, n_addM, m_div, m_subn, n_tN, n_inS, n_eq_t, n_eq_f, n_ne_t, n_ne_f, n_lt_t, n_lt_f, n_ge_t, n_ge_f, n_gt_t, n_gt_f, n_le_t, n_le_f, mn_eq, mn_ne, mn_lt, mn_ge, mn_gt, mn_le, nm_eq, nm_ne, nm_lt, nm_ge, nm_gt, nm_le, n_gts_t, c_eq_refl, c_ne_refl, w_fold, w_2, wC_fold, lt_M, cond_true, cond_false, Bool.and_true, Bool.true_and, Bool.and_false, Bool.false_and, Bool.not_true, Bool.not_false, isZS_0, isZS_1, q, if_false, decide_false, add_o0]
    · rw [if_neg hk]
      simp (disch := omega) only [↓Bool.cond_eq_ite, ↓reduceIte, Bool.false_eq_true, eq_self, n_lit, n_neg, n_add, n_mul, n_sub, n_subM, n_div, n_mod, n_addM, m_div, m_subn, n_tN, n_inS, n_eq_t, n_eq_f, n_ne_t, n_ne_f, n_lt_t, n_lt_f, n_ge_t, n_ge_f, n_gt_t, n_gt_f, n_le_t, n_le_f, mn_eq, mn_ne, mn_lt, mn_ge, mn_gt, mn_le, nm_eq, nm_ne, nm_lt, nm_ge, nm_gt, nm_le, n_gts_t, c_eq_refl, c_ne_refl, w_fold, w_2, wC_fold, lt_M, cond_true, cond_false, Bool.and_true, Bool.true_and, Bool.and_false, Bool.false_and, Bool.not_true, Bool.not_false, isZS_0, isZS_1, c1, h2]) nb (Nat.le_refl _)
  try dsimp only at this
  simp only [n_lit]
  rw [this, h_177_4]
  simp (disch := omega) only [↓Bool.cond_eq_ite, ↓reduceIte, Bool.false_eq_true, eq_self, n_lit, n_neg, n_add, n_mul, n_sub, n_subM, n_div, n_mod, n_addM, m_div, m_subn, n_tN, n_inS, n_eq_t, n_eq_f, n_ne_t, n_ne_f, n_lt_t, n_lt_f, n_ge_t, n_ge_f, n_gt_t, n_gt_f, n_le_t, n_le_f, mn_eq, mn_ne, mn_lt, mn_ge, mn_gt, mn_le, nm_eq, nm_ne, nm_lt, nm_ge, nm_gt, nm_le, n_gts_t, c_eq_refl, c_ne_refl, w_fold, w_2, wC_fold, lt_M, cond_true, cond_false, Bool.and_true, Bool.true_and, Bool.and_false, Bool.false_and, Bool.not_true, Bool.not_false, isZS_0, isZS_1, c1]
set_option maxHeartbeats 4000000 in
theorem s_229 {f : Nat} (hf : f < 16) (hK : mKd M nb kd) : kI L xs 229 [vr 10 [1], vi (oN f)] M = some (sumN (fun b => if kd b = 0 then M.1 [1, 1] (200 + 16 * b + f) else oN 0) nb, M) := by
  obtain ⟨c1, c2, c3⟩ := hK
  refine kI_of ?_
  rw [e_229]
  have := loopB (Y := fun i acc => run L xs 229 26 (4, [some (vr 10 [1]), some (vi (oN f)), some (vi acc), some (vi (oN i))], [], M)) (F := fun b => if kd b = 0 then M.1 [1, 1] (200 + 16 * b + f) else oN 0) (nb := nb) (fun b acc hb => by
    obtain ⟨h1, h2⟩ := c3 b hb
    try dsimp only
    rw [h_229_4]
    by_cases hk : kd b = 0
    · rw [if_pos hk]
      rw [hk] at h2
      simp (disch := omega) only [↓Bool.cond_eq_ite, ↓reduceIte, Bool.false_eq_true, eq_self, n_lit, n_neg, n_add, n_mul, n_sub, n_subM, n_div, n_mod, n_addM, m_div, m_subn, n_tN, n_inS, n_eq_t, n_eq_f, n_ne_t, n_ne_f, n_lt_t, n_lt_f, n_ge_t, n_ge_f, n_gt_t, n_gt_f, n_le_t, n_le_f, mn_eq, mn_ne, mn_lt, mn_ge, mn_gt, mn_le, nm_eq, nm_ne, nm_lt, nm_ge, nm_gt, nm_le, n_gts_t, c_eq_refl, c_ne_refl, w_fold, w_2, wC_fold, lt_M, cond_true, cond_false, Bool.and_true, Bool.true_and, Bool.and_false, Bool.false_and, Bool.not_true, Bool.not_false, isZS_0, isZS_1, c1, h2]
    · rw [if_neg hk]
      simp (disch := omega) only [↓Bool.cond_eq_ite, ↓reduceIte, Bool.false_eq_true, eq_self, n_lit, n_neg, n_add, n_mul, n_sub, n_subM, n_div, n_mod, n_addM, m_div, m_subn, n_tN, n_inS, n_eq_t, n_eq_f, n_ne_t, n_ne_f, n_lt_t, n_lt_f, n_ge_t, n_ge_f, n_gt_t, n_gt_f, n_le_t, n_le_f, mn_eq, mn_ne, mn_lt, mn_ge, mn_gt, mn_le, nm_eq, nm_ne, nm_lt, nm_ge, nm_gt, nm_le, n_gts_t, c_eq_refl, c_ne_refl, w_fold, w_2, wC_fold, lt_M, cond_true, cond_false, Bool.and_true, Bool.true_and, Bool.and_false, Bool.false_and, Bool.not_true, Bool.not_false, isZS_0, isZS_1, c1, h2]) nb (Nat.le_refl _)
  try dsimp only at this
  simp only [n_lit]
  rw [this, h_229_4]
  simp (disch := omega) only [↓Bool.cond_eq_ite, ↓reduceIte, Bool.false_eq_true, eq_self, n_lit, n_neg, n_add, n_mul, n_sub, n_subM, n_div, n_mod, n_addM, m_div, m_subn, n_tN, n_inS, n_eq_t, n_eq_f, n_ne_t, n_ne_f, n_lt_t, n_lt_f, n_ge_t, n_ge_f, n_gt_t, n_gt_f, n_le_t, n_le_f, mn_eq, mn_ne, mn_lt, mn_ge, mn_gt, mn_le, nm_eq, nm_ne, nm_lt, nm_ge, nm_gt, nm_le, n_gts_t, c_eq_refl, c_ne_refl, w_fold, w_2, wC_fold, lt_M, cond_true, cond_false, Bool.and_true, Bool.true_and, Bool.and_false, Bool.false_and, Bool.not_true, Bool.not_false, isZS_0, isZS_1, c1]
theorem s_176 (hK : mKd M nb kd) : kI L xs 176 [vr 10 [1]] M = some (oN (cntG kd nb), M) := by
  obtain ⟨c1, c2, c3⟩ := hK
  refine kI_of ?_
  rw [e_176]
  have key : ∀ b, b ≤ nb → run L xs 176 25 (4, [some (vr 10 [1]), some (vi (oN 0)), some (vi (oN 0))], [], M) = run L xs 176 25 (4, [some (vr 10 [1]), some (vi (oN (cntG kd b))), some (vi (oN b))], [], M) := by
    intro b
    induction b with
    | zero => intro _; rfl
    | succ b ih =>
      intro hb
      rw [ih (by omega), h_176_4]
      obtain ⟨h1, h2⟩ := c3 b (by omega)
      by_cases hk : kd b = 0
      · rw [cntG_t hk]
        rw [hk] at h2
        simp (disch := omega) only [↓Bool.cond_eq_ite, ↓reduceIte, Bool.false_eq_true, eq_self, n_lit, n_neg, n_add, n_mul, n_sub, n_subM, n_div, n_mod, n_addM, m_div, m_subn, n_tN, n_inS, n_eq_t, n_eq_f, n_ne_t, n_ne_f, n_lt_t, n_lt_f, n_ge_t, n_ge_f, n_gt_t, n_gt_f, n_le_t, n_le_f, mn_eq, mn_ne, mn_lt, mn_ge, mn_gt, mn_le, nm_eq, nm_ne, nm_lt, nm_ge, nm_gt, nm_le, n_gts_t, c_eq_refl, c_ne_refl, w_fold, w_2, wC_fold, lt_M, cond_true, cond_false, Bool.and_true, Bool.true_and, Bool.and_false, Bool.false_and, Bool.not_true, Bool.not_false, isZS_0, isZS_1, c1, h2]
      · rw [cntG_f hk]
        simp (disch := omega) only [↓Bool.cond_eq_ite, ↓reduceIte, Bool.false_eq_true, eq_self, n_lit, n_neg, n_add, n_mul, n_sub, n_subM, n_div, n_mod, n_addM, m_div, m_subn, n_tN, n_inS, n_eq_t, n_eq_f, n_ne_t, n_ne_f, n_lt_t, n_lt_f, n_ge_t, n_ge_f, n_gt_t, n_gt_f, n_le_t, n_le_f, mn_eq, mn_ne, mn_lt, mn_ge, mn_gt, mn_le, nm_eq, nm_ne, nm_lt, nm_ge, nm_gt, nm_le, n_gts_t, c_eq_refl, c_ne_refl, w_fold, w_2, wC_fold, lt_M, cond_true, cond_false, Bool.and_true, Bool.true_and, Bool.and_false, Bool.false_and, Bool.not_true, Bool.not_false, isZS_0, isZS_1, c1, h2, Nat.add_zero]
  simp only [n_lit]
  rw [key nb (Nat.le_refl _), h_176_4]
  simp (disch := omega) only [↓Bool.cond_eq_ite, ↓reduceIte, Bool.false_eq_true, eq_self, n_lit, n_neg, n_add, n_mul, n_sub, n_subM, n_div, n_mod, n_addM, m_div, m_subn, n_tN, n_inS, n_eq_t, n_eq_f, n_ne_t, n_ne_f, n_lt_t, n_lt_f, n_ge_t, n_ge_f, n_gt_t, n_gt_f, n_le_t, n_le_f, mn_eq, mn_ne, mn_lt, mn_ge, mn_gt, mn_le, nm_eq, nm_ne, nm_lt, nm_ge, nm_gt, nm_le, n_gts_t, c_eq_refl, c_ne_refl, w_fold, w_2, wC_fold, lt_M, cond_true, cond_false, Bool.and_true, Bool.true_and, Bool.and_false, Bool.false_and, Bool.not_true, Bool.not_false, isZS_0, isZS_1, c1]
theorem s_30 (hc : C.1 r 2 = oN nc) (h16 : nc ≤ 16) : kI L xs 30 [vr 2 r] C = some (sumN (fun i => C.1 (5 :: r) i) nc, C) := by
  refine kI_of ?_
  rw [e_30]
  have := loopB (Y := fun i acc => run L xs 30 25 (4, [some (vr 2 r), some (vi acc), some (vi (oN i))], [], C)) (F := fun i => C.1 (5 :: r) i) (nb := nc) (fun b acc hb => by
    try dsimp only
    rw [h_30_4]
    simp (disch := omega) only [↓Bool.cond_eq_ite, ↓reduceIte, Bool.false_eq_true, eq_self, n_lit, n_neg, n_add, n_mul, n_sub, n_subM, n_div, n_mod, n_addM, m_div, m_subn, n_tN, n_inS, n_eq_t, n_eq_f, n_ne_t, n_ne_f, n_lt_t, n_lt_f, n_ge_t, n_ge_f, n_gt_t, n_gt_f, n_le_t, n_le_f, mn_eq, mn_ne, mn_lt, mn_ge, mn_gt, mn_le, nm_eq, nm_ne, nm_lt, nm_ge, nm_gt, nm_le, n_gts_t, c_eq_refl, c_ne_refl, w_fold, w_2, wC_fold, lt_M, cond_true, cond_false, Bool.and_true, Bool.true_and, Bool.and_false, Bool.false_and, Bool.not_true, Bool.not_false, isZS_0, isZS_1, hc]) nc (Nat.le_refl _)
  try dsimp only at this
  simp only [n_lit]
  rw [this, h_30_4]
  simp (disch := omega) only [↓Bool.cond_eq_ite, ↓reduceIte, Bool.false_eq_true, eq_self, n_lit, n_neg, n_add, n_mul, n_sub, n_subM, n_div, n_mod, n_addM, m_div, m_subn, n_tN, n_inS, n_eq_t, n_eq_f, n_ne_t, n_ne_f, n_lt_t, n_lt_f, n_ge_t, n_ge_f, n_gt_t, n_gt_f, n_le_t, n_le_f, mn_eq, mn_ne, mn_lt, mn_ge, mn_gt, mn_le, nm_eq, nm_ne, nm_lt, nm_ge, nm_gt, nm_le, n_gts_t, c_eq_refl, c_ne_refl, w_fold, w_2, wC_fold, lt_M, cond_true, cond_false, Bool.and_true, Bool.true_and, Bool.and_false, Bool.false_and, Bool.not_true, Bool.not_false, isZS_0, isZS_1, hc]
theorem s_160w (hc : M.1 [1, 1] 0 = oN nc) (h16 : nc ≤ 16) : run L xs 160 27 (191, [some (vr 10 [1]), none, some (vi (oN 0)), some (vi (oN 0))], [], M) = some (some (vi (sumN (fun i => M.1 [1, 1] (10 + i)) nc)), M) := by
  have := loopB (Y := fun i acc => run L xs 160 27 (191, [some (vr 10 [1]), none, some (vi acc), some (vi (oN i))], [], M)) (F := fun i => M.1 [1, 1] (10 + i)) (nb := nc) (fun b acc hb => by
    try dsimp only
    rw [h_160_191]
    simp (disch := omega) only [↓Bool.cond_eq_ite, ↓reduceIte, Bool.false_eq_true, eq_self, n_lit, n_neg, n_add, n_mul, n_sub, n_subM, n_div, n_mod, n_addM, m_div, m_subn, n_tN, n_inS, n_eq_t, n_eq_f, n_ne_t, n_ne_f, n_lt_t, n_lt_f, n_ge_t, n_ge_f, n_gt_t, n_gt_f, n_le_t, n_le_f, mn_eq, mn_ne, mn_lt, mn_ge, mn_gt, mn_le, nm_eq, nm_ne, nm_lt, nm_ge, nm_gt, nm_le, n_gts_t, c_eq_refl, c_ne_refl, w_fold, w_2, wC_fold, lt_M, cond_true, cond_false, Bool.and_true, Bool.true_and, Bool.and_false, Bool.false_and, Bool.not_true, Bool.not_false, isZS_0, isZS_1, hc]) nc (Nat.le_refl _)
  try dsimp only at this
  rw [this, h_160_191]
  simp (disch := omega) only [↓Bool.cond_eq_ite, ↓reduceIte, Bool.false_eq_true, eq_self, n_lit, n_neg, n_add, n_mul, n_sub, n_subM, n_div, n_mod, n_addM, m_div, m_subn, n_tN, n_inS, n_eq_t, n_eq_f, n_ne_t, n_ne_f, n_lt_t, n_lt_f, n_ge_t, n_ge_f, n_gt_t, n_gt_f, n_le_t, n_le_f, mn_eq, mn_ne, mn_lt, mn_ge, mn_gt, mn_le, nm_eq, nm_ne, nm_lt, nm_ge, nm_gt, nm_le, n_gts_t, c_eq_refl, c_ne_refl, w_fold, w_2, wC_fold, lt_M, cond_true, cond_false, Bool.and_true, Bool.true_and, Bool.and_false, Bool.false_and, Bool.not_true, Bool.not_false, isZS_0, isZS_1, hc]
theorem s_37 (hB : C.1 r 9 = oN nb) (h40 : nb ≤ 40) (hk : ∀ b, b < nb → kd b ≤ 5 ∧ C.1 (b :: 10 :: r) 1 = oN (kd b)) (hp : ∀ b, b < nb → opt (C.1 (b :: 10 :: r) 2) (S (200 + 16 * b)) 16) :
    kI L xs 37 [vr 2 r] C = some (sumN (fun b => if kd b = 1 then (if C.1 (b :: 10 :: r) 2 = oM 1 then oN 0 else oN 1) else oN 0) nb, C) := by
  refine kI_of ?_
  rw [e_37]
  have := loopB (Y := fun i acc => run L xs 37 25 (4, [some (vr 2 r), some (vi acc), some (vi (oN i))], [], C)) (F := fun b => if kd b = 1 then (if C.1 (b :: 10 :: r) 2 = oM 1 then oN 0 else oN 1) else oN 0) (nb := nb) (fun b acc hb => by
    obtain ⟨h1, h2⟩ := hk b hb
    try dsimp only
    rw [h_37_4]
    by_cases q : kd b = 1
    · rw [q] at h2
      rw [if_pos q]
      rcases hp b hb with ⟨h3, -⟩ | ⟨c, h4, h3, -⟩
      · rw [h3, if_pos rfl]
        simp (disch := omega) only [↓Bool.cond_eq_ite, ↓reduceIte, Bool.false_eq_true, eq_self, n_lit, n_neg, n_add, n_mul, n_sub, n_subM, n_div, n_mod, n_addM, m_div, m_subn, n_tN, n_inS, n_eq_t, n_eq_f, n_ne_t, n_ne_f, n_lt_t, n_lt_f, n_ge_t, n_ge_f, n_gt_t, n_gt_f, n_le_t, n_le_f, mn_eq, mn_ne, mn_lt, mn_ge, mn_gt, mn_le, nm_eq, nm_ne, nm_lt, nm_ge, nm_gt, nm_le, n_gts_t, c_eq_refl, c_ne_refl, w_fold, w_2, wC_fold, lt_M, cond_true, cond_false, Bool.and_true, Bool.true_and, Bool.and_false, Bool.false_and, Bool.not_true, Bool.not_false, isZS_0, isZS_1, hB, h2, h3, add_o0]
      · rw [h3, if_neg (fun e => by have := congrArg Int32.toInt e; rw [n_toI (by omega), m_toI (by omega)] at this; omega)]
        simp (disch := omega) only [↓Bool.cond_eq_ite, ↓reduceIte, Bool.false_eq_true, eq_self, n_lit, n_neg, n_add, n_mul, n_sub, n_subM, n_div, n_mod, n_addM, m_div, m_subn, n_tN, n_inS, n_eq_t, n_eq_f, n_ne_t, n_ne_f, n_lt_t, n_lt_f, n_ge_t, n_ge_f, n_gt_t, n_gt_f, n_le_t, n_le_f, mn_eq, mn_ne, mn_lt, mn_ge, mn_gt, mn_le, nm_eq, nm_ne, nm_lt, nm_ge, nm_gt, nm_le, n_gts_t, c_eq_refl, c_ne_refl, w_fold, w_2, wC_fold, lt_M, cond_true, cond_false, Bool.and_true, Bool.true_and, Bool.and_false, Bool.false_and, Bool.not_true, Bool.not_false, isZS_0, isZS_1, hB, h2, h3]
    · rw [if_neg q]
      simp (disch := omega) only [↓Bool.cond_eq_ite, ↓reduceIte, Bool.false_eq_true, eq_self, n_lit, n_neg, n_add, n_mul, n_sub, n_subM, n_div, n_mod, n_addM, m_div, m_subn, n_tN, n_inS, n_eq_t, n_eq_f, n_ne_t, n_ne_f, n_lt_t, n_lt_f, n_ge_t, n_ge_f, n_gt_t, n_gt_f, n_le_t, n_le_f, mn_eq, mn_ne, mn_lt, mn_ge, mn_gt, mn_le, nm_eq, nm_ne, nm_lt, nm_ge, nm_gt, nm_le, n_gts_t, c_eq_refl, c_ne_refl, w_fold, w_2, wC_fold, lt_M, cond_true, cond_false, Bool.and_true, Bool.true_and, Bool.and_false, Bool.false_and, Bool.not_true, Bool.not_false, isZS_0, isZS_1, hB, h2, add_o0]) nb (Nat.le_refl _)
  try dsimp only at this
  simp only [n_lit]
  rw [this, h_37_4]
  simp (disch := omega) only [↓Bool.cond_eq_ite, ↓reduceIte, Bool.false_eq_true, eq_self, n_lit, n_neg, n_add, n_mul, n_sub, n_subM, n_div, n_mod, n_addM, m_div, m_subn, n_tN, n_inS, n_eq_t, n_eq_f, n_ne_t, n_ne_f, n_lt_t, n_lt_f, n_ge_t, n_ge_f, n_gt_t, n_gt_f, n_le_t, n_le_f, mn_eq, mn_ne, mn_lt, mn_ge, mn_gt, mn_le, nm_eq, nm_ne, nm_lt, nm_ge, nm_gt, nm_le, n_gts_t, c_eq_refl, c_ne_refl, w_fold, w_2, wC_fold, lt_M, cond_true, cond_false, Bool.and_true, Bool.true_and, Bool.and_false, Bool.false_and, Bool.not_true, Bool.not_false, isZS_0, isZS_1, hB]
theorem s_160s (hK : mKd M nb kd) (hp : ∀ b, b < nb → opt (C.1 (b :: 10 :: r) 2) (M.1 [1, 1] (200 + 16 * b)) 16) :
    run L xs 160 27 (145, [some (vr 10 [1]), none, some (vi (oN 0)), some (vi (oN 0))], [], M) = some (some (vi (sumN (fun b => if kd b = 1 then (if C.1 (b :: 10 :: r) 2 = oM 1 then oN 0 else oN 1) else oN 0) nb)), M) := by
  obtain ⟨c1, c2, c3⟩ := hK
  have := loopB (Y := fun i acc => run L xs 160 27 (145, [some (vr 10 [1]), none, some (vi acc), some (vi (oN i))], [], M)) (F := fun b => if kd b = 1 then (if C.1 (b :: 10 :: r) 2 = oM 1 then oN 0 else oN 1) else oN 0) (nb := nb) (fun b acc hb => by
    obtain ⟨h1, h2⟩ := c3 b hb
    try dsimp only
    rw [h_160_145]
    by_cases q : kd b = 1
    · rw [q] at h2
      rw [if_pos q]
      rcases hp b hb with ⟨h3, h5⟩ | ⟨c, h4, h3, h5⟩
      · rw [h3, if_pos rfl]
        simp (disch := omega) only [↓Bool.cond_eq_ite, ↓reduceIte, Bool.false_eq_true, eq_self, n_lit, n_neg, n_add, n_mul, n_sub, n_subM, n_div, n_mod, n_addM, m_div, m_subn, n_tN, n_inS, n_eq_t, n_eq_f, n_ne_t, n_ne_f, n_lt_t, n_lt_f, n_ge_t, n_ge_f, n_gt_t, n_gt_f, n_le_t, n_le_f, mn_eq, mn_ne, mn_lt, mn_ge, mn_gt, mn_le, nm_eq, nm_ne, nm_lt, nm_ge, nm_gt, nm_le, n_gts_t, c_eq_refl, c_ne_refl, w_fold, w_2, wC_fold, lt_M, cond_true, cond_false, Bool.and_true, Bool.true_and, Bool.and_false, Bool.false_and, Bool.not_true, Bool.not_false, isZS_0, isZS_1, c1, h2, h5, Nat.add_zero]
      · rw [h3, if_neg (fun e => by have := congrArg Int32.toInt e; rw [n_toI (by omega), m_toI (by omega)] at this; omega)]
        simp (disch := omega) only [↓Bool.cond_eq_ite, ↓reduceIte, Bool.false_eq_true, eq_self, n_lit, n_neg, n_add, n_mul, n_sub, n_subM, n_div, n_mod, n_addM, m_div, m_subn, n_tN, n_inS, n_eq_t, n_eq_f, n_ne_t, n_ne_f, n_lt_t, n_lt_f, n_ge_t, n_ge_f, n_gt_t, n_gt_f, n_le_t, n_le_f, mn_eq, mn_ne, mn_lt, mn_ge, mn_gt, mn_le, nm_eq, nm_ne, nm_lt, nm_ge, nm_gt, nm_le, n_gts_t, c_eq_refl, c_ne_refl, w_fold, w_2, wC_fold, lt_M, cond_true, cond_false, Bool.and_true, Bool.true_and, Bool.and_false, Bool.false_and, Bool.not_true, Bool.not_false, isZS_0, isZS_1, c1, h2, h5, Nat.add_zero]
    · rw [if_neg q]
      simp (disch := omega) only [↓Bool.cond_eq_ite, ↓reduceIte, Bool.false_eq_true, eq_self, n_lit, n_neg, n_add, n_mul, n_sub, n_subM, n_div, n_mod, n_addM, m_div, m_subn, n_tN, n_inS, n_eq_t, n_eq_f, n_ne_t, n_ne_f, n_lt_t, n_lt_f, n_ge_t, n_ge_f, n_gt_t, n_gt_f, n_le_t, n_le_f, mn_eq, mn_ne, mn_lt, mn_ge, mn_gt, mn_le, nm_eq, nm_ne, nm_lt, nm_ge, nm_gt, nm_le, n_gts_t, c_eq_refl, c_ne_refl, w_fold, w_2, wC_fold, lt_M, cond_true, cond_false, Bool.and_true, Bool.true_and, Bool.and_false, Bool.false_and, Bool.not_true, Bool.not_false, isZS_0, isZS_1, c1, h2]) nb (Nat.le_refl _)
  try dsimp only at this
  rw [this, h_160_145]
  simp (disch := omega) only [↓Bool.cond_eq_ite, ↓reduceIte, Bool.false_eq_true, eq_self, n_lit, n_neg, n_add, n_mul, n_sub, n_subM, n_div, n_mod, n_addM, m_div, m_subn, n_tN, n_inS, n_eq_t, n_eq_f, n_ne_t, n_ne_f, n_lt_t, n_lt_f, n_ge_t, n_ge_f, n_gt_t, n_gt_f, n_le_t, n_le_f, mn_eq, mn_ne, mn_lt, mn_ge, mn_gt, mn_le, nm_eq, nm_ne, nm_lt, nm_ge, nm_gt, nm_le, n_gts_t, c_eq_refl, c_ne_refl, w_fold, w_2, wC_fold, lt_M, cond_true, cond_false, Bool.and_true, Bool.true_and, Bool.and_false, Bool.false_and, Bool.not_true, Bool.not_false, isZS_0, isZS_1, c1]
theorem headsOn_eq {w : Nat} (hw : w < nw) (h : rP r (M.1 [1, 1]) C M nc nw nb np nt now hm kd wa wb wd wl ws) :
    sumN (fun b => if kd b = 0 then (if C.1 (b :: 10 :: r) 3 = oN w then C.1 (b :: 10 :: r) 6 else oN 0) else oN 0) nb = sumN (fun b => if kd b = 0 then (if M.1 [1, 1] (200 + 16 * b + 1) = oN w then M.1 [1, 1] (200 + 16 * b + 3) else oN 0) else oN 0) nb := by
  refine sumN_congr (fun b hb => ?_)
  obtain ⟨-, ⟨-, hp⟩, ⟨⟨x, -, h6, h7⟩, -⟩, -, -⟩ := h.2.2.2.2.2.2.1 b hb
  have hnw : nw ≤ 24 := h.1.2.2.2.2.2.2.2.2.2.2.2.2.2.2.1
  by_cases hk : kd b = 0
  · rw [if_pos hk, if_pos hk, h6, h7]
    rcases hp with ⟨-, c, -, -, -, h3, h4⟩ | ⟨-, v, e, t, h1, -, -, -, -, -, h3, h4, -⟩ | ⟨k4, -⟩ | ⟨k0, -⟩
    · have n1 : ¬ oM 1 = oN w := fun e => by have := congrArg Int32.toInt e; rw [n_toI (by omega), m_toI (by omega)] at this; omega
      have n4 : ¬ oM 4 = oN w := fun e => by have := congrArg Int32.toInt e; rw [n_toI (by omega), m_toI (by omega)] at this; omega
      rw [h3, h4, if_neg n1, if_neg n4]
    · rw [h3, h4]
    · omega
    · exact absurd hk k0
  · rw [if_neg hk, if_neg hk]
end Sums
