section Ops19
variable {L : Nat} {xs : Nat → Int32} {C C' M M' : mM} {hm : Nat} {nc nw nb np nt now : Nat} {kd wa wb wd wl ws : Nat → Nat}
theorem agC_r (h : ∀ q, q ≠ [8, 0] → q ≠ [2, 8, 0] → q ≠ [3, 8, 0] → C'.1 q = C.1 q) (hL : C'.2 = C.2) : agC C C' := by
  have h2 : ∀ t a b, (a ≠ 8 ∨ b ≠ 0) → C'.1 (t ++ [a, b]) = C.1 (t ++ [a, b]) := fun t a b hab => by
    refine h _ (fun e => ?_) (fun e => ?_) (fun e => ?_) <;>
    · have := congrArg (fun l => l.reverse.take 2) e
      simp at this; omega
  exact ⟨fun t => h2 t 0 0 (by omega), fun t => h2 t 1 0 (by omega), by rw [h [0] (by simp) (by simp) (by simp)], h2 [0] 4 0 (by omega), h2 [1] 4 0 (by omega), h2 [0] 5 0 (by omega), by rw [hL], fun t => h2 t 6 0 (by omega)⟩
theorem agM_r (h : ∀ q, q ≠ [49, 1] → q ≠ [50, 1] → q ≠ [51, 1] → M'.1 q = M.1 q) (h2 : M'.2 = M.2) : agM M M' := by
  have hk : ∀ k, k ≠ 49 → k ≠ 50 → k ≠ 51 → M'.1 [k, 1] = M.1 [k, 1] := fun k h1 h2 h3 => h _ (by simp [h1]) (by simp [h2]) (by simp [h3])
  exact ⟨fun i _ => by rw [hk 1 (by omega) (by omega) (by omega)], hk 2 (by omega) (by omega) (by omega), fun k h1 h2 => hk k (by omega) (by omega) (by omega), fun k h1 h2 => hk k (by omega) (by omega) (by omega), by rw [h [1] (by simp) (by simp) (by simp)], by rw [h [1] (by simp) (by simp) (by simp)], by rw [h2]⟩
theorem i64_32 (v : Int32) : v.toInt64.toInt32 = v := Int32.toInt32_toInt64 v
set_option maxRecDepth 8000 in
set_option maxHeartbeats 4000000 in
theorem op_slot {a1 a2 a3 : Int32} (hhm : hm ≤ 1000) (h : rI L xs C M hm) : opR L xs 131 224 [vi a1, vi a2, vi a3] C M hm := by
  have e := e_131 L xs [0] a1 a2 a3 C
  have f := e_224 L xs [1] a1 a2 a3 M
  have h1 : rI L xs C (wI M [1] 0 (0 : Int32)) hm := rI_ag (agC_refl _) (agM_w0 (by decide) (by decide)) h
  simp only [lt_M, w_fold] at f
  generalize wI M [1] 0 (0 : Int32) = M1 at f h1
  have h0 := h1
  obtain ⟨nc, nw, nb, np, nt, now, kd, wa, wb, wd, wl, ws, hP, hIm, hHi, hTx, hSh, hMi⟩ := h1
  have hP' := hP
  obtain ⟨g1, g2, g3, g4, g5, g6, g7, g8, g9, g10⟩ := hP'
  have hsc := g1
  obtain ⟨cN, cT, cC, cW, cB, cG, cP, S0, S1, S2, S3, S4, S5, b16, b24, b40, b8, b20, b4320⟩ := hsc
  have hle := cntG_le kd nb
  obtain ⟨hh, gb, hI⟩ := hd_of hhm hP
  have hK := rP_mK hP
  have k176 := s_176 (L := L) (xs := xs) hK
  rcases I_cases a1 with ⟨k, k1, rfl⟩ | ⟨k, k0, k1, rfl⟩
  case inr =>
    simp (disch := omega) only [↓Bool.cond_eq_ite, ↓reduceIte, Bool.false_eq_true, eq_self, n_lit, n_neg, n_add, n_mul, n_sub, n_subM, n_div, n_mod, n_addM, m_div, m_subn, n_tN, n_inS, n_eq_t, n_eq_f, n_ne_t, n_ne_f, n_lt_t, n_lt_f, n_ge_t, n_ge_f, n_gt_t, n_gt_f, n_le_t, n_le_f, mn_eq, mn_ne, mn_lt, mn_ge, mn_gt, mn_le, nm_eq, nm_ne, nm_lt, nm_ge, nm_gt, nm_le, n_gts_t, c_eq_refl, c_ne_refl, w_fold, w_2, wC_fold, lt_M, cond_true, cond_false, Bool.and_true, Bool.true_and, Bool.and_false, Bool.false_and, Bool.not_true, Bool.not_false, isZS_0, isZS_1, ↓reduceIte, w_at, w_2, wC_at, wC_2, List.cons.injEq, reduceCtorEq, and_false, false_and, and_true, true_and, if_true, if_false, eq_self, and_self, if_pos, if_neg, Nat.add_zero, cN, cT, cC, cW, cB, cG, cP, S0, S1, S2, S3, S4, S5, k176, Option.bind_some] at e f
    exact ⟨_, _, _, kI_of e, kI_of f, h0⟩
  by_cases q1 : 1 ≤ k
  case neg =>
    simp (disch := omega) only [↓Bool.cond_eq_ite, ↓reduceIte, Bool.false_eq_true, eq_self, n_lit, n_neg, n_add, n_mul, n_sub, n_subM, n_div, n_mod, n_addM, m_div, m_subn, n_tN, n_inS, n_eq_t, n_eq_f, n_ne_t, n_ne_f, n_lt_t, n_lt_f, n_ge_t, n_ge_f, n_gt_t, n_gt_f, n_le_t, n_le_f, mn_eq, mn_ne, mn_lt, mn_ge, mn_gt, mn_le, nm_eq, nm_ne, nm_lt, nm_ge, nm_gt, nm_le, n_gts_t, c_eq_refl, c_ne_refl, w_fold, w_2, wC_fold, lt_M, cond_true, cond_false, Bool.and_true, Bool.true_and, Bool.and_false, Bool.false_and, Bool.not_true, Bool.not_false, isZS_0, isZS_1, ↓reduceIte, w_at, w_2, wC_at, wC_2, List.cons.injEq, reduceCtorEq, and_false, false_and, and_true, true_and, if_true, if_false, eq_self, and_self, if_pos, if_neg, Nat.add_zero, cN, cT, cC, cW, cB, cG, cP, S0, S1, S2, S3, S4, S5, k176, Option.bind_some] at e f
    exact ⟨_, _, _, kI_of e, kI_of f, h0⟩
  by_cases q2 : k ≤ 5
  case neg =>
    simp (disch := omega) only [↓Bool.cond_eq_ite, ↓reduceIte, Bool.false_eq_true, eq_self, n_lit, n_neg, n_add, n_mul, n_sub, n_subM, n_div, n_mod, n_addM, m_div, m_subn, n_tN, n_inS, n_eq_t, n_eq_f, n_ne_t, n_ne_f, n_lt_t, n_lt_f, n_ge_t, n_ge_f, n_gt_t, n_gt_f, n_le_t, n_le_f, mn_eq, mn_ne, mn_lt, mn_ge, mn_gt, mn_le, nm_eq, nm_ne, nm_lt, nm_ge, nm_gt, nm_le, n_gts_t, c_eq_refl, c_ne_refl, w_fold, w_2, wC_fold, lt_M, cond_true, cond_false, Bool.and_true, Bool.true_and, Bool.and_false, Bool.false_and, Bool.not_true, Bool.not_false, isZS_0, isZS_1, ↓reduceIte, w_at, w_2, wC_at, wC_2, List.cons.injEq, reduceCtorEq, and_false, false_and, and_true, true_and, if_true, if_false, eq_self, and_self, if_pos, if_neg, Nat.add_zero, cN, cT, cC, cW, cB, cG, cP, S0, S1, S2, S3, S4, S5, k176, Option.bind_some] at e f
    exact ⟨_, _, _, kI_of e, kI_of f, h0⟩
  by_cases q3 : k ≤ cntG kd nb
  case neg =>
    simp (disch := omega) only [↓Bool.cond_eq_ite, ↓reduceIte, Bool.false_eq_true, eq_self, n_lit, n_neg, n_add, n_mul, n_sub, n_subM, n_div, n_mod, n_addM, m_div, m_subn, n_tN, n_inS, n_eq_t, n_eq_f, n_ne_t, n_ne_f, n_lt_t, n_lt_f, n_ge_t, n_ge_f, n_gt_t, n_gt_f, n_le_t, n_le_f, mn_eq, mn_ne, mn_lt, mn_ge, mn_gt, mn_le, nm_eq, nm_ne, nm_lt, nm_ge, nm_gt, nm_le, n_gts_t, c_eq_refl, c_ne_refl, w_fold, w_2, wC_fold, lt_M, cond_true, cond_false, Bool.and_true, Bool.true_and, Bool.and_false, Bool.false_and, Bool.not_true, Bool.not_false, isZS_0, isZS_1, ↓reduceIte, w_at, w_2, wC_at, wC_2, List.cons.injEq, reduceCtorEq, and_false, false_and, and_true, true_and, if_true, if_false, eq_self, and_self, if_pos, if_neg, Nat.add_zero, cN, cT, cC, cW, cB, cG, cP, S0, S1, S2, S3, S4, S5, k176, Option.bind_some] at e f
    exact ⟨_, _, _, kI_of e, kI_of f, h0⟩
  rcases I_cases a2 with ⟨g, g1, rfl⟩ | ⟨g, g0, g1, rfl⟩
  case inr =>
    simp (disch := omega) only [↓Bool.cond_eq_ite, ↓reduceIte, Bool.false_eq_true, eq_self, n_lit, n_neg, n_add, n_mul, n_sub, n_subM, n_div, n_mod, n_addM, m_div, m_subn, n_tN, n_inS, n_eq_t, n_eq_f, n_ne_t, n_ne_f, n_lt_t, n_lt_f, n_ge_t, n_ge_f, n_gt_t, n_gt_f, n_le_t, n_le_f, mn_eq, mn_ne, mn_lt, mn_ge, mn_gt, mn_le, nm_eq, nm_ne, nm_lt, nm_ge, nm_gt, nm_le, n_gts_t, c_eq_refl, c_ne_refl, w_fold, w_2, wC_fold, lt_M, cond_true, cond_false, Bool.and_true, Bool.true_and, Bool.and_false, Bool.false_and, Bool.not_true, Bool.not_false, isZS_0, isZS_1, ↓reduceIte, w_at, w_2, wC_at, wC_2, List.cons.injEq, reduceCtorEq, and_false, false_and, and_true, true_and, if_true, if_false, eq_self, and_self, if_pos, if_neg, Nat.add_zero, cN, cT, cC, cW, cB, cG, cP, S0, S1, S2, S3, S4, S5, k176, Option.bind_some] at e f
    exact ⟨_, _, _, kI_of e, kI_of f, h0⟩
  by_cases q4 : 1 ≤ g
  case neg =>
    simp (disch := omega) only [↓Bool.cond_eq_ite, ↓reduceIte, Bool.false_eq_true, eq_self, n_lit, n_neg, n_add, n_mul, n_sub, n_subM, n_div, n_mod, n_addM, m_div, m_subn, n_tN, n_inS, n_eq_t, n_eq_f, n_ne_t, n_ne_f, n_lt_t, n_lt_f, n_ge_t, n_ge_f, n_gt_t, n_gt_f, n_le_t, n_le_f, mn_eq, mn_ne, mn_lt, mn_ge, mn_gt, mn_le, nm_eq, nm_ne, nm_lt, nm_ge, nm_gt, nm_le, n_gts_t, c_eq_refl, c_ne_refl, w_fold, w_2, wC_fold, lt_M, cond_true, cond_false, Bool.and_true, Bool.true_and, Bool.and_false, Bool.false_and, Bool.not_true, Bool.not_false, isZS_0, isZS_1, ↓reduceIte, w_at, w_2, wC_at, wC_2, List.cons.injEq, reduceCtorEq, and_false, false_and, and_true, true_and, if_true, if_false, eq_self, and_self, if_pos, if_neg, Nat.add_zero, cN, cT, cC, cW, cB, cG, cP, S0, S1, S2, S3, S4, S5, k176, Option.bind_some] at e f
    exact ⟨_, _, _, kI_of e, kI_of f, h0⟩
  by_cases q5 : g ≤ 2000
  case neg =>
    simp (disch := omega) only [↓Bool.cond_eq_ite, ↓reduceIte, Bool.false_eq_true, eq_self, n_lit, n_neg, n_add, n_mul, n_sub, n_subM, n_div, n_mod, n_addM, m_div, m_subn, n_tN, n_inS, n_eq_t, n_eq_f, n_ne_t, n_ne_f, n_lt_t, n_lt_f, n_ge_t, n_ge_f, n_gt_t, n_gt_f, n_le_t, n_le_f, mn_eq, mn_ne, mn_lt, mn_ge, mn_gt, mn_le, nm_eq, nm_ne, nm_lt, nm_ge, nm_gt, nm_le, n_gts_t, c_eq_refl, c_ne_refl, w_fold, w_2, wC_fold, lt_M, cond_true, cond_false, Bool.and_true, Bool.true_and, Bool.and_false, Bool.false_and, Bool.not_true, Bool.not_false, isZS_0, isZS_1, ↓reduceIte, w_at, w_2, wC_at, wC_2, List.cons.injEq, reduceCtorEq, and_false, false_and, and_true, true_and, if_true, if_false, eq_self, and_self, if_pos, if_neg, Nat.add_zero, cN, cT, cC, cW, cB, cG, cP, S0, S1, S2, S3, S4, S5, k176, Option.bind_some] at e f
    exact ⟨_, _, _, kI_of e, kI_of f, h0⟩
  rcases I_cases a3 with ⟨i, i1, rfl⟩ | ⟨i, i0, i1, rfl⟩
  case inr =>
    simp (disch := omega) only [↓Bool.cond_eq_ite, ↓reduceIte, Bool.false_eq_true, eq_self, n_lit, n_neg, n_add, n_mul, n_sub, n_subM, n_div, n_mod, n_addM, m_div, m_subn, n_tN, n_inS, n_eq_t, n_eq_f, n_ne_t, n_ne_f, n_lt_t, n_lt_f, n_ge_t, n_ge_f, n_gt_t, n_gt_f, n_le_t, n_le_f, mn_eq, mn_ne, mn_lt, mn_ge, mn_gt, mn_le, nm_eq, nm_ne, nm_lt, nm_ge, nm_gt, nm_le, n_gts_t, c_eq_refl, c_ne_refl, w_fold, w_2, wC_fold, lt_M, cond_true, cond_false, Bool.and_true, Bool.true_and, Bool.and_false, Bool.false_and, Bool.not_true, Bool.not_false, isZS_0, isZS_1, ↓reduceIte, w_at, w_2, wC_at, wC_2, List.cons.injEq, reduceCtorEq, and_false, false_and, and_true, true_and, if_true, if_false, eq_self, and_self, if_pos, if_neg, Nat.add_zero, cN, cT, cC, cW, cB, cG, cP, S0, S1, S2, S3, S4, S5, k176, Option.bind_some] at e f
    exact ⟨_, _, _, kI_of e, kI_of f, h0⟩
  by_cases q6 : i < k
  case neg =>
    simp (disch := omega) only [↓Bool.cond_eq_ite, ↓reduceIte, Bool.false_eq_true, eq_self, n_lit, n_neg, n_add, n_mul, n_sub, n_subM, n_div, n_mod, n_addM, m_div, m_subn, n_tN, n_inS, n_eq_t, n_eq_f, n_ne_t, n_ne_f, n_lt_t, n_lt_f, n_ge_t, n_ge_f, n_gt_t, n_gt_f, n_le_t, n_le_f, mn_eq, mn_ne, mn_lt, mn_ge, mn_gt, mn_le, nm_eq, nm_ne, nm_lt, nm_ge, nm_gt, nm_le, n_gts_t, c_eq_refl, c_ne_refl, w_fold, w_2, wC_fold, lt_M, cond_true, cond_false, Bool.and_true, Bool.true_and, Bool.and_false, Bool.false_and, Bool.not_true, Bool.not_false, isZS_0, isZS_1, ↓reduceIte, w_at, w_2, wC_at, wC_2, List.cons.injEq, reduceCtorEq, and_false, false_and, and_true, true_and, if_true, if_false, eq_self, and_self, if_pos, if_neg, Nat.add_zero, cN, cT, cC, cW, cB, cG, cP, S0, S1, S2, S3, S4, S5, k176, Option.bind_some] at e f
    exact ⟨_, _, _, kI_of e, kI_of f, h0⟩
  obtain ⟨C1, C', M', y1, y2, y3, y4, y5, ⟨y6, y7⟩ | ⟨t, t5, y6, y7, y8⟩⟩ := rnd_ok (L := L) (xs := xs) hI hK b40 (show k ≤ 5 by omega) (by omega) (show g ≤ 2000 by omega)
  · simp (disch := omega) only [↓Bool.cond_eq_ite, ↓reduceIte, Bool.false_eq_true, eq_self, n_lit, n_neg, n_add, n_mul, n_sub, n_subM, n_div, n_mod, n_addM, m_div, m_subn, n_tN, n_inS, n_eq_t, n_eq_f, n_ne_t, n_ne_f, n_lt_t, n_lt_f, n_ge_t, n_ge_f, n_gt_t, n_gt_f, n_le_t, n_le_f, mn_eq, mn_ne, mn_lt, mn_ge, mn_gt, mn_le, nm_eq, nm_ne, nm_lt, nm_ge, nm_gt, nm_le, n_gts_t, c_eq_refl, c_ne_refl, w_fold, w_2, wC_fold, lt_M, cond_true, cond_false, Bool.and_true, Bool.true_and, Bool.and_false, Bool.false_and, Bool.not_true, Bool.not_false, isZS_0, isZS_1, ↓reduceIte, w_at, w_2, wC_at, wC_2, List.cons.injEq, reduceCtorEq, and_false, false_and, and_true, true_and, if_true, if_false, eq_self, and_self, if_pos, if_neg, Nat.add_zero, cN, cT, cC, cW, cB, cG, cP, S0, S1, S2, S3, S4, S5, k176, y1, y6, y7, c_ne_refl, Option.bind_some] at e f
    exact ⟨_, _, _, kI_of e, kI_of f, rI_ag (agC_r y2 y3) (agM_r y4 y5) h0⟩
  · have y9 := y8 i (by omega)
    simp (disch := omega) only [↓Bool.cond_eq_ite, ↓reduceIte, Bool.false_eq_true, eq_self, n_lit, n_neg, n_add, n_mul, n_sub, n_subM, n_div, n_mod, n_addM, m_div, m_subn, n_tN, n_inS, n_eq_t, n_eq_f, n_ne_t, n_ne_f, n_lt_t, n_lt_f, n_ge_t, n_ge_f, n_gt_t, n_gt_f, n_le_t, n_le_f, mn_eq, mn_ne, mn_lt, mn_ge, mn_gt, mn_le, nm_eq, nm_ne, nm_lt, nm_ge, nm_gt, nm_le, n_gts_t, c_eq_refl, c_ne_refl, w_fold, w_2, wC_fold, lt_M, cond_true, cond_false, Bool.and_true, Bool.true_and, Bool.and_false, Bool.false_and, Bool.not_true, Bool.not_false, isZS_0, isZS_1, ↓reduceIte, w_at, w_2, wC_at, wC_2, List.cons.injEq, reduceCtorEq, and_false, false_and, and_true, true_and, if_true, if_false, eq_self, and_self, if_pos, if_neg, Nat.add_zero, cN, cT, cC, cW, cB, cG, cP, S0, S1, S2, S3, S4, S5, k176, y1, y6, y7, y9, Option.bind_some] at e f
    exact ⟨_, _, _, kI_of e, kI_of f, rI_ag (agC_r y2 y3) (agM_r y4 y5) h0⟩

set_option maxRecDepth 8000 in
theorem jud_ok {d k g : Nat} {h gb : Nat → Nat} (hd : d < 8) (hI : hdI C M nb kd h gb) (hK : mKd M nb kd) (h40 : nb ≤ 40) (hk1 : 1 ≤ k) (hk : k ≤ 5) (hkg : k ≤ cntG kd nb) (hg : g ≤ 2000) (h3 : C.1 [d, 6, 0] 3 = oN k) (he : ∀ i, i < k → M.2.1 [57, 1] (80 * d + i) = (C.1 [4, d, 6, 0] i).toInt64) :
    ∃ v C1 C' M', kV L xs 38 [vr 3 [8, 0], vr 2 [0, 0], vi (oN k), vi (oN g)] C = some C1 ∧ run L xs 116 28 (65, [some (vr 9 [0]), none, none, none, some (vr 4 [d, 6, 0]), some (vi (oN 0))], [], C1) = some (some (vi v), C') ∧ run L xs 195 27 (74, [some (vr 10 [1]), some (vi (oN d)), some (vi (oN g)), none, some (vi (oN k)), some (vi (oN 0))], [], M) = some (some (vi v), M') ∧
      (∀ q, q ≠ [8, 0] → q ≠ [2, 8, 0] → q ≠ [3, 8, 0] → C'.1 q = C.1 q) ∧ C'.2 = C.2 ∧ (∀ q, q ≠ [49, 1] → q ≠ [50, 1] → q ≠ [51, 1] → M'.1 q = M.1 q) ∧ M'.2 = M.2 := by
  obtain ⟨C1, c1, c2, c3, c4⟩ := s_38 (L := L) (xs := xs) hI h40 hk hkg hg
  have f3 : C1.1 [d, 6, 0] 3 = oN k := by rw [c3 _ (by simp) (by simp)]; exact h3
  have f4 : C1.1 [4, d, 6, 0] = C.1 [4, d, 6, 0] := c3 _ (by simp) (by simp)
  have key : ∀ r i H A, i + r = k → (∃ sl : Nat → Nat, ∀ l, l < i → sl l ≤ 5 ∧ H l = oN (sl l) ∧ A l = oN (sl l)) → ∃ v H' M', run L xs 116 28 (65, [some (vr 9 [0]), none, none, none, some (vr 4 [d, 6, 0]), some (vi (oN i))], [], stA C1 [3, 8, 0] H) = some (some (vi v), stA C1 [3, 8, 0] H') ∧ run L xs 195 27 (74, [some (vr 10 [1]), some (vi (oN d)), some (vi (oN g)), none, some (vi (oN k)), some (vi (oN i))], [], stA M [50, 1] A) = some (some (vi v), M') ∧
      (∀ q, q ≠ [49, 1] → q ≠ [50, 1] → q ≠ [51, 1] → M'.1 q = M.1 q) ∧ M'.2 = M.2 := by
    have z6 : ∀ H, (stA C1 [3, 8, 0] H).1 [d, 6, 0] = C1.1 [d, 6, 0] := fun H => stA_ne (by simp)
    have z46 : ∀ H, (stA C1 [3, 8, 0] H).1 [4, d, 6, 0] = C.1 [4, d, 6, 0] := fun H => by rw [stA_ne (by simp), f4]
    have z3 : ∀ H, (stA C1 [3, 8, 0] H).1 [3, 8, 0] = H := fun H => stA_same
    intro r
    induction r with
    | zero =>
      intro i H A hi hsl
      have : i = k := by omega
      subst this
      obtain ⟨sl, hsl⟩ := hsl
      obtain ⟨-, -, e0, e1, e2⟩ := c2
      have k40 := s_40 (L := L) (xs := xs) (p := [8, 0]) (C := stA C1 [3, 8, 0] H) (h := h) (sl := sl) (g := g) hk hg (by rw [stA_ne (by simp)]; exact e0) (by rw [stA_ne (by simp)]; exact e1) (fun l hl => ⟨(e2 l hl).1, (hsl l hl).1, by rw [stA_ne (by simp)]; exact (e2 l hl).2, by rw [z3]; exact (hsl l hl).2.1⟩)
      have hI' : hdI C (stA M [50, 1] A) nb kd h gb := fun l hl => by rw [stA_ne (by simp)]; exact hI l hl
      have hK' : mKd (stA M [50, 1] A) nb kd := by
        unfold mKd at hK ⊢
        rw [stA_ne (by simp), stA_ne (by simp)]
        exact hK
      obtain ⟨M1, m1, m2, m3, m4⟩ := s_168 (L := L) (xs := xs) hI' hK' hk hkg hg
      have k204 := s_204 (L := L) (xs := xs) (M := M1) (h := h) (sl := sl) hk hg (fun l hl => ⟨(m2.2.2 l hl).1, (hsl l hl).1, (m2.2.2 l hl).2, by rw [m3 _ (by simp), stA_same]; exact (hsl l hl).2.2⟩)
      have fr : (∀ q, q ≠ [49, 1] → q ≠ [50, 1] → q ≠ [51, 1] → M1.1 q = M.1 q) ∧ M1.2 = M.2 := ⟨fun q h1 h2 _ => by rw [m3 q h1, stA_ne h2], m4⟩
      cases hf : fO (fun s => decide (g < mI h sl s i)) 0 6 with
      | none =>
        rw [hf] at k40 k204
        refine ⟨oM 4, H, M1, ?_, ?_, fr⟩
        · rw [h_116_65]
          simp (disch := omega) only [↓Bool.cond_eq_ite, ↓reduceIte, Bool.false_eq_true, eq_self, n_lit, n_neg, n_add, n_mul, n_sub, n_subM, n_div, n_mod, n_addM, m_div, m_subn, n_tN, n_inS, n_eq_t, n_eq_f, n_ne_t, n_ne_f, n_lt_t, n_lt_f, n_ge_t, n_ge_f, n_gt_t, n_gt_f, n_le_t, n_le_f, mn_eq, mn_ne, mn_lt, mn_ge, mn_gt, mn_le, nm_eq, nm_ne, nm_lt, nm_ge, nm_gt, nm_le, n_gts_t, c_eq_refl, c_ne_refl, w_fold, w_2, wC_fold, lt_M, cond_true, cond_false, Bool.and_true, Bool.true_and, Bool.and_false, Bool.false_and, Bool.not_true, Bool.not_false, isZS_0, isZS_1, z6, f3, k40, encO, c_ne_refl, Option.bind_some]
        · rw [h_195_74]
          simp (disch := omega) only [↓Bool.cond_eq_ite, ↓reduceIte, Bool.false_eq_true, eq_self, n_lit, n_neg, n_add, n_mul, n_sub, n_subM, n_div, n_mod, n_addM, m_div, m_subn, n_tN, n_inS, n_eq_t, n_eq_f, n_ne_t, n_ne_f, n_lt_t, n_lt_f, n_ge_t, n_ge_f, n_gt_t, n_gt_f, n_le_t, n_le_f, mn_eq, mn_ne, mn_lt, mn_ge, mn_gt, mn_le, nm_eq, nm_ne, nm_lt, nm_ge, nm_gt, nm_le, n_gts_t, c_eq_refl, c_ne_refl, w_fold, w_2, wC_fold, lt_M, cond_true, cond_false, Bool.and_true, Bool.true_and, Bool.and_false, Bool.false_and, Bool.not_true, Bool.not_false, isZS_0, isZS_1, m1, k204, encP, Option.bind_some]
      | some s =>
        rw [hf] at k40 k204
        have hs6 : s < 6 := by
          have h6 : ∀ r s0, fO (fun s => decide (g < mI h sl s i)) s0 r = some s → s < s0 + r := by
            intro r
            induction r with
            | zero => intro s0 h; cases h
            | succ r ih =>
              intro s0 h
              unfold fO at h
              split at h
              · cases h; omega
              · have := ih _ h; omega
          have := h6 6 0 hf
          omega
        refine ⟨oN (100 + s), H, M1, ?_, ?_, fr⟩
        · rw [h_116_65]
          simp (disch := omega) only [↓Bool.cond_eq_ite, ↓reduceIte, Bool.false_eq_true, eq_self, n_lit, n_neg, n_add, n_mul, n_sub, n_subM, n_div, n_mod, n_addM, m_div, m_subn, n_tN, n_inS, n_eq_t, n_eq_f, n_ne_t, n_ne_f, n_lt_t, n_lt_f, n_ge_t, n_ge_f, n_gt_t, n_gt_f, n_le_t, n_le_f, mn_eq, mn_ne, mn_lt, mn_ge, mn_gt, mn_le, nm_eq, nm_ne, nm_lt, nm_ge, nm_gt, nm_le, n_gts_t, c_eq_refl, c_ne_refl, w_fold, w_2, wC_fold, lt_M, cond_true, cond_false, Bool.and_true, Bool.true_and, Bool.and_false, Bool.false_and, Bool.not_true, Bool.not_false, isZS_0, isZS_1, z6, f3, k40, encO, Option.bind_some]
        · rw [h_195_74]
          simp (disch := omega) only [↓Bool.cond_eq_ite, ↓reduceIte, Bool.false_eq_true, eq_self, n_lit, n_neg, n_add, n_mul, n_sub, n_subM, n_div, n_mod, n_addM, m_div, m_subn, n_tN, n_inS, n_eq_t, n_eq_f, n_ne_t, n_ne_f, n_lt_t, n_lt_f, n_ge_t, n_ge_f, n_gt_t, n_gt_f, n_le_t, n_le_f, mn_eq, mn_ne, mn_lt, mn_ge, mn_gt, mn_le, nm_eq, nm_ne, nm_lt, nm_ge, nm_gt, nm_le, n_gts_t, c_eq_refl, c_ne_refl, w_fold, w_2, wC_fold, lt_M, cond_true, cond_false, Bool.and_true, Bool.true_and, Bool.and_false, Bool.false_and, Bool.not_true, Bool.not_false, isZS_0, isZS_1, m1, k204, encP, Option.bind_some]
    | succ r ih =>
      intro i H A hi hsl
      have hel := he i (by omega)
      have hm2 : (stA M [50, 1] A).2 = M.2 := rfl
      rcases I_cases (C.1 [4, d, 6, 0] i) with ⟨v, v1, hv⟩ | ⟨v, v0, v1, hv⟩
      · by_cases h5 : v ≤ 5
        · obtain ⟨sl, hsl⟩ := hsl
          obtain ⟨w, H', M', k1, k2, k3⟩ := ih (i + 1) (upd H i (oN v)) (upd A i (oN v)) (by omega) ⟨updN sl i v, fun l hl => by
            by_cases e : l = i
            · subst e; rw [updN_same, upd_eq, upd_eq]; exact ⟨h5, rfl, rfl⟩
            · rw [updN_ne e, upd_ne e, upd_ne e]; exact hsl l (by omega)⟩
          refine ⟨w, H', M', ?_, ?_, k3⟩
          · rw [h_116_65]
            simp (disch := omega) only [↓lt_stA, ↓Bool.cond_eq_ite, ↓reduceIte, Bool.false_eq_true, eq_self, n_lit, n_neg, n_add, n_mul, n_sub, n_subM, n_div, n_mod, n_addM, m_div, m_subn, n_tN, n_inS, n_eq_t, n_eq_f, n_ne_t, n_ne_f, n_lt_t, n_lt_f, n_ge_t, n_ge_f, n_gt_t, n_gt_f, n_le_t, n_le_f, mn_eq, mn_ne, mn_lt, mn_ge, mn_gt, mn_le, nm_eq, nm_ne, nm_lt, nm_ge, nm_gt, nm_le, n_gts_t, c_eq_refl, c_ne_refl, w_fold, w_2, wC_fold, lt_M, cond_true, cond_false, Bool.and_true, Bool.true_and, Bool.and_false, Bool.false_and, Bool.not_true, Bool.not_false, isZS_0, isZS_1, z6, f3, z46, hv, z3, stA_w, stA_u]
            exact k1
          · rw [h_195_74]
            simp (disch := omega) only [↓lt_stA, ↓Bool.cond_eq_ite, ↓reduceIte, Bool.false_eq_true, eq_self, n_lit, n_neg, n_add, n_mul, n_sub, n_subM, n_div, n_mod, n_addM, m_div, m_subn, n_tN, n_inS, n_eq_t, n_eq_f, n_ne_t, n_ne_f, n_lt_t, n_lt_f, n_ge_t, n_ge_f, n_gt_t, n_gt_f, n_le_t, n_le_f, mn_eq, mn_ne, mn_lt, mn_ge, mn_gt, mn_le, nm_eq, nm_ne, nm_lt, nm_ge, nm_gt, nm_le, n_gts_t, c_eq_refl, c_ne_refl, w_fold, w_2, wC_fold, lt_M, cond_true, cond_false, Bool.and_true, Bool.true_and, Bool.and_false, Bool.false_and, Bool.not_true, Bool.not_false, isZS_0, isZS_1, hm2, hel, hv, i64_32, stA_same, stA_w, stA_u, upd_eq]
            exact k2
        · refine ⟨oN i, H, stA M [50, 1] (upd A i (oN v)), ?_, ?_, fun q _ h2 _ => stA_ne h2, rfl⟩
          · rw [h_116_65]
            simp (disch := omega) only [↓Bool.cond_eq_ite, ↓reduceIte, Bool.false_eq_true, eq_self, n_lit, n_neg, n_add, n_mul, n_sub, n_subM, n_div, n_mod, n_addM, m_div, m_subn, n_tN, n_inS, n_eq_t, n_eq_f, n_ne_t, n_ne_f, n_lt_t, n_lt_f, n_ge_t, n_ge_f, n_gt_t, n_gt_f, n_le_t, n_le_f, mn_eq, mn_ne, mn_lt, mn_ge, mn_gt, mn_le, nm_eq, nm_ne, nm_lt, nm_ge, nm_gt, nm_le, n_gts_t, c_eq_refl, c_ne_refl, w_fold, w_2, wC_fold, lt_M, cond_true, cond_false, Bool.and_true, Bool.true_and, Bool.and_false, Bool.false_and, Bool.not_true, Bool.not_false, isZS_0, isZS_1, z6, f3, z46, hv]
          · rw [h_195_74]
            simp (disch := omega) only [↓lt_stA, ↓Bool.cond_eq_ite, ↓reduceIte, Bool.false_eq_true, eq_self, n_lit, n_neg, n_add, n_mul, n_sub, n_subM, n_div, n_mod, n_addM, m_div, m_subn, n_tN, n_inS, n_eq_t, n_eq_f, n_ne_t, n_ne_f, n_lt_t, n_lt_f, n_ge_t, n_ge_f, n_gt_t, n_gt_f, n_le_t, n_le_f, mn_eq, mn_ne, mn_lt, mn_ge, mn_gt, mn_le, nm_eq, nm_ne, nm_lt, nm_ge, nm_gt, nm_le, n_gts_t, c_eq_refl, c_ne_refl, w_fold, w_2, wC_fold, lt_M, cond_true, cond_false, Bool.and_true, Bool.true_and, Bool.and_false, Bool.false_and, Bool.not_true, Bool.not_false, isZS_0, isZS_1, hm2, hel, hv, i64_32, stA_same, stA_w, stA_u, upd_eq]
      · refine ⟨oN i, H, stA M [50, 1] (upd A i (oM v)), ?_, ?_, fun q _ h2 _ => stA_ne h2, rfl⟩
        · rw [h_116_65]
          simp (disch := omega) only [↓Bool.cond_eq_ite, ↓reduceIte, Bool.false_eq_true, eq_self, n_lit, n_neg, n_add, n_mul, n_sub, n_subM, n_div, n_mod, n_addM, m_div, m_subn, n_tN, n_inS, n_eq_t, n_eq_f, n_ne_t, n_ne_f, n_lt_t, n_lt_f, n_ge_t, n_ge_f, n_gt_t, n_gt_f, n_le_t, n_le_f, mn_eq, mn_ne, mn_lt, mn_ge, mn_gt, mn_le, nm_eq, nm_ne, nm_lt, nm_ge, nm_gt, nm_le, n_gts_t, c_eq_refl, c_ne_refl, w_fold, w_2, wC_fold, lt_M, cond_true, cond_false, Bool.and_true, Bool.true_and, Bool.and_false, Bool.false_and, Bool.not_true, Bool.not_false, isZS_0, isZS_1, z6, f3, z46, hv]
        · rw [h_195_74]
          simp (disch := omega) only [↓lt_stA, ↓Bool.cond_eq_ite, ↓reduceIte, Bool.false_eq_true, eq_self, n_lit, n_neg, n_add, n_mul, n_sub, n_subM, n_div, n_mod, n_addM, m_div, m_subn, n_tN, n_inS, n_eq_t, n_eq_f, n_ne_t, n_ne_f, n_lt_t, n_lt_f, n_ge_t, n_ge_f, n_gt_t, n_gt_f, n_le_t, n_le_f, mn_eq, mn_ne, mn_lt, mn_ge, mn_gt, mn_le, nm_eq, nm_ne, nm_lt, nm_ge, nm_gt, nm_le, n_gts_t, c_eq_refl, c_ne_refl, w_fold, w_2, wC_fold, lt_M, cond_true, cond_false, Bool.and_true, Bool.true_and, Bool.and_false, Bool.false_and, Bool.not_true, Bool.not_false, isZS_0, isZS_1, hm2, hel, hv, i64_32, stA_same, stA_w, stA_u, upd_eq]
  obtain ⟨v, H', M', k1, k2, k3, k4⟩ := key k 0 (C1.1 [3, 8, 0]) (M.1 [50, 1]) (by omega) ⟨fun _ => 0, fun l hl => by omega⟩
  rw [stA_id] at k1
  rw [stA_id] at k2
  exact ⟨v, C1, stA C1 [3, 8, 0] H', M', c1, k1, k2, fun q h1 h2 h3 => by rw [stA_ne h3, c3 q h1 h2], c4, k3, k4⟩
set_option maxRecDepth 8000 in
set_option maxHeartbeats 4000000 in
theorem op_judge {a1 a2 : Int32} (hhm : hm ≤ 1000) (h : rI L xs C M hm) : opR L xs 116 195 [vi a1, vi a2] C M hm := by
  have e := e_116 L xs [0] a1 a2 C
  have f := e_195 L xs [1] a1 a2 M
  have h1 : rI L xs C (wI M [1] 0 (0 : Int32)) hm := rI_ag (agC_refl _) (agM_w0 (by decide) (by decide)) h
  simp only [lt_M, w_fold] at f
  generalize wI M [1] 0 (0 : Int32) = M1 at f h1
  have h0 := h1
  obtain ⟨nc, nw, nb, np, nt, now, kd, wa, wb, wd, wl, ws, hP, hIm, hHi, hTx, hSh, hMi⟩ := h1
  have hP' := hP
  obtain ⟨g1, g2, g3, g4, g5, g6, g7, g8, g9, g10⟩ := hP'
  have hsc := g1
  obtain ⟨cN, cT, cC, cW, cB, cG, cP, S0, S1, S2, S3, S4, S5, b16, b24, b40, b8, b20, b4320⟩ := hsc
  have hle := cntG_le kd nb
  rcases I_cases a1 with ⟨d, d1, rfl⟩ | ⟨d, d0, d1, rfl⟩
  case inr =>
    rcases rc_ok (L := L) (xs := xs) hSh (oM d) with ⟨k, k1, k2, k3, k4⟩ | ⟨d', n, hdd, hdl, -⟩
    case inr => exact absurd hdd.symm (oN_oM (by omega) (by omega) (by omega))
    have ek : k = 1 := by
      have e8 := e_128 L xs [0] (oM d) (oN 0) C
      simp (disch := omega) only [↓Bool.cond_eq_ite, ↓reduceIte, Bool.false_eq_true, eq_self, n_lit, n_neg, n_add, n_mul, n_sub, n_subM, n_div, n_mod, n_addM, m_div, m_subn, n_tN, n_inS, n_eq_t, n_eq_f, n_ne_t, n_ne_f, n_lt_t, n_lt_f, n_ge_t, n_ge_f, n_gt_t, n_gt_f, n_le_t, n_le_f, mn_eq, mn_ne, mn_lt, mn_ge, mn_gt, mn_le, nm_eq, nm_ne, nm_lt, nm_ge, nm_gt, nm_le, n_gts_t, c_eq_refl, c_ne_refl, w_fold, w_2, wC_fold, lt_M, cond_true, cond_false, Bool.and_true, Bool.true_and, Bool.and_false, Bool.false_and, Bool.not_true, Bool.not_false, isZS_0, isZS_1] at e8
      have := (kI_of e8).symm.trans k3
      have := congrArg (fun z => z.map (·.1)) this
      simp only [Option.map_some, Option.some.injEq] at this
      by_cases q : k = 1
      · exact q
      · exact absurd this.symm (mm_ne q (by omega) (by omega))
    subst ek
    rcases I_cases a2 with ⟨g, g1', rfl⟩ | ⟨g, g0, g1', rfl⟩
    case inr =>
      simp (disch := omega) only [↓Bool.cond_eq_ite, ↓reduceIte, Bool.false_eq_true, eq_self, n_lit, n_neg, n_add, n_mul, n_sub, n_subM, n_div, n_mod, n_addM, m_div, m_subn, n_tN, n_inS, n_eq_t, n_eq_f, n_ne_t, n_ne_f, n_lt_t, n_lt_f, n_ge_t, n_ge_f, n_gt_t, n_gt_f, n_le_t, n_le_f, mn_eq, mn_ne, mn_lt, mn_ge, mn_gt, mn_le, nm_eq, nm_ne, nm_lt, nm_ge, nm_gt, nm_le, n_gts_t, c_eq_refl, c_ne_refl, w_fold, w_2, wC_fold, lt_M, cond_true, cond_false, Bool.and_true, Bool.true_and, Bool.and_false, Bool.false_and, Bool.not_true, Bool.not_false, isZS_0, isZS_1, ↓reduceIte, w_at, w_2, wC_at, wC_2, List.cons.injEq, reduceCtorEq, and_false, false_and, and_true, true_and, if_true, if_false, eq_self, and_self, if_pos, if_neg, Nat.add_zero, cN, cT, cC, cW, cB, cG, cP, S0, S1, S2, S3, S4, S5] at e f
      exact ⟨_, _, _, kI_of e, kI_of f, h0⟩
    by_cases q1 : 1 ≤ g ∧ g ≤ 2000
    case neg =>
      by_cases q2 : 1 ≤ g
      · simp (disch := omega) only [↓Bool.cond_eq_ite, ↓reduceIte, Bool.false_eq_true, eq_self, n_lit, n_neg, n_add, n_mul, n_sub, n_subM, n_div, n_mod, n_addM, m_div, m_subn, n_tN, n_inS, n_eq_t, n_eq_f, n_ne_t, n_ne_f, n_lt_t, n_lt_f, n_ge_t, n_ge_f, n_gt_t, n_gt_f, n_le_t, n_le_f, mn_eq, mn_ne, mn_lt, mn_ge, mn_gt, mn_le, nm_eq, nm_ne, nm_lt, nm_ge, nm_gt, nm_le, n_gts_t, c_eq_refl, c_ne_refl, w_fold, w_2, wC_fold, lt_M, cond_true, cond_false, Bool.and_true, Bool.true_and, Bool.and_false, Bool.false_and, Bool.not_true, Bool.not_false, isZS_0, isZS_1, ↓reduceIte, w_at, w_2, wC_at, wC_2, List.cons.injEq, reduceCtorEq, and_false, false_and, and_true, true_and, if_true, if_false, eq_self, and_self, if_pos, if_neg, Nat.add_zero, cN, cT, cC, cW, cB, cG, cP, S0, S1, S2, S3, S4, S5] at e f
        exact ⟨_, _, _, kI_of e, kI_of f, h0⟩
      · simp (disch := omega) only [↓Bool.cond_eq_ite, ↓reduceIte, Bool.false_eq_true, eq_self, n_lit, n_neg, n_add, n_mul, n_sub, n_subM, n_div, n_mod, n_addM, m_div, m_subn, n_tN, n_inS, n_eq_t, n_eq_f, n_ne_t, n_ne_f, n_lt_t, n_lt_f, n_ge_t, n_ge_f, n_gt_t, n_gt_f, n_le_t, n_le_f, mn_eq, mn_ne, mn_lt, mn_ge, mn_gt, mn_le, nm_eq, nm_ne, nm_lt, nm_ge, nm_gt, nm_le, n_gts_t, c_eq_refl, c_ne_refl, w_fold, w_2, wC_fold, lt_M, cond_true, cond_false, Bool.and_true, Bool.true_and, Bool.and_false, Bool.false_and, Bool.not_true, Bool.not_false, isZS_0, isZS_1, ↓reduceIte, w_at, w_2, wC_at, wC_2, List.cons.injEq, reduceCtorEq, and_false, false_and, and_true, true_and, if_true, if_false, eq_self, and_self, if_pos, if_neg, Nat.add_zero, cN, cT, cC, cW, cB, cG, cP, S0, S1, S2, S3, S4, S5] at e f
        exact ⟨_, _, _, kI_of e, kI_of f, h0⟩
    simp (disch := omega) only [↓Bool.cond_eq_ite, ↓reduceIte, Bool.false_eq_true, eq_self, n_lit, n_neg, n_add, n_mul, n_sub, n_subM, n_div, n_mod, n_addM, m_div, m_subn, n_tN, n_inS, n_eq_t, n_eq_f, n_ne_t, n_ne_f, n_lt_t, n_lt_f, n_ge_t, n_ge_f, n_gt_t, n_gt_f, n_le_t, n_le_f, mn_eq, mn_ne, mn_lt, mn_ge, mn_gt, mn_le, nm_eq, nm_ne, nm_lt, nm_ge, nm_gt, nm_le, n_gts_t, c_eq_refl, c_ne_refl, w_fold, w_2, wC_fold, lt_M, cond_true, cond_false, Bool.and_true, Bool.true_and, Bool.and_false, Bool.false_and, Bool.not_true, Bool.not_false, isZS_0, isZS_1, ↓reduceIte, w_at, w_2, wC_at, wC_2, List.cons.injEq, reduceCtorEq, and_false, false_and, and_true, true_and, if_true, if_false, eq_self, and_self, if_pos, if_neg, Nat.add_zero, cN, cT, cC, cW, cB, cG, cP, S0, S1, S2, S3, S4, S5, k3, Option.bind_some] at e f
    exact ⟨_, _, _, kI_of e, kI_of f, h0⟩
  by_cases d8 : d < 8
  case neg =>
    have e8 := e_128 L xs [0] (oN d) (oN 0) C
    simp (disch := omega) only [↓Bool.cond_eq_ite, ↓reduceIte, Bool.false_eq_true, eq_self, n_lit, n_neg, n_add, n_mul, n_sub, n_subM, n_div, n_mod, n_addM, m_div, m_subn, n_tN, n_inS, n_eq_t, n_eq_f, n_ne_t, n_ne_f, n_lt_t, n_lt_f, n_ge_t, n_ge_f, n_gt_t, n_gt_f, n_le_t, n_le_f, mn_eq, mn_ne, mn_lt, mn_ge, mn_gt, mn_le, nm_eq, nm_ne, nm_lt, nm_ge, nm_gt, nm_le, n_gts_t, c_eq_refl, c_ne_refl, w_fold, w_2, wC_fold, lt_M, cond_true, cond_false, Bool.and_true, Bool.true_and, Bool.and_false, Bool.false_and, Bool.not_true, Bool.not_false, isZS_0, isZS_1] at e8
    have k3 := kI_of e8
    rcases I_cases a2 with ⟨g, g1', rfl⟩ | ⟨g, g0, g1', rfl⟩
    case inr =>
      simp (disch := omega) only [↓Bool.cond_eq_ite, ↓reduceIte, Bool.false_eq_true, eq_self, n_lit, n_neg, n_add, n_mul, n_sub, n_subM, n_div, n_mod, n_addM, m_div, m_subn, n_tN, n_inS, n_eq_t, n_eq_f, n_ne_t, n_ne_f, n_lt_t, n_lt_f, n_ge_t, n_ge_f, n_gt_t, n_gt_f, n_le_t, n_le_f, mn_eq, mn_ne, mn_lt, mn_ge, mn_gt, mn_le, nm_eq, nm_ne, nm_lt, nm_ge, nm_gt, nm_le, n_gts_t, c_eq_refl, c_ne_refl, w_fold, w_2, wC_fold, lt_M, cond_true, cond_false, Bool.and_true, Bool.true_and, Bool.and_false, Bool.false_and, Bool.not_true, Bool.not_false, isZS_0, isZS_1, ↓reduceIte, w_at, w_2, wC_at, wC_2, List.cons.injEq, reduceCtorEq, and_false, false_and, and_true, true_and, if_true, if_false, eq_self, and_self, if_pos, if_neg, Nat.add_zero, cN, cT, cC, cW, cB, cG, cP, S0, S1, S2, S3, S4, S5] at e f
      exact ⟨_, _, _, kI_of e, kI_of f, h0⟩
    by_cases q1 : 1 ≤ g ∧ g ≤ 2000
    case neg =>
      by_cases q2 : 1 ≤ g
      · simp (disch := omega) only [↓Bool.cond_eq_ite, ↓reduceIte, Bool.false_eq_true, eq_self, n_lit, n_neg, n_add, n_mul, n_sub, n_subM, n_div, n_mod, n_addM, m_div, m_subn, n_tN, n_inS, n_eq_t, n_eq_f, n_ne_t, n_ne_f, n_lt_t, n_lt_f, n_ge_t, n_ge_f, n_gt_t, n_gt_f, n_le_t, n_le_f, mn_eq, mn_ne, mn_lt, mn_ge, mn_gt, mn_le, nm_eq, nm_ne, nm_lt, nm_ge, nm_gt, nm_le, n_gts_t, c_eq_refl, c_ne_refl, w_fold, w_2, wC_fold, lt_M, cond_true, cond_false, Bool.and_true, Bool.true_and, Bool.and_false, Bool.false_and, Bool.not_true, Bool.not_false, isZS_0, isZS_1, ↓reduceIte, w_at, w_2, wC_at, wC_2, List.cons.injEq, reduceCtorEq, and_false, false_and, and_true, true_and, if_true, if_false, eq_self, and_self, if_pos, if_neg, Nat.add_zero, cN, cT, cC, cW, cB, cG, cP, S0, S1, S2, S3, S4, S5] at e f
        exact ⟨_, _, _, kI_of e, kI_of f, h0⟩
      · simp (disch := omega) only [↓Bool.cond_eq_ite, ↓reduceIte, Bool.false_eq_true, eq_self, n_lit, n_neg, n_add, n_mul, n_sub, n_subM, n_div, n_mod, n_addM, m_div, m_subn, n_tN, n_inS, n_eq_t, n_eq_f, n_ne_t, n_ne_f, n_lt_t, n_lt_f, n_ge_t, n_ge_f, n_gt_t, n_gt_f, n_le_t, n_le_f, mn_eq, mn_ne, mn_lt, mn_ge, mn_gt, mn_le, nm_eq, nm_ne, nm_lt, nm_ge, nm_gt, nm_le, n_gts_t, c_eq_refl, c_ne_refl, w_fold, w_2, wC_fold, lt_M, cond_true, cond_false, Bool.and_true, Bool.true_and, Bool.and_false, Bool.false_and, Bool.not_true, Bool.not_false, isZS_0, isZS_1, ↓reduceIte, w_at, w_2, wC_at, wC_2, List.cons.injEq, reduceCtorEq, and_false, false_and, and_true, true_and, if_true, if_false, eq_self, and_self, if_pos, if_neg, Nat.add_zero, cN, cT, cC, cW, cB, cG, cP, S0, S1, S2, S3, S4, S5] at e f
        exact ⟨_, _, _, kI_of e, kI_of f, h0⟩
    simp (disch := omega) only [↓Bool.cond_eq_ite, ↓reduceIte, Bool.false_eq_true, eq_self, n_lit, n_neg, n_add, n_mul, n_sub, n_subM, n_div, n_mod, n_addM, m_div, m_subn, n_tN, n_inS, n_eq_t, n_eq_f, n_ne_t, n_ne_f, n_lt_t, n_lt_f, n_ge_t, n_ge_f, n_gt_t, n_gt_f, n_le_t, n_le_f, mn_eq, mn_ne, mn_lt, mn_ge, mn_gt, mn_le, nm_eq, nm_ne, nm_lt, nm_ge, nm_gt, nm_le, n_gts_t, c_eq_refl, c_ne_refl, w_fold, w_2, wC_fold, lt_M, cond_true, cond_false, Bool.and_true, Bool.true_and, Bool.and_false, Bool.false_and, Bool.not_true, Bool.not_false, isZS_0, isZS_1, ↓reduceIte, w_at, w_2, wC_at, wC_2, List.cons.injEq, reduceCtorEq, and_false, false_and, and_true, true_and, if_true, if_false, eq_self, and_self, if_pos, if_neg, Nat.add_zero, cN, cT, cC, cW, cB, cG, cP, S0, S1, S2, S3, S4, S5, k3, Option.bind_some] at e f
    exact ⟨_, _, _, kI_of e, kI_of f, h0⟩
  rcases I_cases a2 with ⟨g, g1, rfl⟩ | ⟨g, g0, g1, rfl⟩
  case inr =>
    simp (disch := omega) only [↓Bool.cond_eq_ite, ↓reduceIte, Bool.false_eq_true, eq_self, n_lit, n_neg, n_add, n_mul, n_sub, n_subM, n_div, n_mod, n_addM, m_div, m_subn, n_tN, n_inS, n_eq_t, n_eq_f, n_ne_t, n_ne_f, n_lt_t, n_lt_f, n_ge_t, n_ge_f, n_gt_t, n_gt_f, n_le_t, n_le_f, mn_eq, mn_ne, mn_lt, mn_ge, mn_gt, mn_le, nm_eq, nm_ne, nm_lt, nm_ge, nm_gt, nm_le, n_gts_t, c_eq_refl, c_ne_refl, w_fold, w_2, wC_fold, lt_M, cond_true, cond_false, Bool.and_true, Bool.true_and, Bool.and_false, Bool.false_and, Bool.not_true, Bool.not_false, isZS_0, isZS_1, ↓reduceIte, w_at, w_2, wC_at, wC_2, List.cons.injEq, reduceCtorEq, and_false, false_and, and_true, true_and, if_true, if_false, eq_self, and_self, if_pos, if_neg, Nat.add_zero, cN, cT, cC, cW, cB, cG, cP, S0, S1, S2, S3, S4, S5] at e f
    exact ⟨_, _, _, kI_of e, kI_of f, h0⟩
  by_cases q1 : 1 ≤ g
  case neg =>
    simp (disch := omega) only [↓Bool.cond_eq_ite, ↓reduceIte, Bool.false_eq_true, eq_self, n_lit, n_neg, n_add, n_mul, n_sub, n_subM, n_div, n_mod, n_addM, m_div, m_subn, n_tN, n_inS, n_eq_t, n_eq_f, n_ne_t, n_ne_f, n_lt_t, n_lt_f, n_ge_t, n_ge_f, n_gt_t, n_gt_f, n_le_t, n_le_f, mn_eq, mn_ne, mn_lt, mn_ge, mn_gt, mn_le, nm_eq, nm_ne, nm_lt, nm_ge, nm_gt, nm_le, n_gts_t, c_eq_refl, c_ne_refl, w_fold, w_2, wC_fold, lt_M, cond_true, cond_false, Bool.and_true, Bool.true_and, Bool.and_false, Bool.false_and, Bool.not_true, Bool.not_false, isZS_0, isZS_1, ↓reduceIte, w_at, w_2, wC_at, wC_2, List.cons.injEq, reduceCtorEq, and_false, false_and, and_true, true_and, if_true, if_false, eq_self, and_self, if_pos, if_neg, Nat.add_zero, cN, cT, cC, cW, cB, cG, cP, S0, S1, S2, S3, S4, S5] at e f
    exact ⟨_, _, _, kI_of e, kI_of f, h0⟩
  by_cases q2 : g ≤ 2000
  case neg =>
    simp (disch := omega) only [↓Bool.cond_eq_ite, ↓reduceIte, Bool.false_eq_true, eq_self, n_lit, n_neg, n_add, n_mul, n_sub, n_subM, n_div, n_mod, n_addM, m_div, m_subn, n_tN, n_inS, n_eq_t, n_eq_f, n_ne_t, n_ne_f, n_lt_t, n_lt_f, n_ge_t, n_ge_f, n_gt_t, n_gt_f, n_le_t, n_le_f, mn_eq, mn_ne, mn_lt, mn_ge, mn_gt, mn_le, nm_eq, nm_ne, nm_lt, nm_ge, nm_gt, nm_le, n_gts_t, c_eq_refl, c_ne_refl, w_fold, w_2, wC_fold, lt_M, cond_true, cond_false, Bool.and_true, Bool.true_and, Bool.and_false, Bool.false_and, Bool.not_true, Bool.not_false, isZS_0, isZS_1, ↓reduceIte, w_at, w_2, wC_at, wC_2, List.cons.injEq, reduceCtorEq, and_false, false_and, and_true, true_and, if_true, if_false, eq_self, and_self, if_pos, if_neg, Nat.add_zero, cN, cT, cC, cW, cB, cG, cP, S0, S1, S2, S3, S4, S5] at e f
    exact ⟨_, _, _, kI_of e, kI_of f, h0⟩
  rcases rc_ok (L := L) (xs := xs) hSh (oN d) with ⟨k, k1, k2, k3, k4⟩ | ⟨d', n, hdd, hd, hn, k3, k4, x5, x6, x7, x8⟩
  · simp (disch := omega) only [↓Bool.cond_eq_ite, ↓reduceIte, Bool.false_eq_true, eq_self, n_lit, n_neg, n_add, n_mul, n_sub, n_subM, n_div, n_mod, n_addM, m_div, m_subn, n_tN, n_inS, n_eq_t, n_eq_f, n_ne_t, n_ne_f, n_lt_t, n_lt_f, n_ge_t, n_ge_f, n_gt_t, n_gt_f, n_le_t, n_le_f, mn_eq, mn_ne, mn_lt, mn_ge, mn_gt, mn_le, nm_eq, nm_ne, nm_lt, nm_ge, nm_gt, nm_le, n_gts_t, c_eq_refl, c_ne_refl, w_fold, w_2, wC_fold, lt_M, cond_true, cond_false, Bool.and_true, Bool.true_and, Bool.and_false, Bool.false_and, Bool.not_true, Bool.not_false, isZS_0, isZS_1, ↓reduceIte, w_at, w_2, wC_at, wC_2, List.cons.injEq, reduceCtorEq, and_false, false_and, and_true, true_and, if_true, if_false, eq_self, and_self, if_pos, if_neg, Nat.add_zero, cN, cT, cC, cW, cB, cG, cP, S0, S1, S2, S3, S4, S5, k3, k4, Option.bind_some] at e f
    exact ⟨_, _, _, kI_of e, kI_of f, h0⟩
  have hdd : d' = d := (n_inj (by omega) (by omega)).mp hdd.symm
  subst hdd
  obtain ⟨hh, gb, hI⟩ := hd_of hhm hP
  have hK := rP_mK hP
  have k176 := s_176 (L := L) (xs := xs) hK
  by_cases n1 : 1 ≤ n ∧ n ≤ 5
  case neg =>
    by_cases n2 : 1 ≤ n
    · simp (disch := omega) only [↓Bool.cond_eq_ite, ↓reduceIte, Bool.false_eq_true, eq_self, n_lit, n_neg, n_add, n_mul, n_sub, n_subM, n_div, n_mod, n_addM, m_div, m_subn, n_tN, n_inS, n_eq_t, n_eq_f, n_ne_t, n_ne_f, n_lt_t, n_lt_f, n_ge_t, n_ge_f, n_gt_t, n_gt_f, n_le_t, n_le_f, mn_eq, mn_ne, mn_lt, mn_ge, mn_gt, mn_le, nm_eq, nm_ne, nm_lt, nm_ge, nm_gt, nm_le, n_gts_t, c_eq_refl, c_ne_refl, w_fold, w_2, wC_fold, lt_M, cond_true, cond_false, Bool.and_true, Bool.true_and, Bool.and_false, Bool.false_and, Bool.not_true, Bool.not_false, isZS_0, isZS_1, ↓reduceIte, w_at, w_2, wC_at, wC_2, List.cons.injEq, reduceCtorEq, and_false, false_and, and_true, true_and, if_true, if_false, eq_self, and_self, if_pos, if_neg, Nat.add_zero, cN, cT, cC, cW, cB, cG, cP, S0, S1, S2, S3, S4, S5, k3, k4, x5, x6, Option.bind_some] at e f
      exact ⟨_, _, _, kI_of e, kI_of f, h0⟩
    · simp (disch := omega) only [↓Bool.cond_eq_ite, ↓reduceIte, Bool.false_eq_true, eq_self, n_lit, n_neg, n_add, n_mul, n_sub, n_subM, n_div, n_mod, n_addM, m_div, m_subn, n_tN, n_inS, n_eq_t, n_eq_f, n_ne_t, n_ne_f, n_lt_t, n_lt_f, n_ge_t, n_ge_f, n_gt_t, n_gt_f, n_le_t, n_le_f, mn_eq, mn_ne, mn_lt, mn_ge, mn_gt, mn_le, nm_eq, nm_ne, nm_lt, nm_ge, nm_gt, nm_le, n_gts_t, c_eq_refl, c_ne_refl, w_fold, w_2, wC_fold, lt_M, cond_true, cond_false, Bool.and_true, Bool.true_and, Bool.and_false, Bool.false_and, Bool.not_true, Bool.not_false, isZS_0, isZS_1, ↓reduceIte, w_at, w_2, wC_at, wC_2, List.cons.injEq, reduceCtorEq, and_false, false_and, and_true, true_and, if_true, if_false, eq_self, and_self, if_pos, if_neg, Nat.add_zero, cN, cT, cC, cW, cB, cG, cP, S0, S1, S2, S3, S4, S5, k3, k4, x5, x6, Option.bind_some] at e f
      exact ⟨_, _, _, kI_of e, kI_of f, h0⟩
  by_cases n2 : n ≤ cntG kd nb
  case neg =>
    simp (disch := omega) only [↓Bool.cond_eq_ite, ↓reduceIte, Bool.false_eq_true, eq_self, n_lit, n_neg, n_add, n_mul, n_sub, n_subM, n_div, n_mod, n_addM, m_div, m_subn, n_tN, n_inS, n_eq_t, n_eq_f, n_ne_t, n_ne_f, n_lt_t, n_lt_f, n_ge_t, n_ge_f, n_gt_t, n_gt_f, n_le_t, n_le_f, mn_eq, mn_ne, mn_lt, mn_ge, mn_gt, mn_le, nm_eq, nm_ne, nm_lt, nm_ge, nm_gt, nm_le, n_gts_t, c_eq_refl, c_ne_refl, w_fold, w_2, wC_fold, lt_M, cond_true, cond_false, Bool.and_true, Bool.true_and, Bool.and_false, Bool.false_and, Bool.not_true, Bool.not_false, isZS_0, isZS_1, ↓reduceIte, w_at, w_2, wC_at, wC_2, List.cons.injEq, reduceCtorEq, and_false, false_and, and_true, true_and, if_true, if_false, eq_self, and_self, if_pos, if_neg, Nat.add_zero, cN, cT, cC, cW, cB, cG, cP, S0, S1, S2, S3, S4, S5, k3, k4, x5, x6, k176, Option.bind_some] at e f
    exact ⟨_, _, _, kI_of e, kI_of f, h0⟩
  obtain ⟨v, C1, C', M', y1, y2, y3, y4, y9, y5, y6⟩ := jud_ok (L := L) (xs := xs) (g := g) hd hI hK b40 n1.1 n1.2 n2 (by omega) x5 x7
  simp (disch := omega) only [↓Bool.cond_eq_ite, ↓reduceIte, Bool.false_eq_true, eq_self, n_lit, n_neg, n_add, n_mul, n_sub, n_subM, n_div, n_mod, n_addM, m_div, m_subn, n_tN, n_inS, n_eq_t, n_eq_f, n_ne_t, n_ne_f, n_lt_t, n_lt_f, n_ge_t, n_ge_f, n_gt_t, n_gt_f, n_le_t, n_le_f, mn_eq, mn_ne, mn_lt, mn_ge, mn_gt, mn_le, nm_eq, nm_ne, nm_lt, nm_ge, nm_gt, nm_le, n_gts_t, c_eq_refl, c_ne_refl, w_fold, w_2, wC_fold, lt_M, cond_true, cond_false, Bool.and_true, Bool.true_and, Bool.and_false, Bool.false_and, Bool.not_true, Bool.not_false, isZS_0, isZS_1, ↓reduceIte, w_at, w_2, wC_at, wC_2, List.cons.injEq, reduceCtorEq, and_false, false_and, and_true, true_and, if_true, if_false, eq_self, and_self, if_pos, if_neg, Nat.add_zero, cN, cT, cC, cW, cB, cG, cP, S0, S1, S2, S3, S4, S5, k3, k4, x5, x6, k176, y1, y2, y3, Option.bind_some] at e f
  exact ⟨_, _, _, kI_of e, kI_of f, rI_ag (agC_r y4 y9) (agM_r y5 y6) h0⟩

end Ops19
