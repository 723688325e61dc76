section Note2
variable {L : Nat} {xs : Nat → Int32} {C M : mM} {c nc nw nb np nt now td hm : Nat} {kd wa wb wd wl ws : Nat → Nat}
def plJ (Cb Mb : mM) (now : Nat) (kd : Nat → Nat) (b : Nat) (C1 M1 : mM) : Prop :=
  C1.1 = Cb.1 ∧ C1.2.2 = Cb.2.2 ∧ (∀ q, q ≠ [25, 1] → M1.1 q = Mb.1 q) ∧ M1.2 = Mb.2 ∧
  (∀ b', b' < b → kd b' = 0 → pl (C1.2.1 [1, 5, 0]) (b' * 4320 + now) = M1.1 [25, 1] (4321 * b' + now)) ∧ (∀ j, (∀ b', j ≠ b' * 4320 + now) → pl (C1.2.1 [1, 5, 0]) j = pl (Cb.2.1 [1, 5, 0]) j) ∧ (∀ j, (∀ b', j ≠ 4321 * b' + now) → M1.1 [25, 1] j = Mb.1 [25, 1] j)
theorem by8 : ∀ k, k < 128 → vp_nar .byte (oN k).toInt8.toInt32 = oN k := by decide +kernel
theorem np_ok {i k : Nat} (hi : i < 172800) : kV L xs 255 [vr 1 [5, 0], vi (oN i), vl (oN k).toInt64] C = some (wL C [1, 5, 0] (i / 8) (plW (C.2.1 [1, 5, 0] (i / 8)) (oN ((i - i / 8 * 8) * 8)) (oN k).toInt64)) := by
  refine kV_of ?_
  rw [e8_255]
  simp (disch := omega) only [↓Bool.cond_eq_ite, ↓reduceIte, Bool.false_eq_true, eq_self, n_lit, n_neg, n_add, n_mul, n_sub, n_subM, n_div, n_mod, n_addM, m_div, m_subn, n_tN, n_inS, n_eq_t, n_eq_f, n_ne_t, n_ne_f, n_lt_t, n_lt_f, n_ge_t, n_ge_f, n_gt_t, n_gt_f, n_le_t, n_le_f, mn_eq, mn_ne, mn_lt, mn_ge, mn_gt, mn_le, nm_eq, nm_ne, nm_lt, nm_ge, nm_gt, nm_le, n_gts_t, c_eq_refl, c_ne_refl, w_fold, wC_fold, lt_M, cond_true, cond_false, Bool.and_true, Bool.true_and, Bool.and_false, Bool.false_and, Bool.not_true, Bool.not_false, isZS_0, isZS_1, wL_fold]
set_option maxRecDepth 8000 in
theorem place_loop {Cb Mb : mM} (hn : now < 4320) (h11 : Cb.1 [0, 0] 11 = oN (cntG kd nb)) (h40 : nb ≤ 40) (hG : rGr [0, 0] Cb nb kd) (h2 : Mb.1 [1, 1] 2 = oN nb)
    (hB : ∀ b, b < nb → kd b = 0 → Cb.1 [b, 10, 0, 0] 0 = oN b ∧ ((∃ c, c < 16 ∧ Cb.1 [b, 10, 0, 0] 2 = oN c ∧ Mb.1 [1, 1] (200 + 16 * b) = oN c) ∨ (∃ w, w < 24 ∧ Cb.1 [b, 10, 0, 0] 2 = oM 1 ∧ Mb.1 [1, 1] (200 + 16 * b) = oM 4 ∧ Cb.1 [b, 10, 0, 0] 3 = oN w ∧ Mb.1 [1, 1] (200 + 16 * b + 1) = oN w))) :
    ∃ C' M', run L xs 4 27 (104, [some (vr 1 [5, 0]), some (vr 2 [0, 0]), some (vi (oN now)), none, some (vi (oN 0)), none], [], Cb) = some (none, C') ∧ run L xs 215 27 (121, [some (vr 10 [1]), some (vi (oN now)), some (vi (oN 0))], [], Mb) = some (none, M') ∧ plJ Cb Mb now kd nb C' M' := by
  have hle := cntG_le kd nb
  obtain ⟨C', M', k1, k2, k3⟩ := syncG (X := fun i C1 => run L xs 4 27 (104, [some (vr 1 [5, 0]), some (vr 2 [0, 0]), some (vi (oN now)), none, some (vi (oN i)), none], [], C1)) (Y := fun b M1 => run L xs 215 27 (121, [some (vr 10 [1]), some (vi (oN now)), some (vi (oN b))], [], M1)) (J := plJ Cb Mb now kd) (nb := nb) kd (by
    intro b C1 M1 hb hJ hk
    obtain ⟨j1, j2, j3, j4, j5, j6, j7⟩ := hJ
    obtain ⟨b0, bp⟩ := hB b hb hk
    have hlt := cntG_lt kd hb hk
    have e0 : C1.1 [0, 0] = Cb.1 [0, 0] := by rw [j1]
    have e12 : C1.1 [12, 0, 0] = Cb.1 [12, 0, 0] := by rw [j1]
    have eb : C1.1 [b, 10, 0, 0] = Cb.1 [b, 10, 0, 0] := by rw [j1]
    have m1 := j3 [1, 1] (by simp)
    have hgr := hG b hb hk
    have fin : ∀ v, v < 128 → plJ Cb Mb now kd (b + 1) (wL C1 [1, 5, 0] ((b * 4320 + now) / 8) (plW (C1.2.1 [1, 5, 0] ((b * 4320 + now) / 8)) (oN ((b * 4320 + now - (b * 4320 + now) / 8 * 8) * 8)) (oN v).toInt64)) (wI M1 [25, 1] (4321 * b + now) (oN v)) := fun v hv => by
      have hp : ∀ j, pl ((wL C1 [1, 5, 0] ((b * 4320 + now) / 8) (plW (C1.2.1 [1, 5, 0] ((b * 4320 + now) / 8)) (oN ((b * 4320 + now - (b * 4320 + now) / 8 * 8) * 8)) (oN v).toInt64)).2.1 [1, 5, 0]) j = if j = b * 4320 + now then oN v else pl (C1.2.1 [1, 5, 0]) j := fun j => pl_upd (f := C1.2.1 [1, 5, 0]) (by omega) (fun j => by simp only [wL_at, eq_self, true_and]) j
      refine ⟨j1, j2, fun q hq => by rw [w_ne hq]; exact j3 q hq, j4, fun b' hb' hk' => ?_, fun j hj => ?_, fun j hj => ?_⟩
      · by_cases e : b' = b
        · subst e
          rw [hp, if_pos rfl, w_at, if_pos ⟨rfl, rfl⟩]
        · rw [hp, if_neg (by omega), w_ne_k (by omega)]
          exact j5 b' (by omega) hk'
      · rw [hp, if_neg (hj b)]; exact j6 j hj
      · rw [w_ne_k (hj b)]; exact j7 j hj
    try dsimp only
    rcases bp with ⟨u, u1, u2, u3⟩ | ⟨w, w1, w2, w3, w4, w5⟩
    · have k255 := np_ok (L := L) (xs := xs) (C := C1) (i := b * 4320 + now) (k := u) (by omega)
      have hb8 := by8 u (by omega)
      refine ⟨_, _, ?_, ?_, fin u (by omega)⟩
      · rw [h_4_104]
        simp (disch := omega) only [↓Bool.cond_eq_ite, ↓reduceIte, Bool.false_eq_true, eq_self, n_lit, n_neg, n_add, n_mul, n_sub, n_subM, n_div, n_mod, n_addM, m_div, m_subn, n_tN, n_inS, n_eq_t, n_eq_f, n_ne_t, n_ne_f, n_lt_t, n_lt_f, n_ge_t, n_ge_f, n_gt_t, n_gt_f, n_le_t, n_le_f, mn_eq, mn_ne, mn_lt, mn_ge, mn_gt, mn_le, nm_eq, nm_ne, nm_lt, nm_ge, nm_gt, nm_le, n_gts_t, c_eq_refl, c_ne_refl, w_fold, wC_fold, lt_M, cond_true, cond_false, Bool.and_true, Bool.true_and, Bool.and_false, Bool.false_and, Bool.not_true, Bool.not_false, isZS_0, isZS_1, e0, e12, eb, h11, hgr, b0, u2, k255, Option.bind_some]
      · rw [h_215_121]
        simp (disch := omega) only [↓Bool.cond_eq_ite, ↓reduceIte, Bool.false_eq_true, eq_self, n_lit, n_neg, n_add, n_mul, n_sub, n_subM, n_div, n_mod, n_addM, m_div, m_subn, n_tN, n_inS, n_eq_t, n_eq_f, n_ne_t, n_ne_f, n_lt_t, n_lt_f, n_ge_t, n_ge_f, n_gt_t, n_gt_f, n_le_t, n_le_f, mn_eq, mn_ne, mn_lt, mn_ge, mn_gt, mn_le, nm_eq, nm_ne, nm_lt, nm_ge, nm_gt, nm_le, n_gts_t, c_eq_refl, c_ne_refl, w_fold, wC_fold, lt_M, cond_true, cond_false, Bool.and_true, Bool.true_and, Bool.and_false, Bool.false_and, Bool.not_true, Bool.not_false, isZS_0, isZS_1, Nat.add_zero, m1, h2, u3, hb8]
    · have k255 := np_ok (L := L) (xs := xs) (C := C1) (i := b * 4320 + now) (k := 100 + w) (by omega)
      have hb8 := by8 (100 + w) (by omega)
      refine ⟨_, _, ?_, ?_, fin (100 + w) (by omega)⟩
      · rw [h_4_104]
        simp (disch := omega) only [↓Bool.cond_eq_ite, ↓reduceIte, Bool.false_eq_true, eq_self, n_lit, n_neg, n_add, n_mul, n_sub, n_subM, n_div, n_mod, n_addM, m_div, m_subn, n_tN, n_inS, n_eq_t, n_eq_f, n_ne_t, n_ne_f, n_lt_t, n_lt_f, n_ge_t, n_ge_f, n_gt_t, n_gt_f, n_le_t, n_le_f, mn_eq, mn_ne, mn_lt, mn_ge, mn_gt, mn_le, nm_eq, nm_ne, nm_lt, nm_ge, nm_gt, nm_le, n_gts_t, c_eq_refl, c_ne_refl, w_fold, wC_fold, lt_M, cond_true, cond_false, Bool.and_true, Bool.true_and, Bool.and_false, Bool.false_and, Bool.not_true, Bool.not_false, isZS_0, isZS_1, e0, e12, eb, h11, hgr, b0, w2, w4, k255, Option.bind_some]
      · rw [h_215_121]
        simp (disch := omega) only [↓Bool.cond_eq_ite, ↓reduceIte, Bool.false_eq_true, eq_self, n_lit, n_neg, n_add, n_mul, n_sub, n_subM, n_div, n_mod, n_addM, m_div, m_subn, n_tN, n_inS, n_eq_t, n_eq_f, n_ne_t, n_ne_f, n_lt_t, n_lt_f, n_ge_t, n_ge_f, n_gt_t, n_gt_f, n_le_t, n_le_f, mn_eq, mn_ne, mn_lt, mn_ge, mn_gt, mn_le, nm_eq, nm_ne, nm_lt, nm_ge, nm_gt, nm_le, n_gts_t, c_eq_refl, c_ne_refl, w_fold, wC_fold, lt_M, cond_true, cond_false, Bool.and_true, Bool.true_and, Bool.and_false, Bool.false_and, Bool.not_true, Bool.not_false, isZS_0, isZS_1, Nat.add_zero, m1, h2, w3, w5, hb8]) (by
    intro b C1 M1 hb hJ hk
    obtain ⟨j1, j2, j3, j4, j5, j6, j7⟩ := hJ
    have m1 := j3 [1, 1] (by simp)
    have fin : ∀ v, plJ Cb Mb now kd (b + 1) C1 (wI M1 [25, 1] (4321 * b + now) v) := fun v => by
      refine ⟨j1, j2, fun q hq => by rw [w_ne hq]; exact j3 q hq, j4, fun b' hb' hk' => ?_, j6, fun j hj => ?_⟩
      · have e : b' ≠ b := fun e => hk (e ▸ hk')
        rw [w_ne_k (by omega)]
        exact j5 b' (by omega) hk'
      · rw [w_ne_k (hj b)]; exact j7 j hj
    try dsimp only
    cases hq : cmpS .lt (Mb.1 [1, 1] (200 + 16 * b)) (oN 0) with
    | true =>
      refine ⟨_, ?_, fin (vp_nar .byte ((oN 100) + (Mb.1 [1, 1] (200 + 16 * b + 1))).toInt8.toInt32)⟩
      rw [h_215_121]
      simp (disch := omega) only [↓Bool.cond_eq_ite, ↓reduceIte, Bool.false_eq_true, eq_self, n_lit, n_neg, n_add, n_mul, n_sub, n_subM, n_div, n_mod, n_addM, m_div, m_subn, n_tN, n_inS, n_eq_t, n_eq_f, n_ne_t, n_ne_f, n_lt_t, n_lt_f, n_ge_t, n_ge_f, n_gt_t, n_gt_f, n_le_t, n_le_f, mn_eq, mn_ne, mn_lt, mn_ge, mn_gt, mn_le, nm_eq, nm_ne, nm_lt, nm_ge, nm_gt, nm_le, n_gts_t, c_eq_refl, c_ne_refl, w_fold, wC_fold, lt_M, cond_true, cond_false, Bool.and_true, Bool.true_and, Bool.and_false, Bool.false_and, Bool.not_true, Bool.not_false, isZS_0, isZS_1, Nat.add_zero, m1, h2, hq]
    | false =>
      refine ⟨_, ?_, fin (vp_nar .byte (Mb.1 [1, 1] (200 + 16 * b)).toInt8.toInt32)⟩
      rw [h_215_121]
      simp (disch := omega) only [↓Bool.cond_eq_ite, ↓reduceIte, Bool.false_eq_true, eq_self, n_lit, n_neg, n_add, n_mul, n_sub, n_subM, n_div, n_mod, n_addM, m_div, m_subn, n_tN, n_inS, n_eq_t, n_eq_f, n_ne_t, n_ne_f, n_lt_t, n_lt_f, n_ge_t, n_ge_f, n_gt_t, n_gt_f, n_le_t, n_le_f, mn_eq, mn_ne, mn_lt, mn_ge, mn_gt, mn_le, nm_eq, nm_ne, nm_lt, nm_ge, nm_gt, nm_le, n_gts_t, c_eq_refl, c_ne_refl, w_fold, wC_fold, lt_M, cond_true, cond_false, Bool.and_true, Bool.true_and, Bool.and_false, Bool.false_and, Bool.not_true, Bool.not_false, isZS_0, isZS_1, Nat.add_zero, m1, h2, hq]) nb (Nat.le_refl _) Cb Mb ⟨rfl, rfl, fun _ _ => rfl, rfl, fun b' hb' => absurd hb' (by omega), fun _ _ => rfl, fun _ _ => rfl⟩
  refine ⟨C', M', ?_, ?_, k3⟩
  · refine k1.trans ?_
    try dsimp only
    have e0 : C'.1 [0, 0] = Cb.1 [0, 0] := by rw [k3.1]
    rw [h_4_104]
    simp (disch := omega) only [↓Bool.cond_eq_ite, ↓reduceIte, Bool.false_eq_true, eq_self, n_lit, n_neg, n_add, n_mul, n_sub, n_subM, n_div, n_mod, n_addM, m_div, m_subn, n_tN, n_inS, n_eq_t, n_eq_f, n_ne_t, n_ne_f, n_lt_t, n_lt_f, n_ge_t, n_ge_f, n_gt_t, n_gt_f, n_le_t, n_le_f, mn_eq, mn_ne, mn_lt, mn_ge, mn_gt, mn_le, nm_eq, nm_ne, nm_lt, nm_ge, nm_gt, nm_le, n_gts_t, c_eq_refl, c_ne_refl, w_fold, w_2, wC_fold, lt_M, cond_true, cond_false, Bool.and_true, Bool.true_and, Bool.and_false, Bool.false_and, Bool.not_true, Bool.not_false, isZS_0, isZS_1, e0, h11]
  · refine k2.trans ?_
    try dsimp only
    have m1 := k3.2.2.1 [1, 1] (by simp)
    rw [h_215_121]
    simp (disch := omega) only [↓Bool.cond_eq_ite, ↓reduceIte, Bool.false_eq_true, eq_self, n_lit, n_neg, n_add, n_mul, n_sub, n_subM, n_div, n_mod, n_addM, m_div, m_subn, n_tN, n_inS, n_eq_t, n_eq_f, n_ne_t, n_ne_f, n_lt_t, n_lt_f, n_ge_t, n_ge_f, n_gt_t, n_gt_f, n_le_t, n_le_f, mn_eq, mn_ne, mn_lt, mn_ge, mn_gt, mn_le, nm_eq, nm_ne, nm_lt, nm_ge, nm_gt, nm_le, n_gts_t, c_eq_refl, c_ne_refl, w_fold, w_2, wC_fold, lt_M, cond_true, cond_false, Bool.and_true, Bool.true_and, Bool.and_false, Bool.false_and, Bool.not_true, Bool.not_false, isZS_0, isZS_1, m1, h2]
end Note2
