section Step3
variable {L : Nat} {xs : Nat → Int32} {C C' M M' : mM} {q : List Nat} {c nc nw nb np nt now td hm e : Nat} {kd wa wb wd wl ws : Nat → Nat}
def frM2 (M M' : mM) : Prop := (∀ q, q ≠ [1, 1] → q ≠ [27, 1] → M'.1 q = M.1 q) ∧ M'.2 = M.2
theorem frM2_of (h : frM M M') : frM2 M M' := ⟨fun q h1 _ => h.1 q h1, h.2⟩
theorem frM2_refl : frM2 M M := ⟨fun _ _ _ => rfl, rfl⟩
theorem frM2_trans {A B D : mM} (h : frM2 A B) (h' : frM2 B D) : frM2 A D := ⟨fun q h1 h2 => (h'.1 q h1 h2).trans (h.1 q h1 h2), h'.2.trans h.2⟩
theorem rPt_free (h : rPt [c, 0] (M.1 [1, 1]) C M nc nw nb np nt now td hm kd wa wb wd wl ws) (hC : ∀ q, q ≠ [10, 6, c, 0] → q ≠ [6, c, 0] → q ≠ [12, 6, c, 0] → C'.1 q = C.1 q) (hC6 : ∀ j, j ≠ 11 → C'.1 [6, c, 0] j = C.1 [6, c, 0] j)
    (hD : rDi [c, 0] C' nc nw wa wb wl ws) (hS : ∀ i, i < 1600 → M'.1 [1, 1] i = M.1 [1, 1] i) (hM : ∀ k, 5 ≤ k → k ≤ 17 → M'.1 [k, 1] = M.1 [k, 1]) : rPt [c, 0] (M'.1 [1, 1]) C' M' nc nw nb np nt now td hm kd wa wb wd wl ws := by
  obtain ⟨g1, g2, g3, g4, g5, g6, g7, g8, g9, g10⟩ := h
  have hk : ∀ k, k ≠ 6 → C'.1 [k, c, 0] = C.1 [k, c, 0] := fun k h => hC _ (by simp) (by simp [h]) (by simp)
  have hk6 : ∀ k, k ≠ 10 → k ≠ 12 → C'.1 [k, 6, c, 0] = C.1 [k, 6, c, 0] := fun k h1 h2 => hC _ (by simp [h1]) (by simp) (by simp [h2])
  have b40 := g1.2.2.2.2.2.2.2.2.2.2.2.2.2.2.2.1
  have b24 := g1.2.2.2.2.2.2.2.2.2.2.2.2.2.2.1
  have b16 := g1.2.2.2.2.2.2.2.2.2.2.2.2.2.1
  have hb : ∀ b, C'.1 [b, 10, c, 0] = C.1 [b, 10, c, 0] := fun b => hC _ (by simp) (by simp) (by simp)
  exact ⟨rSc_congr (hC _ (by simp) (by simp) (by simp)) (hC6 0 (by omega)) (fun i hi => hS i (by omega)) g1, rCe_congr (hk 3 (by omega)) (hk 4 (by omega)) (hk 5 (by omega)) (fun i hi => hS _ (by omega)) (fun i _ => ⟨by rw [hM 5 (by omega) (by omega)], by rw [hM 6 (by omega) (by omega)]⟩) g2,
    rWa_congr (hk6 1 (by omega) (by omega)) (hk6 2 (by omega) (by omega)) (hk6 3 (by omega) (by omega)) (hk6 4 (by omega) (by omega)) (hk6 5 (by omega) (by omega)) (fun i hi => hS _ (by omega)) (fun i _ => ⟨by rw [hM 7 (by omega) (by omega)], by rw [hM 8 (by omega) (by omega)], by rw [hM 9 (by omega) (by omega)], by rw [hM 10 (by omega) (by omega)]⟩) g3,
    rWd_congr (hk6 6 (by omega) (by omega)) (hk6 7 (by omega) (by omega)) (hk6 9 (by omega) (by omega)) (fun i hi => hS _ (by omega)) (fun i hi => hS _ (by omega)) (fun i hi => hS _ (by omega)) g4,
    rHe_congr (hk 7 (by omega)) (fun i hi => hS _ (by omega)) g5, rFo_congr (hk 8 (by omega)) (fun i hi => hS _ (by omega)) g6,
    rBo_congr b40 (fun b _ => ⟨hb b, hC _ (by simp) (by simp) (by simp), hC _ (by simp) (by simp) (by simp), hC _ (by simp) (by simp) (by simp)⟩) (fun i _ hi => hS i hi) (fun b _ => ⟨by rw [hM 11 (by omega) (by omega)], by rw [hM 12 (by omega) (by omega)], by rw [hM 13 (by omega) (by omega)], by rw [hM 14 (by omega) (by omega)], by rw [hM 15 (by omega) (by omega)], by rw [hM 16 (by omega) (by omega)]⟩) g7,
    rGr_congr (hk 12 (by omega)) g8, rPo_congr (hk 14 (by omega)) (fun i _ => by rw [hM 17 (by omega) (by omega)]) g9, hD⟩
theorem headsT_eq {w : Nat} (hw : w < nw) (h : rPt [c, 0] (M.1 [1, 1]) C M nc nw nb np nt now td hm kd wa wb wd wl ws) :
    sumN (hoF c C kd w) nb = sumN (fun b => if kd b = 0 then (if M.1 [1, 1] (200 + 16 * b + 1) = oN w then M.1 [1, 1] (200 + 16 * b + 3) else oN 0) else oN 0) nb := by
  refine sumN_congr (fun b hb => ?_)
  obtain ⟨-, ⟨-, hp⟩, ⟨⟨x, -, h6, h7⟩, -⟩, -, -⟩ := h.2.2.2.2.2.2.1 b hb
  have hnw : nw ≤ 24 := h.1.2.2.2.2.2.2.2.2.2.2.2.2.2.2.1
  unfold hoF
  by_cases hk : kd b = 0
  · rw [if_pos hk, if_pos hk, h6, h7]
    rcases hp with ⟨-, c, -, -, -, h3, h4⟩ | ⟨-, v, e, t, h1, -, -, -, -, -, h3, h4, -⟩ | ⟨k4, -⟩ | ⟨k0, -⟩
    · rw [h3, h4, if_neg (oN_oM (by omega) (by omega) (by omega)).symm, if_neg (oN_oM (by omega) (by omega) (by omega)).symm]
    · rw [h3, h4]
    · omega
    · exact absurd hk k0
  · rw [if_neg hk, if_neg hk]
theorem rPt_cWy (h : rPt [c, 0] (M.1 [1, 1]) C M nc nw nb np nt now td hm kd wa wb wd wl ws) : cWy [6, c, 0] C nc nw wa wb wl ws := by
  obtain ⟨g1, g2, g3, -⟩ := h
  obtain ⟨cN, cT, cC, cW, cB, cG, cP, S0, S1, S2, S3, S4, S5, b16, b24, b40, b8, b20, b4320⟩ := g1
  refine ⟨cW, b16, b24, fun w hw => ?_⟩
  obtain ⟨wa1, wb1, wne, wd1, wd60, wl1, wl30, ws3, ca, ma, cb, mb, cd, md, cl, ml, cs, ms⟩ := g3 w hw
  exact ⟨wa1, wb1, wne, wl1, wl30, ws3, ca, cb, cl, cs⟩
theorem rPt_mWy (h : rPt [c, 0] (M.1 [1, 1]) C M nc nw nb np nt now td hm kd wa wb wd wl ws) : mWy M nc nw wa wb wl ws := by
  obtain ⟨g1, g2, g3, -⟩ := h
  obtain ⟨cN, cT, cC, cW, cB, cG, cP, S0, S1, S2, S3, S4, S5, b16, b24, b40, b8, b20, b4320⟩ := g1
  refine ⟨S1, b16, b24, fun w hw => ?_⟩
  obtain ⟨wa1, wb1, wne, wd1, wd60, wl1, wl30, ws3, ca, ma, cb, mb, cd, md, cl, ml, cs, ms⟩ := g3 w hw
  exact ⟨wa1, wb1, wne, wl1, wl30, ws3, ma, mb, ml, ms⟩
def modP (wa wb wl ws sh t : Nat → Nat) (u : Nat) (w : Nat) : Bool := match endW wa wb ws w u with
  | none => false
  | some x => decide (sh w = 0) && (decide (t x < 1000000) && decide (t x + wl w = t u))
def orS (a b : Option Nat) : Option Nat := match a with
  | some x => some x
  | none => b
theorem firW_or (P : Nat → Bool) (k : Nat) (o : Option Nat) : orS (firW P (k + 1) 0) o = orS (firW P k 0) (if P k = true then some k else o) := by
  rw [firW_last, Nat.zero_add]
  cases h : firW P k 0 with
  | some x => rfl
  | none =>
    show orS (if P k = true then some k else none) o = _
    by_cases z : P k = true
    · rw [if_pos z, if_pos z]; rfl
    · rw [if_neg z, if_neg z]
set_option maxRecDepth 8000 in
set_option maxHeartbeats 8000000 in
theorem srch_ok (hW : mWy M nc nw wa wb wl ws) {t sh : Nat → Nat} {b u : Nat} (hb : b < 40) (hu : u < nc) (hsh : ∀ w, w < nw → sh w ≤ 1 ∧ M.1 [1, 1] (120 + w) = oN (sh w)) (ht : ∀ x, x < 16 → M.1 [27, 1] x = oN (t x) ∧ t x ≤ 1000000) :
    ∀ (k : Nat) (o : Option Nat), k ≤ nw → (∀ x, o = some x → x < nw) → run L xs 227 27 (110, [some (vr 10 [1]), some (vi (oN b)), none, some (vi (oN u)), none, some (vi (encI o)), some (vi (oN k - oN 1)), none], [], M) =
      run L xs 227 27 (110, [some (vr 10 [1]), some (vi (oN b)), none, some (vi (oN u)), none, some (vi (encI (orS (firW (modP wa wb wl ws sh t u) k 0) o))), some (vi (oN 0 - oN 1)), none], [], M)
  | 0, o, _, _ => rfl
  | k + 1, o, hk, ho => by
    have hW' := hW
    obtain ⟨c0, h16, h24, hw0⟩ := hW'
    obtain ⟨a1, a2, a3, a4, a5, a6, a7, a8, a9, a10⟩ := hw0 k (by omega)
    obtain ⟨s1, s2⟩ := hsh k (by omega)
    have hl := s_199 (L := L) (xs := xs) hW (w := k) (x := u) (by omega) (by omega)
    rw [firW_or, ← srch_ok hW hb hu hsh ht k _ (by omega) (by
      intro x hx
      split at hx
      · cases hx; omega
      · exact ho x hx)]
    rw [show oN (k + 1) - oN 1 = oN k by rw [n_sub (by omega)]; rfl, h_227_110]
    have e1 : oN k + (-1 : Int32) = oN k - oN 1 := (Int32.sub_eq_add_neg _ _).symm
    have tu := ht u (by omega)
    have ta := ht (wa k) (by omega)
    have tb := ht (wb k) (by omega)
    have hno : modP wa wb wl ws sh t u k = false → kI L xs 199 [vr 10 [1], vi (oN k), vi (oN u)] M = some (oN 0, M) → True := fun _ _ => trivial
    by_cases qa : wa k = u
    · by_cases z : ws k = 0 ∨ ws k = 1
      · rw [if_pos (.inl ⟨qa, z⟩)] at hl
        have he : endW wa wb ws k u = some (wb k) := by unfold endW; rw [if_pos ⟨qa, z⟩]
        have hp : modP wa wb wl ws sh t u k = (decide (sh k = 0) && (decide (t (wb k) < 1000000) && decide (t (wb k) + wl k = t u))) := by unfold modP; rw [he]
        rw [qa] at a7
        by_cases zs : sh k = 0
        · rw [zs] at s2
          by_cases z1 : t (wb k) < 1000000
          · by_cases z2 : t (wb k) + wl k = t u
            · rw [hp, if_pos (by simp [zs, z1, z2]), ← e1]
              rw [hl, Option.bind_some]; dsimp only; simp (disch := omega) only [↓Bool.cond_eq_ite, ↓reduceIte, Bool.false_eq_true, eq_self, n_lit, n_neg, n_add, n_mul, n_sub, n_subM, n_div, n_mod, n_addM, m_div, m_subn, n_tN, n_inS, n_eq_t, n_eq_f, n_ne_t, n_ne_f, n_lt_t, n_lt_f, n_ge_t, n_ge_f, n_gt_t, n_gt_f, n_le_t, n_le_f, mn_eq, mn_ne, mn_lt, mn_ge, mn_gt, mn_le, nm_eq, nm_ne, nm_lt, nm_ge, nm_gt, nm_le, n_gts_t, c_eq_refl, c_ne_refl, w_fold, w_2, wC_fold, lt_M, cond_true, cond_false, Bool.and_true, Bool.true_and, Bool.and_false, Bool.false_and, Bool.not_true, Bool.not_false, isZS_0, isZS_1, s2, a7, a8, a9, tb.1, tu.1, encI]
            · rw [hp, if_neg (by simp [zs, z1, z2]), ← e1]
              rw [hl, Option.bind_some]; dsimp only; simp (disch := omega) only [↓Bool.cond_eq_ite, ↓reduceIte, Bool.false_eq_true, eq_self, n_lit, n_neg, n_add, n_mul, n_sub, n_subM, n_div, n_mod, n_addM, m_div, m_subn, n_tN, n_inS, n_eq_t, n_eq_f, n_ne_t, n_ne_f, n_lt_t, n_lt_f, n_ge_t, n_ge_f, n_gt_t, n_gt_f, n_le_t, n_le_f, mn_eq, mn_ne, mn_lt, mn_ge, mn_gt, mn_le, nm_eq, nm_ne, nm_lt, nm_ge, nm_gt, nm_le, n_gts_t, c_eq_refl, c_ne_refl, w_fold, w_2, wC_fold, lt_M, cond_true, cond_false, Bool.and_true, Bool.true_and, Bool.and_false, Bool.false_and, Bool.not_true, Bool.not_false, isZS_0, isZS_1, s2, a7, a8, a9, tb.1, tu.1, h_227_188]
          · rw [hp, if_neg (by simp [z1]), ← e1]
            rw [hl, Option.bind_some]; dsimp only; simp (disch := omega) only [↓Bool.cond_eq_ite, ↓reduceIte, Bool.false_eq_true, eq_self, n_lit, n_neg, n_add, n_mul, n_sub, n_subM, n_div, n_mod, n_addM, m_div, m_subn, n_tN, n_inS, n_eq_t, n_eq_f, n_ne_t, n_ne_f, n_lt_t, n_lt_f, n_ge_t, n_ge_f, n_gt_t, n_gt_f, n_le_t, n_le_f, mn_eq, mn_ne, mn_lt, mn_ge, mn_gt, mn_le, nm_eq, nm_ne, nm_lt, nm_ge, nm_gt, nm_le, n_gts_t, c_eq_refl, c_ne_refl, w_fold, w_2, wC_fold, lt_M, cond_true, cond_false, Bool.and_true, Bool.true_and, Bool.and_false, Bool.false_and, Bool.not_true, Bool.not_false, isZS_0, isZS_1, s2, a7, a8, a9, tb.1, tu.1, h_227_188]
        · have zs1 : sh k = 1 := by omega
          rw [zs1] at s2
          rw [hp, if_neg (by simp [zs]), ← e1]
          rw [hl, Option.bind_some]; dsimp only; simp (disch := omega) only [↓Bool.cond_eq_ite, ↓reduceIte, Bool.false_eq_true, eq_self, n_lit, n_neg, n_add, n_mul, n_sub, n_subM, n_div, n_mod, n_addM, m_div, m_subn, n_tN, n_inS, n_eq_t, n_eq_f, n_ne_t, n_ne_f, n_lt_t, n_lt_f, n_ge_t, n_ge_f, n_gt_t, n_gt_f, n_le_t, n_le_f, mn_eq, mn_ne, mn_lt, mn_ge, mn_gt, mn_le, nm_eq, nm_ne, nm_lt, nm_ge, nm_gt, nm_le, n_gts_t, c_eq_refl, c_ne_refl, w_fold, w_2, wC_fold, lt_M, cond_true, cond_false, Bool.and_true, Bool.true_and, Bool.and_false, Bool.false_and, Bool.not_true, Bool.not_false, isZS_0, isZS_1, s2, h_227_188]
      · rw [if_neg (by omega)] at hl
        have he : endW wa wb ws k u = none := by unfold endW; rw [if_neg (by omega), if_neg (by omega)]
        have hp : modP wa wb wl ws sh t u k = false := by unfold modP; rw [he]
        rw [hp, if_neg (by simp), ← e1]
        rw [hl, Option.bind_some]; dsimp only; simp (disch := omega) only [↓Bool.cond_eq_ite, ↓reduceIte, Bool.false_eq_true, eq_self, n_lit, n_neg, n_add, n_mul, n_sub, n_subM, n_div, n_mod, n_addM, m_div, m_subn, n_tN, n_inS, n_eq_t, n_eq_f, n_ne_t, n_ne_f, n_lt_t, n_lt_f, n_ge_t, n_ge_f, n_gt_t, n_gt_f, n_le_t, n_le_f, mn_eq, mn_ne, mn_lt, mn_ge, mn_gt, mn_le, nm_eq, nm_ne, nm_lt, nm_ge, nm_gt, nm_le, n_gts_t, c_eq_refl, c_ne_refl, w_fold, w_2, wC_fold, lt_M, cond_true, cond_false, Bool.and_true, Bool.true_and, Bool.and_false, Bool.false_and, Bool.not_true, Bool.not_false, isZS_0, isZS_1, h_227_188]
    · by_cases z : wb k = u ∧ (ws k = 0 ∨ ws k = 2)
      · rw [if_pos (.inr z)] at hl
        have he : endW wa wb ws k u = some (wa k) := by unfold endW; rw [if_neg (by omega), if_pos z]
        have hp : modP wa wb wl ws sh t u k = (decide (sh k = 0) && (decide (t (wa k) < 1000000) && decide (t (wa k) + wl k = t u))) := by unfold modP; rw [he]
        by_cases zs : sh k = 0
        · rw [zs] at s2
          by_cases z1 : t (wa k) < 1000000
          · by_cases z2 : t (wa k) + wl k = t u
            · rw [hp, if_pos (by simp [zs, z1, z2]), ← e1]
              rw [hl, Option.bind_some]; dsimp only; simp (disch := omega) only [↓Bool.cond_eq_ite, ↓reduceIte, Bool.false_eq_true, eq_self, n_lit, n_neg, n_add, n_mul, n_sub, n_subM, n_div, n_mod, n_addM, m_div, m_subn, n_tN, n_inS, n_eq_t, n_eq_f, n_ne_t, n_ne_f, n_lt_t, n_lt_f, n_ge_t, n_ge_f, n_gt_t, n_gt_f, n_le_t, n_le_f, mn_eq, mn_ne, mn_lt, mn_ge, mn_gt, mn_le, nm_eq, nm_ne, nm_lt, nm_ge, nm_gt, nm_le, n_gts_t, c_eq_refl, c_ne_refl, w_fold, w_2, wC_fold, lt_M, cond_true, cond_false, Bool.and_true, Bool.true_and, Bool.and_false, Bool.false_and, Bool.not_true, Bool.not_false, isZS_0, isZS_1, s2, a7, a8, a9, ta.1, tu.1, encI]
            · rw [hp, if_neg (by simp [zs, z1, z2]), ← e1]
              rw [hl, Option.bind_some]; dsimp only; simp (disch := omega) only [↓Bool.cond_eq_ite, ↓reduceIte, Bool.false_eq_true, eq_self, n_lit, n_neg, n_add, n_mul, n_sub, n_subM, n_div, n_mod, n_addM, m_div, m_subn, n_tN, n_inS, n_eq_t, n_eq_f, n_ne_t, n_ne_f, n_lt_t, n_lt_f, n_ge_t, n_ge_f, n_gt_t, n_gt_f, n_le_t, n_le_f, mn_eq, mn_ne, mn_lt, mn_ge, mn_gt, mn_le, nm_eq, nm_ne, nm_lt, nm_ge, nm_gt, nm_le, n_gts_t, c_eq_refl, c_ne_refl, w_fold, w_2, wC_fold, lt_M, cond_true, cond_false, Bool.and_true, Bool.true_and, Bool.and_false, Bool.false_and, Bool.not_true, Bool.not_false, isZS_0, isZS_1, s2, a7, a8, a9, ta.1, tu.1, h_227_188]
          · rw [hp, if_neg (by simp [z1]), ← e1]
            rw [hl, Option.bind_some]; dsimp only; simp (disch := omega) only [↓Bool.cond_eq_ite, ↓reduceIte, Bool.false_eq_true, eq_self, n_lit, n_neg, n_add, n_mul, n_sub, n_subM, n_div, n_mod, n_addM, m_div, m_subn, n_tN, n_inS, n_eq_t, n_eq_f, n_ne_t, n_ne_f, n_lt_t, n_lt_f, n_ge_t, n_ge_f, n_gt_t, n_gt_f, n_le_t, n_le_f, mn_eq, mn_ne, mn_lt, mn_ge, mn_gt, mn_le, nm_eq, nm_ne, nm_lt, nm_ge, nm_gt, nm_le, n_gts_t, c_eq_refl, c_ne_refl, w_fold, w_2, wC_fold, lt_M, cond_true, cond_false, Bool.and_true, Bool.true_and, Bool.and_false, Bool.false_and, Bool.not_true, Bool.not_false, isZS_0, isZS_1, s2, a7, a8, a9, ta.1, tu.1, h_227_188]
        · have zs1 : sh k = 1 := by omega
          rw [zs1] at s2
          rw [hp, if_neg (by simp [zs]), ← e1]
          rw [hl, Option.bind_some]; dsimp only; simp (disch := omega) only [↓Bool.cond_eq_ite, ↓reduceIte, Bool.false_eq_true, eq_self, n_lit, n_neg, n_add, n_mul, n_sub, n_subM, n_div, n_mod, n_addM, m_div, m_subn, n_tN, n_inS, n_eq_t, n_eq_f, n_ne_t, n_ne_f, n_lt_t, n_lt_f, n_ge_t, n_ge_f, n_gt_t, n_gt_f, n_le_t, n_le_f, mn_eq, mn_ne, mn_lt, mn_ge, mn_gt, mn_le, nm_eq, nm_ne, nm_lt, nm_ge, nm_gt, nm_le, n_gts_t, c_eq_refl, c_ne_refl, w_fold, w_2, wC_fold, lt_M, cond_true, cond_false, Bool.and_true, Bool.true_and, Bool.and_false, Bool.false_and, Bool.not_true, Bool.not_false, isZS_0, isZS_1, s2, h_227_188]
      · rw [if_neg (by omega)] at hl
        have he : endW wa wb ws k u = none := by unfold endW; rw [if_neg (by omega), if_neg z]
        have hp : modP wa wb wl ws sh t u k = false := by unfold modP; rw [he]
        rw [hp, if_neg (by simp), ← e1]
        rw [hl, Option.bind_some]; dsimp only; simp (disch := omega) only [↓Bool.cond_eq_ite, ↓reduceIte, Bool.false_eq_true, eq_self, n_lit, n_neg, n_add, n_mul, n_sub, n_subM, n_div, n_mod, n_addM, m_div, m_subn, n_tN, n_inS, n_eq_t, n_eq_f, n_ne_t, n_ne_f, n_lt_t, n_lt_f, n_ge_t, n_ge_f, n_gt_t, n_gt_f, n_le_t, n_le_f, mn_eq, mn_ne, mn_lt, mn_ge, mn_gt, mn_le, nm_eq, nm_ne, nm_lt, nm_ge, nm_gt, nm_le, n_gts_t, c_eq_refl, c_ne_refl, w_fold, w_2, wC_fold, lt_M, cond_true, cond_false, Bool.and_true, Bool.true_and, Bool.and_false, Bool.false_and, Bool.not_true, Bool.not_false, isZS_0, isZS_1, h_227_188]
theorem firW_congr {P Q : Nat → Bool} : ∀ {k w : Nat}, (∀ i, w ≤ i → i < w + k → P i = Q i) → firW P k w = firW Q k w
  | 0, _, _ => rfl
  | k + 1, w, h => by
    show (if P w = true then some w else firW P k (w + 1)) = (if Q w = true then some w else firW Q k (w + 1))
    rw [h w (by omega) (by omega), firW_congr (fun i h1 h2 => h i (by omega) (by omega))]
theorem firW_none {P : Nat → Bool} : ∀ {k w : Nat}, (∀ i, w ≤ i → i < w + k → P i = false) → firW P k w = none
  | 0, _, _ => rfl
  | k + 1, w, h => by
    show (if P w = true then some w else firW P k (w + 1)) = none
    rw [h w (by omega) (by omega), firW_none (fun i h1 h2 => h i (by omega) (by omega))]
    rfl
theorem firW_some {P : Nat → Bool} : ∀ {k w x : Nat}, firW P k w = some x → w ≤ x ∧ x < w + k ∧ P x = true
  | 0, _, _, h => by cases h
  | k + 1, w, x, h => by
    have h : (if P w = true then some w else firW P k (w + 1)) = some x := h
    by_cases z : P w = true
    · rw [if_pos z] at h; cases h; exact ⟨by omega, by omega, z⟩
    · rw [if_neg z] at h
      have := firW_some h
      exact ⟨by omega, by omega, this.2.2⟩
theorem srch_eq {t sh : Nat → Nat} {u : Nat} (hW : ∀ w, w < nw → wa w < nc ∧ wb w < nc ∧ 1 ≤ wl w ∧ wl w ≤ 30) (ht : ∀ x, x < nc → wD nw wa wb wl ws x e (t x)) (hnc : nc ≤ 16) (hu : u < nc) :
    (if t u < 1000000 then encI (firW (stepP wa wb wl ws sh t u) nw 0) else oM 1) = encI (firW (modP wa wb wl ws sh t u) nw 0) := by
  by_cases hf : t u < 1000000
  · rw [if_pos hf]
    congr 1
    refine firW_congr (fun i _ hi => ?_)
    unfold stepP modP
    cases endW wa wb ws i u with
    | none => rfl
    | some x =>
      show (decide (sh i = 0) && decide (t x + wl i = t u)) = (decide (sh i = 0) && (decide (t x < 1000000) && decide (t x + wl i = t u)))
      by_cases z : t x + wl i = t u
      · have : t x < 1000000 := by omega
        rw [decide_eq_true z, decide_eq_true this]; rfl
      · rw [decide_eq_false z]; simp
  · rw [if_neg hf, firW_none (fun i _ hi => ?_)]
    · rfl
    · unfold modP
      cases he : endW wa wb ws i u with
      | none => rfl
      | some x =>
        obtain ⟨w1, w2, w3, w4⟩ := hW i (by omega)
        have hx : x < nc := endW_lt he ⟨w1, w2⟩
        have := (ht u hu).1
        by_cases z1 : t x < 1000000
        · have := dist_480 hW ht hnc hx z1
          have z2 : ¬ (t x + wl i = t u) := by omega
          show (decide (sh i = 0) && (decide (t x < 1000000) && decide (t x + wl i = t u))) = false
          rw [decide_eq_false z2]; simp
        · show (decide (sh i = 0) && (decide (t x < 1000000) && decide (t x + wl i = t u))) = false
          rw [decide_eq_false z1]; simp
end Step3
