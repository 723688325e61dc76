section PressS
variable {L : Nat} {xs : Nat → Int32} {C M : mM} {c nc nw nb np nt now td hm : Nat} {kd wa wb wd wl ws : Nat → Nat}
def shB (ws wk : Nat → Nat) (tv : Nat → Bool) (w : Nat) : Nat → Bool
  | 0 => ws w == 3
  | k + 1 => shB ws wk tv w k || (wk k == w && tv k)
def pV2 (vv : Nat → (Nat → Int32) → Bool) (F : Nat → Nat → Int32) (w : Nat) : Option Nat → Bool
  | none => false
  | some t => vv t (F w)
def poI (C M : mM) (c nb nw nt np : Nat) (bk wk : Nat → Nat) (tk : Nat → Option Nat) : Prop :=
  ∀ k, k < np → bk k < nb ∧ C.1 [14, c, 0] k = oN (bk k) ∧ M.1 [17, 1] k = oN (bk k) ∧ wk k < nw ∧ C.1 [bk k, 10, c, 0] 3 = oN (wk k) ∧ M.1 [15, 1] (bk k) = oN (wk k) ∧
    ((tk k = none ∧ C.1 [8, c, 0] (8 + k) = oM 1 ∧ M.1 [1, 1] (188 + k) = oM 4) ∨ ∃ t, t < nt ∧ tk k = some t ∧ C.1 [8, c, 0] (8 + k) = oN t ∧ M.1 [1, 1] (188 + k) = oN t)
theorem po_of (hP : rPt [c, 0] (M.1 [1, 1]) C M nc nw nb np nt now td hm kd wa wb wd wl ws) : ∃ bk wk tk, poI C M c nb nw nt np bk wk tk := by
  obtain ⟨g1, g2, g3, g4, g5, g6, g7, g8, g9, g10⟩ := hP
  have b8 : np ≤ 8 := g1.2.2.2.2.2.2.2.2.2.2.2.2.2.2.2.2.1
  have h1 : ∀ k, ∃ b w : Nat, ∃ t : Option Nat, k < np → b < nb ∧ C.1 [14, c, 0] k = oN b ∧ M.1 [17, 1] k = oN b ∧ w < nw ∧ C.1 [b, 10, c, 0] 3 = oN w ∧ M.1 [15, 1] b = oN w ∧
      ((t = none ∧ C.1 [8, c, 0] (8 + k) = oM 1 ∧ M.1 [1, 1] (188 + k) = oM 4) ∨ ∃ t', t' < nt ∧ t = some t' ∧ C.1 [8, c, 0] (8 + k) = oN t' ∧ M.1 [1, 1] (188 + k) = oN t') := fun k => by
    by_cases hk : k < np
    · obtain ⟨b, hb, hkd, q1, q2⟩ := g9 k hk
      obtain ⟨-, ⟨-, hp⟩, -⟩ := g7 b hb
      have hw : ∃ w, w < nw ∧ C.1 [b, 10, c, 0] 3 = oN w ∧ M.1 [15, 1] b = oN w := by
        rcases hp with ⟨e, -⟩ | ⟨e, -⟩ | ⟨-, -, -, -, w, w1, w2, w3⟩ | ⟨-, e, -⟩
        · omega
        · omega
        · exact ⟨w, w1, w2, w3⟩
        · exact absurd hkd e
      obtain ⟨w, w1, w2, w3⟩ := hw
      have hf := g6 (8 + k) (by omega)
      rw [show 180 + (8 + k) = 188 + k by omega] at hf
      rcases hf with ⟨f1, f2⟩ | ⟨t, t1, t2, t3⟩
      · exact ⟨b, w, none, fun _ => ⟨hb, q1, q2, w1, w2, w3, .inl ⟨rfl, f1, f2⟩⟩⟩
      · exact ⟨b, w, some t, fun _ => ⟨hb, q1, q2, w1, w2, w3, .inr ⟨t, t1, rfl, t2, t3⟩⟩⟩
    · exact ⟨0, 0, none, fun q => absurd q hk⟩
  obtain ⟨bk, h2⟩ := (Classical.skolem (p := fun k b => _)).mp h1
  obtain ⟨wk, h3⟩ := (Classical.skolem (p := fun k w => _)).mp h2
  obtain ⟨tk, h4⟩ := (Classical.skolem (p := fun k t => _)).mp h3
  exact ⟨bk, wk, tk, h4⟩
variable {bk wk : Nat → Nat} {tk : Nat → Option Nat} {vv : Nat → (Nat → Int32) → Bool} {pr pu : Nat → Nat} {he : Int32}
def fW (now : Nat) (pr pu : Nat → Nat) (he : Int32) (w : Nat) : Nat → Int32 := fCn now (pr w) (pu w) (oN 0) (oN 0) (oN 0) (oN 0) (oN 0) (oN 0) he
def tvP (vv : Nat → (Nat → Int32) → Bool) (now : Nat) (pr pu : Nat → Nat) (he : Int32) (wk : Nat → Nat) (tk : Nat → Option Nat) (k : Nat) : Bool := pV2 vv (fW now pr pu he) (wk k) (tk k)
def waI (C M : mM) (c nw now : Nat) (pr pu : Nat → Nat) (he : Int32) (ws : Nat → Nat) : Prop :=
  C.1 [c, 0] 0 = oN now ∧ M.1 [1, 1] 5 = oN now ∧ now ≤ 4320 ∧ C.1 [7, c, 0] (now / 60 % 24) = he ∧ M.1 [1, 1] (150 + now / 60 % 24) = he ∧ nw ≤ 24 ∧
  ∀ w, w < nw → pr w ≤ 100000 ∧ pu w ≤ 100000 ∧ C.1 [6, 6, c, 0] w = oN (pr w) ∧ C.1 [7, 6, c, 0] w = oN (pu w) ∧ M.1 [1, 1] (60 + w) = oN (pr w) ∧ M.1 [1, 1] (90 + w) = oN (pu w) ∧ ws w ≤ 3 ∧ C.1 [5, 6, c, 0] w = oN (ws w) ∧ M.1 [1, 1] (30 + w) = oN (ws w)
theorem wa_of (hhm : hm ≤ 1000) (hP : rPt [c, 0] (M.1 [1, 1]) C M nc nw nb np nt now td hm kd wa wb wd wl ws) : ∃ pr pu, waI C M c nw now pr pu (M.1 [1, 1] (150 + now / 60 % 24)) ws := by
  obtain ⟨g1, g2, g3, g4, g5, g6, g7, g8, g9, g10⟩ := hP
  obtain ⟨cN, cT, cC, cW, cB, cG, cP, S0, S1, S2, S3, S4, S5, b16, b24, b40, b8, b20, b4320⟩ := g1
  have h1 : ∀ w, ∃ p q : Nat, w < nw → p ≤ 100000 ∧ q ≤ 100000 ∧ C.1 [6, 6, c, 0] w = oN p ∧ C.1 [7, 6, c, 0] w = oN q ∧ M.1 [1, 1] (60 + w) = oN p ∧ M.1 [1, 1] (90 + w) = oN q ∧ ws w ≤ 3 ∧ C.1 [5, 6, c, 0] w = oN (ws w) ∧ M.1 [1, 1] (30 + w) = oN (ws w) := fun w => by
    by_cases hw : w < nw
    · obtain ⟨⟨p, p1, p2, p3⟩, ⟨q, q1, q2, q3⟩, -⟩ := g4 w hw
      obtain ⟨-, -, -, -, -, -, -, s1, -, -, -, -, -, -, -, -, s2, s3⟩ := g3 w hw
      exact ⟨p, q, fun _ => ⟨by omega, by omega, p2, q2, p3, q3, s1, s2, s3⟩⟩
    · exact ⟨0, 0, fun q => absurd q hw⟩
  obtain ⟨pr, h2⟩ := (Classical.skolem (p := fun k b => _)).mp h1
  obtain ⟨pu, h3⟩ := (Classical.skolem (p := fun k w => _)).mp h2
  exact ⟨pr, pu, cN, S5, b4320, (g5 _ (by omega)).1, rfl, b24, h3⟩
def shI (C D : mM) (c nw : Nat) (f : Nat → Bool) : Prop := (∀ q, q ≠ [9, 6, c, 0] → q ≠ [15, c, 0] → q ≠ [8, 4, 0] → D.1 q = C.1 q) ∧ D.2 = C.2 ∧ ∀ w, w < nw → D.1 [9, 6, c, 0] w = b2 (f w)
set_option maxRecDepth 8000 in
theorem shut_c1 (h0 : C.1 [6, c, 0] 0 = oN nw) (hw : nw ≤ 24) (hs : ∀ w, w < nw → ws w ≤ 3 ∧ C.1 [5, 6, c, 0] w = oN (ws w)) : ∀ r i H, i + r = nw → (∀ j, j < i → H j = b2 (ws j == 3)) →
    ∃ H', run L xs 18 28 (7, [some (vr 2 [c, 0]), some (vr 5 [4, 0]), some (vr 8 [6, c, 0]), some (vi (oN i)), none, none], [], stA C [9, 6, c, 0] H) = run L xs 18 28 (44, [some (vr 2 [c, 0]), some (vr 5 [4, 0]), some (vr 8 [6, c, 0]), some (vi (oN 0)), none, none], [], stA C [9, 6, c, 0] H') ∧ ∀ j, j < nw → H' j = b2 (ws j == 3) := by
  have z0 : ∀ H, (stA C [9, 6, c, 0] H).1 [6, c, 0] = C.1 [6, c, 0] := fun H => stA_ne (by simp)
  have z5 : ∀ H, (stA C [9, 6, c, 0] H).1 [5, 6, c, 0] = C.1 [5, 6, c, 0] := fun H => stA_ne (by simp)
  intro r
  induction r with
  | zero =>
    intro i H hi hH
    have : i = nw := by omega
    subst this
    refine ⟨H, ?_, hH⟩
    rw [h_18_7]
    simp (disch := omega) only [↓Bool.cond_eq_ite, ↓reduceIte, Bool.false_eq_true, eq_self, n_lit, n_neg, n_add, n_mul, n_sub, n_subM, n_div, n_mod, n_addM, m_div, m_subn, n_tN, n_inS, n_eq_t, n_eq_f, n_ne_t, n_ne_f, n_lt_t, n_lt_f, n_ge_t, n_ge_f, n_gt_t, n_gt_f, n_le_t, n_le_f, mn_eq, mn_ne, mn_lt, mn_ge, mn_gt, mn_le, nm_eq, nm_ne, nm_lt, nm_ge, nm_gt, nm_le, n_gts_t, c_eq_refl, c_ne_refl, w_fold, w_2, wC_fold, lt_M, cond_true, cond_false, Bool.and_true, Bool.true_and, Bool.and_false, Bool.false_and, Bool.not_true, Bool.not_false, isZS_0, isZS_1, z0, h0]
  | succ r ih =>
    intro i H hi hH
    obtain ⟨s1, s2⟩ := hs i (by omega)
    obtain ⟨H', k1, k2⟩ := ih (i + 1) (upd H i (b2 (ws i == 3))) (by omega) (fun j hj => by
      by_cases e : j = i
      · rw [e, upd_eq]
      · rw [upd_ne e]; exact hH j (by omega))
    refine ⟨H', ?_, k2⟩
    rw [h_18_7, ← k1]
    by_cases h3 : ws i = 3
    · rw [show (ws i == 3) = true from by rw [h3]; rfl]
      simp (disch := omega) only [↓lt_stA, ↓Bool.cond_eq_ite, ↓reduceIte, Bool.false_eq_true, eq_self, n_lit, n_neg, n_add, n_mul, n_sub, n_subM, n_div, n_mod, n_addM, m_div, m_subn, n_tN, n_inS, n_eq_t, n_eq_f, n_ne_t, n_ne_f, n_lt_t, n_lt_f, n_ge_t, n_ge_f, n_gt_t, n_gt_f, n_le_t, n_le_f, mn_eq, mn_ne, mn_lt, mn_ge, mn_gt, mn_le, nm_eq, nm_ne, nm_lt, nm_ge, nm_gt, nm_le, n_gts_t, c_eq_refl, c_ne_refl, w_fold, w_2, wC_fold, lt_M, cond_true, cond_false, Bool.and_true, Bool.true_and, Bool.and_false, Bool.false_and, Bool.not_true, Bool.not_false, isZS_0, isZS_1, z0, z5, h0, s2, stA_same, stA_w, stA_u, nar_b1]
      rfl
    · rw [show (ws i == 3) = false from by simpa using h3]
      simp (disch := omega) only [↓lt_stA, ↓Bool.cond_eq_ite, ↓reduceIte, Bool.false_eq_true, eq_self, n_lit, n_neg, n_add, n_mul, n_sub, n_subM, n_div, n_mod, n_addM, m_div, m_subn, n_tN, n_inS, n_eq_t, n_eq_f, n_ne_t, n_ne_f, n_lt_t, n_lt_f, n_ge_t, n_ge_f, n_gt_t, n_gt_f, n_le_t, n_le_f, mn_eq, mn_ne, mn_lt, mn_ge, mn_gt, mn_le, nm_eq, nm_ne, nm_lt, nm_ge, nm_gt, nm_le, n_gts_t, c_eq_refl, c_ne_refl, w_fold, w_2, wC_fold, lt_M, cond_true, cond_false, Bool.and_true, Bool.true_and, Bool.and_false, Bool.false_and, Bool.not_true, Bool.not_false, isZS_0, isZS_1, z0, z5, h0, s2, stA_same, stA_w, stA_u, nar_b0]
      rfl
set_option maxRecDepth 8000 in
theorem shut_c2 (hc : c ≠ 4) (hnp : C.1 [c, 0] 13 = oN np) (h8 : np ≤ 8) (h40 : nb ≤ 40) (h20 : nt ≤ 20) (hwa : waI C M c nw now pr pu he ws) (hpo : poI C M c nb nw nt np bk wk tk) (htx : ∀ t, t < nt → txW L xs C M t (vv t)) :
    ∀ r k D, k + r = np → shI C D c nw (fun w => shB ws wk (tvP vv now pr pu he wk tk) w k) →
    ∃ D', run L xs 18 28 (44, [some (vr 2 [c, 0]), some (vr 5 [4, 0]), some (vr 8 [6, c, 0]), some (vi (oN k)), none, none], [], D) = some (none, D') ∧ shI C D' c nw (fun w => shB ws wk (tvP vv now pr pu he wk tk) w np) := by
  obtain ⟨a0, a1, a2, a3, a4, a5, hw⟩ := hwa
  intro r
  induction r with
  | zero =>
    intro k D hk hD
    have : k = np := by omega
    subst this
    refine ⟨D, ?_, hD⟩
    have d0 := hD.1 [c, 0] (by simp) (by simp) (by simp)
    rw [h_18_44]
    simp (disch := omega) only [↓Bool.cond_eq_ite, ↓reduceIte, Bool.false_eq_true, eq_self, n_lit, n_neg, n_add, n_mul, n_sub, n_subM, n_div, n_mod, n_addM, m_div, m_subn, n_tN, n_inS, n_eq_t, n_eq_f, n_ne_t, n_ne_f, n_lt_t, n_lt_f, n_ge_t, n_ge_f, n_gt_t, n_gt_f, n_le_t, n_le_f, mn_eq, mn_ne, mn_lt, mn_ge, mn_gt, mn_le, nm_eq, nm_ne, nm_lt, nm_ge, nm_gt, nm_le, n_gts_t, c_eq_refl, c_ne_refl, w_fold, w_2, wC_fold, lt_M, cond_true, cond_false, Bool.and_true, Bool.true_and, Bool.and_false, Bool.false_and, Bool.not_true, Bool.not_false, isZS_0, isZS_1, d0, hnp]
  | succ r ih =>
    intro k D hk hD
    obtain ⟨p1, p2, p3, p4, p5, p6, p7⟩ := hpo k (by omega)
    have d0 := hD.1 [c, 0] (by simp) (by simp) (by simp)
    have d14 := hD.1 [14, c, 0] (by simp) (by simp) (by simp)
    have d8 := hD.1 [8, c, 0] (by simp) (by simp) (by simp [hc])
    have d10 := hD.1 [bk k, 10, c, 0] (by simp) (by simp) (by simp)
    have d66 := hD.1 [6, 6, c, 0] (by simp) (by simp) (by simp)
    have d76 := hD.1 [7, 6, c, 0] (by simp) (by simp) (by simp)
    have d7 := hD.1 [7, c, 0] (by simp) (by simp) (by simp)
    have d04 := hD.1 [0, 4, 0] (by simp) (by simp) (by simp)
    have d14' := hD.1 [1, 4, 0] (by simp) (by simp) (by simp)
    rcases p7 with ⟨t1, t2, t3⟩ | ⟨t, t0, t1, t2, t3⟩
    · obtain ⟨D', k1, k2⟩ := ih (k + 1) D (by omega) ⟨hD.1, hD.2.1, fun w hww => by
        rw [hD.2.2 w hww]
        show b2 (shB ws wk _ w k) = b2 (shB ws wk _ w k || (wk k == w && tvP vv now pr pu he wk tk k))
        rw [show tvP vv now pr pu he wk tk k = false from by unfold tvP; rw [t1]; rfl, Bool.and_false, Bool.or_false]⟩
      refine ⟨D', ?_, k2⟩
      rw [h_18_44]
      simp (disch := omega) only [↓Bool.cond_eq_ite, ↓reduceIte, Bool.false_eq_true, eq_self, n_lit, n_neg, n_add, n_mul, n_sub, n_subM, n_div, n_mod, n_addM, m_div, m_subn, n_tN, n_inS, n_eq_t, n_eq_f, n_ne_t, n_ne_f, n_lt_t, n_lt_f, n_ge_t, n_ge_f, n_gt_t, n_gt_f, n_le_t, n_le_f, mn_eq, mn_ne, mn_lt, mn_ge, mn_gt, mn_le, nm_eq, nm_ne, nm_lt, nm_ge, nm_gt, nm_le, n_gts_t, c_eq_refl, c_ne_refl, w_fold, w_2, wC_fold, lt_M, cond_true, cond_false, Bool.and_true, Bool.true_and, Bool.and_false, Bool.false_and, Bool.not_true, Bool.not_false, isZS_0, isZS_1, d0, d14, d8, hnp, p2, t2]
      exact k1
    · obtain ⟨w1, w2, w3, w4, w5, w6, w7⟩ := hw (wk k) p4
      obtain ⟨F', f1, f2⟩ := fields_w0 (L := L) (xs := xs) (C := D) (c := c) (w := wk k) (now := now) (F := D.1 [15, c, 0]) (pr := pr (wk k)) (pu := pu (wk k)) (he := he) a2 (by omega) w1 w2 (by rw [d0]; exact a0) (by rw [d66]; exact w3) (by rw [d76]; exact w4) (by rw [d7]; exact a3)
      rw [stA_id] at f1
      obtain ⟨G', g1⟩ := hold_c (L := L) (xs := xs) (C := C) (M := M) (t := t) (q := [15, c, 0]) (D := stA D [15, c, 0] F') (by simp) (by omega) (htx t t0) f2 (by rw [stA_ne (by simp)]; exact d04) (by rw [stA_ne (by simp)]; exact d14') stA_same
      have htv : tvP vv now pr pu he wk tk k = vv t (fCn now (pr (wk k)) (pu (wk k)) (oN 0) (oN 0) (oN 0) (oN 0) (oN 0) (oN 0) he) := by
        unfold tvP
        rw [t1]; rfl
      rw [← htv] at g1
      have base : ∀ q, q ≠ [9, 6, c, 0] → q ≠ [15, c, 0] → q ≠ [8, 4, 0] → (stA (stA D [15, c, 0] F') [8, 4, 0] G').1 q = C.1 q := fun q h1 h2 h3 => by rw [stA_ne h3, stA_ne h2]; exact hD.1 q h1 h2 h3
      have bw : (stA (stA D [15, c, 0] F') [8, 4, 0] G').1 [9, 6, c, 0] = D.1 [9, 6, c, 0] := by rw [stA_ne (by simp), stA_ne (by simp)]
      have hl : (some (vr 1000012 [15, c, 0]) : Option mV).toList ++ [vi (oN t), vr 5 [4, 0]] = [vr 1000012 [15, c, 0], vi (oN t), vr 5 [4, 0]] := rfl
      cases hv : tvP vv now pr pu he wk tk k with
      | false =>
        rw [hv] at g1
        obtain ⟨D', k1, k2⟩ := ih (k + 1) (stA (stA D [15, c, 0] F') [8, 4, 0] G') (by omega) ⟨base, hD.2.1, fun w hww => by
          rw [bw, hD.2.2 w hww]
          show b2 (shB ws wk _ w k) = b2 (shB ws wk _ w k || (wk k == w && tvP vv now pr pu he wk tk k))
          rw [hv, Bool.and_false, Bool.or_false]⟩
        refine ⟨D', ?_, k2⟩
        rw [h_18_44]
        simp (disch := omega) only [↓Bool.cond_eq_ite, ↓reduceIte, Bool.false_eq_true, eq_self, n_lit, n_neg, n_add, n_mul, n_sub, n_subM, n_div, n_mod, n_addM, m_div, m_subn, n_tN, n_inS, n_eq_t, n_eq_f, n_ne_t, n_ne_f, n_lt_t, n_lt_f, n_ge_t, n_ge_f, n_gt_t, n_gt_f, n_le_t, n_le_f, mn_eq, mn_ne, mn_lt, mn_ge, mn_gt, mn_le, nm_eq, nm_ne, nm_lt, nm_ge, nm_gt, nm_le, n_gts_t, c_eq_refl, c_ne_refl, w_fold, w_2, wC_fold, lt_M, cond_true, cond_false, Bool.and_true, Bool.true_and, Bool.and_false, Bool.false_and, Bool.not_true, Bool.not_false, isZS_0, isZS_1, d0, d14, d8, d10, hnp, p2, p5, t2, f1, hl, Option.bind_some]
        rw [r_RRRIII_18_94, g1, Option.bind_some]
        simp (disch := omega) only [↓Bool.cond_eq_ite, ↓reduceIte, Bool.false_eq_true, eq_self, n_lit, n_neg, n_add, n_mul, n_sub, n_subM, n_div, n_mod, n_addM, m_div, m_subn, n_tN, n_inS, n_eq_t, n_eq_f, n_ne_t, n_ne_f, n_lt_t, n_lt_f, n_ge_t, n_ge_f, n_gt_t, n_gt_f, n_le_t, n_le_f, mn_eq, mn_ne, mn_lt, mn_ge, mn_gt, mn_le, nm_eq, nm_ne, nm_lt, nm_ge, nm_gt, nm_le, n_gts_t, c_eq_refl, c_ne_refl, w_fold, w_2, wC_fold, lt_M, cond_true, cond_false, Bool.and_true, Bool.true_and, Bool.and_false, Bool.false_and, Bool.not_true, Bool.not_false, isZS_0, isZS_1, b2]
        exact k1
      | true =>
        rw [hv] at g1
        obtain ⟨D', k1, k2⟩ := ih (k + 1) (wI (stA (stA D [15, c, 0] F') [8, 4, 0] G') [9, 6, c, 0] (wk k) (oN 1)) (by omega) ⟨fun q h1 h2 h3 => by rw [w_ne h1]; exact base q h1 h2 h3, hD.2.1, fun w hww => by
          show _ = b2 (shB ws wk _ w k || (wk k == w && tvP vv now pr pu he wk tk k))
          rw [hv, Bool.and_true]
          by_cases e : w = wk k
          · rw [w_at, if_pos ⟨rfl, e⟩, e, beq_self_eq_true, Bool.or_true]; rfl
          · rw [w_ne_k e, bw, hD.2.2 w hww, show (wk k == w) = false from by simpa using (fun h => e h.symm), Bool.or_false]⟩
        refine ⟨D', ?_, k2⟩
        rw [h_18_44]
        simp (disch := omega) only [↓Bool.cond_eq_ite, ↓reduceIte, Bool.false_eq_true, eq_self, n_lit, n_neg, n_add, n_mul, n_sub, n_subM, n_div, n_mod, n_addM, m_div, m_subn, n_tN, n_inS, n_eq_t, n_eq_f, n_ne_t, n_ne_f, n_lt_t, n_lt_f, n_ge_t, n_ge_f, n_gt_t, n_gt_f, n_le_t, n_le_f, mn_eq, mn_ne, mn_lt, mn_ge, mn_gt, mn_le, nm_eq, nm_ne, nm_lt, nm_ge, nm_gt, nm_le, n_gts_t, c_eq_refl, c_ne_refl, w_fold, w_2, wC_fold, lt_M, cond_true, cond_false, Bool.and_true, Bool.true_and, Bool.and_false, Bool.false_and, Bool.not_true, Bool.not_false, isZS_0, isZS_1, d0, d14, d8, d10, hnp, p2, p5, t2, f1, hl, Option.bind_some]
        rw [r_RRRIII_18_94, g1, Option.bind_some]
        simp (disch := omega) only [↓Bool.cond_eq_ite, ↓reduceIte, Bool.false_eq_true, eq_self, n_lit, n_neg, n_add, n_mul, n_sub, n_subM, n_div, n_mod, n_addM, m_div, m_subn, n_tN, n_inS, n_eq_t, n_eq_f, n_ne_t, n_ne_f, n_lt_t, n_lt_f, n_ge_t, n_ge_f, n_gt_t, n_gt_f, n_le_t, n_le_f, mn_eq, mn_ne, mn_lt, mn_ge, mn_gt, mn_le, nm_eq, nm_ne, nm_lt, nm_ge, nm_gt, nm_le, n_gts_t, c_eq_refl, c_ne_refl, w_fold, wC_fold, lt_M, cond_true, cond_false, Bool.and_true, Bool.true_and, Bool.and_false, Bool.false_and, Bool.not_true, Bool.not_false, isZS_0, isZS_1, b2, nar_b1]
        exact k1
theorem frH_refl : frH M M := ⟨fun _ _ _ _ => rfl, fun _ _ => rfl, rfl⟩
theorem frH_trans {A B D : mM} (h : frH A B) (h' : frH B D) : frH A D := ⟨fun q h1 h2 h3 => (h'.1 q h1 h2 h3).trans (h.1 q h1 h2 h3), fun k hk => (h'.2.1 k hk).trans (h.2.1 k hk), h'.2.2.trans h.2.2⟩
def shK (M M1 : mM) (w : Nat) (f : Nat → Bool) : Prop := (∀ q, q ≠ [1, 1] → q ≠ [1] → q ≠ [37, 1] → q ≠ [39, 1] → M1.1 q = M.1 q) ∧ (∀ k, k < 29 → M1.1 [1] k = M.1 [1] k) ∧ M1.2 = M.2 ∧ (∀ i, i < 120 ∨ 120 + w ≤ i → M1.1 [1, 1] i = M.1 [1, 1] i) ∧ ∀ j, j < w → M1.1 [1, 1] (120 + j) = b2 (f j)
set_option maxRecDepth 8000 in
theorem shut_m1 {M1 : mM} {w : Nat} (hnp : M.1 [1, 1] 4 = oN np) (h8 : np ≤ 8) (h40 : nb ≤ 40) (h20 : nt ≤ 20) (hw24 : nw ≤ 24) (hw : w < nw) (hwa : waI C M c nw now pr pu he ws) (hpo : poI C M c nb nw nt np bk wk tk) (htx : ∀ t, t < nt → txW L xs C M t (vv t)) {f : Nat → Bool} (hK : shK M M1 w f) :
    ∀ r i M', i + r = np → frH M1 M' → ∃ M'', run L xs 207 34 (244, [some (vr 10 [1]), some (vi (oN w)), some (vi (b2 (shB ws wk (tvP vv now pr pu he wk tk) w i))), some (vi (oN i)), none], [], M') = run L xs 207 34 (213, [some (vr 10 [1]), some (vi (oN (w + 1))), none, none, none], [], wI M'' [1, 1] (120 + w) (b2 (shB ws wk (tvP vv now pr pu he wk tk) w np))) ∧ frH M1 M'' := by
  obtain ⟨a0, a1, a2, a3, a4, a5, hwy⟩ := hwa
  obtain ⟨q1, q2, q3, q4, q5⟩ := hK
  intro r
  induction r with
  | zero =>
    intro i M' hi hM
    have : i = np := by omega
    subst this
    have m1 := hM.1 [1, 1] (by simp) (by simp) (by simp)
    have m4 : M'.1 [1, 1] 4 = oN i := by rw [m1, q4 4 (by omega)]; exact hnp
    refine ⟨M', ?_, hM⟩
    rw [h_207_244]
    cases hv : shB ws wk (tvP vv now pr pu he wk tk) w i
    · simp (disch := omega) only [↓Bool.cond_eq_ite, ↓reduceIte, Bool.false_eq_true, eq_self, n_lit, n_neg, n_add, n_mul, n_sub, n_subM, n_div, n_mod, n_addM, m_div, m_subn, n_tN, n_inS, n_eq_t, n_eq_f, n_ne_t, n_ne_f, n_lt_t, n_lt_f, n_ge_t, n_ge_f, n_gt_t, n_gt_f, n_le_t, n_le_f, mn_eq, mn_ne, mn_lt, mn_ge, mn_gt, mn_le, nm_eq, nm_ne, nm_lt, nm_ge, nm_gt, nm_le, n_gts_t, c_eq_refl, c_ne_refl, w_fold, w_2, wC_fold, lt_M, cond_true, cond_false, Bool.and_true, Bool.true_and, Bool.and_false, Bool.false_and, Bool.not_true, Bool.not_false, isZS_0, isZS_1, m4, b2]
    · simp (disch := omega) only [↓Bool.cond_eq_ite, ↓reduceIte, Bool.false_eq_true, eq_self, n_lit, n_neg, n_add, n_mul, n_sub, n_subM, n_div, n_mod, n_addM, m_div, m_subn, n_tN, n_inS, n_eq_t, n_eq_f, n_ne_t, n_ne_f, n_lt_t, n_lt_f, n_ge_t, n_ge_f, n_gt_t, n_gt_f, n_le_t, n_le_f, mn_eq, mn_ne, mn_lt, mn_ge, mn_gt, mn_le, nm_eq, nm_ne, nm_lt, nm_ge, nm_gt, nm_le, n_gts_t, c_eq_refl, c_ne_refl, w_fold, w_2, wC_fold, lt_M, cond_true, cond_false, Bool.and_true, Bool.true_and, Bool.and_false, Bool.false_and, Bool.not_true, Bool.not_false, isZS_0, isZS_1, m4, b2]
  | succ r ih =>
    intro i M' hi hM
    obtain ⟨p1, p2, p3, p4, p5, p6, p7⟩ := hpo i (by omega)
    have m1 := hM.1 [1, 1] (by simp) (by simp) (by simp)
    have m4 : M'.1 [1, 1] 4 = oN np := by rw [m1, q4 4 (by omega)]; exact hnp
    have m17 : M'.1 [17, 1] i = oN (bk i) := by rw [hM.1 _ (by simp) (by simp) (by simp), q1 _ (by simp) (by simp) (by simp) (by simp)]; exact p3
    have m15 : M'.1 [15, 1] (bk i) = oN (wk i) := by rw [hM.1 _ (by simp) (by simp) (by simp), q1 _ (by simp) (by simp) (by simp) (by simp)]; exact p6
    have hsn : shB ws wk (tvP vv now pr pu he wk tk) w (i + 1) = (shB ws wk (tvP vv now pr pu he wk tk) w i || (wk i == w && tvP vv now pr pu he wk tk i)) := rfl
    cases hv : shB ws wk (tvP vv now pr pu he wk tk) w i with
    | true =>
      obtain ⟨M'', k1, k2⟩ := ih (i + 1) M' (by omega) hM
      rw [hsn, hv, Bool.true_or] at k1
      refine ⟨M'', ?_, k2⟩
      rw [h_207_244]
      simp (disch := omega) only [↓Bool.cond_eq_ite, ↓reduceIte, Bool.false_eq_true, eq_self, n_lit, n_neg, n_add, n_mul, n_sub, n_subM, n_div, n_mod, n_addM, m_div, m_subn, n_tN, n_inS, n_eq_t, n_eq_f, n_ne_t, n_ne_f, n_lt_t, n_lt_f, n_ge_t, n_ge_f, n_gt_t, n_gt_f, n_le_t, n_le_f, mn_eq, mn_ne, mn_lt, mn_ge, mn_gt, mn_le, nm_eq, nm_ne, nm_lt, nm_ge, nm_gt, nm_le, n_gts_t, c_eq_refl, c_ne_refl, w_fold, w_2, wC_fold, lt_M, cond_true, cond_false, Bool.and_true, Bool.true_and, Bool.and_false, Bool.false_and, Bool.not_true, Bool.not_false, isZS_0, isZS_1, m4, b2]
      rw [h_207_301]
      simp (disch := omega) only [↓Bool.cond_eq_ite, ↓reduceIte, Bool.false_eq_true, eq_self, n_lit, n_neg, n_add, n_mul, n_sub, n_subM, n_div, n_mod, n_addM, m_div, m_subn, n_tN, n_inS, n_eq_t, n_eq_f, n_ne_t, n_ne_f, n_lt_t, n_lt_f, n_ge_t, n_ge_f, n_gt_t, n_gt_f, n_le_t, n_le_f, mn_eq, mn_ne, mn_lt, mn_ge, mn_gt, mn_le, nm_eq, nm_ne, nm_lt, nm_ge, nm_gt, nm_le, n_gts_t, c_eq_refl, c_ne_refl, w_fold, w_2, wC_fold, lt_M, cond_true, cond_false, Bool.and_true, Bool.true_and, Bool.and_false, Bool.false_and, Bool.not_true, Bool.not_false, isZS_0, isZS_1, b2] at k1 ⊢
      exact k1
    | false =>
      rw [hv, Bool.false_or] at hsn
      have go : tvP vv now pr pu he wk tk i = false ∨ ¬ wk i = w → ∀ M2, frH M1 M2 → ∃ M'', run L xs 207 34 (305, [some (vr 10 [1]), some (vi (oN w)), none, some (vi (oN i)), none], [], M2) = run L xs 207 34 (213, [some (vr 10 [1]), some (vi (oN (w + 1))), none, none, none], [], wI M'' [1, 1] (120 + w) (b2 (shB ws wk (tvP vv now pr pu he wk tk) w np))) ∧ frH M1 M'' := fun hf M2 hM2 => by
        obtain ⟨M'', k1, k2⟩ := ih (i + 1) M2 (by omega) hM2
        have : (wk i == w && tvP vv now pr pu he wk tk i) = false := by
          rcases hf with h | h
          · rw [h, Bool.and_false]
          · rw [show (wk i == w) = false from by simpa using h, Bool.false_and]
        rw [hsn, this] at k1
        refine ⟨M'', ?_, k2⟩
        rw [h_207_305]
        simp (disch := omega) only [↓Bool.cond_eq_ite, ↓reduceIte, Bool.false_eq_true, eq_self, n_lit, n_neg, n_add, n_mul, n_sub, n_subM, n_div, n_mod, n_addM, m_div, m_subn, n_tN, n_inS, n_eq_t, n_eq_f, n_ne_t, n_ne_f, n_lt_t, n_lt_f, n_ge_t, n_ge_f, n_gt_t, n_gt_f, n_le_t, n_le_f, mn_eq, mn_ne, mn_lt, mn_ge, mn_gt, mn_le, nm_eq, nm_ne, nm_lt, nm_ge, nm_gt, nm_le, n_gts_t, c_eq_refl, c_ne_refl, w_fold, w_2, wC_fold, lt_M, cond_true, cond_false, Bool.and_true, Bool.true_and, Bool.and_false, Bool.false_and, Bool.not_true, Bool.not_false, isZS_0, isZS_1, b2] at k1 ⊢
        exact k1
      by_cases hwk : wk i = w
      · rcases p7 with ⟨t1, t2, t3⟩ | ⟨t, t0, t1, t2, t3⟩
        · obtain ⟨M'', k1, k2⟩ := go (.inl (by unfold tvP; rw [t1]; rfl)) M' hM
          have m188 : M'.1 [1, 1] (188 + i) = oM 4 := by rw [m1, q4 _ (by omega)]; exact t3
          refine ⟨M'', ?_, k2⟩
          rw [h_207_244]
          simp (disch := omega) only [↓Bool.cond_eq_ite, ↓reduceIte, Bool.false_eq_true, eq_self, n_lit, n_neg, n_add, n_mul, n_sub, n_subM, n_div, n_mod, n_addM, m_div, m_subn, n_tN, n_inS, n_eq_t, n_eq_f, n_ne_t, n_ne_f, n_lt_t, n_lt_f, n_ge_t, n_ge_f, n_gt_t, n_gt_f, n_le_t, n_le_f, mn_eq, mn_ne, mn_lt, mn_ge, mn_gt, mn_le, nm_eq, nm_ne, nm_lt, nm_ge, nm_gt, nm_le, n_gts_t, c_eq_refl, c_ne_refl, w_fold, w_2, wC_fold, lt_M, cond_true, cond_false, Bool.and_true, Bool.true_and, Bool.and_false, Bool.false_and, Bool.not_true, Bool.not_false, isZS_0, isZS_1, m4, m17, m15, m188, b2] at k1 ⊢
          exact k1
        · have m188 : M'.1 [1, 1] (188 + i) = oN t := by rw [m1, q4 _ (by omega)]; exact t3
          obtain ⟨w1, w2, w3, w4, w5, w6, w7⟩ := hwy w hw
          obtain ⟨M2, g1, g2⟩ := hold_m (L := L) (xs := xs) (C := C) (M := M') (t := t) (now := now) (pr := pr w) (pu := pu w) (hd := oN 0) (tr := oN 0) (la := oN 0) (su := oN 0) (st := oN 0) (th := oN 0) (he := he) (w := oN w) (g := oM 1) (by omega) a2 (txW_congr rfl rfl (by rw [hM.1 _ (by simp) (by simp) (by simp), q1 _ (by simp) (by simp) (by simp) (by simp)]) (by rw [hM.1 _ (by simp) (by simp) (by simp), q1 _ (by simp) (by simp) (by simp) (by simp)]) (htx t t0))
            (fun M3 e1 e13 e35 e36 => ⟨by rw [e1, m1, q4 5 (by omega)]; exact a1, by rw [e1, m1, q4 _ (by omega)]; exact a4, .inr ⟨w, by omega, e35, by rw [e1, m1, q4 _ (by omega)]; exact w5, by rw [e1, m1, q4 _ (by omega)]; exact w6⟩, .inl ⟨e36, rfl, rfl, rfl, rfl, rfl, rfl⟩⟩)
          have htv : tvP vv now pr pu he wk tk i = vv t (fCn now (pr w) (pu w) (oN 0) (oN 0) (oN 0) (oN 0) (oN 0) (oN 0) he) := by
            unfold tvP
            rw [t1, hwk]; rfl
          rw [← htv] at g1
          cases hv2 : tvP vv now pr pu he wk tk i with
          | false =>
            rw [hv2] at g1
            obtain ⟨M'', k1, k2⟩ := go (.inl hv2) M2 (frH_trans hM g2)
            refine ⟨M'', ?_, k2⟩
            rw [h_207_244]
            simp (disch := omega) only [↓Bool.cond_eq_ite, ↓reduceIte, Bool.false_eq_true, eq_self, n_lit, n_neg, n_add, n_mul, n_sub, n_subM, n_div, n_mod, n_addM, m_div, m_subn, n_tN, n_inS, n_eq_t, n_eq_f, n_ne_t, n_ne_f, n_lt_t, n_lt_f, n_ge_t, n_ge_f, n_gt_t, n_gt_f, n_le_t, n_le_f, mn_eq, mn_ne, mn_lt, mn_ge, mn_gt, mn_le, nm_eq, nm_ne, nm_lt, nm_ge, nm_gt, nm_le, n_gts_t, c_eq_refl, c_ne_refl, w_fold, w_2, wC_fold, lt_M, cond_true, cond_false, Bool.and_true, Bool.true_and, Bool.and_false, Bool.false_and, Bool.not_true, Bool.not_false, isZS_0, isZS_1, m4, m17, m15, m188, b2, g1, Option.bind_some] at g1 k1 ⊢
            exact k1
          | true =>
            rw [hv2] at g1
            obtain ⟨M'', k1, k2⟩ := ih (i + 1) M2 (by omega) (frH_trans hM g2)
            rw [hsn, hv2, hwk, beq_self_eq_true, Bool.and_true] at k1
            refine ⟨M'', ?_, k2⟩
            rw [h_207_244]
            simp (disch := omega) only [↓Bool.cond_eq_ite, ↓reduceIte, Bool.false_eq_true, eq_self, n_lit, n_neg, n_add, n_mul, n_sub, n_subM, n_div, n_mod, n_addM, m_div, m_subn, n_tN, n_inS, n_eq_t, n_eq_f, n_ne_t, n_ne_f, n_lt_t, n_lt_f, n_ge_t, n_ge_f, n_gt_t, n_gt_f, n_le_t, n_le_f, mn_eq, mn_ne, mn_lt, mn_ge, mn_gt, mn_le, nm_eq, nm_ne, nm_lt, nm_ge, nm_gt, nm_le, n_gts_t, c_eq_refl, c_ne_refl, w_fold, w_2, wC_fold, lt_M, cond_true, cond_false, Bool.and_true, Bool.true_and, Bool.and_false, Bool.false_and, Bool.not_true, Bool.not_false, isZS_0, isZS_1, m4, m17, m15, m188, b2, g1, Option.bind_some] at g1 k1 ⊢
            rw [h_207_301]
            simp (disch := omega) only [↓Bool.cond_eq_ite, ↓reduceIte, Bool.false_eq_true, eq_self, n_lit, n_neg, n_add, n_mul, n_sub, n_subM, n_div, n_mod, n_addM, m_div, m_subn, n_tN, n_inS, n_eq_t, n_eq_f, n_ne_t, n_ne_f, n_lt_t, n_lt_f, n_ge_t, n_ge_f, n_gt_t, n_gt_f, n_le_t, n_le_f, mn_eq, mn_ne, mn_lt, mn_ge, mn_gt, mn_le, nm_eq, nm_ne, nm_lt, nm_ge, nm_gt, nm_le, n_gts_t, c_eq_refl, c_ne_refl, w_fold, w_2, wC_fold, lt_M, cond_true, cond_false, Bool.and_true, Bool.true_and, Bool.and_false, Bool.false_and, Bool.not_true, Bool.not_false, isZS_0, isZS_1]
            exact k1
      · obtain ⟨M'', k1, k2⟩ := go (.inr hwk) M' hM
        refine ⟨M'', ?_, k2⟩
        rw [h_207_244]
        rcases p7 with ⟨t1, t2, t3⟩ | ⟨t, t0, t1, t2, t3⟩
        · have m188 : M'.1 [1, 1] (188 + i) = oM 4 := by rw [m1, q4 _ (by omega)]; exact t3
          simp (disch := omega) only [↓Bool.cond_eq_ite, ↓reduceIte, Bool.false_eq_true, eq_self, n_lit, n_neg, n_add, n_mul, n_sub, n_subM, n_div, n_mod, n_addM, m_div, m_subn, n_tN, n_inS, n_eq_t, n_eq_f, n_ne_t, n_ne_f, n_lt_t, n_lt_f, n_ge_t, n_ge_f, n_gt_t, n_gt_f, n_le_t, n_le_f, mn_eq, mn_ne, mn_lt, mn_ge, mn_gt, mn_le, nm_eq, nm_ne, nm_lt, nm_ge, nm_gt, nm_le, n_gts_t, c_eq_refl, c_ne_refl, w_fold, w_2, wC_fold, lt_M, cond_true, cond_false, Bool.and_true, Bool.true_and, Bool.and_false, Bool.false_and, Bool.not_true, Bool.not_false, isZS_0, isZS_1, m4, m17, m15, m188, b2] at k1 ⊢
          exact k1
        · have m188 : M'.1 [1, 1] (188 + i) = oN t := by rw [m1, q4 _ (by omega)]; exact t3
          simp (disch := omega) only [↓Bool.cond_eq_ite, ↓reduceIte, Bool.false_eq_true, eq_self, n_lit, n_neg, n_add, n_mul, n_sub, n_subM, n_div, n_mod, n_addM, m_div, m_subn, n_tN, n_inS, n_eq_t, n_eq_f, n_ne_t, n_ne_f, n_lt_t, n_lt_f, n_ge_t, n_ge_f, n_gt_t, n_gt_f, n_le_t, n_le_f, mn_eq, mn_ne, mn_lt, mn_ge, mn_gt, mn_le, nm_eq, nm_ne, nm_lt, nm_ge, nm_gt, nm_le, n_gts_t, c_eq_refl, c_ne_refl, w_fold, w_2, wC_fold, lt_M, cond_true, cond_false, Bool.and_true, Bool.true_and, Bool.and_false, Bool.false_and, Bool.not_true, Bool.not_false, isZS_0, isZS_1, m4, m17, m15, m188, b2] at k1 ⊢
          exact k1
end PressS
