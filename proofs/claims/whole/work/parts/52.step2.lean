section Step2
variable {L : Nat} {xs : Nat → Int32} {C M : mM} {q : List Nat} {c nc nw nb np nt now td hm e : Nat} {kd wa wb wd wl ws : Nat → Nat}
def hoF (c : Nat) (C : mM) (kd : Nat → Nat) (w : Nat) : Nat → Int32 := fun b => if kd b = 0 then (if C.1 [b, 10, c, 0] 3 = oN w then C.1 [b, 10, c, 0] 6 else oN 0) else oN 0
theorem oN_ne {a b : Nat} (h : a ≠ b) (ha : a < 2147483648) (hb : b < 2147483648) : oN a ≠ oN b := fun e => h ((n_inj ha hb).mp e)
set_option maxRecDepth 8000 in
theorem l_zero (h6 : C.1 [6, c, 0] 0 = oN nw) (h24 : nw ≤ 24) : ∀ (k i : Nat) (F : Nat → Int32), i + k = nw → (∀ w, w < i → F w = oN 0) → ∃ F', run L xs 14 26 (10, [some (vr 2 [c, 0]), some (vr 1000024 [10, 6, c, 0]), some (vi (oN i)), none], [], stA C [10, 6, c, 0] F) = run L xs 14 26 (33, [some (vr 2 [c, 0]), some (vr 1000024 [10, 6, c, 0]), some (vi (oN 0)), none], [], stA C [10, 6, c, 0] F') ∧ ∀ w, w < nw → F' w = oN 0
  | 0, i, F, h, hF => by
    refine ⟨F, ?_, fun w hw => hF w (by omega)⟩
    have h6' : (stA C [10, 6, c, 0] F).1 [6, c, 0] 0 = oN nw := by rw [stA_ne (by simp)]; exact h6
    rw [h_14_10]
    simp (disch := omega) only [↓Bool.cond_eq_ite, ↓reduceIte, Bool.false_eq_true, eq_self, n_lit, n_neg, n_add, n_mul, n_sub, n_subM, n_div, n_mod, n_addM, m_div, m_subn, n_tN, n_inS, n_eq_t, n_eq_f, n_ne_t, n_ne_f, n_lt_t, n_lt_f, n_ge_t, n_ge_f, n_gt_t, n_gt_f, n_le_t, n_le_f, mn_eq, mn_ne, mn_lt, mn_ge, mn_gt, mn_le, nm_eq, nm_ne, nm_lt, nm_ge, nm_gt, nm_le, n_gts_t, c_eq_refl, c_ne_refl, w_fold, w_2, wC_fold, lt_M, cond_true, cond_false, Bool.and_true, Bool.true_and, Bool.and_false, Bool.false_and, Bool.not_true, Bool.not_false, isZS_0, isZS_1, h6']
  | k + 1, i, F, h, hF => by
    have h6' : (stA C [10, 6, c, 0] F).1 [6, c, 0] 0 = oN nw := by rw [stA_ne (by simp)]; exact h6
    obtain ⟨F', g1, g2⟩ := l_zero h6 h24 k (i + 1) (upd F i (oN 0)) (by omega) (fun w hw => by
      rw [upd_at]
      by_cases z : w = i
      · rw [if_pos z]
      · rw [if_neg z]; exact hF w (by omega))
    refine ⟨F', ?_, g2⟩
    rw [h_14_10, ← g1]
    simp (disch := omega) only [↓Bool.cond_eq_ite, ↓reduceIte, Bool.false_eq_true, eq_self, n_lit, n_neg, n_add, n_mul, n_sub, n_subM, n_div, n_mod, n_addM, m_div, m_subn, n_tN, n_inS, n_eq_t, n_eq_f, n_ne_t, n_ne_f, n_lt_t, n_lt_f, n_ge_t, n_ge_f, n_gt_t, n_gt_f, n_le_t, n_le_f, mn_eq, mn_ne, mn_lt, mn_ge, mn_gt, mn_le, nm_eq, nm_ne, nm_lt, nm_ge, nm_gt, nm_le, n_gts_t, c_eq_refl, c_ne_refl, w_fold, w_2, wC_fold, lt_M, cond_true, cond_false, Bool.and_true, Bool.true_and, Bool.and_false, Bool.false_and, Bool.not_true, Bool.not_false, isZS_0, isZS_1, h6', stA_same, stA_w, stA_u]
set_option maxRecDepth 8000 in
set_option maxHeartbeats 4000000 in
theorem ld_sum (hG : rG [c, 0] C nb kd) (h24 : nw ≤ 24) (hw : ∀ b, b < nb → kd b = 0 → C.1 [b, 10, c, 0] 3 = oM 1 ∨ ∃ w, w < nw ∧ C.1 [b, 10, c, 0] 3 = oN w) : ∀ (b : Nat) (F : Nat → Int32), b ≤ nb → (∀ w, w < nw → F w = oN 0) → ∃ F', run L xs 14 26 (33, [some (vr 2 [c, 0]), some (vr 1000024 [10, 6, c, 0]), some (vi (oN 0)), none], [], stA C [10, 6, c, 0] F) = run L xs 14 26 (33, [some (vr 2 [c, 0]), some (vr 1000024 [10, 6, c, 0]), some (vi (oN (cntG kd b))), none], [], stA C [10, 6, c, 0] F') ∧ ∀ w, w < nw → F' w = sumN (hoF c C kd w) b
  | 0, F, _, hF => ⟨F, rfl, hF⟩
  | b + 1, F, hb, hF => by
    obtain ⟨F1, g1, g2⟩ := ld_sum hG h24 hw b F (by omega) hF
    obtain ⟨c1, c2, c3⟩ := hG
    have hle := cntG_le kd nb
    by_cases hk : kd b = 0
    · have hi := cntG_lt kd (show b < nb by omega) hk
      have hgr : (stA C [10, 6, c, 0] F1).1 [12, c, 0] (cntG kd b) = oN b := by rw [stA_ne (by simp)]; exact c3 b (by omega) hk
      have c1' : (stA C [10, 6, c, 0] F1).1 [c, 0] 11 = oN (cntG kd nb) := by rw [stA_ne (by simp)]; exact c1
      rcases hw b (by omega) hk with h3 | ⟨w0, hw0, h3⟩
      · have h3' : (stA C [10, 6, c, 0] F1).1 [b, 10, c, 0] 3 = oM 1 := by rw [stA_ne (by simp)]; exact h3
        refine ⟨F1, ?_, fun w hw => ?_⟩
        · rw [g1, h_14_33, cntG_t hk]
          simp (disch := omega) only [↓Bool.cond_eq_ite, ↓reduceIte, Bool.false_eq_true, eq_self, n_lit, n_neg, n_add, n_mul, n_sub, n_subM, n_div, n_mod, n_addM, m_div, m_subn, n_tN, n_inS, n_eq_t, n_eq_f, n_ne_t, n_ne_f, n_lt_t, n_lt_f, n_ge_t, n_ge_f, n_gt_t, n_gt_f, n_le_t, n_le_f, mn_eq, mn_ne, mn_lt, mn_ge, mn_gt, mn_le, nm_eq, nm_ne, nm_lt, nm_ge, nm_gt, nm_le, n_gts_t, c_eq_refl, c_ne_refl, w_fold, w_2, wC_fold, lt_M, cond_true, cond_false, Bool.and_true, Bool.true_and, Bool.and_false, Bool.false_and, Bool.not_true, Bool.not_false, isZS_0, isZS_1, c1', hgr, h3']
        · rw [g2 w hw]
          show _ = sumN _ b + hoF c C kd w b
          unfold hoF
          rw [if_pos hk, if_neg (by rw [h3]; exact (oN_oM (by omega) (by omega) (by omega)).symm), add_o0]
      · have h3' : (stA C [10, 6, c, 0] F1).1 [b, 10, c, 0] 3 = oN w0 := by rw [stA_ne (by simp)]; exact h3
        have h6' : (stA C [10, 6, c, 0] F1).1 [b, 10, c, 0] 6 = C.1 [b, 10, c, 0] 6 := by rw [stA_ne (by simp)]
        refine ⟨upd F1 w0 (F1 w0 + C.1 [b, 10, c, 0] 6), ?_, fun w hw => ?_⟩
        · rw [g1, h_14_33, cntG_t hk]
          simp (disch := omega) only [↓Bool.cond_eq_ite, ↓reduceIte, Bool.false_eq_true, eq_self, n_lit, n_neg, n_add, n_mul, n_sub, n_subM, n_div, n_mod, n_addM, m_div, m_subn, n_tN, n_inS, n_eq_t, n_eq_f, n_ne_t, n_ne_f, n_lt_t, n_lt_f, n_ge_t, n_ge_f, n_gt_t, n_gt_f, n_le_t, n_le_f, mn_eq, mn_ne, mn_lt, mn_ge, mn_gt, mn_le, nm_eq, nm_ne, nm_lt, nm_ge, nm_gt, nm_le, n_gts_t, c_eq_refl, c_ne_refl, w_fold, w_2, wC_fold, lt_M, cond_true, cond_false, Bool.and_true, Bool.true_and, Bool.and_false, Bool.false_and, Bool.not_true, Bool.not_false, isZS_0, isZS_1, c1', hgr, h3', h6', stA_same, stA_w, stA_u]
        · rw [upd_at]
          show _ = sumN _ b + hoF c C kd w b
          unfold hoF
          rw [if_pos hk]
          by_cases z : w = w0
          · rw [if_pos z, z, if_pos h3, g2 w0 hw0]
            rfl
          · rw [if_neg z, if_neg (by rw [h3]; exact oN_ne (fun y => z y.symm) (by omega) (by omega)), add_o0, g2 w hw]
            rfl
    · refine ⟨F1, by rw [g1, cntG_f hk], fun w hw => ?_⟩
      rw [g2 w hw]
      show _ = sumN _ b + hoF c C kd w b
      unfold hoF
      rw [if_neg hk, add_o0]
theorem load_ok (h6 : C.1 [6, c, 0] 0 = oN nw) (hG : rG [c, 0] C nb kd) (h24 : nw ≤ 24) (hw : ∀ b, b < nb → kd b = 0 → C.1 [b, 10, c, 0] 3 = oM 1 ∨ ∃ w, w < nw ∧ C.1 [b, 10, c, 0] 3 = oN w) : ∃ F, kV L xs 14 [vr 2 [c, 0]] C = some (stA C [10, 6, c, 0] F) ∧ ∀ w, w < nw → F w = sumN (hoF c C kd w) nb := by
  obtain ⟨F1, a1, a2⟩ := l_zero (L := L) (xs := xs) h6 h24 nw 0 (C.1 [10, 6, c, 0]) (by omega) (fun w hw => by omega)
  obtain ⟨F2, b1, b2⟩ := ld_sum (L := L) (xs := xs) hG h24 hw nb F1 (Nat.le_refl _) a2
  rw [stA_id] at a1
  refine ⟨F2, kV_of ?_, b2⟩
  have c1' : (stA C [10, 6, c, 0] F2).1 [c, 0] 11 = oN (cntG kd nb) := by rw [stA_ne (by simp)]; exact hG.1
  have hle := cntG_le kd nb
  have h40 := hG.2.1
  rw [e_14]
  simp only [n_lit]
  rw [a1, b1, h_14_33]
  simp (disch := omega) only [↓Bool.cond_eq_ite, ↓reduceIte, Bool.false_eq_true, eq_self, n_lit, n_neg, n_add, n_mul, n_sub, n_subM, n_div, n_mod, n_addM, m_div, m_subn, n_tN, n_inS, n_eq_t, n_eq_f, n_ne_t, n_ne_f, n_lt_t, n_lt_f, n_ge_t, n_ge_f, n_gt_t, n_gt_f, n_le_t, n_le_f, mn_eq, mn_ne, mn_lt, mn_ge, mn_gt, mn_le, nm_eq, nm_ne, nm_lt, nm_ge, nm_gt, nm_le, n_gts_t, c_eq_refl, c_ne_refl, w_fold, w_2, wC_fold, lt_M, cond_true, cond_false, Bool.and_true, Bool.true_and, Bool.and_false, Bool.false_and, Bool.not_true, Bool.not_false, isZS_0, isZS_1, c1']
theorem sumN_upd {f f' : Nat → Int32} {b0 : Nat} {x : Int32} (h : ∀ i, i ≠ b0 → f' i = f i) (h0 : f' b0 = f b0 + x) : ∀ {n : Nat}, b0 < n → sumN f' n = sumN f n + x
  | 0, hn => by omega
  | n + 1, hn => by
    show sumN f' n + f' n = sumN f n + f n + x
    by_cases z : b0 = n
    · subst z
      rw [h0, sumN_congr (fun i hi => h i (by omega))]
      rw [Int32.add_assoc]
    · rw [sumN_upd h h0 (n := n) (by omega), h n (fun y => z y.symm), Int32.add_assoc, Int32.add_assoc, Int32.add_comm x]
def firW (P : Nat → Bool) : Nat → Nat → Option Nat
  | 0, _ => none
  | k + 1, w => if P w = true then some w else firW P k (w + 1)
def stepP (wa wb wl ws sh D : Nat → Nat) (u : Nat) (w : Nat) : Bool := match endW wa wb ws w u with
  | none => false
  | some x => decide (sh w = 0) && decide (D x + wl w = D u)
theorem endW_lt {w x y : Nat} (h : endW wa wb ws w x = some y) (hw : wa w < nc ∧ wb w < nc) : y < nc := by
  unfold endW at h
  split at h
  · cases h; exact hw.2
  · split at h
    · cases h; exact hw.1
    · cases h
set_option maxRecDepth 8000 in
set_option maxHeartbeats 4000000 in
theorem s_11 (hW : cWy q C nc nw wa wb wl ws) {D sh : Nat → Nat} {u g : Nat} (hu : u < nc) (hg : g < nc) (hsh : ∀ w, w < nw → sh w ≤ 1 ∧ C.1 (9 :: q) w = oN (sh w)) (hD : ∀ x, x < nc → C.1 (12 :: q) (x * 16 + g) = oN (D x) ∧ D x ≤ 1000000) :
    kI L xs 11 [vr 8 q, vi (oN u), vi (oN g)] C = some (if D u < 1000000 then encI (firW (stepP wa wb wl ws sh D u) nw 0) else oM 1, C) := by
  have hW' := hW
  obtain ⟨c0, h16, h24, hw0⟩ := hW'
  refine kI_of ?_
  obtain ⟨d1, d2⟩ := hD u hu
  rw [e_11]
  by_cases hf : D u < 1000000
  · rw [if_pos hf]
    have key : ∀ k w, w + k = nw → run L xs 11 26 (18, [some (vr 8 q), some (vi (oN u)), some (vi (oN g)), some (vi (oN (D u))), some (vi (oN w)), none], [], C) = some (some (vi (encI (firW (stepP wa wb wl ws sh D u) k w))), C) := by
      intro k
      induction k with
      | zero =>
        intro w hw
        rw [h_11_18]
        simp (disch := omega) only [↓Bool.cond_eq_ite, ↓reduceIte, Bool.false_eq_true, eq_self, n_lit, n_neg, n_add, n_mul, n_sub, n_subM, n_div, n_mod, n_addM, m_div, m_subn, n_tN, n_inS, n_eq_t, n_eq_f, n_ne_t, n_ne_f, n_lt_t, n_lt_f, n_ge_t, n_ge_f, n_gt_t, n_gt_f, n_le_t, n_le_f, mn_eq, mn_ne, mn_lt, mn_ge, mn_gt, mn_le, nm_eq, nm_ne, nm_lt, nm_ge, nm_gt, nm_le, n_gts_t, c_eq_refl, c_ne_refl, w_fold, w_2, wC_fold, lt_M, cond_true, cond_false, Bool.and_true, Bool.true_and, Bool.and_false, Bool.false_and, Bool.not_true, Bool.not_false, isZS_0, isZS_1, c0]
        rfl
      | succ k ih =>
        intro w hw
        obtain ⟨a1, a2, a3, a4, a5, a6, a7, a8, a9, a10⟩ := hw0 w (by omega)
        obtain ⟨s1, s2⟩ := hsh w (by omega)
        have hi := ih (w + 1) (by omega)
        have h74 := s_74 (L := L) (xs := xs) hW (w := w) (x := u) (by omega) (by omega)
        rw [h_11_18]
        have hfu : firW (stepP wa wb wl ws sh D u) (k + 1) w = if stepP wa wb wl ws sh D u w = true then some w else firW (stepP wa wb wl ws sh D u) k (w + 1) := rfl
        rw [hfu]
        cases he : endW wa wb ws w u with
        | none =>
          have hp : stepP wa wb wl ws sh D u w = false := by unfold stepP; rw [he]
          rw [he] at h74
          rw [hp, if_neg (by simp), ← hi]
          by_cases z : sh w = 0
          · rw [z] at s2
            simp (disch := omega) only [↓Bool.cond_eq_ite, ↓reduceIte, Bool.false_eq_true, eq_self, n_lit, n_neg, n_add, n_mul, n_sub, n_subM, n_div, n_mod, n_addM, m_div, m_subn, n_tN, n_inS, n_eq_t, n_eq_f, n_ne_t, n_ne_f, n_lt_t, n_lt_f, n_ge_t, n_ge_f, n_gt_t, n_gt_f, n_le_t, n_le_f, mn_eq, mn_ne, mn_lt, mn_ge, mn_gt, mn_le, nm_eq, nm_ne, nm_lt, nm_ge, nm_gt, nm_le, n_gts_t, c_eq_refl, c_ne_refl, w_fold, w_2, wC_fold, lt_M, cond_true, cond_false, Bool.and_true, Bool.true_and, Bool.and_false, Bool.false_and, Bool.not_true, Bool.not_false, isZS_0, isZS_1, c0, s2, h74, Option.bind_some, encI]
          · have z1 : sh w = 1 := by omega
            rw [z1] at s2
            simp (disch := omega) only [↓Bool.cond_eq_ite, ↓reduceIte, Bool.false_eq_true, eq_self, n_lit, n_neg, n_add, n_mul, n_sub, n_subM, n_div, n_mod, n_addM, m_div, m_subn, n_tN, n_inS, n_eq_t, n_eq_f, n_ne_t, n_ne_f, n_lt_t, n_lt_f, n_ge_t, n_ge_f, n_gt_t, n_gt_f, n_le_t, n_le_f, mn_eq, mn_ne, mn_lt, mn_ge, mn_gt, mn_le, nm_eq, nm_ne, nm_lt, nm_ge, nm_gt, nm_le, n_gts_t, c_eq_refl, c_ne_refl, w_fold, w_2, wC_fold, lt_M, cond_true, cond_false, Bool.and_true, Bool.true_and, Bool.and_false, Bool.false_and, Bool.not_true, Bool.not_false, isZS_0, isZS_1, c0, s2]
        | some x =>
          have hx : x < nc := endW_lt he ⟨a1, a2⟩
          obtain ⟨dx1, dx2⟩ := hD x hx
          have hp : stepP wa wb wl ws sh D u w = (decide (sh w = 0) && decide (D x + wl w = D u)) := by unfold stepP; rw [he]
          rw [he] at h74
          rw [hp]
          by_cases z : sh w = 0
          · rw [z] at s2
            by_cases y : D x + wl w = D u
            · rw [if_pos (by simp [z, y])]
              simp (disch := omega) only [↓Bool.cond_eq_ite, ↓reduceIte, Bool.false_eq_true, eq_self, n_lit, n_neg, n_add, n_mul, n_sub, n_subM, n_div, n_mod, n_addM, m_div, m_subn, n_tN, n_inS, n_eq_t, n_eq_f, n_ne_t, n_ne_f, n_lt_t, n_lt_f, n_ge_t, n_ge_f, n_gt_t, n_gt_f, n_le_t, n_le_f, mn_eq, mn_ne, mn_lt, mn_ge, mn_gt, mn_le, nm_eq, nm_ne, nm_lt, nm_ge, nm_gt, nm_le, n_gts_t, c_eq_refl, c_ne_refl, w_fold, w_2, wC_fold, lt_M, cond_true, cond_false, Bool.and_true, Bool.true_and, Bool.and_false, Bool.false_and, Bool.not_true, Bool.not_false, isZS_0, isZS_1, c0, s2, h74, Option.bind_some, encI, a9, dx1]
            · rw [if_neg (by simp [z, y]), ← hi]
              simp (disch := omega) only [↓Bool.cond_eq_ite, ↓reduceIte, Bool.false_eq_true, eq_self, n_lit, n_neg, n_add, n_mul, n_sub, n_subM, n_div, n_mod, n_addM, m_div, m_subn, n_tN, n_inS, n_eq_t, n_eq_f, n_ne_t, n_ne_f, n_lt_t, n_lt_f, n_ge_t, n_ge_f, n_gt_t, n_gt_f, n_le_t, n_le_f, mn_eq, mn_ne, mn_lt, mn_ge, mn_gt, mn_le, nm_eq, nm_ne, nm_lt, nm_ge, nm_gt, nm_le, n_gts_t, c_eq_refl, c_ne_refl, w_fold, w_2, wC_fold, lt_M, cond_true, cond_false, Bool.and_true, Bool.true_and, Bool.and_false, Bool.false_and, Bool.not_true, Bool.not_false, isZS_0, isZS_1, c0, s2, h74, Option.bind_some, encI, a9, dx1]
          · have z1 : sh w = 1 := by omega
            rw [if_neg (by simp [z]), ← hi]
            rw [z1] at s2
            simp (disch := omega) only [↓Bool.cond_eq_ite, ↓reduceIte, Bool.false_eq_true, eq_self, n_lit, n_neg, n_add, n_mul, n_sub, n_subM, n_div, n_mod, n_addM, m_div, m_subn, n_tN, n_inS, n_eq_t, n_eq_f, n_ne_t, n_ne_f, n_lt_t, n_lt_f, n_ge_t, n_ge_f, n_gt_t, n_gt_f, n_le_t, n_le_f, mn_eq, mn_ne, mn_lt, mn_ge, mn_gt, mn_le, nm_eq, nm_ne, nm_lt, nm_ge, nm_gt, nm_le, n_gts_t, c_eq_refl, c_ne_refl, w_fold, w_2, wC_fold, lt_M, cond_true, cond_false, Bool.and_true, Bool.true_and, Bool.and_false, Bool.false_and, Bool.not_true, Bool.not_false, isZS_0, isZS_1, c0, s2]
    have := key nw 0 (by omega)
    simp (disch := omega) only [↓Bool.cond_eq_ite, ↓reduceIte, Bool.false_eq_true, eq_self, n_lit, n_neg, n_add, n_mul, n_sub, n_subM, n_div, n_mod, n_addM, m_div, m_subn, n_tN, n_inS, n_eq_t, n_eq_f, n_ne_t, n_ne_f, n_lt_t, n_lt_f, n_ge_t, n_ge_f, n_gt_t, n_gt_f, n_le_t, n_le_f, mn_eq, mn_ne, mn_lt, mn_ge, mn_gt, mn_le, nm_eq, nm_ne, nm_lt, nm_ge, nm_gt, nm_le, n_gts_t, c_eq_refl, c_ne_refl, w_fold, w_2, wC_fold, lt_M, cond_true, cond_false, Bool.and_true, Bool.true_and, Bool.and_false, Bool.false_and, Bool.not_true, Bool.not_false, isZS_0, isZS_1, d1, this]
  · rw [if_neg hf]
    simp (disch := omega) only [↓Bool.cond_eq_ite, ↓reduceIte, Bool.false_eq_true, eq_self, n_lit, n_neg, n_add, n_mul, n_sub, n_subM, n_div, n_mod, n_addM, m_div, m_subn, n_tN, n_inS, n_eq_t, n_eq_f, n_ne_t, n_ne_f, n_lt_t, n_lt_f, n_ge_t, n_ge_f, n_gt_t, n_gt_f, n_le_t, n_le_f, mn_eq, mn_ne, mn_lt, mn_ge, mn_gt, mn_le, nm_eq, nm_ne, nm_lt, nm_ge, nm_gt, nm_le, n_gts_t, c_eq_refl, c_ne_refl, w_fold, w_2, wC_fold, lt_M, cond_true, cond_false, Bool.and_true, Bool.true_and, Bool.and_false, Bool.false_and, Bool.not_true, Bool.not_false, isZS_0, isZS_1, d1]

set_option maxRecDepth 8000 in
theorem firW_last (P : Nat → Bool) : ∀ (k w : Nat), firW P (k + 1) w = (match firW P k w with | some x => some x | none => if P (w + k) = true then some (w + k) else none)
  | 0, w => rfl
  | k + 1, w => by
    show (if P w = true then some w else firW P (k + 1) (w + 1)) = _
    rw [firW_last P k (w + 1)]
    show _ = (match (if P w = true then some w else firW P k (w + 1)) with | some x => some x | none => _)
    by_cases h : P w = true
    · rw [if_pos h, if_pos h]
    · rw [if_neg h, if_neg h, show w + 1 + k = w + (k + 1) by omega]
end Step2
