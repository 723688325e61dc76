section Wave9
variable {L : Nat} {xs : Nat → Int32} {M : mM} {w cap gb vb kd : Nat → Nat} {R G n v e : Nat}
theorem pw_le (hR : R ≤ 6) (hG : G ≤ 6) : (R + 1) ^ G ≤ 117649 := by
  have h1 : (R + 1) ^ G ≤ 7 ^ G := Nat.pow_le_pow_left (by omega) G
  have h2 : 7 ^ G ≤ 7 ^ 6 := Nat.pow_le_pow_right (by omega) hG
  have h3 : 7 ^ 6 = 117649 := by decide
  omega
def l17n (l2 l3 l4 l5 l6 : Int32) (l10 : Option mV) : List (Option mV) := [some (vr 10 [1]), none, some (vi l2), some (vi l3), some (vi l4), some (vi l5), some (vi l6), none, none, none, l10, none, none]
set_option maxRecDepth 8000 in
theorem ways_w (hM : rM7 M w cap gb vb kd G v e R) : ∀ r n A B D mo, n + r = (R + 1) ^ G → wB w cap R G n B mo → mo ≤ 7000 → ∃ A' B' D' mo', run L xs 170 26 (175, l17n (oN e) (oN R) (lQ mo) (oN ((R + 1) ^ G)) (oN n) none, [], w4 M A B D) = some (some (vi (lQ mo')), w4 M A' B' D') ∧ wB w cap R G ((R + 1) ^ G) B' mo' ∧ mo' ≤ 7000 := by
  have hM0 := hM
  obtain ⟨hG, hv, he1, he2, hR, m44, m45, m42, m43, hcap⟩ := hM
  have hR6 : R ≤ 6 := by
    have h1 : v * e ≤ 3 * 2 := Nat.mul_le_mul hv he2
    omega
  have hpw := pw_le hR6 hG
  have hb : hp w G ≤ 6000 := by
    have := hp_le (w := w) (B := 1000) (n := G) (fun i hi => (m42 i hi).2.1)
    omega
  have z44 : ∀ A B D, (w4 M A B D).1 [1] = M.1 [1] := fun A B D => w4_q (by simp) (by simp) (by simp)
  have zero : ∀ q i (mo : Int32) (A B D : Nat → Int32) n, i + q = R + 1 → (∀ l, l < i → D l = oN 0) → ∃ D', (∀ l, l < R + 1 → D' l = oN 0) ∧ run L xs 170 26 (195, [some (vr 10 [1]), none, some (vi (oN e)), some (vi (oN R)), some (vi mo), some (vi (oN ((R + 1) ^ G))), some (vi (oN n)), some (vi (oN n)), some (vi (oN 1)), some (vi (oN 0)), some (vi (oN i)), none, none], [], w4 M A B D) = run L xs 170 26 (223, l17d e R mo ((R + 1) ^ G) n n true 0 (lQ G), [], w4 M A B D') := by
    intro q
    induction q with
    | zero =>
      intro i mo A B D n hi hD
      have : i = R + 1 := by omega
      subst this
      refine ⟨D, hD, ?_⟩
      have e : oN G - oN 1 = lQ G := by rw [← lQ_d]; exact Int32.sub_eq_add_neg _ _
      unfold l17d
      rw [h_170_195]
      simp (disch := omega) only [↓e, ↓Bool.cond_eq_ite, ↓reduceIte, Bool.false_eq_true, eq_self, n_lit, n_neg, n_add, n_mul, n_sub, n_subM, n_div, n_mod, n_addM, m_div, m_subn, n_tN, n_inS, n_eq_t, n_eq_f, n_ne_t, n_ne_f, n_lt_t, n_lt_f, n_ge_t, n_ge_f, n_gt_t, n_gt_f, n_le_t, n_le_f, mn_eq, mn_ne, mn_lt, mn_ge, mn_gt, mn_le, nm_eq, nm_ne, nm_lt, nm_ge, nm_gt, nm_le, n_gts_t, c_eq_refl, c_ne_refl, w_fold, w_2, wC_fold, lt_M, cond_true, cond_false, Bool.and_true, Bool.true_and, Bool.and_false, Bool.false_and, Bool.not_true, Bool.not_false, isZS_0, isZS_1, z44, m44]
    | succ q ih =>
      intro i mo A B D n hi hD
      obtain ⟨D', d1, d2⟩ := ih (i + 1) mo A B (upd D i (oN 0)) n (by omega) (fun l hl => by
        by_cases x : l = i
        · subst x; rw [upd_eq]
        · rw [upd_ne x]; exact hD l (by omega))
      refine ⟨D', d1, ?_⟩
      rw [h_170_195]
      simp (disch := omega) only [↓Bool.cond_eq_ite, ↓reduceIte, Bool.false_eq_true, eq_self, n_lit, n_neg, n_add, n_mul, n_sub, n_subM, n_div, n_mod, n_addM, m_div, m_subn, n_tN, n_inS, n_eq_t, n_eq_f, n_ne_t, n_ne_f, n_lt_t, n_lt_f, n_ge_t, n_ge_f, n_gt_t, n_gt_f, n_le_t, n_le_f, mn_eq, mn_ne, mn_lt, mn_ge, mn_gt, mn_le, nm_eq, nm_ne, nm_lt, nm_ge, nm_gt, nm_le, n_gts_t, c_eq_refl, c_ne_refl, w_fold, wC_fold, lt_M, cond_true, cond_false, Bool.and_true, Bool.true_and, Bool.and_false, Bool.false_and, Bool.not_true, Bool.not_false, isZS_0, isZS_1, w4_8, w4_f8, w4_w8]
      exact d2
  have keep : ∀ q i (mo : Int32) (A B D : Nat → Int32) n, i + q = G → (∀ l, l < i → B l = A l) → ∃ B', (∀ l, l < G → B' l = A l) ∧ run L xs 170 26 (352, l17n (oN e) (oN R) mo (oN ((R + 1) ^ G)) (oN n) (some (vi (oN i))), [], w4 M A B D) = run L xs 170 26 (381, l17n (oN e) (oN R) mo (oN ((R + 1) ^ G)) (oN n) none, [], w4 M A B' D) := by
    intro q
    induction q with
    | zero =>
      intro i mo A B D n hi hB
      have : i = G := by omega
      subst this
      refine ⟨B, hB, ?_⟩
      unfold l17n
      rw [h_170_352]
      simp (disch := omega) only [↓Bool.cond_eq_ite, ↓reduceIte, Bool.false_eq_true, eq_self, n_lit, n_neg, n_add, n_mul, n_sub, n_subM, n_div, n_mod, n_addM, m_div, m_subn, n_tN, n_inS, n_eq_t, n_eq_f, n_ne_t, n_ne_f, n_lt_t, n_lt_f, n_ge_t, n_ge_f, n_gt_t, n_gt_f, n_le_t, n_le_f, mn_eq, mn_ne, mn_lt, mn_ge, mn_gt, mn_le, nm_eq, nm_ne, nm_lt, nm_ge, nm_gt, nm_le, n_gts_t, c_eq_refl, c_ne_refl, w_fold, w_2, wC_fold, lt_M, cond_true, cond_false, Bool.and_true, Bool.true_and, Bool.and_false, Bool.false_and, Bool.not_true, Bool.not_false, isZS_0, isZS_1, z44, m44]
    | succ q ih =>
      intro i mo A B D n hi hB
      obtain ⟨B', d1, d2⟩ := ih (i + 1) mo A (upd B i (A i)) D n (by omega) (fun l hl => by
        by_cases x : l = i
        · subst x; rw [upd_eq]
        · rw [upd_ne x]; exact hB l (by omega))
      refine ⟨B', d1, ?_⟩
      rw [← d2]
      unfold l17n
      rw [h_170_352]
      simp (disch := omega) only [↓Bool.cond_eq_ite, ↓reduceIte, Bool.false_eq_true, eq_self, n_lit, n_neg, n_add, n_mul, n_sub, n_subM, n_div, n_mod, n_addM, m_div, m_subn, n_tN, n_inS, n_eq_t, n_eq_f, n_ne_t, n_ne_f, n_lt_t, n_lt_f, n_ge_t, n_ge_f, n_gt_t, n_gt_f, n_le_t, n_le_f, mn_eq, mn_ne, mn_lt, mn_ge, mn_gt, mn_le, nm_eq, nm_ne, nm_lt, nm_ge, nm_gt, nm_le, n_gts_t, c_eq_refl, c_ne_refl, w_fold, wC_fold, lt_M, cond_true, cond_false, Bool.and_true, Bool.true_and, Bool.and_false, Bool.false_and, Bool.not_true, Bool.not_false, isZS_0, isZS_1, z44, m44, w4_6, w4_7, w4_f7, w4_w7]
  intro r
  induction r with
  | zero =>
    intro n A B D mo hn hB hmo
    have : n = (R + 1) ^ G := by omega
    subst this
    refine ⟨A, B, D, mo, ?_, hB, hmo⟩
    unfold l17n
    rw [h_170_175]
    simp (disch := omega) only [↓Bool.cond_eq_ite, ↓reduceIte, Bool.false_eq_true, eq_self, n_lit, n_neg, n_add, n_mul, n_sub, n_subM, n_div, n_mod, n_addM, m_div, m_subn, n_tN, n_inS, n_eq_t, n_eq_f, n_ne_t, n_ne_f, n_lt_t, n_lt_f, n_ge_t, n_ge_f, n_gt_t, n_gt_f, n_le_t, n_le_f, mn_eq, mn_ne, mn_lt, mn_ge, mn_gt, mn_le, nm_eq, nm_ne, nm_lt, nm_ge, nm_gt, nm_le, n_gts_t, c_eq_refl, c_ne_refl, w_fold, w_2, wC_fold, lt_M, cond_true, cond_false, Bool.and_true, Bool.true_and, Bool.and_false, Bool.false_and, Bool.not_true, Bool.not_false, isZS_0, isZS_1]
  | succ r ih =>
    intro n A B D mo hn hB hmo
    obtain ⟨D1, e1, e2⟩ := zero (R + 1) 0 (lQ mo) A B D n (by omega) (fun l hl => by omega)
    obtain ⟨d, A', D', ok', d1, d2, d3, d4, d5, d6⟩ := dig_w (L := L) (xs := xs) hM0 (mo := lQ mo) (tot := (R + 1) ^ G) (n := n) (B := B) G n true 0 A D1 (fun _ => 0) (Nat.le_refl _) (by omega) (by omega) (by omega) (fun r hr => ⟨e1 r (by omega), by omega⟩) (fun _ r hr => Nat.zero_le _)
    have htt := tt_le (w := w) (R := R) (d := d) (n := G)
    have hgw : ok' = true ↔ gW w cap R G d := by
      rw [d5]
      constructor
      · intro h r hr
        have := h.2 r hr
        omega
      · intro h
        exact ⟨rfl, fun r hr => by have := h r hr; omega⟩
    have st : run L xs 170 26 (175, l17n (oN e) (oN R) (lQ mo) (oN ((R + 1) ^ G)) (oN n) none, [], w4 M A B D) = run L xs 170 26 (223, l17d e R (lQ mo) ((R + 1) ^ G) n 0 ok' (tt w R d G) (lQ 0), [], w4 M A' B D') := by
      rw [Nat.zero_add] at d6
      rw [← d6, ← e2]
      unfold l17n
      rw [h_170_175]
      simp (disch := omega) only [↓Bool.cond_eq_ite, ↓reduceIte, Bool.false_eq_true, eq_self, n_lit, n_neg, n_add, n_mul, n_sub, n_subM, n_div, n_mod, n_addM, m_div, m_subn, n_tN, n_inS, n_eq_t, n_eq_f, n_ne_t, n_ne_f, n_lt_t, n_lt_f, n_ge_t, n_ge_f, n_gt_t, n_gt_f, n_le_t, n_le_f, mn_eq, mn_ne, mn_lt, mn_ge, mn_gt, mn_le, nm_eq, nm_ne, nm_lt, nm_ge, nm_gt, nm_le, n_gts_t, c_eq_refl, c_ne_refl, w_fold, w_2, wC_fold, lt_M, cond_true, cond_false, Bool.and_true, Bool.true_and, Bool.and_false, Bool.false_and, Bool.not_true, Bool.not_false, isZS_0, isZS_1]
    have h381 : ∀ mo A B D, run L xs 170 26 (381, l17n (oN e) (oN R) mo (oN ((R + 1) ^ G)) (oN n) none, [], w4 M A B D) = run L xs 170 26 (175, l17n (oN e) (oN R) mo (oN ((R + 1) ^ G)) (oN (n + 1)) none, [], w4 M A B D) := fun mo A B D => by
      unfold l17n
      rw [h_170_381]
      simp (disch := omega) only [↓Bool.cond_eq_ite, ↓reduceIte, Bool.false_eq_true, eq_self, n_lit, n_neg, n_add, n_mul, n_sub, n_subM, n_div, n_mod, n_addM, m_div, m_subn, n_tN, n_inS, n_eq_t, n_eq_f, n_ne_t, n_ne_f, n_lt_t, n_lt_f, n_ge_t, n_ge_f, n_gt_t, n_gt_f, n_le_t, n_le_f, mn_eq, mn_ne, mn_lt, mn_ge, mn_gt, mn_le, nm_eq, nm_ne, nm_lt, nm_ge, nm_gt, nm_le, n_gts_t, c_eq_refl, c_ne_refl, w_fold, w_2, wC_fold, lt_M, cond_true, cond_false, Bool.and_true, Bool.true_and, Bool.and_false, Bool.false_and, Bool.not_true, Bool.not_false, isZS_0, isZS_1]
    have hl0 : lQ 0 = oM 1 := if_pos rfl
    have hle := c_le_lQ (a := tt w R d G) (q := mo) (by omega) (by omega)
    rw [st]
    by_cases hgood : gW w cap R G d
    · have ek : ok' = true := hgw.mpr hgood
      subst ek
      by_cases hlt : tt w R d G < mo
      · rw [decide_eq_true hlt] at hle
        obtain ⟨A2, B2, D2, mo2, y⟩ := ih (n + 1) A' B D' mo (by omega) (wB_keep d1 d2 (fun _ => hlt) hB) hmo
        refine ⟨A2, B2, D2, mo2, ?_, y.2⟩
        rw [← y.1, ← h381]
        unfold l17d l17n
        rw [h_170_223, hl0]
        simp (disch := omega) only [↓Bool.cond_eq_ite, ↓reduceIte, Bool.false_eq_true, eq_self, n_lit, n_neg, n_add, n_mul, n_sub, n_subM, n_div, n_mod, n_addM, m_div, m_subn, n_tN, n_inS, n_eq_t, n_eq_f, n_ne_t, n_ne_f, n_lt_t, n_lt_f, n_ge_t, n_ge_f, n_gt_t, n_gt_f, n_le_t, n_le_f, mn_eq, mn_ne, mn_lt, mn_ge, mn_gt, mn_le, nm_eq, nm_ne, nm_lt, nm_ge, nm_gt, nm_le, n_gts_t, c_eq_refl, c_ne_refl, w_fold, w_2, wC_fold, lt_M, cond_true, cond_false, Bool.and_true, Bool.true_and, Bool.and_false, Bool.false_and, Bool.not_true, Bool.not_false, isZS_0, isZS_1, hle]
      · rw [decide_eq_false hlt] at hle
        obtain ⟨B1, b1, b2⟩ := keep G 0 (oN (tt w R d G)) A' B D' n (by omega) (fun l hl => by omega)
        obtain ⟨A2, B2, D2, mo2, y⟩ := ih (n + 1) A' B1 D' (tt w R d G + 1) (by omega) (wB_take d1 d2 hgood (by omega) (fun l hl => by rw [b1 l hl, d3 l hl]) hB) (by omega)
        refine ⟨A2, B2, D2, mo2, ?_, y.2⟩
        have e : lQ (tt w R d G + 1) = oN (tt w R d G) := lQ_p
        rw [e] at y
        rw [← y.1, ← h381, ← b2]
        unfold l17d l17n
        rw [h_170_223, hl0]
        simp (disch := omega) only [↓Bool.cond_eq_ite, ↓reduceIte, Bool.false_eq_true, eq_self, n_lit, n_neg, n_add, n_mul, n_sub, n_subM, n_div, n_mod, n_addM, m_div, m_subn, n_tN, n_inS, n_eq_t, n_eq_f, n_ne_t, n_ne_f, n_lt_t, n_lt_f, n_ge_t, n_ge_f, n_gt_t, n_gt_f, n_le_t, n_le_f, mn_eq, mn_ne, mn_lt, mn_ge, mn_gt, mn_le, nm_eq, nm_ne, nm_lt, nm_ge, nm_gt, nm_le, n_gts_t, c_eq_refl, c_ne_refl, w_fold, w_2, wC_fold, lt_M, cond_true, cond_false, Bool.and_true, Bool.true_and, Bool.and_false, Bool.false_and, Bool.not_true, Bool.not_false, isZS_0, isZS_1, hle]
    · have ek : ok' = false := by
        cases ok' with
        | false => rfl
        | true => exact absurd (hgw.mp rfl) hgood
      subst ek
      obtain ⟨A2, B2, D2, mo2, y⟩ := ih (n + 1) A' B D' mo (by omega) (wB_keep d1 d2 (fun h => absurd h hgood) hB) hmo
      refine ⟨A2, B2, D2, mo2, ?_, y.2⟩
      rw [← y.1, ← h381]
      unfold l17d l17n
      rw [h_170_223, hl0]
      simp (disch := omega) only [↓Bool.cond_eq_ite, ↓reduceIte, Bool.false_eq_true, eq_self, n_lit, n_neg, n_add, n_mul, n_sub, n_subM, n_div, n_mod, n_addM, m_div, m_subn, n_tN, n_inS, n_eq_t, n_eq_f, n_ne_t, n_ne_f, n_lt_t, n_lt_f, n_ge_t, n_ge_f, n_gt_t, n_gt_f, n_le_t, n_le_f, mn_eq, mn_ne, mn_lt, mn_ge, mn_gt, mn_le, nm_eq, nm_ne, nm_lt, nm_ge, nm_gt, nm_le, n_gts_t, c_eq_refl, c_ne_refl, w_fold, w_2, wC_fold, lt_M, cond_true, cond_false, Bool.and_true, Bool.true_and, Bool.and_false, Bool.false_and, Bool.not_true, Bool.not_false, isZS_0, isZS_1]
end Wave9
