section Wave4
variable {L : Nat} {xs : Nat → Int32} {C C' : mM} {w cap c : Nat → Nat} {R G V e : Nat}
theorem tt_le {d : Nat → Nat} {n : Nat} : tt w R d n ≤ hp w n := by
  have := tt_hp (w := w) (R := R) (d := d) (n := 0) (m := n) (Nat.zero_le _)
  have h1 : tt w R d 0 = 0 := rfl
  have h2 : hp w 0 = 0 := rfl
  omega
theorem hp_le {B : Nat} : ∀ {n : Nat}, (∀ i, i < n → w i ≤ B) → hp w n ≤ B * n
  | 0, _ => Nat.zero_le _
  | n + 1, h => by
    have h1 := hp_le (n := n) (fun i hi => h i (by omega))
    have h2 := h n (by omega)
    have e : B * (n + 1) = B * n + B := Nat.mul_succ B n
    show hp w n + w n ≤ _
    omega
theorem wP_mo {i mo mo' : Nat} {kp kp' : Nat → Nat} (h : wP w cap R G i c mo kp mo' kp') (hb : hp w G ≤ 6000) (hm : mo ≤ 7000) : mo' ≤ 7000 := by
  rcases h with ⟨d, -, -, h, -⟩ | ⟨-, h, -⟩
  · have := tt_le (w := w) (R := R) (d := d) (n := G)
    omega
  · omega
set_option maxRecDepth 8000 in
theorem choose_w (hC : wC7 C w cap G V e R) : ∀ r i c Rm H K mo kp, i + r = G → (∀ l, l < i → c l ≤ R) → (∀ r, r < R → thS w c r i ≤ cap r ∧ Rm r = oN (cap r - thS w c r i)) → (∀ l, l < i → H l = dE R (c l)) → wS G R K mo kp → mo ≤ 7000 →
    ∃ H' K' mo' kp', call L xs 64 [vr 7 [7, 0], vi (oN i), vi (oN (tt w R c i))] (wm C Rm H K mo) = some (none, wm C Rm H' K' mo') ∧ (∀ l, l < i → H' l = H l) ∧ wS G R K' mo' kp' ∧ wP w cap R G i c mo kp mo' kp' := by
  obtain ⟨hG, hV, he1, he2, hR, c0, c4, c6, c2, c3, hcap⟩ := hC
  have hR6 : R ≤ 6 := by
    have h1 : V * e ≤ 3 * 2 := Nat.mul_le_mul hV he2
    omega
  have hb : hp w G ≤ 6000 := by
    have := hp_le (w := w) (B := 1000) (n := G) (fun i hi => (c2 i hi).1)
    omega
  have q2 : ∀ Rm H K mo, (wm C Rm H K mo).1 [2, 7, 0] = C.1 [2, 7, 0] := fun _ _ _ _ => wm_q (by simp) (by simp) (by simp) (by simp)
  have q3 : ∀ Rm H K mo, (wm C Rm H K mo).1 [3, 7, 0] = C.1 [3, 7, 0] := fun _ _ _ _ => wm_q (by simp) (by simp) (by simp) (by simp)
  have u0 : ∀ v, upd (C.1 [7, 0]) 10 v 0 = oN G := fun v => by rw [upd_ne (by omega), c0]
  have u4 : ∀ v, upd (C.1 [7, 0]) 10 v 4 = oN V := fun v => by rw [upd_ne (by omega), c4]
  have u6 : ∀ v, upd (C.1 [7, 0]) 10 v 6 = oN e := fun v => by rw [upd_ne (by omega), c6]
  intro r
  induction r with
  | zero =>
    intro i c Rm H K mo kp hi hc hRm hH hS hmo
    have : i = G := by omega
    subst this
    have htt := tt_le (w := w) (R := R) (d := c) (n := i)
    have hle := c_le_lQ (a := tt w R c i) (q := mo) (by omega) (by omega)
    by_cases hlt : tt w R c i < mo
    · rw [decide_eq_true hlt] at hle
      refine ⟨H, K, mo, kp, ?_, fun _ _ => rfl, hS, wP_full hlt⟩
      rw [e_64]
      simp (disch := omega) only [↓Bool.cond_eq_ite, ↓reduceIte, Bool.false_eq_true, eq_self, n_lit, n_neg, n_add, n_mul, n_sub, n_subM, n_div, n_mod, n_addM, m_div, m_subn, n_tN, n_inS, n_eq_t, n_eq_f, n_ne_t, n_ne_f, n_lt_t, n_lt_f, n_ge_t, n_ge_f, n_gt_t, n_gt_f, n_le_t, n_le_f, mn_eq, mn_ne, mn_lt, mn_ge, mn_gt, mn_le, nm_eq, nm_ne, nm_lt, nm_ge, nm_gt, nm_le, n_gts_t, c_eq_refl, c_ne_refl, w_fold, wC_fold, lt_M, cond_true, cond_false, Bool.and_true, Bool.true_and, Bool.and_false, Bool.false_and, Bool.not_true, Bool.not_false, isZS_0, isZS_1, wm_P, u0, upd_eq, hle]
    · rw [decide_eq_false hlt] at hle
      obtain ⟨K', hK'⟩ : ∃ K', K' = va_cpy H K 0 0 i := ⟨_, rfl⟩
      have hk : ∀ l, l < i → K' l = H l := fun l hl => by
        rw [hK']
        unfold va_cpy
        simp [hl]
      have hcp : ∀ m : mM, cpyS ([8, 7, 0], 1000006) ([9, 7, 0], 1000006) m.1 (oN 0) (oN 0) (oN i) = true := fun m => cpy_t (by decide) (by decide) (by show 0 + i ≤ 6; omega) (by show 0 + i ≤ 6; omega) (by omega) (by omega)
      refine ⟨H, K', tt w R c i + 1, c, ?_, fun _ _ => rfl, fun _ l hl => by rw [hk l hl, hH l hl], wP_take hc (fun r hr => (hRm r hr).1) (by omega) (fun _ _ => rfl)⟩
      rw [e_64]
      simp (disch := omega) only [↓Bool.cond_eq_ite, ↓reduceIte, Bool.false_eq_true, eq_self, n_lit, n_neg, n_add, n_mul, n_sub, n_subM, n_div, n_mod, n_addM, m_div, m_subn, n_tN, n_inS, n_eq_t, n_eq_f, n_ne_t, n_ne_f, n_lt_t, n_lt_f, n_ge_t, n_ge_f, n_gt_t, n_gt_f, n_le_t, n_le_f, mn_eq, mn_ne, mn_lt, mn_ge, mn_gt, mn_le, nm_eq, nm_ne, nm_lt, nm_ge, nm_gt, nm_le, n_gts_t, c_eq_refl, c_ne_refl, w_fold, wC_fold, lt_M, cond_true, cond_false, Bool.and_true, Bool.true_and, Bool.and_false, Bool.false_and, Bool.not_true, Bool.not_false, isZS_0, isZS_1, wm_P, u0, upd_eq, hle, wm_fP, wm_wP, wm_8, wm_9, hcp, wm_f9, (rk_64 (show i < 7 by omega) _ 0).1]
      rw [hK']
      refine congrArg (fun z => some ((none : Option mV), z)) ?_
      unfold wC
      rw [wm_8, wm_9, wm_f9]
  | succ r ih =>
    intro i c Rm H K mo kp hi hc hRm hH hS hmo
    have htt := tt_le (w := w) (R := R) (d := c) (n := i)
    have hpi := hp_mono (w := w) (show i ≤ G by omega)
    have hpi' := hp_mono (w := w) (show i + 1 ≤ G by omega)
    have hpe : hp w (i + 1) = hp w i + w i := rfl
    obtain ⟨w1, w2⟩ := c2 i (by omega)
    have w3 := c3 i (by omega)
    have hgt := c_gt_lQ (a := tt w R c i + (hp w G - hp w i)) (q := mo) (by omega) (by omega)
    by_cases hpr : mo ≤ tt w R c i + (hp w G - hp w i)
    case neg =>
      rw [decide_eq_false hpr] at hgt
      refine ⟨H, K, mo, kp, ?_, fun _ _ => rfl, hS, wP_prune (by omega) (by omega)⟩
      rw [e_64]
      simp (disch := omega) only [↓Bool.cond_eq_ite, ↓reduceIte, Bool.false_eq_true, eq_self, n_lit, n_neg, n_add, n_mul, n_sub, n_subM, n_div, n_mod, n_addM, m_div, m_subn, n_tN, n_inS, n_eq_t, n_eq_f, n_ne_t, n_ne_f, n_lt_t, n_lt_f, n_ge_t, n_ge_f, n_gt_t, n_gt_f, n_le_t, n_le_f, mn_eq, mn_ne, mn_lt, mn_ge, mn_gt, mn_le, nm_eq, nm_ne, nm_lt, nm_ge, nm_gt, nm_le, n_gts_t, c_eq_refl, c_ne_refl, w_fold, wC_fold, lt_M, cond_true, cond_false, Bool.and_true, Bool.true_and, Bool.and_false, Bool.false_and, Bool.not_true, Bool.not_false, isZS_0, isZS_1, wm_P, u0, upd_eq, q3, w3, hgt]
    case pos =>
    rw [decide_eq_true hpr] at hgt
    obtain ⟨rk, hrk⟩ : ∃ rk, rk = rkM 64 [vr 7 [7, 0], vi (oN i), vi (oN (tt w R c i))] := ⟨_, rfl⟩
    have k1 : Nat.blt 25 rk = true := by rw [hrk]; exact (rk_64 (by omega) _ 0).1
    have k2 : ∀ v, Nat.blt (rkM 64 [vr 7 [7, 0], vi (oN (i + 1)), vi v]) rk = true := fun v => by rw [hrk]; exact (rk_64 (by omega) _ v).2 (by omega)
    have loop : ∀ q s H1 K1 mo1 kp1, s + q = R → (∀ l, l < i → H1 l = H l) → wS G R K1 mo1 kp1 → mo1 ≤ 7000 → wQ w cap R G i c s mo kp mo1 kp1 →
        ∃ H' K' mo' kp', run L xs 64 rk (40, [some (vr 7 [7, 0]), some (vi (oN i)), some (vi (oN (tt w R c i))), some (vi (oN s))], [], wm C Rm H1 K1 mo1) = some (none, wm C Rm H' K' mo') ∧ (∀ l, l < i → H' l = H l) ∧ wS G R K' mo' kp' ∧ wP w cap R G i c mo kp mo' kp' := by
      intro q
      induction q with
      | zero =>
        intro s H1 K1 mo1 kp1 hs hH1 hS1 hm1 hQ
        have : s = R := by omega
        subst this
        have hcx : ∀ l, l < i → updN c i s l = c l := fun l hl => updN_ne (by omega)
        obtain ⟨H', K', mo', kp', y1, y2, y3, y4⟩ := ih (i + 1) (updN c i s) Rm (upd H1 i (oM 1)) K1 mo1 kp1 (by omega) (fun l hl => by
            by_cases e : l = i
            · subst e; rw [updN_same]; exact Nat.le_refl _
            · rw [updN_ne e]; exact hc l (by omega)) (fun r hr => by
            have : thS w (updN c i s) r (i + 1) = thS w c r i := by
              show thS w (updN c i s) r i + _ = _
              rw [thS_cg hcx, updN_same, if_neg (by omega), Nat.add_zero]
            rw [this]; exact hRm r hr) (fun l hl => by
            by_cases e : l = i
            · subst e; rw [upd_eq, updN_same]; exact (if_neg (Nat.lt_irrefl _)).symm
            · rw [upd_ne e, updN_ne e, hH1 l (by omega)]; exact hH l (by omega)) hS1 hm1
        have ht : tt w s (updN c i s) (i + 1) = tt w s c i := by
          show tt w s (updN c i s) i + _ = _
          rw [tt_cg hcx, updN_same, if_neg (Nat.lt_irrefl _), Nat.add_zero]
        rw [ht] at y1
        refine ⟨H', K', mo', kp', ?_, fun l hl => by rw [y2 l (by omega), upd_ne (by omega), hH1 l hl], y3, wQ_end (by omega) (wQ_step (by omega) hQ y4)⟩
        have y1 := kV_of y1
        rw [h_64_40]
        simp (disch := omega) only [↓Bool.cond_eq_ite, ↓reduceIte, Bool.false_eq_true, eq_self, n_lit, n_neg, n_add, n_mul, n_sub, n_subM, n_div, n_mod, n_addM, m_div, m_subn, n_tN, n_inS, n_eq_t, n_eq_f, n_ne_t, n_ne_f, n_lt_t, n_lt_f, n_ge_t, n_ge_f, n_gt_t, n_gt_f, n_le_t, n_le_f, mn_eq, mn_ne, mn_lt, mn_ge, mn_gt, mn_le, nm_eq, nm_ne, nm_lt, nm_ge, nm_gt, nm_le, n_gts_t, c_eq_refl, c_ne_refl, w_fold, wC_fold, lt_M, cond_true, cond_false, Bool.and_true, Bool.true_and, Bool.and_false, Bool.false_and, Bool.not_true, Bool.not_false, isZS_0, isZS_1, wm_P, u4, u6, hR, wm_8, wm_f8, wm_w8, k2, y1, Option.bind_some]
      | succ q ihq =>
        intro s H1 K1 mo1 kp1 hs hH1 hS1 hm1 hQ
        obtain ⟨r1, r2⟩ := hRm s (by omega)
        have rc := hcap s (by omega)
        have skip : (∀ e, wX w cap R G i c e → e i = s → tt w R e G < mo1) → ∃ H' K' mo' kp', run L xs 64 rk (40, [some (vr 7 [7, 0]), some (vi (oN i)), some (vi (oN (tt w R c i))), some (vi (oN (s + 1)))], [], wm C Rm H1 K1 mo1) = some (none, wm C Rm H' K' mo') ∧ (∀ l, l < i → H' l = H l) ∧ wS G R K' mo' kp' ∧ wP w cap R G i c mo kp mo' kp' := fun hn =>
          ihq (s + 1) H1 K1 mo1 kp1 (by omega) hH1 hS1 hm1 (wQ_skip (by omega) hQ hn)
        by_cases h1 : cap s - thS w c s i < w i
        · have := skip (fun e he hes => by
            have g1 := he.2.2 s (by omega)
            have g2 := thS_mono (w := w) (d := e) (r := s) (show i + 1 ≤ G by omega)
            have g3 : thS w e s (i + 1) = thS w c s i + w i := by
              show thS w e s i + _ = _
              rw [thS_cg he.1, if_pos hes]
            omega)
          rw [h_64_40]
          simp (disch := omega) only [↓Bool.cond_eq_ite, ↓reduceIte, Bool.false_eq_true, eq_self, n_lit, n_neg, n_add, n_mul, n_sub, n_subM, n_div, n_mod, n_addM, m_div, m_subn, n_tN, n_inS, n_eq_t, n_eq_f, n_ne_t, n_ne_f, n_lt_t, n_lt_f, n_ge_t, n_ge_f, n_gt_t, n_gt_f, n_le_t, n_le_f, mn_eq, mn_ne, mn_lt, mn_ge, mn_gt, mn_le, nm_eq, nm_ne, nm_lt, nm_ge, nm_gt, nm_le, n_gts_t, c_eq_refl, c_ne_refl, w_fold, wC_fold, lt_M, cond_true, cond_false, Bool.and_true, Bool.true_and, Bool.and_false, Bool.false_and, Bool.not_true, Bool.not_false, isZS_0, isZS_1, wm_P, u4, u6, hR, wm_7, r2, q2, w2]
          exact this
        · have h66 := s_66 (L := L) (xs := xs) (m := wm C Rm H1 K1 mo1) (ρ := fun r => cap r - thS w c r i) (s := s) (by omega) (fun r hr => ⟨by have := hcap r (by omega); omega, by rw [wm_7]; exact (hRm r (by omega)).2⟩)
          rcases h66 with ⟨a, a1, a2, a3⟩ | ⟨-, a3⟩
          · have := skip (wQ_twin (by omega) (by omega) a1 (fun r hr => (hRm r hr).1) a2 hQ)
            rw [h_64_40]
            simp (disch := omega) only [↓Bool.cond_eq_ite, ↓reduceIte, Bool.false_eq_true, eq_self, n_lit, n_neg, n_add, n_mul, n_sub, n_subM, n_div, n_mod, n_addM, m_div, m_subn, n_tN, n_inS, n_eq_t, n_eq_f, n_ne_t, n_ne_f, n_lt_t, n_lt_f, n_ge_t, n_ge_f, n_gt_t, n_gt_f, n_le_t, n_le_f, mn_eq, mn_ne, mn_lt, mn_ge, mn_gt, mn_le, nm_eq, nm_ne, nm_lt, nm_ge, nm_gt, nm_le, n_gts_t, c_eq_refl, c_ne_refl, w_fold, wC_fold, lt_M, cond_true, cond_false, Bool.and_true, Bool.true_and, Bool.and_false, Bool.false_and, Bool.not_true, Bool.not_false, isZS_0, isZS_1, wm_P, u4, u6, hR, wm_7, r2, q2, w2, k1, a3, Option.bind_some]
            exact this
          · have hcx : ∀ l, l < i → updN c i s l = c l := fun l hl => updN_ne (by omega)
            have hst : ∀ r, thS w (updN c i s) r (i + 1) = thS w c r i + if s = r then w i else 0 := fun r => by
              show thS w (updN c i s) r i + _ = _
              rw [thS_cg hcx, updN_same]
            have ht : tt w R (updN c i s) (i + 1) = tt w R c i + w i := by
              show tt w R (updN c i s) i + _ = _
              rw [tt_cg hcx, updN_same, if_pos (by omega)]
            obtain ⟨H', K', mo', kp', y1, y2, y3, y4⟩ := ih (i + 1) (updN c i s) (upd Rm s (oN (cap s - thS w c s i - w i))) (upd H1 i (oN s)) K1 mo1 kp1 (by omega) (fun l hl => by
                by_cases e : l = i
                · subst e; rw [updN_same]; omega
                · rw [updN_ne e]; exact hc l (by omega)) (fun r hr => by
                rw [hst r]
                by_cases e : s = r
                · subst e; rw [if_pos rfl, upd_eq]
                  exact ⟨by omega, congrArg oN (by omega)⟩
                · rw [if_neg e, upd_ne (Ne.symm e), Nat.add_zero]; exact hRm r hr) (fun l hl => by
                by_cases e : l = i
                · subst e; rw [upd_eq, updN_same]; exact (if_pos (by omega)).symm
                · rw [upd_ne e, updN_ne e, hH1 l (by omega)]; exact hH l (by omega)) hS1 hm1
            rw [ht] at y1
            have hm' := wP_mo y4 hb hm1
            have rec2 := ihq (s + 1) H' K' mo' kp' (by omega) (fun l hl => by rw [y2 l (by omega), upd_ne (by omega), hH1 l hl]) y3 hm' (wQ_step (by omega) hQ y4)
            have hback : upd (upd Rm s (oN (cap s - thS w c s i - w i))) s (oN (cap s - thS w c s i - w i + w i)) = Rm := by
              funext z
              by_cases e : z = s
              · subst e; rw [upd_eq, r2]; exact congrArg oN (by omega)
              · rw [upd_ne e, upd_ne e]
            have y1 := kV_of y1
            rw [h_64_40]
            simp (disch := omega) only [↓Bool.cond_eq_ite, ↓reduceIte, Bool.false_eq_true, eq_self, n_lit, n_neg, n_add, n_mul, n_sub, n_subM, n_div, n_mod, n_addM, m_div, m_subn, n_tN, n_inS, n_eq_t, n_eq_f, n_ne_t, n_ne_f, n_lt_t, n_lt_f, n_ge_t, n_ge_f, n_gt_t, n_gt_f, n_le_t, n_le_f, mn_eq, mn_ne, mn_lt, mn_ge, mn_gt, mn_le, nm_eq, nm_ne, nm_lt, nm_ge, nm_gt, nm_le, n_gts_t, c_eq_refl, c_ne_refl, w_fold, wC_fold, lt_M, cond_true, cond_false, Bool.and_true, Bool.true_and, Bool.and_false, Bool.false_and, Bool.not_true, Bool.not_false, isZS_0, isZS_1, wm_P, u4, u6, hR, wm_7, r2, q2, w2, k1, a3, wm_8, wm_f8, wm_w8, wm_f7, wm_w7, k2, y1, upd_eq, hback, Option.bind_some]
            exact rec2
    obtain ⟨H', K', mo', kp', y⟩ := loop R 0 H K mo kp (by omega) (fun _ _ => rfl) hS hmo wQ_0
    refine ⟨H', K', mo', kp', ?_, y.2⟩
    rw [e_64]
    simp (disch := omega) only [↓Bool.cond_eq_ite, ↓reduceIte, Bool.false_eq_true, eq_self, n_lit, n_neg, n_add, n_mul, n_sub, n_subM, n_div, n_mod, n_addM, m_div, m_subn, n_tN, n_inS, n_eq_t, n_eq_f, n_ne_t, n_ne_f, n_lt_t, n_lt_f, n_ge_t, n_ge_f, n_gt_t, n_gt_f, n_le_t, n_le_f, mn_eq, mn_ne, mn_lt, mn_ge, mn_gt, mn_le, nm_eq, nm_ne, nm_lt, nm_ge, nm_gt, nm_le, n_gts_t, c_eq_refl, c_ne_refl, w_fold, wC_fold, lt_M, cond_true, cond_false, Bool.and_true, Bool.true_and, Bool.and_false, Bool.false_and, Bool.not_true, Bool.not_false, isZS_0, isZS_1, wm_P, u0, upd_eq, q3, w3, hgt, ← hrk]
    exact y.1
end Wave4
