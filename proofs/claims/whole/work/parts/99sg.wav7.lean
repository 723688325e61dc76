section Wave8
variable {L : Nat} {xs : Nat → Int32} {M : mM} {w cap gb vb kd : Nat → Nat} {R G n v e : Nat}
def rM7 (M : mM) (w cap gb vb kd : Nat → Nat) (G v e R : Nat) : Prop := G ≤ 6 ∧ v ≤ 3 ∧ 1 ≤ e ∧ e ≤ 2 ∧ v * e = R ∧ M.1 [1] 44 = oN G ∧ M.1 [1] 45 = oN v ∧
  (∀ i, i < G → gb i < 40 ∧ w i ≤ 1000 ∧ M.1 [42, 1] i = oN (gb i) ∧ M.1 [1, 1] (200 + 16 * gb i + 3) = oN (w i)) ∧
  (∀ l, l < v → vb l < 40 ∧ (kd (vb l) = 2 ∨ kd (vb l) = 3) ∧ M.1 [43, 1] l = oN (vb l) ∧ M.1 [11, 1] (vb l) = oN (kd (vb l))) ∧ ∀ r, r < R → cap r = sea (kd (vb (r / e)))
def l17d (e R : Nat) (mo : Int32) (tot n left : Nat) (ok : Bool) (gone : Nat) (i : Int32) : List (Option mV) := [some (vr 10 [1]), none, some (vi (oN e)), some (vi (oN R)), some (vi mo), some (vi (oN tot)), some (vi (oN n)), some (vi (oN left)), some (vi (oN (if ok then 1 else 0))), some (vi (oN gone)), some (vi i), none, none]
set_option maxRecDepth 8000 in
theorem dig_w (hM : rM7 M w cap gb vb kd G v e R) {mo : Int32} {tot n : Nat} {B : Nat → Int32} : ∀ (j left : Nat) (ok : Bool) (gone : Nat) (A D : Nat → Int32) (ld : Nat → Nat), j ≤ G → left < (R + 1) ^ j → left < 1000000 → gone + 1000 * j ≤ 6000 → (∀ r, r < R → D r = oN (ld r) ∧ ld r + 1000 * j ≤ 6000) → (ok = true → ∀ r, r < R → ld r ≤ cap r) →
    ∃ d A' D' ok', (∀ l, l < j → d l ≤ R) ∧ nB (R + 1) d j = left ∧ (∀ l, l < j → A' l = oN (d l)) ∧ (∀ l, j ≤ l → A' l = A l) ∧ (ok' = true ↔ ok = true ∧ ∀ r, r < R → ld r + thS w d r j ≤ cap r) ∧
      run L xs 170 26 (223, l17d e R mo tot n left ok gone (lQ j), [], w4 M A B D) = run L xs 170 26 (223, l17d e R mo tot n 0 ok' (gone + tt w R d j) (lQ 0), [], w4 M A' B D') := by
  obtain ⟨hG, hv, he1, he2, hR, m44, m45, m42, m43, hcap⟩ := hM
  have hR6 : R ≤ 6 := by
    have h1 : v * e ≤ 3 * 2 := Nat.mul_le_mul hv he2
    omega
  intro j
  induction j with
  | zero =>
    intro left ok gone A D ld hj hl hl2 hgo hD hok
    have : left = 0 := by
      have : (R + 1) ^ 0 = 1 := Nat.pow_zero _
      omega
    subst this
    refine ⟨fun _ => 0, A, D, ok, fun l hl => by omega, rfl, fun l hl => by omega, fun _ _ => rfl, ⟨fun h => ⟨h, fun r hr => hok h r hr⟩, fun h => h.1⟩, rfl⟩
  | succ j ih =>
    intro left ok gone A D ld hj hl hl2 hgo hD hok
    obtain ⟨q, hq⟩ : ∃ q, q = left / (R + 1) := ⟨_, rfl⟩
    obtain ⟨m, hm⟩ : ∃ m, m = left % (R + 1) := ⟨_, rfl⟩
    have hdm := Nat.div_add_mod left (R + 1)
    rw [← hq, ← hm, Nat.mul_comm] at hdm
    have hmR : m < R + 1 := by rw [hm]; exact Nat.mod_lt _ (Nat.succ_pos _)
    have hx : left - q * (R + 1) = m := by omega
    have hql : q < (R + 1) ^ j := by
      rw [hq]
      refine Nat.div_lt_of_lt_mul ?_
      rw [Nat.pow_succ, Nat.mul_comm] at hl
      exact hl
    have hql2 : q ≤ left := by rw [hq]; exact Nat.div_le_self _ _
    have hq' := hq.symm
    obtain ⟨g1, g2, g3, g4⟩ := m42 j (by omega)
    have z1 : ∀ A D, (w4 M A B D).1 [1, 1] = M.1 [1, 1] := fun A D => w4_q (by simp) (by simp) (by simp)
    have z42 : ∀ A D, (w4 M A B D).1 [42, 1] = M.1 [42, 1] := fun A D => w4_q (by simp) (by simp) (by simp)
    have z43 : ∀ A D, (w4 M A B D).1 [43, 1] = M.1 [43, 1] := fun A D => w4_q (by simp) (by simp) (by simp)
    have hnv : ∀ d, nB (R + 1) d j = q → nB (R + 1) (updN d j m) (j + 1) = left := fun d hd => by
      show (R + 1) * nB (R + 1) (updN d j m) j + updN d j m j = left
      rw [nB_cg (d := d) (fun l hl => updN_ne (by omega)), hd, updN_same, Nat.mul_comm]
      omega
    have hdd : ∀ d, (∀ l, l < j → d l ≤ R) → ∀ l, l < j + 1 → updN d j m l ≤ R := fun d hd l hl => by
      by_cases x : l = j
      · subst x; rw [updN_same]; omega
      · rw [updN_ne x]; exact hd l (by omega)
    have hAA : ∀ (d : Nat → Nat) (A' : Nat → Int32), (∀ l, l < j → A' l = oN (d l)) → (∀ l, j ≤ l → A' l = upd A j (oN m) l) → (∀ l, l < j + 1 → A' l = oN (updN d j m l)) ∧ ∀ l, j + 1 ≤ l → A' l = A l := fun d A' h1 h2 => ⟨fun l hl => by
        by_cases x : l = j
        · subst x; rw [updN_same, h2 l (Nat.le_refl _), upd_eq]
        · rw [updN_ne x]; exact h1 l (by omega), fun l hl => by rw [h2 l (by omega), upd_ne (by omega)]⟩
    have hth : ∀ d r, thS w (updN d j m) r (j + 1) = thS w d r j + if m = r then w j else 0 := fun d r => by
      show thS w (updN d j m) r j + _ = _
      rw [thS_cg (sl := d) (fun l hl => updN_ne (by omega)), updN_same]
    have htt : ∀ d, tt w R (updN d j m) (j + 1) = tt w R d j + if m < R then w j else 0 := fun d => by
      show tt w R (updN d j m) j + _ = _
      rw [tt_cg (d := d) (fun l hl => updN_ne (by omega)), updN_same]
    have h327 : ∀ ok' g' A D, run L xs 170 26 (327, l17d e R mo tot n q ok' g' (lQ (j + 1)), [], w4 M A B D) = run L xs 170 26 (223, l17d e R mo tot n q ok' g' (lQ j), [], w4 M A B D) := fun ok' g' A D => by
      unfold l17d
      rw [h_170_327, lQ_p]
      simp (disch := omega) only [↓Bool.cond_eq_ite, ↓reduceIte, Bool.false_eq_true, eq_self, n_lit, n_neg, n_add, n_mul, n_sub, n_subM, n_div, n_mod, n_addM, m_div, m_subn, n_tN, n_inS, n_eq_t, n_eq_f, n_ne_t, n_ne_f, n_lt_t, n_lt_f, n_ge_t, n_ge_f, n_gt_t, n_gt_f, n_le_t, n_le_f, mn_eq, mn_ne, mn_lt, mn_ge, mn_gt, mn_le, nm_eq, nm_ne, nm_lt, nm_ge, nm_gt, nm_le, n_gts_t, c_eq_refl, c_ne_refl, w_fold, w_2, wC_fold, lt_M, cond_true, cond_false, Bool.and_true, Bool.true_and, Bool.and_false, Bool.false_and, Bool.not_true, Bool.not_false, isZS_0, isZS_1, lQ_d]
    by_cases hmr : m = R
    · obtain ⟨d, A', D', ok', d1, d2, d3, d4, d5, d6⟩ := ih q ok gone (upd A j (oN m)) D ld (by omega) hql (by omega) (by omega) (fun r hr => ⟨(hD r hr).1, by have := (hD r hr).2; omega⟩) hok
      refine ⟨updN d j m, A', D', ok', hdd d d1, hnv d d2, (hAA d A' d3 d4).1, (hAA d A' d3 d4).2, ?_, ?_⟩
      · rw [d5]
        refine and_congr_right fun _ => forall_congr' fun r => forall_congr' fun hr => ?_
        rw [hth, if_neg (by omega), Nat.add_zero]
      · rw [htt, if_neg (by omega), Nat.add_zero (tt w R d j), ← d6, ← h327]
        unfold l17d
        rw [h_170_223, lQ_p]
        simp (disch := omega) only [↓Bool.cond_eq_ite, ↓reduceIte, Bool.false_eq_true, eq_self, n_lit, n_neg, n_add, n_mul, n_sub, n_subM, n_div, n_mod, n_addM, m_div, m_subn, n_tN, n_inS, n_eq_t, n_eq_f, n_ne_t, n_ne_f, n_lt_t, n_lt_f, n_ge_t, n_ge_f, n_gt_t, n_gt_f, n_le_t, n_le_f, mn_eq, mn_ne, mn_lt, mn_ge, mn_gt, mn_le, nm_eq, nm_ne, nm_lt, nm_ge, nm_gt, nm_le, n_gts_t, c_eq_refl, c_ne_refl, w_fold, wC_fold, lt_M, cond_true, cond_false, Bool.and_true, Bool.true_and, Bool.and_false, Bool.false_and, Bool.not_true, Bool.not_false, isZS_0, isZS_1, hq', hx, w4_6, w4_f6, w4_w6]
    · have hmR' : m < R := by omega
      obtain ⟨a1, a2⟩ := hD m hmR'
      have hme : m / e < v := Nat.div_lt_of_lt_mul (by rw [Nat.mul_comm, hR]; exact hmR')
      obtain ⟨b1, b2, b3, b4⟩ := m43 (m / e) hme
      have hcm := hcap m hmR'
      have cb : cap m ≤ 300 := by rw [hcm]; unfold sea; split <;> omega
      have hsea : oN (if kd (vb (m / e)) = 2 then 50 else if kd (vb (m / e)) = 3 then 300 else if kd (vb (m / e)) = 5 then 1 else 0) = oN (cap m) := by
        rw [hcm]
        unfold sea
        rcases b2 with h | h <;> rw [h] <;> rfl
      have k222 : ∀ A D, kI L xs 222 [vr 10 [1], vi (oN (vb (m / e)))] (w4 M A B D) = some (oN (cap m), w4 M A B D) := fun A D => by
        rw [s_222 b1 (k := kd (vb (m / e))) (by omega) (by rw [w4_q (by simp) (by simp) (by simp)]; exact b4), hsea]
      obtain ⟨ok1, hok1⟩ : ∃ ok1 : Bool, ok1 = (ok && decide (ld m + w j ≤ cap m)) := ⟨_, rfl⟩
      have hok1' : ok1 = true ↔ ok = true ∧ ld m + w j ≤ cap m := by rw [hok1]; simp
      obtain ⟨d, A', D', ok', d1, d2, d3, d4, d5, d6⟩ := ih q ok1 (gone + w j) (upd A j (oN m)) (upd D m (oN (ld m + w j))) (updN ld m (ld m + w j)) (by omega) hql (by omega) (by omega) (fun r hr => by
        by_cases x : r = m
        · subst x; rw [upd_eq, updN_same]; exact ⟨rfl, by omega⟩
        · rw [upd_ne x, updN_ne x]; exact ⟨(hD r hr).1, by have := (hD r hr).2; omega⟩) (fun h r hr => by
        have h := hok1'.mp h
        by_cases x : r = m
        · subst x; rw [updN_same]; exact h.2
        · rw [updN_ne x]; exact hok h.1 r hr)
      refine ⟨updN d j m, A', D', ok', hdd d d1, hnv d d2, (hAA d A' d3 d4).1, (hAA d A' d3 d4).2, ?_, ?_⟩
      · have hld : ∀ r, updN ld m (ld m + w j) r + thS w d r j = ld r + thS w (updN d j m) r (j + 1) := fun r => by
          rw [hth]
          by_cases x : m = r
          · subst x; rw [updN_same, if_pos rfl]; omega
          · rw [updN_ne (Ne.symm x), if_neg x]; omega
        rw [d5, hok1']
        constructor
        · intro h
          exact ⟨h.1.1, fun r hr => by rw [← hld]; exact h.2 r hr⟩
        · intro h
          refine ⟨⟨h.1, ?_⟩, fun r hr => by rw [hld]; exact h.2 r hr⟩
          have := h.2 m hmR'
          rw [hth, if_pos rfl] at this
          omega
      · rw [htt, if_pos hmR', show gone + (tt w R d j + w j) = gone + w j + tt w R d j by omega, ← d6, ← h327]
        have h317 : ∀ A D, run L xs 170 26 (317, [some (vr 10 [1]), none, some (vi (oN e)), some (vi (oN R)), some (vi mo), some (vi (oN tot)), some (vi (oN n)), some (vi (oN q)), none, some (vi (oN gone)), some (vi (oN j)), none, some (vi (oN (w j)))], [], w4 M A B D) = run L xs 170 26 (327, l17d e R mo tot n q false (gone + w j) (oN j), [], w4 M A B D) := fun A D => by
          unfold l17d
          rw [h_170_317]
          simp (disch := omega) only [↓Bool.cond_eq_ite, ↓reduceIte, Bool.false_eq_true, eq_self, n_lit, n_neg, n_add, n_mul, n_sub, n_subM, n_div, n_mod, n_addM, m_div, m_subn, n_tN, n_inS, n_eq_t, n_eq_f, n_ne_t, n_ne_f, n_lt_t, n_lt_f, n_ge_t, n_ge_f, n_gt_t, n_gt_f, n_le_t, n_le_f, mn_eq, mn_ne, mn_lt, mn_ge, mn_gt, mn_le, nm_eq, nm_ne, nm_lt, nm_ge, nm_gt, nm_le, n_gts_t, c_eq_refl, c_ne_refl, w_fold, w_2, wC_fold, lt_M, cond_true, cond_false, Bool.and_true, Bool.true_and, Bool.and_false, Bool.false_and, Bool.not_true, Bool.not_false, isZS_0, isZS_1]
        unfold l17d at h317
        cases ok with
        | false =>
          have e1 : ok1 = false := by rw [hok1]; rfl
          rw [e1]
          unfold l17d
          rw [h_170_223, lQ_p]
          simp (disch := omega) only [↓Bool.cond_eq_ite, ↓reduceIte, Bool.false_eq_true, eq_self, n_lit, n_neg, n_add, n_mul, n_sub, n_subM, n_div, n_mod, n_addM, m_div, m_subn, n_tN, n_inS, n_eq_t, n_eq_f, n_ne_t, n_ne_f, n_lt_t, n_lt_f, n_ge_t, n_ge_f, n_gt_t, n_gt_f, n_le_t, n_le_f, mn_eq, mn_ne, mn_lt, mn_ge, mn_gt, mn_le, nm_eq, nm_ne, nm_lt, nm_ge, nm_gt, nm_le, n_gts_t, c_eq_refl, c_ne_refl, w_fold, wC_fold, lt_M, cond_true, cond_false, Bool.and_true, Bool.true_and, Bool.and_false, Bool.false_and, Bool.not_true, Bool.not_false, isZS_0, isZS_1, hq', hx, w4_6, w4_f6, w4_w6, z42, g3, z1, g4, w4_8, a1, w4_f8, w4_w8, h317]
        | true =>
          by_cases hfit : ld m + w j ≤ cap m
          · have e1 : ok1 = true := by rw [hok1]; simp [hfit]
            rw [e1]
            unfold l17d
            rw [h_170_223, lQ_p]
            simp (disch := omega) only [↓Bool.cond_eq_ite, ↓reduceIte, Bool.false_eq_true, eq_self, n_lit, n_neg, n_add, n_mul, n_sub, n_subM, n_div, n_mod, n_addM, m_div, m_subn, n_tN, n_inS, n_eq_t, n_eq_f, n_ne_t, n_ne_f, n_lt_t, n_lt_f, n_ge_t, n_ge_f, n_gt_t, n_gt_f, n_le_t, n_le_f, mn_eq, mn_ne, mn_lt, mn_ge, mn_gt, mn_le, nm_eq, nm_ne, nm_lt, nm_ge, nm_gt, nm_le, n_gts_t, c_eq_refl, c_ne_refl, w_fold, wC_fold, lt_M, cond_true, cond_false, Bool.and_true, Bool.true_and, Bool.and_false, Bool.false_and, Bool.not_true, Bool.not_false, isZS_0, isZS_1, hq', hx, w4_6, w4_f6, w4_w6, z42, g3, z1, g4, w4_8, a1, w4_f8, w4_w8, h317, z43, b3, k222, upd_eq, Option.bind_some]
          · have e1 : ok1 = false := by rw [hok1]; simp [hfit]
            rw [e1]
            unfold l17d
            rw [h_170_223, lQ_p]
            simp (disch := omega) only [↓Bool.cond_eq_ite, ↓reduceIte, Bool.false_eq_true, eq_self, n_lit, n_neg, n_add, n_mul, n_sub, n_subM, n_div, n_mod, n_addM, m_div, m_subn, n_tN, n_inS, n_eq_t, n_eq_f, n_ne_t, n_ne_f, n_lt_t, n_lt_f, n_ge_t, n_ge_f, n_gt_t, n_gt_f, n_le_t, n_le_f, mn_eq, mn_ne, mn_lt, mn_ge, mn_gt, mn_le, nm_eq, nm_ne, nm_lt, nm_ge, nm_gt, nm_le, n_gts_t, c_eq_refl, c_ne_refl, w_fold, wC_fold, lt_M, cond_true, cond_false, Bool.and_true, Bool.true_and, Bool.and_false, Bool.false_and, Bool.not_true, Bool.not_false, isZS_0, isZS_1, hq', hx, w4_6, w4_f6, w4_w6, z42, g3, z1, g4, w4_8, a1, w4_f8, w4_w8, h317, z43, b3, k222, upd_eq, Option.bind_some]
end Wave8
