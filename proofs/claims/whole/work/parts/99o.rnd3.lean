section Round3
variable {L : Nat} {xs : Nat → Int32} {C C' M M' : mM} {p : List Nat} {h sl sl' : Nat → Nat} {s n k g q : Nat}
def Gd (h : Nat → Nat) (k g : Nat) (e : Nat → Nat) : Prop := ∀ s, s < 6 → mI h e s k ≤ g
def LL (h : Nat → Nat) (k g i top : Nat) (d : Nat → Nat) : Prop :=
  ∀ e, (∀ l, l < i → e l = d l) → (∀ l, i ≤ l → l < k → e l ≤ top) → Gd h k g e → (∀ l, l < k → e l = d l) ∨ ∃ j, j < k ∧ (∀ l, l < j → e l = d l) ∧ d j < e j
def rC (C : mM) (h : Nat → Nat) (k g : Nat) : Prop := k ≤ 5 ∧ g ≤ 2000 ∧ C.1 [8, 0] 0 = oN k ∧ C.1 [8, 0] 1 = oN g ∧ ∀ i, i < k → h i ≤ 1000 ∧ C.1 [2, 8, 0] i = oN (h i)
theorem rk_39 : ∀ i, i < 6 → ∀ t, t < 6 → Nat.blt 25 (rkM 39 [vr 3 [8, 0], vi (oN i), vi (oN t)]) = true ∧ (i < 5 → Nat.blt (rkM 39 [vr 3 [8, 0], vi (oN (i + 1)), vi (oN t)]) (rkM 39 [vr 3 [8, 0], vi (oN i), vi (oN t)]) = true) ∧ Nat.blt (rkM 39 [vr 3 [8, 0], vi (oN 0), vi (oN t)]) 35 = true := by decide +kernel
theorem mI_B (hh : ∀ i, i < n → h i ≤ 1000) (hn : n ≤ 5) : mI h sl s n ≤ 6000 := by
  have b1 := thS_le (sl := sl) (s := s) (h := h) (n := n) (B := 1000) hh
  have b2 := laS_le (sl := sl) (s := s) (h := h) (n := n) (B := 1000) hh
  unfold mI
  split <;> omega
def chR (L : Nat) (xs : Nat → Int32) (C : mM) (h : Nat → Nat) (k g i top : Nat) (sl : Nat → Nat) (H : Nat → Int32) (R : Option (Option mV × mM)) : Prop :=
  ∃ H', (∀ l, l < i → H' l = H l) ∧
    ((∃ d, R = some (some (vi (oN 1)), stA C [3, 8, 0] H') ∧ (∀ l, l < k → H' l = oN (d l) ∧ d l ≤ 5) ∧ (∀ l, l < i → d l = sl l) ∧ (∀ l, i ≤ l → l < k → d l ≤ top) ∧ Gd h k g d ∧ LL h k g i top d) ∨
     (R = some (some (vi (oN 0)), stA C [3, 8, 0] H') ∧ ∀ e, (∀ l, l < i → e l = sl l) → (∀ l, i ≤ l → l < k → e l ≤ top) → ¬ Gd h k g e))
set_option maxRecDepth 8000 in
theorem choose_ok (hC : rC C h k g) : ∀ r i top sl H, i + r = k → top ≤ 5 → (∀ l, l < i → H l = oN (sl l) ∧ sl l ≤ 5) → (∀ s, s < 6 → mI h sl s i ≤ g) → chR L xs C h k g i top sl H (call L xs 39 [vr 3 [8, 0], vi (oN i), vi (oN top)] (stA C [3, 8, 0] H)) := by
  obtain ⟨hk, hg, c0, c1, hh⟩ := hC
  have z0 : ∀ H, (stA C [3, 8, 0] H).1 [8, 0] = C.1 [8, 0] := fun H => stA_ne (by simp)
  have z2 : ∀ H, (stA C [3, 8, 0] H).1 [2, 8, 0] = C.1 [2, 8, 0] := fun H => stA_ne (by simp)
  have z3 : ∀ H, (stA C [3, 8, 0] H).1 [3, 8, 0] = H := fun H => stA_same
  intro r
  induction r with
  | zero =>
    intro i top sl H hi ht hH hp
    have : i = k := by omega
    subst this
    refine ⟨H, fun _ _ => rfl, .inl ⟨sl, ?_, hH, fun _ _ => rfl, fun l h1 h2 => by omega, hp, fun e h1 _ _ => .inl h1⟩⟩
    rw [e_39]
    simp (disch := omega) only [↓Bool.cond_eq_ite, ↓reduceIte, Bool.false_eq_true, eq_self, n_lit, n_neg, n_add, n_mul, n_sub, n_subM, n_div, n_mod, n_addM, m_div, m_subn, n_tN, n_inS, n_eq_t, n_eq_f, n_ne_t, n_ne_f, n_lt_t, n_lt_f, n_ge_t, n_ge_f, n_gt_t, n_gt_f, n_le_t, n_le_f, mn_eq, mn_ne, mn_lt, mn_ge, mn_gt, mn_le, nm_eq, nm_ne, nm_lt, nm_ge, nm_gt, nm_le, n_gts_t, c_eq_refl, c_ne_refl, w_fold, w_2, wC_fold, lt_M, cond_true, cond_false, Bool.and_true, Bool.true_and, Bool.and_false, Bool.false_and, Bool.not_true, Bool.not_false, isZS_0, isZS_1, z0, c0]
  | succ r ih =>
    intro i top sl H hi ht hH hp
    obtain ⟨k1, k2, k3⟩ := rk_39 i (by omega) top (by omega)
    have k2 := k2 (by omega)
    have loop : ∀ q s H, s + q = top + 1 → (∀ l, l < i → H l = oN (sl l)) → (∀ s', s' < s → ∀ e, (∀ l, l < i → e l = sl l) → e i = s' → (∀ l, i ≤ l → l < k → e l ≤ top) → ¬ Gd h k g e) →
        chR L xs C h k g i top sl H (run L xs 39 (rkM 39 [vr 3 [8, 0], vi (oN i), vi (oN top)]) (12, [some (vr 3 [8, 0]), some (vi (oN i)), some (vi (oN top)), some (vi (oN s)), none], [], stA C [3, 8, 0] H)) := by
      intro q
      induction q with
      | zero =>
        intro s H hs hH' hno
        refine ⟨H, fun _ _ => rfl, .inr ⟨?_, fun e h1 h2 h3 => hno (e i) (by have := h2 i (Nat.le_refl _) (by omega); omega) e h1 rfl h2 h3⟩⟩
        rw [h_39_12]
        simp (disch := omega) only [↓Bool.cond_eq_ite, ↓reduceIte, Bool.false_eq_true, eq_self, n_lit, n_neg, n_add, n_mul, n_sub, n_subM, n_div, n_mod, n_addM, m_div, m_subn, n_tN, n_inS, n_eq_t, n_eq_f, n_ne_t, n_ne_f, n_lt_t, n_lt_f, n_ge_t, n_ge_f, n_gt_t, n_gt_f, n_le_t, n_le_f, mn_eq, mn_ne, mn_lt, mn_ge, mn_gt, mn_le, nm_eq, nm_ne, nm_lt, nm_ge, nm_gt, nm_le, n_gts_t, c_eq_refl, c_ne_refl, w_fold, w_2, wC_fold, lt_M, cond_true, cond_false, Bool.and_true, Bool.true_and, Bool.and_false, Bool.false_and, Bool.not_true, Bool.not_false, isZS_0, isZS_1]
      | succ q ihq =>
        intro s H hs hH' hno
        have hH1 : ∀ l, l < i + 1 → (upd H i (oN s)) l = oN (updN sl i s l) ∧ updN sl i s l ≤ 5 := fun l hl => by
          by_cases e : l = i
          · subst e; rw [upd_eq, updN_same]; exact ⟨rfl, by omega⟩
          · rw [upd_ne e, updN_ne e]; exact ⟨hH' l (by omega), (hH l (by omega)).2⟩
        have a41 : ∀ s', s' ≤ 6 → kI L xs 41 [vr 3 [8, 0], vi (oN s'), vi (oN (i + 1))] (stA C [3, 8, 0] (upd H i (oN s))) = some (oN (mI h (updN sl i s) s' (i + 1)), stA C [3, 8, 0] (upd H i (oN s))) := fun s' hs' => by
          refine s_41 (p := [8, 0]) hs' (by omega) (fun l hl => ⟨(hh l (by omega)).1, (hH1 l hl).2, ?_, ?_⟩)
          · rw [z2]; exact (hh l (by omega)).2
          · rw [z3]; exact (hH1 l hl).1
        have bnd : ∀ s', mI h (updN sl i s) s' (i + 1) ≤ 6000 := fun s' => mI_B (fun l hl => (hh l (by omega)).1) (by omega)
        have bad : ∀ s', s' < 6 → g < mI h (updN sl i s) s' (i + 1) → ∀ e, (∀ l, l < i → e l = sl l) → e i = s → ¬ Gd h k g e := fun s' hs' hgt e h1 h2 h3 => by
          have e1 : mI h e s' (i + 1) = mI h (updN sl i s) s' (i + 1) := mI_cg (fun l hl => by
            by_cases q : l = i
            · subst q; rw [updN_same, h2]
            · rw [updN_ne q]; exact h1 l (by omega))
          have e2 := mI_mono (h := h) (sl := e) (s := s') (show i + 1 ≤ k by omega)
          have := h3 s' hs'
          omega
        have next : ∀ H2, (∀ l, l < i → H2 l = H l) → (∀ e, (∀ l, l < i → e l = sl l) → e i = s → (∀ l, i ≤ l → l < k → e l ≤ top) → ¬ Gd h k g e) →
            chR L xs C h k g i top sl H (run L xs 39 (rkM 39 [vr 3 [8, 0], vi (oN i), vi (oN top)]) (12, [some (vr 3 [8, 0]), some (vi (oN i)), some (vi (oN top)), some (vi (oN (s + 1))), none], [], stA C [3, 8, 0] H2)) := fun H2 hH2 hs2 => by
          obtain ⟨H', y1, y2⟩ := ihq (s + 1) H2 (by omega) (fun l hl => by rw [hH2 l hl]; exact hH' l hl) (fun s' hs' e h1 h2 h3 => by
            by_cases q : s' = s
            · subst q; exact hs2 e h1 h2 h3
            · exact hno s' (by omega) e h1 h2 h3)
          exact ⟨H', fun l hl => by rw [y1 l hl, hH2 l hl], y2⟩
        have hup : ∀ l, l < i → (upd H i (oN s)) l = H l := fun l hl => upd_ne (by omega)
        by_cases g1 : g < mI h (updN sl i s) s (i + 1)
        · have := next (upd H i (oN s)) hup (fun e h1 h2 _ => bad s (by omega) g1 e h1 h2)
          have b := bnd s
          rw [h_39_12]
          simp (disch := omega) only [↓lt_stA, ↓Bool.cond_eq_ite, ↓reduceIte, Bool.false_eq_true, eq_self, n_lit, n_neg, n_add, n_mul, n_sub, n_subM, n_div, n_mod, n_addM, m_div, m_subn, n_tN, n_inS, n_eq_t, n_eq_f, n_ne_t, n_ne_f, n_lt_t, n_lt_f, n_ge_t, n_ge_f, n_gt_t, n_gt_f, n_le_t, n_le_f, mn_eq, mn_ne, mn_lt, mn_ge, mn_gt, mn_le, nm_eq, nm_ne, nm_lt, nm_ge, nm_gt, nm_le, n_gts_t, c_eq_refl, c_ne_refl, w_fold, w_2, wC_fold, lt_M, cond_true, cond_false, Bool.and_true, Bool.true_and, Bool.and_false, Bool.false_and, Bool.not_true, Bool.not_false, isZS_0, isZS_1, z3, stA_w, stA_u, z0, c1, k1, a41, Option.bind_some]
          exact this
        · by_cases g2 : g < mI h (updN sl i s) (s + 1) (i + 1)
          · have h6 : s + 1 < 6 := by
              by_cases q : s + 1 < 6
              · exact q
              · unfold mI at g2
                rw [if_pos (by omega)] at g2
                omega
            have := next (upd H i (oN s)) hup (fun e h1 h2 _ => bad (s + 1) h6 g2 e h1 h2)
            have b := bnd s
            have b' := bnd (s + 1)
            rw [h_39_12]
            simp (disch := omega) only [↓lt_stA, ↓Bool.cond_eq_ite, ↓reduceIte, Bool.false_eq_true, eq_self, n_lit, n_neg, n_add, n_mul, n_sub, n_subM, n_div, n_mod, n_addM, m_div, m_subn, n_tN, n_inS, n_eq_t, n_eq_f, n_ne_t, n_ne_f, n_lt_t, n_lt_f, n_ge_t, n_ge_f, n_gt_t, n_gt_f, n_le_t, n_le_f, mn_eq, mn_ne, mn_lt, mn_ge, mn_gt, mn_le, nm_eq, nm_ne, nm_lt, nm_ge, nm_gt, nm_le, n_gts_t, c_eq_refl, c_ne_refl, w_fold, w_2, wC_fold, lt_M, cond_true, cond_false, Bool.and_true, Bool.true_and, Bool.and_false, Bool.false_and, Bool.not_true, Bool.not_false, isZS_0, isZS_1, z3, stA_w, stA_u, z0, c1, k1, a41, Option.bind_some]
            exact this
          · have b := bnd s
            have b' := bnd (s + 1)
            have rcs := ih (i + 1) top (updN sl i s) (upd H i (oN s)) (by omega) ht hH1 (fun s' hs' => by
              by_cases e1 : s' = s
              · subst e1; omega
              · by_cases e2 : s' = s + 1
                · subst e2; omega
                · rw [mI_st (by rw [updN_same]; omega) (by rw [updN_same]; omega), mI_cg (sl := sl) (fun l hl => updN_ne (by omega))]
                  exact hp s' hs')
            obtain ⟨H2, y1, ⟨d, y2, y3, y4, y5, y6, y7⟩ | ⟨y2, y3⟩⟩ := rcs
            · have k39 := kI_of y2
              refine ⟨H2, fun l hl => by rw [y1 l (by omega), hup l hl], .inl ⟨d, ?_, y3, fun l hl => by rw [y4 l (by omega), updN_ne (by omega)], fun l h1 h2 => ?_, y6, fun e h1 h2 h3 => ?_⟩⟩
              · rw [h_39_12]
                simp (disch := omega) only [↓lt_stA, ↓Bool.cond_eq_ite, ↓reduceIte, Bool.false_eq_true, eq_self, n_lit, n_neg, n_add, n_mul, n_sub, n_subM, n_div, n_mod, n_addM, m_div, m_subn, n_tN, n_inS, n_eq_t, n_eq_f, n_ne_t, n_ne_f, n_lt_t, n_lt_f, n_ge_t, n_ge_f, n_gt_t, n_gt_f, n_le_t, n_le_f, mn_eq, mn_ne, mn_lt, mn_ge, mn_gt, mn_le, nm_eq, nm_ne, nm_lt, nm_ge, nm_gt, nm_le, n_gts_t, c_eq_refl, c_ne_refl, w_fold, w_2, wC_fold, lt_M, cond_true, cond_false, Bool.and_true, Bool.true_and, Bool.and_false, Bool.false_and, Bool.not_true, Bool.not_false, isZS_0, isZS_1, z3, stA_w, stA_u, z0, c1, k1, k2, a41, k39, Option.bind_some]
              · by_cases q : l = i
                · subst q; rw [y4 l (by omega), updN_same]; omega
                · exact y5 l (by omega) h2
              · have di : d i = s := by rw [y4 i (by omega), updN_same]
                have hd : ∀ l, l < i → e l = sl l := fun l hl => by rw [h1 l hl, y4 l (by omega), updN_ne (by omega)]
                by_cases q1 : e i < s
                · exact absurd h3 (hno (e i) q1 e hd rfl h2)
                · by_cases q2 : e i = s
                  · refine y7 e (fun l hl => ?_) (fun l a b => h2 l (by omega) b) h3
                    by_cases q : l = i
                    · subst q; rw [q2, di]
                    · exact h1 l (by omega)
                  · exact .inr ⟨i, by omega, h1, by rw [di]; omega⟩
            · have k39 := kI_of y2
              have := next H2 (fun l hl => by rw [y1 l (by omega), hup l hl]) (fun e h1 h2 h3 => y3 e (fun l hl => by
                by_cases q : l = i
                · subst q; rw [updN_same, h2]
                · rw [updN_ne q]; exact h1 l (by omega)) (fun l a b => h3 l (by omega) b))
              rw [h_39_12]
              simp (disch := omega) only [↓lt_stA, ↓Bool.cond_eq_ite, ↓reduceIte, Bool.false_eq_true, eq_self, n_lit, n_neg, n_add, n_mul, n_sub, n_subM, n_div, n_mod, n_addM, m_div, m_subn, n_tN, n_inS, n_eq_t, n_eq_f, n_ne_t, n_ne_f, n_lt_t, n_lt_f, n_ge_t, n_ge_f, n_gt_t, n_gt_f, n_le_t, n_le_f, mn_eq, mn_ne, mn_lt, mn_ge, mn_gt, mn_le, nm_eq, nm_ne, nm_lt, nm_ge, nm_gt, nm_le, n_gts_t, c_eq_refl, c_ne_refl, w_fold, w_2, wC_fold, lt_M, cond_true, cond_false, Bool.and_true, Bool.true_and, Bool.and_false, Bool.false_and, Bool.not_true, Bool.not_false, isZS_0, isZS_1, z3, stA_w, stA_u, z0, c1, k1, k2, a41, k39, Option.bind_some]
              exact this
    have := loop (top + 1) 0 H (by omega) (fun l hl => (hH l hl).1) (fun s' hs' => by omega)
    rw [e_39]
    simp (disch := omega) only [↓Bool.cond_eq_ite, ↓reduceIte, Bool.false_eq_true, eq_self, n_lit, n_neg, n_add, n_mul, n_sub, n_subM, n_div, n_mod, n_addM, m_div, m_subn, n_tN, n_inS, n_eq_t, n_eq_f, n_ne_t, n_ne_f, n_lt_t, n_lt_f, n_ge_t, n_ge_f, n_gt_t, n_gt_f, n_le_t, n_le_f, mn_eq, mn_ne, mn_lt, mn_ge, mn_gt, mn_le, nm_eq, nm_ne, nm_lt, nm_ge, nm_gt, nm_le, n_gts_t, c_eq_refl, c_ne_refl, w_fold, w_2, wC_fold, lt_M, cond_true, cond_false, Bool.and_true, Bool.true_and, Bool.and_false, Bool.false_and, Bool.not_true, Bool.not_false, isZS_0, isZS_1, z0, c0]
    exact this
theorem solve_ok (hC : rC C h k g) : ∃ H', (∃ t d, t ≤ 5 ∧ kI L xs 42 [vr 3 [8, 0]] C = some (oN t, stA C [3, 8, 0] H') ∧ (∀ l, l < k → H' l = oN (d l) ∧ d l ≤ t) ∧ Gd h k g d ∧ LL h k g 0 t d ∧ ∀ t', t' < t → ∀ e, (∀ l, l < k → e l ≤ t') → ¬ Gd h k g e) ∨
    (kI L xs 42 [vr 3 [8, 0]] C = some (oM 4, stA C [3, 8, 0] H') ∧ ∀ e, (∀ l, l < k → e l ≤ 5) → ¬ Gd h k g e) := by
  have key : ∀ r t H, t + r = 6 → (∀ t', t' < t → ∀ e, (∀ l, l < k → e l ≤ t') → ¬ Gd h k g e) → ∃ H', (∃ t d, t ≤ 5 ∧ run L xs 42 35 (2, [some (vr 3 [8, 0]), some (vi (oN (6 - r)))], [], stA C [3, 8, 0] H) = some (some (vi (oN t)), stA C [3, 8, 0] H') ∧ (∀ l, l < k → H' l = oN (d l) ∧ d l ≤ t) ∧ Gd h k g d ∧ LL h k g 0 t d ∧ ∀ t', t' < t → ∀ e, (∀ l, l < k → e l ≤ t') → ¬ Gd h k g e) ∨
      (run L xs 42 35 (2, [some (vr 3 [8, 0]), some (vi (oN (6 - r)))], [], stA C [3, 8, 0] H) = some (some (vi (oM 4)), stA C [3, 8, 0] H') ∧ ∀ e, (∀ l, l < k → e l ≤ 5) → ¬ Gd h k g e) := by
    intro r
    induction r with
    | zero =>
      intro t H ht hno
      refine ⟨H, .inr ⟨?_, fun e he => hno 5 (by omega) e he⟩⟩
      rw [h_42_2]
      simp (disch := omega) only [↓Bool.cond_eq_ite, ↓reduceIte, Bool.false_eq_true, eq_self, n_lit, n_neg, n_add, n_mul, n_sub, n_subM, n_div, n_mod, n_addM, m_div, m_subn, n_tN, n_inS, n_eq_t, n_eq_f, n_ne_t, n_ne_f, n_lt_t, n_lt_f, n_ge_t, n_ge_f, n_gt_t, n_gt_f, n_le_t, n_le_f, mn_eq, mn_ne, mn_lt, mn_ge, mn_gt, mn_le, nm_eq, nm_ne, nm_lt, nm_ge, nm_gt, nm_le, n_gts_t, c_eq_refl, c_ne_refl, w_fold, w_2, wC_fold, lt_M, cond_true, cond_false, Bool.and_true, Bool.true_and, Bool.and_false, Bool.false_and, Bool.not_true, Bool.not_false, isZS_0, isZS_1]
    | succ r ih =>
      intro t H ht hno
      have et : 6 - (r + 1) = t := by omega
      rw [et]
      obtain ⟨k1, k2, k3⟩ := rk_39 0 (by omega) t (by omega)
      have hc := choose_ok (L := L) (xs := xs) hC k 0 t (fun _ => 0) H (by omega) (by omega) (fun l hl => by omega) (fun s hs => by
        unfold mI
        split
        · exact Nat.zero_le _
        · exact Nat.zero_le _)
      obtain ⟨H2, -, ⟨d, y2, y3, y4, y5, y6, y7⟩ | ⟨y2, y3⟩⟩ := hc
      · have k39 := kI_of y2
        refine ⟨H2, .inl ⟨t, d, by omega, ?_, fun l hl => ⟨(y3 l hl).1, y5 l (Nat.zero_le _) hl⟩, y6, y7, hno⟩⟩
        rw [h_42_2]
        simp (disch := omega) only [↓Bool.cond_eq_ite, ↓reduceIte, Bool.false_eq_true, eq_self, n_lit, n_neg, n_add, n_mul, n_sub, n_subM, n_div, n_mod, n_addM, m_div, m_subn, n_tN, n_inS, n_eq_t, n_eq_f, n_ne_t, n_ne_f, n_lt_t, n_lt_f, n_ge_t, n_ge_f, n_gt_t, n_gt_f, n_le_t, n_le_f, mn_eq, mn_ne, mn_lt, mn_ge, mn_gt, mn_le, nm_eq, nm_ne, nm_lt, nm_ge, nm_gt, nm_le, n_gts_t, c_eq_refl, c_ne_refl, w_fold, w_2, wC_fold, lt_M, cond_true, cond_false, Bool.and_true, Bool.true_and, Bool.and_false, Bool.false_and, Bool.not_true, Bool.not_false, isZS_0, isZS_1, k3, k39, Option.bind_some]
      · have k39 := kI_of y2
        obtain ⟨H', y⟩ := ih (t + 1) H2 (by omega) (fun t' ht' e he => by
          by_cases q : t' = t
          · subst q; exact y3 e (fun l hl => by omega) (fun l _ hl => he l hl)
          · exact hno t' (by omega) e he)
        refine ⟨H', ?_⟩
        rw [show 6 - r = t + 1 by omega] at y
        have st : run L xs 42 35 (2, [some (vr 3 [8, 0]), some (vi (oN t))], [], stA C [3, 8, 0] H) = run L xs 42 35 (2, [some (vr 3 [8, 0]), some (vi (oN (t + 1)))], [], stA C [3, 8, 0] H2) := by
          rw [h_42_2]
          simp (disch := omega) only [↓Bool.cond_eq_ite, ↓reduceIte, Bool.false_eq_true, eq_self, n_lit, n_neg, n_add, n_mul, n_sub, n_subM, n_div, n_mod, n_addM, m_div, m_subn, n_tN, n_inS, n_eq_t, n_eq_f, n_ne_t, n_ne_f, n_lt_t, n_lt_f, n_ge_t, n_ge_f, n_gt_t, n_gt_f, n_le_t, n_le_f, mn_eq, mn_ne, mn_lt, mn_ge, mn_gt, mn_le, nm_eq, nm_ne, nm_lt, nm_ge, nm_gt, nm_le, n_gts_t, c_eq_refl, c_ne_refl, w_fold, w_2, wC_fold, lt_M, cond_true, cond_false, Bool.and_true, Bool.true_and, Bool.and_false, Bool.false_and, Bool.not_true, Bool.not_false, isZS_0, isZS_1, k3, k39, Option.bind_some]
        rw [st]
        exact y
  have := key 6 0 (C.1 [3, 8, 0]) (by omega) (fun t' ht' => by omega)
  rw [stA_id] at this
  obtain ⟨H', y⟩ := this
  refine ⟨H', ?_⟩
  rcases y with ⟨t, d, y1, y2, y3⟩ | ⟨y1, y2⟩
  · exact .inl ⟨t, d, y1, kI_of (by rw [e_42]; exact y2), y3⟩
  · exact .inr ⟨kI_of (by rw [e_42]; exact y1), y2⟩
end Round3
