section Wave6
variable {L : Nat} {xs : Nat → Int32} {C C' C0 M M' M0 : mM} {kd : Nat → Nat} {nb g v e b c0 : Nat} {gb w vb : Nat → Nat}
theorem fC_trans {A B D : mM} (h : fC A B) (h' : fC B D) : fC A D := ⟨fun q a1 a2 a3 a4 a5 => by rw [h'.1 q a1 a2 a3 a4 a5, h.1 q a1 a2 a3 a4 a5], h'.2.trans h.2⟩
theorem fM_trans {A B D : mM} (h : fM A B) (h' : fM B D) : fM A D := ⟨fun q a1 a2 a3 => by rw [h'.1 q a1 a2 a3, h.1 q a1 a2 a3], fun k a1 a2 => by rw [h'.2.1 k a1 a2, h.2.1 k a1 a2], h'.2.2.trans h.2.2⟩
theorem fM_refl (A : mM) : fM A A := ⟨fun _ _ _ _ => rfl, fun _ _ _ => rfl, rfl⟩
theorem fC_refl (A : mM) : fC A A := ⟨fun _ _ _ _ _ _ => rfl, rfl⟩
theorem fM_44 {A : mM} {k i : Nat} {v x : Int32} {p : List Nat} (hk : k = 44 ∨ k = 45) (hp : p = [42, 1] ∨ p = [43, 1]) : fM A (wI (wI A p i v) [1] k x) := by
  have hp1 : ([1] : List Nat) ≠ p := by rcases hp with h | h <;> rw [h] <;> simp
  refine ⟨fun q a1 a2 a3 => ?_, fun j b1 b2 => ?_, rfl⟩
  · rw [w_ne a1, w_ne (by rcases hp with h | h <;> rw [h] <;> assumption)]
  · rw [w_ne_k (by omega), w_ne hp1]
set_option maxRecDepth 8000 in
theorem gat_m (hb : b < nb) (h40 : nb ≤ 40) (hn : M.1 [1, 1] 2 = oN nb) (hk : kd b ≤ 5) (h11 : M.1 [11, 1] b = oN (kd b)) {hd : Nat} (hh : hd ≤ 1000) (h3 : M.1 [1, 1] (200 + 16 * b + 3) = oN hd) (hM : gM M g v gb vb) (hg : g ≤ 6) (hv : v ≤ 3) (h2 : M.1 [1, 1] (200 + 16 * b) = oN c0) :
    ∃ M', run L xs 170 26 (12, l170 c0 e b, [], M) = run L xs 170 26 (12, l170 c0 e (b + 1), [], M') ∧ fM M M' ∧
      (kd b = 0 → 0 < hd → g < 6 → gM M' (g + 1) v (updN gb g b) vb) ∧
      ((kd b = 2 ∨ kd b = 3) → v < 3 → gM M' g (v + 1) gb (updN vb v b)) ∧
      (¬ (kd b = 0 ∧ 0 < hd ∧ g < 6) → ¬ ((kd b = 2 ∨ kd b = 3) ∧ v < 3) → M' = M) := by
  have hM0 := hM
  obtain ⟨m1, m2, m3, m4⟩ := hM
  have h27 : ∀ A, run L xs 170 26 (127, l170 c0 e b, [], A) = run L xs 170 26 (12, l170 c0 e (b + 1), [], A) := fun A => by
    unfold l170
    rw [h_170_127]
    simp (disch := omega) only [↓Bool.cond_eq_ite, ↓reduceIte, Bool.false_eq_true, eq_self, n_lit, n_neg, n_add, n_mul, n_sub, n_subM, n_div, n_mod, n_addM, m_div, m_subn, n_tN, n_inS, n_eq_t, n_eq_f, n_ne_t, n_ne_f, n_lt_t, n_lt_f, n_ge_t, n_ge_f, n_gt_t, n_gt_f, n_le_t, n_le_f, mn_eq, mn_ne, mn_lt, mn_ge, mn_gt, mn_le, nm_eq, nm_ne, nm_lt, nm_ge, nm_gt, nm_le, n_gts_t, c_eq_refl, c_ne_refl, w_fold, w_2, wC_fold, lt_M, cond_true, cond_false, Bool.and_true, Bool.true_and, Bool.and_false, Bool.false_and, Bool.not_true, Bool.not_false, isZS_0, isZS_1]
  unfold l170 at h27 ⊢
  by_cases k0 : kd b = 0
  · by_cases ok : 0 < hd ∧ g < 6
    · refine ⟨wI (wI M [42, 1] g (oN b)) [1] 44 (oN (g + 1)), ?_, fM_44 (.inl rfl) (.inl rfl), fun _ _ _ => ⟨?_, ?_, fun l hl => ?_, fun l hl => ?_⟩, fun h => by omega, fun h => absurd ⟨k0, ok⟩ h⟩
      · rw [← h27, h_170_12]
        simp (disch := omega) only [↓Bool.cond_eq_ite, ↓reduceIte, Bool.false_eq_true, eq_self, n_lit, n_neg, n_add, n_mul, n_sub, n_subM, n_div, n_mod, n_addM, m_div, m_subn, n_tN, n_inS, n_eq_t, n_eq_f, n_ne_t, n_ne_f, n_lt_t, n_lt_f, n_ge_t, n_ge_f, n_gt_t, n_gt_f, n_le_t, n_le_f, mn_eq, mn_ne, mn_lt, mn_ge, mn_gt, mn_le, nm_eq, nm_ne, nm_lt, nm_ge, nm_gt, nm_le, n_gts_t, c_eq_refl, c_ne_refl, w_fold, wC_fold, lt_M, cond_true, cond_false, Bool.and_true, Bool.true_and, Bool.and_false, Bool.false_and, Bool.not_true, Bool.not_false, isZS_0, isZS_1, w_at, hn, Nat.add_zero, h2, h11, h3, m1, c_ne_refl, List.cons.injEq, reduceCtorEq, and_false, false_and, and_true, if_false]
        rw [h_170_79]
        have h1142 : ((11 : Nat) = 42) = False := eq_false (by decide)
        simp (disch := omega) only [↓Bool.cond_eq_ite, ↓reduceIte, Bool.false_eq_true, eq_self, n_lit, n_neg, n_add, n_mul, n_sub, n_subM, n_div, n_mod, n_addM, m_div, m_subn, n_tN, n_inS, n_eq_t, n_eq_f, n_ne_t, n_ne_f, n_lt_t, n_lt_f, n_ge_t, n_ge_f, n_gt_t, n_gt_f, n_le_t, n_le_f, mn_eq, mn_ne, mn_lt, mn_ge, mn_gt, mn_le, nm_eq, nm_ne, nm_lt, nm_ge, nm_gt, nm_le, n_gts_t, c_eq_refl, c_ne_refl, w_fold, wC_fold, lt_M, cond_true, cond_false, Bool.and_true, Bool.true_and, Bool.and_false, Bool.false_and, Bool.not_true, Bool.not_false, isZS_0, isZS_1, w_at, h11, h1142, List.cons.injEq, reduceCtorEq, and_false, false_and, and_true, if_false]
      · simp only [↓reduceIte, w_at, w_2, wC_at, wC_2, List.cons.injEq, reduceCtorEq, and_false, false_and, and_true, true_and, if_true, if_false, eq_self, and_self]
      · simp only [↓reduceIte, w_at, w_2, wC_at, wC_2, List.cons.injEq, reduceCtorEq, and_false, false_and, and_true, true_and, if_true, if_false, eq_self, and_self]; simpa using m2
      · by_cases q : l = g
        · subst q; rw [updN_same]; simp [w_at]
        · rw [updN_ne q]; simp only [↓reduceIte, w_at, w_2, wC_at, wC_2, List.cons.injEq, reduceCtorEq, and_false, false_and, and_true, true_and, if_true, if_false, eq_self, and_self, if_neg q]; simpa [q] using m3 l (by omega)
      · simp only [↓reduceIte, w_at, w_2, wC_at, wC_2, List.cons.injEq, reduceCtorEq, and_false, false_and, and_true, true_and, if_true, if_false, eq_self, and_self]; simpa using m4 l hl
    · refine ⟨M, ?_, fM_refl M, fun a b c => absurd ⟨b, c⟩ ok, fun h => by omega, fun _ _ => rfl⟩
      rw [← h27, h_170_12]
      by_cases q : 0 < hd
      · simp (disch := omega) only [↓Bool.cond_eq_ite, ↓reduceIte, Bool.false_eq_true, eq_self, n_lit, n_neg, n_add, n_mul, n_sub, n_subM, n_div, n_mod, n_addM, m_div, m_subn, n_tN, n_inS, n_eq_t, n_eq_f, n_ne_t, n_ne_f, n_lt_t, n_lt_f, n_ge_t, n_ge_f, n_gt_t, n_gt_f, n_le_t, n_le_f, mn_eq, mn_ne, mn_lt, mn_ge, mn_gt, mn_le, nm_eq, nm_ne, nm_lt, nm_ge, nm_gt, nm_le, n_gts_t, c_eq_refl, c_ne_refl, w_fold, wC_fold, lt_M, cond_true, cond_false, Bool.and_true, Bool.true_and, Bool.and_false, Bool.false_and, Bool.not_true, Bool.not_false, isZS_0, isZS_1, hn, Nat.add_zero, h2, h11, h3, m1, c_ne_refl]
        rw [h_170_79]
        simp (disch := omega) only [↓Bool.cond_eq_ite, ↓reduceIte, Bool.false_eq_true, eq_self, n_lit, n_neg, n_add, n_mul, n_sub, n_subM, n_div, n_mod, n_addM, m_div, m_subn, n_tN, n_inS, n_eq_t, n_eq_f, n_ne_t, n_ne_f, n_lt_t, n_lt_f, n_ge_t, n_ge_f, n_gt_t, n_gt_f, n_le_t, n_le_f, mn_eq, mn_ne, mn_lt, mn_ge, mn_gt, mn_le, nm_eq, nm_ne, nm_lt, nm_ge, nm_gt, nm_le, n_gts_t, c_eq_refl, c_ne_refl, w_fold, wC_fold, lt_M, cond_true, cond_false, Bool.and_true, Bool.true_and, Bool.and_false, Bool.false_and, Bool.not_true, Bool.not_false, isZS_0, isZS_1, h11]
      · simp (disch := omega) only [↓Bool.cond_eq_ite, ↓reduceIte, Bool.false_eq_true, eq_self, n_lit, n_neg, n_add, n_mul, n_sub, n_subM, n_div, n_mod, n_addM, m_div, m_subn, n_tN, n_inS, n_eq_t, n_eq_f, n_ne_t, n_ne_f, n_lt_t, n_lt_f, n_ge_t, n_ge_f, n_gt_t, n_gt_f, n_le_t, n_le_f, mn_eq, mn_ne, mn_lt, mn_ge, mn_gt, mn_le, nm_eq, nm_ne, nm_lt, nm_ge, nm_gt, nm_le, n_gts_t, c_eq_refl, c_ne_refl, w_fold, wC_fold, lt_M, cond_true, cond_false, Bool.and_true, Bool.true_and, Bool.and_false, Bool.false_and, Bool.not_true, Bool.not_false, isZS_0, isZS_1, hn, Nat.add_zero, h2, h11, h3, m1, c_ne_refl]
        rw [h_170_79]
        simp (disch := omega) only [↓Bool.cond_eq_ite, ↓reduceIte, Bool.false_eq_true, eq_self, n_lit, n_neg, n_add, n_mul, n_sub, n_subM, n_div, n_mod, n_addM, m_div, m_subn, n_tN, n_inS, n_eq_t, n_eq_f, n_ne_t, n_ne_f, n_lt_t, n_lt_f, n_ge_t, n_ge_f, n_gt_t, n_gt_f, n_le_t, n_le_f, mn_eq, mn_ne, mn_lt, mn_ge, mn_gt, mn_le, nm_eq, nm_ne, nm_lt, nm_ge, nm_gt, nm_le, n_gts_t, c_eq_refl, c_ne_refl, w_fold, wC_fold, lt_M, cond_true, cond_false, Bool.and_true, Bool.true_and, Bool.and_false, Bool.false_and, Bool.not_true, Bool.not_false, isZS_0, isZS_1, h11]
  · have st : ∀ A, A = M → run L xs 170 26 (12, l170 c0 e b, [], A) = run L xs 170 26 (79, l170 c0 e b, [], A) := fun A hA => by
      subst hA
      unfold l170
      rw [h_170_12]
      simp (disch := omega) only [↓Bool.cond_eq_ite, ↓reduceIte, Bool.false_eq_true, eq_self, n_lit, n_neg, n_add, n_mul, n_sub, n_subM, n_div, n_mod, n_addM, m_div, m_subn, n_tN, n_inS, n_eq_t, n_eq_f, n_ne_t, n_ne_f, n_lt_t, n_lt_f, n_ge_t, n_ge_f, n_gt_t, n_gt_f, n_le_t, n_le_f, mn_eq, mn_ne, mn_lt, mn_ge, mn_gt, mn_le, nm_eq, nm_ne, nm_lt, nm_ge, nm_gt, nm_le, n_gts_t, c_eq_refl, c_ne_refl, w_fold, wC_fold, lt_M, cond_true, cond_false, Bool.and_true, Bool.true_and, Bool.and_false, Bool.false_and, Bool.not_true, Bool.not_false, isZS_0, isZS_1, hn, Nat.add_zero, h2, h11, c_ne_refl]
    have st := st M rfl
    unfold l170 at st
    by_cases k2 : kd b = 2 ∨ kd b = 3
    · have st2 : run L xs 170 26 (79, l170 c0 e b, [], M) = run L xs 170 26 (99, l170 c0 e b, [], M) := by
        unfold l170
        rw [h_170_79]
        rcases k2 with k2 | k2 <;> rw [k2] at h11 <;> simp (disch := omega) only [↓Bool.cond_eq_ite, ↓reduceIte, Bool.false_eq_true, eq_self, n_lit, n_neg, n_add, n_mul, n_sub, n_subM, n_div, n_mod, n_addM, m_div, m_subn, n_tN, n_inS, n_eq_t, n_eq_f, n_ne_t, n_ne_f, n_lt_t, n_lt_f, n_ge_t, n_ge_f, n_gt_t, n_gt_f, n_le_t, n_le_f, mn_eq, mn_ne, mn_lt, mn_ge, mn_gt, mn_le, nm_eq, nm_ne, nm_lt, nm_ge, nm_gt, nm_le, n_gts_t, c_eq_refl, c_ne_refl, w_fold, wC_fold, lt_M, cond_true, cond_false, Bool.and_true, Bool.true_and, Bool.and_false, Bool.false_and, Bool.not_true, Bool.not_false, isZS_0, isZS_1, h11]
      unfold l170 at st2
      by_cases v3 : v < 3
      · refine ⟨wI (wI M [43, 1] v (oN b)) [1] 45 (oN (v + 1)), ?_, fM_44 (.inr rfl) (.inr rfl), fun h => absurd h k0, fun _ _ => ⟨?_, ?_, fun l hl => ?_, fun l hl => ?_⟩, fun _ h => absurd ⟨k2, v3⟩ h⟩
        · rw [st, st2, ← h27, h_170_99]
          simp (disch := omega) only [↓Bool.cond_eq_ite, ↓reduceIte, Bool.false_eq_true, eq_self, n_lit, n_neg, n_add, n_mul, n_sub, n_subM, n_div, n_mod, n_addM, m_div, m_subn, n_tN, n_inS, n_eq_t, n_eq_f, n_ne_t, n_ne_f, n_lt_t, n_lt_f, n_ge_t, n_ge_f, n_gt_t, n_gt_f, n_le_t, n_le_f, mn_eq, mn_ne, mn_lt, mn_ge, mn_gt, mn_le, nm_eq, nm_ne, nm_lt, nm_ge, nm_gt, nm_le, n_gts_t, c_eq_refl, c_ne_refl, w_fold, wC_fold, lt_M, cond_true, cond_false, Bool.and_true, Bool.true_and, Bool.and_false, Bool.false_and, Bool.not_true, Bool.not_false, isZS_0, isZS_1, w_at, m2, List.cons.injEq, reduceCtorEq, and_false, false_and, and_true, if_false]
        · simp only [↓reduceIte, w_at, w_2, wC_at, wC_2, List.cons.injEq, reduceCtorEq, and_false, false_and, and_true, true_and, if_true, if_false, eq_self, and_self]; simpa using m1
        · simp only [↓reduceIte, w_at, w_2, wC_at, wC_2, List.cons.injEq, reduceCtorEq, and_false, false_and, and_true, true_and, if_true, if_false, eq_self, and_self]
        · simp only [↓reduceIte, w_at, w_2, wC_at, wC_2, List.cons.injEq, reduceCtorEq, and_false, false_and, and_true, true_and, if_true, if_false, eq_self, and_self]; simpa using m3 l hl
        · by_cases q : l = v
          · subst q; rw [updN_same]; simp [w_at]
          · rw [updN_ne q]; simp only [↓reduceIte, w_at, w_2, wC_at, wC_2, List.cons.injEq, reduceCtorEq, and_false, false_and, and_true, true_and, if_true, if_false, eq_self, and_self, if_neg q]; simpa [q] using m4 l (by omega)
      · refine ⟨M, ?_, fM_refl M, fun h => absurd h k0, fun _ h => absurd h v3, fun _ _ => rfl⟩
        rw [st, st2, ← h27, h_170_99]
        simp (disch := omega) only [↓Bool.cond_eq_ite, ↓reduceIte, Bool.false_eq_true, eq_self, n_lit, n_neg, n_add, n_mul, n_sub, n_subM, n_div, n_mod, n_addM, m_div, m_subn, n_tN, n_inS, n_eq_t, n_eq_f, n_ne_t, n_ne_f, n_lt_t, n_lt_f, n_ge_t, n_ge_f, n_gt_t, n_gt_f, n_le_t, n_le_f, mn_eq, mn_ne, mn_lt, mn_ge, mn_gt, mn_le, nm_eq, nm_ne, nm_lt, nm_ge, nm_gt, nm_le, n_gts_t, c_eq_refl, c_ne_refl, w_fold, wC_fold, lt_M, cond_true, cond_false, Bool.and_true, Bool.true_and, Bool.and_false, Bool.false_and, Bool.not_true, Bool.not_false, isZS_0, isZS_1, m2]
    · refine ⟨M, ?_, fM_refl M, fun h => absurd h k0, fun h => absurd h k2, fun _ _ => rfl⟩
      rw [st, ← h27, h_170_79]
      simp (disch := omega) only [↓Bool.cond_eq_ite, ↓reduceIte, Bool.false_eq_true, eq_self, n_lit, n_neg, n_add, n_mul, n_sub, n_subM, n_div, n_mod, n_addM, m_div, m_subn, n_tN, n_inS, n_eq_t, n_eq_f, n_ne_t, n_ne_f, n_lt_t, n_lt_f, n_ge_t, n_ge_f, n_gt_t, n_gt_f, n_le_t, n_le_f, mn_eq, mn_ne, mn_lt, mn_ge, mn_gt, mn_le, nm_eq, nm_ne, nm_lt, nm_ge, nm_gt, nm_le, n_gts_t, c_eq_refl, c_ne_refl, w_fold, wC_fold, lt_M, cond_true, cond_false, Bool.and_true, Bool.true_and, Bool.and_false, Bool.false_and, Bool.not_true, Bool.not_false, isZS_0, isZS_1, h11]
theorem gF_le {n : Nat} (h : gF M kd g v b gb w vb) (hn : b ≤ n) : gF M kd g v n gb w vb := ⟨h.1, h.2.1, fun l hl => ⟨by have := (h.2.2.1 l hl).1; omega, (h.2.2.1 l hl).2⟩, fun l hl => ⟨by have := (h.2.2.2.1 l hl).1; omega, (h.2.2.2.1 l hl).2⟩, h.2.2.2.2⟩
theorem gat_all (h40 : nb ≤ 40) (hn : M0.1 [1, 1] 2 = oN nb) (h9 : C0.1 [0, 0] 9 = oN nb) (hB : ∀ b, b < nb → bW C0 M0 kd b) (he1 : 1 ≤ e) (he2 : e ≤ 2) (hc : c0 < 16) : ∀ r b C M g v gb w vb, b + r = nb → fC C0 C → fM M0 M → gC C kd g v e gb w vb → gM M g v gb vb → gF M0 kd g v b gb w vb →
    ∃ C' M' g' v' gb' w' vb', run L xs 69 35 (18, [some (vr 7 [7, 0]), some (vr 2 [0, 0]), some (vi (oN c0)), none, some (vi (oN b))], [], C) = run L xs 69 35 (18, [some (vr 7 [7, 0]), some (vr 2 [0, 0]), some (vi (oN c0)), none, some (vi (oN nb))], [], C') ∧
      run L xs 170 26 (12, l170 c0 e b, [], M) = run L xs 170 26 (12, l170 c0 e nb, [], M') ∧ fC C0 C' ∧ fM M0 M' ∧ gC C' kd g' v' e gb' w' vb' ∧ gM M' g' v' gb' vb' ∧ gF M0 kd g' v' nb gb' w' vb' := by
  intro r
  induction r with
  | zero =>
    intro b C M g v gb w vb hb f1 f2 h1 h2 h3
    have : b = nb := by omega
    subst this
    exact ⟨C, M, g, v, gb, w, vb, rfl, rfl, f1, f2, h1, h2, h3⟩
  | succ r ih =>
    intro b C M g v gb w vb hb f1 f2 h1 h2 h3
    obtain ⟨hk, b0, b1, b11, ⟨hd, hh, d1, d2⟩, hcell⟩ := hB b (by omega)
    have x1 : C.1 [b, 10, 0, 0] = C0.1 [b, 10, 0, 0] := f1.1 _ (by simp) (by simp) (by simp) (by simp) (by simp)
    have x9 : C.1 [0, 0] = C0.1 [0, 0] := f1.1 _ (by simp) (by simp) (by simp) (by simp) (by simp)
    have y1 : M.1 [1, 1] = M0.1 [1, 1] := f2.1 _ (by simp) (by simp) (by simp)
    have y11 : M.1 [11, 1] = M0.1 [11, 1] := f2.1 _ (by simp) (by simp) (by simp)
    have hn' : M.1 [1, 1] 2 = oN nb := by rw [y1]; exact hn
    obtain ⟨hg, hv, g1, g2, g3⟩ := h3
    have cst : ∀ C', kV L xs 65 [vr 7 [7, 0], vr 0 [b, 10, 0, 0], vi (oN c0)] C = some C' → run L xs 69 35 (18, [some (vr 7 [7, 0]), some (vr 2 [0, 0]), some (vi (oN c0)), none, some (vi (oN b))], [], C) = run L xs 69 35 (18, [some (vr 7 [7, 0]), some (vr 2 [0, 0]), some (vi (oN c0)), none, some (vi (oN (b + 1)))], [], C') := fun C' h => by
      have n9 : C.1 [0, 0] 9 = oN nb := by rw [x9]; exact h9
      rw [h_69_18]
      simp (disch := omega) only [↓Bool.cond_eq_ite, ↓reduceIte, Bool.false_eq_true, eq_self, n_lit, n_neg, n_add, n_mul, n_sub, n_subM, n_div, n_mod, n_addM, m_div, m_subn, n_tN, n_inS, n_eq_t, n_eq_f, n_ne_t, n_ne_f, n_lt_t, n_lt_f, n_ge_t, n_ge_f, n_gt_t, n_gt_f, n_le_t, n_le_f, mn_eq, mn_ne, mn_lt, mn_ge, mn_gt, mn_le, nm_eq, nm_ne, nm_lt, nm_ge, nm_gt, nm_le, n_gts_t, c_eq_refl, c_ne_refl, w_fold, w_2, wC_fold, lt_M, cond_true, cond_false, Bool.and_true, Bool.true_and, Bool.and_false, Bool.false_and, Bool.not_true, Bool.not_false, isZS_0, isZS_1, n9, h, Option.bind_some]
    by_cases hat : C0.1 [b, 10, 0, 0] 2 = oN c0
    case neg =>
      have e1 := c_eq_h hat
      have hM2 : ¬ M0.1 [1, 1] (200 + 16 * b) = oN c0 := by
        rcases hcell with ⟨a1, a2⟩ | ⟨x, xl, a1, a2⟩
        · rw [a2]; exact mn_inj (by omega) (by omega) (by omega)
        · rw [a2, ← a1]; exact hat
      have e2 := c_ne_h hM2
      obtain ⟨C', M', g', v', gb', w', vb', z1, z2, z3⟩ := ih (b + 1) C M g v gb w vb (by omega) f1 f2 h1 h2 (gF_le ⟨hg, hv, g1, g2, g3⟩ (by omega))
      refine ⟨C', M', g', v', gb', w', vb', ?_, ?_, z3⟩
      · rw [cst C (kV_of (by rw [e_65]; simp (disch := omega) only [↓Bool.cond_eq_ite, ↓reduceIte, Bool.false_eq_true, eq_self, n_lit, n_neg, n_add, n_mul, n_sub, n_subM, n_div, n_mod, n_addM, m_div, m_subn, n_tN, n_inS, n_eq_t, n_eq_f, n_ne_t, n_ne_f, n_lt_t, n_lt_f, n_ge_t, n_ge_f, n_gt_t, n_gt_f, n_le_t, n_le_f, mn_eq, mn_ne, mn_lt, mn_ge, mn_gt, mn_le, nm_eq, nm_ne, nm_lt, nm_ge, nm_gt, nm_le, n_gts_t, c_eq_refl, c_ne_refl, w_fold, w_2, wC_fold, lt_M, cond_true, cond_false, Bool.and_true, Bool.true_and, Bool.and_false, Bool.false_and, Bool.not_true, Bool.not_false, isZS_0, isZS_1, x1, e1])), z1]
      · rw [← z2]
        unfold l170
        rw [h_170_12]
        simp (disch := omega) only [↓Bool.cond_eq_ite, ↓reduceIte, Bool.false_eq_true, eq_self, n_lit, n_neg, n_add, n_mul, n_sub, n_subM, n_div, n_mod, n_addM, m_div, m_subn, n_tN, n_inS, n_eq_t, n_eq_f, n_ne_t, n_ne_f, n_lt_t, n_lt_f, n_ge_t, n_ge_f, n_gt_t, n_gt_f, n_le_t, n_le_f, mn_eq, mn_ne, mn_lt, mn_ge, mn_gt, mn_le, nm_eq, nm_ne, nm_lt, nm_ge, nm_gt, nm_le, n_gts_t, c_eq_refl, c_ne_refl, w_fold, wC_fold, lt_M, cond_true, cond_false, Bool.and_true, Bool.true_and, Bool.and_false, Bool.false_and, Bool.not_true, Bool.not_false, isZS_0, isZS_1, hn', Nat.add_zero, y1, e2]
        rw [h_170_127]
        simp (disch := omega) only [↓Bool.cond_eq_ite, ↓reduceIte, Bool.false_eq_true, eq_self, n_lit, n_neg, n_add, n_mul, n_sub, n_subM, n_div, n_mod, n_addM, m_div, m_subn, n_tN, n_inS, n_eq_t, n_eq_f, n_ne_t, n_ne_f, n_lt_t, n_lt_f, n_ge_t, n_ge_f, n_gt_t, n_gt_f, n_le_t, n_le_f, mn_eq, mn_ne, mn_lt, mn_ge, mn_gt, mn_le, nm_eq, nm_ne, nm_lt, nm_ge, nm_gt, nm_le, n_gts_t, c_eq_refl, c_ne_refl, w_fold, wC_fold, lt_M, cond_true, cond_false, Bool.and_true, Bool.true_and, Bool.and_false, Bool.false_and, Bool.not_true, Bool.not_false, isZS_0, isZS_1]
    case pos =>
    have hat2 : M0.1 [1, 1] (200 + 16 * b) = oN c0 := by
      rcases hcell with ⟨a1, a2⟩ | ⟨x, xl, a1, a2⟩
      · rw [a1] at hat
        exact absurd hat (mn_inj (by omega) (by omega) (by omega))
      · rw [a2, ← a1]; exact hat
    obtain ⟨C1, c1, c2, c3⟩ := gat_c (L := L) (xs := xs) (b := b) (C := C) (by omega) hk (by rw [x1]; exact b0) (by rw [x1]; exact b1) hh (by rw [x1]; exact d1) h1 hg hv he1 he2 (by rw [x1]; exact hat)
    obtain ⟨M1, m1, m2, m3, m4, m5⟩ := gat_m (L := L) (xs := xs) (e := e) (b := b) (M := M) (nb := nb) (by omega) h40 hn' hk (by rw [y11]; exact b11) hh (by rw [y1]; exact d2) h2 hg hv (by rw [y1]; exact hat2)
    have go : ∀ g' v' gb' w' vb', gC C1 kd g' v' e gb' w' vb' → gM M1 g' v' gb' vb' → gF M0 kd g' v' (b + 1) gb' w' vb' → ∃ C' M' g' v' gb' w' vb', run L xs 69 35 (18, [some (vr 7 [7, 0]), some (vr 2 [0, 0]), some (vi (oN c0)), none, some (vi (oN b))], [], C) = run L xs 69 35 (18, [some (vr 7 [7, 0]), some (vr 2 [0, 0]), some (vi (oN c0)), none, some (vi (oN nb))], [], C') ∧
      run L xs 170 26 (12, l170 c0 e b, [], M) = run L xs 170 26 (12, l170 c0 e nb, [], M') ∧ fC C0 C' ∧ fM M0 M' ∧ gC C' kd g' v' e gb' w' vb' ∧ gM M' g' v' gb' vb' ∧ gF M0 kd g' v' nb gb' w' vb' := fun g' v' gb' w' vb' a1 a2 a3 => by
      obtain ⟨C', M', g', v', gb', w', vb', z1, z2, z3⟩ := ih (b + 1) C1 M1 g' v' gb' w' vb' (by omega) (fC_trans f1 c2) (fM_trans f2 m2) a1 a2 a3
      exact ⟨C', M', g', v', gb', w', vb', by rw [cst C1 c1, z1], by rw [m1, z2], z3⟩
    rcases c3 with ⟨q1, q2, q3, q4⟩ | ⟨q1, q2, q4⟩ | ⟨q1, q2, rfl⟩
    · refine go _ _ _ _ _ q4 (m3 q1 q2 q3) ⟨by omega, hv, fun l hl => ?_, fun l hl => ⟨by have := (g2 l hl).1; omega, (g2 l hl).2⟩, fun l l' h1 h2 => ?_⟩
      · by_cases q : l = g
        · subst q; rw [updN_same, updN_same]; exact ⟨by omega, hh, d2⟩
        · rw [updN_ne q, updN_ne q]
          obtain ⟨a1, a2⟩ := g1 l (by omega)
          exact ⟨by omega, a2⟩
      · by_cases q : l' = g
        · subst q; rw [updN_same, updN_ne (by omega)]; exact (g1 l (by omega)).1
        · rw [updN_ne q, updN_ne (by omega)]; exact g3 l l' h1 (by omega)
    · refine go _ _ _ _ _ q4 (m4 q1 q2) ⟨hg, by omega, fun l hl => ⟨by have := (g1 l hl).1; omega, (g1 l hl).2⟩, fun l hl => ?_, g3⟩
      by_cases q : l = v
      · subst q; rw [updN_same]; exact ⟨by omega, q1⟩
      · rw [updN_ne q]
        obtain ⟨a1, a2⟩ := g2 l (by omega)
        exact ⟨by omega, a2⟩
    · refine go _ _ _ _ _ h1 ?_ (gF_le ⟨hg, hv, g1, g2, g3⟩ (by omega))
      rw [m5 q1 q2]; exact h2
end Wave6
