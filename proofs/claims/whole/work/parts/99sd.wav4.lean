section Wave5
variable {L : Nat} {xs : Nat → Int32} {C C' C0 M M' M0 : mM} {kd : Nat → Nat} {nb g v e b c0 : Nat} {gb w vb : Nat → Nat}
def sea (k : Nat) : Nat := if k = 2 then 50 else 300
def bW (C M : mM) (kd : Nat → Nat) (b : Nat) : Prop := kd b ≤ 5 ∧ C.1 [b, 10, 0, 0] 0 = oN b ∧ C.1 [b, 10, 0, 0] 1 = oN (kd b) ∧ M.1 [11, 1] b = oN (kd b) ∧
  (∃ hd, hd ≤ 1000 ∧ C.1 [b, 10, 0, 0] 6 = oN hd ∧ M.1 [1, 1] (200 + 16 * b + 3) = oN hd) ∧
  ((C.1 [b, 10, 0, 0] 2 = oM 1 ∧ M.1 [1, 1] (200 + 16 * b) = oM 4) ∨ ∃ x, x < 16 ∧ C.1 [b, 10, 0, 0] 2 = oN x ∧ M.1 [1, 1] (200 + 16 * b) = oN x)
def gC (C : mM) (kd : Nat → Nat) (g v e : Nat) (gb w vb : Nat → Nat) : Prop := C.1 [7, 0] 0 = oN g ∧ C.1 [7, 0] 4 = oN v ∧ C.1 [7, 0] 6 = oN e ∧ (∀ l, l < g → C.1 [1, 7, 0] l = oN (gb l) ∧ C.1 [2, 7, 0] l = oN (w l)) ∧
  ∀ l, l < v → C.1 [5, 7, 0] l = oN (vb l) ∧ ∀ j, j < e → C.1 [7, 7, 0] (l * e + j) = oN (sea (kd (vb l)))
def gM (M : mM) (g v : Nat) (gb vb : Nat → Nat) : Prop := M.1 [1] 44 = oN g ∧ M.1 [1] 45 = oN v ∧ (∀ l, l < g → M.1 [42, 1] l = oN (gb l)) ∧ ∀ l, l < v → M.1 [43, 1] l = oN (vb l)
def gF (M : mM) (kd : Nat → Nat) (g v b : Nat) (gb w vb : Nat → Nat) : Prop := g ≤ 6 ∧ v ≤ 3 ∧ (∀ l, l < g → gb l < b ∧ w l ≤ 1000 ∧ M.1 [1, 1] (200 + 16 * gb l + 3) = oN (w l)) ∧ (∀ l, l < v → vb l < b ∧ (kd (vb l) = 2 ∨ kd (vb l) = 3)) ∧ ∀ l l', l < l' → l' < g → gb l < gb l'
def fC (C C' : mM) : Prop := (∀ q, q ≠ [7, 0] → q ≠ [1, 7, 0] → q ≠ [2, 7, 0] → q ≠ [5, 7, 0] → q ≠ [7, 7, 0] → C'.1 q = C.1 q) ∧ C'.2 = C.2
def fM (M M' : mM) : Prop := (∀ q, q ≠ [1] → q ≠ [42, 1] → q ≠ [43, 1] → M'.1 q = M.1 q) ∧ (∀ k, k ≠ 44 → k ≠ 45 → M'.1 [1] k = M.1 [1] k) ∧ M'.2 = M.2
def l170 (c e b : Nat) : List (Option mV) := [some (vr 10 [1]), some (vi (oN c)), some (vi (oN e)), some (vi (oN b)), none, none, none, none, none, none, none, none, none]
set_option maxRecDepth 8000 in
theorem gat_c (hb : b < 40) (hk : kd b ≤ 5) (h0 : C.1 [b, 10, 0, 0] 0 = oN b) (h1 : C.1 [b, 10, 0, 0] 1 = oN (kd b)) {hd : Nat} (hh : hd ≤ 1000) (h6 : C.1 [b, 10, 0, 0] 6 = oN hd) (hC : gC C kd g v e gb w vb) (hg : g ≤ 6) (hv : v ≤ 3) (he1 : 1 ≤ e) (he2 : e ≤ 2) (h2 : C.1 [b, 10, 0, 0] 2 = oN c0) :
    ∃ C', kV L xs 65 [vr 7 [7, 0], vr 0 [b, 10, 0, 0], vi (oN c0)] C = some C' ∧ fC C C' ∧
      ((kd b = 0 ∧ 0 < hd ∧ g < 6 ∧ gC C' kd (g + 1) v e (updN gb g b) (updN w g hd) vb) ∨
       ((kd b = 2 ∨ kd b = 3) ∧ v < 3 ∧ gC C' kd g (v + 1) e gb w (updN vb v b)) ∨
       (¬ (kd b = 0 ∧ 0 < hd ∧ g < 6) ∧ ¬ ((kd b = 2 ∨ kd b = 3) ∧ v < 3) ∧ C' = C)) := by
  have hC0 := hC
  obtain ⟨c0', c4, c6, c1, c5⟩ := hC
  have h01 : ∀ G v, (stA G [7, 0] v).1 [b, 10, 0, 0] = G.1 [b, 10, 0, 0] := fun G v => stA_ne (by simp)
  by_cases k0 : kd b = 0
  · rw [k0] at h1
    by_cases ok : 0 < hd ∧ g < 6
    · refine ⟨wI (wI (wI C [1, 7, 0] g (oN b)) [2, 7, 0] g (oN hd)) [7, 0] 0 (oN (g + 1)), kV_of ?_, ?_, .inl ⟨k0, ok.1, ok.2, ?_⟩⟩
      · rw [e_65]
        simp (disch := omega) only [↓Bool.cond_eq_ite, ↓reduceIte, Bool.false_eq_true, eq_self, n_lit, n_neg, n_add, n_mul, n_sub, n_subM, n_div, n_mod, n_addM, m_div, m_subn, n_tN, n_inS, n_eq_t, n_eq_f, n_ne_t, n_ne_f, n_lt_t, n_lt_f, n_ge_t, n_ge_f, n_gt_t, n_gt_f, n_le_t, n_le_f, mn_eq, mn_ne, mn_lt, mn_ge, mn_gt, mn_le, nm_eq, nm_ne, nm_lt, nm_ge, nm_gt, nm_le, n_gts_t, c_eq_refl, c_ne_refl, w_fold, wC_fold, lt_M, cond_true, cond_false, Bool.and_true, Bool.true_and, Bool.and_false, Bool.false_and, Bool.not_true, Bool.not_false, isZS_0, isZS_1, w_at, w_ne_k, h0, h1, h2, h6, c0', c_eq_refl, List.cons.injEq, reduceCtorEq, and_false, false_and, and_true, if_false]
        rw [h_65_68]
        simp (disch := omega) only [↓Bool.cond_eq_ite, ↓reduceIte, Bool.false_eq_true, eq_self, n_lit, n_neg, n_add, n_mul, n_sub, n_subM, n_div, n_mod, n_addM, m_div, m_subn, n_tN, n_inS, n_eq_t, n_eq_f, n_ne_t, n_ne_f, n_lt_t, n_lt_f, n_ge_t, n_ge_f, n_gt_t, n_gt_f, n_le_t, n_le_f, mn_eq, mn_ne, mn_lt, mn_ge, mn_gt, mn_le, nm_eq, nm_ne, nm_lt, nm_ge, nm_gt, nm_le, n_gts_t, c_eq_refl, c_ne_refl, w_fold, wC_fold, lt_M, cond_true, cond_false, Bool.and_true, Bool.true_and, Bool.and_false, Bool.false_and, Bool.not_true, Bool.not_false, isZS_0, isZS_1, w_at, h0, h1, h2, h6, c0', c_eq_refl, List.cons.injEq, reduceCtorEq, and_false, false_and, and_true, if_false]
      · exact ⟨fun q a1 a2 a3 a4 a5 => by rw [w_ne a1, w_ne a3, w_ne a2], rfl⟩
      · refine ⟨?_, ?_, ?_, fun l hl => ?_, fun l hl => ?_⟩
        · simp only [↓reduceIte, w_at, w_2, wC_at, wC_2, List.cons.injEq, reduceCtorEq, and_false, false_and, and_true, true_and, if_true, if_false, eq_self, and_self]
        · simp only [↓reduceIte, w_at, w_2, wC_at, wC_2, List.cons.injEq, reduceCtorEq, and_false, false_and, and_true, true_and, if_true, if_false, eq_self, and_self]; simpa using c4
        · simp only [↓reduceIte, w_at, w_2, wC_at, wC_2, List.cons.injEq, reduceCtorEq, and_false, false_and, and_true, true_and, if_true, if_false, eq_self, and_self]; simpa using c6
        · by_cases q : l = g
          · subst q; rw [updN_same, updN_same]; refine ⟨?_, ?_⟩ <;> simp [w_at]
          · rw [updN_ne q, updN_ne q]; simp only [↓reduceIte, w_at, w_2, wC_at, wC_2, List.cons.injEq, reduceCtorEq, and_false, false_and, and_true, true_and, if_true, if_false, eq_self, and_self, if_neg q]; exact c1 l (by omega)
        · simp only [↓reduceIte, w_at, w_2, wC_at, wC_2, List.cons.injEq, reduceCtorEq, and_false, false_and, and_true, true_and, if_true, if_false, eq_self, and_self]; exact c5 l hl
    · refine ⟨C, kV_of ?_, ⟨fun _ _ _ _ _ _ => rfl, rfl⟩, .inr (.inr ⟨by omega, by omega, rfl⟩)⟩
      by_cases q : 0 < hd
      · rw [e_65]
        simp (disch := omega) only [↓Bool.cond_eq_ite, ↓reduceIte, Bool.false_eq_true, eq_self, n_lit, n_neg, n_add, n_mul, n_sub, n_subM, n_div, n_mod, n_addM, m_div, m_subn, n_tN, n_inS, n_eq_t, n_eq_f, n_ne_t, n_ne_f, n_lt_t, n_lt_f, n_ge_t, n_ge_f, n_gt_t, n_gt_f, n_le_t, n_le_f, mn_eq, mn_ne, mn_lt, mn_ge, mn_gt, mn_le, nm_eq, nm_ne, nm_lt, nm_ge, nm_gt, nm_le, n_gts_t, c_eq_refl, c_ne_refl, w_fold, wC_fold, lt_M, cond_true, cond_false, Bool.and_true, Bool.true_and, Bool.and_false, Bool.false_and, Bool.not_true, Bool.not_false, isZS_0, isZS_1, h1, h2, h6, c0', c_eq_refl]
        rw [h_65_68]
        simp (disch := omega) only [↓Bool.cond_eq_ite, ↓reduceIte, Bool.false_eq_true, eq_self, n_lit, n_neg, n_add, n_mul, n_sub, n_subM, n_div, n_mod, n_addM, m_div, m_subn, n_tN, n_inS, n_eq_t, n_eq_f, n_ne_t, n_ne_f, n_lt_t, n_lt_f, n_ge_t, n_ge_f, n_gt_t, n_gt_f, n_le_t, n_le_f, mn_eq, mn_ne, mn_lt, mn_ge, mn_gt, mn_le, nm_eq, nm_ne, nm_lt, nm_ge, nm_gt, nm_le, n_gts_t, c_eq_refl, c_ne_refl, w_fold, wC_fold, lt_M, cond_true, cond_false, Bool.and_true, Bool.true_and, Bool.and_false, Bool.false_and, Bool.not_true, Bool.not_false, isZS_0, isZS_1, h1, h2, h6, c0', c_eq_refl]
      · rw [e_65]
        simp (disch := omega) only [↓Bool.cond_eq_ite, ↓reduceIte, Bool.false_eq_true, eq_self, n_lit, n_neg, n_add, n_mul, n_sub, n_subM, n_div, n_mod, n_addM, m_div, m_subn, n_tN, n_inS, n_eq_t, n_eq_f, n_ne_t, n_ne_f, n_lt_t, n_lt_f, n_ge_t, n_ge_f, n_gt_t, n_gt_f, n_le_t, n_le_f, mn_eq, mn_ne, mn_lt, mn_ge, mn_gt, mn_le, nm_eq, nm_ne, nm_lt, nm_ge, nm_gt, nm_le, n_gts_t, c_eq_refl, c_ne_refl, w_fold, wC_fold, lt_M, cond_true, cond_false, Bool.and_true, Bool.true_and, Bool.and_false, Bool.false_and, Bool.not_true, Bool.not_false, isZS_0, isZS_1, h1, h2, h6, c0', c_eq_refl]
        rw [h_65_68]
        simp (disch := omega) only [↓Bool.cond_eq_ite, ↓reduceIte, Bool.false_eq_true, eq_self, n_lit, n_neg, n_add, n_mul, n_sub, n_subM, n_div, n_mod, n_addM, m_div, m_subn, n_tN, n_inS, n_eq_t, n_eq_f, n_ne_t, n_ne_f, n_lt_t, n_lt_f, n_ge_t, n_ge_f, n_gt_t, n_gt_f, n_le_t, n_le_f, mn_eq, mn_ne, mn_lt, mn_ge, mn_gt, mn_le, nm_eq, nm_ne, nm_lt, nm_ge, nm_gt, nm_le, n_gts_t, c_eq_refl, c_ne_refl, w_fold, wC_fold, lt_M, cond_true, cond_false, Bool.and_true, Bool.true_and, Bool.and_false, Bool.false_and, Bool.not_true, Bool.not_false, isZS_0, isZS_1, h1, h2, h6, c0', c_eq_refl]
  · by_cases k2 : kd b = 2 ∨ kd b = 3
    · have st : call L xs 65 [vr 7 [7, 0], vr 0 [b, 10, 0, 0], vi (oN c0)] C = run L xs 65 26 (84, [some (vr 7 [7, 0]), some (vr 0 [b, 10, 0, 0]), none, none], [], C) := by
        rw [e_65]
        simp (disch := omega) only [↓Bool.cond_eq_ite, ↓reduceIte, Bool.false_eq_true, eq_self, n_lit, n_neg, n_add, n_mul, n_sub, n_subM, n_div, n_mod, n_addM, m_div, m_subn, n_tN, n_inS, n_eq_t, n_eq_f, n_ne_t, n_ne_f, n_lt_t, n_lt_f, n_ge_t, n_ge_f, n_gt_t, n_gt_f, n_le_t, n_le_f, mn_eq, mn_ne, mn_lt, mn_ge, mn_gt, mn_le, nm_eq, nm_ne, nm_lt, nm_ge, nm_gt, nm_le, n_gts_t, c_eq_refl, c_ne_refl, w_fold, wC_fold, lt_M, cond_true, cond_false, Bool.and_true, Bool.true_and, Bool.and_false, Bool.false_and, Bool.not_true, Bool.not_false, isZS_0, isZS_1, h1, h2, c_eq_refl]
        rw [h_65_68]
        rcases k2 with k2 | k2
        · rw [k2] at h1
          simp (disch := omega) only [↓Bool.cond_eq_ite, ↓reduceIte, Bool.false_eq_true, eq_self, n_lit, n_neg, n_add, n_mul, n_sub, n_subM, n_div, n_mod, n_addM, m_div, m_subn, n_tN, n_inS, n_eq_t, n_eq_f, n_ne_t, n_ne_f, n_lt_t, n_lt_f, n_ge_t, n_ge_f, n_gt_t, n_gt_f, n_le_t, n_le_f, mn_eq, mn_ne, mn_lt, mn_ge, mn_gt, mn_le, nm_eq, nm_ne, nm_lt, nm_ge, nm_gt, nm_le, n_gts_t, c_eq_refl, c_ne_refl, w_fold, wC_fold, lt_M, cond_true, cond_false, Bool.and_true, Bool.true_and, Bool.and_false, Bool.false_and, Bool.not_true, Bool.not_false, isZS_0, isZS_1, h1]
        · rw [k2] at h1
          simp (disch := omega) only [↓Bool.cond_eq_ite, ↓reduceIte, Bool.false_eq_true, eq_self, n_lit, n_neg, n_add, n_mul, n_sub, n_subM, n_div, n_mod, n_addM, m_div, m_subn, n_tN, n_inS, n_eq_t, n_eq_f, n_ne_t, n_ne_f, n_lt_t, n_lt_f, n_ge_t, n_ge_f, n_gt_t, n_gt_f, n_le_t, n_le_f, mn_eq, mn_ne, mn_lt, mn_ge, mn_gt, mn_le, nm_eq, nm_ne, nm_lt, nm_ge, nm_gt, nm_le, n_gts_t, c_eq_refl, c_ne_refl, w_fold, wC_fold, lt_M, cond_true, cond_false, Bool.and_true, Bool.true_and, Bool.and_false, Bool.false_and, Bool.not_true, Bool.not_false, isZS_0, isZS_1, h1]
      by_cases v3 : v < 3
      · obtain ⟨A, hA⟩ : ∃ A, A = wI C [5, 7, 0] v (oN b) := ⟨_, rfl⟩
        have a1 : A.1 [b, 10, 0, 0] 1 = oN (kd b) := by rw [hA, w_ne (by simp)]; exact h1
        have a4 : A.1 [7, 0] 4 = oN v := by rw [hA, w_ne (by simp)]; exact c4
        have a6 : A.1 [7, 0] 6 = oN e := by rw [hA, w_ne (by simp)]; exact c6
        have z1 : ∀ F, (stA A [7, 7, 0] F).1 [b, 10, 0, 0] = A.1 [b, 10, 0, 0] := fun F => stA_ne (by simp)
        have z2 : ∀ F, (stA A [7, 7, 0] F).1 [7, 0] = A.1 [7, 0] := fun F => stA_ne (by simp)
        have key : ∀ r j F, j + r = e → ∃ F', (∀ l, l < v * e + j → F' l = F l) ∧ (∀ l, j ≤ l → l < e → F' (v * e + l) = oN (sea (kd b))) ∧ run L xs 65 26 (107, [some (vr 7 [7, 0]), some (vr 0 [b, 10, 0, 0]), none, some (vi (oN j))], [], stA A [7, 7, 0] F) = some (none, wI (stA A [7, 7, 0] F') [7, 0] 4 (oN (v + 1))) := by
          have hve : v * e ≤ 2 * 2 := Nat.mul_le_mul (by omega) he2
          intro r
          induction r with
          | zero =>
            intro j F hj
            refine ⟨F, fun _ _ => rfl, fun l h1 h2 => by omega, ?_⟩
            rw [h_65_107]
            simp (disch := omega) only [↓Bool.cond_eq_ite, ↓reduceIte, Bool.false_eq_true, eq_self, n_lit, n_neg, n_add, n_mul, n_sub, n_subM, n_div, n_mod, n_addM, m_div, m_subn, n_tN, n_inS, n_eq_t, n_eq_f, n_ne_t, n_ne_f, n_lt_t, n_lt_f, n_ge_t, n_ge_f, n_gt_t, n_gt_f, n_le_t, n_le_f, mn_eq, mn_ne, mn_lt, mn_ge, mn_gt, mn_le, nm_eq, nm_ne, nm_lt, nm_ge, nm_gt, nm_le, n_gts_t, c_eq_refl, c_ne_refl, w_fold, wC_fold, lt_M, cond_true, cond_false, Bool.and_true, Bool.true_and, Bool.and_false, Bool.false_and, Bool.not_true, Bool.not_false, isZS_0, isZS_1, z2, a4, a6]
            unfold wI
            rw [z2]
          | succ r ih =>
            intro j F hj
            obtain ⟨F', f1, f2, f3⟩ := ih (j + 1) (upd F (v * e + j) (oN (sea (kd b)))) (by omega)
            refine ⟨F', fun l hl => by rw [f1 l (by omega), upd_ne (by omega)], fun l hl1 hl2 => ?_, ?_⟩
            · by_cases q : l = j
              · subst q; rw [f1 _ (by omega), upd_eq]
              · exact f2 l (by omega) hl2
            · rw [h_65_107]
              rcases k2 with k2 | k2
              · have hs : sea (kd b) = 50 := if_pos k2
                rw [k2] at a1
                rw [hs] at f3
                simp (disch := omega) only [↓lt_stA, ↓Bool.cond_eq_ite, ↓reduceIte, Bool.false_eq_true, eq_self, n_lit, n_neg, n_add, n_mul, n_sub, n_subM, n_div, n_mod, n_addM, m_div, m_subn, n_tN, n_inS, n_eq_t, n_eq_f, n_ne_t, n_ne_f, n_lt_t, n_lt_f, n_ge_t, n_ge_f, n_gt_t, n_gt_f, n_le_t, n_le_f, mn_eq, mn_ne, mn_lt, mn_ge, mn_gt, mn_le, nm_eq, nm_ne, nm_lt, nm_ge, nm_gt, nm_le, n_gts_t, c_eq_refl, c_ne_refl, w_fold, wC_fold, lt_M, cond_true, cond_false, Bool.and_true, Bool.true_and, Bool.and_false, Bool.false_and, Bool.not_true, Bool.not_false, isZS_0, isZS_1, z1, z2, a1, a4, a6, stA_same, stA_w, stA_u]
                exact f3
              · have hs : sea (kd b) = 300 := if_neg (by omega)
                rw [k2] at a1
                rw [hs] at f3
                simp (disch := omega) only [↓lt_stA, ↓Bool.cond_eq_ite, ↓reduceIte, Bool.false_eq_true, eq_self, n_lit, n_neg, n_add, n_mul, n_sub, n_subM, n_div, n_mod, n_addM, m_div, m_subn, n_tN, n_inS, n_eq_t, n_eq_f, n_ne_t, n_ne_f, n_lt_t, n_lt_f, n_ge_t, n_ge_f, n_gt_t, n_gt_f, n_le_t, n_le_f, mn_eq, mn_ne, mn_lt, mn_ge, mn_gt, mn_le, nm_eq, nm_ne, nm_lt, nm_ge, nm_gt, nm_le, n_gts_t, c_eq_refl, c_ne_refl, w_fold, wC_fold, lt_M, cond_true, cond_false, Bool.and_true, Bool.true_and, Bool.and_false, Bool.false_and, Bool.not_true, Bool.not_false, isZS_0, isZS_1, z1, z2, a1, a4, a6, stA_same, stA_w, stA_u]
                exact f3
        obtain ⟨F', f1, f2, f3⟩ := key e 0 (A.1 [7, 7, 0]) (by omega)
        rw [stA_id] at f3
        refine ⟨wI (stA A [7, 7, 0] F') [7, 0] 4 (oN (v + 1)), kV_of ?_, ⟨fun q a1 a2 a3 a4 a5 => by rw [w_ne a1, stA_ne a5, hA, w_ne a4], by rw [hA]; rfl⟩, .inr (.inl ⟨k2, v3, ?_⟩)⟩
        · rw [st, h_65_84]
          simp (disch := omega) only [↓Bool.cond_eq_ite, ↓reduceIte, Bool.false_eq_true, eq_self, n_lit, n_neg, n_add, n_mul, n_sub, n_subM, n_div, n_mod, n_addM, m_div, m_subn, n_tN, n_inS, n_eq_t, n_eq_f, n_ne_t, n_ne_f, n_lt_t, n_lt_f, n_ge_t, n_ge_f, n_gt_t, n_gt_f, n_le_t, n_le_f, mn_eq, mn_ne, mn_lt, mn_ge, mn_gt, mn_le, nm_eq, nm_ne, nm_lt, nm_ge, nm_gt, nm_le, n_gts_t, c_eq_refl, c_ne_refl, w_fold, wC_fold, lt_M, cond_true, cond_false, Bool.and_true, Bool.true_and, Bool.and_false, Bool.false_and, Bool.not_true, Bool.not_false, isZS_0, isZS_1, c4, h0, ← hA]
          exact f3
        · refine ⟨?_, ?_, ?_, fun l hl => ?_, fun l hl => ?_⟩
          · rw [w_ne_k (by omega), stA_ne (by simp), hA, w_ne (by simp)]; exact c0'
          · rw [w_at, if_pos ⟨rfl, rfl⟩]
          · rw [w_ne_k (by omega), stA_ne (by simp)]; exact a6
          · rw [w_ne (by simp), w_ne (by simp), stA_ne (by simp), stA_ne (by simp), hA, w_ne (by simp), w_ne (by simp)]; exact c1 l hl
          · rw [w_ne (by simp), w_ne (by simp), stA_ne (by simp), stA_same, hA]
            by_cases q : l = v
            · subst q
              rw [updN_same]
              exact ⟨by rw [w_at, if_pos ⟨rfl, rfl⟩], fun j hj => f2 j (Nat.zero_le _) hj⟩
            · rw [updN_ne q, w_ne_k q]
              refine ⟨(c5 l (by omega)).1, fun j hj => ?_⟩
              have h1 : (l + 1) * e ≤ v * e := Nat.mul_le_mul_right e (by omega)
              have h2 : (l + 1) * e = l * e + e := Nat.succ_mul l e
              rw [f1 _ (by omega), hA, w_ne (by simp)]
              exact (c5 l (by omega)).2 j hj
      · refine ⟨C, kV_of ?_, ⟨fun _ _ _ _ _ _ => rfl, rfl⟩, .inr (.inr ⟨by omega, by omega, rfl⟩)⟩
        rw [st, h_65_84]
        simp (disch := omega) only [↓Bool.cond_eq_ite, ↓reduceIte, Bool.false_eq_true, eq_self, n_lit, n_neg, n_add, n_mul, n_sub, n_subM, n_div, n_mod, n_addM, m_div, m_subn, n_tN, n_inS, n_eq_t, n_eq_f, n_ne_t, n_ne_f, n_lt_t, n_lt_f, n_ge_t, n_ge_f, n_gt_t, n_gt_f, n_le_t, n_le_f, mn_eq, mn_ne, mn_lt, mn_ge, mn_gt, mn_le, nm_eq, nm_ne, nm_lt, nm_ge, nm_gt, nm_le, n_gts_t, c_eq_refl, c_ne_refl, w_fold, wC_fold, lt_M, cond_true, cond_false, Bool.and_true, Bool.true_and, Bool.and_false, Bool.false_and, Bool.not_true, Bool.not_false, isZS_0, isZS_1, c4]
    · refine ⟨C, kV_of ?_, ⟨fun _ _ _ _ _ _ => rfl, rfl⟩, .inr (.inr ⟨by omega, by omega, rfl⟩)⟩
      rw [e_65]
      simp (disch := omega) only [↓Bool.cond_eq_ite, ↓reduceIte, Bool.false_eq_true, eq_self, n_lit, n_neg, n_add, n_mul, n_sub, n_subM, n_div, n_mod, n_addM, m_div, m_subn, n_tN, n_inS, n_eq_t, n_eq_f, n_ne_t, n_ne_f, n_lt_t, n_lt_f, n_ge_t, n_ge_f, n_gt_t, n_gt_f, n_le_t, n_le_f, mn_eq, mn_ne, mn_lt, mn_ge, mn_gt, mn_le, nm_eq, nm_ne, nm_lt, nm_ge, nm_gt, nm_le, n_gts_t, c_eq_refl, c_ne_refl, w_fold, wC_fold, lt_M, cond_true, cond_false, Bool.and_true, Bool.true_and, Bool.and_false, Bool.false_and, Bool.not_true, Bool.not_false, isZS_0, isZS_1, h1, h2, c_eq_refl]
      rw [h_65_68]
      simp (disch := omega) only [↓Bool.cond_eq_ite, ↓reduceIte, Bool.false_eq_true, eq_self, n_lit, n_neg, n_add, n_mul, n_sub, n_subM, n_div, n_mod, n_addM, m_div, m_subn, n_tN, n_inS, n_eq_t, n_eq_f, n_ne_t, n_ne_f, n_lt_t, n_lt_f, n_ge_t, n_ge_f, n_gt_t, n_gt_f, n_le_t, n_le_f, mn_eq, mn_ne, mn_lt, mn_ge, mn_gt, mn_le, nm_eq, nm_ne, nm_lt, nm_ge, nm_gt, nm_le, n_gts_t, c_eq_refl, c_ne_refl, w_fold, wC_fold, lt_M, cond_true, cond_false, Bool.and_true, Bool.true_and, Bool.and_false, Bool.false_and, Bool.not_true, Bool.not_false, isZS_0, isZS_1, h1]
end Wave5
