section TextC
variable {L : Nat} {xs : Nat → Int32} {n : Nat} {β : Nat → Nat} {rk dp : Nat}
theorem ev_nots {F : Nat → Int32} {v : Bool} {k : Nat} {s : List Int32} : ev F (nots (k % 2)) (b2 v :: s) = b2 (v ^^ (k % 2 == 1)) :: s := by
  have hk2 : k % 2 = 0 ∨ k % 2 = 1 := by omega
  rcases hk2 with q | q <;> rw [q]
  · cases v <;> rfl
  · show ev F [20033] (b2 v :: s) = _
    rw [ev_x]
    cases v
    · exact congrArg (· :: s) (show oN 1 - oN 0 = oN 1 by decide)
    · exact congrArg (· :: s) (show oN 1 - oN 1 = oN 0 by decide)
theorem nots_len {k : Nat} : (nots (k % 2)).length = k % 2 := by
  have hk2 : k % 2 = 0 ∨ k % 2 = 1 := by omega
  rcases hk2 with q | q <;> rw [q] <;> rfl
theorem nots_ok1 {k : Nat} : okc (nots (k % 2)) := by
  unfold nots
  split
  · exact okc_1 (by omega)
  · exact okc_nil
set_option maxRecDepth 8000 in
theorem brF (hβ : ∀ i, i < n → β i ≤ 255) (hn : n ≤ 80) {a k f : Nat} (hr' : Nat.blt 25 rk = true) (hrk : Nat.blt (rkM 56 [vr 5 [4, 0], vi (oN (dp + 1))]) rk = true) (ha : a < n) (hl : β a = 40) (hdp : dp < 8) (h : gFl L xs n β (K56 L xs (dp + 1)) Po (dp + 1) (a + 1) f) : nF L xs n β rk dp a k f := by
  obtain ⟨h1, h2, h3, h4⟩ := h
  refine ⟨by omega, h2, ?_, ?_⟩
  · intro nt t hnt ht C m F hC hm
    try dsimp only
    rw [n_45 hβ hn hr' (by omega) (by omega) ht (by omega) hC]
    have k53 := c_53 (L := L) (xs := xs) (m := m) (F := F) hC hn (show a ≤ 80 by omega)
    rw [(lC_eq hβ (i := a) (c := 40) (by omega)).mpr ⟨ha, hl⟩] at k53
    obtain ⟨j, q, F', g⟩ := h3 C m F hC (by omega)
    have g := kV_c (g : call _ _ _ _ _ = _)
    refine ⟨tM C j (oN f) q F', ?_, j, q, F', rfl⟩
    unfold k58c
    rw [h_58_45, hr', cond_true, k53, Option.bind_some]
    by_cases h0 : nt = 0
    · simp (disch := omega) only [↓Bool.cond_eq_ite, ↓reduceIte, Bool.false_eq_true, eq_self, n_lit, n_neg, n_add, n_mul, n_sub, n_subM, n_div, n_mod, n_addM, m_div, m_subn, n_tN, n_inS, n_eq_t, n_eq_f, n_ne_t, n_ne_f, n_lt_t, n_lt_f, n_ge_t, n_ge_f, n_gt_t, n_gt_f, n_le_t, n_le_f, mn_eq, mn_ne, mn_lt, mn_ge, mn_gt, mn_le, nm_eq, nm_ne, nm_lt, nm_ge, nm_gt, nm_le, n_gts_t, c_eq_refl, c_ne_refl, w_fold, w_2, wC_fold, lt_M, cond_true, cond_false, Bool.and_true, Bool.true_and, Bool.and_false, Bool.false_and, Bool.not_true, Bool.not_false, isZS_0, isZS_1, hr', hrk, tM_6, tM_w6, g, s_53f, s_59n, Option.bind_some]
    · simp (disch := omega) only [↓Bool.cond_eq_ite, ↓reduceIte, Bool.false_eq_true, eq_self, n_lit, n_neg, n_add, n_mul, n_sub, n_subM, n_div, n_mod, n_addM, m_div, m_subn, n_tN, n_inS, n_eq_t, n_eq_f, n_ne_t, n_ne_f, n_lt_t, n_lt_f, n_ge_t, n_ge_f, n_gt_t, n_gt_f, n_le_t, n_le_f, mn_eq, mn_ne, mn_lt, mn_ge, mn_gt, mn_le, nm_eq, nm_ne, nm_lt, nm_ge, nm_gt, nm_le, n_gts_t, c_eq_refl, c_ne_refl, w_fold, w_2, wC_fold, lt_M, cond_true, cond_false, Bool.and_true, Bool.true_and, Bool.and_false, Bool.false_and, Bool.not_true, Bool.not_false, isZS_0, isZS_1, hr', hrk, tM_6, tM_w6, g, s_53f, s_59n, s_52n, Option.bind_some]
  · intro M Fd vn V s0 S hM hFd hvn hs hS h0
    try dsimp only
    rw [l_opn hM hβ hn ha (by omega) hdp hl]
    refine h4 M Fd vn V (s0 + k + 1) _ hM hFd (by omega) (by omega) ?_
    unfold Po
    rw [tp_s upd_eq]
    exact ⟨by decide, by decide, by decide⟩
set_option maxRecDepth 8000 in
theorem brO (hβ : ∀ i, i < n → β i ≤ 255) (hn : n ≤ 80) {a k j : Nat} {cs : List Nat} {v : (Nat → Int32) → Bool} (hr' : Nat.blt 25 rk = true) (hrk : Nat.blt (rkM 56 [vr 5 [4, 0], vi (oN (dp + 1))]) rk = true) (ha : a < n) (hl : β a = 40) (hdp : dp < 8) (h : gOk L xs n β (K56 L xs (dp + 1)) (jO L xs) Po (QO n β) (dp + 1) (a + 1) j cs v) : (∃ f, nF L xs n β rk dp a k f) ∨ ∃ j' cs' v', nO L xs n β rk dp a k j' cs' v' := by
  obtain ⟨h1, h2, h3, h4, h5, h6, h7, h8⟩ := h
  have k53 : ∀ C m F, cR C n β → kI L xs 53 [vr 5 [4, 0]] (tM C a (oM 4) m F) = some (oN 40, tM C a (oM 4) m F) := fun C m F hC => by
    rw [← (lC_eq hβ (i := a) (c := 40) (by omega)).mpr ⟨ha, hl⟩]
    exact c_53 hC hn (by omega)
  have model : ∀ M Fd vn V s0 S, mTx M n (bM β) → mFd L xs M Fd → vn ≤ a → s0 + k ≤ a → (∀ i, s0 ≤ i → i < s0 + k → S i = oN 33) → ¬ tp s0 S = oN 33 →
      ∃ x1 X1 x2 X2 V' S', k27 L xs 1 (pM M a (oN 0) dp vn V (s0 + k) S) = k27 L xs 0 (pM M j (oN 0) (dp + 1) x1 X1 x2 X2) ∧ jO L xs (pM M j (oN 0) (dp + 1) x1 X1 x2 X2) (pM M j (oN 0) (dp + 1) (vn + 1) V' (s0 + k + 1) S') ∧ V' vn = b2 (v Fd) ∧ (∀ i, i < vn → V' i = V i) ∧ S' (s0 + k) = oN 40 ∧ ∀ i, i < s0 + k → S' i = S i := by
    intro M Fd vn V s0 S hM hFd hvn hs hS h0
    obtain ⟨x1, X1, x2, X2, V', S', q1, q2, q3, q4, q5⟩ := h8 M Fd vn V (s0 + k + 1) (upd S (s0 + k) (oN 40)) hM hFd (by omega) (by omega) (by
      unfold Po
      rw [tp_s upd_eq]
      exact ⟨by decide, by decide, by decide⟩)
    refine ⟨x1, X1, x2, X2, V', S', ?_, q2, q3, q4, by rw [q5 _ (by omega), upd_eq], fun i hi => by rw [q5 i (by omega), upd_ne (by omega)]⟩
    rw [l_opn hM hβ hn ha (by omega) hdp hl]
    exact q1
  by_cases hj : j < n ∧ β j = 41
  · obtain ⟨hjn, hj⟩ := hj
    refine .inr ⟨j + 1, cs ++ nots (k % 2), fun F => (v F ^^ (k % 2 == 1)), by omega, hjn, ?_, ?_, ?_, ?_, ?_⟩
    · rw [List.length_append, nots_len]; omega
    · exact okc_app h4 nots_ok1
    · intro F s
      rw [ev_app, h5, ev_nots]
    · intro nt t hnt ht C m F hC hm
      try dsimp only
      rw [n_45 hβ hn hr' (by omega) (by omega) ht (by omega) hC, ← hnt]
      refine ⟨_, ?_, rfl⟩
      have g := kV_c (h6 C m F hC (by omega) : call _ _ _ _ _ = _)
      have k53j : kI L xs 53 [vr 5 [4, 0]] (tM C j (oM 4) (m + cs.length) (putL F m cs)) = some (oN 41, tM C j (oM 4) (m + cs.length) (putL F m cs)) := by
        rw [← (lC_eq hβ (i := j) (c := 41) (by omega)).mpr ⟨hjn, hj⟩]
        exact c_53 hC hn (by omega)
      unfold k58c
      rw [h_58_45, hr', cond_true, k53 C m F hC, Option.bind_some]
      by_cases h0 : nt = 0
      · subst h0
        rw [show nots 0 = [] from rfl, List.append_nil]
        simp (disch := omega) only [↓Bool.cond_eq_ite, ↓reduceIte, Bool.false_eq_true, eq_self, n_lit, n_neg, n_add, n_mul, n_sub, n_subM, n_div, n_mod, n_addM, m_div, m_subn, n_tN, n_inS, n_eq_t, n_eq_f, n_ne_t, n_ne_f, n_lt_t, n_lt_f, n_ge_t, n_ge_f, n_gt_t, n_gt_f, n_le_t, n_le_f, mn_eq, mn_ne, mn_lt, mn_ge, mn_gt, mn_le, nm_eq, nm_ne, nm_lt, nm_ge, nm_gt, nm_le, n_gts_t, c_eq_refl, c_ne_refl, w_fold, w_2, wC_fold, lt_M, cond_true, cond_false, Bool.and_true, Bool.true_and, Bool.and_false, Bool.false_and, Bool.not_true, Bool.not_false, isZS_0, isZS_1, hr', hrk, tM_6, tM_w6, g, k53j, s_59t, Option.bind_some]
      · have h1 : nt = 1 := by omega
        subst h1
        rw [show nots 1 = [20033] from rfl, ← putL_app, ← putL_1, List.length_append]
        simp (disch := omega) only [↓Bool.cond_eq_ite, ↓reduceIte, Bool.false_eq_true, eq_self, n_lit, n_neg, n_add, n_mul, n_sub, n_subM, n_div, n_mod, n_addM, m_div, m_subn, n_tN, n_inS, n_eq_t, n_eq_f, n_ne_t, n_ne_f, n_lt_t, n_lt_f, n_ge_t, n_ge_f, n_gt_t, n_gt_f, n_le_t, n_le_f, mn_eq, mn_ne, mn_lt, mn_ge, mn_gt, mn_le, nm_eq, nm_ne, nm_lt, nm_ge, nm_gt, nm_le, n_gts_t, c_eq_refl, c_ne_refl, w_fold, w_2, wC_fold, lt_M, cond_true, cond_false, Bool.and_true, Bool.true_and, Bool.and_false, Bool.false_and, Bool.not_true, Bool.not_false, isZS_0, isZS_1, hr', hrk, tM_6, tM_w6, g, k53j, s_59t, s_52, Option.bind_some, List.length_singleton, Nat.add_assoc]
    · intro M Fd vn V s0 S hM hFd hvn hs hS h0
      try dsimp only
      obtain ⟨x1, X1, x2, X2, V', S', q1, ⟨Y, q2, q2'⟩, q3, q4, q5, q6⟩ := model M Fd vn V s0 S hM hFd hvn hs hS h0
      have h0' : ¬ tp s0 S' = oN 33 := by rw [tp_congr (fun i hi => q6 i (by omega))]; exact h0
      obtain ⟨V2, r1, r2, r3⟩ := q_232 (L := L) (xs := xs) (M := M) (a := j + 1) (b := oN 0) (d := dp) (vn := vn) (V := V') (S := S') (by omega) (s0 := s0) (k := k) (by omega) (fun i h1 h2 => by rw [q6 i h2]; exact hS i h1 h2) h0'
      refine ⟨V2, S', ?_, r3 _ q3, fun i hi => by rw [r2 i hi, q4 i hi], fun i hi => q6 i (by omega)⟩
      rw [q1, l_cls hM hβ hn hjn hj (by omega) q5 q2 q2' r1]
  · refine .inl ⟨j, by omega, h2, ?_, ?_⟩
    · intro nt t hnt ht C m F hC hm
      try dsimp only
      rw [n_45 hβ hn hr' (by omega) (by omega) ht (by omega) hC]
      refine ⟨_, ?_, j, m + cs.length, putL F m cs, rfl⟩
      have g := kV_c (h6 C m F hC (by omega) : call _ _ _ _ _ = _)
      have k53j := c_53 (L := L) (xs := xs) (a := j) (m := m + cs.length) (F := putL F m cs) hC hn (by omega)
      have e1 := c_ne_h (lC_ne hβ (c := 41) (by omega) hj)
      unfold k58c
      rw [h_58_45, hr', cond_true, k53 C m F hC, Option.bind_some]
      by_cases h0 : nt = 0
      · simp (disch := omega) only [↓Bool.cond_eq_ite, ↓reduceIte, Bool.false_eq_true, eq_self, n_lit, n_neg, n_add, n_mul, n_sub, n_subM, n_div, n_mod, n_addM, m_div, m_subn, n_tN, n_inS, n_eq_t, n_eq_f, n_ne_t, n_ne_f, n_lt_t, n_lt_f, n_ge_t, n_ge_f, n_gt_t, n_gt_f, n_le_t, n_le_f, mn_eq, mn_ne, mn_lt, mn_ge, mn_gt, mn_le, nm_eq, nm_ne, nm_lt, nm_ge, nm_gt, nm_le, n_gts_t, c_eq_refl, c_ne_refl, w_fold, w_2, wC_fold, lt_M, cond_true, cond_false, Bool.and_true, Bool.true_and, Bool.and_false, Bool.false_and, Bool.not_true, Bool.not_false, isZS_0, isZS_1, hr', hrk, tM_6, tM_w6, g, k53j, e1, s_59f, Option.bind_some]
      · simp (disch := omega) only [↓Bool.cond_eq_ite, ↓reduceIte, Bool.false_eq_true, eq_self, n_lit, n_neg, n_add, n_mul, n_sub, n_subM, n_div, n_mod, n_addM, m_div, m_subn, n_tN, n_inS, n_eq_t, n_eq_f, n_ne_t, n_ne_f, n_lt_t, n_lt_f, n_ge_t, n_ge_f, n_gt_t, n_gt_f, n_le_t, n_le_f, mn_eq, mn_ne, mn_lt, mn_ge, mn_gt, mn_le, nm_eq, nm_ne, nm_lt, nm_ge, nm_gt, nm_le, n_gts_t, c_eq_refl, c_ne_refl, w_fold, w_2, wC_fold, lt_M, cond_true, cond_false, Bool.and_true, Bool.true_and, Bool.and_false, Bool.false_and, Bool.not_true, Bool.not_false, isZS_0, isZS_1, hr', hrk, tM_6, tM_w6, g, k53j, e1, s_59f, s_52n, Option.bind_some]
    · intro M Fd vn V s0 S hM hFd hvn hs hS h0
      try dsimp only
      obtain ⟨x1, X1, x2, X2, V', S', q1, ⟨Y, q2, q2'⟩, q3, q4, q5, q6⟩ := model M Fd vn V s0 S hM hFd hvn hs hS h0
      by_cases hjn : j < n
      · have hq := h7 hjn
        refine ⟨dp + 1, vn + 1, V', s0 + k + 1, S', ?_⟩
        rw [q1]
        exact l_oth hM hβ hn hjn hq.1 hq.2 (by omega) (.inl (fun e => hj ⟨hjn, e⟩)) q2 q2'
      · refine ⟨dp + 1, vn + 1, V', s0 + k + 1, S', ?_⟩
        rw [q1]
        exact (l_end hM (by omega) (by omega) q2 q2' (by omega)).1 (by omega)
set_option maxRecDepth 8000 in
theorem nots_ok (hβ : ∀ i, i < n → β i ≤ 255) (hn : n ≤ 80) (hdp : dp ≤ 8) (hr : Nat.blt 27 rk = true) (hr' : Nat.blt 25 rk = true) (hrk : dp < 8 → Nat.blt (rkM 56 [vr 5 [4, 0], vi (oN (dp + 1))]) rk = true) :
    ∀ N a k, n - a ≤ N → a ≤ n → (∀ a', a < a' → a' ≤ n → dp < 8 → gR L xs n β (K56 L xs (dp + 1)) (jO L xs) Po (QO n β) (dp + 1) a') → (∃ f, nF L xs n β rk dp a k f) ∨ ∃ j cs v, nO L xs n β rk dp a k j cs v := by
  intro N
  induction N with
  | zero =>
    intro a k hN ha _
    refine .inl ⟨a, Nat.le_refl _, ha, ?_, ?_⟩
    · intro nt t hnt ht C m F hC hm
      try dsimp only
      rw [n_45 hβ hn hr' ha (by omega) ht (by omega) hC, n_98 hβ hn hr' ha hdp (.inl (by omega)) hC]
      obtain ⟨j, q, F', g⟩ := (bare_F (rk := rk) hn hr hr' (sum_F hβ hn (atomN (L := L) (xs := xs) hβ hn ha (by omega)))).2.2.1 nt (by omega) C m F hC (by omega)
      exact ⟨_, g, j, q, F', rfl⟩
    · intro M Fd vn V s0 S hM hFd hvn hs hS h0
      try dsimp only
      obtain ⟨x, g⟩ := (bare_F (rk := rk) hn hr hr' (sum_F hβ hn (atomN (L := L) (xs := xs) hβ hn ha (by omega)))).2.2.2 M Fd dp vn V (s0 + k) S hM hFd
      obtain ⟨V2, r1, r2, r3⟩ := q_232 (L := L) (xs := xs) (M := M) (a := a) (b := oN 1) (d := dp) (vn := vn) (V := upd V vn (vp_nar .boolean x)) (S := S) (by omega) (s0 := s0) (k := k) (by omega) hS h0
      refine ⟨dp, vn + 1, V2, s0, S, ?_⟩
      rw [l_tst hM hβ hn ha (by omega) (by omega) g r1]
      exact l_bad
  | succ N ih =>
    intro a k hN ha hO
    by_cases h33 : a < n ∧ β a = 33
    · obtain ⟨han, h33⟩ := h33
      rcases ih (a + 1) (k + 1) (by omega) han (fun a' h1 h2 h3 => hO a' (by omega) h2 h3) with ⟨f, q1, q2, q3, q4⟩ | ⟨j, cs, v, q1, q2, q3, q4, q5, q6, q7⟩
      · refine .inl ⟨f, by omega, q2, ?_, ?_⟩
        · intro nt t hnt ht C m F hC hm
          try dsimp only
          rw [hnt, n_4 hβ hn hr' han h33 ht hC]
          exact q3 _ (t + 1) rfl (by omega) C m F hC (by omega)
        · intro M Fd vn V s0 S hM hFd hvn hs hS h0
          try dsimp only
          rw [l_not hM hβ hn han (by omega) hdp h33]
          exact q4 M Fd vn V s0 _ hM hFd (by omega) (by omega) (fun i h1 h2 => by
            by_cases e : i = s0 + k
            · rw [e, upd_eq]
            · rw [upd_ne e]; exact hS i h1 (by omega)) (by rw [tp_congr (fun i hi => upd_ne (by omega))]; exact h0)
      · refine .inr ⟨j, cs, v, by omega, q2, by omega, q4, q5, ?_, ?_⟩
        · intro nt t hnt ht C m F hC hm
          try dsimp only
          rw [hnt, n_4 hβ hn hr' han h33 ht hC]
          exact q6 _ (t + 1) rfl (by omega) C m F hC (by omega)
        · intro M Fd vn V s0 S hM hFd hvn hs hS h0
          try dsimp only
          rw [l_not hM hβ hn han (by omega) hdp h33]
          obtain ⟨V', S', g1, g2, g3, g4⟩ := q7 M Fd vn V s0 (upd S (s0 + k) (oN 33)) hM hFd (by omega) (by omega) (fun i h1 h2 => by
            by_cases e : i = s0 + k
            · rw [e, upd_eq]
            · rw [upd_ne e]; exact hS i h1 (by omega)) (by rw [tp_congr (fun i hi => upd_ne (by omega))]; exact h0)
          exact ⟨V', S', g1, g2, g3, fun i hi => by rw [g4 i hi, upd_ne (by omega)]⟩
    · by_cases h40 : a < n ∧ β a = 40
      · obtain ⟨han, h40⟩ := h40
        by_cases h8 : dp < 8
        · rcases hO (a + 1) (by omega) han h8 with ⟨f, h⟩ | ⟨j, cs, v, h⟩
          · exact .inl ⟨f, brF hβ hn hr' (hrk h8) han h40 h8 h⟩
          · exact brO hβ hn hr' (hrk h8) han h40 h8 h
        · have h8 : dp = 8 := by omega
          have hno : ¬ (a < n ∧ ((48 ≤ β a ∧ β a ≤ 57) ∨ ∃ i, i < 12 ∧ fLet i = β a)) := by
            rintro ⟨_, q | ⟨i, q1, q2⟩⟩
            · omega
            · have := fLet_lt i q1; omega
          refine .inl ⟨a, Nat.le_refl _, ha, ?_, ?_⟩
          · intro nt t hnt ht C m F hC hm
            try dsimp only
            rw [n_45 hβ hn hr' ha (by omega) ht (by omega) hC, n_98 hβ hn hr' ha hdp (.inr h8) hC]
            obtain ⟨j, q, F', g⟩ := (bare_F (rk := rk) hn hr hr' (sum_F hβ hn (atomN (L := L) (xs := xs) hβ hn ha hno))).2.2.1 nt (by omega) C m F hC (by omega)
            exact ⟨_, g, j, q, F', rfl⟩
          · intro M Fd vn V s0 S hM hFd hvn hs hS h0
            try dsimp only
            subst h8
            exact ⟨8, vn, V, s0 + k, S, l_deep hM hβ hn han h40⟩
      · rcases bare_ok (L := L) (xs := xs) (rk := rk) hβ hn hr hr' ha with ⟨f, q1, q2, q3, q4⟩ | ⟨j, cs, v, q1, q2, q3, q4, q5, q6, q7⟩
        · refine .inl ⟨f, q1, q2, ?_, ?_⟩
          · intro nt t hnt ht C m F hC hm
            try dsimp only
            rw [n_45 hβ hn hr' ha (by omega) ht h33 hC, n_98 hβ hn hr' ha hdp (.inl h40) hC]
            obtain ⟨j, q, F', g⟩ := q3 nt (by omega) C m F hC (by omega)
            exact ⟨_, g, j, q, F', rfl⟩
          · intro M Fd vn V s0 S hM hFd hvn hs hS h0
            try dsimp only
            obtain ⟨x, g⟩ := q4 M Fd dp vn V (s0 + k) S hM hFd
            obtain ⟨V2, r1, r2, r3⟩ := q_232 (L := L) (xs := xs) (M := M) (a := f) (b := oN 1) (d := dp) (vn := vn) (V := upd V vn (vp_nar .boolean x)) (S := S) (by omega) (s0 := s0) (k := k) (by omega) hS h0
            refine ⟨dp, vn + 1, V2, s0, S, ?_⟩
            rw [l_tst hM hβ hn ha (by omega) (by omega) g r1]
            exact l_bad
        · refine .inr ⟨j, cs ++ nots (k % 2), fun F => (v F ^^ (k % 2 == 1)), q1, q2, ?_, ?_, ?_, ?_, ?_⟩
          · rw [List.length_append, nots_len]; omega
          · exact okc_app q4 nots_ok1
          · intro F s
            rw [ev_app, q5, ev_nots]
          · intro nt t hnt ht C m F hC hm
            try dsimp only
            rw [n_45 hβ hn hr' ha (by omega) ht h33 hC, n_98 hβ hn hr' ha hdp (.inl h40) hC, ← hnt]
            exact ⟨_, q6 nt (by omega) C m F hC (by omega), rfl⟩
          · intro M Fd vn V s0 S hM hFd hvn hs hS h0
            try dsimp only
            have g := q7 M Fd dp vn V (s0 + k) S hM hFd
            obtain ⟨V2, r1, r2, r3⟩ := q_232 (L := L) (xs := xs) (M := M) (a := j) (b := oN 0) (d := dp) (vn := vn) (V := upd V vn (vp_nar .boolean (b2 (v Fd)))) (S := S) (by omega) (s0 := s0) (k := k) (by omega) hS h0
            refine ⟨V2, S, ?_, r3 _ (by rw [upd_eq, b2_nar]), fun i hi => by rw [r2 i hi, upd_ne (by omega)], fun i hi => rfl⟩
            rw [l_tst hM hβ hn ha (by omega) (by omega) g r1]
end TextC
