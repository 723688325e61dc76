section Text8
variable {L : Nat} {xs : Nat → Int32} {C M : mM} {F : Nat → Int32} {n : Nat} {β : Nat → Nat} {a : Nat}
theorem sum_F (hβ : ∀ i, i < n → β i ≤ 255) {f : Nat} (hn : n ≤ 80) (h : rF L xs n β a f (k55 L xs) (k210 L xs)) : rF L xs n β a f (k57 L xs) (k211 L xs) := by
  obtain ⟨h1, h2, h3, h4⟩ := h
  refine ⟨h1, h2, ?_, ?_⟩
  · intro C m F hC hm
    obtain ⟨j, m', F', q⟩ := h3 C m F hC hm
    have q := kV_c (q : call _ _ _ _ _ = _)
    refine ⟨j, m', F', ?_⟩
    have fl := fl57t (L := L) (xs := xs) (C := C) (a := j) (m := m') (F := F') (f := f) (t := 0) (by omega) (by omega)
    unfold k57t at fl
    unfold k57
    rw [e_57]
    simp (disch := omega) only [↓Bool.cond_eq_ite, ↓reduceIte, Bool.false_eq_true, eq_self, n_lit, n_neg, n_add, n_mul, n_sub, n_subM, n_div, n_mod, n_addM, m_div, m_subn, n_tN, n_inS, n_eq_t, n_eq_f, n_ne_t, n_ne_f, n_lt_t, n_lt_f, n_ge_t, n_ge_f, n_gt_t, n_gt_f, n_le_t, n_le_f, mn_eq, mn_ne, mn_lt, mn_ge, mn_gt, mn_le, nm_eq, nm_ne, nm_lt, nm_ge, nm_gt, nm_le, n_gts_t, c_eq_refl, c_ne_refl, w_fold, w_2, wC_fold, lt_M, cond_true, cond_false, Bool.and_true, Bool.true_and, Bool.and_false, Bool.false_and, Bool.not_true, Bool.not_false, isZS_0, isZS_1, q, fl, Option.bind_some]
  · intro M Fd d vn V sn S hM hFd
    obtain ⟨x, q⟩ := h4 M Fd d vn V sn S hM hFd
    have q := kI_c (q : call _ _ _ _ _ = _)
    refine ⟨x, ?_⟩
    have fl := fl211t (L := L) (xs := xs) (M := M) (f := f) (d := d) (vn := vn) (sn := sn) (V := V) (S := S) (v := x)
    unfold k211t at fl
    unfold k211
    rw [e_211]
    simp (disch := omega) only [↓Bool.cond_eq_ite, ↓reduceIte, Bool.false_eq_true, eq_self, n_lit, n_neg, n_add, n_mul, n_sub, n_subM, n_div, n_mod, n_addM, m_div, m_subn, n_tN, n_inS, n_eq_t, n_eq_f, n_ne_t, n_ne_f, n_lt_t, n_lt_f, n_ge_t, n_ge_f, n_gt_t, n_gt_f, n_le_t, n_le_f, mn_eq, mn_ne, mn_lt, mn_ge, mn_gt, mn_le, nm_eq, nm_ne, nm_lt, nm_ge, nm_gt, nm_le, n_gts_t, c_eq_refl, c_ne_refl, w_fold, w_2, wC_fold, lt_M, cond_true, cond_false, Bool.and_true, Bool.true_and, Bool.and_false, Bool.false_and, Bool.not_true, Bool.not_false, isZS_0, isZS_1, q, fl, Option.bind_some]
theorem sum_ok (hβ : ∀ i, i < n → β i ≤ 255) (hn : n ≤ 80) (ha : a ≤ n) : (∃ f, rF L xs n β a f (k57 L xs) (k211 L xs)) ∨ (∃ j cs v, rO L xs n β a j cs v (k57 L xs) (k211 L xs)) := by
  rcases atom_ok (L := L) (xs := xs) hβ hn ha with ⟨f, h⟩ | ⟨j, cs, v, q1, q2, q3, q4, q5, q6, q7⟩
  · exact .inl ⟨f, sum_F hβ hn h⟩
  · have kc : ∀ C m F, cR C n β → m + (n - a) ≤ 80 → k57 L xs (tM C a (oM 4) m F) = k57t L xs 0 (tM C j (oM 4) (m + cs.length) (putL F m cs)) := fun C m F hC hm => by
      have q := kV_c (q6 C m F hC hm : call _ _ _ _ _ = _)
      unfold k57 k57t
      rw [e_57]
      simp (disch := omega) only [↓Bool.cond_eq_ite, ↓reduceIte, Bool.false_eq_true, eq_self, n_lit, n_neg, n_add, n_mul, n_sub, n_subM, n_div, n_mod, n_addM, m_div, m_subn, n_tN, n_inS, n_eq_t, n_eq_f, n_ne_t, n_ne_f, n_lt_t, n_lt_f, n_ge_t, n_ge_f, n_gt_t, n_gt_f, n_le_t, n_le_f, mn_eq, mn_ne, mn_lt, mn_ge, mn_gt, mn_le, nm_eq, nm_ne, nm_lt, nm_ge, nm_gt, nm_le, n_gts_t, c_eq_refl, c_ne_refl, w_fold, w_2, wC_fold, lt_M, cond_true, cond_false, Bool.and_true, Bool.true_and, Bool.and_false, Bool.false_and, Bool.not_true, Bool.not_false, isZS_0, isZS_1, q, Option.bind_some]
    have km : ∀ M Fd d vn V sn S, mTx M n (bM β) → mFd L xs M Fd → k211 L xs (pM M a (oN 0) d vn V sn S) = k211t L xs (v Fd) (pM M j (oN 0) d vn V sn S) := fun M Fd d vn V sn S hM hFd => by
      have q := kI_c (q7 M Fd d vn V sn S hM hFd : call _ _ _ _ _ = _)
      unfold k211 k211t
      rw [e_211]
      simp (disch := omega) only [↓Bool.cond_eq_ite, ↓reduceIte, Bool.false_eq_true, eq_self, n_lit, n_neg, n_add, n_mul, n_sub, n_subM, n_div, n_mod, n_addM, m_div, m_subn, n_tN, n_inS, n_eq_t, n_eq_f, n_ne_t, n_ne_f, n_lt_t, n_lt_f, n_ge_t, n_ge_f, n_gt_t, n_gt_f, n_le_t, n_le_f, mn_eq, mn_ne, mn_lt, mn_ge, mn_gt, mn_le, nm_eq, nm_ne, nm_lt, nm_ge, nm_gt, nm_le, n_gts_t, c_eq_refl, c_ne_refl, w_fold, w_2, wC_fold, lt_M, cond_true, cond_false, Bool.and_true, Bool.true_and, Bool.and_false, Bool.false_and, Bool.not_true, Bool.not_false, isZS_0, isZS_1, q, Option.bind_some]
    rcases sumT (L := L) (xs := xs) hβ hn (n - j) j 0 v (Nat.le_refl _) q2 (by omega) with ⟨f, r1, r2, r3, r4⟩ | ⟨j', cs', v', r1, r2, r3, r4, r5, r6, r7⟩
    · refine .inl ⟨f, by omega, r2, ?_, ?_⟩
      · intro C m F hC hm
        rw [kc C m F hC hm]
        exact r3 C _ _ hC (by omega)
      · intro M Fd d vn V sn S hM hFd
        rw [km M Fd d vn V sn S hM hFd]
        exact r4 M Fd d vn V sn S hM hFd
    · refine .inr ⟨j', cs ++ cs', v', by omega, r2, by rw [List.length_append]; omega, okc_app q4 r4, ?_, ?_, ?_⟩
      · intro F s
        rw [ev_app, q5, r5]
      · intro C m F hC hm
        rw [kc C m F hC hm, r6 C _ _ hC (by omega), putL_app, List.length_append, Nat.add_assoc]
      · intro M Fd d vn V sn S hM hFd
        rw [km M Fd d vn V sn S hM hFd]
        exact r7 M Fd d vn V sn S hM hFd
def nots (nt : Nat) : List Nat := if nt = 1 then [20033] else []
noncomputable def k58b (L : Nat) (xs : Nat → Int32) (rk nt : Nat) (C : mM) := run L xs 58 rk (98, [some (vr 5 [4, 0]), none, some (vi (oN nt)), none], [], C)
def cOn (n : Nat) (β : Nat → Nat) (a j : Nat) (cs : List Nat) (K : Nat → mM → Option (Option mV × mM)) : Prop :=
  ∀ nt, nt ≤ 1 → ∀ C m F, cR C n β → m + (n - a) + nt ≤ 80 → K nt (tM C a (oM 4) m F) = some (none, tM C j (oM 4) (m + (cs ++ nots nt).length) (putL F m (cs ++ nots nt)))
def cFn (n : Nat) (β : Nat → Nat) (a f : Nat) (K : Nat → mM → Option (Option mV × mM)) : Prop :=
  ∀ nt, nt ≤ 1 → ∀ C m F, cR C n β → m + (n - a) + nt ≤ 80 → ∃ j m' F', K nt (tM C a (oM 4) m F) = some (none, tM C j (oN f) m' F')
def bF (L : Nat) (xs : Nat → Int32) (n : Nat) (β : Nat → Nat) (rk a f : Nat) : Prop := a ≤ f ∧ f ≤ n ∧ cFn n β a f (k58b L xs rk) ∧ mdF L xs n β a f (k212 L xs)
def bO (L : Nat) (xs : Nat → Int32) (n : Nat) (β : Nat → Nat) (rk a j : Nat) (cs : List Nat) (v : (Nat → Int32) → Bool) : Prop :=
  a < j ∧ j ≤ n ∧ cs.length ≤ j - a ∧ okc cs ∧ (∀ F s, ev F cs s = b2 (v F) :: s) ∧ cOn n β a j cs (k58b L xs rk) ∧ mdO L xs n β a j (fun F => b2 (v F)) (k212 L xs)
variable {rk : Nat}
theorem bare_F (hn : n ≤ 80) {f : Nat} (hr : Nat.blt 27 rk = true) (hr' : Nat.blt 25 rk = true) (h : rF L xs n β a f (k57 L xs) (k211 L xs)) : bF L xs n β rk a f := by
  obtain ⟨h1, h2, h3, h4⟩ := h
  refine ⟨h1, h2, ?_, ?_⟩
  · intro nt hnt C m F hC hm
    obtain ⟨j, m', F', q⟩ := h3 C m F hC (by omega)
    have q := kV_c (q : call _ _ _ _ _ = _)
    refine ⟨j, m', F', ?_⟩
    unfold k58b
    rw [h_58_98]
    by_cases h0 : nt = 0
    · simp (disch := omega) only [↓Bool.cond_eq_ite, ↓reduceIte, Bool.false_eq_true, eq_self, n_lit, n_neg, n_add, n_mul, n_sub, n_subM, n_div, n_mod, n_addM, m_div, m_subn, n_tN, n_inS, n_eq_t, n_eq_f, n_ne_t, n_ne_f, n_lt_t, n_lt_f, n_ge_t, n_ge_f, n_gt_t, n_gt_f, n_le_t, n_le_f, mn_eq, mn_ne, mn_lt, mn_ge, mn_gt, mn_le, nm_eq, nm_ne, nm_lt, nm_ge, nm_gt, nm_le, n_gts_t, c_eq_refl, c_ne_refl, w_fold, w_2, wC_fold, lt_M, cond_true, cond_false, Bool.and_true, Bool.true_and, Bool.and_false, Bool.false_and, Bool.not_true, Bool.not_false, isZS_0, isZS_1, hr, hr', q, s_53f, s_59n, fl57, s_52n, Option.bind_some]
    · simp (disch := omega) only [↓Bool.cond_eq_ite, ↓reduceIte, Bool.false_eq_true, eq_self, n_lit, n_neg, n_add, n_mul, n_sub, n_subM, n_div, n_mod, n_addM, m_div, m_subn, n_tN, n_inS, n_eq_t, n_eq_f, n_ne_t, n_ne_f, n_lt_t, n_lt_f, n_ge_t, n_ge_f, n_gt_t, n_gt_f, n_le_t, n_le_f, mn_eq, mn_ne, mn_lt, mn_ge, mn_gt, mn_le, nm_eq, nm_ne, nm_lt, nm_ge, nm_gt, nm_le, n_gts_t, c_eq_refl, c_ne_refl, w_fold, w_2, wC_fold, lt_M, cond_true, cond_false, Bool.and_true, Bool.true_and, Bool.and_false, Bool.false_and, Bool.not_true, Bool.not_false, isZS_0, isZS_1, hr, hr', q, s_53f, s_59n, fl57, s_52n, Option.bind_some]
  · intro M Fd d vn V sn S hM hFd
    obtain ⟨x, q⟩ := h4 M Fd d vn V sn S hM hFd
    have q := kI_c (q : call _ _ _ _ _ = _)
    have k179 := p_179 (L := L) (xs := xs) (a := f) (b := oN 1) (d := d) (vn := vn) (V := V) (sn := sn) (S := S) hM (show f ≤ 80 by omega)
    refine ⟨oN 0, ?_⟩
    unfold k212
    rw [e_212]
    simp (disch := omega) only [↓Bool.cond_eq_ite, ↓reduceIte, Bool.false_eq_true, eq_self, n_lit, n_neg, n_add, n_mul, n_sub, n_subM, n_div, n_mod, n_addM, m_div, m_subn, n_tN, n_inS, n_eq_t, n_eq_f, n_ne_t, n_ne_f, n_lt_t, n_lt_f, n_ge_t, n_ge_f, n_gt_t, n_gt_f, n_le_t, n_le_f, mn_eq, mn_ne, mn_lt, mn_ge, mn_gt, mn_le, nm_eq, nm_ne, nm_lt, nm_ge, nm_gt, nm_le, n_gts_t, c_eq_refl, c_ne_refl, w_fold, w_2, wC_fold, lt_M, cond_true, cond_false, Bool.and_true, Bool.true_and, Bool.and_false, Bool.false_and, Bool.not_true, Bool.not_false, isZS_0, isZS_1, q, k179, pM_33, pM_w33, Option.bind_some]
theorem b2_n (x : Bool) : b2 (!x) = bif x then oN 0 else oN 1 := by cases x <;> rfl
set_option maxRecDepth 8000 in
theorem bare_ok (hβ : ∀ i, i < n → β i ≤ 255) (hn : n ≤ 80) (hr : Nat.blt 27 rk = true) (hr' : Nat.blt 25 rk = true) (ha : a ≤ n) : (∃ f, bF L xs n β rk a f) ∨ (∃ j cs v, bO L xs n β rk a j cs v) := by
  rcases sum_ok (L := L) (xs := xs) hβ hn ha with ⟨f, h⟩ | ⟨j, cs, v, q1, q2, q3, q4, q5, q6, q7⟩
  · exact .inl ⟨f, bare_F hn hr hr' h⟩
  · by_cases hs : j < n ∧ (β j = 60 ∨ β j = 62 ∨ β j = 61)
    · obtain ⟨hjn, hs⟩ := hs
      have hx := (lC_eq hβ (i := j) (c := β j) (by omega)).mpr ⟨hjn, rfl⟩
      have hy := (lM_eq hβ (i := j) (c := β j) (by omega)).mpr ⟨hjn, rfl⟩
      have hc : ∀ C m F, cR C n β → kI L xs 53 [vr 5 [4, 0]] (tM C j (oM 4) m F) = some (oN (β j), tM C j (oM 4) m F) := fun C m F hC => by
        rw [← hx]; exact c_53 hC hn (by omega)
      have hm : ∀ M d vn V sn S, mTx M n (bM β) → kI L xs 179 [vr 10 [1]] (pM M j (oN 0) d vn V sn S) = some (oN (β j), pM M j (oN 0) d vn V sn S) := fun M d vn V sn S hM => by
        rw [← hy]; exact p_179 hM (by omega)
      rcases sum_ok (L := L) (xs := xs) hβ hn (show j + 1 ≤ n by omega) with ⟨f, r1, r2, r3, r4⟩ | ⟨j', cs', v', r1, r2, r3, r4, r5, r6, r7⟩
      · refine .inl ⟨f, by omega, r2, ?_, ?_⟩
        · intro nt hnt C m F hC hmm
          have q := kV_c (q6 C m F hC (by omega) : call _ _ _ _ _ = _)
          obtain ⟨j2, m', F', g⟩ := r3 C (m + cs.length) (putL F m cs) hC (by omega)
          have g := kV_c (g : call _ _ _ _ _ = _)
          have k53 := hc C (m + cs.length) (putL F m cs) hC
          refine ⟨j2, m', F', ?_⟩
          unfold k58b
          rw [h_58_98]
          by_cases h0 : nt = 0
          · rcases hs with e | e | e <;> rw [e] at k53 <;> simp (disch := omega) only [↓Bool.cond_eq_ite, ↓reduceIte, Bool.false_eq_true, eq_self, n_lit, n_neg, n_add, n_mul, n_sub, n_subM, n_div, n_mod, n_addM, m_div, m_subn, n_tN, n_inS, n_eq_t, n_eq_f, n_ne_t, n_ne_f, n_lt_t, n_lt_f, n_ge_t, n_ge_f, n_gt_t, n_gt_f, n_le_t, n_le_f, mn_eq, mn_ne, mn_lt, mn_ge, mn_gt, mn_le, nm_eq, nm_ne, nm_lt, nm_ge, nm_gt, nm_le, n_gts_t, c_eq_refl, c_ne_refl, w_fold, w_2, wC_fold, lt_M, cond_true, cond_false, Bool.and_true, Bool.true_and, Bool.and_false, Bool.false_and, Bool.not_true, Bool.not_false, isZS_0, isZS_1, hr, hr', q, k53, s_59t, g, s_52n, Option.bind_some]
          · rcases hs with e | e | e <;> rw [e] at k53 <;> simp (disch := omega) only [↓Bool.cond_eq_ite, ↓reduceIte, Bool.false_eq_true, eq_self, n_lit, n_neg, n_add, n_mul, n_sub, n_subM, n_div, n_mod, n_addM, m_div, m_subn, n_tN, n_inS, n_eq_t, n_eq_f, n_ne_t, n_ne_f, n_lt_t, n_lt_f, n_ge_t, n_ge_f, n_gt_t, n_gt_f, n_le_t, n_le_f, mn_eq, mn_ne, mn_lt, mn_ge, mn_gt, mn_le, nm_eq, nm_ne, nm_lt, nm_ge, nm_gt, nm_le, n_gts_t, c_eq_refl, c_ne_refl, w_fold, w_2, wC_fold, lt_M, cond_true, cond_false, Bool.and_true, Bool.true_and, Bool.and_false, Bool.false_and, Bool.not_true, Bool.not_false, isZS_0, isZS_1, hr, hr', q, k53, s_59t, g, s_52n, Option.bind_some]
        · intro M Fd d vn V sn S hM hFd
          have q := kI_c (q7 M Fd d vn V sn S hM hFd : call _ _ _ _ _ = _)
          obtain ⟨x, g⟩ := r4 M Fd d vn V sn S hM hFd
          have g := kI_c (g : call _ _ _ _ _ = _)
          have k179 := hm M d vn V sn S hM
          unfold k212
          rw [e_212, q, Option.bind_some]
          dsimp only
          rw [k179, Option.bind_some]
          dsimp only
          rw [pM_33]
          rcases hs with e | e | e <;> rw [e] <;> simp (disch := omega) only [↓Bool.cond_eq_ite, ↓reduceIte, Bool.false_eq_true, eq_self, n_lit, n_neg, n_add, n_mul, n_sub, n_subM, n_div, n_mod, n_addM, m_div, m_subn, n_tN, n_inS, n_eq_t, n_eq_f, n_ne_t, n_ne_f, n_lt_t, n_lt_f, n_ge_t, n_ge_f, n_gt_t, n_gt_f, n_le_t, n_le_f, mn_eq, mn_ne, mn_lt, mn_ge, mn_gt, mn_le, nm_eq, nm_ne, nm_lt, nm_ge, nm_gt, nm_le, n_gts_t, c_eq_refl, c_ne_refl, w_fold, w_2, wC_fold, lt_M, cond_true, cond_false, Bool.and_true, Bool.true_and, Bool.and_false, Bool.false_and, Bool.not_true, Bool.not_false, isZS_0, isZS_1, pM_33, pM_32, pM_w32, g, Option.bind_some]
          · cases cmpS .ge (v Fd) x
            · exact ⟨_, rfl⟩
            · exact ⟨_, rfl⟩
          · cases cmpS .le (v Fd) x
            · exact ⟨_, rfl⟩
            · exact ⟨_, rfl⟩
          · cases cmpS .ne (v Fd) x
            · exact ⟨_, rfl⟩
            · exact ⟨_, rfl⟩
      · have hlen : (cs ++ cs' ++ [20000 + β j]).length = cs.length + cs'.length + 1 := by rw [List.length_append, List.length_append]; rfl
        refine .inr ⟨j', cs ++ cs' ++ [20000 + β j], fun F => if β j = 60 then !cmpS .ge (v F) (v' F) else if β j = 62 then !cmpS .le (v F) (v' F) else !cmpS .ne (v F) (v' F), by omega, r2, by rw [hlen]; omega, okc_app (okc_app q4 r4) (okc_1 (by omega)), ?_, ?_, ?_⟩
        · intro F s
          rw [ev_app, ev_app, q5, r5, ev_s (by omega)]
          unfold jn
          rcases hs with e | e | e <;> simp [e]
        · intro nt hnt C m F hC hmm
          have q := kV_c (q6 C m F hC (by omega) : call _ _ _ _ _ = _)
          have g := kV_c (r6 C (m + cs.length) (putL F m cs) hC (by omega) : call _ _ _ _ _ = _)
          have k53 := hc C (m + cs.length) (putL F m cs) hC
          rw [putL_app, Nat.add_assoc, ← List.length_append] at g
          have hl : (cs ++ cs').length = cs.length + cs'.length := List.length_append
          unfold k58b
          rw [h_58_98]
          by_cases h0 : nt = 0
          · subst h0
            rw [show nots 0 = [] from rfl, List.append_nil, hlen, ← putL_app, ← putL_1]
            rcases hs with e | e | e <;> rw [e] at k53 ⊢ <;> simp (disch := omega) only [↓Bool.cond_eq_ite, ↓reduceIte, Bool.false_eq_true, eq_self, n_lit, n_neg, n_add, n_mul, n_sub, n_subM, n_div, n_mod, n_addM, m_div, m_subn, n_tN, n_inS, n_eq_t, n_eq_f, n_ne_t, n_ne_f, n_lt_t, n_lt_f, n_ge_t, n_ge_f, n_gt_t, n_gt_f, n_le_t, n_le_f, mn_eq, mn_ne, mn_lt, mn_ge, mn_gt, mn_le, nm_eq, nm_ne, nm_lt, nm_ge, nm_gt, nm_le, n_gts_t, c_eq_refl, c_ne_refl, w_fold, w_2, wC_fold, lt_M, cond_true, cond_false, Bool.and_true, Bool.true_and, Bool.and_false, Bool.false_and, Bool.not_true, Bool.not_false, isZS_0, isZS_1, hr, hr', q, k53, s_59t, g, s_52, Option.bind_some, hl, Nat.add_assoc]
          · have h1 : nt = 1 := by omega
            subst h1
            rw [show nots 1 = [20033] from rfl, ← putL_app, ← putL_app, ← putL_1, ← putL_1, List.length_append, hlen]
            rcases hs with e | e | e <;> rw [e] at k53 ⊢ <;> simp (disch := omega) only [↓Bool.cond_eq_ite, ↓reduceIte, Bool.false_eq_true, eq_self, n_lit, n_neg, n_add, n_mul, n_sub, n_subM, n_div, n_mod, n_addM, m_div, m_subn, n_tN, n_inS, n_eq_t, n_eq_f, n_ne_t, n_ne_f, n_lt_t, n_lt_f, n_ge_t, n_ge_f, n_gt_t, n_gt_f, n_le_t, n_le_f, mn_eq, mn_ne, mn_lt, mn_ge, mn_gt, mn_le, nm_eq, nm_ne, nm_lt, nm_ge, nm_gt, nm_le, n_gts_t, c_eq_refl, c_ne_refl, w_fold, w_2, wC_fold, lt_M, cond_true, cond_false, Bool.and_true, Bool.true_and, Bool.and_false, Bool.false_and, Bool.not_true, Bool.not_false, isZS_0, isZS_1, hr, hr', q, k53, s_59t, g, s_52, Option.bind_some, hl, Nat.add_assoc, List.length_singleton]
        · intro M Fd d vn V sn S hM hFd
          have q := kI_c (q7 M Fd d vn V sn S hM hFd : call _ _ _ _ _ = _)
          have g := kI_c (r7 M Fd d vn V sn S hM hFd : call _ _ _ _ _ = _)
          have k179 := hm M d vn V sn S hM
          unfold k212
          rw [e_212, q, Option.bind_some]
          dsimp only
          rw [k179, Option.bind_some]
          dsimp only
          rw [pM_33]
          rcases hs with e | e | e <;> rw [e] <;> simp (disch := omega) only [↓Bool.cond_eq_ite, ↓reduceIte, Bool.false_eq_true, eq_self, n_lit, n_neg, n_add, n_mul, n_sub, n_subM, n_div, n_mod, n_addM, m_div, m_subn, n_tN, n_inS, n_eq_t, n_eq_f, n_ne_t, n_ne_f, n_lt_t, n_lt_f, n_ge_t, n_ge_f, n_gt_t, n_gt_f, n_le_t, n_le_f, mn_eq, mn_ne, mn_lt, mn_ge, mn_gt, mn_le, nm_eq, nm_ne, nm_lt, nm_ge, nm_gt, nm_le, n_gts_t, c_eq_refl, c_ne_refl, w_fold, w_2, wC_fold, lt_M, cond_true, cond_false, Bool.and_true, Bool.true_and, Bool.and_false, Bool.false_and, Bool.not_true, Bool.not_false, isZS_0, isZS_1, pM_33, pM_32, pM_w32, g, Option.bind_some]
          · cases cmpS .ge (v Fd) (v' Fd) <;> rfl
          · cases cmpS .le (v Fd) (v' Fd) <;> rfl
          · cases cmpS .ne (v Fd) (v' Fd) <;> rfl
    · refine .inl ⟨j, by omega, q2, ?_, ?_⟩
      · intro nt hnt C m F hC hm
        have q := kV_c (q6 C m F hC (by omega) : call _ _ _ _ _ = _)
        have k53 := c_53 (L := L) (xs := xs) (m := m + cs.length) (F := putL F m cs) hC hn (show j ≤ 80 by omega)
        have e1 := c_eq_h (fun e => hs ⟨((lC_eq hβ (by omega)).mp e).1, .inl ((lC_eq hβ (by omega)).mp e).2⟩ : ¬ lAt (bC β) n j = oN 60)
        have e2 := c_eq_h (fun e => hs ⟨((lC_eq hβ (by omega)).mp e).1, .inr (.inl ((lC_eq hβ (by omega)).mp e).2)⟩ : ¬ lAt (bC β) n j = oN 62)
        have e3 := c_ne_h (fun e => hs ⟨((lC_eq hβ (by omega)).mp e).1, .inr (.inr ((lC_eq hβ (by omega)).mp e).2)⟩ : ¬ lAt (bC β) n j = oN 61)
        refine ⟨j, m + cs.length, putL F m cs, ?_⟩
        unfold k58b
        rw [h_58_98]
        by_cases h0 : nt = 0
        · simp (disch := omega) only [↓Bool.cond_eq_ite, ↓reduceIte, Bool.false_eq_true, eq_self, n_lit, n_neg, n_add, n_mul, n_sub, n_subM, n_div, n_mod, n_addM, m_div, m_subn, n_tN, n_inS, n_eq_t, n_eq_f, n_ne_t, n_ne_f, n_lt_t, n_lt_f, n_ge_t, n_ge_f, n_gt_t, n_gt_f, n_le_t, n_le_f, mn_eq, mn_ne, mn_lt, mn_ge, mn_gt, mn_le, nm_eq, nm_ne, nm_lt, nm_ge, nm_gt, nm_le, n_gts_t, c_eq_refl, c_ne_refl, w_fold, w_2, wC_fold, lt_M, cond_true, cond_false, Bool.and_true, Bool.true_and, Bool.and_false, Bool.false_and, Bool.not_true, Bool.not_false, isZS_0, isZS_1, hr, hr', q, k53, e1, e2, e3, s_59f, fl57, s_52n, Option.bind_some]
        · simp (disch := omega) only [↓Bool.cond_eq_ite, ↓reduceIte, Bool.false_eq_true, eq_self, n_lit, n_neg, n_add, n_mul, n_sub, n_subM, n_div, n_mod, n_addM, m_div, m_subn, n_tN, n_inS, n_eq_t, n_eq_f, n_ne_t, n_ne_f, n_lt_t, n_lt_f, n_ge_t, n_ge_f, n_gt_t, n_gt_f, n_le_t, n_le_f, mn_eq, mn_ne, mn_lt, mn_ge, mn_gt, mn_le, nm_eq, nm_ne, nm_lt, nm_ge, nm_gt, nm_le, n_gts_t, c_eq_refl, c_ne_refl, w_fold, w_2, wC_fold, lt_M, cond_true, cond_false, Bool.and_true, Bool.true_and, Bool.and_false, Bool.false_and, Bool.not_true, Bool.not_false, isZS_0, isZS_1, hr, hr', q, k53, e1, e2, e3, s_59f, fl57, s_52n, Option.bind_some]
      · intro M Fd d vn V sn S hM hFd
        have q := kI_c (q7 M Fd d vn V sn S hM hFd : call _ _ _ _ _ = _)
        have k179 := p_179 (L := L) (xs := xs) (b := oN 0) (d := d) (vn := vn) (V := V) (sn := sn) (S := S) hM (show j ≤ 80 by omega)
        have e1 := c_eq_h (fun e => hs ⟨((lM_eq hβ (by omega)).mp e).1, .inl ((lM_eq hβ (by omega)).mp e).2⟩ : ¬ lAt (bM β) n j = oN 60)
        have e2 := c_eq_h (fun e => hs ⟨((lM_eq hβ (by omega)).mp e).1, .inr (.inl ((lM_eq hβ (by omega)).mp e).2)⟩ : ¬ lAt (bM β) n j = oN 62)
        have e3 := c_eq_h (fun e => hs ⟨((lM_eq hβ (by omega)).mp e).1, .inr (.inr ((lM_eq hβ (by omega)).mp e).2)⟩ : ¬ lAt (bM β) n j = oN 61)
        refine ⟨oN 0, ?_⟩
        unfold k212
        rw [e_212, q, Option.bind_some]
        dsimp only
        rw [k179, Option.bind_some]
        dsimp only
        rw [pM_33]
        simp (disch := omega) only [↓Bool.cond_eq_ite, ↓reduceIte, Bool.false_eq_true, eq_self, n_lit, n_neg, n_add, n_mul, n_sub, n_subM, n_div, n_mod, n_addM, m_div, m_subn, n_tN, n_inS, n_eq_t, n_eq_f, n_ne_t, n_ne_f, n_lt_t, n_lt_f, n_ge_t, n_ge_f, n_gt_t, n_gt_f, n_le_t, n_le_f, mn_eq, mn_ne, mn_lt, mn_ge, mn_gt, mn_le, nm_eq, nm_ne, nm_lt, nm_ge, nm_gt, nm_le, n_gts_t, c_eq_refl, c_ne_refl, w_fold, w_2, wC_fold, lt_M, cond_true, cond_false, Bool.and_true, Bool.true_and, Bool.and_false, Bool.false_and, Bool.not_true, Bool.not_false, isZS_0, isZS_1, e1, e2, e3, pM_33, pM_w33, Option.bind_some]
end Text8
