section Text7
variable {L : Nat} {xs : Nat → Int32} {C M : mM} {F : Nat → Int32} {n : Nat} {β : Nat → Nat} {a : Nat}
set_option maxRecDepth 8000 in
theorem atomD (hβ : ∀ i, i < n → β i ≤ 255) (hn : n ≤ 80) (h : a < n) (hd : 48 ≤ β a ∧ β a ≤ 57) : ∃ j cs v, rO L xs n β a j cs v (k55 L xs) (k210 L xs) := by
  have hx := (lC_eq hβ (i := a) (c := β a) (by omega)).mpr ⟨h, rfl⟩
  have hy := (lM_eq hβ (i := a) (c := β a) (by omega)).mpr ⟨h, rfl⟩
  obtain ⟨j, v, i1, i2, i3, i4, i5⟩ := num_ok (L := L) (xs := xs) hβ hn hd 3 1 (β a - 48) (a + 1) (by omega) (by omega) (by omega) (by omega)
  refine ⟨j, [v], fun _ => oN v, by omega, i2, by show 1 ≤ _; omega, okc_1 (by omega), fun F s => ev_n (by omega), ?_, ?_⟩
  · intro C m F hC hm
    have k53 := c_53 (L := L) (xs := xs) (m := m) (F := F) hC hn (show a ≤ 80 by omega)
    rw [hx] at k53
    have k48 := s_48 (L := L) (xs := xs) (C := tM C a (oM 4) m F) (k := β a) (by omega)
    rw [if_pos hd] at k48
    have e : sIx ((oN (β a)).toUInt32 % 65536).toInt32 = oM 1 := by
      rw [sIx_c _ (by omega)]
      rcases sIx_n (β a) (by omega) with ⟨i, q1, q2⟩ | q
      · have := fLet_lt i q1; omega
      · exact q
    have := i4 C m F hC (by omega)
    unfold k55
    rw [e_55]
    simp (disch := omega) only [↓Bool.cond_eq_ite, ↓reduceIte, Bool.false_eq_true, eq_self, n_lit, n_neg, n_add, n_mul, n_sub, n_subM, n_div, n_mod, n_addM, m_div, m_subn, n_tN, n_inS, n_eq_t, n_eq_f, n_ne_t, n_ne_f, n_lt_t, n_lt_f, n_ge_t, n_ge_f, n_gt_t, n_gt_f, n_le_t, n_le_f, mn_eq, mn_ne, mn_lt, mn_ge, mn_gt, mn_le, nm_eq, nm_ne, nm_lt, nm_ge, nm_gt, nm_le, n_gts_t, c_eq_refl, c_ne_refl, w_fold, w_2, wC_fold, lt_M, cond_true, cond_false, Bool.and_true, Bool.true_and, Bool.and_false, Bool.false_and, Bool.not_true, Bool.not_false, isZS_0, isZS_1, k53, k48, e, s_59t, Option.bind_some]
    exact this
  · intro M Fd d vn V sn S hM hFd
    have k179 := p_179 (L := L) (xs := xs) (b := oN 0) (d := d) (vn := vn) (V := V) (sn := sn) (S := S) hM (show a ≤ 80 by omega)
    rw [hy] at k179
    have := i5 M d vn V sn S hM
    unfold k210
    rw [e_210, k179, Option.bind_some]
    have h48 : ¬ β a < 48 := by omega
    simp (disch := omega) only [↓Bool.cond_eq_ite, ↓reduceIte, Bool.false_eq_true, eq_self, n_lit, n_neg, n_add, n_mul, n_sub, n_subM, n_div, n_mod, n_addM, m_div, m_subn, n_tN, n_inS, n_eq_t, n_eq_f, n_ne_t, n_ne_f, n_lt_t, n_lt_f, n_ge_t, n_ge_f, n_gt_t, n_gt_f, n_le_t, n_le_f, mn_eq, mn_ne, mn_lt, mn_ge, mn_gt, mn_le, nm_eq, nm_ne, nm_lt, nm_ge, nm_gt, nm_le, n_gts_t, c_eq_refl, c_ne_refl, w_fold, w_2, wC_fold, lt_M, cond_true, cond_false, Bool.and_true, Bool.true_and, Bool.and_false, Bool.false_and, Bool.not_true, Bool.not_false, isZS_0, isZS_1, pM_32, pM_w32, Option.bind_some]
    exact this
set_option maxRecDepth 8000 in
theorem atomF (hβ : ∀ i, i < n → β i ≤ 255) (hn : n ≤ 80) (h : a < n) {i : Nat} (hi : i < 12) (hd : fLet i = β a) : ∃ j cs v, rO L xs n β a j cs v (k55 L xs) (k210 L xs) := by
  have hf := fLet_lt i hi
  have hx := (lC_eq hβ (i := a) (c := β a) (by omega)).mpr ⟨h, rfl⟩
  have hy := (lM_eq hβ (i := a) (c := β a) (by omega)).mpr ⟨h, rfl⟩
  refine ⟨a + 1, [10000 + i], fun F => F i, by omega, h, by show 1 ≤ _; omega, okc_1 (by omega), fun F s => ev_f (by omega), ?_, ?_⟩
  · intro C m F hC hm
    have k53 := c_53 (L := L) (xs := xs) (m := m) (F := F) hC hn (show a ≤ 80 by omega)
    rw [hx] at k53
    have e : sIx ((oN (β a)).toUInt32 % 65536).toInt32 = oN i := by
      rw [sIx_c _ (by omega), ← hd]
      exact sIx_f i hi
    unfold k55
    rw [e_55]
    simp (disch := omega) only [↓Bool.cond_eq_ite, ↓reduceIte, Bool.false_eq_true, eq_self, n_lit, n_neg, n_add, n_mul, n_sub, n_subM, n_div, n_mod, n_addM, m_div, m_subn, n_tN, n_inS, n_eq_t, n_eq_f, n_ne_t, n_ne_f, n_lt_t, n_lt_f, n_ge_t, n_ge_f, n_gt_t, n_gt_f, n_le_t, n_le_f, mn_eq, mn_ne, mn_lt, mn_ge, mn_gt, mn_le, nm_eq, nm_ne, nm_lt, nm_ge, nm_gt, nm_le, n_gts_t, c_eq_refl, c_ne_refl, w_fold, w_2, wC_fold, lt_M, cond_true, cond_false, Bool.and_true, Bool.true_and, Bool.and_false, Bool.false_and, Bool.not_true, Bool.not_false, isZS_0, isZS_1, k53, e, s_59t, s_52, Option.bind_some]
    rfl
  · intro M Fd d vn V sn S hM hFd
    have k179 := p_179 (L := L) (xs := xs) (b := oN 0) (d := d) (vn := vn) (V := V) (sn := sn) (S := S) hM (show a ≤ 80 by omega)
    rw [hy, ← hd] at k179
    unfold k210
    rw [e_210, k179, Option.bind_some]
    clear hd hx hy k179
    have hc : i = 0 ∨ i = 1 ∨ i = 2 ∨ i = 3 ∨ i = 4 ∨ i = 5 ∨ i = 6 ∨ i = 7 ∨ i = 8 ∨ i = 9 ∨ i = 10 ∨ i = 11 := by omega
    rcases hFd with ⟨h29, hFd⟩ | ⟨h29, hFd⟩
    · have h166 := hFd i hi (a + 1) (oN 0) d vn V sn S
      rcases hc with e | e | e | e | e | e | e | e | e | e | e | e <;> subst e <;> simp only [fLet] at h166 ⊢ <;>
        simp (disch := omega) only [↓Bool.cond_eq_ite, ↓reduceIte, Bool.false_eq_true, eq_self, n_lit, n_neg, n_add, n_mul, n_sub, n_subM, n_div, n_mod, n_addM, m_div, m_subn, n_tN, n_inS, n_eq_t, n_eq_f, n_ne_t, n_ne_f, n_lt_t, n_lt_f, n_ge_t, n_ge_f, n_gt_t, n_gt_f, n_le_t, n_le_f, mn_eq, mn_ne, mn_lt, mn_ge, mn_gt, mn_le, nm_eq, nm_ne, nm_lt, nm_ge, nm_gt, nm_le, n_gts_t, c_eq_refl, c_ne_refl, w_fold, w_2, wC_fold, lt_M, cond_true, cond_false, Bool.and_true, Bool.true_and, Bool.and_false, Bool.false_and, Bool.not_true, Bool.not_false, isZS_0, isZS_1, pM_32, pM_w32, pM_29, h29, h166, Option.bind_some]
    · have h166 := hFd i hi
      rcases hc with e | e | e | e | e | e | e | e | e | e | e | e <;> subst e <;> simp only [fLet] at h166 ⊢ <;>
        simp (disch := omega) only [↓Bool.cond_eq_ite, ↓reduceIte, Bool.false_eq_true, eq_self, n_lit, n_neg, n_add, n_mul, n_sub, n_subM, n_div, n_mod, n_addM, m_div, m_subn, n_tN, n_inS, n_eq_t, n_eq_f, n_ne_t, n_ne_f, n_lt_t, n_lt_f, n_ge_t, n_ge_f, n_gt_t, n_gt_f, n_le_t, n_le_f, mn_eq, mn_ne, mn_lt, mn_ge, mn_gt, mn_le, nm_eq, nm_ne, nm_lt, nm_ge, nm_gt, nm_le, n_gts_t, c_eq_refl, c_ne_refl, w_fold, w_2, wC_fold, lt_M, cond_true, cond_false, Bool.and_true, Bool.true_and, Bool.and_false, Bool.false_and, Bool.not_true, Bool.not_false, isZS_0, isZS_1, pM_32, pM_w32, pM_29, h29, h166, Option.bind_some]
theorem atom_ok (hβ : ∀ i, i < n → β i ≤ 255) (hn : n ≤ 80) (ha : a ≤ n) : (∃ f, rF L xs n β a f (k55 L xs) (k210 L xs)) ∨ (∃ j cs v, rO L xs n β a j cs v (k55 L xs) (k210 L xs)) := by
  by_cases h : a < n ∧ ((48 ≤ β a ∧ β a ≤ 57) ∨ ∃ i, i < 12 ∧ fLet i = β a)
  · obtain ⟨h, h1 | ⟨i, h1, h2⟩⟩ := h
    · exact .inr (atomD hβ hn h h1)
    · exact .inr (atomF hβ hn h h1 h2)
  · exact .inl ⟨a, atomN hβ hn ha h⟩
theorem fl55 {f m : Nat} (hf : f ≤ 100) : kV L xs 55 [vr 5 [4, 0]] (tM C a (oN f) m F) = some (tM C a (oN f) m F) := by
  refine kV_of ?_
  rw [e_55]
  simp (disch := omega) only [↓Bool.cond_eq_ite, ↓reduceIte, Bool.false_eq_true, eq_self, n_lit, n_neg, n_add, n_mul, n_sub, n_subM, n_div, n_mod, n_addM, m_div, m_subn, n_tN, n_inS, n_eq_t, n_eq_f, n_ne_t, n_ne_f, n_lt_t, n_lt_f, n_ge_t, n_ge_f, n_gt_t, n_gt_f, n_le_t, n_le_f, mn_eq, mn_ne, mn_lt, mn_ge, mn_gt, mn_le, nm_eq, nm_ne, nm_lt, nm_ge, nm_gt, nm_le, n_gts_t, c_eq_refl, c_ne_refl, w_fold, w_2, wC_fold, lt_M, cond_true, cond_false, Bool.and_true, Bool.true_and, Bool.and_false, Bool.false_and, Bool.not_true, Bool.not_false, isZS_0, isZS_1, s_53f, s_48M, s_59n, Option.bind_some]
  rw [h_55_63]
  simp (disch := omega) only [↓Bool.cond_eq_ite, ↓reduceIte, Bool.false_eq_true, eq_self, n_lit, n_neg, n_add, n_mul, n_sub, n_subM, n_div, n_mod, n_addM, m_div, m_subn, n_tN, n_inS, n_eq_t, n_eq_f, n_ne_t, n_ne_f, n_lt_t, n_lt_f, n_ge_t, n_ge_f, n_gt_t, n_gt_f, n_le_t, n_le_f, mn_eq, mn_ne, mn_lt, mn_ge, mn_gt, mn_le, nm_eq, nm_ne, nm_lt, nm_ge, nm_gt, nm_le, n_gts_t, c_eq_refl, c_ne_refl, w_fold, w_2, wC_fold, lt_M, cond_true, cond_false, Bool.and_true, Bool.true_and, Bool.and_false, Bool.false_and, Bool.not_true, Bool.not_false, isZS_0, isZS_1, s_52n, Option.bind_some]
theorem fl57 {f m : Nat} (hf : f ≤ 100) : kV L xs 57 [vr 5 [4, 0]] (tM C a (oN f) m F) = some (tM C a (oN f) m F) := by
  refine kV_of ?_
  rw [e_57]
  simp (disch := omega) only [↓Bool.cond_eq_ite, ↓reduceIte, Bool.false_eq_true, eq_self, n_lit, n_neg, n_add, n_mul, n_sub, n_subM, n_div, n_mod, n_addM, m_div, m_subn, n_tN, n_inS, n_eq_t, n_eq_f, n_ne_t, n_ne_f, n_lt_t, n_lt_f, n_ge_t, n_ge_f, n_gt_t, n_gt_f, n_le_t, n_le_f, mn_eq, mn_ne, mn_lt, mn_ge, mn_gt, mn_le, nm_eq, nm_ne, nm_lt, nm_ge, nm_gt, nm_le, n_gts_t, c_eq_refl, c_ne_refl, w_fold, w_2, wC_fold, lt_M, cond_true, cond_false, Bool.and_true, Bool.true_and, Bool.and_false, Bool.false_and, Bool.not_true, Bool.not_false, isZS_0, isZS_1, fl55, Option.bind_some]
  rw [h_57_6]
  simp (disch := omega) only [↓Bool.cond_eq_ite, ↓reduceIte, Bool.false_eq_true, eq_self, n_lit, n_neg, n_add, n_mul, n_sub, n_subM, n_div, n_mod, n_addM, m_div, m_subn, n_tN, n_inS, n_eq_t, n_eq_f, n_ne_t, n_ne_f, n_lt_t, n_lt_f, n_ge_t, n_ge_f, n_gt_t, n_gt_f, n_le_t, n_le_f, mn_eq, mn_ne, mn_lt, mn_ge, mn_gt, mn_le, nm_eq, nm_ne, nm_lt, nm_ge, nm_gt, nm_le, n_gts_t, c_eq_refl, c_ne_refl, w_fold, w_2, wC_fold, lt_M, cond_true, cond_false, Bool.and_true, Bool.true_and, Bool.and_false, Bool.false_and, Bool.not_true, Bool.not_false, isZS_0, isZS_1, s_53f, Option.bind_some]
noncomputable def k57t (L : Nat) (xs : Nat → Int32) (t : Nat) (C : mM) := run L xs 57 27 (6, [some (vr 5 [4, 0]), some (vi (oN t)), none], [], C)
noncomputable def k211t (L : Nat) (xs : Nat → Int32) (v : Int32) (M : mM) := run L xs 211 30 (5, [some (vr 10 [1]), some (vi v), none, none], [], M)
theorem fl57t {f m t : Nat} (hf : f ≤ 100) (ht : t ≤ 100) : k57t L xs t (tM C a (oN f) m F) = some (none, tM C a (oN f) m F) := by
  unfold k57t
  rw [h_57_6]
  by_cases h : 80 ≤ t
  · simp (disch := omega) only [↓Bool.cond_eq_ite, ↓reduceIte, Bool.false_eq_true, eq_self, n_lit, n_neg, n_add, n_mul, n_sub, n_subM, n_div, n_mod, n_addM, m_div, m_subn, n_tN, n_inS, n_eq_t, n_eq_f, n_ne_t, n_ne_f, n_lt_t, n_lt_f, n_ge_t, n_ge_f, n_gt_t, n_gt_f, n_le_t, n_le_f, mn_eq, mn_ne, mn_lt, mn_ge, mn_gt, mn_le, nm_eq, nm_ne, nm_lt, nm_ge, nm_gt, nm_le, n_gts_t, c_eq_refl, c_ne_refl, w_fold, w_2, wC_fold, lt_M, cond_true, cond_false, Bool.and_true, Bool.true_and, Bool.and_false, Bool.false_and, Bool.not_true, Bool.not_false, isZS_0, isZS_1]
  · simp (disch := omega) only [↓Bool.cond_eq_ite, ↓reduceIte, Bool.false_eq_true, eq_self, n_lit, n_neg, n_add, n_mul, n_sub, n_subM, n_div, n_mod, n_addM, m_div, m_subn, n_tN, n_inS, n_eq_t, n_eq_f, n_ne_t, n_ne_f, n_lt_t, n_lt_f, n_ge_t, n_ge_f, n_gt_t, n_gt_f, n_le_t, n_le_f, mn_eq, mn_ne, mn_lt, mn_ge, mn_gt, mn_le, nm_eq, nm_ne, nm_lt, nm_ge, nm_gt, nm_le, n_gts_t, c_eq_refl, c_ne_refl, w_fold, w_2, wC_fold, lt_M, cond_true, cond_false, Bool.and_true, Bool.true_and, Bool.and_false, Bool.false_and, Bool.not_true, Bool.not_false, isZS_0, isZS_1, s_53f, Option.bind_some]
theorem fl211t {f d vn sn : Nat} {V S : Nat → Int32} {v : Int32} : k211t L xs v (pM M f (oN 1) d vn V sn S) = some (some (vi v), pM M f (oN 1) d vn V sn S) := by
  unfold k211t
  rw [h_211_5]
  simp (disch := omega) only [↓Bool.cond_eq_ite, ↓reduceIte, Bool.false_eq_true, eq_self, n_lit, n_neg, n_add, n_mul, n_sub, n_subM, n_div, n_mod, n_addM, m_div, m_subn, n_tN, n_inS, n_eq_t, n_eq_f, n_ne_t, n_ne_f, n_lt_t, n_lt_f, n_ge_t, n_ge_f, n_gt_t, n_gt_f, n_le_t, n_le_f, mn_eq, mn_ne, mn_lt, mn_ge, mn_gt, mn_le, nm_eq, nm_ne, nm_lt, nm_ge, nm_gt, nm_le, n_gts_t, c_eq_refl, c_ne_refl, w_fold, w_2, wC_fold, lt_M, cond_true, cond_false, Bool.and_true, Bool.true_and, Bool.and_false, Bool.false_and, Bool.not_true, Bool.not_false, isZS_0, isZS_1, pM_33]
def tF (L : Nat) (xs : Nat → Int32) (n : Nat) (β : Nat → Nat) (a f t : Nat) (u : (Nat → Int32) → Int32) : Prop :=
  a ≤ f ∧ f ≤ n ∧ cF n β a f (k57t L xs t) ∧ ∀ M Fd d vn V sn S, mTx M n (bM β) → mFd L xs M Fd → ∃ x, k211t L xs (u Fd) (pM M a (oN 0) d vn V sn S) = some (some (vi x), pM M f (oN 1) d vn V sn S)
def tO (L : Nat) (xs : Nat → Int32) (n : Nat) (β : Nat → Nat) (a t j : Nat) (cs : List Nat) (u v : (Nat → Int32) → Int32) : Prop :=
  a ≤ j ∧ j ≤ n ∧ cs.length ≤ j - a ∧ okc cs ∧ (∀ F s, ev F cs (u F :: s) = v F :: s) ∧ cO n β a j cs (k57t L xs t) ∧
  ∀ M Fd d vn V sn S, mTx M n (bM β) → mFd L xs M Fd → k211t L xs (u Fd) (pM M a (oN 0) d vn V sn S) = some (some (vi (v Fd)), pM M j (oN 0) d vn V sn S)
theorem kV_c {t : Nat} {as : List mV} {m m' : mM} (h : call L xs t as m = some (none, m')) : kV L xs t as m = some m' := kV_of h
theorem kI_c {t : Nat} {as : List mV} {m m' : mM} {x : Int32} (h : call L xs t as m = some (some (vi x), m')) : kI L xs t as m = some (x, m') := kI_of h
set_option maxRecDepth 8000 in
theorem sumT (hβ : ∀ i, i < n → β i ≤ 255) (hn : n ≤ 80) : ∀ N a t u, n - a ≤ N → a ≤ n → t + (n - a) ≤ 80 → (∃ f, tF L xs n β a f t u) ∨ (∃ j cs v, tO L xs n β a t j cs u v) := by
  intro N
  induction N with
  | zero =>
    intro a t u hN ha ht
    have han : ¬ a < n := by omega
    refine .inr ⟨a, [], u, Nat.le_refl _, ha, Nat.zero_le _, okc_nil, fun F s => rfl, ?_, ?_⟩
    · intro C m F hC hm
      have k53 := c_53 (L := L) (xs := xs) (m := m) (F := F) hC hn (show a ≤ 80 by omega)
      rw [show lAt (bC β) n a = oM 1 from if_neg han] at k53
      unfold k57t
      rw [h_57_6]
      by_cases h80 : 80 ≤ t
      · simp (disch := omega) only [↓Bool.cond_eq_ite, ↓reduceIte, Bool.false_eq_true, eq_self, n_lit, n_neg, n_add, n_mul, n_sub, n_subM, n_div, n_mod, n_addM, m_div, m_subn, n_tN, n_inS, n_eq_t, n_eq_f, n_ne_t, n_ne_f, n_lt_t, n_lt_f, n_ge_t, n_ge_f, n_gt_t, n_gt_f, n_le_t, n_le_f, mn_eq, mn_ne, mn_lt, mn_ge, mn_gt, mn_le, nm_eq, nm_ne, nm_lt, nm_ge, nm_gt, nm_le, n_gts_t, c_eq_refl, c_ne_refl, w_fold, w_2, wC_fold, lt_M, cond_true, cond_false, Bool.and_true, Bool.true_and, Bool.and_false, Bool.false_and, Bool.not_true, Bool.not_false, isZS_0, isZS_1]; rfl
      · simp (disch := omega) only [↓Bool.cond_eq_ite, ↓reduceIte, Bool.false_eq_true, eq_self, n_lit, n_neg, n_add, n_mul, n_sub, n_subM, n_div, n_mod, n_addM, m_div, m_subn, n_tN, n_inS, n_eq_t, n_eq_f, n_ne_t, n_ne_f, n_lt_t, n_lt_f, n_ge_t, n_ge_f, n_gt_t, n_gt_f, n_le_t, n_le_f, mn_eq, mn_ne, mn_lt, mn_ge, mn_gt, mn_le, nm_eq, nm_ne, nm_lt, nm_ge, nm_gt, nm_le, n_gts_t, c_eq_refl, c_ne_refl, w_fold, w_2, wC_fold, lt_M, cond_true, cond_false, Bool.and_true, Bool.true_and, Bool.and_false, Bool.false_and, Bool.not_true, Bool.not_false, isZS_0, isZS_1, k53, Option.bind_some]; rfl
    · intro M Fd d vn V sn S hM hFd
      have k179 := p_179 (L := L) (xs := xs) (b := oN 0) (d := d) (vn := vn) (V := V) (sn := sn) (S := S) hM (show a ≤ 80 by omega)
      rw [show lAt (bM β) n a = oM 1 from if_neg han] at k179
      unfold k211t
      rw [h_211_5]
      simp (disch := omega) only [↓Bool.cond_eq_ite, ↓reduceIte, Bool.false_eq_true, eq_self, n_lit, n_neg, n_add, n_mul, n_sub, n_subM, n_div, n_mod, n_addM, m_div, m_subn, n_tN, n_inS, n_eq_t, n_eq_f, n_ne_t, n_ne_f, n_lt_t, n_lt_f, n_ge_t, n_ge_f, n_gt_t, n_gt_f, n_le_t, n_le_f, mn_eq, mn_ne, mn_lt, mn_ge, mn_gt, mn_le, nm_eq, nm_ne, nm_lt, nm_ge, nm_gt, nm_le, n_gts_t, c_eq_refl, c_ne_refl, w_fold, w_2, wC_fold, lt_M, cond_true, cond_false, Bool.and_true, Bool.true_and, Bool.and_false, Bool.false_and, Bool.not_true, Bool.not_false, isZS_0, isZS_1, pM_33, k179, Option.bind_some]
  | succ N ih =>
    intro a t u hN ha ht
    by_cases hs : a < n ∧ (β a = 43 ∨ β a = 45)
    · obtain ⟨han, hs⟩ := hs
      have hx := (lC_eq hβ (i := a) (c := β a) (by omega)).mpr ⟨han, rfl⟩
      have hy := (lM_eq hβ (i := a) (c := β a) (by omega)).mpr ⟨han, rfl⟩
      have hc : ∀ C m F, cR C n β → kI L xs 53 [vr 5 [4, 0]] (tM C a (oM 4) m F) = some (oN (β a), tM C a (oM 4) m F) := fun C m F hC => by
        rw [← hx]; exact c_53 hC hn (by omega)
      have hm : ∀ M d vn V sn S, mTx M n (bM β) → kI L xs 179 [vr 10 [1]] (pM M a (oN 0) d vn V sn S) = some (oN (β a), pM M a (oN 0) d vn V sn S) := fun M d vn V sn S hM => by
        rw [← hy]; exact p_179 hM (by omega)
      rcases atom_ok (L := L) (xs := xs) hβ hn (show a + 1 ≤ n by omega) with ⟨f, q1, q2, q3, q4⟩ | ⟨j, cs, v, q1, q2, q3, q4, q5, q6, q7⟩
      · refine .inl ⟨f, by omega, q2, ?_, ?_⟩
        · intro C m F hC hmm
          obtain ⟨j', m', F', q⟩ := q3 C m F hC (by omega)
          have q := kV_c (q : call _ _ _ _ _ = _)
          have k53 := hc C m F hC
          have fl := fl57t (L := L) (xs := xs) (C := C) (a := j') (m := m') (F := F') (f := f) (t := t + 1) (by omega) (by omega)
          unfold k57t at fl
          refine ⟨j', m', F', ?_⟩
          unfold k57t
          rw [h_57_6]
          rcases hs with e | e <;> rw [e] at k53 <;> simp (disch := omega) only [↓Bool.cond_eq_ite, ↓reduceIte, Bool.false_eq_true, eq_self, n_lit, n_neg, n_add, n_mul, n_sub, n_subM, n_div, n_mod, n_addM, m_div, m_subn, n_tN, n_inS, n_eq_t, n_eq_f, n_ne_t, n_ne_f, n_lt_t, n_lt_f, n_ge_t, n_ge_f, n_gt_t, n_gt_f, n_le_t, n_le_f, mn_eq, mn_ne, mn_lt, mn_ge, mn_gt, mn_le, nm_eq, nm_ne, nm_lt, nm_ge, nm_gt, nm_le, n_gts_t, c_eq_refl, c_ne_refl, w_fold, w_2, wC_fold, lt_M, cond_true, cond_false, Bool.and_true, Bool.true_and, Bool.and_false, Bool.false_and, Bool.not_true, Bool.not_false, isZS_0, isZS_1, k53, tM_6, tM_w6, q, s_52n, fl, Option.bind_some]
        · intro M Fd d vn V sn S hM hFd
          obtain ⟨x, q⟩ := q4 M Fd d vn V sn S hM hFd
          have q := kI_c (q : call _ _ _ _ _ = _)
          have k179 := hm M d vn V sn S hM
          have fl := fun v => fl211t (L := L) (xs := xs) (M := M) (f := f) (d := d) (vn := vn) (sn := sn) (V := V) (S := S) (v := v)
          unfold k211t at fl
          unfold k211t
          rw [h_211_5]
          rcases hs with e | e <;> rw [e] at k179
          · refine ⟨u Fd + x, ?_⟩
            simp (disch := omega) only [↓Bool.cond_eq_ite, ↓reduceIte, Bool.false_eq_true, eq_self, n_lit, n_neg, n_add, n_mul, n_sub, n_subM, n_div, n_mod, n_addM, m_div, m_subn, n_tN, n_inS, n_eq_t, n_eq_f, n_ne_t, n_ne_f, n_lt_t, n_lt_f, n_ge_t, n_ge_f, n_gt_t, n_gt_f, n_le_t, n_le_f, mn_eq, mn_ne, mn_lt, mn_ge, mn_gt, mn_le, nm_eq, nm_ne, nm_lt, nm_ge, nm_gt, nm_le, n_gts_t, c_eq_refl, c_ne_refl, w_fold, w_2, wC_fold, lt_M, cond_true, cond_false, Bool.and_true, Bool.true_and, Bool.and_false, Bool.false_and, Bool.not_true, Bool.not_false, isZS_0, isZS_1, pM_33, k179, pM_32, pM_w32, q, fl, Option.bind_some]
          · refine ⟨u Fd - x, ?_⟩
            simp (disch := omega) only [↓Bool.cond_eq_ite, ↓reduceIte, Bool.false_eq_true, eq_self, n_lit, n_neg, n_add, n_mul, n_sub, n_subM, n_div, n_mod, n_addM, m_div, m_subn, n_tN, n_inS, n_eq_t, n_eq_f, n_ne_t, n_ne_f, n_lt_t, n_lt_f, n_ge_t, n_ge_f, n_gt_t, n_gt_f, n_le_t, n_le_f, mn_eq, mn_ne, mn_lt, mn_ge, mn_gt, mn_le, nm_eq, nm_ne, nm_lt, nm_ge, nm_gt, nm_le, n_gts_t, c_eq_refl, c_ne_refl, w_fold, w_2, wC_fold, lt_M, cond_true, cond_false, Bool.and_true, Bool.true_and, Bool.and_false, Bool.false_and, Bool.not_true, Bool.not_false, isZS_0, isZS_1, pM_33, k179, pM_32, pM_w32, q, fl, Option.bind_some]
      · have hev : ∀ F s, ev F (cs ++ [20000 + β a]) (u F :: s) = jn (β a) (u F) (v F) :: s := fun F s => by
          rw [ev_app, q5, ev_s (by omega)]
        have hok : okc (cs ++ [20000 + β a]) := okc_app q4 (okc_1 (by omega))
        have hlen : (cs ++ [20000 + β a]).length = cs.length + 1 := by simp
        have kc : ∀ C m F, cR C n β → m + (n - a) ≤ 80 → k57t L xs t (tM C a (oM 4) m F) = k57t L xs (t + 1) (tM C j (oM 4) (m + (cs ++ [20000 + β a]).length) (putL F m (cs ++ [20000 + β a]))) := fun C m F hC hmm => by
          have q := kV_c (q6 C m F hC (by omega) : call _ _ _ _ _ = _)
          have k53 := hc C m F hC
          rw [hlen, ← putL_app, ← putL_1]
          unfold k57t
          rw [h_57_6]
          rcases hs with e | e <;> rw [e] at k53 ⊢ <;> simp (disch := omega) only [↓Bool.cond_eq_ite, ↓reduceIte, Bool.false_eq_true, eq_self, n_lit, n_neg, n_add, n_mul, n_sub, n_subM, n_div, n_mod, n_addM, m_div, m_subn, n_tN, n_inS, n_eq_t, n_eq_f, n_ne_t, n_ne_f, n_lt_t, n_lt_f, n_ge_t, n_ge_f, n_gt_t, n_gt_f, n_le_t, n_le_f, mn_eq, mn_ne, mn_lt, mn_ge, mn_gt, mn_le, nm_eq, nm_ne, nm_lt, nm_ge, nm_gt, nm_le, n_gts_t, c_eq_refl, c_ne_refl, w_fold, w_2, wC_fold, lt_M, cond_true, cond_false, Bool.and_true, Bool.true_and, Bool.and_false, Bool.false_and, Bool.not_true, Bool.not_false, isZS_0, isZS_1, k53, tM_6, tM_w6, q, s_52, Option.bind_some, Nat.add_assoc]
        have km : ∀ M Fd d vn V sn S, mTx M n (bM β) → mFd L xs M Fd → k211t L xs (u Fd) (pM M a (oN 0) d vn V sn S) = k211t L xs (jn (β a) (u Fd) (v Fd)) (pM M j (oN 0) d vn V sn S) := fun M Fd d vn V sn S hM hFd => by
          have q := kI_c (q7 M Fd d vn V sn S hM hFd : call _ _ _ _ _ = _)
          have k179 := hm M d vn V sn S hM
          unfold k211t
          rw [h_211_5]
          rcases hs with e | e <;> rw [e] at k179 ⊢ <;> simp (disch := omega) only [↓Bool.cond_eq_ite, ↓reduceIte, Bool.false_eq_true, eq_self, n_lit, n_neg, n_add, n_mul, n_sub, n_subM, n_div, n_mod, n_addM, m_div, m_subn, n_tN, n_inS, n_eq_t, n_eq_f, n_ne_t, n_ne_f, n_lt_t, n_lt_f, n_ge_t, n_ge_f, n_gt_t, n_gt_f, n_le_t, n_le_f, mn_eq, mn_ne, mn_lt, mn_ge, mn_gt, mn_le, nm_eq, nm_ne, nm_lt, nm_ge, nm_gt, nm_le, n_gts_t, c_eq_refl, c_ne_refl, w_fold, w_2, wC_fold, lt_M, cond_true, cond_false, Bool.and_true, Bool.true_and, Bool.and_false, Bool.false_and, Bool.not_true, Bool.not_false, isZS_0, isZS_1, pM_33, k179, pM_32, pM_w32, q, Option.bind_some] <;> rfl
        rcases ih j (t + 1) (fun F => jn (β a) (u F) (v F)) (by omega) q2 (by omega) with ⟨f, r1, r2, r3, r4⟩ | ⟨j', cs', v', r1, r2, r3, r4, r5, r6, r7⟩
        · refine .inl ⟨f, by omega, r2, ?_, ?_⟩
          · intro C m F hC hmm
            rw [kc C m F hC hmm]
            exact r3 C _ _ hC (by rw [hlen]; omega)
          · intro M Fd d vn V sn S hM hFd
            rw [km M Fd d vn V sn S hM hFd]
            exact r4 M Fd d vn V sn S hM hFd
        · refine .inr ⟨j', (cs ++ [20000 + β a]) ++ cs', v', by omega, r2, ?_, okc_app hok r4, ?_, ?_, ?_⟩
          · rw [List.length_append, hlen]; omega
          · intro F s
            rw [ev_app, hev, r5]
          · intro C m F hC hmm
            rw [kc C m F hC hmm, r6 C _ _ hC (by rw [hlen]; omega), putL_app, List.length_append (as := cs ++ [20000 + β a]), Nat.add_assoc]
          · intro M Fd d vn V sn S hM hFd
            rw [km M Fd d vn V sn S hM hFd]
            exact r7 M Fd d vn V sn S hM hFd
    · refine .inr ⟨a, [], u, Nat.le_refl _, ha, Nat.zero_le _, okc_nil, fun F s => rfl, ?_, ?_⟩
      · intro C m F hC hm
        have k53 := c_53 (L := L) (xs := xs) (m := m) (F := F) hC hn (show a ≤ 80 by omega)
        have n1 : ¬ lAt (bC β) n a = oN 43 := fun e => hs ⟨((lC_eq hβ (by omega)).mp e).1, .inl ((lC_eq hβ (by omega)).mp e).2⟩
        have n2 : ¬ lAt (bC β) n a = oN 45 := fun e => hs ⟨((lC_eq hβ (by omega)).mp e).1, .inr ((lC_eq hβ (by omega)).mp e).2⟩
        have e1 := c_eq_h n1
        have e2 := c_ne_h n2
        unfold k57t
        rw [h_57_6]
        by_cases h80 : 80 ≤ t
        · simp (disch := omega) only [↓Bool.cond_eq_ite, ↓reduceIte, Bool.false_eq_true, eq_self, n_lit, n_neg, n_add, n_mul, n_sub, n_subM, n_div, n_mod, n_addM, m_div, m_subn, n_tN, n_inS, n_eq_t, n_eq_f, n_ne_t, n_ne_f, n_lt_t, n_lt_f, n_ge_t, n_ge_f, n_gt_t, n_gt_f, n_le_t, n_le_f, mn_eq, mn_ne, mn_lt, mn_ge, mn_gt, mn_le, nm_eq, nm_ne, nm_lt, nm_ge, nm_gt, nm_le, n_gts_t, c_eq_refl, c_ne_refl, w_fold, w_2, wC_fold, lt_M, cond_true, cond_false, Bool.and_true, Bool.true_and, Bool.and_false, Bool.false_and, Bool.not_true, Bool.not_false, isZS_0, isZS_1]; rfl
        · simp (disch := omega) only [↓Bool.cond_eq_ite, ↓reduceIte, Bool.false_eq_true, eq_self, n_lit, n_neg, n_add, n_mul, n_sub, n_subM, n_div, n_mod, n_addM, m_div, m_subn, n_tN, n_inS, n_eq_t, n_eq_f, n_ne_t, n_ne_f, n_lt_t, n_lt_f, n_ge_t, n_ge_f, n_gt_t, n_gt_f, n_le_t, n_le_f, mn_eq, mn_ne, mn_lt, mn_ge, mn_gt, mn_le, nm_eq, nm_ne, nm_lt, nm_ge, nm_gt, nm_le, n_gts_t, c_eq_refl, c_ne_refl, w_fold, w_2, wC_fold, lt_M, cond_true, cond_false, Bool.and_true, Bool.true_and, Bool.and_false, Bool.false_and, Bool.not_true, Bool.not_false, isZS_0, isZS_1, k53, e1, e2, Option.bind_some]; rfl
      · intro M Fd d vn V sn S hM hFd
        have k179 := p_179 (L := L) (xs := xs) (b := oN 0) (d := d) (vn := vn) (V := V) (sn := sn) (S := S) hM (show a ≤ 80 by omega)
        have n1 : ¬ lAt (bM β) n a = oN 43 := fun e => hs ⟨((lM_eq hβ (by omega)).mp e).1, .inl ((lM_eq hβ (by omega)).mp e).2⟩
        have n2 : ¬ lAt (bM β) n a = oN 45 := fun e => hs ⟨((lM_eq hβ (by omega)).mp e).1, .inr ((lM_eq hβ (by omega)).mp e).2⟩
        have e1 := c_eq_h n1
        have e2 := c_ne_h n2
        unfold k211t
        rw [h_211_5]
        simp (disch := omega) only [↓Bool.cond_eq_ite, ↓reduceIte, Bool.false_eq_true, eq_self, n_lit, n_neg, n_add, n_mul, n_sub, n_subM, n_div, n_mod, n_addM, m_div, m_subn, n_tN, n_inS, n_eq_t, n_eq_f, n_ne_t, n_ne_f, n_lt_t, n_lt_f, n_ge_t, n_ge_f, n_gt_t, n_gt_f, n_le_t, n_le_f, mn_eq, mn_ne, mn_lt, mn_ge, mn_gt, mn_le, nm_eq, nm_ne, nm_lt, nm_ge, nm_gt, nm_le, n_gts_t, c_eq_refl, c_ne_refl, w_fold, w_2, wC_fold, lt_M, cond_true, cond_false, Bool.and_true, Bool.true_and, Bool.and_false, Bool.false_and, Bool.not_true, Bool.not_false, isZS_0, isZS_1, pM_33, k179, e1, e2, Option.bind_some]
end Text7
