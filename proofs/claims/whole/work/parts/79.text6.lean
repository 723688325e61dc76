section Text6
variable {L : Nat} {xs : Nat → Int32} {C M : mM} {F : Nat → Int32} {n : Nat} {β : Nat → Nat} {a : Nat}
theorem ev_app {cs ds : List Nat} {s : List Int32} : ev F (cs ++ ds) s = ev F ds (ev F cs s) := List.foldl_append
theorem ev_n {c : Nat} {s : List Int32} (h : c < 10000) : ev F [c] s = oN c :: s := if_pos h
theorem ev_f {i : Nat} {s : List Int32} (h : i < 10000) : ev F [10000 + i] s = F i :: s := by
  show (if _ then _ else if _ then _ else _) = _
  rw [if_neg (by omega), if_pos (by omega), show 10000 + i - 10000 = i by omega]
theorem ev_s {c : Nat} {x y : Int32} {s : List Int32} (h : c ≠ 33) : ev F [20000 + c] (y :: x :: s) = jn c x y :: s := by
  show (if _ then _ else if _ then _ else if _ then _ else _) = _
  rw [if_neg (by omega), if_neg (by omega), if_neg (by omega), show 20000 + c - 20000 = c by omega]
theorem ev_x {x : Int32} {s : List Int32} : ev F [20033] (x :: s) = (oN 1 - x) :: s := rfl
theorem okc_nil : okc [] := fun c hc => by cases hc
theorem okc_app {cs ds : List Nat} (h : okc cs) (g : okc ds) : okc (cs ++ ds) := fun c hc => (List.mem_append.mp hc).elim (h c) (g c)
theorem okc_1 {c : Nat} (h : c ≤ 20200 ∧ (10000 ≤ c → c < 20000 → c < 10012)) : okc [c] := fun d hd => by
  rw [List.mem_singleton] at hd; rw [hd]; exact h
def putL : (Nat → Int32) → Nat → List Nat → Nat → Int32
  | F, _, [] => F
  | F, m, c :: cs => putL (upd F m (oN c)) (m + 1) cs
theorem putL_app : ∀ {F : Nat → Int32} {cs : List Nat} {m : Nat} {ds : List Nat}, putL (putL F m cs) (m + cs.length) ds = putL F m (cs ++ ds)
  | _, [], _, _ => rfl
  | F, c :: cs, m, ds => by
    have := putL_app (F := upd F m (oN c)) (cs := cs) (m := m + 1) (ds := ds)
    show putL (putL (upd F m (oN c)) (m + 1) cs) (m + (cs.length + 1)) ds = _
    rw [show m + (cs.length + 1) = m + 1 + cs.length by omega]
    exact this
theorem putL_1 {m c : Nat} : upd F m (oN c) = putL F m [c] := rfl
def cO (n : Nat) (β : Nat → Nat) (a j : Nat) (cs : List Nat) (K : mM → Option (Option mV × mM)) : Prop :=
  ∀ C m F, cR C n β → m + (n - a) ≤ 80 → K (tM C a (oM 4) m F) = some (none, tM C j (oM 4) (m + cs.length) (putL F m cs))
def cF (n : Nat) (β : Nat → Nat) (a f : Nat) (K : mM → Option (Option mV × mM)) : Prop :=
  ∀ C m F, cR C n β → m + (n - a) ≤ 80 → ∃ j m' F', K (tM C a (oM 4) m F) = some (none, tM C j (oN f) m' F')
def mdO (L : Nat) (xs : Nat → Int32) (n : Nat) (β : Nat → Nat) (a j : Nat) (v : (Nat → Int32) → Int32) (K : mM → Option (Option mV × mM)) : Prop :=
  ∀ M Fd d vn V sn S, mTx M n (bM β) → mFd L xs M Fd → K (pM M a (oN 0) d vn V sn S) = some (some (vi (v Fd)), pM M j (oN 0) d vn V sn S)
def mdF (L : Nat) (xs : Nat → Int32) (n : Nat) (β : Nat → Nat) (a f : Nat) (K : mM → Option (Option mV × mM)) : Prop :=
  ∀ M Fd d vn V sn S, mTx M n (bM β) → mFd L xs M Fd → ∃ x, K (pM M a (oN 0) d vn V sn S) = some (some (vi x), pM M f (oN 1) d vn V sn S)
def rO (L : Nat) (xs : Nat → Int32) (n : Nat) (β : Nat → Nat) (a j : Nat) (cs : List Nat) (v : (Nat → Int32) → Int32) (K K' : mM → Option (Option mV × mM)) : Prop :=
  a < j ∧ j ≤ n ∧ cs.length ≤ j - a ∧ okc cs ∧ (∀ F s, ev F cs s = v F :: s) ∧ cO n β a j cs K ∧ mdO L xs n β a j v K'
def rF (L : Nat) (xs : Nat → Int32) (n : Nat) (β : Nat → Nat) (a f : Nat) (K K' : mM → Option (Option mV × mM)) : Prop :=
  a ≤ f ∧ f ≤ n ∧ cF n β a f K ∧ mdF L xs n β a f K'
noncomputable def k55 (L : Nat) (xs : Nat → Int32) (C : mM) := call L xs 55 [vr 5 [4, 0]] C
noncomputable def k57 (L : Nat) (xs : Nat → Int32) (C : mM) := call L xs 57 [vr 5 [4, 0]] C
noncomputable def k210 (L : Nat) (xs : Nat → Int32) (M : mM) := call L xs 210 [vr 10 [1]] M
noncomputable def k211 (L : Nat) (xs : Nat → Int32) (M : mM) := call L xs 211 [vr 10 [1]] M
noncomputable def k212 (L : Nat) (xs : Nat → Int32) (M : mM) := call L xs 212 [vr 10 [1]] M
set_option maxRecDepth 8000 in
theorem atomN (hβ : ∀ i, i < n → β i ≤ 255) (hn : n ≤ 80) (ha : a ≤ n) (h : ¬ (a < n ∧ ((48 ≤ β a ∧ β a ≤ 57) ∨ ∃ i, i < 12 ∧ fLet i = β a))) : rF L xs n β a a (k55 L xs) (k210 L xs) := by
  refine ⟨Nat.le_refl _, ha, ?_, ?_⟩
  · intro C m F hC hm
    have k53 := c_53 (L := L) (xs := xs) (m := m) (F := F) hC hn (show a ≤ 80 by omega)
    refine ⟨a, m, F, ?_⟩
    unfold k55
    rw [e_55]
    rcases l3 (n := n) (β := β) a with ⟨g, h1, h2⟩ | ⟨g, h0, h1, h2⟩ | ⟨g, h0, h1, h2⟩
    · rw [h1] at k53
      simp (disch := omega) only [↓Bool.cond_eq_ite, ↓reduceIte, Bool.false_eq_true, eq_self, n_lit, n_neg, n_add, n_mul, n_sub, n_subM, n_div, n_mod, n_addM, m_div, m_subn, n_tN, n_inS, n_eq_t, n_eq_f, n_ne_t, n_ne_f, n_lt_t, n_lt_f, n_ge_t, n_ge_f, n_gt_t, n_gt_f, n_le_t, n_le_f, mn_eq, mn_ne, mn_lt, mn_ge, mn_gt, mn_le, nm_eq, nm_ne, nm_lt, nm_ge, nm_gt, nm_le, n_gts_t, c_eq_refl, c_ne_refl, w_fold, w_2, wC_fold, lt_M, cond_true, cond_false, Bool.and_true, Bool.true_and, Bool.and_false, Bool.false_and, Bool.not_true, Bool.not_false, isZS_0, isZS_1, k53, s_48M, s_59f, Option.bind_some]
      rw [h_55_63]
      simp (disch := omega) only [↓Bool.cond_eq_ite, ↓reduceIte, Bool.false_eq_true, eq_self, n_lit, n_neg, n_add, n_mul, n_sub, n_subM, n_div, n_mod, n_addM, m_div, m_subn, n_tN, n_inS, n_eq_t, n_eq_f, n_ne_t, n_ne_f, n_lt_t, n_lt_f, n_ge_t, n_ge_f, n_gt_t, n_gt_f, n_le_t, n_le_f, mn_eq, mn_ne, mn_lt, mn_ge, mn_gt, mn_le, nm_eq, nm_ne, nm_lt, nm_ge, nm_gt, nm_le, n_gts_t, c_eq_refl, c_ne_refl, w_fold, w_2, wC_fold, lt_M, cond_true, cond_false, Bool.and_true, Bool.true_and, Bool.and_false, Bool.false_and, Bool.not_true, Bool.not_false, isZS_0, isZS_1, s_52n, Option.bind_some]
    · have := hβ a g
      rw [h1] at k53
      simp (disch := omega) only [↓Bool.cond_eq_ite, ↓reduceIte, Bool.false_eq_true, eq_self, n_lit, n_neg, n_add, n_mul, n_sub, n_subM, n_div, n_mod, n_addM, m_div, m_subn, n_tN, n_inS, n_eq_t, n_eq_f, n_ne_t, n_ne_f, n_lt_t, n_lt_f, n_ge_t, n_ge_f, n_gt_t, n_gt_f, n_le_t, n_le_f, mn_eq, mn_ne, mn_lt, mn_ge, mn_gt, mn_le, nm_eq, nm_ne, nm_lt, nm_ge, nm_gt, nm_le, n_gts_t, c_eq_refl, c_ne_refl, w_fold, w_2, wC_fold, lt_M, cond_true, cond_false, Bool.and_true, Bool.true_and, Bool.and_false, Bool.false_and, Bool.not_true, Bool.not_false, isZS_0, isZS_1, k53, s_48M, s_59f, Option.bind_some]
      rw [h_55_63]
      simp (disch := omega) only [↓Bool.cond_eq_ite, ↓reduceIte, Bool.false_eq_true, eq_self, n_lit, n_neg, n_add, n_mul, n_sub, n_subM, n_div, n_mod, n_addM, m_div, m_subn, n_tN, n_inS, n_eq_t, n_eq_f, n_ne_t, n_ne_f, n_lt_t, n_lt_f, n_ge_t, n_ge_f, n_gt_t, n_gt_f, n_le_t, n_le_f, mn_eq, mn_ne, mn_lt, mn_ge, mn_gt, mn_le, nm_eq, nm_ne, nm_lt, nm_ge, nm_gt, nm_le, n_gts_t, c_eq_refl, c_ne_refl, w_fold, w_2, wC_fold, lt_M, cond_true, cond_false, Bool.and_true, Bool.true_and, Bool.and_false, Bool.false_and, Bool.not_true, Bool.not_false, isZS_0, isZS_1, s_52n, Option.bind_some]
    · rw [h1] at k53
      have hd : ¬ (48 ≤ β a ∧ β a ≤ 57) := fun q => h ⟨g, .inl q⟩
      have k48 := s_48 (L := L) (xs := xs) (C := tM C a (oM 4) m F) (k := β a) (by omega)
      rw [if_neg hd] at k48
      have e : sIx ((oN (β a)).toUInt32 % 65536).toInt32 = oM 1 := by
        rw [sIx_c _ (by omega)]
        rcases sIx_n (β a) (by omega) with q | q
        · exact absurd ⟨g, .inr q⟩ h
        · exact q
      by_cases hz : β a = 0
      · simp (disch := omega) only [↓Bool.cond_eq_ite, ↓reduceIte, Bool.false_eq_true, eq_self, n_lit, n_neg, n_add, n_mul, n_sub, n_subM, n_div, n_mod, n_addM, m_div, m_subn, n_tN, n_inS, n_eq_t, n_eq_f, n_ne_t, n_ne_f, n_lt_t, n_lt_f, n_ge_t, n_ge_f, n_gt_t, n_gt_f, n_le_t, n_le_f, mn_eq, mn_ne, mn_lt, mn_ge, mn_gt, mn_le, nm_eq, nm_ne, nm_lt, nm_ge, nm_gt, nm_le, n_gts_t, c_eq_refl, c_ne_refl, w_fold, w_2, wC_fold, lt_M, cond_true, cond_false, Bool.and_true, Bool.true_and, Bool.and_false, Bool.false_and, Bool.not_true, Bool.not_false, isZS_0, isZS_1, k53, k48, s_59f, Option.bind_some]
        rw [h_55_63]
        simp (disch := omega) only [↓Bool.cond_eq_ite, ↓reduceIte, Bool.false_eq_true, eq_self, n_lit, n_neg, n_add, n_mul, n_sub, n_subM, n_div, n_mod, n_addM, m_div, m_subn, n_tN, n_inS, n_eq_t, n_eq_f, n_ne_t, n_ne_f, n_lt_t, n_lt_f, n_ge_t, n_ge_f, n_gt_t, n_gt_f, n_le_t, n_le_f, mn_eq, mn_ne, mn_lt, mn_ge, mn_gt, mn_le, nm_eq, nm_ne, nm_lt, nm_ge, nm_gt, nm_le, n_gts_t, c_eq_refl, c_ne_refl, w_fold, w_2, wC_fold, lt_M, cond_true, cond_false, Bool.and_true, Bool.true_and, Bool.and_false, Bool.false_and, Bool.not_true, Bool.not_false, isZS_0, isZS_1, s_52n, Option.bind_some]
      · by_cases hl : β a < 48
        · simp (disch := omega) only [↓Bool.cond_eq_ite, ↓reduceIte, Bool.false_eq_true, eq_self, n_lit, n_neg, n_add, n_mul, n_sub, n_subM, n_div, n_mod, n_addM, m_div, m_subn, n_tN, n_inS, n_eq_t, n_eq_f, n_ne_t, n_ne_f, n_lt_t, n_lt_f, n_ge_t, n_ge_f, n_gt_t, n_gt_f, n_le_t, n_le_f, mn_eq, mn_ne, mn_lt, mn_ge, mn_gt, mn_le, nm_eq, nm_ne, nm_lt, nm_ge, nm_gt, nm_le, n_gts_t, c_eq_refl, c_ne_refl, w_fold, w_2, wC_fold, lt_M, cond_true, cond_false, Bool.and_true, Bool.true_and, Bool.and_false, Bool.false_and, Bool.not_true, Bool.not_false, isZS_0, isZS_1, k53, k48, e, s_59f, Option.bind_some]
          rw [h_55_63]
          simp (disch := omega) only [↓Bool.cond_eq_ite, ↓reduceIte, Bool.false_eq_true, eq_self, n_lit, n_neg, n_add, n_mul, n_sub, n_subM, n_div, n_mod, n_addM, m_div, m_subn, n_tN, n_inS, n_eq_t, n_eq_f, n_ne_t, n_ne_f, n_lt_t, n_lt_f, n_ge_t, n_ge_f, n_gt_t, n_gt_f, n_le_t, n_le_f, mn_eq, mn_ne, mn_lt, mn_ge, mn_gt, mn_le, nm_eq, nm_ne, nm_lt, nm_ge, nm_gt, nm_le, n_gts_t, c_eq_refl, c_ne_refl, w_fold, w_2, wC_fold, lt_M, cond_true, cond_false, Bool.and_true, Bool.true_and, Bool.and_false, Bool.false_and, Bool.not_true, Bool.not_false, isZS_0, isZS_1, s_52n, Option.bind_some]
        · simp (disch := omega) only [↓Bool.cond_eq_ite, ↓reduceIte, Bool.false_eq_true, eq_self, n_lit, n_neg, n_add, n_mul, n_sub, n_subM, n_div, n_mod, n_addM, m_div, m_subn, n_tN, n_inS, n_eq_t, n_eq_f, n_ne_t, n_ne_f, n_lt_t, n_lt_f, n_ge_t, n_ge_f, n_gt_t, n_gt_f, n_le_t, n_le_f, mn_eq, mn_ne, mn_lt, mn_ge, mn_gt, mn_le, nm_eq, nm_ne, nm_lt, nm_ge, nm_gt, nm_le, n_gts_t, c_eq_refl, c_ne_refl, w_fold, w_2, wC_fold, lt_M, cond_true, cond_false, Bool.and_true, Bool.true_and, Bool.and_false, Bool.false_and, Bool.not_true, Bool.not_false, isZS_0, isZS_1, k53, k48, e, s_59f, Option.bind_some]
          rw [h_55_63]
          simp (disch := omega) only [↓Bool.cond_eq_ite, ↓reduceIte, Bool.false_eq_true, eq_self, n_lit, n_neg, n_add, n_mul, n_sub, n_subM, n_div, n_mod, n_addM, m_div, m_subn, n_tN, n_inS, n_eq_t, n_eq_f, n_ne_t, n_ne_f, n_lt_t, n_lt_f, n_ge_t, n_ge_f, n_gt_t, n_gt_f, n_le_t, n_le_f, mn_eq, mn_ne, mn_lt, mn_ge, mn_gt, mn_le, nm_eq, nm_ne, nm_lt, nm_ge, nm_gt, nm_le, n_gts_t, c_eq_refl, c_ne_refl, w_fold, w_2, wC_fold, lt_M, cond_true, cond_false, Bool.and_true, Bool.true_and, Bool.and_false, Bool.false_and, Bool.not_true, Bool.not_false, isZS_0, isZS_1, s_53f, s_48M, s_52n, Option.bind_some]
  · intro M Fd d vn V sn S hM hFd
    have k179 := p_179 (L := L) (xs := xs) (b := oN 0) (d := d) (vn := vn) (V := V) (sn := sn) (S := S) hM (show a ≤ 80 by omega)
    refine ⟨oN 0, ?_⟩
    unfold k210
    rw [e_210]
    have st : lAt (bM β) n a = oM 1 ∨ ∃ x, x ≤ 255 ∧ (∀ i, i < 12 → fLet i ≠ x) ∧ (x < 48 ∨ 57 < x) ∧ lAt (bM β) n a = oN x := by
      have key : a < n → lAt (bM β) n a = oN (β a) → ∃ x, x ≤ 255 ∧ (∀ i, i < 12 → fLet i ≠ x) ∧ (x < 48 ∨ 57 < x) ∧ lAt (bM β) n a = oN x := fun g q => by
        refine ⟨β a, hβ a g, fun i hi e => h ⟨g, .inr ⟨i, hi, e⟩⟩, ?_, q⟩
        have : ¬ (48 ≤ β a ∧ β a ≤ 57) := fun q => h ⟨g, .inl q⟩
        omega
      rcases l3 (n := n) (β := β) a with ⟨g, h1, h2⟩ | ⟨g, h0, h1, h2⟩ | ⟨g, h0, h1, h2⟩
      · exact .inl h2
      · exact .inr (key g h2)
      · exact .inr (key g h2)
    rcases st with h2 | ⟨x, hx, hx1, hx2, h2⟩
    · rw [h2] at k179
      rw [k179, Option.bind_some]
      simp (disch := omega) only [↓Bool.cond_eq_ite, ↓reduceIte, Bool.false_eq_true, eq_self, n_lit, n_neg, n_add, n_mul, n_sub, n_subM, n_div, n_mod, n_addM, m_div, m_subn, n_tN, n_inS, n_eq_t, n_eq_f, n_ne_t, n_ne_f, n_lt_t, n_lt_f, n_ge_t, n_ge_f, n_gt_t, n_gt_f, n_le_t, n_le_f, mn_eq, mn_ne, mn_lt, mn_ge, mn_gt, mn_le, nm_eq, nm_ne, nm_lt, nm_ge, nm_gt, nm_le, n_gts_t, c_eq_refl, c_ne_refl, w_fold, w_2, wC_fold, lt_M, cond_true, cond_false, Bool.and_true, Bool.true_and, Bool.and_false, Bool.false_and, Bool.not_true, Bool.not_false, isZS_0, isZS_1, pM_w33, Option.bind_some]
    · rw [h2] at k179
      have f0 : (109 : Nat) ≠ x := hx1 0 (by omega)
      have f1 : (104 : Nat) ≠ x := hx1 1 (by omega)
      have f2 : (100 : Nat) ≠ x := hx1 2 (by omega)
      have f3 : (112 : Nat) ≠ x := hx1 3 (by omega)
      have f4 : (113 : Nat) ≠ x := hx1 4 (by omega)
      have f5 : (110 : Nat) ≠ x := hx1 5 (by omega)
      have f6 : (115 : Nat) ≠ x := hx1 6 (by omega)
      have f7 : (108 : Nat) ≠ x := hx1 7 (by omega)
      have f8 : (117 : Nat) ≠ x := hx1 8 (by omega)
      have f9 : (116 : Nat) ≠ x := hx1 9 (by omega)
      have f10 : (119 : Nat) ≠ x := hx1 10 (by omega)
      have f11 : (120 : Nat) ≠ x := hx1 11 (by omega)
      have hc : x < 48 ∨ (57 < x ∧ x < 100) ∨ 120 < x ∨ x = 101 ∨ x = 102 ∨ x = 103 ∨ x = 105 ∨ x = 106 ∨ x = 107 ∨ x = 111 ∨ x = 114 ∨ x = 118 := by omega
      clear hx1
      rw [k179, Option.bind_some]
      rcases hc with g | g | g | g | g | g | g | g | g | g | g | g
      · simp (disch := omega) only [↓Bool.cond_eq_ite, ↓reduceIte, Bool.false_eq_true, eq_self, n_lit, n_neg, n_add, n_mul, n_sub, n_subM, n_div, n_mod, n_addM, m_div, m_subn, n_tN, n_inS, n_eq_t, n_eq_f, n_ne_t, n_ne_f, n_lt_t, n_lt_f, n_ge_t, n_ge_f, n_gt_t, n_gt_f, n_le_t, n_le_f, mn_eq, mn_ne, mn_lt, mn_ge, mn_gt, mn_le, nm_eq, nm_ne, nm_lt, nm_ge, nm_gt, nm_le, n_gts_t, c_eq_refl, c_ne_refl, w_fold, w_2, wC_fold, lt_M, cond_true, cond_false, Bool.and_true, Bool.true_and, Bool.and_false, Bool.false_and, Bool.not_true, Bool.not_false, isZS_0, isZS_1, pM_w33, Option.bind_some]
      · simp (disch := omega) only [↓Bool.cond_eq_ite, ↓reduceIte, Bool.false_eq_true, eq_self, n_lit, n_neg, n_add, n_mul, n_sub, n_subM, n_div, n_mod, n_addM, m_div, m_subn, n_tN, n_inS, n_eq_t, n_eq_f, n_ne_t, n_ne_f, n_lt_t, n_lt_f, n_ge_t, n_ge_f, n_gt_t, n_gt_f, n_le_t, n_le_f, mn_eq, mn_ne, mn_lt, mn_ge, mn_gt, mn_le, nm_eq, nm_ne, nm_lt, nm_ge, nm_gt, nm_le, n_gts_t, c_eq_refl, c_ne_refl, w_fold, w_2, wC_fold, lt_M, cond_true, cond_false, Bool.and_true, Bool.true_and, Bool.and_false, Bool.false_and, Bool.not_true, Bool.not_false, isZS_0, isZS_1, pM_w33, Option.bind_some]
      · simp (disch := omega) only [↓Bool.cond_eq_ite, ↓reduceIte, Bool.false_eq_true, eq_self, n_lit, n_neg, n_add, n_mul, n_sub, n_subM, n_div, n_mod, n_addM, m_div, m_subn, n_tN, n_inS, n_eq_t, n_eq_f, n_ne_t, n_ne_f, n_lt_t, n_lt_f, n_ge_t, n_ge_f, n_gt_t, n_gt_f, n_le_t, n_le_f, mn_eq, mn_ne, mn_lt, mn_ge, mn_gt, mn_le, nm_eq, nm_ne, nm_lt, nm_ge, nm_gt, nm_le, n_gts_t, c_eq_refl, c_ne_refl, w_fold, w_2, wC_fold, lt_M, cond_true, cond_false, Bool.and_true, Bool.true_and, Bool.and_false, Bool.false_and, Bool.not_true, Bool.not_false, isZS_0, isZS_1, pM_w33, Option.bind_some]
      all_goals
        rw [g]
        simp (disch := omega) only [↓Bool.cond_eq_ite, ↓reduceIte, Bool.false_eq_true, eq_self, n_lit, n_neg, n_add, n_mul, n_sub, n_subM, n_div, n_mod, n_addM, m_div, m_subn, n_tN, n_inS, n_eq_t, n_eq_f, n_ne_t, n_ne_f, n_lt_t, n_lt_f, n_ge_t, n_ge_f, n_gt_t, n_gt_f, n_le_t, n_le_f, mn_eq, mn_ne, mn_lt, mn_ge, mn_gt, mn_le, nm_eq, nm_ne, nm_lt, nm_ge, nm_gt, nm_le, n_gts_t, c_eq_refl, c_ne_refl, w_fold, w_2, wC_fold, lt_M, cond_true, cond_false, Bool.and_true, Bool.true_and, Bool.and_false, Bool.false_and, Bool.not_true, Bool.not_false, isZS_0, isZS_1, pM_w33, Option.bind_some]
end Text6
