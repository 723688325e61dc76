section Text5
variable {L : Nat} {xs : Nat → Int32} {C M : mM} {B F : Nat → Int32} {n : Nat} {β : Nat → Nat}
theorem w_id {p : List Nat} {k : Nat} : wI M p k (M.1 p k) = M := by
  have : upd (M.1 p) k (M.1 p k) = M.1 p := by
    funext j
    rw [upd_at]
    split
    · rename_i h; rw [h]
    · rfl
  unfold wI
  rw [this]
  exact stA_id
theorem w_w {p : List Nat} {k : Nat} {v v' : Int32} : wI (wI M p k v) p k v' = wI M p k v' := by
  show stA _ p _ = stA _ p _
  have : upd ((wI M p k v).1 p) k v' = upd (M.1 p) k v' := by
    funext j
    rw [upd_at, upd_at]
    split
    · rfl
    · rename_i h; exact w_ne_k h
  rw [this]
  exact stA_u
theorem w_stA {p q : List Nat} {k : Nat} {v : Int32} {G : Nat → Int32} (h : q ≠ p) : wI (stA M p G) q k v = stA (wI M q k v) p G := by
  unfold wI
  refine Prod.ext ?_ rfl
  funext z
  show uI _ _ _ z = uI _ _ _ z
  unfold uI
  by_cases h1 : z = p
  · subst h1
    rw [if_neg (Ne.symm h)]
    show (stA M z G).1 z = _
    rw [stA_same, if_pos rfl]
  · rw [if_neg h1]
    show (if z = q then _ else (stA M p G).1 z) = (if z = q then _ else _)
    by_cases h2 : z = q
    · subst h2
      rw [if_pos rfl, if_pos rfl, stA_ne h]
    · rw [if_neg h2, if_neg h2, stA_ne h1]
variable {a d vn sn : Nat} {b : Int32} {V S : Nat → Int32} {k x : Nat} {v : Int32}
theorem pG_w {g : Nat → Int32} : upd (pG g a b d vn sn) 32 (oN x) = pG g x b d vn sn ∧ upd (pG g a b d vn sn) 33 v = pG g a v d vn sn ∧ upd (pG g a b d vn sn) 34 (oN x) = pG g a b x vn sn ∧ upd (pG g a b d vn sn) 38 (oN x) = pG g a b d x sn ∧ upd (pG g a b d vn sn) 40 (oN x) = pG g a b d vn x := by
  have e : ∀ G G' : Nat → Int32, ∀ k : Nat, (∀ j, j ≠ k → G j = G' j) → G k = G' k → G = G' := fun G G' k h1 h2 => funext fun j => by
    by_cases h : j = k
    · subst h; exact h2
    · exact h1 j h
  refine ⟨e _ _ 32 (fun j h => ?_) rfl, e _ _ 33 (fun j h => ?_) rfl, e _ _ 34 (fun j h => ?_) rfl, e _ _ 38 (fun j h => ?_) rfl, e _ _ 40 (fun j h => ?_) rfl⟩ <;> simp only [pG, upd_at, h, if_false]
theorem pM_w {k : Nat} : wI (pM M a b d vn V sn S) [1] k v = stA (stA (stA M [1] (upd (pG (M.1 [1]) a b d vn sn) k v)) [37, 1] V) [39, 1] S := by
  unfold pM
  rw [w_stA (by simp), w_stA (by simp), stA_w]
theorem pM_w32 : wI (pM M a b d vn V sn S) [1] 32 (oN x) = pM M x b d vn V sn S := by rw [pM_w, (pG_w (x := x) (v := oN 0)).1]; rfl
theorem pM_w33 : wI (pM M a b d vn V sn S) [1] 33 v = pM M a v d vn V sn S := by rw [pM_w, (pG_w (x := 0) (v := v)).2.1]; rfl
theorem pM_w34 : wI (pM M a b d vn V sn S) [1] 34 (oN x) = pM M a b x vn V sn S := by rw [pM_w, (pG_w (x := x) (v := oN 0)).2.2.1]; rfl
theorem pM_w38 : wI (pM M a b d vn V sn S) [1] 38 (oN x) = pM M a b d x V sn S := by rw [pM_w, (pG_w (x := x) (v := oN 0)).2.2.2.1]; rfl
theorem pM_w40 : wI (pM M a b d vn V sn S) [1] 40 (oN x) = pM M a b d vn V x S := by rw [pM_w, (pG_w (x := x) (v := oN 0)).2.2.2.2]; rfl
theorem pM_wV : wI (pM M a b d vn V sn S) [37, 1] k v = pM M a b d vn (upd V k v) sn S := by
  unfold pM
  rw [w_stA (by simp), stA_w]
theorem pM_wS : wI (pM M a b d vn V sn S) [39, 1] k v = pM M a b d vn V sn (upd S k v) := by
  unfold pM
  rw [stA_w]
theorem pM_32 : (pM M a b d vn V sn S).1 [1] 32 = oN a := rfl
theorem pM_33 : (pM M a b d vn V sn S).1 [1] 33 = b := rfl
theorem pM_34 : (pM M a b d vn V sn S).1 [1] 34 = oN d := rfl
theorem pM_38 : (pM M a b d vn V sn S).1 [1] 38 = oN vn := rfl
theorem pM_40 : (pM M a b d vn V sn S).1 [1] 40 = oN sn := rfl
theorem pM_29 : (pM M a b d vn V sn S).1 [1] 29 = M.1 [1] 29 := rfl
theorem pM_31 : (pM M a b d vn V sn S).1 [1] 31 = M.1 [1] 31 := rfl
theorem pM_V : (pM M a b d vn V sn S).1 [37, 1] = V := rfl
theorem pM_S : (pM M a b d vn V sn S).1 [39, 1] = S := rfl
theorem mTx_p (h : mTx M n B) : mTx (pM M a b d vn V sn S) n B := h
theorem p_179 (h : mTx M n B) (ha : a ≤ 80) : kI L xs 179 [vr 10 [1]] (pM M a b d vn V sn S) = some (lAt B n a, pM M a b d vn V sn S) := s_179 (mTx_p h) pM_32 ha
def bC (β : Nat → Nat) (i : Nat) : Int32 := if β i < 128 then oN (β i) else oM (256 - β i)
def cR (C : mM) (n : Nat) (β : Nat → Nat) : Prop := C.1 [4, 0] 5 = oN n ∧ ∀ i, i < n → C.1 [4, 4, 0] i = bC β i
theorem c_53 {m : Nat} (h : cR C n β) (hn : n ≤ 80) (ha : a ≤ 80) : kI L xs 53 [vr 5 [4, 0]] (tM C a (oM 4) m F) = some (lAt (bC β) n a, tM C a (oM 4) m F) := s_53 hn h.1 h.2 ha
theorem l3 (i : Nat) : (¬ i < n ∧ lAt (bC β) n i = oM 1 ∧ lAt (bM β) n i = oM 1) ∨ (i < n ∧ 128 ≤ β i ∧ lAt (bC β) n i = oM (256 - β i) ∧ lAt (bM β) n i = oN (β i)) ∨ (i < n ∧ β i < 128 ∧ lAt (bC β) n i = oN (β i) ∧ lAt (bM β) n i = oN (β i)) := by
  unfold lAt bC bM
  by_cases h : i < n
  · by_cases h1 : β i < 128
    · exact .inr (.inr ⟨h, h1, by rw [if_pos h, if_pos h1], by rw [if_pos h]⟩)
    · exact .inr (.inl ⟨h, by omega, by rw [if_pos h, if_neg h1], by rw [if_pos h]⟩)
  · exact .inl ⟨h, by rw [if_neg h], by rw [if_neg h]⟩
theorem mn_inj {p q : Nat} (h : 0 < p + q) (ha : p ≤ 2147483648) (hb : q < 2147483648) : ¬ oM p = oN q := by
  intro e
  have := congrArg Int32.toInt e
  rw [m_toI ha, n_toI hb] at this
  omega
theorem lC_eq (hβ : ∀ i, i < n → β i ≤ 255) {c i : Nat} (hc : c < 128) : lAt (bC β) n i = oN c ↔ i < n ∧ β i = c := by
  rcases l3 (n := n) (β := β) i with ⟨h, h1, h2⟩ | ⟨h, h0, h1, h2⟩ | ⟨h, h0, h1, h2⟩
  · rw [h1]
    exact ⟨fun e => absurd e (mn_inj (by omega) (by omega) (by omega)), fun e => absurd e.1 h⟩
  · have := hβ i h
    rw [h1]
    exact ⟨fun e => absurd e (mn_inj (by omega) (by omega) (by omega)), fun e => by omega⟩
  · rw [h1, n_inj (by omega) (by omega)]
    exact ⟨fun e => ⟨h, e⟩, fun e => e.2⟩
theorem lM_eq (hβ : ∀ i, i < n → β i ≤ 255) {c i : Nat} (hc : c < 256) : lAt (bM β) n i = oN c ↔ i < n ∧ β i = c := by
  unfold lAt bM
  by_cases h : i < n
  · have := hβ i h
    rw [if_pos h, n_inj (by omega) (by omega)]
    exact ⟨fun e => ⟨h, e⟩, fun e => e.2⟩
  · rw [if_neg h]
    exact ⟨fun e => absurd e (mn_inj (by omega) (by omega) (by omega)), fun e => absurd e.1 h⟩
theorem c_eq_h {x y : Int32} (h : ¬ x = y) : cmpS .eq x y = false := by rw [c_eq]; exact decide_eq_false h
theorem c_ne_h {x y : Int32} (h : ¬ x = y) : cmpS .ne x y = true := by rw [c_ne, decide_eq_false h]; rfl
set_option maxRecDepth 8000 in
theorem num_ok (hβ : ∀ i, i < n → β i ≤ 255) (hn : n ≤ 80) {c0 : Nat} (hc : 48 ≤ c0 ∧ c0 ≤ 57) :
    ∀ k l v a, l + k = 4 → a ≤ n → v + 1 ≤ 10 ^ l → (v = 0 ↔ c0 = 48) →
    ∃ j v', a ≤ j ∧ j ≤ n ∧ v' + 1 ≤ 10000 ∧ (∀ C m F, cR C n β → m < 80 → run L xs 55 26 (63, [some (vr 5 [4, 0]), none, none, some (vi (oN v)), some (vi (oN l))], [], tM C a (oM 4) m F) = some (none, tM C j (oM 4) (m + 1) (upd F m (oN v')))) ∧
      (∀ M d vn V sn S, mTx M n (bM β) → run L xs 210 29 (74, [some (vr 10 [1]), some (vi (oN c0)), some (vi (oN v)), some (vi (oN l))], [], pM M a (oN 0) d vn V sn S) = some (some (vi (oN v')), pM M j (oN 0) d vn V sn S)) := by
  intro k
  induction k with
  | zero =>
    intro l v a hl ha hv h0
    have : l = 4 := by omega
    subst this
    have hv : v + 1 ≤ 10000 := hv
    refine ⟨a, v, Nat.le_refl _, ha, hv, ?_, ?_⟩
    · intro C m F hC hm
      rw [h_55_63]
      simp (disch := omega) only [↓Bool.cond_eq_ite, ↓reduceIte, Bool.false_eq_true, eq_self, n_lit, n_neg, n_add, n_mul, n_sub, n_subM, n_div, n_mod, n_addM, m_div, m_subn, n_tN, n_inS, n_eq_t, n_eq_f, n_ne_t, n_ne_f, n_lt_t, n_lt_f, n_ge_t, n_ge_f, n_gt_t, n_gt_f, n_le_t, n_le_f, mn_eq, mn_ne, mn_lt, mn_ge, mn_gt, mn_le, nm_eq, nm_ne, nm_lt, nm_ge, nm_gt, nm_le, n_gts_t, c_eq_refl, c_ne_refl, w_fold, w_2, wC_fold, lt_M, cond_true, cond_false, Bool.and_true, Bool.true_and, Bool.and_false, Bool.false_and, Bool.not_true, Bool.not_false, isZS_0, isZS_1, s_52, Option.bind_some]
    · intro M d vn V sn S hM
      rw [h_210_74]
      simp (disch := omega) only [↓Bool.cond_eq_ite, ↓reduceIte, Bool.false_eq_true, eq_self, n_lit, n_neg, n_add, n_mul, n_sub, n_subM, n_div, n_mod, n_addM, m_div, m_subn, n_tN, n_inS, n_eq_t, n_eq_f, n_ne_t, n_ne_f, n_lt_t, n_lt_f, n_ge_t, n_ge_f, n_gt_t, n_gt_f, n_le_t, n_le_f, mn_eq, mn_ne, mn_lt, mn_ge, mn_gt, mn_le, nm_eq, nm_ne, nm_lt, nm_ge, nm_gt, nm_le, n_gts_t, c_eq_refl, c_ne_refl, w_fold, w_2, wC_fold, lt_M, cond_true, cond_false, Bool.and_true, Bool.true_and, Bool.and_false, Bool.false_and, Bool.not_true, Bool.not_false, isZS_0, isZS_1]
  | succ k ih =>
    intro l v a hl ha hv h0
    have hP : 10 ^ l ≤ 10 ^ 3 := Nat.pow_le_pow_right (by omega) (by omega)
    have hP : 10 ^ l ≤ 1000 := hP
    have hS : 10 ^ (l + 1) = 10 ^ l * 10 := Nat.pow_succ 10 l
    by_cases hz : v = 0
    · have : c0 = 48 := h0.mp hz
      subst this; subst hz
      refine ⟨a, 0, Nat.le_refl _, ha, by omega, ?_, ?_⟩
      · intro C m F hC hm
        rw [h_55_63]
        simp (disch := omega) only [↓Bool.cond_eq_ite, ↓reduceIte, Bool.false_eq_true, eq_self, n_lit, n_neg, n_add, n_mul, n_sub, n_subM, n_div, n_mod, n_addM, m_div, m_subn, n_tN, n_inS, n_eq_t, n_eq_f, n_ne_t, n_ne_f, n_lt_t, n_lt_f, n_ge_t, n_ge_f, n_gt_t, n_gt_f, n_le_t, n_le_f, mn_eq, mn_ne, mn_lt, mn_ge, mn_gt, mn_le, nm_eq, nm_ne, nm_lt, nm_ge, nm_gt, nm_le, n_gts_t, c_eq_refl, c_ne_refl, w_fold, w_2, wC_fold, lt_M, cond_true, cond_false, Bool.and_true, Bool.true_and, Bool.and_false, Bool.false_and, Bool.not_true, Bool.not_false, isZS_0, isZS_1, s_52, Option.bind_some]
      · intro M d vn V sn S hM
        rw [h_210_74]
        simp (disch := omega) only [↓Bool.cond_eq_ite, ↓reduceIte, Bool.false_eq_true, eq_self, n_lit, n_neg, n_add, n_mul, n_sub, n_subM, n_div, n_mod, n_addM, m_div, m_subn, n_tN, n_inS, n_eq_t, n_eq_f, n_ne_t, n_ne_f, n_lt_t, n_lt_f, n_ge_t, n_ge_f, n_gt_t, n_gt_f, n_le_t, n_le_f, mn_eq, mn_ne, mn_lt, mn_ge, mn_gt, mn_le, nm_eq, nm_ne, nm_lt, nm_ge, nm_gt, nm_le, n_gts_t, c_eq_refl, c_ne_refl, w_fold, w_2, wC_fold, lt_M, cond_true, cond_false, Bool.and_true, Bool.true_and, Bool.and_false, Bool.false_and, Bool.not_true, Bool.not_false, isZS_0, isZS_1]
    · have hc' : c0 ≠ 48 := fun h => hz (h0.mpr h)
      by_cases hd : a < n ∧ 48 ≤ β a ∧ β a ≤ 57
      · obtain ⟨hd0, hd1, hd2⟩ := hd
        obtain ⟨j, v', i1, i2, i3, i4, i5⟩ := ih (l + 1) (10 * v + β a - 48) (a + 1) (by omega) (by omega) (by omega) (by omega)
        have hx := (lC_eq hβ (i := a) (c := β a) (by omega)).mpr ⟨hd0, rfl⟩
        have hy := (lM_eq hβ (i := a) (c := β a) (by omega)).mpr ⟨hd0, rfl⟩
        refine ⟨j, v', by omega, i2, i3, ?_, ?_⟩
        · intro C m F hC hm
          have k53 := c_53 (L := L) (xs := xs) (m := m) (F := F) hC hn (show a ≤ 80 by omega)
          rw [hx] at k53
          have k48 := s_48 (L := L) (xs := xs) (C := tM C a (oM 4) m F) (k := β a) (by omega)
          rw [if_pos (by omega)] at k48
          rw [h_55_63]
          simp (disch := omega) only [↓Bool.cond_eq_ite, ↓reduceIte, Bool.false_eq_true, eq_self, n_lit, n_neg, n_add, n_mul, n_sub, n_subM, n_div, n_mod, n_addM, m_div, m_subn, n_tN, n_inS, n_eq_t, n_eq_f, n_ne_t, n_ne_f, n_lt_t, n_lt_f, n_ge_t, n_ge_f, n_gt_t, n_gt_f, n_le_t, n_le_f, mn_eq, mn_ne, mn_lt, mn_ge, mn_gt, mn_le, nm_eq, nm_ne, nm_lt, nm_ge, nm_gt, nm_le, n_gts_t, c_eq_refl, c_ne_refl, w_fold, w_2, wC_fold, lt_M, cond_true, cond_false, Bool.and_true, Bool.true_and, Bool.and_false, Bool.false_and, Bool.not_true, Bool.not_false, isZS_0, isZS_1, k53, k48, tM_6, tM_w6, Option.bind_some]
          exact i4 C m F hC hm
        · intro M d vn V sn S hM
          have k179 := p_179 (L := L) (xs := xs) (b := oN 0) (d := d) (vn := vn) (V := V) (sn := sn) (S := S) hM (show a ≤ 80 by omega)
          rw [hy] at k179
          rw [h_210_74]
          simp (disch := omega) only [↓Bool.cond_eq_ite, ↓reduceIte, Bool.false_eq_true, eq_self, n_lit, n_neg, n_add, n_mul, n_sub, n_subM, n_div, n_mod, n_addM, m_div, m_subn, n_tN, n_inS, n_eq_t, n_eq_f, n_ne_t, n_ne_f, n_lt_t, n_lt_f, n_ge_t, n_ge_f, n_gt_t, n_gt_f, n_le_t, n_le_f, mn_eq, mn_ne, mn_lt, mn_ge, mn_gt, mn_le, nm_eq, nm_ne, nm_lt, nm_ge, nm_gt, nm_le, n_gts_t, c_eq_refl, c_ne_refl, w_fold, w_2, wC_fold, lt_M, cond_true, cond_false, Bool.and_true, Bool.true_and, Bool.and_false, Bool.false_and, Bool.not_true, Bool.not_false, isZS_0, isZS_1, k179, pM_32, pM_w32, Option.bind_some]
          exact i5 M d vn V sn S hM
      · refine ⟨a, v, Nat.le_refl _, ha, by omega, ?_, ?_⟩
        · intro C m F hC hm
          have k53 := c_53 (L := L) (xs := xs) (m := m) (F := F) hC hn (show a ≤ 80 by omega)
          rw [h_55_63]
          rcases l3 (n := n) (β := β) a with ⟨h, h1, h2⟩ | ⟨h, h0, h1, h2⟩ | ⟨h, h0, h1, h2⟩
          · rw [h1] at k53
            simp (disch := omega) only [↓Bool.cond_eq_ite, ↓reduceIte, Bool.false_eq_true, eq_self, n_lit, n_neg, n_add, n_mul, n_sub, n_subM, n_div, n_mod, n_addM, m_div, m_subn, n_tN, n_inS, n_eq_t, n_eq_f, n_ne_t, n_ne_f, n_lt_t, n_lt_f, n_ge_t, n_ge_f, n_gt_t, n_gt_f, n_le_t, n_le_f, mn_eq, mn_ne, mn_lt, mn_ge, mn_gt, mn_le, nm_eq, nm_ne, nm_lt, nm_ge, nm_gt, nm_le, n_gts_t, c_eq_refl, c_ne_refl, w_fold, w_2, wC_fold, lt_M, cond_true, cond_false, Bool.and_true, Bool.true_and, Bool.and_false, Bool.false_and, Bool.not_true, Bool.not_false, isZS_0, isZS_1, k53, s_48M, s_52, Option.bind_some]
          · have := hβ a h
            rw [h1] at k53
            simp (disch := omega) only [↓Bool.cond_eq_ite, ↓reduceIte, Bool.false_eq_true, eq_self, n_lit, n_neg, n_add, n_mul, n_sub, n_subM, n_div, n_mod, n_addM, m_div, m_subn, n_tN, n_inS, n_eq_t, n_eq_f, n_ne_t, n_ne_f, n_lt_t, n_lt_f, n_ge_t, n_ge_f, n_gt_t, n_gt_f, n_le_t, n_le_f, mn_eq, mn_ne, mn_lt, mn_ge, mn_gt, mn_le, nm_eq, nm_ne, nm_lt, nm_ge, nm_gt, nm_le, n_gts_t, c_eq_refl, c_ne_refl, w_fold, w_2, wC_fold, lt_M, cond_true, cond_false, Bool.and_true, Bool.true_and, Bool.and_false, Bool.false_and, Bool.not_true, Bool.not_false, isZS_0, isZS_1, k53, s_48M, s_52, Option.bind_some]
          · rw [h1] at k53
            have k48 := s_48 (L := L) (xs := xs) (C := tM C a (oM 4) m F) (k := β a) (by omega)
            rw [if_neg (by omega)] at k48
            simp (disch := omega) only [↓Bool.cond_eq_ite, ↓reduceIte, Bool.false_eq_true, eq_self, n_lit, n_neg, n_add, n_mul, n_sub, n_subM, n_div, n_mod, n_addM, m_div, m_subn, n_tN, n_inS, n_eq_t, n_eq_f, n_ne_t, n_ne_f, n_lt_t, n_lt_f, n_ge_t, n_ge_f, n_gt_t, n_gt_f, n_le_t, n_le_f, mn_eq, mn_ne, mn_lt, mn_ge, mn_gt, mn_le, nm_eq, nm_ne, nm_lt, nm_ge, nm_gt, nm_le, n_gts_t, c_eq_refl, c_ne_refl, w_fold, w_2, wC_fold, lt_M, cond_true, cond_false, Bool.and_true, Bool.true_and, Bool.and_false, Bool.false_and, Bool.not_true, Bool.not_false, isZS_0, isZS_1, k53, k48, s_52, Option.bind_some]
        · intro M d vn V sn S hM
          have k179 := p_179 (L := L) (xs := xs) (b := oN 0) (d := d) (vn := vn) (V := V) (sn := sn) (S := S) hM (show a ≤ 80 by omega)
          rw [h_210_74]
          have st : lAt (bM β) n a = oM 1 ∨ ∃ x, x ≤ 255 ∧ (x < 48 ∨ 57 < x) ∧ lAt (bM β) n a = oN x := by
            rcases l3 (n := n) (β := β) a with ⟨h, h1, h2⟩ | ⟨h, h0, h1, h2⟩ | ⟨h, h0, h1, h2⟩
            · exact .inl h2
            · exact .inr ⟨_, hβ a h, by omega, h2⟩
            · exact .inr ⟨_, hβ a h, by omega, h2⟩
          rcases st with h2 | ⟨x, hx1, hx2, h2⟩
          · rw [h2] at k179
            simp (disch := omega) only [↓Bool.cond_eq_ite, ↓reduceIte, Bool.false_eq_true, eq_self, n_lit, n_neg, n_add, n_mul, n_sub, n_subM, n_div, n_mod, n_addM, m_div, m_subn, n_tN, n_inS, n_eq_t, n_eq_f, n_ne_t, n_ne_f, n_lt_t, n_lt_f, n_ge_t, n_ge_f, n_gt_t, n_gt_f, n_le_t, n_le_f, mn_eq, mn_ne, mn_lt, mn_ge, mn_gt, mn_le, nm_eq, nm_ne, nm_lt, nm_ge, nm_gt, nm_le, n_gts_t, c_eq_refl, c_ne_refl, w_fold, w_2, wC_fold, lt_M, cond_true, cond_false, Bool.and_true, Bool.true_and, Bool.and_false, Bool.false_and, Bool.not_true, Bool.not_false, isZS_0, isZS_1, k179, Option.bind_some]
          · rw [h2] at k179
            rcases hx2 with hx2 | hx2
            · simp (disch := omega) only [↓Bool.cond_eq_ite, ↓reduceIte, Bool.false_eq_true, eq_self, n_lit, n_neg, n_add, n_mul, n_sub, n_subM, n_div, n_mod, n_addM, m_div, m_subn, n_tN, n_inS, n_eq_t, n_eq_f, n_ne_t, n_ne_f, n_lt_t, n_lt_f, n_ge_t, n_ge_f, n_gt_t, n_gt_f, n_le_t, n_le_f, mn_eq, mn_ne, mn_lt, mn_ge, mn_gt, mn_le, nm_eq, nm_ne, nm_lt, nm_ge, nm_gt, nm_le, n_gts_t, c_eq_refl, c_ne_refl, w_fold, w_2, wC_fold, lt_M, cond_true, cond_false, Bool.and_true, Bool.true_and, Bool.and_false, Bool.false_and, Bool.not_true, Bool.not_false, isZS_0, isZS_1, k179, Option.bind_some]
            · have h48 : ¬ x < 48 := by omega
              simp (disch := omega) only [↓Bool.cond_eq_ite, ↓reduceIte, Bool.false_eq_true, eq_self, n_lit, n_neg, n_add, n_mul, n_sub, n_subM, n_div, n_mod, n_addM, m_div, m_subn, n_tN, n_inS, n_eq_t, n_eq_f, n_ne_t, n_ne_f, n_lt_t, n_lt_f, n_ge_t, n_ge_f, n_gt_t, n_gt_f, n_le_t, n_le_f, mn_eq, mn_ne, mn_lt, mn_ge, mn_gt, mn_le, nm_eq, nm_ne, nm_lt, nm_ge, nm_gt, nm_le, n_gts_t, c_eq_refl, c_ne_refl, w_fold, w_2, wC_fold, lt_M, cond_true, cond_false, Bool.and_true, Bool.true_and, Bool.and_false, Bool.false_and, Bool.not_true, Bool.not_false, isZS_0, isZS_1, k179, Option.bind_some]
end Text5
