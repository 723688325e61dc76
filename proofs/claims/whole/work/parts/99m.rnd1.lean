section Round1
variable {L : Nat} {xs : Nat → Int32} {C C' M M' : mM} {p : List Nat}
def thS (h sl : Nat → Nat) (s : Nat) : Nat → Nat
  | 0 => 0
  | i + 1 => thS h sl s i + (if sl i = s then h i else 0)
def laS (h sl : Nat → Nat) (s : Nat) : Nat → Nat
  | 0 => 0
  | i + 1 => if sl i + 1 = s then max (laS h sl s i) (h i) else laS h sl s i
def mI (h sl : Nat → Nat) (s n : Nat) : Nat := if 6 ≤ s then 0 else thS h sl s n + laS h sl s n
variable {h sl sl' : Nat → Nat} {s n k g : Nat}
theorem thS_le {B : Nat} (hB : ∀ i, i < n → h i ≤ B) : thS h sl s n ≤ B * n := by
  induction n with
  | zero => exact Nat.zero_le _
  | succ n ih =>
    have h1 := ih (fun i hi => hB i (by omega))
    have h2 := hB n (by omega)
    have e : B * (n + 1) = B * n + B := Nat.mul_succ B n
    show thS h sl s n + (if sl n = s then h n else 0) ≤ _
    split <;> omega
theorem laS_le {B : Nat} (hB : ∀ i, i < n → h i ≤ B) : laS h sl s n ≤ B := by
  induction n with
  | zero => exact Nat.zero_le _
  | succ n ih =>
    have h1 := ih (fun i hi => hB i (by omega))
    have h2 := hB n (by omega)
    show (if sl n + 1 = s then max (laS h sl s n) (h n) else laS h sl s n) ≤ _
    split <;> omega
theorem mI_S : mI h sl s n ≤ mI h sl s (n + 1) := by
  unfold mI
  split
  · exact Nat.le_refl _
  · show thS h sl s n + laS h sl s n ≤ (thS h sl s n + (if sl n = s then h n else 0)) + (if sl n + 1 = s then max (laS h sl s n) (h n) else laS h sl s n)
    split <;> split <;> omega
theorem mI_mono {m : Nat} (hm : n ≤ m) : mI h sl s n ≤ mI h sl s m := by
  induction m with
  | zero => have : n = 0 := by omega
            subst this; exact Nat.le_refl _
  | succ m ih =>
    by_cases e : n = m + 1
    · subst e; exact Nat.le_refl _
    · exact Nat.le_trans (ih (by omega)) mI_S
theorem thS_cg (hc : ∀ l, l < n → sl' l = sl l) : thS h sl' s n = thS h sl s n := by
  induction n with
  | zero => rfl
  | succ n ih =>
    show thS h sl' s n + (if sl' n = s then h n else 0) = thS h sl s n + (if sl n = s then h n else 0)
    rw [ih (fun l hl => hc l (by omega)), hc n (by omega)]
theorem laS_cg (hc : ∀ l, l < n → sl' l = sl l) : laS h sl' s n = laS h sl s n := by
  induction n with
  | zero => rfl
  | succ n ih =>
    show (if sl' n + 1 = s then max (laS h sl' s n) (h n) else laS h sl' s n) = (if sl n + 1 = s then max (laS h sl s n) (h n) else laS h sl s n)
    rw [ih (fun l hl => hc l (by omega)), hc n (by omega)]
theorem mI_cg (hc : ∀ l, l < n → sl' l = sl l) : mI h sl' s n = mI h sl s n := by
  unfold mI
  rw [thS_cg hc, laS_cg hc]
theorem mI_st (h1 : sl n ≠ s) (h2 : sl n + 1 ≠ s) : mI h sl s (n + 1) = mI h sl s n := by
  unfold mI
  show (if 6 ≤ s then 0 else (thS h sl s n + (if sl n = s then h n else 0)) + (if sl n + 1 = s then max (laS h sl s n) (h n) else laS h sl s n)) = _
  rw [if_neg h1, if_neg h2]
  rfl
theorem s_41 (hs : s ≤ 6) (hn : n ≤ 5) (hh : ∀ i, i < n → h i ≤ 1000 ∧ sl i ≤ 5 ∧ C.1 (2 :: p) i = oN (h i) ∧ C.1 (3 :: p) i = oN (sl i)) : kI L xs 41 [vr 3 p, vi (oN s), vi (oN n)] C = some (oN (mI h sl s n), C) := by
  refine kI_of ?_
  rw [e_41]
  by_cases h6 : 6 ≤ s
  · unfold mI
    rw [if_pos h6]
    simp (disch := omega) only [↓Bool.cond_eq_ite, ↓reduceIte, Bool.false_eq_true, eq_self, n_lit, n_neg, n_add, n_mul, n_sub, n_subM, n_div, n_mod, n_addM, m_div, m_subn, n_tN, n_inS, n_eq_t, n_eq_f, n_ne_t, n_ne_f, n_lt_t, n_lt_f, n_ge_t, n_ge_f, n_gt_t, n_gt_f, n_le_t, n_le_f, mn_eq, mn_ne, mn_lt, mn_ge, mn_gt, mn_le, nm_eq, nm_ne, nm_lt, nm_ge, nm_gt, nm_le, n_gts_t, c_eq_refl, c_ne_refl, w_fold, w_2, wC_fold, lt_M, cond_true, cond_false, Bool.and_true, Bool.true_and, Bool.and_false, Bool.false_and, Bool.not_true, Bool.not_false, isZS_0, isZS_1]
  · have key : ∀ r i, i + r = n → run L xs 41 25 (16, [some (vr 3 p), some (vi (oN s)), some (vi (oN n)), some (vi (oN (thS h sl s i))), some (vi (oN (laS h sl s i))), some (vi (oN i))], [], C) = some (some (vi (oN (thS h sl s n + laS h sl s n))), C) := by
      intro r
      induction r with
      | zero =>
        intro i hi
        have : i = n := by omega
        subst this
        rw [h_41_16]
        simp (disch := omega) only [↓Bool.cond_eq_ite, ↓reduceIte, Bool.false_eq_true, eq_self, n_lit, n_neg, n_add, n_mul, n_sub, n_subM, n_div, n_mod, n_addM, m_div, m_subn, n_tN, n_inS, n_eq_t, n_eq_f, n_ne_t, n_ne_f, n_lt_t, n_lt_f, n_ge_t, n_ge_f, n_gt_t, n_gt_f, n_le_t, n_le_f, mn_eq, mn_ne, mn_lt, mn_ge, mn_gt, mn_le, nm_eq, nm_ne, nm_lt, nm_ge, nm_gt, nm_le, n_gts_t, c_eq_refl, c_ne_refl, w_fold, w_2, wC_fold, lt_M, cond_true, cond_false, Bool.and_true, Bool.true_and, Bool.and_false, Bool.false_and, Bool.not_true, Bool.not_false, isZS_0, isZS_1]
      | succ r ih =>
        intro i hi
        obtain ⟨a1, a2, a3, a4⟩ := hh i (by omega)
        have := ih (i + 1) (by omega)
        have b1 := thS_le (sl := sl) (s := s) (h := h) (n := i) (B := 1000) (fun j hj => (hh j (by omega)).1)
        have b2 := laS_le (sl := sl) (s := s) (h := h) (n := i) (B := 1000) (fun j hj => (hh j (by omega)).1)
        have e1 : thS h sl s (i + 1) = thS h sl s i + (if sl i = s then h i else 0) := rfl
        have e2 : laS h sl s (i + 1) = if sl i + 1 = s then max (laS h sl s i) (h i) else laS h sl s i := rfl
        rw [e1, e2] at this
        rw [h_41_16]
        by_cases q1 : sl i = s
        · rw [if_pos q1, if_neg (by omega)] at this
          by_cases q0 : s = 0
          · rw [q0] at this ⊢ q1
            simp (disch := omega) only [↓Bool.cond_eq_ite, ↓reduceIte, Bool.false_eq_true, eq_self, n_lit, n_neg, n_add, n_mul, n_sub, n_subM, n_div, n_mod, n_addM, m_div, m_subn, n_tN, n_inS, n_eq_t, n_eq_f, n_ne_t, n_ne_f, n_lt_t, n_lt_f, n_ge_t, n_ge_f, n_gt_t, n_gt_f, n_le_t, n_le_f, mn_eq, mn_ne, mn_lt, mn_ge, mn_gt, mn_le, nm_eq, nm_ne, nm_lt, nm_ge, nm_gt, nm_le, n_gts_t, c_eq_refl, c_ne_refl, w_fold, w_2, wC_fold, lt_M, cond_true, cond_false, Bool.and_true, Bool.true_and, Bool.and_false, Bool.false_and, Bool.not_true, Bool.not_false, isZS_0, isZS_1, a3, a4, q1]
            exact this
          · simp (disch := omega) only [↓Bool.cond_eq_ite, ↓reduceIte, Bool.false_eq_true, eq_self, n_lit, n_neg, n_add, n_mul, n_sub, n_subM, n_div, n_mod, n_addM, m_div, m_subn, n_tN, n_inS, n_eq_t, n_eq_f, n_ne_t, n_ne_f, n_lt_t, n_lt_f, n_ge_t, n_ge_f, n_gt_t, n_gt_f, n_le_t, n_le_f, mn_eq, mn_ne, mn_lt, mn_ge, mn_gt, mn_le, nm_eq, nm_ne, nm_lt, nm_ge, nm_gt, nm_le, n_gts_t, c_eq_refl, c_ne_refl, w_fold, w_2, wC_fold, lt_M, cond_true, cond_false, Bool.and_true, Bool.true_and, Bool.and_false, Bool.false_and, Bool.not_true, Bool.not_false, isZS_0, isZS_1, a3, a4]
            exact this
        · by_cases q2 : sl i + 1 = s
          · rw [if_neg q1, if_pos q2, Nat.add_zero] at this
            simp (disch := omega) only [↓Bool.cond_eq_ite, ↓reduceIte, Bool.false_eq_true, eq_self, n_lit, n_neg, n_add, n_mul, n_sub, n_subM, n_div, n_mod, n_addM, m_div, m_subn, n_tN, n_inS, n_eq_t, n_eq_f, n_ne_t, n_ne_f, n_lt_t, n_lt_f, n_ge_t, n_ge_f, n_gt_t, n_gt_f, n_le_t, n_le_f, mn_eq, mn_ne, mn_lt, mn_ge, mn_gt, mn_le, nm_eq, nm_ne, nm_lt, nm_ge, nm_gt, nm_le, n_gts_t, c_eq_refl, c_ne_refl, w_fold, w_2, wC_fold, lt_M, cond_true, cond_false, Bool.and_true, Bool.true_and, Bool.and_false, Bool.false_and, Bool.not_true, Bool.not_false, isZS_0, isZS_1, a3, a4, mx_if]
            exact this
          · rw [if_neg q1, if_neg q2, Nat.add_zero] at this
            by_cases q0 : s = 0
            · rw [q0] at this ⊢ q1
              simp (disch := omega) only [↓Bool.cond_eq_ite, ↓reduceIte, Bool.false_eq_true, eq_self, n_lit, n_neg, n_add, n_mul, n_sub, n_subM, n_div, n_mod, n_addM, m_div, m_subn, n_tN, n_inS, n_eq_t, n_eq_f, n_ne_t, n_ne_f, n_lt_t, n_lt_f, n_ge_t, n_ge_f, n_gt_t, n_gt_f, n_le_t, n_le_f, mn_eq, mn_ne, mn_lt, mn_ge, mn_gt, mn_le, nm_eq, nm_ne, nm_lt, nm_ge, nm_gt, nm_le, n_gts_t, c_eq_refl, c_ne_refl, w_fold, w_2, wC_fold, lt_M, cond_true, cond_false, Bool.and_true, Bool.true_and, Bool.and_false, Bool.false_and, Bool.not_true, Bool.not_false, isZS_0, isZS_1, a3, a4]
              exact this
            · simp (disch := omega) only [↓Bool.cond_eq_ite, ↓reduceIte, Bool.false_eq_true, eq_self, n_lit, n_neg, n_add, n_mul, n_sub, n_subM, n_div, n_mod, n_addM, m_div, m_subn, n_tN, n_inS, n_eq_t, n_eq_f, n_ne_t, n_ne_f, n_lt_t, n_lt_f, n_ge_t, n_ge_f, n_gt_t, n_gt_f, n_le_t, n_le_f, mn_eq, mn_ne, mn_lt, mn_ge, mn_gt, mn_le, nm_eq, nm_ne, nm_lt, nm_ge, nm_gt, nm_le, n_gts_t, c_eq_refl, c_ne_refl, w_fold, w_2, wC_fold, lt_M, cond_true, cond_false, Bool.and_true, Bool.true_and, Bool.and_false, Bool.false_and, Bool.not_true, Bool.not_false, isZS_0, isZS_1, a3, a4]
              exact this
    unfold mI
    rw [if_neg h6]
    have := key n 0 (by omega)
    simp (disch := omega) only [↓Bool.cond_eq_ite, ↓reduceIte, Bool.false_eq_true, eq_self, n_lit, n_neg, n_add, n_mul, n_sub, n_subM, n_div, n_mod, n_addM, m_div, m_subn, n_tN, n_inS, n_eq_t, n_eq_f, n_ne_t, n_ne_f, n_lt_t, n_lt_f, n_ge_t, n_ge_f, n_gt_t, n_gt_f, n_le_t, n_le_f, mn_eq, mn_ne, mn_lt, mn_ge, mn_gt, mn_le, nm_eq, nm_ne, nm_lt, nm_ge, nm_gt, nm_le, n_gts_t, c_eq_refl, c_ne_refl, w_fold, w_2, wC_fold, lt_M, cond_true, cond_false, Bool.and_true, Bool.true_and, Bool.and_false, Bool.false_and, Bool.not_true, Bool.not_false, isZS_0, isZS_1]
    exact this
def fO (P : Nat → Bool) : Nat → Nat → Option Nat
  | _, 0 => none
  | s, r + 1 => if P s = true then some s else fO P (s + 1) r
def encO : Option Nat → Int32
  | none => oM 4
  | some s => oN s
def encP : Option Nat → Int32
  | none => oM 1
  | some s => oN s
theorem s_40 {k : Nat} (hk : k ≤ 5) (hg : g ≤ 2000) (h0 : C.1 p 0 = oN k) (h1 : C.1 p 1 = oN g) (hh : ∀ i, i < k → h i ≤ 1000 ∧ sl i ≤ 5 ∧ C.1 (2 :: p) i = oN (h i) ∧ C.1 (3 :: p) i = oN (sl i)) : kI L xs 40 [vr 3 p] C = some (encO (fO (fun s => decide (g < mI h sl s k)) 0 6), C) := by
  have key : ∀ r s, s + r = 6 → run L xs 40 26 (2, [some (vr 3 p), some (vi (oN s))], [], C) = some (some (vi (encO (fO (fun s => decide (g < mI h sl s k)) s r))), C) := by
    intro r
    induction r with
    | zero =>
      intro s hs
      have : s = 6 := by omega
      subst this
      rw [h_40_2]
      simp (disch := omega) only [↓Bool.cond_eq_ite, ↓reduceIte, Bool.false_eq_true, eq_self, n_lit, n_neg, n_add, n_mul, n_sub, n_subM, n_div, n_mod, n_addM, m_div, m_subn, n_tN, n_inS, n_eq_t, n_eq_f, n_ne_t, n_ne_f, n_lt_t, n_lt_f, n_ge_t, n_ge_f, n_gt_t, n_gt_f, n_le_t, n_le_f, mn_eq, mn_ne, mn_lt, mn_ge, mn_gt, mn_le, nm_eq, nm_ne, nm_lt, nm_ge, nm_gt, nm_le, n_gts_t, c_eq_refl, c_ne_refl, w_fold, w_2, wC_fold, lt_M, cond_true, cond_false, Bool.and_true, Bool.true_and, Bool.and_false, Bool.false_and, Bool.not_true, Bool.not_false, isZS_0, isZS_1, fO, encO]
    | succ r ih =>
      intro s hs
      have k41 := s_41 (L := L) (xs := xs) (p := p) (C := C) (h := h) (sl := sl) (s := s) (n := k) (by omega) hk hh
      have b1 := thS_le (sl := sl) (s := s) (h := h) (n := k) (B := 1000) (fun j hj => (hh j hj).1)
      have b2 := laS_le (sl := sl) (s := s) (h := h) (n := k) (B := 1000) (fun j hj => (hh j hj).1)
      have b3 : mI h sl s k ≤ 6000 := by
        unfold mI
        split <;> omega
      rw [h_40_2]
      by_cases hq : g < mI h sl s k
      · simp (disch := omega) only [↓Bool.cond_eq_ite, ↓reduceIte, Bool.false_eq_true, eq_self, n_lit, n_neg, n_add, n_mul, n_sub, n_subM, n_div, n_mod, n_addM, m_div, m_subn, n_tN, n_inS, n_eq_t, n_eq_f, n_ne_t, n_ne_f, n_lt_t, n_lt_f, n_ge_t, n_ge_f, n_gt_t, n_gt_f, n_le_t, n_le_f, mn_eq, mn_ne, mn_lt, mn_ge, mn_gt, mn_le, nm_eq, nm_ne, nm_lt, nm_ge, nm_gt, nm_le, n_gts_t, c_eq_refl, c_ne_refl, w_fold, w_2, wC_fold, lt_M, cond_true, cond_false, Bool.and_true, Bool.true_and, Bool.and_false, Bool.false_and, Bool.not_true, Bool.not_false, isZS_0, isZS_1, h0, h1, k41, fO, decide_eq_true hq, if_true, encO, Option.bind_some]
      · have := ih (s + 1) (by omega)
        simp (disch := omega) only [↓Bool.cond_eq_ite, ↓reduceIte, Bool.false_eq_true, eq_self, n_lit, n_neg, n_add, n_mul, n_sub, n_subM, n_div, n_mod, n_addM, m_div, m_subn, n_tN, n_inS, n_eq_t, n_eq_f, n_ne_t, n_ne_f, n_lt_t, n_lt_f, n_ge_t, n_ge_f, n_gt_t, n_gt_f, n_le_t, n_le_f, mn_eq, mn_ne, mn_lt, mn_ge, mn_gt, mn_le, nm_eq, nm_ne, nm_lt, nm_ge, nm_gt, nm_le, n_gts_t, c_eq_refl, c_ne_refl, w_fold, w_2, wC_fold, lt_M, cond_true, cond_false, Bool.and_true, Bool.true_and, Bool.and_false, Bool.false_and, Bool.not_true, Bool.not_false, isZS_0, isZS_1, h0, h1, k41, fO, decide_eq_false hq, Option.bind_some]
        exact this
  refine kI_of ?_
  rw [e_40]
  exact key 6 0 (by omega)
end Round1
