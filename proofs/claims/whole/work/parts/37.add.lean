section Add
variable {L : Nat} {xs : Nat → Int32}
theorem m_subn (a b : Nat) : oM a - oN b = oM (a + b) := by
  show oM a - oN b = -(oN (a + b))
  rw [← n_add, Int32.neg_add]
  rfl
theorem nar_b0 : vp_nar .boolean (oN 0) = oN 0 := by decide
theorem nar_b1 : vp_nar .boolean (oN 1) = oN 1 := by decide
theorem nar_y (v : Int32) : vp_nar .byte v = v.toInt8.toInt32 := rfl
def begF (a1 a2 a3 a4 : Int32) (f : Nat → Int32) : Nat → Int32 := fun k => if k = 0 then a1 else if k = 1 then a2 else if k = 2 then a3 else if k = 17 then a4 else if k = 3 then oM 1 else if k = 4 then oM 1 else if k = 7 then oM 1 else if k = 8 then oM 1 else if k = 16 then oM 1 else if k < 16 then oN 0 else f k
def begM (C : mM) (p : List Nat) (a1 a2 a3 a4 : Int32) : mM := (fun q => if q = p then begF a1 a2 a3 a4 (C.1 p) else if q = 18 :: p then upd (C.1 (18 :: p)) 0 (oN 0) else C.1 q, C.2)
theorem wI_fst (m : mM) (p : List Nat) (k : Nat) (v : Int32) : (wI m p k v).1 = uI m.1 p (upd (m.1 p) k v) := rfl
theorem beg_ok (p : List Nat) (a1 a2 a3 a4 : Int32) (C : mM) : kV L xs 0 [vr 0 p, vi a1, vi a2, vi a3, vi a4] C = some (begM C p a1 a2 a3 a4) := by
  refine kV_of ?_
  rw [e_0]
  simp only [lt_M, w_fold, n_lit, n_neg]
  congr 2
  unfold begM
  have hp : 18 :: p ≠ p := fun e => by have := congrArg List.length e; simp at this
  refine Prod.ext (funext fun q => ?_) rfl
  by_cases h1 : q = p
  · subst h1
    funext k
    simp only [w_at, hp, Ne.symm hp, true_and, false_and, if_true, if_false]
    unfold begF
    by_cases k0 : k = 0; · subst k0; simp
    by_cases k0 : k = 1; · subst k0; simp
    by_cases k0 : k = 2; · subst k0; simp
    by_cases k0 : k = 17; · subst k0; simp
    by_cases k0 : k = 3; · subst k0; simp
    by_cases k0 : k = 4; · subst k0; simp
    by_cases k0 : k = 7; · subst k0; simp
    by_cases k0 : k = 8; · subst k0; simp
    by_cases k0 : k = 16; · subst k0; simp
    by_cases k0 : k < 16
    · have : k = 5 ∨ k = 6 ∨ k = 9 ∨ k = 10 ∨ k = 11 ∨ k = 12 ∨ k = 13 ∨ k = 14 ∨ k = 15 := by omega
      rcases this with rfl | rfl | rfl | rfl | rfl | rfl | rfl | rfl | rfl <;> simp
    · simp (disch := omega) only [if_neg]
  · by_cases h2 : q = 18 :: p
    · subst h2
      funext k
      simp only [w_at, hp, true_and, false_and, if_true, if_false, upd]
    · funext k
      simp only [w_at, h1, h2, false_and, if_false]
theorem beg_fun (C : mM) (p q : List Nat) (a1 a2 a3 a4 : Int32) : (begM C p a1 a2 a3 a4).1 q = if q = p then begF a1 a2 a3 a4 (C.1 p) else if q = 18 :: p then upd (C.1 (18 :: p)) 0 (oN 0) else C.1 q := rfl
theorem beg_2 (C : mM) (p : List Nat) (a1 a2 a3 a4 : Int32) : (begM C p a1 a2 a3 a4).2 = C.2 := rfl
theorem beg_sf {m : mM} {t p : List Nat} {a b : Nat} {a1 a2 a3 a4 : Int32} (h : p.reverse.take 2 ≠ [b, a]) (h' : (18 :: p).reverse.take 2 ≠ [b, a]) : (begM m p a1 a2 a3 a4).1 (t ++ [a, b]) = m.1 (t ++ [a, b]) := by
  rw [beg_fun, if_neg (sf_ne h), if_neg (sf_ne h')]
def addF (b : Nat) (at' hd : Int32) (f : Nat → Int32) : Nat → Int32 := fun j =>
  if j = 2 then oN (b + 1) else if j = 200 + 16 * b then at' else if j = 200 + 16 * b + 1 then oM 4 else if j = 200 + 16 * b + 3 then hd else if j = 200 + 16 * b + 10 then oM 1 else if 200 + 16 * b ≤ j ∧ j < 200 + 16 * b + 13 then oN 0 else f j
def addM (M : mM) (b : Nat) (k at' hd : Int32) : mM := (fun q => if q = [1, 1] then addF b at' hd (M.1 [1, 1]) else if q = [11, 1] then upd (M.1 [11, 1]) b k else if q = [12, 1] then upd (M.1 [12, 1]) b (oM 4) else if q = [13, 1] then upd (M.1 [13, 1]) b (oM 4)
  else if q = [14, 1] then upd (M.1 [14, 1]) b (oM 1) else if q = [16, 1] then upd (M.1 [16, 1]) b (M.1 [1, 1] 5) else M.1 q, M.2)
def clrF (b i : Nat) (f : Nat → Int32) : Nat → Int32 := fun j => if 200 + 16 * b + i ≤ j ∧ j < 200 + 16 * b + 13 then oN 0 else f j
theorem add_fun (M : mM) (b : Nat) (k at' hd : Int32) (q : List Nat) : (addM M b k at' hd).1 q = if q = [1, 1] then addF b at' hd (M.1 [1, 1]) else if q = [11, 1] then upd (M.1 [11, 1]) b k else if q = [12, 1] then upd (M.1 [12, 1]) b (oM 4) else if q = [13, 1] then upd (M.1 [13, 1]) b (oM 4)
  else if q = [14, 1] then upd (M.1 [14, 1]) b (oM 1) else if q = [16, 1] then upd (M.1 [16, 1]) b (M.1 [1, 1] 5) else M.1 q := rfl
theorem add_2 (M : mM) (b : Nat) (k at' hd : Int32) : (addM M b k at' hd).2 = M.2 := rfl
theorem uI_fun (f : List Nat → Nat → Int32) (p : List Nat) (g : Nat → Int32) (q : List Nat) : uI f p g q = if q = p then g else f q := rfl
theorem run_mem {m rk pc : Nat} {ls : List (Option mV)} {st : List mV} {mem mem' : mM} (h : mem = mem') : run L xs m rk (pc, ls, st, mem) = run L xs m rk (pc, ls, st, mem') := by rw [h]
set_option maxRecDepth 8000 in
theorem clr_ok (b : Nat) (hb : b < 40) (l2 l3 : Int32) : ∀ (n i : Nat) (M : mM), i + n = 13 → run L xs 148 26 (19, [some (vr 10 [1]), none, some (vi l2), some (vi l3), some (vi (oN b)), some (vi (oN i))], [], M) =
    run L xs 148 26 (19, [some (vr 10 [1]), none, some (vi l2), some (vi l3), some (vi (oN b)), some (vi (oN 13))], [], (uI M.1 [1, 1] (clrF b i (M.1 [1, 1])), M.2))
  | 0, i, M, h => by
    have : i = 13 := by omega
    subst this
    refine run_mem ?_
    have e : uI M.1 [1, 1] (clrF b 13 (M.1 [1, 1])) = M.1 := by
      funext q
      rw [uI_fun]
      by_cases h : q = [1, 1]
      · subst h
        funext j
        rw [if_pos rfl]
        unfold clrF
        rw [if_neg (by omega)]
      · rw [if_neg h]
    rw [e]
  | n + 1, i, M, h => by
    rw [h_148_19]
    simp (disch := omega) only [↓Bool.cond_eq_ite, ↓reduceIte, Bool.false_eq_true, eq_self, n_lit, n_neg, n_add, n_mul, n_sub, n_subM, n_div, n_mod, n_addM, m_div, n_tN, n_inS, n_eq_t, n_eq_f, n_ne_t, n_ne_f, n_lt_t, n_lt_f, n_ge_t, n_ge_f, n_gt_t, n_gt_f, n_le_t, n_le_f, mn_eq, mn_ne, mn_lt, mn_ge, mn_gt, mn_le, nm_eq, nm_ne, nm_lt, nm_ge, nm_gt, nm_le, n_gts_t, c_eq_refl, c_ne_refl, w_fold, w_2, wC_fold, lt_M, cond_true, cond_false, Bool.and_true, Bool.true_and, Bool.and_false, Bool.false_and, Bool.not_true, Bool.not_false, isZS_0, isZS_1]
    rw [clr_ok b hb l2 l3 n (i + 1) _ (by omega)]
    refine run_mem (Prod.ext (funext fun q => ?_) rfl)
    show uI _ _ _ q = uI _ _ _ q
    rw [uI_fun, uI_fun]
    by_cases h : q = [1, 1]
    · subst h
      funext j
      rw [if_pos rfl, if_pos rfl]
      unfold clrF
      rw [w_at]
      by_cases h1 : j = 200 + 16 * b + i
      · subst h1
        rw [if_neg (by omega), if_pos ⟨rfl, rfl⟩, if_pos (by omega)]
      · by_cases h2 : 200 + 16 * b + i ≤ j ∧ j < 200 + 16 * b + 13
        · rw [if_pos (by omega), if_pos h2]
        · rw [if_neg (by omega), if_neg (by omega), if_neg h2]
    · rw [if_neg h, if_neg h, w_fun, if_neg h]
theorem add_ok (b : Nat) (hb : b < 40) (k at' hd : Int32) (M : mM) (h2 : M.1 [1, 1] 2 = oN b) : kI L xs 148 [vr 10 [1], vi k, vi at', vi hd] M = some (oN b, addM M b k at' hd) := by
  refine kI_of ?_
  rw [e_148, lt_M, w_fold]
  simp (disch := omega) only [↓Bool.cond_eq_ite, ↓reduceIte, Bool.false_eq_true, eq_self, n_lit, n_neg, n_add, n_mul, n_sub, n_subM, n_div, n_mod, n_addM, m_div, n_tN, n_inS, n_eq_t, n_eq_f, n_ne_t, n_ne_f, n_lt_t, n_lt_f, n_ge_t, n_ge_f, n_gt_t, n_gt_f, n_le_t, n_le_f, mn_eq, mn_ne, mn_lt, mn_ge, mn_gt, mn_le, nm_eq, nm_ne, nm_lt, nm_ge, nm_gt, nm_le, n_gts_t, c_eq_refl, c_ne_refl, w_fold, w_2, wC_fold, lt_M, cond_true, cond_false, Bool.and_true, Bool.true_and, Bool.and_false, Bool.false_and, Bool.not_true, Bool.not_false, isZS_0, isZS_1, h2, uI_fun]
  rw [clr_ok b hb _ _ 13 0 _ (by omega), h_148_19]
  simp (disch := omega) only [↓Bool.cond_eq_ite, ↓reduceIte, Bool.false_eq_true, eq_self, n_lit, n_neg, n_add, n_mul, n_sub, n_subM, n_div, n_mod, n_addM, m_div, n_tN, n_inS, n_eq_t, n_eq_f, n_ne_t, n_ne_f, n_lt_t, n_lt_f, n_ge_t, n_ge_f, n_gt_t, n_gt_f, n_le_t, n_le_f, mn_eq, mn_ne, mn_lt, mn_ge, mn_gt, mn_le, nm_eq, nm_ne, nm_lt, nm_ge, nm_gt, nm_le, n_gts_t, c_eq_refl, c_ne_refl, w_fold, w_2, wC_fold, lt_M, cond_true, cond_false, Bool.and_true, Bool.true_and, Bool.and_false, Bool.false_and, Bool.not_true, Bool.not_false, isZS_0, isZS_1, w_at, uI_fun, List.cons.injEq, reduceCtorEq, and_false, false_and, and_true, true_and, if_true, if_false]
  congr 2
  refine Prod.ext (funext fun q => ?_) rfl
  rw [add_fun]
  by_cases h1 : q = [1, 1]
  · subst h1
    funext j
    rw [if_pos rfl]
    by_cases j1 : j = 2; · subst j1; simp (disch := omega) only [w_at, uI_fun, upd, clrF, addF, List.cons.injEq, reduceCtorEq, and_false, false_and, and_true, true_and, if_true, if_false, if_pos, if_neg, h2, n_add, eq_self, and_self, Nat.add_zero]
    by_cases j2 : j = 200 + 16 * b; · subst j2; simp (disch := omega) only [w_at, uI_fun, upd, clrF, addF, List.cons.injEq, reduceCtorEq, and_false, false_and, and_true, true_and, if_true, if_false, if_pos, if_neg, h2, n_add, eq_self, and_self, Nat.add_zero]
    by_cases j3 : j = 200 + 16 * b + 1; · subst j3; simp (disch := omega) only [w_at, uI_fun, upd, clrF, addF, List.cons.injEq, reduceCtorEq, and_false, false_and, and_true, true_and, if_true, if_false, if_pos, if_neg, h2, n_add, eq_self, and_self, Nat.add_zero]
    by_cases j4 : j = 200 + 16 * b + 3; · subst j4; simp (disch := omega) only [w_at, uI_fun, upd, clrF, addF, List.cons.injEq, reduceCtorEq, and_false, false_and, and_true, true_and, if_true, if_false, if_pos, if_neg, h2, n_add, eq_self, and_self, Nat.add_zero]
    by_cases j5 : j = 200 + 16 * b + 10; · subst j5; simp (disch := omega) only [w_at, uI_fun, upd, clrF, addF, List.cons.injEq, reduceCtorEq, and_false, false_and, and_true, true_and, if_true, if_false, if_pos, if_neg, h2, n_add, eq_self, and_self, Nat.add_zero]
    by_cases j6 : 200 + 16 * b ≤ j ∧ j < 200 + 16 * b + 13
    · simp (disch := omega) only [w_at, uI_fun, upd, clrF, addF, List.cons.injEq, reduceCtorEq, and_false, false_and, and_true, true_and, if_true, if_false, if_pos, if_neg, h2, n_add, eq_self, and_self, Nat.add_zero]
    · simp (disch := omega) only [w_at, uI_fun, upd, clrF, addF, List.cons.injEq, reduceCtorEq, and_false, false_and, and_true, true_and, if_true, if_false, if_pos, if_neg, h2, n_add, eq_self, and_self, Nat.add_zero]
  · by_cases q1 : q = [11, 1]; · subst q1; funext j; simp (disch := omega) only [w_at, uI_fun, upd, clrF, addF, List.cons.injEq, reduceCtorEq, and_false, false_and, and_true, true_and, if_true, if_false, if_pos, if_neg, h2, n_add, eq_self, and_self, Nat.add_zero]
    by_cases q2 : q = [12, 1]; · subst q2; funext j; simp (disch := omega) only [w_at, uI_fun, upd, clrF, addF, List.cons.injEq, reduceCtorEq, and_false, false_and, and_true, true_and, if_true, if_false, if_pos, if_neg, h2, n_add, eq_self, and_self, Nat.add_zero]
    by_cases q3 : q = [13, 1]; · subst q3; funext j; simp (disch := omega) only [w_at, uI_fun, upd, clrF, addF, List.cons.injEq, reduceCtorEq, and_false, false_and, and_true, true_and, if_true, if_false, if_pos, if_neg, h2, n_add, eq_self, and_self, Nat.add_zero]
    by_cases q4 : q = [14, 1]; · subst q4; funext j; simp (disch := omega) only [w_at, uI_fun, upd, clrF, addF, List.cons.injEq, reduceCtorEq, and_false, false_and, and_true, true_and, if_true, if_false, if_pos, if_neg, h2, n_add, eq_self, and_self, Nat.add_zero]
    by_cases q5 : q = [16, 1]; · subst q5; funext j; simp (disch := omega) only [w_at, uI_fun, upd, clrF, addF, List.cons.injEq, reduceCtorEq, and_false, false_and, and_true, true_and, if_true, if_false, if_pos, if_neg, h2, n_add, eq_self, and_self, Nat.add_zero]
    rw [if_neg h1, if_neg q1, if_neg q2, if_neg q3, if_neg q4, if_neg q5]
    simp only [w_fun, uI_fun, h1, q1, q2, q3, q4, q5, if_false]
end Add
section Ne
theorem wC_ne {m : mM} {p0 p q : List Nat} {sp dp n : Nat} (h : q ≠ p) : (wC m p0 p sp dp n).1 q = m.1 q := if_neg h
theorem beg_ne {m : mM} {p q : List Nat} {a1 a2 a3 a4 : Int32} (h : q ≠ p) (h' : q ≠ 18 :: p) : (begM m p a1 a2 a3 a4).1 q = m.1 q := by rw [beg_fun, if_neg h, if_neg h']
theorem add_ne {M : mM} {b : Nat} {k at' hd : Int32} {q : List Nat} (h : q ≠ [1, 1]) (h1 : q ≠ [11, 1]) (h2 : q ≠ [12, 1]) (h3 : q ≠ [13, 1]) (h4 : q ≠ [14, 1]) (h5 : q ≠ [16, 1]) : (addM M b k at' hd).1 q = M.1 q := by
  rw [add_fun, if_neg h, if_neg h1, if_neg h2, if_neg h3, if_neg h4, if_neg h5]
theorem beg_at (C : mM) (p q : List Nat) (a1 a2 a3 a4 : Int32) (j : Nat) : (begM C p a1 a2 a3 a4).1 q j = if q = p then begF a1 a2 a3 a4 (C.1 p) j else if q = 18 :: p then (if j = 0 then oN 0 else C.1 (18 :: p) j) else C.1 q j := by
  rw [beg_fun]; split <;> try rfl
  split <;> rfl
theorem add_at (M : mM) (b : Nat) (k at' hd : Int32) (q : List Nat) (j : Nat) : (addM M b k at' hd).1 q j = if q = [1, 1] then addF b at' hd (M.1 [1, 1]) j else if q = [11, 1] then (if j = b then k else M.1 [11, 1] j) else if q = [12, 1] then (if j = b then oM 4 else M.1 [12, 1] j) else if q = [13, 1] then (if j = b then oM 4 else M.1 [13, 1] j)
  else if q = [14, 1] then (if j = b then oM 1 else M.1 [14, 1] j) else if q = [16, 1] then (if j = b then M.1 [1, 1] 5 else M.1 [16, 1] j) else M.1 q j := by
  rw [add_fun]
  repeat (split; · rfl)
  rfl
end Ne
