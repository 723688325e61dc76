section Cpy
variable {L : Nat} {xs : Nat → Int32}
theorem cpy_t {p0 p1 : List Nat} {f : List Nat → Nat → Int32} {t0 t1 a b n : Nat} (h0 : tgK t0 = 1) (h1 : tgK t1 = 1) (ha : a + n ≤ tgN t0) (hb : b + n ≤ tgN t1) (hs : a + n < 2147483648) (ht : b + n < 2147483648) : cpyS (p0, t0) (p1, t1) f (oN a) (oN b) (oN n) = true := by
  rw [cpyS_eq]
  unfold cpyB
  have z0 : ∀ k, k < 2147483648 → (0 : Int32) ≤ oN k := fun k hk => by
    rw [Int32.le_iff_toInt_le, n_toI hk]; exact Int.natCast_nonneg k
  simp only [n_tN (show a < 2147483648 by omega), n_tN (show b < 2147483648 by omega), n_tN (show n < 2147483648 by omega), h0, h1, z0 a (by omega), z0 b (by omega), z0 n (by omega), ha, hb, decide_true, Bool.and_true, Bool.true_and, Bool.true_or]
  rfl
theorem cpy_z {p0 p1 : List Nat} {f : List Nat → Nat → Int32} {t0 t1 a b n : Nat} (h0 : tgK t0 = 2) (h1 : tgK t1 = 2) (ha : a + n ≤ tgN t0) (hb : b + n ≤ tgN t1) (hs : a + n < 2147483648) (ht : b + n < 2147483648) (hz : ∀ i, i < n → ∃ k, k ≤ 1 ∧ f p0 (a + i) = oN k) : cpyS (p0, t0) (p1, t1) f (oN a) (oN b) (oN n) = true := by
  rw [cpyS_eq]
  unfold cpyB
  have z0 : ∀ k, k < 2147483648 → (0 : Int32) ≤ oN k := fun k hk => by
    rw [Int32.le_iff_toInt_le, n_toI hk]; exact Int.natCast_nonneg k
  have hall : (List.range n).all (fun i => isZ (f p0 (a + i))) = true := by
    rw [List.all_eq_true]
    intro i hi
    obtain ⟨k, hk, e⟩ := hz i (List.mem_range.mp hi)
    have : k = 0 ∨ k = 1 := by omega
    rw [e]
    rcases this with rfl | rfl <;> rfl
  simp only [n_tN (show a < 2147483648 by omega), n_tN (show b < 2147483648 by omega), n_tN (show n < 2147483648 by omega), h0, h1, z0 a (by omega), z0 b (by omega), z0 n (by omega), ha, hb, hall, decide_true, Bool.and_true, Bool.true_and, Bool.or_true]
  rfl
def wL (m : mM) (p : List Nat) (k : Nat) (v : Int64) : mM := (m.1, (uL m.2.1 p (vp_updL (m.2.1 p) k v), m.2.2))
theorem wL_fold (m : mM) (p : List Nat) (k : Nat) (v : Int64) : (m.1, (uL m.2.1 p (vp_updL (m.2.1 p) k v), m.2.2)) = wL m p k v := rfl
theorem wL_1 (m : mM) (p : List Nat) (k : Nat) (v : Int64) : (wL m p k v).1 = m.1 := rfl
theorem wL_2 (m : mM) (p : List Nat) (k : Nat) (v : Int64) : (wL m p k v).2.2 = m.2.2 := rfl
theorem wL_at (m : mM) (p q : List Nat) (k j : Nat) (v : Int64) : (wL m p k v).2.1 q j = if q = p ∧ j = k then v else m.2.1 q j := by
  unfold wL uL vp_updL
  dsimp only
  by_cases h : q = p
  · subst h
    by_cases e : j = k
    · subst e; simp
    · simp [e]
  · simp [h]
theorem wL_ne {m : mM} {p q : List Nat} {k : Nat} {v : Int64} (h : q ≠ p) : (wL m p k v).2.1 q = m.2.1 q := if_neg h
def tcM (C : mM) (p q : List Nat) (n : Nat) : mM := wC (wC (wI C p 0 (oN n)) (1 :: q) (1 :: p) 0 0 n) (2 :: q) (2 :: p) 0 0 n
set_option maxHeartbeats 4000000 in
theorem tc_ok (p q : List Nat) (C : mM) {n : Nat} (hn : n ≤ 8) (h : C.1 q 0 = oN n) (hpq : p ≠ q) (h1 : 1 :: q ≠ p) (h2 : 2 :: q ≠ p) (h3 : 2 :: q ≠ 1 :: p) : kV L xs 61 [vr 6 p, vr 6 q] C = some (tcM C p q n) := by
  refine kV_of ?_
  rw [e_61]
  have g1 : tgK 1000008 = 1 := rfl
  have g2 : tgN 1000008 = 8 := rfl
  have hq : q ≠ p := Ne.symm hpq
  simp (disch := omega) only [↓Bool.cond_eq_ite, ↓reduceIte, Bool.false_eq_true, eq_self, n_lit, n_neg, n_add, n_mul, n_sub, n_subM, n_div, n_mod, n_addM, m_div, m_subn, n_tN, n_inS, n_eq_t, n_eq_f, n_ne_t, n_ne_f, n_lt_t, n_lt_f, n_ge_t, n_ge_f, n_gt_t, n_gt_f, n_le_t, n_le_f, mn_eq, mn_ne, mn_lt, mn_ge, mn_gt, mn_le, nm_eq, nm_ne, nm_lt, nm_ge, nm_gt, nm_le, n_gts_t, c_eq_refl, c_ne_refl, w_fold, w_2, wC_fold, lt_M, cond_true, cond_false, Bool.and_true, Bool.true_and, Bool.and_false, Bool.false_and, Bool.not_true, Bool.not_false, isZS_0, isZS_1, h, hq, w_at, if_true, and_self]
  rw [cpy_t (a := 0) (b := 0) (n := n) g1 g1 (by rw [g2]; omega) (by rw [g2]; omega) (by omega) (by omega)]
  simp (disch := omega) only [↓Bool.cond_eq_ite, ↓reduceIte, Bool.false_eq_true, eq_self, n_lit, n_neg, n_add, n_mul, n_sub, n_subM, n_div, n_mod, n_addM, m_div, m_subn, n_tN, n_inS, n_eq_t, n_eq_f, n_ne_t, n_ne_f, n_lt_t, n_lt_f, n_ge_t, n_ge_f, n_gt_t, n_gt_f, n_le_t, n_le_f, mn_eq, mn_ne, mn_lt, mn_ge, mn_gt, mn_le, nm_eq, nm_ne, nm_lt, nm_ge, nm_gt, nm_le, n_gts_t, c_eq_refl, c_ne_refl, w_fold, w_2, wC_fold, lt_M, cond_true, cond_false, Bool.and_true, Bool.true_and, Bool.and_false, Bool.false_and, Bool.not_true, Bool.not_false, isZS_0, isZS_1, wC_at, w_at, h, hq, if_true, and_self]
  have hp : p ≠ 1 :: p := fun e => by have := congrArg List.length e; simp at this
  simp only [hp, false_and, if_false]
  rw [cpy_t (a := 0) (b := 0) (n := n) g1 g1 (by rw [g2]; omega) (by rw [g2]; omega) (by omega) (by omega), if_pos rfl, n_tN (by omega)]
  rfl
def cbM (C : mM) (p q : List Nat) : mM := (fun z => if z = p then (fun k => if k < 18 then C.1 q k else C.1 p k) else C.1 z, C.2)
theorem cb_at (C : mM) (p q z : List Nat) (k : Nat) : (cbM C p q).1 z k = if z = p ∧ k < 18 then C.1 q k else C.1 z k := by
  unfold cbM
  dsimp only
  by_cases h : z = p
  · subst h; simp
  · simp [h]
theorem cb_ne {C : mM} {p q z : List Nat} (h : z ≠ p) : (cbM C p q).1 z = C.1 z := if_neg h
set_option maxHeartbeats 4000000 in
theorem bc_ok (p q : List Nat) (C : mM) {n : Nat} (hn : n ≤ 8) (h : C.1 (18 :: q) 0 = oN n) (hpq : q ≠ p) (h0 : 18 :: q ≠ p) (h1 : 1 :: 18 :: q ≠ 18 :: p) (h2 : 2 :: 18 :: q ≠ 18 :: p) (h3 : 2 :: 18 :: q ≠ 1 :: 18 :: p) : kV L xs 1 [vr 0 p, vr 0 q] C = some (tcM (cbM C p q) (18 :: p) (18 :: q) n) := by
  refine kV_of ?_
  rw [e_1]
  simp only [lt_M, w_fold, n_lit, n_neg]
  have hm : ∀ m m' : mM, m = m' → ((kV L xs 61 [vr 6 (18 :: p), vr 6 (18 :: q)] m).bind fun z => some ((none : Option mV), z)) = ((kV L xs 61 [vr 6 (18 :: p), vr 6 (18 :: q)] m').bind fun z => some (none, z)) := fun m m' e => by rw [e]
  rw [hm _ (cbM C p q) ?_]
  · rw [tc_ok (18 :: p) (18 :: q) (cbM C p q) hn (by rw [cb_at, if_neg (fun e => h0 e.1)]; exact h) (fun e => hpq (List.cons.inj e).2.symm) h1 h2 h3]
    rfl
  · refine Prod.ext (funext fun z => funext fun k => ?_) rfl
    rw [cb_at]
    simp only [w_at, hpq, false_and, if_false]
    by_cases hz : z = p
    · subst hz
      by_cases hk : k < 18
      · have : k = 0 ∨ k = 1 ∨ k = 2 ∨ k = 3 ∨ k = 4 ∨ k = 5 ∨ k = 6 ∨ k = 7 ∨ k = 8 ∨ k = 9 ∨ k = 10 ∨ k = 11 ∨ k = 12 ∨ k = 13 ∨ k = 14 ∨ k = 15 ∨ k = 16 ∨ k = 17 := by omega
        rcases this with rfl | rfl | rfl | rfl | rfl | rfl | rfl | rfl | rfl | rfl | rfl | rfl | rfl | rfl | rfl | rfl | rfl | rfl <;> simp
      · simp (disch := omega) only [eq_self, true_and, if_neg]
    · simp only [hz, false_and, if_false]
end Cpy
