section Num
def oN (n : Nat) : Int32 := Int32.ofNat n
def oM (n : Nat) : Int32 := -(Int32.ofNat n)
theorem n_lit (n : Nat) : (@OfNat.ofNat Int32 n Int32.instOfNat) = oN (@OfNat.ofNat Nat n (instOfNatNat n)) := rfl
theorem n_neg (n : Nat) : -(oN n) = oM n := rfl
theorem n_add (a b : Nat) : oN a + oN b = oN (a + b) := (Int32.ofNat_add a b).symm
theorem n_mul (a b : Nat) : oN a * oN b = oN (a * b) := (Int32.ofNat_mul a b).symm
theorem n_sub {a b : Nat} (h : b ≤ a) : oN a - oN b = oN (a - b) := by
  have e : oN a = oN (a - b) + oN b := by rw [n_add, Nat.sub_add_cancel h]
  rw [e]
  exact Int32.add_sub_cancel _ _
theorem n_toI {k : Nat} (h : k < 2147483648) : (oN k).toInt = k := Int32.toInt_ofNat_of_lt h
theorem m_toI {k : Nat} (h : k ≤ 2147483648) : (oM k).toInt = -(k : Int) := by
  unfold oM
  rw [Int32.toInt_neg]
  by_cases q : k < 2147483648
  · rw [Int32.toInt_ofNat_of_lt q]
    exact Int.bmod_eq_of_le (by omega) (by omega)
  · have : k = 2147483648 := by omega
    subst this
    decide
theorem n_tN {k : Nat} (h : k < 2147483648) : (oN k).toNatClampNeg = k := by
  show (oN k).toInt.toNat = k
  rw [n_toI h]; omega
theorem n_inj {a b : Nat} (ha : a < 2147483648) (hb : b < 2147483648) : oN a = oN b ↔ a = b := by
  constructor
  · intro h
    have := congrArg Int32.toInt h
    rw [n_toI ha, n_toI hb] at this
    omega
  · intro h; rw [h]
theorem I_cases (a : Int32) : (∃ k, k < 2147483648 ∧ a = oN k) ∨ (∃ k, 0 < k ∧ k ≤ 2147483648 ∧ a = oM k) := by
  have h1 := Int32.toInt_lt a
  have h2 := Int32.le_toInt a
  by_cases h : 0 ≤ a.toInt
  · left
    refine ⟨a.toInt.toNat, by omega, ?_⟩
    apply Int32.toInt_inj.mp
    rw [n_toI (by omega)]; omega
  · right
    refine ⟨(-a.toInt).toNat, by omega, by omega, ?_⟩
    apply Int32.toInt_inj.mp
    rw [m_toI (by omega)]; omega
theorem n_div {a b : Nat} (ha : a < 2147483648) (hb : b < 2147483648) : oN a / oN b = oN (a / b) := by
  apply Int32.toInt_inj.mp
  rw [Int32.toInt_div, n_toI ha, n_toI hb, n_toI (Nat.lt_of_le_of_lt (Nat.div_le_self a b) ha), ← Int.ofNat_tdiv]
  have h1 : a / b ≤ a := Nat.div_le_self a b
  have h2 : ((a / b : Nat) : Int) ≤ (a : Int) := Int.ofNat_le.mpr h1
  have h3 : 0 ≤ ((a / b : Nat) : Int) := Int.natCast_nonneg _
  generalize ((a / b : Nat) : Int) = z at h2 h3 ⊢
  exact Int.bmod_eq_of_le (by omega) (by omega)
theorem n_mod {a b : Nat} (ha : a < 2147483648) (hb : b < 2147483648) : oN a - oN a / oN b * oN b = oN (a % b) := by
  rw [n_div ha hb, n_mul, n_sub (Nat.div_mul_le_self a b)]
  congr 1
  have := Nat.div_add_mod a b
  rw [Nat.mul_comm] at this
  omega
theorem n_addM {a b : Nat} (h : b ≤ a) : oN a + oM b = oN (a - b) := by
  rw [← n_sub h]
  exact (Int32.sub_eq_add_neg _ _).symm
theorem n_inS {k n : Nat} (h : k < n) (hn : n ≤ 2147483648) : inS (oN k) n = true := by
  rw [inS_eq]
  unfold inB
  simp only [Bool.and_eq_true, decide_eq_true_eq]
  rw [n_tN (by omega)]
  refine ⟨?_, h⟩
  rw [Int32.le_iff_toInt_le, n_toI (by omega)]
  exact Int.natCast_nonneg k
theorem c_eq (v w : Int32) : cmpS .eq v w = decide (v = w) := by rw [cmpS_eq]; rfl
theorem c_ne (v w : Int32) : cmpS .ne v w = !decide (v = w) := by rw [cmpS_eq]; rfl
theorem c_lt (v w : Int32) : cmpS .lt v w = decide (v.toInt < w.toInt) := by
  rw [cmpS_eq]; exact decide_eq_decide.mpr Int32.lt_iff_toInt_lt
theorem c_ge (v w : Int32) : cmpS .ge v w = decide (w.toInt ≤ v.toInt) := by
  rw [cmpS_eq]; exact decide_eq_decide.mpr Int32.le_iff_toInt_le
theorem c_gt (v w : Int32) : cmpS .gt v w = decide (w.toInt < v.toInt) := by
  rw [cmpS_eq]; exact decide_eq_decide.mpr Int32.lt_iff_toInt_lt
theorem c_le (v w : Int32) : cmpS .le v w = decide (v.toInt ≤ w.toInt) := by
  rw [cmpS_eq]; exact decide_eq_decide.mpr Int32.le_iff_toInt_le
end Num
section Nf

theorem n_eq_t {a b : Nat} (h : a = b) (ha : a < 2147483648) (hb : b < 2147483648) : cmpS .eq (oN a) (oN b) = true := by
  simp only [c_eq, n_toI ha, n_toI hb, n_inj ha hb, decide_eq_true_eq, decide_eq_false_iff_not, Bool.not_eq_true', Bool.not_eq_false']; omega
theorem n_eq_f {a b : Nat} (h : a ≠ b) (ha : a < 2147483648) (hb : b < 2147483648) : cmpS .eq (oN a) (oN b) = false := by
  simp only [c_eq, n_toI ha, n_toI hb, n_inj ha hb, decide_eq_true_eq, decide_eq_false_iff_not, Bool.not_eq_true', Bool.not_eq_false']; omega
theorem n_ne_t {a b : Nat} (h : a ≠ b) (ha : a < 2147483648) (hb : b < 2147483648) : cmpS .ne (oN a) (oN b) = true := by
  simp only [c_ne, n_toI ha, n_toI hb, n_inj ha hb, decide_eq_true_eq, decide_eq_false_iff_not, Bool.not_eq_true', Bool.not_eq_false']; omega
theorem n_ne_f {a b : Nat} (h : a = b) (ha : a < 2147483648) (hb : b < 2147483648) : cmpS .ne (oN a) (oN b) = false := by
  simp only [c_ne, n_toI ha, n_toI hb, n_inj ha hb, decide_eq_true_eq, decide_eq_false_iff_not, Bool.not_eq_true', Bool.not_eq_false']; omega
theorem n_lt_t {a b : Nat} (h : a < b) (ha : a < 2147483648) (hb : b < 2147483648) : cmpS .lt (oN a) (oN b) = true := by
  simp only [c_lt, n_toI ha, n_toI hb, n_inj ha hb, decide_eq_true_eq, decide_eq_false_iff_not, Bool.not_eq_true', Bool.not_eq_false']; omega
theorem n_lt_f {a b : Nat} (h : b ≤ a) (ha : a < 2147483648) (hb : b < 2147483648) : cmpS .lt (oN a) (oN b) = false := by
  simp only [c_lt, n_toI ha, n_toI hb, n_inj ha hb, decide_eq_true_eq, decide_eq_false_iff_not, Bool.not_eq_true', Bool.not_eq_false']; omega
theorem n_ge_t {a b : Nat} (h : b ≤ a) (ha : a < 2147483648) (hb : b < 2147483648) : cmpS .ge (oN a) (oN b) = true := by
  simp only [c_ge, n_toI ha, n_toI hb, n_inj ha hb, decide_eq_true_eq, decide_eq_false_iff_not, Bool.not_eq_true', Bool.not_eq_false']; omega
theorem n_ge_f {a b : Nat} (h : a < b) (ha : a < 2147483648) (hb : b < 2147483648) : cmpS .ge (oN a) (oN b) = false := by
  simp only [c_ge, n_toI ha, n_toI hb, n_inj ha hb, decide_eq_true_eq, decide_eq_false_iff_not, Bool.not_eq_true', Bool.not_eq_false']; omega
theorem n_gt_t {a b : Nat} (h : b < a) (ha : a < 2147483648) (hb : b < 2147483648) : cmpS .gt (oN a) (oN b) = true := by
  simp only [c_gt, n_toI ha, n_toI hb, n_inj ha hb, decide_eq_true_eq, decide_eq_false_iff_not, Bool.not_eq_true', Bool.not_eq_false']; omega
theorem n_gt_f {a b : Nat} (h : a ≤ b) (ha : a < 2147483648) (hb : b < 2147483648) : cmpS .gt (oN a) (oN b) = false := by
  simp only [c_gt, n_toI ha, n_toI hb, n_inj ha hb, decide_eq_true_eq, decide_eq_false_iff_not, Bool.not_eq_true', Bool.not_eq_false']; omega
theorem n_le_t {a b : Nat} (h : a ≤ b) (ha : a < 2147483648) (hb : b < 2147483648) : cmpS .le (oN a) (oN b) = true := by
  simp only [c_le, n_toI ha, n_toI hb, n_inj ha hb, decide_eq_true_eq, decide_eq_false_iff_not, Bool.not_eq_true', Bool.not_eq_false']; omega
theorem n_le_f {a b : Nat} (h : b < a) (ha : a < 2147483648) (hb : b < 2147483648) : cmpS .le (oN a) (oN b) = false := by
  simp only [c_le, n_toI ha, n_toI hb, n_inj ha hb, decide_eq_true_eq, decide_eq_false_iff_not, Bool.not_eq_true', Bool.not_eq_false']; omega
theorem mn_eq {a b : Nat} (h : 0 < a + b) (ha : a ≤ 2147483648) (hb : b < 2147483648) : cmpS .eq (oM a) (oN b) = false := by
  have q : ¬ (oM a = oN b) := by
    intro e
    have := congrArg Int32.toInt e
    rw [m_toI ha, n_toI hb] at this
    omega
  simp only [c_eq, q, decide_false, Bool.not_false]
theorem nm_eq {a b : Nat} (h : 0 < a + b) (ha : a < 2147483648) (hb : b ≤ 2147483648) : cmpS .eq (oN a) (oM b) = false := by
  have q : ¬ (oN a = oM b) := by
    intro e
    have := congrArg Int32.toInt e
    rw [n_toI ha, m_toI hb] at this
    omega
  simp only [c_eq, q, decide_false, Bool.not_false]
theorem mn_ne {a b : Nat} (h : 0 < a + b) (ha : a ≤ 2147483648) (hb : b < 2147483648) : cmpS .ne (oM a) (oN b) = true := by
  have q : ¬ (oM a = oN b) := by
    intro e
    have := congrArg Int32.toInt e
    rw [m_toI ha, n_toI hb] at this
    omega
  simp only [c_ne, q, decide_false, Bool.not_false]
theorem nm_ne {a b : Nat} (h : 0 < a + b) (ha : a < 2147483648) (hb : b ≤ 2147483648) : cmpS .ne (oN a) (oM b) = true := by
  have q : ¬ (oN a = oM b) := by
    intro e
    have := congrArg Int32.toInt e
    rw [n_toI ha, m_toI hb] at this
    omega
  simp only [c_ne, q, decide_false, Bool.not_false]
theorem mn_lt {a b : Nat} (h : 0 < a + b) (ha : a ≤ 2147483648) (hb : b < 2147483648) : cmpS .lt (oM a) (oN b) = true := by
  simp only [c_lt, m_toI ha, n_toI hb, decide_eq_true_eq, decide_eq_false_iff_not]; omega
theorem nm_lt {a b : Nat} (h : 0 < a + b) (ha : a < 2147483648) (hb : b ≤ 2147483648) : cmpS .lt (oN a) (oM b) = false := by
  simp only [c_lt, n_toI ha, m_toI hb, decide_eq_true_eq, decide_eq_false_iff_not]; omega
theorem mn_ge {a b : Nat} (h : 0 < a + b) (ha : a ≤ 2147483648) (hb : b < 2147483648) : cmpS .ge (oM a) (oN b) = false := by
  simp only [c_ge, m_toI ha, n_toI hb, decide_eq_true_eq, decide_eq_false_iff_not]; omega
theorem nm_ge {a b : Nat} (h : 0 < a + b) (ha : a < 2147483648) (hb : b ≤ 2147483648) : cmpS .ge (oN a) (oM b) = true := by
  simp only [c_ge, n_toI ha, m_toI hb, decide_eq_true_eq, decide_eq_false_iff_not]; omega
theorem mn_gt {a b : Nat} (h : 0 < a + b) (ha : a ≤ 2147483648) (hb : b < 2147483648) : cmpS .gt (oM a) (oN b) = false := by
  simp only [c_gt, m_toI ha, n_toI hb, decide_eq_true_eq, decide_eq_false_iff_not]; omega
theorem nm_gt {a b : Nat} (h : 0 < a + b) (ha : a < 2147483648) (hb : b ≤ 2147483648) : cmpS .gt (oN a) (oM b) = true := by
  simp only [c_gt, n_toI ha, m_toI hb, decide_eq_true_eq, decide_eq_false_iff_not]; omega
theorem mn_le {a b : Nat} (h : 0 < a + b) (ha : a ≤ 2147483648) (hb : b < 2147483648) : cmpS .le (oM a) (oN b) = true := by
  simp only [c_le, m_toI ha, n_toI hb, decide_eq_true_eq, decide_eq_false_iff_not]; omega
theorem nm_le {a b : Nat} (h : 0 < a + b) (ha : a < 2147483648) (hb : b ≤ 2147483648) : cmpS .le (oN a) (oM b) = false := by
  simp only [c_le, n_toI ha, m_toI hb, decide_eq_true_eq, decide_eq_false_iff_not]; omega
theorem n_subM {a b : Nat} (h : a < b) : oN a - oN b = oM (b - a) := by
  unfold oM
  rw [← Int32.neg_sub]
  congr 1
  exact n_sub (by omega)
theorem m_0 : oM 0 = oN 0 := by decide
theorem m_div {k d : Nat} (hk : k ≤ 2147483648) (hd : 0 < d) (hd2 : d < 2147483648) : oM k / oN d = oM (k / d) := by
  apply Int32.toInt_inj.mp
  have h1 : k / d ≤ k := Nat.div_le_self k d
  rw [Int32.toInt_div, m_toI hk, n_toI hd2, m_toI (by omega), Int.neg_tdiv, ← Int.ofNat_tdiv]
  have h2 : ((k / d : Nat) : Int) ≤ (k : Int) := Int.ofNat_le.mpr h1
  have h3 : 0 ≤ ((k / d : Nat) : Int) := Int.natCast_nonneg _
  have h4 : (k : Int) ≤ 2147483648 := by omega
  generalize ((k / d : Nat) : Int) = z at h2 h3 ⊢
  exact Int.bmod_eq_of_le (by omega) (by omega)
theorem m_mul (a b : Nat) : oM a * oN b = oM (a * b) := by
  unfold oM
  rw [Int32.neg_mul]
  congr 1
  exact n_mul a b
theorem m_subm {a b : Nat} (h : b ≤ a) : oM a - oM b = oM (a - b) := by
  unfold oM
  rw [Int32.sub_eq_add_neg, Int32.neg_neg, Int32.add_comm, ← Int32.sub_eq_add_neg]
  have := n_sub h
  show oN b - oN a = -(oN (a - b))
  rw [← this, Int32.neg_sub]
theorem n_gts_t {k n : Nat} (h : n ≤ k) (hk : k < 2147483648) : cmpS .gt (oN k) (oN n - oN 1) = true := by
  by_cases q : n = 0
  · subst q
    rw [n_subM (by omega)]
    simp only [c_gt, n_toI hk, m_toI (show 1 - 0 ≤ 2147483648 by omega), decide_eq_true_eq]
    omega
  · rw [n_sub (by omega)]
    exact decide_eq_true_eq.mpr (by omega) |> fun (hh : decide (n - 1 < k) = true) => by
      simp only [c_gt, n_toI hk, n_toI (show n - 1 < 2147483648 by omega), decide_eq_true_eq]
      omega
theorem c_eq_refl (v : Int32) : cmpS .eq v v = true := by rw [c_eq]; exact decide_eq_true rfl
theorem c_ne_refl (v : Int32) : cmpS .ne v v = false := by rw [c_ne]; simp
theorem isZS_0 : isZS (oN 0) = true := by rw [isZS_eq]; rfl
theorem isZS_1 : isZS (oN 1) = true := by rw [isZS_eq]; rfl
def wI (m : mM) (p : List Nat) (k : Nat) (v : Int32) : mM := (uI m.1 p (upd (m.1 p) k v), m.2)
theorem w_fold (m : mM) (p : List Nat) (k : Nat) (v : Int32) : (uI m.1 p (upd (m.1 p) k v), m.2) = wI m p k v := rfl
theorem w_at (m : mM) (p q : List Nat) (k j : Nat) (v : Int32) : (wI m p k v).1 q j = if q = p ∧ j = k then v else m.1 q j := by
  unfold wI uI upd
  dsimp only
  by_cases h : q = p
  · subst h
    by_cases e : j = k
    · subst e; simp
    · simp [e]
  · simp [h]
theorem w_2 (m : mM) (p : List Nat) (k : Nat) (v : Int32) : (wI m p k v).2 = m.2 := rfl
def wC (m : mM) (p0 p1 : List Nat) (sp dp n : Nat) : mM := (uI m.1 p1 (va_cpy (m.1 p0) (m.1 p1) sp dp n), m.2)
theorem wC_fold (m : mM) (p0 p1 : List Nat) (sp dp n : Nat) : (uI m.1 p1 (va_cpy (m.1 p0) (m.1 p1) sp dp n), m.2) = wC m p0 p1 sp dp n := rfl
theorem wC_at (m : mM) (p0 p1 q : List Nat) (sp dp n j : Nat) : (wC m p0 p1 sp dp n).1 q j = if q = p1 ∧ dp ≤ j ∧ j < dp + n then m.1 p0 (sp + (j - dp)) else m.1 q j := by
  unfold wC uI va_cpy
  dsimp only
  by_cases h : q = p1
  · subst h; simp
  · simp [h]
theorem wC_2 (m : mM) (p0 p1 : List Nat) (sp dp n : Nat) : (wC m p0 p1 sp dp n).2 = m.2 := rfl
theorem lt_M {α : Type} (v : mM) (k : mM → α) : ltM v k = k v := rfl
theorem bif_ite {α : Type} (p : Prop) [Decidable p] (a b : α) : (bif decide p then a else b) = if p then a else b := by
  by_cases h : p <;> simp [h]
theorem bif_ite_n {α : Type} (p : Prop) [Decidable p] (a b : α) : (bif !decide p then a else b) = if p then b else a := by
  by_cases h : p <;> simp [h]
end Nf
