section Step1
variable {L : Nat} {xs : Nat → Int32} {C M : mM} {q : List Nat} {c nc nw nb np nt now td hm e : Nat} {kd wa wb wd wl ws : Nat → Nat}
def lastI (P : Nat → Bool) : Nat → Option Nat
  | 0 => none
  | n + 1 => if P n = true then some n else lastI P n
def encI : Option Nat → Int32
  | none => oM 1
  | some i => oN i
theorem lastI_lt {P : Nat → Bool} : ∀ {n i : Nat}, lastI P n = some i → i < n
  | 0, _, h => by cases h
  | n + 1, i, h => by
    unfold lastI at h
    split at h
    · cases h; omega
    · have := lastI_lt h; omega
theorem lastI_congr {P Q : Nat → Bool} : ∀ {n : Nat}, (∀ i, i < n → P i = Q i) → lastI P n = lastI Q n
  | 0, _ => rfl
  | n + 1, h => by
    unfold lastI
    rw [h n (by omega), lastI_congr (fun i hi => h i (by omega))]
set_option maxRecDepth 8000 in
theorem s_62 {p : List Nat} {T : Int32} {n : Nat} (hn : n ≤ 8) (h0 : C.1 p 0 = oN n) : kI L xs 62 [vr 6 p, vi T] C = some (encI (lastI (fun i => cmpS .le (C.1 (1 :: p) i) T) n), C) := by
  refine kI_of ?_
  have key : ∀ k, k ≤ 8 → run L xs 62 25 (7, [some (vr 6 p), some (vi T), some (vi (oN k - oN 1))], [], C) = some (some (vi (encI (lastI (fun i => cmpS .le (C.1 (1 :: p) i) T) k))), C) := by
    intro k
    induction k with
    | zero =>
      intro _
      rw [h_62_7]
      simp (disch := omega) only [↓Bool.cond_eq_ite, ↓reduceIte, Bool.false_eq_true, eq_self, n_lit, n_neg, n_add, n_mul, n_sub, n_subM, n_div, n_mod, n_addM, m_div, m_subn, n_tN, n_inS, n_eq_t, n_eq_f, n_ne_t, n_ne_f, n_lt_t, n_lt_f, n_ge_t, n_ge_f, n_gt_t, n_gt_f, n_le_t, n_le_f, mn_eq, mn_ne, mn_lt, mn_ge, mn_gt, mn_le, nm_eq, nm_ne, nm_lt, nm_ge, nm_gt, nm_le, n_gts_t, c_eq_refl, c_ne_refl, w_fold, w_2, wC_fold, lt_M, cond_true, cond_false, Bool.and_true, Bool.true_and, Bool.and_false, Bool.false_and, Bool.not_true, Bool.not_false, isZS_0, isZS_1]
      rfl
    | succ k ih =>
      intro hk
      rw [show oN (k + 1) - oN 1 = oN k by rw [n_sub (by omega)]; rfl, h_62_7]
      unfold lastI
      cases ct : cmpS .le (C.1 (1 :: p) k) T with
      | true =>
        simp (disch := omega) only [↓Bool.cond_eq_ite, ↓reduceIte, Bool.false_eq_true, eq_self, n_lit, n_neg, n_add, n_mul, n_sub, n_subM, n_div, n_mod, n_addM, m_div, m_subn, n_tN, n_inS, n_eq_t, n_eq_f, n_ne_t, n_ne_f, n_lt_t, n_lt_f, n_ge_t, n_ge_f, n_gt_t, n_gt_f, n_le_t, n_le_f, mn_eq, mn_ne, mn_lt, mn_ge, mn_gt, mn_le, nm_eq, nm_ne, nm_lt, nm_ge, nm_gt, nm_le, n_gts_t, c_eq_refl, c_ne_refl, w_fold, w_2, wC_fold, lt_M, cond_true, cond_false, Bool.and_true, Bool.true_and, Bool.and_false, Bool.false_and, Bool.not_true, Bool.not_false, isZS_0, isZS_1, ct, if_true]
        rfl
      | false =>
        have := ih (by omega)
        have e1 : oN k + (-1 : Int32) = oN k - oN 1 := (Int32.sub_eq_add_neg _ _).symm
        simp only [Bool.false_eq_true, if_false]
        rw [← this, ← e1]
        simp (disch := omega) only [↓Bool.cond_eq_ite, ↓reduceIte, Bool.false_eq_true, eq_self, n_lit, n_neg, n_add, n_mul, n_sub, n_subM, n_div, n_mod, n_addM, m_div, m_subn, n_tN, n_inS, n_eq_t, n_eq_f, n_ne_t, n_ne_f, n_lt_t, n_lt_f, n_ge_t, n_ge_f, n_gt_t, n_gt_f, n_le_t, n_le_f, mn_eq, mn_ne, mn_lt, mn_ge, mn_gt, mn_le, nm_eq, nm_ne, nm_lt, nm_ge, nm_gt, nm_le, n_gts_t, c_eq_refl, c_ne_refl, w_fold, w_2, wC_fold, lt_M, cond_true, cond_false, Bool.and_true, Bool.true_and, Bool.and_false, Bool.false_and, Bool.not_true, Bool.not_false, isZS_0, isZS_1, ct]
  rw [e_62, h0]
  exact key n hn
set_option maxRecDepth 8000 in
theorem s_150 {g n : Nat} (hg : g < 40) (hn : n ≤ 8) (h12 : M.1 [1, 1] (200 + 16 * g + 12) = oN n) : kI L xs 150 [vr 10 [1], vi (oN g)] M = some (encI (lastI (fun i => cmpS .le (M.1 [1, 1] (900 + 16 * g + 2 * i)) (M.1 [1, 1] 5)) n), M) := by
  refine kI_of ?_
  have key : ∀ k i, i + k = n → run L xs 150 26 (4, [some (vr 10 [1]), some (vi (oN g)), some (vi (encI (lastI (fun i => cmpS .le (M.1 [1, 1] (900 + 16 * g + 2 * i)) (M.1 [1, 1] 5)) i))), some (vi (oN i))], [], M) = some (some (vi (encI (lastI (fun i => cmpS .le (M.1 [1, 1] (900 + 16 * g + 2 * i)) (M.1 [1, 1] 5)) n))), M) := by
    intro k
    induction k with
    | zero =>
      intro i hi
      have : i = n := by omega
      subst this
      rw [h_150_4]
      simp (disch := omega) only [↓Bool.cond_eq_ite, ↓reduceIte, Bool.false_eq_true, eq_self, n_lit, n_neg, n_add, n_mul, n_sub, n_subM, n_div, n_mod, n_addM, m_div, m_subn, n_tN, n_inS, n_eq_t, n_eq_f, n_ne_t, n_ne_f, n_lt_t, n_lt_f, n_ge_t, n_ge_f, n_gt_t, n_gt_f, n_le_t, n_le_f, mn_eq, mn_ne, mn_lt, mn_ge, mn_gt, mn_le, nm_eq, nm_ne, nm_lt, nm_ge, nm_gt, nm_le, n_gts_t, c_eq_refl, c_ne_refl, w_fold, w_2, wC_fold, lt_M, cond_true, cond_false, Bool.and_true, Bool.true_and, Bool.and_false, Bool.false_and, Bool.not_true, Bool.not_false, isZS_0, isZS_1, h12]
    | succ k ih =>
      intro i hi
      have := ih (i + 1) (by omega)
      rw [h_150_4, ← this]
      have hcl : cmpS .gt (M.1 [1, 1] (900 + 16 * g + 2 * i)) (M.1 [1, 1] 5) = !cmpS .le (M.1 [1, 1] (900 + 16 * g + 2 * i)) (M.1 [1, 1] 5) := by
        rw [c_gt, c_le]
        by_cases z : (M.1 [1, 1] (900 + 16 * g + 2 * i)).toInt ≤ (M.1 [1, 1] 5).toInt
        · rw [decide_eq_true z, decide_eq_false (by omega)]; rfl
        · rw [decide_eq_false z, decide_eq_true (by omega)]; rfl
      have hl : lastI (fun i => cmpS .le (M.1 [1, 1] (900 + 16 * g + 2 * i)) (M.1 [1, 1] 5)) (i + 1) = if cmpS .le (M.1 [1, 1] (900 + 16 * g + 2 * i)) (M.1 [1, 1] 5) = true then some i else lastI (fun i => cmpS .le (M.1 [1, 1] (900 + 16 * g + 2 * i)) (M.1 [1, 1] 5)) i := rfl
      rw [hl]
      cases ct : cmpS .le (M.1 [1, 1] (900 + 16 * g + 2 * i)) (M.1 [1, 1] 5) with
      | true =>
        rw [ct] at hcl
        simp (disch := omega) only [↓Bool.cond_eq_ite, ↓reduceIte, Bool.false_eq_true, eq_self, n_lit, n_neg, n_add, n_mul, n_sub, n_subM, n_div, n_mod, n_addM, m_div, m_subn, n_tN, n_inS, n_eq_t, n_eq_f, n_ne_t, n_ne_f, n_lt_t, n_lt_f, n_ge_t, n_ge_f, n_gt_t, n_gt_f, n_le_t, n_le_f, mn_eq, mn_ne, mn_lt, mn_ge, mn_gt, mn_le, nm_eq, nm_ne, nm_lt, nm_ge, nm_gt, nm_le, n_gts_t, c_eq_refl, c_ne_refl, w_fold, w_2, wC_fold, lt_M, cond_true, cond_false, Bool.and_true, Bool.true_and, Bool.and_false, Bool.false_and, Bool.not_true, Bool.not_false, isZS_0, isZS_1, h12, hcl, if_true]
        rfl
      | false =>
        rw [ct] at hcl
        simp (disch := omega) only [↓Bool.cond_eq_ite, ↓reduceIte, Bool.false_eq_true, eq_self, n_lit, n_neg, n_add, n_mul, n_sub, n_subM, n_div, n_mod, n_addM, m_div, m_subn, n_tN, n_inS, n_eq_t, n_eq_f, n_ne_t, n_ne_f, n_lt_t, n_lt_f, n_ge_t, n_ge_f, n_gt_t, n_gt_f, n_le_t, n_le_f, mn_eq, mn_ne, mn_lt, mn_ge, mn_gt, mn_le, nm_eq, nm_ne, nm_lt, nm_ge, nm_gt, nm_le, n_gts_t, c_eq_refl, c_ne_refl, w_fold, w_2, wC_fold, lt_M, cond_true, cond_false, Bool.and_true, Bool.true_and, Bool.and_false, Bool.false_and, Bool.not_true, Bool.not_false, isZS_0, isZS_1, h12, hcl, if_false]
  rw [e_150]
  exact key n 0 (by omega)
def cl (t : Nat → Nat) (v : Nat) : Nat → Nat
  | 0 => 0
  | n + 1 => cl t v n + (if t n < v then 1 else 0)
theorem cl_le (t : Nat → Nat) (v : Nat) : ∀ n, cl t v n ≤ n
  | 0 => Nat.le_refl 0
  | n + 1 => by
    have := cl_le t v n
    unfold cl
    split <;> omega
theorem cl_mono {t : Nat → Nat} {v v' : Nat} (h : v ≤ v') : ∀ n, cl t v n ≤ cl t v' n
  | 0 => Nat.le_refl 0
  | n + 1 => by
    have := cl_mono (t := t) h n
    unfold cl
    split <;> split <;> omega
theorem cl_lt {t : Nat → Nat} {v v' x : Nat} (h : v ≤ v') (h1 : v ≤ t x) (h2 : t x < v') : ∀ {n : Nat}, x < n → cl t v n + 1 ≤ cl t v' n
  | 0, hx => by omega
  | n + 1, hx => by
    unfold cl
    by_cases z : x = n
    · subst z
      have := cl_mono (t := t) h x
      rw [if_neg (by omega), if_pos h2]
      omega
    · have := cl_lt h h1 h2 (n := n) (by omega)
      split <;> split <;> omega
theorem dist_small {t : Nat → Nat} (hW : ∀ w, w < nw → wa w < nc ∧ wb w < nc ∧ 1 ≤ wl w ∧ wl w ≤ 30) (ht : ∀ u, u < nc → wD nw wa wb wl ws u e (t u)) (hnc : nc ≤ 16) : ∀ (n u : Nat), t u ≤ n → u < nc → t u < 1000000 → t u ≤ 30 * cl t (t u) 16 := by
  intro n
  induction n using Nat.strongRecOn with
  | _ n ih =>
    intro u hn hu hf
    obtain ⟨a1, a2, a3⟩ := ht u hu
    obtain ⟨k, hk⟩ := a2 hf
    cases k with
    | zero =>
      obtain ⟨-, h0⟩ := hk
      omega
    | succ k =>
      obtain ⟨x, cc, m, ⟨w, hw, hc, hh⟩, h2, h3⟩ := hk
      obtain ⟨w1, w2, w3, w4⟩ := hW w hw
      have hx : x < nc := by
        rcases hh with y | y
        · rw [← y.2.1]; exact w2
        · rw [← y.2.1]; exact w1
      obtain ⟨b1, b2, b3⟩ := ht x hx
      have hxm := b3 k m h2
      obtain ⟨k2, hk2⟩ := b2 (by omega)
      have hback := a3 (k2 + 1) (cc + t x) ⟨x, cc, t x, ⟨w, hw, hc, hh⟩, hk2, rfl⟩
      have hlt : t x < t u := by omega
      have ihx := ih (t x) (by omega) x (Nat.le_refl _) hx (by omega)
      have := cl_lt (t := t) (v := t x) (v' := t u) (x := x) (by omega) (Nat.le_refl _) hlt (n := 16) (by omega)
      omega
theorem dist_480 {t : Nat → Nat} (hW : ∀ w, w < nw → wa w < nc ∧ wb w < nc ∧ 1 ≤ wl w ∧ wl w ≤ 30) (ht : ∀ u, u < nc → wD nw wa wb wl ws u e (t u)) (hnc : nc ≤ 16) {u : Nat} (hu : u < nc) (hf : t u < 1000000) : t u ≤ 480 := by
  have := dist_small hW ht hnc (t u) u (Nat.le_refl _) hu hf
  have := cl_le t (t u) 16
  omega
def endW (wa wb ws : Nat → Nat) (w x : Nat) : Option Nat := if wa w = x ∧ (ws w = 0 ∨ ws w = 1) then some (wb w) else if wb w = x ∧ (ws w = 0 ∨ ws w = 2) then some (wa w) else none
set_option maxRecDepth 8000 in
set_option maxHeartbeats 4000000 in
theorem s_74 (hW : cWy q C nc nw wa wb wl ws) {w x : Nat} (hw : w < nw) (hx : x < 16) : kI L xs 74 [vr 8 q, vi (oN w), vi (oN x)] C = some (encI (endW wa wb ws w x), C) := by
  obtain ⟨c0, h16, h24, hw0⟩ := hW
  obtain ⟨a1, a2, a3, a4, a5, a6, a7, a8, a9, a10⟩ := hw0 w hw
  refine kI_of ?_
  rw [e_74]
  unfold endW
  have : ws w = 0 ∨ ws w = 1 ∨ ws w = 2 ∨ ws w = 3 := by omega
  by_cases qa : wa w = x
  · have qb : wb w ≠ x := by omega
    rcases this with z | z | z | z <;> rw [z] at a10 ⊢
    · rw [if_pos (by omega)]; simp (disch := omega) only [↓Bool.cond_eq_ite, ↓reduceIte, Bool.false_eq_true, eq_self, n_lit, n_neg, n_add, n_mul, n_sub, n_subM, n_div, n_mod, n_addM, m_div, m_subn, n_tN, n_inS, n_eq_t, n_eq_f, n_ne_t, n_ne_f, n_lt_t, n_lt_f, n_ge_t, n_ge_f, n_gt_t, n_gt_f, n_le_t, n_le_f, mn_eq, mn_ne, mn_lt, mn_ge, mn_gt, mn_le, nm_eq, nm_ne, nm_lt, nm_ge, nm_gt, nm_le, n_gts_t, c_eq_refl, c_ne_refl, w_fold, w_2, wC_fold, lt_M, cond_true, cond_false, Bool.and_true, Bool.true_and, Bool.and_false, Bool.false_and, Bool.not_true, Bool.not_false, isZS_0, isZS_1, a7, a8, a10]; rfl
    · rw [if_pos (by omega)]; simp (disch := omega) only [↓Bool.cond_eq_ite, ↓reduceIte, Bool.false_eq_true, eq_self, n_lit, n_neg, n_add, n_mul, n_sub, n_subM, n_div, n_mod, n_addM, m_div, m_subn, n_tN, n_inS, n_eq_t, n_eq_f, n_ne_t, n_ne_f, n_lt_t, n_lt_f, n_ge_t, n_ge_f, n_gt_t, n_gt_f, n_le_t, n_le_f, mn_eq, mn_ne, mn_lt, mn_ge, mn_gt, mn_le, nm_eq, nm_ne, nm_lt, nm_ge, nm_gt, nm_le, n_gts_t, c_eq_refl, c_ne_refl, w_fold, w_2, wC_fold, lt_M, cond_true, cond_false, Bool.and_true, Bool.true_and, Bool.and_false, Bool.false_and, Bool.not_true, Bool.not_false, isZS_0, isZS_1, a7, a8, a10]; rfl
    · rw [if_neg (by omega), if_neg (by omega)]; simp (disch := omega) only [↓Bool.cond_eq_ite, ↓reduceIte, Bool.false_eq_true, eq_self, n_lit, n_neg, n_add, n_mul, n_sub, n_subM, n_div, n_mod, n_addM, m_div, m_subn, n_tN, n_inS, n_eq_t, n_eq_f, n_ne_t, n_ne_f, n_lt_t, n_lt_f, n_ge_t, n_ge_f, n_gt_t, n_gt_f, n_le_t, n_le_f, mn_eq, mn_ne, mn_lt, mn_ge, mn_gt, mn_le, nm_eq, nm_ne, nm_lt, nm_ge, nm_gt, nm_le, n_gts_t, c_eq_refl, c_ne_refl, w_fold, w_2, wC_fold, lt_M, cond_true, cond_false, Bool.and_true, Bool.true_and, Bool.and_false, Bool.false_and, Bool.not_true, Bool.not_false, isZS_0, isZS_1, a7, a8, a10]; rfl
    · rw [if_neg (by omega), if_neg (by omega)]; simp (disch := omega) only [↓Bool.cond_eq_ite, ↓reduceIte, Bool.false_eq_true, eq_self, n_lit, n_neg, n_add, n_mul, n_sub, n_subM, n_div, n_mod, n_addM, m_div, m_subn, n_tN, n_inS, n_eq_t, n_eq_f, n_ne_t, n_ne_f, n_lt_t, n_lt_f, n_ge_t, n_ge_f, n_gt_t, n_gt_f, n_le_t, n_le_f, mn_eq, mn_ne, mn_lt, mn_ge, mn_gt, mn_le, nm_eq, nm_ne, nm_lt, nm_ge, nm_gt, nm_le, n_gts_t, c_eq_refl, c_ne_refl, w_fold, w_2, wC_fold, lt_M, cond_true, cond_false, Bool.and_true, Bool.true_and, Bool.and_false, Bool.false_and, Bool.not_true, Bool.not_false, isZS_0, isZS_1, a7, a8, a10]; rfl
  · by_cases qb : wb w = x
    · rcases this with z | z | z | z <;> rw [z] at a10 ⊢
      · rw [if_neg (by omega), if_pos (by omega)]; simp (disch := omega) only [↓Bool.cond_eq_ite, ↓reduceIte, Bool.false_eq_true, eq_self, n_lit, n_neg, n_add, n_mul, n_sub, n_subM, n_div, n_mod, n_addM, m_div, m_subn, n_tN, n_inS, n_eq_t, n_eq_f, n_ne_t, n_ne_f, n_lt_t, n_lt_f, n_ge_t, n_ge_f, n_gt_t, n_gt_f, n_le_t, n_le_f, mn_eq, mn_ne, mn_lt, mn_ge, mn_gt, mn_le, nm_eq, nm_ne, nm_lt, nm_ge, nm_gt, nm_le, n_gts_t, c_eq_refl, c_ne_refl, w_fold, w_2, wC_fold, lt_M, cond_true, cond_false, Bool.and_true, Bool.true_and, Bool.and_false, Bool.false_and, Bool.not_true, Bool.not_false, isZS_0, isZS_1, a7, a8, a10]; rfl
      · rw [if_neg (by omega), if_neg (by omega)]; simp (disch := omega) only [↓Bool.cond_eq_ite, ↓reduceIte, Bool.false_eq_true, eq_self, n_lit, n_neg, n_add, n_mul, n_sub, n_subM, n_div, n_mod, n_addM, m_div, m_subn, n_tN, n_inS, n_eq_t, n_eq_f, n_ne_t, n_ne_f, n_lt_t, n_lt_f, n_ge_t, n_ge_f, n_gt_t, n_gt_f, n_le_t, n_le_f, mn_eq, mn_ne, mn_lt, mn_ge, mn_gt, mn_le, nm_eq, nm_ne, nm_lt, nm_ge, nm_gt, nm_le, n_gts_t, c_eq_refl, c_ne_refl, w_fold, w_2, wC_fold, lt_M, cond_true, cond_false, Bool.and_true, Bool.true_and, Bool.and_false, Bool.false_and, Bool.not_true, Bool.not_false, isZS_0, isZS_1, a7, a8, a10]; rfl
      · rw [if_neg (by omega), if_pos (by omega)]; simp (disch := omega) only [↓Bool.cond_eq_ite, ↓reduceIte, Bool.false_eq_true, eq_self, n_lit, n_neg, n_add, n_mul, n_sub, n_subM, n_div, n_mod, n_addM, m_div, m_subn, n_tN, n_inS, n_eq_t, n_eq_f, n_ne_t, n_ne_f, n_lt_t, n_lt_f, n_ge_t, n_ge_f, n_gt_t, n_gt_f, n_le_t, n_le_f, mn_eq, mn_ne, mn_lt, mn_ge, mn_gt, mn_le, nm_eq, nm_ne, nm_lt, nm_ge, nm_gt, nm_le, n_gts_t, c_eq_refl, c_ne_refl, w_fold, w_2, wC_fold, lt_M, cond_true, cond_false, Bool.and_true, Bool.true_and, Bool.and_false, Bool.false_and, Bool.not_true, Bool.not_false, isZS_0, isZS_1, a7, a8, a10]; rfl
      · rw [if_neg (by omega), if_neg (by omega)]; simp (disch := omega) only [↓Bool.cond_eq_ite, ↓reduceIte, Bool.false_eq_true, eq_self, n_lit, n_neg, n_add, n_mul, n_sub, n_subM, n_div, n_mod, n_addM, m_div, m_subn, n_tN, n_inS, n_eq_t, n_eq_f, n_ne_t, n_ne_f, n_lt_t, n_lt_f, n_ge_t, n_ge_f, n_gt_t, n_gt_f, n_le_t, n_le_f, mn_eq, mn_ne, mn_lt, mn_ge, mn_gt, mn_le, nm_eq, nm_ne, nm_lt, nm_ge, nm_gt, nm_le, n_gts_t, c_eq_refl, c_ne_refl, w_fold, w_2, wC_fold, lt_M, cond_true, cond_false, Bool.and_true, Bool.true_and, Bool.and_false, Bool.false_and, Bool.not_true, Bool.not_false, isZS_0, isZS_1, a7, a8, a10]; rfl
    · rw [if_neg (by omega), if_neg (by omega)]
      rcases this with z | z | z | z <;> rw [z] at a10 <;> simp (disch := omega) only [↓Bool.cond_eq_ite, ↓reduceIte, Bool.false_eq_true, eq_self, n_lit, n_neg, n_add, n_mul, n_sub, n_subM, n_div, n_mod, n_addM, m_div, m_subn, n_tN, n_inS, n_eq_t, n_eq_f, n_ne_t, n_ne_f, n_lt_t, n_lt_f, n_ge_t, n_ge_f, n_gt_t, n_gt_f, n_le_t, n_le_f, mn_eq, mn_ne, mn_lt, mn_ge, mn_gt, mn_le, nm_eq, nm_ne, nm_lt, nm_ge, nm_gt, nm_le, n_gts_t, c_eq_refl, c_ne_refl, w_fold, w_2, wC_fold, lt_M, cond_true, cond_false, Bool.and_true, Bool.true_and, Bool.and_false, Bool.false_and, Bool.not_true, Bool.not_false, isZS_0, isZS_1, a7, a8, a10] <;> rfl
end Step1
