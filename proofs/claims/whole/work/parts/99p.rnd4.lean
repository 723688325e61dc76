section Round4
variable {L : Nat} {xs : Nat → Int32} {C C' M M' : mM} {p : List Nat} {h sl sl' : Nat → Nat} {s n k g q : Nat}
def nv (d : Nat → Nat) : Nat → Nat
  | 0 => 0
  | n + 1 => 6 * nv d n + d n
theorem nv_cg {d e : Nat → Nat} : ∀ {n}, (∀ l, l < n → e l = d l) → nv e n = nv d n
  | 0, _ => rfl
  | n + 1, h => by
    show 6 * nv e n + e n = 6 * nv d n + d n
    rw [nv_cg (fun l hl => h l (by omega)), h n (by omega)]
theorem nv_lt {d : Nat → Nat} : ∀ {n}, (∀ l, l < n → d l ≤ 5) → nv d n < 6 ^ n
  | 0, _ => Nat.one_pos
  | n + 1, h => by
    have h1 := nv_lt (d := d) (n := n) (fun l hl => h l (by omega))
    have h2 := h n (by omega)
    have e : 6 ^ (n + 1) = 6 ^ n * 6 := Nat.pow_succ 6 n
    show 6 * nv d n + d n < _
    omega
theorem nv_lex {d e : Nat → Nat} : ∀ {n}, (∀ l, l < n → d l ≤ 5) → (∀ l, l < n → e l ≤ 5) → nv d n ≤ nv e n → (∀ l, l < n → e l = d l) ∨ ∃ j, j < n ∧ (∀ l, l < j → e l = d l) ∧ d j < e j
  | 0, _, _, _ => .inl (fun l hl => by omega)
  | n + 1, hd, he, h => by
    have h : 6 * nv d n + d n ≤ 6 * nv e n + e n := h
    have d5 := hd n (by omega)
    have e5 := he n (by omega)
    rcases nv_lex (n := n) (fun l hl => hd l (by omega)) (fun l hl => he l (by omega)) (show nv d n ≤ nv e n by omega) with a | ⟨j, j1, j2, j3⟩
    · have hv := nv_cg a
      by_cases q : e n = d n
      · refine .inl (fun l hl => ?_)
        by_cases ql : l = n
        · subst ql; exact q
        · exact a l (by omega)
      · exact .inr ⟨n, by omega, a, by omega⟩
    · exact .inr ⟨j, by omega, j2, j3⟩
theorem nv_inj {d e : Nat → Nat} (hd : ∀ l, l < n → d l ≤ 5) (he : ∀ l, l < n → e l ≤ 5) (h : nv d n = nv e n) : ∀ l, l < n → e l = d l := by
  rcases nv_lex hd he (by omega) with a | ⟨j, j1, j2, j3⟩
  · exact a
  · rcases nv_lex he hd (by omega) with b | ⟨i, i1, i2, i3⟩
    · have := b j j1; omega
    · by_cases h1 : i < j
      · have := j2 i h1; omega
      · by_cases h2 : j < i
        · have := i2 j h2; omega
        · have : i = j := by omega
          subst this; omega
theorem maxN_cg {d e : Nat → Nat} : ∀ {n}, (∀ l, l < n → e l = d l) → maxN e n = maxN d n
  | 0, _ => rfl
  | n + 1, h => by
    show max (maxN e n) (e n) = max (maxN d n) (d n)
    rw [maxN_cg (fun l hl => h l (by omega)), h n (by omega)]
theorem maxN_ge {d : Nat → Nat} : ∀ {n l : Nat}, l < n → d l ≤ maxN d n
  | 0, _, h => by omega
  | n + 1, l, h => by
    show _ ≤ max (maxN d n) (d n)
    by_cases e : l = n
    · subst e; omega
    · have := maxN_ge (d := d) (n := n) (l := l) (by omega)
      omega
theorem Gd_cg {d e : Nat → Nat} (h1 : ∀ l, l < k → e l = d l) (hg : Gd h k g d) : Gd h k g e := fun s hs => by
  rw [mI_cg h1]; exact hg s hs
theorem fO_none {P : Nat → Bool} : ∀ {r s}, fO P s r = none ↔ ∀ s', s ≤ s' → s' < s + r → P s' = false
  | 0, s => ⟨fun _ s' h1 h2 => by omega, fun _ => rfl⟩
  | r + 1, s => by
    unfold fO
    constructor
    · intro h s' h1 h2
      by_cases hp : P s = true
      · rw [if_pos hp] at h; cases h
      · rw [if_neg hp] at h
        by_cases e : s' = s
        · subst e; simpa using hp
        · exact fO_none.mp h s' (by omega) (by omega)
    · intro h
      have h0 := h s (Nat.le_refl _) (by omega)
      rw [if_neg (by rw [h0]; decide)]
      exact fO_none.mpr (fun s' h1 h2 => h s' (by omega) (by omega))
theorem Gd_fO : Gd h k g sl ↔ fO (fun s => decide (g < mI h sl s k)) 0 6 = none := by
  rw [fO_none]
  constructor
  · intro hg s _ hs
    exact decide_eq_false (by have := hg s (by omega); omega)
  · intro hf s hs
    have := of_decide_eq_false (hf s (Nat.zero_le _) (by omega))
    omega
def mm (M : mM) (A B : Nat → Int32) : mM := stA (stA M [50, 1] A) [51, 1] B
theorem mm_50 {A B : Nat → Int32} : (mm M A B).1 [50, 1] = A := by unfold mm; rw [stA_ne (by simp), stA_same]
theorem mm_51 {A B : Nat → Int32} : (mm M A B).1 [51, 1] = B := stA_same
theorem mm_49 {A B : Nat → Int32} : (mm M A B).1 [49, 1] = M.1 [49, 1] := by unfold mm; rw [stA_ne (by simp), stA_ne (by simp)]
theorem mm_w50 {A B : Nat → Int32} {i : Nat} {v : Int32} : wI (mm M A B) [50, 1] i v = mm M (upd A i v) B := by
  unfold mm
  rw [w_stA (by simp), stA_w]
theorem mm_w51 {A B : Nat → Int32} {i : Nat} {v : Int32} : wI (mm M A B) [51, 1] i v = mm M A (upd B i v) := stA_w
theorem mm_f50 {A B : Nat → Int32} {i : Nat} {v : Int32} : (uI (mm M A B).1 [50, 1] (upd A i v), (mm M A B).2) = mm M (upd A i v) B := by
  have := mm_w50 (M := M) (A := A) (B := B) (i := i) (v := v)
  rw [← this]
  unfold wI
  rw [mm_50]
theorem mm_f51 {A B : Nat → Int32} {i : Nat} {v : Int32} : (uI (mm M A B).1 [51, 1] (upd B i v), (mm M A B).2) = mm M A (upd B i v) := by
  have := mm_w51 (M := M) (A := A) (B := B) (i := i) (v := v)
  rw [← this]
  unfold wI
  rw [mm_51]
def rM (M : mM) (h : Nat → Nat) (k g : Nat) : Prop := k ≤ 5 ∧ g ≤ 2000 ∧ ∀ i, i < k → h i ≤ 1000 ∧ M.1 [49, 1] i = oN (h i)
theorem lQ_p : lQ (q + 1) = oN q := rfl
theorem lQ_d : oN q + oM 1 = lQ q := by
  unfold lQ
  by_cases h0 : q = 0
  · subst h0; decide
  · rw [if_neg h0, n_addM (by omega)]
set_option maxRecDepth 8000 in
theorem dig_ok {l2 l3 l4 l5 : Int32} (hk : k ≤ 5) : ∀ j left most A B, j ≤ k → left < 6 ^ j → most ≤ 5 → ∃ d A', (∀ l, l < j → d l ≤ 5) ∧ nv d j = left ∧ (∀ l, l < j → A' l = oN (d l)) ∧ (∀ l, j ≤ l → A' l = A l) ∧
    run L xs 169 27 (54, [some (vr 10 [1]), some (vi (oN k)), some (vi l2), some (vi l3), some (vi l4), some (vi l5), some (vi (oN left)), some (vi (oN most)), some (vi (lQ j))], [], mm M A B) =
    run L xs 169 27 (54, [some (vr 10 [1]), some (vi (oN k)), some (vi l2), some (vi l3), some (vi l4), some (vi l5), some (vi (oN 0)), some (vi (oN (max most (maxN d j)))), some (vi (oM 1))], [], mm M A' B) := by
  intro j
  induction j with
  | zero =>
    intro left most A B hj hl hm
    have : left = 0 := by
      have : 6 ^ 0 = 1 := rfl
      omega
    subst this
    refine ⟨fun _ => 0, A, fun l hl => by omega, rfl, fun l hl => by omega, fun _ _ => rfl, ?_⟩
    rw [show max most (maxN (fun _ => 0) 0) = most from Nat.max_eq_left (Nat.zero_le _)]
    rfl
  | succ j ih =>
    intro left most A B hj hl hm
    have e6 : 6 ^ (j + 1) = 6 ^ j * 6 := Nat.pow_succ 6 j
    have hp : 6 ^ j ≤ 6 ^ 4 := Nat.pow_le_pow_right (by omega) (by omega)
    have hp : 6 ^ j ≤ 1296 := hp
    have hmod : left % 6 < 6 := Nat.mod_lt _ (by omega)
    obtain ⟨d, A', d1, d2, d3, d4, d5⟩ := ih (left / 6) (max most (left % 6)) (upd A j (oN (left % 6))) B (by omega) (by omega) (by omega)
    have hmx : max (max most (left % 6)) (maxN d j) = max most (maxN (updN d j (left % 6)) (j + 1)) := by
      show _ = max most (max (maxN (updN d j (left % 6)) j) (updN d j (left % 6) j))
      rw [maxN_cg (d := d) (fun l hl => updN_ne (by omega)), updN_same]
      omega
    refine ⟨updN d j (left % 6), A', fun l hl => ?_, ?_, fun l hl => ?_, fun l hl => ?_, ?_⟩
    · by_cases e : l = j
      · subst e; rw [updN_same]; omega
      · rw [updN_ne e]; exact d1 l (by omega)
    · show 6 * nv (updN d j (left % 6)) j + updN d j (left % 6) j = left
      rw [nv_cg (d := d) (fun l hl => updN_ne (by omega)), d2, updN_same]
      omega
    · by_cases e : l = j
      · subst e; rw [updN_same, d4 l (Nat.le_refl _), upd_eq]
      · rw [updN_ne e]; exact d3 l (by omega)
    · rw [d4 l (by omega), upd_ne (by omega)]
    · rw [hmx] at d5
      rw [← d5, lQ_p, h_169_54]
      have hx : left - left / 6 * 6 = left % 6 := by omega
      by_cases hq : left % 6 ≤ most
      · rw [Nat.max_eq_left hq]
        simp (disch := omega) only [↓Bool.cond_eq_ite, ↓reduceIte, Bool.false_eq_true, eq_self, n_lit, n_neg, n_add, n_mul, n_sub, n_subM, n_div, n_mod, n_addM, m_div, m_subn, n_tN, n_inS, n_eq_t, n_eq_f, n_ne_t, n_ne_f, n_lt_t, n_lt_f, n_ge_t, n_ge_f, n_gt_t, n_gt_f, n_le_t, n_le_f, mn_eq, mn_ne, mn_lt, mn_ge, mn_gt, mn_le, nm_eq, nm_ne, nm_lt, nm_ge, nm_gt, nm_le, n_gts_t, c_eq_refl, c_ne_refl, w_fold, wC_fold, lt_M, cond_true, cond_false, Bool.and_true, Bool.true_and, Bool.and_false, Bool.false_and, Bool.not_true, Bool.not_false, isZS_0, isZS_1, mm_50, mm_w50, mm_f50, upd_eq, hx, lQ_d]
      · rw [Nat.max_eq_right (by omega)]
        simp (disch := omega) only [↓Bool.cond_eq_ite, ↓reduceIte, Bool.false_eq_true, eq_self, n_lit, n_neg, n_add, n_mul, n_sub, n_subM, n_div, n_mod, n_addM, m_div, m_subn, n_tN, n_inS, n_eq_t, n_eq_f, n_ne_t, n_ne_f, n_lt_t, n_lt_f, n_ge_t, n_ge_f, n_gt_t, n_gt_f, n_le_t, n_le_f, mn_eq, mn_ne, mn_lt, mn_ge, mn_gt, mn_le, nm_eq, nm_ne, nm_lt, nm_ge, nm_gt, nm_le, n_gts_t, c_eq_refl, c_ne_refl, w_fold, wC_fold, lt_M, cond_true, cond_false, Bool.and_true, Bool.true_and, Bool.and_false, Bool.false_and, Bool.not_true, Bool.not_false, isZS_0, isZS_1, mm_50, mm_w50, mm_f50, upd_eq, hx, lQ_d]
theorem kep_ok {l2 l3 l4 l5 : Int32} (hk : k ≤ 5) {A : Nat → Int32} : ∀ r i B, i + r = k → (∀ l, l < i → B l = A l) → ∃ B', (∀ l, l < k → B' l = A l) ∧
    run L xs 169 27 (135, [some (vr 10 [1]), some (vi (oN k)), some (vi l2), some (vi l3), some (vi l4), some (vi l5), none, none, some (vi (oN i))], [], mm M A B) =
    run L xs 169 27 (161, [some (vr 10 [1]), some (vi (oN k)), some (vi l2), some (vi l3), some (vi l4), some (vi l5), none, none, none], [], mm M A B') := by
  intro r
  induction r with
  | zero =>
    intro i B hi hB
    have : i = k := by omega
    subst this
    refine ⟨B, hB, ?_⟩
    rw [h_169_135]
    simp (disch := omega) only [↓Bool.cond_eq_ite, ↓reduceIte, Bool.false_eq_true, eq_self, n_lit, n_neg, n_add, n_mul, n_sub, n_subM, n_div, n_mod, n_addM, m_div, m_subn, n_tN, n_inS, n_eq_t, n_eq_f, n_ne_t, n_ne_f, n_lt_t, n_lt_f, n_ge_t, n_ge_f, n_gt_t, n_gt_f, n_le_t, n_le_f, mn_eq, mn_ne, mn_lt, mn_ge, mn_gt, mn_le, nm_eq, nm_ne, nm_lt, nm_ge, nm_gt, nm_le, n_gts_t, c_eq_refl, c_ne_refl, w_fold, w_2, wC_fold, lt_M, cond_true, cond_false, Bool.and_true, Bool.true_and, Bool.and_false, Bool.false_and, Bool.not_true, Bool.not_false, isZS_0, isZS_1]
  | succ r ih =>
    intro i B hi hB
    obtain ⟨B', b1, b2⟩ := ih (i + 1) (upd B i (A i)) (by omega) (fun l hl => by
      by_cases e : l = i
      · subst e; rw [upd_eq]
      · rw [upd_ne e]; exact hB l (by omega))
    refine ⟨B', b1, ?_⟩
    rw [← b2, h_169_135]
    simp (disch := omega) only [↓Bool.cond_eq_ite, ↓reduceIte, Bool.false_eq_true, eq_self, n_lit, n_neg, n_add, n_mul, n_sub, n_subM, n_div, n_mod, n_addM, m_div, m_subn, n_tN, n_inS, n_eq_t, n_eq_f, n_ne_t, n_ne_f, n_lt_t, n_lt_f, n_ge_t, n_ge_f, n_gt_t, n_gt_f, n_le_t, n_le_f, mn_eq, mn_ne, mn_lt, mn_ge, mn_gt, mn_le, nm_eq, nm_ne, nm_lt, nm_ge, nm_gt, nm_le, n_gts_t, c_eq_refl, c_ne_refl, w_fold, wC_fold, lt_M, cond_true, cond_false, Bool.and_true, Bool.true_and, Bool.and_false, Bool.false_and, Bool.not_true, Bool.not_false, isZS_0, isZS_1, mm_50, mm_51, mm_w51, mm_f51]
def bst : Option (Nat × (Nat → Nat)) → Int32
  | none => oM 1
  | some z => oN z.1
theorem bst_n : bst none = oM 1 := rfl
theorem bst_s {z : Nat × (Nat → Nat)} : bst (some z) = oN z.1 := rfl
def wJ (h : Nat → Nat) (k g w : Nat) (B : Nat → Int32) : Option (Nat × (Nat → Nat)) → Prop
  | none => ∀ e, (∀ l, l < k → e l ≤ 5) → Gd h k g e → ¬ nv e k < w
  | some z => z.1 ≤ 5 ∧ (∀ l, l < k → B l = oN (z.2 l) ∧ z.2 l ≤ 5) ∧ Gd h k g z.2 ∧ maxN z.2 k = z.1 ∧ nv z.2 k < w ∧ ∀ e, (∀ l, l < k → e l ≤ 5) → Gd h k g e → nv e k < w → z.1 ≤ maxN e k ∧ (maxN e k = z.1 → nv z.2 k ≤ nv e k)
set_option maxRecDepth 8000 in
theorem ways_ok (hM : rM M h k g) : ∀ r w A B o, w + r = 6 ^ k → wJ h k g w B o → ∃ A' B' o', run L xs 169 27 (35, [some (vr 10 [1]), some (vi (oN k)), some (vi (oN g)), some (vi (bst o)), some (vi (oN (6 ^ k))), some (vi (oN w)), none, none, none], [], mm M A B) = some (some (vi (bst o')), mm M A' B') ∧ wJ h k g (6 ^ k) B' o' := by
  obtain ⟨hk, hg, hh⟩ := hM
  have hp : 6 ^ k ≤ 6 ^ 5 := Nat.pow_le_pow_right (by omega) (by omega)
  have hp : 6 ^ k ≤ 7776 := hp
  intro r
  induction r with
  | zero =>
    intro w A B o hw hJ
    have : w = 6 ^ k := by omega
    subst this
    refine ⟨A, B, o, ?_, hJ⟩
    rw [h_169_35]
    simp (disch := omega) only [↓Bool.cond_eq_ite, ↓reduceIte, Bool.false_eq_true, eq_self, n_lit, n_neg, n_add, n_mul, n_sub, n_subM, n_div, n_mod, n_addM, m_div, m_subn, n_tN, n_inS, n_eq_t, n_eq_f, n_ne_t, n_ne_f, n_lt_t, n_lt_f, n_ge_t, n_ge_f, n_gt_t, n_gt_f, n_le_t, n_le_f, mn_eq, mn_ne, mn_lt, mn_ge, mn_gt, mn_le, nm_eq, nm_ne, nm_lt, nm_ge, nm_gt, nm_le, n_gts_t, c_eq_refl, c_ne_refl, w_fold, w_2, wC_fold, lt_M, cond_true, cond_false, Bool.and_true, Bool.true_and, Bool.and_false, Bool.false_and, Bool.not_true, Bool.not_false, isZS_0, isZS_1]
  | succ r ih =>
    intro w A B o hw hJ
    obtain ⟨d, A1, d1, d2, d3, d4, d5⟩ := dig_ok (L := L) (xs := xs) (M := M) (l2 := oN g) (l3 := bst o) (l4 := oN (6 ^ k)) (l5 := oN w) hk k w 0 A B (Nat.le_refl _) (by omega) (by omega)
    have hmx : max 0 (maxN d k) = maxN d k := Nat.max_eq_right (Nat.zero_le _)
    have hm5 : maxN d k ≤ 5 := maxN_le (fun l hl => d1 l hl)
    rw [hmx] at d5
    have st : run L xs 169 27 (35, [some (vr 10 [1]), some (vi (oN k)), some (vi (oN g)), some (vi (bst o)), some (vi (oN (6 ^ k))), some (vi (oN w)), none, none, none], [], mm M A B) = run L xs 169 27 (54, [some (vr 10 [1]), some (vi (oN k)), some (vi (oN g)), some (vi (bst o)), some (vi (oN (6 ^ k))), some (vi (oN w)), some (vi (oN 0)), some (vi (oN (maxN d k))), some (vi (oM 1))], [], mm M A1 B) := by
      rw [← d5, h_169_35]
      have e : oN k - oN 1 = lQ k := by rw [← lQ_d]; exact Int32.sub_eq_add_neg _ _
      simp (disch := omega) only [↓e, ↓Bool.cond_eq_ite, ↓reduceIte, Bool.false_eq_true, eq_self, n_lit, n_neg, n_add, n_mul, n_sub, n_subM, n_div, n_mod, n_addM, m_div, m_subn, n_tN, n_inS, n_eq_t, n_eq_f, n_ne_t, n_ne_f, n_lt_t, n_lt_f, n_ge_t, n_ge_f, n_gt_t, n_gt_f, n_le_t, n_le_f, mn_eq, mn_ne, mn_lt, mn_ge, mn_gt, mn_le, nm_eq, nm_ne, nm_lt, nm_ge, nm_gt, nm_le, n_gts_t, c_eq_refl, c_ne_refl, w_fold, w_2, wC_fold, lt_M, cond_true, cond_false, Bool.and_true, Bool.true_and, Bool.and_false, Bool.false_and, Bool.not_true, Bool.not_false, isZS_0, isZS_1]
    have h61 : ∀ A B l3, run L xs 169 27 (161, [some (vr 10 [1]), some (vi (oN k)), some (vi (oN g)), some (vi l3), some (vi (oN (6 ^ k))), some (vi (oN w)), none, none, none], [], mm M A B) = run L xs 169 27 (35, [some (vr 10 [1]), some (vi (oN k)), some (vi (oN g)), some (vi l3), some (vi (oN (6 ^ k))), some (vi (oN (w + 1))), none, none, none], [], mm M A B) := fun A B l3 => by
      rw [h_169_161]
      simp (disch := omega) only [↓Bool.cond_eq_ite, ↓reduceIte, Bool.false_eq_true, eq_self, n_lit, n_neg, n_add, n_mul, n_sub, n_subM, n_div, n_mod, n_addM, m_div, m_subn, n_tN, n_inS, n_eq_t, n_eq_f, n_ne_t, n_ne_f, n_lt_t, n_lt_f, n_ge_t, n_ge_f, n_gt_t, n_gt_f, n_le_t, n_le_f, mn_eq, mn_ne, mn_lt, mn_ge, mn_gt, mn_le, nm_eq, nm_ne, nm_lt, nm_ge, nm_gt, nm_le, n_gts_t, c_eq_refl, c_ne_refl, w_fold, w_2, wC_fold, lt_M, cond_true, cond_false, Bool.and_true, Bool.true_and, Bool.and_false, Bool.false_and, Bool.not_true, Bool.not_false, isZS_0, isZS_1]
    have k204 : ∀ B, kI L xs 204 [vr 10 [1], vi (oN k), vi (oN g)] (mm M A1 B) = some (encP (fO (fun s => decide (g < mI h d s k)) 0 6), mm M A1 B) := fun B => s_204 hk hg (fun i hi => ⟨(hh i hi).1, d1 i hi, by rw [mm_49]; exact (hh i hi).2, by rw [mm_50]; exact d3 i hi⟩)
    have hsame : ∀ e, (∀ l, l < k → e l ≤ 5) → nv e k = w → ∀ l, l < k → e l = d l := fun e he hv => nv_inj d1 he (by omega)
    have keep : (Gd h k g d → ∃ z, o = some z ∧ z.1 ≤ maxN d k) → wJ h k g (w + 1) B o := fun hno => by
      cases o with
      | none =>
        intro e he hge hlt
        by_cases q : nv e k = w
        · obtain ⟨z, hz, -⟩ := hno (Gd_cg (fun l hl => (hsame e he q l hl).symm) hge)
          cases hz
        · exact hJ e he hge (by omega)
      | some z =>
        obtain ⟨z1, z2, z3, z4, z5, z6⟩ := hJ
        refine ⟨z1, z2, z3, z4, by omega, fun e he hge hlt => ?_⟩
        by_cases q : nv e k = w
        · obtain ⟨z', hz, hle⟩ := hno (Gd_cg (fun l hl => (hsame e he q l hl).symm) hge)
          cases hz
          rw [maxN_cg (hsame e he q)]
          exact ⟨hle, fun _ => by omega⟩
        · exact z6 e he hge (by omega)
    have take : ∀ B', (∀ l, l < k → B' l = A1 l) → Gd h k g d → (∀ z, o = some z → maxN d k < z.1) → wJ h k g (w + 1) B' (some (maxN d k, d)) := fun B' hB' hgd hz => by
      refine ⟨hm5, fun l hl => ⟨by rw [hB' l hl]; exact d3 l hl, d1 l hl⟩, hgd, rfl, by show nv d k < w + 1; omega, fun e he hge hlt => ?_⟩
      show maxN d k ≤ maxN e k ∧ (maxN e k = maxN d k → nv d k ≤ nv e k)
      by_cases q : nv e k = w
      · rw [maxN_cg (hsame e he q)]
        exact ⟨Nat.le_refl _, fun _ => by omega⟩
      · cases o with
        | none => exact absurd (show nv e k < w by omega) (hJ e he hge)
        | some z =>
          have := hz z rfl
          have := (hJ.2.2.2.2.2 e he hge (by omega)).1
          exact ⟨by omega, fun _ => by omega⟩
    rw [st]
    cases o with
    | none =>
      rw [bst_n]
      cases hf : fO (fun s => decide (g < mI h d s k)) 0 6 with
      | none =>
        have hgd : Gd h k g d := Gd_fO.mpr hf
        obtain ⟨B', b1, b2⟩ := kep_ok (L := L) (xs := xs) (M := M) (l2 := oN g) (l3 := oN (maxN d k)) (l4 := oN (6 ^ k)) (l5 := oN w) hk (A := A1) k 0 B (by omega) (fun l hl => by omega)
        obtain ⟨A2, B2, o', c1, c2⟩ := ih (w + 1) A1 B' (some (maxN d k, d)) (by omega) (take B' b1 hgd (fun z hz => by cases hz))
        refine ⟨A2, B2, o', ?_, c2⟩
        have k2 := k204 B
        rw [hf] at k2
        have k2 : kI L xs 204 [vr 10 [1], vi (oN k), vi (oN g)] (mm M A1 B) = some (oM 1, mm M A1 B) := k2
        rw [h_169_54]
        simp (disch := omega) only [↓Bool.cond_eq_ite, ↓reduceIte, Bool.false_eq_true, eq_self, n_lit, n_neg, n_add, n_mul, n_sub, n_subM, n_div, n_mod, n_addM, m_div, m_subn, n_tN, n_inS, n_eq_t, n_eq_f, n_ne_t, n_ne_f, n_lt_t, n_lt_f, n_ge_t, n_ge_f, n_gt_t, n_gt_f, n_le_t, n_le_f, mn_eq, mn_ne, mn_lt, mn_ge, mn_gt, mn_le, nm_eq, nm_ne, nm_lt, nm_ge, nm_gt, nm_le, n_gts_t, c_eq_refl, c_ne_refl, w_fold, w_2, wC_fold, lt_M, cond_true, cond_false, Bool.and_true, Bool.true_and, Bool.and_false, Bool.false_and, Bool.not_true, Bool.not_false, isZS_0, isZS_1]
        rw [h_169_120, k2, Option.bind_some]
        simp (disch := omega) only [↓Bool.cond_eq_ite, ↓reduceIte, Bool.false_eq_true, eq_self, n_lit, n_neg, n_add, n_mul, n_sub, n_subM, n_div, n_mod, n_addM, m_div, m_subn, n_tN, n_inS, n_eq_t, n_eq_f, n_ne_t, n_ne_f, n_lt_t, n_lt_f, n_ge_t, n_ge_f, n_gt_t, n_gt_f, n_le_t, n_le_f, mn_eq, mn_ne, mn_lt, mn_ge, mn_gt, mn_le, nm_eq, nm_ne, nm_lt, nm_ge, nm_gt, nm_le, n_gts_t, c_eq_refl, c_ne_refl, w_fold, w_2, wC_fold, lt_M, cond_true, cond_false, Bool.and_true, Bool.true_and, Bool.and_false, Bool.false_and, Bool.not_true, Bool.not_false, isZS_0, isZS_1]
        rw [b2, h61]
        exact c1
      | some s =>
        have hgd : ¬ Gd h k g d := fun q => by rw [Gd_fO.mp q] at hf; cases hf
        obtain ⟨A2, B2, o', c1, c2⟩ := ih (w + 1) A1 B none (by omega) (keep (fun q => absurd q hgd))
        refine ⟨A2, B2, o', ?_, c2⟩
        have k2 := k204 B
        rw [hf] at k2
        have k2 : kI L xs 204 [vr 10 [1], vi (oN k), vi (oN g)] (mm M A1 B) = some (oN s, mm M A1 B) := k2
        have hge : cmpS .ge (oN s) (oN 0) = true := by
          have : s < 6 := by
            have h6 : ∀ r s0, fO (fun s => decide (g < mI h d s k)) s0 r = some s → s < s0 + r := by
              intro r
              induction r with
              | zero => intro s0 h; cases h
              | succ r ih =>
                intro s0 h
                unfold fO at h
                split at h
                · cases h; omega
                · have := ih _ h; omega
            have := h6 6 0 hf
            omega
          exact n_ge_t (by omega) (by omega) (by omega)
        rw [h_169_54]
        simp (disch := omega) only [↓Bool.cond_eq_ite, ↓reduceIte, Bool.false_eq_true, eq_self, n_lit, n_neg, n_add, n_mul, n_sub, n_subM, n_div, n_mod, n_addM, m_div, m_subn, n_tN, n_inS, n_eq_t, n_eq_f, n_ne_t, n_ne_f, n_lt_t, n_lt_f, n_ge_t, n_ge_f, n_gt_t, n_gt_f, n_le_t, n_le_f, mn_eq, mn_ne, mn_lt, mn_ge, mn_gt, mn_le, nm_eq, nm_ne, nm_lt, nm_ge, nm_gt, nm_le, n_gts_t, c_eq_refl, c_ne_refl, w_fold, w_2, wC_fold, lt_M, cond_true, cond_false, Bool.and_true, Bool.true_and, Bool.and_false, Bool.false_and, Bool.not_true, Bool.not_false, isZS_0, isZS_1]
        rw [h_169_120, k2, Option.bind_some]
        simp (disch := omega) only [↓Bool.cond_eq_ite, ↓reduceIte, Bool.false_eq_true, eq_self, n_lit, n_neg, n_add, n_mul, n_sub, n_subM, n_div, n_mod, n_addM, m_div, m_subn, n_tN, n_inS, n_eq_t, n_eq_f, n_ne_t, n_ne_f, n_lt_t, n_lt_f, n_ge_t, n_ge_f, n_gt_t, n_gt_f, n_le_t, n_le_f, mn_eq, mn_ne, mn_lt, mn_ge, mn_gt, mn_le, nm_eq, nm_ne, nm_lt, nm_ge, nm_gt, nm_le, n_gts_t, c_eq_refl, c_ne_refl, w_fold, w_2, wC_fold, lt_M, cond_true, cond_false, Bool.and_true, Bool.true_and, Bool.and_false, Bool.false_and, Bool.not_true, Bool.not_false, isZS_0, isZS_1, hge]
        rw [h61]
        exact c1
    | some z =>
      obtain ⟨z1, z2, z3, z4, z5, z6⟩ := hJ
      rw [bst_s]
      by_cases hlt : maxN d k < z.1
      · cases hf : fO (fun s => decide (g < mI h d s k)) 0 6 with
        | none =>
          have hgd : Gd h k g d := Gd_fO.mpr hf
          obtain ⟨B', b1, b2⟩ := kep_ok (L := L) (xs := xs) (M := M) (l2 := oN g) (l3 := oN (maxN d k)) (l4 := oN (6 ^ k)) (l5 := oN w) hk (A := A1) k 0 B (by omega) (fun l hl => by omega)
          obtain ⟨A2, B2, o', c1, c2⟩ := ih (w + 1) A1 B' (some (maxN d k, d)) (by omega) (take B' b1 hgd (fun z' hz => by cases hz; exact hlt))
          refine ⟨A2, B2, o', ?_, c2⟩
          have k2 := k204 B
          rw [hf] at k2
          have k2 : kI L xs 204 [vr 10 [1], vi (oN k), vi (oN g)] (mm M A1 B) = some (oM 1, mm M A1 B) := k2
          rw [h_169_54]
          simp (disch := omega) only [↓Bool.cond_eq_ite, ↓reduceIte, Bool.false_eq_true, eq_self, n_lit, n_neg, n_add, n_mul, n_sub, n_subM, n_div, n_mod, n_addM, m_div, m_subn, n_tN, n_inS, n_eq_t, n_eq_f, n_ne_t, n_ne_f, n_lt_t, n_lt_f, n_ge_t, n_ge_f, n_gt_t, n_gt_f, n_le_t, n_le_f, mn_eq, mn_ne, mn_lt, mn_ge, mn_gt, mn_le, nm_eq, nm_ne, nm_lt, nm_ge, nm_gt, nm_le, n_gts_t, c_eq_refl, c_ne_refl, w_fold, w_2, wC_fold, lt_M, cond_true, cond_false, Bool.and_true, Bool.true_and, Bool.and_false, Bool.false_and, Bool.not_true, Bool.not_false, isZS_0, isZS_1]
          rw [h_169_120, k2, Option.bind_some]
          simp (disch := omega) only [↓Bool.cond_eq_ite, ↓reduceIte, Bool.false_eq_true, eq_self, n_lit, n_neg, n_add, n_mul, n_sub, n_subM, n_div, n_mod, n_addM, m_div, m_subn, n_tN, n_inS, n_eq_t, n_eq_f, n_ne_t, n_ne_f, n_lt_t, n_lt_f, n_ge_t, n_ge_f, n_gt_t, n_gt_f, n_le_t, n_le_f, mn_eq, mn_ne, mn_lt, mn_ge, mn_gt, mn_le, nm_eq, nm_ne, nm_lt, nm_ge, nm_gt, nm_le, n_gts_t, c_eq_refl, c_ne_refl, w_fold, w_2, wC_fold, lt_M, cond_true, cond_false, Bool.and_true, Bool.true_and, Bool.and_false, Bool.false_and, Bool.not_true, Bool.not_false, isZS_0, isZS_1]
          rw [b2, h61]
          exact c1
        | some s =>
          have hgd : ¬ Gd h k g d := fun q => by rw [Gd_fO.mp q] at hf; cases hf
          obtain ⟨A2, B2, o', c1, c2⟩ := ih (w + 1) A1 B (some z) (by omega) (keep (fun q => absurd q hgd))
          refine ⟨A2, B2, o', ?_, c2⟩
          have k2 := k204 B
          rw [hf] at k2
          have k2 : kI L xs 204 [vr 10 [1], vi (oN k), vi (oN g)] (mm M A1 B) = some (oN s, mm M A1 B) := k2
          have hge : cmpS .ge (oN s) (oN 0) = true := by
            have : s < 6 := by
              have h6 : ∀ r s0, fO (fun s => decide (g < mI h d s k)) s0 r = some s → s < s0 + r := by
                intro r
                induction r with
                | zero => intro s0 h; cases h
                | succ r ih =>
                  intro s0 h
                  unfold fO at h
                  split at h
                  · cases h; omega
                  · have := ih _ h; omega
              have := h6 6 0 hf
              omega
            exact n_ge_t (by omega) (by omega) (by omega)
          rw [h_169_54]
          simp (disch := omega) only [↓Bool.cond_eq_ite, ↓reduceIte, Bool.false_eq_true, eq_self, n_lit, n_neg, n_add, n_mul, n_sub, n_subM, n_div, n_mod, n_addM, m_div, m_subn, n_tN, n_inS, n_eq_t, n_eq_f, n_ne_t, n_ne_f, n_lt_t, n_lt_f, n_ge_t, n_ge_f, n_gt_t, n_gt_f, n_le_t, n_le_f, mn_eq, mn_ne, mn_lt, mn_ge, mn_gt, mn_le, nm_eq, nm_ne, nm_lt, nm_ge, nm_gt, nm_le, n_gts_t, c_eq_refl, c_ne_refl, w_fold, w_2, wC_fold, lt_M, cond_true, cond_false, Bool.and_true, Bool.true_and, Bool.and_false, Bool.false_and, Bool.not_true, Bool.not_false, isZS_0, isZS_1]
          rw [h_169_120, k2, Option.bind_some]
          simp (disch := omega) only [↓Bool.cond_eq_ite, ↓reduceIte, Bool.false_eq_true, eq_self, n_lit, n_neg, n_add, n_mul, n_sub, n_subM, n_div, n_mod, n_addM, m_div, m_subn, n_tN, n_inS, n_eq_t, n_eq_f, n_ne_t, n_ne_f, n_lt_t, n_lt_f, n_ge_t, n_ge_f, n_gt_t, n_gt_f, n_le_t, n_le_f, mn_eq, mn_ne, mn_lt, mn_ge, mn_gt, mn_le, nm_eq, nm_ne, nm_lt, nm_ge, nm_gt, nm_le, n_gts_t, c_eq_refl, c_ne_refl, w_fold, w_2, wC_fold, lt_M, cond_true, cond_false, Bool.and_true, Bool.true_and, Bool.and_false, Bool.false_and, Bool.not_true, Bool.not_false, isZS_0, isZS_1, hge]
          rw [h61]
          exact c1
      · obtain ⟨A2, B2, o', c1, c2⟩ := ih (w + 1) A1 B (some z) (by omega) (keep (fun _ => ⟨z, rfl, by omega⟩))
        refine ⟨A2, B2, o', ?_, c2⟩
        rw [h_169_54]
        simp (disch := omega) only [↓Bool.cond_eq_ite, ↓reduceIte, Bool.false_eq_true, eq_self, n_lit, n_neg, n_add, n_mul, n_sub, n_subM, n_div, n_mod, n_addM, m_div, m_subn, n_tN, n_inS, n_eq_t, n_eq_f, n_ne_t, n_ne_f, n_lt_t, n_lt_f, n_ge_t, n_ge_f, n_gt_t, n_gt_f, n_le_t, n_le_f, mn_eq, mn_ne, mn_lt, mn_ge, mn_gt, mn_le, nm_eq, nm_ne, nm_lt, nm_ge, nm_gt, nm_le, n_gts_t, c_eq_refl, c_ne_refl, w_fold, w_2, wC_fold, lt_M, cond_true, cond_false, Bool.and_true, Bool.true_and, Bool.and_false, Bool.false_and, Bool.not_true, Bool.not_false, isZS_0, isZS_1]
        rw [h61]
        exact c1
end Round4
