section TextB
variable {L : Nat} {xs : Nat → Int32} {n : Nat} {β : Nat → Nat}
noncomputable def K58 (L : Nat) (xs : Nat → Int32) (dp : Nat) (C : mM) := call L xs 58 [vr 5 [4, 0], vi (oN dp)] C
noncomputable def K54 (L : Nat) (xs : Nat → Int32) (dp : Nat) (C : mM) := call L xs 54 [vr 5 [4, 0], vi (oN dp)] C
noncomputable def K56 (L : Nat) (xs : Nat → Int32) (dp : Nat) (C : mM) := call L xs 56 [vr 5 [4, 0], vi (oN dp)] C
def jE (X N : mM) : Prop := X = N
def jA (L : Nat) (xs : Nat → Int32) (X N : mM) : Prop := kV L xs 194 [vr 10 [1], vi (oN 38)] X = some N
def jO (L : Nat) (xs : Nat → Int32) (X N : mM) : Prop := ∃ Y, kV L xs 194 [vr 10 [1], vi (oN 38)] X = some Y ∧ kV L xs 194 [vr 10 [1], vi (oN 124)] Y = some N
def Pt (sn : Nat) (S : Nat → Int32) : Prop := ¬ tp sn S = oN 33
def Pa (sn : Nat) (S : Nat → Int32) : Prop := ¬ tp sn S = oN 33 ∧ ¬ tp sn S = oN 38
def Po (sn : Nat) (S : Nat → Int32) : Prop := ¬ tp sn S = oN 33 ∧ ¬ tp sn S = oN 38 ∧ ¬ tp sn S = oN 124
def mdl (L : Nat) (xs : Nat → Int32) (n : Nat) (β : Nat → Nat) (J : mM → mM → Prop) (P : Nat → (Nat → Int32) → Prop) (dp a j : Nat) (v : (Nat → Int32) → Bool) : Prop :=
  ∀ M Fd vn V sn S, mTx M n (bM β) → mFd L xs M Fd → vn ≤ a → sn ≤ a → P sn S → ∃ x1 X1 x2 X2 V' S', k27 L xs 1 (pM M a (oN 0) dp vn V sn S) = k27 L xs 0 (pM M j (oN 0) dp x1 X1 x2 X2) ∧ J (pM M j (oN 0) dp x1 X1 x2 X2) (pM M j (oN 0) dp (vn + 1) V' sn S') ∧ V' vn = b2 (v Fd) ∧ (∀ i, i < vn → V' i = V i) ∧ ∀ i, i < sn → S' i = S i
def mdf (L : Nat) (xs : Nat → Int32) (n : Nat) (β : Nat → Nat) (P : Nat → (Nat → Int32) → Prop) (dp a f : Nat) : Prop :=
  ∀ M Fd vn V sn S, mTx M n (bM β) → mFd L xs M Fd → vn ≤ a → sn ≤ a → P sn S → ∃ d' vn' V' sn' S', k27 L xs 1 (pM M a (oN 0) dp vn V sn S) = some (some (vi (oN 0)), pM M f (oN 1) d' vn' V' sn' S')
def gFl (L : Nat) (xs : Nat → Int32) (n : Nat) (β : Nat → Nat) (K : mM → Option (Option mV × mM)) (P : Nat → (Nat → Int32) → Prop) (dp a f : Nat) : Prop := a ≤ f ∧ f ≤ n ∧ cF n β a f K ∧ mdf L xs n β P dp a f
def gOk (L : Nat) (xs : Nat → Int32) (n : Nat) (β : Nat → Nat) (K : mM → Option (Option mV × mM)) (J : mM → mM → Prop) (P : Nat → (Nat → Int32) → Prop) (Q : Nat → Prop) (dp a j : Nat) (cs : List Nat) (v : (Nat → Int32) → Bool) : Prop :=
  a < j ∧ j ≤ n ∧ cs.length ≤ j - a ∧ okc cs ∧ (∀ F s, ev F cs s = b2 (v F) :: s) ∧ cO n β a j cs K ∧ Q j ∧ mdl L xs n β J P dp a j v
def gR (L : Nat) (xs : Nat → Int32) (n : Nat) (β : Nat → Nat) (K : mM → Option (Option mV × mM)) (J : mM → mM → Prop) (P : Nat → (Nat → Int32) → Prop) (Q : Nat → Prop) (dp a : Nat) : Prop :=
  (∃ f, gFl L xs n β K P dp a f) ∨ (∃ j cs v, gOk L xs n β K J P Q dp a j cs v)
def QA (n : Nat) (β : Nat → Nat) (j : Nat) : Prop := j < n → ¬ β j = 38
def QO (n : Nat) (β : Nat → Nat) (j : Nat) : Prop := j < n → ¬ β j = 38 ∧ ¬ β j = 124
noncomputable def k58n (L : Nat) (xs : Nat → Int32) (rk dp nt t : Nat) (C : mM) := run L xs 58 rk (4, [some (vr 5 [4, 0]), some (vi (oN dp)), some (vi (oN nt)), some (vi (oN t))], [], C)
noncomputable def k58c (L : Nat) (xs : Nat → Int32) (rk dp nt : Nat) (C : mM) := run L xs 58 rk (45, [some (vr 5 [4, 0]), some (vi (oN dp)), some (vi (oN nt)), none], [], C)
def nC (n : Nat) (β : Nat → Nat) (a k : Nat) (K : Nat → Nat → mM → Option (Option mV × mM)) (G : mM → Nat → (Nat → Int32) → mM → Prop) : Prop :=
  ∀ nt t, nt = k % 2 → t + (n - a) ≤ 80 → ∀ C m F, cR C n β → m + (n - a) + nt ≤ 80 → ∃ m', K nt t (tM C a (oM 4) m F) = some (none, m') ∧ G C m F m'
def nM (L : Nat) (xs : Nat → Int32) (n : Nat) (β : Nat → Nat) (dp a k : Nat) (G : mM → (Nat → Int32) → Nat → (Nat → Int32) → Nat → (Nat → Int32) → Prop) : Prop :=
  ∀ M Fd vn V s0 S, mTx M n (bM β) → mFd L xs M Fd → vn ≤ a → s0 + k ≤ a → (∀ i, s0 ≤ i → i < s0 + k → S i = oN 33) → ¬ tp s0 S = oN 33 → G M Fd vn V s0 S
def nF (L : Nat) (xs : Nat → Int32) (n : Nat) (β : Nat → Nat) (rk dp a k f : Nat) : Prop := a ≤ f ∧ f ≤ n ∧
  nC n β a k (fun nt t => k58n L xs rk dp nt t) (fun C _ _ m' => ∃ j q F', m' = tM C j (oN f) q F') ∧
  nM L xs n β dp a k (fun M _ vn V s0 S => ∃ d' vn' V' sn' S', k27 L xs 1 (pM M a (oN 0) dp vn V (s0 + k) S) = some (some (vi (oN 0)), pM M f (oN 1) d' vn' V' sn' S'))
def nO (L : Nat) (xs : Nat → Int32) (n : Nat) (β : Nat → Nat) (rk dp a k j : Nat) (cs : List Nat) (v : (Nat → Int32) → Bool) : Prop :=
  a < j ∧ j ≤ n ∧ cs.length ≤ j - a + k % 2 ∧ okc cs ∧ (∀ F s, ev F cs s = b2 (v F) :: s) ∧
  nC n β a k (fun nt t => k58n L xs rk dp nt t) (fun C m F m' => m' = tM C j (oM 4) (m + cs.length) (putL F m cs)) ∧
  nM L xs n β dp a k (fun M Fd vn V s0 S => ∃ V' S', k27 L xs 1 (pM M a (oN 0) dp vn V (s0 + k) S) = k27 L xs 0 (pM M j (oN 0) dp (vn + 1) V' s0 S') ∧ V' vn = b2 (v Fd) ∧ (∀ i, i < vn → V' i = V i) ∧ ∀ i, i < s0 → S' i = S i)
theorem tp_congr {sn : Nat} {S S' : Nat → Int32} (h : ∀ i, i < sn → S' i = S i) : tp sn S' = tp sn S := by
  unfold tp
  by_cases h0 : sn = 0
  · rw [if_pos h0, if_pos h0]
  · rw [if_neg h0, if_neg h0, h _ (by omega)]
theorem upd_ne {S : Nat → Int32} {i k : Nat} {v : Int32} (h : i ≠ k) : upd S k v i = S i := by rw [upd_at, if_neg h]
theorem upd_eq {S : Nat → Int32} {k : Nat} {v : Int32} : upd S k v k = v := by rw [upd_at, if_pos rfl]
theorem b2_nar (y : Bool) : vp_nar .boolean (b2 y) = b2 y := by cases y <;> decide
variable {rk dp : Nat}
theorem n_45 (hβ : ∀ i, i < n → β i ≤ 255) (hn : n ≤ 80) {a nt t : Nat} (hr' : Nat.blt 25 rk = true) (ha : a ≤ n) (hnt : nt ≤ 1) (ht : t + (n - a) ≤ 80) (hl : ¬ (a < n ∧ β a = 33)) {C : mM} {m : Nat} {F : Nat → Int32} (hC : cR C n β) : k58n L xs rk dp nt t (tM C a (oM 4) m F) = k58c L xs rk dp nt (tM C a (oM 4) m F) := by
  have k53 := c_53 (L := L) (xs := xs) (m := m) (F := F) hC hn (show a ≤ 80 by omega)
  have e1 := c_ne_h (lC_ne hβ (by omega) hl)
  unfold k58n k58c
  rw [h_58_4]
  by_cases h80 : 80 ≤ t
  · simp (disch := omega) only [↓Bool.cond_eq_ite, ↓reduceIte, Bool.false_eq_true, eq_self, n_lit, n_neg, n_add, n_mul, n_sub, n_subM, n_div, n_mod, n_addM, m_div, m_subn, n_tN, n_inS, n_eq_t, n_eq_f, n_ne_t, n_ne_f, n_lt_t, n_lt_f, n_ge_t, n_ge_f, n_gt_t, n_gt_f, n_le_t, n_le_f, mn_eq, mn_ne, mn_lt, mn_ge, mn_gt, mn_le, nm_eq, nm_ne, nm_lt, nm_ge, nm_gt, nm_le, n_gts_t, c_eq_refl, c_ne_refl, w_fold, w_2, wC_fold, lt_M, cond_true, cond_false, Bool.and_true, Bool.true_and, Bool.and_false, Bool.false_and, Bool.not_true, Bool.not_false, isZS_0, isZS_1]
  · simp (disch := omega) only [↓Bool.cond_eq_ite, ↓reduceIte, Bool.false_eq_true, eq_self, n_lit, n_neg, n_add, n_mul, n_sub, n_subM, n_div, n_mod, n_addM, m_div, m_subn, n_tN, n_inS, n_eq_t, n_eq_f, n_ne_t, n_ne_f, n_lt_t, n_lt_f, n_ge_t, n_ge_f, n_gt_t, n_gt_f, n_le_t, n_le_f, mn_eq, mn_ne, mn_lt, mn_ge, mn_gt, mn_le, nm_eq, nm_ne, nm_lt, nm_ge, nm_gt, nm_le, n_gts_t, c_eq_refl, c_ne_refl, w_fold, w_2, wC_fold, lt_M, cond_true, cond_false, Bool.and_true, Bool.true_and, Bool.and_false, Bool.false_and, Bool.not_true, Bool.not_false, isZS_0, isZS_1, hr', k53, e1, Option.bind_some]
theorem n_4 (hβ : ∀ i, i < n → β i ≤ 255) (hn : n ≤ 80) {a k t : Nat} (hr' : Nat.blt 25 rk = true) (ha : a < n) (hl : β a = 33) (ht : t + (n - a) ≤ 80) {C : mM} {m : Nat} {F : Nat → Int32} (hC : cR C n β) : k58n L xs rk dp (k % 2) t (tM C a (oM 4) m F) = k58n L xs rk dp ((k + 1) % 2) (t + 1) (tM C (a + 1) (oM 4) m F) := by
  have k53 := c_53 (L := L) (xs := xs) (m := m) (F := F) hC hn (show a ≤ 80 by omega)
  rw [(lC_eq hβ (i := a) (c := 33) (by omega)).mpr ⟨ha, hl⟩] at k53
  unfold k58n
  rw [h_58_4]
  have hk2 : k % 2 = 0 ∨ k % 2 = 1 := by omega
  rcases hk2 with q | q
  · rw [q, show (k + 1) % 2 = 1 by omega]
    simp (disch := omega) only [↓Bool.cond_eq_ite, ↓reduceIte, Bool.false_eq_true, eq_self, n_lit, n_neg, n_add, n_mul, n_sub, n_subM, n_div, n_mod, n_addM, m_div, m_subn, n_tN, n_inS, n_eq_t, n_eq_f, n_ne_t, n_ne_f, n_lt_t, n_lt_f, n_ge_t, n_ge_f, n_gt_t, n_gt_f, n_le_t, n_le_f, mn_eq, mn_ne, mn_lt, mn_ge, mn_gt, mn_le, nm_eq, nm_ne, nm_lt, nm_ge, nm_gt, nm_le, n_gts_t, c_eq_refl, c_ne_refl, w_fold, w_2, wC_fold, lt_M, cond_true, cond_false, Bool.and_true, Bool.true_and, Bool.and_false, Bool.false_and, Bool.not_true, Bool.not_false, isZS_0, isZS_1, hr', k53, tM_6, tM_w6, Option.bind_some]
  · rw [q, show (k + 1) % 2 = 0 by omega]
    simp (disch := omega) only [↓Bool.cond_eq_ite, ↓reduceIte, Bool.false_eq_true, eq_self, n_lit, n_neg, n_add, n_mul, n_sub, n_subM, n_div, n_mod, n_addM, m_div, m_subn, n_tN, n_inS, n_eq_t, n_eq_f, n_ne_t, n_ne_f, n_lt_t, n_lt_f, n_ge_t, n_ge_f, n_gt_t, n_gt_f, n_le_t, n_le_f, mn_eq, mn_ne, mn_lt, mn_ge, mn_gt, mn_le, nm_eq, nm_ne, nm_lt, nm_ge, nm_gt, nm_le, n_gts_t, c_eq_refl, c_ne_refl, w_fold, w_2, wC_fold, lt_M, cond_true, cond_false, Bool.and_true, Bool.true_and, Bool.and_false, Bool.false_and, Bool.not_true, Bool.not_false, isZS_0, isZS_1, hr', k53, tM_6, tM_w6, Option.bind_some]
theorem n_98 (hβ : ∀ i, i < n → β i ≤ 255) (hn : n ≤ 80) {a nt : Nat} (hr' : Nat.blt 25 rk = true) (ha : a ≤ n) (hdp : dp ≤ 8) (hl : ¬ (a < n ∧ β a = 40) ∨ dp = 8) {C : mM} {m : Nat} {F : Nat → Int32} (hC : cR C n β) : k58c L xs rk dp nt (tM C a (oM 4) m F) = k58b L xs rk nt (tM C a (oM 4) m F) := by
  have k53 := c_53 (L := L) (xs := xs) (m := m) (F := F) hC hn (show a ≤ 80 by omega)
  unfold k58c k58b
  rw [h_58_45, hr', cond_true, k53, Option.bind_some]
  dsimp only
  by_cases h40 : a < n ∧ β a = 40
  · have h8 : dp = 8 := hl.resolve_left (fun q => q h40)
    subst h8
    rw [(lC_eq hβ (i := a) (c := 40) (by omega)).mpr h40]
    simp (disch := omega) only [↓Bool.cond_eq_ite, ↓reduceIte, Bool.false_eq_true, eq_self, n_lit, n_neg, n_add, n_mul, n_sub, n_subM, n_div, n_mod, n_addM, m_div, m_subn, n_tN, n_inS, n_eq_t, n_eq_f, n_ne_t, n_ne_f, n_lt_t, n_lt_f, n_ge_t, n_ge_f, n_gt_t, n_gt_f, n_le_t, n_le_f, mn_eq, mn_ne, mn_lt, mn_ge, mn_gt, mn_le, nm_eq, nm_ne, nm_lt, nm_ge, nm_gt, nm_le, n_gts_t, c_eq_refl, c_ne_refl, w_fold, w_2, wC_fold, lt_M, cond_true, cond_false, Bool.and_true, Bool.true_and, Bool.and_false, Bool.false_and, Bool.not_true, Bool.not_false, isZS_0, isZS_1]
  · have e1 := c_ne_h (lC_ne hβ (c := 40) (by omega) h40)
    simp (disch := omega) only [↓Bool.cond_eq_ite, ↓reduceIte, Bool.false_eq_true, eq_self, n_lit, n_neg, n_add, n_mul, n_sub, n_subM, n_div, n_mod, n_addM, m_div, m_subn, n_tN, n_inS, n_eq_t, n_eq_f, n_ne_t, n_ne_f, n_lt_t, n_lt_f, n_ge_t, n_ge_f, n_gt_t, n_gt_f, n_le_t, n_le_f, mn_eq, mn_ne, mn_lt, mn_ge, mn_gt, mn_le, nm_eq, nm_ne, nm_lt, nm_ge, nm_gt, nm_le, n_gts_t, c_eq_refl, c_ne_refl, w_fold, w_2, wC_fold, lt_M, cond_true, cond_false, Bool.and_true, Bool.true_and, Bool.and_false, Bool.false_and, Bool.not_true, Bool.not_false, isZS_0, isZS_1, e1]
end TextB
