section TextD
variable {L : Nat} {xs : Nat → Int32} {n : Nat} {β : Nat → Nat} {rk dp : Nat}
def QT (_ : Nat) (_ : Nat → Nat) (_ : Nat) : Prop := True
def tlF (L : Nat) (xs : Nat → Int32) (n : Nat) (β : Nat → Nat) (K : mM → Option (Option mV × mM)) (J : mM → mM → Prop) (P : Nat → (Nat → Int32) → Prop) (dp a f : Nat) (u : (Nat → Int32) → Bool) : Prop :=
  a ≤ f ∧ f ≤ n ∧ cF n β a f K ∧ ∀ M Fd vn sn x1 X1 x2 X2 V S, mTx M n (bM β) → mFd L xs M Fd → vn ≤ a → sn ≤ a → P sn S → J (pM M a (oN 0) dp x1 X1 x2 X2) (pM M a (oN 0) dp (vn + 1) V sn S) → V vn = b2 (u Fd) →
    ∃ d' vn' V' sn' S', k27 L xs 0 (pM M a (oN 0) dp x1 X1 x2 X2) = some (some (vi (oN 0)), pM M f (oN 1) d' vn' V' sn' S')
def tlO (L : Nat) (xs : Nat → Int32) (n : Nat) (β : Nat → Nat) (K : mM → Option (Option mV × mM)) (J : mM → mM → Prop) (P : Nat → (Nat → Int32) → Prop) (Q : Nat → Prop) (dp a j : Nat) (cs : List Nat) (u v : (Nat → Int32) → Bool) : Prop :=
  a ≤ j ∧ j ≤ n ∧ cs.length ≤ j - a ∧ okc cs ∧ (∀ F s, ev F cs (b2 (u F) :: s) = b2 (v F) :: s) ∧ cO n β a j cs K ∧ Q j ∧ ∀ M Fd vn sn x1 X1 x2 X2 V S, mTx M n (bM β) → mFd L xs M Fd → vn ≤ a → sn ≤ a → P sn S → J (pM M a (oN 0) dp x1 X1 x2 X2) (pM M a (oN 0) dp (vn + 1) V sn S) → V vn = b2 (u Fd) →
    ∃ y1 Y1 y2 Y2 V' S', k27 L xs 0 (pM M a (oN 0) dp x1 X1 x2 X2) = k27 L xs 0 (pM M j (oN 0) dp y1 Y1 y2 Y2) ∧ J (pM M j (oN 0) dp y1 Y1 y2 Y2) (pM M j (oN 0) dp (vn + 1) V' sn S') ∧ V' vn = b2 (v Fd) ∧ (∀ i, i < vn → V' i = V i) ∧ ∀ i, i < sn → S' i = S i

noncomputable def k54t (L : Nat) (xs : Nat → Int32) (rk dp t : Nat) (C : mM) := run L xs 54 rk (7, [some (vr 5 [4, 0]), some (vi (oN dp)), some (vi (oN t))], [], C)
theorem jn_38 (x y : Bool) : jn 38 (b2 x) (b2 y) = b2 (x && y) := by cases x <;> cases y <;> decide
set_option maxRecDepth 8000 in
theorem tl_54 (hβ : ∀ i, i < n → β i ≤ 255) (hn : n ≤ 80) (hr' : Nat.blt 25 rk = true) (hrk : Nat.blt (rkM 58 [vr 5 [4, 0], vi (oN dp)]) rk = true) :
    ∀ N a t u, n - a ≤ N → a ≤ n → t + (n - a) ≤ 80 → QT n β a → (∀ a', a < a' → a' ≤ n → gR L xs n β (K58 L xs dp) (jE) Pt (QT n β) dp a') →
    (∃ f, tlF L xs n β (k54t L xs rk dp t) (jA L xs) Pa dp a f u) ∨ ∃ j cs v, tlO L xs n β (k54t L xs rk dp t) (jA L xs) Pa (QA n β) dp a j cs u v := by
  intro N
  have stop : ∀ a t u, a ≤ n → QT n β a → ¬ (a < n ∧ β a = 38) → tlO L xs n β (k54t L xs rk dp t) (jA L xs) Pa (QA n β) dp a a [] u u := by
    intro a t u ha hq hl
    refine ⟨Nat.le_refl _, ha, Nat.zero_le _, okc_nil, fun F s => rfl, ?_, ?_, ?_⟩
    · intro C m F hC hm
      have k53 := c_53 (L := L) (xs := xs) (m := m) (F := F) hC hn (show a ≤ 80 by omega)
      have e1 := c_ne_h (lC_ne hβ (by omega) hl)
      unfold k54t
      rw [h_54_7]
      cases cmpS .ge (oN t) (80 : Int32)
      · simp (disch := omega) only [↓Bool.cond_eq_ite, ↓reduceIte, Bool.false_eq_true, eq_self, n_lit, n_neg, n_add, n_mul, n_sub, n_subM, n_div, n_mod, n_addM, m_div, m_subn, n_tN, n_inS, n_eq_t, n_eq_f, n_ne_t, n_ne_f, n_lt_t, n_lt_f, n_ge_t, n_ge_f, n_gt_t, n_gt_f, n_le_t, n_le_f, mn_eq, mn_ne, mn_lt, mn_ge, mn_gt, mn_le, nm_eq, nm_ne, nm_lt, nm_ge, nm_gt, nm_le, n_gts_t, c_eq_refl, c_ne_refl, w_fold, w_2, wC_fold, lt_M, cond_true, cond_false, Bool.and_true, Bool.true_and, Bool.and_false, Bool.false_and, Bool.not_true, Bool.not_false, isZS_0, isZS_1, hr', k53, e1, Option.bind_some]; rfl
      · rfl
    · exact fun h e => hl ⟨h, e⟩
    · intro M Fd vn sn x1 X1 x2 X2 V S hM hFd hvn hs hP hJ hV
      exact ⟨x1, X1, x2, X2, V, S, rfl, hJ, hV, fun i _ => rfl, fun i _ => rfl⟩
  induction N with
  | zero =>
    intro a t u hN ha ht hq _
    exact .inr ⟨a, [], u, stop a t u ha hq (by omega)⟩
  | succ N ih =>
    intro a t u hN ha ht hq hT
    by_cases hl : a < n ∧ β a = 38
    · obtain ⟨han, hl⟩ := hl
      have k53 : ∀ C m F, cR C n β → kI L xs 53 [vr 5 [4, 0]] (tM C a (oM 4) m F) = some (oN 38, tM C a (oM 4) m F) := fun C m F hC => by
        rw [← (lC_eq hβ (i := a) (c := 38) (by omega)).mpr ⟨han, hl⟩]
        exact c_53 hC hn (by omega)
      have mstep : ∀ M x1 X1 x2 X2 vn V sn S, mTx M n (bM β) → sn < 200 → (jA L xs) (pM M a (oN 0) dp x1 X1 x2 X2) (pM M a (oN 0) dp (vn + 1) V sn S) → k27 L xs 0 (pM M a (oN 0) dp x1 X1 x2 X2) = k27 L xs 1 (pM M (a + 1) (oN 0) dp (vn + 1) V (sn + 1) (upd S sn (oN 38))) := by
        intro M x1 X1 x2 X2 vn V sn S hM hs hJ
        exact l_and hM hβ hn han hl hs hJ
      have hPL : ∀ sn S, Pt (sn + 1) (upd S sn (oN 38)) := fun sn S => by
        unfold Pt
        rw [tp_s upd_eq]
        decide
      rcases hT (a + 1) (by omega) han with ⟨f, q1, q2, q3, q4⟩ | ⟨j, cs, v, q1, q2, q3, q4, q5, q6, q7, q8⟩
      · refine .inl ⟨f, by omega, q2, ?_, ?_⟩
        · intro C m F hC hm
          obtain ⟨j, m', F', g⟩ := q3 C m F hC (by omega)
          have g := kV_c (g : call _ _ _ _ _ = _)
          have fin : k54t L xs rk dp (t + 1) (tM C j (oN f) m' F') = some (none, tM C j (oN f) m' F') := by
            unfold k54t
            rw [h_54_7]
            cases cmpS .ge (oN (t + 1)) (80 : Int32)
            · simp (disch := omega) only [↓Bool.cond_eq_ite, ↓reduceIte, Bool.false_eq_true, eq_self, n_lit, n_neg, n_add, n_mul, n_sub, n_subM, n_div, n_mod, n_addM, m_div, m_subn, n_tN, n_inS, n_eq_t, n_eq_f, n_ne_t, n_ne_f, n_lt_t, n_lt_f, n_ge_t, n_ge_f, n_gt_t, n_gt_f, n_le_t, n_le_f, mn_eq, mn_ne, mn_lt, mn_ge, mn_gt, mn_le, nm_eq, nm_ne, nm_lt, nm_ge, nm_gt, nm_le, n_gts_t, c_eq_refl, c_ne_refl, w_fold, w_2, wC_fold, lt_M, cond_true, cond_false, Bool.and_true, Bool.true_and, Bool.and_false, Bool.false_and, Bool.not_true, Bool.not_false, isZS_0, isZS_1, hr', s_53f, Option.bind_some]
            · rfl
          refine ⟨j, m', F', ?_⟩
          unfold k54t at fin ⊢
          rw [h_54_7, hr', cond_true, k53 C m F hC, Option.bind_some]
          simp (disch := omega) only [↓Bool.cond_eq_ite, ↓reduceIte, Bool.false_eq_true, eq_self, n_lit, n_neg, n_add, n_mul, n_sub, n_subM, n_div, n_mod, n_addM, m_div, m_subn, n_tN, n_inS, n_eq_t, n_eq_f, n_ne_t, n_ne_f, n_lt_t, n_lt_f, n_ge_t, n_ge_f, n_gt_t, n_gt_f, n_le_t, n_le_f, mn_eq, mn_ne, mn_lt, mn_ge, mn_gt, mn_le, nm_eq, nm_ne, nm_lt, nm_ge, nm_gt, nm_le, n_gts_t, c_eq_refl, c_ne_refl, w_fold, w_2, wC_fold, lt_M, cond_true, cond_false, Bool.and_true, Bool.true_and, Bool.and_false, Bool.false_and, Bool.not_true, Bool.not_false, isZS_0, isZS_1, hr', hrk, tM_6, tM_w6, g, s_52n, Option.bind_some]
          exact fin
        · intro M Fd vn sn x1 X1 x2 X2 V S hM hFd hvn hs hP hJ hV
          rw [mstep M x1 X1 x2 X2 vn V sn S hM (by omega) hJ]
          exact q4 M Fd (vn + 1) V (sn + 1) _ hM hFd (by omega) (by omega) (hPL sn S)
      · have hlen : (cs ++ [20000 + 38]).length = cs.length + 1 := by rw [List.length_append]; rfl
        have kc : ∀ C m F, cR C n β → m + (n - a) ≤ 80 → k54t L xs rk dp t (tM C a (oM 4) m F) = k54t L xs rk dp (t + 1) (tM C j (oM 4) (m + (cs ++ [20000 + 38]).length) (putL F m (cs ++ [20000 + 38]))) := by
          intro C m F hC hm
          have g := kV_c (q6 C m F hC (by omega) : call _ _ _ _ _ = _)
          rw [hlen, ← putL_app, ← putL_1]
          unfold k54t
          rw [h_54_7, hr', cond_true, k53 C m F hC, Option.bind_some]
          simp (disch := omega) only [↓Bool.cond_eq_ite, ↓reduceIte, Bool.false_eq_true, eq_self, n_lit, n_neg, n_add, n_mul, n_sub, n_subM, n_div, n_mod, n_addM, m_div, m_subn, n_tN, n_inS, n_eq_t, n_eq_f, n_ne_t, n_ne_f, n_lt_t, n_lt_f, n_ge_t, n_ge_f, n_gt_t, n_gt_f, n_le_t, n_le_f, mn_eq, mn_ne, mn_lt, mn_ge, mn_gt, mn_le, nm_eq, nm_ne, nm_lt, nm_ge, nm_gt, nm_le, n_gts_t, c_eq_refl, c_ne_refl, w_fold, w_2, wC_fold, lt_M, cond_true, cond_false, Bool.and_true, Bool.true_and, Bool.and_false, Bool.false_and, Bool.not_true, Bool.not_false, isZS_0, isZS_1, hr', hrk, tM_6, tM_w6, g, s_52, Option.bind_some, Nat.add_assoc]
        have km : ∀ M Fd vn sn x1 X1 x2 X2 V S, mTx M n (bM β) → mFd L xs M Fd → vn ≤ a → sn ≤ a → Pa sn S → (jA L xs) (pM M a (oN 0) dp x1 X1 x2 X2) (pM M a (oN 0) dp (vn + 1) V sn S) → V vn = b2 (u Fd) →
            ∃ y1 Y1 y2 Y2 V' S', k27 L xs 0 (pM M a (oN 0) dp x1 X1 x2 X2) = k27 L xs 0 (pM M j (oN 0) dp y1 Y1 y2 Y2) ∧ (jA L xs) (pM M j (oN 0) dp y1 Y1 y2 Y2) (pM M j (oN 0) dp (vn + 1) V' sn S') ∧ V' vn = b2 (u Fd && v Fd) ∧ (∀ i, i < vn → V' i = V i) ∧ ∀ i, i < sn → S' i = S i := by
          intro M Fd vn sn x1 X1 x2 X2 V S hM hFd hvn hs hP hJ hV
          obtain ⟨y1, Y1, y2, Y2, V', S', g1, g2, g3, g4, g5⟩ := q8 M Fd (vn + 1) V (sn + 1) (upd S sn (oN 38)) hM hFd (by omega) (by omega) (hPL sn S)
          have hS1 : S' sn = oN 38 := by rw [g5 sn (by omega), upd_eq]
          have hS2 : ∀ i, i < sn → S' i = S i := fun i hi => by rw [g5 i (by omega), upd_ne (by omega)]
          have htp : ¬ tp sn S' = oN 38 := by rw [tp_congr hS2]; exact hP.2
          have jj := j_and (L := L) (xs := xs) (M := M) (a := j) (d := dp) (b := oN 0) (vn := vn) (sn := sn) (V := V') (S := S') (x := u Fd) (y := v Fd) (by omega) (by omega) hS1 htp (by rw [g4 vn (by omega)]; exact hV) g3
          refine ⟨y1, Y1, y2, Y2, upd V' vn (b2 (u Fd && v Fd)), S', ?_, ?_, upd_eq, fun i hi => by rw [upd_ne (by omega), g4 i (by omega)], hS2⟩
          · rw [mstep M x1 X1 x2 X2 vn V sn S hM (by omega) hJ]
            exact g1
          · show kV _ _ _ _ _ = _
            rw [show pM M j (oN 0) dp y1 Y1 y2 Y2 = _ from g2]
            exact jj
        rcases ih j (t + 1) (fun F => u F && v F) (by omega) q2 (by omega) q7 (fun a' h1 h2 => hT a' (by omega) h2) with ⟨f, r1, r2, r3, r4⟩ | ⟨j', cs', v', r1, r2, r3, r4, r5, r6, r7, r8⟩
        · refine .inl ⟨f, by omega, r2, ?_, ?_⟩
          · intro C m F hC hm
            rw [kc C m F hC hm]
            exact r3 C _ _ hC (by rw [hlen]; omega)
          · intro M Fd vn sn x1 X1 x2 X2 V S hM hFd hvn hs hP hJ hV
            obtain ⟨y1, Y1, y2, Y2, V', S', g1, g2, g3, g4, g5⟩ := km M Fd vn sn x1 X1 x2 X2 V S hM hFd hvn hs hP hJ hV
            rw [g1]
            exact r4 M Fd vn sn y1 Y1 y2 Y2 V' S' hM hFd (by omega) (by omega) (by unfold Pa at hP ⊢; rw [tp_congr g5]; exact hP) g2 g3
        · refine .inr ⟨j', (cs ++ [20000 + 38]) ++ cs', v', by omega, r2, ?_, okc_app (okc_app q4 (okc_1 (by omega))) r4, ?_, ?_, r7, ?_⟩
          · rw [List.length_append, hlen]; omega
          · intro F s
            rw [ev_app, ev_app, q5, ev_s (by omega), jn_38, r5]
          · intro C m F hC hm
            rw [kc C m F hC hm, r6 C _ _ hC (by rw [hlen]; omega), putL_app, List.length_append (as := cs ++ [20000 + 38]), Nat.add_assoc]
          · intro M Fd vn sn x1 X1 x2 X2 V S hM hFd hvn hs hP hJ hV
            obtain ⟨y1, Y1, y2, Y2, V', S', g1, g2, g3, g4, g5⟩ := km M Fd vn sn x1 X1 x2 X2 V S hM hFd hvn hs hP hJ hV
            obtain ⟨z1, Z1, z2, Z2, V2, S2, i1, i2, i3, i4, i5⟩ := r8 M Fd vn sn y1 Y1 y2 Y2 V' S' hM hFd (by omega) (by omega) (by unfold Pa at hP ⊢; rw [tp_congr g5]; exact hP) g2 g3
            exact ⟨z1, Z1, z2, Z2, V2, S2, by rw [g1, i1], i2, i3, fun i hi => by rw [i4 i hi, g4 i hi], fun i hi => by rw [i5 i hi, g5 i hi]⟩
    · exact .inr ⟨a, [], u, stop a t u ha hq hl⟩
set_option maxRecDepth 8000 in
theorem lv_54 (hβ : ∀ i, i < n → β i ≤ 255) (hn : n ≤ 80) (hdp : dp ≤ 8) {a : Nat} (ha : a ≤ n) (hT : ∀ a', a ≤ a' → a' ≤ n → gR L xs n β (K58 L xs dp) (jE) Pt (QT n β) dp a') : gR L xs n β (K54 L xs dp) (jA L xs) Pa (QA n β) dp a := by
  obtain ⟨rk1, rk2, rk3, rk4, rk5, rk6, rk7⟩ := rk_ok dp (by omega)
  rcases hT a (Nat.le_refl _) ha with ⟨f, q1, q2, q3, q4⟩ | ⟨j, cs, v, q1, q2, q3, q4, q5, q6, q7, q8⟩
  · refine .inl ⟨f, q1, q2, ?_, ?_⟩
    · intro C m F hC hm
      obtain ⟨j, m', F', g⟩ := q3 C m F hC hm
      have g := kV_c (g : call _ _ _ _ _ = _)
      refine ⟨j, m', F', ?_⟩
      unfold K54
      rw [e_54, rk4, cond_true, g, Option.bind_some, h_54_7]
      simp (disch := omega) only [↓Bool.cond_eq_ite, ↓reduceIte, Bool.false_eq_true, eq_self, n_lit, n_neg, n_add, n_mul, n_sub, n_subM, n_div, n_mod, n_addM, m_div, m_subn, n_tN, n_inS, n_eq_t, n_eq_f, n_ne_t, n_ne_f, n_lt_t, n_lt_f, n_ge_t, n_ge_f, n_gt_t, n_gt_f, n_le_t, n_le_f, mn_eq, mn_ne, mn_lt, mn_ge, mn_gt, mn_le, nm_eq, nm_ne, nm_lt, nm_ge, nm_gt, nm_le, n_gts_t, c_eq_refl, c_ne_refl, w_fold, w_2, wC_fold, lt_M, cond_true, cond_false, Bool.and_true, Bool.true_and, Bool.and_false, Bool.false_and, Bool.not_true, Bool.not_false, isZS_0, isZS_1, rk5, s_53f, Option.bind_some]
    · intro M Fd vn V sn S hM hFd hvn hs hP
      exact q4 M Fd vn V sn S hM hFd hvn hs hP.1
  · have kc : ∀ C m F, cR C n β → m + (n - a) ≤ 80 → K54 L xs dp (tM C a (oM 4) m F) = k54t L xs (rkM 54 [vr 5 [4, 0], vi (oN dp)]) dp 0 (tM C j (oM 4) (m + cs.length) (putL F m cs)) := by
      intro C m F hC hm
      have g := kV_c (q6 C m F hC hm : call _ _ _ _ _ = _)
      unfold K54 k54t
      rw [e_54, rk4, cond_true, g, Option.bind_some]
      rfl
    have km : ∀ M Fd vn V sn S, mTx M n (bM β) → mFd L xs M Fd → vn ≤ a → sn ≤ a → Pa sn S → ∃ x1 X1 x2 X2 V' S', k27 L xs 1 (pM M a (oN 0) dp vn V sn S) = k27 L xs 0 (pM M j (oN 0) dp x1 X1 x2 X2) ∧ (jA L xs) (pM M j (oN 0) dp x1 X1 x2 X2) (pM M j (oN 0) dp (vn + 1) V' sn S') ∧ V' vn = b2 (v Fd) ∧ (∀ i, i < vn → V' i = V i) ∧ ∀ i, i < sn → S' i = S i := by
      intro M Fd vn V sn S hM hFd hvn hs hP
      obtain ⟨x1, X1, x2, X2, V', S', g1, g2, g3, g4, g5⟩ := q8 M Fd vn V sn S hM hFd hvn hs hP.1
      refine ⟨x1, X1, x2, X2, V', S', g1, ?_, g3, g4, g5⟩
      have htp : ¬ tp sn S' = oN 38 := by rw [tp_congr g5]; exact hP.2
      show kV _ _ _ _ _ = _
      rw [show pM M j (oN 0) dp x1 X1 x2 X2 = _ from g2]
      exact j_no (by omega) htp
    rcases tl_54 (L := L) (xs := xs) (dp := dp) hβ hn rk5 rk4 (n - j) j 0 v (Nat.le_refl _) q2 (by omega) q7 (fun a' h1 h2 => hT a' (by omega) h2) with ⟨f, r1, r2, r3, r4⟩ | ⟨j', cs', v', r1, r2, r3, r4, r5, r6, r7, r8⟩
    · refine .inl ⟨f, by omega, r2, ?_, ?_⟩
      · intro C m F hC hm
        rw [kc C m F hC hm]
        exact r3 C _ _ hC (by omega)
      · intro M Fd vn V sn S hM hFd hvn hs hP
        obtain ⟨x1, X1, x2, X2, V', S', g1, g2, g3, g4, g5⟩ := km M Fd vn V sn S hM hFd hvn hs hP
        rw [g1]
        exact r4 M Fd vn sn x1 X1 x2 X2 V' S' hM hFd (by omega) (by omega) (by unfold Pa at hP ⊢; rw [tp_congr g5]; exact hP) g2 g3
    · refine .inr ⟨j', cs ++ cs', v', by omega, r2, by rw [List.length_append]; omega, okc_app q4 r4, ?_, ?_, r7, ?_⟩
      · intro F s
        rw [ev_app, q5, r5]
      · intro C m F hC hm
        rw [kc C m F hC hm, r6 C _ _ hC (by omega), putL_app, List.length_append, Nat.add_assoc]
      · intro M Fd vn V sn S hM hFd hvn hs hP
        obtain ⟨x1, X1, x2, X2, V', S', g1, g2, g3, g4, g5⟩ := km M Fd vn V sn S hM hFd hvn hs hP
        obtain ⟨z1, Z1, z2, Z2, V2, S2, i1, i2, i3, i4, i5⟩ := r8 M Fd vn sn x1 X1 x2 X2 V' S' hM hFd (by omega) (by omega) (by unfold Pa at hP ⊢; rw [tp_congr g5]; exact hP) g2 g3
        exact ⟨z1, Z1, z2, Z2, V2, S2, by rw [g1, i1], i2, i3, fun i hi => by rw [i4 i hi, g4 i hi], fun i hi => by rw [i5 i hi, g5 i hi]⟩

noncomputable def k56t (L : Nat) (xs : Nat → Int32) (rk dp t : Nat) (C : mM) := run L xs 56 rk (7, [some (vr 5 [4, 0]), some (vi (oN dp)), some (vi (oN t))], [], C)
theorem jn_124 (x y : Bool) : jn 124 (b2 x) (b2 y) = b2 (x || y) := by cases x <;> cases y <;> decide
set_option maxRecDepth 8000 in
theorem tl_56 (hβ : ∀ i, i < n → β i ≤ 255) (hn : n ≤ 80) (hr' : Nat.blt 25 rk = true) (hrk : Nat.blt (rkM 54 [vr 5 [4, 0], vi (oN dp)]) rk = true) :
    ∀ N a t u, n - a ≤ N → a ≤ n → t + (n - a) ≤ 80 → QA n β a → (∀ a', a < a' → a' ≤ n → gR L xs n β (K54 L xs dp) (jA L xs) Pa (QA n β) dp a') →
    (∃ f, tlF L xs n β (k56t L xs rk dp t) (jO L xs) Po dp a f u) ∨ ∃ j cs v, tlO L xs n β (k56t L xs rk dp t) (jO L xs) Po (QO n β) dp a j cs u v := by
  intro N
  have stop : ∀ a t u, a ≤ n → QA n β a → ¬ (a < n ∧ β a = 124) → tlO L xs n β (k56t L xs rk dp t) (jO L xs) Po (QO n β) dp a a [] u u := by
    intro a t u ha hq hl
    refine ⟨Nat.le_refl _, ha, Nat.zero_le _, okc_nil, fun F s => rfl, ?_, ?_, ?_⟩
    · intro C m F hC hm
      have k53 := c_53 (L := L) (xs := xs) (m := m) (F := F) hC hn (show a ≤ 80 by omega)
      have e1 := c_ne_h (lC_ne hβ (by omega) hl)
      unfold k56t
      rw [h_56_7]
      cases cmpS .ge (oN t) (80 : Int32)
      · simp (disch := omega) only [↓Bool.cond_eq_ite, ↓reduceIte, Bool.false_eq_true, eq_self, n_lit, n_neg, n_add, n_mul, n_sub, n_subM, n_div, n_mod, n_addM, m_div, m_subn, n_tN, n_inS, n_eq_t, n_eq_f, n_ne_t, n_ne_f, n_lt_t, n_lt_f, n_ge_t, n_ge_f, n_gt_t, n_gt_f, n_le_t, n_le_f, mn_eq, mn_ne, mn_lt, mn_ge, mn_gt, mn_le, nm_eq, nm_ne, nm_lt, nm_ge, nm_gt, nm_le, n_gts_t, c_eq_refl, c_ne_refl, w_fold, w_2, wC_fold, lt_M, cond_true, cond_false, Bool.and_true, Bool.true_and, Bool.and_false, Bool.false_and, Bool.not_true, Bool.not_false, isZS_0, isZS_1, hr', k53, e1, Option.bind_some]; rfl
      · rfl
    · exact fun h => ⟨hq h, fun e => hl ⟨h, e⟩⟩
    · intro M Fd vn sn x1 X1 x2 X2 V S hM hFd hvn hs hP hJ hV
      exact ⟨x1, X1, x2, X2, V, S, rfl, hJ, hV, fun i _ => rfl, fun i _ => rfl⟩
  induction N with
  | zero =>
    intro a t u hN ha ht hq _
    exact .inr ⟨a, [], u, stop a t u ha hq (by omega)⟩
  | succ N ih =>
    intro a t u hN ha ht hq hT
    by_cases hl : a < n ∧ β a = 124
    · obtain ⟨han, hl⟩ := hl
      have k53 : ∀ C m F, cR C n β → kI L xs 53 [vr 5 [4, 0]] (tM C a (oM 4) m F) = some (oN 124, tM C a (oM 4) m F) := fun C m F hC => by
        rw [← (lC_eq hβ (i := a) (c := 124) (by omega)).mpr ⟨han, hl⟩]
        exact c_53 hC hn (by omega)
      have mstep : ∀ M x1 X1 x2 X2 vn V sn S, mTx M n (bM β) → sn < 200 → (jO L xs) (pM M a (oN 0) dp x1 X1 x2 X2) (pM M a (oN 0) dp (vn + 1) V sn S) → k27 L xs 0 (pM M a (oN 0) dp x1 X1 x2 X2) = k27 L xs 1 (pM M (a + 1) (oN 0) dp (vn + 1) V (sn + 1) (upd S sn (oN 124))) := by
        intro M x1 X1 x2 X2 vn V sn S hM hs hJ
        obtain ⟨Y, h1, h2⟩ := hJ
        exact l_orr hM hβ hn han hl hs h1 h2
      have hPL : ∀ sn S, Pa (sn + 1) (upd S sn (oN 124)) := fun sn S => by
        unfold Pa
        rw [tp_s upd_eq]
        exact ⟨by decide, by decide⟩
      rcases hT (a + 1) (by omega) han with ⟨f, q1, q2, q3, q4⟩ | ⟨j, cs, v, q1, q2, q3, q4, q5, q6, q7, q8⟩
      · refine .inl ⟨f, by omega, q2, ?_, ?_⟩
        · intro C m F hC hm
          obtain ⟨j, m', F', g⟩ := q3 C m F hC (by omega)
          have g := kV_c (g : call _ _ _ _ _ = _)
          have fin : k56t L xs rk dp (t + 1) (tM C j (oN f) m' F') = some (none, tM C j (oN f) m' F') := by
            unfold k56t
            rw [h_56_7]
            cases cmpS .ge (oN (t + 1)) (80 : Int32)
            · simp (disch := omega) only [↓Bool.cond_eq_ite, ↓reduceIte, Bool.false_eq_true, eq_self, n_lit, n_neg, n_add, n_mul, n_sub, n_subM, n_div, n_mod, n_addM, m_div, m_subn, n_tN, n_inS, n_eq_t, n_eq_f, n_ne_t, n_ne_f, n_lt_t, n_lt_f, n_ge_t, n_ge_f, n_gt_t, n_gt_f, n_le_t, n_le_f, mn_eq, mn_ne, mn_lt, mn_ge, mn_gt, mn_le, nm_eq, nm_ne, nm_lt, nm_ge, nm_gt, nm_le, n_gts_t, c_eq_refl, c_ne_refl, w_fold, w_2, wC_fold, lt_M, cond_true, cond_false, Bool.and_true, Bool.true_and, Bool.and_false, Bool.false_and, Bool.not_true, Bool.not_false, isZS_0, isZS_1, hr', s_53f, Option.bind_some]
            · rfl
          refine ⟨j, m', F', ?_⟩
          unfold k56t at fin ⊢
          rw [h_56_7, hr', cond_true, k53 C m F hC, Option.bind_some]
          simp (disch := omega) only [↓Bool.cond_eq_ite, ↓reduceIte, Bool.false_eq_true, eq_self, n_lit, n_neg, n_add, n_mul, n_sub, n_subM, n_div, n_mod, n_addM, m_div, m_subn, n_tN, n_inS, n_eq_t, n_eq_f, n_ne_t, n_ne_f, n_lt_t, n_lt_f, n_ge_t, n_ge_f, n_gt_t, n_gt_f, n_le_t, n_le_f, mn_eq, mn_ne, mn_lt, mn_ge, mn_gt, mn_le, nm_eq, nm_ne, nm_lt, nm_ge, nm_gt, nm_le, n_gts_t, c_eq_refl, c_ne_refl, w_fold, w_2, wC_fold, lt_M, cond_true, cond_false, Bool.and_true, Bool.true_and, Bool.and_false, Bool.false_and, Bool.not_true, Bool.not_false, isZS_0, isZS_1, hr', hrk, tM_6, tM_w6, g, s_52n, Option.bind_some]
          exact fin
        · intro M Fd vn sn x1 X1 x2 X2 V S hM hFd hvn hs hP hJ hV
          rw [mstep M x1 X1 x2 X2 vn V sn S hM (by omega) hJ]
          exact q4 M Fd (vn + 1) V (sn + 1) _ hM hFd (by omega) (by omega) (hPL sn S)
      · have hlen : (cs ++ [20000 + 124]).length = cs.length + 1 := by rw [List.length_append]; rfl
        have kc : ∀ C m F, cR C n β → m + (n - a) ≤ 80 → k56t L xs rk dp t (tM C a (oM 4) m F) = k56t L xs rk dp (t + 1) (tM C j (oM 4) (m + (cs ++ [20000 + 124]).length) (putL F m (cs ++ [20000 + 124]))) := by
          intro C m F hC hm
          have g := kV_c (q6 C m F hC (by omega) : call _ _ _ _ _ = _)
          rw [hlen, ← putL_app, ← putL_1]
          unfold k56t
          rw [h_56_7, hr', cond_true, k53 C m F hC, Option.bind_some]
          simp (disch := omega) only [↓Bool.cond_eq_ite, ↓reduceIte, Bool.false_eq_true, eq_self, n_lit, n_neg, n_add, n_mul, n_sub, n_subM, n_div, n_mod, n_addM, m_div, m_subn, n_tN, n_inS, n_eq_t, n_eq_f, n_ne_t, n_ne_f, n_lt_t, n_lt_f, n_ge_t, n_ge_f, n_gt_t, n_gt_f, n_le_t, n_le_f, mn_eq, mn_ne, mn_lt, mn_ge, mn_gt, mn_le, nm_eq, nm_ne, nm_lt, nm_ge, nm_gt, nm_le, n_gts_t, c_eq_refl, c_ne_refl, w_fold, w_2, wC_fold, lt_M, cond_true, cond_false, Bool.and_true, Bool.true_and, Bool.and_false, Bool.false_and, Bool.not_true, Bool.not_false, isZS_0, isZS_1, hr', hrk, tM_6, tM_w6, g, s_52, Option.bind_some, Nat.add_assoc]
        have km : ∀ M Fd vn sn x1 X1 x2 X2 V S, mTx M n (bM β) → mFd L xs M Fd → vn ≤ a → sn ≤ a → Po sn S → (jO L xs) (pM M a (oN 0) dp x1 X1 x2 X2) (pM M a (oN 0) dp (vn + 1) V sn S) → V vn = b2 (u Fd) →
            ∃ y1 Y1 y2 Y2 V' S', k27 L xs 0 (pM M a (oN 0) dp x1 X1 x2 X2) = k27 L xs 0 (pM M j (oN 0) dp y1 Y1 y2 Y2) ∧ (jO L xs) (pM M j (oN 0) dp y1 Y1 y2 Y2) (pM M j (oN 0) dp (vn + 1) V' sn S') ∧ V' vn = b2 (u Fd || v Fd) ∧ (∀ i, i < vn → V' i = V i) ∧ ∀ i, i < sn → S' i = S i := by
          intro M Fd vn sn x1 X1 x2 X2 V S hM hFd hvn hs hP hJ hV
          obtain ⟨y1, Y1, y2, Y2, V', S', g1, g2, g3, g4, g5⟩ := q8 M Fd (vn + 1) V (sn + 1) (upd S sn (oN 124)) hM hFd (by omega) (by omega) (hPL sn S)
          have hS1 : S' sn = oN 124 := by rw [g5 sn (by omega), upd_eq]
          have hS2 : ∀ i, i < sn → S' i = S i := fun i hi => by rw [g5 i (by omega), upd_ne (by omega)]
          have htp : ¬ tp sn S' = oN 124 := by rw [tp_congr hS2]; exact hP.2.2
          have jj := j_or (L := L) (xs := xs) (M := M) (a := j) (d := dp) (b := oN 0) (vn := vn) (sn := sn) (V := V') (S := S') (x := u Fd) (y := v Fd) (by omega) (by omega) hS1 htp (by rw [g4 vn (by omega)]; exact hV) g3
          refine ⟨y1, Y1, y2, Y2, upd V' vn (b2 (u Fd || v Fd)), S', ?_, ?_, upd_eq, fun i hi => by rw [upd_ne (by omega), g4 i (by omega)], hS2⟩
          · rw [mstep M x1 X1 x2 X2 vn V sn S hM (by omega) hJ]
            exact g1
          · exact ⟨_, g2, jj⟩
        rcases ih j (t + 1) (fun F => u F || v F) (by omega) q2 (by omega) q7 (fun a' h1 h2 => hT a' (by omega) h2) with ⟨f, r1, r2, r3, r4⟩ | ⟨j', cs', v', r1, r2, r3, r4, r5, r6, r7, r8⟩
        · refine .inl ⟨f, by omega, r2, ?_, ?_⟩
          · intro C m F hC hm
            rw [kc C m F hC hm]
            exact r3 C _ _ hC (by rw [hlen]; omega)
          · intro M Fd vn sn x1 X1 x2 X2 V S hM hFd hvn hs hP hJ hV
            obtain ⟨y1, Y1, y2, Y2, V', S', g1, g2, g3, g4, g5⟩ := km M Fd vn sn x1 X1 x2 X2 V S hM hFd hvn hs hP hJ hV
            rw [g1]
            exact r4 M Fd vn sn y1 Y1 y2 Y2 V' S' hM hFd (by omega) (by omega) (by unfold Po at hP ⊢; rw [tp_congr g5]; exact hP) g2 g3
        · refine .inr ⟨j', (cs ++ [20000 + 124]) ++ cs', v', by omega, r2, ?_, okc_app (okc_app q4 (okc_1 (by omega))) r4, ?_, ?_, r7, ?_⟩
          · rw [List.length_append, hlen]; omega
          · intro F s
            rw [ev_app, ev_app, q5, ev_s (by omega), jn_124, r5]
          · intro C m F hC hm
            rw [kc C m F hC hm, r6 C _ _ hC (by rw [hlen]; omega), putL_app, List.length_append (as := cs ++ [20000 + 124]), Nat.add_assoc]
          · intro M Fd vn sn x1 X1 x2 X2 V S hM hFd hvn hs hP hJ hV
            obtain ⟨y1, Y1, y2, Y2, V', S', g1, g2, g3, g4, g5⟩ := km M Fd vn sn x1 X1 x2 X2 V S hM hFd hvn hs hP hJ hV
            obtain ⟨z1, Z1, z2, Z2, V2, S2, i1, i2, i3, i4, i5⟩ := r8 M Fd vn sn y1 Y1 y2 Y2 V' S' hM hFd (by omega) (by omega) (by unfold Po at hP ⊢; rw [tp_congr g5]; exact hP) g2 g3
            exact ⟨z1, Z1, z2, Z2, V2, S2, by rw [g1, i1], i2, i3, fun i hi => by rw [i4 i hi, g4 i hi], fun i hi => by rw [i5 i hi, g5 i hi]⟩
    · exact .inr ⟨a, [], u, stop a t u ha hq hl⟩
set_option maxRecDepth 8000 in
theorem lv_56 (hβ : ∀ i, i < n → β i ≤ 255) (hn : n ≤ 80) (hdp : dp ≤ 8) {a : Nat} (ha : a ≤ n) (hT : ∀ a', a ≤ a' → a' ≤ n → gR L xs n β (K54 L xs dp) (jA L xs) Pa (QA n β) dp a') : gR L xs n β (K56 L xs dp) (jO L xs) Po (QO n β) dp a := by
  obtain ⟨rk1, rk2, rk3, rk4, rk5, rk6, rk7⟩ := rk_ok dp (by omega)
  rcases hT a (Nat.le_refl _) ha with ⟨f, q1, q2, q3, q4⟩ | ⟨j, cs, v, q1, q2, q3, q4, q5, q6, q7, q8⟩
  · refine .inl ⟨f, q1, q2, ?_, ?_⟩
    · intro C m F hC hm
      obtain ⟨j, m', F', g⟩ := q3 C m F hC hm
      have g := kV_c (g : call _ _ _ _ _ = _)
      refine ⟨j, m', F', ?_⟩
      unfold K56
      rw [e_56, rk6, cond_true, g, Option.bind_some, h_56_7]
      simp (disch := omega) only [↓Bool.cond_eq_ite, ↓reduceIte, Bool.false_eq_true, eq_self, n_lit, n_neg, n_add, n_mul, n_sub, n_subM, n_div, n_mod, n_addM, m_div, m_subn, n_tN, n_inS, n_eq_t, n_eq_f, n_ne_t, n_ne_f, n_lt_t, n_lt_f, n_ge_t, n_ge_f, n_gt_t, n_gt_f, n_le_t, n_le_f, mn_eq, mn_ne, mn_lt, mn_ge, mn_gt, mn_le, nm_eq, nm_ne, nm_lt, nm_ge, nm_gt, nm_le, n_gts_t, c_eq_refl, c_ne_refl, w_fold, w_2, wC_fold, lt_M, cond_true, cond_false, Bool.and_true, Bool.true_and, Bool.and_false, Bool.false_and, Bool.not_true, Bool.not_false, isZS_0, isZS_1, rk7, s_53f, Option.bind_some]
    · intro M Fd vn V sn S hM hFd hvn hs hP
      exact q4 M Fd vn V sn S hM hFd hvn hs ⟨hP.1, hP.2.1⟩
  · have kc : ∀ C m F, cR C n β → m + (n - a) ≤ 80 → K56 L xs dp (tM C a (oM 4) m F) = k56t L xs (rkM 56 [vr 5 [4, 0], vi (oN dp)]) dp 0 (tM C j (oM 4) (m + cs.length) (putL F m cs)) := by
      intro C m F hC hm
      have g := kV_c (q6 C m F hC hm : call _ _ _ _ _ = _)
      unfold K56 k56t
      rw [e_56, rk6, cond_true, g, Option.bind_some]
      rfl
    have km : ∀ M Fd vn V sn S, mTx M n (bM β) → mFd L xs M Fd → vn ≤ a → sn ≤ a → Po sn S → ∃ x1 X1 x2 X2 V' S', k27 L xs 1 (pM M a (oN 0) dp vn V sn S) = k27 L xs 0 (pM M j (oN 0) dp x1 X1 x2 X2) ∧ (jO L xs) (pM M j (oN 0) dp x1 X1 x2 X2) (pM M j (oN 0) dp (vn + 1) V' sn S') ∧ V' vn = b2 (v Fd) ∧ (∀ i, i < vn → V' i = V i) ∧ ∀ i, i < sn → S' i = S i := by
      intro M Fd vn V sn S hM hFd hvn hs hP
      obtain ⟨x1, X1, x2, X2, V', S', g1, g2, g3, g4, g5⟩ := q8 M Fd vn V sn S hM hFd hvn hs ⟨hP.1, hP.2.1⟩
      refine ⟨x1, X1, x2, X2, V', S', g1, ?_, g3, g4, g5⟩
      have htp : ¬ tp sn S' = oN 124 := by rw [tp_congr g5]; exact hP.2.2
      exact ⟨_, g2, j_no (by omega) htp⟩
    rcases tl_56 (L := L) (xs := xs) (dp := dp) hβ hn rk7 rk6 (n - j) j 0 v (Nat.le_refl _) q2 (by omega) q7 (fun a' h1 h2 => hT a' (by omega) h2) with ⟨f, r1, r2, r3, r4⟩ | ⟨j', cs', v', r1, r2, r3, r4, r5, r6, r7, r8⟩
    · refine .inl ⟨f, by omega, r2, ?_, ?_⟩
      · intro C m F hC hm
        rw [kc C m F hC hm]
        exact r3 C _ _ hC (by omega)
      · intro M Fd vn V sn S hM hFd hvn hs hP
        obtain ⟨x1, X1, x2, X2, V', S', g1, g2, g3, g4, g5⟩ := km M Fd vn V sn S hM hFd hvn hs hP
        rw [g1]
        exact r4 M Fd vn sn x1 X1 x2 X2 V' S' hM hFd (by omega) (by omega) (by unfold Po at hP ⊢; rw [tp_congr g5]; exact hP) g2 g3
    · refine .inr ⟨j', cs ++ cs', v', by omega, r2, by rw [List.length_append]; omega, okc_app q4 r4, ?_, ?_, r7, ?_⟩
      · intro F s
        rw [ev_app, q5, r5]
      · intro C m F hC hm
        rw [kc C m F hC hm, r6 C _ _ hC (by omega), putL_app, List.length_append, Nat.add_assoc]
      · intro M Fd vn V sn S hM hFd hvn hs hP
        obtain ⟨x1, X1, x2, X2, V', S', g1, g2, g3, g4, g5⟩ := km M Fd vn V sn S hM hFd hvn hs hP
        obtain ⟨z1, Z1, z2, Z2, V2, S2, i1, i2, i3, i4, i5⟩ := r8 M Fd vn sn x1 X1 x2 X2 V' S' hM hFd (by omega) (by omega) (by unfold Po at hP ⊢; rw [tp_congr g5]; exact hP) g2 g3
        exact ⟨z1, Z1, z2, Z2, V2, S2, by rw [g1, i1], i2, i3, fun i hi => by rw [i4 i hi, g4 i hi], fun i hi => by rw [i5 i hi, g5 i hi]⟩

set_option maxRecDepth 8000 in
theorem ts_ok (hβ : ∀ i, i < n → β i ≤ 255) (hn : n ≤ 80) (hdp : dp ≤ 8) {a : Nat} (ha : a ≤ n) (hO : ∀ a', a < a' → a' ≤ n → dp < 8 → gR L xs n β (K56 L xs (dp + 1)) (jO L xs) Po (QO n β) (dp + 1) a') : gR L xs n β (K58 L xs dp) jE Pt (QT n β) dp a := by
  obtain ⟨rk1, rk2, rk3, rk4, rk5, rk6, rk7⟩ := rk_ok dp (by omega)
  have kc : ∀ C, K58 L xs dp C = k58n L xs (rkM 58 [vr 5 [4, 0], vi (oN dp)]) dp 0 0 C := fun C => by
    unfold K58 k58n
    rw [e_58]; rfl
  rcases nots_ok (L := L) (xs := xs) (dp := dp) hβ hn hdp rk2 rk1 rk3 (n - a) a 0 (Nat.le_refl _) ha hO with ⟨f, q1, q2, q3, q4⟩ | ⟨j, cs, v, q1, q2, q3, q4, q5, q6, q7⟩
  · refine .inl ⟨f, q1, q2, ?_, ?_⟩
    · intro C m F hC hm
      rw [kc]
      obtain ⟨m', g, j, q, F', e⟩ := q3 0 0 rfl (by omega) C m F hC (by omega)
      subst e
      exact ⟨j, q, F', g⟩
    · intro M Fd vn V sn S hM hFd hvn hs hP
      exact q4 M Fd vn V sn S hM hFd hvn (by omega) (fun i h1 h2 => by omega) hP
  · refine .inr ⟨j, cs, v, q1, q2, by omega, q4, q5, ?_, trivial, ?_⟩
    · intro C m F hC hm
      rw [kc]
      obtain ⟨m', g, e⟩ := q6 0 0 rfl (by omega) C m F hC (by omega)
      rw [e] at g
      exact g
    · intro M Fd vn V sn S hM hFd hvn hs hP
      obtain ⟨V', S', g1, g2, g3, g4⟩ := q7 M Fd vn V sn S hM hFd hvn (by omega) (fun i h1 h2 => by omega) hP
      exact ⟨_, _, _, _, V', S', g1, rfl, g2, g3, g4⟩
theorem or_ok (hβ : ∀ i, i < n → β i ≤ 255) (hn : n ≤ 80) : ∀ N a dp, n - a ≤ N → a ≤ n → dp ≤ 8 → gR L xs n β (K56 L xs dp) (jO L xs) Po (QO n β) dp a := by
  intro N
  induction N with
  | zero =>
    intro a dp hN ha hdp
    refine lv_56 hβ hn hdp ha (fun a1 h1 g1 => lv_54 hβ hn hdp g1 (fun a2 h2 g2 => ts_ok hβ hn hdp g2 (fun a3 h3 g3 h8 => by omega)))
  | succ N ih =>
    intro a dp hN ha hdp
    refine lv_56 hβ hn hdp ha (fun a1 h1 g1 => lv_54 hβ hn hdp g1 (fun a2 h2 g2 => ts_ok hβ hn hdp g2 (fun a3 h3 g3 h8 => ih a3 (dp + 1) (by omega) g3 (by omega))))
end TextD
