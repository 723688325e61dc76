section TextF
variable {L : Nat} {xs : Nat → Int32} {C M : mM}
theorem s_50 {c : Nat} {x y : Int32} (hc : c ≤ 255) : kI L xs 50 [vi (oN c), vi x, vi y] C = some (jn c x y, C) := by
  refine kI_of ?_
  rw [e_50]
  unfold jn
  by_cases h1 : c = 38
  · subst h1; simp (disch := omega) only [↓Bool.cond_eq_ite, ↓reduceIte, Bool.false_eq_true, eq_self, n_lit, n_neg, n_add, n_mul, n_sub, n_subM, n_div, n_mod, n_addM, m_div, m_subn, n_tN, n_inS, n_eq_t, n_eq_f, n_ne_t, n_ne_f, n_lt_t, n_lt_f, n_ge_t, n_ge_f, n_gt_t, n_gt_f, n_le_t, n_le_f, mn_eq, mn_ne, mn_lt, mn_ge, mn_gt, mn_le, nm_eq, nm_ne, nm_lt, nm_ge, nm_gt, nm_le, n_gts_t, c_eq_refl, c_ne_refl, w_fold, w_2, wC_fold, lt_M, cond_true, cond_false, Bool.and_true, Bool.true_and, Bool.and_false, Bool.false_and, Bool.not_true, Bool.not_false, isZS_0, isZS_1]
  rw [if_neg h1]
  by_cases h2 : c = 43
  · subst h2; simp (disch := omega) only [↓Bool.cond_eq_ite, ↓reduceIte, Bool.false_eq_true, eq_self, n_lit, n_neg, n_add, n_mul, n_sub, n_subM, n_div, n_mod, n_addM, m_div, m_subn, n_tN, n_inS, n_eq_t, n_eq_f, n_ne_t, n_ne_f, n_lt_t, n_lt_f, n_ge_t, n_ge_f, n_gt_t, n_gt_f, n_le_t, n_le_f, mn_eq, mn_ne, mn_lt, mn_ge, mn_gt, mn_le, nm_eq, nm_ne, nm_lt, nm_ge, nm_gt, nm_le, n_gts_t, c_eq_refl, c_ne_refl, w_fold, w_2, wC_fold, lt_M, cond_true, cond_false, Bool.and_true, Bool.true_and, Bool.and_false, Bool.false_and, Bool.not_true, Bool.not_false, isZS_0, isZS_1]
  rw [if_neg h2]
  by_cases h3 : c = 45
  · subst h3; simp (disch := omega) only [↓Bool.cond_eq_ite, ↓reduceIte, Bool.false_eq_true, eq_self, n_lit, n_neg, n_add, n_mul, n_sub, n_subM, n_div, n_mod, n_addM, m_div, m_subn, n_tN, n_inS, n_eq_t, n_eq_f, n_ne_t, n_ne_f, n_lt_t, n_lt_f, n_ge_t, n_ge_f, n_gt_t, n_gt_f, n_le_t, n_le_f, mn_eq, mn_ne, mn_lt, mn_ge, mn_gt, mn_le, nm_eq, nm_ne, nm_lt, nm_ge, nm_gt, nm_le, n_gts_t, c_eq_refl, c_ne_refl, w_fold, w_2, wC_fold, lt_M, cond_true, cond_false, Bool.and_true, Bool.true_and, Bool.and_false, Bool.false_and, Bool.not_true, Bool.not_false, isZS_0, isZS_1]
  rw [if_neg h3]
  by_cases h4 : c = 60
  · subst h4
    rw [if_pos rfl, b2_n]
    simp (disch := omega) only [↓Bool.cond_eq_ite, ↓reduceIte, Bool.false_eq_true, eq_self, n_lit, n_neg, n_add, n_mul, n_sub, n_subM, n_div, n_mod, n_addM, m_div, m_subn, n_tN, n_inS, n_eq_t, n_eq_f, n_ne_t, n_ne_f, n_lt_t, n_lt_f, n_ge_t, n_ge_f, n_gt_t, n_gt_f, n_le_t, n_le_f, mn_eq, mn_ne, mn_lt, mn_ge, mn_gt, mn_le, nm_eq, nm_ne, nm_lt, nm_ge, nm_gt, nm_le, n_gts_t, c_eq_refl, c_ne_refl, w_fold, w_2, wC_fold, lt_M, cond_true, cond_false, Bool.and_true, Bool.true_and, Bool.and_false, Bool.false_and, Bool.not_true, Bool.not_false, isZS_0, isZS_1]
    cases cmpS .ge x y <;> rfl
  rw [if_neg h4]
  by_cases h5 : c = 61
  · subst h5
    rw [if_pos rfl, b2_n]
    simp (disch := omega) only [↓Bool.cond_eq_ite, ↓reduceIte, Bool.false_eq_true, eq_self, n_lit, n_neg, n_add, n_mul, n_sub, n_subM, n_div, n_mod, n_addM, m_div, m_subn, n_tN, n_inS, n_eq_t, n_eq_f, n_ne_t, n_ne_f, n_lt_t, n_lt_f, n_ge_t, n_ge_f, n_gt_t, n_gt_f, n_le_t, n_le_f, mn_eq, mn_ne, mn_lt, mn_ge, mn_gt, mn_le, nm_eq, nm_ne, nm_lt, nm_ge, nm_gt, nm_le, n_gts_t, c_eq_refl, c_ne_refl, w_fold, w_2, wC_fold, lt_M, cond_true, cond_false, Bool.and_true, Bool.true_and, Bool.and_false, Bool.false_and, Bool.not_true, Bool.not_false, isZS_0, isZS_1]
    cases cmpS .ne x y <;> rfl
  rw [if_neg h5]
  by_cases h6 : c = 62
  · subst h6
    rw [if_pos rfl, b2_n]
    simp (disch := omega) only [↓Bool.cond_eq_ite, ↓reduceIte, Bool.false_eq_true, eq_self, n_lit, n_neg, n_add, n_mul, n_sub, n_subM, n_div, n_mod, n_addM, m_div, m_subn, n_tN, n_inS, n_eq_t, n_eq_f, n_ne_t, n_ne_f, n_lt_t, n_lt_f, n_ge_t, n_ge_f, n_gt_t, n_gt_f, n_le_t, n_le_f, mn_eq, mn_ne, mn_lt, mn_ge, mn_gt, mn_le, nm_eq, nm_ne, nm_lt, nm_ge, nm_gt, nm_le, n_gts_t, c_eq_refl, c_ne_refl, w_fold, w_2, wC_fold, lt_M, cond_true, cond_false, Bool.and_true, Bool.true_and, Bool.and_false, Bool.false_and, Bool.not_true, Bool.not_false, isZS_0, isZS_1]
    cases cmpS .le x y <;> rfl
  rw [if_neg h6]
  simp (disch := omega) only [↓Bool.cond_eq_ite, ↓reduceIte, Bool.false_eq_true, eq_self, n_lit, n_neg, n_add, n_mul, n_sub, n_subM, n_div, n_mod, n_addM, m_div, m_subn, n_tN, n_inS, n_eq_t, n_eq_f, n_ne_t, n_ne_f, n_lt_t, n_lt_f, n_ge_t, n_ge_f, n_gt_t, n_gt_f, n_le_t, n_le_f, mn_eq, mn_ne, mn_lt, mn_ge, mn_gt, mn_le, nm_eq, nm_ne, nm_lt, nm_ge, nm_gt, nm_le, n_gts_t, c_eq_refl, c_ne_refl, w_fold, w_2, wC_fold, lt_M, cond_true, cond_false, Bool.and_true, Bool.true_and, Bool.and_false, Bool.false_and, Bool.not_true, Bool.not_false, isZS_0, isZS_1]
def stk (G : Nat → Int32) : List Int32 → Prop
  | [] => True
  | x :: r => G r.length = x ∧ stk G r
theorem stk_upd {G : Nat → Int32} {k : Nat} {v : Int32} : ∀ {s : List Int32}, s.length ≤ k → stk G s → stk (upd G k v) s
  | [], _, _ => trivial
  | x :: r, hl, h => by
    have hl : r.length + 1 ≤ k := hl
    exact ⟨by rw [upd_ne (by omega)]; exact h.1, stk_upd (by omega) h.2⟩
theorem stk_push {G : Nat → Int32} {v : Int32} {s : List Int32} (h : stk G s) : stk (upd G s.length v) (v :: s) := ⟨upd_eq, stk_upd (Nat.le_refl _) h⟩
theorem ev1_len {F : Nat → Int32} {s : List Int32} {c : Nat} : (ev1 F s c).length ≤ s.length + 1 := by
  unfold ev1
  split
  · exact Nat.le_refl _
  · split
    · exact Nat.le_refl _
    · split
      · split
        · exact Nat.zero_le _
        · exact Nat.le_succ _
      · split
        · show _ + 1 ≤ _ + 1 + 1 + 1; omega
        · exact Nat.le_succ _
noncomputable def k49 (L : Nat) (xs : Nat → Int32) (t : Nat) (q : List Nat) (top i : Nat) (C : mM) := run L xs 49 26 (11, [some (vr 5 [4, 0]), some (vi (oN t)), some (vr 1000012 q), some (vi (oN top)), some (vi (oN (80 * t))), some (vi (oN i)), none], [], C)
set_option maxRecDepth 8000 in
theorem is_step {t i c N : Nat} {q : List Nat} {F G : Nat → Int32} {s : List Int32} (ht : t < 20) (hq : q ≠ [8, 4, 0]) (hF : ∀ k, k < 12 → C.1 q k = F k) (hz : C.1 [1, 4, 0] t = oN N) (hN : N ≤ 80) (hi : i < N) (hc : C.1 [0, 4, 0] (80 * t + i) = oN c) (ho : c ≤ 20200 ∧ (10000 ≤ c → c < 20000 → c < 10012)) (hs : s.length ≤ i) (hG : stk G s) :
    ∃ G', k49 L xs t q s.length i (stA C [8, 4, 0] G) = k49 L xs t q (ev1 F s c).length (i + 1) (stA C [8, 4, 0] G') ∧ stk G' (ev1 F s c) := by
  have z1 : ∀ G, (stA C [8, 4, 0] G).1 [1, 4, 0] = C.1 [1, 4, 0] := fun G => stA_ne (by simp)
  have z0 : ∀ G, (stA C [8, 4, 0] G).1 [0, 4, 0] = C.1 [0, 4, 0] := fun G => stA_ne (by simp)
  have zq : ∀ G, (stA C [8, 4, 0] G).1 q = C.1 q := fun G => stA_ne hq
  have z8 : ∀ G, (stA C [8, 4, 0] G).1 [8, 4, 0] = G := fun G => stA_same
  unfold k49
  rw [h_49_11]
  by_cases h1 : c < 10000
  · rw [show ev1 F s c = oN c :: s from if_pos h1]
    refine ⟨upd G s.length (oN c), ?_, stk_push hG⟩
    simp (disch := omega) only [↓lt_stA, ↓Bool.cond_eq_ite, ↓reduceIte, Bool.false_eq_true, eq_self, n_lit, n_neg, n_add, n_mul, n_sub, n_subM, n_div, n_mod, n_addM, m_div, m_subn, n_tN, n_inS, n_eq_t, n_eq_f, n_ne_t, n_ne_f, n_lt_t, n_lt_f, n_ge_t, n_ge_f, n_gt_t, n_gt_f, n_le_t, n_le_f, mn_eq, mn_ne, mn_lt, mn_ge, mn_gt, mn_le, nm_eq, nm_ne, nm_lt, nm_ge, nm_gt, nm_le, n_gts_t, c_eq_refl, c_ne_refl, w_fold, w_2, wC_fold, lt_M, cond_true, cond_false, Bool.and_true, Bool.true_and, Bool.and_false, Bool.false_and, Bool.not_true, Bool.not_false, isZS_0, isZS_1, z1, z0, z8, hz, hc, stA_w, stA_u]
    rfl
  by_cases h2 : c < 20000
  · rw [show ev1 F s c = F (c - 10000) :: s from (if_neg h1).trans (if_pos h2)]
    have hf := hF (c - 10000) (by omega)
    refine ⟨upd G s.length (F (c - 10000)), ?_, stk_push hG⟩
    simp (disch := omega) only [↓lt_stA, ↓Bool.cond_eq_ite, ↓reduceIte, Bool.false_eq_true, eq_self, n_lit, n_neg, n_add, n_mul, n_sub, n_subM, n_div, n_mod, n_addM, m_div, m_subn, n_tN, n_inS, n_eq_t, n_eq_f, n_ne_t, n_ne_f, n_lt_t, n_lt_f, n_ge_t, n_ge_f, n_gt_t, n_gt_f, n_le_t, n_le_f, mn_eq, mn_ne, mn_lt, mn_ge, mn_gt, mn_le, nm_eq, nm_ne, nm_lt, nm_ge, nm_gt, nm_le, n_gts_t, c_eq_refl, c_ne_refl, w_fold, w_2, wC_fold, lt_M, cond_true, cond_false, Bool.and_true, Bool.true_and, Bool.and_false, Bool.false_and, Bool.not_true, Bool.not_false, isZS_0, isZS_1, z1, z0, z8, zq, hz, hc, hf, stA_w, stA_u]
    rfl
  by_cases h3 : c = 20033
  · subst h3
    cases s with
    | nil =>
      refine ⟨G, ?_, trivial⟩
      simp (disch := omega) only [↓Bool.cond_eq_ite, ↓reduceIte, Bool.false_eq_true, eq_self, n_lit, n_neg, n_add, n_mul, n_sub, n_subM, n_div, n_mod, n_addM, m_div, m_subn, n_tN, n_inS, n_eq_t, n_eq_f, n_ne_t, n_ne_f, n_lt_t, n_lt_f, n_ge_t, n_ge_f, n_gt_t, n_gt_f, n_le_t, n_le_f, mn_eq, mn_ne, mn_lt, mn_ge, mn_gt, mn_le, nm_eq, nm_ne, nm_lt, nm_ge, nm_gt, nm_le, n_gts_t, c_eq_refl, c_ne_refl, w_fold, w_2, wC_fold, lt_M, cond_true, cond_false, Bool.and_true, Bool.true_and, Bool.and_false, Bool.false_and, Bool.not_true, Bool.not_false, isZS_0, isZS_1, z1, z0, z8, hz, hc, List.length_nil]
      rfl
    | cons x r =>
      have hl : (x :: r).length = r.length + 1 := rfl
      rw [hl] at hs
      refine ⟨upd G r.length (oN 1 - x), ?_, stk_push hG.2⟩
      rw [hl]
      simp (disch := omega) only [↓lt_stA, ↓Bool.cond_eq_ite, ↓reduceIte, Bool.false_eq_true, eq_self, n_lit, n_neg, n_add, n_mul, n_sub, n_subM, n_div, n_mod, n_addM, m_div, m_subn, n_tN, n_inS, n_eq_t, n_eq_f, n_ne_t, n_ne_f, n_lt_t, n_lt_f, n_ge_t, n_ge_f, n_gt_t, n_gt_f, n_le_t, n_le_f, mn_eq, mn_ne, mn_lt, mn_ge, mn_gt, mn_le, nm_eq, nm_ne, nm_lt, nm_ge, nm_gt, nm_le, n_gts_t, c_eq_refl, c_ne_refl, w_fold, w_2, wC_fold, lt_M, cond_true, cond_false, Bool.and_true, Bool.true_and, Bool.and_false, Bool.false_and, Bool.not_true, Bool.not_false, isZS_0, isZS_1, z1, z0, z8, hz, hc, stA_w, stA_u, Nat.add_sub_cancel, hG.1]
      rfl
  · cases s with
    | nil =>
      rw [show ev1 F [] c = [] from (if_neg h1).trans ((if_neg h2).trans (if_neg h3))]
      refine ⟨G, ?_, trivial⟩
      simp (disch := omega) only [↓Bool.cond_eq_ite, ↓reduceIte, Bool.false_eq_true, eq_self, n_lit, n_neg, n_add, n_mul, n_sub, n_subM, n_div, n_mod, n_addM, m_div, m_subn, n_tN, n_inS, n_eq_t, n_eq_f, n_ne_t, n_ne_f, n_lt_t, n_lt_f, n_ge_t, n_ge_f, n_gt_t, n_gt_f, n_le_t, n_le_f, mn_eq, mn_ne, mn_lt, mn_ge, mn_gt, mn_le, nm_eq, nm_ne, nm_lt, nm_ge, nm_gt, nm_le, n_gts_t, c_eq_refl, c_ne_refl, w_fold, w_2, wC_fold, lt_M, cond_true, cond_false, Bool.and_true, Bool.true_and, Bool.and_false, Bool.false_and, Bool.not_true, Bool.not_false, isZS_0, isZS_1, z1, z0, z8, hz, hc, List.length_nil]
    | cons y s1 =>
      cases s1 with
      | nil =>
        rw [show ev1 F [y] c = [y] from (if_neg h1).trans ((if_neg h2).trans (if_neg h3))]
        refine ⟨G, ?_, hG⟩
        have hl : [y].length = 1 := rfl
        rw [hl]
        simp (disch := omega) only [↓Bool.cond_eq_ite, ↓reduceIte, Bool.false_eq_true, eq_self, n_lit, n_neg, n_add, n_mul, n_sub, n_subM, n_div, n_mod, n_addM, m_div, m_subn, n_tN, n_inS, n_eq_t, n_eq_f, n_ne_t, n_ne_f, n_lt_t, n_lt_f, n_ge_t, n_ge_f, n_gt_t, n_gt_f, n_le_t, n_le_f, mn_eq, mn_ne, mn_lt, mn_ge, mn_gt, mn_le, nm_eq, nm_ne, nm_lt, nm_ge, nm_gt, nm_le, n_gts_t, c_eq_refl, c_ne_refl, w_fold, w_2, wC_fold, lt_M, cond_true, cond_false, Bool.and_true, Bool.true_and, Bool.and_false, Bool.false_and, Bool.not_true, Bool.not_false, isZS_0, isZS_1, z1, z0, z8, hz, hc]
      | cons x r =>
        rw [show ev1 F (y :: x :: r) c = jn (c - 20000) x y :: r from (if_neg h1).trans ((if_neg h2).trans (if_neg h3))]
        have hl : (y :: x :: r).length = r.length + 2 := rfl
        rw [hl] at hs
        have g1 : G (r.length + 1) = y := hG.1
        have g2 : G r.length = x := hG.2.1
        refine ⟨upd G r.length (jn (c - 20000) x y), ?_, stk_push hG.2.2⟩
        rw [hl]
        simp (disch := omega) only [↓lt_stA, ↓Bool.cond_eq_ite, ↓reduceIte, Bool.false_eq_true, eq_self, n_lit, n_neg, n_add, n_mul, n_sub, n_subM, n_div, n_mod, n_addM, m_div, m_subn, n_tN, n_inS, n_eq_t, n_eq_f, n_ne_t, n_ne_f, n_lt_t, n_lt_f, n_ge_t, n_ge_f, n_gt_t, n_gt_f, n_le_t, n_le_f, mn_eq, mn_ne, mn_lt, mn_ge, mn_gt, mn_le, nm_eq, nm_ne, nm_lt, nm_ge, nm_gt, nm_le, n_gts_t, c_eq_refl, c_ne_refl, w_fold, w_2, wC_fold, lt_M, cond_true, cond_false, Bool.and_true, Bool.true_and, Bool.and_false, Bool.false_and, Bool.not_true, Bool.not_false, isZS_0, isZS_1, z1, z0, z8, hz, hc, stA_w, stA_u, show ∀ v : Nat, v + 2 - 1 = v + 1 from fun _ => rfl, Nat.add_sub_cancel, g1, g2, s_50, Option.bind_some]
        rfl
theorem is_run {t N : Nat} {q : List Nat} {F : Nat → Int32} (ht : t < 20) (hq : q ≠ [8, 4, 0]) (hF : ∀ k, k < 12 → C.1 q k = F k) (hz : C.1 [1, 4, 0] t = oN N) (hN : N ≤ 80) :
    ∀ cs i s G, i + cs.length = N → rdL (C.1 [0, 4, 0]) (80 * t + i) cs → okc cs → s.length ≤ i → stk G s →
      ∃ G', k49 L xs t q s.length i (stA C [8, 4, 0] G) = k49 L xs t q (ev F cs s).length N (stA C [8, 4, 0] G') ∧ stk G' (ev F cs s) := by
  intro cs
  induction cs with
  | nil =>
    intro i s G hi _ _ _ hG
    have hi : i = N := hi
    subst hi
    exact ⟨G, rfl, hG⟩
  | cons c cs ih =>
    intro i s G hi hr ho hs hG
    have hi : i + (cs.length + 1) = N := hi
    obtain ⟨G1, g1, g2⟩ := is_step (L := L) (xs := xs) (t := t) (F := F) ht hq hF hz hN (i := i) (c := c) (by omega) hr.1 (ho c List.mem_cons_self) hs hG
    obtain ⟨G2, g3, g4⟩ := ih (i + 1) (ev1 F s c) G1 (by omega) hr.2 (fun d hd => ho d (List.mem_cons_of_mem _ hd)) (by have := ev1_len (F := F) (s := s) (c := c); omega) g2
    exact ⟨G2, g1.trans g3, g4⟩
theorem is_true {t : Nat} {q : List Nat} {F : Nat → Int32} {cs : List Nat} {v : Bool} (ht : t < 20) (hq : q ≠ [8, 4, 0]) (hF : ∀ k, k < 12 → C.1 q k = F k) (hz : C.1 [1, 4, 0] t = oN cs.length) (hN : cs.length ≤ 80) (hr : rdL (C.1 [0, 4, 0]) (80 * t) cs) (ho : okc cs) (hv : ∀ s, ev F cs s = b2 v :: s) :
    ∃ G', kI L xs 49 [vr 5 [4, 0], vi (oN t), vr 1000012 q] C = some (b2 v, stA C [8, 4, 0] G') := by
  obtain ⟨G', g1, g2⟩ := is_run (L := L) (xs := xs) ht hq hF hz hN cs 0 [] (C.1 [8, 4, 0]) (by omega) hr ho (Nat.le_refl _) trivial
  rw [hv []] at g1 g2
  rw [stA_id] at g1
  refine ⟨G', kI_of ?_⟩
  have hg : G' 0 = b2 v := g2.1
  have z1 : ∀ G, (stA C [8, 4, 0] G).1 [1, 4, 0] = C.1 [1, 4, 0] := fun G => stA_ne (by simp)
  have z8 : ∀ G, (stA C [8, 4, 0] G).1 [8, 4, 0] = G := fun G => stA_same
  have e : call L xs 49 [vr 5 [4, 0], vi (oN t), vr 1000012 q] C = k49 L xs t q 0 0 C := by
    rw [e_49]
    unfold k49
    rw [n_lit, n_lit, n_mul, Nat.mul_comm]
  rw [e]
  refine g1.trans ?_
  show k49 L xs t q 1 cs.length _ = _
  unfold k49
  rw [h_49_11]
  cases v
  · simp (disch := omega) only [↓Bool.cond_eq_ite, ↓reduceIte, Bool.false_eq_true, eq_self, n_lit, n_neg, n_add, n_mul, n_sub, n_subM, n_div, n_mod, n_addM, m_div, m_subn, n_tN, n_inS, n_eq_t, n_eq_f, n_ne_t, n_ne_f, n_lt_t, n_lt_f, n_ge_t, n_ge_f, n_gt_t, n_gt_f, n_le_t, n_le_f, mn_eq, mn_ne, mn_lt, mn_ge, mn_gt, mn_le, nm_eq, nm_ne, nm_lt, nm_ge, nm_gt, nm_le, n_gts_t, c_eq_refl, c_ne_refl, w_fold, w_2, wC_fold, lt_M, cond_true, cond_false, Bool.and_true, Bool.true_and, Bool.and_false, Bool.false_and, Bool.not_true, Bool.not_false, isZS_0, isZS_1, z1, z8, hz, hg, b2]
  · simp (disch := omega) only [↓Bool.cond_eq_ite, ↓reduceIte, Bool.false_eq_true, eq_self, n_lit, n_neg, n_add, n_mul, n_sub, n_subM, n_div, n_mod, n_addM, m_div, m_subn, n_tN, n_inS, n_eq_t, n_eq_f, n_ne_t, n_ne_f, n_lt_t, n_lt_f, n_ge_t, n_ge_f, n_gt_t, n_gt_f, n_le_t, n_le_f, mn_eq, mn_ne, mn_lt, mn_ge, mn_gt, mn_le, nm_eq, nm_ne, nm_lt, nm_ge, nm_gt, nm_le, n_gts_t, c_eq_refl, c_ne_refl, w_fold, w_2, wC_fold, lt_M, cond_true, cond_false, Bool.and_true, Bool.true_and, Bool.and_false, Bool.false_and, Bool.not_true, Bool.not_false, isZS_0, isZS_1, z1, z8, hz, hg, b2]
end TextF
