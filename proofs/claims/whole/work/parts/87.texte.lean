section TextE
variable {L : Nat} {xs : Nat → Int32} {C M : mM} {n : Nat} {β : Nat → Nat}
theorem wI_stA {p : List Nat} {k : Nat} {v : Int32} : wI C p k v = stA C p (upd (C.1 p) k v) := rfl
theorem stA_ids {p q : List Nat} {G : Nat → Int32} (h : q ≠ p) : stA (stA C p G) q (C.1 q) = stA C p G := by
  have := stA_id (C := stA C p G) (p := q)
  rw [stA_ne h] at this
  exact this
theorem pM_of {a d vn sn : Nat} {b : Int32} : wI (wI (wI (wI (wI M [1] 32 (oN a)) [1] 33 b) [1] 34 (oN d)) [1] 38 (oN vn)) [1] 40 (oN sn) = pM M a b d vn (M.1 [37, 1]) sn (M.1 [39, 1]) := by
  unfold pM
  rw [stA_ids (by simp)]
  rw [stA_ids (by simp)]
  rw [wI_stA (C := M), stA_w, stA_w, stA_w, stA_w]
  rfl
theorem tM_of {a m : Nat} {fl : Int32} : wI (wI (wI C [4, 0] 6 (oN a)) [4, 0] 7 fl) [4, 0] 3 (oN m) = tM C a fl m (C.1 [2, 4, 0]) := by
  unfold tM
  rw [stA_ids (by simp), wI_stA (C := C), stA_w, stA_w]
  congr 1
  funext j
  simp only [upd_at]
  by_cases h3 : j = 3
  · subst h3; rfl
  · by_cases h6 : j = 6
    · subst h6; rfl
    · by_cases h7 : j = 7
      · subst h7; rfl
      · simp [h3, h6, h7]
def tC (C : mM) (q : List Nat) (n : Nat) : mM := wI (wC C q [4, 4, 0] 0 0 n) [4, 0] 5 (oN n)
theorem tC_R {q : List Nat} (hq : ∀ i, i < n → C.1 q i = bC β i) : cR (tC C q n) n β := by
  unfold tC
  refine ⟨by rw [w_at]; simp, fun i hi => ?_⟩
  rw [w_ne (by simp), wC_at, if_pos ⟨rfl, by omega, by omega⟩, ← hq i hi, show 0 + (i - 0) = i by omega]
theorem tC_2 {q : List Nat} : (tC C q n).1 [2, 4, 0] = C.1 [2, 4, 0] := by
  unfold tC
  rw [w_ne (by simp), wC_fun, if_neg (by simp)]
theorem s_47 {q : List Nat} (hn : n ≤ 80) {mem : mM} (h : K56 L xs 0 (tM (tC C q n) 0 (oM 4) 0 (C.1 [2, 4, 0])) = some (none, mem)) (h5 : mem.1 [4, 0] 5 = oN n) : (mem.1 [4, 0] 7 = oM 4 → ∀ j, j ≤ 80 → mem.1 [4, 0] 6 = oN j → kI L xs 47 [vr 5 [4, 0], vr 1000080 q, vi (oN n)] C = if n ≤ j then some (oM 4, mem) else some (oN j, wI mem [4, 0] 7 (oN j))) ∧
    (∀ f, f ≤ 80 → mem.1 [4, 0] 7 = oN f → kI L xs 47 [vr 5 [4, 0], vr 1000080 q, vi (oN n)] C = some (oN f, mem)) := by
  have hc : cpyS (q, 1000080) ([4, 4, 0], 1000080) C.1 (oN 0) (oN 0) (oN n) = true := cpy_t (by decide) (by decide) (by show 0 + n ≤ 80; omega) (by show 0 + n ≤ 80; omega) (by omega) (by omega)
  have h := kV_c (h : call _ _ _ _ _ = _)
  have e := tM_of (C := tC C q n) (a := 0) (m := 0) (fl := oM 4)
  rw [tC_2] at e
  unfold tC at e h
  constructor
  · intro h7 j hj h6
    by_cases hjn : n ≤ j
    · rw [if_pos hjn]
      refine kI_of ?_
      rw [e_47]
      simp (disch := omega) only [↓Bool.cond_eq_ite, ↓reduceIte, Bool.false_eq_true, eq_self, n_lit, n_neg, n_add, n_mul, n_sub, n_subM, n_div, n_mod, n_addM, m_div, m_subn, n_tN, n_inS, n_eq_t, n_eq_f, n_ne_t, n_ne_f, n_lt_t, n_lt_f, n_ge_t, n_ge_f, n_gt_t, n_gt_f, n_le_t, n_le_f, mn_eq, mn_ne, mn_lt, mn_ge, mn_gt, mn_le, nm_eq, nm_ne, nm_lt, nm_ge, nm_gt, nm_le, n_gts_t, c_eq_refl, c_ne_refl, w_fold, w_2, wC_fold, lt_M, cond_true, cond_false, Bool.and_true, Bool.true_and, Bool.and_false, Bool.false_and, Bool.not_true, Bool.not_false, isZS_0, isZS_1, hc, e, rk_56, h, h7, h6, h5, Option.bind_some]
    · rw [if_neg hjn]
      refine kI_of ?_
      rw [e_47]
      simp (disch := omega) only [↓Bool.cond_eq_ite, ↓reduceIte, Bool.false_eq_true, eq_self, n_lit, n_neg, n_add, n_mul, n_sub, n_subM, n_div, n_mod, n_addM, m_div, m_subn, n_tN, n_inS, n_eq_t, n_eq_f, n_ne_t, n_ne_f, n_lt_t, n_lt_f, n_ge_t, n_ge_f, n_gt_t, n_gt_f, n_le_t, n_le_f, mn_eq, mn_ne, mn_lt, mn_ge, mn_gt, mn_le, nm_eq, nm_ne, nm_lt, nm_ge, nm_gt, nm_le, n_gts_t, c_eq_refl, c_ne_refl, w_fold, w_2, wC_fold, lt_M, cond_true, cond_false, Bool.and_true, Bool.true_and, Bool.and_false, Bool.false_and, Bool.not_true, Bool.not_false, isZS_0, isZS_1, hc, e, rk_56, h, h7, h6, h5, Option.bind_some]
      rw [w_at]; simp
  · intro f hf h7
    refine kI_of ?_
    rw [e_47]
    simp (disch := omega) only [↓Bool.cond_eq_ite, ↓reduceIte, Bool.false_eq_true, eq_self, n_lit, n_neg, n_add, n_mul, n_sub, n_subM, n_div, n_mod, n_addM, m_div, m_subn, n_tN, n_inS, n_eq_t, n_eq_f, n_ne_t, n_ne_f, n_lt_t, n_lt_f, n_ge_t, n_ge_f, n_gt_t, n_gt_f, n_le_t, n_le_f, mn_eq, mn_ne, mn_lt, mn_ge, mn_gt, mn_le, nm_eq, nm_ne, nm_lt, nm_ge, nm_gt, nm_le, n_gts_t, c_eq_refl, c_ne_refl, w_fold, w_2, wC_fold, lt_M, cond_true, cond_false, Bool.and_true, Bool.true_and, Bool.and_false, Bool.false_and, Bool.not_true, Bool.not_false, isZS_0, isZS_1, hc, e, rk_56, h, h7, Option.bind_some]
theorem s_213 : call L xs 213 [vr 10 [1]] M = k27 L xs 1 (pM M 0 (oN 0) 0 0 (M.1 [37, 1]) 0 (M.1 [39, 1])) := by
  rw [e_213]
  unfold k27
  rw [← pM_of]
  rfl
theorem parse_ok (hβ : ∀ i, i < n → β i ≤ 255) (hn : n ≤ 80) :
    (∃ f, f ≤ n ∧ (∀ C q, (∀ i, i < n → C.1 q i = bC β i) → ∃ j m' F', kI L xs 47 [vr 5 [4, 0], vr 1000080 q, vi (oN n)] C = some (oN f, tM (tC C q n) j (oN f) m' F')) ∧
      (∀ M Fd, mTx M n (bM β) → mFd L xs M Fd → ∃ d vn V sn S, kI L xs 213 [vr 10 [1]] M = some (oN 0, pM M f (oN 1) d vn V sn S))) ∨
    (∃ (cs : List Nat) (v : (Nat → Int32) → Bool), cs.length ≤ n ∧ okc cs ∧ (∀ F s, ev F cs s = b2 (v F) :: s) ∧ (∀ C q, (∀ i, i < n → C.1 q i = bC β i) → kI L xs 47 [vr 5 [4, 0], vr 1000080 q, vi (oN n)] C = some (oM 4, tM (tC C q n) n (oM 4) cs.length (putL (C.1 [2, 4, 0]) 0 cs))) ∧
      (∀ M Fd, mTx M n (bM β) → mFd L xs M Fd → ∃ a d vn V sn S, kI L xs 213 [vr 10 [1]] M = some (b2 (v Fd), pM M a (oN 0) d vn V sn S))) := by
  have hP : ∀ S, Po 0 S := fun S => by
    unfold Po tp
    rw [if_pos rfl]
    exact ⟨by decide, by decide, by decide⟩
  have c5 : ∀ C q (a m : Nat) (fl : Int32) (F : Nat → Int32), (tM (tC C q n) a fl m F).1 [4, 0] 5 = oN n := fun C q a m fl F => by
    rw [tM_5]
    unfold tC
    rw [w_at]; simp
  rcases or_ok (L := L) (xs := xs) hβ hn n 0 0 (by omega) (by omega) (by omega) with ⟨f, q1, q2, q3, q4⟩ | ⟨j, cs, v, q1, q2, q3, q4, q5, q6, q7, q8⟩
  · refine .inl ⟨f, q2, ?_, ?_⟩
    · intro C q hq
      obtain ⟨j, m', F', g⟩ := q3 (tC C q n) 0 (C.1 [2, 4, 0]) (tC_R hq) (by omega)
      exact ⟨j, m', F', (s_47 hn g (c5 ..)).2 f (by omega) tM_7⟩
    · intro M Fd hM hFd
      obtain ⟨d', vn', V', sn', S', g⟩ := q4 M Fd 0 (M.1 [37, 1]) 0 (M.1 [39, 1]) hM hFd (by omega) (by omega) (hP _)
      exact ⟨d', vn', V', sn', S', kI_of (by rw [s_213]; exact g)⟩
  · have cls : ∀ C q, (∀ i, i < n → C.1 q i = bC β i) → kI L xs 47 [vr 5 [4, 0], vr 1000080 q, vi (oN n)] C = if n ≤ j then some (oM 4, tM (tC C q n) j (oM 4) (0 + cs.length) (putL (C.1 [2, 4, 0]) 0 cs)) else some (oN j, wI (tM (tC C q n) j (oM 4) (0 + cs.length) (putL (C.1 [2, 4, 0]) 0 cs)) [4, 0] 7 (oN j)) := fun C q hq =>
      (s_47 hn (q6 (tC C q n) 0 (C.1 [2, 4, 0]) (tC_R hq) (by omega)) (c5 ..)).1 tM_7 j (by omega) tM_6
    by_cases hj : n ≤ j
    · have hj' : j = n := by omega
      subst hj'
      refine .inr ⟨cs, v, by omega, q4, q5, ?_, ?_⟩
      · intro C q hq
        rw [cls C q hq, if_pos hj, Nat.zero_add]
      · intro M Fd hM hFd
        obtain ⟨x1, X1, x2, X2, V', S', g1, ⟨Y, g2, g2'⟩, g3, g4, g5⟩ := q8 M Fd 0 (M.1 [37, 1]) 0 (M.1 [39, 1]) hM hFd (by omega) (by omega) (hP _)
        have := (l_end hM (by omega) (by omega) g2 g2' (by omega)).2 rfl _ g3
        exact ⟨_, _, _, _, _, _, kI_of (by rw [s_213, g1]; exact this)⟩
    · refine .inl ⟨j, q2, ?_, ?_⟩
      · intro C q hq
        rw [cls C q hq, if_neg hj, tM_w7]
        exact ⟨_, _, _, rfl⟩
      · intro M Fd hM hFd
        obtain ⟨x1, X1, x2, X2, V', S', g1, ⟨Y, g2, g2'⟩, g3, g4, g5⟩ := q8 M Fd 0 (M.1 [37, 1]) 0 (M.1 [39, 1]) hM hFd (by omega) (by omega) (hP _)
        have hq := q7 (by omega)
        have := l_oth hM hβ hn (by omega) hq.1 hq.2 (sn := 0) (by omega) (.inr (by unfold tp; rw [if_pos rfl]; decide)) g2 g2'
        exact ⟨_, _, _, _, _, kI_of (by rw [s_213, g1]; exact this)⟩
end TextE
