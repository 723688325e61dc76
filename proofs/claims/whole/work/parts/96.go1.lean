section Go1
variable {L : Nat} {xs : Nat → Int32} {C M : mM} {nc nw nb np nt now hm : Nat} {kd wa wb wd wl ws : Nat → Nat}
def rIx (L : Nat) (xs : Nat → Int32) (C M : mM) (nc nw nb np nt now hm : Nat) (kd wa wb wd wl ws : Nat → Nat) : Prop :=
  rP [0, 0] (M.1 [1, 1]) C M nc nw nb np nt now hm kd wa wb wd wl ws ∧ rIm C M nc nw nb np nt now hm ∧ rHi C M nb now kd ∧ rTx L xs C M nt ∧ rSh C M ∧ M.1 [1] 26 = oN 0
theorem sf_t {t t' : List Nat} {a b c d : Nat} (h : t ++ [a, b] = t' ++ [c, d]) : a = c ∧ b = d := by
  have := congrArg (fun l => l.reverse.take 2) h
  simp at this
  exact ⟨this.2, this.1⟩
theorem min_ok (hhm : hm ≤ 1000) (hn : now < 4320) (h : rIx L xs C M nc nw nb np nt now hm kd wa wb wd wl ws) :
    ∃ D C' M', kV L xs 16 [vr 2 [0, 0], vr 5 [4, 0]] C = some D ∧ kV L xs 4 [vr 1 [5, 0], vr 2 [0, 0]] D = some C' ∧ kV L xs 205 [vr 10 [1]] M = some M' ∧ rIx L xs C' M' nc nw nb np nt (now + 1) hm kd wa wb wd wl ws := by
  obtain ⟨hP, hIm, hHi, hTx, hSh, h26⟩ := h
  obtain ⟨C8, M8, a1, a2, a3, a4, a5⟩ := pass_ok (L := L) (xs := xs) (c := 0) (by omega) hhm hP hTx
  obtain ⟨C', M9, b1, b2, b3, b4, b5, b6, b7⟩ := note_ok (L := L) (xs := xs) hhm hn a3
  have hne : ∀ (t : List Nat) (p : List Nat), p.reverse.take 2 ≠ [0, 0] → ∀ u, p ≠ u ++ [0, 0] := fun t p hp u e => hp (by rw [e]; simp)
  have fC : ∀ q, (∀ u, q ≠ u ++ [0, 0]) → q ≠ [8, 4, 0] → q ≠ [0, 5, 0] → q ≠ [1, 5, 0] → C'.1 q = C.1 q := fun q h1 h2 h3 h4 => by
    rw [b3 q h3 h4, w_ne (show q ≠ [0, 0] from fun e => h1 [] e), a4.1 q h1 h2]
  have fM : ∀ k, k ≠ 1 → k ≠ 27 → k ≠ 37 → k ≠ 39 → k ≠ 41 → (k < 20 ∨ 25 < k) → M9.1 [k, 1] = M.1 [k, 1] := fun k h1 h2 h3 h4 h5 h6 => by
    rw [b5 [k, 1] (fun j j1 j2 e => by simp at e; omega), a5.1 k h1 h2 h3 h4 h5]
  have m5 : M9.1 [1, 1] 5 = oN now := by rw [b5 _ (fun j j1 j2 e => by simp at e; omega)]; exact a3.1.2.2.2.2.2.2.2.2.2.2.2.2.1
  have m26 : M8.1 [1] 26 = oN 0 := by rw [a5.2.2.1]; exact h26
  have m2 : M8.1 [1, 1] 2 = oN nb := a3.1.2.2.2.2.2.2.2.2.2.1
  have b40 : nb ≤ 40 := a3.1.2.2.2.2.2.2.2.2.2.2.2.2.2.2.2.1
  have hne1 : ∀ q, q ≠ [1, 1] → (wI M9 [1, 1] 5 (oN (now + 1))).1 q = M9.1 q := fun q hq => w_ne hq
  refine ⟨_, C', wI M9 [1, 1] 5 (oN (now + 1)), a1, b1, kV_of ?_, ?_, ?_, ?_, ?_, ?_, ?_⟩
  · rw [a2, h_205_50]
    simp (disch := omega) only [↓Bool.cond_eq_ite, ↓reduceIte, Bool.false_eq_true, eq_self, n_lit, n_neg, n_add, n_mul, n_sub, n_subM, n_div, n_mod, n_addM, m_div, m_subn, n_tN, n_inS, n_eq_t, n_eq_f, n_ne_t, n_ne_f, n_lt_t, n_lt_f, n_ge_t, n_ge_f, n_gt_t, n_gt_f, n_le_t, n_le_f, mn_eq, mn_ne, mn_lt, mn_ge, mn_gt, mn_le, nm_eq, nm_ne, nm_lt, nm_ge, nm_gt, nm_le, n_gts_t, c_eq_refl, c_ne_refl, w_fold, wC_fold, lt_M, cond_true, cond_false, Bool.and_true, Bool.true_and, Bool.and_false, Bool.false_and, Bool.not_true, Bool.not_false, isZS_0, isZS_1, m2, m26, b2, m5, Option.bind_some]
  · refine tick_ok (C := C8) (S := M8.1 [1, 1]) (M := M8) hn a3 ?_ ?_ ?_ ?_ ?_ ?_
    · rw [b3 _ (by simp) (by simp), w_at, if_pos ⟨rfl, rfl⟩]
    · intro j hj
      rw [b3 _ (by simp) (by simp), w_ne_k hj]
    · intro t i
      rw [b3 _ (fun e => by have := congrArg (fun l => l.reverse.take 2) e; simp at this) (fun e => by have := congrArg (fun l => l.reverse.take 2) e; simp at this), w_ne (fun e => by have := congrArg List.length e; simp at this)]
    · rw [w_at, if_pos ⟨rfl, rfl⟩]
    · intro i hi
      rw [w_ne_k hi, b5 _ (fun j j1 j2 e => by simp at e; omega)]
    · intro k k1 k2
      rw [hne1 _ (by simp; omega), b5 _ (fun j j1 j2 e => by simp at e; omega)]
  · refine rIm_congr (fun t => fC _ (fun u e => by have := sf_t e; omega) (fun e => by have := congrArg (fun l => l.reverse.take 2) e; simp at this) (fun e => by have := congrArg (fun l => l.reverse.take 2) e; simp at this) (fun e => by have := congrArg (fun l => l.reverse.take 2) e; simp at this)) ?_ ?_ (fun i _ => ?_) (mAg_of (fun k h1 h2 => ?_)) (Nat.le_refl _) (Nat.le_refl _) (Nat.le_refl _) (Nat.le_refl _) (Nat.le_refl _) (by omega) hIm
    · rw [fC [0] (fun u e => by have := congrArg List.length e; simp at this) (by simp) (by simp) (by simp)]
    · rw [hne1 _ (by simp), b5 _ (fun j j1 j2 e => by simp at e), a5.2.1]
    · rw [hne1 _ (by simp), fM 2 (by omega) (by omega) (by omega) (by omega) (by omega) (by omega)]
    · rw [hne1 _ (by simp; omega), fM k (by omega) (by omega) (by omega) (by omega) (by omega) (by omega)]
  · have h8 : rHi C8 M8 nb now kd := rHi_congr (a4.1 _ (hne [] _ (by simp)) (by simp)) (by rw [a4.2]) (a5.1 20 (by omega) (by omega) (by omega) (by omega) (by omega)) (a5.1 21 (by omega) (by omega) (by omega) (by omega) (by omega)) (a5.1 22 (by omega) (by omega) (by omega) (by omega) (by omega)) (a5.1 23 (by omega) (by omega) (by omega) (by omega) (by omega)) (a5.1 24 (by omega) (by omega) (by omega) (by omega) (by omega)) (a5.1 25 (by omega) (by omega) (by omega) (by omega) (by omega)) (fun b _ => by rw [a5.1 16 (by omega) (by omega) (by omega) (by omega) (by omega)]) hHi
    have h9 := b7 h8
    exact rHi_congr rfl rfl (hne1 _ (by simp)) (hne1 _ (by simp)) (hne1 _ (by simp)) (hne1 _ (by simp)) (hne1 _ (by simp)) (hne1 _ (by simp)) (fun b _ => by rw [hne1 _ (by simp)]) h9
  · exact rTx_congr (fC _ (hne [] _ (by simp)) (by simp) (by simp) (by simp)) (fC _ (hne [] _ (by simp)) (by simp) (by simp) (by simp)) (by rw [hne1 _ (by simp)]; exact fM 18 (by omega) (by omega) (by omega) (by omega) (by omega) (by omega)) (by rw [hne1 _ (by simp)]; exact fM 19 (by omega) (by omega) (by omega) (by omega) (by omega) (by omega)) hTx
  · have hx : ∀ k, 52 ≤ k → k ≤ 57 → (wI M9 [1, 1] 5 (oN (now + 1))).1 [k, 1] = M.1 [k, 1] := fun k h1 h2 => by rw [hne1 _ (by simp; omega)]; exact fM k (by omega) (by omega) (by omega) (by omega) (by omega) (by omega)
    refine rSh_congr (fun t => fC _ (fun u e => by have := sf_t e; omega) (fun e => by have := congrArg (fun l => l.reverse.take 2) e; simp at this) (fun e => by have := congrArg (fun l => l.reverse.take 2) e; simp at this) (fun e => by have := congrArg (fun l => l.reverse.take 2) e; simp at this)) (hx 52 (by omega) (by omega)) (hx 53 (by omega) (by omega)) (hx 54 (by omega) (by omega)) (hx 55 (by omega) (by omega)) (hx 56 (by omega) (by omega)) ?_ hSh
    show M9.2.1 [57, 1] = _
    rw [b6, a5.2.2.2]
  · rw [hne1 _ (by simp), b5 _ (fun j j1 j2 e => by simp at e), a5.2.2.1]
    exact h26
theorem most_ok {td : Nat} (hhm : hm ≤ 1000) (hP : rPt [0, 0] (M.1 [1, 1]) C M nc nw nb np nt now td hm kd wa wb wd wl ws) : ∃ p, p ≤ 100000 ∧ kI L xs 75 [vr 8 [6, 0, 0], vr 1000024 [6, 6, 0, 0]] C = some (oN p, C) ∧ kI L xs 200 [vr 10 [1]] M = some (oN p, M) := by
  obtain ⟨pr, pu, hwa⟩ := wa_of hhm hP
  have hwy := hwa.2.2.2.2.2.2
  have cW : C.1 [6, 0, 0] 0 = oN nw := hP.1.2.2.2.1
  have S1 : M.1 [1, 1] 1 = oN nw := hP.1.2.2.2.2.2.2.2.2.1
  have b24 := hwa.2.2.2.2.2.1
  exact ⟨maxN pr nw, maxN_le (fun w hw => (hwy w hw).1), s_75 cW b24 (fun w hw => ⟨(hwy w hw).1, (hwy w hw).2.2.1⟩), s_200 S1 b24 (fun w hw => ⟨(hwy w hw).1, (hwy w hw).2.2.2.2.1⟩)⟩
theorem go_loop (hhm : hm ≤ 1000) {n : Nat} (hn : n ≤ 120) : ∀ r i g C M now, i + r = n → now + r ≤ 4320 → g ≤ 100000 → rIx L xs C M nc nw nb np nt now hm kd wa wb wd wl ws →
    ∃ v C' M', run L xs 100 30 (34, [some (vr 9 [0]), some (vi (oN n)), some (vi (oN g)), some (vi (oN i))], [], C) = some (some (vi v), C') ∧ run L xs 174 36 (4, [some (vr 10 [1]), some (vi (oN n)), some (vi (oN g)), some (vi (oN i)), none], [], M) = some (some (vi v), M') ∧ rIx L xs C' M' nc nw nb np nt (now + r) hm kd wa wb wd wl ws := by
  intro r
  induction r with
  | zero =>
    intro i g C M now hi hnow hg h
    have : i = n := by omega
    subst this
    refine ⟨oN g, C, M, ?_, ?_, h⟩
    · rw [h_100_34]
      simp (disch := omega) only [↓Bool.cond_eq_ite, ↓reduceIte, Bool.false_eq_true, eq_self, n_lit, n_neg, n_add, n_mul, n_sub, n_subM, n_div, n_mod, n_addM, m_div, m_subn, n_tN, n_inS, n_eq_t, n_eq_f, n_ne_t, n_ne_f, n_lt_t, n_lt_f, n_ge_t, n_ge_f, n_gt_t, n_gt_f, n_le_t, n_le_f, mn_eq, mn_ne, mn_lt, mn_ge, mn_gt, mn_le, nm_eq, nm_ne, nm_lt, nm_ge, nm_gt, nm_le, n_gts_t, c_eq_refl, c_ne_refl, w_fold, w_2, wC_fold, lt_M, cond_true, cond_false, Bool.and_true, Bool.true_and, Bool.and_false, Bool.false_and, Bool.not_true, Bool.not_false, isZS_0, isZS_1]
    · rw [h_174_4]
      simp (disch := omega) only [↓Bool.cond_eq_ite, ↓reduceIte, Bool.false_eq_true, eq_self, n_lit, n_neg, n_add, n_mul, n_sub, n_subM, n_div, n_mod, n_addM, m_div, m_subn, n_tN, n_inS, n_eq_t, n_eq_f, n_ne_t, n_ne_f, n_lt_t, n_lt_f, n_ge_t, n_ge_f, n_gt_t, n_gt_f, n_le_t, n_le_f, mn_eq, mn_ne, mn_lt, mn_ge, mn_gt, mn_le, nm_eq, nm_ne, nm_lt, nm_ge, nm_gt, nm_le, n_gts_t, c_eq_refl, c_ne_refl, w_fold, w_2, wC_fold, lt_M, cond_true, cond_false, Bool.and_true, Bool.true_and, Bool.and_false, Bool.false_and, Bool.not_true, Bool.not_false, isZS_0, isZS_1]
  | succ r ih =>
    intro i g C M now hi hnow hg h
    obtain ⟨D, C1, M1, a1, a2, a3, a4⟩ := min_ok (L := L) (xs := xs) hhm (by omega) h
    obtain ⟨p, p1, p2, p3⟩ := most_ok (L := L) (xs := xs) (td := now + 1) hhm a4.1
    obtain ⟨v, C', M', k1, k2, k3⟩ := ih (i + 1) (max g p) C1 M1 (now + 1) (by omega) (by omega) (by omega) a4
    refine ⟨v, C', M', ?_, ?_, by rw [show now + (r + 1) = now + 1 + r by omega]; exact k3⟩
    · rw [h_100_34]
      simp (disch := omega) only [↓Bool.cond_eq_ite, ↓reduceIte, Bool.false_eq_true, eq_self, n_lit, n_neg, n_add, n_mul, n_sub, n_subM, n_div, n_mod, n_addM, m_div, m_subn, n_tN, n_inS, n_eq_t, n_eq_f, n_ne_t, n_ne_f, n_lt_t, n_lt_f, n_ge_t, n_ge_f, n_gt_t, n_gt_f, n_le_t, n_le_f, mn_eq, mn_ne, mn_lt, mn_ge, mn_gt, mn_le, nm_eq, nm_ne, nm_lt, nm_ge, nm_gt, nm_le, n_gts_t, c_eq_refl, c_ne_refl, w_fold, w_2, wC_fold, lt_M, cond_true, cond_false, Bool.and_true, Bool.true_and, Bool.and_false, Bool.false_and, Bool.not_true, Bool.not_false, isZS_0, isZS_1, a1, a2, p2, mx_if, Option.bind_some]
      exact k1
    · rw [h_174_4]
      by_cases hm : p ≤ g
      · rw [Nat.max_eq_left hm] at k2
        simp (disch := omega) only [↓Bool.cond_eq_ite, ↓reduceIte, Bool.false_eq_true, eq_self, n_lit, n_neg, n_add, n_mul, n_sub, n_subM, n_div, n_mod, n_addM, m_div, m_subn, n_tN, n_inS, n_eq_t, n_eq_f, n_ne_t, n_ne_f, n_lt_t, n_lt_f, n_ge_t, n_ge_f, n_gt_t, n_gt_f, n_le_t, n_le_f, mn_eq, mn_ne, mn_lt, mn_ge, mn_gt, mn_le, nm_eq, nm_ne, nm_lt, nm_ge, nm_gt, nm_le, n_gts_t, c_eq_refl, c_ne_refl, w_fold, w_2, wC_fold, lt_M, cond_true, cond_false, Bool.and_true, Bool.true_and, Bool.and_false, Bool.false_and, Bool.not_true, Bool.not_false, isZS_0, isZS_1, a3, p3, Option.bind_some]
        exact k2
      · rw [Nat.max_eq_right (by omega)] at k2
        simp (disch := omega) only [↓Bool.cond_eq_ite, ↓reduceIte, Bool.false_eq_true, eq_self, n_lit, n_neg, n_add, n_mul, n_sub, n_subM, n_div, n_mod, n_addM, m_div, m_subn, n_tN, n_inS, n_eq_t, n_eq_f, n_ne_t, n_ne_f, n_lt_t, n_lt_f, n_ge_t, n_ge_f, n_gt_t, n_gt_f, n_le_t, n_le_f, mn_eq, mn_ne, mn_lt, mn_ge, mn_gt, mn_le, nm_eq, nm_ne, nm_lt, nm_ge, nm_gt, nm_le, n_gts_t, c_eq_refl, c_ne_refl, w_fold, w_2, wC_fold, lt_M, cond_true, cond_false, Bool.and_true, Bool.true_and, Bool.and_false, Bool.false_and, Bool.not_true, Bool.not_false, isZS_0, isZS_1, a3, p3, Option.bind_some]
        exact k2
end Go1
