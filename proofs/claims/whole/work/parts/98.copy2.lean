section Copy2
variable {L : Nat} {xs : Nat → Int32} {C C' M : mM} {S : Nat → Int32} {pc qc nc nw nb np nt now hm : Nat} {kd wa wb wd wl ws : Nat → Nat}
def cpF (C C' : mM) (pc qc nc nw nb ng np : Nat) (na : Nat → Nat) : Prop :=
  C'.2 = C.2 ∧ (∀ z, (∀ t, z ≠ t ++ [pc, 0]) → C'.1 z = C.1 z) ∧ (∀ j, (j = 0 ∨ j = 1 ∨ j = 2 ∨ j = 9 ∨ j = 11 ∨ j = 13) → C'.1 [pc, 0] j = C.1 [qc, 0] j) ∧
  (∀ k i, (k = 3 ∨ k = 4 ∨ k = 5) → i < nc → C'.1 [k, pc, 0] i = C.1 [k, qc, 0] i) ∧
  (C'.1 [6, pc, 0] 0 = C.1 [6, qc, 0] 0 ∧ C'.1 [6, pc, 0] 11 = C.1 [6, qc, 0] 11 ∧ (∀ k w, (1 ≤ k ∧ k ≤ 7 ∨ k = 9) → w < nw → C'.1 [k, 6, pc, 0] w = C.1 [k, 6, qc, 0] w) ∧ (C.1 [6, qc, 0] 11 = oN 1 → ∀ i, i < 256 → C'.1 [12, 6, pc, 0] i = C.1 [12, 6, qc, 0] i)) ∧
  (∀ i, i < 24 → C'.1 [7, pc, 0] i = C.1 [7, qc, 0] i) ∧ (∀ i, i < 16 → C'.1 [8, pc, 0] i = C.1 [8, qc, 0] i) ∧
  (∀ b, b < nb → (∀ j, j < 18 → C'.1 [b, 10, pc, 0] j = C.1 [b, 10, qc, 0] j) ∧ C'.1 [18, b, 10, pc, 0] 0 = C.1 [18, b, 10, qc, 0] 0 ∧ ∀ k i, (k = 1 ∨ k = 2) → i < na b → C'.1 [k, 18, b, 10, pc, 0] i = C.1 [k, 18, b, 10, qc, 0] i) ∧
  (∀ i, i < ng → C'.1 [12, pc, 0] i = C.1 [12, qc, 0] i) ∧ ∀ i, i < np → C'.1 [14, pc, 0] i = C.1 [14, qc, 0] i
theorem rP_cp {na : Nat → Nat} (hna : ∀ b, b < nb → C.1 [18, b, 10, qc, 0] 0 = oN (na b) ∧ na b ≤ 8) (h : cpF C C' pc qc nc nw nb (cntG kd nb) np na) (hP : rP [qc, 0] S C M nc nw nb np nt now hm kd wa wb wd wl ws) : rP [pc, 0] S C' M nc nw nb np nt now hm kd wa wb wd wl ws := by
  obtain ⟨-, -, h1, h2, ⟨h3, h4, h5, h6⟩, h7, h8, h9, h10, h11⟩ := h
  obtain ⟨g1, g2, g3, g4, g5, g6, g7, g8, g9, g10⟩ := hP
  obtain ⟨cN, cT, cC, cW, cB, cG, cP, S0, S1, S2, S3, S4, S5, b16, b24, b40, b8, b20, b4320⟩ := g1
  refine ⟨⟨by rw [h1 0 (by omega)]; exact cN, by rw [h1 1 (by omega)]; exact cT, by rw [h1 2 (by omega)]; exact cC, by rw [h3]; exact cW, by rw [h1 9 (by omega)]; exact cB, by rw [h1 11 (by omega)]; exact cG, by rw [h1 13 (by omega)]; exact cP, S0, S1, S2, S3, S4, S5, b16, b24, b40, b8, b20, b4320⟩, ?_, ?_, ?_, ?_, ?_, ?_, ?_, ?_, ?_⟩
  · intro i hi
    rw [h2 3 i (by omega) hi, h2 4 i (by omega) hi, h2 5 i (by omega) hi]
    exact g2 i hi
  · intro w hw
    have := g3 w hw
    rw [h5 1 w (by omega) hw, h5 2 w (by omega) hw, h5 3 w (by omega) hw, h5 4 w (by omega) hw, h5 5 w (by omega) hw]
    exact this
  · intro w hw
    rw [h5 6 w (by omega) hw, h5 7 w (by omega) hw, h5 9 w (by omega) hw]
    exact g4 w hw
  · intro i hi
    rw [h7 i hi]; exact g5 i hi
  · intro i hi
    rw [h8 i hi]; exact g6 i hi
  · intro b hb
    obtain ⟨q1, q2, q3⟩ := h9 b hb
    obtain ⟨n1, n2⟩ := hna b hb
    obtain ⟨r1, r2, r3, r4, r5⟩ := g7 b hb
    refine ⟨?_, ?_, ?_, ?_, ?_⟩
    · unfold rBi at r1 ⊢
      rw [q1 0 (by omega), q1 1 (by omega), q1 7 (by omega), q1 8 (by omega), q1 16 (by omega), q1 17 (by omega)]
      exact r1
    · unfold rBp at r2 ⊢
      rw [q1 5 (by omega), q1 2 (by omega), q1 3 (by omega), q1 4 (by omega)]
      exact r2
    · unfold rBv at r3 ⊢
      rw [q1 6 (by omega), q1 9 (by omega), q1 10 (by omega), q1 11 (by omega), q1 13 (by omega), q1 14 (by omega), q1 15 (by omega)]
      exact r3
    · unfold rBt at r4 ⊢
      rw [q1 12 (by omega)]
      exact r4
    · obtain ⟨n, n8, a1, a2, a3⟩ := r5
      have : n = na b := (n_inj (by omega) (by omega)).mp (a1.symm.trans n1)
      refine ⟨n, n8, by rw [q2]; exact a1, a2, fun i hi => ?_⟩
      rw [q3 1 i (by omega) (by omega), q3 2 i (by omega) (by omega)]
      exact a3 i hi
  · intro b hb hk
    rw [h10 _ (cntG_lt kd hb hk)]
    exact g8 b hb hk
  · intro k hk
    rw [h11 k hk]
    exact g9 k hk
  · unfold rDi at g10 ⊢
    rw [h4]
    rcases g10 with e | ⟨e, g⟩
    · exact .inl e
    · refine .inr ⟨e, fun u v hu hv => ?_⟩
      rw [h6 e _ (by omega)]
      exact g u v hu hv
def cbJ (B D : mM) (pc qc k : Nat) (na : Nat → Nat) : Prop :=
  D.2 = B.2 ∧ (∀ z, (∀ b t, z ≠ t ++ [b, 10, pc, 0]) → D.1 z = B.1 z) ∧
  ∀ b, b < k → (∀ j, j < 18 → D.1 [b, 10, pc, 0] j = B.1 [b, 10, qc, 0] j) ∧ D.1 [18, b, 10, pc, 0] 0 = B.1 [18, b, 10, qc, 0] 0 ∧ ∀ k i, (k = 1 ∨ k = 2) → i < na b → D.1 [k, 18, b, 10, pc, 0] i = B.1 [k, 18, b, 10, qc, 0] i
theorem sf4 {t t' : List Nat} {a b c d a' b' c' d' : Nat} (h : t ++ [a, b, c, d] = t' ++ [a', b', c', d']) : a = a' ∧ c = c' := by
  have := congrArg (fun l => l.reverse.take 4) h
  simp at this
  exact ⟨this.2.2.2, this.2.1⟩
theorem cb_loop {B : mM} {na : Nat → Nat} (hpq : qc ≠ pc) (h9 : B.1 [pc, 0] 9 = oN nb) (h40 : nb ≤ 40) (hna : ∀ b, b < nb → B.1 [18, b, 10, qc, 0] 0 = oN (na b) ∧ na b ≤ 8) :
    ∀ r k D, k + r = nb → cbJ B D pc qc k na → ∃ D', run L xs 31 27 (126, [some (vr 2 [pc, 0]), some (vr 2 [qc, 0]), some (vi (oN k))], [], D) = run L xs 31 27 (126, [some (vr 2 [pc, 0]), some (vr 2 [qc, 0]), some (vi (oN nb))], [], D') ∧ cbJ B D' pc qc nb na := by
  intro r
  induction r with
  | zero =>
    intro k D hk hJ
    have : k = nb := by omega
    subst this
    exact ⟨D, rfl, hJ⟩
  | succ r ih =>
    intro k D hk hJ
    obtain ⟨j1, j2, j3⟩ := hJ
    obtain ⟨n1, n2⟩ := hna k (by omega)
    have dq : ∀ t, D.1 (t ++ [qc, 0]) = B.1 (t ++ [qc, 0]) := fun t => j2 _ (fun b u e => hpq (by
      have := congrArg (fun l => l.reverse.take 2) e
      simp at this
      exact this))
    have d9 : D.1 [pc, 0] 9 = oN nb := by rw [j2 _ (fun b u e => by have := congrArg List.length e; simp at this)]; exact h9
    have dq2 : ∀ b, D.1 [b, 10, qc, 0] = B.1 [b, 10, qc, 0] := fun b => dq [b, 10]
    have dq3 : ∀ a b, D.1 [a, b, 10, qc, 0] = B.1 [a, b, 10, qc, 0] := fun a b => dq [a, b, 10]
    have dq4 : ∀ a b c, D.1 [a, b, c, 10, qc, 0] = B.1 [a, b, c, 10, qc, 0] := fun a b c => dq [a, b, c, 10]
    have e0 : D.1 [18, k, 10, qc, 0] 0 = oN (na k) := by rw [dq3]; exact n1
    have kb := bc_ok (L := L) (xs := xs) [k, 10, pc, 0] [k, 10, qc, 0] D n2 e0 (by simp [hpq]) (by simp) (by simp) (by simp) (by simp)
    obtain ⟨D', k1, k2⟩ := ih (k + 1) (tcM (cbM D [k, 10, pc, 0] [k, 10, qc, 0]) [18, k, 10, pc, 0] [18, k, 10, qc, 0] (na k)) (by omega) ⟨j1, fun z hz => by
        have z0 : z ≠ [k, 10, pc, 0] := hz k []
        have z1 : z ≠ [18, k, 10, pc, 0] := hz k [18]
        have z2 : z ≠ [1, 18, k, 10, pc, 0] := hz k [1, 18]
        have z3 : z ≠ [2, 18, k, 10, pc, 0] := hz k [2, 18]
        unfold tcM
        rw [wC_ne z3, wC_ne z2, w_ne z1, cb_ne z0]
        exact j2 z hz, fun b hb => by
        by_cases e : b = k
        · subst e
          refine ⟨fun j hj => ?_, ?_, fun c i hc hi => ?_⟩
          · unfold tcM
            rw [wC_ne (by simp), wC_ne (by simp), w_ne (by simp), cb_at, if_pos ⟨rfl, hj⟩, dq2]
          · unfold tcM
            rw [wC_ne (by simp), wC_ne (by simp), w_at, if_pos ⟨rfl, rfl⟩, n1]
          · unfold tcM
            rcases hc with e | e <;> subst e
            · rw [wC_ne (by simp), wC_cp hi, w_ne (by simp), cb_ne (by simp), dq4]
            · rw [wC_cp hi, wC_ne (by simp), w_ne (by simp), cb_ne (by simp), dq4]
        · obtain ⟨x1, x2, x3⟩ := j3 b (by omega)
          refine ⟨fun j hj => ?_, ?_, fun c i hc hi => ?_⟩
          · unfold tcM
            rw [wC_ne (by simp), wC_ne (by simp), w_ne (by simp), cb_ne (by simp [e])]
            exact x1 j hj
          · unfold tcM
            rw [wC_ne (by simp), wC_ne (by simp), w_ne (by simp [e]), cb_ne (by simp)]
            exact x2
          · unfold tcM
            rw [wC_ne (by simp [e]), wC_ne (by simp [e]), w_ne (by simp), cb_ne (by simp)]
            exact x3 c i hc hi⟩
    refine ⟨D', ?_, k2⟩
    rw [h_31_126]
    simp (disch := omega) only [↓Bool.cond_eq_ite, ↓reduceIte, Bool.false_eq_true, eq_self, n_lit, n_neg, n_add, n_mul, n_sub, n_subM, n_div, n_mod, n_addM, m_div, m_subn, n_tN, n_inS, n_eq_t, n_eq_f, n_ne_t, n_ne_f, n_lt_t, n_lt_f, n_ge_t, n_ge_f, n_gt_t, n_gt_f, n_le_t, n_le_f, mn_eq, mn_ne, mn_lt, mn_ge, mn_gt, mn_le, nm_eq, nm_ne, nm_lt, nm_ge, nm_gt, nm_le, n_gts_t, c_eq_refl, c_ne_refl, w_fold, w_2, wC_fold, lt_M, cond_true, cond_false, Bool.and_true, Bool.true_and, Bool.and_false, Bool.false_and, Bool.not_true, Bool.not_false, isZS_0, isZS_1, d9, kb, Option.bind_some]
    exact k1
end Copy2
