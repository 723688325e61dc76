section Round5
variable {L : Nat} {xs : Nat → Int32} {C C' M M' : mM} {h : Nat → Nat} {k g : Nat} {hm : Nat} {nc nw nb np nt now : Nat} {kd wa wb wd wl ws : Nat → Nat}
theorem grp_at : ∀ {n i : Nat}, i < cntG kd n → ∃ b, b < n ∧ kd b = 0 ∧ cntG kd b = i
  | 0, _, h => absurd h (Nat.not_lt_zero _)
  | n + 1, i, h => by
    by_cases hk : kd n = 0
    · rw [cntG_t hk] at h
      by_cases e : i = cntG kd n
      · exact ⟨n, by omega, hk, e.symm⟩
      · obtain ⟨b, b1, b2, b3⟩ := grp_at (n := n) (i := i) (by omega)
        exact ⟨b, by omega, b2, b3⟩
    · rw [cntG_f hk] at h
      obtain ⟨b, b1, b2, b3⟩ := grp_at (n := n) (i := i) h
      exact ⟨b, by omega, b2, b3⟩
theorem cntG_inj {a b : Nat} (ha : kd a = 0) (hb : kd b = 0) (h : cntG kd a = cntG kd b) : a = b := by
  by_cases h1 : a < b
  · have := cntG_lt kd h1 ha; omega
  · by_cases h2 : b < a
    · have := cntG_lt kd h2 hb; omega
    · omega
def hdI (C M : mM) (nb : Nat) (kd : Nat → Nat) (h gb : Nat → Nat) : Prop := ∀ i, i < cntG kd nb → gb i < nb ∧ kd (gb i) = 0 ∧ cntG kd (gb i) = i ∧ h i ≤ 1000 ∧ C.1 [12, 0, 0] i = oN (gb i) ∧ C.1 [gb i, 10, 0, 0] 6 = oN (h i) ∧ M.1 [1, 1] (200 + 16 * gb i + 3) = oN (h i)
theorem hd_of (hhm : hm ≤ 1000) (hP : rP [0, 0] (M.1 [1, 1]) C M nc nw nb np nt now hm kd wa wb wd wl ws) : ∃ h gb, hdI C M nb kd h gb := by
  have h1 : ∀ i, ∃ hd b : Nat, i < cntG kd nb → b < nb ∧ kd b = 0 ∧ cntG kd b = i ∧ hd ≤ 1000 ∧ C.1 [12, 0, 0] i = oN b ∧ C.1 [b, 10, 0, 0] 6 = oN hd ∧ M.1 [1, 1] (200 + 16 * b + 3) = oN hd := fun i => by
    by_cases hi : i < cntG kd nb
    · obtain ⟨b, b1, b2, b3⟩ := grp_at hi
      obtain ⟨-, -, ⟨⟨hd, d1, d2, d3⟩, -⟩, -⟩ := hP.2.2.2.2.2.2.1 b b1
      have := hP.2.2.2.2.2.2.2.1 b b1 b2
      rw [b3] at this
      exact ⟨hd, b, fun _ => ⟨b1, b2, b3, by omega, this, d2, d3⟩⟩
    · exact ⟨0, 0, fun q => absurd q hi⟩
  obtain ⟨h, h2⟩ := (Classical.skolem (p := fun i hd => _)).mp h1
  obtain ⟨gb, h3⟩ := (Classical.skolem (p := fun i b => _)).mp h2
  exact ⟨h, gb, h3⟩
variable {gb : Nat → Nat}
theorem s_38 (hI : hdI C M nb kd h gb) (h40 : nb ≤ 40) (hk : k ≤ 5) (hkg : k ≤ cntG kd nb) (hg : g ≤ 2000) : ∃ C', kV L xs 38 [vr 3 [8, 0], vr 2 [0, 0], vi (oN k), vi (oN g)] C = some C' ∧ rC C' h k g ∧ (∀ q, q ≠ [8, 0] → q ≠ [2, 8, 0] → C'.1 q = C.1 q) ∧ C'.2 = C.2 := by
  obtain ⟨C1, hC1⟩ : ∃ C1, C1 = wI (wI C [8, 0] 0 (oN k)) [8, 0] 1 (oN g) := ⟨_, rfl⟩
  have f1 : ∀ q, q ≠ [8, 0] → C1.1 q = C.1 q := fun q h => by rw [hC1, w_ne h, w_ne h]
  have hle := cntG_le kd nb
  have key : ∀ r i H, i + r = k → (∀ l, l < i → H l = oN (h l)) → ∃ H', (∀ l, l < k → H' l = oN (h l)) ∧ run L xs 38 26 (13, [some (vr 3 [8, 0]), some (vr 2 [0, 0]), some (vi (oN k)), none, some (vi (oN i))], [], stA C1 [2, 8, 0] H) = some (none, stA C1 [2, 8, 0] H') := by
    have z12 : ∀ H, (stA C1 [2, 8, 0] H).1 [12, 0, 0] = C.1 [12, 0, 0] := fun H => by rw [stA_ne (by simp), f1 _ (by simp)]
    have zb : ∀ H b, (stA C1 [2, 8, 0] H).1 [b, 10, 0, 0] = C.1 [b, 10, 0, 0] := fun H b => by rw [stA_ne (by simp), f1 _ (by simp)]
    intro r
    induction r with
    | zero =>
      intro i H hi hH
      have : i = k := by omega
      subst this
      refine ⟨H, hH, ?_⟩
      rw [h_38_13]
      simp (disch := omega) only [↓Bool.cond_eq_ite, ↓reduceIte, Bool.false_eq_true, eq_self, n_lit, n_neg, n_add, n_mul, n_sub, n_subM, n_div, n_mod, n_addM, m_div, m_subn, n_tN, n_inS, n_eq_t, n_eq_f, n_ne_t, n_ne_f, n_lt_t, n_lt_f, n_ge_t, n_ge_f, n_gt_t, n_gt_f, n_le_t, n_le_f, mn_eq, mn_ne, mn_lt, mn_ge, mn_gt, mn_le, nm_eq, nm_ne, nm_lt, nm_ge, nm_gt, nm_le, n_gts_t, c_eq_refl, c_ne_refl, w_fold, w_2, wC_fold, lt_M, cond_true, cond_false, Bool.and_true, Bool.true_and, Bool.and_false, Bool.false_and, Bool.not_true, Bool.not_false, isZS_0, isZS_1]
    | succ r ih =>
      intro i H hi hH
      obtain ⟨b1, b2, b3, b4, b5, b6, b7⟩ := hI i (by omega)
      obtain ⟨H', y1, y2⟩ := ih (i + 1) (upd H i (oN (h i))) (by omega) (fun l hl => by
        by_cases e : l = i
        · subst e; rw [upd_eq]
        · rw [upd_ne e]; exact hH l (by omega))
      refine ⟨H', y1, ?_⟩
      rw [h_38_13]
      simp (disch := omega) only [↓lt_stA, ↓Bool.cond_eq_ite, ↓reduceIte, Bool.false_eq_true, eq_self, n_lit, n_neg, n_add, n_mul, n_sub, n_subM, n_div, n_mod, n_addM, m_div, m_subn, n_tN, n_inS, n_eq_t, n_eq_f, n_ne_t, n_ne_f, n_lt_t, n_lt_f, n_ge_t, n_ge_f, n_gt_t, n_gt_f, n_le_t, n_le_f, mn_eq, mn_ne, mn_lt, mn_ge, mn_gt, mn_le, nm_eq, nm_ne, nm_lt, nm_ge, nm_gt, nm_le, n_gts_t, c_eq_refl, c_ne_refl, w_fold, w_2, wC_fold, lt_M, cond_true, cond_false, Bool.and_true, Bool.true_and, Bool.and_false, Bool.false_and, Bool.not_true, Bool.not_false, isZS_0, isZS_1, z12, b5, zb, b6, stA_same, stA_w, stA_u]
      exact y2
  obtain ⟨H', y1, y2⟩ := key k 0 (C1.1 [2, 8, 0]) (by omega) (fun l hl => by omega)
  rw [stA_id] at y2
  refine ⟨stA C1 [2, 8, 0] H', kV_of ?_, ⟨hk, hg, ?_, ?_, fun i hi => ⟨(hI i (by omega)).2.2.2.1, by rw [stA_same]; exact y1 i hi⟩⟩, fun q h1 h2 => by rw [stA_ne h2, f1 q h1], ?_⟩
  · rw [e_38]
    simp (disch := omega) only [↓Bool.cond_eq_ite, ↓reduceIte, Bool.false_eq_true, eq_self, n_lit, n_neg, n_add, n_mul, n_sub, n_subM, n_div, n_mod, n_addM, m_div, m_subn, n_tN, n_inS, n_eq_t, n_eq_f, n_ne_t, n_ne_f, n_lt_t, n_lt_f, n_ge_t, n_ge_f, n_gt_t, n_gt_f, n_le_t, n_le_f, mn_eq, mn_ne, mn_lt, mn_ge, mn_gt, mn_le, nm_eq, nm_ne, nm_lt, nm_ge, nm_gt, nm_le, n_gts_t, c_eq_refl, c_ne_refl, w_fold, wC_fold, lt_M, cond_true, cond_false, Bool.and_true, Bool.true_and, Bool.and_false, Bool.false_and, Bool.not_true, Bool.not_false, isZS_0, isZS_1, ← hC1]
    exact y2
  · rw [stA_ne (by simp), hC1, w_ne_k (by omega), w_at, if_pos ⟨rfl, rfl⟩]
  · rw [stA_ne (by simp), hC1, w_at, if_pos ⟨rfl, rfl⟩]
  · show C1.2 = C.2
    rw [hC1]; rfl
theorem s_168 (hI : hdI C M nb kd h gb) (hK : mKd M nb kd) (hk : k ≤ 5) (hkg : k ≤ cntG kd nb) (hg : g ≤ 2000) : ∃ M', kV L xs 168 [vr 10 [1], vi (oN k)] M = some M' ∧ rM M' h k g ∧ (∀ q, q ≠ [49, 1] → M'.1 q = M.1 q) ∧ M'.2 = M.2 := by
  obtain ⟨S2, h40, hkd⟩ := hK
  have z1 : ∀ H, (stA M [49, 1] H).1 [1, 1] = M.1 [1, 1] := fun H => stA_ne (by simp)
  have z11 : ∀ H, (stA M [49, 1] H).1 [11, 1] = M.1 [11, 1] := fun H => stA_ne (by simp)
  have key : ∀ r b H, b + r = nb → cntG kd b ≤ k → (∀ l, l < cntG kd b → H l = oN (h l)) → ∃ H', (∀ l, l < k → H' l = oN (h l)) ∧ run L xs 168 26 (4, [some (vr 10 [1]), some (vi (oN k)), some (vi (oN (cntG kd b))), some (vi (oN b))], [], stA M [49, 1] H) = some (none, stA M [49, 1] H') := by
    intro r
    induction r with
    | zero =>
      intro b H hb hc hH
      have : b = nb := by omega
      subst this
      refine ⟨H, fun l hl => hH l (by omega), ?_⟩
      rw [h_168_4]
      simp (disch := omega) only [↓Bool.cond_eq_ite, ↓reduceIte, Bool.false_eq_true, eq_self, n_lit, n_neg, n_add, n_mul, n_sub, n_subM, n_div, n_mod, n_addM, m_div, m_subn, n_tN, n_inS, n_eq_t, n_eq_f, n_ne_t, n_ne_f, n_lt_t, n_lt_f, n_ge_t, n_ge_f, n_gt_t, n_gt_f, n_le_t, n_le_f, mn_eq, mn_ne, mn_lt, mn_ge, mn_gt, mn_le, nm_eq, nm_ne, nm_lt, nm_ge, nm_gt, nm_le, n_gts_t, c_eq_refl, c_ne_refl, w_fold, w_2, wC_fold, lt_M, cond_true, cond_false, Bool.and_true, Bool.true_and, Bool.and_false, Bool.false_and, Bool.not_true, Bool.not_false, isZS_0, isZS_1, z1, S2]
    | succ r ih =>
      intro b H hb hc hH
      by_cases hck : cntG kd b = k
      · refine ⟨H, fun l hl => hH l (by omega), ?_⟩
        rw [h_168_4]
        simp (disch := omega) only [↓Bool.cond_eq_ite, ↓reduceIte, Bool.false_eq_true, eq_self, n_lit, n_neg, n_add, n_mul, n_sub, n_subM, n_div, n_mod, n_addM, m_div, m_subn, n_tN, n_inS, n_eq_t, n_eq_f, n_ne_t, n_ne_f, n_lt_t, n_lt_f, n_ge_t, n_ge_f, n_gt_t, n_gt_f, n_le_t, n_le_f, mn_eq, mn_ne, mn_lt, mn_ge, mn_gt, mn_le, nm_eq, nm_ne, nm_lt, nm_ge, nm_gt, nm_le, n_gts_t, c_eq_refl, c_ne_refl, w_fold, w_2, wC_fold, lt_M, cond_true, cond_false, Bool.and_true, Bool.true_and, Bool.and_false, Bool.false_and, Bool.not_true, Bool.not_false, isZS_0, isZS_1, z1, S2]
      · obtain ⟨k5, k11⟩ := hkd b (by omega)
        by_cases h0 : kd b = 0
        · have hlt := cntG_lt kd (show b < nb by omega) h0
          obtain ⟨b1, b2, b3, b4, b5, b6, b7⟩ := hI (cntG kd b) hlt
          have eb := cntG_inj b2 h0 b3
          rw [eb] at b7
          have ec := cntG_t (n := b) h0
          obtain ⟨H', y1, y2⟩ := ih (b + 1) (upd H (cntG kd b) (oN (h (cntG kd b)))) (by omega) (by omega) (fun l hl => by
            by_cases e : l = cntG kd b
            · subst e; rw [upd_eq]
            · rw [upd_ne e]; exact hH l (by omega))
          rw [ec] at y2
          refine ⟨H', y1, ?_⟩
          rw [h0] at k11
          rw [h_168_4]
          simp (disch := omega) only [↓lt_stA, ↓Bool.cond_eq_ite, ↓reduceIte, Bool.false_eq_true, eq_self, n_lit, n_neg, n_add, n_mul, n_sub, n_subM, n_div, n_mod, n_addM, m_div, m_subn, n_tN, n_inS, n_eq_t, n_eq_f, n_ne_t, n_ne_f, n_lt_t, n_lt_f, n_ge_t, n_ge_f, n_gt_t, n_gt_f, n_le_t, n_le_f, mn_eq, mn_ne, mn_lt, mn_ge, mn_gt, mn_le, nm_eq, nm_ne, nm_lt, nm_ge, nm_gt, nm_le, n_gts_t, c_eq_refl, c_ne_refl, w_fold, w_2, wC_fold, lt_M, cond_true, cond_false, Bool.and_true, Bool.true_and, Bool.and_false, Bool.false_and, Bool.not_true, Bool.not_false, isZS_0, isZS_1, z1, z11, S2, k11, b7, stA_same, stA_w, stA_u]
          exact y2
        · have ec := cntG_f (n := b) h0
          obtain ⟨H', y1, y2⟩ := ih (b + 1) H (by omega) (by omega) (fun l hl => hH l (by omega))
          rw [ec] at y2
          refine ⟨H', y1, ?_⟩
          rw [h_168_4]
          simp (disch := omega) only [↓Bool.cond_eq_ite, ↓reduceIte, Bool.false_eq_true, eq_self, n_lit, n_neg, n_add, n_mul, n_sub, n_subM, n_div, n_mod, n_addM, m_div, m_subn, n_tN, n_inS, n_eq_t, n_eq_f, n_ne_t, n_ne_f, n_lt_t, n_lt_f, n_ge_t, n_ge_f, n_gt_t, n_gt_f, n_le_t, n_le_f, mn_eq, mn_ne, mn_lt, mn_ge, mn_gt, mn_le, nm_eq, nm_ne, nm_lt, nm_ge, nm_gt, nm_le, n_gts_t, c_eq_refl, c_ne_refl, w_fold, w_2, wC_fold, lt_M, cond_true, cond_false, Bool.and_true, Bool.true_and, Bool.and_false, Bool.false_and, Bool.not_true, Bool.not_false, isZS_0, isZS_1, z1, z11, S2, k11]
          exact y2
  obtain ⟨H', y1, y2⟩ := key nb 0 (M.1 [49, 1]) (by omega) (Nat.zero_le _) (fun l hl => absurd hl (Nat.not_lt_zero _))
  rw [stA_id] at y2
  refine ⟨stA M [49, 1] H', kV_of ?_, ⟨hk, hg, fun i hi => ⟨(hI i (by omega)).2.2.2.1, by rw [stA_same]; exact y1 i hi⟩⟩, fun q h => stA_ne h, rfl⟩
  rw [e_168]
  exact y2
theorem fr_ok (hI : hdI C M nb kd h gb) (hK : mKd M nb kd) (hk : k ≤ 5) (hkg : k ≤ cntG kd nb) (hg : g ≤ 2000) : ∃ M' o, kI L xs 169 [vr 10 [1], vi (oN k), vi (oN g)] M = some (bst o, M') ∧ wJ h k g (6 ^ k) (M'.1 [51, 1]) o ∧ (∀ q, q ≠ [49, 1] → q ≠ [50, 1] → q ≠ [51, 1] → M'.1 q = M.1 q) ∧ M'.2 = M.2 := by
  obtain ⟨M1, a1, a2, a3, a4⟩ := s_168 (L := L) (xs := xs) hI hK hk hkg hg
  have pw : ∀ r i, i + r = k → run L xs 169 27 (13, [some (vr 10 [1]), some (vi (oN k)), some (vi (oN g)), some (vi (oM 1)), some (vi (oN (6 ^ i))), some (vi (oN i)), none, none, none], [], M1) = run L xs 169 27 (35, [some (vr 10 [1]), some (vi (oN k)), some (vi (oN g)), some (vi (oM 1)), some (vi (oN (6 ^ k))), some (vi (oN 0)), none, none, none], [], M1) := by
    intro r
    induction r with
    | zero =>
      intro i hi
      have : i = k := by omega
      subst this
      rw [h_169_13]
      simp (disch := omega) only [↓Bool.cond_eq_ite, ↓reduceIte, Bool.false_eq_true, eq_self, n_lit, n_neg, n_add, n_mul, n_sub, n_subM, n_div, n_mod, n_addM, m_div, m_subn, n_tN, n_inS, n_eq_t, n_eq_f, n_ne_t, n_ne_f, n_lt_t, n_lt_f, n_ge_t, n_ge_f, n_gt_t, n_gt_f, n_le_t, n_le_f, mn_eq, mn_ne, mn_lt, mn_ge, mn_gt, mn_le, nm_eq, nm_ne, nm_lt, nm_ge, nm_gt, nm_le, n_gts_t, c_eq_refl, c_ne_refl, w_fold, w_2, wC_fold, lt_M, cond_true, cond_false, Bool.and_true, Bool.true_and, Bool.and_false, Bool.false_and, Bool.not_true, Bool.not_false, isZS_0, isZS_1]
    | succ r ih =>
      intro i hi
      have e : 6 ^ (i + 1) = 6 ^ i * 6 := Nat.pow_succ 6 i
      have := ih (i + 1) (by omega)
      rw [e] at this
      rw [h_169_13]
      simp (disch := omega) only [↓Bool.cond_eq_ite, ↓reduceIte, Bool.false_eq_true, eq_self, n_lit, n_neg, n_add, n_mul, n_sub, n_subM, n_div, n_mod, n_addM, m_div, m_subn, n_tN, n_inS, n_eq_t, n_eq_f, n_ne_t, n_ne_f, n_lt_t, n_lt_f, n_ge_t, n_ge_f, n_gt_t, n_gt_f, n_le_t, n_le_f, mn_eq, mn_ne, mn_lt, mn_ge, mn_gt, mn_le, nm_eq, nm_ne, nm_lt, nm_ge, nm_gt, nm_le, n_gts_t, c_eq_refl, c_ne_refl, w_fold, w_2, wC_fold, lt_M, cond_true, cond_false, Bool.and_true, Bool.true_and, Bool.and_false, Bool.false_and, Bool.not_true, Bool.not_false, isZS_0, isZS_1]
      exact this
  have hmm : mm M1 (M1.1 [50, 1]) (M1.1 [51, 1]) = M1 := by
    unfold mm
    rw [stA_id, stA_id]
  obtain ⟨A', B', o, w1, w2⟩ := ways_ok (L := L) (xs := xs) a2 (6 ^ k) 0 (M1.1 [50, 1]) (M1.1 [51, 1]) none (by omega) (fun e _ _ => Nat.not_lt_zero _)
  rw [hmm, bst_n] at w1
  refine ⟨mm M1 A' B', o, kI_of ?_, by rw [mm_51]; exact w2, fun q h1 h2 h3 => ?_, a4⟩
  · rw [e_169, a1, Option.bind_some]
    refine (pw k 0 (by omega)).trans ?_
    exact w1
  · unfold mm
    rw [stA_ne h3, stA_ne h2, a3 q h1]
theorem nv_cover (e : Nat → Nat) (he : ∀ l, l < k → e l ≤ 5) : nv e k < 6 ^ k := nv_lt he
theorem rnd_ok (hI : hdI C M nb kd h gb) (hK : mKd M nb kd) (h40 : nb ≤ 40) (hk : k ≤ 5) (hkg : k ≤ cntG kd nb) (hg : g ≤ 2000) :
    ∃ C1 C' M', kV L xs 38 [vr 3 [8, 0], vr 2 [0, 0], vi (oN k), vi (oN g)] C = some C1 ∧ (∀ q, q ≠ [8, 0] → q ≠ [2, 8, 0] → q ≠ [3, 8, 0] → C'.1 q = C.1 q) ∧ C'.2 = C.2 ∧ (∀ q, q ≠ [49, 1] → q ≠ [50, 1] → q ≠ [51, 1] → M'.1 q = M.1 q) ∧ M'.2 = M.2 ∧
      ((kI L xs 42 [vr 3 [8, 0]] C1 = some (oM 4, C') ∧ kI L xs 169 [vr 10 [1], vi (oN k), vi (oN g)] M = some (oM 1, M')) ∨
       (∃ t, t ≤ 5 ∧ kI L xs 42 [vr 3 [8, 0]] C1 = some (oN t, C') ∧ kI L xs 169 [vr 10 [1], vi (oN k), vi (oN g)] M = some (oN t, M') ∧ ∀ l, l < k → C'.1 [3, 8, 0] l = M'.1 [51, 1] l)) := by
  obtain ⟨C1, c1, c2, c3, c4⟩ := s_38 (L := L) (xs := xs) hI h40 hk hkg hg
  obtain ⟨M', o, m1, m2, m3, m4⟩ := fr_ok (L := L) (xs := xs) hI hK hk hkg hg
  obtain ⟨H', y⟩ := solve_ok (L := L) (xs := xs) c2
  refine ⟨C1, stA C1 [3, 8, 0] H', M', c1, fun q h1 h2 h3 => by rw [stA_ne h3, c3 q h1 h2], c4, m3, m4, ?_⟩
  rcases y with ⟨t, d, t5, y1, y2, y3, y4, y5⟩ | ⟨y1, y2⟩
  · have d5 : ∀ l, l < k → d l ≤ 5 := fun l hl => by have := (y2 l hl).2; omega
    cases o with
    | none => exact absurd (nv_lt d5) (m2 d d5 y3)
    | some z =>
      obtain ⟨z1, z2, z3, z4, z5, z6⟩ := m2
      have zle : ∀ l, l < k → z.2 l ≤ z.1 := fun l hl => by rw [← z4]; exact maxN_ge hl
      have dle : maxN d k ≤ t := maxN_le (fun l hl => (y2 l hl).2)
      have h1 := (z6 d d5 y3 (nv_lt d5)).1
      have h2 : t ≤ z.1 := by
        by_cases q : z.1 < t
        · exact absurd z3 (y5 z.1 q z.2 zle)
        · omega
      have ht : t = z.1 := by omega
      have hv := (z6 d d5 y3 (nv_lt d5)).2 (by omega)
      have heq : ∀ l, l < k → z.2 l = d l := by
        rcases y4 z.2 (fun l hl => by omega) (fun l _ hl => by rw [ht]; exact zle l hl) z3 with a | ⟨j, j1, j2, j3⟩
        · exact a
        · rcases nv_lex (fun l hl => (z2 l hl).2) d5 hv with b | ⟨i, i1, i2, i3⟩
          · have := b j j1; omega
          · by_cases q1 : i < j
            · have := j2 i q1; omega
            · by_cases q2 : j < i
              · have := i2 j q2; omega
              · have : i = j := by omega
                subst this; omega
      refine .inr ⟨t, t5, y1, ?_, fun l hl => ?_⟩
      · rw [m1, bst_s, ht]
      · rw [stA_same, (y2 l hl).1, (z2 l hl).1, heq l hl]
  · cases o with
    | none => exact .inl ⟨y1, m1⟩
    | some z => exact absurd m2.2.2.1 (y2 z.2 (fun l hl => (m2.2.1 l hl).2))
end Round5
