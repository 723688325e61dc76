section WaveA
variable {L : Nat} {xs : Nat → Int32} {C C' C0 M M' M0 : mM} {kd w cap gb vb d : Nat → Nat} {nb G V e c0 : Nat}
def f7 (C C' : mM) : Prop := (∀ q, q ≠ [7, 0] → q ≠ [1, 7, 0] → q ≠ [2, 7, 0] → q ≠ [3, 7, 0] → q ≠ [5, 7, 0] → q ≠ [7, 7, 0] → q ≠ [8, 7, 0] → q ≠ [9, 7, 0] → C'.1 q = C.1 q) ∧ C'.2 = C.2
theorem agC_7 (h : f7 C C') : agC C C' := by
  have h2 : ∀ t a b, (a ≠ 7 ∨ b ≠ 0) → C'.1 (t ++ [a, b]) = C.1 (t ++ [a, b]) := fun t a b hab => by
    refine h.1 _ (fun e => ?_) (fun e => ?_) (fun e => ?_) (fun e => ?_) (fun e => ?_) (fun e => ?_) (fun e => ?_) (fun e => ?_) <;>
    · have := congrArg (fun l => l.reverse.take 2) e
      simp at this; omega
  exact ⟨fun t => h2 t 0 0 (by omega), fun t => h2 t 1 0 (by omega), by rw [h.1 [0] (by simp) (by simp) (by simp) (by simp) (by simp) (by simp) (by simp) (by simp)], h2 [0] 4 0 (by omega), h2 [1] 4 0 (by omega), h2 [0] 5 0 (by omega), by rw [h.2], fun t => h2 t 6 0 (by omega)⟩
theorem agM_7 {A B D : Nat → Int32} (h : fM M M') : agM M (w4 M' A B D) := by
  have hk : ∀ k, k < 42 ∨ 48 < k → (w4 M' A B D).1 [k, 1] = M.1 [k, 1] := fun k hk => by
    have n : ∀ j, (j = 42 ∨ j = 43 ∨ j = 46 ∨ j = 47 ∨ j = 48) → ([k, 1] : List Nat) ≠ [j, 1] := fun j hj e => by
      have := (List.cons.inj e).1; omega
    rw [w4_q (n 46 (by omega)) (n 47 (by omega)) (n 48 (by omega)), h.1 _ (by simp) (n 42 (by omega)) (n 43 (by omega))]
  have h1 : ∀ k, k ≠ 44 → k ≠ 45 → (w4 M' A B D).1 [1] k = M.1 [1] k := fun k a b => by
    rw [w4_q (by simp) (by simp) (by simp), h.2.1 k a b]
  exact ⟨fun i _ => by rw [hk 1 (by omega)], hk 2 (by omega), fun k h1 h2 => hk k (by omega), fun k h1 h2 => hk k (by omega), h1 4 (by omega) (by omega), h1 26 (by omega) (by omega), by show M'.2.1 [57, 1] = M.2.1 [57, 1]; rw [h.2.2]⟩
def wR (C M : mM) (gb vb d : Nat → Nat) (G V e : Nat) : Prop := G ≤ 6 ∧ V ≤ 3 ∧ (∀ l, l < G → d l ≤ V * e ∧ gb l < 40) ∧ (∀ l l', l < l' → l' < G → gb l < gb l') ∧ (∀ l, l < V → vb l < 40) ∧
  C.1 [7, 0] 0 = oN G ∧ C.1 [7, 0] 6 = oN e ∧ (∀ l, l < G → C.1 [1, 7, 0] l = oN (gb l) ∧ C.1 [9, 7, 0] l = dE (V * e) (d l)) ∧ (∀ l, l < V → C.1 [5, 7, 0] l = oN (vb l)) ∧
  M.1 [1] 44 = oN G ∧ M.1 [1] 45 = oN V ∧ (∀ l, l < G → M.1 [42, 1] l = oN (gb l) ∧ M.1 [47, 1] l = oN (d l)) ∧ ∀ l, l < V → M.1 [43, 1] l = oN (vb l)
theorem hf_ok (hG : G ≤ 6) (hw : ∀ i, i < G → w i ≤ 1000 ∧ C.1 [2, 7, 0] i = oN (w i)) (g0 : C.1 [7, 0] 0 = oN G) : ∀ j H, j ≤ G → (∀ l, j ≤ l → l ≤ G → H l = oN (hp w G - hp w l)) → ∃ H', (∀ l, l ≤ G → H' l = oN (hp w G - hp w l)) ∧
    run L xs 69 35 (63, [some (vr 7 [7, 0]), none, none, none, some (vi (lQ j))], [], stA C [3, 7, 0] H) = run L xs 69 35 (63, [some (vr 7 [7, 0]), none, none, none, some (vi (lQ 0))], [], stA C [3, 7, 0] H') := by
  intro j
  induction j with
  | zero =>
    intro H hj hH
    exact ⟨H, fun l hl => hH l (Nat.zero_le _) hl, rfl⟩
  | succ j ih =>
    intro H hj hH
    obtain ⟨w1, w2⟩ := hw j (by omega)
    have hpe : hp w (j + 1) = hp w j + w j := rfl
    have m1 := hp_mono (w := w) (show j ≤ G by omega)
    have m2 := hp_mono (w := w) (show j + 1 ≤ G by omega)
    have hb := hp_le (w := w) (B := 1000) (n := G) (fun i hi => (hw i hi).1)
    have h1 := hH (j + 1) (Nat.le_refl _) hj
    have z2 : ∀ H, (stA C [3, 7, 0] H).1 [2, 7, 0] = C.1 [2, 7, 0] := fun H => stA_ne (by simp)
    obtain ⟨H', y1, y2⟩ := ih (upd H j (oN (hp w G - hp w (j + 1) + w j))) (by omega) (fun l h1 h2 => by
      by_cases x : l = j
      · subst x; rw [upd_eq]; exact congrArg oN (by omega)
      · rw [upd_ne x]; exact hH l (by omega) h2)
    refine ⟨H', y1, ?_⟩
    rw [← y2, h_69_63, lQ_p]
    simp (disch := omega) only [↓lt_stA, ↓Bool.cond_eq_ite, ↓reduceIte, Bool.false_eq_true, eq_self, n_lit, n_neg, n_add, n_mul, n_sub, n_subM, n_div, n_mod, n_addM, m_div, m_subn, n_tN, n_inS, n_eq_t, n_eq_f, n_ne_t, n_ne_f, n_lt_t, n_lt_f, n_ge_t, n_ge_f, n_gt_t, n_gt_f, n_le_t, n_le_f, mn_eq, mn_ne, mn_lt, mn_ge, mn_gt, mn_le, nm_eq, nm_ne, nm_lt, nm_ge, nm_gt, nm_le, n_gts_t, c_eq_refl, c_ne_refl, w_fold, w_2, wC_fold, lt_M, cond_true, cond_false, Bool.and_true, Bool.true_and, Bool.and_false, Bool.false_and, Bool.not_true, Bool.not_false, isZS_0, isZS_1, stA_same, h1, z2, w2, stA_w, stA_u, lQ_d]
set_option maxRecDepth 8000 in
theorem wav_ok (h40 : nb ≤ 40) (hn : M.1 [1, 1] 2 = oN nb) (h9 : C.1 [0, 0] 9 = oN nb) (hB : ∀ b, b < nb → bW C M kd b) (he1 : 1 ≤ e) (he2 : e ≤ 2) (hc : c0 < 16) :
    ∃ C1 M1 mo G V gb vb d, kV L xs 69 [vr 7 [7, 0], vr 2 [0, 0], vi (oN c0), vi (oN e)] C = some C1 ∧ kI L xs 170 [vr 10 [1], vi (oN c0), vi (oN e)] M = some (oN mo, M1) ∧ mo ≤ 7000 ∧ C1.1 [7, 0] 10 = oN mo ∧ agC C C1 ∧ agM M M1 ∧ wR C1 M1 gb vb d G V e := by
  obtain ⟨A, hA⟩ : ∃ A, A = wI (wI (wI C [7, 0] 0 (oN 0)) [7, 0] 4 (oN 0)) [7, 0] 6 (oN e) := ⟨_, rfl⟩
  obtain ⟨B, hB'⟩ : ∃ B, B = wI (wI M [1] 44 (oN 0)) [1] 45 (oN 0) := ⟨_, rfl⟩
  have fA : fC C A := ⟨fun q a1 a2 a3 a4 a5 => by rw [hA, w_ne a1, w_ne a1, w_ne a1], by rw [hA]; rfl⟩
  have fB : fM M B := ⟨fun q a1 a2 a3 => by rw [hB', w_ne a1, w_ne a1], fun k a1 a2 => by rw [hB', w_ne_k a2, w_ne_k a1], by rw [hB']; rfl⟩
  have jC : gC A kd 0 0 e (fun _ => 0) (fun _ => 0) (fun _ => 0) := ⟨by rw [hA]; simp [w_at], by rw [hA]; simp [w_at], by rw [hA]; simp [w_at], fun l hl => by omega, fun l hl => by omega⟩
  have jM : gM B 0 0 (fun _ => 0) (fun _ => 0) := ⟨by rw [hB']; simp [w_at], by rw [hB']; simp [w_at], fun l hl => by omega, fun l hl => by omega⟩
  obtain ⟨C1, M1, G, V, gb, w, vb, r1, r2, f1, f2, ⟨c1, c2, c3, c4, c5⟩, ⟨m1, m2, m3, m4⟩, ⟨g1, g2, g3, g4, g5⟩⟩ := gat_all (L := L) (xs := xs) (C0 := C) (M0 := M) h40 hn h9 hB he1 he2 hc nb 0 A B 0 0 (fun _ => 0) (fun _ => 0) (fun _ => 0) (by omega) fA fB jC jM ⟨by omega, by omega, fun l hl => by omega, fun l hl => by omega, fun l l' _ hl => by omega⟩
  have c9 : C1.1 [0, 0] 9 = oN nb := by rw [f1.1 _ (by simp) (by simp) (by simp) (by simp) (by simp)]; exact h9
  have n2 : M1.1 [1, 1] 2 = oN nb := by rw [f2.1 _ (by simp) (by simp) (by simp)]; exact hn
  obtain ⟨cap, hcap⟩ : ∃ cap : Nat → Nat, cap = fun r => sea (kd (vb (r / e))) := ⟨_, rfl⟩
  have hR6 : V * e ≤ 6 := Nat.mul_le_mul g2 he2
  obtain ⟨H3, p1, p2⟩ := hf_ok (L := L) (xs := xs) (C := C1) (w := w) g1 (fun i hi => ⟨(g3 i hi).2.1, (c4 i hi).2⟩) c1 G (upd (C1.1 [3, 7, 0]) G (oN 0)) (Nat.le_refl _) (fun l h1 h2 => by
    have : l = G := by omega
    subst this
    rw [upd_eq]; exact congrArg oN (by omega))
  obtain ⟨D, hD⟩ : ∃ D, D = stA C1 [3, 7, 0] H3 := ⟨_, rfl⟩
  have dq : ∀ q, q ≠ [3, 7, 0] → D.1 q = C1.1 q := fun q h => by rw [hD, stA_ne h]
  have d7 := dq [7, 0] (by simp)
  have hC7 : wC7 D w cap G V e (V * e) := ⟨g1, g2, he1, he2, rfl, by rw [d7]; exact c1, by rw [d7]; exact c2, by rw [d7]; exact c3, fun i hi => ⟨(g3 i hi).2.1, by rw [dq _ (by simp)]; exact (c4 i hi).2⟩, fun i hi => by rw [hD, stA_same]; exact p1 i hi, fun r hr => by rw [hcap]; show sea _ ≤ 300; unfold sea; split <;> omega⟩
  obtain ⟨H', K', mo, kp, x1, x2, x3, x4⟩ := choose_w (L := L) (xs := xs) hC7 G 0 (fun _ => 0) (C1.1 [7, 7, 0]) (D.1 [8, 7, 0]) (D.1 [9, 7, 0]) 0 (fun _ => 0) (by omega) (fun l hl => by omega) (fun r hr => by
    refine ⟨Nat.zero_le _, ?_⟩
    have h1 : r / e < V := Nat.div_lt_of_lt_mul (by rw [Nat.mul_comm]; exact hr)
    have h2 : r % e < e := Nat.mod_lt _ (by omega)
    have h3 := (c5 _ h1).2 _ h2
    rw [Nat.mul_comm, Nat.div_add_mod] at h3
    rw [h3, hcap]
    rfl) (fun l hl => by omega) (fun h => by omega) (by omega)
  have hb : hp w G ≤ 6000 := by
    have := hp_le (w := w) (B := 1000) (n := G) (fun i hi => (g3 i hi).2.1)
    omega
  have hmo := wP_mo x4 hb (by omega)
  have hwm : wI D [7, 0] 10 (oM 1) = wm D (C1.1 [7, 7, 0]) (D.1 [8, 7, 0]) (D.1 [9, 7, 0]) 0 := by
    have e0 : wI D [7, 0] 10 (oM 1) = stA D [7, 0] (upd (D.1 [7, 0]) 10 (lQ 0)) := rfl
    rw [e0, ← dq [7, 7, 0] (by simp)]
    unfold wm
    rw [stA_ids (by simp), stA_ids (by simp), stA_ids (by simp)]
  have kc : kV L xs 69 [vr 7 [7, 0], vr 2 [0, 0], vi (oN c0), vi (oN e)] C = some (wm D (C1.1 [7, 7, 0]) H' K' mo) := kV_of (by
    have tt0 : tt w (V * e) (fun _ => 0) 0 = 0 := rfl
    rw [tt0] at x1
    have k64 := kV_of x1
    have rk : Nat.blt (rkM 64 [vr 7 [7, 0], vi (oN 0), vi (oN 0)]) 35 = true := by rw [rk_e]; exact (rk_d 0 (by omega)).2.2
    rw [e_69]
    simp (disch := omega) only [↓Bool.cond_eq_ite, ↓reduceIte, Bool.false_eq_true, eq_self, n_lit, n_neg, n_add, n_mul, n_sub, n_subM, n_div, n_mod, n_addM, m_div, m_subn, n_tN, n_inS, n_eq_t, n_eq_f, n_ne_t, n_ne_f, n_lt_t, n_lt_f, n_ge_t, n_ge_f, n_gt_t, n_gt_f, n_le_t, n_le_f, mn_eq, mn_ne, mn_lt, mn_ge, mn_gt, mn_le, nm_eq, nm_ne, nm_lt, nm_ge, nm_gt, nm_le, n_gts_t, c_eq_refl, c_ne_refl, w_fold, wC_fold, lt_M, cond_true, cond_false, Bool.and_true, Bool.true_and, Bool.and_false, Bool.false_and, Bool.not_true, Bool.not_false, isZS_0, isZS_1, ← hA]
    rw [r1, h_69_18]
    have eG : oN G - oN 1 = lQ G := by rw [← lQ_d]; exact Int32.sub_eq_add_neg _ _
    have st : wI C1 [3, 7, 0] G (oN 0) = stA C1 [3, 7, 0] (upd (C1.1 [3, 7, 0]) G (oN 0)) := rfl
    have s7 : (stA C1 [3, 7, 0] (upd (C1.1 [3, 7, 0]) G (oN 0))).1 [7, 0] = C1.1 [7, 0] := stA_ne (by simp)
    have hl0 : lQ 0 = oM 1 := if_pos rfl
    simp (disch := omega) only [↓eG, ↓Bool.cond_eq_ite, ↓reduceIte, Bool.false_eq_true, eq_self, n_lit, n_neg, n_add, n_mul, n_sub, n_subM, n_div, n_mod, n_addM, m_div, m_subn, n_tN, n_inS, n_eq_t, n_eq_f, n_ne_t, n_ne_f, n_lt_t, n_lt_f, n_ge_t, n_ge_f, n_gt_t, n_gt_f, n_le_t, n_le_f, mn_eq, mn_ne, mn_lt, mn_ge, mn_gt, mn_le, nm_eq, nm_ne, nm_lt, nm_ge, nm_gt, nm_le, n_gts_t, c_eq_refl, c_ne_refl, w_fold, wC_fold, lt_M, cond_true, cond_false, Bool.and_true, Bool.true_and, Bool.and_false, Bool.false_and, Bool.not_true, Bool.not_false, isZS_0, isZS_1, c9, c1, st, s7]
    rw [p2, h_69_63, hl0, ← hD]
    simp (disch := omega) only [↓Bool.cond_eq_ite, ↓reduceIte, Bool.false_eq_true, eq_self, n_lit, n_neg, n_add, n_mul, n_sub, n_subM, n_div, n_mod, n_addM, m_div, m_subn, n_tN, n_inS, n_eq_t, n_eq_f, n_ne_t, n_ne_f, n_lt_t, n_lt_f, n_ge_t, n_ge_f, n_gt_t, n_gt_f, n_le_t, n_le_f, mn_eq, mn_ne, mn_lt, mn_ge, mn_gt, mn_le, nm_eq, nm_ne, nm_lt, nm_ge, nm_gt, nm_le, n_gts_t, c_eq_refl, c_ne_refl, w_fold, wC_fold, lt_M, cond_true, cond_false, Bool.and_true, Bool.true_and, Bool.and_false, Bool.false_and, Bool.not_true, Bool.not_false, isZS_0, isZS_1, hwm, rk, k64, Option.bind_some])
  have hM7 : rM7 M1 w cap gb vb kd G V e (V * e) := ⟨g1, g2, he1, he2, rfl, m1, m2, fun i hi => ⟨by have := (g3 i hi).1; omega, (g3 i hi).2.1, m3 i hi, by rw [f2.1 _ (by simp) (by simp) (by simp)]; exact (g3 i hi).2.2⟩, fun l hl => ⟨by have := (g4 l hl).1; omega, (g4 l hl).2, m4 l hl, by rw [f2.1 _ (by simp) (by simp) (by simp)]; exact (hB _ (g4 l hl).1).2.2.2.1⟩, fun r hr => by rw [hcap]⟩
  have hpw := pw_le (R := V * e) hR6 g1
  have hw0 : w4 M1 (M1.1 [46, 1]) (M1.1 [47, 1]) (M1.1 [48, 1]) = M1 := by
    unfold w4
    rw [stA_id, stA_id, stA_id]
  obtain ⟨A2, B2, D2, mo2, y1, y2, y3⟩ := ways_w (L := L) (xs := xs) hM7 ((V * e + 1) ^ G) 0 (M1.1 [46, 1]) (M1.1 [47, 1]) (M1.1 [48, 1]) 0 (by omega) wB_0 (by omega)
  rw [hw0] at y1
  obtain ⟨d, q1, q2, q3, q4⟩ := wPB x4 y2
  have pw : ∀ r i, i + r = G → run L xs 170 26 (149, [some (vr 10 [1]), none, some (vi (oN e)), some (vi (oN (V * e))), some (vi (oM 1)), some (vi (oN ((V * e + 1) ^ i))), some (vi (oN i)), none, none, none, none, none, none], [], M1) = run L xs 170 26 (175, l17n (oN e) (oN (V * e)) (oM 1) (oN ((V * e + 1) ^ G)) (oN 0) none, [], M1) := by
    intro r
    induction r with
    | zero =>
      intro i hi
      have : i = G := by omega
      subst this
      unfold l17n
      rw [h_170_149]
      simp (disch := omega) only [↓Bool.cond_eq_ite, ↓reduceIte, Bool.false_eq_true, eq_self, n_lit, n_neg, n_add, n_mul, n_sub, n_subM, n_div, n_mod, n_addM, m_div, m_subn, n_tN, n_inS, n_eq_t, n_eq_f, n_ne_t, n_ne_f, n_lt_t, n_lt_f, n_ge_t, n_ge_f, n_gt_t, n_gt_f, n_le_t, n_le_f, mn_eq, mn_ne, mn_lt, mn_ge, mn_gt, mn_le, nm_eq, nm_ne, nm_lt, nm_ge, nm_gt, nm_le, n_gts_t, c_eq_refl, c_ne_refl, w_fold, w_2, wC_fold, lt_M, cond_true, cond_false, Bool.and_true, Bool.true_and, Bool.and_false, Bool.false_and, Bool.not_true, Bool.not_false, isZS_0, isZS_1, m1]
    | succ r ih =>
      intro i hi
      have e := Nat.pow_succ (V * e + 1) i
      have := ih (i + 1) (by omega)
      rw [e] at this
      rw [h_170_149]
      simp (disch := omega) only [↓Bool.cond_eq_ite, ↓reduceIte, Bool.false_eq_true, eq_self, n_lit, n_neg, n_add, n_mul, n_sub, n_subM, n_div, n_mod, n_addM, m_div, m_subn, n_tN, n_inS, n_eq_t, n_eq_f, n_ne_t, n_ne_f, n_lt_t, n_lt_f, n_ge_t, n_ge_f, n_gt_t, n_gt_f, n_le_t, n_le_f, mn_eq, mn_ne, mn_lt, mn_ge, mn_gt, mn_le, nm_eq, nm_ne, nm_lt, nm_ge, nm_gt, nm_le, n_gts_t, c_eq_refl, c_ne_refl, w_fold, w_2, wC_fold, lt_M, cond_true, cond_false, Bool.and_true, Bool.true_and, Bool.and_false, Bool.false_and, Bool.not_true, Bool.not_false, isZS_0, isZS_1, m1]
      exact this
  have km : kI L xs 170 [vr 10 [1], vi (oN c0), vi (oN e)] M = some (lQ mo2, w4 M1 A2 B2 D2) := kI_of (by
    rw [e_170]
    simp (disch := omega) only [↓Bool.cond_eq_ite, ↓reduceIte, Bool.false_eq_true, eq_self, n_lit, n_neg, n_add, n_mul, n_sub, n_subM, n_div, n_mod, n_addM, m_div, m_subn, n_tN, n_inS, n_eq_t, n_eq_f, n_ne_t, n_ne_f, n_lt_t, n_lt_f, n_ge_t, n_ge_f, n_gt_t, n_gt_f, n_le_t, n_le_f, mn_eq, mn_ne, mn_lt, mn_ge, mn_gt, mn_le, nm_eq, nm_ne, nm_lt, nm_ge, nm_gt, nm_le, n_gts_t, c_eq_refl, c_ne_refl, w_fold, wC_fold, lt_M, cond_true, cond_false, Bool.and_true, Bool.true_and, Bool.and_false, Bool.false_and, Bool.not_true, Bool.not_false, isZS_0, isZS_1, ← hB']
    unfold l170 at r2
    rw [r2, h_170_12]
    simp (disch := omega) only [↓Bool.cond_eq_ite, ↓reduceIte, Bool.false_eq_true, eq_self, n_lit, n_neg, n_add, n_mul, n_sub, n_subM, n_div, n_mod, n_addM, m_div, m_subn, n_tN, n_inS, n_eq_t, n_eq_f, n_ne_t, n_ne_f, n_lt_t, n_lt_f, n_ge_t, n_ge_f, n_gt_t, n_gt_f, n_le_t, n_le_f, mn_eq, mn_ne, mn_lt, mn_ge, mn_gt, mn_le, nm_eq, nm_ne, nm_lt, nm_ge, nm_gt, nm_le, n_gts_t, c_eq_refl, c_ne_refl, w_fold, wC_fold, lt_M, cond_true, cond_false, Bool.and_true, Bool.true_and, Bool.and_false, Bool.false_and, Bool.not_true, Bool.not_false, isZS_0, isZS_1, n2, m2]
    have := pw G 0 (by omega)
    rw [Nat.pow_zero] at this
    rw [this]
    have hl0 : lQ 0 = oM 1 := if_pos rfl
    rw [hl0] at y1
    exact y1)
  have h10 : mo = tt w (V * e) d G + 1 := q3
  have hlq : lQ mo2 = oN (mo - 1) := by rw [← q2, h10]; exact lQ_p
  have wq : ∀ q, q ≠ [7, 0] → q ≠ [7, 7, 0] → q ≠ [8, 7, 0] → q ≠ [9, 7, 0] → (wm D (C1.1 [7, 7, 0]) H' K' mo).1 q = D.1 q := fun q a b c d => wm_q a b c d
  refine ⟨_, _, mo - 1, G, V, gb, vb, d, kc, by rw [hlq] at km; exact km, by omega, ?_, ?_, agM_7 (fM_trans (fM_refl M) f2), ?_⟩
  · rw [wm_P, upd_eq, h10]; exact lQ_p
  · refine agC_7 ⟨fun q a1 a2 a3 a4 a5 a6 a7 a8 => ?_, ?_⟩
    · rw [wm_q a1 a6 a7 a8, dq q a4, f1.1 q a1 a2 a3 a5 a6]
    · show D.2 = C.2
      rw [hD]; exact f1.2
  · refine ⟨g1, g2, fun l hl => ⟨q1 l hl, by have := (g3 l hl).1; omega⟩, g5, fun l hl => by have := (g4 l hl).1; omega, ?_, ?_, fun l hl => ⟨?_, ?_⟩, fun l hl => ?_, ?_, ?_, fun l hl => ⟨?_, ?_⟩, fun l hl => ?_⟩
    · rw [wm_P, upd_ne (by omega), d7]; exact c1
    · rw [wm_P, upd_ne (by omega), d7]; exact c3
    · rw [wq _ (by simp) (by simp) (by simp) (by simp), dq _ (by simp)]; exact (c4 l hl).1
    · rw [wm_9, x3 (by omega) l hl, (q4 l hl).1]
    · rw [wq _ (by simp) (by simp) (by simp) (by simp), dq _ (by simp)]; exact (c5 l hl).1
    · rw [w4_q (by simp) (by simp) (by simp)]; exact m1
    · rw [w4_q (by simp) (by simp) (by simp)]; exact m2
    · rw [w4_q (by simp) (by simp) (by simp)]; exact m3 l hl
    · rw [w4_7]; exact (q4 l hl).2
    · rw [w4_q (by simp) (by simp) (by simp)]; exact m4 l hl
end WaveA
