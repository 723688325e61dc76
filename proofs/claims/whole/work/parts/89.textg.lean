section TextG
variable {L : Nat} {xs : Nat → Int32} {C M : mM} {c nc nw nb np nt now td hm t : Nat} {kd wa wb wd wl ws : Nat → Nat}
def lateV (S : Nat → Int32) (now b : Nat) : Option Nat → Int32
  | none => oN 0
  | some i => oN now - S (900 + 16 * b + 2 * i)
theorem s_198 {g n : Nat} (hg : g < 40) (hn : n ≤ 8) (h5 : M.1 [1, 1] 5 = oN now) (h12 : M.1 [1, 1] (200 + 16 * g + 12) = oN n) : kI L xs 198 [vr 10 [1], vi (oN g)] M = some (lateV (M.1 [1, 1]) now g (lastI (fun i => cmpS .le (M.1 [1, 1] (900 + 16 * g + 2 * i)) (M.1 [1, 1] 5)) n), M) := by
  refine kI_of ?_
  have h := s_150 (L := L) (xs := xs) hg hn h12
  rw [e_198, h, Option.bind_some]
  cases hl : lastI (fun i => cmpS .le (M.1 [1, 1] (900 + 16 * g + 2 * i)) (M.1 [1, 1] 5)) n with
  | none =>
    simp (disch := omega) only [↓Bool.cond_eq_ite, ↓reduceIte, Bool.false_eq_true, eq_self, n_lit, n_neg, n_add, n_mul, n_sub, n_subM, n_div, n_mod, n_addM, m_div, m_subn, n_tN, n_inS, n_eq_t, n_eq_f, n_ne_t, n_ne_f, n_lt_t, n_lt_f, n_ge_t, n_ge_f, n_gt_t, n_gt_f, n_le_t, n_le_f, mn_eq, mn_ne, mn_lt, mn_ge, mn_gt, mn_le, nm_eq, nm_ne, nm_lt, nm_ge, nm_gt, nm_le, n_gts_t, c_eq_refl, c_ne_refl, w_fold, w_2, wC_fold, lt_M, cond_true, cond_false, Bool.and_true, Bool.true_and, Bool.and_false, Bool.false_and, Bool.not_true, Bool.not_false, isZS_0, isZS_1, encI, lateV]
  | some i =>
    have := lastI_lt hl
    simp (disch := omega) only [↓Bool.cond_eq_ite, ↓reduceIte, Bool.false_eq_true, eq_self, n_lit, n_neg, n_add, n_mul, n_sub, n_subM, n_div, n_mod, n_addM, m_div, m_subn, n_tN, n_inS, n_eq_t, n_eq_f, n_ne_t, n_ne_f, n_lt_t, n_lt_f, n_ge_t, n_ge_f, n_gt_t, n_gt_f, n_le_t, n_le_f, mn_eq, mn_ne, mn_lt, mn_ge, mn_gt, mn_le, nm_eq, nm_ne, nm_lt, nm_ge, nm_gt, nm_le, n_gts_t, c_eq_refl, c_ne_refl, w_fold, w_2, wC_fold, lt_M, cond_true, cond_false, Bool.and_true, Bool.true_and, Bool.and_false, Bool.false_and, Bool.not_true, Bool.not_false, isZS_0, isZS_1, encI, lateV, h5]
def frH (M M' : mM) : Prop := (∀ q, q ≠ [1] → q ≠ [37, 1] → q ≠ [39, 1] → M'.1 q = M.1 q) ∧ (∀ k, k < 29 → M'.1 [1] k = M.1 [1] k) ∧ M'.2 = M.2
def eW : Option Nat → Int32
  | none => oM 1
  | some w => oN w
def eB (c : Nat) : Option Nat → mV
  | none => vn
  | some b => vr 0 [b, 10, c, 0]
theorem b2_ZS (x : Bool) : isZS (b2 x) = true := by
  cases x
  · exact isZS_0
  · exact isZS_1
def txW (L : Nat) (xs : Nat → Int32) (C M : mM) (t : Nat) (v : (Nat → Int32) → Bool) : Prop :=
  ∃ n β cs, n ≤ 80 ∧ (∀ i, i < n → β i ≤ 255) ∧ cs.length ≤ 80 ∧ okc cs ∧ (∀ F s, ev F cs s = b2 (v F) :: s) ∧ rdL (C.1 [0, 4, 0]) (80 * t) cs ∧ C.1 [1, 4, 0] t = oN cs.length ∧ M.1 [19, 1] t = oN n ∧ (∀ i, i < n → M.1 [18, 1] (80 * t + i) = oN (β i)) ∧
    ∀ M Fd, mTx M n (bM β) → mFd L xs M Fd → ∃ a d vn V sn S, kI L xs 213 [vr 10 [1]] M = some (b2 (v Fd), pM M a (oN 0) d vn V sn S)
theorem txW_of (h : rTx L xs C M nt) : ∃ vv : Nat → (Nat → Int32) → Bool, ∀ t, t < nt → txW L xs C M t (vv t) := by
  have := (Classical.skolem (p := fun t v => t < nt → txW L xs C M t v)).mp (fun t => by
    by_cases ht : t < nt
    · obtain ⟨n, β, cs, v, q⟩ := h t ht
      exact ⟨v, fun _ => ⟨n, β, cs, q⟩⟩
    · exact ⟨fun _ => true, fun q => absurd q ht⟩)
  exact this
theorem txW_congr {C' M' : mM} {v : (Nat → Int32) → Bool} (h0 : C'.1 [0, 4, 0] = C.1 [0, 4, 0]) (h1 : C'.1 [1, 4, 0] = C.1 [1, 4, 0]) (h18 : M'.1 [18, 1] = M.1 [18, 1]) (h19 : M'.1 [19, 1] = M.1 [19, 1]) (h : txW L xs C M t v) : txW L xs C' M' t v := by
  unfold txW at h ⊢
  rw [h0, h1, h18, h19]
  exact h
def fCn (now pr pu : Nat) (hd tr la su st th he : Int32) (k : Nat) : Int32 :=
  if k = 0 then oN (now % 1440) else if k = 1 then oN (now / 60 % 24) else if k = 2 then oN (now / 1440) else if k = 3 then oN pr else if k = 4 then oN pu else if k = 5 then hd else if k = 6 then tr else if k = 7 then la else if k = 8 then su else if k = 9 then st else if k = 10 then th else he
theorem fCn_eq {pr pu : Nat} {hd tr la su st th he : Int32} : fEq (fCn now pr pu hd tr la su st th he) now pr pu hd tr la su st th he := ⟨rfl, rfl, rfl, rfl, rfl, rfl, rfl, rfl, rfl, rfl, rfl, rfl⟩
theorem fEq_at {F G : Nat → Int32} {pr pu : Nat} {hd tr la su st th he : Int32} (h : fEq F now pr pu hd tr la su st th he) (h' : fEq G now pr pu hd tr la su st th he) : ∀ k, k < 12 → F k = G k := by
  obtain ⟨a0, a1, a2, a3, a4, a5, a6, a7, a8, a9, a10, a11⟩ := h
  obtain ⟨d0, d1, d2, d3, d4, d5, d6, d7, d8, d9, d10, d11⟩ := h'
  intro k hk
  have hc : k = 0 ∨ k = 1 ∨ k = 2 ∨ k = 3 ∨ k = 4 ∨ k = 5 ∨ k = 6 ∨ k = 7 ∨ k = 8 ∨ k = 9 ∨ k = 10 ∨ k = 11 := by omega
  rcases hc with e | e | e | e | e | e | e | e | e | e | e | e <;> subst e
  · rw [a0, d0]
  · rw [a1, d1]
  · rw [a2, d2]
  · rw [a3, d3]
  · rw [a4, d4]
  · rw [a5, d5]
  · rw [a6, d6]
  · rw [a7, d7]
  · rw [a8, d8]
  · rw [a9, d9]
  · rw [a10, d10]
  · rw [a11, d11]
theorem hold_c {q : List Nat} {D : mM} {F : Nat → Int32} {pr pu : Nat} {hd tr la su st th he : Int32} {v : (Nat → Int32) → Bool} (hq : q ≠ [8, 4, 0]) (ht : t < 20) (hv : txW L xs C M t v)
    (hF : fEq F now pr pu hd tr la su st th he) (hD0 : D.1 [0, 4, 0] = C.1 [0, 4, 0]) (hD1 : D.1 [1, 4, 0] = C.1 [1, 4, 0]) (hDq : D.1 q = F) :
    ∃ G', kI L xs 49 [vr 5 [4, 0], vi (oN t), vr 1000012 q] D = some (b2 (v (fCn now pr pu hd tr la su st th he)), stA D [8, 4, 0] G') := by
  obtain ⟨n, β, cs, hn80, hβ, hcs, ho, hv, hr, hz, hlen, hby, hM⟩ := hv
  exact is_true (L := L) (xs := xs) (C := D) (t := t) (q := q) (F := fCn now pr pu hd tr la su st th he) (cs := cs) (v := v (fCn now pr pu hd tr la su st th he)) ht hq (fun k hk => by rw [hDq]; exact fEq_at hF fCn_eq k hk) (by rw [hD1]; exact hz) hcs (by rw [hD0]; exact hr) ho (hv _)
theorem hold_m {pr pu : Nat} {hd tr la su st th he w g : Int32} {v : (Nat → Int32) → Bool} (ht : t < 20) (hn : now ≤ 4320) (hv : txW L xs C M t v)
    (hW : ∀ M', M'.1 [1, 1] = M.1 [1, 1] → M'.1 [13, 1] = M.1 [13, 1] → M'.1 [1] 35 = w → M'.1 [1] 36 = g → mWg L xs M' now pr pu hd tr la su st th he) :
    ∃ M', kI L xs 181 [vr 10 [1], vi (oN t), vi w, vi g] M = some (b2 (v (fCn now pr pu hd tr la su st th he)), M') ∧ frH M M' := by
  obtain ⟨n, β, cs, hn80, hβ, hcs, ho, hv, hr, hz, hlen, hby, hM⟩ := hv
  have hM1 : ∃ M1, M1 = wI (wI (wI (wI (wI M [1] 29 (oN 0)) [1] 30 (oN (80 * t))) [1] 31 (oN n)) [1] 35 w) [1] 36 g := ⟨_, rfl⟩
  obtain ⟨M1, e1⟩ := hM1
  have q29 : M1.1 [1] 29 = oN 0 := by rw [e1]; simp only [w_at]; simp
  have q30 : M1.1 [1] 30 = oN (80 * t) := by rw [e1]; simp only [w_at]; simp
  have q31 : M1.1 [1] 31 = oN n := by rw [e1]; simp only [w_at]; simp
  have q35 : M1.1 [1] 35 = w := by rw [e1]; simp only [w_at]; simp
  have q36 : M1.1 [1] 36 = g := by rw [e1]; simp only [w_at]; simp
  have qo : ∀ p, p ≠ [1] → M1.1 p = M.1 p := fun p hp => by rw [e1, w_ne hp, w_ne hp, w_ne hp, w_ne hp, w_ne hp]
  have qk : ∀ k, k < 29 → M1.1 [1] k = M.1 [1] k := fun k hk => by rw [e1, w_ne_k (by omega), w_ne_k (by omega), w_ne_k (by omega), w_ne_k (by omega), w_ne_k (by omega)]
  have hTx1 : mTx M1 n (bM β) := ⟨hn80, q31, t, q30, .inl ⟨q29, by omega, fun i hi => by rw [qo _ (by simp)]; exact hby i hi⟩⟩
  have hFd : mFd L xs M1 (fCn now pr pu hd tr la su st th he) := .inl ⟨q29, fun i hi a b d vn V sn S => s_166 hn fCn_eq (hW (pM M1 a b d vn V sn S) (by show M1.1 [1, 1] = _; exact qo _ (by simp)) (by show M1.1 [13, 1] = _; exact qo _ (by simp)) q35 q36) i hi⟩
  obtain ⟨a, d, vn', V, sn, S, k2⟩ := hM M1 _ hTx1 hFd
  refine ⟨pM M1 a (oN 0) d vn' V sn S, kI_of ?_, ?_⟩
  · rw [e_181]
    have hz := b2_ZS (v (fCn now pr pu hd tr la su st th he))
    simp (disch := omega) only [↓Bool.cond_eq_ite, ↓reduceIte, Bool.false_eq_true, eq_self, n_lit, n_neg, n_add, n_mul, n_sub, n_subM, n_div, n_mod, n_addM, m_div, m_subn, n_tN, n_inS, n_eq_t, n_eq_f, n_ne_t, n_ne_f, n_lt_t, n_lt_f, n_ge_t, n_ge_f, n_gt_t, n_gt_f, n_le_t, n_le_f, mn_eq, mn_ne, mn_lt, mn_ge, mn_gt, mn_le, nm_eq, nm_ne, nm_lt, nm_ge, nm_gt, nm_le, n_gts_t, c_eq_refl, c_ne_refl, w_fold, wC_fold, lt_M, cond_true, cond_false, Bool.and_true, Bool.true_and, Bool.and_false, Bool.false_and, Bool.not_true, Bool.not_false, isZS_0, isZS_1, w_at, List.cons.injEq, reduceCtorEq, and_false, false_and, and_true, true_and, if_false, Nat.reduceEqDiff, hlen, ← e1, k2, hz, Option.bind_some]
  · refine ⟨fun p h1 h2 h3 => ?_, fun k hk => ?_, ?_⟩
    · unfold pM
      rw [stA_ne h3, stA_ne h2, stA_ne h1]
      exact qo p h1
    · have : (pM M1 a (oN 0) d vn' V sn S).1 [1] k = M1.1 [1] k := by
        show pG (M1.1 [1]) a (oN 0) d vn' sn k = _
        unfold pG
        rw [upd_ne (by omega), upd_ne (by omega), upd_ne (by omega), upd_ne (by omega), upd_ne (by omega)]
      rw [this, qk k hk]
    · show M1.2 = M.2
      rw [e1]; rfl
theorem hold_ok {W G : Option Nat} (hhm : hm ≤ 1000) (hP : rPt [c, 0] (M.1 [1, 1]) C M nc nw nb np nt now td hm kd wa wb wd wl ws) (hTx : rTx L xs C M nt) (ht : t < nt) (hW : ∀ w, W = some w → w < nw) (hG : ∀ b, G = some b → b < nb ∧ kd b = 0) :
    ∃ x F G' M', call L xs 32 [vr 2 [c, 0], vi (eW W), eB c G] C = some (some (vr 1000012 [15, c, 0]), stA C [15, c, 0] F) ∧ kI L xs 49 [vr 5 [4, 0], vi (oN t), vr 1000012 [15, c, 0]] (stA C [15, c, 0] F) = some (b2 x, stA (stA C [15, c, 0] F) [8, 4, 0] G') ∧ kI L xs 181 [vr 10 [1], vi (oN t), vi (eW W), vi (eW G)] M = some (b2 x, M') ∧ frH M M' := by
  obtain ⟨g1, g2, g3, g4, g5, g6, g7, g8, g9, g10⟩ := hP
  obtain ⟨cN, cT, cC, cW, cB, cG, cP, S0, S1, S2, S3, S4, S5, b16, b24, b40, b8, b20, b4320⟩ := g1
  obtain ⟨h7, -⟩ := g5 (now / 60 % 24) (by omega)
  have fin : ∀ F' pr pu hd tr la su st th he, fEq F' now pr pu hd tr la su st th he → call L xs 32 [vr 2 [c, 0], vi (eW W), eB c G] C = some (some (vr 1000012 [15, c, 0]), stA C [15, c, 0] F') →
      (∀ M', M'.1 [1, 1] = M.1 [1, 1] → M'.1 [13, 1] = M.1 [13, 1] → M'.1 [1] 35 = eW W → M'.1 [1] 36 = eW G → mWg L xs M' now pr pu hd tr la su st th he) →
      ∃ x F G' M', call L xs 32 [vr 2 [c, 0], vi (eW W), eB c G] C = some (some (vr 1000012 [15, c, 0]), stA C [15, c, 0] F) ∧ kI L xs 49 [vr 5 [4, 0], vi (oN t), vr 1000012 [15, c, 0]] (stA C [15, c, 0] F) = some (b2 x, stA (stA C [15, c, 0] F) [8, 4, 0] G') ∧ kI L xs 181 [vr 10 [1], vi (oN t), vi (eW W), vi (eW G)] M = some (b2 x, M') ∧ frH M M' := by
    intro F' pr pu hd tr la su st th he hF k32 hWg
    obtain ⟨vv, hvv⟩ := txW_of hTx
    obtain ⟨G', k1⟩ := hold_c (L := L) (xs := xs) (C := C) (M := M) (t := t) (q := [15, c, 0]) (D := stA C [15, c, 0] F') (by simp) (by omega) (hvv t ht) hF (stA_ne (by simp)) (stA_ne (by simp)) stA_same
    obtain ⟨M', k2, k3⟩ := hold_m (L := L) (xs := xs) (C := C) (M := M) (t := t) (w := eW W) (g := eW G) (by omega) b4320 (hvv t ht) hWg
    exact ⟨_, F', G', M', k32, k1, k2, k3⟩
  have way : ∀ w, W = some w → ∃ pr pu, pr ≤ 40000 ∧ pu ≤ 80000 ∧ C.1 [6, 6, c, 0] w = oN pr ∧ C.1 [7, 6, c, 0] w = oN pu ∧ M.1 [1, 1] (60 + w) = oN pr ∧ M.1 [1, 1] (90 + w) = oN pu := fun w hw => by
    obtain ⟨⟨pr, p1, p2, p3⟩, ⟨pu, u1, u2, u3⟩, -⟩ := g4 w (hW w hw)
    exact ⟨pr, pu, by omega, by omega, p2, u2, p3, u3⟩
  have hw0 : ∀ M' : mM, W = none → M'.1 [1] 35 = eW W → (M'.1 [1] 35 = oM 1 ∧ 0 = 0 ∧ 0 = 0) ∨ ∃ w, w < 24 ∧ M'.1 [1] 35 = oN w ∧ M'.1 [1, 1] (60 + w) = oN 0 ∧ M'.1 [1, 1] (90 + w) = oN 0 := fun M' e h => .inl ⟨by rw [h, e]; rfl, rfl, rfl⟩
  have hg0 : ∀ M' : mM, G = none → M'.1 [1] 36 = eW G → (M'.1 [1] 36 = oM 1 ∧ oN 0 = oN 0 ∧ oN 0 = oN 0 ∧ oN 0 = oN 0 ∧ oN 0 = oN 0 ∧ oN 0 = oN 0 ∧ oN 0 = oN 0) := fun M' e h => ⟨by rw [h, e]; rfl, rfl, rfl, rfl, rfl, rfl, rfl⟩
  cases hg : G with
  | none =>
    rw [hg] at fin hg0
    cases hw : W with
    | none =>
      rw [hw] at fin hw0
      obtain ⟨F', k1, k2⟩ := fields_n0 (L := L) (xs := xs) (C := C) (c := c) (now := now) (F := C.1 [15, c, 0]) b4320 cN h7
      rw [stA_id] at k1
      exact fin F' 0 0 _ _ _ _ _ _ _ k2 k1 (fun M' m1 m13 m35 m36 => ⟨by rw [m1]; exact S5, by rw [m1], hw0 M' rfl m35, .inl (hg0 M' rfl m36)⟩)
    | some w =>
      obtain ⟨pr, pu, p1, p2, p3, p4, p5, p6⟩ := way w hw
      rw [hw] at fin hw0
      have hwn := hW w hw
      obtain ⟨F', k1, k2⟩ := fields_w0 (L := L) (xs := xs) (C := C) (c := c) (w := w) (now := now) (F := C.1 [15, c, 0]) (pr := pr) (pu := pu) b4320 (by omega) (by omega) (by omega) cN p3 p4 h7
      rw [stA_id] at k1
      exact fin F' pr pu _ _ _ _ _ _ _ k2 k1 (fun M' m1 m13 m35 m36 => ⟨by rw [m1]; exact S5, by rw [m1], .inr ⟨w, by omega, m35, by rw [m1]; exact p5, by rw [m1]; exact p6⟩, .inl (hg0 M' rfl m36)⟩)
  | some b =>
    obtain ⟨hb, hk⟩ := hG b hg
    obtain ⟨⟨a1, a2, a3, a4, a5, a6, a7, a8, a9, a10⟩, -, ⟨⟨h, v0, v1, v2⟩, v3, v4, v5, -⟩, -, ⟨ta, n8, ba1, ba2, ba3⟩⟩ := g7 b hb
    rw [hg] at fin
    have hl := lastI_congr (P := fun i => cmpS .le (C.1 [1, 18, b, 10, c, 0] i) (oN now)) (Q := fun i => cmpS .le (M.1 [1, 1] (900 + 16 * b + 2 * i)) (M.1 [1, 1] 5)) (n := ta) (fun i hi => by
      show cmpS .le (C.1 [1, 18, b, 10, c, 0] i) (oN now) = cmpS .le (M.1 [1, 1] (900 + 16 * b + 2 * i)) (M.1 [1, 1] 5)
      rw [(ba3 i hi).1, S5])
    have h62 : ∀ H : Nat → Int32, kI L xs 62 [vr 6 [18, b, 10, c, 0], vi (oN now)] (stA C [15, c, 0] H) = some (encI (lastI (fun i => cmpS .le (M.1 [1, 1] (900 + 16 * b + 2 * i)) (M.1 [1, 1] 5)) ta), stA C [15, c, 0] H) := fun H => by
      have := s_62 (L := L) (xs := xs) (C := stA C [15, c, 0] H) (p := [18, b, 10, c, 0]) (T := oN now) (n := ta) n8 (by rw [stA_ne (by simp)]; exact ba1)
      rw [this, ← hl]
      congr 3
    have grp : ∀ M' : mM, M'.1 [1, 1] = M.1 [1, 1] → M'.1 [13, 1] = M.1 [13, 1] → M'.1 [1] 36 = oN b → ∃ b', b' < 40 ∧ M'.1 [1] 36 = oN b' ∧ M'.1 [1, 1] (200 + 16 * b' + 3) = C.1 [b, 10, c, 0] 6 ∧ M'.1 [13, 1] b' = C.1 [b, 10, c, 0] 8 ∧
        kI L xs 198 [vr 10 [1], vi (oN b')] M' = some (lateV (M.1 [1, 1]) now b (lastI (fun i => cmpS .le (M.1 [1, 1] (900 + 16 * b + 2 * i)) (M.1 [1, 1] 5)) ta), M') ∧ M'.1 [1, 1] (200 + 16 * b' + 4) = C.1 [b, 10, c, 0] 9 ∧ M'.1 [1, 1] (200 + 16 * b' + 5) = C.1 [b, 10, c, 0] 10 ∧ M'.1 [1, 1] (200 + 16 * b' + 6) = C.1 [b, 10, c, 0] 11 := fun M' m1 m13 m36 => by
      refine ⟨b, by omega, m36, by rw [m1, v2, v1], by rw [m13]; exact (a10 (by omega)).symm, ?_, by rw [m1]; exact v3.symm, by rw [m1]; exact v4.symm, by rw [m1]; exact v5.symm⟩
      have := s_198 (L := L) (xs := xs) (M := M') (now := now) (g := b) (n := ta) (by omega) n8 (by rw [m1]; exact S5) (by rw [m1]; exact ba2)
      rw [this, m1]
    cases hL : lastI (fun i => cmpS .le (M.1 [1, 1] (900 + 16 * b + 2 * i)) (M.1 [1, 1] 5)) ta with
    | none =>
      rw [hL] at h62 grp
      cases hw : W with
      | none =>
        rw [hw] at fin hw0
        obtain ⟨F', k1, k2⟩ := fields_g0 (L := L) (xs := xs) (C := C) (c := c) (now := now) (F := C.1 [15, c, 0]) (b := b) (m := 0) (i := 0) b4320 cN h7 h62
        rw [stA_id] at k1
        exact fin F' 0 0 _ _ _ _ _ _ _ k2 k1 (fun M' m1 m13 m35 m36 => ⟨by rw [m1]; exact S5, by rw [m1], hw0 M' rfl m35, .inr (grp M' m1 m13 m36)⟩)
      | some w =>
        obtain ⟨pr, pu, p1, p2, p3, p4, p5, p6⟩ := way w hw
        rw [hw] at fin hw0
        have hwn := hW w hw
        obtain ⟨F', k1, k2⟩ := fields_b0 (L := L) (xs := xs) (C := C) (c := c) (w := w) (now := now) (F := C.1 [15, c, 0]) (pr := pr) (pu := pu) (b := b) (m := 0) (i := 0) b4320 (by omega) (by omega) (by omega) cN p3 p4 h7 h62
        rw [stA_id] at k1
        exact fin F' pr pu _ _ _ _ _ _ _ k2 k1 (fun M' m1 m13 m35 m36 => ⟨by rw [m1]; exact S5, by rw [m1], .inr ⟨w, by omega, m35, by rw [m1]; exact p5, by rw [m1]; exact p6⟩, .inr (grp M' m1 m13 m36)⟩)
    | some i =>
      have hi := lastI_lt hL
      rw [hL] at h62 grp
      have hm' : C.1 [1, 18, b, 10, c, 0] i = M.1 [1, 1] (900 + 16 * b + 2 * i) := (ba3 i hi).1
      cases hw : W with
      | none =>
        rw [hw] at fin hw0
        obtain ⟨F', k1, k2⟩ := fields_g1 (L := L) (xs := xs) (C := C) (c := c) (now := now) (F := C.1 [15, c, 0]) (b := b) (i := i) b4320 cN h7 h62 (by omega) hm'
        rw [stA_id] at k1
        exact fin F' 0 0 _ _ _ _ _ _ _ k2 k1 (fun M' m1 m13 m35 m36 => ⟨by rw [m1]; exact S5, by rw [m1], hw0 M' rfl m35, .inr (grp M' m1 m13 m36)⟩)
      | some w =>
        obtain ⟨pr, pu, p1, p2, p3, p4, p5, p6⟩ := way w hw
        rw [hw] at fin hw0
        have hwn := hW w hw
        obtain ⟨F', k1, k2⟩ := fields_b1 (L := L) (xs := xs) (C := C) (c := c) (w := w) (now := now) (F := C.1 [15, c, 0]) (pr := pr) (pu := pu) (b := b) (i := i) b4320 (by omega) (by omega) (by omega) cN p3 p4 h7 h62 (by omega) hm'
        rw [stA_id] at k1
        exact fin F' pr pu _ _ _ _ _ _ _ k2 k1 (fun M' m1 m13 m35 m36 => ⟨by rw [m1]; exact S5, by rw [m1], .inr ⟨w, by omega, m35, by rw [m1]; exact p5, by rw [m1]; exact p6⟩, .inr (grp M' m1 m13 m36)⟩)
end TextG
