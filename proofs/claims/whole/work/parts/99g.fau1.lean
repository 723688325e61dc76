section Fau1
variable {L : Nat} {xs : Nat → Int32} {C C' M M' : mM} {hm : Nat} {nc nw nb np nt now : Nat} {kd wa wb wd wl ws : Nat → Nat}
theorem byt_all : ∀ k, k < 256 → (⟨UInt8.ofNat k⟩ : Int8).toInt32 = (if k < 128 then oN k else oM (256 - k)) ∧ ((⟨UInt8.ofNat k⟩ : Int8).toInt32.toInt64.toInt32 &&& (255 : Int32)) = oN k := by decide +kernel
theorem byt_of {v : Int32} (h : v.toInt8.toInt32 = v) : ∃ k, k ≤ 255 ∧ v = (if k < 128 then oN k else oM (256 - k)) ∧ (v.toInt64.toInt32 &&& (255 : Int32)) = oN k := by
  have hk : v.toInt8.toUInt8.toNat < 256 := UInt8.toNat_lt _
  have := byt_all _ hk
  rw [UInt8.ofNat_toNat] at this
  have e : (⟨v.toInt8.toUInt8⟩ : Int8) = v.toInt8 := rfl
  rw [e, h] at this
  exact ⟨_, by omega, this⟩
theorem agC_tM {n j : Nat} {fl : Int32} {m : Nat} {F : Nat → Int32} {q : List Nat} : agC C (tM (tC C q n) j fl m F) := by
  have h : ∀ z, z ≠ [4, 0] → z ≠ [2, 4, 0] → z ≠ [4, 4, 0] → (tM (tC C q n) j fl m F).1 z = C.1 z := fun z h1 h2 h3 => by
    unfold tM tC
    rw [stA_ne h2, stA_ne h1, w_ne h1, wC_ne h3]
  have h2 : ∀ t a b, (a ≠ 4 ∨ b ≠ 0) → (tM (tC C q n) j fl m F).1 (t ++ [a, b]) = C.1 (t ++ [a, b]) := fun t a b hab => by
    refine h _ (fun e => ?_) (fun e => ?_) (fun e => ?_) <;>
    · have := congrArg (fun l => l.reverse.take 2) e
      simp at this; omega
  exact ⟨fun t => h2 t 0 0 (by omega), fun t => h2 t 1 0 (by omega), by rw [h [0] (by simp) (by simp) (by simp)], h _ (by simp) (by simp) (by simp), h _ (by simp) (by simp) (by simp), h2 [0] 5 0 (by omega), rfl, fun t => h2 t 6 0 (by omega)⟩
theorem agM_pM {a d vn sn : Nat} {b : Int32} {V S : Nat → Int32} : agM M (pM M a b d vn V sn S) := by
  have h : ∀ k, k ≠ 37 → k ≠ 39 → (pM M a b d vn V sn S).1 [k, 1] = M.1 [k, 1] := fun k h1 h2 => by
    unfold pM
    rw [stA_ne (by simp [h2]), stA_ne (by simp [h1]), stA_ne (by simp)]
  exact ⟨fun i _ => by rw [h 1 (by omega) (by omega)], h 2 (by omega) (by omega), fun k h1 h2 => h k (by omega) (by omega), fun k h1 h2 => h k (by omega) (by omega), rfl, rfl, rfl⟩
theorem agM_w {k : Nat} {v : Int32} (h4 : 4 ≠ k) (h26 : 26 ≠ k) : agM M (wI M [1] k v) := agM_w0 (Ne.symm h4) (Ne.symm h26)
set_option maxRecDepth 8000 in
theorem fau_ok {d n : Nat} (hd : d < 8) (hn : n ≤ 80) (h56 : M.1 [56, 1] d = oN n) (he : ∀ i, i < n → M.2.1 [57, 1] (80 * d + i) = (C.1 [4, d, 6, 0] i).toInt64) (hy : ∀ i, i < n → (C.1 [4, d, 6, 0] i).toInt8.toInt32 = C.1 [4, d, 6, 0] i) :
    ∃ C' M', agC C C' ∧ agM M M' ∧ M'.2 = M.2 ∧ M'.1 [56, 1] = M.1 [56, 1] ∧ C'.2 = C.2 ∧
    ((∃ f, f ≤ 80 ∧ kI L xs 47 [vr 5 [4, 0], vr 1000080 [4, d, 6, 0], vi (oN n)] C = some (oN f, C') ∧ kI L xs 165 [vr 10 [1], vi (oN d)] M = some (oN f, M')) ∨
     (∃ (β : Nat → Nat) (cs : List Nat) (v : (Nat → Int32) → Bool), (∀ i, i < n → β i ≤ 255) ∧ cs.length ≤ n ∧ okc cs ∧ (∀ F s, ev F cs s = b2 (v F) :: s) ∧ (∀ i, i < n → ((M.2.1 [57, 1] (80 * d + i)).toInt32 &&& (255 : Int32)) = oN (β i)) ∧
       (∀ M Fd, mTx M n (bM β) → mFd L xs M Fd → ∃ a d vn V sn S, kI L xs 213 [vr 10 [1]] M = some (b2 (v Fd), pM M a (oN 0) d vn V sn S)) ∧
       kI L xs 47 [vr 5 [4, 0], vr 1000080 [4, d, 6, 0], vi (oN n)] C = some (oM 4, C') ∧ C'.1 [4, 0] 3 = oN cs.length ∧ C'.1 [2, 4, 0] = putL (C.1 [2, 4, 0]) 0 cs ∧ kI L xs 165 [vr 10 [1], vi (oN d)] M = some (oM 1, M'))) := by
  have h1 : ∀ i, ∃ k : Nat, i < n → k ≤ 255 ∧ C.1 [4, d, 6, 0] i = (if k < 128 then oN k else oM (256 - k)) ∧ ((M.2.1 [57, 1] (80 * d + i)).toInt32 &&& (255 : Int32)) = oN k := fun i => by
    by_cases hi : i < n
    · obtain ⟨k, k1, k2, k3⟩ := byt_of (hy i hi)
      exact ⟨k, fun _ => ⟨k1, k2, by rw [he i hi]; exact k3⟩⟩
    · exact ⟨0, fun q => absurd q hi⟩
  obtain ⟨β, hβ⟩ := (Classical.skolem (p := fun i k => _)).mp h1
  have hb : ∀ i, i < n → β i ≤ 255 := fun i hi => (hβ i hi).1
  have hq : ∀ i, i < n → C.1 [4, d, 6, 0] i = bC β i := fun i hi => (hβ i hi).2.1
  obtain ⟨M1, hM1⟩ : ∃ M1, M1 = wI (wI (wI M [1] 29 (oN 1)) [1] 30 (oN (80 * d))) [1] 31 (oN n) := ⟨_, rfl⟩
  have q29 : M1.1 [1] 29 = oN 1 := by rw [hM1]; simp only [w_at]; simp
  have q30 : M1.1 [1] 30 = oN (80 * d) := by rw [hM1]; simp only [w_at]; simp
  have q31 : M1.1 [1] 31 = oN n := by rw [hM1]; simp only [w_at]; simp
  have qo : ∀ p, p ≠ [1] → M1.1 p = M.1 p := fun p hp => by rw [hM1, w_ne hp, w_ne hp, w_ne hp]
  have qag : agM M M1 := by rw [hM1]; exact agM_trans (agM_w (by omega) (by omega)) (agM_trans (agM_w (by omega) (by omega)) (agM_w (by omega) (by omega)))
  have q2 : M1.2 = M.2 := by rw [hM1]; rfl
  have hTx1 : mTx M1 n (bM β) := ⟨hn, q31, d, q30, .inr ⟨q29, hd, fun i hi => by rw [q2]; exact (hβ i hi).2.2⟩⟩
  have hFd : mFd L xs M1 (fun _ => oN 0) := .inr ⟨q29, fun _ _ => rfl⟩
  have k165 : ∀ (x : Int32) (M2 : mM), kI L xs 213 [vr 10 [1]] M1 = some (x, M2) → call L xs 165 [vr 10 [1], vi (oN d)] M = (bif cmpS .eq (M2.1 [1] 33) (oN 0) then some (some (vi (oM 1)), M2) else some (some (vi (M2.1 [1] 32)), M2)) := fun x M2 h => by
    rw [e_165]
    simp (disch := omega) only [↓Bool.cond_eq_ite, ↓reduceIte, Bool.false_eq_true, eq_self, n_lit, n_neg, n_add, n_mul, n_sub, n_subM, n_div, n_mod, n_addM, m_div, m_subn, n_tN, n_inS, n_eq_t, n_eq_f, n_ne_t, n_ne_f, n_lt_t, n_lt_f, n_ge_t, n_ge_f, n_gt_t, n_gt_f, n_le_t, n_le_f, mn_eq, mn_ne, mn_lt, mn_ge, mn_gt, mn_le, nm_eq, nm_ne, nm_lt, nm_ge, nm_gt, nm_le, n_gts_t, c_eq_refl, c_ne_refl, w_fold, wC_fold, lt_M, cond_true, cond_false, Bool.and_true, Bool.true_and, Bool.and_false, Bool.false_and, Bool.not_true, Bool.not_false, isZS_0, isZS_1, w_at, List.cons.injEq, reduceCtorEq, and_false, false_and, and_true, true_and, if_false, Nat.reduceEqDiff, h56, ← hM1, h, Option.bind_some]
    rfl
  have n6 : ∀ M2 : mM, ∀ a b d vn V sn S, M2 = pM M1 a b d vn V sn S → M2.1 [56, 1] = M.1 [56, 1] := fun M2 a b d vn V sn S e => by
    rw [e]
    exact qo [56, 1] (by simp)
  rcases parse_ok (L := L) (xs := xs) (n := n) (β := β) hb hn with ⟨f, f1, f2, f3⟩ | ⟨cs, v, c1, c2, c3, c4, c5⟩
  · obtain ⟨j, m', F', k1⟩ := f2 C _ hq
    obtain ⟨d', vn, V, sn, S, k2⟩ := f3 M1 _ hTx1 hFd
    refine ⟨_, pM M1 f (oN 1) d' vn V sn S, agC_tM, agM_trans qag agM_pM, q2, n6 _ _ _ _ _ _ _ _ rfl, rfl, .inl ⟨f, by omega, k1, kI_of ?_⟩⟩
    rw [k165 _ _ k2]
    simp (disch := omega) only [↓Bool.cond_eq_ite, ↓reduceIte, Bool.false_eq_true, eq_self, n_lit, n_neg, n_add, n_mul, n_sub, n_subM, n_div, n_mod, n_addM, m_div, m_subn, n_tN, n_inS, n_eq_t, n_eq_f, n_ne_t, n_ne_f, n_lt_t, n_lt_f, n_ge_t, n_ge_f, n_gt_t, n_gt_f, n_le_t, n_le_f, mn_eq, mn_ne, mn_lt, mn_ge, mn_gt, mn_le, nm_eq, nm_ne, nm_lt, nm_ge, nm_gt, nm_le, n_gts_t, c_eq_refl, c_ne_refl, w_fold, w_2, wC_fold, lt_M, cond_true, cond_false, Bool.and_true, Bool.true_and, Bool.and_false, Bool.false_and, Bool.not_true, Bool.not_false, isZS_0, isZS_1, pM_33, pM_32]
  · have k1 := c4 C _ hq
    obtain ⟨a, d', vn, V, sn, S, k2⟩ := c5 M1 _ hTx1 hFd
    refine ⟨_, pM M1 a (oN 0) d' vn V sn S, agC_tM, agM_trans qag agM_pM, q2, n6 _ _ _ _ _ _ _ _ rfl, rfl, .inr ⟨β, cs, v, hb, c1, c2, c3, fun i hi => (hβ i hi).2.2, c5, k1, rfl, rfl, kI_of ?_⟩⟩
    rw [k165 _ _ k2]
    simp (disch := omega) only [↓Bool.cond_eq_ite, ↓reduceIte, Bool.false_eq_true, eq_self, n_lit, n_neg, n_add, n_mul, n_sub, n_subM, n_div, n_mod, n_addM, m_div, m_subn, n_tN, n_inS, n_eq_t, n_eq_f, n_ne_t, n_ne_f, n_lt_t, n_lt_f, n_ge_t, n_ge_f, n_gt_t, n_gt_f, n_le_t, n_le_f, mn_eq, mn_ne, mn_lt, mn_ge, mn_gt, mn_le, nm_eq, nm_ne, nm_lt, nm_ge, nm_gt, nm_le, n_gts_t, c_eq_refl, c_ne_refl, w_fold, w_2, wC_fold, lt_M, cond_true, cond_false, Bool.and_true, Bool.true_and, Bool.and_false, Bool.false_and, Bool.not_true, Bool.not_false, isZS_0, isZS_1, pM_33]
theorem rdL_cg {g g' : Nat → Int32} : ∀ {cs : List Nat} {i : Nat}, (∀ j, i ≤ j → j < i + cs.length → g' j = g j) → rdL g i cs → rdL g' i cs
  | [], _, _, _ => trivial
  | c :: cs, i, h, hr => by
    have hl : (c :: cs).length = cs.length + 1 := rfl
    exact ⟨by rw [h i (Nat.le_refl _) (by omega)]; exact hr.1, rdL_cg (fun j h1 h2 => h j (by omega) (by omega)) hr.2⟩
theorem putL_lo : ∀ {F : Nat → Int32} {cs : List Nat} {m j : Nat}, j < m → putL F m cs j = F j
  | _, [], _, _, _ => rfl
  | F, c :: cs, m, j, h => by
    show putL (upd F m (oN c)) (m + 1) cs j = F j
    rw [putL_lo (by omega), upd_ne (by omega)]
theorem rdL_put : ∀ {F : Nat → Int32} {cs : List Nat} {m : Nat}, rdL (putL F m cs) m cs
  | _, [], _ => trivial
  | F, c :: cs, m => by
    refine ⟨?_, (rdL_put : rdL (putL (upd F m (oN c)) (m + 1) cs) (m + 1) cs)⟩
    show putL (upd F m (oN c)) (m + 1) cs m = oN c
    rw [putL_lo (by omega), upd_eq]
theorem rdL_sh {g g' : Nat → Int32} : ∀ {cs : List Nat} {i k : Nat}, (∀ j, j < cs.length → g' (k + j) = g (i + j)) → rdL g i cs → rdL g' k cs
  | [], _, _, _, _ => trivial
  | c :: cs, i, k, h, hr => by
    have hl : (c :: cs).length = cs.length + 1 := rfl
    have h0 := h 0 (by omega)
    rw [Nat.add_zero, Nat.add_zero] at h0
    exact ⟨by rw [h0]; exact hr.1, rdL_sh (fun j hj => by
      have := h (j + 1) (by omega)
      rw [show k + 1 + j = k + (j + 1) by omega, show i + 1 + j = i + (j + 1) by omega]
      exact this) hr.2⟩
theorem txt_cg {cod cod' byt byt' : Nat → Int32} {sz sz' len len' : Int32} {t : Nat} (h1 : ∀ j, 80 * t ≤ j → j < 80 * t + 80 → cod' j = cod j) (h2 : sz' = sz) (h3 : ∀ j, 80 * t ≤ j → j < 80 * t + 80 → byt' j = byt j) (h4 : len' = len) (h : txt L xs cod sz byt len t) : txt L xs cod' sz' byt' len' t := by
  obtain ⟨n, β, cs, v, a1, a2, a3, a4, a5, a6, a7, a8, a9, a10⟩ := h
  exact ⟨n, β, cs, v, a1, a2, a3, a4, a5, rdL_cg (fun j x1 x2 => h1 j x1 (by omega)) a6, by rw [h2]; exact a7, by rw [h4]; exact a8, fun i hi => by rw [h3 _ (by omega) (by omega)]; exact a9 i hi, a10⟩
end Fau1
