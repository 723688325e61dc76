section Law7
variable {L : Nat} {xs : Nat → Int32} {C C' M M' mem : mM} {hm i : Nat} {f : List Nat → Nat → Int32} {d : Nat}
theorem sE_n {a b : Int32} (h : inB a 8 = false) : sEle f a b = (oN 1, oN 0) := by
  unfold sEle
  rw [h]
  rfl
theorem sE_x {b : Int32} (hd : d < 8) (h : f [d, 6, 0] 0 = oN 0 ∨ f [d, 6, 0] 0 = oN 1) : sEle f (oN d) b = (oN 2, oN 0) := by
  unfold sEle
  rw [inB_t hd, n_tN (by omega)]
  dsimp only [cond_true]
  rw [if_neg]
  · rfl
  · rcases h with h | h <;> rw [h] <;> decide
theorem sE_m {b : Nat} (hd : d < 8) (h : f [d, 6, 0] 0 = oN 2) (h0 : 0 < b) (h1 : b ≤ 2147483648) : sEle f (oN d) (oM b) = (oN 2, oN 0) := by
  have hlt : oM b < (0 : Int32) := by
    refine Int32.lt_iff_toInt_lt.mpr ?_
    rw [m_toI h1]
    have h0 : (0 : Int32).toInt = 0 := by decide
    omega
  unfold sEle
  rw [inB_t hd, n_tN (by omega)]
  dsimp only [cond_true]
  rw [h, if_pos (by decide), if_pos hlt]
  rfl
theorem sub1_lt {n b : Nat} (hn : n ≤ 80) (hb : b < 2147483648) : oN n - 1 < oN b ↔ n ≤ b := by
  rw [Int32.lt_iff_toInt_lt, n_toI hb]
  have e : (oN n - 1 : Int32).toInt = (n : Int) - 1 := by
    by_cases q : n = 0
    · subst q; rfl
    · have : (oN n - 1 : Int32) = oN (n - 1) := n_sub (a := n) (b := 1) (by omega)
      rw [this, n_toI (by omega)]
      omega
  rw [e]
  omega
theorem sE_o {b n : Nat} (hd : d < 8) (h : f [d, 6, 0] 0 = oN 2) (h3 : f [d, 6, 0] 3 = oN n) (hn : n ≤ 80) (hb : b < 2147483648) (hnb : n ≤ b) : sEle f (oN d) (oN b) = (oN 2, oN 0) := by
  unfold sEle
  rw [inB_t hd, n_tN (by omega)]
  dsimp only [cond_true]
  rw [h, h3, if_pos (by decide), if_neg (lt0_n hb), if_pos ((sub1_lt hn hb).mpr hnb)]
  rfl
theorem sE_v {b n : Nat} (hd : d < 8) (h : f [d, 6, 0] 0 = oN 2) (h3 : f [d, 6, 0] 3 = oN n) (hn : n ≤ 80) (hnb : b < n) : sEle f (oN d) (oN b) = (oN 0, f [4, d, 6, 0] b) := by
  unfold sEle
  rw [inB_t hd, n_tN (by omega), n_tN (by omega)]
  dsimp only [cond_true]
  rw [h, h3, if_pos (by decide), if_neg (lt0_n (by omega)), if_neg (fun q => by have := (sub1_lt hn (show b < 2147483648 by omega)).mp q; omega)]
  rfl
theorem sEC_1 {a b : Int32} (h : (sEle f a b).1 ≠ 0) : sElC f a b = 1 := by
  unfold sElC
  exact if_neg (fun q => h q.1)
theorem sEC_ok (hSh : rSh C M) (a1 a2 : Int32) : sElC C.1 a1 a2 = 1 := by
  rcases I_cases a1 with ⟨d, d1, rfl⟩ | ⟨d, d0, d1, rfl⟩
  case inr => exact sEC_1 (by rw [sE_n (inB_m d0 d1)]; decide)
  by_cases hd : d < 8
  case neg => exact sEC_1 (by rw [sE_n (inB_f (by omega) d1)]; decide)
  rcases hSh d hd with ⟨h1, h2⟩ | ⟨h1, h2, -⟩ | ⟨h1, h2, s, n, s2, n80, -, -, h3, h4, h5, -⟩
  · exact sEC_1 (by rw [sE_x hd (.inl h1)]; decide)
  · exact sEC_1 (by rw [sE_x hd (.inr h1)]; decide)
  · rcases I_cases a2 with ⟨b, b1, rfl⟩ | ⟨b, b0, b1, rfl⟩
    case inr => exact sEC_1 (by rw [sE_m hd h1 b0 b1]; decide)
    by_cases hb : b < n
    · unfold sElC
      refine if_neg (fun q => q.2 ?_)
      rw [← inS_eq]
      exact n_inS (by omega) (by omega)
    · exact sEC_1 (by rw [sE_o hd h1 h3 n80 b1 (by omega)]; decide)
theorem kJ_of {t : Nat} {as : List mV} {m m' : mM} {v : Int64} (h : call L xs t as m = some (some (vl v), m')) : kJ L xs t as m = some (v, m') := by
  unfold kJ
  rw [h]
  rfl
theorem mm11 : cmpS .ne (oM 11) (oM 1) = true := by rw [c_ne]; decide
theorem mm12 : cmpS .ne (oM 12) (oM 1) = true := by rw [c_ne]; decide
theorem mm1l : cmpS .lt (oM 11) (oN 0) = true ∧ cmpS .lt (oM 12) (oN 0) = true := ⟨mn_lt (by omega) (by omega) (by omega), mn_lt (by omega) (by omega) (by omega)⟩
theorem ele_ok (hSh : rSh C M) (a1 a2 : Int32) : ∃ r : Nat, r ≤ 2 ∧ (sEle C.1 a1 a2).1 = oN r ∧ ∃ w, kJ L xs 161 [vr 10 [1], vi a1, vi a2] M = some (w, wI M [1] 0 (oN r)) ∧ (r = 0 → w = (sEle C.1 a1 a2).2.toInt64) := by
  have e := e_161 L xs [1] a1 a2 M
  have f := e_252 L xs [1] a1 M
  rcases I_cases a1 with ⟨d, d1, rfl⟩ | ⟨d, d0, d1, rfl⟩
  case inr =>
    simp (disch := omega) only [↓Bool.cond_eq_ite, ↓reduceIte, Bool.false_eq_true, eq_self, n_lit, n_neg, n_add, n_mul, n_sub, n_subM, n_div, n_mod, n_addM, m_div, m_subn, n_tN, n_inS, n_eq_t, n_eq_f, n_ne_t, n_ne_f, n_lt_t, n_lt_f, n_ge_t, n_ge_f, n_gt_t, n_gt_f, n_le_t, n_le_f, mn_eq, mn_ne, mn_lt, mn_ge, mn_gt, mn_le, nm_eq, nm_ne, nm_lt, nm_ge, nm_gt, nm_le, n_gts_t, c_eq_refl, c_ne_refl, w_fold, w_2, wC_fold, lt_M, cond_true, cond_false, Bool.and_true, Bool.true_and, Bool.and_false, Bool.false_and, Bool.not_true, Bool.not_false, isZS_0, isZS_1] at f
    have f := kI_of f
    simp (disch := omega) only [↓Bool.cond_eq_ite, ↓reduceIte, Bool.false_eq_true, eq_self, n_lit, n_neg, n_add, n_mul, n_sub, n_subM, n_div, n_mod, n_addM, m_div, m_subn, n_tN, n_inS, n_eq_t, n_eq_f, n_ne_t, n_ne_f, n_lt_t, n_lt_f, n_ge_t, n_ge_f, n_gt_t, n_gt_f, n_le_t, n_le_f, mn_eq, mn_ne, mn_lt, mn_ge, mn_gt, mn_le, nm_eq, nm_ne, nm_lt, nm_ge, nm_gt, nm_le, n_gts_t, c_eq_refl, c_ne_refl, w_fold, wC_fold, lt_M, cond_true, cond_false, Bool.and_true, Bool.true_and, Bool.and_false, Bool.false_and, Bool.not_true, Bool.not_false, isZS_0, isZS_1, f, w_at, true_and, if_true, Option.bind_some] at e
    refine ⟨1, by omega, by rw [sE_n (inB_m d0 d1)], _, kJ_of e, fun h => by omega⟩
  by_cases hd : d < 8
  case neg =>
    simp (disch := omega) only [↓Bool.cond_eq_ite, ↓reduceIte, Bool.false_eq_true, eq_self, n_lit, n_neg, n_add, n_mul, n_sub, n_subM, n_div, n_mod, n_addM, m_div, m_subn, n_tN, n_inS, n_eq_t, n_eq_f, n_ne_t, n_ne_f, n_lt_t, n_lt_f, n_ge_t, n_ge_f, n_gt_t, n_gt_f, n_le_t, n_le_f, mn_eq, mn_ne, mn_lt, mn_ge, mn_gt, mn_le, nm_eq, nm_ne, nm_lt, nm_ge, nm_gt, nm_le, n_gts_t, c_eq_refl, c_ne_refl, w_fold, w_2, wC_fold, lt_M, cond_true, cond_false, Bool.and_true, Bool.true_and, Bool.and_false, Bool.false_and, Bool.not_true, Bool.not_false, isZS_0, isZS_1] at f
    have f := kI_of f
    simp (disch := omega) only [↓Bool.cond_eq_ite, ↓reduceIte, Bool.false_eq_true, eq_self, n_lit, n_neg, n_add, n_mul, n_sub, n_subM, n_div, n_mod, n_addM, m_div, m_subn, n_tN, n_inS, n_eq_t, n_eq_f, n_ne_t, n_ne_f, n_lt_t, n_lt_f, n_ge_t, n_ge_f, n_gt_t, n_gt_f, n_le_t, n_le_f, mn_eq, mn_ne, mn_lt, mn_ge, mn_gt, mn_le, nm_eq, nm_ne, nm_lt, nm_ge, nm_gt, nm_le, n_gts_t, c_eq_refl, c_ne_refl, w_fold, wC_fold, lt_M, cond_true, cond_false, Bool.and_true, Bool.true_and, Bool.and_false, Bool.false_and, Bool.not_true, Bool.not_false, isZS_0, isZS_1, f, w_at, true_and, if_true, Option.bind_some] at e
    refine ⟨1, by omega, by rw [sE_n (inB_f (by omega) d1)], _, kJ_of e, fun h => by omega⟩
  rcases hSh d hd with ⟨h1, h2⟩ | ⟨h1, h2, -⟩ | ⟨h1, h2, s, n, s2, n80, -, -, h3, h4, h5, -⟩
  · simp (disch := omega) only [↓Bool.cond_eq_ite, ↓reduceIte, Bool.false_eq_true, eq_self, n_lit, n_neg, n_add, n_mul, n_sub, n_subM, n_div, n_mod, n_addM, m_div, m_subn, n_tN, n_inS, n_eq_t, n_eq_f, n_ne_t, n_ne_f, n_lt_t, n_lt_f, n_ge_t, n_ge_f, n_gt_t, n_gt_f, n_le_t, n_le_f, mn_eq, mn_ne, mn_lt, mn_ge, mn_gt, mn_le, nm_eq, nm_ne, nm_lt, nm_ge, nm_gt, nm_le, n_gts_t, c_eq_refl, c_ne_refl, w_fold, w_2, wC_fold, lt_M, cond_true, cond_false, Bool.and_true, Bool.true_and, Bool.and_false, Bool.false_and, Bool.not_true, Bool.not_false, isZS_0, isZS_1, h2] at f
    have f := kI_of f
    simp (disch := omega) only [↓Bool.cond_eq_ite, ↓reduceIte, Bool.false_eq_true, eq_self, n_lit, n_neg, n_add, n_mul, n_sub, n_subM, n_div, n_mod, n_addM, m_div, m_subn, n_tN, n_inS, n_eq_t, n_eq_f, n_ne_t, n_ne_f, n_lt_t, n_lt_f, n_ge_t, n_ge_f, n_gt_t, n_gt_f, n_le_t, n_le_f, mn_eq, mn_ne, mn_lt, mn_ge, mn_gt, mn_le, nm_eq, nm_ne, nm_lt, nm_ge, nm_gt, nm_le, n_gts_t, c_eq_refl, c_ne_refl, w_fold, wC_fold, lt_M, cond_true, cond_false, Bool.and_true, Bool.true_and, Bool.and_false, Bool.false_and, Bool.not_true, Bool.not_false, isZS_0, isZS_1, f, mm11, mm12, w_at, true_and, if_true, Option.bind_some] at e
    exact ⟨2, by omega, by rw [sE_x hd (.inl h1)], _, kJ_of e, fun h => by omega⟩
  · simp (disch := omega) only [↓Bool.cond_eq_ite, ↓reduceIte, Bool.false_eq_true, eq_self, n_lit, n_neg, n_add, n_mul, n_sub, n_subM, n_div, n_mod, n_addM, m_div, m_subn, n_tN, n_inS, n_eq_t, n_eq_f, n_ne_t, n_ne_f, n_lt_t, n_lt_f, n_ge_t, n_ge_f, n_gt_t, n_gt_f, n_le_t, n_le_f, mn_eq, mn_ne, mn_lt, mn_ge, mn_gt, mn_le, nm_eq, nm_ne, nm_lt, nm_ge, nm_gt, nm_le, n_gts_t, c_eq_refl, c_ne_refl, w_fold, w_2, wC_fold, lt_M, cond_true, cond_false, Bool.and_true, Bool.true_and, Bool.and_false, Bool.false_and, Bool.not_true, Bool.not_false, isZS_0, isZS_1, h2] at f
    have f := kI_of f
    simp (disch := omega) only [↓Bool.cond_eq_ite, ↓reduceIte, Bool.false_eq_true, eq_self, n_lit, n_neg, n_add, n_mul, n_sub, n_subM, n_div, n_mod, n_addM, m_div, m_subn, n_tN, n_inS, n_eq_t, n_eq_f, n_ne_t, n_ne_f, n_lt_t, n_lt_f, n_ge_t, n_ge_f, n_gt_t, n_gt_f, n_le_t, n_le_f, mn_eq, mn_ne, mn_lt, mn_ge, mn_gt, mn_le, nm_eq, nm_ne, nm_lt, nm_ge, nm_gt, nm_le, n_gts_t, c_eq_refl, c_ne_refl, w_fold, wC_fold, lt_M, cond_true, cond_false, Bool.and_true, Bool.true_and, Bool.and_false, Bool.false_and, Bool.not_true, Bool.not_false, isZS_0, isZS_1, f, mm11, mm12, w_at, true_and, if_true, Option.bind_some] at e
    exact ⟨2, by omega, by rw [sE_x hd (.inr h1)], _, kJ_of e, fun h => by omega⟩
  · simp (disch := omega) only [↓Bool.cond_eq_ite, ↓reduceIte, Bool.false_eq_true, eq_self, n_lit, n_neg, n_add, n_mul, n_sub, n_subM, n_div, n_mod, n_addM, m_div, m_subn, n_tN, n_inS, n_eq_t, n_eq_f, n_ne_t, n_ne_f, n_lt_t, n_lt_f, n_ge_t, n_ge_f, n_gt_t, n_gt_f, n_le_t, n_le_f, mn_eq, mn_ne, mn_lt, mn_ge, mn_gt, mn_le, nm_eq, nm_ne, nm_lt, nm_ge, nm_gt, nm_le, n_gts_t, c_eq_refl, c_ne_refl, w_fold, w_2, wC_fold, lt_M, cond_true, cond_false, Bool.and_true, Bool.true_and, Bool.and_false, Bool.false_and, Bool.not_true, Bool.not_false, isZS_0, isZS_1, h2] at f
    have f := kI_of f
    rcases I_cases a2 with ⟨b, b1, rfl⟩ | ⟨b, b0, b1, rfl⟩
    case inr =>
      simp (disch := omega) only [↓Bool.cond_eq_ite, ↓reduceIte, Bool.false_eq_true, eq_self, n_lit, n_neg, n_add, n_mul, n_sub, n_subM, n_div, n_mod, n_addM, m_div, m_subn, n_tN, n_inS, n_eq_t, n_eq_f, n_ne_t, n_ne_f, n_lt_t, n_lt_f, n_ge_t, n_ge_f, n_gt_t, n_gt_f, n_le_t, n_le_f, mn_eq, mn_ne, mn_lt, mn_ge, mn_gt, mn_le, nm_eq, nm_ne, nm_lt, nm_ge, nm_gt, nm_le, n_gts_t, c_eq_refl, c_ne_refl, w_fold, wC_fold, lt_M, cond_true, cond_false, Bool.and_true, Bool.true_and, Bool.and_false, Bool.false_and, Bool.not_true, Bool.not_false, isZS_0, isZS_1, f, h4, w_at, true_and, if_true, Option.bind_some] at e
      exact ⟨2, by omega, by rw [sE_m hd h1 b0 b1], _, kJ_of e, fun h => by omega⟩
    by_cases hb : b < n
    · have hl : (wI M [1] 0 (oN 0)).2.1 [57, 1] (80 * d + b) = (C.1 [4, d, 6, 0] b).toInt64 := h5 b hb
      simp (disch := omega) only [↓Bool.cond_eq_ite, ↓reduceIte, Bool.false_eq_true, eq_self, n_lit, n_neg, n_add, n_mul, n_sub, n_subM, n_div, n_mod, n_addM, m_div, m_subn, n_tN, n_inS, n_eq_t, n_eq_f, n_ne_t, n_ne_f, n_lt_t, n_lt_f, n_ge_t, n_ge_f, n_gt_t, n_gt_f, n_le_t, n_le_f, mn_eq, mn_ne, mn_lt, mn_ge, mn_gt, mn_le, nm_eq, nm_ne, nm_lt, nm_ge, nm_gt, nm_le, n_gts_t, c_eq_refl, c_ne_refl, w_fold, wC_fold, lt_M, cond_true, cond_false, Bool.and_true, Bool.true_and, Bool.and_false, Bool.false_and, Bool.not_true, Bool.not_false, isZS_0, isZS_1, f, h4, w_at, true_and, if_true, hl, Option.bind_some] at e
      exact ⟨0, by omega, by rw [sE_v hd h1 h3 n80 hb], _, kJ_of e, fun _ => by rw [sE_v hd h1 h3 n80 hb]⟩
    · simp (disch := omega) only [↓Bool.cond_eq_ite, ↓reduceIte, Bool.false_eq_true, eq_self, n_lit, n_neg, n_add, n_mul, n_sub, n_subM, n_div, n_mod, n_addM, m_div, m_subn, n_tN, n_inS, n_eq_t, n_eq_f, n_ne_t, n_ne_f, n_lt_t, n_lt_f, n_ge_t, n_ge_f, n_gt_t, n_gt_f, n_le_t, n_le_f, mn_eq, mn_ne, mn_lt, mn_ge, mn_gt, mn_le, nm_eq, nm_ne, nm_lt, nm_ge, nm_gt, nm_le, n_gts_t, c_eq_refl, c_ne_refl, w_fold, wC_fold, lt_M, cond_true, cond_false, Bool.and_true, Bool.true_and, Bool.and_false, Bool.false_and, Bool.not_true, Bool.not_false, isZS_0, isZS_1, f, h4, w_at, true_and, if_true, Option.bind_some] at e
      exact ⟨2, by omega, by rw [sE_o hd h1 h3 n80 b1 (by omega)], _, kJ_of e, fun h => by omega⟩
set_option maxRecDepth 100000 in
set_option maxHeartbeats 4000000 in
theorem lw_44 (hi : i + 6 ≤ L) (hL : L ≤ 3072) (ht : xs i &&& oN 63 = oN 44) (h : rI L xs mem mem hm) : stO L xs i hm mem := by
  obtain ⟨Z, hZ⟩ : ∃ Z : mM, Z = (mem.1, ((if (sEle mem.1 (xs (i + 1)) (xs (i + 2))).1 = oN 0 then uL mem.2.1 [2] (vp_updL (mem.2.1 [2]) 0 (sEle mem.1 (xs (i + 1)) (xs (i + 2))).2.toInt64) else mem.2.1), mem.2.2 + sElC mem.1 (xs (i + 1)) (xs (i + 2)))) := ⟨_, rfl⟩
  have z1 : Z.1 = mem.1 := by rw [hZ]
  have z57 : Z.2.1 [57, 1] = mem.2.1 [57, 1] := by
    rw [hZ]
    dsimp only
    split
    · exact if_neg (by simp)
    · rfl
  have z15 : Z.2.1 [1, 5, 0] = mem.2.1 [1, 5, 0] := by
    rw [hZ]
    dsimp only
    split
    · exact if_neg (by simp)
    · rfl
  have h' : rI L xs Z Z hm := ri_ex h z1 z57 z15
  have hs : rSh Z Z := rI_rSh h'
  have hC : sElC mem.1 (xs (i + 1)) (xs (i + 2)) = 1 := by
    rw [← z1]
    exact sEC_ok hs _ _
  have hz2 : Z.2.2 = mem.2.2 + 1 := by
    rw [hZ]
    exact congrArg (fun z => mem.2.2 + z) hC
  obtain ⟨r, r2, e1, w, e2, e3⟩ := ele_ok (L := L) (xs := xs) hs (xs (i + 1)) (xs (i + 2))
  have hr : rI L xs (wI Z [1] 0 (oN r)) (wI Z [1] 0 (oN r)) hm := rI_ag (agC_frm (frm_w (und_a []))) (agM_w0 (by decide) (by decide)) h'
  refine ⟨wI Z [1] 0 (oN r), hm, ?_, hr, by omega, by omega, by show Z.2.2 ≤ _; rw [hz2]; exact Nat.le_refl _⟩
  rw [z1] at e1
  have hw : r = 0 → Z.2.1 [2] 0 = w := fun q => by
    rw [e3 q, z1, hZ]
    dsimp only
    rw [if_pos (by rw [e1, q])]
    unfold uL vp_updL
    simp
  have hl : (wI Z [1] 0 (oN r)).2.1 [2] 0 = Z.2.1 [2] 0 := rfl
  have hc : (wI Z [1] 0 (oN r)).1 [1] 0 = oN r := by rw [w_at, if_pos ⟨rfl, rfl⟩]
  rw [e1] at hZ
  unfold lw
  rw [h_256_23]
  by_cases q : r = 0
  · have hw := hw q
    have hlg := lg_e w w
    rw [decide_eq_true rfl] at hlg
    have hq : cmpS .ne (oN r) (oN 0) = false := by rw [q]; exact c_ne_refl _
    simp (disch := omega) only [↓Bool.cond_eq_ite, ↓reduceIte, Bool.false_eq_true, eq_self, n_lit, n_neg, n_add, n_mul, n_sub, n_subM, n_div, n_mod, n_addM, m_div, m_subn, n_tN, n_inS, n_eq_t, n_eq_f, n_ne_t, n_ne_f, n_lt_t, n_lt_f, n_ge_t, n_ge_f, n_gt_t, n_gt_f, n_le_t, n_le_f, mn_eq, mn_ne, mn_lt, mn_ge, mn_gt, mn_le, nm_eq, nm_ne, nm_lt, nm_ge, nm_gt, nm_le, n_gts_t, c_eq_refl, c_ne_refl, w_fold, wC_fold, lt_M, cond_true, cond_false, Bool.and_true, Bool.true_and, Bool.and_false, Bool.false_and, Bool.not_true, Bool.not_false, isZS_0, isZS_1, ← hZ, oNL, ht, e2, e1, hc, hl, hw, hlg, hq, c_eq_refl, Option.bind_some]
  · have hq : cmpS .ne (oN r) (oN 0) = true := n_ne_t (by omega) (by omega) (by omega)
    simp (disch := omega) only [↓Bool.cond_eq_ite, ↓reduceIte, Bool.false_eq_true, eq_self, n_lit, n_neg, n_add, n_mul, n_sub, n_subM, n_div, n_mod, n_addM, m_div, m_subn, n_tN, n_inS, n_eq_t, n_eq_f, n_ne_t, n_ne_f, n_lt_t, n_lt_f, n_ge_t, n_ge_f, n_gt_t, n_gt_f, n_le_t, n_le_f, mn_eq, mn_ne, mn_lt, mn_ge, mn_gt, mn_le, nm_eq, nm_ne, nm_lt, nm_ge, nm_gt, nm_le, n_gts_t, c_eq_refl, c_ne_refl, w_fold, wC_fold, lt_M, cond_true, cond_false, Bool.and_true, Bool.true_and, Bool.and_false, Bool.false_and, Bool.not_true, Bool.not_false, isZS_0, isZS_1, ← hZ, oNL, ht, e2, e1, hc, hl, hq, c_eq_refl, Option.bind_some]
end Law7
