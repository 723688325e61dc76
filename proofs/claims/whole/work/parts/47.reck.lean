section Reck
variable {L : Nat} {xs : Nat → Int32} {C : mM} {q : List Nat} {nc nw : Nat} {wa wb wl ws : Nat → Nat}
theorem stA_same {p : List Nat} {F : Nat → Int32} : (stA C p F).1 p = F := if_pos rfl
theorem stA_ne {p z : List Nat} {F : Nat → Int32} (h : z ≠ p) : (stA C p F).1 z = C.1 z := if_neg h
theorem stA_2 {p : List Nat} {F : Nat → Int32} : (stA C p F).2 = C.2 := rfl
theorem stA_w {p : List Nat} {F : Nat → Int32} {k : Nat} {v : Int32} : wI (stA C p F) p k v = stA C p (upd F k v) := by
  unfold wI stA
  refine Prod.ext (funext fun z => ?_) rfl
  show uI _ _ _ z = uI _ _ _ z
  rw [uI_fun, uI_fun]
  by_cases h : z = p
  · subst h
    rw [if_pos rfl, if_pos rfl]
    show upd (uI C.1 z F z) k v = _
    rw [show uI C.1 z F z = F from if_pos rfl]
  · rw [if_neg h, if_neg h]
    show uI C.1 p F z = _
    exact if_neg h
theorem stA_u {p : List Nat} {F G : Nat → Int32} : (uI (stA C p F).1 p G, (stA C p F).2) = stA C p G := by
  refine Prod.ext (funext fun z => ?_) rfl
  show uI _ _ _ z = uI _ _ _ z
  rw [uI_fun, uI_fun]
  by_cases h : z = p
  · rw [if_pos h, if_pos h]
  · rw [if_neg h, if_neg h]
    show uI C.1 p F z = _
    exact if_neg h
theorem stA_id {p : List Nat} : stA C p (C.1 p) = C := by
  refine Prod.ext (funext fun z => ?_) rfl
  show uI _ _ _ z = _
  rw [uI_fun]
  by_cases h : z = p
  · subst h; exact if_pos rfl
  · exact if_neg h
theorem upd_at (F : Nat → Int32) (k j : Nat) (v : Int32) : upd F k v j = if j = k then v else F j := rfl
def fD (F : Nat → Int32) (d : Nat → Nat → Nat) (nc : Nat) : Prop := ∀ u v, u < nc → v < nc → F (u * 16 + v) = oN (d u v)
def cWy (q : List Nat) (C : mM) (nc nw : Nat) (wa wb wl ws : Nat → Nat) : Prop := C.1 q 0 = oN nw ∧ nc ≤ 16 ∧ nw ≤ 24 ∧ ∀ w, w < nw → wa w < nc ∧ wb w < nc ∧ wa w ≠ wb w ∧ 1 ≤ wl w ∧ wl w ≤ 30 ∧ ws w ≤ 3 ∧ C.1 (1 :: q) w = oN (wa w) ∧ C.1 (2 :: q) w = oN (wb w) ∧ C.1 (4 :: q) w = oN (wl w) ∧ C.1 (5 :: q) w = oN (ws w)
theorem cWy_st {F : Nat → Int32} (h : cWy q C nc nw wa wb wl ws) : cWy q (stA C (12 :: q) F) nc nw wa wb wl ws := by
  unfold cWy at h ⊢
  have hq : q ≠ 12 :: q := fun e => by have := congrArg List.length e; simp at this
  rw [stA_ne hq, stA_ne (z := 1 :: q) (by simp), stA_ne (z := 2 :: q) (by simp), stA_ne (z := 4 :: q) (by simp), stA_ne (z := 5 :: q) (by simp)]
  exact h
def P1 (nc u v : Nat) (F : Nat → Int32) : Prop := ∀ a b, a < nc → b < nc → (a < u ∨ (a = u ∧ b < v)) → F (a * 16 + b) = oN (if a = b then 0 else 1000000)
set_option maxRecDepth 8000 in
theorem k1_row (h16 : nc ≤ 16) {u : Nat} (hu : u < nc) : ∀ (k v : Nat) (F : Nat → Int32), v + k = nc → P1 nc u v F → ∃ F', run L xs 77 27 (17, [some (vr 8 q), some (vi (oN nc)), some (vi (oN u)), some (vi (oN v)), none], [], stA C (12 :: q) F) = run L xs 77 27 (10, [some (vr 8 q), some (vi (oN nc)), some (vi (oN (u + 1))), none, none], [], stA C (12 :: q) F') ∧ P1 nc (u + 1) 0 F'
  | 0, v, F, h, hp => by
    refine ⟨F, ?_, fun a b ha hb hab => hp a b ha hb (by omega)⟩
    rw [h_77_17]
    simp (disch := omega) only [↓Bool.cond_eq_ite, ↓reduceIte, Bool.false_eq_true, eq_self, n_lit, n_neg, n_add, n_mul, n_sub, n_subM, n_div, n_mod, n_addM, m_div, m_subn, n_tN, n_inS, n_eq_t, n_eq_f, n_ne_t, n_ne_f, n_lt_t, n_lt_f, n_ge_t, n_ge_f, n_gt_t, n_gt_f, n_le_t, n_le_f, mn_eq, mn_ne, mn_lt, mn_ge, mn_gt, mn_le, nm_eq, nm_ne, nm_lt, nm_ge, nm_gt, nm_le, n_gts_t, c_eq_refl, c_ne_refl, w_fold, w_2, wC_fold, lt_M, cond_true, cond_false, Bool.and_true, Bool.true_and, Bool.and_false, Bool.false_and, Bool.not_true, Bool.not_false, isZS_0, isZS_1]
  | k + 1, v, F, h, hp => by
    rw [h_77_17]
    by_cases e : u = v
    · have hx := k1_row h16 hu k (v + 1) (upd F (u * 16 + v) (oN 0)) (by omega) (fun a b ha hb hab => by
        rw [upd_at]
        by_cases z : a = u ∧ b = v
        · rw [if_pos (by rw [z.1, z.2]), if_pos (by omega)]
        · rw [if_neg (by omega)]; exact hp a b ha hb (by omega))
      obtain ⟨F', h1, h2⟩ := hx
      refine ⟨F', ?_, h2⟩
      rw [← h1, ← stA_w]
      simp (disch := omega) only [↓Bool.cond_eq_ite, ↓reduceIte, Bool.false_eq_true, eq_self, n_lit, n_neg, n_add, n_mul, n_sub, n_subM, n_div, n_mod, n_addM, m_div, m_subn, n_tN, n_inS, n_eq_t, n_eq_f, n_ne_t, n_ne_f, n_lt_t, n_lt_f, n_ge_t, n_ge_f, n_gt_t, n_gt_f, n_le_t, n_le_f, mn_eq, mn_ne, mn_lt, mn_ge, mn_gt, mn_le, nm_eq, nm_ne, nm_lt, nm_ge, nm_gt, nm_le, n_gts_t, c_eq_refl, c_ne_refl, w_fold, w_2, wC_fold, lt_M, cond_true, cond_false, Bool.and_true, Bool.true_and, Bool.and_false, Bool.false_and, Bool.not_true, Bool.not_false, isZS_0, isZS_1]
    · have hx := k1_row h16 hu k (v + 1) (upd F (u * 16 + v) (oN 1000000)) (by omega) (fun a b ha hb hab => by
        rw [upd_at]
        by_cases z : a = u ∧ b = v
        · rw [if_pos (by rw [z.1, z.2]), if_neg (by omega)]
        · rw [if_neg (by omega)]; exact hp a b ha hb (by omega))
      obtain ⟨F', h1, h2⟩ := hx
      refine ⟨F', ?_, h2⟩
      rw [← h1, ← stA_w]
      simp (disch := omega) only [↓Bool.cond_eq_ite, ↓reduceIte, Bool.false_eq_true, eq_self, n_lit, n_neg, n_add, n_mul, n_sub, n_subM, n_div, n_mod, n_addM, m_div, m_subn, n_tN, n_inS, n_eq_t, n_eq_f, n_ne_t, n_ne_f, n_lt_t, n_lt_f, n_ge_t, n_ge_f, n_gt_t, n_gt_f, n_le_t, n_le_f, mn_eq, mn_ne, mn_lt, mn_ge, mn_gt, mn_le, nm_eq, nm_ne, nm_lt, nm_ge, nm_gt, nm_le, n_gts_t, c_eq_refl, c_ne_refl, w_fold, w_2, wC_fold, lt_M, cond_true, cond_false, Bool.and_true, Bool.true_and, Bool.and_false, Bool.false_and, Bool.not_true, Bool.not_false, isZS_0, isZS_1]
theorem k1_all (h16 : nc ≤ 16) : ∀ (k u : Nat) (F : Nat → Int32), u + k = nc → P1 nc u 0 F → ∃ F', run L xs 77 27 (10, [some (vr 8 q), some (vi (oN nc)), some (vi (oN u)), none, none], [], stA C (12 :: q) F) = run L xs 77 27 (58, [some (vr 8 q), some (vi (oN nc)), some (vi (oN 0)), none, none], [], stA C (12 :: q) F') ∧ P1 nc nc 0 F'
  | 0, u, F, h, hp => by
    refine ⟨F, ?_, by rw [show nc = u by omega] at hp ⊢; exact hp⟩
    rw [h_77_10]
    simp (disch := omega) only [↓Bool.cond_eq_ite, ↓reduceIte, Bool.false_eq_true, eq_self, n_lit, n_neg, n_add, n_mul, n_sub, n_subM, n_div, n_mod, n_addM, m_div, m_subn, n_tN, n_inS, n_eq_t, n_eq_f, n_ne_t, n_ne_f, n_lt_t, n_lt_f, n_ge_t, n_ge_f, n_gt_t, n_gt_f, n_le_t, n_le_f, mn_eq, mn_ne, mn_lt, mn_ge, mn_gt, mn_le, nm_eq, nm_ne, nm_lt, nm_ge, nm_gt, nm_le, n_gts_t, c_eq_refl, c_ne_refl, w_fold, w_2, wC_fold, lt_M, cond_true, cond_false, Bool.and_true, Bool.true_and, Bool.and_false, Bool.false_and, Bool.not_true, Bool.not_false, isZS_0, isZS_1]
  | k + 1, u, F, h, hp => by
    obtain ⟨F1, a1, a2⟩ := k1_row (L := L) (xs := xs) (C := C) (q := q) h16 (show u < nc by omega) nc 0 F (by omega) hp
    obtain ⟨F2, b1, b2⟩ := k1_all h16 k (u + 1) F1 (by omega) a2
    refine ⟨F2, ?_, b2⟩
    rw [h_77_10, ← b1, ← a1]
    simp (disch := omega) only [↓Bool.cond_eq_ite, ↓reduceIte, Bool.false_eq_true, eq_self, n_lit, n_neg, n_add, n_mul, n_sub, n_subM, n_div, n_mod, n_addM, m_div, m_subn, n_tN, n_inS, n_eq_t, n_eq_f, n_ne_t, n_ne_f, n_lt_t, n_lt_f, n_ge_t, n_ge_f, n_gt_t, n_gt_f, n_le_t, n_le_f, mn_eq, mn_ne, mn_lt, mn_ge, mn_gt, mn_le, nm_eq, nm_ne, nm_lt, nm_ge, nm_gt, nm_le, n_gts_t, c_eq_refl, c_ne_refl, w_fold, w_2, wC_fold, lt_M, cond_true, cond_false, Bool.and_true, Bool.true_and, Bool.and_false, Bool.false_and, Bool.not_true, Bool.not_false, isZS_0, isZS_1]
def rlx (d : Nat → Nat → Nat) (a b l : Nat) : Nat → Nat → Nat := fun u v => if u = a ∧ v = b then min l (d a b) else d u v
theorem rlx_le (d : Nat → Nat → Nat) (a b l u v : Nat) : rlx d a b l u v ≤ d u v := by
  unfold rlx
  split
  · next h => rw [h.1, h.2]; exact Nat.min_le_right _ _
  · exact Nat.le_refl _
theorem rlx_ab (d : Nat → Nat → Nat) (a b l : Nat) : rlx d a b l a b ≤ l := by
  unfold rlx
  rw [if_pos ⟨rfl, rfl⟩]
  exact Nat.min_le_left _ _
theorem dS_rlx {d : Nat → Nat → Nat} {a b l : Nat} (hS : dS nw wa wb wl ws nc d) (hE : wE nw wa wb wl ws a b l) (hab : a ≠ b) (hl : l < 1000000) : dS nw wa wb wl ws nc (rlx d a b l) := fun u v hu hv => by
  unfold rlx
  by_cases h : u = a ∧ v = b
  · rw [if_pos h]
    obtain ⟨rfl, rfl⟩ := h
    obtain ⟨s1, s2, s3⟩ := hS u v hu hv
    refine ⟨by omega, fun _ => ?_, fun e => absurd e hab⟩
    by_cases c : l ≤ d u v
    · rw [Nat.min_eq_left c]; exact ⟨1, wW_one hE⟩
    · rw [Nat.min_eq_right (by omega)]; exact s2 (by omega)
  · rw [if_neg h]; exact hS u v hu hv
theorem fD_upd {F : Nat → Int32} {d : Nat → Nat → Nat} {a b l : Nat} (h16 : nc ≤ 16) (hF : fD F d nc) (ha : a < nc) (hb : b < nc) (h : l < d a b) : fD (upd F (a * 16 + b) (oN l)) (rlx d a b l) nc := fun u v hu hv => by
  rw [upd_at]
  unfold rlx
  by_cases z : u = a ∧ v = b
  · rw [if_pos (by rw [z.1, z.2]), if_pos z, Nat.min_eq_left (by omega)]
  · rw [if_neg (by omega), if_neg z]; exact hF u v hu hv
theorem fD_id {F : Nat → Int32} {d : Nat → Nat → Nat} {a b l : Nat} (hF : fD F d nc) (h : d a b ≤ l) : fD F (rlx d a b l) nc := fun u v hu hv => by
  unfold rlx
  by_cases z : u = a ∧ v = b
  · rw [if_pos z, Nat.min_eq_right h, hF u v hu hv, z.1, z.2]
  · rw [if_neg z]; exact hF u v hu hv
set_option maxRecDepth 8000 in
set_option maxHeartbeats 4000000 in
theorem k2_126 (hW : cWy q C nc nw wa wb wl ws) {w : Nat} (hw : w < nw) {F : Nat → Int32} {d : Nat → Nat → Nat} (hF : fD F d nc) (hd : d (wb w) (wa w) ≤ 1000000) : ∃ F', run L xs 77 27 (126, [some (vr 8 q), some (vi (oN nc)), some (vi (oN w)), none, none], [], stA C (12 :: q) F) = run L xs 77 27 (58, [some (vr 8 q), some (vi (oN nc)), some (vi (oN (w + 1))), none, none], [], stA C (12 :: q) F') ∧ fD F' (rlx d (wb w) (wa w) (wl w)) nc := by
  obtain ⟨c0, h16, h24, hw0⟩ := cWy_st (F := F) hW
  obtain ⟨a1, a2, a3, a4, a5, a6, a7, a8, a9, a10⟩ := hw0 w hw
  have hr := hF (wb w) (wa w) a2 a1
  rw [h_77_126]
  by_cases h : d (wb w) (wa w) ≤ wl w
  · refine ⟨F, ?_, fD_id hF h⟩
    simp (disch := omega) only [↓Bool.cond_eq_ite, ↓reduceIte, Bool.false_eq_true, eq_self, n_lit, n_neg, n_add, n_mul, n_sub, n_subM, n_div, n_mod, n_addM, m_div, m_subn, n_tN, n_inS, n_eq_t, n_eq_f, n_ne_t, n_ne_f, n_lt_t, n_lt_f, n_ge_t, n_ge_f, n_gt_t, n_gt_f, n_le_t, n_le_f, mn_eq, mn_ne, mn_lt, mn_ge, mn_gt, mn_le, nm_eq, nm_ne, nm_lt, nm_ge, nm_gt, nm_le, n_gts_t, c_eq_refl, c_ne_refl, w_fold, w_2, wC_fold, lt_M, cond_true, cond_false, Bool.and_true, Bool.true_and, Bool.and_false, Bool.false_and, Bool.not_true, Bool.not_false, isZS_0, isZS_1, a7, a8, a9, stA_same, hr]
  · refine ⟨upd F (wb w * 16 + wa w) (oN (wl w)), ?_, fD_upd h16 hF a2 a1 (by omega)⟩
    simp (disch := omega) only [↓Bool.cond_eq_ite, ↓reduceIte, Bool.false_eq_true, eq_self, n_lit, n_neg, n_add, n_mul, n_sub, n_subM, n_div, n_mod, n_addM, m_div, m_subn, n_tN, n_inS, n_eq_t, n_eq_f, n_ne_t, n_ne_f, n_lt_t, n_lt_f, n_ge_t, n_ge_f, n_gt_t, n_gt_f, n_le_t, n_le_f, mn_eq, mn_ne, mn_lt, mn_ge, mn_gt, mn_le, nm_eq, nm_ne, nm_lt, nm_ge, nm_gt, nm_le, n_gts_t, c_eq_refl, c_ne_refl, w_fold, w_2, wC_fold, lt_M, cond_true, cond_false, Bool.and_true, Bool.true_and, Bool.and_false, Bool.false_and, Bool.not_true, Bool.not_false, isZS_0, isZS_1, a7, a8, a9, stA_same, stA_w, stA_u, hr]
set_option maxRecDepth 8000 in
set_option maxHeartbeats 4000000 in
theorem k2_85 (hW : cWy q C nc nw wa wb wl ws) {w : Nat} (hw : w < nw) {F : Nat → Int32} {d : Nat → Nat → Nat} (hF : fD F d nc) (hd : d (wa w) (wb w) ≤ 1000000) : ∃ F', run L xs 77 27 (85, [some (vr 8 q), some (vi (oN nc)), some (vi (oN w)), none, none], [], stA C (12 :: q) F) = (if ws w = 0 ∨ ws w = 2 then run L xs 77 27 (126, [some (vr 8 q), some (vi (oN nc)), some (vi (oN w)), none, none], [], stA C (12 :: q) F') else run L xs 77 27 (58, [some (vr 8 q), some (vi (oN nc)), some (vi (oN (w + 1))), none, none], [], stA C (12 :: q) F')) ∧ fD F' (rlx d (wa w) (wb w) (wl w)) nc := by
  obtain ⟨c0, h16, h24, hw0⟩ := cWy_st (F := F) hW
  obtain ⟨a1, a2, a3, a4, a5, a6, a7, a8, a9, a10⟩ := hw0 w hw
  have hr := hF (wa w) (wb w) a1 a2
  rw [h_77_85]
  by_cases h : d (wa w) (wb w) ≤ wl w
  · refine ⟨F, ?_, fD_id hF h⟩
    have : ws w = 0 ∨ ws w = 1 ∨ ws w = 2 ∨ ws w = 3 := by omega
    rcases this with e | e | e | e <;> rw [e] at a10 ⊢ <;> simp (disch := omega) only [↓Bool.cond_eq_ite, ↓reduceIte, Bool.false_eq_true, eq_self, n_lit, n_neg, n_add, n_mul, n_sub, n_subM, n_div, n_mod, n_addM, m_div, m_subn, n_tN, n_inS, n_eq_t, n_eq_f, n_ne_t, n_ne_f, n_lt_t, n_lt_f, n_ge_t, n_ge_f, n_gt_t, n_gt_f, n_le_t, n_le_f, mn_eq, mn_ne, mn_lt, mn_ge, mn_gt, mn_le, nm_eq, nm_ne, nm_lt, nm_ge, nm_gt, nm_le, n_gts_t, c_eq_refl, c_ne_refl, w_fold, w_2, wC_fold, lt_M, cond_true, cond_false, Bool.and_true, Bool.true_and, Bool.and_false, Bool.false_and, Bool.not_true, Bool.not_false, isZS_0, isZS_1, a7, a8, a9, a10, stA_same, hr] <;> rfl
  · refine ⟨upd F (wa w * 16 + wb w) (oN (wl w)), ?_, fD_upd h16 hF a1 a2 (by omega)⟩
    have b10 : (stA C (12 :: q) (upd F (wa w * 16 + wb w) (oN (wl w)))).1 (5 :: q) w = oN (ws w) := by rw [stA_ne (by simp)]; rw [stA_ne (by simp)] at a10; exact a10
    have : ws w = 0 ∨ ws w = 1 ∨ ws w = 2 ∨ ws w = 3 := by omega
    rcases this with e | e | e | e <;> rw [e] at a10 b10 ⊢ <;> simp (disch := omega) only [↓Bool.cond_eq_ite, ↓reduceIte, Bool.false_eq_true, eq_self, n_lit, n_neg, n_add, n_mul, n_sub, n_subM, n_div, n_mod, n_addM, m_div, m_subn, n_tN, n_inS, n_eq_t, n_eq_f, n_ne_t, n_ne_f, n_lt_t, n_lt_f, n_ge_t, n_ge_f, n_gt_t, n_gt_f, n_le_t, n_le_f, mn_eq, mn_ne, mn_lt, mn_ge, mn_gt, mn_le, nm_eq, nm_ne, nm_lt, nm_ge, nm_gt, nm_le, n_gts_t, c_eq_refl, c_ne_refl, w_fold, w_2, wC_fold, lt_M, cond_true, cond_false, Bool.and_true, Bool.true_and, Bool.and_false, Bool.false_and, Bool.not_true, Bool.not_false, isZS_0, isZS_1, a7, a8, a9, a10, b10, stA_same, stA_w, stA_u, hr] <;> rfl
def E2 (nw : Nat) (wa wb wl ws : Nat → Nat) (w : Nat) (d : Nat → Nat → Nat) : Prop := ∀ x, x < w → ((ws x = 0 ∨ ws x = 1) → d (wa x) (wb x) ≤ wl x) ∧ ((ws x = 0 ∨ ws x = 2) → d (wb x) (wa x) ≤ wl x)
set_option maxRecDepth 8000 in
set_option maxHeartbeats 4000000 in
theorem k2_all (hW : cWy q C nc nw wa wb wl ws) : ∀ (k w : Nat) (F : Nat → Int32) (d : Nat → Nat → Nat), w + k = nw → fD F d nc → dS nw wa wb wl ws nc d → E2 nw wa wb wl ws w d → ∃ F' d', run L xs 77 27 (58, [some (vr 8 q), some (vi (oN nc)), some (vi (oN w)), none, none], [], stA C (12 :: q) F) = run L xs 77 27 (156, [some (vr 8 q), some (vi (oN nc)), some (vi (oN 0)), none, none], [], stA C (12 :: q) F') ∧ fD F' d' nc ∧ dS nw wa wb wl ws nc d' ∧ E2 nw wa wb wl ws nw d'
  | 0, w, F, d, h, hF, hS, hE => by
    obtain ⟨c0, h16, h24, hw0⟩ := cWy_st (F := F) hW
    refine ⟨F, d, ?_, hF, hS, by rw [show nw = w by omega] at hE ⊢; exact hE⟩
    rw [h_77_58]
    simp (disch := omega) only [↓Bool.cond_eq_ite, ↓reduceIte, Bool.false_eq_true, eq_self, n_lit, n_neg, n_add, n_mul, n_sub, n_subM, n_div, n_mod, n_addM, m_div, m_subn, n_tN, n_inS, n_eq_t, n_eq_f, n_ne_t, n_ne_f, n_lt_t, n_lt_f, n_ge_t, n_ge_f, n_gt_t, n_gt_f, n_le_t, n_le_f, mn_eq, mn_ne, mn_lt, mn_ge, mn_gt, mn_le, nm_eq, nm_ne, nm_lt, nm_ge, nm_gt, nm_le, n_gts_t, c_eq_refl, c_ne_refl, w_fold, w_2, wC_fold, lt_M, cond_true, cond_false, Bool.and_true, Bool.true_and, Bool.and_false, Bool.false_and, Bool.not_true, Bool.not_false, isZS_0, isZS_1, c0]
  | k + 1, w, F, d, h, hF, hS, hE => by
    obtain ⟨c0, h16, h24, hw0⟩ := cWy_st (F := F) hW
    obtain ⟨a1, a2, a3, a4, a5, a6, a7, a8, a9, a10⟩ := hw0 w (by omega)
    have hEm : ∀ d', (∀ u v, d' u v ≤ d u v) → E2 nw wa wb wl ws w d' := fun d' hd' x hx => ⟨fun y => Nat.le_trans (hd' _ _) ((hE x hx).1 y), fun y => Nat.le_trans (hd' _ _) ((hE x hx).2 y)⟩
    have hst : ∀ d', E2 nw wa wb wl ws w d' → ((ws w = 0 ∨ ws w = 1) → d' (wa w) (wb w) ≤ wl w) → ((ws w = 0 ∨ ws w = 2) → d' (wb w) (wa w) ≤ wl w) → E2 nw wa wb wl ws (w + 1) d' := fun d' e0 e1 e2 x hx => by
      by_cases z : x = w
      · subst z; exact ⟨e1, e2⟩
      · exact e0 x (by omega)
    have hws : ws w = 0 ∨ ws w = 1 ∨ ws w = 2 ∨ ws w = 3 := by omega
    have go85 : (ws w = 0 ∨ ws w = 1) → ∃ F' d', run L xs 77 27 (85, [some (vr 8 q), some (vi (oN nc)), some (vi (oN w)), none, none], [], stA C (12 :: q) F) = run L xs 77 27 (58, [some (vr 8 q), some (vi (oN nc)), some (vi (oN (w + 1))), none, none], [], stA C (12 :: q) F') ∧ fD F' d' nc ∧ dS nw wa wb wl ws nc d' ∧ E2 nw wa wb wl ws (w + 1) d' := fun hz => by
      obtain ⟨F1, b1, b2⟩ := k2_85 (L := L) (xs := xs) hW (show w < nw by omega) hF (hS _ _ a1 a2).1
      have hS1 := dS_rlx (a := wa w) (b := wb w) (l := wl w) hS ⟨w, by omega, rfl, .inl ⟨rfl, rfl, hz⟩⟩ a3 (by omega)
      by_cases z : ws w = 0
      · obtain ⟨F2, c1, c2⟩ := k2_126 (L := L) (xs := xs) hW (show w < nw by omega) b2 (hS1 _ _ a2 a1).1
        refine ⟨F2, _, ?_, c2, dS_rlx hS1 ⟨w, by omega, rfl, .inr ⟨rfl, rfl, .inl z⟩⟩ (Ne.symm a3) (by omega), hst _ (hEm _ (fun u v => Nat.le_trans (rlx_le _ _ _ _ _ _) (rlx_le _ _ _ _ _ _))) (fun _ => Nat.le_trans (rlx_le _ _ _ _ _ _) (rlx_ab _ _ _ _)) (fun _ => rlx_ab _ _ _ _)⟩
        rw [b1, if_pos (.inl z), c1]
      · refine ⟨F1, _, ?_, b2, hS1, hst _ (hEm _ (fun u v => rlx_le _ _ _ _ _ _)) (fun _ => rlx_ab _ _ _ _) (fun y => by omega)⟩
        rw [b1, if_neg (by omega)]
    have go126 : (ws w = 0 ∨ ws w = 2) → ws w ≠ 0 → ∃ F' d', run L xs 77 27 (126, [some (vr 8 q), some (vi (oN nc)), some (vi (oN w)), none, none], [], stA C (12 :: q) F) = run L xs 77 27 (58, [some (vr 8 q), some (vi (oN nc)), some (vi (oN (w + 1))), none, none], [], stA C (12 :: q) F') ∧ fD F' d' nc ∧ dS nw wa wb wl ws nc d' ∧ E2 nw wa wb wl ws (w + 1) d' := fun hz hz0 => by
      obtain ⟨F2, c1, c2⟩ := k2_126 (L := L) (xs := xs) hW (show w < nw by omega) hF (hS _ _ a2 a1).1
      exact ⟨F2, _, c1, c2, dS_rlx hS ⟨w, by omega, rfl, .inr ⟨rfl, rfl, hz⟩⟩ (Ne.symm a3) (by omega), hst _ (hEm _ (fun u v => rlx_le _ _ _ _ _ _)) (fun y => by omega) (fun _ => rlx_ab _ _ _ _)⟩
    have one : ∃ F' d', run L xs 77 27 (58, [some (vr 8 q), some (vi (oN nc)), some (vi (oN w)), none, none], [], stA C (12 :: q) F) = run L xs 77 27 (58, [some (vr 8 q), some (vi (oN nc)), some (vi (oN (w + 1))), none, none], [], stA C (12 :: q) F') ∧ fD F' d' nc ∧ dS nw wa wb wl ws nc d' ∧ E2 nw wa wb wl ws (w + 1) d' := by
      rw [h_77_58]
      rcases hws with e | e | e | e
      · rw [e] at a10
        simp (disch := omega) only [↓Bool.cond_eq_ite, ↓reduceIte, Bool.false_eq_true, eq_self, n_lit, n_neg, n_add, n_mul, n_sub, n_subM, n_div, n_mod, n_addM, m_div, m_subn, n_tN, n_inS, n_eq_t, n_eq_f, n_ne_t, n_ne_f, n_lt_t, n_lt_f, n_ge_t, n_ge_f, n_gt_t, n_gt_f, n_le_t, n_le_f, mn_eq, mn_ne, mn_lt, mn_ge, mn_gt, mn_le, nm_eq, nm_ne, nm_lt, nm_ge, nm_gt, nm_le, n_gts_t, c_eq_refl, c_ne_refl, w_fold, w_2, wC_fold, lt_M, cond_true, cond_false, Bool.and_true, Bool.true_and, Bool.and_false, Bool.false_and, Bool.not_true, Bool.not_false, isZS_0, isZS_1, c0, a10]
        exact go85 (.inl e)
      · rw [e] at a10
        simp (disch := omega) only [↓Bool.cond_eq_ite, ↓reduceIte, Bool.false_eq_true, eq_self, n_lit, n_neg, n_add, n_mul, n_sub, n_subM, n_div, n_mod, n_addM, m_div, m_subn, n_tN, n_inS, n_eq_t, n_eq_f, n_ne_t, n_ne_f, n_lt_t, n_lt_f, n_ge_t, n_ge_f, n_gt_t, n_gt_f, n_le_t, n_le_f, mn_eq, mn_ne, mn_lt, mn_ge, mn_gt, mn_le, nm_eq, nm_ne, nm_lt, nm_ge, nm_gt, nm_le, n_gts_t, c_eq_refl, c_ne_refl, w_fold, w_2, wC_fold, lt_M, cond_true, cond_false, Bool.and_true, Bool.true_and, Bool.and_false, Bool.false_and, Bool.not_true, Bool.not_false, isZS_0, isZS_1, c0, a10]
        exact go85 (.inr e)
      · rw [e] at a10
        simp (disch := omega) only [↓Bool.cond_eq_ite, ↓reduceIte, Bool.false_eq_true, eq_self, n_lit, n_neg, n_add, n_mul, n_sub, n_subM, n_div, n_mod, n_addM, m_div, m_subn, n_tN, n_inS, n_eq_t, n_eq_f, n_ne_t, n_ne_f, n_lt_t, n_lt_f, n_ge_t, n_ge_f, n_gt_t, n_gt_f, n_le_t, n_le_f, mn_eq, mn_ne, mn_lt, mn_ge, mn_gt, mn_le, nm_eq, nm_ne, nm_lt, nm_ge, nm_gt, nm_le, n_gts_t, c_eq_refl, c_ne_refl, w_fold, w_2, wC_fold, lt_M, cond_true, cond_false, Bool.and_true, Bool.true_and, Bool.and_false, Bool.false_and, Bool.not_true, Bool.not_false, isZS_0, isZS_1, c0, a10]
        exact go126 (.inr e) (by omega)
      · rw [e] at a10
        simp (disch := omega) only [↓Bool.cond_eq_ite, ↓reduceIte, Bool.false_eq_true, eq_self, n_lit, n_neg, n_add, n_mul, n_sub, n_subM, n_div, n_mod, n_addM, m_div, m_subn, n_tN, n_inS, n_eq_t, n_eq_f, n_ne_t, n_ne_f, n_lt_t, n_lt_f, n_ge_t, n_ge_f, n_gt_t, n_gt_f, n_le_t, n_le_f, mn_eq, mn_ne, mn_lt, mn_ge, mn_gt, mn_le, nm_eq, nm_ne, nm_lt, nm_ge, nm_gt, nm_le, n_gts_t, c_eq_refl, c_ne_refl, w_fold, w_2, wC_fold, lt_M, cond_true, cond_false, Bool.and_true, Bool.true_and, Bool.and_false, Bool.false_and, Bool.not_true, Bool.not_false, isZS_0, isZS_1, c0, a10]
        exact ⟨F, d, rfl, hF, hS, hst d hE (fun y => by omega) (fun y => by omega)⟩
    obtain ⟨F1, d1, e1, e2, e3, e4⟩ := one
    obtain ⟨F2, d2, f1, f2, f3, f4⟩ := k2_all hW k (w + 1) F1 d1 (by omega) e2 e3 e4
    exact ⟨F2, d2, e1.trans f1, f2, f3, f4⟩
set_option maxRecDepth 8000 in
set_option maxHeartbeats 4000000 in
theorem k3_79 (h16 : nc ≤ 16) {K i : Nat} (hK : K < nc) (hi : i < nc) {D : Nat → Nat → Nat} (hD : ∀ u v, u < nc → v < nc → D u v ≤ 1000000) (h0 : D K K = 0) : ∀ (k j : Nat) (F : Nat → Int32), j + k = nc → fD F (fun u v => if u = i ∧ v < j then min (D i v) (D i K + D K v) else D u v) nc → ∃ F', run L xs 79 26 (3, [some (vr 8 q), some (vi (oN K)), some (vi (oN i)), some (vi (oN (D i K))), some (vi (oN nc)), some (vi (oN j))], [], stA C (12 :: q) F) = some (none, stA C (12 :: q) F') ∧ fD F' (fun u v => if u = i then min (D i v) (D i K + D K v) else D u v) nc
  | 0, j, F, h, hF => by
    refine ⟨F, ?_, fun u v hu hv => ?_⟩
    · rw [h_79_3]
      simp (disch := omega) only [↓Bool.cond_eq_ite, ↓reduceIte, Bool.false_eq_true, eq_self, n_lit, n_neg, n_add, n_mul, n_sub, n_subM, n_div, n_mod, n_addM, m_div, m_subn, n_tN, n_inS, n_eq_t, n_eq_f, n_ne_t, n_ne_f, n_lt_t, n_lt_f, n_ge_t, n_ge_f, n_gt_t, n_gt_f, n_le_t, n_le_f, mn_eq, mn_ne, mn_lt, mn_ge, mn_gt, mn_le, nm_eq, nm_ne, nm_lt, nm_ge, nm_gt, nm_le, n_gts_t, c_eq_refl, c_ne_refl, w_fold, w_2, wC_fold, lt_M, cond_true, cond_false, Bool.and_true, Bool.true_and, Bool.and_false, Bool.false_and, Bool.not_true, Bool.not_false, isZS_0, isZS_1]
    · (have hz := hF u v hu hv; try dsimp only at hz); rw [hz]; try dsimp only
      by_cases z : u = i
      · rw [if_pos ⟨z, by omega⟩, if_pos z]
      · rw [if_neg (fun y => z y.1), if_neg z]
  | k + 1, j, F, h, hF => by
    have r1 := hF K j hK (by omega)
    have r2 := hF i j hi (by omega)
    have b1 := hD K j hK (by omega)
    have b2 := hD i j hi (by omega)
    have b3 := hD i K hi hK
    dsimp only at r1 r2
    rw [if_neg (by omega)] at r1 r2
    by_cases z : D i j ≤ D i K + D K j
    · obtain ⟨F', g1, g2⟩ := k3_79 h16 hK hi hD h0 k (j + 1) F (by omega) (fun u v hu hv => by
        (have hz := hF u v hu hv; try dsimp only at hz); rw [hz]; try dsimp only
        by_cases y : u = i ∧ v < j
        · rw [if_pos y, if_pos ⟨y.1, by omega⟩]
        · rw [if_neg y]
          by_cases y2 : u = i ∧ v < j + 1
          · have : v = j := by omega
            subst this
            rw [if_pos y2, Nat.min_eq_left z, y2.1]
          · rw [if_neg y2])
      refine ⟨F', ?_, g2⟩
      rw [h_79_3, ← g1]
      simp (disch := omega) only [↓Bool.cond_eq_ite, ↓reduceIte, Bool.false_eq_true, eq_self, n_lit, n_neg, n_add, n_mul, n_sub, n_subM, n_div, n_mod, n_addM, m_div, m_subn, n_tN, n_inS, n_eq_t, n_eq_f, n_ne_t, n_ne_f, n_lt_t, n_lt_f, n_ge_t, n_ge_f, n_gt_t, n_gt_f, n_le_t, n_le_f, mn_eq, mn_ne, mn_lt, mn_ge, mn_gt, mn_le, nm_eq, nm_ne, nm_lt, nm_ge, nm_gt, nm_le, n_gts_t, c_eq_refl, c_ne_refl, w_fold, w_2, wC_fold, lt_M, cond_true, cond_false, Bool.and_true, Bool.true_and, Bool.and_false, Bool.false_and, Bool.not_true, Bool.not_false, isZS_0, isZS_1, stA_same, r1, r2]
    · obtain ⟨F', g1, g2⟩ := k3_79 h16 hK hi hD h0 k (j + 1) (upd F (i * 16 + j) (oN (D i K + D K j))) (by omega) (fun u v hu hv => by
        rw [upd_at]
        by_cases y2 : u = i ∧ v = j
        · rw [if_pos (by rw [y2.1, y2.2])]; dsimp only; rw [if_pos ⟨y2.1, by omega⟩, y2.2, Nat.min_eq_right (by omega)]
        · rw [if_neg (by omega)]; (have hz := hF u v hu hv; try dsimp only at hz); rw [hz]; try dsimp only
          by_cases y : u = i ∧ v < j
          · rw [if_pos y, if_pos ⟨y.1, by omega⟩]
          · rw [if_neg y, if_neg (by omega)])
      refine ⟨F', ?_, g2⟩
      rw [h_79_3, ← g1]
      simp (disch := omega) only [↓Bool.cond_eq_ite, ↓reduceIte, Bool.false_eq_true, eq_self, n_lit, n_neg, n_add, n_mul, n_sub, n_subM, n_div, n_mod, n_addM, m_div, m_subn, n_tN, n_inS, n_eq_t, n_eq_f, n_ne_t, n_ne_f, n_lt_t, n_lt_f, n_ge_t, n_ge_f, n_gt_t, n_gt_f, n_le_t, n_le_f, mn_eq, mn_ne, mn_lt, mn_ge, mn_gt, mn_le, nm_eq, nm_ne, nm_lt, nm_ge, nm_gt, nm_le, n_gts_t, c_eq_refl, c_ne_refl, w_fold, w_2, wC_fold, lt_M, cond_true, cond_false, Bool.and_true, Bool.true_and, Bool.and_false, Bool.false_and, Bool.not_true, Bool.not_false, isZS_0, isZS_1, stA_same, stA_w, stA_u, r1, r2]
set_option maxRecDepth 8000 in
set_option maxHeartbeats 4000000 in
theorem k3_row (h16 : nc ≤ 16) {K : Nat} (hK : K < nc) {d : Nat → Nat → Nat} (hd : ∀ u v, u < nc → v < nc → d u v ≤ 1000000) (h0 : d K K = 0) : ∀ (k i : Nat) (F : Nat → Int32), i + k = nc → fD F (fun u v => if u < i then min (d u v) (d u K + d K v) else d u v) nc → ∃ F', run L xs 77 27 (163, [some (vr 8 q), some (vi (oN nc)), some (vi (oN K)), some (vi (oN i)), none], [], stA C (12 :: q) F) = run L xs 77 27 (156, [some (vr 8 q), some (vi (oN nc)), some (vi (oN (K + 1))), none, none], [], stA C (12 :: q) F') ∧ fD F' (fun u v => min (d u v) (d u K + d K v)) nc
  | 0, i, F, h, hF => by
    refine ⟨F, ?_, fun u v hu hv => ?_⟩
    · rw [h_77_163]
      simp (disch := omega) only [↓Bool.cond_eq_ite, ↓reduceIte, Bool.false_eq_true, eq_self, n_lit, n_neg, n_add, n_mul, n_sub, n_subM, n_div, n_mod, n_addM, m_div, m_subn, n_tN, n_inS, n_eq_t, n_eq_f, n_ne_t, n_ne_f, n_lt_t, n_lt_f, n_ge_t, n_ge_f, n_gt_t, n_gt_f, n_le_t, n_le_f, mn_eq, mn_ne, mn_lt, mn_ge, mn_gt, mn_le, nm_eq, nm_ne, nm_lt, nm_ge, nm_gt, nm_le, n_gts_t, c_eq_refl, c_ne_refl, w_fold, w_2, wC_fold, lt_M, cond_true, cond_false, Bool.and_true, Bool.true_and, Bool.and_false, Bool.false_and, Bool.not_true, Bool.not_false, isZS_0, isZS_1]
    · (have hz := hF u v hu hv; try dsimp only at hz); rw [hz, if_pos (by omega)]
  | k + 1, i, F, h, hF => by
    have r1 := hF i K (by omega) hK
    dsimp only at r1
    rw [if_neg (by omega)] at r1
    have b3 := hd i K (by omega) hK
    have hKK : ∀ v, v < nc → (if K < i then min (d K v) (d K K + d K v) else d K v) = d K v := fun v hv => by
      split
      · rw [h0, Nat.zero_add, Nat.min_self]
      · rfl
    by_cases z : d i K < 1000000
    · have hD : ∀ u v, u < nc → v < nc → (if u < i then min (d u v) (d u K + d K v) else d u v) ≤ 1000000 := fun u v hu hv => by
        have := hd u v hu hv
        split <;> omega
      have hx := k3_79 (L := L) (xs := xs) (C := C) (q := q) h16 hK (show i < nc by omega) (D := fun u v => if u < i then min (d u v) (d u K + d K v) else d u v) hD (by show (if K < i then min (d K K) (d K K + d K K) else d K K) = 0; rw [hKK K hK]; exact h0) nc 0 F (by omega) (fun u v hu hv => by
        (have hz := hF u v hu hv; try dsimp only at hz); try dsimp only
        rw [hz, if_neg (show ¬ (u = i ∧ v < 0) by omega)])
      obtain ⟨F1, g1, g2⟩ := hx
      have ei : (if i < i then min (d i K) (d i K + d K K) else d i K) = d i K := if_neg (Nat.lt_irrefl _)
      try dsimp only at g1
      rw [ei] at g1
      obtain ⟨F2, e1, e2⟩ := k3_row h16 hK hd h0 k (i + 1) F1 (by omega) (fun u v hu hv => by
        (have hz := g2 u v hu hv; try dsimp only at hz); try dsimp only
        rw [hz, if_neg (Nat.lt_irrefl _), hKK v hv, ei]
        by_cases y : u = i
        · rw [if_pos y, if_pos (by omega), y]
        · rw [if_neg y]
          by_cases y2 : u < i
          · rw [if_pos y2, if_pos (by omega)]
          · rw [if_neg y2, if_neg (by omega)])
      refine ⟨F2, ?_, e2⟩
      have hk79 : kV L xs 79 [vr 8 q, vi (oN K), vi (oN i), vi (oN (d i K)), vi (oN nc)] (stA C (12 :: q) F) = some (stA C (12 :: q) F1) := kV_of (by rw [e_79]; exact g1)
      rw [h_77_163, ← e1]
      simp (disch := omega) only [↓Bool.cond_eq_ite, ↓reduceIte, Bool.false_eq_true, eq_self, n_lit, n_neg, n_add, n_mul, n_sub, n_subM, n_div, n_mod, n_addM, m_div, m_subn, n_tN, n_inS, n_eq_t, n_eq_f, n_ne_t, n_ne_f, n_lt_t, n_lt_f, n_ge_t, n_ge_f, n_gt_t, n_gt_f, n_le_t, n_le_f, mn_eq, mn_ne, mn_lt, mn_ge, mn_gt, mn_le, nm_eq, nm_ne, nm_lt, nm_ge, nm_gt, nm_le, n_gts_t, c_eq_refl, c_ne_refl, w_fold, w_2, wC_fold, lt_M, cond_true, cond_false, Bool.and_true, Bool.true_and, Bool.and_false, Bool.false_and, Bool.not_true, Bool.not_false, isZS_0, isZS_1, stA_same, r1, hk79, Option.bind_some]
    · obtain ⟨F2, e1, e2⟩ := k3_row h16 hK hd h0 k (i + 1) F (by omega) (fun u v hu hv => by
        (have hz := hF u v hu hv; try dsimp only at hz); rw [hz]; try dsimp only
        by_cases y2 : u < i
        · rw [if_pos y2, if_pos (by omega)]
        · rw [if_neg y2]
          by_cases y : u < i + 1
          · have : u = i := by omega
            subst this
            rw [if_pos y, Nat.min_eq_left (by have := hd u v hu hv; omega)]
          · rw [if_neg y])
      refine ⟨F2, ?_, e2⟩
      rw [h_77_163, ← e1]
      simp (disch := omega) only [↓Bool.cond_eq_ite, ↓reduceIte, Bool.false_eq_true, eq_self, n_lit, n_neg, n_add, n_mul, n_sub, n_subM, n_div, n_mod, n_addM, m_div, m_subn, n_tN, n_inS, n_eq_t, n_eq_f, n_ne_t, n_ne_f, n_lt_t, n_lt_f, n_ge_t, n_ge_f, n_gt_t, n_gt_f, n_le_t, n_le_f, mn_eq, mn_ne, mn_lt, mn_ge, mn_gt, mn_le, nm_eq, nm_ne, nm_lt, nm_ge, nm_gt, nm_le, n_gts_t, c_eq_refl, c_ne_refl, w_fold, w_2, wC_fold, lt_M, cond_true, cond_false, Bool.and_true, Bool.true_and, Bool.and_false, Bool.false_and, Bool.not_true, Bool.not_false, isZS_0, isZS_1, stA_same, r1]
theorem dS_phase {d : Nat → Nat → Nat} {K : Nat} (hK : K < nc) (hS : dS nw wa wb wl ws nc d) : dS nw wa wb wl ws nc (fun u v => min (d u v) (d u K + d K v)) := fun u v hu hv => by
  obtain ⟨s1, s2, s3⟩ := hS u v hu hv
  obtain ⟨t1, t2, t3⟩ := hS u K hu hK
  obtain ⟨x1, x2, x3⟩ := hS K v hK hv
  dsimp only
  refine ⟨by omega, fun hlt => ?_, fun e => by rw [s3 e]; omega⟩
  by_cases c : d u v ≤ d u K + d K v
  · rw [Nat.min_eq_left c] at hlt ⊢; exact s2 hlt
  · rw [Nat.min_eq_right (by omega)] at hlt ⊢
    obtain ⟨k1, w1⟩ := t2 (by omega)
    obtain ⟨k2, w2⟩ := x2 (by omega)
    exact ⟨k1 + k2, wW_app w1 w2⟩
set_option maxRecDepth 8000 in
set_option maxHeartbeats 4000000 in
theorem k3_all (h16 : nc ≤ 16) : ∀ (k K : Nat) (F : Nat → Int32) (d : Nat → Nat → Nat), K + k = nc → fD F d nc → dS nw wa wb wl ws nc d → (∀ u v k n, u < nc → v < nc → wV nw wa wb wl ws K k u v n → d u v ≤ n) →
    ∃ F' d', run L xs 77 27 (156, [some (vr 8 q), some (vi (oN nc)), some (vi (oN K)), none, none], [], stA C (12 :: q) F) = some (none, wI (stA C (12 :: q) F') q 11 (oN 1)) ∧ fD F' d' nc ∧ dS nw wa wb wl ws nc d' ∧ (∀ u v k n, u < nc → v < nc → wV nw wa wb wl ws nc k u v n → d' u v ≤ n)
  | 0, K, F, d, h, hF, hS, hC => by
    refine ⟨F, d, ?_, hF, hS, by rw [show nc = K by omega] at hC ⊢; exact hC⟩
    rw [h_77_156]
    simp (disch := omega) only [↓Bool.cond_eq_ite, ↓reduceIte, Bool.false_eq_true, eq_self, n_lit, n_neg, n_add, n_mul, n_sub, n_subM, n_div, n_mod, n_addM, m_div, m_subn, n_tN, n_inS, n_eq_t, n_eq_f, n_ne_t, n_ne_f, n_lt_t, n_lt_f, n_ge_t, n_ge_f, n_gt_t, n_gt_f, n_le_t, n_le_f, mn_eq, mn_ne, mn_lt, mn_ge, mn_gt, mn_le, nm_eq, nm_ne, nm_lt, nm_ge, nm_gt, nm_le, n_gts_t, c_eq_refl, c_ne_refl, w_fold, w_2, wC_fold, lt_M, cond_true, cond_false, Bool.and_true, Bool.true_and, Bool.and_false, Bool.false_and, Bool.not_true, Bool.not_false, isZS_0, isZS_1]
  | k + 1, K, F, d, h, hF, hS, hC => by
    obtain ⟨F1, a1, a2⟩ := k3_row (L := L) (xs := xs) (C := C) (q := q) h16 (show K < nc by omega) (fun u v hu hv => (hS u v hu hv).1) ((hS K K (by omega) (by omega)).2.2 rfl) nc 0 F (by omega) (fun u v hu hv => by rw [hF u v hu hv]; show _ = oN (if u < 0 then _ else _); rw [if_neg (Nat.not_lt_zero u)])
    obtain ⟨F2, d2, b1, b2, b3, b4⟩ := k3_all h16 k (K + 1) F1 _ (by omega) a2 (dS_phase (by omega) hS) (wV_phase (by omega) hC (fun u v _ _ => Nat.min_le_left _ _) (fun u v _ _ => Nat.min_le_right _ _))
    refine ⟨F2, d2, ?_, b2, b3, b4⟩
    rw [h_77_156, ← b1, ← a1]
    simp (disch := omega) only [↓Bool.cond_eq_ite, ↓reduceIte, Bool.false_eq_true, eq_self, n_lit, n_neg, n_add, n_mul, n_sub, n_subM, n_div, n_mod, n_addM, m_div, m_subn, n_tN, n_inS, n_eq_t, n_eq_f, n_ne_t, n_ne_f, n_lt_t, n_lt_f, n_ge_t, n_ge_f, n_gt_t, n_gt_f, n_le_t, n_le_f, mn_eq, mn_ne, mn_lt, mn_ge, mn_gt, mn_le, nm_eq, nm_ne, nm_lt, nm_ge, nm_gt, nm_le, n_gts_t, c_eq_refl, c_ne_refl, w_fold, w_2, wC_fold, lt_M, cond_true, cond_false, Bool.and_true, Bool.true_and, Bool.and_false, Bool.false_and, Bool.not_true, Bool.not_false, isZS_0, isZS_1]
theorem reckon_ok (hW : cWy q C nc nw wa wb wl ws) (hD : C.1 q 11 = oN 0 ∨ (C.1 q 11 = oN 1 ∧ ∀ u v, u < nc → v < nc → ∃ d, C.1 (12 :: q) (u * 16 + v) = oN d ∧ wD nw wa wb wl ws u v d)) :
    ∃ C', kV L xs 77 [vr 8 q, vi (oN nc)] C = some C' ∧ C'.2 = C.2 ∧ (∀ z, z ≠ q → z ≠ 12 :: q → C'.1 z = C.1 z) ∧ (∀ j, j ≠ 11 → C'.1 q j = C.1 q j) ∧ C'.1 q 11 = oN 1 ∧ ∀ u v, u < nc → v < nc → ∃ d, C'.1 (12 :: q) (u * 16 + v) = oN d ∧ wD nw wa wb wl ws u v d := by
  have e := e_77 L xs q (oN nc) C
  rcases hD with h | ⟨h, hd⟩
  · have h16 := hW.2.1
    obtain ⟨F1, a1, a2⟩ := k1_all (L := L) (xs := xs) (C := C) (q := q) h16 nc 0 (C.1 (12 :: q)) (by omega) (fun a b _ _ hab => by omega)
    rw [stA_id] at a1
    have f1 : fD F1 (fun u v => if u = v then 0 else 1000000) nc := fun u v hu hv => a2 u v hu hv (by omega)
    have s1 : dS nw wa wb wl ws nc (fun u v => if u = v then 0 else 1000000) := fun u v hu hv => by
      dsimp only
      by_cases z : u = v
      · rw [if_pos z]; exact ⟨by omega, fun _ => ⟨0, z, rfl⟩, fun _ => rfl⟩
      · rw [if_neg z]; exact ⟨by omega, fun y => absurd y (Nat.lt_irrefl _), fun y => absurd y z⟩
    obtain ⟨F2, d2, b1, b2, b3, b4⟩ := k2_all (L := L) (xs := xs) hW nw 0 F1 _ (by omega) f1 s1 (fun x hx => by omega)
    obtain ⟨-, -, -, hw0⟩ := hW
    have hE : ∀ u v c, u < nc → v < nc → wE nw wa wb wl ws u v c → d2 u v ≤ c := fun u v c hu hv ⟨w, hw, hc, hh⟩ => by
      rcases hh with ⟨x1, x2, x3⟩ | ⟨x1, x2, x3⟩
      · rw [← x1, ← x2, hc]; exact (b4 w hw).1 x3
      · rw [← x1, ← x2, hc]; exact (b4 w hw).2 x3
    obtain ⟨F3, d3, c1, c2, c3, c4⟩ := k3_all (L := L) (xs := xs) (C := C) (q := q) h16 nc 0 F2 d2 (by omega) b2 b3 (wV0 b3 hE)
    have hq : q ≠ 12 :: q := fun e => by have := congrArg List.length e; simp at this
    refine ⟨wI (stA C (12 :: q) F3) q 11 (oN 1), kV_of ?_, ?_, ?_, ?_, ?_, ?_⟩
    · rw [e]
      simp (disch := omega) only [↓Bool.cond_eq_ite, ↓reduceIte, Bool.false_eq_true, eq_self, n_lit, n_neg, n_add, n_mul, n_sub, n_subM, n_div, n_mod, n_addM, m_div, m_subn, n_tN, n_inS, n_eq_t, n_eq_f, n_ne_t, n_ne_f, n_lt_t, n_lt_f, n_ge_t, n_ge_f, n_gt_t, n_gt_f, n_le_t, n_le_f, mn_eq, mn_ne, mn_lt, mn_ge, mn_gt, mn_le, nm_eq, nm_ne, nm_lt, nm_ge, nm_gt, nm_le, n_gts_t, c_eq_refl, c_ne_refl, w_fold, w_2, wC_fold, lt_M, cond_true, cond_false, Bool.and_true, Bool.true_and, Bool.and_false, Bool.false_and, Bool.not_true, Bool.not_false, isZS_0, isZS_1, h, a1, b1, c1]
    · rfl
    · intro z h1 h2
      rw [w_ne h1, stA_ne h2]
    · intro j hj
      rw [w_ne_k hj, stA_ne hq]
    · rw [w_at, if_pos ⟨rfl, rfl⟩]
    · intro u v hu hv
      refine ⟨d3 u v, ?_, dS_wD (fun w hw => ⟨(hw0 w hw).1, (hw0 w hw).2.1⟩) c3 c4 u v hu hv⟩
      rw [w_ne (Ne.symm hq), stA_same]
      exact c2 u v hu hv
  · refine ⟨C, kV_of ?_, rfl, fun _ _ _ => rfl, fun _ _ => rfl, h, hd⟩
    rw [e]
    simp (disch := omega) only [↓Bool.cond_eq_ite, ↓reduceIte, Bool.false_eq_true, eq_self, n_lit, n_neg, n_add, n_mul, n_sub, n_subM, n_div, n_mod, n_addM, m_div, m_subn, n_tN, n_inS, n_eq_t, n_eq_f, n_ne_t, n_ne_f, n_lt_t, n_lt_f, n_ge_t, n_ge_f, n_gt_t, n_gt_f, n_le_t, n_le_f, mn_eq, mn_ne, mn_lt, mn_ge, mn_gt, mn_le, nm_eq, nm_ne, nm_lt, nm_ge, nm_gt, nm_le, n_gts_t, c_eq_refl, c_ne_refl, w_fold, w_2, wC_fold, lt_M, cond_true, cond_false, Bool.and_true, Bool.true_and, Bool.and_false, Bool.false_and, Bool.not_true, Bool.not_false, isZS_0, isZS_1, h]
end Reck
