section Cong
def mAg (M M' : mM) (nc nw nb np : Nat) : Prop :=
  (∀ i, i < nc → M'.1 [5, 1] i = M.1 [5, 1] i ∧ M'.1 [6, 1] i = M.1 [6, 1] i) ∧
  (∀ w, w < nw → M'.1 [7, 1] w = M.1 [7, 1] w ∧ M'.1 [8, 1] w = M.1 [8, 1] w ∧ M'.1 [9, 1] w = M.1 [9, 1] w ∧ M'.1 [10, 1] w = M.1 [10, 1] w) ∧
  (∀ b, b < nb → M'.1 [11, 1] b = M.1 [11, 1] b ∧ M'.1 [12, 1] b = M.1 [12, 1] b ∧ M'.1 [13, 1] b = M.1 [13, 1] b ∧ M'.1 [14, 1] b = M.1 [14, 1] b ∧ M'.1 [15, 1] b = M.1 [15, 1] b ∧ M'.1 [16, 1] b = M.1 [16, 1] b) ∧
  (∀ k, k < np → M'.1 [17, 1] k = M.1 [17, 1] k)
variable {r : List Nat} {S S' : Nat → Int32} {C C' M M' : mM} {nc nw nb np nt now hm : Nat} {kd wa wb wd wl ws : Nat → Nat}
theorem rBi_congr {k b : Nat} (hC : C'.1 (b :: 10 :: r) = C.1 (b :: 10 :: r)) (h11 : M'.1 [11, 1] b = M.1 [11, 1] b) (h12 : M'.1 [12, 1] b = M.1 [12, 1] b) (h13 : M'.1 [13, 1] b = M.1 [13, 1] b) (h14 : M'.1 [14, 1] b = M.1 [14, 1] b) (h16 : M'.1 [16, 1] b = M.1 [16, 1] b) (h : rBi r C M k b) : rBi r C' M' k b := by
  unfold rBi at h ⊢
  rw [hC, h11, h12, h13, h14, h16]
  exact h
theorem rBp_congr {k b : Nat} (hb : b < 40) (hC : C'.1 (b :: 10 :: r) = C.1 (b :: 10 :: r)) (hS : ∀ i, i < 16 → S' (200 + 16 * b + i) = S (200 + 16 * b + i)) (h15 : M'.1 [15, 1] b = M.1 [15, 1] b) (h : rBp r S C M nc nw k b) : rBp r S' C' M' nc nw k b := by
  unfold rBp at h ⊢
  have h0 := hS 0 (by omega)
  rw [Nat.add_zero] at h0
  rw [hC, h15, h0, hS 1 (by omega), hS 2 (by omega), hS 13 (by omega)]
  exact h
theorem rBp_mono {k b nc' nw' : Nat} (hc : nc ≤ nc') (hw : nw ≤ nw') (h : rBp r S C M nc nw k b) : rBp r S C M nc' nw' k b := by
  obtain ⟨h0, h⟩ := h
  refine ⟨h0, ?_⟩
  rcases h with ⟨a, c, b1, b2⟩ | ⟨a, w, e, t, b1, b2, b3⟩ | ⟨a, b1, b2, b3, w, b4, b5⟩ | ⟨a, b1, b2, b3⟩
  · exact .inl ⟨a, c, by omega, b2⟩
  · exact .inr (.inl ⟨a, w, e, t, by omega, by omega, b3⟩)
  · exact .inr (.inr (.inl ⟨a, b1, b2, b3, w, by omega, b5⟩))
  · exact .inr (.inr (.inr ⟨a, b1, opt_mono hc b2, b3⟩))
theorem rBv_congr {b : Nat} (hC : C'.1 (b :: 10 :: r) = C.1 (b :: 10 :: r)) (hS : ∀ i, i < 16 → S' (200 + 16 * b + i) = S (200 + 16 * b + i)) (h : rBv r S C hm b) : rBv r S' C' hm b := by
  unfold rBv at h ⊢
  rw [hC, hS 3 (by omega), hS 4 (by omega), hS 5 (by omega), hS 6 (by omega), hS 7 (by omega), hS 8 (by omega), hS 9 (by omega)]
  exact h
theorem rBv_mono {b hm' : Nat} (hh : hm ≤ hm') (h : rBv r S C hm b) : rBv r S C hm' b := by
  obtain ⟨⟨x, h1, h2⟩, h3⟩ := h
  exact ⟨⟨x, by omega, h2⟩, h3⟩
theorem rBt_congr {k b : Nat} (hC : C'.1 (b :: 10 :: r) = C.1 (b :: 10 :: r)) (hS : ∀ i, i < 16 → S' (200 + 16 * b + i) = S (200 + 16 * b + i)) (h : rBt r S C now k b) : rBt r S' C' now k b := by
  unfold rBt at h ⊢
  rw [hC, hS 10 (by omega), hS 11 (by omega)]
  exact h
theorem rBa_congr {b : Nat} (hb : b < 40) (hC0 : C'.1 (18 :: b :: 10 :: r) = C.1 (18 :: b :: 10 :: r)) (hC1 : C'.1 (1 :: 18 :: b :: 10 :: r) = C.1 (1 :: 18 :: b :: 10 :: r)) (hC2 : C'.1 (2 :: 18 :: b :: 10 :: r) = C.1 (2 :: 18 :: b :: 10 :: r)) (hS : S' (200 + 16 * b + 12) = S (200 + 16 * b + 12)) (hA : ∀ i, i < 16 → S' (900 + 16 * b + i) = S (900 + 16 * b + i)) (h : rBa r S C nc b) : rBa r S' C' nc b := by
  obtain ⟨n, h1, h2, h3, h4⟩ := h
  refine ⟨n, h1, ?_, ?_, ?_⟩
  · rw [hC0]; exact h2
  · rw [hS]; exact h3
  · intro i hi
    rw [hC1, hC2, hA (2 * i) (by omega), show 900 + 16 * b + 2 * i + 1 = 900 + 16 * b + (2 * i + 1) by omega, hA (2 * i + 1) (by omega)]
    exact h4 i hi
theorem rBa_mono {b nc' : Nat} (hc : nc ≤ nc') (h : rBa r S C nc b) : rBa r S C nc' b := by
  obtain ⟨n, h1, h2, h3, h4⟩ := h
  refine ⟨n, h1, h2, h3, fun i hi => ?_⟩
  obtain ⟨q, c, h5, h6⟩ := h4 i hi
  exact ⟨q, c, by omega, h6⟩
theorem rSc_congr (hC0 : C'.1 r = C.1 r) (hC6 : C'.1 (6 :: r) 0 = C.1 (6 :: r) 0) (hS : ∀ i, i < 6 → S' i = S i) (h : rSc r S C nc nw nb np nt now kd) : rSc r S' C' nc nw nb np nt now kd := by
  unfold rSc at h ⊢
  rw [hC0, hC6, hS 0 (by omega), hS 1 (by omega), hS 2 (by omega), hS 3 (by omega), hS 4 (by omega), hS 5 (by omega)]
  exact h
theorem rCe_congr (hC3 : C'.1 (3 :: r) = C.1 (3 :: r)) (hC4 : C'.1 (4 :: r) = C.1 (4 :: r)) (hC5 : C'.1 (5 :: r) = C.1 (5 :: r)) (hS : ∀ i, i < nc → S' (10 + i) = S (10 + i)) (hM : ∀ i, i < nc → M'.1 [5, 1] i = M.1 [5, 1] i ∧ M'.1 [6, 1] i = M.1 [6, 1] i) (h : rCe r S C M nc) : rCe r S' C' M' nc := by
  intro i hi
  rw [hC3, hC4, hC5, hS i hi, (hM i hi).1, (hM i hi).2]
  exact h i hi
theorem rWa_congr (h1 : C'.1 (1 :: 6 :: r) = C.1 (1 :: 6 :: r)) (h2 : C'.1 (2 :: 6 :: r) = C.1 (2 :: 6 :: r)) (h3 : C'.1 (3 :: 6 :: r) = C.1 (3 :: 6 :: r)) (h4 : C'.1 (4 :: 6 :: r) = C.1 (4 :: 6 :: r)) (h5 : C'.1 (5 :: 6 :: r) = C.1 (5 :: 6 :: r)) (hS : ∀ w, w < nw → S' (30 + w) = S (30 + w))
    (hM : ∀ w, w < nw → M'.1 [7, 1] w = M.1 [7, 1] w ∧ M'.1 [8, 1] w = M.1 [8, 1] w ∧ M'.1 [9, 1] w = M.1 [9, 1] w ∧ M'.1 [10, 1] w = M.1 [10, 1] w) (h : rWa r S C M nc nw wa wb wd wl ws) : rWa r S' C' M' nc nw wa wb wd wl ws := by
  intro w hw
  obtain ⟨m1, m2, m3, m4⟩ := hM w hw
  rw [h1, h2, h3, h4, h5, hS w hw, m1, m2, m3, m4]
  exact h w hw
theorem rWd_congr (h6 : C'.1 (6 :: 6 :: r) = C.1 (6 :: 6 :: r)) (h7 : C'.1 (7 :: 6 :: r) = C.1 (7 :: 6 :: r)) (h9 : C'.1 (9 :: 6 :: r) = C.1 (9 :: 6 :: r)) (hS1 : ∀ w, w < nw → S' (60 + w) = S (60 + w)) (hS2 : ∀ w, w < nw → S' (90 + w) = S (90 + w)) (hS3 : ∀ w, w < nw → S' (120 + w) = S (120 + w)) (h : rWd r S C nw hm) : rWd r S' C' nw hm := by
  intro w hw
  rw [h6, h7, h9, hS1 w hw, hS2 w hw, hS3 w hw]
  exact h w hw
theorem rDi_congr (h11 : C'.1 (6 :: r) 11 = C.1 (6 :: r) 11) (h12 : C'.1 (12 :: 6 :: r) = C.1 (12 :: 6 :: r)) (h : rDi r C nc nw wa wb wl ws) : rDi r C' nc nw wa wb wl ws := by
  unfold rDi at h ⊢
  rw [h11, h12]
  exact h
theorem rBo_congr (hnb : nb ≤ 40) (hC : ∀ b, b < nb → C'.1 (b :: 10 :: r) = C.1 (b :: 10 :: r) ∧ C'.1 (18 :: b :: 10 :: r) = C.1 (18 :: b :: 10 :: r) ∧ C'.1 (1 :: 18 :: b :: 10 :: r) = C.1 (1 :: 18 :: b :: 10 :: r) ∧ C'.1 (2 :: 18 :: b :: 10 :: r) = C.1 (2 :: 18 :: b :: 10 :: r))
    (hS : ∀ i, 200 ≤ i → i < 1600 → S' i = S i)
    (hM : ∀ b, b < nb → M'.1 [11, 1] b = M.1 [11, 1] b ∧ M'.1 [12, 1] b = M.1 [12, 1] b ∧ M'.1 [13, 1] b = M.1 [13, 1] b ∧ M'.1 [14, 1] b = M.1 [14, 1] b ∧ M'.1 [15, 1] b = M.1 [15, 1] b ∧ M'.1 [16, 1] b = M.1 [16, 1] b)
    (h : rBo r S C M nc nw nb now hm kd) : rBo r S' C' M' nc nw nb now hm kd := by
  intro b hb
  obtain ⟨a1, a2, a3, a4, a5⟩ := h b hb
  obtain ⟨c1, c2, c3, c4⟩ := hC b hb
  obtain ⟨m1, m2, m3, m4, m5, m6⟩ := hM b hb
  have s1 : ∀ i, i < 16 → S' (200 + 16 * b + i) = S (200 + 16 * b + i) := fun i hi => hS _ (by omega) (by omega)
  exact ⟨rBi_congr c1 m1 m2 m3 m4 m6 a1, rBp_congr (by omega) c1 s1 m5 a2, rBv_congr c1 s1 a3, rBt_congr c1 s1 a4, rBa_congr (by omega) c2 c3 c4 (s1 12 (by omega)) (fun i hi => hS _ (by omega) (by omega)) a5⟩
theorem rP_congr (hC : ∀ t, C'.1 (t ++ r) = C.1 (t ++ r)) (hS : ∀ i, i < 1600 → S' i = S i) (hM : mAg M M' nc nw nb np)
    (h : rP r S C M nc nw nb np nt now hm kd wa wb wd wl ws) : rP r S' C' M' nc nw nb np nt now hm kd wa wb wd wl ws := by
  obtain ⟨g1, g2, g3, g4, g5, g6, g7, g8, g9, g10⟩ := h
  have hs := g1
  obtain ⟨-, -, -, -, -, -, -, -, -, -, -, -, -, q1, q2, q3, q4, -, -⟩ := hs
  obtain ⟨m1, m2, m3, m4⟩ := hM
  refine ⟨rSc_congr (hC []) (congrFun (hC [6]) 0) (fun i hi => hS i (by omega)) g1, rCe_congr (hC [3]) (hC [4]) (hC [5]) (fun i hi => hS _ (by omega)) m1 g2,
    rWa_congr (hC [1, 6]) (hC [2, 6]) (hC [3, 6]) (hC [4, 6]) (hC [5, 6]) (fun i hi => hS _ (by omega)) m2 g3,
    rWd_congr (hC [6, 6]) (hC [7, 6]) (hC [9, 6]) (fun i hi => hS _ (by omega)) (fun i hi => hS _ (by omega)) (fun i hi => hS _ (by omega)) g4, ?_, ?_,
    rBo_congr q3 (fun b _ => ⟨hC [b, 10], hC [18, b, 10], hC [1, 18, b, 10], hC [2, 18, b, 10]⟩) (fun i _ hi => hS i hi) m3 g7, ?_, ?_, rDi_congr (congrFun (hC [6]) 11) (hC [12, 6]) g10⟩
  · intro i hi
    rw [show C'.1 (7 :: r) = C.1 (7 :: r) from hC [7], hS _ (by omega)]
    exact g5 i hi
  · intro i hi
    rw [show C'.1 (8 :: r) = C.1 (8 :: r) from hC [8], hS _ (by omega)]
    exact g6 i hi
  · intro i hi
    rw [show C'.1 (12 :: r) = C.1 (12 :: r) from hC [12]]
    exact g8 i hi
  · intro i hi
    rw [show C'.1 (14 :: r) = C.1 (14 :: r) from hC [14], m4 i hi]
    exact g9 i hi
end Cong
