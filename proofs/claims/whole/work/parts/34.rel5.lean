section Inv3
def rTx (L : Nat) (xs : Nat → Int32) (C M : mM) (nt : Nat) : Prop := ∀ t, t < nt → txt L xs (C.1 [0, 4, 0]) (C.1 [1, 4, 0] t) (M.1 [18, 1]) (M.1 [19, 1] t) t
def rI (L : Nat) (xs : Nat → Int32) (C M : mM) (hm : Nat) : Prop := ∃ nc nw nb np nt now kd wa wb wd wl ws,
  rP [0, 0] (M.1 [1, 1]) C M nc nw nb np nt now hm kd wa wb wd wl ws ∧ rIm C M nc nw nb np nt now hm ∧ rHi C M nb now kd ∧ rTx L xs C M nt ∧ rSh C M ∧ M.1 [1] 26 = oN 0
variable {L : Nat} {xs : Nat → Int32} {C C' M M' : mM} {nc nw nb np nt now hm : Nat} {kd wa wb wd wl ws : Nat → Nat}
theorem mAg_of (h : ∀ k, 5 ≤ k → k ≤ 17 → M'.1 [k, 1] = M.1 [k, 1]) : mAg M M' nc nw nb np := by
  unfold mAg
  rw [h 5 (by omega) (by omega), h 6 (by omega) (by omega), h 7 (by omega) (by omega), h 8 (by omega) (by omega), h 9 (by omega) (by omega), h 10 (by omega) (by omega), h 11 (by omega) (by omega), h 12 (by omega) (by omega), h 13 (by omega) (by omega), h 14 (by omega) (by omega), h 15 (by omega) (by omega), h 16 (by omega) (by omega), h 17 (by omega) (by omega)]
  simp
theorem mAg_mono {nc' nw' nb' np' : Nat} (h1 : nc' ≤ nc) (h2 : nw' ≤ nw) (h3 : nb' ≤ nb) (h4 : np' ≤ np) (h : mAg M M' nc nw nb np) : mAg M M' nc' nw' nb' np' :=
  ⟨fun i hi => h.1 i (by omega), fun i hi => h.2.1 i (by omega), fun i hi => h.2.2.1 i (by omega), fun i hi => h.2.2.2 i (by omega)⟩
theorem rIm_congr {nc' nw' nb' np' nt' now' : Nat} (hC : ∀ t, C'.1 (t ++ [1, 0]) = C.1 (t ++ [1, 0])) (h3 : C'.1 [0] 3 = C.1 [0] 3) (h4 : M'.1 [1] 4 = M.1 [1] 4) (h2 : ∀ i, i < 1600 → M'.1 [2, 1] i = M.1 [2, 1] i) (hM : mAg M M' nc nw nb np)
    (m1 : nc ≤ nc') (m2 : nw ≤ nw') (m3 : nb ≤ nb') (m4 : np ≤ np') (m5 : nt ≤ nt') (m6 : now ≤ now') (h : rIm C M nc nw nb np nt now hm) : rIm C' M' nc' nw' nb' np' nt' now' hm := by
  unfold rIm at h ⊢
  rw [h3, h4]
  rcases h with h | ⟨a1, a2, c1, c2, c3, c4, c5, c6, kd, wa, wb, wd, wl, ws, hp, b1, b2, b3, b4, b5, b6⟩
  · exact .inl h
  · exact .inr ⟨a1, a2, c1, c2, c3, c4, c5, c6, kd, wa, wb, wd, wl, ws, rP_congr hC h2 (mAg_mono b1 b2 b3 b4 hM) hp, by omega, by omega, by omega, by omega, by omega, by omega⟩
theorem rHi_congr (h0 : C'.1 [0, 5, 0] = C.1 [0, 5, 0]) (h1 : C'.2.1 [1, 5, 0] = C.2.1 [1, 5, 0]) (h20 : M'.1 [20, 1] = M.1 [20, 1]) (h21 : M'.1 [21, 1] = M.1 [21, 1]) (h22 : M'.1 [22, 1] = M.1 [22, 1]) (h23 : M'.1 [23, 1] = M.1 [23, 1]) (h24 : M'.1 [24, 1] = M.1 [24, 1]) (h25 : M'.1 [25, 1] = M.1 [25, 1]) (h16 : ∀ b, b < nb → M'.1 [16, 1] b = M.1 [16, 1] b) (h : rHi C M nb now kd) : rHi C' M' nb now kd := by
  unfold rHi at h ⊢
  rw [h0, h1, h20, h21, h22, h23, h24, h25]
  refine ⟨h.1, fun b m n hb hk hm hn => ?_⟩
  rw [h16 b hb] at hn
  exact h.2 b m n hb hk hm hn
theorem rTx_congr (h0 : C'.1 [0, 4, 0] = C.1 [0, 4, 0]) (h1 : C'.1 [1, 4, 0] = C.1 [1, 4, 0]) (h18 : M'.1 [18, 1] = M.1 [18, 1]) (h19 : M'.1 [19, 1] = M.1 [19, 1]) (h : rTx L xs C M nt) : rTx L xs C' M' nt := by
  unfold rTx at h ⊢
  rw [h0, h1, h18, h19]
  exact h
theorem rShB_congr {d : Nat} (h1 : C'.1 [1, d, 6, 0] = C.1 [1, d, 6, 0]) (h2 : C'.1 [18, 1, d, 6, 0] = C.1 [18, 1, d, 6, 0]) (h53 : M'.1 [53, 1] d = M.1 [53, 1] d) (h54 : M'.1 [54, 1] d = M.1 [54, 1] d) (h : rShB C M d) : rShB C' M' d := by
  unfold rShB at h ⊢
  rw [h1, h2, h53, h54]
  exact h
theorem rShR_congr {d : Nat} (h1 : C'.1 [d, 6, 0] = C.1 [d, 6, 0]) (h2 : C'.1 [4, d, 6, 0] = C.1 [4, d, 6, 0]) (h55 : M'.1 [55, 1] d = M.1 [55, 1] d) (h56 : M'.1 [56, 1] d = M.1 [56, 1] d) (h57 : ∀ i, i < 80 → M'.2.1 [57, 1] (80 * d + i) = M.2.1 [57, 1] (80 * d + i)) (h : rShR C M d) : rShR C' M' d := by
  obtain ⟨s, n, a1, a2, a3, a4, a5, a6, a7, a8⟩ := h
  refine ⟨s, n, a1, a2, ?_, ?_, ?_, ?_, ?_, ?_⟩
  · rw [h1]; exact a3
  · rw [h55]; exact a4
  · rw [h1]; exact a5
  · rw [h56]; exact a6
  · intro i hi; rw [h2, h57 i (by omega)]; exact a7 i hi
  · rw [h2]; exact a8
theorem rSh_congr (hC : ∀ t, C'.1 (t ++ [6, 0]) = C.1 (t ++ [6, 0])) (h52 : M'.1 [52, 1] = M.1 [52, 1]) (h53 : M'.1 [53, 1] = M.1 [53, 1]) (h54 : M'.1 [54, 1] = M.1 [54, 1]) (h55 : M'.1 [55, 1] = M.1 [55, 1]) (h56 : M'.1 [56, 1] = M.1 [56, 1]) (h57 : M'.2.1 [57, 1] = M.2.1 [57, 1]) (h : rSh C M) : rSh C' M' := by
  intro d hd
  have e0 : C'.1 [d, 6, 0] = C.1 [d, 6, 0] := hC [d]
  rw [e0, h52]
  rcases h d hd with h | ⟨a, b, h⟩ | ⟨a, b, h⟩
  · exact .inl h
  · exact .inr (.inl ⟨a, b, rShB_congr (hC [1, d]) (hC [18, 1, d]) (by rw [h53]) (by rw [h54]) h⟩)
  · exact .inr (.inr ⟨a, b, rShR_congr e0 (hC [4, d]) (by rw [h55]) (by rw [h56]) (fun i _ => by rw [h57]) h⟩)
def agC (C C' : mM) : Prop := (∀ t, C'.1 (t ++ [0, 0]) = C.1 (t ++ [0, 0])) ∧ (∀ t, C'.1 (t ++ [1, 0]) = C.1 (t ++ [1, 0])) ∧ C'.1 [0] 3 = C.1 [0] 3 ∧ C'.1 [0, 4, 0] = C.1 [0, 4, 0] ∧ C'.1 [1, 4, 0] = C.1 [1, 4, 0] ∧
  C'.1 [0, 5, 0] = C.1 [0, 5, 0] ∧ C'.2.1 [1, 5, 0] = C.2.1 [1, 5, 0] ∧ (∀ t, C'.1 (t ++ [6, 0]) = C.1 (t ++ [6, 0]))
def agM (M M' : mM) : Prop := (∀ i, i < 1600 → M'.1 [1, 1] i = M.1 [1, 1] i) ∧ M'.1 [2, 1] = M.1 [2, 1] ∧ (∀ k, 5 ≤ k → k ≤ 25 → M'.1 [k, 1] = M.1 [k, 1]) ∧ (∀ k, 52 ≤ k → k ≤ 56 → M'.1 [k, 1] = M.1 [k, 1]) ∧ M'.1 [1] 4 = M.1 [1] 4 ∧ M'.1 [1] 26 = M.1 [1] 26 ∧ M'.2.1 [57, 1] = M.2.1 [57, 1]
theorem agC_refl (C : mM) : agC C C := ⟨fun _ => rfl, fun _ => rfl, rfl, rfl, rfl, rfl, rfl, fun _ => rfl⟩
theorem agM_refl (M : mM) : agM M M := ⟨fun _ _ => rfl, rfl, fun _ _ _ => rfl, fun _ _ _ => rfl, rfl, rfl, rfl⟩
theorem agC_trans {A B D : mM} (h : agC A B) (h' : agC B D) : agC A D := by
  obtain ⟨a1, a2, a3, a4, a5, a6, a7, a8⟩ := h
  obtain ⟨b1, b2, b3, b4, b5, b6, b7, b8⟩ := h'
  exact ⟨fun t => (b1 t).trans (a1 t), fun t => (b2 t).trans (a2 t), b3.trans a3, b4.trans a4, b5.trans a5, b6.trans a6, b7.trans a7, fun t => (b8 t).trans (a8 t)⟩
theorem agM_trans {A B D : mM} (h : agM A B) (h' : agM B D) : agM A D := by
  obtain ⟨a1, a2, a3, a4, a5, a6, a7⟩ := h
  obtain ⟨b1, b2, b3, b4, b5, b6, b7⟩ := h'
  exact ⟨fun i hi => (b1 i hi).trans (a1 i hi), b2.trans a2, fun k h1 h2 => (b3 k h1 h2).trans (a3 k h1 h2), fun k h1 h2 => (b4 k h1 h2).trans (a4 k h1 h2), b5.trans a5, b6.trans a6, b7.trans a7⟩
theorem rI_ag (hC : agC C C') (hM : agM M M') (h : rI L xs C M hm) : rI L xs C' M' hm := by
  obtain ⟨nc, nw, nb, np, nt, now, kd, wa, wb, wd, wl, ws, h1, h2, h3, h4, h5, h6⟩ := h
  obtain ⟨a1, a2, a3, a4, a5, a6, a7, a8⟩ := hC
  obtain ⟨b1, b2, b3, b4, b5, b6, b7⟩ := hM
  have hg := mAg_of (M := M) (M' := M') (nc := nc) (nw := nw) (nb := nb) (np := np) (fun k h1 h2 => b3 k h1 (by omega))
  refine ⟨nc, nw, nb, np, nt, now, kd, wa, wb, wd, wl, ws, rP_congr a1 b1 hg h1, rIm_congr a2 a3 b5 (fun i _ => by rw [b2]) hg (Nat.le_refl _) (Nat.le_refl _) (Nat.le_refl _) (Nat.le_refl _) (Nat.le_refl _) (Nat.le_refl _) h2, ?_, ?_, ?_, ?_⟩
  · exact rHi_congr a6 a7 (b3 20 (by omega) (by omega)) (b3 21 (by omega) (by omega)) (b3 22 (by omega) (by omega)) (b3 23 (by omega) (by omega)) (b3 24 (by omega) (by omega)) (b3 25 (by omega) (by omega)) (fun b _ => by rw [b3 16 (by omega) (by omega)]) h3
  · exact rTx_congr a4 a5 (b3 18 (by omega) (by omega)) (b3 19 (by omega) (by omega)) h4
  · exact rSh_congr a8 (b4 52 (by omega) (by omega)) (b4 53 (by omega) (by omega)) (b4 54 (by omega) (by omega)) (b4 55 (by omega) (by omega)) (b4 56 (by omega) (by omega)) b7 h5
  · rw [b6]; exact h6
theorem w_ne {m : mM} {p q : List Nat} {k : Nat} {v : Int32} (h : q ≠ p) : (wI m p k v).1 q = m.1 q := if_neg h
theorem w_ne_k {m : mM} {p q : List Nat} {k j : Nat} {v : Int32} (h : j ≠ k) : (wI m p k v).1 q j = m.1 q j := by
  rw [w_at, if_neg (fun e => h e.2)]
theorem agM_w0 {M : mM} {k : Nat} {v : Int32} (h4 : k ≠ 4) (h26 : k ≠ 26) : agM M (wI M [1] k v) :=
  ⟨fun i _ => by rw [w_ne (by decide)], w_ne (by decide), fun k _ _ => w_ne (fun e => by cases e), fun k _ _ => w_ne (fun e => by cases e), w_ne_k (Ne.symm h4), w_ne_k (Ne.symm h26), rfl⟩
theorem agM_w1 {M : mM} {k j : Nat} {v : Int32} (h1 : j ≠ 1) (h2 : j ≠ 2) (h3 : j < 5 ∨ 25 < j) (h4 : j < 52 ∨ 56 < j) : agM M (wI M [j, 1] k v) :=
  ⟨fun i _ => by rw [w_ne (fun e => h1 (by cases e; rfl))], w_ne (fun e => h2 (by cases e; rfl)), fun k _ _ => w_ne (fun e => by cases e; omega), fun k _ _ => w_ne (fun e => by cases e; omega), by rw [w_ne (fun e => by cases e)], by rw [w_ne (fun e => by cases e)], rfl⟩
end Inv3
