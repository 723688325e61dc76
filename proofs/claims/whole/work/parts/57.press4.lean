section Press4
variable {L : Nat} {xs : Nat → Int32} {C C' M M' : mM} {S' : Nat → Int32} {c nc nw nb np nt now td hm : Nat} {kd wa wb wd wl ws : Nat → Nat}
theorem rPt_dyn (h : rPt [c, 0] (M.1 [1, 1]) C M nc nw nb np nt now td hm kd wa wb wd wl ws)
    (hC : ∀ q, q ≠ [6, 6, c, 0] → q ≠ [7, 6, c, 0] → q ≠ [8, 6, c, 0] → q ≠ [9, 6, c, 0] → q ≠ [10, 6, c, 0] → q ≠ [15, c, 0] → q ≠ [8, 4, 0] → C'.1 q = C.1 q) (hc : c ≠ 4)
    (hS : ∀ i, i < 1600 → (i < 60 ∨ 60 + nw ≤ i) → (i < 90 ∨ 90 + nw ≤ i) → (i < 120 ∨ 120 + nw ≤ i) → S' i = M.1 [1, 1] i) (hM : ∀ k, 5 ≤ k → k ≤ 17 → M'.1 [k, 1] = M.1 [k, 1]) (hd : rWd [c, 0] S' C' nw hm) :
    rPt [c, 0] S' C' M' nc nw nb np nt now td hm kd wa wb wd wl ws := by
  obtain ⟨g1, g2, g3, g4, g5, g6, g7, g8, g9, g10⟩ := h
  have b40 := g1.2.2.2.2.2.2.2.2.2.2.2.2.2.2.2.1
  have b24 := g1.2.2.2.2.2.2.2.2.2.2.2.2.2.2.1
  have b16 := g1.2.2.2.2.2.2.2.2.2.2.2.2.2.1
  have hk : ∀ k, k ≠ 15 → C'.1 [k, c, 0] = C.1 [k, c, 0] := fun k h => hC _ (by simp) (by simp) (by simp) (by simp) (by simp) (by simp [h]) (by simp; omega)
  have hk6 : ∀ k, k < 6 ∨ 10 < k → C'.1 [k, 6, c, 0] = C.1 [k, 6, c, 0] := fun k h1 => hC _ (by simp; omega) (by simp; omega) (by simp; omega) (by simp; omega) (by simp; omega) (by simp) (by simp)
  have hb : ∀ b, C'.1 [b, 10, c, 0] = C.1 [b, 10, c, 0] := fun b => hC _ (by simp) (by simp) (by simp) (by simp) (by simp) (by simp) (by simp)
  have hr : C'.1 [c, 0] = C.1 [c, 0] := hC _ (by simp) (by simp) (by simp) (by simp) (by simp) (by simp) (by simp)
  have h3 : ∀ j b, C'.1 [j, b, 10, c, 0] = C.1 [j, b, 10, c, 0] := fun j b => hC _ (by simp) (by simp) (by simp) (by simp) (by simp) (by simp) (by simp)
  have h4 : ∀ i j b, C'.1 [i, j, b, 10, c, 0] = C.1 [i, j, b, 10, c, 0] := fun i j b => hC _ (by simp) (by simp) (by simp) (by simp) (by simp) (by simp) (by simp)
  exact ⟨rSc_congr hr (congrFun (hk 6 (by omega)) 0) (fun i hi => hS i (by omega) (by omega) (by omega) (by omega)) g1, rCe_congr (hk 3 (by omega)) (hk 4 (by omega)) (hk 5 (by omega)) (fun i hi => hS _ (by omega) (by omega) (by omega) (by omega)) (fun i _ => ⟨by rw [hM 5 (by omega) (by omega)], by rw [hM 6 (by omega) (by omega)]⟩) g2,
    rWa_congr (hk6 1 (by omega)) (hk6 2 (by omega)) (hk6 3 (by omega)) (hk6 4 (by omega)) (hk6 5 (by omega)) (fun i hi => hS _ (by omega) (by omega) (by omega) (by omega)) (fun i _ => ⟨by rw [hM 7 (by omega) (by omega)], by rw [hM 8 (by omega) (by omega)], by rw [hM 9 (by omega) (by omega)], by rw [hM 10 (by omega) (by omega)]⟩) g3,
    hd, rHe_congr (hk 7 (by omega)) (fun i hi => hS _ (by omega) (by omega) (by omega) (by omega)) g5, rFo_congr (hk 8 (by omega)) (fun i hi => hS _ (by omega) (by omega) (by omega) (by omega)) g6,
    rBo_congr b40 (fun b _ => ⟨hb b, h3 18 b, h4 1 18 b, h4 2 18 b⟩) (fun i h1 hi => hS i hi (by omega) (by omega) (by omega)) (fun b _ => ⟨by rw [hM 11 (by omega) (by omega)], by rw [hM 12 (by omega) (by omega)], by rw [hM 13 (by omega) (by omega)], by rw [hM 14 (by omega) (by omega)], by rw [hM 15 (by omega) (by omega)], by rw [hM 16 (by omega) (by omega)]⟩) g7,
    rGr_congr (hk 12 (by omega)) g8, rPo_congr (hk 14 (by omega)) (fun i _ => by rw [hM 17 (by omega) (by omega)]) g9, rDi_congr (congrFun (hk 6 (by omega)) 11) (hk6 12 (by omega)) g10⟩
def frP (M M' : mM) : Prop := (∀ k, k ≠ 1 → k ≠ 27 → k ≠ 37 → k ≠ 39 → k ≠ 41 → M'.1 [k, 1] = M.1 [k, 1]) ∧ M'.1 [1] 4 = M.1 [1] 4 ∧ M'.1 [1] 26 = M.1 [1] 26 ∧ M'.2 = M.2
theorem frP_refl : frP M M := ⟨fun _ _ _ _ _ _ => rfl, rfl, rfl, rfl⟩
theorem frP_trans {A B D : mM} (h : frP A B) (h' : frP B D) : frP A D := ⟨fun k h1 h2 h3 h4 h5 => (h'.1 k h1 h2 h3 h4 h5).trans (h.1 k h1 h2 h3 h4 h5), h'.2.1.trans h.2.1, h'.2.2.1.trans h.2.2.1, h'.2.2.2.trans h.2.2.2⟩
theorem frP_of (h : frM M M') : frP M M' := ⟨fun k h1 _ _ _ _ => h.1 _ (by simp [h1]), by rw [h.1 _ (by simp)], by rw [h.1 _ (by simp)], h.2⟩
theorem frP_of2 (h : frM2 M M') : frP M M' := ⟨fun k h1 h2 _ _ _ => h.1 _ (by simp [h1]) (by simp [h2]), by rw [h.1 _ (by simp) (by simp)], by rw [h.1 _ (by simp) (by simp)], h.2⟩
theorem press1_ok (hc : c ≠ 4) (hhm : hm ≤ 1000) (hP : rPt [c, 0] (M.1 [1, 1]) C M nc nw nb np nt now td hm kd wa wb wd wl ws) : ∃ C1 C2 M2, kV L xs 23 [vr 2 [c, 0]] C = some C1 ∧ kV L xs 17 [vr 8 [6, c, 0]] C1 = some C2 ∧
    run L xs 207 34 (2, [some (vr 10 [1]), some (vi (oN 0)), none, none, none], [], M) = run L xs 207 34 (213, [some (vr 10 [1]), some (vi (oN 0)), none, none, none], [], M2) ∧ rPt [c, 0] (M2.1 [1, 1]) C2 M2 nc nw nb np nt now td hm kd wa wb wd wl ws ∧ frC [c, 0] C C2 ∧ frP M M2 := by
  obtain ⟨pn, pu, C1, C2, k1, k2, k3, k4, k5⟩ := weigh_ok (L := L) (xs := xs) hhm hP
  have hP' := hP
  obtain ⟨g1, g2, g3, g4, g5, g6, g7, g8, g9, g10⟩ := hP'
  have hsc := g1
  obtain ⟨cN, cT, cC, cW, cB, cG, cP, S0, S1, S2, S3, S4, S5, b16, b24, b40, b8, b20, b4320⟩ := hsc
  obtain ⟨zn, hzn⟩ := (Classical.skolem (p := fun w z => z ≤ 40 * hm ∧ sumN (hoF c C kd w) nb = oN z)).mp (fun w => ho_nat hhm hP w)
  have hpz : ∀ w, w < nw → zn w / wd w = pn w := fun w hw => by
    obtain ⟨-, -, ⟨z, z1, z2, z3⟩, -⟩ := k3 w hw
    obtain ⟨y1, y2⟩ := hzn w
    have : z = zn w := (n_inj (by omega) (by omega)).mp (z2.symm.trans y2)
    rw [← this]; exact z3
  obtain ⟨pn', hpn'⟩ : ∃ pn' : Nat → Nat, ∀ w, zn w / wd w = pn' w := ⟨fun w => zn w / wd w, fun _ => rfl⟩
  have hpe : ∀ w, w < nw → pn' w = pn w := fun w hw => by rw [← hpn', hpz w hw]
  obtain ⟨A1, a1, a2, a3⟩ := a_loop (L := L) (xs := xs) (M := M) (nw := nw) (wd := wd) (zn := zn) (pn := pn') b24 (fun w hw => by
    obtain ⟨-, -, -, wd1, wd60, -, -, -, -, -, -, -, -, md, -⟩ := g3 w hw
    exact ⟨wd1, wd60, md⟩) (fun w => ⟨by have := (hzn w).1; omega, hpn' w⟩) S1 (fun S' w hw hS' => by
    have hk := s_177 (L := L) (xs := xs) (w := w) (nw := nw) (M := stA M [1, 1] S') (nb := nb) (kd := kd) hw b24 ⟨by rw [stA_same, hS' 2 (by omega)]; exact S2, b40, fun b' hb' => by
      obtain ⟨⟨x1, -, -, x4, -⟩, -⟩ := g7 b' hb'
      exact ⟨x1, by rw [stA_ne (by simp)]; exact x4⟩⟩
    rw [hk, stA_same, ← (hzn w).2, headsT_eq hw hP]
    congr 2
    refine sumN_congr (fun b hb => ?_)
    rw [hS' _ (by omega), hS' _ (by omega)]) nw 0 (M.1 [1, 1]) (by omega) (fun j hj => by omega) (fun _ _ => rfl)
  rw [stA_id] at a1
  have hmA : mWy (stA M [1, 1] A1) nc nw wa wb wl ws := by
    have := rPt_mWy hP
    unfold mWy at this ⊢
    obtain ⟨x1, x2, x3, x4⟩ := this
    refine ⟨by rw [stA_same, a3 1 (by omega)]; exact x1, x2, x3, fun w hw => ?_⟩
    rw [stA_ne (by simp), stA_ne (by simp), stA_ne (by simp), stA_same, a3 (30 + w) (by omega)]
    exact x4 w hw
  obtain ⟨G, b1, b2⟩ := b_loop (L := L) (xs := xs) (M := stA M [1, 1] A1) (pn := pn) (pu := pu) (B := 80 * hm) (by omega) hmA (fun w hw => ⟨by have := (k3 w hw).1; omega, by rw [stA_same, a2 w hw, hpe w hw]⟩)
    (fun v hv => ⟨(k3 v hv).2.1, by
      rw [stA_same, a3 (90 + v) (by omega)]
      obtain ⟨-, ⟨k, -, y1, y2⟩, -⟩ := g4 v hv
      rw [y2, ← y1]; exact (k3 v hv).2.2.2.1⟩) nw 0 ((stA M [1, 1] A1).1 [41, 1]) (by omega) (fun j hj => by omega)
  rw [stA_id] at b1
  obtain ⟨A2, c1, c2, c3⟩ := c_loop (L := L) (xs := xs) (M := stA (stA M [1, 1] A1) [41, 1] G) (nw := nw) (qn := qN wa wb pn pu nw) b24 (by rw [stA_ne (by simp)]; exact hmA.1) (fun j hj => by rw [stA_same]; exact b2 j hj) nw 0 ((stA (stA M [1, 1] A1) [41, 1] G).1 [1, 1]) (by omega) (fun j hj => by omega) (fun _ _ => rfl)
  rw [stA_id] at c1
  have hA2 : ∀ i, (i < 90 ∨ 90 + nw ≤ i) → A2 i = A1 i := fun i hi => by rw [c3 i hi, stA_ne (by simp), stA_same]
  refine ⟨C1, C2, _, k1, k2, (a1.trans b1).trans c1, ?_, ⟨fun q hq _ => k4 q (hq [6, 6]) (hq [7, 6]) (hq [8, 6]) (hq [10, 6]), k5⟩, ⟨fun k h1 h2 h3 h4 h5 => by rw [stA_ne (by simp [h1]), stA_ne (by simp [h5]), stA_ne (by simp [h1])], rfl, rfl, rfl⟩⟩
  rw [stA_same]
  refine rPt_dyn hP (fun q h1 h2 h3 _ h5 _ _ => k4 q h1 h2 h3 h5) hc (fun i hi h1 h2 h3 => by rw [hA2 i h2, a3 i h1]) (fun k h1 h2 => by rw [stA_ne (by simp; omega), stA_ne (by simp; omega), stA_ne (by simp; omega)]) (fun w hw => ?_)
  obtain ⟨x1, x2, x3, x4, x5, x6⟩ := k3 w hw
  refine ⟨⟨pn w, x1, x5, by rw [hA2 _ (by omega), a2 w hw, hpe w hw]⟩, ⟨qN wa wb pn pu nw w, ?_, x6, c2 w hw⟩, ?_⟩
  · have hn := nbP_le (wa := wa) (wb := wb) (w := w) (k := nw) (fun i hi => (k3 i hi).2.1)
    unfold qN
    split
    · omega
    · split <;> omega
  · obtain ⟨-, -, k, y1, y2, y3⟩ := g4 w hw
    exact ⟨k, y1, by rw [k4 _ (by simp) (by simp) (by simp) (by simp)]; exact y2, by rw [hA2 _ (by omega), a3 _ (by omega)]; exact y3⟩
end Press4
