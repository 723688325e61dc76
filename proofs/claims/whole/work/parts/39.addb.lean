section AddB
theorem pf4 {t : List Nat} {a b : Nat} {q : List Nat} (h : q.reverse.take 2 = [b, a] → False) : t ++ [a, b] ≠ q := fun e => h (by rw [← e]; simp)
theorem rI_addB {L : Nat} {xs : Nat → Int32} {C C' M M' : mM} {nc nw nb np np' nt now hm k : Nat} {kd wa wb wd wl ws : Nat → Nat}
    (hP : rP [0, 0] (M.1 [1, 1]) C M nc nw nb np nt now hm kd wa wb wd wl ws) (hIm : rIm C M nc nw nb np nt now hm) (hHi : rHi C M nb now kd) (hTx : rTx L xs C M nt) (hSh : rSh C M) (hMi : M.1 [1] 26 = oN 0)
    (hb : nb < 40)
    (hC1 : ∀ q, q ≠ [0, 0] → q ≠ [12, 0, 0] → q ≠ [14, 0, 0] → q ≠ [nb, 10, 0, 0] → q ≠ [18, nb, 10, 0, 0] → C'.1 q = C.1 q)
    (hC0 : ∀ j, j ≠ 9 → j ≠ 11 → j ≠ 13 → C'.1 [0, 0] j = C.1 [0, 0] j) (hC9 : C'.1 [0, 0] 9 = oN (nb + 1)) (hC11 : C'.1 [0, 0] 11 = oN (cntG (updN kd nb k) (nb + 1))) (hC13 : C'.1 [0, 0] 13 = oN np')
    (h12 : ∀ j, j < cntG kd nb → C'.1 [12, 0, 0] j = C.1 [12, 0, 0] j) (h12n : k = 0 → C'.1 [12, 0, 0] (cntG kd nb) = oN nb)
    (h14 : ∀ j, j < np → C'.1 [14, 0, 0] j = C.1 [14, 0, 0] j) (hnp : np' = np ∨ (np' = np + 1 ∧ np' ≤ 8 ∧ k = 4 ∧ C'.1 [14, 0, 0] np = oN nb ∧ M'.1 [17, 1] np = oN nb))
    (hM1 : ∀ q, q ≠ [1, 1] → q ≠ [11, 1] → q ≠ [12, 1] → q ≠ [13, 1] → q ≠ [14, 1] → q ≠ [15, 1] → q ≠ [16, 1] → q ≠ [17, 1] → M'.1 q = M.1 q)
    (hM2 : ∀ b, b < nb → M'.1 [11, 1] b = M.1 [11, 1] b ∧ M'.1 [12, 1] b = M.1 [12, 1] b ∧ M'.1 [13, 1] b = M.1 [13, 1] b ∧ M'.1 [14, 1] b = M.1 [14, 1] b ∧ M'.1 [15, 1] b = M.1 [15, 1] b ∧ M'.1 [16, 1] b = M.1 [16, 1] b)
    (hM3 : ∀ j, j < np → M'.1 [17, 1] j = M.1 [17, 1] j)
    (hS : ∀ j, j < 1600 → j ≠ 2 → j ≠ 4 → (j < 200 + 16 * nb ∨ 200 + 16 * nb + 16 ≤ j) → M'.1 [1, 1] j = M.1 [1, 1] j) (hS2 : M'.1 [1, 1] 2 = oN (nb + 1)) (hS4 : M'.1 [1, 1] 4 = oN np')
    (h16 : M'.1 [16, 1] nb = oN now) (hL : M'.2.1 [57, 1] = M.2.1 [57, 1])
    (hnew : rB [0, 0] (M'.1 [1, 1]) C' M' nc nw now hm k nb) (hCL : C'.2.1 [1, 5, 0] = C.2.1 [1, 5, 0] := by first | rfl | assumption) : rI L xs C' M' hm := by
  obtain ⟨g1, g2, g3, g4, g5, g6, g7, g8, g9, g10⟩ := hP
  obtain ⟨cN, cT, cC, cW, cB, cG, cP, S0, S1, S2, S3, S4, S5, b16, b24, b40, b8, b20, b4320⟩ := g1
  have hle := cntG_le kd nb
  have hCk : ∀ k, k ≠ 10 → k ≠ 12 → k ≠ 14 → C'.1 [k, 0, 0] = C.1 [k, 0, 0] := fun k h1 h2 h3 => hC1 _ (by simp) (by simp [h2]) (by simp [h3]) (by simp) (by simp)
  have hC6 : ∀ k, C'.1 [k, 6, 0, 0] = C.1 [k, 6, 0, 0] := fun k => hC1 _ (by simp) (by simp) (by simp) (by simp) (by simp)
  have hMk : ∀ k, k ≠ 1 → (k < 11 ∨ 17 < k) → M'.1 [k, 1] = M.1 [k, 1] := fun k h1 h2 => hM1 _ (by simp [h1]) (by simp; omega) (by simp; omega) (by simp; omega) (by simp; omega) (by simp; omega) (by simp; omega) (by simp; omega)
  have hCb : ∀ b, b ≠ nb → C'.1 [b, 10, 0, 0] = C.1 [b, 10, 0, 0] := fun b h => hC1 _ (by simp) (by simp) (by simp) (by simp [h]) (by simp)
  have hCt : ∀ b, b ≠ nb → C'.1 [18, b, 10, 0, 0] = C.1 [18, b, 10, 0, 0] := fun b h => hC1 _ (by simp) (by simp) (by simp) (by simp) (by simp [h])
  have hCu : ∀ k b, C'.1 [k, 18, b, 10, 0, 0] = C.1 [k, 18, b, 10, 0, 0] := fun k b => hC1 _ (by simp) (by simp) (by simp) (by simp) (by simp)
  have hag : ∀ b, b < nb → agB [0, 0] (M.1 [1, 1]) (M'.1 [1, 1]) C C' M M' b := fun b hbn => ⟨⟨hCb b (by omega), hCt b (by omega), hCu 1 b, hCu 2 b⟩, fun i hi => hS _ (by omega) (by omega) (by omega) (by omega), fun i hi => hS _ (by omega) (by omega) (by omega) (by omega), hM2 b hbn⟩
  have hsf : ∀ (t : List Nat) (a b : Nat), [a, b] ≠ [0, 0] → [a, b] ≠ [10, 0] → C'.1 (t ++ [a, b]) = C.1 (t ++ [a, b]) := fun t a b n1 n2 => by
    have hn : ¬ (a = 0 ∧ b = 0) := fun e => n1 (by rw [e.1, e.2])
    refine hC1 _ (pf4 fun e => ?_) (pf4 fun e => ?_) (pf4 fun e => ?_) (pf4 fun e => ?_) (pf4 fun e => ?_) <;> simp at e <;> omega
  have hmg : mAg M M' nc nw nb np := ⟨fun i _ => by rw [hMk 5 (by omega) (by omega), hMk 6 (by omega) (by omega)]; exact ⟨rfl, rfl⟩, fun i _ => by rw [hMk 7 (by omega) (by omega), hMk 8 (by omega) (by omega), hMk 9 (by omega) (by omega), hMk 10 (by omega) (by omega)]; exact ⟨rfl, rfl, rfl, rfl⟩, hM2, hM3⟩
  have hrt : ∀ j, M'.1 [1] j = M.1 [1] j := fun j => by rw [hM1 [1] (by simp) (by simp) (by simp) (by simp) (by simp) (by simp) (by simp) (by simp)]
  have hnple : np ≤ np' ∧ np' ≤ 8 := by omega
  refine ⟨nc, nw, nb + 1, np', nt, now, updN kd nb k, wa, wb, wd, wl, ws, ⟨?_, ?_, ?_, ?_, ?_, ?_, ?_, ?_, ?_, ?_⟩, ?_, ?_, ?_, ?_, ?_⟩
  · refine ⟨?_, ?_, ?_, ?_, hC9, hC11, hC13, ?_, ?_, hS2, ?_, hS4, ?_, b16, b24, by omega, hnple.2, b20, b4320⟩
    · rw [hC0 0 (by omega) (by omega) (by omega)]; exact cN
    · rw [hC0 1 (by omega) (by omega) (by omega)]; exact cT
    · rw [hC0 2 (by omega) (by omega) (by omega)]; exact cC
    · show C'.1 [6, 0, 0] 0 = _; rw [hCk 6 (by omega) (by omega) (by omega)]; exact cW
    · rw [hS 0 (by omega) (by omega) (by omega) (by omega)]; exact S0
    · rw [hS 1 (by omega) (by omega) (by omega) (by omega)]; exact S1
    · rw [hS 3 (by omega) (by omega) (by omega) (by omega)]; exact S3
    · rw [hS 5 (by omega) (by omega) (by omega) (by omega)]; exact S5
  · exact rCe_congr (hCk 3 (by omega) (by omega) (by omega)) (hCk 4 (by omega) (by omega) (by omega)) (hCk 5 (by omega) (by omega) (by omega)) (fun i hi => hS _ (by omega) (by omega) (by omega) (by omega)) hmg.1 g2
  · exact rWa_congr (hC6 1) (hC6 2) (hC6 3) (hC6 4) (hC6 5) (fun i hi => hS _ (by omega) (by omega) (by omega) (by omega)) hmg.2.1 g3
  · exact rWd_congr (hC6 6) (hC6 7) (hC6 9) (fun i hi => hS _ (by omega) (by omega) (by omega) (by omega)) (fun i hi => hS _ (by omega) (by omega) (by omega) (by omega)) (fun i hi => hS _ (by omega) (by omega) (by omega) (by omega)) g4
  · exact rHe_congr (hCk 7 (by omega) (by omega) (by omega)) (fun i hi => hS _ (by omega) (by omega) (by omega) (by omega)) g5
  · exact rFo_congr (hCk 8 (by omega) (by omega) (by omega)) (fun i hi => hS _ (by omega) (by omega) (by omega) (by omega)) g6
  · exact rBo_add b40 g7 hag hnew
  · exact rGr_add g8 (fun b hbn hk => h12 _ (cntG_lt kd hbn hk)) h12n
  · intro i hi
    rcases hnp with e | ⟨e1, e2, e3, e4, e5⟩
    · obtain ⟨b, p1, p2, p3, p4⟩ := g9 i (by omega)
      exact ⟨b, by omega, by rw [updN_ne (by omega)]; exact p2, (h14 i (by omega)).trans p3, (hM3 i (by omega)).trans p4⟩
    · by_cases q : i = np
      · subst q
        exact ⟨nb, by omega, by rw [updN_same]; exact e3, e4, e5⟩
      · obtain ⟨b, p1, p2, p3, p4⟩ := g9 i (by omega)
        exact ⟨b, by omega, by rw [updN_ne (by omega)]; exact p2, (h14 i (by omega)).trans p3, (hM3 i (by omega)).trans p4⟩
  · exact rDi_congr (by show C'.1 [6, 0, 0] 11 = _; rw [hCk 6 (by omega) (by omega) (by omega)]) (hC6 12) g10
  · exact rIm_congr (fun t => hsf t 1 0 (by simp) (by simp)) (by rw [hC1 [0] (by simp) (by simp) (by simp) (by simp) (by simp)]) (hrt 4) (fun i _ => by rw [hMk 2 (by omega) (by omega)]) hmg (by omega) (by omega) (by omega) (by omega) (by omega) (by omega) hIm
  · exact rHi_add b4320 (rHi_congr (hC1 _ (by simp) (by simp) (by simp) (by simp) (by simp)) hCL (hMk 20 (by omega) (by omega)) (hMk 21 (by omega) (by omega)) (hMk 22 (by omega) (by omega)) (hMk 23 (by omega) (by omega)) (hMk 24 (by omega) (by omega)) (hMk 25 (by omega) (by omega)) (fun b hb => (hM2 b hb).2.2.2.2.2) hHi) h16
  · exact rTx_congr (hC1 _ (by simp) (by simp) (by simp) (by simp) (by simp)) (hC1 _ (by simp) (by simp) (by simp) (by simp) (by simp)) (hMk 18 (by omega) (by omega)) (hMk 19 (by omega) (by omega)) hTx
  · exact rSh_congr (fun t => hsf t 6 0 (by simp) (by simp)) (hMk 52 (by omega) (by omega)) (hMk 53 (by omega) (by omega)) (hMk 54 (by omega) (by omega)) (hMk 55 (by omega) (by omega)) (hMk 56 (by omega) (by omega)) hL hSh
  · rw [hrt]; exact hMi
end AddB
