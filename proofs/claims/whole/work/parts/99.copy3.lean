section Copy3
variable {L : Nat} {xs : Nat → Int32} {C C' M : mM} {S : Nat → Int32} {pc qc nc nw nb np nt now hm : Nat} {kd wa wb wd wl ws : Nat → Nat}
set_option maxRecDepth 8000 in
theorem copy_ok (hpq : qc ≠ pc) (hP : rP [qc, 0] S C M nc nw nb np nt now hm kd wa wb wd wl ws) : ∃ C' na, kV L xs 31 [vr 2 [pc, 0], vr 2 [qc, 0]] C = some C' ∧ cpF C C' pc qc nc nw nb (cntG kd nb) np na ∧ ∀ b, b < nb → C.1 [18, b, 10, qc, 0] 0 = oN (na b) ∧ na b ≤ 8 := by
  obtain ⟨g1, g2, g3, g4, g5, g6, g7, g8, g9, g10⟩ := hP
  obtain ⟨cN, cT, cC, cW, cB, cG, cP, S0, S1, S2, S3, S4, S5, b16, b24, b40, b8, b20, b4320⟩ := g1
  have hle := cntG_le kd nb
  have h1 : ∀ b, ∃ n : Nat, b < nb → C.1 [18, b, 10, qc, 0] 0 = oN n ∧ n ≤ 8 := fun b => by
    by_cases hb : b < nb
    · obtain ⟨-, -, -, -, n, n8, a1, -⟩ := g7 b hb
      exact ⟨n, fun _ => ⟨a1, n8⟩⟩
    · exact ⟨0, fun q => absurd q hb⟩
  obtain ⟨na, hna⟩ := (Classical.skolem (p := fun b n => _)).mp h1
  obtain ⟨A1, hA1⟩ : ∃ A1, A1 = wI C [pc, 0] 0 (C.1 [qc, 0] 0) := ⟨_, rfl⟩
  obtain ⟨A2, hA2⟩ : ∃ A2, A2 = wI A1 [pc, 0] 1 (A1.1 [qc, 0] 1) := ⟨_, rfl⟩
  obtain ⟨A3, hA3⟩ : ∃ A3, A3 = wI A2 [pc, 0] 2 (A2.1 [qc, 0] 2) := ⟨_, rfl⟩
  have f3 : ∀ z, z ≠ [pc, 0] → A3.1 z = C.1 z := fun z hz => by rw [hA3, w_ne hz, hA2, w_ne hz, hA1, w_ne hz]
  have s3 : A3.2 = C.2 := by rw [hA3, hA2, hA1]; rfl
  have p30 : A3.1 [pc, 0] 0 = C.1 [qc, 0] 0 := by rw [hA3, w_ne_k (by omega), hA2, w_ne_k (by omega), hA1, w_at, if_pos ⟨rfl, rfl⟩]
  have p31 : A3.1 [pc, 0] 1 = C.1 [qc, 0] 1 := by rw [hA3, w_ne_k (by omega), hA2, w_at, if_pos ⟨rfl, rfl⟩, hA1, w_ne (by simp [hpq])]
  have p32 : A3.1 [pc, 0] 2 = C.1 [qc, 0] 2 := by rw [hA3, w_at, if_pos ⟨rfl, rfl⟩, hA2, w_ne (by simp [hpq]), hA1, w_ne (by simp [hpq])]
  obtain ⟨A4, hA4⟩ : ∃ A4, A4 = wC A3 [3, qc, 0] [3, pc, 0] 0 0 nc := ⟨_, rfl⟩
  obtain ⟨A5, hA5⟩ : ∃ A5, A5 = wC A4 [4, qc, 0] [4, pc, 0] 0 0 nc := ⟨_, rfl⟩
  obtain ⟨A6, hA6⟩ : ∃ A6, A6 = wC A5 [5, qc, 0] [5, pc, 0] 0 0 nc := ⟨_, rfl⟩
  have f4 : ∀ z, z ≠ [3, pc, 0] → A4.1 z = A3.1 z := fun z h => by rw [hA4, wC_ne h]
  have f5 : ∀ z, z ≠ [4, pc, 0] → A5.1 z = A4.1 z := fun z h => by rw [hA5, wC_ne h]
  have f6 : ∀ z, z ≠ [5, pc, 0] → A6.1 z = A5.1 z := fun z h => by rw [hA6, wC_ne h]
  have f63 : ∀ z, z ≠ [3, pc, 0] → z ≠ [4, pc, 0] → z ≠ [5, pc, 0] → A6.1 z = A3.1 z := fun z h1 h2 h3 => by rw [f6 z h3, f5 z h2, f4 z h1]
  have q3 : ∀ i, i < nc → A6.1 [3, pc, 0] i = C.1 [3, qc, 0] i := fun i hi => by rw [f6 _ (by simp), f5 _ (by simp), hA4, wC_cp hi, f3 _ (by simp)]
  have q4 : ∀ i, i < nc → A6.1 [4, pc, 0] i = C.1 [4, qc, 0] i := fun i hi => by rw [f6 _ (by simp), hA5, wC_cp hi, f4 _ (by simp), f3 _ (by simp)]
  have q5 : ∀ i, i < nc → A6.1 [5, pc, 0] i = C.1 [5, qc, 0] i := fun i hi => by rw [hA6, wC_cp hi, f5 _ (by simp), f4 _ (by simp), f3 _ (by simp)]
  have q6 : ∀ k, A6.1 [k, 6, qc, 0] = C.1 [k, 6, qc, 0] := fun k => by rw [f63 _ (by simp) (by simp) (by simp), f3 _ (by simp)]
  have q60 : A6.1 [6, qc, 0] = C.1 [6, qc, 0] := by rw [f63 _ (by simp) (by simp) (by simp), f3 _ (by simp)]
  obtain ⟨A7, k73, s7, f7, w0, w11, wk, w12⟩ := s_73 (L := L) (xs := xs) (C := A6) (pc := pc) (qc := qc) (n := nw) hpq (by rw [q60]; exact cW) b24 (fun w hw => by
    obtain ⟨-, -, k, k1, k2, -⟩ := g4 w hw
    exact ⟨k, k1, by rw [q6]; exact k2⟩) (by
    rw [q60]
    rcases g10 with e | ⟨e, -⟩
    · exact .inl e
    · exact .inr e)
  rw [q60] at w11 w12
  obtain ⟨A8, hA8⟩ : ∃ A8, A8 = wC A7 [7, qc, 0] [7, pc, 0] 0 0 24 := ⟨_, rfl⟩
  obtain ⟨A9, hA9⟩ : ∃ A9, A9 = wC A8 [8, qc, 0] [8, pc, 0] 0 0 16 := ⟨_, rfl⟩
  obtain ⟨A10, hA10⟩ : ∃ A10, A10 = wI A9 [pc, 0] 9 (A9.1 [qc, 0] 9) := ⟨_, rfl⟩
  have f8 : ∀ z, z ≠ [7, pc, 0] → A8.1 z = A7.1 z := fun z h => by rw [hA8, wC_ne h]
  have f9 : ∀ z, z ≠ [8, pc, 0] → A9.1 z = A8.1 z := fun z h => by rw [hA9, wC_ne h]
  have f10 : ∀ z, z ≠ [pc, 0] → A10.1 z = A9.1 z := fun z h => by rw [hA10, w_ne h]
  have fA : ∀ z, (∀ t, z ≠ t ++ [pc, 0]) → A10.1 z = C.1 z := fun z h => by
    rw [f10 z (h []), f9 z (h [8]), f8 z (h [7]), f7 z (h [6]) (fun k => h [k, 6]), f63 z (h [3]) (h [4]) (h [5]), f3 z (h [])]
  have qn : ∀ t t', t ++ [qc, 0] ≠ t' ++ [pc, 0] := fun t t' e => by have := sf_t e; omega
  have fQ : ∀ t, A10.1 (t ++ [qc, 0]) = C.1 (t ++ [qc, 0]) := fun t => fA _ (qn t)
  have p9 : A10.1 [pc, 0] 9 = C.1 [qc, 0] 9 := by
    rw [hA10, w_at, if_pos ⟨rfl, rfl⟩, f9 _ (by simp), f8 _ (by simp), f7 _ (by simp) (by simp), f63 _ (by simp) (by simp) (by simp), f3 _ (by simp [hpq])]
  have pA : ∀ j, j ≠ 9 → A10.1 [pc, 0] j = A3.1 [pc, 0] j := fun j hj => by
    rw [hA10, w_ne_k hj, f9 _ (by simp), f8 _ (by simp), f7 _ (by simp) (by simp), f63 _ (by simp) (by simp) (by simp)]
  obtain ⟨D, k126, j1, j2, j3⟩ := cb_loop (L := L) (xs := xs) (B := A10) (nb := nb) (na := na) hpq (by rw [p9]; exact cB) b40 (fun b hb => by
    have : A10.1 [18, b, 10, qc, 0] = C.1 [18, b, 10, qc, 0] := fQ [18, b, 10]
    rw [this]; exact hna b hb) nb 0 A10 (by omega) ⟨rfl, fun _ _ => rfl, fun b hb => absurd hb (by omega)⟩
  have hlen3 : ∀ (z : List Nat), z.length ≤ 3 → ∀ b t, z ≠ t ++ [b, 10, pc, 0] := fun z hz b t e => by
    have := congrArg List.length e
    simp at this; omega
  obtain ⟨E1, hE1⟩ : ∃ E1, E1 = wI D [pc, 0] 11 (D.1 [qc, 0] 11) := ⟨_, rfl⟩
  obtain ⟨E2, hE2⟩ : ∃ E2, E2 = wC E1 [12, qc, 0] [12, pc, 0] 0 0 (cntG kd nb) := ⟨_, rfl⟩
  obtain ⟨E3, hE3⟩ : ∃ E3, E3 = wI E2 [pc, 0] 13 (E2.1 [qc, 0] 13) := ⟨_, rfl⟩
  obtain ⟨E4, hE4⟩ : ∃ E4, E4 = wC E3 [14, qc, 0] [14, pc, 0] 0 0 np := ⟨_, rfl⟩
  have e1 : ∀ z, z ≠ [pc, 0] → E1.1 z = D.1 z := fun z h => by rw [hE1, w_ne h]
  have e2 : ∀ z, z ≠ [12, pc, 0] → E2.1 z = E1.1 z := fun z h => by rw [hE2, wC_ne h]
  have e3 : ∀ z, z ≠ [pc, 0] → E3.1 z = E2.1 z := fun z h => by rw [hE3, w_ne h]
  have e4 : ∀ z, z ≠ [14, pc, 0] → E4.1 z = E3.1 z := fun z h => by rw [hE4, wC_ne h]
  have eD : ∀ z, z ≠ [pc, 0] → z ≠ [12, pc, 0] → z ≠ [14, pc, 0] → E4.1 z = D.1 z := fun z h1 h2 h3 => by rw [e4 z h3, e3 z h1, e2 z h2, e1 z h1]
  have dq : D.1 [qc, 0] = C.1 [qc, 0] := by rw [j2 _ (hlen3 _ (by simp))]; exact fQ []
  have e1q : E1.1 [pc, 0] 11 = C.1 [qc, 0] 11 := by rw [hE1, w_at, if_pos ⟨rfl, rfl⟩, dq]
  have e2q : E2.1 [qc, 0] 13 = C.1 [qc, 0] 13 := by rw [e2 _ (by simp), e1 _ (by simp [hpq]), dq]
  have e3q : E3.1 [pc, 0] 13 = C.1 [qc, 0] 13 := by rw [hE3, w_at, if_pos ⟨rfl, rfl⟩, e2q]
  have eP : ∀ j, j ≠ 11 → j ≠ 13 → E4.1 [pc, 0] j = D.1 [pc, 0] j := fun j h1 h2 => by
    rw [e4 _ (by simp), hE3, w_ne_k h2, e2 _ (by simp), hE1, w_ne_k h1]
  have eP11 : E4.1 [pc, 0] 11 = C.1 [qc, 0] 11 := by rw [e4 _ (by simp), hE3, w_ne_k (by omega), e2 _ (by simp), e1q]
  have eP13 : E4.1 [pc, 0] 13 = C.1 [qc, 0] 13 := by rw [e4 _ (by simp), e3q]
  have dA : D.1 [pc, 0] = A10.1 [pc, 0] := j2 _ (hlen3 _ (by simp))
  refine ⟨E4, na, kV_of ?_, ?_, hna⟩
  · rw [e_31]
    have a3 : A3.1 [pc, 0] 2 = oN nc := p32.trans cC
    have a4 : A4.1 [pc, 0] 2 = oN nc := by rw [f4 _ (by simp)]; exact a3
    have a5 : A5.1 [pc, 0] 2 = oN nc := by rw [f5 _ (by simp)]; exact a4
    refine lt_i (fun X hX => ?_)
    have : X = A1 := hX.trans hA1.symm
    subst this
    refine lt_i (fun X hX => ?_)
    have : X = A2 := hX.trans hA2.symm
    subst this
    refine lt_i (fun X hX => ?_)
    have : X = A3 := hX.trans hA3.symm
    subst this
    try dsimp only
    rw [a3, show cpyS ([3, qc, 0], 1000016) ([3, pc, 0], 1000016) X.1 0 0 (oN nc) = true from cp_16 b16, cond_true, n_tN (show nc < 2147483648 by omega)]
    refine lt_i (fun X4 hX => ?_)
    have : X4 = A4 := hX.trans hA4.symm
    subst this
    try dsimp only
    rw [a4, show cpyS ([4, qc, 0], 1000016) ([4, pc, 0], 1000016) X4.1 0 0 (oN nc) = true from cp_16 b16, cond_true, n_tN (show nc < 2147483648 by omega)]
    refine lt_i (fun X5 hX => ?_)
    have : X5 = A5 := hX.trans hA5.symm
    subst this
    try dsimp only
    rw [a5, show cpyS ([5, qc, 0], 1000016) ([5, pc, 0], 1000016) X5.1 0 0 (oN nc) = true from cp_16 b16, cond_true, n_tN (show nc < 2147483648 by omega)]
    refine lt_i (fun X6 hX => ?_)
    have : X6 = A6 := hX.trans hA6.symm
    subst this
    try dsimp only
    rw [k73, Option.bind_some]
    try dsimp only
    rw [show cpyS ([7, qc, 0], 1000024) ([7, pc, 0], 1000024) A7.1 0 0 (24 : Int32) = true from cp_24 (n := 24) (by omega), cond_true]
    refine lt_i (fun X8 hX => ?_)
    have : X8 = A8 := hX.trans hA8.symm
    subst this
    try dsimp only
    rw [show cpyS ([8, qc, 0], 1000016) ([8, pc, 0], 1000016) X8.1 0 0 (16 : Int32) = true from cp_16 (n := 16) (by omega), cond_true]
    refine lt_i (fun X9 hX => ?_)
    have : X9 = A9 := hX.trans hA9.symm
    subst this
    refine lt_i (fun X10 hX => ?_)
    have : X10 = A10 := hX.trans hA10.symm
    subst this
    refine (k126.trans ?_)
    have d9 : D.1 [pc, 0] 9 = oN nb := by rw [dA, p9]; exact cB
    rw [h_31_126, d9, n_ge_t (Nat.le_refl nb) (by omega) (by omega), cond_true]
    refine lt_i (fun Y1 hX => ?_)
    have : Y1 = E1 := hX.trans hE1.symm
    subst this
    try dsimp only
    rw [e1q, cG, show cpyS ([12, qc, 0], 1000040) ([12, pc, 0], 1000040) Y1.1 0 0 (oN (cntG kd nb)) = true from cp_40 (by omega), cond_true, n_tN (show cntG kd nb < 2147483648 by omega)]
    refine lt_i (fun Y2 hX => ?_)
    have : Y2 = E2 := hX.trans hE2.symm
    subst this
    refine lt_i (fun Y3 hX => ?_)
    have : Y3 = E3 := hX.trans hE3.symm
    subst this
    try dsimp only
    rw [e3q, cP, show cpyS ([14, qc, 0], 1000008) ([14, pc, 0], 1000008) Y3.1 0 0 (oN np) = true from cp_8 b8, cond_true, n_tN (show np < 2147483648 by omega)]
    refine lt_i (fun Y4 hX => ?_)
    have : Y4 = E4 := hX.trans hE4.symm
    subst this
    rfl
  · have hb4 : ∀ (z : List Nat), (∀ b t, z ≠ t ++ [b, 10, pc, 0]) → z ≠ [pc, 0] → z ≠ [12, pc, 0] → z ≠ [14, pc, 0] → E4.1 z = A10.1 z := fun z h0 h1 h2 h3 => by rw [eD z h1 h2 h3, j2 z h0]
    have n6 : ∀ k b t, [k, 6, pc, 0] ≠ t ++ [b, 10, pc, 0] := fun k b t e => by
      have := congrArg (fun l => l.reverse.take 3) e
      simp at this
    have z6 : ∀ k, E4.1 [k, 6, pc, 0] = A7.1 [k, 6, pc, 0] := fun k => by
      rw [hb4 _ (n6 k) (by simp) (by simp) (by simp), f10 _ (by simp), f9 _ (by simp), f8 _ (by simp)]
    refine ⟨?_, fun z h => ?_, fun j hj => ?_, fun k i hk hi => ?_, ⟨?_, ?_, fun k w hk hw => ?_, fun e i hi => ?_⟩, fun i hi => ?_, fun i hi => ?_, fun b hb => ?_, fun i hi => ?_, fun i hi => ?_⟩
    · rw [hE4, hE3, hE2, hE1]
      show D.2 = C.2
      rw [j1, hA10, hA9, hA8]
      show A7.2 = C.2
      rw [s7, hA6, hA5, hA4]
      exact s3
    · rw [hb4 z (fun b t e => h (t ++ [b, 10]) (by rw [e]; simp)) (h []) (h [12]) (h [14])]
      exact fA z h
    · rcases hj with e | e | e | e | e | e <;> subst e
      · rw [eP _ (by omega) (by omega), dA, pA _ (by omega), p30]
      · rw [eP _ (by omega) (by omega), dA, pA _ (by omega), p31]
      · rw [eP _ (by omega) (by omega), dA, pA _ (by omega), p32]
      · rw [eP _ (by omega) (by omega), dA, p9]
      · exact eP11
      · exact eP13
    · rcases hk with e | e | e <;> subst e
      · rw [hb4 _ (hlen3 _ (by simp)) (by simp) (by simp) (by simp), f10 _ (by simp), f9 _ (by simp), f8 _ (by simp), f7 _ (by simp) (by simp), q3 i hi]
      · rw [hb4 _ (hlen3 _ (by simp)) (by simp) (by simp) (by simp), f10 _ (by simp), f9 _ (by simp), f8 _ (by simp), f7 _ (by simp) (by simp), q4 i hi]
      · rw [hb4 _ (hlen3 _ (by simp)) (by simp) (by simp) (by simp), f10 _ (by simp), f9 _ (by simp), f8 _ (by simp), f7 _ (by simp) (by simp), q5 i hi]
    · rw [hb4 _ (hlen3 _ (by simp)) (by simp) (by simp) (by simp), f10 _ (by simp), f9 _ (by simp), f8 _ (by simp), w0, cW]
    · rw [hb4 _ (hlen3 _ (by simp)) (by simp) (by simp) (by simp), f10 _ (by simp), f9 _ (by simp), f8 _ (by simp), w11]
    · rw [z6, wk k w hk hw, q6]
    · rw [z6, w12 e i hi, q6]
    · rw [hb4 _ (hlen3 _ (by simp)) (by simp) (by simp) (by simp), f10 _ (by simp), f9 _ (by simp), hA8, wC_cp hi, f7 _ (by simp) (by simp), f63 _ (by simp) (by simp) (by simp), f3 _ (by simp)]
    · rw [hb4 _ (hlen3 _ (by simp)) (by simp) (by simp) (by simp), f10 _ (by simp), hA9, wC_cp hi, f8 _ (by simp), f7 _ (by simp) (by simp), f63 _ (by simp) (by simp) (by simp), f3 _ (by simp)]
    · obtain ⟨x1, x2, x3⟩ := j3 b hb
      have y1 : A10.1 [b, 10, qc, 0] = C.1 [b, 10, qc, 0] := fQ [b, 10]
      have y2 : A10.1 [18, b, 10, qc, 0] = C.1 [18, b, 10, qc, 0] := fQ [18, b, 10]
      refine ⟨fun j hj => ?_, ?_, fun k i hk hi => ?_⟩
      · rw [eD _ (by simp) (by simp) (by simp), x1 j hj, y1]
      · rw [eD _ (by simp) (by simp) (by simp), x2, y2]
      · have y3 : A10.1 [k, 18, b, 10, qc, 0] = C.1 [k, 18, b, 10, qc, 0] := fQ [k, 18, b, 10]
        rw [eD _ (by simp) (by simp) (by simp), x3 k i hk hi, y3]
    · rw [e4 _ (by simp), e3 _ (by simp), hE2, wC_cp hi, e1 _ (by simp), j2 _ (hlen3 _ (by simp))]
      exact congrFun (fQ [12]) i
    · rw [hE4, wC_cp hi, e3 _ (by simp), e2 _ (by simp), e1 _ (by simp), j2 _ (hlen3 _ (by simp))]
      exact congrFun (fQ [14]) i
end Copy3
