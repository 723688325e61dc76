section Copy1
variable {L : Nat} {xs : Nat → Int32} {C C' M : mM}
theorem cp_8 {p0 p1 : List Nat} {f : List Nat → Nat → Int32} {n : Nat} (hn : n ≤ 8) : cpyS (p0, 1000008) (p1, 1000008) f (oN 0) (oN 0) (oN n) = true := cpy_t (by decide) (by decide) (by show 0 + n ≤ 8; omega) (by show 0 + n ≤ 8; omega) (by omega) (by omega)
theorem cp_16 {p0 p1 : List Nat} {f : List Nat → Nat → Int32} {n : Nat} (hn : n ≤ 16) : cpyS (p0, 1000016) (p1, 1000016) f (oN 0) (oN 0) (oN n) = true := cpy_t (by decide) (by decide) (by show 0 + n ≤ 16; omega) (by show 0 + n ≤ 16; omega) (by omega) (by omega)
theorem cp_24 {p0 p1 : List Nat} {f : List Nat → Nat → Int32} {n : Nat} (hn : n ≤ 24) : cpyS (p0, 1000024) (p1, 1000024) f (oN 0) (oN 0) (oN n) = true := cpy_t (by decide) (by decide) (by show 0 + n ≤ 24; omega) (by show 0 + n ≤ 24; omega) (by omega) (by omega)
theorem cp_40 {p0 p1 : List Nat} {f : List Nat → Nat → Int32} {n : Nat} (hn : n ≤ 40) : cpyS (p0, 1000040) (p1, 1000040) f (oN 0) (oN 0) (oN n) = true := cpy_t (by decide) (by decide) (by show 0 + n ≤ 40; omega) (by show 0 + n ≤ 40; omega) (by omega) (by omega)
theorem cp_256 {p0 p1 : List Nat} {f : List Nat → Nat → Int32} {n : Nat} (hn : n ≤ 256) : cpyS (p0, 1000256) (p1, 1000256) f (oN 0) (oN 0) (oN n) = true := cpy_t (by decide) (by decide) (by show 0 + n ≤ 256; omega) (by show 0 + n ≤ 256; omega) (by omega) (by omega)
theorem wC_cp {m : mM} {p0 p1 : List Nat} {n i : Nat} (hi : i < n) : (wC m p0 p1 0 0 n).1 p1 i = m.1 p0 i := by
  rw [wC_at, if_pos ⟨rfl, by omega, by omega⟩, show 0 + (i - 0) = i by omega]
theorem lt_i {α : Type} {v : mM} {k : mM → Option α} {r : Option α} (h : ∀ A, A = v → k A = r) : ltM v k = r := h v rfl
def wyM (C : mM) (pc qc n : Nat) : mM := wC (wC (wC (wC (wC (wC (wC (wC (wI C [6, pc, 0] 0 (oN n)) [1, 6, qc, 0] [1, 6, pc, 0] 0 0 n) [2, 6, qc, 0] [2, 6, pc, 0] 0 0 n) [3, 6, qc, 0] [3, 6, pc, 0] 0 0 n) [4, 6, qc, 0] [4, 6, pc, 0] 0 0 n) [5, 6, qc, 0] [5, 6, pc, 0] 0 0 n) [6, 6, qc, 0] [6, 6, pc, 0] 0 0 n) [7, 6, qc, 0] [7, 6, pc, 0] 0 0 n) [9, 6, qc, 0] [9, 6, pc, 0] 0 0 n
variable {pc qc n : Nat}
theorem wyM_ne {z : List Nat} (h0 : z ≠ [6, pc, 0]) (h : ∀ k, z ≠ [k, 6, pc, 0]) : (wyM C pc qc n).1 z = C.1 z := by
  unfold wyM
  rw [wC_ne (h _), wC_ne (h _), wC_ne (h _), wC_ne (h _), wC_ne (h _), wC_ne (h _), wC_ne (h _), wC_ne (h _), w_ne h0]
theorem wyM_p {j : Nat} : (wyM C pc qc n).1 [6, pc, 0] j = if j = 0 then oN n else C.1 [6, pc, 0] j := by
  unfold wyM
  rw [wC_ne (by simp), wC_ne (by simp), wC_ne (by simp), wC_ne (by simp), wC_ne (by simp), wC_ne (by simp), wC_ne (by simp), wC_ne (by simp), w_at]
  simp
theorem wyM_k (hpq : qc ≠ pc) {k w : Nat} (hk : 1 ≤ k ∧ k ≤ 7 ∨ k = 9) (hw : w < n) : (wyM C pc qc n).1 [k, 6, pc, 0] w = C.1 [k, 6, qc, 0] w := by
  have hc : k = 1 ∨ k = 2 ∨ k = 3 ∨ k = 4 ∨ k = 5 ∨ k = 6 ∨ k = 7 ∨ k = 9 := by omega
  unfold wyM
  rcases hc with e | e | e | e | e | e | e | e <;> subst e
  · rw [wC_ne (by simp), wC_ne (by simp), wC_ne (by simp), wC_ne (by simp), wC_ne (by simp), wC_ne (by simp), wC_ne (by simp), wC_cp hw, w_ne (by simp)]
  · rw [wC_ne (by simp), wC_ne (by simp), wC_ne (by simp), wC_ne (by simp), wC_ne (by simp), wC_ne (by simp), wC_cp hw, wC_ne (by simp), w_ne (by simp)]
  · rw [wC_ne (by simp), wC_ne (by simp), wC_ne (by simp), wC_ne (by simp), wC_ne (by simp), wC_cp hw, wC_ne (by simp), wC_ne (by simp), w_ne (by simp)]
  · rw [wC_ne (by simp), wC_ne (by simp), wC_ne (by simp), wC_ne (by simp), wC_cp hw, wC_ne (by simp), wC_ne (by simp), wC_ne (by simp), w_ne (by simp)]
  · rw [wC_ne (by simp), wC_ne (by simp), wC_ne (by simp), wC_cp hw, wC_ne (by simp), wC_ne (by simp), wC_ne (by simp), wC_ne (by simp), w_ne (by simp)]
  · rw [wC_ne (by simp), wC_ne (by simp), wC_cp hw, wC_ne (by simp), wC_ne (by simp), wC_ne (by simp), wC_ne (by simp), wC_ne (by simp), w_ne (by simp)]
  · rw [wC_ne (by simp), wC_cp hw, wC_ne (by simp), wC_ne (by simp), wC_ne (by simp), wC_ne (by simp), wC_ne (by simp), wC_ne (by simp), w_ne (by simp)]
  · rw [wC_cp hw, wC_ne (by simp), wC_ne (by simp), wC_ne (by simp), wC_ne (by simp), wC_ne (by simp), wC_ne (by simp), wC_ne (by simp), w_ne (by simp)]
theorem wyM_2 : (wyM C pc qc n).2 = C.2 := rfl
set_option maxRecDepth 8000 in
theorem s_73 (hpq : qc ≠ pc) (h0 : C.1 [6, qc, 0] 0 = oN n) (hn : n ≤ 24) (hz : ∀ w, w < n → ∃ k, k ≤ 1 ∧ C.1 [9, 6, qc, 0] w = oN k) (h11 : C.1 [6, qc, 0] 11 = oN 0 ∨ C.1 [6, qc, 0] 11 = oN 1) :
    ∃ C', kV L xs 73 [vr 8 [6, pc, 0], vr 8 [6, qc, 0]] C = some C' ∧ C'.2 = C.2 ∧ (∀ z, z ≠ [6, pc, 0] → (∀ k, z ≠ [k, 6, pc, 0]) → C'.1 z = C.1 z) ∧ C'.1 [6, pc, 0] 0 = oN n ∧ C'.1 [6, pc, 0] 11 = C.1 [6, qc, 0] 11 ∧
      (∀ k w, (1 ≤ k ∧ k ≤ 7 ∨ k = 9) → w < n → C'.1 [k, 6, pc, 0] w = C.1 [k, 6, qc, 0] w) ∧ (C.1 [6, qc, 0] 11 = oN 1 → ∀ i, i < 256 → C'.1 [12, 6, pc, 0] i = C.1 [12, 6, qc, 0] i) := by
  have hcz : ∀ m : mM, m.1 [9, 6, qc, 0] = C.1 [9, 6, qc, 0] → cpyS ([9, 6, qc, 0], 2000024) ([9, 6, pc, 0], 2000024) m.1 (oN 0) (oN 0) (oN n) = true := fun m hm => by
    refine cpy_z (by decide) (by decide) (by show 0 + n ≤ 24; omega) (by show 0 + n ≤ 24; omega) (by omega) (by omega) (fun i hi => ?_)
    obtain ⟨k, k1, k2⟩ := hz i hi
    exact ⟨k, k1, by rw [hm, Nat.zero_add]; exact k2⟩
  have e11 : (wyM C pc qc n).1 [6, qc, 0] 11 = C.1 [6, qc, 0] 11 := by rw [wyM_ne (by simp [hpq]) (by simp)]
  have fold : wC (wC (wC (wC (wC (wC (wC (wC (wI C [6, pc, 0] 0 (oN n)) [1, 6, qc, 0] [1, 6, pc, 0] 0 0 n) [2, 6, qc, 0] [2, 6, pc, 0] 0 0 n) [3, 6, qc, 0] [3, 6, pc, 0] 0 0 n) [4, 6, qc, 0] [4, 6, pc, 0] 0 0 n) [5, 6, qc, 0] [5, 6, pc, 0] 0 0 n) [6, 6, qc, 0] [6, 6, pc, 0] 0 0 n) [7, 6, qc, 0] [7, 6, pc, 0] 0 0 n) [9, 6, qc, 0] [9, 6, pc, 0] 0 0 n = wyM C pc qc n := rfl
  have hcz' := hcz (wC (wC (wC (wC (wC (wC (wC (wI C [6, pc, 0] 0 (oN n)) [1, 6, qc, 0] [1, 6, pc, 0] 0 0 n) [2, 6, qc, 0] [2, 6, pc, 0] 0 0 n) [3, 6, qc, 0] [3, 6, pc, 0] 0 0 n) [4, 6, qc, 0] [4, 6, pc, 0] 0 0 n) [5, 6, qc, 0] [5, 6, pc, 0] 0 0 n) [6, 6, qc, 0] [6, 6, pc, 0] 0 0 n) [7, 6, qc, 0] [7, 6, pc, 0] 0 0 n) (by rw [wC_ne (by simp), wC_ne (by simp), wC_ne (by simp), wC_ne (by simp), wC_ne (by simp), wC_ne (by simp), wC_ne (by simp), w_ne (by simp)])
  have hzs0 := isZS_0
  have hzs1 := isZS_1
  rcases h11 with h | h
  · refine ⟨wI (wyM C pc qc n) [6, pc, 0] 11 (oN 0), kV_of ?_, rfl, fun z h1 h2 => by rw [w_ne h1, wyM_ne h1 h2], by rw [w_ne_k (by omega), wyM_p, if_pos rfl], by rw [w_at, if_pos ⟨rfl, rfl⟩, h], fun k w hk hw => by rw [w_ne (by simp), wyM_k hpq hk hw], fun e => absurd (h.symm.trans e) (by decide)⟩
    rw [e_73]
    rw [h0]
    refine lt_i (fun A0 hA0 => ?_)
    have a0 : A0.1 [6, pc, 0] 0 = oN n := by rw [hA0]; exact (w_at ..).trans (if_pos ⟨rfl, rfl⟩)
    have c0 : cpyS ([1, 6, qc, 0], 1000024) ([1, 6, pc, 0], 1000024) A0.1 0 0 (oN n) = true := cp_24 hn
    try dsimp only
    rw [a0, c0, cond_true, n_tN (show n < 2147483648 by omega)]
    refine lt_i (fun A1 hA1 => ?_)
    have a1 : A1.1 [6, pc, 0] 0 = oN n := by rw [hA1]; exact (congrFun (wC_ne (m := A0) (p0 := [1, 6, qc, 0]) (p := [1, 6, pc, 0]) (sp := 0) (dp := 0) (n := n) (q := [6, pc, 0]) (by simp)) 0).trans a0
    have c1 : cpyS ([2, 6, qc, 0], 1000024) ([2, 6, pc, 0], 1000024) A1.1 0 0 (oN n) = true := cp_24 hn
    try dsimp only
    rw [a1, c1, cond_true, n_tN (show n < 2147483648 by omega)]
    refine lt_i (fun A2 hA2 => ?_)
    have a2 : A2.1 [6, pc, 0] 0 = oN n := by rw [hA2]; exact (congrFun (wC_ne (m := A1) (p0 := [2, 6, qc, 0]) (p := [2, 6, pc, 0]) (sp := 0) (dp := 0) (n := n) (q := [6, pc, 0]) (by simp)) 0).trans a1
    have c2 : cpyS ([3, 6, qc, 0], 1000024) ([3, 6, pc, 0], 1000024) A2.1 0 0 (oN n) = true := cp_24 hn
    try dsimp only
    rw [a2, c2, cond_true, n_tN (show n < 2147483648 by omega)]
    refine lt_i (fun A3 hA3 => ?_)
    have a3 : A3.1 [6, pc, 0] 0 = oN n := by rw [hA3]; exact (congrFun (wC_ne (m := A2) (p0 := [3, 6, qc, 0]) (p := [3, 6, pc, 0]) (sp := 0) (dp := 0) (n := n) (q := [6, pc, 0]) (by simp)) 0).trans a2
    have c3 : cpyS ([4, 6, qc, 0], 1000024) ([4, 6, pc, 0], 1000024) A3.1 0 0 (oN n) = true := cp_24 hn
    try dsimp only
    rw [a3, c3, cond_true, n_tN (show n < 2147483648 by omega)]
    refine lt_i (fun A4 hA4 => ?_)
    have a4 : A4.1 [6, pc, 0] 0 = oN n := by rw [hA4]; exact (congrFun (wC_ne (m := A3) (p0 := [4, 6, qc, 0]) (p := [4, 6, pc, 0]) (sp := 0) (dp := 0) (n := n) (q := [6, pc, 0]) (by simp)) 0).trans a3
    have c4 : cpyS ([5, 6, qc, 0], 1000024) ([5, 6, pc, 0], 1000024) A4.1 0 0 (oN n) = true := cp_24 hn
    try dsimp only
    rw [a4, c4, cond_true, n_tN (show n < 2147483648 by omega)]
    refine lt_i (fun A5 hA5 => ?_)
    have a5 : A5.1 [6, pc, 0] 0 = oN n := by rw [hA5]; exact (congrFun (wC_ne (m := A4) (p0 := [5, 6, qc, 0]) (p := [5, 6, pc, 0]) (sp := 0) (dp := 0) (n := n) (q := [6, pc, 0]) (by simp)) 0).trans a4
    have c5 : cpyS ([6, 6, qc, 0], 1000024) ([6, 6, pc, 0], 1000024) A5.1 0 0 (oN n) = true := cp_24 hn
    try dsimp only
    rw [a5, c5, cond_true, n_tN (show n < 2147483648 by omega)]
    refine lt_i (fun A6 hA6 => ?_)
    have a6 : A6.1 [6, pc, 0] 0 = oN n := by rw [hA6]; exact (congrFun (wC_ne (m := A5) (p0 := [6, 6, qc, 0]) (p := [6, 6, pc, 0]) (sp := 0) (dp := 0) (n := n) (q := [6, pc, 0]) (by simp)) 0).trans a5
    have c6 : cpyS ([7, 6, qc, 0], 1000024) ([7, 6, pc, 0], 1000024) A6.1 0 0 (oN n) = true := cp_24 hn
    try dsimp only
    rw [a6, c6, cond_true, n_tN (show n < 2147483648 by omega)]
    refine lt_i (fun A7 hA7 => ?_)
    have a7 : A7.1 [6, pc, 0] 0 = oN n := by rw [hA7]; exact (congrFun (wC_ne (m := A6) (p0 := [7, 6, qc, 0]) (p := [7, 6, pc, 0]) (sp := 0) (dp := 0) (n := n) (q := [6, pc, 0]) (by simp)) 0).trans a6
    have c7 : cpyS ([9, 6, qc, 0], 2000024) ([9, 6, pc, 0], 2000024) A7.1 0 0 (oN n) = true := by
      have e : A7 = wC (wC (wC (wC (wC (wC (wC (wI C [6, pc, 0] 0 (oN n)) [1, 6, qc, 0] [1, 6, pc, 0] 0 0 n) [2, 6, qc, 0] [2, 6, pc, 0] 0 0 n) [3, 6, qc, 0] [3, 6, pc, 0] 0 0 n) [4, 6, qc, 0] [4, 6, pc, 0] 0 0 n) [5, 6, qc, 0] [5, 6, pc, 0] 0 0 n) [6, 6, qc, 0] [6, 6, pc, 0] 0 0 n) [7, 6, qc, 0] [7, 6, pc, 0] 0 0 n := by rw [hA7, hA6, hA5, hA4, hA3, hA2, hA1, hA0]; rfl
      rw [e]; exact hcz'
    try dsimp only
    rw [a7, c7, cond_true, n_tN (show n < 2147483648 by omega)]
    refine lt_i (fun A8 hA8 => ?_)
    have a8 : A8.1 [6, pc, 0] 0 = oN n := by rw [hA8]; exact (congrFun (wC_ne (m := A7) (p0 := [9, 6, qc, 0]) (p := [9, 6, pc, 0]) (sp := 0) (dp := 0) (n := n) (q := [6, pc, 0]) (by simp)) 0).trans a7
    have e8 : A8 = wyM C pc qc n := by rw [hA8, hA7, hA6, hA5, hA4, hA3, hA2, hA1, hA0]; rfl
    try dsimp only
    subst e8
    rw [e11, h, hzs0, cond_true]
    refine lt_i (fun A9 hA9 => ?_)
    have a9 : A9.1 [6, pc, 0] 11 = oN 0 := by rw [hA9]; exact (w_at ..).trans (if_pos ⟨rfl, rfl⟩)
    try dsimp only
    rw [a9, show cmpS .eq (oN 0) 0 = true from c_eq_refl _, cond_true, hA9]
    rfl
  · refine ⟨wC (wI (wyM C pc qc n) [6, pc, 0] 11 (oN 1)) [12, 6, qc, 0] [12, 6, pc, 0] 0 0 256, kV_of ?_, rfl, fun z h1 h2 => by rw [wC_ne (h2 12), w_ne h1, wyM_ne h1 h2], by rw [wC_ne (by simp), w_ne_k (by omega), wyM_p, if_pos rfl], by rw [wC_ne (by simp), w_at, if_pos ⟨rfl, rfl⟩, h], fun k w hk hw => by rw [wC_ne (by simp; omega), w_ne (by simp), wyM_k hpq hk hw], fun e i hi => by rw [wC_cp hi, w_ne (by simp), wyM_ne (by simp) (by simp [hpq])]⟩
    rw [e_73]
    rw [h0]
    refine lt_i (fun A0 hA0 => ?_)
    have a0 : A0.1 [6, pc, 0] 0 = oN n := by rw [hA0]; exact (w_at ..).trans (if_pos ⟨rfl, rfl⟩)
    have c0 : cpyS ([1, 6, qc, 0], 1000024) ([1, 6, pc, 0], 1000024) A0.1 0 0 (oN n) = true := cp_24 hn
    try dsimp only
    rw [a0, c0, cond_true, n_tN (show n < 2147483648 by omega)]
    refine lt_i (fun A1 hA1 => ?_)
    have a1 : A1.1 [6, pc, 0] 0 = oN n := by rw [hA1]; exact (congrFun (wC_ne (m := A0) (p0 := [1, 6, qc, 0]) (p := [1, 6, pc, 0]) (sp := 0) (dp := 0) (n := n) (q := [6, pc, 0]) (by simp)) 0).trans a0
    have c1 : cpyS ([2, 6, qc, 0], 1000024) ([2, 6, pc, 0], 1000024) A1.1 0 0 (oN n) = true := cp_24 hn
    try dsimp only
    rw [a1, c1, cond_true, n_tN (show n < 2147483648 by omega)]
    refine lt_i (fun A2 hA2 => ?_)
    have a2 : A2.1 [6, pc, 0] 0 = oN n := by rw [hA2]; exact (congrFun (wC_ne (m := A1) (p0 := [2, 6, qc, 0]) (p := [2, 6, pc, 0]) (sp := 0) (dp := 0) (n := n) (q := [6, pc, 0]) (by simp)) 0).trans a1
    have c2 : cpyS ([3, 6, qc, 0], 1000024) ([3, 6, pc, 0], 1000024) A2.1 0 0 (oN n) = true := cp_24 hn
    try dsimp only
    rw [a2, c2, cond_true, n_tN (show n < 2147483648 by omega)]
    refine lt_i (fun A3 hA3 => ?_)
    have a3 : A3.1 [6, pc, 0] 0 = oN n := by rw [hA3]; exact (congrFun (wC_ne (m := A2) (p0 := [3, 6, qc, 0]) (p := [3, 6, pc, 0]) (sp := 0) (dp := 0) (n := n) (q := [6, pc, 0]) (by simp)) 0).trans a2
    have c3 : cpyS ([4, 6, qc, 0], 1000024) ([4, 6, pc, 0], 1000024) A3.1 0 0 (oN n) = true := cp_24 hn
    try dsimp only
    rw [a3, c3, cond_true, n_tN (show n < 2147483648 by omega)]
    refine lt_i (fun A4 hA4 => ?_)
    have a4 : A4.1 [6, pc, 0] 0 = oN n := by rw [hA4]; exact (congrFun (wC_ne (m := A3) (p0 := [4, 6, qc, 0]) (p := [4, 6, pc, 0]) (sp := 0) (dp := 0) (n := n) (q := [6, pc, 0]) (by simp)) 0).trans a3
    have c4 : cpyS ([5, 6, qc, 0], 1000024) ([5, 6, pc, 0], 1000024) A4.1 0 0 (oN n) = true := cp_24 hn
    try dsimp only
    rw [a4, c4, cond_true, n_tN (show n < 2147483648 by omega)]
    refine lt_i (fun A5 hA5 => ?_)
    have a5 : A5.1 [6, pc, 0] 0 = oN n := by rw [hA5]; exact (congrFun (wC_ne (m := A4) (p0 := [5, 6, qc, 0]) (p := [5, 6, pc, 0]) (sp := 0) (dp := 0) (n := n) (q := [6, pc, 0]) (by simp)) 0).trans a4
    have c5 : cpyS ([6, 6, qc, 0], 1000024) ([6, 6, pc, 0], 1000024) A5.1 0 0 (oN n) = true := cp_24 hn
    try dsimp only
    rw [a5, c5, cond_true, n_tN (show n < 2147483648 by omega)]
    refine lt_i (fun A6 hA6 => ?_)
    have a6 : A6.1 [6, pc, 0] 0 = oN n := by rw [hA6]; exact (congrFun (wC_ne (m := A5) (p0 := [6, 6, qc, 0]) (p := [6, 6, pc, 0]) (sp := 0) (dp := 0) (n := n) (q := [6, pc, 0]) (by simp)) 0).trans a5
    have c6 : cpyS ([7, 6, qc, 0], 1000024) ([7, 6, pc, 0], 1000024) A6.1 0 0 (oN n) = true := cp_24 hn
    try dsimp only
    rw [a6, c6, cond_true, n_tN (show n < 2147483648 by omega)]
    refine lt_i (fun A7 hA7 => ?_)
    have a7 : A7.1 [6, pc, 0] 0 = oN n := by rw [hA7]; exact (congrFun (wC_ne (m := A6) (p0 := [7, 6, qc, 0]) (p := [7, 6, pc, 0]) (sp := 0) (dp := 0) (n := n) (q := [6, pc, 0]) (by simp)) 0).trans a6
    have c7 : cpyS ([9, 6, qc, 0], 2000024) ([9, 6, pc, 0], 2000024) A7.1 0 0 (oN n) = true := by
      have e : A7 = wC (wC (wC (wC (wC (wC (wC (wI C [6, pc, 0] 0 (oN n)) [1, 6, qc, 0] [1, 6, pc, 0] 0 0 n) [2, 6, qc, 0] [2, 6, pc, 0] 0 0 n) [3, 6, qc, 0] [3, 6, pc, 0] 0 0 n) [4, 6, qc, 0] [4, 6, pc, 0] 0 0 n) [5, 6, qc, 0] [5, 6, pc, 0] 0 0 n) [6, 6, qc, 0] [6, 6, pc, 0] 0 0 n) [7, 6, qc, 0] [7, 6, pc, 0] 0 0 n := by rw [hA7, hA6, hA5, hA4, hA3, hA2, hA1, hA0]; rfl
      rw [e]; exact hcz'
    try dsimp only
    rw [a7, c7, cond_true, n_tN (show n < 2147483648 by omega)]
    refine lt_i (fun A8 hA8 => ?_)
    have a8 : A8.1 [6, pc, 0] 0 = oN n := by rw [hA8]; exact (congrFun (wC_ne (m := A7) (p0 := [9, 6, qc, 0]) (p := [9, 6, pc, 0]) (sp := 0) (dp := 0) (n := n) (q := [6, pc, 0]) (by simp)) 0).trans a7
    have e8 : A8 = wyM C pc qc n := by rw [hA8, hA7, hA6, hA5, hA4, hA3, hA2, hA1, hA0]; rfl
    try dsimp only
    subst e8
    rw [e11, h, hzs1, cond_true]
    refine lt_i (fun A9 hA9 => ?_)
    have a9 : A9.1 [6, pc, 0] 11 = oN 1 := by rw [hA9]; exact (w_at ..).trans (if_pos ⟨rfl, rfl⟩)
    try dsimp only
    rw [a9, show cmpS .eq (oN 1) 0 = false from n_eq_f (a := 1) (b := 0) (by omega) (by omega) (by omega), cond_false, show cpyS ([12, 6, qc, 0], 1000256) ([12, 6, pc, 0], 1000256) A9.1 0 0 (256 : Int32) = true from cp_256 (n := 256) (by omega), cond_true, hA9]
    rfl
end Copy1
