section SetA
variable {r : List Nat} {S S' : Nat → Int32} {C C' M M' : mM} {nc nw nb np nt now hm hm' : Nat} {kd wa wb wd wl ws : Nat → Nat}
theorem rB_seta {k b : Nat} (hb : b < 40) (hC : C'.1 (b :: 10 :: r) = C.1 (b :: 10 :: r)) (hS : ∀ i, i < 16 → i ≠ 12 → S' (200 + 16 * b + i) = S (200 + 16 * b + i))
    (hM : ∀ k, 11 ≤ k → k ≤ 16 → M'.1 [k, 1] b = M.1 [k, 1] b) (ha : rBa r S' C' nc b) (h : rB r S C M nc nw now hm k b) : rB r S' C' M' nc nw now hm k b := by
  obtain ⟨a1, a2, a3, a4, -⟩ := h
  have s0 := hS 0 (by omega) (by omega)
  rw [Nat.add_zero] at s0
  refine ⟨rBi_congr hC (hM 11 (by omega) (by omega)) (hM 12 (by omega) (by omega)) (hM 13 (by omega) (by omega)) (hM 14 (by omega) (by omega)) (hM 16 (by omega) (by omega)) a1, ?_, ?_, ?_, ha⟩
  · unfold rBp at a2 ⊢
    rw [hC, s0, hS 1 (by omega) (by omega), hS 2 (by omega) (by omega), hS 13 (by omega) (by omega), hM 15 (by omega) (by omega)]
    exact a2
  · unfold rBv at a3 ⊢
    rw [hC, hS 3 (by omega) (by omega), hS 4 (by omega) (by omega), hS 5 (by omega) (by omega), hS 6 (by omega) (by omega), hS 7 (by omega) (by omega), hS 8 (by omega) (by omega), hS 9 (by omega) (by omega)]
    exact a3
  · unfold rBt at a4 ⊢
    rw [hC, hS 10 (by omega) (by omega), hS 11 (by omega) (by omega)]
    exact a4
theorem vp_b {k : Nat} (h : k ≤ 1) : vp_nar .boolean (oN k) = oN k := by
  have : k = 0 ∨ k = 1 := by omega
  rcases this with rfl | rfl <;> decide
end SetA
