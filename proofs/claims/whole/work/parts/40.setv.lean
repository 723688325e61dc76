section SetV
variable {r : List Nat} {S S' : Nat → Int32} {C C' M M' : mM} {nc nw nb np nt now hm hm' : Nat} {kd wa wb wd wl ws : Nat → Nat}
theorem rB_setv {k b : Nat} (hb : b < 40) (hC : ∀ j, j ≠ 6 → j ≠ 9 → j ≠ 10 → j ≠ 11 → j ≠ 13 → j ≠ 14 → j ≠ 15 → C'.1 (b :: 10 :: r) j = C.1 (b :: 10 :: r) j)
    (hC0 : C'.1 (18 :: b :: 10 :: r) = C.1 (18 :: b :: 10 :: r)) (hC1 : C'.1 (1 :: 18 :: b :: 10 :: r) = C.1 (1 :: 18 :: b :: 10 :: r)) (hC2 : C'.1 (2 :: 18 :: b :: 10 :: r) = C.1 (2 :: 18 :: b :: 10 :: r))
    (hS : ∀ i, i < 16 → (i < 3 ∨ 9 < i) → S' (200 + 16 * b + i) = S (200 + 16 * b + i)) (hA : ∀ i, i < 16 → S' (900 + 16 * b + i) = S (900 + 16 * b + i))
    (hM : ∀ k, 11 ≤ k → k ≤ 16 → M'.1 [k, 1] b = M.1 [k, 1] b) (hv : rBv r S' C' hm' b) (h : rB r S C M nc nw now hm k b) : rB r S' C' M' nc nw now hm' k b := by
  obtain ⟨a1, a2, -, a4, a5⟩ := h
  have s0 := hS 0 (by omega) (by omega)
  rw [Nat.add_zero] at s0
  refine ⟨?_, ?_, hv, ?_, rBa_congr hb hC0 hC1 hC2 (hS 12 (by omega) (by omega)) hA a5⟩
  · unfold rBi at a1 ⊢
    rw [hC 0 (by omega) (by omega) (by omega) (by omega) (by omega) (by omega) (by omega), hC 1 (by omega) (by omega) (by omega) (by omega) (by omega) (by omega) (by omega), hC 7 (by omega) (by omega) (by omega) (by omega) (by omega) (by omega) (by omega), hC 8 (by omega) (by omega) (by omega) (by omega) (by omega) (by omega) (by omega), hC 16 (by omega) (by omega) (by omega) (by omega) (by omega) (by omega) (by omega), hC 17 (by omega) (by omega) (by omega) (by omega) (by omega) (by omega) (by omega), hM 11 (by omega) (by omega), hM 12 (by omega) (by omega), hM 13 (by omega) (by omega), hM 14 (by omega) (by omega), hM 16 (by omega) (by omega)]
    exact a1
  · unfold rBp at a2 ⊢
    rw [hC 2 (by omega) (by omega) (by omega) (by omega) (by omega) (by omega) (by omega), hC 3 (by omega) (by omega) (by omega) (by omega) (by omega) (by omega) (by omega), hC 4 (by omega) (by omega) (by omega) (by omega) (by omega) (by omega) (by omega), hC 5 (by omega) (by omega) (by omega) (by omega) (by omega) (by omega) (by omega), s0, hS 1 (by omega) (by omega), hS 2 (by omega) (by omega), hS 13 (by omega) (by omega), hM 15 (by omega) (by omega)]
    exact a2
  · unfold rBt at a4 ⊢
    rw [hC 12 (by omega) (by omega) (by omega) (by omega) (by omega) (by omega) (by omega), hS 10 (by omega) (by omega), hS 11 (by omega) (by omega)]
    exact a4
theorem rBp_opt {k b : Nat} (h16 : nc ≤ 16) (h : rBp r S C M nc nw k b) : opt (C.1 (b :: 10 :: r) 2) (S (200 + 16 * b)) 16 := by
  obtain ⟨-, h⟩ := h
  rcases h with ⟨-, c, p1, p2, p3, -⟩ | ⟨-, w, e, t, -, -, -, -, p2, p3, -⟩ | ⟨-, p2, p3, -⟩ | ⟨-, -, p2, -⟩
  · exact .inr ⟨c, by omega, p2, p3⟩
  · exact .inl ⟨p2, p3⟩
  · exact .inl ⟨p2, p3⟩
  · exact opt_mono h16 p2
theorem oN_oM {a b : Nat} (ha : a < 2147483648) (h : 0 < a + b) (hb : b ≤ 2147483648) : oN a ≠ oM b := fun e => by
  have := congrArg Int32.toInt e
  rw [n_toI ha, m_toI hb] at this
  omega
theorem oM_oM {a b : Nat} (h : a ≠ b) (ha : a ≤ 2147483648) (hb : b ≤ 2147483648) : oM a ≠ oM b := fun e => by
  have := congrArg Int32.toInt e
  rw [m_toI ha, m_toI hb] at this
  omega
theorem opt_eq {x y x' y' : Int32} {n : Nat} (hn : n ≤ 1000) (h : opt x y n) (h' : opt x' y' n) : x = x' ↔ y = y' := by
  rcases h with ⟨e1, e2⟩ | ⟨c, hc, e1, e2⟩ <;> rcases h' with ⟨f1, f2⟩ | ⟨d, hd, f1, f2⟩ <;> rw [e1, e2, f1, f2]
  · simp
  · exact ⟨fun e => absurd e.symm (oN_oM (by omega) (by omega) (by omega)), fun e => absurd e.symm (oN_oM (by omega) (by omega) (by omega))⟩
  · exact ⟨fun e => absurd e (oN_oM (by omega) (by omega) (by omega)), fun e => absurd e (oN_oM (by omega) (by omega) (by omega))⟩
theorem opt_say {x y : Int32} {n : Nat} (hn : n ≤ 1000) (h : opt x y n) : (cmpS .lt x (oN 0) = true ∧ y = oM 4 ∧ x = oM 1) ∨ (cmpS .lt x (oN 0) = false ∧ cmpS .ge x (oN 0) = true ∧ y = x ∧ ∃ c, c < n ∧ x = oN c) := by
  rcases h with ⟨e1, e2⟩ | ⟨c, hc, e1, e2⟩
  · exact .inl ⟨by rw [e1]; exact mn_lt (by omega) (by omega) (by omega), e2, e1⟩
  · exact .inr ⟨by rw [e1]; exact n_lt_f (by omega) (by omega) (by omega), by rw [e1]; exact n_ge_t (by omega) (by omega) (by omega), by rw [e1, e2], c, hc, e1⟩
theorem cmp_iff {x y x' y' : Int32} (h : x = x' ↔ y = y') : cmpS .ne x x' = cmpS .ne y y' ∧ cmpS .eq x x' = cmpS .eq y y' := by
  rw [c_ne, c_ne, c_eq, c_eq]
  by_cases e : x = x'
  · rw [decide_eq_true e, decide_eq_true (h.mp e)]; exact ⟨rfl, rfl⟩
  · rw [decide_eq_false e, decide_eq_false (fun q => e (h.mpr q))]; exact ⟨rfl, rfl⟩
end SetV
