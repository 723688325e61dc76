section Min4
variable {r : List Nat} {S S' : Nat → Int32} {C C' M M' : mM} {c nc nw nb np nt now hm : Nat} {td td' : Nat → Nat} {kd wa wb wd wl ws : Nat → Nat}
def rPf (r : List Nat) (S : Nat → Int32) (C M : mM) (nc nw nb np nt now : Nat) (td : Nat → Nat) (hm : Nat) (kd wa wb wd wl ws : Nat → Nat) : Prop :=
  rSc r S C nc nw nb np nt now kd ∧ rCe r S C M nc ∧ rWa r S C M nc nw wa wb wd wl ws ∧ rWd r S C nw hm ∧ rHe r S C ∧ rFo r S C nt ∧ (∀ b, b < nb → rB r S C M nc nw (td b) hm (kd b) b) ∧ rGr r C nb kd ∧ rPo r C M nb np kd ∧ rDi r C nc nw wa wb wl ws
theorem rPf_iff {t : Nat} : rPt r S C M nc nw nb np nt now t hm kd wa wb wd wl ws ↔ rPf r S C M nc nw nb np nt now (fun _ => t) hm kd wa wb wd wl ws := Iff.rfl
theorem rPf_td (h : rPf r S C M nc nw nb np nt now td hm kd wa wb wd wl ws) (ht : ∀ b, b < nb → kd b = 0 → td' b = td b) : rPf r S C M nc nw nb np nt now td' hm kd wa wb wd wl ws := by
  obtain ⟨g1, g2, g3, g4, g5, g6, g7, g8, g9, g10⟩ := h
  refine ⟨g1, g2, g3, g4, g5, g6, fun b hb => ?_, g8, g9, g10⟩
  by_cases hk : kd b = 0
  · rw [ht b hb hk]; exact g7 b hb
  · obtain ⟨a1, a2, a3, -, a5⟩ := g7 b hb
    exact ⟨a1, a2, a3, fun h0 => absurd h0 hk, a5⟩
theorem rPf_one {b0 : Nat} (h : rPf [c, 0] S C M nc nw nb np nt now td hm kd wa wb wd wl ws)
    (hC : ∀ q, q ≠ [b0, 10, c, 0] → C'.1 q = C.1 q) (hS : ∀ i, i < 1600 → (i < 200 + 16 * b0 ∨ 200 + 16 * b0 + 16 ≤ i) → S' i = S i) (hM : ∀ q, q ≠ [1, 1] → M'.1 q = M.1 q) (hb0 : b0 < nb) (htd : ∀ b, b < nb → b ≠ b0 → td' b = td b)
    (hnew : rB [c, 0] S' C' M' nc nw (td' b0) hm (kd b0) b0) : rPf [c, 0] S' C' M' nc nw nb np nt now td' hm kd wa wb wd wl ws := by
  obtain ⟨g1, g2, g3, g4, g5, g6, g7, g8, g9, g10⟩ := h
  have hsc := g1
  obtain ⟨cN, cT, cC, cW, cB, cG, cP, S0, S1, S2, S3, S4, S5, b16, b24, b40, b8, b20, b4320⟩ := hsc
  have hk : ∀ k, C'.1 [k, c, 0] = C.1 [k, c, 0] := fun k => hC _ (by simp)
  have hk2 : ∀ j k, k ≠ 10 → C'.1 [j, k, c, 0] = C.1 [j, k, c, 0] := fun j k hk => hC _ (by simp [hk])
  have hr : C'.1 [c, 0] = C.1 [c, 0] := hC _ (by simp)
  have hm1 : ∀ k, k ≠ 1 → M'.1 [k, 1] = M.1 [k, 1] := fun k hk => hM _ (by simp [hk])
  refine ⟨rSc_congr hr (congrFun (hk 6) 0) (fun i hi => hS i (by omega) (by omega)) g1, rCe_congr (hk 3) (hk 4) (hk 5) (fun i hi => hS _ (by omega) (by omega)) (fun i _ => ⟨by rw [hm1 5 (by omega)], by rw [hm1 6 (by omega)]⟩) g2,
    rWa_congr (hk2 1 6 (by omega)) (hk2 2 6 (by omega)) (hk2 3 6 (by omega)) (hk2 4 6 (by omega)) (hk2 5 6 (by omega)) (fun i hi => hS _ (by omega) (by omega)) (fun i _ => ⟨by rw [hm1 7 (by omega)], by rw [hm1 8 (by omega)], by rw [hm1 9 (by omega)], by rw [hm1 10 (by omega)]⟩) g3,
    rWd_congr (hk2 6 6 (by omega)) (hk2 7 6 (by omega)) (hk2 9 6 (by omega)) (fun i hi => hS _ (by omega) (by omega)) (fun i hi => hS _ (by omega) (by omega)) (fun i hi => hS _ (by omega) (by omega)) g4,
    rHe_congr (hk 7) (fun i hi => hS _ (by omega) (by omega)) g5, rFo_congr (hk 8) (fun i hi => hS _ (by omega) (by omega)) g6, ?_, rGr_congr (hk 12) g8, rPo_congr (hk 14) (fun i _ => by rw [hm1 17 (by omega)]) g9, rDi_congr (congrFun (hk 6) 11) (hk2 12 6 (by omega)) g10⟩
  intro b hb
  by_cases e : b = b0
  · subst e; exact hnew
  · rw [htd b hb e]
    exact rB_congr (by omega) ⟨⟨hC _ (by simp [e]), hC _ (by simp), hC _ (by simp), hC _ (by simp)⟩, fun i hi => hS _ (by omega) (by omega), fun i hi => hS _ (by omega) (by omega),
      by rw [hm1 11 (by omega)], by rw [hm1 12 (by omega)], by rw [hm1 13 (by omega)], by rw [hm1 14 (by omega)], by rw [hm1 15 (by omega)], by rw [hm1 16 (by omega)]⟩ (g7 b hb)
theorem c_ne_t {v w : Int32} (h : v ≠ w) : cmpS .ne v w = true := by rw [c_ne, decide_eq_false h]; rfl
theorem c_eq_f {v w : Int32} (h : v ≠ w) : cmpS .eq v w = false := by rw [c_eq, decide_eq_false h]
theorem rBt_next {k b : Nat} (hn : now % 1440 ≠ 0) (h : rBt r S C now k b) : rBt r S C (now + 1) k b := by
  intro hk
  obtain ⟨tt, n, t7, n7, h1, h2, h3⟩ := h hk
  refine ⟨tt, n, t7, n7, h1, h2, ?_⟩
  rcases h3 with ⟨h4, h5⟩ | ⟨d, h4, h5, h6⟩
  · exact .inl ⟨h4, fun _ => h5 hn⟩
  · refine .inr ⟨d, h4, by omega, fun hn1 => ?_⟩
    rw [h6 hn]
    have : (now + 1) / 1440 = now / 1440 := by omega
    rw [this]
theorem rBt_reset {k b : Nat} (hn : now % 1440 = 0) (hC : C'.1 (b :: 10 :: r) 12 = oN 0) (hS : ∀ i, 10 ≤ i → i ≤ 11 → S' (200 + 16 * b + i) = S (200 + 16 * b + i)) (h : rBt r S C now k b) : rBt r S' C' (now + 1) k b := by
  intro hk
  obtain ⟨tt, n, t7, n7, h1, h2, h3⟩ := h hk
  refine ⟨0, n, by omega, n7, hC, by rw [hS 11 (by omega) (by omega)]; exact h2, ?_⟩
  rw [hS 10 (by omega) (by omega)]
  rcases h3 with ⟨h4, h5⟩ | ⟨d, h4, h5, h6⟩
  · exact .inl ⟨h4, fun _ => rfl⟩
  · refine .inr ⟨d, h4, by omega, fun _ => ?_⟩
    rw [if_neg (by omega)]
theorem rBt_congr' {k b : Nat} (hC : C'.1 (b :: 10 :: r) 12 = C.1 (b :: 10 :: r) 12) (hS : ∀ i, 10 ≤ i → i ≤ 11 → S' (200 + 16 * b + i) = S (200 + 16 * b + i)) (h : rBt r S C now k b) : rBt r S' C' now k b := by
  unfold rBt at h ⊢
  rw [hC, hS 10 (by omega) (by omega), hS 11 (by omega) (by omega)]
  exact h
theorem rBt_eff {b : Nat} (h4320 : now ≤ 4320) (h : rBt r S C now 0 b) : ∃ t, t ≤ 7 ∧ (now % 1440 ≠ 0 → C.1 (b :: 10 :: r) 12 = oN t) ∧ (now % 1440 = 0 → t = 0) ∧ ((S (200 + 16 * b + 10) = oN (now / 1440) ∧ S (200 + 16 * b + 11) = oN t) ∨ (S (200 + 16 * b + 10) ≠ oN (now / 1440) ∧ t = 0)) := by
  obtain ⟨tt, n, t7, n7, h1, h2, h3⟩ := h rfl
  rcases h3 with ⟨h4, h5⟩ | ⟨d, h4, h5, h6⟩
  · refine ⟨0, by omega, fun q => by rw [h1, h5 q], fun _ => rfl, .inr ⟨?_, rfl⟩⟩
    rw [h4]
    exact (oN_oM (by omega) (by omega) (by omega)).symm
  · by_cases q : now % 1440 = 0
    · refine ⟨0, by omega, fun y => absurd q y, fun _ => rfl, .inr ⟨?_, rfl⟩⟩
      rw [h4]
      intro e
      have := (n_inj (by omega) (by omega)).mp e
      omega
    · by_cases z : d = now / 1440
      · subst z
        refine ⟨n, n7, fun _ => by rw [h1, h6 q, if_pos rfl], fun y => absurd y q, .inl ⟨h4, h2⟩⟩
      · refine ⟨0, by omega, fun _ => by rw [h1, h6 q, if_neg z], fun _ => rfl, .inr ⟨?_, rfl⟩⟩
        rw [h4]
        intro e
        exact z ((n_inj (by omega) (by omega)).mp e)
theorem rBt_throw {b t : Nat} (h4320 : now ≤ 4320) (ht : t < 7) (hC : C'.1 (b :: 10 :: r) 12 = oN (t + 1)) (h10 : S' (200 + 16 * b + 10) = oN (now / 1440)) (h11 : S' (200 + 16 * b + 11) = oN (t + 1)) : rBt r S' C' (now + 1) 0 b := by
  intro _
  refine ⟨t + 1, t + 1, by omega, by omega, hC, h11, .inr ⟨now / 1440, h10, by omega, fun q => ?_⟩⟩
  rw [if_pos (by omega)]
end Min4
