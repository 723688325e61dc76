section Min1
def rPt (r : List Nat) (S : Nat → Int32) (C M : mM) (nc nw nb np nt now td hm : Nat) (kd wa wb wd wl ws : Nat → Nat) : Prop :=
  rSc r S C nc nw nb np nt now kd ∧ rCe r S C M nc ∧ rWa r S C M nc nw wa wb wd wl ws ∧ rWd r S C nw hm ∧ rHe r S C ∧ rFo r S C nt ∧ rBo r S C M nc nw nb td hm kd ∧ rGr r C nb kd ∧ rPo r C M nb np kd ∧ rDi r C nc nw wa wb wl ws
def frC (r : List Nat) (C C' : mM) : Prop := (∀ q, (∀ t, q ≠ t ++ r) → q ≠ [8, 4, 0] → C'.1 q = C.1 q) ∧ C'.2 = C.2
def frM (M M' : mM) : Prop := (∀ q, q ≠ [1, 1] → M'.1 q = M.1 q) ∧ M'.2 = M.2
theorem frC_refl {r : List Nat} {C : mM} : frC r C C := ⟨fun _ _ _ => rfl, rfl⟩
theorem frM_refl {M : mM} : frM M M := ⟨fun _ _ => rfl, rfl⟩
theorem frC_trans {r : List Nat} {A B C : mM} (h : frC r A B) (h' : frC r B C) : frC r A C := ⟨fun q h1 h2 => (h'.1 q h1 h2).trans (h.1 q h1 h2), h'.2.trans h.2⟩
theorem frM_trans {A B C : mM} (h : frM A B) (h' : frM B C) : frM A C := ⟨fun q h1 => (h'.1 q h1).trans (h.1 q h1), h'.2.trans h.2⟩
theorem frC_w {r : List Nat} {C : mM} {u : List Nat} {k : Nat} {v : Int32} : frC r C (wI C (u ++ r) k v) := ⟨fun q h _ => w_ne (h u), rfl⟩
theorem frM_w {M : mM} {k : Nat} {v : Int32} : frM M (wI M [1, 1] k v) := ⟨fun q h => w_ne h, rfl⟩
theorem syncG {X Y : Nat → mM → mZ} {J : Nat → mM → mM → Prop} {nb : Nat} (kd : Nat → Nat)
    (hs : ∀ b C M, b < nb → J b C M → kd b = 0 → ∃ C' M', X (cntG kd b) C = X (cntG kd b + 1) C' ∧ Y b M = Y (b + 1) M' ∧ J (b + 1) C' M')
    (hn : ∀ b C M, b < nb → J b C M → kd b ≠ 0 → ∃ M', Y b M = Y (b + 1) M' ∧ J (b + 1) C M') :
    ∀ b, b ≤ nb → ∀ C M, J 0 C M → ∃ C' M', X 0 C = X (cntG kd b) C' ∧ Y 0 M = Y b M' ∧ J b C' M'
  | 0, _, C, M, h => ⟨C, M, rfl, rfl, h⟩
  | b + 1, hb, C, M, h => by
    obtain ⟨C1, M1, h1, h2, h3⟩ := syncG kd hs hn b (by omega) C M h
    by_cases hk : kd b = 0
    · obtain ⟨C2, M2, g1, g2, g3⟩ := hs b C1 M1 (by omega) h3 hk
      exact ⟨C2, M2, by rw [h1, g1, cntG_t hk], by rw [h2, g2], g3⟩
    · obtain ⟨M2, g2, g3⟩ := hn b C1 M1 (by omega) h3 hk
      exact ⟨C1, M2, by rw [h1, cntG_f hk], by rw [h2, g2], g3⟩
theorem n_ltI {a b : Nat} (ha : a < 2147483648) (hb : b < 2147483648) : (oN a < oN b) = (a < b) := by
  rw [Int32.lt_iff_toInt_lt, n_toI ha, n_toI hb]
  exact propext ⟨fun h => by omega, fun h => by omega⟩
variable {S S' : Nat → Int32} {C C' M M' : mM} {c nc nw nb np nt now td hm hm' : Nat} {kd wa wb wd wl ws : Nat → Nat}
theorem rPt_one {b0 : Nat} (h : rPt [c, 0] S C M nc nw nb np nt now td hm kd wa wb wd wl ws)
    (hC : ∀ q, q ≠ [b0, 10, c, 0] → C'.1 q = C.1 q) (hS : ∀ i, i < 1600 → (i < 200 + 16 * b0 ∨ 200 + 16 * b0 + 16 ≤ i) → S' i = S i) (hM : ∀ q, q ≠ [1, 1] → M'.1 q = M.1 q) (hb0 : b0 < nb)
    (hnew : rB [c, 0] S' C' M' nc nw td hm (kd b0) b0) : rPt [c, 0] S' C' M' nc nw nb np nt now td hm kd wa wb wd wl ws := by
  obtain ⟨g1, g2, g3, g4, g5, g6, g7, g8, g9, g10⟩ := h
  have hsc := g1
  obtain ⟨cN, cT, cC, cW, cB, cG, cP, S0, S1, S2, S3, S4, S5, b16, b24, b40, b8, b20, b4320⟩ := hsc
  have hk : ∀ k, C'.1 [k, c, 0] = C.1 [k, c, 0] := fun k => hC _ (by simp)
  have hk2 : ∀ j k, k ≠ 10 → C'.1 [j, k, c, 0] = C.1 [j, k, c, 0] := fun j k hk => hC _ (by simp [hk])
  have hr : C'.1 [c, 0] = C.1 [c, 0] := hC _ (by simp)
  have hm1 : ∀ k, k ≠ 1 → M'.1 [k, 1] = M.1 [k, 1] := fun k hk => hM _ (by simp [hk])
  refine ⟨rSc_congr hr (congrFun (hk 6) 0) (fun i hi => hS i (by omega) (by omega)) g1, rCe_congr (hk 3) (hk 4) (hk 5) (fun i hi => hS _ (by omega) (by omega)) (fun i _ => ⟨by rw [hm1 5 (by omega)], by rw [hm1 6 (by omega)]⟩) g2,
    rWa_congr (hk2 1 6 (by omega)) (hk2 2 6 (by omega)) (hk2 3 6 (by omega)) (hk2 4 6 (by omega)) (hk2 5 6 (by omega)) (fun i hi => hS _ (by omega) (by omega)) (fun i _ => ⟨by rw [hm1 7 (by omega)], by rw [hm1 8 (by omega)], by rw [hm1 9 (by omega)], by rw [hm1 10 (by omega)]⟩) g3,
    rWd_congr (hk2 6 6 (by omega)) (hk2 7 6 (by omega)) (hk2 9 6 (by omega)) (fun i hi => hS _ (by omega) (by omega)) (fun i hi => hS _ (by omega) (by omega)) (fun i hi => hS _ (by omega) (by omega)) g4,
    rHe_congr (hk 7) (fun i hi => hS _ (by omega) (by omega)) g5, rFo_congr (hk 8) (fun i hi => hS _ (by omega) (by omega)) g6, ?_, rGr_congr (hk 12) g8, rPo_congr (hk 14) (fun i _ => by rw [hm1 17 (by omega)]) g9, rDi_congr (congrFun (hk 6) 11) (hk2 12 6 (by omega)) g10⟩
  exact rBo_one (b0 := b0) b40 g7 (fun b hb hne => ⟨⟨hC _ (by simp [hne]), hC _ (by simp), hC _ (by simp), hC _ (by simp)⟩, fun i hi => hS _ (by omega) (by omega), fun i hi => hS _ (by omega) (by omega),
    by rw [hm1 11 (by omega)], by rw [hm1 12 (by omega)], by rw [hm1 13 (by omega)], by rw [hm1 14 (by omega)], by rw [hm1 15 (by omega)], by rw [hm1 16 (by omega)]⟩) (fun _ => hnew)
end Min1
