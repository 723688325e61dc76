section Upd
def updN (f : Nat → Nat) (k v : Nat) : Nat → Nat := fun j => if j = k then v else f j
theorem updN_same {f : Nat → Nat} {k v : Nat} : updN f k v k = v := if_pos rfl
theorem updN_ne {f : Nat → Nat} {k v j : Nat} (h : j ≠ k) : updN f k v j = f j := if_neg h
variable {L : Nat} {xs : Nat → Int32} {r : List Nat} {S S' : Nat → Int32} {C C' M M' : mM} {nc nw nb np nt now hm : Nat} {kd wa wb wd wl ws : Nat → Nat}
def rB (r : List Nat) (S : Nat → Int32) (C M : mM) (nc nw now hm k b : Nat) : Prop := rBi r C M k b ∧ rBp r S C M nc nw k b ∧ rBv r S C hm b ∧ rBt r S C now k b ∧ rBa r S C nc b
def agB (r : List Nat) (S S' : Nat → Int32) (C C' M M' : mM) (b : Nat) : Prop := (C'.1 (b :: 10 :: r) = C.1 (b :: 10 :: r) ∧ C'.1 (18 :: b :: 10 :: r) = C.1 (18 :: b :: 10 :: r) ∧ C'.1 (1 :: 18 :: b :: 10 :: r) = C.1 (1 :: 18 :: b :: 10 :: r) ∧ C'.1 (2 :: 18 :: b :: 10 :: r) = C.1 (2 :: 18 :: b :: 10 :: r)) ∧
  (∀ i, i < 16 → S' (200 + 16 * b + i) = S (200 + 16 * b + i)) ∧ (∀ i, i < 16 → S' (900 + 16 * b + i) = S (900 + 16 * b + i)) ∧
  M'.1 [11, 1] b = M.1 [11, 1] b ∧ M'.1 [12, 1] b = M.1 [12, 1] b ∧ M'.1 [13, 1] b = M.1 [13, 1] b ∧ M'.1 [14, 1] b = M.1 [14, 1] b ∧ M'.1 [15, 1] b = M.1 [15, 1] b ∧ M'.1 [16, 1] b = M.1 [16, 1] b
theorem rB_congr {k b : Nat} (hb : b < 40) (hg : agB r S S' C C' M M' b) (h : rB r S C M nc nw now hm k b) : rB r S' C' M' nc nw now hm k b := by
  obtain ⟨⟨c1, c2, c3, c4⟩, s1, s2, m1, m2, m3, m4, m5, m6⟩ := hg
  obtain ⟨a1, a2, a3, a4, a5⟩ := h
  exact ⟨rBi_congr c1 m1 m2 m3 m4 m6 a1, rBp_congr hb c1 s1 m5 a2, rBv_congr c1 s1 a3, rBt_congr c1 s1 a4, rBa_congr hb c2 c3 c4 (s1 12 (by omega)) s2 a5⟩
theorem rB_mono {k b nc' nw' hm' : Nat} (hc : nc ≤ nc') (hw : nw ≤ nw') (hh : hm ≤ hm') (h : rB r S C M nc nw now hm k b) : rB r S C M nc' nw' now hm' k b := by
  obtain ⟨a1, a2, a3, a4, a5⟩ := h
  exact ⟨a1, rBp_mono hc hw a2, rBv_mono hh a3, a4, rBa_mono hc a5⟩
theorem rBo_mono {nc' nw' hm' : Nat} (hc : nc ≤ nc') (hw : nw ≤ nw') (hh : hm ≤ hm') (h : rBo r S C M nc nw nb now hm kd) : rBo r S C M nc' nw' nb now hm' kd := fun b hb => rB_mono hc hw hh (h b hb)
theorem rBo_one {b0 : Nat} (hnb : nb ≤ 40) (h : rBo r S C M nc nw nb now hm kd) (hg : ∀ b, b < nb → b ≠ b0 → agB r S S' C C' M M' b) (h0 : b0 < nb → rB r S' C' M' nc nw now hm (kd b0) b0) : rBo r S' C' M' nc nw nb now hm kd := fun b hb => by
  by_cases e : b = b0
  · subst e; exact h0 hb
  · exact rB_congr (by omega) (hg b hb e) (h b hb)
theorem rBo_add {k : Nat} (hnb : nb ≤ 40) (h : rBo r S C M nc nw nb now hm kd) (hg : ∀ b, b < nb → agB r S S' C C' M M' b) (h0 : rB r S' C' M' nc nw now hm k nb) : rBo r S' C' M' nc nw (nb + 1) now hm (updN kd nb k) := fun b hb => by
  by_cases e : b = nb
  · subst e; rw [updN_same]; exact h0
  · rw [updN_ne e]; exact rB_congr (by omega) (hg b (by omega)) (h b (by omega))
theorem rWa_mono {nc' : Nat} (hc : nc ≤ nc') (h : rWa r S C M nc nw wa wb wd wl ws) : rWa r S C M nc' nw wa wb wd wl ws := fun w hw => by
  obtain ⟨a, b, c⟩ := h w hw
  exact ⟨by omega, by omega, c⟩
theorem rWd_mono {hm' : Nat} (hh : hm ≤ hm') (h : rWd r S C nw hm) : rWd r S C nw hm' := fun w hw => by
  obtain ⟨⟨p, p1, p2⟩, ⟨q, q1, q2⟩, c⟩ := h w hw
  exact ⟨⟨p, by omega, p2⟩, ⟨q, by omega, q2⟩, c⟩
theorem rFo_mono {nt' : Nat} (hh : nt ≤ nt') (h : rFo r S C nt) : rFo r S C nt' := fun k hk => opt_mono hh (h k hk)
theorem cntG_upd {k : Nat} : ∀ {n}, n ≤ nb → cntG (updN kd nb k) n = cntG kd n := fun hn => cntG_congr (fun b hb => updN_ne (by omega))
theorem rGr_add {k : Nat} (h : rGr r C nb kd) (hg : ∀ b, b < nb → kd b = 0 → C'.1 (12 :: r) (cntG kd b) = C.1 (12 :: r) (cntG kd b)) (h0 : k = 0 → C'.1 (12 :: r) (cntG kd nb) = oN nb) : rGr r C' (nb + 1) (updN kd nb k) := fun b hb hk => by
  rw [cntG_upd (by omega)]
  by_cases e : b = nb
  · subst e; rw [updN_same] at hk; exact h0 hk
  · rw [updN_ne e] at hk
    rw [hg b (by omega) hk]
    exact h b (by omega) hk
theorem rPo_add {k : Nat} (h : rPo r C M nb np kd) : rPo r C M (nb + 1) np (updN kd nb k) := fun i hi => by
  obtain ⟨b, h1, h2, h3⟩ := h i hi
  exact ⟨b, by omega, by rw [updN_ne (by omega)]; exact h2, h3⟩
theorem rHi_add {k : Nat} (hnow : now ≤ 4320) (h : rHi C M nb now kd) (hb : M.1 [16, 1] nb = oN now) : rHi C M (nb + 1) now (updN kd nb k) := by
  refine ⟨h.1, fun b m n hbn hk hmn hn h4 hle => ?_⟩
  by_cases e : b = nb
  · subst e
    rw [hb, n_inj (by omega) (by omega)] at hn
    omega
  · rw [updN_ne e] at hk
    exact h.2 b m n (by omega) hk hmn hn h4 hle
theorem rIm_hm {nt' hm' : Nat} (hh : hm ≤ hm') (h : rIm C M nc nw nb np nt now hm) : rIm C M nc nw nb np nt now hm' := by
  rcases h with h | ⟨a1, a2, c1, c2, c3, c4, c5, c6, kd, wa, wb, wd, wl, ws, ⟨p1, p2, p3, p4, p5, p6, p7, p8, p9, p10⟩, hr⟩
  · exact .inl h
  · exact .inr ⟨a1, a2, c1, c2, c3, c4, c5, c6, kd, wa, wb, wd, wl, ws, ⟨p1, p2, p3, rWd_mono hh p4, p5, p6, rBo_mono (Nat.le_refl _) (Nat.le_refl _) hh p7, p8, p9, p10⟩, hr⟩
theorem rI_hm {hm' : Nat} (hh : hm ≤ hm') (h : rI L xs C M hm) : rI L xs C M hm' := by
  obtain ⟨nc, nw, nb, np, nt, now, kd, wa, wb, wd, wl, ws, ⟨p1, p2, p3, p4, p5, p6, p7, p8, p9, p10⟩, h2, h3⟩ := h
  exact ⟨nc, nw, nb, np, nt, now, kd, wa, wb, wd, wl, ws, ⟨p1, p2, p3, rWd_mono hh p4, p5, p6, rBo_mono (Nat.le_refl _) (Nat.le_refl _) hh p7, p8, p9, p10⟩, rIm_hm (nt' := nt) hh h2, h3⟩
end Upd
