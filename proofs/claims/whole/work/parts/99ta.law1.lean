section Law1
variable {L : Nat} {xs : Nat → Int32} {C C' M M' mem : mM} {hm hm' : Nat}
theorem nund {a : Nat} {q : List Nat} (h : q.getLast? ≠ some a) (h4 : q.getLast? ≠ some 4) : ¬ undR [[a], [4]] q := fun ⟨ro, h1, t, h2⟩ => by
  rcases List.mem_cons.mp h1 with e | h1
  · subst e; rw [h2] at h; simp at h
  · rcases List.mem_cons.mp h1 with e | h1
    · subst e; rw [h2] at h4; simp at h4
    · cases h1
theorem agM_frm (h : frm [[0], [4]] M M') : agM M M' :=
  ⟨fun i _ => by rw [(h [1, 1] (nund (by simp) (by simp))).1], (h [2, 1] (nund (by simp) (by simp))).1, fun k _ _ => (h [k, 1] (nund (by simp) (by simp))).1, fun k _ _ => (h [k, 1] (nund (by simp) (by simp))).1, by rw [(h [1] (nund (by simp) (by simp))).1], by rw [(h [1] (nund (by simp) (by simp))).1], (h [57, 1] (nund (by simp) (by simp))).2⟩
theorem agC_frm (h : frm [[1], [4]] C C') : agC C C' :=
  ⟨fun t => (h _ (nund (by simp) (by simp))).1, fun t => (h _ (nund (by simp) (by simp))).1, by rw [(h [0] (nund (by simp) (by simp))).1], (h _ (nund (by simp) (by simp))).1, (h _ (nund (by simp) (by simp))).1, (h _ (nund (by simp) (by simp))).1, (h [1, 5, 0] (nund (by simp) (by simp))).2, fun t => (h _ (nund (by simp) (by simp))).1⟩
theorem und_a {a : Nat} (t : List Nat) : undR [[a], [4]] (t ++ [a]) := ⟨[a], List.mem_cons_self, t, rfl⟩
theorem und_4 {a : Nat} : undR [[a], [4]] [4] := ⟨[4], List.mem_cons_of_mem _ List.mem_cons_self, [], rfl⟩
theorem okS_i {rs : List (List Nat)} {as : List mV} (h : ∀ v, v ∈ as → ∃ x, v = vi x) : okS rs as := fun v hv => by
  obtain ⟨x, rfl⟩ := h v hv
  exact okI x
theorem two {c m : Nat} {as : List mV} (hI : rI L xs mem mem hm) (hc : c < 256) (hm0 : m < 256) (has : ∀ v, v ∈ as → ∃ x, v = vi x) (hop : ∀ C M, rI L xs C M hm → opR L xs c m as C M hm') :
    ∃ v C' M', kI L xs c (vr 9 [0] :: as) mem = some (v, C') ∧ kI L xs m (vr 10 [1] :: as) C' = some (v, M') ∧ rI L xs M' M' hm' ∧ M'.2.2 = mem.2.2 := by
  obtain ⟨v, C', M1, h1, -, -⟩ := hop mem mem hI
  have f1 := kI_frame und_4 h1 (okS_cons (okR (und_a [])) (okS_i has))
  obtain ⟨v2, C2, M2, g1, g2, g3⟩ := hop mem C' (rI_ag (agC_refl _) (agM_frm f1) hI)
  rw [h1] at g1
  cases g1
  have f2 := kI_frame und_4 g2 (okS_cons (okR (und_a [])) (okS_i has))
  obtain ⟨w1, x1⟩ := kI_call h1
  obtain ⟨w2, x2⟩ := kI_call g2
  exact ⟨v, C', M2, h1, g2, rI_ag (agC_frm f2) (agM_refl _) g3, (call_x hm0 x2).trans (call_x hc x1)⟩
def lw (i : Nat) : List (Option mV) := [some (vr 7000000 [3]), some (vr 9 [0]), some (vr 10 [1]), some (vr 4000001 [2]), some (vi (oN i)), none, none, none]
def stO (L : Nat) (xs : Nat → Int32) (i hm : Nat) (mem : mM) : Prop := ∃ mem' hm', run L xs 256 63 (23, lw i, [], mem) = run L xs 256 63 (23, lw (i + 6), [], mem') ∧ rI L xs mem' mem' hm' ∧ hm ≤ hm' ∧ hm' ≤ hm + 1 ∧ mem'.2.2 ≤ mem.2.2 + 1
theorem oNL : Int32.ofNat L = oN L := rfl
end Law1
