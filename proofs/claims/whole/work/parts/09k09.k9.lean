section Ctor7
variable {p : Program} {l : Launch} {e : Env} {R : Room} {s : State} {m : MethodId} {args : Array Value} {below : List Frame} {meth : Method} {c : Code} {Q : State → Prop} {H : Heap} {locs : List Loc}
variable {cc : ByteArray} {pc nL : Nat} {D : va_G} {A : Nat → Prop} {aC : Nat → ClassId} {own : String} {K : Nat → Option Nat} {chs : List (Nat × Nat × List Nat × mM)}
theorem keys_inj : ∀ {chs : List (Nat × Nat × List Nat × mM)}, (chs.map (fun e => e.1)).Nodup → ∀ e ∈ chs, ∀ e' ∈ chs, e.1 = e'.1 → e = e'
  | [], _, e, he, _, _, _ => absurd he List.not_mem_nil
  | x :: r, hn, e, he, e', he', h => by
    obtain ⟨h1, h2⟩ := List.nodup_cons.mp hn
    rcases List.mem_cons.mp he with q1 | q1
    · rcases List.mem_cons.mp he' with q2 | q2
      · rw [q1, q2]
      · exact absurd (List.mem_map.mpr ⟨e', q2, by rw [← h, q1]⟩) h1
    · rcases List.mem_cons.mp he' with q2 | q2
      · exact absurd (List.mem_map.mpr ⟨e, q1, by rw [h, q2]⟩) h1
      · exact keys_inj h2 e q1 e' q2 h
theorem chT_lt {c k u : Nat} (hc : tgK c = 0) (h : chT c k = some u) : k < (fKs.getD c []).length := by
  unfold chT at h
  rw [if_pos hc] at h
  cases hf : fKd c k with
  | none => rw [hf] at h; cases h
  | some t => exact (fKd_lt hf).2
theorem B_end2 {c0 h0 sz N : Nat} {fs : List Value} {mem : mM} {t : State} (hW : WC D aC (AC h0 sz) K [(h0, .inr (c0, fs))] chs s H locs) (hc0 : tgK c0 = 0) (hN : (fKs.getD c0 []).length = N) (hKk : ∀ k, k < 1000 → K k = chT c0 k) (hlt : ∀ k ∈ chs.map (fun e => e.1), k < 1000) (hcov : ∀ k, k < N → (chT c0 k).isSome = true → k ∈ chs.map (fun e => e.1)) (hnd : (chs.map (fun e => e.1)).Nodup)
    (hfs : ∀ ads : List Nat → Nat, (∀ e ∈ chs, ads [e.1] = e.2.1) → Sum.inr (c0, fs) = cEl aC ads c0 [] mem) (hm : ∀ e ∈ chs, ∀ r, mem.1 (r ++ [e.1]) = e.2.2.2.1 r ∧ mem.2.1 (r ++ [e.1]) = e.2.2.2.2.1 r) (ht : t.heap = H) : BcC D aC c0 mem h0 sz t :=
  B_end hW (fun e he => hKk _ (hlt _ (List.mem_map.mpr ⟨e, he, rfl⟩))) (fun k u h => by
    obtain ⟨e, h1, h2⟩ := List.mem_map.mp (hcov k (by rw [← hN]; exact chT_lt hc0 h) (by rw [h]; rfl))
    exact ⟨e, h1, h2⟩) (keys_inj hnd) hfs hm ht
theorem B_loop {h0 NN pcI out cells slots : Nat} {NNi off1 off2 : Int} (F : CX p s m args c D aC cc nL own A) (hnL : 1 < nL) (hNN : NN < 1000) (Inv : Nat → Heap → List Loc → Prop)
    (d0 : decode cc pc = .ok (.iload_n 1, 1)) (d1 : decode cc (pc + 1) = .ok (.bipush NNi, 2)) (hNi : (Int8.ofInt NNi).toInt32 = oN NN) (d3 : decode cc (pc + 3) = .ok (.if_icmp .ge off1, 3)) (ho1 : ((pc + 3 : Nat) : Int) + off1 = (out : Int)) (dI : decode cc pcI = .ok (.iinc 1 1, 3)) (dG : decode cc (pcI + 3) = .ok (.goto off2, 3)) (ho2 : ((pcI + 3 : Nat) : Int) + off2 = (pc : Int))
    (hstep : ∀ (j : Nat) (H : Heap) (locs : List Loc) (ls : Array Slot), j < NN → lv_has ls nL [(1, .int (oN j)), (0, .ref h0)] → Inv j H locs → (∀ (H1 : Heap) (locs1 : List Loc), Inv (j + 1) H1 locs1 → W p l e R s m args below meth c H1 locs1 cells slots Q (F0 m pcI ls [])) → W p l e R s m args below meth c H locs cells slots Q (F0 m (pc + 6) ls []))
    (hexit : ∀ (H : Heap) (locs : List Loc) (ls : Array Slot), lv_has ls nL [(1, .int (oN NN)), (0, .ref h0)] → Inv NN H locs → W p l e R s m args below meth c H locs cells slots Q (F0 m out ls [])) :
    ∀ (r j : Nat) (H : Heap) (locs : List Loc) (ls : Array Slot), j + r = NN → lv_has ls nL [(1, .int (oN j)), (0, .ref h0)] → Inv j H locs → W p l e R s m args below meth c H locs cells slots Q (F0 m pc ls []) := by
  obtain ⟨hx, hb, hml, hown, hts, hK, hNW, hA⟩ := F
  intro r
  induction r with
  | zero =>
    intro j H locs ls hj hl hI
    have : j = NN := by omega
    subst this
    refine lv_iload_n hx hb d0 rfl (lv_at hl 0 rfl) ?_
    refine lv_bipush hx hb d1 hNi ?_
    exact lv_icmp_ge hx hb d3 ho1 (fun _ => hexit H locs ls hl hI) (fun h => absurd ((le_N (by omega) (by omega)).mpr (Nat.le_refl _)) h)
  | succ r ih =>
    intro j H locs ls hj hl hI
    refine lv_iload_n hx hb d0 rfl (lv_at hl 0 rfl) ?_
    refine lv_bipush hx hb d1 hNi ?_
    refine lv_icmp_ge hx hb d3 ho1 (fun h => absurd ((le_N (by omega) (by omega)).mp h) (by omega)) (fun _ => ?_)
    refine hstep j H locs ls (by omega) hl hI (fun H1 locs1 hI1 => ?_)
    refine lv_iinc (v := oN (j + 1)) (lv' := [(1, .int (oN (j + 1))), (0, .ref h0)]) hx hb dI hl (k := 0) rfl (n_add j 1) hnL rfl (fun ls1 hl1 => ?_)
    exact lv_goto hx hb dG ho2 (ih (j + 1) H1 locs1 ls1 (by omega) hl1 hI1)
end Ctor7
