section Ctor5
variable {p : Program} {l : Launch} {e : Env} {R : Room} {s : State} {m : MethodId} {args : Array Value} {below : List Frame} {meth : Method} {c : Code} {Q : State → Prop}
variable {cc : ByteArray} {pc nL : Nat} {D : va_G} {A : Nat → Prop} {aC : Nat → ClassId} {own : String} {K : Nat → Option Nat} {chs : List (Nat × Nat × List Nat × mM)}
theorem B_fill {h0 ci0 N0 kf idxf qa q0 kd NN out : Nat} {NNi off1 off2 : Int} {C0 : String} {T0 : u_T} {fs0 : List Value} {PR PRt : (Nat → Option Nat) → va_W} {ci N idx jdx mL mc ms : Nat} {C host : String} {T : u_T} {fs : List Value} {mem : mM} {y : MethodName} {bytes : ByteArray} {rm : Room} (ty0 : Nat → FieldType)
    (F : CX p s m args c D aC cc nL own A) (hnL : 1 < nL) (hPR : ∀ g, PR g = (h0, .inr (ci0, fs0)) :: PRt g) (hPq : ∀ g, q0 < (PR g).length) (hP0 : ∀ g, (PR g)[q0]? = some (qa, .inl (aC kd, NN, .inr (.inr (.inr (.inr g)))))) (hPs : ∀ g g', (PR g).set q0 (qa, .inl (aC kd, NN, .inr (.inr (.inr (.inr g'))))) = PR g')
    (hcl0 : vwCl[ci0]? = some (C0, T0, N0)) (hin0 : ∀ w ∈ u_ws C0 T0 N0, w ∈ lw_g) (hkf : kf < N0) (hO0 : (T0 kf).1 = C0) (hlink0 : Cond.fieldLink own idxf C0 (T0 kf).2.1 (T0 kf).2.2.1 ∈ lw_g) (hv0 : fs0[kf]? = some (.ref qa))
    (hNN : NN < 1000) (hKj : ∀ j, j < NN → K (1000 + j) = some ci) (hci : tgK ci = 0) (hkd : kd = 5 ∧ C = "TentPlain$Body" ∨ kd = 6 ∧ C = "TentPlain$Shelf") (hcl : vwCl[ci]? = some (C, T, N)) (hin : ∀ w ∈ u_ws C T N, w ∈ lw_g) (hty : ∀ k, k < N → parseFieldDescriptor (T k).2.2.1 = some (ty0 k)) (hfs : ∀ j, j < N → defaultValue (ty0 j) = vp_V fs j)
    (hclink : Cond.classLink own idx C ∈ lw_g) (hinst : Cond.instantiable C N ∈ lw_g) (hini : Cond.initialized C ∈ lw_g) (hM : MetC l y bytes mL ci fs mem rm mc ms) (hcode : Cond.code y bytes mL none ∈ lw_g) (hyC : y.cls = C) (hrc : rm.cells = mc) (hrs : rm.slots = ms) (hnest : Cond.methodLinkNest own jdx y host ∈ NWs)
    (hy : y.cls ≠ "java/lang/invoke/MethodHandle" ∧ y.cls ≠ "java/lang/invoke/VarHandle" ∧ (parseMethodDescriptor y.desc).map (fun d => d.parameters.length) = some 0) (hyi : y.name = "<init>") (hins : Cond.instanceMethod y ∈ lw_g) (hroom : rm.frames + 1 ≤ R.frames ∧ 8 + (mL + 11) + rm.locals ≤ R.locals)
    (d0 : decode cc pc = .ok (.iload_n 1, 1)) (d1 : decode cc (pc + 1) = .ok (.bipush NNi, 2)) (hNi : (Int8.ofInt NNi).toInt32 = oN NN) (d3 : decode cc (pc + 3) = .ok (.if_icmp .ge off1, 3)) (ho1 : ((pc + 3 : Nat) : Int) + off1 = (out : Int)) (d6 : decode cc (pc + 6) = .ok (.aload_n 0, 1)) (d7 : decode cc (pc + 7) = .ok (.getfield idxf, 3)) (d10 : decode cc (pc + 10) = .ok (.iload_n 1, 1)) (d11 : decode cc (pc + 11) = .ok (.new idx, 3)) (d14 : decode cc (pc + 14) = .ok (.dup, 1)) (d15 : decode cc (pc + 15) = .ok (.invokespecial jdx, 3)) (d18 : decode cc (pc + 18) = .ok (.aastore, 1)) (d19 : decode cc (pc + 19) = .ok (.iinc 1 1, 3)) (d22 : decode cc (pc + 22) = .ok (.goto off2, 3)) (ho2 : ((pc + 22 : Nat) : Int) + off2 = (pc : Int)) :
    ∀ (r j cells slots : Nat) (H : Heap) (locs : List Loc) (ls : Array Slot) (adr : Nat → Nat) (Ls : Nat → List Nat), j + r = NN → lv_has ls nL [(1, .int (oN j)), (0, .ref h0)] → WC D aC A K (PR (fun i => if i < j then some (adr i) else none)) (chs ++ (List.range j).map (fun i => (1000 + i, adr i, Ls i, mem))) s H locs →
      cells + r * (1 + mc) ≤ R.cells → slots + r * (N + ms) ≤ R.slots →
      (∀ (H1 : Heap) (locs1 : List Loc) (ls1 : Array Slot) (adr : Nat → Nat) (Ls : Nat → List Nat), lv_has ls1 nL [(1, .int (oN NN)), (0, .ref h0)] → WC D aC A K (PR (fun i => if i < NN then some (adr i) else none)) (chs ++ (List.range NN).map (fun i => (1000 + i, adr i, Ls i, mem))) s H1 locs1 → W p l e R s m args below meth c H1 locs1 (cells + r * (1 + mc)) (slots + r * (N + ms)) Q (F0 m out ls1 [])) →
      W p l e R s m args below meth c H locs cells slots Q (F0 m pc ls []) := by
  have F' := F
  obtain ⟨hx, hb, hml, hown, hts, hK, hNW, hA⟩ := F'
  intro r
  induction r with
  | zero =>
    intro j cells slots H locs ls adr Ls hj hl hW hc1 hs1 kk
    have : j = NN := by omega
    subst this
    refine lv_iload_n hx hb d0 rfl (lv_at hl 0 rfl) ?_
    refine lv_bipush hx hb d1 hNi ?_
    refine lv_icmp_ge hx hb d3 ho1 (fun _ => ?_) (fun h => absurd ((le_N (by omega) (by omega)).mpr (Nat.le_refl _)) h)
    have := kk H locs ls adr Ls hl hW
    rw [Nat.zero_mul, Nat.zero_mul] at this
    exact this
  | succ r ih =>
    intro j cells slots H locs ls adr Ls hj hl hW hc1 hs1 kk
    have e1 : (r + 1) * (1 + mc) = r * (1 + mc) + (1 + mc) := Nat.succ_mul _ _
    have e2 : (r + 1) * (N + ms) = r * (N + ms) + (N + ms) := Nat.succ_mul _ _
    refine lv_iload_n hx hb d0 rfl (lv_at hl 0 rfl) ?_
    refine lv_bipush hx hb d1 hNi ?_
    refine lv_icmp_ge hx hb d3 ho1 (fun h => absurd ((le_N (by omega) (by omega)).mp h) (by omega)) (fun _ => ?_)
    refine lv_aload_n hx hb d6 rfl (lv_at hl 1 rfl) ?_
    rw [hPR] at hW
    refine B_get F hW hcl0 hin0 hkf hO0 hlink0 hv0 d7 ?_
    rw [← hPR] at hW
    refine lv_iload_n hx hb d10 rfl (lv_at hl 0 rfl) ?_
    refine B_objN ty0 F hl.1 hW (hKj j (by omega)) hcl hin hty hfs hclink hinst hini hM hcode hyC hrc hrs hnest hy hyi hins hroom (Nat.le_of_ble_eq_true rfl) (by omega) (by omega) d11 d14 d15 (fun q L H1 locs1 hW1 => ?_)
    refine B_aast F hW1 (hKj j (by omega)) hci hcl hkd (hPq _) (hP0 _) (by omega) (by omega) d18 (fun H2 locs2 hW2 => ?_)
    rw [hPs] at hW2
    refine lv_iinc (v := oN (j + 1)) (lv' := [(1, .int (oN (j + 1))), (0, .ref h0)]) hx hb d19 hl (k := 0) rfl (n_add j 1) hnL rfl (fun ls1 hl1 => ?_)
    refine lv_goto hx hb d22 ho2 ?_
    refine ih (j + 1) (cells + 1 + mc) (slots + N + ms) H2 locs2 ls1 (fun i => if i = j then q else adr i) (fun i => if i = j then L else Ls i) (by omega) hl1 ?_ (by omega) (by omega) (fun H3 locs3 ls3 adr3 Ls3 hl3 hW3 => ?_)
    · have ea : va_up (fun i => if i < j then some (adr i) else none) j (some q) = fun i => if i < j + 1 then some (if i = j then q else adr i) else none := by
        funext i
        unfold va_up
        by_cases h1 : i = j
        · rw [if_pos h1, if_pos (by omega), if_pos h1]
        · rw [if_neg h1]
          dsimp only
          by_cases h2 : i < j
          · rw [if_pos h2, if_pos (by omega), if_neg h1]
          · rw [if_neg h2, if_neg (by omega)]
      have eb : chs ++ (List.range (j + 1)).map (fun i => (1000 + i, (if i = j then q else adr i), (if i = j then L else Ls i), mem)) = chs ++ (List.range j).map (fun i => (1000 + i, adr i, Ls i, mem)) ++ [(1000 + j, q, L, mem)] := by
        rw [List.range_succ, List.map_append, List.append_assoc]
        congr 1
        congr 1
        · apply List.map_congr_left
          intro i hi
          have : i ≠ j := by have := List.mem_range.mp hi; omega
          rw [if_neg this, if_neg this]
        · show [(1000 + j, (if j = j then q else adr j), (if j = j then L else Ls j), mem)] = _
          rw [if_pos rfl, if_pos rfl]
      rw [ea] at hW2
      rw [eb]
      exact hW2
    · have := kk H3 locs3 ls3 adr3 Ls3 hl3 hW3
      rw [e1, e2] at this
      have h1 : cells + 1 + mc + r * (1 + mc) = cells + (r * (1 + mc) + (1 + mc)) := by omega
      have h2 : slots + N + ms + r * (N + ms) = slots + (r * (N + ms) + (N + ms)) := by omega
      rw [h1, h2]
      exact this
end Ctor5
