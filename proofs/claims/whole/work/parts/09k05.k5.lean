section Ctor3
variable {p : Program} {l : Launch} {e : Env} {R : Room} {s : State} {m : MethodId} {args : Array Value} {below : List Frame} {meth : Method} {c : Code} {H : Heap} {locs : List Loc} {cells slots : Nat} {Q : State → Prop}
variable {cc : ByteArray} {pc nL : Nat} {ls : Array Slot} {rest : List Value} {D : va_G} {A : Nat → Prop} {aC : Nat → ClassId} {own : String} {K : Nat → Option Nat} {pre : va_W} {chs : List (Nat × Nat × List Nat × mM)}
def AC (h0 sz : Nat) : Nat → Prop := fun q => q = h0 ∨ sz ≤ q
def PcC (D : va_G) (aC : Nat → ClassId) (ci : Nat) (fs : List Value) (h0 sz : Nat) : Array Value → State → Prop :=
  va_Pc [.ref h0] (fun U => U.heap.size = sz ∧ va_P D vwCl [(h0, .inr (ci, fs))] U.heap ∧ va_K D vwCl (tysOf aC) U ∧ NW U)
def BcC (D : va_G) (aC : Nat → ClassId) (ci : Nat) (mem : mM) (h0 sz : Nat) (t : State) : Prop := ∃ (L : List Nat) (f : Nat → va_E), va_P D vwCl (va_pl L f) t.heap ∧ L.Nodup ∧ (∀ a ∈ L, AC h0 sz a) ∧ TR aC ci h0 L f mem
def QcC (D : va_G) (aC : Nat → ClassId) (ci : Nat) (mem : mM) (h0 sz : Nat) : Array Value → State → Outcome → State → Prop :=
  va_Qv (S := Unit) (fun _ => True) (fun _ t => BcC D aC ci mem h0 sz t) (AC h0 sz)
def MetC (l : Launch) (y : MethodName) (bytes : ByteArray) (maxL ci : Nat) (fs : List Value) (mem : mM) (rm : Room) (mc ms : Nat) : Prop :=
  ∀ (D : va_G) (aC : Nat → ClassId) (h0 sz : Nat), Met l y (.code y bytes maxL none :: lw_g) rm (PcC D aC ci fs h0 sz) (QcC D aC ci mem h0 sz) mc ms (AC h0 sz)
theorem PcC_blind {ci : Nat} {fs : List Value} {h0 sz : Nat} : FrameBlind (PcC D aC ci fs h0 sz) := by
  intro a U g mk h
  obtain ⟨h0, h1, h2, h3, h4⟩ := h
  exact ⟨h0, h1, h2, va_K.moved (u := U) (U := U.calling g mk a) (Vm.Alike.refl U.vm) h3, NW.same (u := U) (U := U.calling g mk a) rfl h4⟩
theorem B_call {ci q k : Nat} {fs : List Value} {mem : mM} {mc ms : Nat} {f : Nat → va_E} (hA : ∀ q : Nat, s.heap.size ≤ q → A q) (hW : WS D A pre (chX chs ++ [q]) (fun a => if a = q then .inr (ci, fs) else f a) s H locs) (hq : q ∉ chX chs) (hC : CH aC K chs f) (hk : K k = some ci)
    (hr : va_Run p l e R s m args below meth c H locs cells slots mc ms (F0 m pc ls (.ref q :: .ref q :: rest)) (.ref q :: rest) (QcC D aC ci mem q H.size #[.ref q]) (AC q H.size))
    (kk : ∀ (L : List Nat) (H1 : Heap) (locs1 : List Loc), WC D aC A K pre (chs ++ [(k, q, L, mem)]) s H1 locs1 → W p l e R s m args below meth c H1 locs1 (cells + mc) (slots + ms) Q (F0 m (pc + 3) ls (.ref q :: rest))) : W p l e R s m args below meth c H locs cells slots Q (F0 m pc ls (.ref q :: .ref q :: rest)) := by
  obtain ⟨hP, hD, hS⟩ := hW
  have hn := D_iff.mp hD
  have hqm : (q, (if q = q then Sum.inr (ci, fs) else f q)) ∈ pre ++ va_pl (chX chs ++ [q]) (fun a => if a = q then Sum.inr (ci, fs) else f a) := List.mem_append_right _ (pl_mem (f := fun a => if a = q then Sum.inr (ci, fs) else f a) (List.mem_append_right _ (List.mem_singleton.mpr rfl)))
  have hAq : A q := hn.2 _ hqm
  have hz0 : s.heap.size ≤ H.size := hS.1
  have hACA : ∀ a, AC q H.size a → A a := fun a ha => by
    rcases ha with rfl | ha
    · exact hAq
    · exact hA a (Nat.le_trans hz0 ha)
  refine va_callv hr hS (fun a _ h => hACA a h) hACA (fun u t H1 locs1 ht hvm _ hB hz hkp hS1 => ?_)
  obtain ⟨L, g, gP, gN, gA, gT⟩ := hB
  rw [ht] at gP
  have hsub : ∀ x, x ∈ pre ++ va_pl (chX chs) f → x ∈ pre ++ va_pl (chX chs ++ [q]) (fun a => if a = q then Sum.inr (ci, fs) else f a) := fun x hx => by
    rcases List.mem_append.mp hx with hx | hx
    · exact List.mem_append_left _ hx
    · refine List.mem_append_right _ ?_
      obtain ⟨a, ha, rfl⟩ := List.mem_map.mp hx
      have hne : a ≠ q := fun e => hq (e ▸ ha)
      exact List.mem_map.mpr ⟨a, List.mem_append_left _ ha, by dsimp only; rw [if_neg hne]⟩
  have hnn : ((pre ++ va_pl (chX chs) f).map (fun q => q.1) ++ [q]).Nodup := by
    have := hn.1
    rw [List.map_append, map_pl, ← List.append_assoc] at this
    rw [List.map_append, map_pl]
    exact this
  have hlt : ∀ x, x ∈ pre ++ va_pl (chX chs) f → x.1 < H.size ∧ x.1 ≠ q := fun x hx => ⟨P_lt hP (hsub x hx), fun e => (List.nodup_append.mp hnn).2.2 x.1 (List.mem_map.mpr ⟨x, hx, rfl⟩) q (List.mem_singleton.mpr rfl) e⟩
  have hP0 : va_P D vwCl (pre ++ va_pl (chX chs) f) H1 := (P_mem hP hsub).kept (fun j x hx => by
    obtain ⟨h1, h2⟩ := hlt x (List.mem_of_getElem? hx)
    exact hkp x.1 h1 (fun h => by
      rcases h with h | h
      · exact h2 h
      · omega))
  have hLX : ∀ a, a ∈ chX chs → a ∉ L := fun a ha hL => by
    obtain ⟨h1, h2⟩ := hlt (a, f a) (List.mem_append_right _ (pl_mem ha))
    rcases gA a hL with h | h
    · exact h2 h
    · exact absurd h (by omega)
  obtain ⟨f2, hf2⟩ : ∃ f2 : Nat → va_E, f2 = fun a => if a ∈ L then g a else f a := ⟨_, rfl⟩
  have f2L : ∀ a, a ∈ L → f2 a = g a := fun a ha => by rw [hf2]; exact if_pos ha
  have f2X : ∀ a, a ∈ chX chs → f2 a = f a := fun a ha => by rw [hf2]; exact if_neg (hLX a ha)
  have e : pre ++ va_pl (chX chs ++ L) f2 = (pre ++ va_pl (chX chs) f) ++ va_pl L g := by
    rw [pl_app, List.append_assoc, pl_congr f2X, pl_congr f2L]
  refine kk L H1 locs1 ⟨f2, ⟨?_, ?_, hS1⟩, ?_⟩
  · rw [chX_push, e]
    exact hP0.app gP
  · rw [chX_push, e]
    refine D_iff.mpr ⟨?_, fun x hx => ?_⟩
    · rw [List.map_append, map_pl]
      refine List.nodup_append.mpr ⟨(List.nodup_append.mp hnn).1, gN, fun a ha b hb hab => ?_⟩
      obtain ⟨x, hx, rfl⟩ := List.mem_map.mp ha
      obtain ⟨h1, h2⟩ := hlt x hx
      rcases gA b hb with h | h
      · exact h2 (hab.trans h)
      · omega
    · rcases List.mem_append.mp hx with hx | hx
      · exact hn.2 x (hsub x hx)
      · obtain ⟨a, ha, rfl⟩ := List.mem_map.mp hx
        exact hACA a (gA a ha)
  · intro x hx
    rcases List.mem_append.mp hx with hx | hx
    · obtain ⟨t', h1, h2⟩ := hC x hx
      exact ⟨t', h1, TR_congr (fun a ha => f2X a (List.mem_flatMap.mpr ⟨x, hx, ha⟩)) h2⟩
    · rcases List.mem_singleton.mp hx with rfl
      exact ⟨ci, hk, TR_congr f2L gT⟩
theorem B_objN {k ci N idx jdx mL mc ms : Nat} {C host : String} {T : u_T} {fs : List Value} {mem : mM} {y : MethodName} {bytes : ByteArray} {rm : Room} (ty0 : Nat → FieldType) (F : CX p s m args c D aC cc nL own A) (hls : ls.size = nL) (hW : WC D aC A K pre chs s H locs) (hk : K k = some ci) (hcl : vwCl[ci]? = some (C, T, N)) (hin : ∀ w ∈ u_ws C T N, w ∈ lw_g) (hty : ∀ k, k < N → parseFieldDescriptor (T k).2.2.1 = some (ty0 k)) (hfs : ∀ j, j < N → defaultValue (ty0 j) = vp_V fs j)
    (hclink : Cond.classLink own idx C ∈ lw_g) (hinst : Cond.instantiable C N ∈ lw_g) (hini : Cond.initialized C ∈ lw_g) (hM : MetC l y bytes mL ci fs mem rm mc ms) (hcode : Cond.code y bytes mL none ∈ lw_g) (hyC : y.cls = C) (hrc : rm.cells = mc) (hrs : rm.slots = ms) (hnest : Cond.methodLinkNest own jdx y host ∈ NWs)
    (hy : y.cls ≠ "java/lang/invoke/MethodHandle" ∧ y.cls ≠ "java/lang/invoke/VarHandle" ∧ (parseMethodDescriptor y.desc).map (fun d => d.parameters.length) = some 0) (hyi : y.name = "<init>") (hins : Cond.instanceMethod y ∈ lw_g) (hroom : rm.frames + 1 ≤ R.frames ∧ 8 + (mL + 11) + rm.locals ≤ R.locals) (hcat : ((Value.ref 0 :: rest).map fun v => v.category).sum ≤ 8)
    (hcells : cells + 1 + mc ≤ R.cells) (hslots : slots + N + ms ≤ R.slots) (d1 : decode cc pc = .ok (.new idx, 3)) (d2 : decode cc (pc + 3) = .ok (.dup, 1)) (d3 : decode cc (pc + 4) = .ok (.invokespecial jdx, 3))
    (kk : ∀ (q : Nat) (L : List Nat) (H1 : Heap) (locs1 : List Loc), WC D aC A K pre (chs ++ [(k, q, L, mem)]) s H1 locs1 → W p l e R s m args below meth c H1 locs1 (cells + 1 + mc) (slots + N + ms) Q (F0 m (pc + 7) ls (.ref q :: rest))) : W p l e R s m args below meth c H locs cells slots Q (F0 m pc ls rest) := by
  have F0' := F
  obtain ⟨hx, hb, hml, hown, hts, hK, hNW, hA⟩ := F
  obtain ⟨f, ⟨hP, hD, hS⟩, hC⟩ := hW
  refine va_new hx hb hts hin ty0 hty hown (hts _ hclink) (hts _ hinst) (hts _ hini) hK hP hD hS hA hcl hfs (by omega) (by omega) d1 (fun q H1 hP1 hD1 hS1 => ?_)
  obtain ⟨hq, hW1⟩ := WS_push hP1 hD1 hS1
  refine lv_dup hx hb d2 rfl ?_
  have hPc : va_P D vwCl [(q, .inr (ci, fs))] H1 := P_mem hP1 (fun x hx => List.mem_append_right _ hx)
  refine B_call hA hW1 hq hC hk (va_runIN (As := []) (rest := .ref q :: rest) ⟨hx, hb, hml, hown, hts⟩ (hM D aC q H1.size) ⟨va_cnB 0 hts (goodIn_g fun w hw => ?_) rfl hrc hrs (hNW.1 _ hnest) (by rw [hyC]; exact hts _ hini) hy hroom, hyi, hts _ hins⟩ ⟨PcC_blind, fun U hU hWm => ⟨rfl, by rw [hU], by rw [hU]; exact hPc, va_K.moved hWm.alike hK, hNW.warm hWm⟩⟩ rfl rfl hls rfl (lv_room hcat) d3 ⟨by omega, by omega⟩) (fun L H2 locs2 hW2 => ?_)
  · rcases List.mem_cons.mp hw with rfl | hw
    · exact hcode
    · exact hw
  · exact kk q L H2 locs2 hW2
theorem B_objI {k ci N idx jdx mL mc ms : Nat} {C : String} {T : u_T} {fs : List Value} {mem : mM} {y : MethodName} {bytes : ByteArray} {rm : Room} (ty0 : Nat → FieldType) (F : CX p s m args c D aC cc nL own A) (hls : ls.size = nL) (hW : WC D aC A K pre chs s H locs) (hk : K k = some ci) (hcl : vwCl[ci]? = some (C, T, N)) (hin : ∀ w ∈ u_ws C T N, w ∈ lw_g) (hty : ∀ k, k < N → parseFieldDescriptor (T k).2.2.1 = some (ty0 k)) (hfs : ∀ j, j < N → defaultValue (ty0 j) = vp_V fs j)
    (hclink : Cond.classLink own idx C ∈ lw_g) (hinst : Cond.instantiable C N ∈ lw_g) (hini : Cond.initialized C ∈ lw_g) (hM : MetC l y bytes mL ci fs mem rm mc ms) (hcode : Cond.code y bytes mL none ∈ lw_g) (hyC : y.cls = C) (hrc : rm.cells = mc) (hrs : rm.slots = ms) (hlnk : Cond.methodLink own jdx y ∈ lw_g)
    (hy : y.cls ≠ "java/lang/invoke/MethodHandle" ∧ y.cls ≠ "java/lang/invoke/VarHandle" ∧ (parseMethodDescriptor y.desc).map (fun d => d.parameters.length) = some 0) (hyi : y.name = "<init>") (hins : Cond.instanceMethod y ∈ lw_g) (hroom : rm.frames + 1 ≤ R.frames ∧ 8 + (mL + 11) + rm.locals ≤ R.locals) (hcat : ((Value.ref 0 :: rest).map fun v => v.category).sum ≤ 8)
    (hcells : cells + 1 + mc ≤ R.cells) (hslots : slots + N + ms ≤ R.slots) (d1 : decode cc pc = .ok (.new idx, 3)) (d2 : decode cc (pc + 3) = .ok (.dup, 1)) (d3 : decode cc (pc + 4) = .ok (.invokespecial jdx, 3))
    (kk : ∀ (q : Nat) (L : List Nat) (H1 : Heap) (locs1 : List Loc), WC D aC A K pre (chs ++ [(k, q, L, mem)]) s H1 locs1 → W p l e R s m args below meth c H1 locs1 (cells + 1 + mc) (slots + N + ms) Q (F0 m (pc + 7) ls (.ref q :: rest))) : W p l e R s m args below meth c H locs cells slots Q (F0 m pc ls rest) := by
  obtain ⟨hx, hb, hml, hown, hts, hK, hNW, hA⟩ := F
  obtain ⟨f, ⟨hP, hD, hS⟩, hC⟩ := hW
  refine va_new hx hb hts hin ty0 hty hown (hts _ hclink) (hts _ hinst) (hts _ hini) hK hP hD hS hA hcl hfs (by omega) (by omega) d1 (fun q H1 hP1 hD1 hS1 => ?_)
  obtain ⟨hq, hW1⟩ := WS_push hP1 hD1 hS1
  refine lv_dup hx hb d2 rfl ?_
  have hPc : va_P D vwCl [(q, .inr (ci, fs))] H1 := P_mem hP1 (fun x hx => List.mem_append_right _ hx)
  refine B_call hA hW1 hq hC hk (va_runI (As := []) (rest := .ref q :: rest) ⟨hx, hb, hml, hown, hts⟩ (hM D aC q H1.size) (cwI 0 hts (goodIn_g fun w hw => ?_) rfl hrc hrs (by rw [hyC]; exact hts _ hini) (hts _ hlnk) (hts _ hins) hyi hy hroom) ⟨PcC_blind, fun U hU hWm => ⟨rfl, by rw [hU], by rw [hU]; exact hPc, va_K.moved hWm.alike hK, hNW.warm hWm⟩⟩ rfl rfl hls rfl (lv_room hcat) d3 ⟨by omega, by omega⟩) (fun L H2 locs2 hW2 => ?_)
  · rcases List.mem_cons.mp hw with rfl | hw
    · exact hcode
    · exact hw
  · exact kk q L H2 locs2 hW2
end Ctor3
