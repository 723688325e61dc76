section Ctor2
variable {p : Program} {l : Launch} {e : Env} {R : Room} {s : State} {m : MethodId} {args : Array Value} {below : List Frame} {meth : Method} {c : Code} {H : Heap} {locs : List Loc} {cells slots : Nat} {Q : State → Prop}
variable {cc : ByteArray} {pc nL : Nat} {ls : Array Slot} {rest : List Value} {D : va_G} {A : Nat → Prop} {aC : Nat → ClassId} {own : String} {K : Nat → Option Nat} {pre : va_W} {chs : List (Nat × Nat × List Nat × mM)}
def zeroM : mM := (fun _ _ => 0, fun _ _ => 0, 0)
theorem B_newa {k tg kd N : Nat} {n : Int32} {atype : ArrayType} {ty : FieldType} {a0 : vp_A} (F : CX p s m args c D aC cc nL own A) (hW : WC D aC A K pre chs s H locs) (hk : K k = some tg) (hlf : ∀ j, chT tg j = none) (hty : newarray.typeOf atype = ty) (hAr : Cond.arrayClass (newarray.typeOf atype) ∈ lw_g) (hix : (tysOf aC)[kd - 1]? = some (aC kd, ty)) (ha : ∀ cA : ClassId, vp_cell cA a0 = arrV cA N (fun _ => defaultValue ty)) (hel : ∀ q, cEl aC (fun _ => q) tg [] zeroM = .inl (aC kd, a0))
    (hn : ¬ n < 0) (hN : n.toNatClampNeg = N) (hbytes : N * componentBytes ty ≤ 536870912) (hcells : cells + 1 ≤ R.cells) (hslots : slots + N ≤ R.slots) (hdg : decode cc pc = .ok (.newarray atype, 2))
    (kk : ∀ (q : Nat) (H1 : Heap), WC D aC A K pre (chs ++ [(k, q, [q], zeroM)]) s H1 locs → W p l e R s m args below meth c H1 locs (cells + 1) (slots + N) Q (F0 m (pc + 2) ls (.ref q :: rest))) : W p l e R s m args below meth c H locs cells slots Q (F0 m pc ls (.int n :: rest)) := by
  obtain ⟨hx, hb, hml, hown, hts, hK, hNW, hA⟩ := F
  obtain ⟨f, ⟨hP, hD, hS⟩, hC⟩ := hW
  refine va_newa hx hb (hts _ hAr) hty hK hP hD hS hA ha hn hN hbytes hcells hslots hdg (fun q cA H1 hK1 hP1 hD1 hS1 => ?_)
  have e1 := (hK1.2 6 (cA, ty) rfl).2
  have e2 := (hK.2 (kd - 1) _ hix).2
  have : cA = aC kd := cA_eq e1 e2
  subst this
  obtain ⟨hq, hW1⟩ := WS_push hP1 hD1 hS1
  refine kk q H1 ⟨_, by rw [chX_push]; exact hW1, CH_push hq hC hk (TR_leaf hlf ?_)⟩
  rw [if_pos rfl, hel]
theorem B_newp {tg kd N : Nat} {n : Int32} {atype : ArrayType} {ty : FieldType} {a0 : vp_A} (F : CX p s m args c D aC cc nL own A) (hW : WC D aC A K pre chs s H locs) (hty : newarray.typeOf atype = ty) (hAr : Cond.arrayClass (newarray.typeOf atype) ∈ lw_g) (hix : (tysOf aC)[kd - 1]? = some (aC kd, ty)) (ha : ∀ cA : ClassId, vp_cell cA a0 = arrV cA N (fun _ => defaultValue ty))
    (hn : ¬ n < 0) (hN : n.toNatClampNeg = N) (hbytes : N * componentBytes ty ≤ 536870912) (hcells : cells + 1 ≤ R.cells) (hslots : slots + N ≤ R.slots) (hdg : decode cc pc = .ok (.newarray atype, 2))
    (kk : ∀ (q : Nat) (H1 : Heap), WC D aC A K (pre ++ [(q, .inl (aC kd, a0))]) chs s H1 locs → W p l e R s m args below meth c H1 locs (cells + 1) (slots + N) Q (F0 m (pc + 2) ls (.ref q :: rest))) : W p l e R s m args below meth c H locs cells slots Q (F0 m pc ls (.int n :: rest)) := by
  obtain ⟨hx, hb, hml, hown, hts, hK, hNW, hA⟩ := F
  obtain ⟨f, ⟨hP, hD, hS⟩, hC⟩ := hW
  refine va_newa hx hb (hts _ hAr) hty hK hP hD hS hA ha hn hN hbytes hcells hslots hdg (fun q cA H1 hK1 hP1 hD1 hS1 => ?_)
  have e1 := (hK1.2 6 (cA, ty) rfl).2
  have e2 := (hK.2 (kd - 1) _ hix).2
  have : cA = aC kd := cA_eq e1 e2
  subst this
  have hp : ((pre ++ va_pl (chX chs) f) ++ [(q, Sum.inl (aC kd, a0))]).Perm ((pre ++ [(q, Sum.inl (aC kd, a0))]) ++ va_pl (chX chs) f) := by
    rw [List.append_assoc, List.append_assoc]
    exact List.Perm.append_left _ List.perm_append_comm
  refine kk q H1 ⟨f, ⟨P_mem hP1 (fun x hx => hp.mem_iff.mpr hx), ?_, hS1⟩, hC⟩
  have h1 := D_iff.mp hD1
  exact D_iff.mpr ⟨(hp.map _).nodup_iff.mp h1.1, fun x hx => h1.2 x (hp.mem_iff.mpr hx)⟩
theorem B_newq {kd N idx : Nat} {n : Int32} {C : String} (F : CX p s m args c D aC cc nL own A) (hW : WC D aC A K pre chs s H locs) (hcl : Cond.classLink own idx C ∈ lw_g) (hov2 : C = "TentPlain$Body" ∨ C = "TentPlain$Shelf") (hix : (tysOf aC)[kd - 1]? = some (aC kd, .object C))
    (hn : ¬ n < 0) (hN : n.toNatClampNeg = N) (hbytes : N * 4 ≤ 536870912) (hcells : cells + 1 ≤ R.cells) (hslots : slots + N ≤ R.slots) (hdg : decode cc pc = .ok (.anewarray idx, 3))
    (kk : ∀ (q : Nat) (H1 : Heap), WC D aC A K (pre ++ [(q, .inl (aC kd, N, .inr (.inr (.inr (.inr (fun _ => none))))))]) chs s H1 locs → W p l e R s m args below meth c H1 locs (cells + 1) (slots + N) Q (F0 m (pc + 3) ls (.ref q :: rest))) : W p l e R s m args below meth c H locs cells slots Q (F0 m pc ls (.int n :: rest)) := by
  obtain ⟨hx, hb, hml, hown, hts, hK, hNW, hA⟩ := F
  obtain ⟨f, ⟨hP, hD, hS⟩, hC⟩ := hW
  refine va_newq hx hb hown (hts _ hcl) (by rcases hov2 with rfl | rfl; exact hNW.2.1; exact hNW.2.2) hK hP hD hS hA hn hN hbytes hcells hslots hdg (fun q cA H1 hK1 hP1 hD1 hS1 => ?_)
  have e1 := (hK1.2 6 (cA, .object C) rfl).2
  have e2 := (hK.2 (kd - 1) _ hix).2
  have : cA = aC kd := cA_eq e1 e2
  subst this
  have hp : ((pre ++ va_pl (chX chs) f) ++ [(q, Sum.inl (aC kd, N, Sum.inr (Sum.inr (Sum.inr (Sum.inr (fun _ => none)))))) ]).Perm ((pre ++ [(q, Sum.inl (aC kd, N, Sum.inr (Sum.inr (Sum.inr (Sum.inr (fun _ => none))))))]) ++ va_pl (chX chs) f) := by
    rw [List.append_assoc, List.append_assoc]
    exact List.Perm.append_left _ List.perm_append_comm
  refine kk q H1 ⟨f, ⟨P_mem hP1 (fun x hx => hp.mem_iff.mpr hx), ?_, hS1⟩, hC⟩
  have h1 := D_iff.mp hD1
  exact D_iff.mpr ⟨(hp.map _).nodup_iff.mp h1.1, fun x hx => h1.2 x (hp.mem_iff.mpr hx)⟩
theorem B_put {h0 ci N k idx : Nat} {C : String} {T : u_T} {fs : List Value} {v : Value} {ty : FieldType} {pr : va_W} (ty0 : Nat → FieldType) (F : CX p s m args c D aC cc nL own A) (hW : WC D aC A K ((h0, .inr (ci, fs)) :: pr) chs s H locs) (hcl : vwCl[ci]? = some (C, T, N)) (hin : ∀ w ∈ u_ws C T N, w ∈ lw_g) (hty : ∀ k, k < N → parseFieldDescriptor (T k).2.2.1 = some (ty0 k)) (hnm : ∀ a, a < N → ∀ b, b < N → a ≠ b → (T a).2.1 ≠ (T b).2.1) (hk : k < N) (hO : (T k).1 = C) (hoc : own = C)
    (hlink : Cond.fieldLink own idx C (T k).2.1 (T k).2.2.1 ∈ lw_g) (hmi : meth.name = "<init>") (hd : parseFieldDescriptor (T k).2.2.1 = some ty) (hnr : narrow ty v = v) (hfit : fits ty v = true) (hl : k < fs.length) (hdg : decode cc pc = .ok (.putfield idx, 3)) (hlocs : A h0)
    (kk : ∀ (H1 : Heap) (locs1 : List Loc), WC D aC A K ((h0, .inr (ci, fs.set k v)) :: pr) chs s H1 locs1 → W p l e R s m args below meth c H1 locs1 cells slots Q (F0 m (pc + 3) ls rest)) : W p l e R s m args below meth c H locs cells slots Q (F0 m pc ls (v :: .ref h0 :: rest)) := by
  obtain ⟨hx, hb, hml, hown, hts, hK, hNW, hA⟩ := F
  obtain ⟨f, ⟨hP, hD, hS⟩, hC⟩ := hW
  cases hfin : (T k).2.2.2 with
  | false => exact va_put hx hb hts hin ty0 hty hnm hown hK hP hD hS 0 rfl hcl k hk (hts _ hlink) (fun x h9 => by rw [hO] at h9; exact h9) hfin hd hnr hfit hl hdg (fun H1 locs1 hP1 hD1 hS1 => kk H1 locs1 ⟨f, ⟨hP1, hD1, hS1⟩, hC⟩)
  | true => exact va_putF hx hb hts hin ty0 hty hnm hown hK hP hD hS 0 rfl hcl k hk (hts _ hlink) (fun x h9 => by rw [hO] at h9; exact h9) hfin hmi (by rw [hO, hoc]) hd hnr hfit hl hdg (fun H1 locs1 hP1 hD1 hS1 => kk H1 locs1 ⟨f, ⟨hP1, hD1, hS1⟩, hC⟩)
end Ctor2
