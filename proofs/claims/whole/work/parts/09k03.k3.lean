section Ctor1
variable {p : Program} {l : Launch} {e : Env} {R : Room} {s : State} {m : MethodId} {args : Array Value} {below : List Frame} {meth : Method} {c : Code} {H : Heap} {locs : List Loc} {cells slots : Nat} {Q : State → Prop}
variable {cc : ByteArray} {pc : Nat} {ls : Array Slot} {rest : List Value} {D : va_G} {A : Nat → Prop} {aC : Nat → ClassId} {own : String}
def NWs : List Cond := [.methodLinkNest RX3 33 yX9_init "TentPlain", .methodLinkNest RX3 70 yX0_init "TentPlain", .methodLinkNest RX0 11 yX7_init "TentPlain", .methodLinkNest RX10 28 yX6_init "TentPlain", .methodLinkNest RX10 35 yX1_init "TentPlain", .methodLinkNest RX10 48 yX8_init "TentPlain", .methodLinkNest RX10 55 yX4_init "TentPlain", .methodLinkNest RX10 60 yX5_init "TentPlain", .methodLinkNest RX5 17 yX0_init "TentPlain"]
def NW (U : State) : Prop := (∀ w ∈ NWs, va_Nw w U) ∧ va_AO "TentPlain$Body" U ∧ va_AO "TentPlain$Shelf" U
theorem NW.warm {u U : State} (hW : u.WarmedH U.vm) (h : NW u) : NW U := by
  obtain ⟨h1, h2, h3⟩ := h
  refine ⟨fun w hw => ?_, h2.moved hW.alike, h3.moved hW.alike⟩
  have := h1 w hw
  unfold NWs at hw
  simp only [List.mem_cons, List.not_mem_nil, or_false] at hw
  rcases hw with rfl | rfl | rfl | rfl | rfl | rfl | rfl | rfl | rfl <;> exact va_Nw.warmM hW this
theorem NW.same {u U : State} (hvm : u.vm = U.vm) (h : NW u) : NW U := by
  obtain ⟨h1, h2, h3⟩ := h
  refine ⟨fun w hw => ?_, h2.moved (by rw [hvm]; exact Vm.Alike.refl _), h3.moved (by rw [hvm]; exact Vm.Alike.refl _)⟩
  have := h1 w hw
  unfold NWs at hw
  simp only [List.mem_cons, List.not_mem_nil, or_false] at hw
  rcases hw with rfl | rfl | rfl | rfl | rfl | rfl | rfl | rfl | rfl <;> exact va_Nw.same rfl hvm this
def CX (p : Program) (s : State) (m : MethodId) (args : Array Value) (c : Code) (D : va_G) (aC : Nat → ClassId) (cc : ByteArray) (nL : Nat) (own : String) (A : Nat → Prop) : Prop :=
  p.tables.exec = Jvm.exec ∧ c.code = cc ∧ c.maxLocals = nL ∧ s.vm.findClass own = some m.cls ∧ (∀ w ∈ lw_g, w.before args s = true) ∧ va_K D vwCl (tysOf aC) s ∧ NW s ∧ ∀ q : Nat, s.heap.size ≤ q → A q
def WS (D : va_G) (A : Nat → Prop) (pre : va_W) (X : List Nat) (f : Nat → va_E) (s : State) (H : Heap) (locs : List Loc) : Prop :=
  va_P D vwCl (pre ++ va_pl X f) H ∧ va_D A (pre ++ va_pl X f) ∧ va_S A s.heap H locs
def CH (aC : Nat → ClassId) (K : Nat → Option Nat) (chs : List (Nat × Nat × List Nat × mM)) (f : Nat → va_E) : Prop := ∀ e ∈ chs, ∃ t, K e.1 = some t ∧ TR aC t e.2.1 e.2.2.1 f e.2.2.2
def chX (chs : List (Nat × Nat × List Nat × mM)) : List Nat := chs.flatMap (fun e => e.2.2.1)
def WC (D : va_G) (aC : Nat → ClassId) (A : Nat → Prop) (K : Nat → Option Nat) (pre : va_W) (chs : List (Nat × Nat × List Nat × mM)) (s : State) (H : Heap) (locs : List Loc) : Prop :=
  ∃ f, WS D A pre (chX chs) f s H locs ∧ CH aC K chs f
theorem cA_eq {U : State} {cA cB : ClassId} {ty : FieldType} (h : va_RA U cA ty) (h' : va_RA U cB ty) : cA = cB := by
  cases ty with
  | object C =>
    obtain ⟨_, _, _, _, _, h4⟩ := h
    obtain ⟨_, _, _, _, _, h4'⟩ := h'
    rw [h4] at h4'
    exact Option.some.inj h4'
  | _ =>
    have h : U.vm.findClass _ = some cA := h
    have h' : U.vm.findClass _ = some cB := h'
    rw [h] at h'
    exact Option.some.inj h'
theorem pl_app {X Y : List Nat} {f : Nat → va_E} : va_pl (X ++ Y) f = va_pl X f ++ va_pl Y f := List.map_append
theorem pl_congr {X : List Nat} {f g : Nat → va_E} (h : ∀ a, a ∈ X → f a = g a) : va_pl X f = va_pl X g := List.map_congr_left (fun a ha => by rw [h a ha])
theorem pl_mem {X : List Nat} {f : Nat → va_E} {a : Nat} (h : a ∈ X) : (a, f a) ∈ va_pl X f := List.mem_map.mpr ⟨a, h, rfl⟩
theorem P_lt {ws : va_W} (hP : va_P D vwCl ws H) {q : Nat × va_E} (h : q ∈ ws) : q.1 < H.size := by
  obtain ⟨k, hk⟩ := List.getElem?_of_mem h
  exact (hP k q hk).lt
theorem P_mem {ws ws' : va_W} (hP : va_P D vwCl ws H) (h : ∀ q, q ∈ ws' → q ∈ ws) : va_P D vwCl ws' H := fun k q hk => by
  obtain ⟨j, hj⟩ := List.getElem?_of_mem (h q (List.mem_of_getElem? hk))
  exact hP j q hj
theorem D_iff {ws : va_W} : va_D A ws ↔ (ws.map (fun q => q.1)).Nodup ∧ ∀ q ∈ ws, A q.1 := by
  constructor
  · intro h
    refine ⟨List.pairwise_iff_getElem.mpr (fun i j hi hj hij heq => ?_), fun q hq => ?_⟩
    · rw [List.length_map] at hi hj
      have e1 : ws[i]? = some ws[i] := List.getElem?_eq_getElem hi
      have e2 : ws[j]? = some ws[j] := List.getElem?_eq_getElem hj
      rw [List.getElem_map, List.getElem_map] at heq
      have := h.1 i j _ _ e1 e2 heq
      omega
    · obtain ⟨k, hk⟩ := List.getElem?_of_mem hq
      exact h.2 k q hk
  · intro h
    refine ⟨fun i j p q hi hj hpq => ?_, fun k q hk => h.2 q (List.mem_of_getElem? hk)⟩
    obtain ⟨hi', e1⟩ := List.getElem?_eq_some_iff.mp hi
    obtain ⟨hj', e2⟩ := List.getElem?_eq_some_iff.mp hj
    have hn := List.pairwise_iff_getElem.mp h.1
    rcases Nat.lt_trichotomy i j with q1 | q1 | q1
    · exact absurd (by rw [List.getElem_map, List.getElem_map, e1, e2, hpq]) (hn i j (by rw [List.length_map]; exact hi') (by rw [List.length_map]; exact hj') q1)
    · exact q1
    · exact absurd (by rw [List.getElem_map, List.getElem_map, e1, e2, hpq]) (hn j i (by rw [List.length_map]; exact hj') (by rw [List.length_map]; exact hi') q1)
theorem map_pl {X : List Nat} {f : Nat → va_E} : (va_pl X f).map (fun q => q.1) = X := by
  unfold va_pl
  rw [List.map_map]
  exact List.map_id X
theorem WS_push {pre : va_W} {X : List Nat} {f : Nat → va_E} {q : Nat} {en : va_E} (hP : va_P D vwCl ((pre ++ va_pl X f) ++ [(q, en)]) H) (hD : va_D A ((pre ++ va_pl X f) ++ [(q, en)])) (hS : va_S A s.heap H locs) :
    q ∉ X ∧ WS D A pre (X ++ [q]) (fun a => if a = q then en else f a) s H locs := by
  have hq : q ∉ X := fun hx => by
    have h1 := (D_iff.mp hD).1
    rw [List.map_append, List.map_append, map_pl] at h1
    have := (List.nodup_append.mp h1).2.2 q (List.mem_append_right _ hx) q (List.mem_singleton.mpr rfl)
    exact this rfl
  have e : (pre ++ va_pl X f) ++ [(q, en)] = pre ++ va_pl (X ++ [q]) (fun a => if a = q then en else f a) := by
    rw [pl_app, List.append_assoc]
    congr 1
    congr 1
    · exact pl_congr (fun a ha => by
        have : a ≠ q := fun e => hq (e ▸ ha)
        rw [if_neg this])
    · show [(q, en)] = [(q, if q = q then en else f q)]
      rw [if_pos rfl]
  rw [e] at hP hD
  exact ⟨hq, hP, hD, hS⟩
theorem CH_push {K : Nat → Option Nat} {k q t : Nat} {en : va_E} {mk : mM} {chs : List (Nat × Nat × List Nat × mM)} {f : Nat → va_E} (hq : q ∉ chX chs) (hC : CH aC K chs f) (hk : K k = some t) (ht : TR aC t q [q] (fun a => if a = q then en else f a) mk) :
    CH aC K (chs ++ [(k, q, [q], mk)]) (fun a => if a = q then en else f a) := fun e he => by
  rcases List.mem_append.mp he with he | he
  · obtain ⟨t', h1, h2⟩ := hC e he
    refine ⟨t', h1, TR_congr (fun a ha => ?_) h2⟩
    have : a ≠ q := fun e2 => hq (e2 ▸ List.mem_flatMap.mpr ⟨e, he, ha⟩)
    rw [if_neg this]
  · rcases List.mem_singleton.mp he with rfl
    exact ⟨t, hk, ht⟩
theorem chX_push {k q : Nat} {L : List Nat} {mk : mM} {chs : List (Nat × Nat × List Nat × mM)} : chX (chs ++ [(k, q, L, mk)]) = chX chs ++ L := by
  unfold chX
  rw [List.flatMap_append]
  simp
end Ctor1
