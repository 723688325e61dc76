section Start2
theorem dlw_0 : decode code 0 = .ok (.new 8, 3) := by decide +kernel
theorem dlw_3 : decode code 3 = .ok (.dup, 1) := by decide +kernel
theorem dlw_4 : decode code 4 = .ok (.invokespecial 17, 3) := by decide +kernel
theorem dlw_7 : decode code 7 = .ok (.astore_n 1, 1) := by decide +kernel
theorem dlw_8 : decode code 8 = .ok (.new 18, 3) := by decide +kernel
theorem dlw_11 : decode code 11 = .ok (.dup, 1) := by decide +kernel
theorem dlw_12 : decode code 12 = .ok (.invokespecial 20, 3) := by decide +kernel
theorem dlw_15 : decode code 15 = .ok (.astore_n 2, 1) := by decide +kernel
theorem dlw_16 : decode code 16 = .ok (.iconst 1, 1) := by decide +kernel
theorem dlw_17 : decode code 17 = .ok (.newarray .long, 2) := by decide +kernel
theorem dlw_19 : decode code 19 = .ok (.astore_n 3, 1) := by decide +kernel
theorem dlw_20 : decode code 20 = .ok (.iconst 0, 1) := by decide +kernel
theorem dlw_21 : decode code 21 = .ok (.istore 4, 2) := by decide +kernel
set_option maxRecDepth 100000 in
theorem wL_113 : Cond.classLink "TentPlainLaw" 8 RX10 ∈ lw_g := (lwg_of (List.mem_of_getElem? (i := 114) (by decide +kernel)) (by decide +kernel))
set_option maxRecDepth 100000 in
theorem wL_114 : Cond.instantiable RX10 9 ∈ lw_g := (lwg_of (List.mem_of_getElem? (i := 115) (by decide +kernel)) (by decide +kernel))
set_option maxRecDepth 100000 in
theorem wL_88 : Cond.initialized RX10 ∈ lw_g := (lwg_of (List.mem_of_getElem? (i := 89) (by decide +kernel)) (by decide +kernel))
set_option maxRecDepth 100000 in
theorem wL_115 : Cond.methodLink "TentPlainLaw" 17 yX10_init ∈ lw_g := (lwg_of (List.mem_of_getElem? (i := 116) (by decide +kernel)) (by decide +kernel))
set_option maxRecDepth 100000 in
theorem wL_116 : Cond.instanceMethod yX10_init ∈ lw_g := (lwg_of (List.mem_of_getElem? (i := 117) (by decide +kernel)) (by decide +kernel))
set_option maxRecDepth 100000 in
theorem wL_117 : Cond.code yX10_init cX10_init 2 none ∈ lw_g := (lwg_of (List.mem_of_getElem? (i := 118) (by decide +kernel)) (by decide +kernel))
set_option maxRecDepth 100000 in
theorem wL_1390 : Cond.classLink "TentPlainLaw" 18 RX11 ∈ lw_g := (lwg_of (List.mem_of_getElem? (i := 1397) (by decide +kernel)) (by decide +kernel))
set_option maxRecDepth 100000 in
theorem wL_1391 : Cond.instantiable RX11 59 ∈ lw_g := (lwg_of (List.mem_of_getElem? (i := 1398) (by decide +kernel)) (by decide +kernel))
set_option maxRecDepth 100000 in
theorem wL_98 : Cond.initialized RX11 ∈ lw_g := (lwg_of (List.mem_of_getElem? (i := 99) (by decide +kernel)) (by decide +kernel))
set_option maxRecDepth 100000 in
theorem wL_1392 : Cond.methodLink "TentPlainLaw" 20 yX11_init ∈ lw_g := (lwg_of (List.mem_of_getElem? (i := 1399) (by decide +kernel)) (by decide +kernel))
set_option maxRecDepth 100000 in
theorem wL_1393 : Cond.instanceMethod yX11_init ∈ lw_g := (lwg_of (List.mem_of_getElem? (i := 1400) (by decide +kernel)) (by decide +kernel))
set_option maxRecDepth 100000 in
theorem wL_1394 : Cond.code yX11_init cX11_init 2 none ∈ lw_g := (lwg_of (List.mem_of_getElem? (i := 1401) (by decide +kernel)) (by decide +kernel))
set_option maxRecDepth 100000 in
theorem wL_1575 : Cond.arrayClass .long ∈ lw_g := (lwg_of (List.mem_of_getElem? (i := 460) (by decide +kernel)) (by decide +kernel))
/-- the ints of the law's three objects at the start -/
def mk0 (k : Nat) : mM := if k = 0 then im10 else if k = 1 then im11 else zeroM
def mem0 : mM := memN (fun _ => 0) mk0
def ls0 : List (Option mV) := [some (vr 7000000 [3]), some (vr 9 [0]), some (vr 10 [1]), some (vr 4000001 [2]), some (vi (oN 0)), none, none, none]
theorem rootT_3 {k t : Nat} (h : rootT k = some t) : (k = 0 ∧ t = 9) ∨ (k = 1 ∧ t = 10) ∨ (k = 2 ∧ t = 4000001) := by
  unfold rootT at h
  split at h
  · next q => exact Or.inl ⟨q, (Option.some.inj h).symm⟩
  · split at h
    · next q => exact Or.inr (Or.inl ⟨q, (Option.some.inj h).symm⟩)
    · split at h
      · next q => exact Or.inr (Or.inr ⟨q, (Option.some.inj h).symm⟩)
      · cases h
set_option maxRecDepth 100000 in
set_option maxHeartbeats 4000000 in
theorem start_tree {s : State} {D : va_G} {aC : Nat → ClassId} {q1 q2 q3 b q9 : Nat} {L1 L2 : List Nat} {H : Heap} {locs : List Loc} (hW : WC D aC (fun q : Nat => s.heap.size ≤ q) rootT [] [(0, q1, L1, im10), (1, q2, L2, im11), (2, q3, [q3], zeroM)] s H locs) :
    ∃ (ads : List Nat → Nat) (pth : Nat → List Nat) (LL : List Nat), EO ads pth LL ∧ LL.Nodup ∧ (∀ a ∈ LL, s.heap.size ≤ a) ∧ ads [0] = q1 ∧ ads [1] = q2 ∧ ads [2] = q3 ∧ ads [3] = b ∧ ads [4] = q9 ∧ va_P D vwCl (wd aC ads pth LL mem0) H ∧ va_S (fun q : Nat => s.heap.size ≤ q) s.heap H locs := by
  obtain ⟨f, ⟨hP, hD, hS⟩, hC⟩ := hW
  have hd := D_iff.mp hD
  have hnd : (chX [(0, q1, L1, im10), (1, q2, L2, im11), (2, q3, [q3], zeroM)]).Nodup := by
    have h := hd.1
    rw [List.nil_append, map_pl] at h
    exact h
  have hA : ∀ a ∈ chX [(0, q1, L1, im10), (1, q2, L2, im11), (2, q3, [q3], zeroM)], s.heap.size ≤ a := fun a ha => hd.2 (a, f a) (List.mem_append_right _ (pl_mem ha))
  obtain ⟨t1, x1, T1⟩ := hC (0, q1, L1, im10) (List.mem_of_getElem? (i := 0) rfl)
  obtain ⟨t2, x2, T2⟩ := hC (1, q2, L2, im11) (List.mem_of_getElem? (i := 1) rfl)
  obtain ⟨t3, x3, T3⟩ := hC (2, q3, [q3], zeroM) (List.mem_of_getElem? (i := 2) rfl)
  have hmem : ∀ k t, rootT k = some t → (k, (if k = 0 then q1 else if k = 1 then q2 else q3), (if k = 0 then L1 else if k = 1 then L2 else [q3]), mk0 k) ∈ ([(0, q1, L1, im10), (1, q2, L2, im11), (2, q3, [q3], zeroM)] : List (Nat × Nat × List Nat × mM)) := fun k t h => by
    rcases rootT_3 h with ⟨rfl, -⟩ | ⟨rfl, -⟩ | ⟨rfl, -⟩
    · exact List.mem_of_getElem? (i := 0) rfl
    · exact List.mem_of_getElem? (i := 1) rfl
    · exact List.mem_of_getElem? (i := 2) rfl
  obtain ⟨ads, pth, hE, h0, h3, h4, hwd⟩ := EO_of (aC := aC) (L := chX [(0, q1, L1, im10), (1, q2, L2, im11), (2, q3, [q3], zeroM)]) (f := f) (mem := mem0) (b0 := b) (q9 := q9) (fun k => if k = 0 then q1 else if k = 1 then q2 else q3) (fun k => if k = 0 then L1 else if k = 1 then L2 else [q3]) mk0
    (fun k t h => by
      rcases rootT_3 h with ⟨rfl, rfl⟩ | ⟨rfl, rfl⟩ | ⟨rfl, rfl⟩
      · have e : rootT 0 = some t1 := x1
        rw [h] at e
        cases e
        exact T1
      · have e : rootT 1 = some t2 := x2
        rw [h] at e
        cases e
        exact T2
      · have e : rootT 2 = some t3 := x3
        rw [h] at e
        cases e
        exact T3)
    (fun k k' t t' h h' hne a ha => chX_disj hnd _ (hmem k t h) _ (hmem k' t' h') hne a ha)
    (fun a => by
      rw [mem_chX]
      constructor
      · rintro ⟨e, he, ha⟩
        simp only [List.mem_cons, List.not_mem_nil, or_false] at he
        rcases he with rfl | rfl | rfl
        · exact ⟨0, 9, rfl, ha⟩
        · exact ⟨1, 10, rfl, ha⟩
        · exact ⟨2, 4000001, rfl, ha⟩
      · rintro ⟨k, t, h, ha⟩
        exact ⟨_, hmem k t h, ha⟩)
    (fun k t r h => ⟨memN_1, memN_2⟩)
  refine ⟨ads, pth, _, hE, hnd, hA, h0 0 9 rfl, h0 1 10 rfl, h0 2 4000001 rfl, h3, h4, ?_, hS⟩
  rw [hwd]
  rw [List.nil_append] at hP
  exact hP
set_option maxRecDepth 100000 in
set_option maxHeartbeats 4000000 in
theorem start_walk {p : Program} {e : Env} {s : State} {m : MethodId} {below : List Frame} {meth : Method} {c : Code} (l : Launch) {b L : Nat} {xs : Nat → Int32} {Q : State → Prop} (hx : p.tables.exec = Jvm.exec) (hb : c.code = code) (hml : c.maxLocals = 8) (hown : s.vm.findClass "TentPlainLaw" = some m.cls) (hts : ∀ w ∈ lw_tbl, w.before #[Value.ref b] s = true) (hX : va_X b L xs s s.heap) (hbl : b < s.heap.size) (hgv : (Jvm.Cond.and given_1 narrow_1).before #[Value.ref b] s = true)
    (kk : ∀ (D : va_G) (aC : Nat → ClassId) (ads : List Nat → Nat) (pth : Nat → List Nat) (LL : List Nat) (q9 : Nat) (rl : Array Slot) (H : Heap) (locs : List Loc), Fy p s m #[Value.ref b] c D aC ads pth LL L xs b q9 code 8 "TentPlainLaw" → (∀ a ∈ LL, s.heap.size ≤ a) → RelS D aC ads pth LL (AA LL s.heap.size) s 8 ls0 [] mem0 rl H locs → W p l e room_1 s m #[Value.ref b] below meth c H locs 661 255280 Q (F0 m 23 rl [])) :
    W p l e room_1 s m #[Value.ref b] below meth c s.heap [] 0 0 Q (entryFrame m ([Value.ref b] : List Value).toArray 8) := by
  obtain ⟨D, aC, hK⟩ := K_start hts
  have hNW := NW_start hts
  have hg : ∀ w ∈ lw_g, w.before #[Value.ref b] s = true := fun w hw => hts w (List.mem_filter.mp hw).1
  have hA0 : ∀ a : Nat, a < s.heap.size → ¬ (fun q : Nat => s.heap.size ≤ q) a := fun a h => Nat.not_le.mpr h
  obtain ⟨q9, hZ⟩ := ZS_start (A := (fun q : Nat => s.heap.size ≤ q)) hts hgv hA0
  have hXF := XF_start (A := (fun q : Nat => s.heap.size ≤ q)) hts hgv hA0
  have F : CX p s m #[Value.ref b] c D aC code 8 "TentPlainLaw" (fun q : Nat => s.heap.size ≤ q) := ⟨hx, hb, hml, hown, hg, hK, hNW, fun q h => h⟩
  have hW : WC D aC (fun q : Nat => s.heap.size ≤ q) rootT [] [] s s.heap [] := ⟨fun _ => .inr (0, []), ⟨fun k q h => (by cases h), D_iff.mpr ⟨List.nodup_nil, fun q hq => absurd hq List.not_mem_nil⟩, va_S.rf⟩, fun e he => absurd he List.not_mem_nil⟩
  have hl := lv_entry ([.ref b]) (n := 8) (Nat.le_of_ble_eq_true rfl)
  rw [lg_entry_eq]
  generalize (lg_sl ([.ref b]) ++ List.replicate (8 - (lg_sl ([.ref b])).length) Slot.unset).toArray = ls at hl ⊢
  have hl : lv_has ls 8 [(0, .ref b)] := hl
  refine B_objI (k := 0) (ci := 9) (N := 9) (mL := 2) (C := RX10) (T := TX10) (fs := [.null, .null, .null, .int 0, .null, .null, .null, .null, .null]) (mem := im10) (y := yX10_init) tyX10 F hl.1 hW rfl rfl uw_9 tyX10_ok (by decide +kernel) wL_113 wL_114 wL_88 (ct_10 l) wL_117 rfl rfl rfl wL_115 ⟨by decide, by decide, by decide +kernel⟩ rfl wL_116 ⟨(Nat.le_of_ble_eq_true rfl), (Nat.le_of_ble_eq_true rfl)⟩ (Nat.le_of_ble_eq_true rfl) (Nat.le_of_ble_eq_true rfl) (Nat.le_of_ble_eq_true rfl) dlw_0 dlw_3 dlw_4 (fun q1 L1 H locs hW => ?_)
  have hW : WC D aC (fun q : Nat => s.heap.size ≤ q) rootT [] [(0, q1, L1, im10)] s H locs := hW
  refine lv_astore_n (lv' := [(1, .ref q1), (0, .ref b)]) hx hb dlw_7 rfl hl (by decide) rfl (fun ls hl => ?_)
  refine B_objI (k := 1) (ci := 10) (N := 59) (mL := 2) (C := RX11) (T := TX11) (fs := [.int 0, .null, .null, .null, .int 0, .null, .null, .null, .null, .null, .null, .null, .null, .null, .null, .null, .null, .null, .null, .null, .null, .null, .null, .null, .null, .null, .int 0, .null, .int 0, .int 0, .int 0, .int 0, .int 0, .int 0, .int 0, .int 0, .int 0, .null, .int 0, .null, .int 0, .null, .null, .null, .int 0, .int 0, .null, .null, .null, .null, .null, .null, .null, .null, .null, .null, .null, .null, .null]) (mem := im11) (y := yX11_init) tyX11 F hl.1 hW rfl rfl uw_10 tyX11_ok (by decide +kernel) wL_1390 wL_1391 wL_98 (ct_11 l) wL_1394 rfl rfl rfl wL_1392 ⟨by decide, by decide, by decide +kernel⟩ rfl wL_1393 ⟨(Nat.le_of_ble_eq_true rfl), (Nat.le_of_ble_eq_true rfl)⟩ (Nat.le_of_ble_eq_true rfl) (Nat.le_of_ble_eq_true rfl) (Nat.le_of_ble_eq_true rfl) dlw_8 dlw_11 dlw_12 (fun q2 L2 H locs hW => ?_)
  have hW : WC D aC (fun q : Nat => s.heap.size ≤ q) rootT [] [(0, q1, L1, im10), (1, q2, L2, im11)] s H locs := hW
  refine lv_astore_n (lv' := [(2, .ref q2), (1, .ref q1), (0, .ref b)]) hx hb dlw_15 rfl hl (by decide) rfl (fun ls hl => ?_)
  refine lv_iconst (v := 1) hx hb dlw_16 (by decide) ?_
  refine B_newa (k := 2) (tg := 4000001) (kd := 4) (N := 1) (a0 := (1, .inr (.inl fun _ => 0))) (atype := .long) (ty := .long) F hW rfl (fun _ => rfl) rfl wL_1575 rfl (fun _ => rfl) (fun _ => rfl) (by decide) (by decide +kernel) (Nat.le_of_ble_eq_true rfl) (Nat.le_of_ble_eq_true rfl) (Nat.le_of_ble_eq_true rfl) dlw_17 (fun q3 H hW => ?_)
  have hW : WC D aC (fun q : Nat => s.heap.size ≤ q) rootT [] [(0, q1, L1, im10), (1, q2, L2, im11), (2, q3, [q3], zeroM)] s H locs := hW
  refine lv_astore_n (lv' := [(3, .ref q3), (2, .ref q2), (1, .ref q1), (0, .ref b)]) hx hb dlw_19 rfl hl (by decide) rfl (fun ls hl => ?_)
  refine lv_iconst (v := oN 0) hx hb dlw_20 (by decide) ?_
  refine lv_istore (lv' := [(4, .int (oN 0)), (3, .ref q3), (2, .ref q2), (1, .ref q1), (0, .ref b)]) hx hb dlw_21 hl (by decide) rfl (fun ls hl => ?_)
  obtain ⟨ads, pth, LL, hE, hnd, hLA, e0, e1, e2, e3, e4, hP, hS⟩ := start_tree (b := b) (q9 := q9) hW
  have hbn : b ∉ LL := fun h => absurd (hLA b h) (Nat.not_le.mpr hbl)
  have hAA : ∀ q, AA LL s.heap.size q → (fun q : Nat => s.heap.size ≤ q) q := fun q h => h.elim (hLA q) id
  refine kk D aC ads pth LL q9 ls H locs ⟨hx, hb, hml, hown, hg, hK, hE, hnd, ⟨hX, hbl, hbn, e3⟩, ⟨hZ.to (State.WarmedH.refl s) rfl (fun _ _ _ => rfl) hAA, e4⟩, hXF.narrow hAA⟩ hLA ⟨lv_less hl (fun q hq => ?_), rfl, fun i v hv => ?_, fun w hw => absurd hw List.not_mem_nil, hP, wd_D hnd, hS.1, fun q h1 h2 => hS.2.1 q h1 (fun z => h2 (Or.inr z)), fun q hq => Or.inr (hS.2.2 q hq)⟩
  · obtain ⟨i, u⟩ := q
    obtain ⟨w, hw, rfl⟩ := toLv_mem.mp hq
    match i, hw with
    | 0, hw => cases hw; show (0, Value.ref (ads [3])) ∈ _; rw [e3]; exact List.mem_of_getElem? (i := 4) rfl
    | 1, hw => cases hw; show (1, Value.ref (ads [0])) ∈ _; rw [e0]; exact List.mem_of_getElem? (i := 3) rfl
    | 2, hw => cases hw; show (2, Value.ref (ads [1])) ∈ _; rw [e1]; exact List.mem_of_getElem? (i := 2) rfl
    | 3, hw => cases hw; show (3, Value.ref (ads [2])) ∈ _; rw [e2]; exact List.mem_of_getElem? (i := 1) rfl
    | 4, hw => cases hw; exact List.mem_of_getElem? (i := 0) rfl
    | 5, hw => cases hw
    | 6, hw => cases hw
    | 7, hw => cases hw
    | i + 8, hw => cases hw
  · match i, hv with
    | 0, hv => cases hv; exact Or.inr (Or.inl ⟨rfl, rfl⟩)
    | 1, hv => cases hv; exact Or.inl rfl
    | 2, hv => cases hv; exact Or.inl rfl
    | 3, hv => cases hv; exact Or.inl rfl
    | 4, hv => cases hv; exact trivial
    | 5, hv => cases hv
    | 6, hv => cases hv
    | 7, hv => cases hv
    | i + 8, hv => cases hv
end Start2
