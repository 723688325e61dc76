/-! THE SMALL MACHINE STANDS FOR THE REAL ONE: each instruction -/
def lw_g : List Cond := lw_tbl.filter goodWord
theorem lwg_of {w : Cond} (h : w ∈ lw_tbl) (hg : goodWord w = true) : w ∈ lw_g := List.mem_filter.mpr ⟨h, hg⟩
set_option maxRecDepth 100000 in
theorem uw_0 : ∀ w ∈ u_ws RX0 TX0 19, w ∈ lw_g := fun w h => lwg_of (mem_of_places (ps := [295, 297, 299, 301, 303, 305, 307, 309, 311, 313, 315, 317, 319, 321, 323, 325, 327, 329, 331]) (by decide +kernel) w h) (List.all_eq_true.mp (show (u_ws RX0 TX0 19).all goodWord = true by decide +kernel) w h)
set_option maxRecDepth 100000 in
theorem uw_1 : ∀ w ∈ u_ws RX1 TX1 2, w ∈ lw_g := fun w h => lwg_of (mem_of_places (ps := [455, 457]) (by decide +kernel) w h) (List.all_eq_true.mp (show (u_ws RX1 TX1 2).all goodWord = true by decide +kernel) w h)
set_option maxRecDepth 100000 in
theorem uw_2 : ∀ w ∈ u_ws RX3 TX3 16, w ∈ lw_g := fun w h => lwg_of (mem_of_places (ps := [380, 382, 384, 386, 388, 390, 392, 394, 396, 398, 400, 402, 404, 406, 408, 410]) (by decide +kernel) w h) (List.all_eq_true.mp (show (u_ws RX3 TX3 16).all goodWord = true by decide +kernel) w h)
set_option maxRecDepth 100000 in
theorem uw_3 : ∀ w ∈ u_ws RX4 TX4 4, w ∈ lw_g := fun w h => lwg_of (mem_of_places (ps := [515, 517, 519, 521]) (by decide +kernel) w h) (List.all_eq_true.mp (show (u_ws RX4 TX4 4).all goodWord = true by decide +kernel) w h)
set_option maxRecDepth 100000 in
theorem uw_4 : ∀ w ∈ u_ws RX5 TX5 5, w ∈ lw_g := fun w h => lwg_of (mem_of_places (ps := [541, 543, 545, 547, 549]) (by decide +kernel) w h) (List.all_eq_true.mp (show (u_ws RX5 TX5 5).all goodWord = true by decide +kernel) w h)
set_option maxRecDepth 100000 in
theorem uw_5 : ∀ w ∈ u_ws RX6 TX6 9, w ∈ lw_g := fun w h => lwg_of (mem_of_places (ps := [428, 430, 432, 434, 436, 438, 440, 442, 444]) (by decide +kernel) w h) (List.all_eq_true.mp (show (u_ws RX6 TX6 9).all goodWord = true by decide +kernel) w h)
set_option maxRecDepth 100000 in
theorem uw_6 : ∀ w ∈ u_ws RX7 TX7 3, w ∈ lw_g := fun w h => lwg_of (mem_of_places (ps := [219, 221, 223]) (by decide +kernel) w h) (List.all_eq_true.mp (show (u_ws RX7 TX7 3).all goodWord = true by decide +kernel) w h)
set_option maxRecDepth 100000 in
theorem uw_7 : ∀ w ∈ u_ws RX8 TX8 11, w ∈ lw_g := fun w h => lwg_of (mem_of_places (ps := [481, 483, 485, 487, 489, 491, 493, 495, 497, 499, 501]) (by decide +kernel) w h) (List.all_eq_true.mp (show (u_ws RX8 TX8 11).all goodWord = true by decide +kernel) w h)
set_option maxRecDepth 100000 in
theorem uw_8 : ∀ w ∈ u_ws RX9 TX9 13, w ∈ lw_g := fun w h => lwg_of (mem_of_places (ps := [170, 172, 174, 176, 178, 180, 182, 184, 186, 188, 190, 192, 194]) (by decide +kernel) w h) (List.all_eq_true.mp (show (u_ws RX9 TX9 13).all goodWord = true by decide +kernel) w h)
set_option maxRecDepth 100000 in
theorem uw_9 : ∀ w ∈ u_ws RX10 TX10 9, w ∈ lw_g := fun w h => lwg_of (mem_of_places (ps := [561, 563, 565, 567, 569, 571, 573, 575, 577]) (by decide +kernel) w h) (List.all_eq_true.mp (show (u_ws RX10 TX10 9).all goodWord = true by decide +kernel) w h)
set_option maxRecDepth 100000 in
theorem uw_10 : ∀ w ∈ u_ws RX11 TX11 59, w ∈ lw_g := fun w h => lwg_of (mem_of_places (ps := [1463, 1465, 1467, 1469, 1471, 1473, 1475, 1477, 1479, 1481, 1483, 1485, 1487, 1489, 1491, 1493, 1495, 1497, 1499, 1501, 1503, 1505, 1507, 1509, 1511, 1513, 1515, 1517, 1519, 1521, 1523, 1525, 1527, 1529, 1531, 1533, 1535, 1537, 1539, 1541, 1543, 1545, 1547, 1549, 1551, 1553, 1555, 1557, 1559, 1561, 1563, 1565, 1567, 1569, 1571, 1573, 1575, 1577, 1579]) (by decide +kernel) w h) (List.all_eq_true.mp (show (u_ws RX11 TX11 59).all goodWord = true by decide +kernel) w h)
theorem vw_all : ∀ ci, ci < 11 → ∃ (C : String) (T : u_T) (N : Nat) (ty : Nat → FieldType), vwCl[ci]? = some (C, T, N) ∧ N = (fKs.getD ci []).length ∧ (∀ w ∈ u_ws C T N, w ∈ lw_g) ∧ (∀ k, k < N → parseFieldDescriptor (T k).2.2.1 = some (ty k)) ∧ (∀ a, a < N → ∀ b, b < N → a ≠ b → (T a).2.1 ≠ (T b).2.1) ∧ (∀ k, k < N → (T k).1 = C) ∧ (∀ k, k < N → fKd ci k = some 0 → (T k).2.2.1 = "I" ∧ (T k).2.2.2 = false) ∧ (∀ k, k < N → fKd ci k = some 1 → (T k).2.2.1 = "Z" ∧ (T k).2.2.2 = false) := by
  intro ci h
  match ci, h with
  | 0, _ => exact ⟨RX0, TX0, 19, tyX0, rfl, by decide +kernel, uw_0, tyX0_ok, nmX0, by decide +kernel, by decide +kernel, by decide +kernel⟩
  | 1, _ => exact ⟨RX1, TX1, 2, tyX1, rfl, by decide +kernel, uw_1, tyX1_ok, nmX1, by decide +kernel, by decide +kernel, by decide +kernel⟩
  | 2, _ => exact ⟨RX3, TX3, 16, tyX3, rfl, by decide +kernel, uw_2, tyX3_ok, nmX3, by decide +kernel, by decide +kernel, by decide +kernel⟩
  | 3, _ => exact ⟨RX4, TX4, 4, tyX4, rfl, by decide +kernel, uw_3, tyX4_ok, nmX4, by decide +kernel, by decide +kernel, by decide +kernel⟩
  | 4, _ => exact ⟨RX5, TX5, 5, tyX5, rfl, by decide +kernel, uw_4, tyX5_ok, nmX5, by decide +kernel, by decide +kernel, by decide +kernel⟩
  | 5, _ => exact ⟨RX6, TX6, 9, tyX6, rfl, by decide +kernel, uw_5, tyX6_ok, nmX6, by decide +kernel, by decide +kernel, by decide +kernel⟩
  | 6, _ => exact ⟨RX7, TX7, 3, tyX7, rfl, by decide +kernel, uw_6, tyX7_ok, nmX7, by decide +kernel, by decide +kernel, by decide +kernel⟩
  | 7, _ => exact ⟨RX8, TX8, 11, tyX8, rfl, by decide +kernel, uw_7, tyX8_ok, nmX8, by decide +kernel, by decide +kernel, by decide +kernel⟩
  | 8, _ => exact ⟨RX9, TX9, 13, tyX9, rfl, by decide +kernel, uw_8, tyX9_ok, nmX9, by decide +kernel, by decide +kernel, by decide +kernel⟩
  | 9, _ => exact ⟨RX10, TX10, 9, tyX10, rfl, by decide +kernel, uw_9, tyX10_ok, nmX10, by decide +kernel, by decide +kernel, by decide +kernel⟩
  | 10, _ => exact ⟨RX11, TX11, 59, tyX11, rfl, by decide +kernel, uw_10, tyX11_ok, nmX11, by decide +kernel, by decide +kernel, by decide +kernel⟩
theorem fIn_all : ∀ (o : Nat), ∀ w ∈ (fRs.getD o []).map (fWd o), w ∈ lw_tbl := by
  intro o
  match o with
  | 0 => exact fIn_0
  | 1 => exact fIn_1
  | 2 => exact fIn_2
  | 3 => exact fIn_3
  | 4 => exact fIn_4
  | 5 => exact fIn_5
  | 6 => exact fIn_6
  | 7 => exact fIn_7
  | 8 => exact fIn_8
  | 9 => exact fIn_9
  | 10 => exact fIn_10
  | 11 => exact fIn_11
  | 12 => exact fIn_12
  | o + 13 => intro w h; rw [List.getD_eq_getElem?_getD, List.getElem?_eq_none (by show fRs.length ≤ _; have : fRs.length = 13 := (by decide); omega)] at h; cases h
theorem kIn_all : ∀ (o : Nat), ∀ w ∈ (kRs.getD o []).map (kWd o), w ∈ lw_tbl := by
  intro o
  match o with
  | 0 => exact kIn_0
  | 1 => exact kIn_1
  | 2 => exact kIn_2
  | 3 => exact kIn_3
  | 4 => exact kIn_4
  | 5 => exact kIn_5
  | 6 => exact kIn_6
  | 7 => exact kIn_7
  | 8 => exact kIn_8
  | 9 => exact kIn_9
  | 10 => exact kIn_10
  | 11 => exact kIn_11
  | 12 => exact kIn_12
  | o + 13 => intro w h; rw [List.getD_eq_getElem?_getD, List.getElem?_eq_none (by show kRs.length ≤ _; have : kRs.length = 13 := (by decide); omega)] at h; cases h
theorem lIn_all : ∀ (o : Nat), ∀ w ∈ (kLs.getD o []).map (lWd o), w ∈ lw_tbl := by
  intro o
  match o with
  | 0 => exact lIn_0
  | 1 => exact lIn_1
  | 2 => exact lIn_2
  | 3 => exact lIn_3
  | 4 => exact lIn_4
  | 5 => exact lIn_5
  | 6 => exact lIn_6
  | 7 => exact lIn_7
  | 8 => exact lIn_8
  | 9 => exact lIn_9
  | 10 => exact lIn_10
  | 11 => exact lIn_11
  | 12 => exact lIn_12
  | o + 13 => intro w h; rw [List.getD_eq_getElem?_getD, List.getElem?_eq_none (by show kLs.length ≤ _; have : kLs.length = 13 := (by decide); omega)] at h; cases h
theorem tgK_obj : ∀ ci, ci < 11 → tgK ci = 0 := by decide
theorem tgN_obj : ∀ ci, ci < 11 → tgN ci = ci := by decide
abbrev tysOf (aC : Nat → ClassId) : List (ClassId × FieldType) := [(aC 1, .int), (aC 2, .boolean), (aC 3, .byte), (aC 4, .long), (aC 5, .object "TentPlain$Body"), (aC 6, .object "TentPlain$Shelf")]
section Sim
variable {p : Program} {l : Launch} {e : Env} {R : Room} {s : State} {m : MethodId} {args : Array Value} {below : List Frame} {meth : Method} {c : Code} {Q : State → Prop}
variable {D : va_G} {aC : Nat → ClassId} {ads : List Nat → Nat} {pth : Nat → List Nat} {LL : List Nat} {A : Nat → Prop} {L : Nat} {xs : Nat → Int32} {b0 q9 mi : Nat} {cf sf : Nat → Nat}
/-- the letters of the FIELDS -/
def zTx : List Int32 := [109, 104, 100, 112, 113, 110, 115, 108, 117, 116, 119, 120]
/-- the string of the FIELDS is where it is and what it is -/
def ZS (q9 : Nat) (A : Nat → Prop) (s : State) (H : Heap) : Prop := vk_R RX6 77 "mhdpqnslutwx" q9 s ∧ (∃ adV : Nat → Nat, vk_S 1 [12] [zTx] (fun _ => q9) adV A s H) ∧ va_Z "java/lang/String" "COMPACT_STRINGS" "Z" (.int 1) A s H
theorem ZS.to {q9 : Nat} {A B : Nat → Prop} {s U : State} {H : Heap} (h : ZS q9 A s s.heap) (hW : s.WarmedH U.vm) (hU : U.heap = H) (hk : ∀ a : Nat, a < s.heap.size → ¬ A a → H[a]? = s.heap[a]?) (hAB : ∀ q, B q → A q) : ZS q9 B U U.heap := by
  subst hU
  obtain ⟨h1, ⟨adV, h2⟩, h3⟩ := h
  exact ⟨vk_R.warm hW h1, ⟨adV, ((h2.moved hW.alike).kept hk).narrow hAB⟩, ((h3.moved hW.alike).kept hk).narrow hAB⟩
def Fx (p : Program) (s : State) (m : MethodId) (args : Array Value) (c : Code) (D : va_G) (aC : Nat → ClassId) (ads : List Nat → Nat) (pth : Nat → List Nat) (LL : List Nat) (A : Nat → Prop) (L : Nat) (xs : Nat → Int32) (b0 q9 mi : Nat) : Prop :=
  p.tables.exec = Jvm.exec ∧ c.code = mBy.getD mi code ∧ c.maxLocals = kMl mi ∧ s.vm.findClass (cN (kOw mi)) = some m.cls ∧ (∀ w ∈ lw_g, w.before args s = true) ∧ va_K D vwCl (tysOf aC) s ∧ EO ads pth LL ∧
    (va_X b0 L xs s s.heap ∧ b0 < s.heap.size ∧ ¬ A b0 ∧ ads [3] = b0) ∧ (ZS q9 A s s.heap ∧ ads [4] = q9)
/-- the real frame holds what the small one says -/
def RelS (D : va_G) (aC : Nat → ClassId) (ads : List Nat → Nat) (pth : Nat → List Nat) (LL : List Nat) (A : Nat → Prop) (s : State) (nL : Nat) (ls : List (Option mV)) (st : List mV) (mem : mM) (rl : Array Slot) (H : Heap) (locs : List Loc) : Prop :=
  lv_has rl nL (toLv ads ls) ∧ ls.length = nL ∧ (∀ (i : Nat) (v : mV), ls[i]? = some (some v) → okV v) ∧ (∀ v ∈ st, okV v) ∧ va_P D vwCl (wd aC ads pth LL mem) H ∧ va_D A (wd aC ads pth LL mem) ∧ va_S A s.heap H locs
def WA (p : Program) (l : Launch) (e : Env) (R : Room) (s : State) (m : MethodId) (args : Array Value) (below : List Frame) (meth : Method) (c : Code) (Q : State → Prop) (D : va_G) (aC : Nat → ClassId) (ads : List Nat → Nat) (pth : Nat → List Nat) (LL : List Nat) (A : Nat → Prop) (mi : Nat) (cf sf : Nat → Nat) (sm : mS) : Prop :=
  ∀ rl H locs, RelS D aC ads pth LL A s (kMl mi) sm.2.1 sm.2.2.1 sm.2.2.2 rl H locs → W p l e R s m args below meth c H locs (cf sm.2.2.2.2.2) (sf sm.2.2.2.2.2) Q (F0 m sm.1 rl (sm.2.2.1.map (rV ads)))
variable {α : Type} {pc : Nat} {ls : List (Option mV)} {st : List mV} {mem : mM} {al : List (Bool × mS)} {k : mS → Option α} {r : α}
theorem okO {ci : Nat} {q : List Nat} (h : okV (vr ci q)) (hc : ci < 7000000) : tagOf q = some ci := by
  rcases h with h | ⟨h, -⟩ | ⟨h, -⟩
  · exact h
  · omega
  · omega
theorem fKd_lt {ci j t : Nat} (h : fKd ci j = some t) : ci < 11 ∧ j < (fKs.getD ci []).length := by
  have h2 := (List.getElem?_eq_some_iff.mp h).1
  refine ⟨?_, h2⟩
  rcases Nat.lt_or_ge ci 11 with q | q
  · exact q
  · rw [List.getD_eq_getElem?_getD, List.getElem?_eq_none (by have : fKs.length = 11 := (by decide); omega)] at h2
    cases h2
theorem cEl_obj {ci : Nat} {q : List Nat} {mem : mM} (h : ci < 11) : cEl aC ads ci q mem = .inr (ci, fLst ads ci q (mem.1 q)) := if_pos (tgK_obj ci h)

theorem si_iconst (F : Fx p s m args c D aC ads pth LL A L xs b0 q9 mi) {fa fb fc : Nat} {n : Int} (hd : decode (mBy.getD mi code) pc = .ok (.iconst n, 1)) (hr : rsB (kOw mi) (pc, .iconst n, 1, fa, fb, fc) = true) (h : isem L xs mi pc 1 (.iconst n) fa fb fc ls st mem = some (.inl al)) (hk : alt al k = some r) (ih : ∀ s', k s' = some r → WA p l e R s m args below meth c Q D aC ads pth LL A mi cf sf s') : WA p l e R s m args below meth c Q D aC ads pth LL A mi cf sf (pc, ls, st, mem) := by
  obtain ⟨hx, hb, hml, hown, hts, hK, hE, ⟨hX, hbl, hbA, hb3⟩, ⟨hZ, hq9⟩⟩ := F
  obtain ⟨hg, h⟩ := bif_inv h
  have hk := gO_inv h hk
  intro rl H locs ⟨hl, hn, okl, oks, hP, hD, hS⟩
  refine lv_iconst hx hb hd (cI_eq n) ?_
  exact ih _ hk rl H locs ⟨hl, hn, okl, List.forall_mem_cons.mpr ⟨Nat.le_of_ble_eq_true hg, oks⟩, hP, hD, hS⟩
theorem si_bipush (F : Fx p s m args c D aC ads pth LL A L xs b0 q9 mi) {fa fb fc : Nat} {n : Int} (hd : decode (mBy.getD mi code) pc = .ok (.bipush n, 2)) (hr : rsB (kOw mi) (pc, .bipush n, 2, fa, fb, fc) = true) (h : isem L xs mi pc 2 (.bipush n) fa fb fc ls st mem = some (.inl al)) (hk : alt al k = some r) (ih : ∀ s', k s' = some r → WA p l e R s m args below meth c Q D aC ads pth LL A mi cf sf s') : WA p l e R s m args below meth c Q D aC ads pth LL A mi cf sf (pc, ls, st, mem) := by
  obtain ⟨hx, hb, hml, hown, hts, hK, hE, ⟨hX, hbl, hbA, hb3⟩, ⟨hZ, hq9⟩⟩ := F
  obtain ⟨hg, h⟩ := bif_inv h
  have hk := gO_inv h hk
  intro rl H locs ⟨hl, hn, okl, oks, hP, hD, hS⟩
  refine lv_bipush hx hb hd (cI8 hg) ?_
  exact ih _ hk rl H locs ⟨hl, hn, okl, List.forall_mem_cons.mpr ⟨Nat.le_trans (Nat.le_of_ble_eq_true hg) (by decide), oks⟩, hP, hD, hS⟩
theorem si_sipush (F : Fx p s m args c D aC ads pth LL A L xs b0 q9 mi) {fa fb fc : Nat} {n : Int} (hd : decode (mBy.getD mi code) pc = .ok (.sipush n, 3)) (hr : rsB (kOw mi) (pc, .sipush n, 3, fa, fb, fc) = true) (h : isem L xs mi pc 3 (.sipush n) fa fb fc ls st mem = some (.inl al)) (hk : alt al k = some r) (ih : ∀ s', k s' = some r → WA p l e R s m args below meth c Q D aC ads pth LL A mi cf sf s') : WA p l e R s m args below meth c Q D aC ads pth LL A mi cf sf (pc, ls, st, mem) := by
  obtain ⟨hx, hb, hml, hown, hts, hK, hE, ⟨hX, hbl, hbA, hb3⟩, ⟨hZ, hq9⟩⟩ := F
  obtain ⟨hg, h⟩ := bif_inv h
  have hk := gO_inv h hk
  intro rl H locs ⟨hl, hn, okl, oks, hP, hD, hS⟩
  refine lv_sipush hx hb hd (cI16 hg) ?_
  exact ih _ hk rl H locs ⟨hl, hn, okl, List.forall_mem_cons.mpr ⟨Nat.le_of_ble_eq_true hg, oks⟩, hP, hD, hS⟩
theorem si_lconst (F : Fx p s m args c D aC ads pth LL A L xs b0 q9 mi) {fa fb fc : Nat} {n : Fin 2} (hd : decode (mBy.getD mi code) pc = .ok (.lconst n, 1)) (hr : rsB (kOw mi) (pc, .lconst n, 1, fa, fb, fc) = true) (h : isem L xs mi pc 1 (.lconst n) fa fb fc ls st mem = some (.inl al)) (hk : alt al k = some r) (ih : ∀ s', k s' = some r → WA p l e R s m args below meth c Q D aC ads pth LL A mi cf sf s') : WA p l e R s m args below meth c Q D aC ads pth LL A mi cf sf (pc, ls, st, mem) := by
  obtain ⟨hx, hb, hml, hown, hts, hK, hE, ⟨hX, hbl, hbA, hb3⟩, ⟨hZ, hq9⟩⟩ := F
  have hk := gO_inv h hk
  intro rl H locs ⟨hl, hn, okl, oks, hP, hD, hS⟩
  refine lv_lconst hx hb hd rfl ?_
  exact ih _ hk rl H locs ⟨hl, hn, okl, List.forall_mem_cons.mpr ⟨trivial, oks⟩, hP, hD, hS⟩
theorem si_null (F : Fx p s m args c D aC ads pth LL A L xs b0 q9 mi) {fa fb fc : Nat}  (hd : decode (mBy.getD mi code) pc = .ok (.aconst_null, 1)) (hr : rsB (kOw mi) (pc, .aconst_null, 1, fa, fb, fc) = true) (h : isem L xs mi pc 1 (.aconst_null) fa fb fc ls st mem = some (.inl al)) (hk : alt al k = some r) (ih : ∀ s', k s' = some r → WA p l e R s m args below meth c Q D aC ads pth LL A mi cf sf s') : WA p l e R s m args below meth c Q D aC ads pth LL A mi cf sf (pc, ls, st, mem) := by
  obtain ⟨hx, hb, hml, hown, hts, hK, hE, ⟨hX, hbl, hbA, hb3⟩, ⟨hZ, hq9⟩⟩ := F
  have hk := gO_inv h hk
  intro rl H locs ⟨hl, hn, okl, oks, hP, hD, hS⟩
  refine lv_null hx hb hd ?_
  exact ih _ hk rl H locs ⟨hl, hn, okl, List.forall_mem_cons.mpr ⟨trivial, oks⟩, hP, hD, hS⟩
theorem si_ldc (F : Fx p s m args c D aC ads pth LL A L xs b0 q9 mi) {fa fb fc : Nat} {j : Nat} (hd : decode (mBy.getD mi code) pc = .ok (.ldc j, 2)) (hr : rsB (kOw mi) (pc, .ldc j, 2, fa, fb, fc) = true) (h : isem L xs mi pc 2 (.ldc j) fa fb fc ls st mem = some (.inl al)) (hk : alt al k = some r) (ih : ∀ s', k s' = some r → WA p l e R s m args below meth c Q D aC ads pth LL A mi cf sf s') : WA p l e R s m args below meth c Q D aC ads pth LL A mi cf sf (pc, ls, st, mem) := by
  obtain ⟨hx, hb, hml, hown, hts, hK, hE, ⟨hX, hbl, hbA, hb3⟩, ⟨hZ, hq9⟩⟩ := F
  have h : (match fnd (kRs.getD (kOw mi) []) j with
      | some v => gO (pc + 2) ls (vi v :: st) mem
      | none => bif Nat.beq (kOw mi) 6 && Nat.beq j 77 then gO (pc + 2) ls (vr 8000000 [4] :: st) mem else none) = some (.inl al) := h
  cases hf : fnd (kRs.getD (kOw mi) []) j with
  | some v =>
    rw [hf] at h
    have hk := gO_inv h hk
    have hw : (Cond.constant (cN (kOw mi)) j v).before args s = true := hts _ (lwg_of (kIn_all _ _ (List.mem_map.mpr ⟨(j, v), fnd_spec hf, rfl⟩)) rfl)
    intro rl H locs ⟨hl, hn, okl, oks, hP, hD, hS⟩
    refine lv_ldc hx hb hown hw hd ?_
    exact ih _ hk rl H locs ⟨hl, hn, okl, List.forall_mem_cons.mpr ⟨trivial, oks⟩, hP, hD, hS⟩
  | none =>
    rw [hf] at h
    obtain ⟨hg, h⟩ := bif_inv h
    have hk := gO_inv h hk
    have hg2 : kOw mi = 6 ∧ j = 77 := by simpa using hg
    obtain ⟨e1, rfl⟩ := hg2
    rw [e1] at hown
    intro rl H locs ⟨hl, hn, okl, oks, hP, hD, hS⟩
    refine va_ldcS (own := RX6) (tx := "mhdpqnslutwx") (q := q9) hx hb hown hZ.1 hd ?_
    refine W.eq (g2 := F0 m (pc + 2) rl ((vr 8000000 [4] :: st).map (rV ads))) (by show F0 m (pc + 2) rl (.ref q9 :: _) = F0 m (pc + 2) rl (.ref (ads [4]) :: _); rw [hq9]) ?_
    exact ih _ hk rl H locs ⟨hl, hn, okl, List.forall_mem_cons.mpr ⟨Or.inr (Or.inr ⟨rfl, rfl⟩), oks⟩, hP, hD, hS⟩
theorem si_ldc_w (F : Fx p s m args c D aC ads pth LL A L xs b0 q9 mi) {fa fb fc : Nat} {j : Nat} (hd : decode (mBy.getD mi code) pc = .ok (.ldc_w j, 3)) (hr : rsB (kOw mi) (pc, .ldc_w j, 3, fa, fb, fc) = true) (h : isem L xs mi pc 3 (.ldc_w j) fa fb fc ls st mem = some (.inl al)) (hk : alt al k = some r) (ih : ∀ s', k s' = some r → WA p l e R s m args below meth c Q D aC ads pth LL A mi cf sf s') : WA p l e R s m args below meth c Q D aC ads pth LL A mi cf sf (pc, ls, st, mem) := by
  obtain ⟨hx, hb, hml, hown, hts, hK, hE, ⟨hX, hbl, hbA, hb3⟩, ⟨hZ, hq9⟩⟩ := F
  have h : (match fnd (kRs.getD (kOw mi) []) j with
      | some v => gO (pc + 3) ls (vi v :: st) mem
      | none => none) = some (.inl al) := h
  cases hf : fnd (kRs.getD (kOw mi) []) j with
  | some v =>
    rw [hf] at h
    have hk := gO_inv h hk
    have hw : (Cond.constant (cN (kOw mi)) j v).before args s = true := hts _ (lwg_of (kIn_all _ _ (List.mem_map.mpr ⟨(j, v), fnd_spec hf, rfl⟩)) rfl)
    intro rl H locs ⟨hl, hn, okl, oks, hP, hD, hS⟩
    refine lv_ldcw hx hb hown hw hd ?_
    exact ih _ hk rl H locs ⟨hl, hn, okl, List.forall_mem_cons.mpr ⟨trivial, oks⟩, hP, hD, hS⟩
  | none =>
    rw [hf] at h
    cases h
theorem si_ldc2_w (F : Fx p s m args c D aC ads pth LL A L xs b0 q9 mi) {fa fb fc : Nat} {j : Nat} (hd : decode (mBy.getD mi code) pc = .ok (.ldc2_w j, 3)) (hr : rsB (kOw mi) (pc, .ldc2_w j, 3, fa, fb, fc) = true) (h : isem L xs mi pc 3 (.ldc2_w j) fa fb fc ls st mem = some (.inl al)) (hk : alt al k = some r) (ih : ∀ s', k s' = some r → WA p l e R s m args below meth c Q D aC ads pth LL A mi cf sf s') : WA p l e R s m args below meth c Q D aC ads pth LL A mi cf sf (pc, ls, st, mem) := by
  obtain ⟨hx, hb, hml, hown, hts, hK, hE, ⟨hX, hbl, hbA, hb3⟩, ⟨hZ, hq9⟩⟩ := F
  have h : (match fnd (kLs.getD (kOw mi) []) j with
      | some v => gO (pc + 3) ls (vl v :: st) mem
      | none => none) = some (.inl al) := h
  cases hf : fnd (kLs.getD (kOw mi) []) j with
  | some v =>
    rw [hf] at h
    have hk := gO_inv h hk
    have hw : (Cond.constantLong (cN (kOw mi)) j v).before args s = true := hts _ (lwg_of (lIn_all _ _ (List.mem_map.mpr ⟨(j, v), fnd_spec hf, rfl⟩)) rfl)
    intro rl H locs ⟨hl, hn, okl, oks, hP, hD, hS⟩
    refine lv_ldc2 hx hb hown hw hd ?_
    exact ih _ hk rl H locs ⟨hl, hn, okl, List.forall_mem_cons.mpr ⟨trivial, oks⟩, hP, hD, hS⟩
  | none =>
    rw [hf] at h
    cases h
theorem si_iload_n (F : Fx p s m args c D aC ads pth LL A L xs b0 q9 mi) {fa fb fc : Nat} {j : Fin 4} (hd : decode (mBy.getD mi code) pc = .ok (.iload_n j, 1)) (hr : rsB (kOw mi) (pc, .iload_n j, 1, fa, fb, fc) = true) (h : isem L xs mi pc 1 (.iload_n j) fa fb fc ls st mem = some (.inl al)) (hk : alt al k = some r) (ih : ∀ s', k s' = some r → WA p l e R s m args below meth c Q D aC ads pth LL A mi cf sf s') : WA p l e R s m args below meth c Q D aC ads pth LL A mi cf sf (pc, ls, st, mem) := by
  obtain ⟨hx, hb, hml, hown, hts, hK, hE, ⟨hX, hbl, hbA, hb3⟩, ⟨hZ, hq9⟩⟩ := F
  unfold isem at h
  dsimp only at h
  obtain ⟨v, u, hv, hu, h⟩ := ldI_inv h
  have hk := gO_inv h hk
  intro rl H locs ⟨hl, hn, okl, oks, hP, hD, hS⟩
  have hrv := lv_of hl hv
  rw [hu ads] at hrv
  refine lv_iload_n hx hb hd rfl hrv ?_
  refine W.eq (g2 := F0 m (pc + 1) rl ((u :: st).map (rV ads))) (by rw [List.map_cons, hu ads]) ?_
  exact ih _ hk rl H locs ⟨hl, hn, okl, List.forall_mem_cons.mpr ⟨okl _ _ hv, oks⟩, hP, hD, hS⟩
theorem si_iload (F : Fx p s m args c D aC ads pth LL A L xs b0 q9 mi) {fa fb fc : Nat} {j : Nat} (hd : decode (mBy.getD mi code) pc = .ok (.iload j, 2)) (hr : rsB (kOw mi) (pc, .iload j, 2, fa, fb, fc) = true) (h : isem L xs mi pc 2 (.iload j) fa fb fc ls st mem = some (.inl al)) (hk : alt al k = some r) (ih : ∀ s', k s' = some r → WA p l e R s m args below meth c Q D aC ads pth LL A mi cf sf s') : WA p l e R s m args below meth c Q D aC ads pth LL A mi cf sf (pc, ls, st, mem) := by
  obtain ⟨hx, hb, hml, hown, hts, hK, hE, ⟨hX, hbl, hbA, hb3⟩, ⟨hZ, hq9⟩⟩ := F
  unfold isem at h
  dsimp only at h
  obtain ⟨v, u, hv, hu, h⟩ := ldI_inv h
  have hk := gO_inv h hk
  intro rl H locs ⟨hl, hn, okl, oks, hP, hD, hS⟩
  have hrv := lv_of hl hv
  rw [hu ads] at hrv
  refine lv_iload hx hb hd hrv ?_
  refine W.eq (g2 := F0 m (pc + 2) rl ((u :: st).map (rV ads))) (by rw [List.map_cons, hu ads]) ?_
  exact ih _ hk rl H locs ⟨hl, hn, okl, List.forall_mem_cons.mpr ⟨okl _ _ hv, oks⟩, hP, hD, hS⟩
theorem si_lload_n (F : Fx p s m args c D aC ads pth LL A L xs b0 q9 mi) {fa fb fc : Nat} {j : Fin 4} (hd : decode (mBy.getD mi code) pc = .ok (.lload_n j, 1)) (hr : rsB (kOw mi) (pc, .lload_n j, 1, fa, fb, fc) = true) (h : isem L xs mi pc 1 (.lload_n j) fa fb fc ls st mem = some (.inl al)) (hk : alt al k = some r) (ih : ∀ s', k s' = some r → WA p l e R s m args below meth c Q D aC ads pth LL A mi cf sf s') : WA p l e R s m args below meth c Q D aC ads pth LL A mi cf sf (pc, ls, st, mem) := by
  obtain ⟨hx, hb, hml, hown, hts, hK, hE, ⟨hX, hbl, hbA, hb3⟩, ⟨hZ, hq9⟩⟩ := F
  obtain ⟨v, hv, h⟩ := ldL_inv h
  have hk := gO_inv h hk
  intro rl H locs ⟨hl, hn, okl, oks, hP, hD, hS⟩
  refine lv_lload_n hx hb hd rfl (lv_of hl hv) ?_
  exact ih _ hk rl H locs ⟨hl, hn, okl, List.forall_mem_cons.mpr ⟨trivial, oks⟩, hP, hD, hS⟩
theorem si_lload (F : Fx p s m args c D aC ads pth LL A L xs b0 q9 mi) {fa fb fc : Nat} {j : Nat} (hd : decode (mBy.getD mi code) pc = .ok (.lload j, 2)) (hr : rsB (kOw mi) (pc, .lload j, 2, fa, fb, fc) = true) (h : isem L xs mi pc 2 (.lload j) fa fb fc ls st mem = some (.inl al)) (hk : alt al k = some r) (ih : ∀ s', k s' = some r → WA p l e R s m args below meth c Q D aC ads pth LL A mi cf sf s') : WA p l e R s m args below meth c Q D aC ads pth LL A mi cf sf (pc, ls, st, mem) := by
  obtain ⟨hx, hb, hml, hown, hts, hK, hE, ⟨hX, hbl, hbA, hb3⟩, ⟨hZ, hq9⟩⟩ := F
  obtain ⟨v, hv, h⟩ := ldL_inv h
  have hk := gO_inv h hk
  intro rl H locs ⟨hl, hn, okl, oks, hP, hD, hS⟩
  refine lv_lload hx hb hd (lv_of hl hv) ?_
  exact ih _ hk rl H locs ⟨hl, hn, okl, List.forall_mem_cons.mpr ⟨trivial, oks⟩, hP, hD, hS⟩
theorem si_aload_n (F : Fx p s m args c D aC ads pth LL A L xs b0 q9 mi) {fa fb fc : Nat} {j : Fin 4} (hd : decode (mBy.getD mi code) pc = .ok (.aload_n j, 1)) (hr : rsB (kOw mi) (pc, .aload_n j, 1, fa, fb, fc) = true) (h : isem L xs mi pc 1 (.aload_n j) fa fb fc ls st mem = some (.inl al)) (hk : alt al k = some r) (ih : ∀ s', k s' = some r → WA p l e R s m args below meth c Q D aC ads pth LL A mi cf sf s') : WA p l e R s m args below meth c Q D aC ads pth LL A mi cf sf (pc, ls, st, mem) := by
  obtain ⟨hx, hb, hml, hown, hts, hK, hE, ⟨hX, hbl, hbA, hb3⟩, ⟨hZ, hq9⟩⟩ := F
  obtain ⟨v, hv, h⟩ := ldR_inv h
  have hk := gO_inv h hk
  intro rl H locs ⟨hl, hn, okl, oks, hP, hD, hS⟩
  have ho := okl _ _ hv
  have hrv := lv_of hl hv
  rcases v with _ | ⟨t, q⟩
  · refine lv_aload_nN hx hb hd rfl hrv ?_
    exact ih _ hk rl H locs ⟨hl, hn, okl, List.forall_mem_cons.mpr ⟨trivial, oks⟩, hP, hD, hS⟩
  · refine lv_aload_n hx hb hd rfl hrv ?_
    exact ih _ hk rl H locs ⟨hl, hn, okl, List.forall_mem_cons.mpr ⟨ho, oks⟩, hP, hD, hS⟩
theorem si_aload (F : Fx p s m args c D aC ads pth LL A L xs b0 q9 mi) {fa fb fc : Nat} {j : Nat} (hd : decode (mBy.getD mi code) pc = .ok (.aload j, 2)) (hr : rsB (kOw mi) (pc, .aload j, 2, fa, fb, fc) = true) (h : isem L xs mi pc 2 (.aload j) fa fb fc ls st mem = some (.inl al)) (hk : alt al k = some r) (ih : ∀ s', k s' = some r → WA p l e R s m args below meth c Q D aC ads pth LL A mi cf sf s') : WA p l e R s m args below meth c Q D aC ads pth LL A mi cf sf (pc, ls, st, mem) := by
  obtain ⟨hx, hb, hml, hown, hts, hK, hE, ⟨hX, hbl, hbA, hb3⟩, ⟨hZ, hq9⟩⟩ := F
  obtain ⟨v, hv, h⟩ := ldR_inv h
  have hk := gO_inv h hk
  intro rl H locs ⟨hl, hn, okl, oks, hP, hD, hS⟩
  have ho := okl _ _ hv
  have hrv := lv_of hl hv
  rcases v with _ | ⟨t, q⟩
  · refine lv_aloadN hx hb hd hrv ?_
    exact ih _ hk rl H locs ⟨hl, hn, okl, List.forall_mem_cons.mpr ⟨trivial, oks⟩, hP, hD, hS⟩
  · refine lv_aload hx hb hd hrv ?_
    exact ih _ hk rl H locs ⟨hl, hn, okl, List.forall_mem_cons.mpr ⟨ho, oks⟩, hP, hD, hS⟩
theorem si_istore_n (F : Fx p s m args c D aC ads pth LL A L xs b0 q9 mi) {fa fb fc : Nat} {j : Fin 4} (hd : decode (mBy.getD mi code) pc = .ok (.istore_n j, 1)) (hr : rsB (kOw mi) (pc, .istore_n j, 1, fa, fb, fc) = true) (h : isem L xs mi pc 1 (.istore_n j) fa fb fc ls st mem = some (.inl al)) (hk : alt al k = some r) (ih : ∀ s', k s' = some r → WA p l e R s m args below meth c Q D aC ads pth LL A mi cf sf s') : WA p l e R s m args below meth c Q D aC ads pth LL A mi cf sf (pc, ls, st, mem) := by
  obtain ⟨hx, hb, hml, hown, hts, hK, hE, ⟨hX, hbl, hbA, hb3⟩, ⟨hZ, hq9⟩⟩ := F
  unfold isem at h
  dsimp only at h
  obtain ⟨v, u, st, rfl, hu, h⟩ := pV_inv h
  obtain ⟨hg, h⟩ := bif_inv h
  have hg : (j : Nat) < ls.length := Nat.blt_eq.mp hg
  have hk := gO_inv h hk
  intro rl H locs ⟨hl, hn, okl, oks, hP, hD, hS⟩
  obtain ⟨ho, oks2⟩ := List.forall_mem_cons.mp oks
  simp only [List.map_cons, hu ads]
  refine lv_istore_n (lv := toLv ads ls) hx hb hd rfl hl (by rw [← hn]; exact hg) rfl (fun rl' hl' => ?_)
  rw [← hu ads] at hl'
  exact ih _ hk rl' H locs ⟨lv_less hl' lSet_lv, by rw [← hn]; exact lSet_len, lSet_ok okl ho, oks2, hP, hD, hS⟩
theorem si_istore (F : Fx p s m args c D aC ads pth LL A L xs b0 q9 mi) {fa fb fc : Nat} {j : Nat} (hd : decode (mBy.getD mi code) pc = .ok (.istore j, 2)) (hr : rsB (kOw mi) (pc, .istore j, 2, fa, fb, fc) = true) (h : isem L xs mi pc 2 (.istore j) fa fb fc ls st mem = some (.inl al)) (hk : alt al k = some r) (ih : ∀ s', k s' = some r → WA p l e R s m args below meth c Q D aC ads pth LL A mi cf sf s') : WA p l e R s m args below meth c Q D aC ads pth LL A mi cf sf (pc, ls, st, mem) := by
  obtain ⟨hx, hb, hml, hown, hts, hK, hE, ⟨hX, hbl, hbA, hb3⟩, ⟨hZ, hq9⟩⟩ := F
  unfold isem at h
  dsimp only at h
  obtain ⟨v, u, st, rfl, hu, h⟩ := pV_inv h
  obtain ⟨hg, h⟩ := bif_inv h
  have hg : j < ls.length := Nat.blt_eq.mp hg
  have hk := gO_inv h hk
  intro rl H locs ⟨hl, hn, okl, oks, hP, hD, hS⟩
  obtain ⟨ho, oks2⟩ := List.forall_mem_cons.mp oks
  simp only [List.map_cons, hu ads]
  refine lv_istore (lv := toLv ads ls) hx hb hd hl (by rw [← hn]; exact hg) rfl (fun rl' hl' => ?_)
  rw [← hu ads] at hl'
  exact ih _ hk rl' H locs ⟨lv_less hl' lSet_lv, by rw [← hn]; exact lSet_len, lSet_ok okl ho, oks2, hP, hD, hS⟩
theorem si_lstore_n (F : Fx p s m args c D aC ads pth LL A L xs b0 q9 mi) {fa fb fc : Nat} {j : Fin 4} (hd : decode (mBy.getD mi code) pc = .ok (.lstore_n j, 1)) (hr : rsB (kOw mi) (pc, .lstore_n j, 1, fa, fb, fc) = true) (h : isem L xs mi pc 1 (.lstore_n j) fa fb fc ls st mem = some (.inl al)) (hk : alt al k = some r) (ih : ∀ s', k s' = some r → WA p l e R s m args below meth c Q D aC ads pth LL A mi cf sf s') : WA p l e R s m args below meth c Q D aC ads pth LL A mi cf sf (pc, ls, st, mem) := by
  obtain ⟨hx, hb, hml, hown, hts, hK, hE, ⟨hX, hbl, hbA, hb3⟩, ⟨hZ, hq9⟩⟩ := F
  obtain ⟨v, st, rfl, h⟩ := pL_inv h
  obtain ⟨hg, h⟩ := bif_inv h
  have hg : (j : Nat) + 1 < ls.length := Nat.blt_eq.mp hg
  have hk := gO_inv h hk
  intro rl H locs ⟨hl, hn, okl, oks, hP, hD, hS⟩
  obtain ⟨ho, oks2⟩ := List.forall_mem_cons.mp oks
  refine lv_lstore_n (lv := toLv ads ls) hx hb hd rfl hl (by rw [← hn]; exact hg) rfl (fun rl' hl' => ?_)
  exact ih _ hk rl' H locs ⟨lv_less hl' lSet2_lv, by rw [← hn]; exact (by simp [lSet2, lSet_len]), lSet2_ok okl ho, oks2, hP, hD, hS⟩
theorem si_lstore (F : Fx p s m args c D aC ads pth LL A L xs b0 q9 mi) {fa fb fc : Nat} {j : Nat} (hd : decode (mBy.getD mi code) pc = .ok (.lstore j, 2)) (hr : rsB (kOw mi) (pc, .lstore j, 2, fa, fb, fc) = true) (h : isem L xs mi pc 2 (.lstore j) fa fb fc ls st mem = some (.inl al)) (hk : alt al k = some r) (ih : ∀ s', k s' = some r → WA p l e R s m args below meth c Q D aC ads pth LL A mi cf sf s') : WA p l e R s m args below meth c Q D aC ads pth LL A mi cf sf (pc, ls, st, mem) := by
  obtain ⟨hx, hb, hml, hown, hts, hK, hE, ⟨hX, hbl, hbA, hb3⟩, ⟨hZ, hq9⟩⟩ := F
  obtain ⟨v, st, rfl, h⟩ := pL_inv h
  obtain ⟨hg, h⟩ := bif_inv h
  have hg : j + 1 < ls.length := Nat.blt_eq.mp hg
  have hk := gO_inv h hk
  intro rl H locs ⟨hl, hn, okl, oks, hP, hD, hS⟩
  obtain ⟨ho, oks2⟩ := List.forall_mem_cons.mp oks
  refine lv_lstore (lv := toLv ads ls) hx hb hd hl (by rw [← hn]; exact hg) rfl (fun rl' hl' => ?_)
  exact ih _ hk rl' H locs ⟨lv_less hl' lSet2_lv, by rw [← hn]; exact (by simp [lSet2, lSet_len]), lSet2_ok okl ho, oks2, hP, hD, hS⟩
theorem si_astore_n (F : Fx p s m args c D aC ads pth LL A L xs b0 q9 mi) {fa fb fc : Nat} {j : Fin 4} (hd : decode (mBy.getD mi code) pc = .ok (.astore_n j, 1)) (hr : rsB (kOw mi) (pc, .astore_n j, 1, fa, fb, fc) = true) (h : isem L xs mi pc 1 (.astore_n j) fa fb fc ls st mem = some (.inl al)) (hk : alt al k = some r) (ih : ∀ s', k s' = some r → WA p l e R s m args below meth c Q D aC ads pth LL A mi cf sf s') : WA p l e R s m args below meth c Q D aC ads pth LL A mi cf sf (pc, ls, st, mem) := by
  obtain ⟨hx, hb, hml, hown, hts, hK, hE, ⟨hX, hbl, hbA, hb3⟩, ⟨hZ, hq9⟩⟩ := F
  obtain ⟨v, st, rfl, h⟩ := pN_inv h
  obtain ⟨hg, h⟩ := bif_inv h
  have hg : (j : Nat) < ls.length := Nat.blt_eq.mp hg
  have hk := gO_inv h hk
  intro rl H locs ⟨hl, hn, okl, oks, hP, hD, hS⟩
  obtain ⟨ho, oks2⟩ := List.forall_mem_cons.mp oks
  rcases v with _ | ⟨t, q⟩
  · refine lv_astore_nN (lv := toLv ads ls) hx hb hd rfl hl (by rw [← hn]; exact hg) rfl (fun rl' hl' => ?_)
    exact ih _ hk rl' H locs ⟨lv_less hl' lSet_lv, by rw [← hn]; exact lSet_len, lSet_ok okl ho, oks2, hP, hD, hS⟩
  · refine lv_astore_n (lv := toLv ads ls) hx hb hd rfl hl (by rw [← hn]; exact hg) rfl (fun rl' hl' => ?_)
    exact ih _ hk rl' H locs ⟨lv_less hl' lSet_lv, by rw [← hn]; exact lSet_len, lSet_ok okl ho, oks2, hP, hD, hS⟩
theorem si_astore (F : Fx p s m args c D aC ads pth LL A L xs b0 q9 mi) {fa fb fc : Nat} {j : Nat} (hd : decode (mBy.getD mi code) pc = .ok (.astore j, 2)) (hr : rsB (kOw mi) (pc, .astore j, 2, fa, fb, fc) = true) (h : isem L xs mi pc 2 (.astore j) fa fb fc ls st mem = some (.inl al)) (hk : alt al k = some r) (ih : ∀ s', k s' = some r → WA p l e R s m args below meth c Q D aC ads pth LL A mi cf sf s') : WA p l e R s m args below meth c Q D aC ads pth LL A mi cf sf (pc, ls, st, mem) := by
  obtain ⟨hx, hb, hml, hown, hts, hK, hE, ⟨hX, hbl, hbA, hb3⟩, ⟨hZ, hq9⟩⟩ := F
  obtain ⟨v, st, rfl, h⟩ := pN_inv h
  obtain ⟨hg, h⟩ := bif_inv h
  have hg : j < ls.length := Nat.blt_eq.mp hg
  have hk := gO_inv h hk
  intro rl H locs ⟨hl, hn, okl, oks, hP, hD, hS⟩
  obtain ⟨ho, oks2⟩ := List.forall_mem_cons.mp oks
  rcases v with _ | ⟨t, q⟩
  · refine lv_astoreN (lv := toLv ads ls) hx hb hd hl (by rw [← hn]; exact hg) rfl (fun rl' hl' => ?_)
    exact ih _ hk rl' H locs ⟨lv_less hl' lSet_lv, by rw [← hn]; exact lSet_len, lSet_ok okl ho, oks2, hP, hD, hS⟩
  · refine lv_astore (lv := toLv ads ls) hx hb hd hl (by rw [← hn]; exact hg) rfl (fun rl' hl' => ?_)
    exact ih _ hk rl' H locs ⟨lv_less hl' lSet_lv, by rw [← hn]; exact lSet_len, lSet_ok okl ho, oks2, hP, hD, hS⟩
theorem si_iinc (F : Fx p s m args c D aC ads pth LL A L xs b0 q9 mi) {fa fb fc : Nat} {j : Nat} {n : Int} (hd : decode (mBy.getD mi code) pc = .ok (.iinc j n, 3)) (hr : rsB (kOw mi) (pc, .iinc j n, 3, fa, fb, fc) = true) (h : isem L xs mi pc 3 (.iinc j n) fa fb fc ls st mem = some (.inl al)) (hk : alt al k = some r) (ih : ∀ s', k s' = some r → WA p l e R s m args below meth c Q D aC ads pth LL A mi cf sf s') : WA p l e R s m args below meth c Q D aC ads pth LL A mi cf sf (pc, ls, st, mem) := by
  obtain ⟨hx, hb, hml, hown, hts, hK, hE, ⟨hX, hbl, hbA, hb3⟩, ⟨hZ, hq9⟩⟩ := F
  unfold isem at h
  dsimp only at h
  obtain ⟨v0, u, hv, hu, h⟩ := ldI_inv h
  obtain ⟨v, u2, st2, e2, hu2, h⟩ := pI_inv h
  cases e2
  have hvv : v = v0 := by have q := (hu2 ads).symm.trans (hu ads); injection q
  subst hvv
  have hk := gO_inv h hk
  intro rl H locs ⟨hl, hn, okl, oks, hP, hD, hS⟩
  have hm : (j, Value.int v) ∈ toLv ads ls := toLv_mem.mpr ⟨u, hv, (hu ads).symm⟩
  obtain ⟨i, hi⟩ := List.getElem?_of_mem hm
  refine lv_iinc (v := v + cI n) (lv := toLv ads ls) hx hb hd hl hi (by rw [cI_eq]) (by rw [← hn]; exact (List.getElem?_eq_some_iff.mp hv).1) rfl (fun rl' hl' => ?_)
  exact ih _ hk rl' H locs ⟨lv_less hl' (lSet_lv (v := vi (v + cI n))), by rw [← hn]; exact lSet_len, lSet_ok okl trivial, oks, hP, hD, hS⟩
theorem si_iadd (F : Fx p s m args c D aC ads pth LL A L xs b0 q9 mi) {fa fb fc : Nat}  (hd : decode (mBy.getD mi code) pc = .ok (.iadd, 1)) (hr : rsB (kOw mi) (pc, .iadd, 1, fa, fb, fc) = true) (h : isem L xs mi pc 1 (.iadd) fa fb fc ls st mem = some (.inl al)) (hk : alt al k = some r) (ih : ∀ s', k s' = some r → WA p l e R s m args below meth c Q D aC ads pth LL A mi cf sf s') : WA p l e R s m args below meth c Q D aC ads pth LL A mi cf sf (pc, ls, st, mem) := by
  obtain ⟨hx, hb, hml, hown, hts, hK, hE, ⟨hX, hbl, hbA, hb3⟩, ⟨hZ, hq9⟩⟩ := F
  obtain ⟨y, u1, st, rfl, hu1, h⟩ := pI_inv h
  obtain ⟨v, u2, st, rfl, hu2, h⟩ := pI_inv h
  have hk := gO_inv h hk
  intro rl H locs ⟨hl, hn, okl, oks, hP, hD, hS⟩
  have oks2 := (List.forall_mem_cons.mp (List.forall_mem_cons.mp oks).2).2
  simp only [List.map_cons, hu1 ads, hu2 ads]
  refine lv_iadd hx hb hd ?_
  exact ih _ hk rl H locs ⟨hl, hn, okl, List.forall_mem_cons.mpr ⟨trivial, oks2⟩, hP, hD, hS⟩
theorem si_isub (F : Fx p s m args c D aC ads pth LL A L xs b0 q9 mi) {fa fb fc : Nat}  (hd : decode (mBy.getD mi code) pc = .ok (.isub, 1)) (hr : rsB (kOw mi) (pc, .isub, 1, fa, fb, fc) = true) (h : isem L xs mi pc 1 (.isub) fa fb fc ls st mem = some (.inl al)) (hk : alt al k = some r) (ih : ∀ s', k s' = some r → WA p l e R s m args below meth c Q D aC ads pth LL A mi cf sf s') : WA p l e R s m args below meth c Q D aC ads pth LL A mi cf sf (pc, ls, st, mem) := by
  obtain ⟨hx, hb, hml, hown, hts, hK, hE, ⟨hX, hbl, hbA, hb3⟩, ⟨hZ, hq9⟩⟩ := F
  obtain ⟨y, u1, st, rfl, hu1, h⟩ := pI_inv h
  obtain ⟨v, u2, st, rfl, hu2, h⟩ := pI_inv h
  have hk := gO_inv h hk
  intro rl H locs ⟨hl, hn, okl, oks, hP, hD, hS⟩
  have oks2 := (List.forall_mem_cons.mp (List.forall_mem_cons.mp oks).2).2
  simp only [List.map_cons, hu1 ads, hu2 ads]
  refine lv_isub hx hb hd ?_
  exact ih _ hk rl H locs ⟨hl, hn, okl, List.forall_mem_cons.mpr ⟨trivial, oks2⟩, hP, hD, hS⟩
theorem si_imul (F : Fx p s m args c D aC ads pth LL A L xs b0 q9 mi) {fa fb fc : Nat}  (hd : decode (mBy.getD mi code) pc = .ok (.imul, 1)) (hr : rsB (kOw mi) (pc, .imul, 1, fa, fb, fc) = true) (h : isem L xs mi pc 1 (.imul) fa fb fc ls st mem = some (.inl al)) (hk : alt al k = some r) (ih : ∀ s', k s' = some r → WA p l e R s m args below meth c Q D aC ads pth LL A mi cf sf s') : WA p l e R s m args below meth c Q D aC ads pth LL A mi cf sf (pc, ls, st, mem) := by
  obtain ⟨hx, hb, hml, hown, hts, hK, hE, ⟨hX, hbl, hbA, hb3⟩, ⟨hZ, hq9⟩⟩ := F
  obtain ⟨y, u1, st, rfl, hu1, h⟩ := pI_inv h
  obtain ⟨v, u2, st, rfl, hu2, h⟩ := pI_inv h
  have hk := gO_inv h hk
  intro rl H locs ⟨hl, hn, okl, oks, hP, hD, hS⟩
  have oks2 := (List.forall_mem_cons.mp (List.forall_mem_cons.mp oks).2).2
  simp only [List.map_cons, hu1 ads, hu2 ads]
  refine lv_imul hx hb hd ?_
  exact ih _ hk rl H locs ⟨hl, hn, okl, List.forall_mem_cons.mpr ⟨trivial, oks2⟩, hP, hD, hS⟩
theorem si_iand (F : Fx p s m args c D aC ads pth LL A L xs b0 q9 mi) {fa fb fc : Nat}  (hd : decode (mBy.getD mi code) pc = .ok (.iand, 1)) (hr : rsB (kOw mi) (pc, .iand, 1, fa, fb, fc) = true) (h : isem L xs mi pc 1 (.iand) fa fb fc ls st mem = some (.inl al)) (hk : alt al k = some r) (ih : ∀ s', k s' = some r → WA p l e R s m args below meth c Q D aC ads pth LL A mi cf sf s') : WA p l e R s m args below meth c Q D aC ads pth LL A mi cf sf (pc, ls, st, mem) := by
  obtain ⟨hx, hb, hml, hown, hts, hK, hE, ⟨hX, hbl, hbA, hb3⟩, ⟨hZ, hq9⟩⟩ := F
  obtain ⟨y, u1, st, rfl, hu1, h⟩ := pI_inv h
  obtain ⟨v, u2, st, rfl, hu2, h⟩ := pI_inv h
  have hk := gO_inv h hk
  intro rl H locs ⟨hl, hn, okl, oks, hP, hD, hS⟩
  have oks2 := (List.forall_mem_cons.mp (List.forall_mem_cons.mp oks).2).2
  simp only [List.map_cons, hu1 ads, hu2 ads]
  refine lv_iand hx hb hd ?_
  exact ih _ hk rl H locs ⟨hl, hn, okl, List.forall_mem_cons.mpr ⟨trivial, oks2⟩, hP, hD, hS⟩
theorem si_ior (F : Fx p s m args c D aC ads pth LL A L xs b0 q9 mi) {fa fb fc : Nat}  (hd : decode (mBy.getD mi code) pc = .ok (.ior, 1)) (hr : rsB (kOw mi) (pc, .ior, 1, fa, fb, fc) = true) (h : isem L xs mi pc 1 (.ior) fa fb fc ls st mem = some (.inl al)) (hk : alt al k = some r) (ih : ∀ s', k s' = some r → WA p l e R s m args below meth c Q D aC ads pth LL A mi cf sf s') : WA p l e R s m args below meth c Q D aC ads pth LL A mi cf sf (pc, ls, st, mem) := by
  obtain ⟨hx, hb, hml, hown, hts, hK, hE, ⟨hX, hbl, hbA, hb3⟩, ⟨hZ, hq9⟩⟩ := F
  obtain ⟨y, u1, st, rfl, hu1, h⟩ := pI_inv h
  obtain ⟨v, u2, st, rfl, hu2, h⟩ := pI_inv h
  have hk := gO_inv h hk
  intro rl H locs ⟨hl, hn, okl, oks, hP, hD, hS⟩
  have oks2 := (List.forall_mem_cons.mp (List.forall_mem_cons.mp oks).2).2
  simp only [List.map_cons, hu1 ads, hu2 ads]
  refine lv_ior hx hb hd ?_
  exact ih _ hk rl H locs ⟨hl, hn, okl, List.forall_mem_cons.mpr ⟨trivial, oks2⟩, hP, hD, hS⟩
theorem si_ishl (F : Fx p s m args c D aC ads pth LL A L xs b0 q9 mi) {fa fb fc : Nat}  (hd : decode (mBy.getD mi code) pc = .ok (.ishl, 1)) (hr : rsB (kOw mi) (pc, .ishl, 1, fa, fb, fc) = true) (h : isem L xs mi pc 1 (.ishl) fa fb fc ls st mem = some (.inl al)) (hk : alt al k = some r) (ih : ∀ s', k s' = some r → WA p l e R s m args below meth c Q D aC ads pth LL A mi cf sf s') : WA p l e R s m args below meth c Q D aC ads pth LL A mi cf sf (pc, ls, st, mem) := by
  obtain ⟨hx, hb, hml, hown, hts, hK, hE, ⟨hX, hbl, hbA, hb3⟩, ⟨hZ, hq9⟩⟩ := F
  obtain ⟨y, u1, st, rfl, hu1, h⟩ := pI_inv h
  obtain ⟨v, u2, st, rfl, hu2, h⟩ := pI_inv h
  have hk := gO_inv h hk
  intro rl H locs ⟨hl, hn, okl, oks, hP, hD, hS⟩
  have oks2 := (List.forall_mem_cons.mp (List.forall_mem_cons.mp oks).2).2
  simp only [List.map_cons, hu1 ads, hu2 ads]
  refine lv_ishl hx hb hd ?_
  exact ih _ hk rl H locs ⟨hl, hn, okl, List.forall_mem_cons.mpr ⟨trivial, oks2⟩, hP, hD, hS⟩
theorem si_ladd (F : Fx p s m args c D aC ads pth LL A L xs b0 q9 mi) {fa fb fc : Nat}  (hd : decode (mBy.getD mi code) pc = .ok (.ladd, 1)) (hr : rsB (kOw mi) (pc, .ladd, 1, fa, fb, fc) = true) (h : isem L xs mi pc 1 (.ladd) fa fb fc ls st mem = some (.inl al)) (hk : alt al k = some r) (ih : ∀ s', k s' = some r → WA p l e R s m args below meth c Q D aC ads pth LL A mi cf sf s') : WA p l e R s m args below meth c Q D aC ads pth LL A mi cf sf (pc, ls, st, mem) := by
  obtain ⟨hx, hb, hml, hown, hts, hK, hE, ⟨hX, hbl, hbA, hb3⟩, ⟨hZ, hq9⟩⟩ := F
  obtain ⟨y, st, rfl, h⟩ := pL_inv h
  obtain ⟨v, st, rfl, h⟩ := pL_inv h
  have hk := gO_inv h hk
  intro rl H locs ⟨hl, hn, okl, oks, hP, hD, hS⟩
  have oks2 := (List.forall_mem_cons.mp (List.forall_mem_cons.mp oks).2).2
  refine lv_ladd hx hb hd ?_
  exact ih _ hk rl H locs ⟨hl, hn, okl, List.forall_mem_cons.mpr ⟨trivial, oks2⟩, hP, hD, hS⟩
theorem si_lsub (F : Fx p s m args c D aC ads pth LL A L xs b0 q9 mi) {fa fb fc : Nat}  (hd : decode (mBy.getD mi code) pc = .ok (.lsub, 1)) (hr : rsB (kOw mi) (pc, .lsub, 1, fa, fb, fc) = true) (h : isem L xs mi pc 1 (.lsub) fa fb fc ls st mem = some (.inl al)) (hk : alt al k = some r) (ih : ∀ s', k s' = some r → WA p l e R s m args below meth c Q D aC ads pth LL A mi cf sf s') : WA p l e R s m args below meth c Q D aC ads pth LL A mi cf sf (pc, ls, st, mem) := by
  obtain ⟨hx, hb, hml, hown, hts, hK, hE, ⟨hX, hbl, hbA, hb3⟩, ⟨hZ, hq9⟩⟩ := F
  obtain ⟨y, st, rfl, h⟩ := pL_inv h
  obtain ⟨v, st, rfl, h⟩ := pL_inv h
  have hk := gO_inv h hk
  intro rl H locs ⟨hl, hn, okl, oks, hP, hD, hS⟩
  have oks2 := (List.forall_mem_cons.mp (List.forall_mem_cons.mp oks).2).2
  refine lv_lsub hx hb hd ?_
  exact ih _ hk rl H locs ⟨hl, hn, okl, List.forall_mem_cons.mpr ⟨trivial, oks2⟩, hP, hD, hS⟩
theorem si_land (F : Fx p s m args c D aC ads pth LL A L xs b0 q9 mi) {fa fb fc : Nat}  (hd : decode (mBy.getD mi code) pc = .ok (.land, 1)) (hr : rsB (kOw mi) (pc, .land, 1, fa, fb, fc) = true) (h : isem L xs mi pc 1 (.land) fa fb fc ls st mem = some (.inl al)) (hk : alt al k = some r) (ih : ∀ s', k s' = some r → WA p l e R s m args below meth c Q D aC ads pth LL A mi cf sf s') : WA p l e R s m args below meth c Q D aC ads pth LL A mi cf sf (pc, ls, st, mem) := by
  obtain ⟨hx, hb, hml, hown, hts, hK, hE, ⟨hX, hbl, hbA, hb3⟩, ⟨hZ, hq9⟩⟩ := F
  obtain ⟨y, st, rfl, h⟩ := pL_inv h
  obtain ⟨v, st, rfl, h⟩ := pL_inv h
  have hk := gO_inv h hk
  intro rl H locs ⟨hl, hn, okl, oks, hP, hD, hS⟩
  have oks2 := (List.forall_mem_cons.mp (List.forall_mem_cons.mp oks).2).2
  refine lv_land hx hb hd ?_
  exact ih _ hk rl H locs ⟨hl, hn, okl, List.forall_mem_cons.mpr ⟨trivial, oks2⟩, hP, hD, hS⟩
theorem si_lor (F : Fx p s m args c D aC ads pth LL A L xs b0 q9 mi) {fa fb fc : Nat}  (hd : decode (mBy.getD mi code) pc = .ok (.lor, 1)) (hr : rsB (kOw mi) (pc, .lor, 1, fa, fb, fc) = true) (h : isem L xs mi pc 1 (.lor) fa fb fc ls st mem = some (.inl al)) (hk : alt al k = some r) (ih : ∀ s', k s' = some r → WA p l e R s m args below meth c Q D aC ads pth LL A mi cf sf s') : WA p l e R s m args below meth c Q D aC ads pth LL A mi cf sf (pc, ls, st, mem) := by
  obtain ⟨hx, hb, hml, hown, hts, hK, hE, ⟨hX, hbl, hbA, hb3⟩, ⟨hZ, hq9⟩⟩ := F
  obtain ⟨y, st, rfl, h⟩ := pL_inv h
  obtain ⟨v, st, rfl, h⟩ := pL_inv h
  have hk := gO_inv h hk
  intro rl H locs ⟨hl, hn, okl, oks, hP, hD, hS⟩
  have oks2 := (List.forall_mem_cons.mp (List.forall_mem_cons.mp oks).2).2
  refine lv_lor hx hb hd ?_
  exact ih _ hk rl H locs ⟨hl, hn, okl, List.forall_mem_cons.mpr ⟨trivial, oks2⟩, hP, hD, hS⟩
theorem si_lxor (F : Fx p s m args c D aC ads pth LL A L xs b0 q9 mi) {fa fb fc : Nat}  (hd : decode (mBy.getD mi code) pc = .ok (.lxor, 1)) (hr : rsB (kOw mi) (pc, .lxor, 1, fa, fb, fc) = true) (h : isem L xs mi pc 1 (.lxor) fa fb fc ls st mem = some (.inl al)) (hk : alt al k = some r) (ih : ∀ s', k s' = some r → WA p l e R s m args below meth c Q D aC ads pth LL A mi cf sf s') : WA p l e R s m args below meth c Q D aC ads pth LL A mi cf sf (pc, ls, st, mem) := by
  obtain ⟨hx, hb, hml, hown, hts, hK, hE, ⟨hX, hbl, hbA, hb3⟩, ⟨hZ, hq9⟩⟩ := F
  obtain ⟨y, st, rfl, h⟩ := pL_inv h
  obtain ⟨v, st, rfl, h⟩ := pL_inv h
  have hk := gO_inv h hk
  intro rl H locs ⟨hl, hn, okl, oks, hP, hD, hS⟩
  have oks2 := (List.forall_mem_cons.mp (List.forall_mem_cons.mp oks).2).2
  refine lv_lxor hx hb hd ?_
  exact ih _ hk rl H locs ⟨hl, hn, okl, List.forall_mem_cons.mpr ⟨trivial, oks2⟩, hP, hD, hS⟩
theorem si_lcmp (F : Fx p s m args c D aC ads pth LL A L xs b0 q9 mi) {fa fb fc : Nat}  (hd : decode (mBy.getD mi code) pc = .ok (.lcmp, 1)) (hr : rsB (kOw mi) (pc, .lcmp, 1, fa, fb, fc) = true) (h : isem L xs mi pc 1 (.lcmp) fa fb fc ls st mem = some (.inl al)) (hk : alt al k = some r) (ih : ∀ s', k s' = some r → WA p l e R s m args below meth c Q D aC ads pth LL A mi cf sf s') : WA p l e R s m args below meth c Q D aC ads pth LL A mi cf sf (pc, ls, st, mem) := by
  obtain ⟨hx, hb, hml, hown, hts, hK, hE, ⟨hX, hbl, hbA, hb3⟩, ⟨hZ, hq9⟩⟩ := F
  obtain ⟨y, st, rfl, h⟩ := pL_inv h
  obtain ⟨v, st, rfl, h⟩ := pL_inv h
  have hk := gO_inv h hk
  intro rl H locs ⟨hl, hn, okl, oks, hP, hD, hS⟩
  have oks2 := (List.forall_mem_cons.mp (List.forall_mem_cons.mp oks).2).2
  refine W.lcmp hx hb hd ?_
  exact ih _ hk rl H locs ⟨hl, hn, okl, List.forall_mem_cons.mpr ⟨trivial, oks2⟩, hP, hD, hS⟩
theorem si_lshl (F : Fx p s m args c D aC ads pth LL A L xs b0 q9 mi) {fa fb fc : Nat}  (hd : decode (mBy.getD mi code) pc = .ok (.lshl, 1)) (hr : rsB (kOw mi) (pc, .lshl, 1, fa, fb, fc) = true) (h : isem L xs mi pc 1 (.lshl) fa fb fc ls st mem = some (.inl al)) (hk : alt al k = some r) (ih : ∀ s', k s' = some r → WA p l e R s m args below meth c Q D aC ads pth LL A mi cf sf s') : WA p l e R s m args below meth c Q D aC ads pth LL A mi cf sf (pc, ls, st, mem) := by
  obtain ⟨hx, hb, hml, hown, hts, hK, hE, ⟨hX, hbl, hbA, hb3⟩, ⟨hZ, hq9⟩⟩ := F
  obtain ⟨y, u1, st, rfl, hu1, h⟩ := pI_inv h
  obtain ⟨v, st, rfl, h⟩ := pL_inv h
  have hk := gO_inv h hk
  intro rl H locs ⟨hl, hn, okl, oks, hP, hD, hS⟩
  have oks2 := (List.forall_mem_cons.mp (List.forall_mem_cons.mp oks).2).2
  simp only [List.map_cons, hu1 ads]
  refine lv_lshl hx hb hd rfl ?_
  exact ih _ hk rl H locs ⟨hl, hn, okl, List.forall_mem_cons.mpr ⟨trivial, oks2⟩, hP, hD, hS⟩
theorem si_lushr (F : Fx p s m args c D aC ads pth LL A L xs b0 q9 mi) {fa fb fc : Nat}  (hd : decode (mBy.getD mi code) pc = .ok (.lushr, 1)) (hr : rsB (kOw mi) (pc, .lushr, 1, fa, fb, fc) = true) (h : isem L xs mi pc 1 (.lushr) fa fb fc ls st mem = some (.inl al)) (hk : alt al k = some r) (ih : ∀ s', k s' = some r → WA p l e R s m args below meth c Q D aC ads pth LL A mi cf sf s') : WA p l e R s m args below meth c Q D aC ads pth LL A mi cf sf (pc, ls, st, mem) := by
  obtain ⟨hx, hb, hml, hown, hts, hK, hE, ⟨hX, hbl, hbA, hb3⟩, ⟨hZ, hq9⟩⟩ := F
  obtain ⟨y, u1, st, rfl, hu1, h⟩ := pI_inv h
  obtain ⟨v, st, rfl, h⟩ := pL_inv h
  have hk := gO_inv h hk
  intro rl H locs ⟨hl, hn, okl, oks, hP, hD, hS⟩
  have oks2 := (List.forall_mem_cons.mp (List.forall_mem_cons.mp oks).2).2
  simp only [List.map_cons, hu1 ads]
  refine lv_lushr hx hb hd rfl ?_
  exact ih _ hk rl H locs ⟨hl, hn, okl, List.forall_mem_cons.mpr ⟨trivial, oks2⟩, hP, hD, hS⟩
theorem si_idiv (F : Fx p s m args c D aC ads pth LL A L xs b0 q9 mi) {fa fb fc : Nat}  (hd : decode (mBy.getD mi code) pc = .ok (.idiv, 1)) (hr : rsB (kOw mi) (pc, .idiv, 1, fa, fb, fc) = true) (h : isem L xs mi pc 1 (.idiv) fa fb fc ls st mem = some (.inl al)) (hk : alt al k = some r) (ih : ∀ s', k s' = some r → WA p l e R s m args below meth c Q D aC ads pth LL A mi cf sf s') : WA p l e R s m args below meth c Q D aC ads pth LL A mi cf sf (pc, ls, st, mem) := by
  obtain ⟨hx, hb, hml, hown, hts, hK, hE, ⟨hX, hbl, hbA, hb3⟩, ⟨hZ, hq9⟩⟩ := F
  unfold isem at h
  dsimp only at h
  obtain ⟨b, y, u1, st, rfl, hu1, hne, h⟩ := pD_inv h
  obtain ⟨v, u2, st, rfl, hu2, h⟩ := pI_inv h
  obtain ⟨hg, hk⟩ := gG_inv h hk
  intro rl H locs ⟨hl, hn, okl, oks, hP, hD, hS⟩
  obtain ⟨o1, o2⟩ := List.forall_mem_cons.mp oks
  have oks2 := (List.forall_mem_cons.mp o2).2
  simp only [List.map_cons, hu1 ads, hu2 ads]
  refine lv_idiv hx hb hd (hne o1 hg) ?_
  exact ih _ hk rl H locs ⟨hl, hn, okl, List.forall_mem_cons.mpr ⟨trivial, oks2⟩, hP, hD, hS⟩
theorem si_irem (F : Fx p s m args c D aC ads pth LL A L xs b0 q9 mi) {fa fb fc : Nat}  (hd : decode (mBy.getD mi code) pc = .ok (.irem, 1)) (hr : rsB (kOw mi) (pc, .irem, 1, fa, fb, fc) = true) (h : isem L xs mi pc 1 (.irem) fa fb fc ls st mem = some (.inl al)) (hk : alt al k = some r) (ih : ∀ s', k s' = some r → WA p l e R s m args below meth c Q D aC ads pth LL A mi cf sf s') : WA p l e R s m args below meth c Q D aC ads pth LL A mi cf sf (pc, ls, st, mem) := by
  obtain ⟨hx, hb, hml, hown, hts, hK, hE, ⟨hX, hbl, hbA, hb3⟩, ⟨hZ, hq9⟩⟩ := F
  unfold isem at h
  dsimp only at h
  obtain ⟨b, y, u1, st, rfl, hu1, hne, h⟩ := pD_inv h
  obtain ⟨v, u2, st, rfl, hu2, h⟩ := pI_inv h
  obtain ⟨hg, hk⟩ := gG_inv h hk
  intro rl H locs ⟨hl, hn, okl, oks, hP, hD, hS⟩
  obtain ⟨o1, o2⟩ := List.forall_mem_cons.mp oks
  have oks2 := (List.forall_mem_cons.mp o2).2
  simp only [List.map_cons, hu1 ads, hu2 ads]
  refine lv_irem hx hb hd (hne o1 hg) ?_
  exact ih _ hk rl H locs ⟨hl, hn, okl, List.forall_mem_cons.mpr ⟨trivial, oks2⟩, hP, hD, hS⟩
theorem si_i2l (F : Fx p s m args c D aC ads pth LL A L xs b0 q9 mi) {fa fb fc : Nat}  (hd : decode (mBy.getD mi code) pc = .ok (.i2l, 1)) (hr : rsB (kOw mi) (pc, .i2l, 1, fa, fb, fc) = true) (h : isem L xs mi pc 1 (.i2l) fa fb fc ls st mem = some (.inl al)) (hk : alt al k = some r) (ih : ∀ s', k s' = some r → WA p l e R s m args below meth c Q D aC ads pth LL A mi cf sf s') : WA p l e R s m args below meth c Q D aC ads pth LL A mi cf sf (pc, ls, st, mem) := by
  obtain ⟨hx, hb, hml, hown, hts, hK, hE, ⟨hX, hbl, hbA, hb3⟩, ⟨hZ, hq9⟩⟩ := F
  obtain ⟨v, u1, st, rfl, hu1, h⟩ := pI_inv h
  have hk := gO_inv h hk
  intro rl H locs ⟨hl, hn, okl, oks, hP, hD, hS⟩
  have oks2 := (List.forall_mem_cons.mp oks).2
  simp only [List.map_cons, hu1 ads]
  refine lv_i2l hx hb hd rfl ?_
  exact ih _ hk rl H locs ⟨hl, hn, okl, List.forall_mem_cons.mpr ⟨trivial, oks2⟩, hP, hD, hS⟩
theorem si_i2b (F : Fx p s m args c D aC ads pth LL A L xs b0 q9 mi) {fa fb fc : Nat}  (hd : decode (mBy.getD mi code) pc = .ok (.i2b, 1)) (hr : rsB (kOw mi) (pc, .i2b, 1, fa, fb, fc) = true) (h : isem L xs mi pc 1 (.i2b) fa fb fc ls st mem = some (.inl al)) (hk : alt al k = some r) (ih : ∀ s', k s' = some r → WA p l e R s m args below meth c Q D aC ads pth LL A mi cf sf s') : WA p l e R s m args below meth c Q D aC ads pth LL A mi cf sf (pc, ls, st, mem) := by
  obtain ⟨hx, hb, hml, hown, hts, hK, hE, ⟨hX, hbl, hbA, hb3⟩, ⟨hZ, hq9⟩⟩ := F
  obtain ⟨v, u1, st, rfl, hu1, h⟩ := pI_inv h
  have hk := gO_inv h hk
  intro rl H locs ⟨hl, hn, okl, oks, hP, hD, hS⟩
  have oks2 := (List.forall_mem_cons.mp oks).2
  simp only [List.map_cons, hu1 ads]
  refine lv_i2b hx hb hd rfl ?_
  exact ih _ hk rl H locs ⟨hl, hn, okl, List.forall_mem_cons.mpr ⟨trivial, oks2⟩, hP, hD, hS⟩
theorem si_i2s (F : Fx p s m args c D aC ads pth LL A L xs b0 q9 mi) {fa fb fc : Nat}  (hd : decode (mBy.getD mi code) pc = .ok (.i2s, 1)) (hr : rsB (kOw mi) (pc, .i2s, 1, fa, fb, fc) = true) (h : isem L xs mi pc 1 (.i2s) fa fb fc ls st mem = some (.inl al)) (hk : alt al k = some r) (ih : ∀ s', k s' = some r → WA p l e R s m args below meth c Q D aC ads pth LL A mi cf sf s') : WA p l e R s m args below meth c Q D aC ads pth LL A mi cf sf (pc, ls, st, mem) := by
  obtain ⟨hx, hb, hml, hown, hts, hK, hE, ⟨hX, hbl, hbA, hb3⟩, ⟨hZ, hq9⟩⟩ := F
  obtain ⟨v, u1, st, rfl, hu1, h⟩ := pI_inv h
  have hk := gO_inv h hk
  intro rl H locs ⟨hl, hn, okl, oks, hP, hD, hS⟩
  have oks2 := (List.forall_mem_cons.mp oks).2
  simp only [List.map_cons, hu1 ads]
  refine lv_i2s hx hb hd rfl ?_
  exact ih _ hk rl H locs ⟨hl, hn, okl, List.forall_mem_cons.mpr ⟨trivial, oks2⟩, hP, hD, hS⟩
theorem si_i2c (F : Fx p s m args c D aC ads pth LL A L xs b0 q9 mi) {fa fb fc : Nat}  (hd : decode (mBy.getD mi code) pc = .ok (.i2c, 1)) (hr : rsB (kOw mi) (pc, .i2c, 1, fa, fb, fc) = true) (h : isem L xs mi pc 1 (.i2c) fa fb fc ls st mem = some (.inl al)) (hk : alt al k = some r) (ih : ∀ s', k s' = some r → WA p l e R s m args below meth c Q D aC ads pth LL A mi cf sf s') : WA p l e R s m args below meth c Q D aC ads pth LL A mi cf sf (pc, ls, st, mem) := by
  obtain ⟨hx, hb, hml, hown, hts, hK, hE, ⟨hX, hbl, hbA, hb3⟩, ⟨hZ, hq9⟩⟩ := F
  obtain ⟨v, u1, st, rfl, hu1, h⟩ := pI_inv h
  have hk := gO_inv h hk
  intro rl H locs ⟨hl, hn, okl, oks, hP, hD, hS⟩
  have oks2 := (List.forall_mem_cons.mp oks).2
  simp only [List.map_cons, hu1 ads]
  refine lv_i2c hx hb hd rfl ?_
  exact ih _ hk rl H locs ⟨hl, hn, okl, List.forall_mem_cons.mpr ⟨trivial, oks2⟩, hP, hD, hS⟩
theorem si_l2i (F : Fx p s m args c D aC ads pth LL A L xs b0 q9 mi) {fa fb fc : Nat}  (hd : decode (mBy.getD mi code) pc = .ok (.l2i, 1)) (hr : rsB (kOw mi) (pc, .l2i, 1, fa, fb, fc) = true) (h : isem L xs mi pc 1 (.l2i) fa fb fc ls st mem = some (.inl al)) (hk : alt al k = some r) (ih : ∀ s', k s' = some r → WA p l e R s m args below meth c Q D aC ads pth LL A mi cf sf s') : WA p l e R s m args below meth c Q D aC ads pth LL A mi cf sf (pc, ls, st, mem) := by
  obtain ⟨hx, hb, hml, hown, hts, hK, hE, ⟨hX, hbl, hbA, hb3⟩, ⟨hZ, hq9⟩⟩ := F
  obtain ⟨v, st, rfl, h⟩ := pL_inv h
  have hk := gO_inv h hk
  intro rl H locs ⟨hl, hn, okl, oks, hP, hD, hS⟩
  have oks2 := (List.forall_mem_cons.mp oks).2
  refine lv_l2i hx hb hd rfl ?_
  exact ih _ hk rl H locs ⟨hl, hn, okl, List.forall_mem_cons.mpr ⟨trivial, oks2⟩, hP, hD, hS⟩
theorem si_dup (F : Fx p s m args c D aC ads pth LL A L xs b0 q9 mi) {fa fb fc : Nat}  (hd : decode (mBy.getD mi code) pc = .ok (.dup, 1)) (hr : rsB (kOw mi) (pc, .dup, 1, fa, fb, fc) = true) (h : isem L xs mi pc 1 (.dup) fa fb fc ls st mem = some (.inl al)) (hk : alt al k = some r) (ih : ∀ s', k s' = some r → WA p l e R s m args below meth c Q D aC ads pth LL A mi cf sf s') : WA p l e R s m args below meth c Q D aC ads pth LL A mi cf sf (pc, ls, st, mem) := by
  obtain ⟨hx, hb, hml, hown, hts, hK, hE, ⟨hX, hbl, hbA, hb3⟩, ⟨hZ, hq9⟩⟩ := F
  unfold isem at h
  dsimp only at h
  obtain ⟨v, st, rfl, hc, h⟩ := pA_inv h
  have hk := gO_inv h hk
  intro rl H locs ⟨hl, hn, okl, oks, hP, hD, hS⟩
  obtain ⟨o1, o2⟩ := List.forall_mem_cons.mp oks
  refine lv_dup hx hb hd (by rw [rV_cat]; exact hc) ?_
  exact ih _ hk rl H locs ⟨hl, hn, okl, List.forall_mem_cons.mpr ⟨o1, oks⟩, hP, hD, hS⟩
theorem si_dup_x1 (F : Fx p s m args c D aC ads pth LL A L xs b0 q9 mi) {fa fb fc : Nat}  (hd : decode (mBy.getD mi code) pc = .ok (.dup_x1, 1)) (hr : rsB (kOw mi) (pc, .dup_x1, 1, fa, fb, fc) = true) (h : isem L xs mi pc 1 (.dup_x1) fa fb fc ls st mem = some (.inl al)) (hk : alt al k = some r) (ih : ∀ s', k s' = some r → WA p l e R s m args below meth c Q D aC ads pth LL A mi cf sf s') : WA p l e R s m args below meth c Q D aC ads pth LL A mi cf sf (pc, ls, st, mem) := by
  obtain ⟨hx, hb, hml, hown, hts, hK, hE, ⟨hX, hbl, hbA, hb3⟩, ⟨hZ, hq9⟩⟩ := F
  unfold isem at h
  dsimp only at h
  obtain ⟨v, st, rfl, hc, h⟩ := pA_inv h
  obtain ⟨w, st, rfl, hc2, h⟩ := pA_inv h
  have hk := gO_inv h hk
  intro rl H locs ⟨hl, hn, okl, oks, hP, hD, hS⟩
  obtain ⟨o1, o2⟩ := List.forall_mem_cons.mp oks
  obtain ⟨o3, o4⟩ := List.forall_mem_cons.mp o2
  refine lv_dup_x1 hx hb hd (by rw [rV_cat]; exact hc) (by rw [rV_cat]; exact hc2) ?_
  exact ih _ hk rl H locs ⟨hl, hn, okl, List.forall_mem_cons.mpr ⟨o1, List.forall_mem_cons.mpr ⟨o3, List.forall_mem_cons.mpr ⟨o1, o4⟩⟩⟩, hP, hD, hS⟩
theorem si_dup2 (F : Fx p s m args c D aC ads pth LL A L xs b0 q9 mi) {fa fb fc : Nat}  (hd : decode (mBy.getD mi code) pc = .ok (.dup2, 1)) (hr : rsB (kOw mi) (pc, .dup2, 1, fa, fb, fc) = true) (h : isem L xs mi pc 1 (.dup2) fa fb fc ls st mem = some (.inl al)) (hk : alt al k = some r) (ih : ∀ s', k s' = some r → WA p l e R s m args below meth c Q D aC ads pth LL A mi cf sf s') : WA p l e R s m args below meth c Q D aC ads pth LL A mi cf sf (pc, ls, st, mem) := by
  obtain ⟨hx, hb, hml, hown, hts, hK, hE, ⟨hX, hbl, hbA, hb3⟩, ⟨hZ, hq9⟩⟩ := F
  unfold isem at h
  dsimp only at h
  obtain ⟨v, st, rfl, hc, h⟩ := pA_inv h
  obtain ⟨w, st, rfl, hc2, h⟩ := pA_inv h
  have hk := gO_inv h hk
  intro rl H locs ⟨hl, hn, okl, oks, hP, hD, hS⟩
  obtain ⟨o1, o2⟩ := List.forall_mem_cons.mp oks
  obtain ⟨o3, o4⟩ := List.forall_mem_cons.mp o2
  refine lv_dup2_11 hx hb hd (by rw [rV_cat]; exact hc) (by rw [rV_cat]; exact hc2) ?_
  exact ih _ hk rl H locs ⟨hl, hn, okl, List.forall_mem_cons.mpr ⟨o1, List.forall_mem_cons.mpr ⟨o3, oks⟩⟩, hP, hD, hS⟩
theorem si_pop (F : Fx p s m args c D aC ads pth LL A L xs b0 q9 mi) {fa fb fc : Nat}  (hd : decode (mBy.getD mi code) pc = .ok (.pop, 1)) (hr : rsB (kOw mi) (pc, .pop, 1, fa, fb, fc) = true) (h : isem L xs mi pc 1 (.pop) fa fb fc ls st mem = some (.inl al)) (hk : alt al k = some r) (ih : ∀ s', k s' = some r → WA p l e R s m args below meth c Q D aC ads pth LL A mi cf sf s') : WA p l e R s m args below meth c Q D aC ads pth LL A mi cf sf (pc, ls, st, mem) := by
  obtain ⟨hx, hb, hml, hown, hts, hK, hE, ⟨hX, hbl, hbA, hb3⟩, ⟨hZ, hq9⟩⟩ := F
  unfold isem at h
  dsimp only at h
  obtain ⟨v, st, rfl, hc, h⟩ := pA_inv h
  have hk := gO_inv h hk
  intro rl H locs ⟨hl, hn, okl, oks, hP, hD, hS⟩
  obtain ⟨o1, o2⟩ := List.forall_mem_cons.mp oks
  refine lv_pop hx hb hd (by rw [rV_cat]; exact hc) ?_
  exact ih _ hk rl H locs ⟨hl, hn, okl, o2, hP, hD, hS⟩
theorem si_goto (F : Fx p s m args c D aC ads pth LL A L xs b0 q9 mi) {fa fb fc : Nat} {off : Int} (hd : decode (mBy.getD mi code) pc = .ok (.goto off, 3)) (hr : rsB (kOw mi) (pc, .goto off, 3, fa, fb, fc) = true) (h : isem L xs mi pc 3 (.goto off) fa fb fc ls st mem = some (.inl al)) (hk : alt al k = some r) (ih : ∀ s', k s' = some r → WA p l e R s m args below meth c Q D aC ads pth LL A mi cf sf s') : WA p l e R s m args below meth c Q D aC ads pth LL A mi cf sf (pc, ls, st, mem) := by
  obtain ⟨hx, hb, hml, hown, hts, hK, hE, ⟨hX, hbl, hbA, hb3⟩, ⟨hZ, hq9⟩⟩ := F
  have h : (match jmp pc off with
      | some t => gO t ls st mem
      | none => none) = some (.inl al) := h
  cases hj : jmp pc off with
  | none => rw [hj] at h; cases h
  | some t =>
    rw [hj] at h
    have hk := gO_inv h hk
    intro rl H locs ⟨hl, hn, okl, oks, hP, hD, hS⟩
    refine lv_goto hx hb hd (jmp_inv hj) ?_
    exact ih _ hk rl H locs ⟨hl, hn, okl, oks, hP, hD, hS⟩
theorem cmp_cases {c : ClassFile.Cond} {v w : Int32} {b : Bool} (h : cmpB c v w = b) : (match c with | .eq => v = w | .ne => ¬ v = w | .lt => v < w | .ge => w ≤ v | .gt => w < v | .le => v ≤ w) ↔ b = true := by
  subst h
  cases c <;> simp [cmpB]
theorem ifW_eq (F : Fx p s m args c D aC ads pth LL A L xs b0 q9 mi) {off : Int} {v : Int32} {t : Nat} {rl : Array Slot} {H : Heap} {locs : List Loc} {cells slots : Nat} (hd : decode (mBy.getD mi code) pc = .ok (.ifCond .eq off, 3)) (ht : (pc : Int) + off = (t : Int)) (kt : cmpB .eq v 0 = true → W p l e R s m args below meth c H locs cells slots Q (F0 m t rl (st.map (rV ads)))) (kf : cmpB .eq v 0 = false → W p l e R s m args below meth c H locs cells slots Q (F0 m (pc + 3) rl (st.map (rV ads)))) : W p l e R s m args below meth c H locs cells slots Q (F0 m pc rl (.int v :: st.map (rV ads))) := by
  obtain ⟨hx, hb, -⟩ := F
  refine lv_if_eq hx hb hd ht (fun q => kt ?_) (fun q => kf ?_) <;> simpa [cmpB] using q
theorem icmpW_eq (F : Fx p s m args c D aC ads pth LL A L xs b0 q9 mi) {off : Int} {v y : Int32} {t : Nat} {rl : Array Slot} {H : Heap} {locs : List Loc} {cells slots : Nat} (hd : decode (mBy.getD mi code) pc = .ok (.if_icmp .eq off, 3)) (ht : (pc : Int) + off = (t : Int)) (kt : cmpB .eq v y = true → W p l e R s m args below meth c H locs cells slots Q (F0 m t rl (st.map (rV ads)))) (kf : cmpB .eq v y = false → W p l e R s m args below meth c H locs cells slots Q (F0 m (pc + 3) rl (st.map (rV ads)))) : W p l e R s m args below meth c H locs cells slots Q (F0 m pc rl (.int y :: .int v :: st.map (rV ads))) := by
  obtain ⟨hx, hb, -⟩ := F
  refine lv_icmp_eq hx hb hd ht (fun q => kt ?_) (fun q => kf ?_) <;> simpa [cmpB] using q
theorem ifW_ne (F : Fx p s m args c D aC ads pth LL A L xs b0 q9 mi) {off : Int} {v : Int32} {t : Nat} {rl : Array Slot} {H : Heap} {locs : List Loc} {cells slots : Nat} (hd : decode (mBy.getD mi code) pc = .ok (.ifCond .ne off, 3)) (ht : (pc : Int) + off = (t : Int)) (kt : cmpB .ne v 0 = true → W p l e R s m args below meth c H locs cells slots Q (F0 m t rl (st.map (rV ads)))) (kf : cmpB .ne v 0 = false → W p l e R s m args below meth c H locs cells slots Q (F0 m (pc + 3) rl (st.map (rV ads)))) : W p l e R s m args below meth c H locs cells slots Q (F0 m pc rl (.int v :: st.map (rV ads))) := by
  obtain ⟨hx, hb, -⟩ := F
  refine lv_if_ne hx hb hd ht (fun q => kt ?_) (fun q => kf ?_) <;> simpa [cmpB] using q
theorem icmpW_ne (F : Fx p s m args c D aC ads pth LL A L xs b0 q9 mi) {off : Int} {v y : Int32} {t : Nat} {rl : Array Slot} {H : Heap} {locs : List Loc} {cells slots : Nat} (hd : decode (mBy.getD mi code) pc = .ok (.if_icmp .ne off, 3)) (ht : (pc : Int) + off = (t : Int)) (kt : cmpB .ne v y = true → W p l e R s m args below meth c H locs cells slots Q (F0 m t rl (st.map (rV ads)))) (kf : cmpB .ne v y = false → W p l e R s m args below meth c H locs cells slots Q (F0 m (pc + 3) rl (st.map (rV ads)))) : W p l e R s m args below meth c H locs cells slots Q (F0 m pc rl (.int y :: .int v :: st.map (rV ads))) := by
  obtain ⟨hx, hb, -⟩ := F
  refine lv_icmp_ne hx hb hd ht (fun q => kt ?_) (fun q => kf ?_) <;> simpa [cmpB] using q
theorem ifW_lt (F : Fx p s m args c D aC ads pth LL A L xs b0 q9 mi) {off : Int} {v : Int32} {t : Nat} {rl : Array Slot} {H : Heap} {locs : List Loc} {cells slots : Nat} (hd : decode (mBy.getD mi code) pc = .ok (.ifCond .lt off, 3)) (ht : (pc : Int) + off = (t : Int)) (kt : cmpB .lt v 0 = true → W p l e R s m args below meth c H locs cells slots Q (F0 m t rl (st.map (rV ads)))) (kf : cmpB .lt v 0 = false → W p l e R s m args below meth c H locs cells slots Q (F0 m (pc + 3) rl (st.map (rV ads)))) : W p l e R s m args below meth c H locs cells slots Q (F0 m pc rl (.int v :: st.map (rV ads))) := by
  obtain ⟨hx, hb, -⟩ := F
  refine lv_if_lt hx hb hd ht (fun q => kt ?_) (fun q => kf ?_) <;> simpa [cmpB] using q
theorem icmpW_lt (F : Fx p s m args c D aC ads pth LL A L xs b0 q9 mi) {off : Int} {v y : Int32} {t : Nat} {rl : Array Slot} {H : Heap} {locs : List Loc} {cells slots : Nat} (hd : decode (mBy.getD mi code) pc = .ok (.if_icmp .lt off, 3)) (ht : (pc : Int) + off = (t : Int)) (kt : cmpB .lt v y = true → W p l e R s m args below meth c H locs cells slots Q (F0 m t rl (st.map (rV ads)))) (kf : cmpB .lt v y = false → W p l e R s m args below meth c H locs cells slots Q (F0 m (pc + 3) rl (st.map (rV ads)))) : W p l e R s m args below meth c H locs cells slots Q (F0 m pc rl (.int y :: .int v :: st.map (rV ads))) := by
  obtain ⟨hx, hb, -⟩ := F
  refine lv_icmp_lt hx hb hd ht (fun q => kt ?_) (fun q => kf ?_) <;> simpa [cmpB] using q
theorem ifW_ge (F : Fx p s m args c D aC ads pth LL A L xs b0 q9 mi) {off : Int} {v : Int32} {t : Nat} {rl : Array Slot} {H : Heap} {locs : List Loc} {cells slots : Nat} (hd : decode (mBy.getD mi code) pc = .ok (.ifCond .ge off, 3)) (ht : (pc : Int) + off = (t : Int)) (kt : cmpB .ge v 0 = true → W p l e R s m args below meth c H locs cells slots Q (F0 m t rl (st.map (rV ads)))) (kf : cmpB .ge v 0 = false → W p l e R s m args below meth c H locs cells slots Q (F0 m (pc + 3) rl (st.map (rV ads)))) : W p l e R s m args below meth c H locs cells slots Q (F0 m pc rl (.int v :: st.map (rV ads))) := by
  obtain ⟨hx, hb, -⟩ := F
  refine lv_if_ge hx hb hd ht (fun q => kt ?_) (fun q => kf ?_) <;> simpa [cmpB] using q
theorem icmpW_ge (F : Fx p s m args c D aC ads pth LL A L xs b0 q9 mi) {off : Int} {v y : Int32} {t : Nat} {rl : Array Slot} {H : Heap} {locs : List Loc} {cells slots : Nat} (hd : decode (mBy.getD mi code) pc = .ok (.if_icmp .ge off, 3)) (ht : (pc : Int) + off = (t : Int)) (kt : cmpB .ge v y = true → W p l e R s m args below meth c H locs cells slots Q (F0 m t rl (st.map (rV ads)))) (kf : cmpB .ge v y = false → W p l e R s m args below meth c H locs cells slots Q (F0 m (pc + 3) rl (st.map (rV ads)))) : W p l e R s m args below meth c H locs cells slots Q (F0 m pc rl (.int y :: .int v :: st.map (rV ads))) := by
  obtain ⟨hx, hb, -⟩ := F
  refine lv_icmp_ge hx hb hd ht (fun q => kt ?_) (fun q => kf ?_) <;> simpa [cmpB] using q
theorem ifW_gt (F : Fx p s m args c D aC ads pth LL A L xs b0 q9 mi) {off : Int} {v : Int32} {t : Nat} {rl : Array Slot} {H : Heap} {locs : List Loc} {cells slots : Nat} (hd : decode (mBy.getD mi code) pc = .ok (.ifCond .gt off, 3)) (ht : (pc : Int) + off = (t : Int)) (kt : cmpB .gt v 0 = true → W p l e R s m args below meth c H locs cells slots Q (F0 m t rl (st.map (rV ads)))) (kf : cmpB .gt v 0 = false → W p l e R s m args below meth c H locs cells slots Q (F0 m (pc + 3) rl (st.map (rV ads)))) : W p l e R s m args below meth c H locs cells slots Q (F0 m pc rl (.int v :: st.map (rV ads))) := by
  obtain ⟨hx, hb, -⟩ := F
  refine lv_if_gt hx hb hd ht (fun q => kt ?_) (fun q => kf ?_) <;> simpa [cmpB] using q
theorem icmpW_gt (F : Fx p s m args c D aC ads pth LL A L xs b0 q9 mi) {off : Int} {v y : Int32} {t : Nat} {rl : Array Slot} {H : Heap} {locs : List Loc} {cells slots : Nat} (hd : decode (mBy.getD mi code) pc = .ok (.if_icmp .gt off, 3)) (ht : (pc : Int) + off = (t : Int)) (kt : cmpB .gt v y = true → W p l e R s m args below meth c H locs cells slots Q (F0 m t rl (st.map (rV ads)))) (kf : cmpB .gt v y = false → W p l e R s m args below meth c H locs cells slots Q (F0 m (pc + 3) rl (st.map (rV ads)))) : W p l e R s m args below meth c H locs cells slots Q (F0 m pc rl (.int y :: .int v :: st.map (rV ads))) := by
  obtain ⟨hx, hb, -⟩ := F
  refine lv_icmp_gt hx hb hd ht (fun q => kt ?_) (fun q => kf ?_) <;> simpa [cmpB] using q
theorem ifW_le (F : Fx p s m args c D aC ads pth LL A L xs b0 q9 mi) {off : Int} {v : Int32} {t : Nat} {rl : Array Slot} {H : Heap} {locs : List Loc} {cells slots : Nat} (hd : decode (mBy.getD mi code) pc = .ok (.ifCond .le off, 3)) (ht : (pc : Int) + off = (t : Int)) (kt : cmpB .le v 0 = true → W p l e R s m args below meth c H locs cells slots Q (F0 m t rl (st.map (rV ads)))) (kf : cmpB .le v 0 = false → W p l e R s m args below meth c H locs cells slots Q (F0 m (pc + 3) rl (st.map (rV ads)))) : W p l e R s m args below meth c H locs cells slots Q (F0 m pc rl (.int v :: st.map (rV ads))) := by
  obtain ⟨hx, hb, -⟩ := F
  refine lv_if_le hx hb hd ht (fun q => kt ?_) (fun q => kf ?_) <;> simpa [cmpB] using q
theorem icmpW_le (F : Fx p s m args c D aC ads pth LL A L xs b0 q9 mi) {off : Int} {v y : Int32} {t : Nat} {rl : Array Slot} {H : Heap} {locs : List Loc} {cells slots : Nat} (hd : decode (mBy.getD mi code) pc = .ok (.if_icmp .le off, 3)) (ht : (pc : Int) + off = (t : Int)) (kt : cmpB .le v y = true → W p l e R s m args below meth c H locs cells slots Q (F0 m t rl (st.map (rV ads)))) (kf : cmpB .le v y = false → W p l e R s m args below meth c H locs cells slots Q (F0 m (pc + 3) rl (st.map (rV ads)))) : W p l e R s m args below meth c H locs cells slots Q (F0 m pc rl (.int y :: .int v :: st.map (rV ads))) := by
  obtain ⟨hx, hb, -⟩ := F
  refine lv_icmp_le hx hb hd ht (fun q => kt ?_) (fun q => kf ?_) <;> simpa [cmpB] using q
theorem si_if_eq (F : Fx p s m args c D aC ads pth LL A L xs b0 q9 mi) {fa fb fc : Nat} {off : Int} (hd : decode (mBy.getD mi code) pc = .ok (.ifCond .eq off, 3)) (hr : rsB (kOw mi) (pc, .ifCond .eq off, 3, fa, fb, fc) = true) (h : isem L xs mi pc 3 (.ifCond .eq off) fa fb fc ls st mem = some (.inl al)) (hk : alt al k = some r) (ih : ∀ s', k s' = some r → WA p l e R s m args below meth c Q D aC ads pth LL A mi cf sf s') : WA p l e R s m args below meth c Q D aC ads pth LL A mi cf sf (pc, ls, st, mem) := by
  have h : (match st with
    | .inl (.inl v) :: st => gB (cmpS .eq v 0) pc off ls st mem
    | .inl (.inr (.inr n)) :: st => gB (cmpZ .eq n 0) pc off ls st mem
    | _ => none) = some (.inl al) := h
  split at h
  · obtain ⟨t, ht, hh⟩ := gB_inv h hk
    intro rl H locs ⟨hl, hn, okl, oks, hP, hD, hS⟩
    obtain ⟨ho, oks2⟩ := List.forall_mem_cons.mp oks
    refine ifW_eq F hd ht (fun q => ?_) (fun q => ?_)
    · rcases hh with ⟨hc, hk⟩ | ⟨hc, hk⟩
      · exact ih _ hk rl H locs ⟨hl, hn, okl, oks2, hP, hD, hS⟩
      · rw [cmpS_eq, q] at hc; cases hc
    · rcases hh with ⟨hc, hk⟩ | ⟨hc, hk⟩
      · rw [cmpS_eq, q] at hc; cases hc
      · exact ih _ hk rl H locs ⟨hl, hn, okl, oks2, hP, hD, hS⟩
  · obtain ⟨t, ht, hh⟩ := gB_inv h hk
    intro rl H locs ⟨hl, hn, okl, oks, hP, hD, hS⟩
    obtain ⟨ho, oks2⟩ := List.forall_mem_cons.mp oks
    refine ifW_eq F hd ht (fun q => ?_) (fun q => ?_)
    · rcases hh with ⟨hc, hk⟩ | ⟨hc, hk⟩
      · exact ih _ hk rl H locs ⟨hl, hn, okl, oks2, hP, hD, hS⟩
      · rw [show cmpZ .eq _ 0 = cmpB .eq _ 0 from cmpZ_eq ho (by decide), q] at hc; cases hc
    · rcases hh with ⟨hc, hk⟩ | ⟨hc, hk⟩
      · rw [show cmpZ .eq _ 0 = cmpB .eq _ 0 from cmpZ_eq ho (by decide), q] at hc; cases hc
      · exact ih _ hk rl H locs ⟨hl, hn, okl, oks2, hP, hD, hS⟩
  · cases h
theorem si_icmp_eq (F : Fx p s m args c D aC ads pth LL A L xs b0 q9 mi) {fa fb fc : Nat} {off : Int} (hd : decode (mBy.getD mi code) pc = .ok (.if_icmp .eq off, 3)) (hr : rsB (kOw mi) (pc, .if_icmp .eq off, 3, fa, fb, fc) = true) (h : isem L xs mi pc 3 (.if_icmp .eq off) fa fb fc ls st mem = some (.inl al)) (hk : alt al k = some r) (ih : ∀ s', k s' = some r → WA p l e R s m args below meth c Q D aC ads pth LL A mi cf sf s') : WA p l e R s m args below meth c Q D aC ads pth LL A mi cf sf (pc, ls, st, mem) := by
  have h : (match st with
    | .inl (.inr (.inr n)) :: .inl (.inr (.inr j)) :: st => gB (cmpZ .eq j n) pc off ls st mem
    | _ => pI st fun y st => pI st fun v st => gB (cmpS .eq v y) pc off ls st mem) = some (.inl al) := h
  split at h
  · obtain ⟨t, ht, hh⟩ := gB_inv h hk
    intro rl H locs ⟨hl, hn, okl, oks, hP, hD, hS⟩
    obtain ⟨ho, o2⟩ := List.forall_mem_cons.mp oks
    obtain ⟨ho2, oks2⟩ := List.forall_mem_cons.mp o2
    refine icmpW_eq F hd ht (fun q => ?_) (fun q => ?_)
    · rcases hh with ⟨hc, hk⟩ | ⟨hc, hk⟩
      · exact ih _ hk rl H locs ⟨hl, hn, okl, oks2, hP, hD, hS⟩
      · rw [cmpZ_eq ho2 ho, q] at hc; cases hc
    · rcases hh with ⟨hc, hk⟩ | ⟨hc, hk⟩
      · rw [cmpZ_eq ho2 ho, q] at hc; cases hc
      · exact ih _ hk rl H locs ⟨hl, hn, okl, oks2, hP, hD, hS⟩
  · obtain ⟨y, u1, st, rfl, hu1, h⟩ := pI_inv h
    obtain ⟨v, u2, st, rfl, hu2, h⟩ := pI_inv h
    obtain ⟨t, ht, hh⟩ := gB_inv h hk
    intro rl H locs ⟨hl, hn, okl, oks, hP, hD, hS⟩
    have oks2 := (List.forall_mem_cons.mp (List.forall_mem_cons.mp oks).2).2
    simp only [List.map_cons, hu1 ads, hu2 ads]
    refine icmpW_eq F hd ht (fun q => ?_) (fun q => ?_)
    · rcases hh with ⟨hc, hk⟩ | ⟨hc, hk⟩
      · exact ih _ hk rl H locs ⟨hl, hn, okl, oks2, hP, hD, hS⟩
      · rw [cmpS_eq, q] at hc; cases hc
    · rcases hh with ⟨hc, hk⟩ | ⟨hc, hk⟩
      · rw [cmpS_eq, q] at hc; cases hc
      · exact ih _ hk rl H locs ⟨hl, hn, okl, oks2, hP, hD, hS⟩
theorem si_if_ne (F : Fx p s m args c D aC ads pth LL A L xs b0 q9 mi) {fa fb fc : Nat} {off : Int} (hd : decode (mBy.getD mi code) pc = .ok (.ifCond .ne off, 3)) (hr : rsB (kOw mi) (pc, .ifCond .ne off, 3, fa, fb, fc) = true) (h : isem L xs mi pc 3 (.ifCond .ne off) fa fb fc ls st mem = some (.inl al)) (hk : alt al k = some r) (ih : ∀ s', k s' = some r → WA p l e R s m args below meth c Q D aC ads pth LL A mi cf sf s') : WA p l e R s m args below meth c Q D aC ads pth LL A mi cf sf (pc, ls, st, mem) := by
  have h : (match st with
    | .inl (.inl v) :: st => gB (cmpS .ne v 0) pc off ls st mem
    | .inl (.inr (.inr n)) :: st => gB (cmpZ .ne n 0) pc off ls st mem
    | _ => none) = some (.inl al) := h
  split at h
  · obtain ⟨t, ht, hh⟩ := gB_inv h hk
    intro rl H locs ⟨hl, hn, okl, oks, hP, hD, hS⟩
    obtain ⟨ho, oks2⟩ := List.forall_mem_cons.mp oks
    refine ifW_ne F hd ht (fun q => ?_) (fun q => ?_)
    · rcases hh with ⟨hc, hk⟩ | ⟨hc, hk⟩
      · exact ih _ hk rl H locs ⟨hl, hn, okl, oks2, hP, hD, hS⟩
      · rw [cmpS_eq, q] at hc; cases hc
    · rcases hh with ⟨hc, hk⟩ | ⟨hc, hk⟩
      · rw [cmpS_eq, q] at hc; cases hc
      · exact ih _ hk rl H locs ⟨hl, hn, okl, oks2, hP, hD, hS⟩
  · obtain ⟨t, ht, hh⟩ := gB_inv h hk
    intro rl H locs ⟨hl, hn, okl, oks, hP, hD, hS⟩
    obtain ⟨ho, oks2⟩ := List.forall_mem_cons.mp oks
    refine ifW_ne F hd ht (fun q => ?_) (fun q => ?_)
    · rcases hh with ⟨hc, hk⟩ | ⟨hc, hk⟩
      · exact ih _ hk rl H locs ⟨hl, hn, okl, oks2, hP, hD, hS⟩
      · rw [show cmpZ .ne _ 0 = cmpB .ne _ 0 from cmpZ_eq ho (by decide), q] at hc; cases hc
    · rcases hh with ⟨hc, hk⟩ | ⟨hc, hk⟩
      · rw [show cmpZ .ne _ 0 = cmpB .ne _ 0 from cmpZ_eq ho (by decide), q] at hc; cases hc
      · exact ih _ hk rl H locs ⟨hl, hn, okl, oks2, hP, hD, hS⟩
  · cases h
theorem si_icmp_ne (F : Fx p s m args c D aC ads pth LL A L xs b0 q9 mi) {fa fb fc : Nat} {off : Int} (hd : decode (mBy.getD mi code) pc = .ok (.if_icmp .ne off, 3)) (hr : rsB (kOw mi) (pc, .if_icmp .ne off, 3, fa, fb, fc) = true) (h : isem L xs mi pc 3 (.if_icmp .ne off) fa fb fc ls st mem = some (.inl al)) (hk : alt al k = some r) (ih : ∀ s', k s' = some r → WA p l e R s m args below meth c Q D aC ads pth LL A mi cf sf s') : WA p l e R s m args below meth c Q D aC ads pth LL A mi cf sf (pc, ls, st, mem) := by
  have h : (match st with
    | .inl (.inr (.inr n)) :: .inl (.inr (.inr j)) :: st => gB (cmpZ .ne j n) pc off ls st mem
    | _ => pI st fun y st => pI st fun v st => gB (cmpS .ne v y) pc off ls st mem) = some (.inl al) := h
  split at h
  · obtain ⟨t, ht, hh⟩ := gB_inv h hk
    intro rl H locs ⟨hl, hn, okl, oks, hP, hD, hS⟩
    obtain ⟨ho, o2⟩ := List.forall_mem_cons.mp oks
    obtain ⟨ho2, oks2⟩ := List.forall_mem_cons.mp o2
    refine icmpW_ne F hd ht (fun q => ?_) (fun q => ?_)
    · rcases hh with ⟨hc, hk⟩ | ⟨hc, hk⟩
      · exact ih _ hk rl H locs ⟨hl, hn, okl, oks2, hP, hD, hS⟩
      · rw [cmpZ_eq ho2 ho, q] at hc; cases hc
    · rcases hh with ⟨hc, hk⟩ | ⟨hc, hk⟩
      · rw [cmpZ_eq ho2 ho, q] at hc; cases hc
      · exact ih _ hk rl H locs ⟨hl, hn, okl, oks2, hP, hD, hS⟩
  · obtain ⟨y, u1, st, rfl, hu1, h⟩ := pI_inv h
    obtain ⟨v, u2, st, rfl, hu2, h⟩ := pI_inv h
    obtain ⟨t, ht, hh⟩ := gB_inv h hk
    intro rl H locs ⟨hl, hn, okl, oks, hP, hD, hS⟩
    have oks2 := (List.forall_mem_cons.mp (List.forall_mem_cons.mp oks).2).2
    simp only [List.map_cons, hu1 ads, hu2 ads]
    refine icmpW_ne F hd ht (fun q => ?_) (fun q => ?_)
    · rcases hh with ⟨hc, hk⟩ | ⟨hc, hk⟩
      · exact ih _ hk rl H locs ⟨hl, hn, okl, oks2, hP, hD, hS⟩
      · rw [cmpS_eq, q] at hc; cases hc
    · rcases hh with ⟨hc, hk⟩ | ⟨hc, hk⟩
      · rw [cmpS_eq, q] at hc; cases hc
      · exact ih _ hk rl H locs ⟨hl, hn, okl, oks2, hP, hD, hS⟩
theorem si_if_lt (F : Fx p s m args c D aC ads pth LL A L xs b0 q9 mi) {fa fb fc : Nat} {off : Int} (hd : decode (mBy.getD mi code) pc = .ok (.ifCond .lt off, 3)) (hr : rsB (kOw mi) (pc, .ifCond .lt off, 3, fa, fb, fc) = true) (h : isem L xs mi pc 3 (.ifCond .lt off) fa fb fc ls st mem = some (.inl al)) (hk : alt al k = some r) (ih : ∀ s', k s' = some r → WA p l e R s m args below meth c Q D aC ads pth LL A mi cf sf s') : WA p l e R s m args below meth c Q D aC ads pth LL A mi cf sf (pc, ls, st, mem) := by
  have h : (match st with
    | .inl (.inl v) :: st => gB (cmpS .lt v 0) pc off ls st mem
    | .inl (.inr (.inr n)) :: st => gB (cmpZ .lt n 0) pc off ls st mem
    | _ => none) = some (.inl al) := h
  split at h
  · obtain ⟨t, ht, hh⟩ := gB_inv h hk
    intro rl H locs ⟨hl, hn, okl, oks, hP, hD, hS⟩
    obtain ⟨ho, oks2⟩ := List.forall_mem_cons.mp oks
    refine ifW_lt F hd ht (fun q => ?_) (fun q => ?_)
    · rcases hh with ⟨hc, hk⟩ | ⟨hc, hk⟩
      · exact ih _ hk rl H locs ⟨hl, hn, okl, oks2, hP, hD, hS⟩
      · rw [cmpS_eq, q] at hc; cases hc
    · rcases hh with ⟨hc, hk⟩ | ⟨hc, hk⟩
      · rw [cmpS_eq, q] at hc; cases hc
      · exact ih _ hk rl H locs ⟨hl, hn, okl, oks2, hP, hD, hS⟩
  · obtain ⟨t, ht, hh⟩ := gB_inv h hk
    intro rl H locs ⟨hl, hn, okl, oks, hP, hD, hS⟩
    obtain ⟨ho, oks2⟩ := List.forall_mem_cons.mp oks
    refine ifW_lt F hd ht (fun q => ?_) (fun q => ?_)
    · rcases hh with ⟨hc, hk⟩ | ⟨hc, hk⟩
      · exact ih _ hk rl H locs ⟨hl, hn, okl, oks2, hP, hD, hS⟩
      · rw [show cmpZ .lt _ 0 = cmpB .lt _ 0 from cmpZ_eq ho (by decide), q] at hc; cases hc
    · rcases hh with ⟨hc, hk⟩ | ⟨hc, hk⟩
      · rw [show cmpZ .lt _ 0 = cmpB .lt _ 0 from cmpZ_eq ho (by decide), q] at hc; cases hc
      · exact ih _ hk rl H locs ⟨hl, hn, okl, oks2, hP, hD, hS⟩
  · cases h
theorem si_icmp_lt (F : Fx p s m args c D aC ads pth LL A L xs b0 q9 mi) {fa fb fc : Nat} {off : Int} (hd : decode (mBy.getD mi code) pc = .ok (.if_icmp .lt off, 3)) (hr : rsB (kOw mi) (pc, .if_icmp .lt off, 3, fa, fb, fc) = true) (h : isem L xs mi pc 3 (.if_icmp .lt off) fa fb fc ls st mem = some (.inl al)) (hk : alt al k = some r) (ih : ∀ s', k s' = some r → WA p l e R s m args below meth c Q D aC ads pth LL A mi cf sf s') : WA p l e R s m args below meth c Q D aC ads pth LL A mi cf sf (pc, ls, st, mem) := by
  have h : (match st with
    | .inl (.inr (.inr n)) :: .inl (.inr (.inr j)) :: st => gB (cmpZ .lt j n) pc off ls st mem
    | _ => pI st fun y st => pI st fun v st => gB (cmpS .lt v y) pc off ls st mem) = some (.inl al) := h
  split at h
  · obtain ⟨t, ht, hh⟩ := gB_inv h hk
    intro rl H locs ⟨hl, hn, okl, oks, hP, hD, hS⟩
    obtain ⟨ho, o2⟩ := List.forall_mem_cons.mp oks
    obtain ⟨ho2, oks2⟩ := List.forall_mem_cons.mp o2
    refine icmpW_lt F hd ht (fun q => ?_) (fun q => ?_)
    · rcases hh with ⟨hc, hk⟩ | ⟨hc, hk⟩
      · exact ih _ hk rl H locs ⟨hl, hn, okl, oks2, hP, hD, hS⟩
      · rw [cmpZ_eq ho2 ho, q] at hc; cases hc
    · rcases hh with ⟨hc, hk⟩ | ⟨hc, hk⟩
      · rw [cmpZ_eq ho2 ho, q] at hc; cases hc
      · exact ih _ hk rl H locs ⟨hl, hn, okl, oks2, hP, hD, hS⟩
  · obtain ⟨y, u1, st, rfl, hu1, h⟩ := pI_inv h
    obtain ⟨v, u2, st, rfl, hu2, h⟩ := pI_inv h
    obtain ⟨t, ht, hh⟩ := gB_inv h hk
    intro rl H locs ⟨hl, hn, okl, oks, hP, hD, hS⟩
    have oks2 := (List.forall_mem_cons.mp (List.forall_mem_cons.mp oks).2).2
    simp only [List.map_cons, hu1 ads, hu2 ads]
    refine icmpW_lt F hd ht (fun q => ?_) (fun q => ?_)
    · rcases hh with ⟨hc, hk⟩ | ⟨hc, hk⟩
      · exact ih _ hk rl H locs ⟨hl, hn, okl, oks2, hP, hD, hS⟩
      · rw [cmpS_eq, q] at hc; cases hc
    · rcases hh with ⟨hc, hk⟩ | ⟨hc, hk⟩
      · rw [cmpS_eq, q] at hc; cases hc
      · exact ih _ hk rl H locs ⟨hl, hn, okl, oks2, hP, hD, hS⟩
theorem si_if_ge (F : Fx p s m args c D aC ads pth LL A L xs b0 q9 mi) {fa fb fc : Nat} {off : Int} (hd : decode (mBy.getD mi code) pc = .ok (.ifCond .ge off, 3)) (hr : rsB (kOw mi) (pc, .ifCond .ge off, 3, fa, fb, fc) = true) (h : isem L xs mi pc 3 (.ifCond .ge off) fa fb fc ls st mem = some (.inl al)) (hk : alt al k = some r) (ih : ∀ s', k s' = some r → WA p l e R s m args below meth c Q D aC ads pth LL A mi cf sf s') : WA p l e R s m args below meth c Q D aC ads pth LL A mi cf sf (pc, ls, st, mem) := by
  have h : (match st with
    | .inl (.inl v) :: st => gB (cmpS .ge v 0) pc off ls st mem
    | .inl (.inr (.inr n)) :: st => gB (cmpZ .ge n 0) pc off ls st mem
    | _ => none) = some (.inl al) := h
  split at h
  · obtain ⟨t, ht, hh⟩ := gB_inv h hk
    intro rl H locs ⟨hl, hn, okl, oks, hP, hD, hS⟩
    obtain ⟨ho, oks2⟩ := List.forall_mem_cons.mp oks
    refine ifW_ge F hd ht (fun q => ?_) (fun q => ?_)
    · rcases hh with ⟨hc, hk⟩ | ⟨hc, hk⟩
      · exact ih _ hk rl H locs ⟨hl, hn, okl, oks2, hP, hD, hS⟩
      · rw [cmpS_eq, q] at hc; cases hc
    · rcases hh with ⟨hc, hk⟩ | ⟨hc, hk⟩
      · rw [cmpS_eq, q] at hc; cases hc
      · exact ih _ hk rl H locs ⟨hl, hn, okl, oks2, hP, hD, hS⟩
  · obtain ⟨t, ht, hh⟩ := gB_inv h hk
    intro rl H locs ⟨hl, hn, okl, oks, hP, hD, hS⟩
    obtain ⟨ho, oks2⟩ := List.forall_mem_cons.mp oks
    refine ifW_ge F hd ht (fun q => ?_) (fun q => ?_)
    · rcases hh with ⟨hc, hk⟩ | ⟨hc, hk⟩
      · exact ih _ hk rl H locs ⟨hl, hn, okl, oks2, hP, hD, hS⟩
      · rw [show cmpZ .ge _ 0 = cmpB .ge _ 0 from cmpZ_eq ho (by decide), q] at hc; cases hc
    · rcases hh with ⟨hc, hk⟩ | ⟨hc, hk⟩
      · rw [show cmpZ .ge _ 0 = cmpB .ge _ 0 from cmpZ_eq ho (by decide), q] at hc; cases hc
      · exact ih _ hk rl H locs ⟨hl, hn, okl, oks2, hP, hD, hS⟩
  · cases h
theorem si_icmp_ge (F : Fx p s m args c D aC ads pth LL A L xs b0 q9 mi) {fa fb fc : Nat} {off : Int} (hd : decode (mBy.getD mi code) pc = .ok (.if_icmp .ge off, 3)) (hr : rsB (kOw mi) (pc, .if_icmp .ge off, 3, fa, fb, fc) = true) (h : isem L xs mi pc 3 (.if_icmp .ge off) fa fb fc ls st mem = some (.inl al)) (hk : alt al k = some r) (ih : ∀ s', k s' = some r → WA p l e R s m args below meth c Q D aC ads pth LL A mi cf sf s') : WA p l e R s m args below meth c Q D aC ads pth LL A mi cf sf (pc, ls, st, mem) := by
  have h : (match st with
    | .inl (.inr (.inr n)) :: .inl (.inr (.inr j)) :: st => gB (cmpZ .ge j n) pc off ls st mem
    | _ => pI st fun y st => pI st fun v st => gB (cmpS .ge v y) pc off ls st mem) = some (.inl al) := h
  split at h
  · obtain ⟨t, ht, hh⟩ := gB_inv h hk
    intro rl H locs ⟨hl, hn, okl, oks, hP, hD, hS⟩
    obtain ⟨ho, o2⟩ := List.forall_mem_cons.mp oks
    obtain ⟨ho2, oks2⟩ := List.forall_mem_cons.mp o2
    refine icmpW_ge F hd ht (fun q => ?_) (fun q => ?_)
    · rcases hh with ⟨hc, hk⟩ | ⟨hc, hk⟩
      · exact ih _ hk rl H locs ⟨hl, hn, okl, oks2, hP, hD, hS⟩
      · rw [cmpZ_eq ho2 ho, q] at hc; cases hc
    · rcases hh with ⟨hc, hk⟩ | ⟨hc, hk⟩
      · rw [cmpZ_eq ho2 ho, q] at hc; cases hc
      · exact ih _ hk rl H locs ⟨hl, hn, okl, oks2, hP, hD, hS⟩
  · obtain ⟨y, u1, st, rfl, hu1, h⟩ := pI_inv h
    obtain ⟨v, u2, st, rfl, hu2, h⟩ := pI_inv h
    obtain ⟨t, ht, hh⟩ := gB_inv h hk
    intro rl H locs ⟨hl, hn, okl, oks, hP, hD, hS⟩
    have oks2 := (List.forall_mem_cons.mp (List.forall_mem_cons.mp oks).2).2
    simp only [List.map_cons, hu1 ads, hu2 ads]
    refine icmpW_ge F hd ht (fun q => ?_) (fun q => ?_)
    · rcases hh with ⟨hc, hk⟩ | ⟨hc, hk⟩
      · exact ih _ hk rl H locs ⟨hl, hn, okl, oks2, hP, hD, hS⟩
      · rw [cmpS_eq, q] at hc; cases hc
    · rcases hh with ⟨hc, hk⟩ | ⟨hc, hk⟩
      · rw [cmpS_eq, q] at hc; cases hc
      · exact ih _ hk rl H locs ⟨hl, hn, okl, oks2, hP, hD, hS⟩
theorem si_if_gt (F : Fx p s m args c D aC ads pth LL A L xs b0 q9 mi) {fa fb fc : Nat} {off : Int} (hd : decode (mBy.getD mi code) pc = .ok (.ifCond .gt off, 3)) (hr : rsB (kOw mi) (pc, .ifCond .gt off, 3, fa, fb, fc) = true) (h : isem L xs mi pc 3 (.ifCond .gt off) fa fb fc ls st mem = some (.inl al)) (hk : alt al k = some r) (ih : ∀ s', k s' = some r → WA p l e R s m args below meth c Q D aC ads pth LL A mi cf sf s') : WA p l e R s m args below meth c Q D aC ads pth LL A mi cf sf (pc, ls, st, mem) := by
  have h : (match st with
    | .inl (.inl v) :: st => gB (cmpS .gt v 0) pc off ls st mem
    | .inl (.inr (.inr n)) :: st => gB (cmpZ .gt n 0) pc off ls st mem
    | _ => none) = some (.inl al) := h
  split at h
  · obtain ⟨t, ht, hh⟩ := gB_inv h hk
    intro rl H locs ⟨hl, hn, okl, oks, hP, hD, hS⟩
    obtain ⟨ho, oks2⟩ := List.forall_mem_cons.mp oks
    refine ifW_gt F hd ht (fun q => ?_) (fun q => ?_)
    · rcases hh with ⟨hc, hk⟩ | ⟨hc, hk⟩
      · exact ih _ hk rl H locs ⟨hl, hn, okl, oks2, hP, hD, hS⟩
      · rw [cmpS_eq, q] at hc; cases hc
    · rcases hh with ⟨hc, hk⟩ | ⟨hc, hk⟩
      · rw [cmpS_eq, q] at hc; cases hc
      · exact ih _ hk rl H locs ⟨hl, hn, okl, oks2, hP, hD, hS⟩
  · obtain ⟨t, ht, hh⟩ := gB_inv h hk
    intro rl H locs ⟨hl, hn, okl, oks, hP, hD, hS⟩
    obtain ⟨ho, oks2⟩ := List.forall_mem_cons.mp oks
    refine ifW_gt F hd ht (fun q => ?_) (fun q => ?_)
    · rcases hh with ⟨hc, hk⟩ | ⟨hc, hk⟩
      · exact ih _ hk rl H locs ⟨hl, hn, okl, oks2, hP, hD, hS⟩
      · rw [show cmpZ .gt _ 0 = cmpB .gt _ 0 from cmpZ_eq ho (by decide), q] at hc; cases hc
    · rcases hh with ⟨hc, hk⟩ | ⟨hc, hk⟩
      · rw [show cmpZ .gt _ 0 = cmpB .gt _ 0 from cmpZ_eq ho (by decide), q] at hc; cases hc
      · exact ih _ hk rl H locs ⟨hl, hn, okl, oks2, hP, hD, hS⟩
  · cases h
theorem si_icmp_gt (F : Fx p s m args c D aC ads pth LL A L xs b0 q9 mi) {fa fb fc : Nat} {off : Int} (hd : decode (mBy.getD mi code) pc = .ok (.if_icmp .gt off, 3)) (hr : rsB (kOw mi) (pc, .if_icmp .gt off, 3, fa, fb, fc) = true) (h : isem L xs mi pc 3 (.if_icmp .gt off) fa fb fc ls st mem = some (.inl al)) (hk : alt al k = some r) (ih : ∀ s', k s' = some r → WA p l e R s m args below meth c Q D aC ads pth LL A mi cf sf s') : WA p l e R s m args below meth c Q D aC ads pth LL A mi cf sf (pc, ls, st, mem) := by
  have h : (match st with
    | .inl (.inr (.inr n)) :: .inl (.inr (.inr j)) :: st => gB (cmpZ .gt j n) pc off ls st mem
    | _ => pI st fun y st => pI st fun v st => gB (cmpS .gt v y) pc off ls st mem) = some (.inl al) := h
  split at h
  · obtain ⟨t, ht, hh⟩ := gB_inv h hk
    intro rl H locs ⟨hl, hn, okl, oks, hP, hD, hS⟩
    obtain ⟨ho, o2⟩ := List.forall_mem_cons.mp oks
    obtain ⟨ho2, oks2⟩ := List.forall_mem_cons.mp o2
    refine icmpW_gt F hd ht (fun q => ?_) (fun q => ?_)
    · rcases hh with ⟨hc, hk⟩ | ⟨hc, hk⟩
      · exact ih _ hk rl H locs ⟨hl, hn, okl, oks2, hP, hD, hS⟩
      · rw [cmpZ_eq ho2 ho, q] at hc; cases hc
    · rcases hh with ⟨hc, hk⟩ | ⟨hc, hk⟩
      · rw [cmpZ_eq ho2 ho, q] at hc; cases hc
      · exact ih _ hk rl H locs ⟨hl, hn, okl, oks2, hP, hD, hS⟩
  · obtain ⟨y, u1, st, rfl, hu1, h⟩ := pI_inv h
    obtain ⟨v, u2, st, rfl, hu2, h⟩ := pI_inv h
    obtain ⟨t, ht, hh⟩ := gB_inv h hk
    intro rl H locs ⟨hl, hn, okl, oks, hP, hD, hS⟩
    have oks2 := (List.forall_mem_cons.mp (List.forall_mem_cons.mp oks).2).2
    simp only [List.map_cons, hu1 ads, hu2 ads]
    refine icmpW_gt F hd ht (fun q => ?_) (fun q => ?_)
    · rcases hh with ⟨hc, hk⟩ | ⟨hc, hk⟩
      · exact ih _ hk rl H locs ⟨hl, hn, okl, oks2, hP, hD, hS⟩
      · rw [cmpS_eq, q] at hc; cases hc
    · rcases hh with ⟨hc, hk⟩ | ⟨hc, hk⟩
      · rw [cmpS_eq, q] at hc; cases hc
      · exact ih _ hk rl H locs ⟨hl, hn, okl, oks2, hP, hD, hS⟩
theorem si_if_le (F : Fx p s m args c D aC ads pth LL A L xs b0 q9 mi) {fa fb fc : Nat} {off : Int} (hd : decode (mBy.getD mi code) pc = .ok (.ifCond .le off, 3)) (hr : rsB (kOw mi) (pc, .ifCond .le off, 3, fa, fb, fc) = true) (h : isem L xs mi pc 3 (.ifCond .le off) fa fb fc ls st mem = some (.inl al)) (hk : alt al k = some r) (ih : ∀ s', k s' = some r → WA p l e R s m args below meth c Q D aC ads pth LL A mi cf sf s') : WA p l e R s m args below meth c Q D aC ads pth LL A mi cf sf (pc, ls, st, mem) := by
  have h : (match st with
    | .inl (.inl v) :: st => gB (cmpS .le v 0) pc off ls st mem
    | .inl (.inr (.inr n)) :: st => gB (cmpZ .le n 0) pc off ls st mem
    | _ => none) = some (.inl al) := h
  split at h
  · obtain ⟨t, ht, hh⟩ := gB_inv h hk
    intro rl H locs ⟨hl, hn, okl, oks, hP, hD, hS⟩
    obtain ⟨ho, oks2⟩ := List.forall_mem_cons.mp oks
    refine ifW_le F hd ht (fun q => ?_) (fun q => ?_)
    · rcases hh with ⟨hc, hk⟩ | ⟨hc, hk⟩
      · exact ih _ hk rl H locs ⟨hl, hn, okl, oks2, hP, hD, hS⟩
      · rw [cmpS_eq, q] at hc; cases hc
    · rcases hh with ⟨hc, hk⟩ | ⟨hc, hk⟩
      · rw [cmpS_eq, q] at hc; cases hc
      · exact ih _ hk rl H locs ⟨hl, hn, okl, oks2, hP, hD, hS⟩
  · obtain ⟨t, ht, hh⟩ := gB_inv h hk
    intro rl H locs ⟨hl, hn, okl, oks, hP, hD, hS⟩
    obtain ⟨ho, oks2⟩ := List.forall_mem_cons.mp oks
    refine ifW_le F hd ht (fun q => ?_) (fun q => ?_)
    · rcases hh with ⟨hc, hk⟩ | ⟨hc, hk⟩
      · exact ih _ hk rl H locs ⟨hl, hn, okl, oks2, hP, hD, hS⟩
      · rw [show cmpZ .le _ 0 = cmpB .le _ 0 from cmpZ_eq ho (by decide), q] at hc; cases hc
    · rcases hh with ⟨hc, hk⟩ | ⟨hc, hk⟩
      · rw [show cmpZ .le _ 0 = cmpB .le _ 0 from cmpZ_eq ho (by decide), q] at hc; cases hc
      · exact ih _ hk rl H locs ⟨hl, hn, okl, oks2, hP, hD, hS⟩
  · cases h
theorem si_icmp_le (F : Fx p s m args c D aC ads pth LL A L xs b0 q9 mi) {fa fb fc : Nat} {off : Int} (hd : decode (mBy.getD mi code) pc = .ok (.if_icmp .le off, 3)) (hr : rsB (kOw mi) (pc, .if_icmp .le off, 3, fa, fb, fc) = true) (h : isem L xs mi pc 3 (.if_icmp .le off) fa fb fc ls st mem = some (.inl al)) (hk : alt al k = some r) (ih : ∀ s', k s' = some r → WA p l e R s m args below meth c Q D aC ads pth LL A mi cf sf s') : WA p l e R s m args below meth c Q D aC ads pth LL A mi cf sf (pc, ls, st, mem) := by
  have h : (match st with
    | .inl (.inr (.inr n)) :: .inl (.inr (.inr j)) :: st => gB (cmpZ .le j n) pc off ls st mem
    | _ => pI st fun y st => pI st fun v st => gB (cmpS .le v y) pc off ls st mem) = some (.inl al) := h
  split at h
  · obtain ⟨t, ht, hh⟩ := gB_inv h hk
    intro rl H locs ⟨hl, hn, okl, oks, hP, hD, hS⟩
    obtain ⟨ho, o2⟩ := List.forall_mem_cons.mp oks
    obtain ⟨ho2, oks2⟩ := List.forall_mem_cons.mp o2
    refine icmpW_le F hd ht (fun q => ?_) (fun q => ?_)
    · rcases hh with ⟨hc, hk⟩ | ⟨hc, hk⟩
      · exact ih _ hk rl H locs ⟨hl, hn, okl, oks2, hP, hD, hS⟩
      · rw [cmpZ_eq ho2 ho, q] at hc; cases hc
    · rcases hh with ⟨hc, hk⟩ | ⟨hc, hk⟩
      · rw [cmpZ_eq ho2 ho, q] at hc; cases hc
      · exact ih _ hk rl H locs ⟨hl, hn, okl, oks2, hP, hD, hS⟩
  · obtain ⟨y, u1, st, rfl, hu1, h⟩ := pI_inv h
    obtain ⟨v, u2, st, rfl, hu2, h⟩ := pI_inv h
    obtain ⟨t, ht, hh⟩ := gB_inv h hk
    intro rl H locs ⟨hl, hn, okl, oks, hP, hD, hS⟩
    have oks2 := (List.forall_mem_cons.mp (List.forall_mem_cons.mp oks).2).2
    simp only [List.map_cons, hu1 ads, hu2 ads]
    refine icmpW_le F hd ht (fun q => ?_) (fun q => ?_)
    · rcases hh with ⟨hc, hk⟩ | ⟨hc, hk⟩
      · exact ih _ hk rl H locs ⟨hl, hn, okl, oks2, hP, hD, hS⟩
      · rw [cmpS_eq, q] at hc; cases hc
    · rcases hh with ⟨hc, hk⟩ | ⟨hc, hk⟩
      · rw [cmpS_eq, q] at hc; cases hc
      · exact ih _ hk rl H locs ⟨hl, hn, okl, oks2, hP, hD, hS⟩
theorem si_ifnull (F : Fx p s m args c D aC ads pth LL A L xs b0 q9 mi) {fa fb fc : Nat} {off : Int} (hd : decode (mBy.getD mi code) pc = .ok (.ifnull off, 3)) (hr : rsB (kOw mi) (pc, .ifnull off, 3, fa, fb, fc) = true) (h : isem L xs mi pc 3 (.ifnull off) fa fb fc ls st mem = some (.inl al)) (hk : alt al k = some r) (ih : ∀ s', k s' = some r → WA p l e R s m args below meth c Q D aC ads pth LL A mi cf sf s') : WA p l e R s m args below meth c Q D aC ads pth LL A mi cf sf (pc, ls, st, mem) := by
  obtain ⟨hx, hb, hml, hown, hts, hK, hE, ⟨hX, hbl, hbA, hb3⟩, ⟨hZ, hq9⟩⟩ := F
  have h : (match st with
      | .inr none :: st => gB true pc off ls st mem
      | .inr (some _) :: st => gB false pc off ls st mem
      | _ => none) = some (.inl al) := h
  split at h
  · obtain ⟨t, ht, hh⟩ := gB_inv h hk
    intro rl H locs ⟨hl, hn, okl, oks, hP, hD, hS⟩
    have oks2 := (List.forall_mem_cons.mp oks).2
    rcases hh with ⟨hc, hk⟩ | ⟨hc, hk⟩
    · refine lv_ifnullN hx hb hd ht ?_
      exact ih _ hk rl H locs ⟨hl, hn, okl, oks2, hP, hD, hS⟩
    · cases hc
  · obtain ⟨t, ht, hh⟩ := gB_inv h hk
    intro rl H locs ⟨hl, hn, okl, oks, hP, hD, hS⟩
    have oks2 := (List.forall_mem_cons.mp oks).2
    rcases hh with ⟨hc, hk⟩ | ⟨hc, hk⟩
    · cases hc
    · refine lv_ifnull hx hb hd ?_
      exact ih _ hk rl H locs ⟨hl, hn, okl, oks2, hP, hD, hS⟩
  · cases h
theorem si_ifnonnull (F : Fx p s m args c D aC ads pth LL A L xs b0 q9 mi) {fa fb fc : Nat} {off : Int} (hd : decode (mBy.getD mi code) pc = .ok (.ifnonnull off, 3)) (hr : rsB (kOw mi) (pc, .ifnonnull off, 3, fa, fb, fc) = true) (h : isem L xs mi pc 3 (.ifnonnull off) fa fb fc ls st mem = some (.inl al)) (hk : alt al k = some r) (ih : ∀ s', k s' = some r → WA p l e R s m args below meth c Q D aC ads pth LL A mi cf sf s') : WA p l e R s m args below meth c Q D aC ads pth LL A mi cf sf (pc, ls, st, mem) := by
  obtain ⟨hx, hb, hml, hown, hts, hK, hE, ⟨hX, hbl, hbA, hb3⟩, ⟨hZ, hq9⟩⟩ := F
  have h : (match st with
      | .inr none :: st => gB false pc off ls st mem
      | .inr (some _) :: st => gB true pc off ls st mem
      | _ => none) = some (.inl al) := h
  split at h
  · obtain ⟨t, ht, hh⟩ := gB_inv h hk
    intro rl H locs ⟨hl, hn, okl, oks, hP, hD, hS⟩
    have oks2 := (List.forall_mem_cons.mp oks).2
    rcases hh with ⟨hc, hk⟩ | ⟨hc, hk⟩
    · cases hc
    · refine lv_ifnonnullN hx hb hd ?_
      exact ih _ hk rl H locs ⟨hl, hn, okl, oks2, hP, hD, hS⟩
  · obtain ⟨t, ht, hh⟩ := gB_inv h hk
    intro rl H locs ⟨hl, hn, okl, oks, hP, hD, hS⟩
    have oks2 := (List.forall_mem_cons.mp oks).2
    rcases hh with ⟨hc, hk⟩ | ⟨hc, hk⟩
    · refine lv_ifnonnull hx hb hd ht ?_
      exact ih _ hk rl H locs ⟨hl, hn, okl, oks2, hP, hD, hS⟩
    · cases hc
  · cases h
theorem si_getfield (F : Fx p s m args c D aC ads pth LL A L xs b0 q9 mi) {fa fb fc : Nat} {j : Nat} (hd : decode (mBy.getD mi code) pc = .ok (.getfield j, 3)) (hr : rsB (kOw mi) (pc, .getfield j, 3, fa, fb, fc) = true) (h : isem L xs mi pc 3 (.getfield j) fa fb fc ls st mem = some (.inl al)) (hk : alt al k = some r) (ih : ∀ s', k s' = some r → WA p l e R s m args below meth c Q D aC ads pth LL A mi cf sf s') : WA p l e R s m args below meth c Q D aC ads pth LL A mi cf sf (pc, ls, st, mem) := by
  obtain ⟨hx, hb, hml, hown, hts, hK, hE, ⟨hX, hbl, hbA, hb3⟩, ⟨hZ, hq9⟩⟩ := F
  unfold isem at h
  dsimp only at h
  have hr2 : (fRs.getD (kOw mi) []).contains (j, fa, fb) = true ∧ fKd fa fb = some fc := by
    have h9 : ((Nat.beq (iLen (Instr.getfield j)) 0 || Nat.beq 3 (iLen (Instr.getfield j))) && ((fRs.getD (kOw mi) []).contains (j, fa, fb) && (fKd fa fb == some fc))) = true := hr
    simp only [Bool.and_eq_true, beq_iff_eq] at h9
    exact h9.2
  obtain ⟨hf, hk9⟩ := hr2
  have hf := List.contains_iff_mem.mp hf
  obtain ⟨cc, q, st, rfl, h1⟩ := pR_inv h
  clear h
  obtain ⟨hg, h⟩ := bif_inv h1
  clear h1
  have hci := Nat.eq_of_beq_eq_true hg
  subst hci
  obtain ⟨hc11, hkl⟩ := fKd_lt hk9
  obtain ⟨C, T, N, ty, hvw, hN, hu, hty, hnm, hO, hI, hZz⟩ := vw_all cc hc11
  have hlink : (Cond.fieldLink (cN (kOw mi)) j C (T fb).2.1 (T fb).2.2.1).before args s = true := by
    have h9 := fIn_all _ _ (List.mem_map.mpr ⟨(j, cc, fb), hf, rfl⟩)
    have e9 : vwCl.getD cc ("", fun _ => ("", "", "", false), 0) = (C, T, N) := by rw [List.getD_eq_getElem?_getD, hvw]; rfl
    have h10 : fWd (kOw mi) (j, cc, fb) = Cond.fieldLink (cN (kOw mi)) j C (T fb).2.1 (T fb).2.2.1 := by unfold fWd; rw [e9]
    rw [h10] at h9
    exact hts _ (lwg_of h9 rfl)
  intro rl H locs ⟨hl, hn, okl, oks, hP, hD, hS⟩
  obtain ⟨o1, o2⟩ := List.forall_mem_cons.mp oks
  have htag := okO o1 (by omega)
  obtain ⟨kp, hkp⟩ := wd_at (aC := aC) hE htag mem
  rw [cEl_obj hc11] at hkp
  have hfv := fLst_get (ads := ads) (p := q) (f := mem.1 q) hk9
  cases hb1 : Nat.ble fc 1 with
  | true =>
    rw [hb1] at h hfv
    have hk := gO_inv h hk
    refine va_get (own := cN (kOw mi)) (ref := C) (C := C) (T := T) (N := N) hx hb hts hu hown hK hP kp hkp hvw fb (by omega) hlink (fun x h9 => by rw [hO fb (by omega)] at h9; exact h9) hfv hd ?_
    exact ih _ hk rl H locs ⟨hl, hn, okl, List.forall_mem_cons.mpr ⟨trivial, o2⟩, hP, hD, hS⟩
  | false =>
    rw [hb1] at h hfv
    have hk := gO_inv h hk
    have hch : tagOf (fb :: q) = some (Nat.sub fc 2) := tag_ch htag (by unfold chT; rw [if_pos (tgK_obj cc hc11), hk9]; dsimp only; rw [hb1]; rfl)
    refine va_get (own := cN (kOw mi)) (ref := C) (C := C) (T := T) (N := N) hx hb hts hu hown hK hP kp hkp hvw fb (by omega) hlink (fun x h9 => by rw [hO fb (by omega)] at h9; exact h9) hfv hd ?_
    exact ih _ hk rl H locs ⟨hl, hn, okl, List.forall_mem_cons.mpr ⟨Or.inl hch, o2⟩, hP, hD, hS⟩
theorem si_putfield (F : Fx p s m args c D aC ads pth LL A L xs b0 q9 mi) {fa fb fc : Nat} {j : Nat} (hd : decode (mBy.getD mi code) pc = .ok (.putfield j, 3)) (hr : rsB (kOw mi) (pc, .putfield j, 3, fa, fb, fc) = true) (h : isem L xs mi pc 3 (.putfield j) fa fb fc ls st mem = some (.inl al)) (hk : alt al k = some r) (ih : ∀ s', k s' = some r → WA p l e R s m args below meth c Q D aC ads pth LL A mi cf sf s') : WA p l e R s m args below meth c Q D aC ads pth LL A mi cf sf (pc, ls, st, mem) := by
  obtain ⟨hx, hb, hml, hown, hts, hK, hE, ⟨hX, hbl, hbA, hb3⟩, ⟨hZ, hq9⟩⟩ := F
  unfold isem at h
  dsimp only at h
  have hr2 : (fRs.getD (kOw mi) []).contains (j, fa, fb) = true ∧ fKd fa fb = some fc := by
    have h9 : ((Nat.beq (iLen (Instr.putfield j)) 0 || Nat.beq 3 (iLen (Instr.putfield j))) && ((fRs.getD (kOw mi) []).contains (j, fa, fb) && (fKd fa fb == some fc))) = true := hr
    simp only [Bool.and_eq_true, beq_iff_eq] at h9
    exact h9.2
  obtain ⟨hf, hk9⟩ := hr2
  have hf := List.contains_iff_mem.mp hf
  obtain ⟨bz, v, u1, st, rfl, hu1, hbz, h0⟩ := pZ_inv h
  clear h
  have h := h0
  clear h0
  obtain ⟨cc, q, st, rfl, h1⟩ := pR_inv h
  clear h
  obtain ⟨hg, h⟩ := bif_inv h1
  clear h1
  have hci := Nat.eq_of_beq_eq_true hg
  subst hci
  obtain ⟨hc11, hkl⟩ := fKd_lt hk9
  obtain ⟨C, T, N, ty, hvw, hN, hu, hty, hnm, hO, hI, hZz⟩ := vw_all cc hc11
  have hlink : (Cond.fieldLink (cN (kOw mi)) j C (T fb).2.1 (T fb).2.2.1).before args s = true := by
    have h9 := fIn_all _ _ (List.mem_map.mpr ⟨(j, cc, fb), hf, rfl⟩)
    have e9 : vwCl.getD cc ("", fun _ => ("", "", "", false), 0) = (C, T, N) := by rw [List.getD_eq_getElem?_getD, hvw]; rfl
    have h10 : fWd (kOw mi) (j, cc, fb) = Cond.fieldLink (cN (kOw mi)) j C (T fb).2.1 (T fb).2.2.1 := by unfold fWd; rw [e9]
    rw [h10] at h9
    exact hts _ (lwg_of h9 rfl)
  intro rl H locs ⟨hl, hn, okl, oks, hP, hD, hS⟩
  simp only [List.map_cons, hu1 ads]
  obtain ⟨-, o1⟩ := List.forall_mem_cons.mp oks
  obtain ⟨o1, o2⟩ := List.forall_mem_cons.mp o1
  have htag := okO o1 (by omega)
  obtain ⟨kp, hkp0⟩ := wd_at (aC := aC) hE htag mem
  have hkp := hkp0
  rw [cEl_obj hc11] at hkp
  have hset : ∀ mem2 : mM, mem2 = (uI mem.1 q (upd (mem.1 q) fb v), mem.2) → Nat.ble fc 1 = true → (wd aC ads pth LL mem).set kp (ads q, .inr (cc, (fLst ads cc q (mem.1 q)).set fb (.int v))) = wd aC ads pth LL mem2 := by
    intro mem2 e2 hb1
    rw [fLst_set v hk9 hb1]
    have e3 : cEl aC ads cc q mem2 = .inr (cc, fLst ads cc q (upd (mem.1 q) fb v)) := by rw [cEl_obj hc11, e2]; dsimp only; rw [uI_same]
    rw [← e3]
    exact wd_set hE hD htag hkp0 (fun z hz => by rw [e2]; exact ⟨uI_ne hz, rfl⟩)
  cases hb0 : Nat.beq fc 0 with
  | true =>
    rw [hb0, cond_true] at h
    have hk := gO_inv h hk
    have ht := Nat.eq_of_beq_eq_true hb0
    subst ht
    obtain ⟨d1, d2⟩ := hI fb (by omega) hk9
    refine va_put (own := cN (kOw mi)) (ref := C) (C := C) (T := T) (N := N) (ty := .int) hx hb hts hu ty hty hnm hown hK hP hD hS kp hkp hvw fb (by omega) hlink (fun x h9 => by rw [hO fb (by omega)] at h9; exact h9) d2 (by rw [d1]; decide +kernel) rfl rfl (by rw [fLst_len]; exact hkl) hd (fun H1 locs1 hP1 hD1 hS1 => ?_)
    rw [hset _ rfl rfl] at hP1 hD1
    exact ih _ hk rl H1 locs1 ⟨hl, hn, okl, o2, hP1, hD1, hS1⟩
  | false =>
    rw [hb0, cond_false] at h
    obtain ⟨hb1, h⟩ := bif_inv h
    obtain ⟨hz, hk⟩ := gG_inv h hk
    have hz := hbz hz
    have ht := Nat.eq_of_beq_eq_true hb1
    subst ht
    obtain ⟨d1, d2⟩ := hZz fb (by omega) hk9
    refine va_put (own := cN (kOw mi)) (ref := C) (C := C) (T := T) (N := N) (ty := .boolean) hx hb hts hu ty hty hnm hown hK hP hD hS kp hkp hvw fb (by omega) hlink (fun x h9 => by rw [hO fb (by omega)] at h9; exact h9) d2 (by rw [d1]; decide +kernel) (isZ_nar hz) (isZ_fit hz) (by rw [fLst_len]; exact hkl) hd (fun H1 locs1 hP1 hD1 hS1 => ?_)
    rw [hset _ rfl rfl] at hP1 hD1
    exact ih _ hk rl H1 locs1 ⟨hl, hn, okl, o2, hP1, hD1, hS1⟩
theorem okA {cc : Nat} {q : List Nat} {n : Nat} (h : okV (vr cc q)) (hn : tgK cc = n) (h7 : n ≠ 7) (h8 : n ≠ 8) : tagOf q = some cc := by
  rcases h with h | ⟨h, -⟩ | ⟨h, -⟩
  · exact h
  · subst h; exact absurd hn.symm h7
  · subst h; exact absurd hn.symm h8
theorem tag_kind : ∀ {q : List Nat} {cc : Nat}, tagOf q = some cc → tgK cc < 7 := by
  intro q
  induction q with
  | nil => intro cc h; cases h
  | cons k q ih =>
    intro cc h
    cases q with
    | nil =>
      have h : rootT k = some cc := h
      unfold rootT at h
      repeat' split at h
      all_goals first | (cases h; decide) | cases h
    | cons z q =>
      have h : (tagOf (z :: q)).bind (fun c => chT c k) = some cc := h
      cases ht : tagOf (z :: q) with
      | none => rw [ht] at h; cases h
      | some d =>
        rw [ht] at h
        have h : chT d k = some cc := h
        unfold chT at h
        split at h
        · cases hf : fKd d k with
          | none => rw [hf] at h; cases h
          | some t =>
            rw [hf] at h
            dsimp only at h
            have hall : ∀ fs ∈ fKs, ∀ t ∈ fs, tgK (Nat.sub t 2) < 7 := by decide +kernel
            cases hb : Nat.ble t 1 with
            | true => rw [hb] at h; cases h
            | false =>
              rw [hb] at h
              cases h
              have h1 := List.mem_of_getElem? hf
              refine hall (fKs.getD d []) ?_ t h1
              rw [List.getD_eq_getElem?_getD]
              cases hd : fKs[d]? with
              | none => rw [List.getD_eq_getElem?_getD, hd] at h1; cases h1
              | some l => exact List.mem_of_getElem? hd
        · split at h
          · split at h
            · cases h; decide
            · cases h
          · split at h
            · split at h
              · cases h; decide
              · cases h
            · cases h
theorem cEl_1 {cc n : Nat} {q : List Nat} {mem : mM} (h : tgK cc = n) (hn : n = 1 ∨ n = 2 ∨ n = 3) : cEl aC ads cc q mem = .inl (aC n, tgN cc, .inl (mem.1 q)) := by
  unfold cEl
  rw [if_neg (by omega), h, if_neg (by omega), if_neg (by omega)]
theorem cEl_4 {cc : Nat} {q : List Nat} {mem : mM} (h : tgK cc = 4) : cEl aC ads cc q mem = .inl (aC 4, tgN cc, .inr (.inl (mem.2.1 q))) := by
  unfold cEl
  rw [if_neg (by omega), h, if_pos rfl]
theorem cEl_5 {cc n : Nat} {q : List Nat} {mem : mM} (h : tgK cc = n) (hn : n = 5 ∨ n = 6) : cEl aC ads cc q mem = .inl (aC n, tgN cc, .inr (.inr (.inr (.inr (fun j => some (ads (j :: q))))))) := by
  unfold cEl
  rw [if_neg (by omega), h, if_neg (by omega), if_pos hn]
theorem inB_lt {i : Int32} {n : Nat} (h : inB i n = true) : i.toNatClampNeg < n := by
  unfold inB at h
  simp only [Bool.and_eq_true, decide_eq_true_eq] at h
  exact h.2

theorem si_iaload (F : Fx p s m args c D aC ads pth LL A L xs b0 q9 mi) {fa fb fc : Nat}  (hd : decode (mBy.getD mi code) pc = .ok (.iaload, 1)) (hr : rsB (kOw mi) (pc, .iaload, 1, fa, fb, fc) = true) (h : isem L xs mi pc 1 (.iaload) fa fb fc ls st mem = some (.inl al)) (hk : alt al k = some r) (ih : ∀ s', k s' = some r → WA p l e R s m args below meth c Q D aC ads pth LL A mi cf sf s') : WA p l e R s m args below meth c Q D aC ads pth LL A mi cf sf (pc, ls, st, mem) := by
  obtain ⟨hx, hb, hml, hown, hts, hK, hE, ⟨hX, hbl, hbA, hb3⟩, ⟨hZ, hq9⟩⟩ := F
  obtain ⟨cc, q, st2, hst2, h⟩ := pR_inv h
  cases hb1 : Nat.beq (tgK cc) 1 with
  | true =>
    rw [hb1, cond_true] at h
    have hk1 := Nat.eq_of_beq_eq_true hb1
    obtain ⟨bi, i, v, u, st1, rfl, hu, hin, h⟩ := pX_inv h
    obtain rfl := (show st1 = vr cc q :: st2 from hst2)
    obtain ⟨hbi, hk⟩ := gG_inv h hk
    intro rl H locs ⟨hl, hn, okl, oks, hP, hD, hS⟩
    obtain ⟨ou, o1⟩ := List.forall_mem_cons.mp oks
    obtain ⟨o1, o2⟩ := List.forall_mem_cons.mp o1
    obtain ⟨hi, rfl⟩ := hin ou hbi
    simp only [List.map_cons, hu ads]
    have htag := okA o1 hk1 (by decide) (by decide)
    obtain ⟨kp, hkp⟩ := wd_at (aC := aC) hE htag mem
    rw [cEl_1 hk1 (Or.inl rfl)] at hkp
    refine va_iald hx hb hK hP kp 0 hkp rfl (inB_in hi) hd ?_
    exact ih _ hk rl H locs ⟨hl, hn, okl, List.forall_mem_cons.mpr ⟨trivial, o2⟩, hP, hD, hS⟩
  | false =>
    rw [hb1, cond_false] at h
    obtain ⟨hb7, h⟩ := bif_inv h
    have hk7 := Nat.eq_of_beq_eq_true hb7
    obtain ⟨bi, i, v, u, st1, rfl, hu, hin, h⟩ := pX_inv h
    obtain rfl := (show st1 = vr cc q :: st2 from hst2)
    obtain ⟨hbi, hk⟩ := gG_inv h hk
    intro rl H locs ⟨hl, hn, okl, oks, hP, hD, hS⟩
    obtain ⟨ou, o1⟩ := List.forall_mem_cons.mp oks
    obtain ⟨o1, o2⟩ := List.forall_mem_cons.mp o1
    obtain ⟨hi, rfl⟩ := hin ou hbi
    simp only [List.map_cons, hu ads]
    have hq : q = [3] := by
      rcases o1 with h9 | ⟨-, h9⟩ | ⟨h9, -⟩
      · have := tag_kind h9; omega
      · exact h9
      · subst h9; exact absurd hk7 (by decide)
    subst hq
    refine W.eq (g2 := F0 m pc rl (.int v :: .ref b0 :: st2.map (rV ads))) (by show F0 m pc rl (.int v :: .ref (ads [3]) :: _) = _; rw [hb3]) ?_
    refine va_sld hx hb hX hbl hbA hS (inB_in hi) hd ?_
    exact ih _ hk rl H locs ⟨hl, hn, okl, List.forall_mem_cons.mpr ⟨trivial, o2⟩, hP, hD, hS⟩
theorem si_baload (F : Fx p s m args c D aC ads pth LL A L xs b0 q9 mi) {fa fb fc : Nat}  (hd : decode (mBy.getD mi code) pc = .ok (.baload, 1)) (hr : rsB (kOw mi) (pc, .baload, 1, fa, fb, fc) = true) (h : isem L xs mi pc 1 (.baload) fa fb fc ls st mem = some (.inl al)) (hk : alt al k = some r) (ih : ∀ s', k s' = some r → WA p l e R s m args below meth c Q D aC ads pth LL A mi cf sf s') : WA p l e R s m args below meth c Q D aC ads pth LL A mi cf sf (pc, ls, st, mem) := by
  obtain ⟨hx, hb, hml, hown, hts, hK, hE, ⟨hX, hbl, hbA, hb3⟩, ⟨hZ, hq9⟩⟩ := F
  obtain ⟨cc, q, st2, hst2, h⟩ := pR_inv h
  obtain ⟨hbb, h⟩ := bif_inv h
  obtain ⟨bi, i, v, u, st1, rfl, hu, hin, h⟩ := pX_inv h
  obtain rfl := (show st1 = vr cc q :: st2 from hst2)
  obtain ⟨hbi, hk⟩ := gG_inv h hk
  intro rl H locs ⟨hl, hn, okl, oks, hP, hD, hS⟩
  obtain ⟨ou, o1⟩ := List.forall_mem_cons.mp oks
  obtain ⟨o1, o2⟩ := List.forall_mem_cons.mp o1
  obtain ⟨hi, rfl⟩ := hin ou hbi
  simp only [List.map_cons, hu ads]
  rcases (Bool.or_eq_true _ _ ▸ hbb : _ ∨ _) with hb1 | hb1
  · have hk1 := Nat.eq_of_beq_eq_true hb1
    have htag := okA o1 hk1 (by decide) (by decide)
    obtain ⟨kp, hkp⟩ := wd_at (aC := aC) hE htag mem
    rw [cEl_1 hk1 (Or.inr (Or.inl rfl))] at hkp
    refine va_zald hx hb hK hP kp 1 hkp rfl (inB_in hi) hd ?_
    exact ih _ hk rl H locs ⟨hl, hn, okl, List.forall_mem_cons.mpr ⟨trivial, o2⟩, hP, hD, hS⟩
  · have hk1 := Nat.eq_of_beq_eq_true hb1
    have htag := okA o1 hk1 (by decide) (by decide)
    obtain ⟨kp, hkp⟩ := wd_at (aC := aC) hE htag mem
    rw [cEl_1 hk1 (Or.inr (Or.inr rfl))] at hkp
    refine va_bald hx hb hK hP kp 2 hkp rfl (inB_in hi) hd ?_
    exact ih _ hk rl H locs ⟨hl, hn, okl, List.forall_mem_cons.mpr ⟨trivial, o2⟩, hP, hD, hS⟩
theorem si_laload (F : Fx p s m args c D aC ads pth LL A L xs b0 q9 mi) {fa fb fc : Nat}  (hd : decode (mBy.getD mi code) pc = .ok (.laload, 1)) (hr : rsB (kOw mi) (pc, .laload, 1, fa, fb, fc) = true) (h : isem L xs mi pc 1 (.laload) fa fb fc ls st mem = some (.inl al)) (hk : alt al k = some r) (ih : ∀ s', k s' = some r → WA p l e R s m args below meth c Q D aC ads pth LL A mi cf sf s') : WA p l e R s m args below meth c Q D aC ads pth LL A mi cf sf (pc, ls, st, mem) := by
  obtain ⟨hx, hb, hml, hown, hts, hK, hE, ⟨hX, hbl, hbA, hb3⟩, ⟨hZ, hq9⟩⟩ := F
  obtain ⟨cc, q, st2, hst2, h⟩ := pR_inv h
  obtain ⟨hbb, h⟩ := bif_inv h
  obtain ⟨bi, i, v, u, st1, rfl, hu, hin, h⟩ := pX_inv h
  obtain rfl := (show st1 = vr cc q :: st2 from hst2)
  obtain ⟨hbi, hk⟩ := gG_inv h hk
  intro rl H locs ⟨hl, hn, okl, oks, hP, hD, hS⟩
  obtain ⟨ou, o1⟩ := List.forall_mem_cons.mp oks
  obtain ⟨o1, o2⟩ := List.forall_mem_cons.mp o1
  obtain ⟨hi, rfl⟩ := hin ou hbi
  simp only [List.map_cons, hu ads]
  have hk1 := Nat.eq_of_beq_eq_true hbb
  have htag := okA o1 hk1 (by decide) (by decide)
  obtain ⟨kp, hkp⟩ := wd_at (aC := aC) hE htag mem
  rw [cEl_4 hk1] at hkp
  refine va_lald hx hb hK hP kp 3 hkp rfl (inB_in hi) hd ?_
  exact ih _ hk rl H locs ⟨hl, hn, okl, List.forall_mem_cons.mpr ⟨trivial, o2⟩, hP, hD, hS⟩
theorem si_aaload (F : Fx p s m args c D aC ads pth LL A L xs b0 q9 mi) {fa fb fc : Nat}  (hd : decode (mBy.getD mi code) pc = .ok (.aaload, 1)) (hr : rsB (kOw mi) (pc, .aaload, 1, fa, fb, fc) = true) (h : isem L xs mi pc 1 (.aaload) fa fb fc ls st mem = some (.inl al)) (hk : alt al k = some r) (ih : ∀ s', k s' = some r → WA p l e R s m args below meth c Q D aC ads pth LL A mi cf sf s') : WA p l e R s m args below meth c Q D aC ads pth LL A mi cf sf (pc, ls, st, mem) := by
  obtain ⟨hx, hb, hml, hown, hts, hK, hE, ⟨hX, hbl, hbA, hb3⟩, ⟨hZ, hq9⟩⟩ := F
  obtain ⟨cc, q, st2, hst2, h⟩ := pR_inv h
  cases hb1 : Nat.beq (tgK cc) 5 with
  | true =>
    rw [hb1, cond_true] at h
    have hk1 := Nat.eq_of_beq_eq_true hb1
    obtain ⟨bi, i, v, u, st1, rfl, hu, hin, h⟩ := pX_inv h
    obtain rfl := (show st1 = vr cc q :: st2 from hst2)
    obtain ⟨hbi, hk⟩ := gG_inv h hk
    intro rl H locs ⟨hl, hn, okl, oks, hP, hD, hS⟩
    obtain ⟨ou, o1⟩ := List.forall_mem_cons.mp oks
    obtain ⟨o1, o2⟩ := List.forall_mem_cons.mp o1
    obtain ⟨hi, rfl⟩ := hin ou hbi
    simp only [List.map_cons, hu ads]
    have htag := okA o1 hk1 (by decide) (by decide)
    obtain ⟨kp, hkp⟩ := wd_at (aC := aC) hE htag mem
    rw [cEl_5 hk1 (Or.inl rfl)] at hkp
    have hch : tagOf (v.toNatClampNeg :: q) = some 0 := tag_ch htag (by unfold chT; rw [if_neg (by omega), hk1]; rw [if_pos rfl]; rw [if_pos (inB_lt hi)])
    refine va_aldq (C := "TentPlain$Body") hx hb hK hP kp 4 hkp rfl (inB_in hi) hd ?_
    exact ih _ hk rl H locs ⟨hl, hn, okl, List.forall_mem_cons.mpr ⟨Or.inl hch, o2⟩, hP, hD, hS⟩
  | false =>
    rw [hb1, cond_false] at h
    obtain ⟨hb6, h⟩ := bif_inv h
    have hk1 := Nat.eq_of_beq_eq_true hb6
    obtain ⟨bi, i, v, u, st1, rfl, hu, hin, h⟩ := pX_inv h
    obtain rfl := (show st1 = vr cc q :: st2 from hst2)
    obtain ⟨hbi, hk⟩ := gG_inv h hk
    intro rl H locs ⟨hl, hn, okl, oks, hP, hD, hS⟩
    obtain ⟨ou, o1⟩ := List.forall_mem_cons.mp oks
    obtain ⟨o1, o2⟩ := List.forall_mem_cons.mp o1
    obtain ⟨hi, rfl⟩ := hin ou hbi
    simp only [List.map_cons, hu ads]
    have htag := okA o1 hk1 (by decide) (by decide)
    obtain ⟨kp, hkp⟩ := wd_at (aC := aC) hE htag mem
    rw [cEl_5 hk1 (Or.inr rfl)] at hkp
    have hch : tagOf (v.toNatClampNeg :: q) = some 4 := tag_ch htag (by unfold chT; rw [if_neg (by omega), hk1]; rw [if_neg (by decide), if_pos rfl]; rw [if_pos (inB_lt hi)])
    refine va_aldq (C := "TentPlain$Shelf") hx hb hK hP kp 5 hkp rfl (inB_in hi) hd ?_
    exact ih _ hk rl H locs ⟨hl, hn, okl, List.forall_mem_cons.mpr ⟨Or.inl hch, o2⟩, hP, hD, hS⟩
theorem si_iastore (F : Fx p s m args c D aC ads pth LL A L xs b0 q9 mi) {fa fb fc : Nat}  (hd : decode (mBy.getD mi code) pc = .ok (.iastore, 1)) (hr : rsB (kOw mi) (pc, .iastore, 1, fa, fb, fc) = true) (h : isem L xs mi pc 1 (.iastore) fa fb fc ls st mem = some (.inl al)) (hk : alt al k = some r) (ih : ∀ s', k s' = some r → WA p l e R s m args below meth c Q D aC ads pth LL A mi cf sf s') : WA p l e R s m args below meth c Q D aC ads pth LL A mi cf sf (pc, ls, st, mem) := by
  obtain ⟨hx, hb, hml, hown, hts, hK, hE, ⟨hX, hbl, hbA, hb3⟩, ⟨hZ, hq9⟩⟩ := F
  obtain ⟨cc, q, st2, hst2, h⟩ := pR_inv h
  obtain ⟨hbb, h⟩ := bif_inv h
  obtain ⟨w, uw, st3, rfl, huw, h3⟩ := pI_inv h
  obtain ⟨bi, i, v, u, st1, rfl, hu, hin, h⟩ := pX_inv h3
  obtain rfl := (show st1 = vr cc q :: st2 from hst2)
  obtain ⟨hbi, hk⟩ := gG_inv h hk
  intro rl H locs ⟨hl, hn, okl, oks, hP, hD, hS⟩
  obtain ⟨-, o0⟩ := List.forall_mem_cons.mp oks
  obtain ⟨ou, o1⟩ := List.forall_mem_cons.mp o0
  obtain ⟨o1, o2⟩ := List.forall_mem_cons.mp o1
  obtain ⟨hi, rfl⟩ := hin ou hbi
  simp only [List.map_cons, hu ads, huw ads]
  have hk1 := Nat.eq_of_beq_eq_true hbb
  have htag := okA o1 hk1 (by decide) (by decide)
  obtain ⟨kp, hkp0⟩ := wd_at (aC := aC) hE htag mem
  have hkp := hkp0
  rw [cEl_1 hk1 (Or.inl rfl)] at hkp
  refine va_iast hx hb hK hP hD hS kp 0 hkp rfl (inB_in hi) hd (fun H1 locs1 hP1 hD1 hS1 => ?_)
  have hset := wd_set (m2 := (uI mem.1 q (upd (mem.1 q) v.toNatClampNeg w), mem.2)) hE hD htag hkp0 (fun z hz => ⟨uI_ne hz, rfl⟩)
  rw [cEl_1 hk1 (Or.inl rfl)] at hset
  dsimp only at hset
  rw [uI_same] at hset
  rw [hset] at hP1 hD1
  exact ih _ hk rl H1 locs1 ⟨hl, hn, okl, o2, hP1, hD1, hS1⟩
theorem si_bastore (F : Fx p s m args c D aC ads pth LL A L xs b0 q9 mi) {fa fb fc : Nat}  (hd : decode (mBy.getD mi code) pc = .ok (.bastore, 1)) (hr : rsB (kOw mi) (pc, .bastore, 1, fa, fb, fc) = true) (h : isem L xs mi pc 1 (.bastore) fa fb fc ls st mem = some (.inl al)) (hk : alt al k = some r) (ih : ∀ s', k s' = some r → WA p l e R s m args below meth c Q D aC ads pth LL A mi cf sf s') : WA p l e R s m args below meth c Q D aC ads pth LL A mi cf sf (pc, ls, st, mem) := by
  obtain ⟨hx, hb, hml, hown, hts, hK, hE, ⟨hX, hbl, hbA, hb3⟩, ⟨hZ, hq9⟩⟩ := F
  obtain ⟨cc, q, st2, hst2, h⟩ := pR_inv h
  cases hb1 : Nat.beq (tgK cc) 2 with
  | true =>
    rw [hb1, cond_true] at h
    have hk1 := Nat.eq_of_beq_eq_true hb1
    obtain ⟨w, uw, st3, rfl, huw, h3⟩ := pI_inv h
    obtain ⟨bi, i, v, u, st1, rfl, hu, hin, h⟩ := pX_inv h3
    obtain rfl := (show st1 = vr cc q :: st2 from hst2)
    obtain ⟨hbi, hk⟩ := gG_inv h hk
    intro rl H locs ⟨hl, hn, okl, oks, hP, hD, hS⟩
    obtain ⟨-, o0⟩ := List.forall_mem_cons.mp oks
    obtain ⟨ou, o1⟩ := List.forall_mem_cons.mp o0
    obtain ⟨o1, o2⟩ := List.forall_mem_cons.mp o1
    obtain ⟨hi, rfl⟩ := hin ou hbi
    simp only [List.map_cons, hu ads, huw ads]
    have htag := okA o1 hk1 (by decide) (by decide)
    obtain ⟨kp, hkp0⟩ := wd_at (aC := aC) hE htag mem
    have hkp := hkp0
    rw [cEl_1 hk1 (Or.inr (Or.inl rfl))] at hkp
    refine va_zast hx hb hK hP hD hS kp 1 hkp rfl (inB_in hi) hd (fun H1 locs1 hP1 hD1 hS1 => ?_)
    have hset := wd_set (m2 := (uI mem.1 q (upd (mem.1 q) v.toNatClampNeg (vp_nar .boolean w)), mem.2)) hE hD htag hkp0 (fun z hz => ⟨uI_ne hz, rfl⟩)
    rw [cEl_1 hk1 (Or.inr (Or.inl rfl))] at hset
    dsimp only at hset
    rw [uI_same] at hset
    rw [hset] at hP1 hD1
    exact ih _ hk rl H1 locs1 ⟨hl, hn, okl, o2, hP1, hD1, hS1⟩
  | false =>
    rw [hb1, cond_false] at h
    obtain ⟨hb3, h⟩ := bif_inv h
    have hk1 := Nat.eq_of_beq_eq_true hb3
    obtain ⟨w, uw, st3, rfl, huw, h3⟩ := pI_inv h
    obtain ⟨bi, i, v, u, st1, rfl, hu, hin, h⟩ := pX_inv h3
    obtain rfl := (show st1 = vr cc q :: st2 from hst2)
    obtain ⟨hbi, hk⟩ := gG_inv h hk
    intro rl H locs ⟨hl, hn, okl, oks, hP, hD, hS⟩
    obtain ⟨-, o0⟩ := List.forall_mem_cons.mp oks
    obtain ⟨ou, o1⟩ := List.forall_mem_cons.mp o0
    obtain ⟨o1, o2⟩ := List.forall_mem_cons.mp o1
    obtain ⟨hi, rfl⟩ := hin ou hbi
    simp only [List.map_cons, hu ads, huw ads]
    have htag := okA o1 hk1 (by decide) (by decide)
    obtain ⟨kp, hkp0⟩ := wd_at (aC := aC) hE htag mem
    have hkp := hkp0
    rw [cEl_1 hk1 (Or.inr (Or.inr rfl))] at hkp
    refine va_bast hx hb hK hP hD hS kp 2 hkp rfl (inB_in hi) hd (fun H1 locs1 hP1 hD1 hS1 => ?_)
    have hset := wd_set (m2 := (uI mem.1 q (upd (mem.1 q) v.toNatClampNeg (vp_nar .byte w)), mem.2)) hE hD htag hkp0 (fun z hz => ⟨uI_ne hz, rfl⟩)
    rw [cEl_1 hk1 (Or.inr (Or.inr rfl))] at hset
    dsimp only at hset
    rw [uI_same] at hset
    rw [hset] at hP1 hD1
    exact ih _ hk rl H1 locs1 ⟨hl, hn, okl, o2, hP1, hD1, hS1⟩
theorem si_lastore (F : Fx p s m args c D aC ads pth LL A L xs b0 q9 mi) {fa fb fc : Nat}  (hd : decode (mBy.getD mi code) pc = .ok (.lastore, 1)) (hr : rsB (kOw mi) (pc, .lastore, 1, fa, fb, fc) = true) (h : isem L xs mi pc 1 (.lastore) fa fb fc ls st mem = some (.inl al)) (hk : alt al k = some r) (ih : ∀ s', k s' = some r → WA p l e R s m args below meth c Q D aC ads pth LL A mi cf sf s') : WA p l e R s m args below meth c Q D aC ads pth LL A mi cf sf (pc, ls, st, mem) := by
  obtain ⟨hx, hb, hml, hown, hts, hK, hE, ⟨hX, hbl, hbA, hb3⟩, ⟨hZ, hq9⟩⟩ := F
  obtain ⟨cc, q, st2, hst2, h⟩ := pR_inv h
  obtain ⟨hbb, h⟩ := bif_inv h
  obtain ⟨w, st3, rfl, h3⟩ := pL_inv h
  obtain ⟨bi, i, v, u, st1, rfl, hu, hin, h⟩ := pX_inv h3
  obtain rfl := (show st1 = vr cc q :: st2 from hst2)
  obtain ⟨hbi, hk⟩ := gG_inv h hk
  intro rl H locs ⟨hl, hn, okl, oks, hP, hD, hS⟩
  obtain ⟨-, o0⟩ := List.forall_mem_cons.mp oks
  obtain ⟨ou, o1⟩ := List.forall_mem_cons.mp o0
  obtain ⟨o1, o2⟩ := List.forall_mem_cons.mp o1
  obtain ⟨hi, rfl⟩ := hin ou hbi
  simp only [List.map_cons, hu ads]
  have hk1 := Nat.eq_of_beq_eq_true hbb
  have htag := okA o1 hk1 (by decide) (by decide)
  obtain ⟨kp, hkp0⟩ := wd_at (aC := aC) hE htag mem
  have hkp := hkp0
  rw [cEl_4 hk1] at hkp
  refine va_last hx hb hK hP hD hS kp 3 hkp rfl (inB_in hi) hd (fun H1 locs1 hP1 hD1 hS1 => ?_)
  have hset := wd_set (m2 := (mem.1, uL mem.2.1 q (vp_updL (mem.2.1 q) v.toNatClampNeg w), mem.2.2)) hE hD htag hkp0 (fun z hz => ⟨rfl, uL_ne hz⟩)
  rw [cEl_4 hk1] at hset
  dsimp only at hset
  rw [uL_same] at hset
  rw [hset] at hP1 hD1
  exact ih _ hk rl H1 locs1 ⟨hl, hn, okl, o2, hP1, hD1, hS1⟩
end Sim
