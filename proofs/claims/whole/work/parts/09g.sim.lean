/-! indexOf on the string of the FIELDS -/
def wsK (y : MethodName) (b : ByteArray) (n : Nat) (r : Option FieldType) : List Cond := Cond.code y b n r :: lw_g
set_option maxRecDepth 100000 in
theorem jl_ix : Cond.methodLink RX6 79 yJ0_indexOf_0f7a4 ∈ lw_g := lwg_of (List.mem_of_getElem? (i := 771) (by decide +kernel)) (by decide +kernel)
set_option maxRecDepth 100000 in
theorem ji_ix : Cond.instanceMethod yJ0_indexOf_0f7a4 ∈ lw_g := lwg_of (List.mem_of_getElem? (i := 772) (by decide +kernel)) (by decide +kernel)
set_option maxRecDepth 100000 in
theorem js_ix : Cond.selects "java/lang/String" yJ0_indexOf_0f7a4 yJ0_indexOf_0f7a4 ∈ lw_g := lwg_of (List.mem_of_getElem? (i := 773) (by decide +kernel)) (by decide +kernel)
set_option maxRecDepth 100000 in
theorem jc_ix : Cond.code yJ0_indexOf_0f7a4 cJ0_indexOf_0f7a4 2 (some .int) ∈ lw_g := lwg_of (List.mem_of_getElem? (i := 774) (by decide +kernel)) (by decide +kernel)
set_option maxRecDepth 100000 in
theorem jl_iy : Cond.methodLink RJ0 633 yJ0_indexOf_7cf53 ∈ lw_g := lwg_of (List.mem_of_getElem? (i := 775) (by decide +kernel)) (by decide +kernel)
set_option maxRecDepth 100000 in
theorem ji_iy : Cond.instanceMethod yJ0_indexOf_7cf53 ∈ lw_g := lwg_of (List.mem_of_getElem? (i := 776) (by decide +kernel)) (by decide +kernel)
set_option maxRecDepth 100000 in
theorem js_iy : Cond.selects "java/lang/String" yJ0_indexOf_7cf53 yJ0_indexOf_7cf53 ∈ lw_g := lwg_of (List.mem_of_getElem? (i := 777) (by decide +kernel)) (by decide +kernel)
set_option maxRecDepth 100000 in
theorem jc_iy : Cond.code yJ0_indexOf_7cf53 cJ0_indexOf_7cf53 3 (some .int) ∈ lw_g := lwg_of (List.mem_of_getElem? (i := 778) (by decide +kernel)) (by decide +kernel)
set_option maxRecDepth 100000 in
theorem jl_isl : Cond.methodLink RJ0 492 yJ0_isLatin1_aae02 ∈ lw_g := lwg_of (List.mem_of_getElem? (i := 779) (by decide +kernel)) (by decide +kernel)
set_option maxRecDepth 100000 in
theorem ji_isl : Cond.instanceMethod yJ0_isLatin1_aae02 ∈ lw_g := lwg_of (List.mem_of_getElem? (i := 780) (by decide +kernel)) (by decide +kernel)
set_option maxRecDepth 100000 in
theorem js_isl : Cond.selects "java/lang/String" yJ0_isLatin1_aae02 yJ0_isLatin1_aae02 ∈ lw_g := lwg_of (List.mem_of_getElem? (i := 781) (by decide +kernel)) (by decide +kernel)
set_option maxRecDepth 100000 in
theorem jc_isl : Cond.code yJ0_isLatin1_aae02 cJ0_isLatin1_aae02 1 (some .boolean) ∈ lw_g := lwg_of (List.mem_of_getElem? (i := 782) (by decide +kernel)) (by decide +kernel)
set_option maxRecDepth 100000 in
theorem jl_len : Cond.methodLink RJ0 505 yJ0_length_8abf5 ∈ lw_g := lwg_of (List.mem_of_getElem? (i := 785) (by decide +kernel)) (by decide +kernel)
set_option maxRecDepth 100000 in
theorem ji_len : Cond.instanceMethod yJ0_length_8abf5 ∈ lw_g := lwg_of (List.mem_of_getElem? (i := 786) (by decide +kernel)) (by decide +kernel)
set_option maxRecDepth 100000 in
theorem js_len : Cond.selects "java/lang/String" yJ0_length_8abf5 yJ0_length_8abf5 ∈ lw_g := lwg_of (List.mem_of_getElem? (i := 787) (by decide +kernel)) (by decide +kernel)
set_option maxRecDepth 100000 in
theorem jc_len : Cond.code yJ0_length_8abf5 cJ0_length_8abf5 1 (some .int) ∈ lw_g := lwg_of (List.mem_of_getElem? (i := 788) (by decide +kernel)) (by decide +kernel)
set_option maxRecDepth 100000 in
theorem jl_cod : Cond.methodLink RJ0 335 yJ0_coder_7d493 ∈ lw_g := lwg_of (List.mem_of_getElem? (i := 789) (by decide +kernel)) (by decide +kernel)
set_option maxRecDepth 100000 in
theorem ji_cod : Cond.instanceMethod yJ0_coder_7d493 ∈ lw_g := lwg_of (List.mem_of_getElem? (i := 790) (by decide +kernel)) (by decide +kernel)
set_option maxRecDepth 100000 in
theorem js_cod : Cond.selects "java/lang/String" yJ0_coder_7d493 yJ0_coder_7d493 ∈ lw_g := lwg_of (List.mem_of_getElem? (i := 791) (by decide +kernel)) (by decide +kernel)
set_option maxRecDepth 100000 in
theorem jc_cod : Cond.code yJ0_coder_7d493 cJ0_coder_7d493 1 (some .byte) ∈ lw_g := lwg_of (List.mem_of_getElem? (i := 792) (by decide +kernel)) (by decide +kernel)
set_option maxRecDepth 100000 in
theorem jl_lix : Cond.methodLink RJ0 637 yJ1_indexOf_4cfef ∈ lw_g := lwg_of (List.mem_of_getElem? (i := 793) (by decide +kernel)) (by decide +kernel)
set_option maxRecDepth 100000 in
theorem ji_lix : Cond.static yJ1_indexOf_4cfef ∈ lw_g := lwg_of (List.mem_of_getElem? (i := 794) (by decide +kernel)) (by decide +kernel)
set_option maxRecDepth 100000 in
theorem jc_lix : Cond.code yJ1_indexOf_4cfef cJ1_indexOf_4cfef 4 (some .int) ∈ lw_g := lwg_of (List.mem_of_getElem? (i := 795) (by decide +kernel)) (by decide +kernel)
set_option maxRecDepth 100000 in
theorem jl_can : Cond.methodLink RJ1 88 yJ1_canEncode_9a6ad ∈ lw_g := lwg_of (List.mem_of_getElem? (i := 796) (by decide +kernel)) (by decide +kernel)
set_option maxRecDepth 100000 in
theorem ji_can : Cond.static yJ1_canEncode_9a6ad ∈ lw_g := lwg_of (List.mem_of_getElem? (i := 797) (by decide +kernel)) (by decide +kernel)
set_option maxRecDepth 100000 in
theorem jc_can : Cond.code yJ1_canEncode_9a6ad cJ1_canEncode_9a6ad 1 (some .boolean) ∈ lw_g := lwg_of (List.mem_of_getElem? (i := 798) (by decide +kernel)) (by decide +kernel)
set_option maxRecDepth 100000 in
theorem jl_ich : Cond.methodLink RJ1 95 yJ1_indexOfChar_4cfef ∈ lw_g := lwg_of (List.mem_of_getElem? (i := 805) (by decide +kernel)) (by decide +kernel)
set_option maxRecDepth 100000 in
theorem ji_ich : Cond.static yJ1_indexOfChar_4cfef ∈ lw_g := lwg_of (List.mem_of_getElem? (i := 806) (by decide +kernel)) (by decide +kernel)
set_option maxRecDepth 100000 in
theorem jc_ich : Cond.code yJ1_indexOfChar_4cfef cJ1_indexOfChar_4cfef 6 (some .int) ∈ lw_g := lwg_of (List.mem_of_getElem? (i := 807) (by decide +kernel)) (by decide +kernel)
set_option maxRecDepth 100000 in
theorem jn_0 : Cond.initialized "java/lang/String" ∈ lw_g := lwg_of (List.mem_of_getElem? (i := 101) (by decide +kernel)) (by decide +kernel)
set_option maxRecDepth 100000 in
theorem jn_1 : Cond.initialized "java/lang/StringLatin1" ∈ lw_g := lwg_of (List.mem_of_getElem? (i := 102) (by decide +kernel)) (by decide +kernel)
set_option maxRecDepth 100000 in
theorem jf_38 : Cond.fieldLink "java/lang/String" 38 "java/lang/String" "COMPACT_STRINGS" "Z" ∈ lw_g := lwg_of (List.mem_of_getElem? (i := 783) (by decide +kernel)) (by decide +kernel)
set_option maxRecDepth 100000 in
theorem jf_15 : Cond.fieldLink "java/lang/String" 15 "java/lang/String" "coder" "B" ∈ lw_g := lwg_of (List.mem_of_getElem? (i := 2014) (by decide +kernel)) (by decide +kernel)
set_option maxRecDepth 100000 in
theorem jf_9 : Cond.fieldLink "java/lang/String" 9 "java/lang/String" "value" "[B" ∈ lw_g := lwg_of (List.mem_of_getElem? (i := 2015) (by decide +kernel)) (by decide +kernel)
set_option maxRecDepth 100000 in
theorem jm_max : Cond.methodLink "java/lang/StringLatin1" 92 Lib.Math.max.name ∈ lw_g := lwg_of (List.mem_of_getElem? (i := 799) (by decide +kernel)) (by decide +kernel)
set_option maxRecDepth 100000 in
theorem jm_min : Cond.methodLink "java/lang/StringLatin1" 38 Lib.Math.min.name ∈ lw_g := lwg_of (List.mem_of_getElem? (i := 802) (by decide +kernel)) (by decide +kernel)
theorem wsV_in {own C : String} {idx n : Nat} {y : MethodName} {b : ByteArray} {r : Option FieldType} (h1 : Cond.methodLink own idx y ∈ lw_g) (h2 : Cond.instanceMethod y ∈ lw_g) (h3 : Cond.selects C y y ∈ lw_g) (h4 : Cond.initialized C ∈ lw_g) (h5 : Cond.code y b n r ∈ lw_g) : ∀ w ∈ wsV own idx C y (wsK y b n r), w ∈ lw_g := by
  intro w hw
  unfold wsV wsK at hw
  rcases List.mem_append.mp hw with hw | hw
  · simp only [List.mem_cons, List.not_mem_nil, or_false] at hw
    rcases hw with rfl | rfl | rfl | rfl <;> assumption
  · rcases List.mem_cons.mp hw with rfl | hw
    · exact h5
    · exact hw
theorem wsS_in {own : String} {idx n : Nat} {y : MethodName} {b : ByteArray} {r : Option FieldType} (h1 : Cond.methodLink own idx y ∈ lw_g) (h2 : Cond.static y ∈ lw_g) (h4 : Cond.initialized y.cls ∈ lw_g) (h5 : Cond.code y b n r ∈ lw_g) : ∀ w ∈ va_wsS own idx y (wsK y b n r), w ∈ lw_g := by
  intro w hw
  unfold va_wsS wsK at hw
  rcases List.mem_append.mp hw with hw | hw
  · simp only [List.mem_cons, List.not_mem_nil, or_false] at hw
    rcases hw with rfl | rfl | rfl <;> assumption
  · rcases List.mem_cons.mp hw with rfl | hw
    · exact h5
    · exact hw
def AJ (sz : Nat) : Nat → Prop := fun q => sz ≤ q
def PJ (q9 : Nat) (av : Nat → Nat) (sz : Nat) (vs : List Value) : Array Value → State → Prop := va_Pc vs (fun U => U.heap.size = sz ∧ vk_S 1 [12] [zTx] (fun _ => q9) av (AJ sz) U U.heap ∧ va_Z "java/lang/String" "COMPACT_STRINGS" "Z" (.int 1) (AJ sz) U U.heap)
def QJ (v : Int32) (sz : Nat) : Array Value → State → Outcome → State → Prop := fun _ st oc t => oc = .returned (some (.int v)) ∧ va_F (AJ sz) st t
theorem PJ_blind {q9 sz : Nat} {av : Nat → Nat} {vs : List Value} : FrameBlind (PJ q9 av sz vs) := by
  intro a U g mk h
  obtain ⟨h0, h1, h2, h3⟩ := h
  exact ⟨h0, h1, vk_S.moved (u := U) (U := U.calling g mk a) (Vm.Alike.refl U.vm) h2, va_Z.moved (u := U) (U := U.calling g mk a) (Vm.Alike.refl U.vm) h3⟩
theorem PJ_of {q9 : Nat} {av : Nat → Nat} {vs : List Value} {A : Nat → Prop} {s U : State} {H : Heap} {locs : List Loc} (hS : vk_S 1 [12] [zTx] (fun _ => q9) av A s s.heap) (hZ : va_Z "java/lang/String" "COMPACT_STRINGS" "Z" (.int 1) A s s.heap) (hH : va_S A s.heap H locs) (hA : ∀ q, AJ H.size q → A q) (hU : U.heap = H) (hW : s.WarmedH U.vm) : PJ q9 av H.size vs vs.toArray U := by
  subst hU
  exact ⟨rfl, rfl, ((hS.moved hW.alike).kept hH.2.1).narrow hA, ((hZ.moved hW.alike).kept hH.2.1).narrow hA⟩
section J
variable {p : Program} {l : Launch} {e : Env} {R : Room} {s : State} {m : MethodId} {args : Array Value} {below : List Frame} {meth : Method} {c : Code} {Q : State → Prop}
theorem va_callJ {cells slots pc : Nat} {v : Int32} {H : Heap} {locs : List Loc} {ls : Array Slot} {rest st0 : List Value} {a : Array Value} {A : Nat → Prop} (hr : va_Run p l e R s m args below meth c H locs cells slots 0 0 (F0 m pc ls st0) rest (QJ v H.size a) (AJ H.size)) (hS : va_S A s.heap H locs) (hA : ∀ q, AJ H.size q → A q)
    (kk : ∀ (H1 : Heap) (locs1 : List Loc), (∀ q : Nat, q < H.size → H1[q]? = H[q]?) → va_S A s.heap H1 locs1 → W p l e R s m args below meth c H1 locs1 cells slots Q (F0 m (pc + 3) ls (.int v :: rest))) : W p l e R s m args below meth c H locs cells slots Q (F0 m pc ls st0) := by
  intro T hT X
  obtain ⟨v', st₀, t, T', L', h0, X', hL, e1, e2, ⟨hv, hz, hk⟩, st⟩ := hr T hT X
  cases hv
  rw [h0] at hz hk
  have key : ∀ q : Nat, q < H.size → T'.heap[q]? = H[q]? := fun q hq => by rw [e1]; exact hk q hq (fun z => by have z2 : H.size ≤ q := z; omega)
  obtain ⟨t2, a1, b1⟩ := kk T'.heap (locs ++ L') key ⟨Nat.le_trans hS.1 (by rw [e1]; exact hz), fun q h1 h2 => by rw [key q (Nat.lt_of_lt_of_le h1 hS.1)]; exact hS.2.1 q h1 h2, fun q hq => by
      rcases List.mem_append.mp hq with h | h
      · exact hS.2.2 q h
      · exact hA _ (hL q h)⟩ T' rfl X'
  exact ⟨t2, st t2 a1, b1⟩
end J
theorem AJ_le {s : State} {H : Heap} {locs : List Loc} (h : va_S (AJ s.heap.size) s.heap H locs) : ∀ q, AJ H.size q → AJ s.heap.size q := fun q z => Nat.le_trans h.1 z
def jF (b : Int32) (l : List Int32) (k : Nat) : Int32 := match l with
  | [] => -1
  | x :: t => if x = b then Int32.ofNat k else jF b t (k + 1)

theorem mj_cod {l : Launch} {q9 sz : Nat} {av : Nat → Nat}  : Met l yJ0_coder_7d493 (wsK yJ0_coder_7d493 cJ0_coder_7d493 1 (some .byte)) { frames := 0, cells := 0, slots := 0, locals := 0 } (PJ q9 av sz [.ref q9]) (QJ 0 sz) 0 0 (AJ sz) := by
  refine Met.ofW (cc := cJ0_coder_7d493) (maxL := 1) (ret := (some .byte)) (ws' := lw_g) (by decide +kernel) rfl ?_
  intro p e s m args below meth cd s₁ B hml hv
  obtain ⟨rfl, rfl, hS, hZ⟩ := hv
  have hl := lv_entry [.ref q9] (n := 1) (by simp [lg_sl, Value.category])
  rw [lg_entry_eq]
  have hx := B.exec
  have hb := B.bytes
  have hlocks := B.notSynchronized
  have hret : meth.sig.returnType = (some .byte) := B.returns
  have hSr : va_S (AJ s.heap.size) s.heap s.heap [] := va_S.rf
  have hts0 := atoms_spec (ws := wsK yJ0_coder_7d493 cJ0_coder_7d493 1 (some .byte)) B.pre
  have hts : ∀ w ∈ lw_g, w.before ([.ref q9] : List Value).toArray s = true := fun w hw => hts0 w (List.mem_cons_of_mem _ hw)
  have hown : s.vm.findClass (yJ0_coder_7d493).cls = some m.cls := findClass_of_methodNamed B.named
  have fin : ∀ (v : Int32) (H : Heap) (locs : List Loc), v = 0 → va_S (AJ s.heap.size) s.heap H locs → ∀ u : State, u.heap = H → s.WarmedH u.vm → QJ 0 s.heap.size ([.ref q9] : List Value).toArray s (.returned (some (.int v))) u := fun v H locs hv hH u hu _ => ⟨by rw [hv], hH.F hu⟩
  have nof : ∀ q ∈ ([] : List Loc), AJ s.heap.size q.base := fun q hq => absurd hq List.not_mem_nil
  have h0 := hl.2.2 (0, .ref q9) (by simp [lv_args, Value.category])
  refine va_gets (C := "java/lang/String") (own := RJ0) (ref := "java/lang/String") (n := "COMPACT_STRINGS") (d := "Z") hx hb hZ hSr hown (hts _ jf_38) (fun x h => h) (by decide +kernel) ?_
  refine lv_if_eq hx hb (off := 10) (tgt := 13) (by decide +kernel) rfl (fun q => absurd q (by decide)) (fun _ => ?_)
  refine lv_aload_n hx hb (k := 0) (by decide +kernel) rfl h0 ?_
  refine vk_getf (o := "java/lang/String") (own := RJ0) (ref := "java/lang/String") (n := "coder") (d := "B") hx hb (hS.1 0 (by decide)).2.1 hSr hown (hts _ jf_15) (fun x h => h) (by decide +kernel) ?_
  refine lv_goto hx hb (off := 4) (tgt := 14) (by decide +kernel) rfl ?_
  exact W.zret hx hb hret rfl (fin 0 _ _ rfl hSr) nof (by decide +kernel)
theorem mj_isl {l : Launch} {q9 sz : Nat} {av : Nat → Nat}  : Met l yJ0_isLatin1_aae02 (wsK yJ0_isLatin1_aae02 cJ0_isLatin1_aae02 1 (some .boolean)) { frames := 0, cells := 0, slots := 0, locals := 0 } (PJ q9 av sz [.ref q9]) (QJ 1 sz) 0 0 (AJ sz) := by
  refine Met.ofW (cc := cJ0_isLatin1_aae02) (maxL := 1) (ret := (some .boolean)) (ws' := lw_g) (by decide +kernel) rfl ?_
  intro p e s m args below meth cd s₁ B hml hv
  obtain ⟨rfl, rfl, hS, hZ⟩ := hv
  have hl := lv_entry [.ref q9] (n := 1) (by simp [lg_sl, Value.category])
  rw [lg_entry_eq]
  have hx := B.exec
  have hb := B.bytes
  have hlocks := B.notSynchronized
  have hret : meth.sig.returnType = (some .boolean) := B.returns
  have hSr : va_S (AJ s.heap.size) s.heap s.heap [] := va_S.rf
  have hts0 := atoms_spec (ws := wsK yJ0_isLatin1_aae02 cJ0_isLatin1_aae02 1 (some .boolean)) B.pre
  have hts : ∀ w ∈ lw_g, w.before ([.ref q9] : List Value).toArray s = true := fun w hw => hts0 w (List.mem_cons_of_mem _ hw)
  have hown : s.vm.findClass (yJ0_isLatin1_aae02).cls = some m.cls := findClass_of_methodNamed B.named
  have fin : ∀ (v : Int32) (H : Heap) (locs : List Loc), v = 1 → va_S (AJ s.heap.size) s.heap H locs → ∀ u : State, u.heap = H → s.WarmedH u.vm → QJ 1 s.heap.size ([.ref q9] : List Value).toArray s (.returned (some (.int v))) u := fun v H locs hv hH u hu _ => ⟨by rw [hv], hH.F hu⟩
  have nof : ∀ q ∈ ([] : List Loc), AJ s.heap.size q.base := fun q hq => absurd hq List.not_mem_nil
  have h0 := hl.2.2 (0, .ref q9) (by simp [lv_args, Value.category])
  refine va_gets (C := "java/lang/String") (own := RJ0) (ref := "java/lang/String") (n := "COMPACT_STRINGS") (d := "Z") hx hb hZ hSr hown (hts _ jf_38) (fun x h => h) (by decide +kernel) ?_
  refine lv_if_eq hx hb (off := 14) (tgt := 17) (by decide +kernel) rfl (fun q => absurd q (by decide)) (fun _ => ?_)
  refine lv_aload_n hx hb (k := 0) (by decide +kernel) rfl h0 ?_
  refine vk_getf (o := "java/lang/String") (own := RJ0) (ref := "java/lang/String") (n := "coder") (d := "B") hx hb (hS.1 0 (by decide)).2.1 hSr hown (hts _ jf_15) (fun x h => h) (by decide +kernel) ?_
  refine lv_if_ne hx hb (off := 7) (tgt := 17) (by decide +kernel) rfl (fun q => absurd rfl q) (fun _ => ?_)
  refine lv_iconst hx hb (by decide +kernel) (show Int32.ofInt 1 = 1 from rfl) ?_
  refine lv_goto hx hb (off := 4) (tgt := 18) (by decide +kernel) rfl ?_
  exact W.zret hx hb hret rfl (fin 1 _ _ rfl hSr) nof (by decide +kernel)
theorem mj_len {l : Launch} {q9 sz : Nat} {av : Nat → Nat}  : Met l yJ0_length_8abf5 (wsK yJ0_length_8abf5 cJ0_length_8abf5 1 (some .int)) { frames := 1, cells := 0, slots := 0, locals := 30 } (PJ q9 av sz [.ref q9]) (QJ 12 sz) 0 0 (AJ sz) := by
  refine Met.ofW (cc := cJ0_length_8abf5) (maxL := 1) (ret := (some .int)) (ws' := lw_g) (by decide +kernel) rfl ?_
  intro p e s m args below meth cd s₁ B hml hv
  obtain ⟨rfl, rfl, hS, hZ⟩ := hv
  have hl := lv_entry [.ref q9] (n := 1) (by simp [lg_sl, Value.category])
  rw [lg_entry_eq]
  have hx := B.exec
  have hb := B.bytes
  have hlocks := B.notSynchronized
  have hret : meth.sig.returnType = (some .int) := B.returns
  have hSr : va_S (AJ s.heap.size) s.heap s.heap [] := va_S.rf
  have hts0 := atoms_spec (ws := wsK yJ0_length_8abf5 cJ0_length_8abf5 1 (some .int)) B.pre
  have hts : ∀ w ∈ lw_g, w.before ([.ref q9] : List Value).toArray s = true := fun w hw => hts0 w (List.mem_cons_of_mem _ hw)
  have hown : s.vm.findClass (yJ0_length_8abf5).cls = some m.cls := findClass_of_methodNamed B.named
  have fin : ∀ (v : Int32) (H : Heap) (locs : List Loc), v = 12 → va_S (AJ s.heap.size) s.heap H locs → ∀ u : State, u.heap = H → s.WarmedH u.vm → QJ 12 s.heap.size ([.ref q9] : List Value).toArray s (.returned (some (.int v))) u := fun v H locs hv hH u hu _ => ⟨by rw [hv], hH.F hu⟩
  have nof : ∀ q ∈ ([] : List Loc), AJ s.heap.size q.base := fun q hq => absurd hq List.not_mem_nil
  have h0 := hl.2.2 (0, .ref q9) (by simp [lv_args, Value.category])
  refine lv_aload_n hx hb (k := 0) (by decide +kernel) rfl h0 ?_
  refine vk_getf (o := "java/lang/String") (own := RJ0) (ref := "java/lang/String") (n := "value") (d := "[B") hx hb (hS.1 0 (by decide)).2.2.1 hSr hown (hts _ jf_9) (fun x h => h) (by decide +kernel) ?_
  refine va_tlen hx hb (hS.1 0 (by decide)).2.2.2 hSr (v := 12) rfl (by decide +kernel) ?_
  refine lv_aload_n hx hb (k := 0) (by decide +kernel) rfl h0 ?_
  refine va_callJ (va_runV (As := []) (rest := [.int 12]) (C := "java/lang/String") ⟨hx, hb, hml, hown, hts⟩ (mj_cod (q9 := q9) (av := av) (sz := s.heap.size)) (cwV 0 hts (goodIn_g (wsV_in jl_cod ji_cod js_cod jn_0 jc_cod)) rfl rfl rfl ⟨rfl, by decide, by decide, by decide +kernel⟩ ⟨by decide, by decide⟩) ⟨PJ_blind, vk_recv (i := 0) hS (by decide) hSr, fun U hU hW => PJ_of hS hZ hSr (AJ_le hSr) hU hW⟩ rfl rfl hl.1 rfl (by simp [F0, JFrame.monitorRoom, Value.category]) (show decode cJ0_length_8abf5 6 = .ok (.invokevirtual 335, 3) from by decide +kernel) ⟨Nat.le_refl _, Nat.le_refl _⟩) hSr (AJ_le hSr) (fun H1 locs1 hk1 hS1 => ?_)
  refine lv_ishr hx hb (by decide +kernel) ?_
  exact W.zret hx hb hret rfl (fin _ _ _ (by decide) hS1) (fun q hq => hS1.2.2 q hq) (by decide +kernel)
theorem mj_can {l : Launch} {q9 sz : Nat} {av : Nat → Nat} {c : Int32} : Met l yJ1_canEncode_9a6ad (wsK yJ1_canEncode_9a6ad cJ1_canEncode_9a6ad 1 (some .boolean)) { frames := 0, cells := 0, slots := 0, locals := 0 } (PJ q9 av sz [.int c]) (QJ (if 0 ≤ c ∧ c ≤ 255 then 1 else 0) sz) 0 0 (AJ sz) := by
  refine Met.ofW (cc := cJ1_canEncode_9a6ad) (maxL := 1) (ret := (some .boolean)) (ws' := lw_g) (by decide +kernel) rfl ?_
  intro p e s m args below meth cd s₁ B hml hv
  obtain ⟨rfl, rfl, hS, hZ⟩ := hv
  have hl := lv_entry [.int c] (n := 1) (by simp [lg_sl, Value.category])
  rw [lg_entry_eq]
  have hx := B.exec
  have hb := B.bytes
  have hlocks := B.notSynchronized
  have hret : meth.sig.returnType = (some .boolean) := B.returns
  have hSr : va_S (AJ s.heap.size) s.heap s.heap [] := va_S.rf
  have hts0 := atoms_spec (ws := wsK yJ1_canEncode_9a6ad cJ1_canEncode_9a6ad 1 (some .boolean)) B.pre
  have hts : ∀ w ∈ lw_g, w.before ([.int c] : List Value).toArray s = true := fun w hw => hts0 w (List.mem_cons_of_mem _ hw)
  have hown : s.vm.findClass (yJ1_canEncode_9a6ad).cls = some m.cls := findClass_of_methodNamed B.named
  have fin : ∀ (v : Int32) (H : Heap) (locs : List Loc), v = (if 0 ≤ c ∧ c ≤ 255 then 1 else 0) → va_S (AJ s.heap.size) s.heap H locs → ∀ u : State, u.heap = H → s.WarmedH u.vm → QJ (if 0 ≤ c ∧ c ≤ 255 then 1 else 0) s.heap.size ([.int c] : List Value).toArray s (.returned (some (.int v))) u := fun v H locs hv hH u hu _ => ⟨by rw [hv], hH.F hu⟩
  have nof : ∀ q ∈ ([] : List Loc), AJ s.heap.size q.base := fun q hq => absurd hq List.not_mem_nil
  have h0 := hl.2.2 (0, .int c) (by simp [lv_args, Value.category])
  refine lv_iload_n hx hb (k := 0) (by decide +kernel) rfl h0 ?_
  refine lv_if_lt hx hb (off := 14) (tgt := 15) (by decide +kernel) rfl (fun k1 => ?_) (fun k1 => ?_)
  · refine lv_iconst hx hb (by decide +kernel) (show Int32.ofInt 0 = 0 from rfl) ?_
    exact W.zret hx hb hret rfl (fin 0 _ _ (by rw [if_neg]; rintro ⟨q, -⟩; exact absurd k1 (Int32.not_lt.mpr q)) hSr) nof (by decide +kernel)
  · refine lv_iload_n hx hb (k := 0) (by decide +kernel) rfl h0 ?_
    refine lv_sipush hx hb (n := 255) (v := 255) (by decide +kernel) (by decide) ?_
    refine lv_icmp_gt hx hb (off := 7) (tgt := 15) (by decide +kernel) rfl (fun k2 => ?_) (fun k2 => ?_)
    · refine lv_iconst hx hb (by decide +kernel) (show Int32.ofInt 0 = 0 from rfl) ?_
      exact W.zret hx hb hret rfl (fin 0 _ _ (by rw [if_neg]; rintro ⟨-, q⟩; exact absurd k2 (Int32.not_lt.mpr q)) hSr) nof (by decide +kernel)
    · refine lv_iconst hx hb (by decide +kernel) (show Int32.ofInt 1 = 1 from rfl) ?_
      refine lv_goto hx hb (off := 4) (tgt := 16) (by decide +kernel) rfl ?_
      exact W.zret hx hb hret rfl (fin 1 _ _ (by rw [if_pos ⟨Int32.not_lt.mp k1, Int32.not_lt.mp k2⟩]) hSr) nof (by decide +kernel)
def lvK (a : Nat) (c b i : Int32) : List (Nat × Value) := [(5, .int i), (4, .int b), (0, .ref a), (1, .int c), (2, .int 0), (3, .int 12)]
theorem kf_nat : ∀ k, k < 12 → Int32.ofNat k + Int32.ofInt 1 = Int32.ofNat (k + 1) ∧ (Int32.ofNat k).toNatClampNeg = k ∧ ¬ Int32.ofNat k < 0 ∧ ¬ (12 : Int32) ≤ Int32.ofNat k := by decide
theorem ich_loop {p : Program} {l : Launch} {e : Env} {R : Room} {s : State} {m : MethodId} {args : Array Value} {below : List Frame} {meth : Method} {cd : Code} {H : Heap} {locs : List Loc} {cells slots : Nat} {Q : State → Prop} {A : Nat → Prop} {a : Nat} {c b : Int32} (hx : p.tables.exec = Jvm.exec) (hb : cd.code = cJ1_indexOfChar_4cfef) (hT : va_T .byte a 12 (fun j => .int (zTx.getD j 0)) A s s.heap) (hS : va_S A s.heap H locs)
    (hret : ∀ (ls : Array Slot) (pc : Nat), decode cJ1_indexOfChar_4cfef pc = .ok (.ireturn, 1) → W p l e R s m args below meth cd H locs cells slots Q (F0 m pc ls [.int (jF b zTx 0)])) :
    ∀ (l9 : List Int32) (k : Nat) (ls : Array Slot), k + l9.length = 12 → zTx.drop k = l9 → jF b zTx 0 = jF b l9 k → lv_has ls 6 (lvK a c b (Int32.ofNat k)) → W p l e R s m args below meth cd H locs cells slots Q (F0 m 7 ls [])
  | [], k, ls, hk, hd, he, hl => by
    have hk : k = 12 := by simpa using hk
    subst hk
    refine lv_iload hx hb (i := 5) (x := Int32.ofNat 12) (by decide +kernel) (hl.2.2 (5, .int (Int32.ofNat 12)) (by simp [lvK])) ?_
    refine lv_iload_n hx hb (k := 3) (x := 12) (by decide +kernel) rfl (hl.2.2 (3, .int 12) (by simp [lvK])) ?_
    refine lv_icmp_ge hx hb (off := 21) (tgt := 31) (by decide +kernel) rfl (fun _ => ?_) (fun q => absurd (by decide) q)
    refine lv_iconst hx hb (v := -1) (n := -1) (by decide +kernel) (by decide) ?_
    have h9 := hret ls 32 (by decide +kernel)
    rw [he] at h9
    exact h9
  | x :: t, k, ls, hk, hd, he, hl => by
    have hk12 : k < 12 := by simp at hk; omega
    obtain ⟨f1, f2, f3, f4⟩ := kf_nat k hk12
    have hxk : zTx.getD k 0 = x := by
      have h0 : (zTx.drop k)[0]? = some x := by rw [hd]; rfl
      rw [List.getElem?_drop, Nat.add_zero] at h0
      rw [List.getD_eq_getElem?_getD, h0]
      rfl
    refine lv_iload hx hb (i := 5) (x := Int32.ofNat k) (by decide +kernel) (hl.2.2 (5, .int (Int32.ofNat k)) (by simp [lvK])) ?_
    refine lv_iload_n hx hb (k := 3) (x := 12) (by decide +kernel) rfl (hl.2.2 (3, .int 12) (by simp [lvK])) ?_
    refine lv_icmp_ge hx hb (off := 21) (tgt := 31) (by decide +kernel) rfl (fun q => absurd q f4) (fun _ => ?_)
    refine lv_aload_n hx hb (k := 0) (x := a) (by decide +kernel) rfl (hl.2.2 (0, .ref a) (by simp [lvK])) ?_
    refine lv_iload hx hb (i := 5) (x := Int32.ofNat k) (by decide +kernel) (hl.2.2 (5, .int (Int32.ofNat k)) (by simp [lvK])) ?_
    refine va_tb hx hb hT hS (v := .int x) (fun q => q.elim f3 (fun z => by rw [f2] at z; omega)) (by rw [f2, hxk]) (by decide +kernel) ?_
    refine lv_iload hx hb (i := 4) (x := b) (by decide +kernel) (hl.2.2 (4, .int b) (by simp [lvK])) ?_
    refine lv_icmp_ne hx hb (off := 6) (tgt := 25) (by decide +kernel) rfl (fun q => ?_) (fun q => ?_)
    · refine lv_iinc (n := 1) (k := 0) hx hb (by decide +kernel) hl rfl f1 (by decide) rfl (fun ls' hl' => ?_)
      refine lv_goto hx hb (off := -21) (tgt := 7) (by decide +kernel) rfl ?_
      refine ich_loop hx hb hT hS hret t (k + 1) ls' (by simp at hk; omega) ?_ ?_ hl'
      · rw [← List.drop_drop, hd]; rfl
      · rw [he]; exact if_neg q
    · refine lv_iload hx hb (i := 5) (x := Int32.ofNat k) (by decide +kernel) (hl.2.2 (5, .int (Int32.ofNat k)) (by simp [lvK])) ?_
      have h9 := hret ls 24 (by decide +kernel)
      rw [he, show jF b (x :: t) k = Int32.ofNat k from if_pos q] at h9
      exact h9
theorem mj_ich {l : Launch} {q9 sz : Nat} {av : Nat → Nat} {c : Int32} : Met l yJ1_indexOfChar_4cfef (wsK yJ1_indexOfChar_4cfef cJ1_indexOfChar_4cfef 6 (some .int)) { frames := 0, cells := 0, slots := 0, locals := 0 } (PJ q9 av sz [.ref (av 0), .int c, .int 0, .int 12]) (QJ (jF c.toInt8.toInt32 zTx 0) sz) 0 0 (AJ sz) := by
  refine Met.ofW (cc := cJ1_indexOfChar_4cfef) (maxL := 6) (ret := (some .int)) (ws' := lw_g) (by decide +kernel) rfl ?_
  intro p e s m args below meth cd s₁ B hml hv
  obtain ⟨rfl, rfl, hS, hZ⟩ := hv
  have hl := lv_entry [.ref (av 0), .int c, .int 0, .int 12] (n := 6) (by simp [lg_sl, Value.category])
  rw [lg_entry_eq]
  have hx := B.exec
  have hb := B.bytes
  have hlocks := B.notSynchronized
  have hret : meth.sig.returnType = (some .int) := B.returns
  have hSr : va_S (AJ s.heap.size) s.heap s.heap [] := va_S.rf
  have hts0 := atoms_spec (ws := wsK yJ1_indexOfChar_4cfef cJ1_indexOfChar_4cfef 6 (some .int)) B.pre
  have hts : ∀ w ∈ lw_g, w.before ([.ref (av 0), .int c, .int 0, .int 12] : List Value).toArray s = true := fun w hw => hts0 w (List.mem_cons_of_mem _ hw)
  have hown : s.vm.findClass (yJ1_indexOfChar_4cfef).cls = some m.cls := findClass_of_methodNamed B.named
  have fin : ∀ (v : Int32) (H : Heap) (locs : List Loc), v = (jF c.toInt8.toInt32 zTx 0) → va_S (AJ s.heap.size) s.heap H locs → ∀ u : State, u.heap = H → s.WarmedH u.vm → QJ (jF c.toInt8.toInt32 zTx 0) s.heap.size ([.ref (av 0), .int c, .int 0, .int 12] : List Value).toArray s (.returned (some (.int v))) u := fun v H locs hv hH u hu _ => ⟨by rw [hv], hH.F hu⟩
  have nof : ∀ q ∈ ([] : List Loc), AJ s.heap.size q.base := fun q hq => absurd hq List.not_mem_nil
  have h0 := hl.2.2 (0, .ref (av 0)) (by simp [lv_args, Value.category])
  have h1 := hl.2.2 (1, .int c) (by simp [lv_args, Value.category])
  have h2 := hl.2.2 (2, .int 0) (by simp [lv_args, Value.category])
  have h3 := hl.2.2 (3, .int 12) (by simp [lv_args, Value.category])
  refine lv_iload_n hx hb (k := 1) (x := c) (by decide +kernel) rfl h1 ?_
  refine lv_i2b hx hb (v := c.toInt8.toInt32) (by decide +kernel) rfl ?_
  refine lv_istore hx hb (i := 4) (by decide +kernel) hl (by decide) rfl (fun ls1 hl1 => ?_)
  refine lv_iload_n hx hb (k := 2) (x := 0) (by decide +kernel) rfl (hl1.2.2 (2, .int 0) (by simp [lv_args, Value.category])) ?_
  refine lv_istore hx hb (i := 5) (by decide +kernel) hl1 (by decide) rfl (fun ls2 hl2 => ?_)
  exact ich_loop hx hb (hS.1 0 (by decide)).2.2.2 hSr (fun ls pc hd => W.zret hx hb hret rfl (fin _ _ _ rfl hSr) nof hd) zTx 0 ls2 rfl rfl rfl hl2
def jI (c : Int32) : Int32 := if 0 ≤ c ∧ c ≤ 255 then jF c.toInt8.toInt32 zTx 0 else -1
theorem jI_sIx (c : Int32) : jI c = sIx c := by
  unfold jI
  split
  · next h =>
    obtain ⟨h1, h2⟩ := h
    have k1 := Int32.le_iff_toInt_le.mp h1
    have k2 := Int32.le_iff_toInt_le.mp h2
    have key : ∀ n, n < 256 → jF (Int32.ofNat n).toInt8.toInt32 zTx 0 = sIx (Int32.ofNat n) := by decide +kernel
    have e0 : (0 : Int32).toInt = 0 := by decide
    have e1 : (255 : Int32).toInt = 255 := by decide
    rw [e0] at k1
    rw [e1] at k2
    have e : c = Int32.ofNat c.toInt.toNat := by
      apply Int32.toInt_inj.mp
      rw [Int32.toInt_ofNat_of_lt (by omega)]
      omega
    rw [e]
    exact key _ (by omega)
  · next h =>
    unfold sIx
    have hno : ∀ b ∈ ([109, 104, 100, 112, 113, 110, 115, 108, 117, 116, 119, 120] : List Int32), 0 ≤ b ∧ b ≤ 255 := by decide
    rw [List.findIdx?_eq_none_iff.mpr (fun b hb => by
      have h3 := hno b hb
      rw [decide_eq_false_iff_not]
      rintro rfl
      exact h h3)]
set_option maxRecDepth 100000 in
theorem i903_all : ∀ o, o < 13 → ∀ q ∈ iRs.getD o [], q.2 = 903 → o = 6 ∧ q.1 = 79 := by decide +kernel
theorem i903 {o : Nat} {q : Nat × Nat} (h : q ∈ iRs.getD o []) (h2 : q.2 = 903) : o = 6 ∧ q.1 = 79 := by
  rcases Nat.lt_or_ge o 13 with ho | ho
  · exact i903_all o ho q h h2
  · rw [List.getD_eq_getElem?_getD, List.getElem?_eq_none (by have : iRs.length = 13 := (by decide); omega)] at h
    cases h
theorem mj_lix {l : Launch} {q9 sz : Nat} {av : Nat → Nat} {c : Int32} : Met l yJ1_indexOf_4cfef (wsK yJ1_indexOf_4cfef cJ1_indexOf_4cfef 4 (some .int)) { frames := 1, cells := 0, slots := 0, locals := 60 } (PJ q9 av sz [.ref (av 0), .int c, .int 0, .int 12]) (QJ (jI c) sz) 0 0 (AJ sz) := by
  refine Met.ofW (cc := cJ1_indexOf_4cfef) (maxL := 4) (ret := (some .int)) (ws' := lw_g) (by decide +kernel) rfl ?_
  intro p e s m args below meth cd s₁ B hml hv
  obtain ⟨rfl, rfl, hS, hZ⟩ := hv
  have hl := lv_entry [.ref (av 0), .int c, .int 0, .int 12] (n := 4) (by simp [lg_sl, Value.category])
  rw [lg_entry_eq]
  have hx := B.exec
  have hb := B.bytes
  have hlocks := B.notSynchronized
  have hret : meth.sig.returnType = (some .int) := B.returns
  have hSr : va_S (AJ s.heap.size) s.heap s.heap [] := va_S.rf
  have hts0 := atoms_spec (ws := wsK yJ1_indexOf_4cfef cJ1_indexOf_4cfef 4 (some .int)) B.pre
  have hts : ∀ w ∈ lw_g, w.before ([.ref (av 0), .int c, .int 0, .int 12] : List Value).toArray s = true := fun w hw => hts0 w (List.mem_cons_of_mem _ hw)
  have hown : s.vm.findClass (yJ1_indexOf_4cfef).cls = some m.cls := findClass_of_methodNamed B.named
  have fin : ∀ (v : Int32) (H : Heap) (locs : List Loc), v = (jI c) → va_S (AJ s.heap.size) s.heap H locs → ∀ u : State, u.heap = H → s.WarmedH u.vm → QJ (jI c) s.heap.size ([.ref (av 0), .int c, .int 0, .int 12] : List Value).toArray s (.returned (some (.int v))) u := fun v H locs hv hH u hu _ => ⟨by rw [hv], hH.F hu⟩
  have nof : ∀ q ∈ ([] : List Loc), AJ s.heap.size q.base := fun q hq => absurd hq List.not_mem_nil
  have h0 := hl.2.2 (0, .ref (av 0)) (by simp [lv_args, Value.category])
  have h1 := hl.2.2 (1, .int c) (by simp [lv_args, Value.category])
  have h2 := hl.2.2 (2, .int 0) (by simp [lv_args, Value.category])
  have h3 := hl.2.2 (3, .int 12) (by simp [lv_args, Value.category])
  refine lv_iload_n hx hb (k := 1) (x := c) (by decide +kernel) rfl h1 ?_
  refine va_callJ (va_runS (As := [.int c]) (rest := []) ⟨hx, hb, hml, hown, hts⟩ (mj_can (q9 := q9) (av := av)) (va_cwS 1 hts (goodIn_g (wsS_in jl_can ji_can jn_1 jc_can)) rfl rfl rfl ⟨by decide, by decide, by decide +kernel⟩ ⟨by decide, by decide⟩) ⟨PJ_blind, fun U hU hW => PJ_of hS hZ hSr (AJ_le hSr) hU hW⟩ rfl rfl hl.1 rfl (by simp [F0, JFrame.monitorRoom, Value.category]) (show decode cJ1_indexOf_4cfef 1 = .ok (.invokestatic 88, 3) from by decide +kernel) ⟨Nat.le_refl _, Nat.le_refl _⟩) hSr (AJ_le hSr) (fun H1 locs1 hk1 hS1 => ?_)
  by_cases hc : 0 ≤ c ∧ c ≤ 255
  · rw [if_pos hc]
    refine lv_if_ne hx hb (off := 5) (tgt := 9) (by decide +kernel) rfl (fun _ => ?_) (fun q => absurd q (by decide))
    refine lv_iload_n hx hb (k := 2) (x := 0) (by decide +kernel) rfl h2 ?_
    refine lv_iconst hx hb (v := 0) (n := 0) (by decide +kernel) (by decide) ?_
    refine va_mmax hx hb (by rw [hml]; exact hl.1.symm) hown (hts _ jm_max) (hts _ iw_maxs) (hts _ iw_math) (hts _ iw_max) (by decide) (by simp [Value.category, headSpec]) (Nat.le_refl _) (Nat.le_refl _) (by decide +kernel) ?_
    rw [show (if (0 : Int32) < 0 then (0 : Int32) else 0) = 0 from by decide]
    refine lv_istore_n (k := 2) (i := 2) hx hb (by decide +kernel) rfl hl (by decide) rfl (fun ls1 hl1 => ?_)
    refine lv_iload_n hx hb (k := 3) (x := 12) (by decide +kernel) rfl (hl1.2.2 (3, .int 12) (by simp [lv_args, Value.category])) ?_
    refine lv_aload_n hx hb (k := 0) (x := av 0) (by decide +kernel) rfl (hl1.2.2 (0, .ref (av 0)) (by simp [lv_args, Value.category])) ?_
    refine va_tlen hx hb (hS.1 0 (by decide)).2.2.2 hS1 (v := 12) rfl (by decide +kernel) ?_
    refine va_mmin hx hb (by rw [hml]; exact hl1.1.symm) hown (hts _ jm_min) (hts _ iw_mins) (hts _ iw_math) (hts _ iw_min) (by decide) (by simp [Value.category, headSpec]) (Nat.le_refl _) (Nat.le_refl _) (by decide +kernel) ?_
    rw [show (if (12 : Int32) < 12 then (12 : Int32) else 12) = 12 from by decide]
    refine lv_istore_n (k := 3) (i := 3) hx hb (by decide +kernel) rfl hl1 (by decide) rfl (fun ls2 hl2 => ?_)
    have g0 := hl2.2.2 (0, .ref (av 0)) (by simp [lv_args, Value.category])
    have g1 := hl2.2.2 (1, .int c) (by simp [lv_args, Value.category])
    have g2 := hl2.2.2 (2, .int 0) (by simp [lv_args, Value.category])
    have g3 := hl2.2.2 (3, .int 12) (by simp [lv_args, Value.category])
    refine lv_iload_n hx hb (k := 2) (x := 0) (by decide +kernel) rfl g2 ?_
    refine lv_iload_n hx hb (k := 3) (x := 12) (by decide +kernel) rfl g3 ?_
    refine lv_icmp_lt hx hb (off := 5) (tgt := 29) (by decide +kernel) rfl (fun _ => ?_) (fun q => absurd (by decide) q)
    refine lv_aload_n hx hb (k := 0) (x := av 0) (by decide +kernel) rfl g0 ?_
    refine lv_iload_n hx hb (k := 1) (x := c) (by decide +kernel) rfl g1 ?_
    refine lv_iload_n hx hb (k := 2) (x := 0) (by decide +kernel) rfl g2 ?_
    refine lv_iload_n hx hb (k := 3) (x := 12) (by decide +kernel) rfl g3 ?_
    refine va_callJ (va_runS (As := [.ref (av 0), .int c, .int 0, .int 12]) (rest := []) ⟨hx, hb, hml, hown, hts⟩ (mj_ich (q9 := q9) (av := av)) (va_cwS 4 hts (goodIn_g (wsS_in jl_ich ji_ich jn_1 jc_ich)) rfl rfl rfl ⟨by decide, by decide, by decide +kernel⟩ ⟨by decide, by decide⟩) ⟨PJ_blind, fun U hU hW => PJ_of hS hZ hS1 (AJ_le hS1) hU hW⟩ rfl rfl hl2.1 rfl (by simp [F0, JFrame.monitorRoom, Value.category]) (show decode cJ1_indexOf_4cfef 33 = .ok (.invokestatic 95, 3) from by decide +kernel) ⟨Nat.le_refl _, Nat.le_refl _⟩) hS1 (AJ_le hS1) (fun H2 locs2 hk2 hS2 => ?_)
    exact W.zret hx hb hret rfl (fin _ _ _ (by unfold jI; rw [if_pos hc]) hS2) (fun q hq => hS2.2.2 q hq) (by decide +kernel)
  · rw [if_neg hc]
    refine lv_if_ne hx hb (off := 5) (tgt := 9) (by decide +kernel) rfl (fun q => absurd rfl q) (fun _ => ?_)
    refine lv_iconst hx hb (v := -1) (n := -1) (by decide +kernel) (by decide) ?_
    exact W.zret hx hb hret rfl (fin _ _ _ (by unfold jI; rw [if_neg hc]) hS1) (fun q hq => hS1.2.2 q hq) (by decide +kernel)
theorem mj_iy {l : Launch} {q9 sz : Nat} {av : Nat → Nat} {c : Int32} : Met l yJ0_indexOf_7cf53 (wsK yJ0_indexOf_7cf53 cJ0_indexOf_7cf53 3 (some .int)) { frames := 2, cells := 0, slots := 0, locals := 100 } (PJ q9 av sz [.ref q9, .int c, .int 0]) (QJ (jI c) sz) 0 0 (AJ sz) := by
  refine Met.ofW (cc := cJ0_indexOf_7cf53) (maxL := 3) (ret := (some .int)) (ws' := lw_g) (by decide +kernel) rfl ?_
  intro p e s m args below meth cd s₁ B hml hv
  obtain ⟨rfl, rfl, hS, hZ⟩ := hv
  have hl := lv_entry [.ref q9, .int c, .int 0] (n := 3) (by simp [lg_sl, Value.category])
  rw [lg_entry_eq]
  have hx := B.exec
  have hb := B.bytes
  have hlocks := B.notSynchronized
  have hret : meth.sig.returnType = (some .int) := B.returns
  have hSr : va_S (AJ s.heap.size) s.heap s.heap [] := va_S.rf
  have hts0 := atoms_spec (ws := wsK yJ0_indexOf_7cf53 cJ0_indexOf_7cf53 3 (some .int)) B.pre
  have hts : ∀ w ∈ lw_g, w.before ([.ref q9, .int c, .int 0] : List Value).toArray s = true := fun w hw => hts0 w (List.mem_cons_of_mem _ hw)
  have hown : s.vm.findClass (yJ0_indexOf_7cf53).cls = some m.cls := findClass_of_methodNamed B.named
  have fin : ∀ (v : Int32) (H : Heap) (locs : List Loc), v = (jI c) → va_S (AJ s.heap.size) s.heap H locs → ∀ u : State, u.heap = H → s.WarmedH u.vm → QJ (jI c) s.heap.size ([.ref q9, .int c, .int 0] : List Value).toArray s (.returned (some (.int v))) u := fun v H locs hv hH u hu _ => ⟨by rw [hv], hH.F hu⟩
  have nof : ∀ q ∈ ([] : List Loc), AJ s.heap.size q.base := fun q hq => absurd hq List.not_mem_nil
  have h0 := hl.2.2 (0, .ref q9) (by simp [lv_args, Value.category])
  have h1 := hl.2.2 (1, .int c) (by simp [lv_args, Value.category])
  have h2 := hl.2.2 (2, .int 0) (by simp [lv_args, Value.category])
  refine lv_aload_n hx hb (k := 0) (x := q9) (by decide +kernel) rfl h0 ?_
  refine va_callJ (va_runV (As := []) (rest := []) (C := "java/lang/String") ⟨hx, hb, hml, hown, hts⟩ (mj_isl (q9 := q9) (av := av)) (cwV 0 hts (goodIn_g (wsV_in jl_isl ji_isl js_isl jn_0 jc_isl)) rfl rfl rfl ⟨rfl, by decide, by decide, by decide +kernel⟩ ⟨by decide, by decide⟩) ⟨PJ_blind, vk_recv (i := 0) hS (by decide) hSr, fun U hU hW => PJ_of hS hZ hSr (AJ_le hSr) hU hW⟩ rfl rfl hl.1 rfl (by simp [F0, JFrame.monitorRoom, Value.category]) (show decode cJ0_indexOf_7cf53 1 = .ok (.invokevirtual 492, 3) from by decide +kernel) ⟨Nat.le_refl _, Nat.le_refl _⟩) hSr (AJ_le hSr) (fun H1 locs1 hk1 hS1 => ?_)
  refine lv_if_eq hx hb (off := 19) (tgt := 23) (by decide +kernel) rfl (fun q => absurd q (by decide)) (fun _ => ?_)
  refine lv_aload_n hx hb (k := 0) (x := q9) (by decide +kernel) rfl h0 ?_
  refine vk_getf (o := "java/lang/String") (own := RJ0) (ref := "java/lang/String") (n := "value") (d := "[B") hx hb (hS.1 0 (by decide)).2.2.1 hS1 hown (hts _ jf_9) (fun x h => h) (by decide +kernel) ?_
  refine lv_iload_n hx hb (k := 1) (x := c) (by decide +kernel) rfl h1 ?_
  refine lv_iload_n hx hb (k := 2) (x := 0) (by decide +kernel) rfl h2 ?_
  refine lv_aload_n hx hb (k := 0) (x := q9) (by decide +kernel) rfl h0 ?_
  refine va_callJ (va_runV (As := []) (rest := [.int 0, .int c, .ref (av 0)]) (C := "java/lang/String") ⟨hx, hb, hml, hown, hts⟩ (mj_len (q9 := q9) (av := av)) (cwV 0 hts (goodIn_g (wsV_in jl_len ji_len js_len jn_0 jc_len)) rfl rfl rfl ⟨rfl, by decide, by decide, by decide +kernel⟩ ⟨by decide, by decide⟩) ⟨PJ_blind, vk_recv (i := 0) hS (by decide) hS1, fun U hU hW => PJ_of hS hZ hS1 (AJ_le hS1) hU hW⟩ rfl rfl hl.1 rfl (by simp [F0, JFrame.monitorRoom, Value.category]) (show decode cJ0_indexOf_7cf53 14 = .ok (.invokevirtual 505, 3) from by decide +kernel) ⟨Nat.le_refl _, Nat.le_refl _⟩) hS1 (AJ_le hS1) (fun H2 locs2 hk2 hS2 => ?_)
  refine va_callJ (va_runS (As := [.ref (av 0), .int c, .int 0, .int 12]) (rest := []) ⟨hx, hb, hml, hown, hts⟩ (mj_lix (q9 := q9) (av := av)) (va_cwS 4 hts (goodIn_g (wsS_in jl_lix ji_lix jn_1 jc_lix)) rfl rfl rfl ⟨by decide, by decide, by decide +kernel⟩ ⟨by decide, by decide⟩) ⟨PJ_blind, fun U hU hW => PJ_of hS hZ hS2 (AJ_le hS2) hU hW⟩ rfl rfl hl.1 rfl (by simp [F0, JFrame.monitorRoom, Value.category]) (show decode cJ0_indexOf_7cf53 17 = .ok (.invokestatic 637, 3) from by decide +kernel) ⟨Nat.le_refl _, Nat.le_refl _⟩) hS2 (AJ_le hS2) (fun H3 locs3 hk3 hS3 => ?_)
  refine lv_goto hx hb (off := 16) (tgt := 36) (by decide +kernel) rfl ?_
  exact W.zret hx hb hret rfl (fin _ _ _ rfl hS3) (fun q hq => hS3.2.2 q hq) (by decide +kernel)
theorem mj_ix {l : Launch} {q9 sz : Nat} {av : Nat → Nat} {c : Int32} : Met l yJ0_indexOf_0f7a4 (wsK yJ0_indexOf_0f7a4 cJ0_indexOf_0f7a4 2 (some .int)) { frames := 3, cells := 0, slots := 0, locals := 130 } (PJ q9 av sz [.ref q9, .int c]) (QJ (jI c) sz) 0 0 (AJ sz) := by
  refine Met.ofW (cc := cJ0_indexOf_0f7a4) (maxL := 2) (ret := (some .int)) (ws' := lw_g) (by decide +kernel) rfl ?_
  intro p e s m args below meth cd s₁ B hml hv
  obtain ⟨rfl, rfl, hS, hZ⟩ := hv
  have hl := lv_entry [.ref q9, .int c] (n := 2) (by simp [lg_sl, Value.category])
  rw [lg_entry_eq]
  have hx := B.exec
  have hb := B.bytes
  have hlocks := B.notSynchronized
  have hret : meth.sig.returnType = (some .int) := B.returns
  have hSr : va_S (AJ s.heap.size) s.heap s.heap [] := va_S.rf
  have hts0 := atoms_spec (ws := wsK yJ0_indexOf_0f7a4 cJ0_indexOf_0f7a4 2 (some .int)) B.pre
  have hts : ∀ w ∈ lw_g, w.before ([.ref q9, .int c] : List Value).toArray s = true := fun w hw => hts0 w (List.mem_cons_of_mem _ hw)
  have hown : s.vm.findClass (yJ0_indexOf_0f7a4).cls = some m.cls := findClass_of_methodNamed B.named
  have fin : ∀ (v : Int32) (H : Heap) (locs : List Loc), v = (jI c) → va_S (AJ s.heap.size) s.heap H locs → ∀ u : State, u.heap = H → s.WarmedH u.vm → QJ (jI c) s.heap.size ([.ref q9, .int c] : List Value).toArray s (.returned (some (.int v))) u := fun v H locs hv hH u hu _ => ⟨by rw [hv], hH.F hu⟩
  have nof : ∀ q ∈ ([] : List Loc), AJ s.heap.size q.base := fun q hq => absurd hq List.not_mem_nil
  have h0 := hl.2.2 (0, .ref q9) (by simp [lv_args, Value.category])
  have h1 := hl.2.2 (1, .int c) (by simp [lv_args, Value.category])
  refine lv_aload_n hx hb (k := 0) (x := q9) (by decide +kernel) rfl h0 ?_
  refine lv_iload_n hx hb (k := 1) (x := c) (by decide +kernel) rfl h1 ?_
  refine lv_iconst hx hb (v := 0) (n := 0) (by decide +kernel) (by decide) ?_
  refine va_callJ (va_runV (As := [.int c, .int 0]) (rest := []) (C := "java/lang/String") ⟨hx, hb, hml, hown, hts⟩ (mj_iy (q9 := q9) (av := av)) (cwV 2 hts (goodIn_g (wsV_in jl_iy ji_iy js_iy jn_0 jc_iy)) rfl rfl rfl ⟨rfl, by decide, by decide, by decide +kernel⟩ ⟨by decide, by decide⟩) ⟨PJ_blind, vk_recv (i := 0) hS (by decide) hSr, fun U hU hW => PJ_of hS hZ hSr (AJ_le hSr) hU hW⟩ rfl rfl hl.1 rfl (by simp [F0, JFrame.monitorRoom, Value.category]) (show decode cJ0_indexOf_0f7a4 3 = .ok (.invokevirtual 633, 3) from by decide +kernel) ⟨Nat.le_refl _, Nat.le_refl _⟩) hSr (AJ_le hSr) (fun H1 locs1 hk1 hS1 => ?_)
  exact W.zret hx hb hret rfl (fin _ _ _ rfl hS1) (fun q hq => hS1.2.2 q hq) (by decide +kernel)
theorem h903 {l : Launch} : H903 l := by
  intro p e R s m args below meth c Q D aC ads pth LL L xs b0 q9 mi cf sf pc j ls st mem s' F hR1 hR2 hR3 hd hj hi hw
  obtain ⟨hx, hb, hml, hown, hts, hK, hE, ⟨hX, hbl, hbA, hb3⟩, ⟨⟨hZ0, ⟨av, hS0⟩, hZ1⟩, hq9⟩⟩ := F
  have h : (pI st fun c st => pR st fun t _ st => bif Nat.beq t 8000000 && Nat.ble (st.map mCat).sum 8 then gO (pc + 3) ls (vi (sIx c) :: st) mem else none) = some (.inl [(true, s')]) := hi
  clear hi
  obtain ⟨v, u1, st1, rfl, hu1, h5⟩ := pI_inv h
  clear h
  obtain ⟨t, q, st2, rfl, h6⟩ := pR_inv h5
  clear h5
  obtain ⟨hg, h⟩ := bif_inv h6
  clear h6
  simp only [Bool.and_eq_true] at hg
  obtain ⟨g1, g2⟩ := hg
  have g1 := Nat.eq_of_beq_eq_true g1
  have g2 := Nat.le_of_ble_eq_true g2
  subst g1
  have hs' : s' = (pc + 3, ls, vi (sIx v) :: st2, mem) := by
    have h2 := Option.some.inj h
    have h3 := Sum.inl.inj h2
    have h4 := (List.cons.inj h3).1
    exact (congrArg Prod.snd h4).symm
  subst hs'
  obtain ⟨ho, hj79⟩ := i903 hj rfl
  have hj79 : j = 79 := hj79
  subst hj79
  intro rl H locs ⟨hl, hn, okl, oks, hP, hD, hS⟩
  obtain ⟨-, o1⟩ := List.forall_mem_cons.mp oks
  obtain ⟨o2, o3⟩ := List.forall_mem_cons.mp o1
  have hq : q = [4] := by
    rcases o2 with z | ⟨z, -⟩ | ⟨-, z⟩
    · have := tag_kind z; exact absurd this (by decide)
    · cases z
    · exact z
  subst hq
  show W _ _ _ _ _ _ _ _ _ _ _ _ _ _ _ (F0 m pc rl (rV ads u1 :: .ref (ads [4]) :: st2.map (rV ads)))
  rw [hu1 ads, hq9]
  have hA : ∀ z, AJ H.size z → AA LL s.heap.size z := fun z hz => Or.inr (Nat.le_trans hS.1 hz)
  rw [ho] at hown
  refine va_callJ (va_runV (As := [.int v]) (rest := st2.map (rV ads)) (C := "java/lang/String") ⟨hx, hb, hml, hown, hts⟩ (mj_ix (q9 := q9) (av := av)) (cwV 1 hts (goodIn_g (wsV_in jl_ix ji_ix js_ix jn_0 jc_ix)) rfl rfl rfl ⟨rfl, by decide, by decide, by decide +kernel⟩ ⟨by dsimp only; omega, by dsimp only; omega⟩) ⟨PJ_blind, vk_recv (i := 0) hS0 (by decide) hS, fun U hU hW => PJ_of hS0 hZ1 hS hA hU hW⟩ rfl rfl hl.1 rfl (lv_room (by rw [cat_sum]; exact g2)) hd ⟨hR3.1, hR3.2⟩) hS hA (fun H1 locs1 hk1 hS1 => ?_)
  rw [jI_sIx]
  exact hw rl H1 locs1 ⟨hl, hn, okl, List.forall_mem_cons.mpr ⟨trivial, o3⟩, hP.kept (fun k z hk => hk1 _ (hP k z hk).lt), hD, hS1⟩
