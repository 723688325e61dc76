section Spc7
theorem dle_0 : decode cL_element 0 = .ok (.aload_n 3, 1) := by decide +kernel
theorem dle_1 : decode cL_element 1 = .ok (.iconst 0, 1) := by decide +kernel
theorem dle_2 : decode cL_element 2 = .ok (.aload_n 0, 1) := by decide +kernel
theorem dle_3 : decode cL_element 3 = .ok (.iload_n 1, 1) := by decide +kernel
theorem dle_4 : decode cL_element 4 = .ok (.iload_n 2, 1) := by decide +kernel
theorem dle_5 : decode cL_element 5 = .ok (.invokevirtual 7, 3) := by decide +kernel
theorem dle_8 : decode cL_element 8 = .ok (.lastore, 1) := by decide +kernel
theorem dle_9 : decode cL_element 9 = .ok (.goto 11, 3) := by decide +kernel
theorem dle_12 : decode cL_element 12 = .ok (.astore 4, 2) := by decide +kernel
theorem dle_14 : decode cL_element 14 = .ok (.iconst 1, 1) := by decide +kernel
theorem dle_15 : decode cL_element 15 = .ok (.ireturn, 1) := by decide +kernel
theorem dle_16 : decode cL_element 16 = .ok (.astore 4, 2) := by decide +kernel
theorem dle_18 : decode cL_element 18 = .ok (.iconst 2, 1) := by decide +kernel
theorem dle_19 : decode cL_element 19 = .ok (.ireturn, 1) := by decide +kernel
theorem dle_20 : decode cL_element 20 = .ok (.iconst 0, 1) := by decide +kernel
theorem dle_21 : decode cL_element 21 = .ok (.ireturn, 1) := by decide +kernel
def yLE : MethodName := ⟨"TentPlainLaw", "element", "(LTentPlain;II[J)I"⟩
set_option maxRecDepth 100000 in
theorem wl_7 : Cond.methodLink "TentPlainLaw" 7 yX10_element ∈ lw_g := (lwg_of (List.mem_of_getElem? (i := 1374) (by decide +kernel)) (by decide +kernel))
set_option maxRecDepth 100000 in
theorem wm_ele : Cond.instanceMethod yX10_element ∈ lw_g := (lwg_of (List.mem_of_getElem? (i := 1375) (by decide +kernel)) (by decide +kernel))
set_option maxRecDepth 100000 in
theorem ws_ele : Cond.selects RX10 yX10_element yX10_element ∈ lw_g := (lwg_of (List.mem_of_getElem? (i := 1376) (by decide +kernel)) (by decide +kernel))
set_option maxRecDepth 100000 in
theorem wi_X10 : Cond.initialized RX10 ∈ lw_g := (lwg_of (List.mem_of_getElem? (i := 89) (by decide +kernel)) (by decide +kernel))
set_option maxRecDepth 100000 in
theorem wk_ele : Cond.code yX10_element cX10_element 4 (some .long) ∈ lw_g := (lwg_of (List.mem_of_getElem? (i := 1377) (by decide +kernel)) (by decide +kernel))
set_option maxRecDepth 100000 in
theorem wc_13 : Cond.classLink "TentPlainLaw" 13 RAE ∈ lw_g := (lwg_of (List.mem_of_getElem? (i := 1372) (by decide +kernel)) (by decide +kernel))
set_option maxRecDepth 100000 in
theorem wc_15 : Cond.classLink "TentPlainLaw" 15 RSE ∈ lw_g := (lwg_of (List.mem_of_getElem? (i := 1373) (by decide +kernel)) (by decide +kernel))
def mE (mem : mM) (d i : Int32) : mM := (mem.1, (if (sEle mem.1 d i).1 = 0 then uL mem.2.1 [2] (vp_updL (mem.2.1 [2]) 0 (sEle mem.1 d i).2.toInt64) else mem.2.1), mem.2.2 + sElC mem.1 d i)
theorem wd_mE0 {aC : Nat → ClassId} {ads : List Nat → Nat} {pth : Nat → List Nat} {LL : List Nat} {mem : mM} {d i : Int32} (h : ¬ (sEle mem.1 d i).1 = 0) : wd aC ads pth LL (mE mem d i) = wd aC ads pth LL mem := by
  unfold mE
  rw [if_neg h]
  rfl
theorem wd_mE1 {aC : Nat → ClassId} {ads : List Nat → Nat} {pth : Nat → List Nat} {LL : List Nat} {mem : mM} {d i : Int32} {n : Nat} (h : (sEle mem.1 d i).1 = 0) : wd aC ads pth LL (mE mem d i) = wd aC ads pth LL (mem.1, uL mem.2.1 [2] (vp_updL (mem.2.1 [2]) 0 (sEle mem.1 d i).2.toInt64), n) := by
  unfold mE
  rw [if_pos h]
  rfl
def QcL (D : va_G) (aC : Nat → ClassId) (ads : List Nat → Nat) (pth : Nat → List Nat) (LL : List Nat) (mem : mM) (d i : Int32) (sz : Nat) : Array Value → State → Outcome → State → Prop := va_Qi (S := Unit) (fun r _ => r = (sEle mem.1 d i).1) (fun _ t => va_P D vwCl (wd aC ads pth LL (mE mem d i)) t.heap) (AA LL sz)
set_option maxRecDepth 100000 in
set_option maxHeartbeats 4000000 in
theorem ct_lel (l : Launch) (hst : l.stackTraces = false) (h903 : H903 l) (D : va_G) (aC : Nat → ClassId) (ads : List Nat → Nat) (pth : Nat → List Nat) (LL : List Nat) (L : Nat) (xs : Nat → Int32) (b0 q9 : Nat) (mem : mM) (d i : Int32) (h80 : (sEle mem.1 d i).1 = 0 → inB i 80 = true) (sz : Nat) (hE : EO ads pth LL) (hnd : LL.Nodup) (h3 : ads [3] = b0) (h4 : ads [4] = q9) :
    Met l yLE (.codeWith yLE cL_element 5 (some .int) [(0, 9, 12, 13), (0, 9, 16, 15)] :: lw_g) { frames := 80, cells := 1, slots := 6, locals := 4000 } (PcW D aC ads pth LL L xs b0 q9 mem sz [.ref (ads [0]), .int d, .int i, .ref (ads [2])]) (QcL D aC ads pth LL mem d i sz) 1 6 (AA LL sz) := by
  refine va_MetW (ws' := lw_g) (cc := cL_element) (maxL := 5) (ret := some .int) (hh := [(0, 9, 12, 13), (0, 9, 16, 15)]) (by decide) rfl ?_
  intro p e s m args below meth c s₁ B hml hv
  obtain ⟨rfl, hv⟩ := hv
  have hx := B.exec
  have hb := B.bytes
  have hr := B.returns
  have hts0 := atoms_spec (ws := .codeWith yLE cL_element 5 (some .int) [(0, 9, 12, 13), (0, 9, 16, 15)] :: lw_g) B.pre
  have hts : ∀ w ∈ lw_g, w.before [Value.ref (ads [0]), .int d, .int i, .ref (ads [2])].toArray s = true := fun w hw => hts0 w (List.mem_cons_of_mem _ hw)
  have hlocks := B.notSynchronized
  have hown : s.vm.findClass "TentPlainLaw" = some m.cls := findClass_of_methodNamed B.named
  have htab := vx_table (x := yX10_toss) B (hts0 _ List.mem_cons_self)
  obtain ⟨hsz, hP, hK, -, -, -, -, hXW, -⟩ := id hv
  subst hsz
  have F := Fy.of hx hb hml hown hts hE hnd h3 h4 hv
  have hl := lv_entry ([.ref (ads [0]), .int d, .int i, .ref (ads [2])]) (n := 5) (Nat.le_of_ble_eq_true rfl)
  rw [lg_entry_eq]
  generalize (lg_sl ([.ref (ads [0]), .int d, .int i, .ref (ads [2])]) ++ List.replicate (5 - (lg_sl ([.ref (ads [0]), .int d, .int i, .ref (ads [2])])).length) Slot.unset).toArray = ls at hl ⊢
  have hl : lv_has ls 5 [(0, .ref (ads [0])), (1, .int d), (2, .int i), (3, .ref (ads [2]))] := hl
  have hS : va_S (AA LL s.heap.size) s.heap s.heap [] := va_S.rf
  refine lv_aload_n hx hb dle_0 rfl (lv_at hl 3 rfl) ?_
  refine lv_iconst (v := 0) hx hb dle_1 (by decide) ?_
  refine lv_aload_n hx hb dle_2 rfl (lv_at hl 0 rfl) ?_
  refine lv_iload_n hx hb dle_3 rfl (lv_at hl 1 rfl) ?_
  refine lv_iload_n hx hb dle_4 rfl (lv_at hl 2 rfl) ?_
  obtain ⟨k0, hk0⟩ := wd_at (aC := aC) hE (p := [0]) (c := 9) rfl mem
  rw [cEl_obj (by decide)] at hk0
  have hwd := F.wd hP hS
  refine vx_calll (vx_runV (As := [.int d, .int i]) (rest := [.int 0, .ref (ads [2])]) (C := RX10) ⟨hx, hb, hml, hown, hts⟩ (ct_ele l hst h903 D aC ads pth LL L xs b0 q9 mem d i h80 s.heap.size hE hnd h3 h4) (cwV 2 hts (goodIn_g (wsV_in wl_7 wm_ele ws_ele wi_X10 wk_ele)) rfl rfl rfl ⟨rfl, by decide, by decide, by decide +kernel⟩ ⟨(Nat.le_of_ble_eq_true rfl), (Nat.le_of_ble_eq_true rfl)⟩) ⟨PcW_blind, va_recv hK hP (rfl : vwCl[9]? = some (RX10, TX10, 9)) hk0, fun U hU hWm => ⟨rfl, hwd U hU hWm⟩⟩ rfl rfl hl.1 rfl (lv_room (Nat.le_of_ble_eq_true rfl)) dle_5 ⟨(Nat.le_of_ble_eq_true rfl), (Nat.le_of_ble_eq_true rfl)⟩) hS (fun q _ h => h) (fun q h => h) (fun q _ h => h)
    (fun E ce q9v u t H1 locs1 ht1 hvm _ hBX hz1 hk1' hS1 hq1 hcv hcl => ?_) (fun r u t H1 locs1 ht1 hvm hpost hP hz1 hk1' hS => ?_)
  · obtain ⟨hE2, hP⟩ := hBX
    rw [ht1] at hP
    have hS := hS1
    rcases hE2 with ⟨q3, rfl⟩ | ⟨q3, rfl⟩
    · have hP' : va_P D vwCl (wd aC ads pth LL (mE mem d i)) H1 := by
        rw [wd_mE0 (by rw [q3]; decide)]
        exact hP
      refine vx_catch hown [] ⟨0, 9, 12, 13⟩ [⟨0, 9, 16, 15⟩] (by rw [htab]; rfl) (fun z hz => absurd hz List.not_mem_nil) (by decide) (by decide) (hts _ wc_13) (va_Nw.use rfl hXW.2.1.2.2) hq1 hcv hcl ?_
      refine lv_astore (x := q9v) (lv' := [(4, .ref q9v), (0, .ref (ads [0])), (1, .int d), (2, .int i), (3, .ref (ads [2]))]) hx hb dle_12 hl (by decide) rfl (fun ls hl => ?_)
      refine lv_iconst (v := 1) hx hb dle_14 (by decide) ?_
      exact W.iret hx hb hr (fun t ht hWm => ⟨⟨_, (), rfl, q3.symm, by show va_P _ _ _ t.heap; rw [ht]; exact hP'⟩, hS.F ht⟩) hS.2.2 dle_15
    · have hP' : va_P D vwCl (wd aC ads pth LL (mE mem d i)) H1 := by
        rw [wd_mE0 (by rw [q3]; decide)]
        exact hP
      refine vx_catch hown [⟨0, 9, 12, 13⟩] ⟨0, 9, 16, 15⟩ [] (by rw [htab]; rfl) (fun z hz => by rcases List.mem_singleton.mp hz with rfl; exact Or.inr ⟨by decide, RAE, hts _ wc_13, hXW.2.2.2⟩) (by decide) (by decide) (hts _ wc_15) (va_Nw.use rfl hXW.2.1.2.1) hq1 hcv hcl ?_
      refine lv_astore (x := q9v) (lv' := [(4, .ref q9v), (0, .ref (ads [0])), (1, .int d), (2, .int i), (3, .ref (ads [2]))]) hx hb dle_16 hl (by decide) rfl (fun ls hl => ?_)
      refine lv_iconst (v := 2) hx hb dle_18 (by decide) ?_
      exact W.iret hx hb hr (fun t ht hWm => ⟨⟨_, (), rfl, q3.symm, by show va_P _ _ _ t.heap; rw [ht]; exact hP'⟩, hS.F ht⟩) hS.2.2 dle_19
  · rw [ht1] at hP
    obtain ⟨hp1, hp2⟩ := hpost
    obtain ⟨k2, hk2⟩ := wd_at (aC := aC) hE (p := [2]) (c := 4000001) rfl mem
    obtain ⟨m2, hm2⟩ : ∃ m2 : mM, m2 = (mem.1, uL mem.2.1 [2] (vp_updL (mem.2.1 [2]) 0 (sEle mem.1 d i).2.toInt64), mem.2.2) := ⟨_, rfl⟩
    have hset := wd_set (A := AA LL s.heap.size) (aC := aC) hE (wd_D hnd) (p := [2]) (c := 4000001) rfl hk2 (m2 := m2) (fun q hq => by rw [hm2]; exact ⟨rfl, uL_ne hq⟩)
    have e2 : cEl aC ads 4000001 [2] m2 = .inl (aC 4, 1, .inr (.inl (vp_updL (mem.2.1 [2]) 0 (sEle mem.1 d i).2.toInt64))) := by
      show Sum.inl (aC 4, 1, Sum.inr (Sum.inl (m2.2.1 [2]))) = _
      rw [hm2]
      dsimp only
      rw [uL_same]
    have e1 : cEl aC ads 4000001 [2] mem = .inl (aC 4, 1, .inr (.inl (mem.2.1 [2]))) := rfl
    rw [e1] at hk2
    rw [e2] at hset
    refine va_last hx hb hK hP (wd_D hnd) hS k2 3 hk2 (rfl : (tysOf aC)[3]? = some (aC 4, .long)) (show ¬ ((0 : Int32) < 0 ∨ 1 ≤ (0 : Int32).toNatClampNeg) by decide) dle_8 (fun H2 locs2 hP2 _ hS => ?_)
    rw [hp2] at hP2
    have hP2 : va_P D vwCl ((wd aC ads pth LL mem).set k2 (ads [2], .inl (aC 4, 1, .inr (.inl (vp_updL (mem.2.1 [2]) 0 (sEle mem.1 d i).2.toInt64))))) H2 := hP2
    rw [hset, hm2] at hP2
    have hP' : va_P D vwCl (wd aC ads pth LL (mE mem d i)) H2 := by
      rw [wd_mE1 (n := mem.2.2) hp1]
      exact hP2
    refine lv_goto hx hb dle_9 (tgt := 20) rfl ?_
    refine lv_iconst (v := 0) hx hb dle_20 (by decide) ?_
    exact W.iret hx hb hr (fun t ht hWm => ⟨⟨_, (), rfl, hp1.symm, by show va_P _ _ _ t.heap; rw [ht]; exact hP'⟩, hS.F ht⟩) hS.2.2 dle_21
end Spc7
