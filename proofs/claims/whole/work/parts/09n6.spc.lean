section Spc6
theorem dto_0 : decode cX10_toss 0 = .ok (.aload_n 0, 1) := by decide +kernel
theorem dto_1 : decode cX10_toss 1 = .ok (.iload_n 1, 1) := by decide +kernel
theorem dto_2 : decode cX10_toss 2 = .ok (.invokevirtual 416, 3) := by decide +kernel
theorem dto_5 : decode cX10_toss 5 = .ok (.istore_n 2, 1) := by decide +kernel
theorem dto_6 : decode cX10_toss 6 = .ok (.iload_n 2, 1) := by decide +kernel
theorem dto_7 : decode cX10_toss 7 = .ok (.ifCond .eq 5, 3) := by decide +kernel
theorem dto_10 : decode cX10_toss 10 = .ok (.iload_n 2, 1) := by decide +kernel
theorem dto_11 : decode cX10_toss 11 = .ok (.ireturn, 1) := by decide +kernel
theorem dto_12 : decode cX10_toss 12 = .ok (.aload_n 0, 1) := by decide +kernel
theorem dto_13 : decode cX10_toss 13 = .ok (.getfield 42, 3) := by decide +kernel
theorem dto_16 : decode cX10_toss 16 = .ok (.iload_n 1, 1) := by decide +kernel
theorem dto_17 : decode cX10_toss 17 = .ok (.aaload, 1) := by decide +kernel
theorem dto_18 : decode cX10_toss 18 = .ok (.getfield 419, 3) := by decide +kernel
theorem dto_21 : decode cX10_toss 21 = .ok (.astore_n 3, 1) := by decide +kernel
theorem dto_22 : decode cX10_toss 22 = .ok (.aload_n 3, 1) := by decide +kernel
theorem dto_23 : decode cX10_toss 23 = .ok (.invokevirtual 425, 3) := by decide +kernel
theorem dto_26 : decode cX10_toss 26 = .ok (.goto 20, 3) := by decide +kernel
theorem dto_29 : decode cX10_toss 29 = .ok (.astore 4, 2) := by decide +kernel
theorem dto_31 : decode cX10_toss 31 = .ok (.bipush 100, 2) := by decide +kernel
theorem dto_33 : decode cX10_toss 33 = .ok (.aload_n 3, 1) := by decide +kernel
theorem dto_34 : decode cX10_toss 34 = .ok (.getfield 158, 3) := by decide +kernel
theorem dto_37 : decode cX10_toss 37 = .ok (.iadd, 1) := by decide +kernel
theorem dto_38 : decode cX10_toss 38 = .ok (.ireturn, 1) := by decide +kernel
theorem dto_39 : decode cX10_toss 39 = .ok (.astore 4, 2) := by decide +kernel
theorem dto_41 : decode cX10_toss 41 = .ok (.aload_n 3, 1) := by decide +kernel
theorem dto_42 : decode cX10_toss 42 = .ok (.getfield 158, 3) := by decide +kernel
theorem dto_45 : decode cX10_toss 45 = .ok (.ireturn, 1) := by decide +kernel
theorem dto_46 : decode cX10_toss 46 = .ok (.bipush (-15), 2) := by decide +kernel
theorem dto_48 : decode cX10_toss 48 = .ok (.ireturn, 1) := by decide +kernel
set_option maxRecDepth 100000 in
theorem wl_425 : Cond.methodLink RX10 425 yX0_fail ∈ lw_g := (lwg_of (List.mem_of_getElem? (i := 1282) (by decide +kernel)) (by decide +kernel))
set_option maxRecDepth 100000 in
theorem wm_fail : Cond.instanceMethod yX0_fail ∈ lw_g := (lwg_of (List.mem_of_getElem? (i := 1283) (by decide +kernel)) (by decide +kernel))
set_option maxRecDepth 100000 in
theorem ws_fail : Cond.selects RX0 yX0_fail yX0_fail ∈ lw_g := (lwg_of (List.mem_of_getElem? (i := 1284) (by decide +kernel)) (by decide +kernel))
set_option maxRecDepth 100000 in
theorem wk_fail : Cond.code yX0_fail cX0_fail 1 none ∈ lw_g := (lwg_of (List.mem_of_getElem? (i := 1285) (by decide +kernel)) (by decide +kernel))
set_option maxRecDepth 100000 in
theorem wi_X0 : Cond.initialized RX0 ∈ lw_g := (lwg_of (List.mem_of_getElem? (i := 92) (by decide +kernel)) (by decide +kernel))
theorem XF.narrow {A B : Nat → Prop} {U : State} (h : XF A U) (hAB : ∀ q, B q → A q) : XF B U := h.to (State.WarmedH.refl U) rfl (fun _ _ _ => rfl) hAB
def QcT (D : va_G) (aC : Nat → ClassId) (ads : List Nat → Nat) (pth : Nat → List Nat) (LL : List Nat) (mem : mM) (d : Int32) (sz : Nat) : Array Value → State → Outcome → State → Prop := va_Qi (S := Unit) (fun r _ => r = sTos mem.1 d) (fun _ t => va_P D vwCl (wd aC ads pth LL mem) t.heap) (AA LL sz)
set_option maxRecDepth 100000 in
set_option maxHeartbeats 4000000 in
theorem ct_tos (l : Launch) (hst : l.stackTraces = false) (h903 : H903 l) (D : va_G) (aC : Nat → ClassId) (ads : List Nat → Nat) (pth : Nat → List Nat) (LL : List Nat) (L : Nat) (xs : Nat → Int32) (b0 q9 : Nat) (mem : mM) (d : Int32) (sz : Nat) (hE : EO ads pth LL) (hnd : LL.Nodup) (h3 : ads [3] = b0) (h4 : ads [4] = q9) :
    Met l yX10_toss (.codeWith yX10_toss cX10_toss 5 (some .int) [(22, 26, 29, 428), (22, 26, 39, 398)] :: lw_g) { frames := 80, cells := 1, slots := 6, locals := 4000 } (PcW D aC ads pth LL L xs b0 q9 mem sz [.ref (ads [0]), .int d]) (QcT D aC ads pth LL mem d sz) 1 6 (AA LL sz) := by
  refine va_MetW (ws' := lw_g) (cc := cX10_toss) (maxL := 5) (ret := some .int) (hh := [(22, 26, 29, 428), (22, 26, 39, 398)]) (by decide) rfl ?_
  intro p e s m args below meth c s₁ B hml hv
  obtain ⟨rfl, hv⟩ := hv
  have hx := B.exec
  have hb := B.bytes
  have hr := B.returns
  have hts0 := atoms_spec (ws := .codeWith yX10_toss cX10_toss 5 (some .int) [(22, 26, 29, 428), (22, 26, 39, 398)] :: lw_g) B.pre
  have hts : ∀ w ∈ lw_g, w.before [Value.ref (ads [0]), .int d].toArray s = true := fun w hw => hts0 w (List.mem_cons_of_mem _ hw)
  have hlocks := B.notSynchronized
  have hown : s.vm.findClass RX10 = some m.cls := findClass_of_methodNamed B.named
  have htab := vx_table (x := yX10_toss) B (hts0 _ List.mem_cons_self)
  obtain ⟨hsz, hP, hK, -, -, -, -, hXW, -⟩ := id hv
  subst hsz
  have F := Fy.of hx hb hml hown hts hE hnd h3 h4 hv
  have hl := lv_entry ([.ref (ads [0]), .int d]) (n := 5) (Nat.le_of_ble_eq_true rfl)
  rw [lg_entry_eq]
  generalize (lg_sl ([.ref (ads [0]), .int d]) ++ List.replicate (5 - (lg_sl ([.ref (ads [0]), .int d])).length) Slot.unset).toArray = ls at hl ⊢
  have hl : lv_has ls 5 [(0, .ref (ads [0])), (1, .int d)] := hl
  have hS : va_S (AA LL s.heap.size) s.heap s.heap [] := va_S.rf
  refine lv_aload_n hx hb dto_0 rfl (lv_at hl 0 rfl) ?_
  refine lv_iload_n hx hb dto_1 rfl (lv_at hl 1 rfl) ?_
  obtain ⟨n, hz⟩ := x86 (L := L) (xs := xs) (mem := mem) (d := d)
  refine B_smV (p9 := [0]) (fc := 9) (tl := [vi d]) (rest := []) F h903 (by decide) rfl hz wl_416 rfl (by decide) (by decide +kernel) (fun w hw => by rcases List.mem_singleton.mp hw with rfl; exact trivial) rfl rfl ⟨(Nat.le_of_ble_eq_true rfl), (Nat.le_of_ble_eq_true rfl)⟩ ⟨(Nat.le_of_ble_eq_true rfl), (Nat.le_of_ble_eq_true rfl)⟩ (by decide) dto_2 hl.1 hP hS (fun H locs hP hS => ?_)
  refine lv_istore_n (x := rBR mem.1 d) (lv' := [(2, .int (rBR mem.1 d)), (0, .ref (ads [0])), (1, .int d)]) hx hb dto_5 rfl hl (by decide) rfl (fun ls hl => ?_)
  refine lv_iload_n hx hb dto_6 rfl (lv_at hl 0 rfl) ?_
  refine lv_if_eq hx hb dto_7 (tgt := 12) rfl (fun qz => ?_) (fun qz => ?_)
  case refine_2 =>
    refine lv_iload_n hx hb dto_10 rfl (lv_at hl 0 rfl) ?_
    refine W.widen (k := 1) (n := 6) (by decide) (by decide) ?_
    exact W.iret hx hb hr (fun t ht hWm => ⟨⟨_, (), rfl, (sTos_1 qz).symm, by show va_P _ _ _ t.heap; rw [ht]; exact hP⟩, hS.F ht⟩) hS.2.2 dto_11
  obtain ⟨hB, hd1⟩ := rBR_0 qz
  have hto := sTos_2 (f := mem.1) hB hd1
  refine lv_aload_n hx hb dto_12 rfl (lv_at hl 1 rfl) ?_
  obtain ⟨k0, hk0⟩ := wd_at (aC := aC) hE (p := [0]) (c := 9) rfl mem
  rw [cEl_obj (by decide)] at hk0
  refine va_get hx hb hts uw_9 hown hK hP k0 hk0 (rfl : vwCl[9]? = some (RX10, TX10, 9)) 6 (by decide) (hts _ wf_42) (fun x h9 => h9) (v := .ref (ads [6, 0])) rfl dto_13 ?_
  refine lv_iload_n hx hb dto_16 rfl (lv_at hl 2 rfl) ?_
  obtain ⟨k1, hk1⟩ := wd_at (aC := aC) hE (p := [6, 0]) (c := 6000008) rfl mem
  have ek1 : cEl aC ads 6000008 [6, 0] mem = .inl (aC 6, 8, .inr (.inr (.inr (.inr (fun j => some (ads [j, 6, 0])))))) := rfl
  rw [ek1] at hk1
  refine va_aldq hx hb hK hP k1 5 hk1 (rfl : (tysOf aC)[5]? = some (aC 6, .object "TentPlain$Shelf")) (inBvp hB) dto_17 ?_
  obtain ⟨k2, hk2⟩ := wd_at (aC := aC) hE (tag_sh hB) mem
  rw [cEl_obj (by decide)] at hk2
  refine va_get hx hb hts uw_4 hown hK hP k2 hk2 (rfl : vwCl[4]? = some (RX5, TX5, 5)) 1 (by decide) (hts _ wf_419) (fun x h9 => h9) (v := .ref (ads [1, d.toNatClampNeg, 6, 0])) rfl dto_18 ?_
  refine lv_astore_n (lv' := [(3, .ref (ads [1, d.toNatClampNeg, 6, 0])), (2, .int (rBR mem.1 d)), (0, .ref (ads [0])), (1, .int d)]) hx hb dto_21 rfl hl (by decide) rfl (fun ls hl => ?_)
  refine lv_aload_n hx hb dto_22 rfl (lv_at hl 0 rfl) ?_
  obtain ⟨k3, hk3⟩ := wd_at (aC := aC) hE (p := [1, d.toNatClampNeg, 6, 0]) (c := 0) (tag_ch (tag_sh hB) rfl) mem
  rw [cEl_obj (by decide)] at hk3
  have hPc : va_P D vwCl [(ads [1, d.toNatClampNeg, 6, 0], .inr (0, fLst ads 0 [1, d.toNatClampNeg, 6, 0] (mem.1 [1, d.toNatClampNeg, 6, 0])))] H := P_mem hP (fun q hq => by rcases List.mem_singleton.mp hq with rfl; exact List.mem_of_getElem? hk3)
  have hwd := F.wd hP hS
  refine vx_callv (vx_runV (As := []) (rest := []) (C := RX0) ⟨hx, hb, hml, hown, hts⟩ (ct_fail l hst (fs := fLst ads 0 [1, d.toNatClampNeg, 6, 0] (mem.1 [1, d.toNatClampNeg, 6, 0])) (kd := mem.1 [1, d.toNatClampNeg, 6, 0] 1) (ce := mem.1 [1, d.toNatClampNeg, 6, 0] 2) rfl rfl D aC (ads [1, d.toNatClampNeg, 6, 0]) H.size) (cwV 0 hts (goodIn_g (wsV_in wl_425 wm_fail ws_fail wi_X0 wk_fail)) rfl rfl rfl ⟨rfl, by decide, by decide, by decide +kernel⟩ ⟨by decide, by decide⟩) ⟨PcF_blind, va_recv hK hP (rfl : vwCl[0]? = some (RX0, TX0, 19)) hk3, fun U hU hWm => ⟨rfl, by rw [hU], by rw [hU]; exact hPc, va_K.moved hWm.alike hK, (hwd U hU hWm).2.2.2.2.2.2.2.narrow (fun q hq => Or.inr hq)⟩⟩ rfl rfl hl.1 rfl (lv_room (by decide)) dto_23 ⟨by decide, by decide⟩) hS (fun q h1 h2 => absurd h2 (by omega)) (fun q hq => Or.inr (Nat.le_trans hS.1 hq)) (fun q h1 h2 => absurd h2 (by omega))
    (fun E ce q9v u t H1 locs1 ht1 hvm hpx hBX hz1 hk1' hS1 hq1 hcv hcl => ?_) (fun u t H1 locs1 ht1 hvm hpost _ hz1 hk1' hS1 => ?_)
  · have hP : va_P D vwCl (wd aC ads pth LL mem) H1 := hP.kept (fun k x hx => hk1' x.1 ((hP k x hx).lt) (Nat.not_le.mpr ((hP k x hx).lt)))
    have hS := hS1
    rcases hBX with ⟨q3, rfl⟩ | ⟨q3, rfl⟩
    · refine vx_catch hown [] ⟨22, 26, 29, 428⟩ [⟨22, 26, 39, 398⟩] (by rw [htab]; rfl) (fun z hz => absurd hz List.not_mem_nil) (by decide) (by decide) (hts _ wc_428) (va_Nw.use rfl hXW.2.1.1) hq1 hcv hcl ?_
      refine lv_astore (x := q9v) (lv' := [(4, .ref q9v), (3, .ref (ads [1, d.toNatClampNeg, 6, 0])), (2, .int (rBR mem.1 d)), (0, .ref (ads [0])), (1, .int d)]) hx hb dto_29 hl (by decide) rfl (fun ls hl => ?_)
      refine lv_bipush (v := 100) hx hb dto_31 (by decide) ?_
      refine lv_aload_n hx hb dto_33 rfl (lv_at hl 1 rfl) ?_
      refine va_get hx hb hts uw_0 hown hK hP k3 hk3 (rfl : vwCl[0]? = some (RX0, TX0, 19)) 0 (by decide) (hts _ wf_158) (fun x h9 => h9) (v := .int (mem.1 [1, d.toNatClampNeg, 6, 0] 0)) rfl dto_34 ?_
      refine lv_iadd hx hb dto_37 ?_
      exact W.iret hx hb hr (fun t ht hWm => ⟨⟨_, (), rfl, by rw [hto, if_neg (fun z => hpx (Or.inl z)), if_neg (fun z => hpx (Or.inr z)), if_pos q3], by show va_P _ _ _ t.heap; rw [ht]; exact hP⟩, hS.F ht⟩) hS.2.2 dto_38
    · refine vx_catch hown [⟨22, 26, 29, 428⟩] ⟨22, 26, 39, 398⟩ [] (by rw [htab]; rfl) (fun z hz => by rcases List.mem_singleton.mp hz with rfl; exact Or.inr ⟨by decide, RUE, hts _ wc_428, hXW.2.2.1⟩) (by decide) (by decide) (hts _ wc_398) (va_Nw.use rfl hXW.2.1.2.1) hq1 hcv hcl ?_
      refine lv_astore (x := q9v) (lv' := [(4, .ref q9v), (3, .ref (ads [1, d.toNatClampNeg, 6, 0])), (2, .int (rBR mem.1 d)), (0, .ref (ads [0])), (1, .int d)]) hx hb dto_39 hl (by decide) rfl (fun ls hl => ?_)
      refine lv_aload_n hx hb dto_41 rfl (lv_at hl 1 rfl) ?_
      refine va_get hx hb hts uw_0 hown hK hP k3 hk3 (rfl : vwCl[0]? = some (RX0, TX0, 19)) 0 (by decide) (hts _ wf_158) (fun x h9 => h9) (v := .int (mem.1 [1, d.toNatClampNeg, 6, 0] 0)) rfl dto_42 ?_
      exact W.iret hx hb hr (fun t ht hWm => ⟨⟨_, (), rfl, by rw [hto, if_neg (fun z => hpx (Or.inl z)), if_neg (fun z => hpx (Or.inr z)), if_neg q3], by show va_P _ _ _ t.heap; rw [ht]; exact hP⟩, hS.F ht⟩) hS.2.2 dto_45
  · have hP : va_P D vwCl (wd aC ads pth LL mem) H1 := hP.kept (fun k x hx => hk1' x.1 ((hP k x hx).lt) (Nat.not_le.mpr ((hP k x hx).lt)))
    have hS := hS1
    refine lv_goto hx hb dto_26 (tgt := 46) rfl ?_
    refine lv_bipush (v := -15) hx hb dto_46 (by decide) ?_
    exact W.iret hx hb hr (fun t ht hWm => ⟨⟨_, (), rfl, by rw [hto]; rcases hpost with z | z; exact (if_pos z).symm; by_cases q : mem.1 [1, d.toNatClampNeg, 6, 0] 1 = 5; exact (if_pos q).symm; rw [if_neg q, if_pos z], by show va_P _ _ _ t.heap; rw [ht]; exact hP⟩, hS.F ht⟩) hS.2.2 dto_48
end Spc6
