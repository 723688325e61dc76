section Spc5
set_option maxRecDepth 100000 in
theorem wl_241 : Cond.methodLink RX10 241 (mY.getD 112 x) ∈ lw_g := (lwg_of (List.mem_of_getElem? (i := 732) (by decide +kernel)) (by decide +kernel))
set_option maxRecDepth 100000 in
theorem wl_61 : Cond.methodLink RX10 61 (mY.getD 143 x) ∈ lw_g := (lwg_of (List.mem_of_getElem? (i := 584) (by decide +kernel)) (by decide +kernel))
set_option maxRecDepth 100000 in
theorem wl_416 : Cond.methodLink RX10 416 (mY.getD 86 x) ∈ lw_g := (lwg_of (List.mem_of_getElem? (i := 1267) (by decide +kernel)) (by decide +kernel))
set_option maxRecDepth 100000 in
theorem wf_42 : Cond.fieldLink RX10 42 RX10 (TX10 6).2.1 (TX10 6).2.2.1 ∈ lw_g := (lwg_of (List.mem_of_getElem? (i := 558) (by decide +kernel)) (by decide +kernel))
set_option maxRecDepth 100000 in
theorem wf_378 : Cond.fieldLink RX10 378 RX5 (TX5 0).2.1 (TX5 0).2.2.1 ∈ lw_g := (lwg_of (List.mem_of_getElem? (i := 532) (by decide +kernel)) (by decide +kernel))
set_option maxRecDepth 100000 in
theorem wf_234 : Cond.fieldLink RX10 234 RX5 (TX5 3).2.1 (TX5 3).2.2.1 ∈ lw_g := (lwg_of (List.mem_of_getElem? (i := 538) (by decide +kernel)) (by decide +kernel))
set_option maxRecDepth 100000 in
theorem wf_231 : Cond.fieldLink RX10 231 RX5 (TX5 4).2.1 (TX5 4).2.2.1 ∈ lw_g := (lwg_of (List.mem_of_getElem? (i := 540) (by decide +kernel)) (by decide +kernel))
set_option maxRecDepth 100000 in
theorem wf_419 : Cond.fieldLink RX10 419 RX5 (TX5 1).2.1 (TX5 1).2.2.1 ∈ lw_g := (lwg_of (List.mem_of_getElem? (i := 534) (by decide +kernel)) (by decide +kernel))
set_option maxRecDepth 100000 in
theorem wf_158 : Cond.fieldLink RX10 158 RX0 (TX0 0).2.1 (TX0 0).2.2.1 ∈ lw_g := (lwg_of (List.mem_of_getElem? (i := 229) (by decide +kernel)) (by decide +kernel))
set_option maxRecDepth 100000 in
theorem wc_391 : Cond.classLink RX10 391 RAE ∈ lw_g := (lwg_of (List.mem_of_getElem? (i := 1378) (by decide +kernel)) (by decide +kernel))
set_option maxRecDepth 100000 in
theorem wc_398 : Cond.classLink RX10 398 RSE ∈ lw_g := (lwg_of (List.mem_of_getElem? (i := 1281) (by decide +kernel)) (by decide +kernel))
set_option maxRecDepth 100000 in
theorem wc_428 : Cond.classLink RX10 428 RUE ∈ lw_g := (lwg_of (List.mem_of_getElem? (i := 1280) (by decide +kernel)) (by decide +kernel))
theorem del_0 : decode cX10_element 0 = .ok (.iload_n 1, 1) := by decide +kernel
theorem del_1 : decode cX10_element 1 = .ok (.invokestatic 241, 3) := by decide +kernel
theorem del_4 : decode cX10_element 4 = .ok (.ifCond .ne 14, 3) := by decide +kernel
theorem del_7 : decode cX10_element 7 = .ok (.new 391, 3) := by decide +kernel
theorem del_10 : decode cX10_element 10 = .ok (.dup, 1) := by decide +kernel
theorem del_11 : decode cX10_element 11 = .ok (.ldc_w 393, 3) := by decide +kernel
theorem del_14 : decode cX10_element 14 = .ok (.invokespecial 395, 3) := by decide +kernel
theorem del_17 : decode cX10_element 17 = .ok (.athrow, 1) := by decide +kernel
theorem del_18 : decode cX10_element 18 = .ok (.aload_n 0, 1) := by decide +kernel
theorem del_19 : decode cX10_element 19 = .ok (.getfield 42, 3) := by decide +kernel
theorem del_22 : decode cX10_element 22 = .ok (.iload_n 1, 1) := by decide +kernel
theorem del_23 : decode cX10_element 23 = .ok (.aaload, 1) := by decide +kernel
theorem del_24 : decode cX10_element 24 = .ok (.astore_n 3, 1) := by decide +kernel
theorem del_25 : decode cX10_element 25 = .ok (.aload_n 3, 1) := by decide +kernel
theorem del_26 : decode cX10_element 26 = .ok (.getfield 378, 3) := by decide +kernel
theorem del_29 : decode cX10_element 29 = .ok (.iconst 2, 1) := by decide +kernel
theorem del_30 : decode cX10_element 30 = .ok (.if_icmp .eq 14, 3) := by decide +kernel
theorem del_33 : decode cX10_element 33 = .ok (.new 398, 3) := by decide +kernel
theorem del_36 : decode cX10_element 36 = .ok (.dup, 1) := by decide +kernel
theorem del_37 : decode cX10_element 37 = .ok (.ldc_w 400, 3) := by decide +kernel
theorem del_40 : decode cX10_element 40 = .ok (.invokespecial 402, 3) := by decide +kernel
theorem del_43 : decode cX10_element 43 = .ok (.athrow, 1) := by decide +kernel
theorem del_44 : decode cX10_element 44 = .ok (.iload_n 2, 1) := by decide +kernel
theorem del_45 : decode cX10_element 45 = .ok (.iconst 0, 1) := by decide +kernel
theorem del_46 : decode cX10_element 46 = .ok (.aload_n 3, 1) := by decide +kernel
theorem del_47 : decode cX10_element 47 = .ok (.getfield 234, 3) := by decide +kernel
theorem del_50 : decode cX10_element 50 = .ok (.iconst 1, 1) := by decide +kernel
theorem del_51 : decode cX10_element 51 = .ok (.isub, 1) := by decide +kernel
theorem del_52 : decode cX10_element 52 = .ok (.invokestatic 61, 3) := by decide +kernel
theorem del_55 : decode cX10_element 55 = .ok (.ifCond .ne 14, 3) := by decide +kernel
theorem del_58 : decode cX10_element 58 = .ok (.new 398, 3) := by decide +kernel
theorem del_61 : decode cX10_element 61 = .ok (.dup, 1) := by decide +kernel
theorem del_62 : decode cX10_element 62 = .ok (.ldc_w 403, 3) := by decide +kernel
theorem del_65 : decode cX10_element 65 = .ok (.invokespecial 402, 3) := by decide +kernel
theorem del_68 : decode cX10_element 68 = .ok (.athrow, 1) := by decide +kernel
theorem del_69 : decode cX10_element 69 = .ok (.aload_n 3, 1) := by decide +kernel
theorem del_70 : decode cX10_element 70 = .ok (.getfield 231, 3) := by decide +kernel
theorem del_73 : decode cX10_element 73 = .ok (.iload_n 2, 1) := by decide +kernel
theorem del_74 : decode cX10_element 74 = .ok (.iaload, 1) := by decide +kernel
theorem del_75 : decode cX10_element 75 = .ok (.i2l, 1) := by decide +kernel
theorem del_76 : decode cX10_element 76 = .ok (.lreturn, 1) := by decide +kernel
def PcW (D : va_G) (aC : Nat → ClassId) (ads : List Nat → Nat) (pth : Nat → List Nat) (LL : List Nat) (L : Nat) (xs : Nat → Int32) (b0 q9 : Nat) (mem : mM) (sz : Nat) (av : List Value) : Array Value → State → Prop := va_Pc av (WD D aC ads pth LL L xs b0 q9 mem sz)
theorem PcW_blind {D : va_G} {aC : Nat → ClassId} {ads : List Nat → Nat} {pth : Nat → List Nat} {LL : List Nat} {L : Nat} {xs : Nat → Int32} {b0 q9 : Nat} {mem : mM} {sz : Nat} {av : List Value} : FrameBlind (PcW D aC ads pth LL L xs b0 q9 mem sz av) := by
  intro a U g mk h
  exact ⟨h.1, h.2.call⟩
def QcE (D : va_G) (aC : Nat → ClassId) (ads : List Nat → Nat) (pth : Nat → List Nat) (LL : List Nat) (mem : mM) (d i : Int32) (sz : Nat) : Array Value → State → Outcome → State → Prop := va_Ql (S := Unit) (fun r _ => (sEle mem.1 d i).1 = 0 ∧ r = (sEle mem.1 d i).2.toInt64) (fun _ t => va_P D vwCl (wd aC ads pth LL mem) t.heap) (AA LL sz)
def XcE (D : va_G) (aC : Nat → ClassId) (ads : List Nat → Nat) (pth : Nat → List Nat) (LL : List Nat) (mem : mM) (d i : Int32) (sz : Nat) : String → State → State → Prop := vx_X (S := Unit) (fun _ => True) (fun E _ t => (((sEle mem.1 d i).1 = 1 ∧ E = RAE) ∨ ((sEle mem.1 d i).1 = 2 ∧ E = RSE)) ∧ va_P D vwCl (wd aC ads pth LL mem) t.heap) (AA LL sz)
theorem tag_sh {d : Int32} (h : inB d 8 = true) : tagOf [d.toNatClampNeg, 6, 0] = some 4 := by
  have h8 : d.toNatClampNeg < 8 := by
    unfold inB at h
    simp only [Bool.and_eq_true, decide_eq_true_eq] at h
    exact h.2
  exact tag_ch (p := [6, 0]) (c := 6000008) rfl ((KFc_10 _).trans (if_pos h8))
set_option maxRecDepth 100000 in
set_option maxHeartbeats 4000000 in
theorem ct_ele (l : Launch) (hst : l.stackTraces = false) (h903 : H903 l) (D : va_G) (aC : Nat → ClassId) (ads : List Nat → Nat) (pth : Nat → List Nat) (LL : List Nat) (L : Nat) (xs : Nat → Int32) (b0 q9 : Nat) (mem : mM) (d i : Int32) (h80 : (sEle mem.1 d i).1 = 0 → inB i 80 = true) (sz : Nat) (hE : EO ads pth LL) (hnd : LL.Nodup) (h3 : ads [3] = b0) (h4 : ads [4] = q9) :
    vx_Met l yX10_element (.code yX10_element cX10_element 4 (some .long) :: lw_g) { frames := 70, cells := 1, slots := 6, locals := 3000 } (PcW D aC ads pth LL L xs b0 q9 mem sz [.ref (ads [0]), .int d, .int i]) (QcE D aC ads pth LL mem d i sz) (XcE D aC ads pth LL mem d i sz) 1 6 (AA LL sz) := by
  refine vx_ofW (ws' := lw_g) (cc := cX10_element) (maxL := 4) (ret := some .long) (by decide) rfl ?_
  intro p e s m args below meth c s₁ B hml ht hv
  obtain ⟨rfl, hv⟩ := hv
  have hx := B.exec
  have hb := B.bytes
  have hr := B.returns
  have hts0 := atoms_spec (ws := .code yX10_element cX10_element 4 (some .long) :: lw_g) B.pre
  have hts : ∀ w ∈ lw_g, w.before [Value.ref (ads [0]), .int d, .int i].toArray s = true := fun w hw => hts0 w (List.mem_cons_of_mem _ hw)
  have hlocks := B.notSynchronized
  have hown : s.vm.findClass RX10 = some m.cls := findClass_of_methodNamed B.named
  obtain ⟨hsz, hP, hK, -, -, -, -, hXW, ⟨hU, hN⟩, -, -, ⟨sa1, hr1⟩, ⟨sa2, hr2⟩, ⟨sa3, hr3⟩⟩ := id hv
  subst hsz
  have F := Fy.of hx hb hml hown hts hE hnd h3 h4 hv
  have hl := lv_entry ([.ref (ads [0]), .int d, .int i]) (n := 4) (Nat.le_of_ble_eq_true rfl)
  rw [lg_entry_eq]
  generalize (lg_sl ([.ref (ads [0]), .int d, .int i]) ++ List.replicate (4 - (lg_sl ([.ref (ads [0]), .int d, .int i])).length) Slot.unset).toArray = ls at hl ⊢
  have hl : lv_has ls 4 [(0, .ref (ads [0])), (1, .int d), (2, .int i)] := hl
  have hS : va_S (AA LL s.heap.size) s.heap s.heap [] := va_S.rf
  refine lv_iload_n hx hb del_0 rfl (lv_at hl 1 rfl) ?_
  cases hB : inB d 8 with
  | false =>
    obtain ⟨n, hz⟩ := x112_f (L := L) (xs := xs) (mem := mem) hB
    refine B_smS (as := [vi d]) (rest := []) F h903 (by decide) rfl hz wl_241 (fun w hw => by rcases List.mem_singleton.mp hw with rfl; exact trivial) rfl rfl ⟨(Nat.le_of_ble_eq_true rfl), (Nat.le_of_ble_eq_true rfl)⟩ ⟨(Nat.le_of_ble_eq_true rfl), (Nat.le_of_ble_eq_true rfl)⟩ (by decide) del_1 hl.1 hP hS (fun H locs hP hS => ?_)
    refine lv_if_ne (x := 0) hx hb del_4 (tgt := 18) rfl (fun q => absurd rfl q) (fun _ => ?_)
    exact vx_throwSW hx hb hst (own := RX10) (cls := RAE) (text := "no such shelf") (names := nmX) (ik := 391) (is := 393) (ic := 395) hown (by decide +kernel) (by decide +kernel) (hts _ wc_391) (hts _ wi_AE) hr1 (hat_395 hts hXW) gd_395 hU hN hS (hl.1.trans hml.symm) del_7 del_10 del_11 del_14 del_17 (fun x hx9 => absurd hx9 (ht x)) (by decide) (by decide) (by decide) (by decide) hlocks (fun t _ hz hk => ⟨(), trivial, ⟨Or.inl ⟨by rw [sEle_1 hB], rfl⟩, hP.kept (fun k x hx => hk x.1 ((hP k x hx).lt))⟩, Nat.le_trans hS.1 hz, fun q hq hA => (hk q (Nat.lt_of_lt_of_le hq hS.1)).trans (hS.2.1 q hq hA)⟩) hS.2.2 (by decide) (by decide)
  | true =>
  obtain ⟨n, hz⟩ := x112_t (L := L) (xs := xs) (mem := mem) hB
  refine B_smS (as := [vi d]) (rest := []) F h903 (by decide) rfl hz wl_241 (fun w hw => by rcases List.mem_singleton.mp hw with rfl; exact trivial) rfl rfl ⟨(Nat.le_of_ble_eq_true rfl), (Nat.le_of_ble_eq_true rfl)⟩ ⟨(Nat.le_of_ble_eq_true rfl), (Nat.le_of_ble_eq_true rfl)⟩ (by decide) del_1 hl.1 hP hS (fun H locs hP hS => ?_)
  refine lv_if_ne (x := 1) hx hb del_4 (tgt := 18) rfl (fun _ => ?_) (fun q => absurd q (by decide))
  refine lv_aload_n hx hb del_18 rfl (lv_at hl 0 rfl) ?_
  obtain ⟨k0, hk0⟩ := wd_at (aC := aC) hE (p := [0]) (c := 9) rfl mem
  rw [cEl_obj (by decide)] at hk0
  refine va_get hx hb hts uw_9 hown hK hP k0 hk0 (rfl : vwCl[9]? = some (RX10, TX10, 9)) 6 (by decide) (hts _ wf_42) (fun x h9 => h9) (v := .ref (ads [6, 0])) rfl del_19 ?_
  refine lv_iload_n hx hb del_22 rfl (lv_at hl 1 rfl) ?_
  obtain ⟨k1, hk1⟩ := wd_at (aC := aC) hE (p := [6, 0]) (c := 6000008) rfl mem
  have ek1 : cEl aC ads 6000008 [6, 0] mem = .inl (aC 6, 8, .inr (.inr (.inr (.inr (fun j => some (ads [j, 6, 0])))))) := rfl
  rw [ek1] at hk1
  refine va_aldq hx hb hK hP k1 5 hk1 (rfl : (tysOf aC)[5]? = some (aC 6, .object "TentPlain$Shelf")) (inBvp hB) del_23 ?_
  refine lv_astore_n (lv' := [(3, .ref (ads [d.toNatClampNeg, 6, 0])), (0, .ref (ads [0])), (1, .int d), (2, .int i)]) hx hb del_24 rfl hl (by decide) rfl (fun ls hl => ?_)
  obtain ⟨k2, hk2⟩ := wd_at (aC := aC) hE (tag_sh hB) mem
  rw [cEl_obj (by decide)] at hk2
  refine lv_aload_n hx hb del_25 rfl (lv_at hl 0 rfl) ?_
  refine va_get hx hb hts uw_4 hown hK hP k2 hk2 (rfl : vwCl[4]? = some (RX5, TX5, 5)) 0 (by decide) (hts _ wf_378) (fun x h9 => h9) (v := .int (mem.1 [d.toNatClampNeg, 6, 0] 0)) rfl del_26 ?_
  refine lv_iconst (v := 2) hx hb del_29 (by decide) ?_
  refine lv_icmp_eq hx hb del_30 (tgt := 44) rfl (fun q2 => ?_) (fun q2 => ?_)
  case refine_2 =>
    exact vx_throwSW hx hb hst (own := RX10) (cls := RSE) (text := "no row is held") (names := nmX) (ik := 398) (is := 400) (ic := 402) hown (by decide +kernel) (by decide +kernel) (hts _ wc_398) (hts _ wi_SE) hr2 (hat_402 hts hXW) gd_402 hU hN hS (hl.1.trans hml.symm) del_33 del_36 del_37 del_40 del_43 (fun x hx9 => absurd hx9 (ht x)) (by decide) (by decide) (by decide) (by decide) hlocks (fun t _ hz hk => ⟨(), trivial, ⟨Or.inr ⟨by rw [sEle_2 hB q2], rfl⟩, hP.kept (fun k x hx => hk x.1 ((hP k x hx).lt))⟩, Nat.le_trans hS.1 hz, fun q hq hA => (hk q (Nat.lt_of_lt_of_le hq hS.1)).trans (hS.2.1 q hq hA)⟩) hS.2.2 (by decide) (by decide)
  refine lv_iload_n hx hb del_44 rfl (lv_at hl 3 rfl) ?_
  refine lv_iconst (v := 0) hx hb del_45 (by decide) ?_
  refine lv_aload_n hx hb del_46 rfl (lv_at hl 0 rfl) ?_
  refine va_get hx hb hts uw_4 hown hK hP k2 hk2 (rfl : vwCl[4]? = some (RX5, TX5, 5)) 3 (by decide) (hts _ wf_234) (fun x h9 => h9) (v := .int (mem.1 [d.toNatClampNeg, 6, 0] 3)) rfl del_47 ?_
  refine lv_iconst (v := 1) hx hb del_50 (by decide) ?_
  refine lv_isub hx hb del_51 ?_
  by_cases hw : i < 0 ∨ mem.1 [d.toNatClampNeg, 6, 0] 3 - 1 < i
  · obtain ⟨n, hz⟩ := x143_f (L := L) (xs := xs) (mem := mem) hw
    refine B_smS (as := [vi i, vi 0, vi (mem.1 [d.toNatClampNeg, 6, 0] 3 - 1)]) (rest := []) F h903 (by decide) rfl hz wl_61 (fun w hw => by simp only [List.mem_cons, List.not_mem_nil, or_false] at hw; rcases hw with rfl | rfl | rfl <;> exact trivial) rfl rfl ⟨(Nat.le_of_ble_eq_true rfl), (Nat.le_of_ble_eq_true rfl)⟩ ⟨(Nat.le_of_ble_eq_true rfl), (Nat.le_of_ble_eq_true rfl)⟩ (by decide) del_52 hl.1 hP hS (fun H locs hP hS => ?_)
    refine lv_if_ne (x := 0) hx hb del_55 (tgt := 69) rfl (fun q => absurd rfl q) (fun _ => ?_)
    exact vx_throwSW hx hb hst (own := RX10) (cls := RSE) (text := "no such place") (names := nmX) (ik := 398) (is := 403) (ic := 402) hown (by decide +kernel) (by decide +kernel) (hts _ wc_398) (hts _ wi_SE) hr3 (hat_402 hts hXW) gd_402 hU hN hS (hl.1.trans hml.symm) del_58 del_61 del_62 del_65 del_68 (fun x hx9 => absurd hx9 (ht x)) (by decide) (by decide) (by decide) (by decide) hlocks (fun t _ hz hk => ⟨(), trivial, ⟨Or.inr ⟨by rw [sEle_3 hB q2 hw], rfl⟩, hP.kept (fun k x hx => hk x.1 ((hP k x hx).lt))⟩, Nat.le_trans hS.1 hz, fun q hq hA => (hk q (Nat.lt_of_lt_of_le hq hS.1)).trans (hS.2.1 q hq hA)⟩) hS.2.2 (by decide) (by decide)
  have w1 : ¬ i < 0 := fun z => hw (Or.inl z)
  have w2 : ¬ mem.1 [d.toNatClampNeg, 6, 0] 3 - 1 < i := fun z => hw (Or.inr z)
  have hsv := sEle_4 hB q2 w1 w2
  obtain ⟨n, hz⟩ := x143_t (L := L) (xs := xs) (mem := mem) w1 w2
  refine B_smS (as := [vi i, vi 0, vi (mem.1 [d.toNatClampNeg, 6, 0] 3 - 1)]) (rest := []) F h903 (by decide) rfl hz wl_61 (fun w hw => by simp only [List.mem_cons, List.not_mem_nil, or_false] at hw; rcases hw with rfl | rfl | rfl <;> exact trivial) rfl rfl ⟨(Nat.le_of_ble_eq_true rfl), (Nat.le_of_ble_eq_true rfl)⟩ ⟨(Nat.le_of_ble_eq_true rfl), (Nat.le_of_ble_eq_true rfl)⟩ (by decide) del_52 hl.1 hP hS (fun H locs hP hS => ?_)
  refine lv_if_ne (x := 1) hx hb del_55 (tgt := 69) rfl (fun _ => ?_) (fun q => absurd q (by decide))
  refine lv_aload_n hx hb del_69 rfl (lv_at hl 0 rfl) ?_
  refine va_get hx hb hts uw_4 hown hK hP k2 hk2 (rfl : vwCl[4]? = some (RX5, TX5, 5)) 4 (by decide) (hts _ wf_231) (fun x h9 => h9) (v := .ref (ads [4, d.toNatClampNeg, 6, 0])) rfl del_70 ?_
  refine lv_iload_n hx hb del_73 rfl (lv_at hl 3 rfl) ?_
  obtain ⟨k3, hk3⟩ := wd_at (aC := aC) hE (p := [4, d.toNatClampNeg, 6, 0]) (c := 1000080) (tag_ch (tag_sh hB) rfl) mem
  have ek3 : cEl aC ads 1000080 [4, d.toNatClampNeg, 6, 0] mem = .inl (aC 1, 80, .inl (mem.1 [4, d.toNatClampNeg, 6, 0])) := rfl
  rw [ek3] at hk3
  refine va_iald hx hb hK hP k3 0 hk3 (rfl : (tysOf aC)[0]? = some (aC 1, .int)) (inBvp (h80 (by rw [hsv]))) del_74 ?_
  refine lv_i2l hx hb del_75 rfl ?_
  refine vx_ret ?_
  refine W.widen (k := 1) (n := 6) (by decide) (by decide) ?_
  exact W.lret hx hb hr (fun t ht hWm => ⟨⟨_, (), rfl, ⟨by rw [hsv], by rw [hsv]⟩, by show va_P _ _ _ t.heap; rw [ht]; exact hP⟩, hS.F ht⟩) hS.2.2 del_76
end Spc5
