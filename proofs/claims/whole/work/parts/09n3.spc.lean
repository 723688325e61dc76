section Spc3
theorem dfl_0 : decode cX0_fail 0 = .ok (.aload_n 0, 1) := by decide +kernel
theorem dfl_1 : decode cX0_fail 1 = .ok (.getfield 22, 3) := by decide +kernel
theorem dfl_4 : decode cX0_fail 4 = .ok (.iconst 5, 1) := by decide +kernel
theorem dfl_5 : decode cX0_fail 5 = .ok (.if_icmp .eq 10, 3) := by decide +kernel
theorem dfl_8 : decode cX0_fail 8 = .ok (.aload_n 0, 1) := by decide +kernel
theorem dfl_9 : decode cX0_fail 9 = .ok (.getfield 25, 3) := by decide +kernel
theorem dfl_12 : decode cX0_fail 12 = .ok (.ifCond .ge 4, 3) := by decide +kernel
theorem dfl_15 : decode cX0_fail 15 = .ok (.return_, 1) := by decide +kernel
theorem dfl_16 : decode cX0_fail 16 = .ok (.aload_n 0, 1) := by decide +kernel
theorem dfl_17 : decode cX0_fail 17 = .ok (.getfield 22, 3) := by decide +kernel
theorem dfl_20 : decode cX0_fail 20 = .ok (.iconst 3, 1) := by decide +kernel
theorem dfl_21 : decode cX0_fail 21 = .ok (.if_icmp .ne 13, 3) := by decide +kernel
theorem dfl_24 : decode cX0_fail 24 = .ok (.new 84, 3) := by decide +kernel
theorem dfl_27 : decode cX0_fail 27 = .ok (.dup, 1) := by decide +kernel
theorem dfl_28 : decode cX0_fail 28 = .ok (.ldc 86, 2) := by decide +kernel
theorem dfl_30 : decode cX0_fail 30 = .ok (.invokespecial 88, 3) := by decide +kernel
theorem dfl_33 : decode cX0_fail 33 = .ok (.athrow, 1) := by decide +kernel
theorem dfl_34 : decode cX0_fail 34 = .ok (.new 91, 3) := by decide +kernel
theorem dfl_37 : decode cX0_fail 37 = .ok (.dup, 1) := by decide +kernel
theorem dfl_38 : decode cX0_fail 38 = .ok (.ldc 93, 2) := by decide +kernel
theorem dfl_40 : decode cX0_fail 40 = .ok (.invokespecial 95, 3) := by decide +kernel
theorem dfl_43 : decode cX0_fail 43 = .ok (.athrow, 1) := by decide +kernel
set_option maxRecDepth 100000 in
theorem wf_22 : Cond.fieldLink RX0 22 RX0 (TX0 1).2.1 (TX0 1).2.2.1 ∈ lw_g := (lwg_of (List.mem_of_getElem? (i := 230) (by decide +kernel)) (by decide +kernel))
set_option maxRecDepth 100000 in
theorem wf_25 : Cond.fieldLink RX0 25 RX0 (TX0 2).2.1 (TX0 2).2.2.1 ∈ lw_g := (lwg_of (List.mem_of_getElem? (i := 234) (by decide +kernel)) (by decide +kernel))
set_option maxRecDepth 100000 in
theorem wc_84 : Cond.classLink RX0 84 RUE ∈ lw_g := (lwg_of (List.mem_of_getElem? (i := 1286) (by decide +kernel)) (by decide +kernel))
set_option maxRecDepth 100000 in
theorem wc_91 : Cond.classLink RX0 91 RSE ∈ lw_g := (lwg_of (List.mem_of_getElem? (i := 1353) (by decide +kernel)) (by decide +kernel))
set_option maxRecDepth 100000 in
theorem wi_UE : Cond.initialized RUE ∈ lw_g := (lwg_of (List.mem_of_getElem? (i := 113) (by decide +kernel)) (by decide +kernel))
set_option maxRecDepth 100000 in
theorem wi_SE : Cond.initialized RSE ∈ lw_g := (lwg_of (List.mem_of_getElem? (i := 112) (by decide +kernel)) (by decide +kernel))
set_option maxRecDepth 100000 in
theorem wi_AE : Cond.initialized RAE ∈ lw_g := (lwg_of (List.mem_of_getElem? (i := 111) (by decide +kernel)) (by decide +kernel))
set_option maxRecDepth 100000 in
theorem gd_88 : ∀ w ∈ Cond.classLink RX0 84 RUE :: Cond.initialized RUE :: vx_atS RX0 88 RUE nmX, vx_ot w = true := by decide +kernel
set_option maxRecDepth 100000 in
theorem gd_95 : ∀ w ∈ Cond.classLink RX0 91 RSE :: Cond.initialized RSE :: vx_atS RX0 95 RSE nmX, vx_ot w = true := by decide +kernel
set_option maxRecDepth 100000 in
theorem gd_395 : ∀ w ∈ Cond.classLink RX10 391 RAE :: Cond.initialized RAE :: vx_atS RX10 395 RAE nmX, vx_ot w = true := by decide +kernel
set_option maxRecDepth 100000 in
theorem gd_402 : ∀ w ∈ Cond.classLink RX10 398 RSE :: Cond.initialized RSE :: vx_atS RX10 402 RSE nmX, vx_ot w = true := by decide +kernel
def PcF (D : va_G) (aC : Nat → ClassId) (fs : List Value) (h0 sz : Nat) : Array Value → State → Prop := va_Pc [.ref h0] (fun U => U.heap.size = sz ∧ va_P D vwCl [(h0, .inr (0, fs))] U.heap ∧ va_K D vwCl (tysOf aC) U ∧ XF (fun q => sz ≤ q) U)
def QcF (kd ce : Int32) (sz : Nat) : Array Value → State → Outcome → State → Prop := va_Qv (S := Unit) (fun _ => kd = 5 ∨ ce < 0) (fun _ _ => True) (fun q => sz ≤ q)
def XcF (kd ce : Int32) (sz : Nat) : String → State → State → Prop := vx_X (S := Unit) (fun _ => ¬ (kd = 5 ∨ ce < 0)) (fun E _ _ => (kd = 3 ∧ E = RUE) ∨ (kd ≠ 3 ∧ E = RSE)) (fun q => sz ≤ q)
theorem PcF_blind {D : va_G} {aC : Nat → ClassId} {fs : List Value} {h0 sz : Nat} : FrameBlind (PcF D aC fs h0 sz) := by
  intro a U g mk h
  obtain ⟨h0, h1, h2, h3, h4⟩ := h
  exact ⟨h0, h1, h2, va_K.moved (u := U) (U := U.calling g mk a) (Vm.Alike.refl U.vm) h3, h4.call⟩
set_option maxRecDepth 100000 in
set_option maxHeartbeats 4000000 in
theorem ct_fail (l : Launch) (hst : l.stackTraces = false) {fs : List Value} {kd ce : Int32} (h1 : fs[1]? = some (.int kd)) (h2 : fs[2]? = some (.int ce)) (D : va_G) (aC : Nat → ClassId) (h0 sz : Nat) : vx_Met l yX0_fail (.code yX0_fail cX0_fail 1 none :: lw_g) { frames := 8, cells := 1, slots := 6, locals := 120 } (PcF D aC fs h0 sz) (QcF kd ce sz) (XcF kd ce sz) 1 6 (fun q => sz ≤ q) := by
  refine vx_ofW (ws' := lw_g) (cc := cX0_fail) (maxL := 1) (ret := none) (by decide) rfl ?_
  intro p e s m args below meth c s₁ B hml ht hv
  obtain ⟨rfl, hsz, hP, hK, hXW, ⟨hU, hN⟩, ⟨sa1, hr1⟩, ⟨sa2, hr2⟩, -⟩ := hv
  have hx := B.exec
  have hb := B.bytes
  have hr := B.returns
  have hts0 := atoms_spec (ws := .code yX0_fail cX0_fail 1 none :: lw_g) B.pre
  have hts : ∀ w ∈ lw_g, w.before [Value.ref h0].toArray s = true := fun w hw => hts0 w (List.mem_cons_of_mem _ hw)
  have hlocks := B.notSynchronized
  have hown : s.vm.findClass RX0 = some m.cls := findClass_of_methodNamed B.named
  subst hsz
  have hl := lv_entry ([.ref h0]) (n := 1) (Nat.le_of_ble_eq_true rfl)
  rw [lg_entry_eq]
  generalize (lg_sl ([.ref h0]) ++ List.replicate (1 - (lg_sl ([.ref h0])).length) Slot.unset).toArray = ls at hl ⊢
  have hl : lv_has ls 1 [(0, .ref h0)] := hl
  have hS : va_S (fun q : Nat => s.heap.size ≤ q) s.heap s.heap [] := va_S.rf
  have ret15 : (kd = 5 ∨ ce < 0) → W p l e (headSpec (.code yX0_fail cX0_fail 1 none :: lw_g) { frames := 8, cells := 1, slots := 6, locals := 120 }).room s m [Value.ref h0].toArray below meth c s.heap [] 0 0 (vx_MQ below (QcF kd ce s.heap.size) (XcF kd ce s.heap.size) [Value.ref h0].toArray s 1 6 (fun q => s.heap.size ≤ q)) (F0 m 15 ls []) := fun hc => by
    refine vx_ret ?_
    refine W.widen (k := 1) (n := 6) (by decide) (by decide) ?_
    exact W.vret hx hb hr (fun t ht hWm => ⟨⟨(), rfl, hc, trivial⟩, hS.F ht⟩) hS.2.2 dfl_15
  refine lv_aload_n hx hb dfl_0 rfl (lv_at hl 0 rfl) ?_
  refine va_get hx hb hts uw_0 hown hK hP 0 rfl (rfl : vwCl[0]? = some (RX0, TX0, 19)) 1 (by decide) (hts _ wf_22) (fun x h9 => h9) h1 dfl_1 ?_
  refine lv_iconst (v := 5) hx hb dfl_4 (by decide) ?_
  refine lv_icmp_eq hx hb dfl_5 (tgt := 15) rfl (fun q => ret15 (Or.inl q)) (fun q5 => ?_)
  refine lv_aload_n hx hb dfl_8 rfl (lv_at hl 0 rfl) ?_
  refine va_get hx hb hts uw_0 hown hK hP 0 rfl (rfl : vwCl[0]? = some (RX0, TX0, 19)) 2 (by decide) (hts _ wf_25) (fun x h9 => h9) h2 dfl_9 ?_
  refine lv_if_ge hx hb dfl_12 (tgt := 16) rfl (fun qc => ?_) (fun q => ret15 (Or.inr (Int32.not_le.mp q)))
  have hnot : ¬ (kd = 5 ∨ ce < 0) := fun z => z.elim q5 (fun z => Int32.not_le.mpr z qc)
  refine lv_aload_n hx hb dfl_16 rfl (lv_at hl 0 rfl) ?_
  refine va_get hx hb hts uw_0 hown hK hP 0 rfl (rfl : vwCl[0]? = some (RX0, TX0, 19)) 1 (by decide) (hts _ wf_22) (fun x h9 => h9) h1 dfl_17 ?_
  refine lv_iconst (v := 3) hx hb dfl_20 (by decide) ?_
  refine lv_icmp_ne hx hb dfl_21 (tgt := 34) rfl (fun q3 => ?_) (fun q3 => ?_)
  · exact vx_throwS hx hb hst (own := RX0) (cls := RSE) (text := "a body fails") (names := nmX) (ik := 91) (is := 93) (ic := 95) hown (by decide +kernel) (by decide +kernel) (hts _ wc_91) (hts _ wi_SE) hr2 (hat_95 hts hXW) gd_95 hU hN hS (hl.1.trans hml.symm) dfl_34 dfl_37 dfl_38 dfl_40 dfl_43 (fun x hx9 => absurd hx9 (ht x)) (by decide) (by decide) (by decide) (by decide) hlocks (fun t _ hz hk => ⟨(), hnot, Or.inr ⟨q3, rfl⟩, hz, fun q hq _ => hk q hq⟩) hS.2.2 (by decide) (by decide)
  · exact vx_throwS hx hb hst (own := RX0) (cls := RUE) (text := "a train fails") (names := nmX) (ik := 84) (is := 86) (ic := 88) hown (by decide +kernel) (by decide +kernel) (hts _ wc_84) (hts _ wi_UE) hr1 (hat_88 hts hXW) gd_88 hU hN hS (hl.1.trans hml.symm) dfl_24 dfl_27 dfl_28 dfl_30 dfl_33 (fun x hx9 => absurd hx9 (ht x)) (by decide) (by decide) (by decide) (by decide) hlocks (fun t _ hz hk => ⟨(), hnot, Or.inl ⟨q3, rfl⟩, hz, fun q hq _ => hk q hq⟩) hS.2.2 (by decide) (by decide)
end Spc3
