section Ctor5
set_option maxRecDepth 100000 in
set_option maxHeartbeats 4000000 in
theorem ct_5 (l : Launch) : MetC l yX5_init cX5_init 1 4 [.int 0, .null, .int 0, .int 0, .null] im5 { frames := 3, cells := 5, slots := 118, locals := 52 } 5 118 := by
  intro D aC h0 sz
  refine Met.ofW (cc := cX5_init) (maxL := 1) (ret := none) (ws' := lw_g) (by decide) rfl ?_
  intro p e s m args below meth c s₁ B hml hv
  obtain ⟨rfl, hsz, hP, hK, hNW⟩ := hv
  have hx := B.exec
  have hb := B.bytes
  have hr := B.returns
  have hts0 := atoms_spec (ws := .code yX5_init cX5_init 1 none :: lw_g) B.pre
  have hts : ∀ w ∈ lw_g, w.before [Value.ref h0].toArray s = true := fun w hw => hts0 w (List.mem_cons_of_mem _ hw)
  have hown : s.vm.findClass RX5 = some m.cls := findClass_of_methodNamed B.named
  have hlocks := B.notSynchronized
  have hin : meth.name = "<init>" := (name_of_methodNamed B.named B.method).1
  subst hsz
  have F : CX p s m [Value.ref h0].toArray c D aC cX5_init 1 RX5 (AC h0 s.heap.size) := ⟨hx, hb, hml, hown, hts, hK, hNW, fun q h => Or.inr h⟩
  have hW : WC D aC (AC h0 s.heap.size) (chT 4) [(h0, .inr (4, [.int 0, .null, .int 0, .int 0, .null]))] [] s s.heap [] := ⟨fun _ => .inr (0, []), ⟨hP, D_iff.mpr ⟨List.nodup_cons.mpr ⟨List.not_mem_nil, List.nodup_nil⟩, fun q hq => by rcases List.mem_singleton.mp hq with rfl; exact Or.inl rfl⟩, va_S.rf⟩, fun e he => absurd he List.not_mem_nil⟩
  have hl := lv_entry ([.ref h0]) (n := 1) (Nat.le_of_ble_eq_true rfl)
  rw [lg_entry_eq]
  generalize (lg_sl ([.ref h0]) ++ List.replicate (1 - (lg_sl ([.ref h0])).length) Slot.unset).toArray = ls at hl ⊢
  have hl : lv_has ls 1 [(0, .ref h0)] := hl
  refine lv_aload_n hx hb dk5_0 rfl (lv_at hl 0 rfl) ?_
  refine W.objInit hx hb hown (hts _ wK_528) (hts _ wK_120) (hts _ wK_121) rfl (by rw [hml]; exact hl.1) rfl dk5_1 (Nat.le_of_ble_eq_true rfl) (Nat.le_of_ble_eq_true rfl) ?_
  refine W.eq (g2 := F0 m 4 ls []) rfl ?_
  refine lv_aload_n hx hb dk5_4 rfl (lv_at hl 0 rfl) ?_
  refine lv_iconst (v := 0) hx hb dk5_5 (by decide) ?_
  refine B_put (T := TX5) (k := 0) (ty := .int) tyX5 F hW rfl uw_4 tyX5_ok nmX5 (by decide) rfl rfl wK_531 hin (by decide +kernel) rfl rfl (Nat.le_of_ble_eq_true rfl) dk5_6 (Or.inl rfl) (fun H locs hW => ?_)
  have hW : WC D aC (AC h0 s.heap.size) (chT 4) [(h0, .inr (4, [.int 0, .null, .int 0, .int 0, .null]))] [] s H locs := hW
  refine lv_aload_n hx hb dk5_9 rfl (lv_at hl 0 rfl) ?_
  refine B_objN (k := 1) (ci := 0) (N := 19) (mL := 1) (C := RX0) (T := TX0) (fs := [.int 0, .int 0, .int 0, .int 0, .int 0, .int 0, .int 0, .int 0, .int 0, .int 0, .int 0, .int 0, .int 0, .int 0, .int 0, .int 0, .int 0, .int 0, .null]) (mem := im0) (y := yX0_init) tyX0 F hl.1 hW rfl rfl uw_0 tyX0_ok (by decide +kernel) wK_529 wK_201 wK_92 (ct_0 l) wK_204 rfl rfl rfl (List.mem_of_getElem? (i := 8) rfl) ⟨by decide, by decide, by decide +kernel⟩ rfl wK_203 ⟨(Nat.le_of_ble_eq_true rfl), (Nat.le_of_ble_eq_true rfl)⟩ (Nat.le_of_ble_eq_true rfl) (Nat.le_of_ble_eq_true rfl) (Nat.le_of_ble_eq_true rfl) dk5_10 dk5_13 dk5_14 (fun q1 L1 H locs hW => ?_)
  have hW : WC D aC (AC h0 s.heap.size) (chT 4) [(h0, .inr (4, [.int 0, .null, .int 0, .int 0, .null]))] [(1, q1, L1, im0)] s H locs := hW
  refine B_put (T := TX5) (k := 1) (ty := .object "TentPlain$Body") tyX5 F hW rfl uw_4 tyX5_ok nmX5 (by decide) rfl rfl wK_533 hin (by decide +kernel) rfl rfl (Nat.le_of_ble_eq_true rfl) dk5_17 (Or.inl rfl) (fun H locs hW => ?_)
  have hW : WC D aC (AC h0 s.heap.size) (chT 4) [(h0, .inr (4, [.int 0, .ref q1, .int 0, .int 0, .null]))] [(1, q1, L1, im0)] s H locs := hW
  refine lv_aload_n hx hb dk5_20 rfl (lv_at hl 0 rfl) ?_
  refine lv_iconst (v := 0) hx hb dk5_21 (by decide) ?_
  refine B_put (T := TX5) (k := 2) (ty := .int) tyX5 F hW rfl uw_4 tyX5_ok nmX5 (by decide) rfl rfl wK_535 hin (by decide +kernel) rfl rfl (Nat.le_of_ble_eq_true rfl) dk5_22 (Or.inl rfl) (fun H locs hW => ?_)
  have hW : WC D aC (AC h0 s.heap.size) (chT 4) [(h0, .inr (4, [.int 0, .ref q1, .int 0, .int 0, .null]))] [(1, q1, L1, im0)] s H locs := hW
  refine lv_aload_n hx hb dk5_25 rfl (lv_at hl 0 rfl) ?_
  refine lv_iconst (v := 0) hx hb dk5_26 (by decide) ?_
  refine B_put (T := TX5) (k := 3) (ty := .int) tyX5 F hW rfl uw_4 tyX5_ok nmX5 (by decide) rfl rfl wK_537 hin (by decide +kernel) rfl rfl (Nat.le_of_ble_eq_true rfl) dk5_27 (Or.inl rfl) (fun H locs hW => ?_)
  have hW : WC D aC (AC h0 s.heap.size) (chT 4) [(h0, .inr (4, [.int 0, .ref q1, .int 0, .int 0, .null]))] [(1, q1, L1, im0)] s H locs := hW
  refine lv_aload_n hx hb dk5_30 rfl (lv_at hl 0 rfl) ?_
  refine lv_bipush (v := 80) hx hb dk5_31 (by decide) ?_
  refine B_newa (k := 4) (tg := 1000080) (kd := 1) (N := 80) (a0 := (80, .inl fun _ => 0)) (atype := .int) (ty := .int) F hW rfl (fun _ => rfl) rfl wK_197 rfl (fun _ => rfl) (fun _ => rfl) (by decide) (by decide +kernel) (Nat.le_of_ble_eq_true rfl) (Nat.le_of_ble_eq_true rfl) (Nat.le_of_ble_eq_true rfl) dk5_33 (fun q2 H hW => ?_)
  have hW : WC D aC (AC h0 s.heap.size) (chT 4) [(h0, .inr (4, [.int 0, .ref q1, .int 0, .int 0, .null]))] [(1, q1, L1, im0), (4, q2, [q2], zeroM)] s H _ := hW
  refine B_put (T := TX5) (k := 4) (ty := .array .int) tyX5 F hW rfl uw_4 tyX5_ok nmX5 (by decide) rfl rfl wK_539 hin (by decide +kernel) rfl rfl (Nat.le_of_ble_eq_true rfl) dk5_35 (Or.inl rfl) (fun H locs hW => ?_)
  have hW : WC D aC (AC h0 s.heap.size) (chT 4) [(h0, .inr (4, [.int 0, .ref q1, .int 0, .int 0, .ref q2]))] [(1, q1, L1, im0), (4, q2, [q2], zeroM)] s H locs := hW
  obtain ⟨_, ⟨_, _, hS⟩, _⟩ := id hW
  refine W.widen (k := 5) (n := 118) (Nat.le_of_ble_eq_true rfl) (Nat.le_of_ble_eq_true rfl) ?_
  refine W.vret hx hb hr (fun t ht hWm => ⟨⟨(), rfl, trivial, B_end2 (N := 5) hW rfl rfl (fun _ _ => rfl) (show ∀ k ∈ ([1, 4] : List Nat), k < 1000 by decide) (show ∀ k, k < 5 → (chT 4 k).isSome = true → k ∈ ([1, 4] : List Nat) by decide +kernel) (show ([1, 4] : List Nat).Nodup by decide) (fun ads hads => ?_) (fun e he r => ?_) ht⟩, hS.F ht⟩) hS.2.2 dk5_38
  · have e1 : ads [1] = q1 := hads (1, q1, L1, im0) (List.mem_of_getElem? (i := 0) rfl)
    have e4 : ads [4] = q2 := hads (4, q2, [q2], zeroM) (List.mem_of_getElem? (i := 1) rfl)
    have e : cEl aC ads 4 [] im5 = Sum.inr (4, [.int 0, .ref (ads [1]), .int 0, .int 0, .ref (ads [4])]) := rfl
    rw [e, e1, e4]
  · simp only [List.mem_cons, List.not_mem_nil, or_false] at he
    rcases he with rfl | rfl <;> exact ⟨memN_1, memN_2⟩
end Ctor5
