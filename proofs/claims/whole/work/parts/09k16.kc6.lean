section Ctor6
set_option maxRecDepth 100000 in
set_option maxHeartbeats 4000000 in
theorem ct_6 (l : Launch) : MetC l yX6_init cX6_init 1 5 [.null, .null, .null, .int 0, .null, .int 0, .int 0, .int 0, .null] im6 { frames := 1, cells := 5, slots := 1860, locals := 12 } 5 1860 := by
  intro D aC h0 sz
  refine Met.ofW (cc := cX6_init) (maxL := 1) (ret := none) (ws' := lw_g) (by decide) rfl ?_
  intro p e s m args below meth c s₁ B hml hv
  obtain ⟨rfl, hsz, hP, hK, hNW⟩ := hv
  have hx := B.exec
  have hb := B.bytes
  have hr := B.returns
  have hts0 := atoms_spec (ws := .code yX6_init cX6_init 1 none :: lw_g) B.pre
  have hts : ∀ w ∈ lw_g, w.before [Value.ref h0].toArray s = true := fun w hw => hts0 w (List.mem_cons_of_mem _ hw)
  have hown : s.vm.findClass RX6 = some m.cls := findClass_of_methodNamed B.named
  have hlocks := B.notSynchronized
  have hin : meth.name = "<init>" := (name_of_methodNamed B.named B.method).1
  subst hsz
  have F : CX p s m [Value.ref h0].toArray c D aC cX6_init 1 RX6 (AC h0 s.heap.size) := ⟨hx, hb, hml, hown, hts, hK, hNW, fun q h => Or.inr h⟩
  have hW : WC D aC (AC h0 s.heap.size) (chT 5) [(h0, .inr (5, [.null, .null, .null, .int 0, .null, .int 0, .int 0, .int 0, .null]))] [] s s.heap [] := ⟨fun _ => .inr (0, []), ⟨hP, D_iff.mpr ⟨List.nodup_cons.mpr ⟨List.not_mem_nil, List.nodup_nil⟩, fun q hq => by rcases List.mem_singleton.mp hq with rfl; exact Or.inl rfl⟩, va_S.rf⟩, fun e he => absurd he List.not_mem_nil⟩
  have hl := lv_entry ([.ref h0]) (n := 1) (Nat.le_of_ble_eq_true rfl)
  rw [lg_entry_eq]
  generalize (lg_sl ([.ref h0]) ++ List.replicate (1 - (lg_sl ([.ref h0])).length) Slot.unset).toArray = ls at hl ⊢
  have hl : lv_has ls 1 [(0, .ref h0)] := hl
  refine lv_aload_n hx hb dk6_0 rfl (lv_at hl 0 rfl) ?_
  refine W.objInit hx hb hown (hts _ wK_418) (hts _ wK_120) (hts _ wK_121) rfl (by rw [hml]; exact hl.1) rfl dk6_1 (Nat.le_of_ble_eq_true rfl) (Nat.le_of_ble_eq_true rfl) ?_
  refine W.eq (g2 := F0 m 4 ls []) rfl ?_
  refine lv_aload_n hx hb dk6_4 rfl (lv_at hl 0 rfl) ?_
  refine lv_sipush (v := 1600) hx hb dk6_5 (by decide) ?_
  refine B_newa (k := 0) (tg := 1001600) (kd := 1) (N := 1600) (a0 := (1600, .inl fun _ => 0)) (atype := .int) (ty := .int) F hW rfl (fun _ => rfl) rfl wK_197 rfl (fun _ => rfl) (fun _ => rfl) (by decide) (by decide +kernel) (Nat.le_of_ble_eq_true rfl) (Nat.le_of_ble_eq_true rfl) (Nat.le_of_ble_eq_true rfl) dk6_8 (fun q1 H hW => ?_)
  have hW : WC D aC (AC h0 s.heap.size) (chT 5) [(h0, .inr (5, [.null, .null, .null, .int 0, .null, .int 0, .int 0, .int 0, .null]))] [(0, q1, [q1], zeroM)] s H _ := hW
  refine B_put (T := TX6) (k := 0) (ty := .array .int) tyX6 F hW rfl uw_5 tyX6_ok nmX6 (by decide) rfl rfl wK_419 hin (by decide +kernel) rfl rfl (Nat.le_of_ble_eq_true rfl) dk6_10 (Or.inl rfl) (fun H locs hW => ?_)
  have hW : WC D aC (AC h0 s.heap.size) (chT 5) [(h0, .inr (5, [.ref q1, .null, .null, .int 0, .null, .int 0, .int 0, .int 0, .null]))] [(0, q1, [q1], zeroM)] s H locs := hW
  refine lv_aload_n hx hb dk6_13 rfl (lv_at hl 0 rfl) ?_
  refine lv_bipush (v := 20) hx hb dk6_14 (by decide) ?_
  refine B_newa (k := 1) (tg := 1000020) (kd := 1) (N := 20) (a0 := (20, .inl fun _ => 0)) (atype := .int) (ty := .int) F hW rfl (fun _ => rfl) rfl wK_197 rfl (fun _ => rfl) (fun _ => rfl) (by decide) (by decide +kernel) (Nat.le_of_ble_eq_true rfl) (Nat.le_of_ble_eq_true rfl) (Nat.le_of_ble_eq_true rfl) dk6_16 (fun q2 H hW => ?_)
  have hW : WC D aC (AC h0 s.heap.size) (chT 5) [(h0, .inr (5, [.ref q1, .null, .null, .int 0, .null, .int 0, .int 0, .int 0, .null]))] [(0, q1, [q1], zeroM), (1, q2, [q2], zeroM)] s H _ := hW
  refine B_put (T := TX6) (k := 1) (ty := .array .int) tyX6 F hW rfl uw_5 tyX6_ok nmX6 (by decide) rfl rfl wK_420 hin (by decide +kernel) rfl rfl (Nat.le_of_ble_eq_true rfl) dk6_18 (Or.inl rfl) (fun H locs hW => ?_)
  have hW : WC D aC (AC h0 s.heap.size) (chT 5) [(h0, .inr (5, [.ref q1, .ref q2, .null, .int 0, .null, .int 0, .int 0, .int 0, .null]))] [(0, q1, [q1], zeroM), (1, q2, [q2], zeroM)] s H locs := hW
  refine lv_aload_n hx hb dk6_21 rfl (lv_at hl 0 rfl) ?_
  refine lv_bipush (v := 80) hx hb dk6_22 (by decide) ?_
  refine B_newa (k := 2) (tg := 1000080) (kd := 1) (N := 80) (a0 := (80, .inl fun _ => 0)) (atype := .int) (ty := .int) F hW rfl (fun _ => rfl) rfl wK_197 rfl (fun _ => rfl) (fun _ => rfl) (by decide) (by decide +kernel) (Nat.le_of_ble_eq_true rfl) (Nat.le_of_ble_eq_true rfl) (Nat.le_of_ble_eq_true rfl) dk6_24 (fun q3 H hW => ?_)
  have hW : WC D aC (AC h0 s.heap.size) (chT 5) [(h0, .inr (5, [.ref q1, .ref q2, .null, .int 0, .null, .int 0, .int 0, .int 0, .null]))] [(0, q1, [q1], zeroM), (1, q2, [q2], zeroM), (2, q3, [q3], zeroM)] s H _ := hW
  refine B_put (T := TX6) (k := 2) (ty := .array .int) tyX6 F hW rfl uw_5 tyX6_ok nmX6 (by decide) rfl rfl wK_421 hin (by decide +kernel) rfl rfl (Nat.le_of_ble_eq_true rfl) dk6_26 (Or.inl rfl) (fun H locs hW => ?_)
  have hW : WC D aC (AC h0 s.heap.size) (chT 5) [(h0, .inr (5, [.ref q1, .ref q2, .ref q3, .int 0, .null, .int 0, .int 0, .int 0, .null]))] [(0, q1, [q1], zeroM), (1, q2, [q2], zeroM), (2, q3, [q3], zeroM)] s H locs := hW
  refine lv_aload_n hx hb dk6_29 rfl (lv_at hl 0 rfl) ?_
  refine lv_iconst (v := 0) hx hb dk6_30 (by decide) ?_
  refine B_put (T := TX6) (k := 3) (ty := .int) tyX6 F hW rfl uw_5 tyX6_ok nmX6 (by decide) rfl rfl wK_422 hin (by decide +kernel) rfl rfl (Nat.le_of_ble_eq_true rfl) dk6_31 (Or.inl rfl) (fun H locs hW => ?_)
  have hW : WC D aC (AC h0 s.heap.size) (chT 5) [(h0, .inr (5, [.ref q1, .ref q2, .ref q3, .int 0, .null, .int 0, .int 0, .int 0, .null]))] [(0, q1, [q1], zeroM), (1, q2, [q2], zeroM), (2, q3, [q3], zeroM)] s H locs := hW
  refine lv_aload_n hx hb dk6_34 rfl (lv_at hl 0 rfl) ?_
  refine lv_bipush (v := 80) hx hb dk6_35 (by decide) ?_
  refine B_newa (k := 4) (tg := 1000080) (kd := 1) (N := 80) (a0 := (80, .inl fun _ => 0)) (atype := .int) (ty := .int) F hW rfl (fun _ => rfl) rfl wK_197 rfl (fun _ => rfl) (fun _ => rfl) (by decide) (by decide +kernel) (Nat.le_of_ble_eq_true rfl) (Nat.le_of_ble_eq_true rfl) (Nat.le_of_ble_eq_true rfl) dk6_37 (fun q4 H hW => ?_)
  have hW : WC D aC (AC h0 s.heap.size) (chT 5) [(h0, .inr (5, [.ref q1, .ref q2, .ref q3, .int 0, .null, .int 0, .int 0, .int 0, .null]))] [(0, q1, [q1], zeroM), (1, q2, [q2], zeroM), (2, q3, [q3], zeroM), (4, q4, [q4], zeroM)] s H _ := hW
  refine B_put (T := TX6) (k := 4) (ty := .array .int) tyX6 F hW rfl uw_5 tyX6_ok nmX6 (by decide) rfl rfl wK_423 hin (by decide +kernel) rfl rfl (Nat.le_of_ble_eq_true rfl) dk6_39 (Or.inl rfl) (fun H locs hW => ?_)
  have hW : WC D aC (AC h0 s.heap.size) (chT 5) [(h0, .inr (5, [.ref q1, .ref q2, .ref q3, .int 0, .ref q4, .int 0, .int 0, .int 0, .null]))] [(0, q1, [q1], zeroM), (1, q2, [q2], zeroM), (2, q3, [q3], zeroM), (4, q4, [q4], zeroM)] s H locs := hW
  refine lv_aload_n hx hb dk6_42 rfl (lv_at hl 0 rfl) ?_
  refine lv_iconst (v := 0) hx hb dk6_43 (by decide) ?_
  refine B_put (T := TX6) (k := 5) (ty := .int) tyX6 F hW rfl uw_5 tyX6_ok nmX6 (by decide) rfl rfl wK_424 hin (by decide +kernel) rfl rfl (Nat.le_of_ble_eq_true rfl) dk6_44 (Or.inl rfl) (fun H locs hW => ?_)
  have hW : WC D aC (AC h0 s.heap.size) (chT 5) [(h0, .inr (5, [.ref q1, .ref q2, .ref q3, .int 0, .ref q4, .int 0, .int 0, .int 0, .null]))] [(0, q1, [q1], zeroM), (1, q2, [q2], zeroM), (2, q3, [q3], zeroM), (4, q4, [q4], zeroM)] s H locs := hW
  refine lv_aload_n hx hb dk6_47 rfl (lv_at hl 0 rfl) ?_
  refine lv_iconst (v := 0) hx hb dk6_48 (by decide) ?_
  refine B_put (T := TX6) (k := 6) (ty := .int) tyX6 F hW rfl uw_5 tyX6_ok nmX6 (by decide) rfl rfl wK_425 hin (by decide +kernel) rfl rfl (Nat.le_of_ble_eq_true rfl) dk6_49 (Or.inl rfl) (fun H locs hW => ?_)
  have hW : WC D aC (AC h0 s.heap.size) (chT 5) [(h0, .inr (5, [.ref q1, .ref q2, .ref q3, .int 0, .ref q4, .int 0, .int 0, .int 0, .null]))] [(0, q1, [q1], zeroM), (1, q2, [q2], zeroM), (2, q3, [q3], zeroM), (4, q4, [q4], zeroM)] s H locs := hW
  refine lv_aload_n hx hb dk6_52 rfl (lv_at hl 0 rfl) ?_
  refine lv_bipush (v := (-4)) hx hb dk6_53 (by decide) ?_
  refine B_put (T := TX6) (k := 7) (ty := .int) tyX6 F hW rfl uw_5 tyX6_ok nmX6 (by decide) rfl rfl wK_426 hin (by decide +kernel) rfl rfl (Nat.le_of_ble_eq_true rfl) dk6_55 (Or.inl rfl) (fun H locs hW => ?_)
  have hW : WC D aC (AC h0 s.heap.size) (chT 5) [(h0, .inr (5, [.ref q1, .ref q2, .ref q3, .int 0, .ref q4, .int 0, .int 0, .int (-4), .null]))] [(0, q1, [q1], zeroM), (1, q2, [q2], zeroM), (2, q3, [q3], zeroM), (4, q4, [q4], zeroM)] s H locs := hW
  refine lv_aload_n hx hb dk6_58 rfl (lv_at hl 0 rfl) ?_
  refine lv_bipush (v := 80) hx hb dk6_59 (by decide) ?_
  refine B_newa (k := 8) (tg := 1000080) (kd := 1) (N := 80) (a0 := (80, .inl fun _ => 0)) (atype := .int) (ty := .int) F hW rfl (fun _ => rfl) rfl wK_197 rfl (fun _ => rfl) (fun _ => rfl) (by decide) (by decide +kernel) (Nat.le_of_ble_eq_true rfl) (Nat.le_of_ble_eq_true rfl) (Nat.le_of_ble_eq_true rfl) dk6_61 (fun q5 H hW => ?_)
  have hW : WC D aC (AC h0 s.heap.size) (chT 5) [(h0, .inr (5, [.ref q1, .ref q2, .ref q3, .int 0, .ref q4, .int 0, .int 0, .int (-4), .null]))] [(0, q1, [q1], zeroM), (1, q2, [q2], zeroM), (2, q3, [q3], zeroM), (4, q4, [q4], zeroM), (8, q5, [q5], zeroM)] s H _ := hW
  refine B_put (T := TX6) (k := 8) (ty := .array .int) tyX6 F hW rfl uw_5 tyX6_ok nmX6 (by decide) rfl rfl wK_427 hin (by decide +kernel) rfl rfl (Nat.le_of_ble_eq_true rfl) dk6_63 (Or.inl rfl) (fun H locs hW => ?_)
  have hW : WC D aC (AC h0 s.heap.size) (chT 5) [(h0, .inr (5, [.ref q1, .ref q2, .ref q3, .int 0, .ref q4, .int 0, .int 0, .int (-4), .ref q5]))] [(0, q1, [q1], zeroM), (1, q2, [q2], zeroM), (2, q3, [q3], zeroM), (4, q4, [q4], zeroM), (8, q5, [q5], zeroM)] s H locs := hW
  obtain ⟨_, ⟨_, _, hS⟩, _⟩ := id hW
  refine W.widen (k := 5) (n := 1860) (Nat.le_of_ble_eq_true rfl) (Nat.le_of_ble_eq_true rfl) ?_
  refine W.vret hx hb hr (fun t ht hWm => ⟨⟨(), rfl, trivial, B_end2 (N := 9) hW rfl rfl (fun _ _ => rfl) (show ∀ k ∈ ([0, 1, 2, 4, 8] : List Nat), k < 1000 by decide) (show ∀ k, k < 9 → (chT 5 k).isSome = true → k ∈ ([0, 1, 2, 4, 8] : List Nat) by decide +kernel) (show ([0, 1, 2, 4, 8] : List Nat).Nodup by decide) (fun ads hads => ?_) (fun e he r => ?_) ht⟩, hS.F ht⟩) hS.2.2 dk6_66
  · have e0 : ads [0] = q1 := hads (0, q1, [q1], zeroM) (List.mem_of_getElem? (i := 0) rfl)
    have e1 : ads [1] = q2 := hads (1, q2, [q2], zeroM) (List.mem_of_getElem? (i := 1) rfl)
    have e2 : ads [2] = q3 := hads (2, q3, [q3], zeroM) (List.mem_of_getElem? (i := 2) rfl)
    have e4 : ads [4] = q4 := hads (4, q4, [q4], zeroM) (List.mem_of_getElem? (i := 3) rfl)
    have e8 : ads [8] = q5 := hads (8, q5, [q5], zeroM) (List.mem_of_getElem? (i := 4) rfl)
    have e : cEl aC ads 5 [] im6 = Sum.inr (5, [.ref (ads [0]), .ref (ads [1]), .ref (ads [2]), .int 0, .ref (ads [4]), .int 0, .int 0, .int (-4), .ref (ads [8])]) := rfl
    rw [e, e0, e1, e2, e4, e8]
  · simp only [List.mem_cons, List.not_mem_nil, or_false] at he
    rcases he with rfl | rfl | rfl | rfl | rfl <;> exact ⟨memN_1, memN_2⟩
end Ctor6
