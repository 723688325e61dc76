section Ctor8
set_option maxRecDepth 100000 in
set_option maxHeartbeats 4000000 in
theorem ct_8 (l : Launch) : MetC l yX8_init cX8_init 1 7 [.int 0, .null, .null, .null, .int 0, .null, .int 0, .null, .null, .null, .int 0] im8 { frames := 1, cells := 7, slots := 40, locals := 12 } 7 40 := by
  intro D aC h0 sz
  refine Met.ofW (cc := cX8_init) (maxL := 1) (ret := none) (ws' := lw_g) (by decide) rfl ?_
  intro p e s m args below meth c s₁ B hml hv
  obtain ⟨rfl, hsz, hP, hK, hNW⟩ := hv
  have hx := B.exec
  have hb := B.bytes
  have hr := B.returns
  have hts0 := atoms_spec (ws := .code yX8_init cX8_init 1 none :: lw_g) B.pre
  have hts : ∀ w ∈ lw_g, w.before [Value.ref h0].toArray s = true := fun w hw => hts0 w (List.mem_cons_of_mem _ hw)
  have hown : s.vm.findClass RX8 = some m.cls := findClass_of_methodNamed B.named
  have hlocks := B.notSynchronized
  have hin : meth.name = "<init>" := (name_of_methodNamed B.named B.method).1
  subst hsz
  have F : CX p s m [Value.ref h0].toArray c D aC cX8_init 1 RX8 (AC h0 s.heap.size) := ⟨hx, hb, hml, hown, hts, hK, hNW, fun q h => Or.inr h⟩
  have hW : WC D aC (AC h0 s.heap.size) (chT 7) [(h0, .inr (7, [.int 0, .null, .null, .null, .int 0, .null, .int 0, .null, .null, .null, .int 0]))] [] s s.heap [] := ⟨fun _ => .inr (0, []), ⟨hP, D_iff.mpr ⟨List.nodup_cons.mpr ⟨List.not_mem_nil, List.nodup_nil⟩, fun q hq => by rcases List.mem_singleton.mp hq with rfl; exact Or.inl rfl⟩, va_S.rf⟩, fun e he => absurd he List.not_mem_nil⟩
  have hl := lv_entry ([.ref h0]) (n := 1) (Nat.le_of_ble_eq_true rfl)
  rw [lg_entry_eq]
  generalize (lg_sl ([.ref h0]) ++ List.replicate (1 - (lg_sl ([.ref h0])).length) Slot.unset).toArray = ls at hl ⊢
  have hl : lv_has ls 1 [(0, .ref h0)] := hl
  refine lv_aload_n hx hb dk8_0 rfl (lv_at hl 0 rfl) ?_
  refine W.objInit hx hb hown (hts _ wK_468) (hts _ wK_120) (hts _ wK_121) rfl (by rw [hml]; exact hl.1) rfl dk8_1 (Nat.le_of_ble_eq_true rfl) (Nat.le_of_ble_eq_true rfl) ?_
  refine W.eq (g2 := F0 m 4 ls []) rfl ?_
  refine lv_aload_n hx hb dk8_4 rfl (lv_at hl 0 rfl) ?_
  refine lv_iconst (v := 0) hx hb dk8_5 (by decide) ?_
  refine B_put (T := TX8) (k := 0) (ty := .int) tyX8 F hW rfl uw_7 tyX8_ok nmX8 (by decide) rfl rfl wK_469 hin (by decide +kernel) rfl rfl (Nat.le_of_ble_eq_true rfl) dk8_6 (Or.inl rfl) (fun H locs hW => ?_)
  have hW : WC D aC (AC h0 s.heap.size) (chT 7) [(h0, .inr (7, [.int 0, .null, .null, .null, .int 0, .null, .int 0, .null, .null, .null, .int 0]))] [] s H locs := hW
  refine lv_aload_n hx hb dk8_9 rfl (lv_at hl 0 rfl) ?_
  refine lv_bipush (v := 6) hx hb dk8_10 (by decide) ?_
  refine B_newa (k := 1) (tg := 1000006) (kd := 1) (N := 6) (a0 := (6, .inl fun _ => 0)) (atype := .int) (ty := .int) F hW rfl (fun _ => rfl) rfl wK_197 rfl (fun _ => rfl) (fun _ => rfl) (by decide) (by decide +kernel) (Nat.le_of_ble_eq_true rfl) (Nat.le_of_ble_eq_true rfl) (Nat.le_of_ble_eq_true rfl) dk8_12 (fun q1 H hW => ?_)
  have hW : WC D aC (AC h0 s.heap.size) (chT 7) [(h0, .inr (7, [.int 0, .null, .null, .null, .int 0, .null, .int 0, .null, .null, .null, .int 0]))] [(1, q1, [q1], zeroM)] s H _ := hW
  refine B_put (T := TX8) (k := 1) (ty := .array .int) tyX8 F hW rfl uw_7 tyX8_ok nmX8 (by decide) rfl rfl wK_470 hin (by decide +kernel) rfl rfl (Nat.le_of_ble_eq_true rfl) dk8_14 (Or.inl rfl) (fun H locs hW => ?_)
  have hW : WC D aC (AC h0 s.heap.size) (chT 7) [(h0, .inr (7, [.int 0, .ref q1, .null, .null, .int 0, .null, .int 0, .null, .null, .null, .int 0]))] [(1, q1, [q1], zeroM)] s H locs := hW
  refine lv_aload_n hx hb dk8_17 rfl (lv_at hl 0 rfl) ?_
  refine lv_bipush (v := 6) hx hb dk8_18 (by decide) ?_
  refine B_newa (k := 2) (tg := 1000006) (kd := 1) (N := 6) (a0 := (6, .inl fun _ => 0)) (atype := .int) (ty := .int) F hW rfl (fun _ => rfl) rfl wK_197 rfl (fun _ => rfl) (fun _ => rfl) (by decide) (by decide +kernel) (Nat.le_of_ble_eq_true rfl) (Nat.le_of_ble_eq_true rfl) (Nat.le_of_ble_eq_true rfl) dk8_20 (fun q2 H hW => ?_)
  have hW : WC D aC (AC h0 s.heap.size) (chT 7) [(h0, .inr (7, [.int 0, .ref q1, .null, .null, .int 0, .null, .int 0, .null, .null, .null, .int 0]))] [(1, q1, [q1], zeroM), (2, q2, [q2], zeroM)] s H _ := hW
  refine B_put (T := TX8) (k := 2) (ty := .array .int) tyX8 F hW rfl uw_7 tyX8_ok nmX8 (by decide) rfl rfl wK_471 hin (by decide +kernel) rfl rfl (Nat.le_of_ble_eq_true rfl) dk8_22 (Or.inl rfl) (fun H locs hW => ?_)
  have hW : WC D aC (AC h0 s.heap.size) (chT 7) [(h0, .inr (7, [.int 0, .ref q1, .ref q2, .null, .int 0, .null, .int 0, .null, .null, .null, .int 0]))] [(1, q1, [q1], zeroM), (2, q2, [q2], zeroM)] s H locs := hW
  refine lv_aload_n hx hb dk8_25 rfl (lv_at hl 0 rfl) ?_
  refine lv_bipush (v := 7) hx hb dk8_26 (by decide) ?_
  refine B_newa (k := 3) (tg := 1000007) (kd := 1) (N := 7) (a0 := (7, .inl fun _ => 0)) (atype := .int) (ty := .int) F hW rfl (fun _ => rfl) rfl wK_197 rfl (fun _ => rfl) (fun _ => rfl) (by decide) (by decide +kernel) (Nat.le_of_ble_eq_true rfl) (Nat.le_of_ble_eq_true rfl) (Nat.le_of_ble_eq_true rfl) dk8_28 (fun q3 H hW => ?_)
  have hW : WC D aC (AC h0 s.heap.size) (chT 7) [(h0, .inr (7, [.int 0, .ref q1, .ref q2, .null, .int 0, .null, .int 0, .null, .null, .null, .int 0]))] [(1, q1, [q1], zeroM), (2, q2, [q2], zeroM), (3, q3, [q3], zeroM)] s H _ := hW
  refine B_put (T := TX8) (k := 3) (ty := .array .int) tyX8 F hW rfl uw_7 tyX8_ok nmX8 (by decide) rfl rfl wK_472 hin (by decide +kernel) rfl rfl (Nat.le_of_ble_eq_true rfl) dk8_30 (Or.inl rfl) (fun H locs hW => ?_)
  have hW : WC D aC (AC h0 s.heap.size) (chT 7) [(h0, .inr (7, [.int 0, .ref q1, .ref q2, .ref q3, .int 0, .null, .int 0, .null, .null, .null, .int 0]))] [(1, q1, [q1], zeroM), (2, q2, [q2], zeroM), (3, q3, [q3], zeroM)] s H locs := hW
  refine lv_aload_n hx hb dk8_33 rfl (lv_at hl 0 rfl) ?_
  refine lv_iconst (v := 0) hx hb dk8_34 (by decide) ?_
  refine B_put (T := TX8) (k := 4) (ty := .int) tyX8 F hW rfl uw_7 tyX8_ok nmX8 (by decide) rfl rfl wK_473 hin (by decide +kernel) rfl rfl (Nat.le_of_ble_eq_true rfl) dk8_35 (Or.inl rfl) (fun H locs hW => ?_)
  have hW : WC D aC (AC h0 s.heap.size) (chT 7) [(h0, .inr (7, [.int 0, .ref q1, .ref q2, .ref q3, .int 0, .null, .int 0, .null, .null, .null, .int 0]))] [(1, q1, [q1], zeroM), (2, q2, [q2], zeroM), (3, q3, [q3], zeroM)] s H locs := hW
  refine lv_aload_n hx hb dk8_38 rfl (lv_at hl 0 rfl) ?_
  refine lv_iconst (v := 3) hx hb dk8_39 (by decide) ?_
  refine B_newa (k := 5) (tg := 1000003) (kd := 1) (N := 3) (a0 := (3, .inl fun _ => 0)) (atype := .int) (ty := .int) F hW rfl (fun _ => rfl) rfl wK_197 rfl (fun _ => rfl) (fun _ => rfl) (by decide) (by decide +kernel) (Nat.le_of_ble_eq_true rfl) (Nat.le_of_ble_eq_true rfl) (Nat.le_of_ble_eq_true rfl) dk8_40 (fun q4 H hW => ?_)
  have hW : WC D aC (AC h0 s.heap.size) (chT 7) [(h0, .inr (7, [.int 0, .ref q1, .ref q2, .ref q3, .int 0, .null, .int 0, .null, .null, .null, .int 0]))] [(1, q1, [q1], zeroM), (2, q2, [q2], zeroM), (3, q3, [q3], zeroM), (5, q4, [q4], zeroM)] s H _ := hW
  refine B_put (T := TX8) (k := 5) (ty := .array .int) tyX8 F hW rfl uw_7 tyX8_ok nmX8 (by decide) rfl rfl wK_474 hin (by decide +kernel) rfl rfl (Nat.le_of_ble_eq_true rfl) dk8_42 (Or.inl rfl) (fun H locs hW => ?_)
  have hW : WC D aC (AC h0 s.heap.size) (chT 7) [(h0, .inr (7, [.int 0, .ref q1, .ref q2, .ref q3, .int 0, .ref q4, .int 0, .null, .null, .null, .int 0]))] [(1, q1, [q1], zeroM), (2, q2, [q2], zeroM), (3, q3, [q3], zeroM), (5, q4, [q4], zeroM)] s H locs := hW
  refine lv_aload_n hx hb dk8_45 rfl (lv_at hl 0 rfl) ?_
  refine lv_iconst (v := 1) hx hb dk8_46 (by decide) ?_
  refine B_put (T := TX8) (k := 6) (ty := .int) tyX8 F hW rfl uw_7 tyX8_ok nmX8 (by decide) rfl rfl wK_475 hin (by decide +kernel) rfl rfl (Nat.le_of_ble_eq_true rfl) dk8_47 (Or.inl rfl) (fun H locs hW => ?_)
  have hW : WC D aC (AC h0 s.heap.size) (chT 7) [(h0, .inr (7, [.int 0, .ref q1, .ref q2, .ref q3, .int 0, .ref q4, .int 1, .null, .null, .null, .int 0]))] [(1, q1, [q1], zeroM), (2, q2, [q2], zeroM), (3, q3, [q3], zeroM), (5, q4, [q4], zeroM)] s H locs := hW
  refine lv_aload_n hx hb dk8_50 rfl (lv_at hl 0 rfl) ?_
  refine lv_bipush (v := 6) hx hb dk8_51 (by decide) ?_
  refine B_newa (k := 7) (tg := 1000006) (kd := 1) (N := 6) (a0 := (6, .inl fun _ => 0)) (atype := .int) (ty := .int) F hW rfl (fun _ => rfl) rfl wK_197 rfl (fun _ => rfl) (fun _ => rfl) (by decide) (by decide +kernel) (Nat.le_of_ble_eq_true rfl) (Nat.le_of_ble_eq_true rfl) (Nat.le_of_ble_eq_true rfl) dk8_53 (fun q5 H hW => ?_)
  have hW : WC D aC (AC h0 s.heap.size) (chT 7) [(h0, .inr (7, [.int 0, .ref q1, .ref q2, .ref q3, .int 0, .ref q4, .int 1, .null, .null, .null, .int 0]))] [(1, q1, [q1], zeroM), (2, q2, [q2], zeroM), (3, q3, [q3], zeroM), (5, q4, [q4], zeroM), (7, q5, [q5], zeroM)] s H _ := hW
  refine B_put (T := TX8) (k := 7) (ty := .array .int) tyX8 F hW rfl uw_7 tyX8_ok nmX8 (by decide) rfl rfl wK_476 hin (by decide +kernel) rfl rfl (Nat.le_of_ble_eq_true rfl) dk8_55 (Or.inl rfl) (fun H locs hW => ?_)
  have hW : WC D aC (AC h0 s.heap.size) (chT 7) [(h0, .inr (7, [.int 0, .ref q1, .ref q2, .ref q3, .int 0, .ref q4, .int 1, .ref q5, .null, .null, .int 0]))] [(1, q1, [q1], zeroM), (2, q2, [q2], zeroM), (3, q3, [q3], zeroM), (5, q4, [q4], zeroM), (7, q5, [q5], zeroM)] s H locs := hW
  refine lv_aload_n hx hb dk8_58 rfl (lv_at hl 0 rfl) ?_
  refine lv_bipush (v := 6) hx hb dk8_59 (by decide) ?_
  refine B_newa (k := 8) (tg := 1000006) (kd := 1) (N := 6) (a0 := (6, .inl fun _ => 0)) (atype := .int) (ty := .int) F hW rfl (fun _ => rfl) rfl wK_197 rfl (fun _ => rfl) (fun _ => rfl) (by decide) (by decide +kernel) (Nat.le_of_ble_eq_true rfl) (Nat.le_of_ble_eq_true rfl) (Nat.le_of_ble_eq_true rfl) dk8_61 (fun q6 H hW => ?_)
  have hW : WC D aC (AC h0 s.heap.size) (chT 7) [(h0, .inr (7, [.int 0, .ref q1, .ref q2, .ref q3, .int 0, .ref q4, .int 1, .ref q5, .null, .null, .int 0]))] [(1, q1, [q1], zeroM), (2, q2, [q2], zeroM), (3, q3, [q3], zeroM), (5, q4, [q4], zeroM), (7, q5, [q5], zeroM), (8, q6, [q6], zeroM)] s H _ := hW
  refine B_put (T := TX8) (k := 8) (ty := .array .int) tyX8 F hW rfl uw_7 tyX8_ok nmX8 (by decide) rfl rfl wK_477 hin (by decide +kernel) rfl rfl (Nat.le_of_ble_eq_true rfl) dk8_63 (Or.inl rfl) (fun H locs hW => ?_)
  have hW : WC D aC (AC h0 s.heap.size) (chT 7) [(h0, .inr (7, [.int 0, .ref q1, .ref q2, .ref q3, .int 0, .ref q4, .int 1, .ref q5, .ref q6, .null, .int 0]))] [(1, q1, [q1], zeroM), (2, q2, [q2], zeroM), (3, q3, [q3], zeroM), (5, q4, [q4], zeroM), (7, q5, [q5], zeroM), (8, q6, [q6], zeroM)] s H locs := hW
  refine lv_aload_n hx hb dk8_66 rfl (lv_at hl 0 rfl) ?_
  refine lv_bipush (v := 6) hx hb dk8_67 (by decide) ?_
  refine B_newa (k := 9) (tg := 1000006) (kd := 1) (N := 6) (a0 := (6, .inl fun _ => 0)) (atype := .int) (ty := .int) F hW rfl (fun _ => rfl) rfl wK_197 rfl (fun _ => rfl) (fun _ => rfl) (by decide) (by decide +kernel) (Nat.le_of_ble_eq_true rfl) (Nat.le_of_ble_eq_true rfl) (Nat.le_of_ble_eq_true rfl) dk8_69 (fun q7 H hW => ?_)
  have hW : WC D aC (AC h0 s.heap.size) (chT 7) [(h0, .inr (7, [.int 0, .ref q1, .ref q2, .ref q3, .int 0, .ref q4, .int 1, .ref q5, .ref q6, .null, .int 0]))] [(1, q1, [q1], zeroM), (2, q2, [q2], zeroM), (3, q3, [q3], zeroM), (5, q4, [q4], zeroM), (7, q5, [q5], zeroM), (8, q6, [q6], zeroM), (9, q7, [q7], zeroM)] s H _ := hW
  refine B_put (T := TX8) (k := 9) (ty := .array .int) tyX8 F hW rfl uw_7 tyX8_ok nmX8 (by decide) rfl rfl wK_478 hin (by decide +kernel) rfl rfl (Nat.le_of_ble_eq_true rfl) dk8_71 (Or.inl rfl) (fun H locs hW => ?_)
  have hW : WC D aC (AC h0 s.heap.size) (chT 7) [(h0, .inr (7, [.int 0, .ref q1, .ref q2, .ref q3, .int 0, .ref q4, .int 1, .ref q5, .ref q6, .ref q7, .int 0]))] [(1, q1, [q1], zeroM), (2, q2, [q2], zeroM), (3, q3, [q3], zeroM), (5, q4, [q4], zeroM), (7, q5, [q5], zeroM), (8, q6, [q6], zeroM), (9, q7, [q7], zeroM)] s H locs := hW
  refine lv_aload_n hx hb dk8_74 rfl (lv_at hl 0 rfl) ?_
  refine lv_iconst (v := (-1)) hx hb dk8_75 (by decide) ?_
  refine B_put (T := TX8) (k := 10) (ty := .int) tyX8 F hW rfl uw_7 tyX8_ok nmX8 (by decide) rfl rfl wK_479 hin (by decide +kernel) rfl rfl (Nat.le_of_ble_eq_true rfl) dk8_76 (Or.inl rfl) (fun H locs hW => ?_)
  have hW : WC D aC (AC h0 s.heap.size) (chT 7) [(h0, .inr (7, [.int 0, .ref q1, .ref q2, .ref q3, .int 0, .ref q4, .int 1, .ref q5, .ref q6, .ref q7, .int (-1)]))] [(1, q1, [q1], zeroM), (2, q2, [q2], zeroM), (3, q3, [q3], zeroM), (5, q4, [q4], zeroM), (7, q5, [q5], zeroM), (8, q6, [q6], zeroM), (9, q7, [q7], zeroM)] s H locs := hW
  obtain ⟨_, ⟨_, _, hS⟩, _⟩ := id hW
  refine W.widen (k := 7) (n := 40) (Nat.le_of_ble_eq_true rfl) (Nat.le_of_ble_eq_true rfl) ?_
  refine W.vret hx hb hr (fun t ht hWm => ⟨⟨(), rfl, trivial, B_end2 (N := 11) hW rfl rfl (fun _ _ => rfl) (show ∀ k ∈ ([1, 2, 3, 5, 7, 8, 9] : List Nat), k < 1000 by decide) (show ∀ k, k < 11 → (chT 7 k).isSome = true → k ∈ ([1, 2, 3, 5, 7, 8, 9] : List Nat) by decide +kernel) (show ([1, 2, 3, 5, 7, 8, 9] : List Nat).Nodup by decide) (fun ads hads => ?_) (fun e he r => ?_) ht⟩, hS.F ht⟩) hS.2.2 dk8_79
  · have e1 : ads [1] = q1 := hads (1, q1, [q1], zeroM) (List.mem_of_getElem? (i := 0) rfl)
    have e2 : ads [2] = q2 := hads (2, q2, [q2], zeroM) (List.mem_of_getElem? (i := 1) rfl)
    have e3 : ads [3] = q3 := hads (3, q3, [q3], zeroM) (List.mem_of_getElem? (i := 2) rfl)
    have e5 : ads [5] = q4 := hads (5, q4, [q4], zeroM) (List.mem_of_getElem? (i := 3) rfl)
    have e7 : ads [7] = q5 := hads (7, q5, [q5], zeroM) (List.mem_of_getElem? (i := 4) rfl)
    have e8 : ads [8] = q6 := hads (8, q6, [q6], zeroM) (List.mem_of_getElem? (i := 5) rfl)
    have e9 : ads [9] = q7 := hads (9, q7, [q7], zeroM) (List.mem_of_getElem? (i := 6) rfl)
    have e : cEl aC ads 7 [] im8 = Sum.inr (7, [.int 0, .ref (ads [1]), .ref (ads [2]), .ref (ads [3]), .int 0, .ref (ads [5]), .int 1, .ref (ads [7]), .ref (ads [8]), .ref (ads [9]), .int (-1)]) := rfl
    rw [e, e1, e2, e3, e5, e7, e8, e9]
  · simp only [List.mem_cons, List.not_mem_nil, or_false] at he
    rcases he with rfl | rfl | rfl | rfl | rfl | rfl | rfl <;> exact ⟨memN_1, memN_2⟩
end Ctor8
