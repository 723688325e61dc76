section Ctor3
set_option maxRecDepth 100000 in
set_option maxHeartbeats 4000000 in
theorem ct_3 (l : Launch) : MetC l yX3_init cX3_init 2 2 [.int 0, .int 0, .int 0, .null, .null, .null, .null, .null, .null, .int 0, .null, .int 0, .null, .int 0, .null, .null] im3 { frames := 3, cells := 181, slots := 2217, locals := 52 } 181 2217 := by
  intro D aC h0 sz
  refine Met.ofW (cc := cX3_init) (maxL := 2) (ret := none) (ws' := lw_g) (by decide) rfl ?_
  intro p e s m args below meth c s₁ B hml hv
  obtain ⟨rfl, hsz, hP, hK, hNW⟩ := hv
  have hx := B.exec
  have hb := B.bytes
  have hr := B.returns
  have hts0 := atoms_spec (ws := .code yX3_init cX3_init 2 none :: lw_g) B.pre
  have hts : ∀ w ∈ lw_g, w.before [Value.ref h0].toArray s = true := fun w hw => hts0 w (List.mem_cons_of_mem _ hw)
  have hown : s.vm.findClass RX3 = some m.cls := findClass_of_methodNamed B.named
  have hlocks := B.notSynchronized
  have hin : meth.name = "<init>" := (name_of_methodNamed B.named B.method).1
  subst hsz
  have F : CX p s m [Value.ref h0].toArray c D aC cX3_init 2 RX3 (AC h0 s.heap.size) := ⟨hx, hb, hml, hown, hts, hK, hNW, fun q h => Or.inr h⟩
  have hW : WC D aC (AC h0 s.heap.size) KF_3 [(h0, .inr (2, [.int 0, .int 0, .int 0, .null, .null, .null, .null, .null, .null, .int 0, .null, .int 0, .null, .int 0, .null, .null]))] [] s s.heap [] := ⟨fun _ => .inr (0, []), ⟨hP, D_iff.mpr ⟨List.nodup_cons.mpr ⟨List.not_mem_nil, List.nodup_nil⟩, fun q hq => by rcases List.mem_singleton.mp hq with rfl; exact Or.inl rfl⟩, va_S.rf⟩, fun e he => absurd he List.not_mem_nil⟩
  have hl := lv_entry ([.ref h0]) (n := 2) (Nat.le_of_ble_eq_true rfl)
  rw [lg_entry_eq]
  generalize (lg_sl ([.ref h0]) ++ List.replicate (2 - (lg_sl ([.ref h0])).length) Slot.unset).toArray = ls at hl ⊢
  have hl : lv_has ls 2 [(0, .ref h0)] := hl
  refine lv_aload_n hx hb dk3_0 rfl (lv_at hl 0 rfl) ?_
  refine W.objInit hx hb hown (hts _ wK_127) (hts _ wK_120) (hts _ wK_121) rfl (by rw [hml]; exact hl.1) rfl dk3_1 (Nat.le_of_ble_eq_true rfl) (Nat.le_of_ble_eq_true rfl) ?_
  refine W.eq (g2 := F0 m 4 ls []) rfl ?_
  refine lv_aload_n hx hb dk3_4 rfl (lv_at hl 0 rfl) ?_
  refine lv_iconst (v := 0) hx hb dk3_5 (by decide) ?_
  refine B_put (T := TX3) (k := 0) (ty := .int) tyX3 F hW rfl uw_2 tyX3_ok nmX3 (by decide) rfl rfl wK_334 hin (by decide +kernel) rfl rfl (Nat.le_of_ble_eq_true rfl) dk3_6 (Or.inl rfl) (fun H locs hW => ?_)
  have hW : WC D aC (AC h0 s.heap.size) KF_3 [(h0, .inr (2, [.int 0, .int 0, .int 0, .null, .null, .null, .null, .null, .null, .int 0, .null, .int 0, .null, .int 0, .null, .null]))] [] s H locs := hW
  refine lv_aload_n hx hb dk3_9 rfl (lv_at hl 0 rfl) ?_
  refine lv_iconst (v := 0) hx hb dk3_10 (by decide) ?_
  refine B_put (T := TX3) (k := 1) (ty := .int) tyX3 F hW rfl uw_2 tyX3_ok nmX3 (by decide) rfl rfl wK_338 hin (by decide +kernel) rfl rfl (Nat.le_of_ble_eq_true rfl) dk3_11 (Or.inl rfl) (fun H locs hW => ?_)
  have hW : WC D aC (AC h0 s.heap.size) KF_3 [(h0, .inr (2, [.int 0, .int 0, .int 0, .null, .null, .null, .null, .null, .null, .int 0, .null, .int 0, .null, .int 0, .null, .null]))] [] s H locs := hW
  refine lv_aload_n hx hb dk3_14 rfl (lv_at hl 0 rfl) ?_
  refine lv_iconst (v := 0) hx hb dk3_15 (by decide) ?_
  refine B_put (T := TX3) (k := 2) (ty := .int) tyX3 F hW rfl uw_2 tyX3_ok nmX3 (by decide) rfl rfl wK_340 hin (by decide +kernel) rfl rfl (Nat.le_of_ble_eq_true rfl) dk3_16 (Or.inl rfl) (fun H locs hW => ?_)
  have hW : WC D aC (AC h0 s.heap.size) KF_3 [(h0, .inr (2, [.int 0, .int 0, .int 0, .null, .null, .null, .null, .null, .null, .int 0, .null, .int 0, .null, .int 0, .null, .null]))] [] s H locs := hW
  refine lv_aload_n hx hb dk3_19 rfl (lv_at hl 0 rfl) ?_
  refine lv_bipush (v := 16) hx hb dk3_20 (by decide) ?_
  refine B_newa (k := 3) (tg := 1000016) (kd := 1) (N := 16) (a0 := (16, .inl fun _ => 0)) (atype := .int) (ty := .int) F hW rfl (fun _ => rfl) rfl wK_197 rfl (fun _ => rfl) (fun _ => rfl) (by decide) (by decide +kernel) (Nat.le_of_ble_eq_true rfl) (Nat.le_of_ble_eq_true rfl) (Nat.le_of_ble_eq_true rfl) dk3_22 (fun q1 H hW => ?_)
  have hW : WC D aC (AC h0 s.heap.size) KF_3 [(h0, .inr (2, [.int 0, .int 0, .int 0, .null, .null, .null, .null, .null, .null, .int 0, .null, .int 0, .null, .int 0, .null, .null]))] [(3, q1, [q1], zeroM)] s H _ := hW
  refine B_put (T := TX3) (k := 3) (ty := .array .int) tyX3 F hW rfl uw_2 tyX3_ok nmX3 (by decide) rfl rfl wK_343 hin (by decide +kernel) rfl rfl (Nat.le_of_ble_eq_true rfl) dk3_24 (Or.inl rfl) (fun H locs hW => ?_)
  have hW : WC D aC (AC h0 s.heap.size) KF_3 [(h0, .inr (2, [.int 0, .int 0, .int 0, .ref q1, .null, .null, .null, .null, .null, .int 0, .null, .int 0, .null, .int 0, .null, .null]))] [(3, q1, [q1], zeroM)] s H locs := hW
  refine lv_aload_n hx hb dk3_27 rfl (lv_at hl 0 rfl) ?_
  refine lv_bipush (v := 16) hx hb dk3_28 (by decide) ?_
  refine B_newa (k := 4) (tg := 1000016) (kd := 1) (N := 16) (a0 := (16, .inl fun _ => 0)) (atype := .int) (ty := .int) F hW rfl (fun _ => rfl) rfl wK_197 rfl (fun _ => rfl) (fun _ => rfl) (by decide) (by decide +kernel) (Nat.le_of_ble_eq_true rfl) (Nat.le_of_ble_eq_true rfl) (Nat.le_of_ble_eq_true rfl) dk3_30 (fun q2 H hW => ?_)
  have hW : WC D aC (AC h0 s.heap.size) KF_3 [(h0, .inr (2, [.int 0, .int 0, .int 0, .ref q1, .null, .null, .null, .null, .null, .int 0, .null, .int 0, .null, .int 0, .null, .null]))] [(3, q1, [q1], zeroM), (4, q2, [q2], zeroM)] s H _ := hW
  refine B_put (T := TX3) (k := 4) (ty := .array .int) tyX3 F hW rfl uw_2 tyX3_ok nmX3 (by decide) rfl rfl wK_346 hin (by decide +kernel) rfl rfl (Nat.le_of_ble_eq_true rfl) dk3_32 (Or.inl rfl) (fun H locs hW => ?_)
  have hW : WC D aC (AC h0 s.heap.size) KF_3 [(h0, .inr (2, [.int 0, .int 0, .int 0, .ref q1, .ref q2, .null, .null, .null, .null, .int 0, .null, .int 0, .null, .int 0, .null, .null]))] [(3, q1, [q1], zeroM), (4, q2, [q2], zeroM)] s H locs := hW
  refine lv_aload_n hx hb dk3_35 rfl (lv_at hl 0 rfl) ?_
  refine lv_bipush (v := 16) hx hb dk3_36 (by decide) ?_
  refine B_newa (k := 5) (tg := 1000016) (kd := 1) (N := 16) (a0 := (16, .inl fun _ => 0)) (atype := .int) (ty := .int) F hW rfl (fun _ => rfl) rfl wK_197 rfl (fun _ => rfl) (fun _ => rfl) (by decide) (by decide +kernel) (Nat.le_of_ble_eq_true rfl) (Nat.le_of_ble_eq_true rfl) (Nat.le_of_ble_eq_true rfl) dk3_38 (fun q3 H hW => ?_)
  have hW : WC D aC (AC h0 s.heap.size) KF_3 [(h0, .inr (2, [.int 0, .int 0, .int 0, .ref q1, .ref q2, .null, .null, .null, .null, .int 0, .null, .int 0, .null, .int 0, .null, .null]))] [(3, q1, [q1], zeroM), (4, q2, [q2], zeroM), (5, q3, [q3], zeroM)] s H _ := hW
  refine B_put (T := TX3) (k := 5) (ty := .array .int) tyX3 F hW rfl uw_2 tyX3_ok nmX3 (by decide) rfl rfl wK_348 hin (by decide +kernel) rfl rfl (Nat.le_of_ble_eq_true rfl) dk3_40 (Or.inl rfl) (fun H locs hW => ?_)
  have hW : WC D aC (AC h0 s.heap.size) KF_3 [(h0, .inr (2, [.int 0, .int 0, .int 0, .ref q1, .ref q2, .ref q3, .null, .null, .null, .int 0, .null, .int 0, .null, .int 0, .null, .null]))] [(3, q1, [q1], zeroM), (4, q2, [q2], zeroM), (5, q3, [q3], zeroM)] s H locs := hW
  refine lv_aload_n hx hb dk3_43 rfl (lv_at hl 0 rfl) ?_
  refine B_objN (k := 6) (ci := 8) (N := 13) (mL := 1) (C := RX9) (T := TX9) (fs := [.int 0, .null, .null, .null, .null, .null, .null, .null, .null, .null, .null, .int 0, .null]) (mem := im9) (y := yX9_init) tyX9 F hl.1 hW rfl rfl uw_8 tyX9_ok (by decide +kernel) wK_128 wK_129 wK_91 (ct_9 l) wK_132 rfl rfl rfl (List.mem_of_getElem? (i := 0) rfl) ⟨by decide, by decide, by decide +kernel⟩ rfl wK_131 ⟨(Nat.le_of_ble_eq_true rfl), (Nat.le_of_ble_eq_true rfl)⟩ (Nat.le_of_ble_eq_true rfl) (Nat.le_of_ble_eq_true rfl) (Nat.le_of_ble_eq_true rfl) dk3_44 dk3_47 dk3_48 (fun q4 L4 H locs hW => ?_)
  have hW : WC D aC (AC h0 s.heap.size) KF_3 [(h0, .inr (2, [.int 0, .int 0, .int 0, .ref q1, .ref q2, .ref q3, .null, .null, .null, .int 0, .null, .int 0, .null, .int 0, .null, .null]))] [(3, q1, [q1], zeroM), (4, q2, [q2], zeroM), (5, q3, [q3], zeroM), (6, q4, L4, im9)] s H locs := hW
  refine B_put (T := TX3) (k := 6) (ty := .object "TentPlain$Ways") tyX3 F hW rfl uw_2 tyX3_ok nmX3 (by decide) rfl rfl wK_351 hin (by decide +kernel) rfl rfl (Nat.le_of_ble_eq_true rfl) dk3_51 (Or.inl rfl) (fun H locs hW => ?_)
  have hW : WC D aC (AC h0 s.heap.size) KF_3 [(h0, .inr (2, [.int 0, .int 0, .int 0, .ref q1, .ref q2, .ref q3, .ref q4, .null, .null, .int 0, .null, .int 0, .null, .int 0, .null, .null]))] [(3, q1, [q1], zeroM), (4, q2, [q2], zeroM), (5, q3, [q3], zeroM), (6, q4, L4, im9)] s H locs := hW
  refine lv_aload_n hx hb dk3_54 rfl (lv_at hl 0 rfl) ?_
  refine lv_bipush (v := 24) hx hb dk3_55 (by decide) ?_
  refine B_newp (tg := 1000024) (kd := 1) (N := 24) (a0 := (24, .inl fun _ => 0)) (atype := .int) (ty := .int) F hW rfl wK_197 rfl (fun _ => rfl) (by decide) (by decide +kernel) (Nat.le_of_ble_eq_true rfl) (Nat.le_of_ble_eq_true rfl) (Nat.le_of_ble_eq_true rfl) dk3_57 (fun q5 H hW => ?_)
  have hW : WC D aC (AC h0 s.heap.size) KF_3 [(h0, .inr (2, [.int 0, .int 0, .int 0, .ref q1, .ref q2, .ref q3, .ref q4, .null, .null, .int 0, .null, .int 0, .null, .int 0, .null, .null])), (q5, .inl (aC 1, (24, .inl fun _ => 0)))] [(3, q1, [q1], zeroM), (4, q2, [q2], zeroM), (5, q3, [q3], zeroM), (6, q4, L4, im9)] s H _ := hW
  refine B_put (T := TX3) (k := 7) (ty := .array .int) tyX3 F hW rfl uw_2 tyX3_ok nmX3 (by decide) rfl rfl wK_355 hin (by decide +kernel) rfl rfl (Nat.le_of_ble_eq_true rfl) dk3_59 (Or.inl rfl) (fun H locs hW => ?_)
  have hW : WC D aC (AC h0 s.heap.size) KF_3 [(h0, .inr (2, [.int 0, .int 0, .int 0, .ref q1, .ref q2, .ref q3, .ref q4, .ref q5, .null, .int 0, .null, .int 0, .null, .int 0, .null, .null])), (q5, .inl (aC 1, (24, .inl fun _ => 0)))] [(3, q1, [q1], zeroM), (4, q2, [q2], zeroM), (5, q3, [q3], zeroM), (6, q4, L4, im9)] s H locs := hW
  refine lv_aload_n hx hb dk3_62 rfl (lv_at hl 0 rfl) ?_
  refine lv_bipush (v := 16) hx hb dk3_63 (by decide) ?_
  refine B_newp (tg := 1000016) (kd := 1) (N := 16) (a0 := (16, .inl fun _ => 0)) (atype := .int) (ty := .int) F hW rfl wK_197 rfl (fun _ => rfl) (by decide) (by decide +kernel) (Nat.le_of_ble_eq_true rfl) (Nat.le_of_ble_eq_true rfl) (Nat.le_of_ble_eq_true rfl) dk3_65 (fun q6 H hW => ?_)
  have hW : WC D aC (AC h0 s.heap.size) KF_3 [(h0, .inr (2, [.int 0, .int 0, .int 0, .ref q1, .ref q2, .ref q3, .ref q4, .ref q5, .null, .int 0, .null, .int 0, .null, .int 0, .null, .null])), (q5, .inl (aC 1, (24, .inl fun _ => 0))), (q6, .inl (aC 1, (16, .inl fun _ => 0)))] [(3, q1, [q1], zeroM), (4, q2, [q2], zeroM), (5, q3, [q3], zeroM), (6, q4, L4, im9)] s H _ := hW
  refine B_put (T := TX3) (k := 8) (ty := .array .int) tyX3 F hW rfl uw_2 tyX3_ok nmX3 (by decide) rfl rfl wK_358 hin (by decide +kernel) rfl rfl (Nat.le_of_ble_eq_true rfl) dk3_67 (Or.inl rfl) (fun H locs hW => ?_)
  have hW : WC D aC (AC h0 s.heap.size) KF_3 [(h0, .inr (2, [.int 0, .int 0, .int 0, .ref q1, .ref q2, .ref q3, .ref q4, .ref q5, .ref q6, .int 0, .null, .int 0, .null, .int 0, .null, .null])), (q5, .inl (aC 1, (24, .inl fun _ => 0))), (q6, .inl (aC 1, (16, .inl fun _ => 0)))] [(3, q1, [q1], zeroM), (4, q2, [q2], zeroM), (5, q3, [q3], zeroM), (6, q4, L4, im9)] s H locs := hW
  refine lv_aload_n hx hb dk3_70 rfl (lv_at hl 0 rfl) ?_
  refine lv_iconst (v := 0) hx hb dk3_71 (by decide) ?_
  refine B_put (T := TX3) (k := 9) (ty := .int) tyX3 F hW rfl uw_2 tyX3_ok nmX3 (by decide) rfl rfl wK_361 hin (by decide +kernel) rfl rfl (Nat.le_of_ble_eq_true rfl) dk3_72 (Or.inl rfl) (fun H locs hW => ?_)
  have hW : WC D aC (AC h0 s.heap.size) KF_3 [(h0, .inr (2, [.int 0, .int 0, .int 0, .ref q1, .ref q2, .ref q3, .ref q4, .ref q5, .ref q6, .int 0, .null, .int 0, .null, .int 0, .null, .null])), (q5, .inl (aC 1, (24, .inl fun _ => 0))), (q6, .inl (aC 1, (16, .inl fun _ => 0)))] [(3, q1, [q1], zeroM), (4, q2, [q2], zeroM), (5, q3, [q3], zeroM), (6, q4, L4, im9)] s H locs := hW
  refine lv_aload_n hx hb dk3_75 rfl (lv_at hl 0 rfl) ?_
  refine lv_bipush (v := 40) hx hb dk3_76 (by decide) ?_
  refine B_newq (kd := 5) (N := 40) (C := "TentPlain$Body") F hW wK_199 (by decide) rfl (by decide) (by decide +kernel) (Nat.le_of_ble_eq_true rfl) (Nat.le_of_ble_eq_true rfl) (Nat.le_of_ble_eq_true rfl) dk3_78 (fun q7 H hW => ?_)
  have hW : WC D aC (AC h0 s.heap.size) KF_3 [(h0, .inr (2, [.int 0, .int 0, .int 0, .ref q1, .ref q2, .ref q3, .ref q4, .ref q5, .ref q6, .int 0, .null, .int 0, .null, .int 0, .null, .null])), (q5, .inl (aC 1, (24, .inl fun _ => 0))), (q6, .inl (aC 1, (16, .inl fun _ => 0))), (q7, .inl (aC 5, 40, .inr (.inr (.inr (.inr (fun _ => none))))))] [(3, q1, [q1], zeroM), (4, q2, [q2], zeroM), (5, q3, [q3], zeroM), (6, q4, L4, im9)] s H _ := hW
  refine B_put (T := TX3) (k := 10) (ty := .array (.object "TentPlain$Body")) tyX3 F hW rfl uw_2 tyX3_ok nmX3 (by decide) rfl rfl wK_364 hin (by decide +kernel) rfl rfl (Nat.le_of_ble_eq_true rfl) dk3_81 (Or.inl rfl) (fun H locs hW => ?_)
  have hW : WC D aC (AC h0 s.heap.size) KF_3 [(h0, .inr (2, [.int 0, .int 0, .int 0, .ref q1, .ref q2, .ref q3, .ref q4, .ref q5, .ref q6, .int 0, .ref q7, .int 0, .null, .int 0, .null, .null])), (q5, .inl (aC 1, (24, .inl fun _ => 0))), (q6, .inl (aC 1, (16, .inl fun _ => 0))), (q7, .inl (aC 5, 40, .inr (.inr (.inr (.inr (fun _ => none))))))] [(3, q1, [q1], zeroM), (4, q2, [q2], zeroM), (5, q3, [q3], zeroM), (6, q4, L4, im9)] s H locs := hW
  refine lv_aload_n hx hb dk3_84 rfl (lv_at hl 0 rfl) ?_
  refine lv_iconst (v := 0) hx hb dk3_85 (by decide) ?_
  refine B_put (T := TX3) (k := 11) (ty := .int) tyX3 F hW rfl uw_2 tyX3_ok nmX3 (by decide) rfl rfl wK_368 hin (by decide +kernel) rfl rfl (Nat.le_of_ble_eq_true rfl) dk3_86 (Or.inl rfl) (fun H locs hW => ?_)
  have hW : WC D aC (AC h0 s.heap.size) KF_3 [(h0, .inr (2, [.int 0, .int 0, .int 0, .ref q1, .ref q2, .ref q3, .ref q4, .ref q5, .ref q6, .int 0, .ref q7, .int 0, .null, .int 0, .null, .null])), (q5, .inl (aC 1, (24, .inl fun _ => 0))), (q6, .inl (aC 1, (16, .inl fun _ => 0))), (q7, .inl (aC 5, 40, .inr (.inr (.inr (.inr (fun _ => none))))))] [(3, q1, [q1], zeroM), (4, q2, [q2], zeroM), (5, q3, [q3], zeroM), (6, q4, L4, im9)] s H locs := hW
  refine lv_aload_n hx hb dk3_89 rfl (lv_at hl 0 rfl) ?_
  refine lv_bipush (v := 40) hx hb dk3_90 (by decide) ?_
  refine B_newa (k := 12) (tg := 1000040) (kd := 1) (N := 40) (a0 := (40, .inl fun _ => 0)) (atype := .int) (ty := .int) F hW rfl (fun _ => rfl) rfl wK_197 rfl (fun _ => rfl) (fun _ => rfl) (by decide) (by decide +kernel) (Nat.le_of_ble_eq_true rfl) (Nat.le_of_ble_eq_true rfl) (Nat.le_of_ble_eq_true rfl) dk3_92 (fun q8 H hW => ?_)
  have hW : WC D aC (AC h0 s.heap.size) KF_3 [(h0, .inr (2, [.int 0, .int 0, .int 0, .ref q1, .ref q2, .ref q3, .ref q4, .ref q5, .ref q6, .int 0, .ref q7, .int 0, .null, .int 0, .null, .null])), (q5, .inl (aC 1, (24, .inl fun _ => 0))), (q6, .inl (aC 1, (16, .inl fun _ => 0))), (q7, .inl (aC 5, 40, .inr (.inr (.inr (.inr (fun _ => none))))))] [(3, q1, [q1], zeroM), (4, q2, [q2], zeroM), (5, q3, [q3], zeroM), (6, q4, L4, im9), (12, q8, [q8], zeroM)] s H _ := hW
  refine B_put (T := TX3) (k := 12) (ty := .array .int) tyX3 F hW rfl uw_2 tyX3_ok nmX3 (by decide) rfl rfl wK_372 hin (by decide +kernel) rfl rfl (Nat.le_of_ble_eq_true rfl) dk3_94 (Or.inl rfl) (fun H locs hW => ?_)
  have hW : WC D aC (AC h0 s.heap.size) KF_3 [(h0, .inr (2, [.int 0, .int 0, .int 0, .ref q1, .ref q2, .ref q3, .ref q4, .ref q5, .ref q6, .int 0, .ref q7, .int 0, .ref q8, .int 0, .null, .null])), (q5, .inl (aC 1, (24, .inl fun _ => 0))), (q6, .inl (aC 1, (16, .inl fun _ => 0))), (q7, .inl (aC 5, 40, .inr (.inr (.inr (.inr (fun _ => none))))))] [(3, q1, [q1], zeroM), (4, q2, [q2], zeroM), (5, q3, [q3], zeroM), (6, q4, L4, im9), (12, q8, [q8], zeroM)] s H locs := hW
  refine lv_aload_n hx hb dk3_97 rfl (lv_at hl 0 rfl) ?_
  refine lv_iconst (v := 0) hx hb dk3_98 (by decide) ?_
  refine B_put (T := TX3) (k := 13) (ty := .int) tyX3 F hW rfl uw_2 tyX3_ok nmX3 (by decide) rfl rfl wK_374 hin (by decide +kernel) rfl rfl (Nat.le_of_ble_eq_true rfl) dk3_99 (Or.inl rfl) (fun H locs hW => ?_)
  have hW : WC D aC (AC h0 s.heap.size) KF_3 [(h0, .inr (2, [.int 0, .int 0, .int 0, .ref q1, .ref q2, .ref q3, .ref q4, .ref q5, .ref q6, .int 0, .ref q7, .int 0, .ref q8, .int 0, .null, .null])), (q5, .inl (aC 1, (24, .inl fun _ => 0))), (q6, .inl (aC 1, (16, .inl fun _ => 0))), (q7, .inl (aC 5, 40, .inr (.inr (.inr (.inr (fun _ => none))))))] [(3, q1, [q1], zeroM), (4, q2, [q2], zeroM), (5, q3, [q3], zeroM), (6, q4, L4, im9), (12, q8, [q8], zeroM)] s H locs := hW
  refine lv_aload_n hx hb dk3_102 rfl (lv_at hl 0 rfl) ?_
  refine lv_bipush (v := 8) hx hb dk3_103 (by decide) ?_
  refine B_newa (k := 14) (tg := 1000008) (kd := 1) (N := 8) (a0 := (8, .inl fun _ => 0)) (atype := .int) (ty := .int) F hW rfl (fun _ => rfl) rfl wK_197 rfl (fun _ => rfl) (fun _ => rfl) (by decide) (by decide +kernel) (Nat.le_of_ble_eq_true rfl) (Nat.le_of_ble_eq_true rfl) (Nat.le_of_ble_eq_true rfl) dk3_105 (fun q9 H hW => ?_)
  have hW : WC D aC (AC h0 s.heap.size) KF_3 [(h0, .inr (2, [.int 0, .int 0, .int 0, .ref q1, .ref q2, .ref q3, .ref q4, .ref q5, .ref q6, .int 0, .ref q7, .int 0, .ref q8, .int 0, .null, .null])), (q5, .inl (aC 1, (24, .inl fun _ => 0))), (q6, .inl (aC 1, (16, .inl fun _ => 0))), (q7, .inl (aC 5, 40, .inr (.inr (.inr (.inr (fun _ => none))))))] [(3, q1, [q1], zeroM), (4, q2, [q2], zeroM), (5, q3, [q3], zeroM), (6, q4, L4, im9), (12, q8, [q8], zeroM), (14, q9, [q9], zeroM)] s H _ := hW
  refine B_put (T := TX3) (k := 14) (ty := .array .int) tyX3 F hW rfl uw_2 tyX3_ok nmX3 (by decide) rfl rfl wK_377 hin (by decide +kernel) rfl rfl (Nat.le_of_ble_eq_true rfl) dk3_107 (Or.inl rfl) (fun H locs hW => ?_)
  have hW : WC D aC (AC h0 s.heap.size) KF_3 [(h0, .inr (2, [.int 0, .int 0, .int 0, .ref q1, .ref q2, .ref q3, .ref q4, .ref q5, .ref q6, .int 0, .ref q7, .int 0, .ref q8, .int 0, .ref q9, .null])), (q5, .inl (aC 1, (24, .inl fun _ => 0))), (q6, .inl (aC 1, (16, .inl fun _ => 0))), (q7, .inl (aC 5, 40, .inr (.inr (.inr (.inr (fun _ => none))))))] [(3, q1, [q1], zeroM), (4, q2, [q2], zeroM), (5, q3, [q3], zeroM), (6, q4, L4, im9), (12, q8, [q8], zeroM), (14, q9, [q9], zeroM)] s H locs := hW
  refine lv_aload_n hx hb dk3_110 rfl (lv_at hl 0 rfl) ?_
  refine lv_bipush (v := 12) hx hb dk3_111 (by decide) ?_
  refine B_newa (k := 15) (tg := 1000012) (kd := 1) (N := 12) (a0 := (12, .inl fun _ => 0)) (atype := .int) (ty := .int) F hW rfl (fun _ => rfl) rfl wK_197 rfl (fun _ => rfl) (fun _ => rfl) (by decide) (by decide +kernel) (Nat.le_of_ble_eq_true rfl) (Nat.le_of_ble_eq_true rfl) (Nat.le_of_ble_eq_true rfl) dk3_113 (fun q10 H hW => ?_)
  have hW : WC D aC (AC h0 s.heap.size) KF_3 [(h0, .inr (2, [.int 0, .int 0, .int 0, .ref q1, .ref q2, .ref q3, .ref q4, .ref q5, .ref q6, .int 0, .ref q7, .int 0, .ref q8, .int 0, .ref q9, .null])), (q5, .inl (aC 1, (24, .inl fun _ => 0))), (q6, .inl (aC 1, (16, .inl fun _ => 0))), (q7, .inl (aC 5, 40, .inr (.inr (.inr (.inr (fun _ => none))))))] [(3, q1, [q1], zeroM), (4, q2, [q2], zeroM), (5, q3, [q3], zeroM), (6, q4, L4, im9), (12, q8, [q8], zeroM), (14, q9, [q9], zeroM), (15, q10, [q10], zeroM)] s H _ := hW
  refine B_put (T := TX3) (k := 15) (ty := .array .int) tyX3 F hW rfl uw_2 tyX3_ok nmX3 (by decide) rfl rfl wK_379 hin (by decide +kernel) rfl rfl (Nat.le_of_ble_eq_true rfl) dk3_115 (Or.inl rfl) (fun H locs hW => ?_)
  have hW : WC D aC (AC h0 s.heap.size) KF_3 [(h0, .inr (2, [.int 0, .int 0, .int 0, .ref q1, .ref q2, .ref q3, .ref q4, .ref q5, .ref q6, .int 0, .ref q7, .int 0, .ref q8, .int 0, .ref q9, .ref q10])), (q5, .inl (aC 1, (24, .inl fun _ => 0))), (q6, .inl (aC 1, (16, .inl fun _ => 0))), (q7, .inl (aC 5, 40, .inr (.inr (.inr (.inr (fun _ => none))))))] [(3, q1, [q1], zeroM), (4, q2, [q2], zeroM), (5, q3, [q3], zeroM), (6, q4, L4, im9), (12, q8, [q8], zeroM), (14, q9, [q9], zeroM), (15, q10, [q10], zeroM)] s H locs := hW
  refine lv_iconst (v := oN 0) hx hb dk3_118 (by decide) ?_
  refine lv_istore_n (lv' := [(1, .int (oN 0)), (0, .ref h0)]) hx hb dk3_119 rfl hl (by decide) rfl (fun ls hl => ?_)
  refine B_fill (chs := [(3, q1, [q1], zeroM), (4, q2, [q2], zeroM), (5, q3, [q3], zeroM), (6, q4, L4, im9), (12, q8, [q8], zeroM), (14, q9, [q9], zeroM), (15, q10, [q10], zeroM)]) (h0 := h0) (ci0 := 2) (N0 := 16) (kf := 10) (qa := q7) (q0 := 3) (kd := 5) (NN := 40) (out := 145) (C0 := RX3) (T0 := TX3) (fs0 := [.int 0, .int 0, .int 0, .ref q1, .ref q2, .ref q3, .ref q4, .ref q5, .ref q6, .int 0, .ref q7, .int 0, .ref q8, .int 0, .ref q9, .ref q10]) (PR := fun g => [(h0, .inr (2, [.int 0, .int 0, .int 0, .ref q1, .ref q2, .ref q3, .ref q4, .ref q5, .ref q6, .int 0, .ref q7, .int 0, .ref q8, .int 0, .ref q9, .ref q10])), (q5, .inl (aC 1, (24, .inl fun _ => 0))), (q6, .inl (aC 1, (16, .inl fun _ => 0))), (q7, .inl (aC 5, 40, .inr (.inr (.inr (.inr g)))))]) (PRt := fun g => [(q5, .inl (aC 1, (24, .inl fun _ => 0))), (q6, .inl (aC 1, (16, .inl fun _ => 0))), (q7, .inl (aC 5, 40, .inr (.inr (.inr (.inr g)))))]) (ci := 0) (N := 19) (mL := 1) (C := RX0) (T := TX0) (fs := [.int 0, .int 0, .int 0, .int 0, .int 0, .int 0, .int 0, .int 0, .int 0, .int 0, .int 0, .int 0, .int 0, .int 0, .int 0, .int 0, .int 0, .int 0, .null]) (mem := im0) (y := yX0_init) tyX0 F (by decide) (fun _ => rfl) (fun _ => (Nat.le_of_ble_eq_true rfl)) (fun _ => rfl) (fun _ _ => rfl) rfl uw_2 (by decide) rfl wK_364 rfl (by decide) (fun j hj => KFj_3 hj) rfl (by decide) rfl uw_0 tyX0_ok (by decide +kernel) wK_199 wK_201 wK_92 (ct_0 l) wK_204 rfl rfl rfl (List.mem_of_getElem? (i := 1) rfl) ⟨by decide, by decide, by decide +kernel⟩ rfl wK_203 ⟨(Nat.le_of_ble_eq_true rfl), (Nat.le_of_ble_eq_true rfl)⟩ dk3_120 dk3_121 (by decide) dk3_123 (by decide) dk3_126 dk3_127 dk3_130 dk3_131 dk3_134 dk3_135 dk3_138 dk3_139 dk3_142 (by decide) 40 0 _ _ _ _ ls (fun _ => 0) (fun _ => []) (by decide) hl ?_ (Nat.le_of_ble_eq_true rfl) (Nat.le_of_ble_eq_true rfl) (fun H locs ls adr Ls hl hW => ?_)
  · have e : (fun i => if i < 0 then some ((fun _ => 0) i) else none : Nat → Option Nat) = fun _ => none := funext fun i => if_neg (Nat.not_lt_zero i)
    rw [e]
    exact hW
  have hW : WC D aC (AC h0 s.heap.size) KF_3 [(h0, .inr (2, [.int 0, .int 0, .int 0, .ref q1, .ref q2, .ref q3, .ref q4, .ref q5, .ref q6, .int 0, .ref q7, .int 0, .ref q8, .int 0, .ref q9, .ref q10])), (q5, .inl (aC 1, (24, .inl fun _ => 0))), (q6, .inl (aC 1, (16, .inl fun _ => 0))), (q7, .inl (aC 5, 40, .inr (.inr (.inr (.inr (fun i => if i < 40 then some (adr i) else none))))))] ([(3, q1, [q1], zeroM), (4, q2, [q2], zeroM), (5, q3, [q3], zeroM), (6, q4, L4, im9), (12, q8, [q8], zeroM), (14, q9, [q9], zeroM), (15, q10, [q10], zeroM)] ++ (List.range 40).map (fun i => (1000 + i, adr i, Ls i, im0))) s H locs := hW
  obtain ⟨LA, hW⟩ := B_unpinQ (k := 10) (ca := 5000040) (ci := 0) (pre := [(h0, .inr (2, [.int 0, .int 0, .int 0, .ref q1, .ref q2, .ref q3, .ref q4, .ref q5, .ref q6, .int 0, .ref q7, .int 0, .ref q8, .int 0, .ref q9, .ref q10])), (q5, .inl (aC 1, (24, .inl fun _ => 0))), (q6, .inl (aC 1, (16, .inl fun _ => 0)))]) (chs := [(3, q1, [q1], zeroM), (4, q2, [q2], zeroM), (5, q3, [q3], zeroM), (6, q4, L4, im9), (12, q8, [q8], zeroM), (14, q9, [q9], zeroM), (15, q10, [q10], zeroM)]) hW rfl (fun j hj => KFj_3 hj) (fun j => KFc_3 j) (fun _ _ => rfl)
  have hW : WC D aC (AC h0 s.heap.size) KF_3 [(h0, .inr (2, [.int 0, .int 0, .int 0, .ref q1, .ref q2, .ref q3, .ref q4, .ref q5, .ref q6, .int 0, .ref q7, .int 0, .ref q8, .int 0, .ref q9, .ref q10])), (q5, .inl (aC 1, (24, .inl fun _ => 0))), (q6, .inl (aC 1, (16, .inl fun _ => 0)))] [(3, q1, [q1], zeroM), (4, q2, [q2], zeroM), (5, q3, [q3], zeroM), (6, q4, L4, im9), (12, q8, [q8], zeroM), (14, q9, [q9], zeroM), (15, q10, [q10], zeroM), (10, q7, LA, imA3)] s H locs := hW
  refine lv_iconst (v := oN 0) hx hb dk3_145 (by decide) ?_
  refine lv_istore_n (lv' := [(1, .int (oN 0)), (0, .ref h0)]) hx hb dk3_146 rfl hl (by decide) rfl (fun ls hl => ?_)
  refine B_loop (NN := 24) (pcI := 161) (out := 167) F (by decide) (by decide) (fun j H locs => WC D aC (AC h0 s.heap.size) KF_3 [(h0, .inr (2, [.int 0, .int 0, .int 0, .ref q1, .ref q2, .ref q3, .ref q4, .ref q5, .ref q6, .int 0, .ref q7, .int 0, .ref q8, .int 0, .ref q9, .ref q10])), (q5, .inl (aC 1, (24, .inl (fun i => if 0 ≤ i ∧ i < 0 + j then 30 else (fun _ => 0) i)))), (q6, .inl (aC 1, (16, .inl fun _ => 0)))] [(3, q1, [q1], zeroM), (4, q2, [q2], zeroM), (5, q3, [q3], zeroM), (6, q4, L4, im9), (12, q8, [q8], zeroM), (14, q9, [q9], zeroM), (15, q10, [q10], zeroM), (10, q7, LA, imA3)] s H locs) dk3_147 dk3_148 (by decide) dk3_150 (by decide) dk3_161 dk3_164 (by decide) (fun j H locs ls hj hl hW kk => ?_) (fun H locs ls hl hW => ?_) 24 0 _ _ ls (by decide) hl ?_
  · refine lv_aload_n hx hb dk3_153 rfl (lv_at hl 1 rfl) ?_
    refine B_get (T := TX3) (k := 7) F hW rfl uw_2 (by decide) rfl wK_355 rfl dk3_154 ?_
    refine lv_iload_n hx hb dk3_157 rfl (lv_at hl 0 rfl) ?_
    refine lv_bipush (v := 30) hx hb dk3_158 (by decide) ?_
    refine B_iast (q0 := 1) (j := j) (n := 24) F hW (Nat.le_of_ble_eq_true rfl) rfl (by omega) (by decide) dk3_160 (fun H1 locs1 hW => kk H1 locs1 ?_)
    have e : upd (fun i => if 0 ≤ i ∧ i < 0 + j then 30 else (fun _ => 0) i) (j) 30 = (fun i => if 0 ≤ i ∧ i < 0 + (j + 1) then 30 else (fun _ => 0) i) := by
      funext i
      unfold upd
      by_cases h1 : i = j
      · rw [if_pos h1, if_pos (by omega)]
      · rw [if_neg h1]
        dsimp only
        by_cases h2 : 0 ≤ i ∧ i < 0 + j
        · rw [if_pos h2, if_pos (by omega)]
        · rw [if_neg h2, if_neg (by omega)]
    rw [e] at hW
    exact hW
  rotate_left
  · have e : ((fun i => if 0 ≤ i ∧ i < 0 + 0 then 30 else (fun _ => 0) i) : Nat → Int32) = fun _ => 0 := funext fun i => if_neg (by omega)
    rw [e]
    exact hW
  have hW : WC D aC (AC h0 s.heap.size) KF_3 [(h0, .inr (2, [.int 0, .int 0, .int 0, .ref q1, .ref q2, .ref q3, .ref q4, .ref q5, .ref q6, .int 0, .ref q7, .int 0, .ref q8, .int 0, .ref q9, .ref q10])), (q5, .inl (aC 1, (24, .inl (fun i => if 0 ≤ i ∧ i < 0 + 24 then 30 else (fun _ => 0) i)))), (q6, .inl (aC 1, (16, .inl fun _ => 0)))] [(3, q1, [q1], zeroM), (4, q2, [q2], zeroM), (5, q3, [q3], zeroM), (6, q4, L4, im9), (12, q8, [q8], zeroM), (14, q9, [q9], zeroM), (15, q10, [q10], zeroM), (10, q7, LA, imA3)] s H locs := hW
  refine lv_iconst (v := oN 0) hx hb dk3_167 (by decide) ?_
  refine lv_istore_n (lv' := [(1, .int (oN 0)), (0, .ref h0)]) hx hb dk3_168 rfl hl (by decide) rfl (fun ls hl => ?_)
  refine B_loop (NN := 16) (pcI := 182) (out := 188) F (by decide) (by decide) (fun j H locs => WC D aC (AC h0 s.heap.size) KF_3 [(h0, .inr (2, [.int 0, .int 0, .int 0, .ref q1, .ref q2, .ref q3, .ref q4, .ref q5, .ref q6, .int 0, .ref q7, .int 0, .ref q8, .int 0, .ref q9, .ref q10])), (q5, .inl (aC 1, (24, .inl (fun i => if 0 ≤ i ∧ i < 0 + 24 then 30 else (fun _ => 0) i)))), (q6, .inl (aC 1, (16, .inl (fun i => if 0 ≤ i ∧ i < 0 + j then (-1) else (fun _ => 0) i))))] [(3, q1, [q1], zeroM), (4, q2, [q2], zeroM), (5, q3, [q3], zeroM), (6, q4, L4, im9), (12, q8, [q8], zeroM), (14, q9, [q9], zeroM), (15, q10, [q10], zeroM), (10, q7, LA, imA3)] s H locs) dk3_169 dk3_170 (by decide) dk3_172 (by decide) dk3_182 dk3_185 (by decide) (fun j H locs ls hj hl hW kk => ?_) (fun H locs ls hl hW => ?_) 16 0 _ _ ls (by decide) hl ?_
  · refine lv_aload_n hx hb dk3_175 rfl (lv_at hl 1 rfl) ?_
    refine B_get (T := TX3) (k := 8) F hW rfl uw_2 (by decide) rfl wK_358 rfl dk3_176 ?_
    refine lv_iload_n hx hb dk3_179 rfl (lv_at hl 0 rfl) ?_
    refine lv_iconst (v := (-1)) hx hb dk3_180 (by decide) ?_
    refine B_iast (q0 := 2) (j := j) (n := 16) F hW (Nat.le_of_ble_eq_true rfl) rfl (by omega) (by decide) dk3_181 (fun H1 locs1 hW => kk H1 locs1 ?_)
    have e : upd (fun i => if 0 ≤ i ∧ i < 0 + j then (-1) else (fun _ => 0) i) (j) (-1) = (fun i => if 0 ≤ i ∧ i < 0 + (j + 1) then (-1) else (fun _ => 0) i) := by
      funext i
      unfold upd
      by_cases h1 : i = j
      · rw [if_pos h1, if_pos (by omega)]
      · rw [if_neg h1]
        dsimp only
        by_cases h2 : 0 ≤ i ∧ i < 0 + j
        · rw [if_pos h2, if_pos (by omega)]
        · rw [if_neg h2, if_neg (by omega)]
    rw [e] at hW
    exact hW
  rotate_left
  · have e : ((fun i => if 0 ≤ i ∧ i < 0 + 0 then (-1) else (fun _ => 0) i) : Nat → Int32) = fun _ => 0 := funext fun i => if_neg (by omega)
    rw [e]
    exact hW
  have hW : WC D aC (AC h0 s.heap.size) KF_3 [(h0, .inr (2, [.int 0, .int 0, .int 0, .ref q1, .ref q2, .ref q3, .ref q4, .ref q5, .ref q6, .int 0, .ref q7, .int 0, .ref q8, .int 0, .ref q9, .ref q10])), (q5, .inl (aC 1, (24, .inl (fun i => if 0 ≤ i ∧ i < 0 + 24 then 30 else (fun _ => 0) i)))), (q6, .inl (aC 1, (16, .inl (fun i => if 0 ≤ i ∧ i < 0 + 16 then (-1) else (fun _ => 0) i))))] [(3, q1, [q1], zeroM), (4, q2, [q2], zeroM), (5, q3, [q3], zeroM), (6, q4, L4, im9), (12, q8, [q8], zeroM), (14, q9, [q9], zeroM), (15, q10, [q10], zeroM), (10, q7, LA, imA3)] s H locs := hW
  have hW := B_unpin (k := 8) (tg := 1000016) (kd := 1) (q := q6) (pre := [(h0, .inr (2, [.int 0, .int 0, .int 0, .ref q1, .ref q2, .ref q3, .ref q4, .ref q5, .ref q6, .int 0, .ref q7, .int 0, .ref q8, .int 0, .ref q9, .ref q10])), (q5, .inl (aC 1, (24, .inl (fun i => if 0 ≤ i ∧ i < 0 + 24 then 30 else (fun _ => 0) i))))]) (chs := [(3, q1, [q1], zeroM), (4, q2, [q2], zeroM), (5, q3, [q3], zeroM), (6, q4, L4, im9), (12, q8, [q8], zeroM), (14, q9, [q9], zeroM), (15, q10, [q10], zeroM), (10, q7, LA, imA3)]) (a0 := (16, .inl (fun i => if 0 ≤ i ∧ i < 0 + 16 then (-1) else (fun _ => 0) i))) (mk := leafM (fun i => if 0 ≤ i ∧ i < 0 + 16 then (-1) else (fun _ => 0) i)) hW rfl (fun _ => rfl) rfl
  have hW : WC D aC (AC h0 s.heap.size) KF_3 [(h0, .inr (2, [.int 0, .int 0, .int 0, .ref q1, .ref q2, .ref q3, .ref q4, .ref q5, .ref q6, .int 0, .ref q7, .int 0, .ref q8, .int 0, .ref q9, .ref q10])), (q5, .inl (aC 1, (24, .inl (fun i => if 0 ≤ i ∧ i < 0 + 24 then 30 else (fun _ => 0) i))))] [(3, q1, [q1], zeroM), (4, q2, [q2], zeroM), (5, q3, [q3], zeroM), (6, q4, L4, im9), (12, q8, [q8], zeroM), (14, q9, [q9], zeroM), (15, q10, [q10], zeroM), (10, q7, LA, imA3), (8, q6, [q6], leafM (fun i => if 0 ≤ i ∧ i < 0 + 16 then (-1) else (fun _ => 0) i))] s H locs := hW
  have hW := B_unpin (k := 7) (tg := 1000024) (kd := 1) (q := q5) (pre := [(h0, .inr (2, [.int 0, .int 0, .int 0, .ref q1, .ref q2, .ref q3, .ref q4, .ref q5, .ref q6, .int 0, .ref q7, .int 0, .ref q8, .int 0, .ref q9, .ref q10]))]) (chs := [(3, q1, [q1], zeroM), (4, q2, [q2], zeroM), (5, q3, [q3], zeroM), (6, q4, L4, im9), (12, q8, [q8], zeroM), (14, q9, [q9], zeroM), (15, q10, [q10], zeroM), (10, q7, LA, imA3), (8, q6, [q6], leafM (fun i => if 0 ≤ i ∧ i < 0 + 16 then (-1) else (fun _ => 0) i))]) (a0 := (24, .inl (fun i => if 0 ≤ i ∧ i < 0 + 24 then 30 else (fun _ => 0) i))) (mk := leafM (fun i => if 0 ≤ i ∧ i < 0 + 24 then 30 else (fun _ => 0) i)) hW rfl (fun _ => rfl) rfl
  have hW : WC D aC (AC h0 s.heap.size) KF_3 [(h0, .inr (2, [.int 0, .int 0, .int 0, .ref q1, .ref q2, .ref q3, .ref q4, .ref q5, .ref q6, .int 0, .ref q7, .int 0, .ref q8, .int 0, .ref q9, .ref q10]))] [(3, q1, [q1], zeroM), (4, q2, [q2], zeroM), (5, q3, [q3], zeroM), (6, q4, L4, im9), (12, q8, [q8], zeroM), (14, q9, [q9], zeroM), (15, q10, [q10], zeroM), (10, q7, LA, imA3), (8, q6, [q6], leafM (fun i => if 0 ≤ i ∧ i < 0 + 16 then (-1) else (fun _ => 0) i)), (7, q5, [q5], leafM (fun i => if 0 ≤ i ∧ i < 0 + 24 then 30 else (fun _ => 0) i))] s H locs := hW
  obtain ⟨_, ⟨_, _, hS⟩, _⟩ := id hW
  refine W.widen (k := 181) (n := 2217) (Nat.le_of_ble_eq_true rfl) (Nat.le_of_ble_eq_true rfl) ?_
  refine W.vret hx hb hr (fun t ht hWm => ⟨⟨(), rfl, trivial, B_end2 (N := 16) hW rfl rfl (fun k hk => if_pos hk) (show ∀ k ∈ ([3, 4, 5, 6, 12, 14, 15, 10, 8, 7] : List Nat), k < 1000 by decide) (show ∀ k, k < 16 → (chT 2 k).isSome = true → k ∈ ([3, 4, 5, 6, 12, 14, 15, 10, 8, 7] : List Nat) by decide +kernel) (show ([3, 4, 5, 6, 12, 14, 15, 10, 8, 7] : List Nat).Nodup by decide) (fun ads hads => ?_) (fun e he r => ?_) ht⟩, hS.F ht⟩) hS.2.2 dk3_188
  · have e3 : ads [3] = q1 := hads (3, q1, [q1], zeroM) (List.mem_of_getElem? (i := 0) rfl)
    have e4 : ads [4] = q2 := hads (4, q2, [q2], zeroM) (List.mem_of_getElem? (i := 1) rfl)
    have e5 : ads [5] = q3 := hads (5, q3, [q3], zeroM) (List.mem_of_getElem? (i := 2) rfl)
    have e6 : ads [6] = q4 := hads (6, q4, L4, im9) (List.mem_of_getElem? (i := 3) rfl)
    have e12 : ads [12] = q8 := hads (12, q8, [q8], zeroM) (List.mem_of_getElem? (i := 4) rfl)
    have e14 : ads [14] = q9 := hads (14, q9, [q9], zeroM) (List.mem_of_getElem? (i := 5) rfl)
    have e15 : ads [15] = q10 := hads (15, q10, [q10], zeroM) (List.mem_of_getElem? (i := 6) rfl)
    have e10 : ads [10] = q7 := hads (10, q7, LA, imA3) (List.mem_of_getElem? (i := 7) rfl)
    have e8 : ads [8] = q6 := hads (8, q6, [q6], leafM (fun i => if 0 ≤ i ∧ i < 0 + 16 then (-1) else (fun _ => 0) i)) (List.mem_of_getElem? (i := 8) rfl)
    have e7 : ads [7] = q5 := hads (7, q5, [q5], leafM (fun i => if 0 ≤ i ∧ i < 0 + 24 then 30 else (fun _ => 0) i)) (List.mem_of_getElem? (i := 9) rfl)
    have e : cEl aC ads 2 [] im3 = Sum.inr (2, [.int 0, .int 0, .int 0, .ref (ads [3]), .ref (ads [4]), .ref (ads [5]), .ref (ads [6]), .ref (ads [7]), .ref (ads [8]), .int 0, .ref (ads [10]), .int 0, .ref (ads [12]), .int 0, .ref (ads [14]), .ref (ads [15])]) := rfl
    rw [e, e3, e4, e5, e6, e12, e14, e15, e10, e8, e7]
  · simp only [List.mem_cons, List.not_mem_nil, or_false] at he
    rcases he with rfl | rfl | rfl | rfl | rfl | rfl | rfl | rfl | rfl | rfl <;> exact ⟨memN_1, memN_2⟩
end Ctor3
