section Ctor10
set_option maxRecDepth 100000 in
set_option maxHeartbeats 4000000 in
theorem ct_10 (l : Launch) : MetC l yX10_init cX10_init 2 9 [.null, .null, .null, .int 0, .null, .null, .null, .null, .null] im10 { frames := 4, cells := 615, slots := 52827, locals := 73 } 615 52827 := by
  intro D aC h0 sz
  refine Met.ofW (cc := cX10_init) (maxL := 2) (ret := none) (ws' := lw_g) (by decide) rfl ?_
  intro p e s m args below meth c s₁ B hml hv
  obtain ⟨rfl, hsz, hP, hK, hNW⟩ := hv
  have hx := B.exec
  have hb := B.bytes
  have hr := B.returns
  have hts0 := atoms_spec (ws := .code yX10_init cX10_init 2 none :: lw_g) B.pre
  have hts : ∀ w ∈ lw_g, w.before [Value.ref h0].toArray s = true := fun w hw => hts0 w (List.mem_cons_of_mem _ hw)
  have hown : s.vm.findClass RX10 = some m.cls := findClass_of_methodNamed B.named
  have hlocks := B.notSynchronized
  have hin : meth.name = "<init>" := (name_of_methodNamed B.named B.method).1
  subst hsz
  have F : CX p s m [Value.ref h0].toArray c D aC cX10_init 2 RX10 (AC h0 s.heap.size) := ⟨hx, hb, hml, hown, hts, hK, hNW, fun q h => Or.inr h⟩
  have hW : WC D aC (AC h0 s.heap.size) KF_10 [(h0, .inr (9, [.null, .null, .null, .int 0, .null, .null, .null, .null, .null]))] [] s s.heap [] := ⟨fun _ => .inr (0, []), ⟨hP, D_iff.mpr ⟨List.nodup_cons.mpr ⟨List.not_mem_nil, List.nodup_nil⟩, fun q hq => by rcases List.mem_singleton.mp hq with rfl; exact Or.inl rfl⟩, va_S.rf⟩, fun e he => absurd he List.not_mem_nil⟩
  have hl := lv_entry ([.ref h0]) (n := 2) (Nat.le_of_ble_eq_true rfl)
  rw [lg_entry_eq]
  generalize (lg_sl ([.ref h0]) ++ List.replicate (2 - (lg_sl ([.ref h0])).length) Slot.unset).toArray = ls at hl ⊢
  have hl : lv_has ls 2 [(0, .ref h0)] := hl
  refine lv_aload_n hx hb dk10_0 rfl (lv_at hl 0 rfl) ?_
  refine W.objInit hx hb hown (hts _ wK_119) (hts _ wK_120) (hts _ wK_121) rfl (by rw [hml]; exact hl.1) rfl dk10_1 (Nat.le_of_ble_eq_true rfl) (Nat.le_of_ble_eq_true rfl) ?_
  refine W.eq (g2 := F0 m 4 ls []) rfl ?_
  refine lv_aload_n hx hb dk10_4 rfl (lv_at hl 0 rfl) ?_
  refine B_objI (k := 0) (ci := 2) (N := 16) (mL := 2) (C := RX3) (T := TX3) (fs := [.int 0, .int 0, .int 0, .null, .null, .null, .null, .null, .null, .int 0, .null, .int 0, .null, .int 0, .null, .null]) (mem := im3) (y := yX3_init) tyX3 F hl.1 hW rfl rfl uw_2 tyX3_ok (by decide +kernel) wK_122 wK_123 wK_90 (ct_3 l) wK_126 rfl rfl rfl wK_124 ⟨by decide, by decide, by decide +kernel⟩ rfl wK_125 ⟨(Nat.le_of_ble_eq_true rfl), (Nat.le_of_ble_eq_true rfl)⟩ (Nat.le_of_ble_eq_true rfl) (Nat.le_of_ble_eq_true rfl) (Nat.le_of_ble_eq_true rfl) dk10_5 dk10_8 dk10_9 (fun q1 L1 H locs hW => ?_)
  have hW : WC D aC (AC h0 s.heap.size) KF_10 [(h0, .inr (9, [.null, .null, .null, .int 0, .null, .null, .null, .null, .null]))] [(0, q1, L1, im3)] s H locs := hW
  refine B_put (T := TX10) (k := 0) (ty := .object "TentPlain$Plain") tyX10 F hW rfl uw_9 tyX10_ok nmX10 (by decide) rfl rfl wK_552 hin (by decide +kernel) rfl rfl (Nat.le_of_ble_eq_true rfl) dk10_12 (Or.inl rfl) (fun H locs hW => ?_)
  have hW : WC D aC (AC h0 s.heap.size) KF_10 [(h0, .inr (9, [.ref q1, .null, .null, .int 0, .null, .null, .null, .null, .null]))] [(0, q1, L1, im3)] s H locs := hW
  refine lv_aload_n hx hb dk10_15 rfl (lv_at hl 0 rfl) ?_
  refine B_objI (k := 1) (ci := 2) (N := 16) (mL := 2) (C := RX3) (T := TX3) (fs := [.int 0, .int 0, .int 0, .null, .null, .null, .null, .null, .null, .int 0, .null, .int 0, .null, .int 0, .null, .null]) (mem := im3) (y := yX3_init) tyX3 F hl.1 hW rfl rfl uw_2 tyX3_ok (by decide +kernel) wK_122 wK_123 wK_90 (ct_3 l) wK_126 rfl rfl rfl wK_124 ⟨by decide, by decide, by decide +kernel⟩ rfl wK_125 ⟨(Nat.le_of_ble_eq_true rfl), (Nat.le_of_ble_eq_true rfl)⟩ (Nat.le_of_ble_eq_true rfl) (Nat.le_of_ble_eq_true rfl) (Nat.le_of_ble_eq_true rfl) dk10_16 dk10_19 dk10_20 (fun q2 L2 H locs hW => ?_)
  have hW : WC D aC (AC h0 s.heap.size) KF_10 [(h0, .inr (9, [.ref q1, .null, .null, .int 0, .null, .null, .null, .null, .null]))] [(0, q1, L1, im3), (1, q2, L2, im3)] s H locs := hW
  refine B_put (T := TX10) (k := 1) (ty := .object "TentPlain$Plain") tyX10 F hW rfl uw_9 tyX10_ok nmX10 (by decide) rfl rfl wK_553 hin (by decide +kernel) rfl rfl (Nat.le_of_ble_eq_true rfl) dk10_23 (Or.inl rfl) (fun H locs hW => ?_)
  have hW : WC D aC (AC h0 s.heap.size) KF_10 [(h0, .inr (9, [.ref q1, .ref q2, .null, .int 0, .null, .null, .null, .null, .null]))] [(0, q1, L1, im3), (1, q2, L2, im3)] s H locs := hW
  refine lv_aload_n hx hb dk10_26 rfl (lv_at hl 0 rfl) ?_
  refine B_objI (k := 2) (ci := 2) (N := 16) (mL := 2) (C := RX3) (T := TX3) (fs := [.int 0, .int 0, .int 0, .null, .null, .null, .null, .null, .null, .int 0, .null, .int 0, .null, .int 0, .null, .null]) (mem := im3) (y := yX3_init) tyX3 F hl.1 hW rfl rfl uw_2 tyX3_ok (by decide +kernel) wK_122 wK_123 wK_90 (ct_3 l) wK_126 rfl rfl rfl wK_124 ⟨by decide, by decide, by decide +kernel⟩ rfl wK_125 ⟨(Nat.le_of_ble_eq_true rfl), (Nat.le_of_ble_eq_true rfl)⟩ (Nat.le_of_ble_eq_true rfl) (Nat.le_of_ble_eq_true rfl) (Nat.le_of_ble_eq_true rfl) dk10_27 dk10_30 dk10_31 (fun q3 L3 H locs hW => ?_)
  have hW : WC D aC (AC h0 s.heap.size) KF_10 [(h0, .inr (9, [.ref q1, .ref q2, .null, .int 0, .null, .null, .null, .null, .null]))] [(0, q1, L1, im3), (1, q2, L2, im3), (2, q3, L3, im3)] s H locs := hW
  refine B_put (T := TX10) (k := 2) (ty := .object "TentPlain$Plain") tyX10 F hW rfl uw_9 tyX10_ok nmX10 (by decide) rfl rfl wK_554 hin (by decide +kernel) rfl rfl (Nat.le_of_ble_eq_true rfl) dk10_34 (Or.inl rfl) (fun H locs hW => ?_)
  have hW : WC D aC (AC h0 s.heap.size) KF_10 [(h0, .inr (9, [.ref q1, .ref q2, .ref q3, .int 0, .null, .null, .null, .null, .null]))] [(0, q1, L1, im3), (1, q2, L2, im3), (2, q3, L3, im3)] s H locs := hW
  refine lv_aload_n hx hb dk10_37 rfl (lv_at hl 0 rfl) ?_
  refine lv_iconst (v := 0) hx hb dk10_38 (by decide) ?_
  refine B_put (T := TX10) (k := 3) (ty := .boolean) tyX10 F hW rfl uw_9 tyX10_ok nmX10 (by decide) rfl rfl wK_555 hin (by decide +kernel) rfl rfl (Nat.le_of_ble_eq_true rfl) dk10_39 (Or.inl rfl) (fun H locs hW => ?_)
  have hW : WC D aC (AC h0 s.heap.size) KF_10 [(h0, .inr (9, [.ref q1, .ref q2, .ref q3, .int 0, .null, .null, .null, .null, .null]))] [(0, q1, L1, im3), (1, q2, L2, im3), (2, q3, L3, im3)] s H locs := hW
  refine lv_aload_n hx hb dk10_42 rfl (lv_at hl 0 rfl) ?_
  refine B_objN (k := 4) (ci := 5) (N := 9) (mL := 1) (C := RX6) (T := TX6) (fs := [.null, .null, .null, .int 0, .null, .int 0, .int 0, .int 0, .null]) (mem := im6) (y := yX6_init) tyX6 F hl.1 hW rfl rfl uw_5 tyX6_ok (by decide +kernel) wK_413 wK_414 wK_94 (ct_6 l) wK_417 rfl rfl rfl (List.mem_of_getElem? (i := 3) rfl) ⟨by decide, by decide, by decide +kernel⟩ rfl wK_416 ⟨(Nat.le_of_ble_eq_true rfl), (Nat.le_of_ble_eq_true rfl)⟩ (Nat.le_of_ble_eq_true rfl) (Nat.le_of_ble_eq_true rfl) (Nat.le_of_ble_eq_true rfl) dk10_43 dk10_46 dk10_47 (fun q4 L4 H locs hW => ?_)
  have hW : WC D aC (AC h0 s.heap.size) KF_10 [(h0, .inr (9, [.ref q1, .ref q2, .ref q3, .int 0, .null, .null, .null, .null, .null]))] [(0, q1, L1, im3), (1, q2, L2, im3), (2, q3, L3, im3), (4, q4, L4, im6)] s H locs := hW
  refine B_put (T := TX10) (k := 4) (ty := .object "TentPlain$Texts") tyX10 F hW rfl uw_9 tyX10_ok nmX10 (by decide) rfl rfl wK_556 hin (by decide +kernel) rfl rfl (Nat.le_of_ble_eq_true rfl) dk10_50 (Or.inl rfl) (fun H locs hW => ?_)
  have hW : WC D aC (AC h0 s.heap.size) KF_10 [(h0, .inr (9, [.ref q1, .ref q2, .ref q3, .int 0, .ref q4, .null, .null, .null, .null]))] [(0, q1, L1, im3), (1, q2, L2, im3), (2, q3, L3, im3), (4, q4, L4, im6)] s H locs := hW
  refine lv_aload_n hx hb dk10_53 rfl (lv_at hl 0 rfl) ?_
  refine B_objN (k := 5) (ci := 1) (N := 2) (mL := 1) (C := RX1) (T := TX1) (fs := [.null, .null]) (mem := im1) (y := yX1_init) tyX1 F hl.1 hW rfl rfl uw_1 tyX1_ok (by decide +kernel) wK_447 wK_448 wK_95 (ct_1 l) wK_451 rfl rfl rfl (List.mem_of_getElem? (i := 4) rfl) ⟨by decide, by decide, by decide +kernel⟩ rfl wK_450 ⟨(Nat.le_of_ble_eq_true rfl), (Nat.le_of_ble_eq_true rfl)⟩ (Nat.le_of_ble_eq_true rfl) (Nat.le_of_ble_eq_true rfl) (Nat.le_of_ble_eq_true rfl) dk10_54 dk10_57 dk10_58 (fun q5 L5 H locs hW => ?_)
  have hW : WC D aC (AC h0 s.heap.size) KF_10 [(h0, .inr (9, [.ref q1, .ref q2, .ref q3, .int 0, .ref q4, .null, .null, .null, .null]))] [(0, q1, L1, im3), (1, q2, L2, im3), (2, q3, L3, im3), (4, q4, L4, im6), (5, q5, L5, im1)] s H locs := hW
  refine B_put (T := TX10) (k := 5) (ty := .object "TentPlain$History") tyX10 F hW rfl uw_9 tyX10_ok nmX10 (by decide) rfl rfl wK_557 hin (by decide +kernel) rfl rfl (Nat.le_of_ble_eq_true rfl) dk10_61 (Or.inl rfl) (fun H locs hW => ?_)
  have hW : WC D aC (AC h0 s.heap.size) KF_10 [(h0, .inr (9, [.ref q1, .ref q2, .ref q3, .int 0, .ref q4, .ref q5, .null, .null, .null]))] [(0, q1, L1, im3), (1, q2, L2, im3), (2, q3, L3, im3), (4, q4, L4, im6), (5, q5, L5, im1)] s H locs := hW
  refine lv_aload_n hx hb dk10_64 rfl (lv_at hl 0 rfl) ?_
  refine lv_bipush (v := 8) hx hb dk10_65 (by decide) ?_
  refine B_newq (kd := 6) (N := 8) (C := "TentPlain$Shelf") F hW wK_461 (by decide) rfl (by decide) (by decide +kernel) (Nat.le_of_ble_eq_true rfl) (Nat.le_of_ble_eq_true rfl) (Nat.le_of_ble_eq_true rfl) dk10_67 (fun q6 H hW => ?_)
  have hW : WC D aC (AC h0 s.heap.size) KF_10 [(h0, .inr (9, [.ref q1, .ref q2, .ref q3, .int 0, .ref q4, .ref q5, .null, .null, .null])), (q6, .inl (aC 6, 8, .inr (.inr (.inr (.inr (fun _ => none))))))] [(0, q1, L1, im3), (1, q2, L2, im3), (2, q3, L3, im3), (4, q4, L4, im6), (5, q5, L5, im1)] s H _ := hW
  refine B_put (T := TX10) (k := 6) (ty := .array (.object "TentPlain$Shelf")) tyX10 F hW rfl uw_9 tyX10_ok nmX10 (by decide) rfl rfl wK_558 hin (by decide +kernel) rfl rfl (Nat.le_of_ble_eq_true rfl) dk10_70 (Or.inl rfl) (fun H locs hW => ?_)
  have hW : WC D aC (AC h0 s.heap.size) KF_10 [(h0, .inr (9, [.ref q1, .ref q2, .ref q3, .int 0, .ref q4, .ref q5, .ref q6, .null, .null])), (q6, .inl (aC 6, 8, .inr (.inr (.inr (.inr (fun _ => none))))))] [(0, q1, L1, im3), (1, q2, L2, im3), (2, q3, L3, im3), (4, q4, L4, im6), (5, q5, L5, im1)] s H locs := hW
  refine lv_aload_n hx hb dk10_73 rfl (lv_at hl 0 rfl) ?_
  refine B_objN (k := 7) (ci := 7) (N := 11) (mL := 1) (C := RX8) (T := TX8) (fs := [.int 0, .null, .null, .null, .int 0, .null, .int 0, .null, .null, .null, .int 0]) (mem := im8) (y := yX8_init) tyX8 F hl.1 hW rfl rfl uw_7 tyX8_ok (by decide +kernel) wK_463 wK_464 wK_96 (ct_8 l) wK_467 rfl rfl rfl (List.mem_of_getElem? (i := 5) rfl) ⟨by decide, by decide, by decide +kernel⟩ rfl wK_466 ⟨(Nat.le_of_ble_eq_true rfl), (Nat.le_of_ble_eq_true rfl)⟩ (Nat.le_of_ble_eq_true rfl) (Nat.le_of_ble_eq_true rfl) (Nat.le_of_ble_eq_true rfl) dk10_74 dk10_77 dk10_78 (fun q7 L7 H locs hW => ?_)
  have hW : WC D aC (AC h0 s.heap.size) KF_10 [(h0, .inr (9, [.ref q1, .ref q2, .ref q3, .int 0, .ref q4, .ref q5, .ref q6, .null, .null])), (q6, .inl (aC 6, 8, .inr (.inr (.inr (.inr (fun _ => none))))))] [(0, q1, L1, im3), (1, q2, L2, im3), (2, q3, L3, im3), (4, q4, L4, im6), (5, q5, L5, im1), (7, q7, L7, im8)] s H locs := hW
  refine B_put (T := TX10) (k := 7) (ty := .object "TentPlain$WaveSearch") tyX10 F hW rfl uw_9 tyX10_ok nmX10 (by decide) rfl rfl wK_559 hin (by decide +kernel) rfl rfl (Nat.le_of_ble_eq_true rfl) dk10_81 (Or.inl rfl) (fun H locs hW => ?_)
  have hW : WC D aC (AC h0 s.heap.size) KF_10 [(h0, .inr (9, [.ref q1, .ref q2, .ref q3, .int 0, .ref q4, .ref q5, .ref q6, .ref q7, .null])), (q6, .inl (aC 6, 8, .inr (.inr (.inr (.inr (fun _ => none))))))] [(0, q1, L1, im3), (1, q2, L2, im3), (2, q3, L3, im3), (4, q4, L4, im6), (5, q5, L5, im1), (7, q7, L7, im8)] s H locs := hW
  refine lv_aload_n hx hb dk10_84 rfl (lv_at hl 0 rfl) ?_
  refine B_objN (k := 8) (ci := 3) (N := 4) (mL := 1) (C := RX4) (T := TX4) (fs := [.int 0, .int 0, .null, .null]) (mem := im4) (y := yX4_init) tyX4 F hl.1 hW rfl rfl uw_3 tyX4_ok (by decide +kernel) wK_504 wK_505 wK_97 (ct_4 l) wK_508 rfl rfl rfl (List.mem_of_getElem? (i := 6) rfl) ⟨by decide, by decide, by decide +kernel⟩ rfl wK_507 ⟨(Nat.le_of_ble_eq_true rfl), (Nat.le_of_ble_eq_true rfl)⟩ (Nat.le_of_ble_eq_true rfl) (Nat.le_of_ble_eq_true rfl) (Nat.le_of_ble_eq_true rfl) dk10_85 dk10_88 dk10_89 (fun q8 L8 H locs hW => ?_)
  have hW : WC D aC (AC h0 s.heap.size) KF_10 [(h0, .inr (9, [.ref q1, .ref q2, .ref q3, .int 0, .ref q4, .ref q5, .ref q6, .ref q7, .null])), (q6, .inl (aC 6, 8, .inr (.inr (.inr (.inr (fun _ => none))))))] [(0, q1, L1, im3), (1, q2, L2, im3), (2, q3, L3, im3), (4, q4, L4, im6), (5, q5, L5, im1), (7, q7, L7, im8), (8, q8, L8, im4)] s H locs := hW
  refine B_put (T := TX10) (k := 8) (ty := .object "TentPlain$RoundSearch") tyX10 F hW rfl uw_9 tyX10_ok nmX10 (by decide) rfl rfl wK_560 hin (by decide +kernel) rfl rfl (Nat.le_of_ble_eq_true rfl) dk10_92 (Or.inl rfl) (fun H locs hW => ?_)
  have hW : WC D aC (AC h0 s.heap.size) KF_10 [(h0, .inr (9, [.ref q1, .ref q2, .ref q3, .int 0, .ref q4, .ref q5, .ref q6, .ref q7, .ref q8])), (q6, .inl (aC 6, 8, .inr (.inr (.inr (.inr (fun _ => none))))))] [(0, q1, L1, im3), (1, q2, L2, im3), (2, q3, L3, im3), (4, q4, L4, im6), (5, q5, L5, im1), (7, q7, L7, im8), (8, q8, L8, im4)] s H locs := hW
  refine lv_iconst (v := oN 0) hx hb dk10_95 (by decide) ?_
  refine lv_istore_n (lv' := [(1, .int (oN 0)), (0, .ref h0)]) hx hb dk10_96 rfl hl (by decide) rfl (fun ls hl => ?_)
  refine B_fill (chs := [(0, q1, L1, im3), (1, q2, L2, im3), (2, q3, L3, im3), (4, q4, L4, im6), (5, q5, L5, im1), (7, q7, L7, im8), (8, q8, L8, im4)]) (h0 := h0) (ci0 := 9) (N0 := 9) (kf := 6) (qa := q6) (q0 := 1) (kd := 6) (NN := 8) (out := 122) (C0 := RX10) (T0 := TX10) (fs0 := [.ref q1, .ref q2, .ref q3, .int 0, .ref q4, .ref q5, .ref q6, .ref q7, .ref q8]) (PR := fun g => [(h0, .inr (9, [.ref q1, .ref q2, .ref q3, .int 0, .ref q4, .ref q5, .ref q6, .ref q7, .ref q8])), (q6, .inl (aC 6, 8, .inr (.inr (.inr (.inr g)))))]) (PRt := fun g => [(q6, .inl (aC 6, 8, .inr (.inr (.inr (.inr g)))))]) (ci := 4) (N := 5) (mL := 1) (C := RX5) (T := TX5) (fs := [.int 0, .null, .int 0, .int 0, .null]) (mem := im5) (y := yX5_init) tyX5 F (by decide) (fun _ => rfl) (fun _ => (Nat.le_of_ble_eq_true rfl)) (fun _ => rfl) (fun _ _ => rfl) rfl uw_9 (by decide) rfl wK_558 rfl (by decide) (fun j hj => KFj_10 hj) rfl (by decide) rfl uw_4 tyX5_ok (by decide +kernel) wK_461 wK_524 wK_98 (ct_5 l) wK_527 rfl rfl rfl (List.mem_of_getElem? (i := 7) rfl) ⟨by decide, by decide, by decide +kernel⟩ rfl wK_526 ⟨(Nat.le_of_ble_eq_true rfl), (Nat.le_of_ble_eq_true rfl)⟩ dk10_97 dk10_98 (by decide) dk10_100 (by decide) dk10_103 dk10_104 dk10_107 dk10_108 dk10_111 dk10_112 dk10_115 dk10_116 dk10_119 (by decide) 8 0 _ _ _ _ ls (fun _ => 0) (fun _ => []) (by decide) hl ?_ (Nat.le_of_ble_eq_true rfl) (Nat.le_of_ble_eq_true rfl) (fun H locs ls adr Ls hl hW => ?_)
  · have e : (fun i => if i < 0 then some ((fun _ => 0) i) else none : Nat → Option Nat) = fun _ => none := funext fun i => if_neg (Nat.not_lt_zero i)
    rw [e]
    exact hW
  have hW : WC D aC (AC h0 s.heap.size) KF_10 [(h0, .inr (9, [.ref q1, .ref q2, .ref q3, .int 0, .ref q4, .ref q5, .ref q6, .ref q7, .ref q8])), (q6, .inl (aC 6, 8, .inr (.inr (.inr (.inr (fun i => if i < 8 then some (adr i) else none))))))] ([(0, q1, L1, im3), (1, q2, L2, im3), (2, q3, L3, im3), (4, q4, L4, im6), (5, q5, L5, im1), (7, q7, L7, im8), (8, q8, L8, im4)] ++ (List.range 8).map (fun i => (1000 + i, adr i, Ls i, im5))) s H locs := hW
  obtain ⟨LA, hW⟩ := B_unpinQ (k := 6) (ca := 6000008) (ci := 4) (pre := [(h0, .inr (9, [.ref q1, .ref q2, .ref q3, .int 0, .ref q4, .ref q5, .ref q6, .ref q7, .ref q8]))]) (chs := [(0, q1, L1, im3), (1, q2, L2, im3), (2, q3, L3, im3), (4, q4, L4, im6), (5, q5, L5, im1), (7, q7, L7, im8), (8, q8, L8, im4)]) hW rfl (fun j hj => KFj_10 hj) (fun j => KFc_10 j) (fun _ _ => rfl)
  have hW : WC D aC (AC h0 s.heap.size) KF_10 [(h0, .inr (9, [.ref q1, .ref q2, .ref q3, .int 0, .ref q4, .ref q5, .ref q6, .ref q7, .ref q8]))] [(0, q1, L1, im3), (1, q2, L2, im3), (2, q3, L3, im3), (4, q4, L4, im6), (5, q5, L5, im1), (7, q7, L7, im8), (8, q8, L8, im4), (6, q6, LA, imA10)] s H locs := hW
  obtain ⟨_, ⟨_, _, hS⟩, _⟩ := id hW
  refine W.widen (k := 615) (n := 52827) (Nat.le_of_ble_eq_true rfl) (Nat.le_of_ble_eq_true rfl) ?_
  refine W.vret hx hb hr (fun t ht hWm => ⟨⟨(), rfl, trivial, B_end2 (N := 9) hW rfl rfl (fun k hk => if_pos hk) (show ∀ k ∈ ([0, 1, 2, 4, 5, 7, 8, 6] : List Nat), k < 1000 by decide) (show ∀ k, k < 9 → (chT 9 k).isSome = true → k ∈ ([0, 1, 2, 4, 5, 7, 8, 6] : List Nat) by decide +kernel) (show ([0, 1, 2, 4, 5, 7, 8, 6] : List Nat).Nodup by decide) (fun ads hads => ?_) (fun e he r => ?_) ht⟩, hS.F ht⟩) hS.2.2 dk10_122
  · have e0 : ads [0] = q1 := hads (0, q1, L1, im3) (List.mem_of_getElem? (i := 0) rfl)
    have e1 : ads [1] = q2 := hads (1, q2, L2, im3) (List.mem_of_getElem? (i := 1) rfl)
    have e2 : ads [2] = q3 := hads (2, q3, L3, im3) (List.mem_of_getElem? (i := 2) rfl)
    have e4 : ads [4] = q4 := hads (4, q4, L4, im6) (List.mem_of_getElem? (i := 3) rfl)
    have e5 : ads [5] = q5 := hads (5, q5, L5, im1) (List.mem_of_getElem? (i := 4) rfl)
    have e7 : ads [7] = q7 := hads (7, q7, L7, im8) (List.mem_of_getElem? (i := 5) rfl)
    have e8 : ads [8] = q8 := hads (8, q8, L8, im4) (List.mem_of_getElem? (i := 6) rfl)
    have e6 : ads [6] = q6 := hads (6, q6, LA, imA10) (List.mem_of_getElem? (i := 7) rfl)
    have e : cEl aC ads 9 [] im10 = Sum.inr (9, [.ref (ads [0]), .ref (ads [1]), .ref (ads [2]), .int 0, .ref (ads [4]), .ref (ads [5]), .ref (ads [6]), .ref (ads [7]), .ref (ads [8])]) := rfl
    rw [e, e0, e1, e2, e4, e5, e7, e8, e6]
  · simp only [List.mem_cons, List.not_mem_nil, or_false] at he
    rcases he with rfl | rfl | rfl | rfl | rfl | rfl | rfl | rfl <;> exact ⟨memN_1, memN_2⟩
end Ctor10
