section Ctor9
set_option maxRecDepth 100000 in
set_option maxHeartbeats 4000000 in
theorem ct_9 (l : Launch) : MetC l yX9_init cX9_init 1 8 [.int 0, .null, .null, .null, .null, .null, .null, .null, .null, .null, .null, .int 0, .null] im9 { frames := 1, cells := 11, slots := 496, locals := 12 } 11 496 := by
  intro D aC h0 sz
  refine Met.ofW (cc := cX9_init) (maxL := 1) (ret := none) (ws' := lw_g) (by decide) rfl ?_
  intro p e s m args below meth c s₁ B hml hv
  obtain ⟨rfl, hsz, hP, hK, hNW⟩ := hv
  have hx := B.exec
  have hb := B.bytes
  have hr := B.returns
  have hts0 := atoms_spec (ws := .code yX9_init cX9_init 1 none :: lw_g) B.pre
  have hts : ∀ w ∈ lw_g, w.before [Value.ref h0].toArray s = true := fun w hw => hts0 w (List.mem_cons_of_mem _ hw)
  have hown : s.vm.findClass RX9 = some m.cls := findClass_of_methodNamed B.named
  have hlocks := B.notSynchronized
  have hin : meth.name = "<init>" := (name_of_methodNamed B.named B.method).1
  subst hsz
  have F : CX p s m [Value.ref h0].toArray c D aC cX9_init 1 RX9 (AC h0 s.heap.size) := ⟨hx, hb, hml, hown, hts, hK, hNW, fun q h => Or.inr h⟩
  have hW : WC D aC (AC h0 s.heap.size) (chT 8) [(h0, .inr (8, [.int 0, .null, .null, .null, .null, .null, .null, .null, .null, .null, .null, .int 0, .null]))] [] s s.heap [] := ⟨fun _ => .inr (0, []), ⟨hP, D_iff.mpr ⟨List.nodup_cons.mpr ⟨List.not_mem_nil, List.nodup_nil⟩, fun q hq => by rcases List.mem_singleton.mp hq with rfl; exact Or.inl rfl⟩, va_S.rf⟩, fun e he => absurd he List.not_mem_nil⟩
  have hl := lv_entry ([.ref h0]) (n := 1) (Nat.le_of_ble_eq_true rfl)
  rw [lg_entry_eq]
  generalize (lg_sl ([.ref h0]) ++ List.replicate (1 - (lg_sl ([.ref h0])).length) Slot.unset).toArray = ls at hl ⊢
  have hl : lv_has ls 1 [(0, .ref h0)] := hl
  refine lv_aload_n hx hb dk9_0 rfl (lv_at hl 0 rfl) ?_
  refine W.objInit hx hb hown (hts _ wK_133) (hts _ wK_120) (hts _ wK_121) rfl (by rw [hml]; exact hl.1) rfl dk9_1 (Nat.le_of_ble_eq_true rfl) (Nat.le_of_ble_eq_true rfl) ?_
  refine W.eq (g2 := F0 m 4 ls []) rfl ?_
  refine lv_aload_n hx hb dk9_4 rfl (lv_at hl 0 rfl) ?_
  refine lv_iconst (v := 0) hx hb dk9_5 (by decide) ?_
  refine B_put (T := TX9) (k := 0) (ty := .int) tyX9 F hW rfl uw_8 tyX9_ok nmX9 (by decide) rfl rfl wK_134 hin (by decide +kernel) rfl rfl (Nat.le_of_ble_eq_true rfl) dk9_6 (Or.inl rfl) (fun H locs hW => ?_)
  have hW : WC D aC (AC h0 s.heap.size) (chT 8) [(h0, .inr (8, [.int 0, .null, .null, .null, .null, .null, .null, .null, .null, .null, .null, .int 0, .null]))] [] s H locs := hW
  refine lv_aload_n hx hb dk9_9 rfl (lv_at hl 0 rfl) ?_
  refine lv_bipush (v := 24) hx hb dk9_10 (by decide) ?_
  refine B_newa (k := 1) (tg := 1000024) (kd := 1) (N := 24) (a0 := (24, .inl fun _ => 0)) (atype := .int) (ty := .int) F hW rfl (fun _ => rfl) rfl wK_197 rfl (fun _ => rfl) (fun _ => rfl) (by decide) (by decide +kernel) (Nat.le_of_ble_eq_true rfl) (Nat.le_of_ble_eq_true rfl) (Nat.le_of_ble_eq_true rfl) dk9_12 (fun q1 H hW => ?_)
  have hW : WC D aC (AC h0 s.heap.size) (chT 8) [(h0, .inr (8, [.int 0, .null, .null, .null, .null, .null, .null, .null, .null, .null, .null, .int 0, .null]))] [(1, q1, [q1], zeroM)] s H _ := hW
  refine B_put (T := TX9) (k := 1) (ty := .array .int) tyX9 F hW rfl uw_8 tyX9_ok nmX9 (by decide) rfl rfl wK_137 hin (by decide +kernel) rfl rfl (Nat.le_of_ble_eq_true rfl) dk9_14 (Or.inl rfl) (fun H locs hW => ?_)
  have hW : WC D aC (AC h0 s.heap.size) (chT 8) [(h0, .inr (8, [.int 0, .ref q1, .null, .null, .null, .null, .null, .null, .null, .null, .null, .int 0, .null]))] [(1, q1, [q1], zeroM)] s H locs := hW
  refine lv_aload_n hx hb dk9_17 rfl (lv_at hl 0 rfl) ?_
  refine lv_bipush (v := 24) hx hb dk9_18 (by decide) ?_
  refine B_newa (k := 2) (tg := 1000024) (kd := 1) (N := 24) (a0 := (24, .inl fun _ => 0)) (atype := .int) (ty := .int) F hW rfl (fun _ => rfl) rfl wK_197 rfl (fun _ => rfl) (fun _ => rfl) (by decide) (by decide +kernel) (Nat.le_of_ble_eq_true rfl) (Nat.le_of_ble_eq_true rfl) (Nat.le_of_ble_eq_true rfl) dk9_20 (fun q2 H hW => ?_)
  have hW : WC D aC (AC h0 s.heap.size) (chT 8) [(h0, .inr (8, [.int 0, .ref q1, .null, .null, .null, .null, .null, .null, .null, .null, .null, .int 0, .null]))] [(1, q1, [q1], zeroM), (2, q2, [q2], zeroM)] s H _ := hW
  refine B_put (T := TX9) (k := 2) (ty := .array .int) tyX9 F hW rfl uw_8 tyX9_ok nmX9 (by decide) rfl rfl wK_139 hin (by decide +kernel) rfl rfl (Nat.le_of_ble_eq_true rfl) dk9_22 (Or.inl rfl) (fun H locs hW => ?_)
  have hW : WC D aC (AC h0 s.heap.size) (chT 8) [(h0, .inr (8, [.int 0, .ref q1, .ref q2, .null, .null, .null, .null, .null, .null, .null, .null, .int 0, .null]))] [(1, q1, [q1], zeroM), (2, q2, [q2], zeroM)] s H locs := hW
  refine lv_aload_n hx hb dk9_25 rfl (lv_at hl 0 rfl) ?_
  refine lv_bipush (v := 24) hx hb dk9_26 (by decide) ?_
  refine B_newa (k := 3) (tg := 1000024) (kd := 1) (N := 24) (a0 := (24, .inl fun _ => 0)) (atype := .int) (ty := .int) F hW rfl (fun _ => rfl) rfl wK_197 rfl (fun _ => rfl) (fun _ => rfl) (by decide) (by decide +kernel) (Nat.le_of_ble_eq_true rfl) (Nat.le_of_ble_eq_true rfl) (Nat.le_of_ble_eq_true rfl) dk9_28 (fun q3 H hW => ?_)
  have hW : WC D aC (AC h0 s.heap.size) (chT 8) [(h0, .inr (8, [.int 0, .ref q1, .ref q2, .null, .null, .null, .null, .null, .null, .null, .null, .int 0, .null]))] [(1, q1, [q1], zeroM), (2, q2, [q2], zeroM), (3, q3, [q3], zeroM)] s H _ := hW
  refine B_put (T := TX9) (k := 3) (ty := .array .int) tyX9 F hW rfl uw_8 tyX9_ok nmX9 (by decide) rfl rfl wK_141 hin (by decide +kernel) rfl rfl (Nat.le_of_ble_eq_true rfl) dk9_30 (Or.inl rfl) (fun H locs hW => ?_)
  have hW : WC D aC (AC h0 s.heap.size) (chT 8) [(h0, .inr (8, [.int 0, .ref q1, .ref q2, .ref q3, .null, .null, .null, .null, .null, .null, .null, .int 0, .null]))] [(1, q1, [q1], zeroM), (2, q2, [q2], zeroM), (3, q3, [q3], zeroM)] s H locs := hW
  refine lv_aload_n hx hb dk9_33 rfl (lv_at hl 0 rfl) ?_
  refine lv_bipush (v := 24) hx hb dk9_34 (by decide) ?_
  refine B_newa (k := 4) (tg := 1000024) (kd := 1) (N := 24) (a0 := (24, .inl fun _ => 0)) (atype := .int) (ty := .int) F hW rfl (fun _ => rfl) rfl wK_197 rfl (fun _ => rfl) (fun _ => rfl) (by decide) (by decide +kernel) (Nat.le_of_ble_eq_true rfl) (Nat.le_of_ble_eq_true rfl) (Nat.le_of_ble_eq_true rfl) dk9_36 (fun q4 H hW => ?_)
  have hW : WC D aC (AC h0 s.heap.size) (chT 8) [(h0, .inr (8, [.int 0, .ref q1, .ref q2, .ref q3, .null, .null, .null, .null, .null, .null, .null, .int 0, .null]))] [(1, q1, [q1], zeroM), (2, q2, [q2], zeroM), (3, q3, [q3], zeroM), (4, q4, [q4], zeroM)] s H _ := hW
  refine B_put (T := TX9) (k := 4) (ty := .array .int) tyX9 F hW rfl uw_8 tyX9_ok nmX9 (by decide) rfl rfl wK_144 hin (by decide +kernel) rfl rfl (Nat.le_of_ble_eq_true rfl) dk9_38 (Or.inl rfl) (fun H locs hW => ?_)
  have hW : WC D aC (AC h0 s.heap.size) (chT 8) [(h0, .inr (8, [.int 0, .ref q1, .ref q2, .ref q3, .ref q4, .null, .null, .null, .null, .null, .null, .int 0, .null]))] [(1, q1, [q1], zeroM), (2, q2, [q2], zeroM), (3, q3, [q3], zeroM), (4, q4, [q4], zeroM)] s H locs := hW
  refine lv_aload_n hx hb dk9_41 rfl (lv_at hl 0 rfl) ?_
  refine lv_bipush (v := 24) hx hb dk9_42 (by decide) ?_
  refine B_newa (k := 5) (tg := 1000024) (kd := 1) (N := 24) (a0 := (24, .inl fun _ => 0)) (atype := .int) (ty := .int) F hW rfl (fun _ => rfl) rfl wK_197 rfl (fun _ => rfl) (fun _ => rfl) (by decide) (by decide +kernel) (Nat.le_of_ble_eq_true rfl) (Nat.le_of_ble_eq_true rfl) (Nat.le_of_ble_eq_true rfl) dk9_44 (fun q5 H hW => ?_)
  have hW : WC D aC (AC h0 s.heap.size) (chT 8) [(h0, .inr (8, [.int 0, .ref q1, .ref q2, .ref q3, .ref q4, .null, .null, .null, .null, .null, .null, .int 0, .null]))] [(1, q1, [q1], zeroM), (2, q2, [q2], zeroM), (3, q3, [q3], zeroM), (4, q4, [q4], zeroM), (5, q5, [q5], zeroM)] s H _ := hW
  refine B_put (T := TX9) (k := 5) (ty := .array .int) tyX9 F hW rfl uw_8 tyX9_ok nmX9 (by decide) rfl rfl wK_147 hin (by decide +kernel) rfl rfl (Nat.le_of_ble_eq_true rfl) dk9_46 (Or.inl rfl) (fun H locs hW => ?_)
  have hW : WC D aC (AC h0 s.heap.size) (chT 8) [(h0, .inr (8, [.int 0, .ref q1, .ref q2, .ref q3, .ref q4, .ref q5, .null, .null, .null, .null, .null, .int 0, .null]))] [(1, q1, [q1], zeroM), (2, q2, [q2], zeroM), (3, q3, [q3], zeroM), (4, q4, [q4], zeroM), (5, q5, [q5], zeroM)] s H locs := hW
  refine lv_aload_n hx hb dk9_49 rfl (lv_at hl 0 rfl) ?_
  refine lv_bipush (v := 24) hx hb dk9_50 (by decide) ?_
  refine B_newa (k := 6) (tg := 1000024) (kd := 1) (N := 24) (a0 := (24, .inl fun _ => 0)) (atype := .int) (ty := .int) F hW rfl (fun _ => rfl) rfl wK_197 rfl (fun _ => rfl) (fun _ => rfl) (by decide) (by decide +kernel) (Nat.le_of_ble_eq_true rfl) (Nat.le_of_ble_eq_true rfl) (Nat.le_of_ble_eq_true rfl) dk9_52 (fun q6 H hW => ?_)
  have hW : WC D aC (AC h0 s.heap.size) (chT 8) [(h0, .inr (8, [.int 0, .ref q1, .ref q2, .ref q3, .ref q4, .ref q5, .null, .null, .null, .null, .null, .int 0, .null]))] [(1, q1, [q1], zeroM), (2, q2, [q2], zeroM), (3, q3, [q3], zeroM), (4, q4, [q4], zeroM), (5, q5, [q5], zeroM), (6, q6, [q6], zeroM)] s H _ := hW
  refine B_put (T := TX9) (k := 6) (ty := .array .int) tyX9 F hW rfl uw_8 tyX9_ok nmX9 (by decide) rfl rfl wK_150 hin (by decide +kernel) rfl rfl (Nat.le_of_ble_eq_true rfl) dk9_54 (Or.inl rfl) (fun H locs hW => ?_)
  have hW : WC D aC (AC h0 s.heap.size) (chT 8) [(h0, .inr (8, [.int 0, .ref q1, .ref q2, .ref q3, .ref q4, .ref q5, .ref q6, .null, .null, .null, .null, .int 0, .null]))] [(1, q1, [q1], zeroM), (2, q2, [q2], zeroM), (3, q3, [q3], zeroM), (4, q4, [q4], zeroM), (5, q5, [q5], zeroM), (6, q6, [q6], zeroM)] s H locs := hW
  refine lv_aload_n hx hb dk9_57 rfl (lv_at hl 0 rfl) ?_
  refine lv_bipush (v := 24) hx hb dk9_58 (by decide) ?_
  refine B_newa (k := 7) (tg := 1000024) (kd := 1) (N := 24) (a0 := (24, .inl fun _ => 0)) (atype := .int) (ty := .int) F hW rfl (fun _ => rfl) rfl wK_197 rfl (fun _ => rfl) (fun _ => rfl) (by decide) (by decide +kernel) (Nat.le_of_ble_eq_true rfl) (Nat.le_of_ble_eq_true rfl) (Nat.le_of_ble_eq_true rfl) dk9_60 (fun q7 H hW => ?_)
  have hW : WC D aC (AC h0 s.heap.size) (chT 8) [(h0, .inr (8, [.int 0, .ref q1, .ref q2, .ref q3, .ref q4, .ref q5, .ref q6, .null, .null, .null, .null, .int 0, .null]))] [(1, q1, [q1], zeroM), (2, q2, [q2], zeroM), (3, q3, [q3], zeroM), (4, q4, [q4], zeroM), (5, q5, [q5], zeroM), (6, q6, [q6], zeroM), (7, q7, [q7], zeroM)] s H _ := hW
  refine B_put (T := TX9) (k := 7) (ty := .array .int) tyX9 F hW rfl uw_8 tyX9_ok nmX9 (by decide) rfl rfl wK_155 hin (by decide +kernel) rfl rfl (Nat.le_of_ble_eq_true rfl) dk9_62 (Or.inl rfl) (fun H locs hW => ?_)
  have hW : WC D aC (AC h0 s.heap.size) (chT 8) [(h0, .inr (8, [.int 0, .ref q1, .ref q2, .ref q3, .ref q4, .ref q5, .ref q6, .ref q7, .null, .null, .null, .int 0, .null]))] [(1, q1, [q1], zeroM), (2, q2, [q2], zeroM), (3, q3, [q3], zeroM), (4, q4, [q4], zeroM), (5, q5, [q5], zeroM), (6, q6, [q6], zeroM), (7, q7, [q7], zeroM)] s H locs := hW
  refine lv_aload_n hx hb dk9_65 rfl (lv_at hl 0 rfl) ?_
  refine lv_bipush (v := 24) hx hb dk9_66 (by decide) ?_
  refine B_newa (k := 8) (tg := 1000024) (kd := 1) (N := 24) (a0 := (24, .inl fun _ => 0)) (atype := .int) (ty := .int) F hW rfl (fun _ => rfl) rfl wK_197 rfl (fun _ => rfl) (fun _ => rfl) (by decide) (by decide +kernel) (Nat.le_of_ble_eq_true rfl) (Nat.le_of_ble_eq_true rfl) (Nat.le_of_ble_eq_true rfl) dk9_68 (fun q8 H hW => ?_)
  have hW : WC D aC (AC h0 s.heap.size) (chT 8) [(h0, .inr (8, [.int 0, .ref q1, .ref q2, .ref q3, .ref q4, .ref q5, .ref q6, .ref q7, .null, .null, .null, .int 0, .null]))] [(1, q1, [q1], zeroM), (2, q2, [q2], zeroM), (3, q3, [q3], zeroM), (4, q4, [q4], zeroM), (5, q5, [q5], zeroM), (6, q6, [q6], zeroM), (7, q7, [q7], zeroM), (8, q8, [q8], zeroM)] s H _ := hW
  refine B_put (T := TX9) (k := 8) (ty := .array .int) tyX9 F hW rfl uw_8 tyX9_ok nmX9 (by decide) rfl rfl wK_160 hin (by decide +kernel) rfl rfl (Nat.le_of_ble_eq_true rfl) dk9_70 (Or.inl rfl) (fun H locs hW => ?_)
  have hW : WC D aC (AC h0 s.heap.size) (chT 8) [(h0, .inr (8, [.int 0, .ref q1, .ref q2, .ref q3, .ref q4, .ref q5, .ref q6, .ref q7, .ref q8, .null, .null, .int 0, .null]))] [(1, q1, [q1], zeroM), (2, q2, [q2], zeroM), (3, q3, [q3], zeroM), (4, q4, [q4], zeroM), (5, q5, [q5], zeroM), (6, q6, [q6], zeroM), (7, q7, [q7], zeroM), (8, q8, [q8], zeroM)] s H locs := hW
  refine lv_aload_n hx hb dk9_73 rfl (lv_at hl 0 rfl) ?_
  refine lv_bipush (v := 24) hx hb dk9_74 (by decide) ?_
  refine B_newa (k := 9) (tg := 2000024) (kd := 2) (N := 24) (a0 := (24, .inl fun _ => 0)) (atype := .boolean) (ty := .boolean) F hW rfl (fun _ => rfl) rfl wK_198 rfl (fun _ => rfl) (fun _ => rfl) (by decide) (by decide +kernel) (Nat.le_of_ble_eq_true rfl) (Nat.le_of_ble_eq_true rfl) (Nat.le_of_ble_eq_true rfl) dk9_76 (fun q9 H hW => ?_)
  have hW : WC D aC (AC h0 s.heap.size) (chT 8) [(h0, .inr (8, [.int 0, .ref q1, .ref q2, .ref q3, .ref q4, .ref q5, .ref q6, .ref q7, .ref q8, .null, .null, .int 0, .null]))] [(1, q1, [q1], zeroM), (2, q2, [q2], zeroM), (3, q3, [q3], zeroM), (4, q4, [q4], zeroM), (5, q5, [q5], zeroM), (6, q6, [q6], zeroM), (7, q7, [q7], zeroM), (8, q8, [q8], zeroM), (9, q9, [q9], zeroM)] s H _ := hW
  refine B_put (T := TX9) (k := 9) (ty := .array .boolean) tyX9 F hW rfl uw_8 tyX9_ok nmX9 (by decide) rfl rfl wK_162 hin (by decide +kernel) rfl rfl (Nat.le_of_ble_eq_true rfl) dk9_78 (Or.inl rfl) (fun H locs hW => ?_)
  have hW : WC D aC (AC h0 s.heap.size) (chT 8) [(h0, .inr (8, [.int 0, .ref q1, .ref q2, .ref q3, .ref q4, .ref q5, .ref q6, .ref q7, .ref q8, .ref q9, .null, .int 0, .null]))] [(1, q1, [q1], zeroM), (2, q2, [q2], zeroM), (3, q3, [q3], zeroM), (4, q4, [q4], zeroM), (5, q5, [q5], zeroM), (6, q6, [q6], zeroM), (7, q7, [q7], zeroM), (8, q8, [q8], zeroM), (9, q9, [q9], zeroM)] s H locs := hW
  refine lv_aload_n hx hb dk9_81 rfl (lv_at hl 0 rfl) ?_
  refine lv_bipush (v := 24) hx hb dk9_82 (by decide) ?_
  refine B_newa (k := 10) (tg := 1000024) (kd := 1) (N := 24) (a0 := (24, .inl fun _ => 0)) (atype := .int) (ty := .int) F hW rfl (fun _ => rfl) rfl wK_197 rfl (fun _ => rfl) (fun _ => rfl) (by decide) (by decide +kernel) (Nat.le_of_ble_eq_true rfl) (Nat.le_of_ble_eq_true rfl) (Nat.le_of_ble_eq_true rfl) dk9_84 (fun q10 H hW => ?_)
  have hW : WC D aC (AC h0 s.heap.size) (chT 8) [(h0, .inr (8, [.int 0, .ref q1, .ref q2, .ref q3, .ref q4, .ref q5, .ref q6, .ref q7, .ref q8, .ref q9, .null, .int 0, .null]))] [(1, q1, [q1], zeroM), (2, q2, [q2], zeroM), (3, q3, [q3], zeroM), (4, q4, [q4], zeroM), (5, q5, [q5], zeroM), (6, q6, [q6], zeroM), (7, q7, [q7], zeroM), (8, q8, [q8], zeroM), (9, q9, [q9], zeroM), (10, q10, [q10], zeroM)] s H _ := hW
  refine B_put (T := TX9) (k := 10) (ty := .array .int) tyX9 F hW rfl uw_8 tyX9_ok nmX9 (by decide) rfl rfl wK_165 hin (by decide +kernel) rfl rfl (Nat.le_of_ble_eq_true rfl) dk9_86 (Or.inl rfl) (fun H locs hW => ?_)
  have hW : WC D aC (AC h0 s.heap.size) (chT 8) [(h0, .inr (8, [.int 0, .ref q1, .ref q2, .ref q3, .ref q4, .ref q5, .ref q6, .ref q7, .ref q8, .ref q9, .ref q10, .int 0, .null]))] [(1, q1, [q1], zeroM), (2, q2, [q2], zeroM), (3, q3, [q3], zeroM), (4, q4, [q4], zeroM), (5, q5, [q5], zeroM), (6, q6, [q6], zeroM), (7, q7, [q7], zeroM), (8, q8, [q8], zeroM), (9, q9, [q9], zeroM), (10, q10, [q10], zeroM)] s H locs := hW
  refine lv_aload_n hx hb dk9_89 rfl (lv_at hl 0 rfl) ?_
  refine lv_iconst (v := 0) hx hb dk9_90 (by decide) ?_
  refine B_put (T := TX9) (k := 11) (ty := .boolean) tyX9 F hW rfl uw_8 tyX9_ok nmX9 (by decide) rfl rfl wK_167 hin (by decide +kernel) rfl rfl (Nat.le_of_ble_eq_true rfl) dk9_91 (Or.inl rfl) (fun H locs hW => ?_)
  have hW : WC D aC (AC h0 s.heap.size) (chT 8) [(h0, .inr (8, [.int 0, .ref q1, .ref q2, .ref q3, .ref q4, .ref q5, .ref q6, .ref q7, .ref q8, .ref q9, .ref q10, .int 0, .null]))] [(1, q1, [q1], zeroM), (2, q2, [q2], zeroM), (3, q3, [q3], zeroM), (4, q4, [q4], zeroM), (5, q5, [q5], zeroM), (6, q6, [q6], zeroM), (7, q7, [q7], zeroM), (8, q8, [q8], zeroM), (9, q9, [q9], zeroM), (10, q10, [q10], zeroM)] s H locs := hW
  refine lv_aload_n hx hb dk9_94 rfl (lv_at hl 0 rfl) ?_
  refine lv_sipush (v := 256) hx hb dk9_95 (by decide) ?_
  refine B_newa (k := 12) (tg := 1000256) (kd := 1) (N := 256) (a0 := (256, .inl fun _ => 0)) (atype := .int) (ty := .int) F hW rfl (fun _ => rfl) rfl wK_197 rfl (fun _ => rfl) (fun _ => rfl) (by decide) (by decide +kernel) (Nat.le_of_ble_eq_true rfl) (Nat.le_of_ble_eq_true rfl) (Nat.le_of_ble_eq_true rfl) dk9_98 (fun q11 H hW => ?_)
  have hW : WC D aC (AC h0 s.heap.size) (chT 8) [(h0, .inr (8, [.int 0, .ref q1, .ref q2, .ref q3, .ref q4, .ref q5, .ref q6, .ref q7, .ref q8, .ref q9, .ref q10, .int 0, .null]))] [(1, q1, [q1], zeroM), (2, q2, [q2], zeroM), (3, q3, [q3], zeroM), (4, q4, [q4], zeroM), (5, q5, [q5], zeroM), (6, q6, [q6], zeroM), (7, q7, [q7], zeroM), (8, q8, [q8], zeroM), (9, q9, [q9], zeroM), (10, q10, [q10], zeroM), (12, q11, [q11], zeroM)] s H _ := hW
  refine B_put (T := TX9) (k := 12) (ty := .array .int) tyX9 F hW rfl uw_8 tyX9_ok nmX9 (by decide) rfl rfl wK_169 hin (by decide +kernel) rfl rfl (Nat.le_of_ble_eq_true rfl) dk9_100 (Or.inl rfl) (fun H locs hW => ?_)
  have hW : WC D aC (AC h0 s.heap.size) (chT 8) [(h0, .inr (8, [.int 0, .ref q1, .ref q2, .ref q3, .ref q4, .ref q5, .ref q6, .ref q7, .ref q8, .ref q9, .ref q10, .int 0, .ref q11]))] [(1, q1, [q1], zeroM), (2, q2, [q2], zeroM), (3, q3, [q3], zeroM), (4, q4, [q4], zeroM), (5, q5, [q5], zeroM), (6, q6, [q6], zeroM), (7, q7, [q7], zeroM), (8, q8, [q8], zeroM), (9, q9, [q9], zeroM), (10, q10, [q10], zeroM), (12, q11, [q11], zeroM)] s H locs := hW
  obtain ⟨_, ⟨_, _, hS⟩, _⟩ := id hW
  refine W.widen (k := 11) (n := 496) (Nat.le_of_ble_eq_true rfl) (Nat.le_of_ble_eq_true rfl) ?_
  refine W.vret hx hb hr (fun t ht hWm => ⟨⟨(), rfl, trivial, B_end2 (N := 13) hW rfl rfl (fun _ _ => rfl) (show ∀ k ∈ ([1, 2, 3, 4, 5, 6, 7, 8, 9, 10, 12] : List Nat), k < 1000 by decide) (show ∀ k, k < 13 → (chT 8 k).isSome = true → k ∈ ([1, 2, 3, 4, 5, 6, 7, 8, 9, 10, 12] : List Nat) by decide +kernel) (show ([1, 2, 3, 4, 5, 6, 7, 8, 9, 10, 12] : List Nat).Nodup by decide) (fun ads hads => ?_) (fun e he r => ?_) ht⟩, hS.F ht⟩) hS.2.2 dk9_103
  · have e1 : ads [1] = q1 := hads (1, q1, [q1], zeroM) (List.mem_of_getElem? (i := 0) rfl)
    have e2 : ads [2] = q2 := hads (2, q2, [q2], zeroM) (List.mem_of_getElem? (i := 1) rfl)
    have e3 : ads [3] = q3 := hads (3, q3, [q3], zeroM) (List.mem_of_getElem? (i := 2) rfl)
    have e4 : ads [4] = q4 := hads (4, q4, [q4], zeroM) (List.mem_of_getElem? (i := 3) rfl)
    have e5 : ads [5] = q5 := hads (5, q5, [q5], zeroM) (List.mem_of_getElem? (i := 4) rfl)
    have e6 : ads [6] = q6 := hads (6, q6, [q6], zeroM) (List.mem_of_getElem? (i := 5) rfl)
    have e7 : ads [7] = q7 := hads (7, q7, [q7], zeroM) (List.mem_of_getElem? (i := 6) rfl)
    have e8 : ads [8] = q8 := hads (8, q8, [q8], zeroM) (List.mem_of_getElem? (i := 7) rfl)
    have e9 : ads [9] = q9 := hads (9, q9, [q9], zeroM) (List.mem_of_getElem? (i := 8) rfl)
    have e10 : ads [10] = q10 := hads (10, q10, [q10], zeroM) (List.mem_of_getElem? (i := 9) rfl)
    have e12 : ads [12] = q11 := hads (12, q11, [q11], zeroM) (List.mem_of_getElem? (i := 10) rfl)
    have e : cEl aC ads 8 [] im9 = Sum.inr (8, [.int 0, .ref (ads [1]), .ref (ads [2]), .ref (ads [3]), .ref (ads [4]), .ref (ads [5]), .ref (ads [6]), .ref (ads [7]), .ref (ads [8]), .ref (ads [9]), .ref (ads [10]), .int 0, .ref (ads [12])]) := rfl
    rw [e, e1, e2, e3, e4, e5, e6, e7, e8, e9, e10, e12]
  · simp only [List.mem_cons, List.not_mem_nil, or_false] at he
    rcases he with rfl | rfl | rfl | rfl | rfl | rfl | rfl | rfl | rfl | rfl | rfl <;> exact ⟨memN_1, memN_2⟩
end Ctor9
