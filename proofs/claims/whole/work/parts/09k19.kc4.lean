section Ctor4
set_option maxRecDepth 100000 in
set_option maxHeartbeats 4000000 in
theorem ct_4 (l : Launch) : MetC l yX4_init cX4_init 1 3 [.int 0, .int 0, .null, .null] im4 { frames := 1, cells := 2, slots := 10, locals := 12 } 2 10 := by
  intro D aC h0 sz
  refine Met.ofW (cc := cX4_init) (maxL := 1) (ret := none) (ws' := lw_g) (by decide) rfl ?_
  intro p e s m args below meth c s₁ B hml hv
  obtain ⟨rfl, hsz, hP, hK, hNW⟩ := hv
  have hx := B.exec
  have hb := B.bytes
  have hr := B.returns
  have hts0 := atoms_spec (ws := .code yX4_init cX4_init 1 none :: lw_g) B.pre
  have hts : ∀ w ∈ lw_g, w.before [Value.ref h0].toArray s = true := fun w hw => hts0 w (List.mem_cons_of_mem _ hw)
  have hown : s.vm.findClass RX4 = some m.cls := findClass_of_methodNamed B.named
  have hlocks := B.notSynchronized
  have hin : meth.name = "<init>" := (name_of_methodNamed B.named B.method).1
  subst hsz
  have F : CX p s m [Value.ref h0].toArray c D aC cX4_init 1 RX4 (AC h0 s.heap.size) := ⟨hx, hb, hml, hown, hts, hK, hNW, fun q h => Or.inr h⟩
  have hW : WC D aC (AC h0 s.heap.size) (chT 3) [(h0, .inr (3, [.int 0, .int 0, .null, .null]))] [] s s.heap [] := ⟨fun _ => .inr (0, []), ⟨hP, D_iff.mpr ⟨List.nodup_cons.mpr ⟨List.not_mem_nil, List.nodup_nil⟩, fun q hq => by rcases List.mem_singleton.mp hq with rfl; exact Or.inl rfl⟩, va_S.rf⟩, fun e he => absurd he List.not_mem_nil⟩
  have hl := lv_entry ([.ref h0]) (n := 1) (Nat.le_of_ble_eq_true rfl)
  rw [lg_entry_eq]
  generalize (lg_sl ([.ref h0]) ++ List.replicate (1 - (lg_sl ([.ref h0])).length) Slot.unset).toArray = ls at hl ⊢
  have hl : lv_has ls 1 [(0, .ref h0)] := hl
  refine lv_aload_n hx hb dk4_0 rfl (lv_at hl 0 rfl) ?_
  refine W.objInit hx hb hown (hts _ wK_509) (hts _ wK_120) (hts _ wK_121) rfl (by rw [hml]; exact hl.1) rfl dk4_1 (Nat.le_of_ble_eq_true rfl) (Nat.le_of_ble_eq_true rfl) ?_
  refine W.eq (g2 := F0 m 4 ls []) rfl ?_
  refine lv_aload_n hx hb dk4_4 rfl (lv_at hl 0 rfl) ?_
  refine lv_iconst (v := 0) hx hb dk4_5 (by decide) ?_
  refine B_put (T := TX4) (k := 0) (ty := .int) tyX4 F hW rfl uw_3 tyX4_ok nmX4 (by decide) rfl rfl wK_510 hin (by decide +kernel) rfl rfl (Nat.le_of_ble_eq_true rfl) dk4_6 (Or.inl rfl) (fun H locs hW => ?_)
  have hW : WC D aC (AC h0 s.heap.size) (chT 3) [(h0, .inr (3, [.int 0, .int 0, .null, .null]))] [] s H locs := hW
  refine lv_aload_n hx hb dk4_9 rfl (lv_at hl 0 rfl) ?_
  refine lv_iconst (v := 1) hx hb dk4_10 (by decide) ?_
  refine B_put (T := TX4) (k := 1) (ty := .int) tyX4 F hW rfl uw_3 tyX4_ok nmX4 (by decide) rfl rfl wK_511 hin (by decide +kernel) rfl rfl (Nat.le_of_ble_eq_true rfl) dk4_11 (Or.inl rfl) (fun H locs hW => ?_)
  have hW : WC D aC (AC h0 s.heap.size) (chT 3) [(h0, .inr (3, [.int 0, .int 1, .null, .null]))] [] s H locs := hW
  refine lv_aload_n hx hb dk4_14 rfl (lv_at hl 0 rfl) ?_
  refine lv_iconst (v := 5) hx hb dk4_15 (by decide) ?_
  refine B_newa (k := 2) (tg := 1000005) (kd := 1) (N := 5) (a0 := (5, .inl fun _ => 0)) (atype := .int) (ty := .int) F hW rfl (fun _ => rfl) rfl wK_197 rfl (fun _ => rfl) (fun _ => rfl) (by decide) (by decide +kernel) (Nat.le_of_ble_eq_true rfl) (Nat.le_of_ble_eq_true rfl) (Nat.le_of_ble_eq_true rfl) dk4_16 (fun q1 H hW => ?_)
  have hW : WC D aC (AC h0 s.heap.size) (chT 3) [(h0, .inr (3, [.int 0, .int 1, .null, .null]))] [(2, q1, [q1], zeroM)] s H _ := hW
  refine B_put (T := TX4) (k := 2) (ty := .array .int) tyX4 F hW rfl uw_3 tyX4_ok nmX4 (by decide) rfl rfl wK_512 hin (by decide +kernel) rfl rfl (Nat.le_of_ble_eq_true rfl) dk4_18 (Or.inl rfl) (fun H locs hW => ?_)
  have hW : WC D aC (AC h0 s.heap.size) (chT 3) [(h0, .inr (3, [.int 0, .int 1, .ref q1, .null]))] [(2, q1, [q1], zeroM)] s H locs := hW
  refine lv_aload_n hx hb dk4_21 rfl (lv_at hl 0 rfl) ?_
  refine lv_iconst (v := 5) hx hb dk4_22 (by decide) ?_
  refine B_newa (k := 3) (tg := 1000005) (kd := 1) (N := 5) (a0 := (5, .inl fun _ => 0)) (atype := .int) (ty := .int) F hW rfl (fun _ => rfl) rfl wK_197 rfl (fun _ => rfl) (fun _ => rfl) (by decide) (by decide +kernel) (Nat.le_of_ble_eq_true rfl) (Nat.le_of_ble_eq_true rfl) (Nat.le_of_ble_eq_true rfl) dk4_23 (fun q2 H hW => ?_)
  have hW : WC D aC (AC h0 s.heap.size) (chT 3) [(h0, .inr (3, [.int 0, .int 1, .ref q1, .null]))] [(2, q1, [q1], zeroM), (3, q2, [q2], zeroM)] s H _ := hW
  refine B_put (T := TX4) (k := 3) (ty := .array .int) tyX4 F hW rfl uw_3 tyX4_ok nmX4 (by decide) rfl rfl wK_513 hin (by decide +kernel) rfl rfl (Nat.le_of_ble_eq_true rfl) dk4_25 (Or.inl rfl) (fun H locs hW => ?_)
  have hW : WC D aC (AC h0 s.heap.size) (chT 3) [(h0, .inr (3, [.int 0, .int 1, .ref q1, .ref q2]))] [(2, q1, [q1], zeroM), (3, q2, [q2], zeroM)] s H locs := hW
  obtain ⟨_, ⟨_, _, hS⟩, _⟩ := id hW
  refine W.widen (k := 2) (n := 10) (Nat.le_of_ble_eq_true rfl) (Nat.le_of_ble_eq_true rfl) ?_
  refine W.vret hx hb hr (fun t ht hWm => ⟨⟨(), rfl, trivial, B_end2 (N := 4) hW rfl rfl (fun _ _ => rfl) (show ∀ k ∈ ([2, 3] : List Nat), k < 1000 by decide) (show ∀ k, k < 4 → (chT 3 k).isSome = true → k ∈ ([2, 3] : List Nat) by decide +kernel) (show ([2, 3] : List Nat).Nodup by decide) (fun ads hads => ?_) (fun e he r => ?_) ht⟩, hS.F ht⟩) hS.2.2 dk4_28
  · have e2 : ads [2] = q1 := hads (2, q1, [q1], zeroM) (List.mem_of_getElem? (i := 0) rfl)
    have e3 : ads [3] = q2 := hads (3, q2, [q2], zeroM) (List.mem_of_getElem? (i := 1) rfl)
    have e : cEl aC ads 3 [] im4 = Sum.inr (3, [.int 0, .int 1, .ref (ads [2]), .ref (ads [3])]) := rfl
    rw [e, e2, e3]
  · simp only [List.mem_cons, List.not_mem_nil, or_false] at he
    rcases he with rfl | rfl <;> exact ⟨memN_1, memN_2⟩
end Ctor4
