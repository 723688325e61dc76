section Ctor1
set_option maxRecDepth 100000 in
set_option maxHeartbeats 4000000 in
theorem ct_1 (l : Launch) : MetC l yX1_init cX1_init 1 1 [.null, .null] im1 { frames := 1, cells := 2, slots := 43200, locals := 12 } 2 43200 := by
  intro D aC h0 sz
  refine Met.ofW (cc := cX1_init) (maxL := 1) (ret := none) (ws' := lw_g) (by decide) rfl ?_
  intro p e s m args below meth c s₁ B hml hv
  obtain ⟨rfl, hsz, hP, hK, hNW⟩ := hv
  have hx := B.exec
  have hb := B.bytes
  have hr := B.returns
  have hts0 := atoms_spec (ws := .code yX1_init cX1_init 1 none :: lw_g) B.pre
  have hts : ∀ w ∈ lw_g, w.before [Value.ref h0].toArray s = true := fun w hw => hts0 w (List.mem_cons_of_mem _ hw)
  have hown : s.vm.findClass RX1 = some m.cls := findClass_of_methodNamed B.named
  have hlocks := B.notSynchronized
  have hin : meth.name = "<init>" := (name_of_methodNamed B.named B.method).1
  subst hsz
  have F : CX p s m [Value.ref h0].toArray c D aC cX1_init 1 RX1 (AC h0 s.heap.size) := ⟨hx, hb, hml, hown, hts, hK, hNW, fun q h => Or.inr h⟩
  have hW : WC D aC (AC h0 s.heap.size) (chT 1) [(h0, .inr (1, [.null, .null]))] [] s s.heap [] := ⟨fun _ => .inr (0, []), ⟨hP, D_iff.mpr ⟨List.nodup_cons.mpr ⟨List.not_mem_nil, List.nodup_nil⟩, fun q hq => by rcases List.mem_singleton.mp hq with rfl; exact Or.inl rfl⟩, va_S.rf⟩, fun e he => absurd he List.not_mem_nil⟩
  have hl := lv_entry ([.ref h0]) (n := 1) (Nat.le_of_ble_eq_true rfl)
  rw [lg_entry_eq]
  generalize (lg_sl ([.ref h0]) ++ List.replicate (1 - (lg_sl ([.ref h0])).length) Slot.unset).toArray = ls at hl ⊢
  have hl : lv_has ls 1 [(0, .ref h0)] := hl
  refine lv_aload_n hx hb dk1_0 rfl (lv_at hl 0 rfl) ?_
  refine W.objInit hx hb hown (hts _ wK_452) (hts _ wK_120) (hts _ wK_121) rfl (by rw [hml]; exact hl.1) rfl dk1_1 (Nat.le_of_ble_eq_true rfl) (Nat.le_of_ble_eq_true rfl) ?_
  refine W.eq (g2 := F0 m 4 ls []) rfl ?_
  refine lv_aload_n hx hb dk1_4 rfl (lv_at hl 0 rfl) ?_
  refine lv_sipush (v := 21600) hx hb dk1_5 (by decide) ?_
  refine B_newa (k := 0) (tg := 1021600) (kd := 1) (N := 21600) (a0 := (21600, .inl fun _ => 0)) (atype := .int) (ty := .int) F hW rfl (fun _ => rfl) rfl wK_197 rfl (fun _ => rfl) (fun _ => rfl) (by decide) (by decide +kernel) (Nat.le_of_ble_eq_true rfl) (Nat.le_of_ble_eq_true rfl) (Nat.le_of_ble_eq_true rfl) dk1_8 (fun q1 H hW => ?_)
  have hW : WC D aC (AC h0 s.heap.size) (chT 1) [(h0, .inr (1, [.null, .null]))] [(0, q1, [q1], zeroM)] s H _ := hW
  refine B_put (T := TX1) (k := 0) (ty := .array .int) tyX1 F hW rfl uw_1 tyX1_ok nmX1 (by decide) rfl rfl wK_453 hin (by decide +kernel) rfl rfl (Nat.le_of_ble_eq_true rfl) dk1_10 (Or.inl rfl) (fun H locs hW => ?_)
  have hW : WC D aC (AC h0 s.heap.size) (chT 1) [(h0, .inr (1, [.ref q1, .null]))] [(0, q1, [q1], zeroM)] s H locs := hW
  refine lv_aload_n hx hb dk1_13 rfl (lv_at hl 0 rfl) ?_
  refine lv_sipush (v := 21600) hx hb dk1_14 (by decide) ?_
  refine B_newa (k := 1) (tg := 4021600) (kd := 4) (N := 21600) (a0 := (21600, .inr (.inl fun _ => 0))) (atype := .long) (ty := .long) F hW rfl (fun _ => rfl) rfl wK_460 rfl (fun _ => rfl) (fun _ => rfl) (by decide) (by decide +kernel) (Nat.le_of_ble_eq_true rfl) (Nat.le_of_ble_eq_true rfl) (Nat.le_of_ble_eq_true rfl) dk1_17 (fun q2 H hW => ?_)
  have hW : WC D aC (AC h0 s.heap.size) (chT 1) [(h0, .inr (1, [.ref q1, .null]))] [(0, q1, [q1], zeroM), (1, q2, [q2], zeroM)] s H _ := hW
  refine B_put (T := TX1) (k := 1) (ty := .array .long) tyX1 F hW rfl uw_1 tyX1_ok nmX1 (by decide) rfl rfl wK_454 hin (by decide +kernel) rfl rfl (Nat.le_of_ble_eq_true rfl) dk1_19 (Or.inl rfl) (fun H locs hW => ?_)
  have hW : WC D aC (AC h0 s.heap.size) (chT 1) [(h0, .inr (1, [.ref q1, .ref q2]))] [(0, q1, [q1], zeroM), (1, q2, [q2], zeroM)] s H locs := hW
  obtain ⟨_, ⟨_, _, hS⟩, _⟩ := id hW
  refine W.widen (k := 2) (n := 43200) (Nat.le_of_ble_eq_true rfl) (Nat.le_of_ble_eq_true rfl) ?_
  refine W.vret hx hb hr (fun t ht hWm => ⟨⟨(), rfl, trivial, B_end2 (N := 2) hW rfl rfl (fun _ _ => rfl) (show ∀ k ∈ ([0, 1] : List Nat), k < 1000 by decide) (show ∀ k, k < 2 → (chT 1 k).isSome = true → k ∈ ([0, 1] : List Nat) by decide +kernel) (show ([0, 1] : List Nat).Nodup by decide) (fun ads hads => ?_) (fun e he r => ?_) ht⟩, hS.F ht⟩) hS.2.2 dk1_22
  · have e0 : ads [0] = q1 := hads (0, q1, [q1], zeroM) (List.mem_of_getElem? (i := 0) rfl)
    have e1 : ads [1] = q2 := hads (1, q2, [q2], zeroM) (List.mem_of_getElem? (i := 1) rfl)
    have e : cEl aC ads 1 [] im1 = Sum.inr (1, [.ref (ads [0]), .ref (ads [1])]) := rfl
    rw [e, e0, e1]
  · simp only [List.mem_cons, List.not_mem_nil, or_false] at he
    rcases he with rfl | rfl <;> exact ⟨memN_1, memN_2⟩
end Ctor1
