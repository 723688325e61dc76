section Ctor7
set_option maxRecDepth 100000 in
set_option maxHeartbeats 4000000 in
theorem ct_7 (l : Launch) : MetC l yX7_init cX7_init 1 6 [.int 0, .null, .null] im7 { frames := 1, cells := 2, slots := 16, locals := 12 } 2 16 := by
  intro D aC h0 sz
  refine Met.ofW (cc := cX7_init) (maxL := 1) (ret := none) (ws' := lw_g) (by decide) rfl ?_
  intro p e s m args below meth c s₁ B hml hv
  obtain ⟨rfl, hsz, hP, hK, hNW⟩ := hv
  have hx := B.exec
  have hb := B.bytes
  have hr := B.returns
  have hts0 := atoms_spec (ws := .code yX7_init cX7_init 1 none :: lw_g) B.pre
  have hts : ∀ w ∈ lw_g, w.before [Value.ref h0].toArray s = true := fun w hw => hts0 w (List.mem_cons_of_mem _ hw)
  have hown : s.vm.findClass RX7 = some m.cls := findClass_of_methodNamed B.named
  have hlocks := B.notSynchronized
  have hin : meth.name = "<init>" := (name_of_methodNamed B.named B.method).1
  subst hsz
  have F : CX p s m [Value.ref h0].toArray c D aC cX7_init 1 RX7 (AC h0 s.heap.size) := ⟨hx, hb, hml, hown, hts, hK, hNW, fun q h => Or.inr h⟩
  have hW : WC D aC (AC h0 s.heap.size) (chT 6) [(h0, .inr (6, [.int 0, .null, .null]))] [] s s.heap [] := ⟨fun _ => .inr (0, []), ⟨hP, D_iff.mpr ⟨List.nodup_cons.mpr ⟨List.not_mem_nil, List.nodup_nil⟩, fun q hq => by rcases List.mem_singleton.mp hq with rfl; exact Or.inl rfl⟩, va_S.rf⟩, fun e he => absurd he List.not_mem_nil⟩
  have hl := lv_entry ([.ref h0]) (n := 1) (Nat.le_of_ble_eq_true rfl)
  rw [lg_entry_eq]
  generalize (lg_sl ([.ref h0]) ++ List.replicate (1 - (lg_sl ([.ref h0])).length) Slot.unset).toArray = ls at hl ⊢
  have hl : lv_has ls 1 [(0, .ref h0)] := hl
  refine lv_aload_n hx hb dk7_0 rfl (lv_at hl 0 rfl) ?_
  refine W.objInit hx hb hown (hts _ wK_211) (hts _ wK_120) (hts _ wK_121) rfl (by rw [hml]; exact hl.1) rfl dk7_1 (Nat.le_of_ble_eq_true rfl) (Nat.le_of_ble_eq_true rfl) ?_
  refine W.eq (g2 := F0 m 4 ls []) rfl ?_
  refine lv_aload_n hx hb dk7_4 rfl (lv_at hl 0 rfl) ?_
  refine lv_iconst (v := 0) hx hb dk7_5 (by decide) ?_
  refine B_put (T := TX7) (k := 0) (ty := .int) tyX7 F hW rfl uw_6 tyX7_ok nmX7 (by decide) rfl rfl wK_212 hin (by decide +kernel) rfl rfl (Nat.le_of_ble_eq_true rfl) dk7_6 (Or.inl rfl) (fun H locs hW => ?_)
  have hW : WC D aC (AC h0 s.heap.size) (chT 6) [(h0, .inr (6, [.int 0, .null, .null]))] [] s H locs := hW
  refine lv_aload_n hx hb dk7_9 rfl (lv_at hl 0 rfl) ?_
  refine lv_bipush (v := 8) hx hb dk7_10 (by decide) ?_
  refine B_newa (k := 1) (tg := 1000008) (kd := 1) (N := 8) (a0 := (8, .inl fun _ => 0)) (atype := .int) (ty := .int) F hW rfl (fun _ => rfl) rfl wK_197 rfl (fun _ => rfl) (fun _ => rfl) (by decide) (by decide +kernel) (Nat.le_of_ble_eq_true rfl) (Nat.le_of_ble_eq_true rfl) (Nat.le_of_ble_eq_true rfl) dk7_12 (fun q1 H hW => ?_)
  have hW : WC D aC (AC h0 s.heap.size) (chT 6) [(h0, .inr (6, [.int 0, .null, .null]))] [(1, q1, [q1], zeroM)] s H _ := hW
  refine B_put (T := TX7) (k := 1) (ty := .array .int) tyX7 F hW rfl uw_6 tyX7_ok nmX7 (by decide) rfl rfl wK_215 hin (by decide +kernel) rfl rfl (Nat.le_of_ble_eq_true rfl) dk7_14 (Or.inl rfl) (fun H locs hW => ?_)
  have hW : WC D aC (AC h0 s.heap.size) (chT 6) [(h0, .inr (6, [.int 0, .ref q1, .null]))] [(1, q1, [q1], zeroM)] s H locs := hW
  refine lv_aload_n hx hb dk7_17 rfl (lv_at hl 0 rfl) ?_
  refine lv_bipush (v := 8) hx hb dk7_18 (by decide) ?_
  refine B_newa (k := 2) (tg := 1000008) (kd := 1) (N := 8) (a0 := (8, .inl fun _ => 0)) (atype := .int) (ty := .int) F hW rfl (fun _ => rfl) rfl wK_197 rfl (fun _ => rfl) (fun _ => rfl) (by decide) (by decide +kernel) (Nat.le_of_ble_eq_true rfl) (Nat.le_of_ble_eq_true rfl) (Nat.le_of_ble_eq_true rfl) dk7_20 (fun q2 H hW => ?_)
  have hW : WC D aC (AC h0 s.heap.size) (chT 6) [(h0, .inr (6, [.int 0, .ref q1, .null]))] [(1, q1, [q1], zeroM), (2, q2, [q2], zeroM)] s H _ := hW
  refine B_put (T := TX7) (k := 2) (ty := .array .int) tyX7 F hW rfl uw_6 tyX7_ok nmX7 (by decide) rfl rfl wK_217 hin (by decide +kernel) rfl rfl (Nat.le_of_ble_eq_true rfl) dk7_22 (Or.inl rfl) (fun H locs hW => ?_)
  have hW : WC D aC (AC h0 s.heap.size) (chT 6) [(h0, .inr (6, [.int 0, .ref q1, .ref q2]))] [(1, q1, [q1], zeroM), (2, q2, [q2], zeroM)] s H locs := hW
  obtain ⟨_, ⟨_, _, hS⟩, _⟩ := id hW
  refine W.widen (k := 2) (n := 16) (Nat.le_of_ble_eq_true rfl) (Nat.le_of_ble_eq_true rfl) ?_
  refine W.vret hx hb hr (fun t ht hWm => ⟨⟨(), rfl, trivial, B_end2 (N := 3) hW rfl rfl (fun _ _ => rfl) (show ∀ k ∈ ([1, 2] : List Nat), k < 1000 by decide) (show ∀ k, k < 3 → (chT 6 k).isSome = true → k ∈ ([1, 2] : List Nat) by decide +kernel) (show ([1, 2] : List Nat).Nodup by decide) (fun ads hads => ?_) (fun e he r => ?_) ht⟩, hS.F ht⟩) hS.2.2 dk7_25
  · have e1 : ads [1] = q1 := hads (1, q1, [q1], zeroM) (List.mem_of_getElem? (i := 0) rfl)
    have e2 : ads [2] = q2 := hads (2, q2, [q2], zeroM) (List.mem_of_getElem? (i := 1) rfl)
    have e : cEl aC ads 6 [] im7 = Sum.inr (6, [.int 0, .ref (ads [1]), .ref (ads [2])]) := rfl
    rw [e, e1, e2]
  · simp only [List.mem_cons, List.not_mem_nil, or_false] at he
    rcases he with rfl | rfl <;> exact ⟨memN_1, memN_2⟩
end Ctor7
