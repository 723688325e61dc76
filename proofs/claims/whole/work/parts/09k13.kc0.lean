section Ctor0
set_option maxRecDepth 100000 in
set_option maxHeartbeats 4000000 in
theorem ct_0 (l : Launch) : MetC l yX0_init cX0_init 1 0 [.int 0, .int 0, .int 0, .int 0, .int 0, .int 0, .int 0, .int 0, .int 0, .int 0, .int 0, .int 0, .int 0, .int 0, .int 0, .int 0, .int 0, .int 0, .null] im0 { frames := 2, cells := 3, slots := 19, locals := 32 } 3 19 := by
  intro D aC h0 sz
  refine Met.ofW (cc := cX0_init) (maxL := 1) (ret := none) (ws' := lw_g) (by decide) rfl ?_
  intro p e s m args below meth c s₁ B hml hv
  obtain ⟨rfl, hsz, hP, hK, hNW⟩ := hv
  have hx := B.exec
  have hb := B.bytes
  have hr := B.returns
  have hts0 := atoms_spec (ws := .code yX0_init cX0_init 1 none :: lw_g) B.pre
  have hts : ∀ w ∈ lw_g, w.before [Value.ref h0].toArray s = true := fun w hw => hts0 w (List.mem_cons_of_mem _ hw)
  have hown : s.vm.findClass RX0 = some m.cls := findClass_of_methodNamed B.named
  have hlocks := B.notSynchronized
  have hin : meth.name = "<init>" := (name_of_methodNamed B.named B.method).1
  subst hsz
  have F : CX p s m [Value.ref h0].toArray c D aC cX0_init 1 RX0 (AC h0 s.heap.size) := ⟨hx, hb, hml, hown, hts, hK, hNW, fun q h => Or.inr h⟩
  have hW : WC D aC (AC h0 s.heap.size) (chT 0) [(h0, .inr (0, [.int 0, .int 0, .int 0, .int 0, .int 0, .int 0, .int 0, .int 0, .int 0, .int 0, .int 0, .int 0, .int 0, .int 0, .int 0, .int 0, .int 0, .int 0, .null]))] [] s s.heap [] := ⟨fun _ => .inr (0, []), ⟨hP, D_iff.mpr ⟨List.nodup_cons.mpr ⟨List.not_mem_nil, List.nodup_nil⟩, fun q hq => by rcases List.mem_singleton.mp hq with rfl; exact Or.inl rfl⟩, va_S.rf⟩, fun e he => absurd he List.not_mem_nil⟩
  have hl := lv_entry ([.ref h0]) (n := 1) (Nat.le_of_ble_eq_true rfl)
  rw [lg_entry_eq]
  generalize (lg_sl ([.ref h0]) ++ List.replicate (1 - (lg_sl ([.ref h0])).length) Slot.unset).toArray = ls at hl ⊢
  have hl : lv_has ls 1 [(0, .ref h0)] := hl
  refine lv_aload_n hx hb dk0_0 rfl (lv_at hl 0 rfl) ?_
  refine W.objInit hx hb hown (hts _ wK_205) (hts _ wK_120) (hts _ wK_121) rfl (by rw [hml]; exact hl.1) rfl dk0_1 (Nat.le_of_ble_eq_true rfl) (Nat.le_of_ble_eq_true rfl) ?_
  refine W.eq (g2 := F0 m 4 ls []) rfl ?_
  refine lv_aload_n hx hb dk0_4 rfl (lv_at hl 0 rfl) ?_
  refine B_objN (k := 18) (ci := 6) (N := 3) (mL := 1) (C := RX7) (T := TX7) (fs := [.int 0, .null, .null]) (mem := im7) (y := yX7_init) tyX7 F hl.1 hW rfl rfl uw_6 tyX7_ok (by decide +kernel) wK_206 wK_207 wK_93 (ct_7 l) wK_210 rfl rfl rfl (List.mem_of_getElem? (i := 2) rfl) ⟨by decide, by decide, by decide +kernel⟩ rfl wK_209 ⟨(Nat.le_of_ble_eq_true rfl), (Nat.le_of_ble_eq_true rfl)⟩ (Nat.le_of_ble_eq_true rfl) (Nat.le_of_ble_eq_true rfl) (Nat.le_of_ble_eq_true rfl) dk0_5 dk0_8 dk0_9 (fun q1 L1 H locs hW => ?_)
  have hW : WC D aC (AC h0 s.heap.size) (chT 0) [(h0, .inr (0, [.int 0, .int 0, .int 0, .int 0, .int 0, .int 0, .int 0, .int 0, .int 0, .int 0, .int 0, .int 0, .int 0, .int 0, .int 0, .int 0, .int 0, .int 0, .null]))] [(18, q1, L1, im7)] s H locs := hW
  refine B_put (T := TX0) (k := 18) (ty := .object "TentPlain$Timetable") tyX0 F hW rfl uw_0 tyX0_ok nmX0 (by decide) rfl rfl wK_291 hin (by decide +kernel) rfl rfl (Nat.le_of_ble_eq_true rfl) dk0_12 (Or.inl rfl) (fun H locs hW => ?_)
  have hW : WC D aC (AC h0 s.heap.size) (chT 0) [(h0, .inr (0, [.int 0, .int 0, .int 0, .int 0, .int 0, .int 0, .int 0, .int 0, .int 0, .int 0, .int 0, .int 0, .int 0, .int 0, .int 0, .int 0, .int 0, .int 0, .ref q1]))] [(18, q1, L1, im7)] s H locs := hW
  obtain ⟨_, ⟨_, _, hS⟩, _⟩ := id hW
  refine W.widen (k := 3) (n := 19) (Nat.le_of_ble_eq_true rfl) (Nat.le_of_ble_eq_true rfl) ?_
  refine W.vret hx hb hr (fun t ht hWm => ⟨⟨(), rfl, trivial, B_end2 (N := 19) hW rfl rfl (fun _ _ => rfl) (show ∀ k ∈ ([18] : List Nat), k < 1000 by decide) (show ∀ k, k < 19 → (chT 0 k).isSome = true → k ∈ ([18] : List Nat) by decide +kernel) (show ([18] : List Nat).Nodup by decide) (fun ads hads => ?_) (fun e he r => ?_) ht⟩, hS.F ht⟩) hS.2.2 dk0_15
  · have e18 : ads [18] = q1 := hads (18, q1, L1, im7) (List.mem_of_getElem? (i := 0) rfl)
    have e : cEl aC ads 0 [] im0 = Sum.inr (0, [.int 0, .int 0, .int 0, .int 0, .int 0, .int 0, .int 0, .int 0, .int 0, .int 0, .int 0, .int 0, .int 0, .int 0, .int 0, .int 0, .int 0, .int 0, .ref (ads [18])]) := rfl
    rw [e, e18]
  · simp only [List.mem_cons, List.not_mem_nil, or_false] at he
    rcases he with rfl <;> exact ⟨memN_1, memN_2⟩
end Ctor0
