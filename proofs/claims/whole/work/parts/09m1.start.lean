section Start1
variable {s : State} {args : Array Value}
theorem RA_int (h : (Cond.arrayClass .int).before args s = true) : ∃ cA : ClassId, ArrOfT s cA .int ∧ va_RA s cA .int := by
  obtain ⟨c, k, comp, h1, h2, h3⟩ := Cond.arrayClass_spec h
  exact ⟨c, fun n z => ⟨fun k h => (by cases h), k, h2, comp, h3⟩, h1⟩
theorem RA_boolean (h : (Cond.arrayClass .boolean).before args s = true) : ∃ cA : ClassId, ArrOfT s cA .boolean ∧ va_RA s cA .boolean := by
  obtain ⟨c, k, comp, h1, h2, h3⟩ := Cond.arrayClass_spec h
  exact ⟨c, fun n z => ⟨fun k h => (by cases h), k, h2, comp, h3⟩, h1⟩
theorem RA_byte (h : (Cond.arrayClass .byte).before args s = true) : ∃ cA : ClassId, ArrOfT s cA .byte ∧ va_RA s cA .byte := by
  obtain ⟨c, k, comp, h1, h2, h3⟩ := Cond.arrayClass_spec h
  exact ⟨c, fun n z => ⟨fun k h => (by cases h), k, h2, comp, h3⟩, h1⟩
theorem RA_long (h : (Cond.arrayClass .long).before args s = true) : ∃ cA : ClassId, ArrOfT s cA .long ∧ va_RA s cA .long := by
  obtain ⟨c, k, comp, h1, h2, h3⟩ := Cond.arrayClass_spec h
  exact ⟨c, fun n z => ⟨fun k h => (by cases h), k, h2, comp, h3⟩, h1⟩
theorem RA_obj {C : String} (h : (Cond.arrayOver (.object C)).before args s = true) : ∃ cA : ClassId, ArrOfT s cA (.object C) ∧ va_RA s cA (.object C) := by
  obtain ⟨comp, c, k, h1, h2, h3, h4, h5⟩ := Cond.arrayOver_spec h
  exact ⟨c, fun n z => ⟨fun k h => (by cases h), k, h3, comp, h4⟩, k, comp, h3, h4, h1, h5⟩
set_option maxRecDepth 100000 in
theorem K_start (hts : ∀ w ∈ lw_tbl, w.before args s = true) : ∃ (D : va_G) (aC : Nat → ClassId), va_K D vwCl (tysOf aC) s := by
  have hg : ∀ w ∈ lw_g, w.before args s = true := fun w hw => hts w (List.mem_filter.mp hw).1
  obtain ⟨c0, i0, k0⟩ := u_known (n := 19) hg uw_0 (hts (.instantiable RX0 19) (List.mem_of_getElem? (i := 201) (by decide +kernel)))
  obtain ⟨c1, i1, k1⟩ := u_known (n := 2) hg uw_1 (hts (.instantiable RX1 2) (List.mem_of_getElem? (i := 448) (by decide +kernel)))
  obtain ⟨c2, i2, k2⟩ := u_known (n := 16) hg uw_2 (hts (.instantiable RX3 16) (List.mem_of_getElem? (i := 123) (by decide +kernel)))
  obtain ⟨c3, i3, k3⟩ := u_known (n := 4) hg uw_3 (hts (.instantiable RX4 4) (List.mem_of_getElem? (i := 505) (by decide +kernel)))
  obtain ⟨c4, i4, k4⟩ := u_known (n := 5) hg uw_4 (hts (.instantiable RX5 5) (List.mem_of_getElem? (i := 524) (by decide +kernel)))
  obtain ⟨c5, i5, k5⟩ := u_known (n := 9) hg uw_5 (hts (.instantiable RX6 9) (List.mem_of_getElem? (i := 414) (by decide +kernel)))
  obtain ⟨c6, i6, k6⟩ := u_known (n := 3) hg uw_6 (hts (.instantiable RX7 3) (List.mem_of_getElem? (i := 207) (by decide +kernel)))
  obtain ⟨c7, i7, k7⟩ := u_known (n := 11) hg uw_7 (hts (.instantiable RX8 11) (List.mem_of_getElem? (i := 464) (by decide +kernel)))
  obtain ⟨c8, i8, k8⟩ := u_known (n := 13) hg uw_8 (hts (.instantiable RX9 13) (List.mem_of_getElem? (i := 129) (by decide +kernel)))
  obtain ⟨c9, i9, k9⟩ := u_known (n := 9) hg uw_9 (hts (.instantiable RX10 9) (List.mem_of_getElem? (i := 115) (by decide +kernel)))
  obtain ⟨c10, i10, k10⟩ := u_known (n := 59) hg uw_10 (hts (.instantiable RX11 59) (List.mem_of_getElem? (i := 1398) (by decide +kernel)))
  obtain ⟨a1, x1⟩ := RA_int (hts (.arrayClass .int) (List.mem_of_getElem? (i := 197) (by decide +kernel)))
  obtain ⟨a2, x2⟩ := RA_boolean (hts (.arrayClass .boolean) (List.mem_of_getElem? (i := 198) (by decide +kernel)))
  obtain ⟨a3, x3⟩ := RA_byte (hts (.arrayClass .byte) (List.mem_of_getElem? (i := 864) (by decide +kernel)))
  obtain ⟨a4, x4⟩ := RA_long (hts (.arrayClass .long) (List.mem_of_getElem? (i := 460) (by decide +kernel)))
  obtain ⟨a5, x5⟩ := RA_obj (hts (.arrayOver (.object "TentPlain$Body")) (List.mem_of_getElem? (i := 200) (by decide +kernel)))
  obtain ⟨a6, x6⟩ := RA_obj (hts (.arrayOver (.object "TentPlain$Shelf")) (List.mem_of_getElem? (i := 462) (by decide +kernel)))
  refine ⟨(fun k => [c0, c1, c2, c3, c4, c5, c6, c7, c8, c9, c10].getD k c0, fun k => [i0, i1, i2, i3, i4, i5, i6, i7, i8, i9, i10].getD k i0), fun k => [a1, a1, a2, a3, a4, a5, a6].getD k a1, fun k q hq => ?_, fun k q hq => ?_⟩
  · match k, hq with
    | 0, hq => cases hq; exact k0
    | 1, hq => cases hq; exact k1
    | 2, hq => cases hq; exact k2
    | 3, hq => cases hq; exact k3
    | 4, hq => cases hq; exact k4
    | 5, hq => cases hq; exact k5
    | 6, hq => cases hq; exact k6
    | 7, hq => cases hq; exact k7
    | 8, hq => cases hq; exact k8
    | 9, hq => cases hq; exact k9
    | 10, hq => cases hq; exact k10
    | k + 11, hq => cases hq
  · match k, hq with
    | 0, hq => cases hq; exact x1
    | 1, hq => cases hq; exact x2
    | 2, hq => cases hq; exact x3
    | 3, hq => cases hq; exact x4
    | 4, hq => cases hq; exact x5
    | 5, hq => cases hq; exact x6
    | k + 6, hq => cases hq
set_option maxRecDepth 100000 in
theorem NW_start (hts : ∀ w ∈ lw_tbl, w.before args s = true) : NW s := by
  refine ⟨fun w hw => ?_, va_AO.of (hts (.arrayOver (.object "TentPlain$Body")) (List.mem_of_getElem? (i := 200) (by decide +kernel))), va_AO.of (hts (.arrayOver (.object "TentPlain$Shelf")) (List.mem_of_getElem? (i := 462) (by decide +kernel)))⟩
  unfold NWs at hw
  simp only [List.mem_cons, List.not_mem_nil, or_false] at hw
  rcases hw with rfl | rfl | rfl | rfl | rfl | rfl | rfl | rfl | rfl
  · exact va_Nw.of rfl (hts _ (List.mem_of_getElem? (i := 130) (by decide +kernel)))
  · exact va_Nw.of rfl (hts _ (List.mem_of_getElem? (i := 202) (by decide +kernel)))
  · exact va_Nw.of rfl (hts _ (List.mem_of_getElem? (i := 208) (by decide +kernel)))
  · exact va_Nw.of rfl (hts _ (List.mem_of_getElem? (i := 415) (by decide +kernel)))
  · exact va_Nw.of rfl (hts _ (List.mem_of_getElem? (i := 449) (by decide +kernel)))
  · exact va_Nw.of rfl (hts _ (List.mem_of_getElem? (i := 465) (by decide +kernel)))
  · exact va_Nw.of rfl (hts _ (List.mem_of_getElem? (i := 506) (by decide +kernel)))
  · exact va_Nw.of rfl (hts _ (List.mem_of_getElem? (i := 525) (by decide +kernel)))
  · exact va_Nw.of rfl (hts _ (List.mem_of_getElem? (i := 530) (by decide +kernel)))
set_option maxRecDepth 100000 in
theorem ZS_start {A : Nat → Prop} (hts : ∀ w ∈ lw_tbl, w.before args s = true) (hgv : (Jvm.Cond.and given_1 narrow_1).before args s = true) (hA : ∀ a : Nat, a < s.heap.size → ¬ A a) : ∃ q9, ZS q9 A s s.heap := by
  have hs := flat_of_before _ hgv
  have h0 : ∀ i : Nat, i < 1 → i = 0 := fun i h => by omega
  obtain ⟨adK, adV, h1, h2⟩ := vk_Sof (args := args) (s := s) (N := 1) (tm := fun _ => .string "TentPlain$Texts" 77) (len := [12]) (byt := [zTx]) (A := A)
    (fun i hi => by rw [h0 i hi]; decide) (fun i hi => hs _ (by decide +kernel)) (fun i hi => hs _ (by decide +kernel)) (fun i hi => hs _ (by decide +kernel))
    (fun i hi => by rw [h0 i hi]; exact hs _ (by decide +kernel))
    (fun i hi j hj => by
      have hi0 := h0 i hi
      subst hi0
      have hj : j < 12 := hj
      match j, hj with
      | 0, _ => exact hs _ (by decide +kernel)
      | 1, _ => exact hs _ (by decide +kernel)
      | 2, _ => exact hs _ (by decide +kernel)
      | 3, _ => exact hs _ (by decide +kernel)
      | 4, _ => exact hs _ (by decide +kernel)
      | 5, _ => exact hs _ (by decide +kernel)
      | 6, _ => exact hs _ (by decide +kernel)
      | 7, _ => exact hs _ (by decide +kernel)
      | 8, _ => exact hs _ (by decide +kernel)
      | 9, _ => exact hs _ (by decide +kernel)
      | 10, _ => exact hs _ (by decide +kernel)
      | 11, _ => exact hs _ (by decide +kernel)
      | j + 12, h => exact absurd h (by omega))
    (fun i j hi hj hne => absurd ((h0 i hi).trans (h0 j hj).symm) hne) hA
  refine ⟨adK 0, vk_R.of (hts _ (List.mem_of_getElem? (i := 770) (by decide +kernel))) (h2 0 (by decide)), ⟨adV, fun i hi => ?_, fun i j hi hj _ => (h0 i hi).trans (h0 j hj).symm⟩, va_Zof (hts _ (List.mem_of_getElem? (i := 784) (by decide +kernel))) (hts _ (List.mem_of_getElem? (i := 101) (by decide +kernel))) (va_eqi (hs _ (by decide +kernel))) hA⟩
  have hi0 := h0 i hi
  subst hi0
  exact h1.1 0 (by decide)
end Start1
