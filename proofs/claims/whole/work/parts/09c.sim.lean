/-! THE SMALL MACHINE STANDS FOR THE REAL ONE: switches, the JDK's members, the whole step -/
theorem swT_inv {pc : Nat} : ∀ {l : List Int} {ts : List Nat}, swT pc l = some ts → ts.length = l.length ∧ ∀ (j t : Nat), ts[j]? = some t → ∃ off, l[j]? = some off ∧ (pc : Int) + off = (t : Int)
  | [], ts, h => by cases h; exact ⟨rfl, fun j t h => by simp at h⟩
  | o :: r, ts, h => by
    unfold swT at h
    split at h
    · next t us ht hu =>
      cases h
      obtain ⟨h1, h2⟩ := swT_inv hu
      refine ⟨by simp [h1], fun j t' hj => ?_⟩
      cases j with
      | zero => cases hj; exact ⟨o, rfl, jmp_inv ht⟩
      | succ j => exact h2 j t' hj
    · cases h
theorem swL_inv {α : Type} {v : Int32} {ls : List (Option mV)} {st : List mV} {mem : mM} {d : Nat} {k : mS → Option α} {r : α} : ∀ {ts : List Nat} {k0 : Nat}, alt (swL v k0 ts ls st mem d) k = some r →
    (∃ j t, ts[j]? = some t ∧ v = Int32.ofNat (k0 + j) ∧ k (t, ls, st, mem) = some r) ∨ ((∀ j, j < ts.length → v ≠ Int32.ofNat (k0 + j)) ∧ k (d, ls, st, mem) = some r)
  | [], k0, h => Or.inr ⟨fun j hj => absurd hj (Nat.not_lt_zero j), h⟩
  | t :: ts, k0, h => by
    unfold swL alt at h
    by_cases hv : v = Int32.ofNat k0
    · rw [show cmpS .eq v (Int32.ofNat k0) = true by rw [cmpS_eq]; exact decide_eq_true hv] at h
      exact Or.inl ⟨0, t, rfl, hv, h⟩
    · rw [show cmpS .eq v (Int32.ofNat k0) = false by rw [cmpS_eq]; exact decide_eq_false hv] at h
      rcases swL_inv (ts := ts) (k0 := k0 + 1) h with ⟨j, t', h1, h2, h3⟩ | ⟨h1, h2⟩
      · exact Or.inl ⟨j + 1, t', h1, by rw [h2]; congr 1; omega, h3⟩
      · refine Or.inr ⟨fun j hj => ?_, h2⟩
        cases j with
        | zero => exact hv
        | succ j =>
          have := h1 j (by simp at hj; omega)
          rw [show k0 + (j + 1) = k0 + 1 + j by omega]
          exact this
theorem lkT_inv {pc : Nat} : ∀ {l : List (Int × Int)} {ts : List (Int × Nat)}, lkT pc l = some ts → (∀ q ∈ l, q.1.natAbs ≤ 32767) → ∀ (d : Int) (dt : Nat) (v : Int32) {α : Type} {ls : List (Option mV)} {st : List mV} {mem : mM} {k : mS → Option α} {r : α}, (pc : Int) + d = (dt : Int) → alt (lkL v ts ls st mem dt) k = some r → ∃ t : Nat, (pc : Int) + Op.lookupswitch.offset l d v.toInt = (t : Int) ∧ k (t, ls, st, mem) = some r
  | [], ts, h, _, d, dt, v, _, _, _, _, _, _, hd, hk => by cases h; exact ⟨dt, hd, hk⟩
  | (a, o) :: l, ts, h, hall, d, dt, v, _, _, _, _, _, _, hd, hk => by
    unfold lkT at h
    split at h
    · next t us ht hu =>
      cases h
      rw [Op.lookupswitch.offset_cons]
      unfold lkL alt at hk
      by_cases hv : v.toInt = a
      · rw [show cmpS .eq v (cI a) = true by rw [cmpS_eq]; exact decide_eq_true (by rw [← Int32.toInt_inj, cI_toInt (hall _ List.mem_cons_self)]; exact hv)] at hk
        exact ⟨t, by rw [if_pos hv.symm]; exact jmp_inv ht, hk⟩
      · rw [show cmpS .eq v (cI a) = false by rw [cmpS_eq]; exact decide_eq_false (by rw [← Int32.toInt_inj, cI_toInt (hall _ List.mem_cons_self)]; exact hv)] at hk
        rw [if_neg (fun q => hv q.symm)]
        exact lkT_inv hu (fun q hq => hall q (List.mem_cons_of_mem _ hq)) d dt v hd hk
    · cases h
section Sim
variable {p : Program} {l : Launch} {e : Env} {R : Room} {s : State} {m : MethodId} {args : Array Value} {below : List Frame} {meth : Method} {c : Code} {Q : State → Prop}
variable {D : va_G} {aC : Nat → ClassId} {ads : List Nat → Nat} {pth : Nat → List Nat} {LL : List Nat} {A : Nat → Prop} {L : Nat} {xs : Nat → Int32} {b0 q9 mi : Nat} {cf sf : Nat → Nat}
variable {α : Type} {pc : Nat} {ls : List (Option mV)} {st : List mV} {mem : mM} {al : List (Bool × mS)} {k : mS → Option α} {r : α}
theorem si_tableswitch (F : Fx p s m args c D aC ads pth LL A L xs b0 q9 mi) {fa fb fc : Nat} {dflt lo hi : Int} {offs : Array Int} {len : Nat} (hd : decode (mBy.getD mi code) pc = .ok (.tableswitch dflt lo hi offs, len)) (hr : rsB (kOw mi) (pc, .tableswitch dflt lo hi offs, len, fa, fb, fc) = true) (h : isem L xs mi pc len (.tableswitch dflt lo hi offs) fa fb fc ls st mem = some (.inl al)) (hk : alt al k = some r) (ih : ∀ s', k s' = some r → WA p l e R s m args below meth c Q D aC ads pth LL A mi cf sf s') : WA p l e R s m args below meth c Q D aC ads pth LL A mi cf sf (pc, ls, st, mem) := by
  obtain ⟨hx, hb, hml, hown, hts, hK, hE, ⟨hX, hbl, hbA, hb3⟩, ⟨hZ, hq9⟩⟩ := F
  obtain ⟨v, u1, st, rfl, hu1, h⟩ := pI_inv h
  cases lo with
  | negSucc j => cases h
  | ofNat lo =>
    have h : (bif decide ((offs.size : Int) = hi - (lo : Int) + 1) && Nat.ble (lo + offs.size) 2147483647 then
            (match jmp pc dflt, swT pc offs.toList with
            | some t, some ts => (some (.inl (swL v lo ts ls st mem t)) : Option mO)
            | _, _ => none) else none) = (some (.inl al) : Option mO) := h
    obtain ⟨hg, h⟩ := bif_inv h
    simp only [Bool.and_eq_true, decide_eq_true_eq] at hg
    obtain ⟨g1, g2⟩ := hg
    have g2 := Nat.le_of_ble_eq_true g2
    split at h
    · next t ts ht hsw =>
      cases h
      obtain ⟨e1, e2⟩ := swT_inv hsw
      intro rl H locs ⟨hl, hn, okl, oks, hP, hD, hS⟩
      have oks2 := (List.forall_mem_cons.mp oks).2
      simp only [List.map_cons, hu1 ads]
      rcases swL_inv hk with ⟨j, t', h1, h2, h3⟩ | ⟨h1, h2⟩
      · obtain ⟨off, f1, f2⟩ := e2 j t' h1
        have hj : j < offs.size := by have := (List.getElem?_eq_some_iff.mp f1).1; simpa using this
        have hv : v.toInt = ((lo + j : Nat) : Int) := by rw [h2]; exact toInt_of rfl (by omega)
        refine lv_tableIn (off := off) (tgt := t') hx hb hd (by show ¬ v.toInt < Int.ofNat lo; rw [hv]; show ¬ ((lo + j : Nat) : Int) < (lo : Int); omega) (by rw [hv]; omega) ?_ f2 ?_
        · rw [hv, show (((lo + j : Nat) : Int) - Int.ofNat lo).toNat = j by show (((lo + j : Nat) : Int) - (lo : Int)).toNat = j; omega, ← Array.getElem?_toList]
          exact f1
        · exact ih _ h3 rl H locs ⟨hl, hn, okl, oks2, hP, hD, hS⟩
      · refine lv_tableOut (tgt := t) hx hb hd ?_ (jmp_inv ht) ?_
        · rcases Int.lt_or_le v.toInt (Int.ofNat lo) with q | q
          · exact Or.inl q
          · right
            rcases Int.lt_or_le hi v.toInt with q2 | q2
            · exact q2
            · exfalso
              have q : (lo : Int) ≤ v.toInt := q
              have hlen : ts.length = offs.size := by rw [e1]; simp
              refine h1 (v.toInt - lo).toNat (by omega) ?_
              rw [← Int32.toInt_inj]
              rw [show (Int32.ofNat (lo + (v.toInt - lo).toNat)).toInt = ((lo + (v.toInt - lo).toNat : Nat) : Int) from toInt_of rfl (by omega)]
              omega
        · exact ih _ h2 rl H locs ⟨hl, hn, okl, oks2, hP, hD, hS⟩
    · cases h
theorem si_lookupswitch (F : Fx p s m args c D aC ads pth LL A L xs b0 q9 mi) {fa fb fc : Nat} {dflt : Int} {ps : Array (Int × Int)} {len : Nat} (hd : decode (mBy.getD mi code) pc = .ok (.lookupswitch dflt ps, len)) (hr : rsB (kOw mi) (pc, .lookupswitch dflt ps, len, fa, fb, fc) = true) (h : isem L xs mi pc len (.lookupswitch dflt ps) fa fb fc ls st mem = some (.inl al)) (hk : alt al k = some r) (ih : ∀ s', k s' = some r → WA p l e R s m args below meth c Q D aC ads pth LL A mi cf sf s') : WA p l e R s m args below meth c Q D aC ads pth LL A mi cf sf (pc, ls, st, mem) := by
  obtain ⟨hx, hb, hml, hown, hts, hK, hE, ⟨hX, hbl, hbA, hb3⟩, ⟨hZ, hq9⟩⟩ := F
  obtain ⟨v, u1, st, rfl, hu1, h⟩ := pI_inv h
  obtain ⟨hg, h⟩ := bif_inv h
  obtain ⟨hg, hall⟩ := (Bool.and_eq_true _ _ ▸ hg : _ ∧ _)
  have hall := List.all_eq_true.mp hall
  split at h
  · next t ts ht hsw =>
    cases h
    intro rl H locs ⟨hl, hn, okl, oks, hP, hD, hS⟩
    have oks2 := (List.forall_mem_cons.mp oks).2
    simp only [List.map_cons, hu1 ads]
    obtain ⟨t', h1, h2⟩ := lkT_inv hsw (fun q hq => Nat.le_of_ble_eq_true (hall q hq)) dflt t v (jmp_inv ht) hk
    refine lv_lookup hx hb hd hg rfl h1 ?_
    exact ih _ h2 rl H locs ⟨hl, hn, okl, oks2, hP, hD, hS⟩
  · cases h
theorem si_arraylength (F : Fx p s m args c D aC ads pth LL A L xs b0 q9 mi) {fa fb fc : Nat}  (hd : decode (mBy.getD mi code) pc = .ok (.arraylength, 1)) (hr : rsB (kOw mi) (pc, .arraylength, 1, fa, fb, fc) = true) (h : isem L xs mi pc 1 (.arraylength) fa fb fc ls st mem = some (.inl al)) (hk : alt al k = some r) (ih : ∀ s', k s' = some r → WA p l e R s m args below meth c Q D aC ads pth LL A mi cf sf s') : WA p l e R s m args below meth c Q D aC ads pth LL A mi cf sf (pc, ls, st, mem) := by
  obtain ⟨hx, hb, hml, hown, hts, hK, hE, ⟨hX, hbl, hbA, hb3⟩, ⟨hZ, hq9⟩⟩ := F
  unfold isem at h
  dsimp only at h
  obtain ⟨cc, q, st, rfl, h1⟩ := pR_inv h
  clear h
  have h := h1
  clear h1
  cases hb1 : Nat.beq (tgK cc) 7 with
  | true =>
    rw [hb1, cond_true] at h
    have hk7 := Nat.eq_of_beq_eq_true hb1
    have hk := gO_inv h hk
    intro rl H locs ⟨hl, hn, okl, oks, hP, hD, hS⟩
    obtain ⟨o1, o2⟩ := List.forall_mem_cons.mp oks
    have hq : q = [3] := by
      rcases o1 with h9 | ⟨-, h9⟩ | ⟨h9, -⟩
      · have := tag_kind h9; omega
      · exact h9
      · subst h9; exact absurd hk7 (by decide)
    subst hq
    refine W.eq (g2 := F0 m pc rl (.ref b0 :: st.map (rV ads))) (by show F0 m pc rl (.ref (ads [3]) :: _) = _; rw [hb3]) ?_
    refine va_slen hx hb hX hbl hbA hS hd ?_
    exact ih _ hk rl H locs ⟨hl, hn, okl, List.forall_mem_cons.mpr ⟨trivial, o2⟩, hP, hD, hS⟩
  | false =>
    rw [hb1, cond_false] at h
    obtain ⟨hg, h⟩ := bif_inv h
    simp only [Bool.and_eq_true, Nat.blt_eq] at hg
    have hk := gO_inv h hk
    intro rl H locs ⟨hl, hn, okl, oks, hP, hD, hS⟩
    obtain ⟨o1, o2⟩ := List.forall_mem_cons.mp oks
    have htag := okA (n := tgK cc) o1 rfl (by omega) (by omega)
    obtain ⟨kp, hkp⟩ := wd_at (aC := aC) hE htag mem
    have hcel : ∃ f, cEl aC ads cc q mem = .inl (aC (tgK cc), tgN cc, f) := by
      unfold cEl
      rw [if_neg (by omega)]
      exact ⟨_, rfl⟩
    obtain ⟨f, hcel⟩ := hcel
    rw [hcel] at hkp
    have hty : ∃ ty, (tysOf aC)[tgK cc - 1]? = some (aC (tgK cc), ty) := by
      obtain ⟨g1, g2⟩ := hg
      rcases (show tgK cc = 1 ∨ tgK cc = 2 ∨ tgK cc = 3 ∨ tgK cc = 4 ∨ tgK cc = 5 ∨ tgK cc = 6 by omega) with z | z | z | z | z | z <;> rw [z] <;> exact ⟨_, rfl⟩
    obtain ⟨ty, hty⟩ := hty
    refine va_alen (x := (tgN cc, f)) hx hb hK hP kp (tgK cc - 1) hkp hty rfl hd ?_
    exact ih _ hk rl H locs ⟨hl, hn, okl, List.forall_mem_cons.mpr ⟨trivial, o2⟩, hP, hD, hS⟩
def iNm (j : Nat) : MethodName := if j = 900 then Lib.Math.max.name else if j = 901 then Lib.Math.min.name else arraycopyName
set_option maxRecDepth 100000 in
theorem iIn_0 : ∀ w ∈ ((iRs.getD 0 []).filter (fun q => Nat.ble q.2 902)).map (fun q => Cond.methodLink (cN 0) q.1 (iNm q.2)), w ∈ lw_tbl := mem_of_places (ps := []) (by decide +kernel)
set_option maxRecDepth 100000 in
theorem iIn_1 : ∀ w ∈ ((iRs.getD 1 []).filter (fun q => Nat.ble q.2 902)).map (fun q => Cond.methodLink (cN 1) q.1 (iNm q.2)), w ∈ lw_tbl := mem_of_places (ps := [1064]) (by decide +kernel)
set_option maxRecDepth 100000 in
theorem iIn_2 : ∀ w ∈ ((iRs.getD 2 []).filter (fun q => Nat.ble q.2 902)).map (fun q => Cond.methodLink (cN 2) q.1 (iNm q.2)), w ∈ lw_tbl := mem_of_places (ps := [940, 960, 991]) (by decide +kernel)
set_option maxRecDepth 100000 in
theorem iIn_3 : ∀ w ∈ ((iRs.getD 3 []).filter (fun q => Nat.ble q.2 902)).map (fun q => Cond.methodLink (cN 3) q.1 (iNm q.2)), w ∈ lw_tbl := mem_of_places (ps := [1183]) (by decide +kernel)
set_option maxRecDepth 100000 in
theorem iIn_4 : ∀ w ∈ ((iRs.getD 4 []).filter (fun q => Nat.ble q.2 902)).map (fun q => Cond.methodLink (cN 4) q.1 (iNm q.2)), w ∈ lw_tbl := mem_of_places (ps := [1157]) (by decide +kernel)
set_option maxRecDepth 100000 in
theorem iIn_5 : ∀ w ∈ ((iRs.getD 5 []).filter (fun q => Nat.ble q.2 902)).map (fun q => Cond.methodLink (cN 5) q.1 (iNm q.2)), w ∈ lw_tbl := mem_of_places (ps := []) (by decide +kernel)
set_option maxRecDepth 100000 in
theorem iIn_6 : ∀ w ∈ ((iRs.getD 6 []).filter (fun q => Nat.ble q.2 902)).map (fun q => Cond.methodLink (cN 6) q.1 (iNm q.2)), w ∈ lw_tbl := mem_of_places (ps := [739]) (by decide +kernel)
set_option maxRecDepth 100000 in
theorem iIn_7 : ∀ w ∈ ((iRs.getD 7 []).filter (fun q => Nat.ble q.2 902)).map (fun q => Cond.methodLink (cN 7) q.1 (iNm q.2)), w ∈ lw_tbl := mem_of_places (ps := [1197]) (by decide +kernel)
set_option maxRecDepth 100000 in
theorem iIn_8 : ∀ w ∈ ((iRs.getD 8 []).filter (fun q => Nat.ble q.2 902)).map (fun q => Cond.methodLink (cN 8) q.1 (iNm q.2)), w ∈ lw_tbl := mem_of_places (ps := [1116]) (by decide +kernel)
set_option maxRecDepth 100000 in
theorem iIn_9 : ∀ w ∈ ((iRs.getD 9 []).filter (fun q => Nat.ble q.2 902)).map (fun q => Cond.methodLink (cN 9) q.1 (iNm q.2)), w ∈ lw_tbl := mem_of_places (ps := [1006, 1188]) (by decide +kernel)
set_option maxRecDepth 100000 in
theorem iIn_10 : ∀ w ∈ ((iRs.getD 10 []).filter (fun q => Nat.ble q.2 902)).map (fun q => Cond.methodLink (cN 10) q.1 (iNm q.2)), w ∈ lw_tbl := mem_of_places (ps := [1027, 1262]) (by decide +kernel)
set_option maxRecDepth 100000 in
theorem iIn_11 : ∀ w ∈ ((iRs.getD 11 []).filter (fun q => Nat.ble q.2 902)).map (fun q => Cond.methodLink (cN 11) q.1 (iNm q.2)), w ∈ lw_tbl := mem_of_places (ps := []) (by decide +kernel)
set_option maxRecDepth 100000 in
theorem iIn_12 : ∀ w ∈ ((iRs.getD 12 []).filter (fun q => Nat.ble q.2 902)).map (fun q => Cond.methodLink (cN 12) q.1 (iNm q.2)), w ∈ lw_tbl := mem_of_places (ps := []) (by decide +kernel)
theorem iIn_all : ∀ (o : Nat), ∀ w ∈ ((iRs.getD o []).filter (fun q => Nat.ble q.2 902)).map (fun q => Cond.methodLink (cN o) q.1 (iNm q.2)), w ∈ lw_tbl := by
  intro o
  match o with
  | 0 => exact iIn_0
  | 1 => exact iIn_1
  | 2 => exact iIn_2
  | 3 => exact iIn_3
  | 4 => exact iIn_4
  | 5 => exact iIn_5
  | 6 => exact iIn_6
  | 7 => exact iIn_7
  | 8 => exact iIn_8
  | 9 => exact iIn_9
  | 10 => exact iIn_10
  | 11 => exact iIn_11
  | 12 => exact iIn_12
  | o + 13 => intro w h; rw [List.getD_eq_getElem?_getD, List.getElem?_eq_none (by show iRs.length ≤ _; have : iRs.length = 13 := (by decide); omega)] at h; cases h
set_option maxRecDepth 100000 in
theorem iw_max : Cond.code Lib.Math.max.name Lib.Math.max.code 2 (some .int) ∈ lw_g := lwg_of (List.mem_of_getElem? (i := 801) (by decide +kernel)) (by decide +kernel)
set_option maxRecDepth 100000 in
theorem iw_min : Cond.code Lib.Math.min.name Lib.Math.min.code 2 (some .int) ∈ lw_g := lwg_of (List.mem_of_getElem? (i := 804) (by decide +kernel)) (by decide +kernel)
set_option maxRecDepth 100000 in
theorem iw_maxs : Cond.static Lib.Math.max.name ∈ lw_g := lwg_of (List.mem_of_getElem? (i := 800) (by decide +kernel)) (by decide +kernel)
set_option maxRecDepth 100000 in
theorem iw_mins : Cond.static Lib.Math.min.name ∈ lw_g := lwg_of (List.mem_of_getElem? (i := 803) (by decide +kernel)) (by decide +kernel)
set_option maxRecDepth 100000 in
theorem iw_math : Cond.initialized "java/lang/Math" ∈ lw_g := lwg_of (List.mem_of_getElem? (i := 103) (by decide +kernel)) (by decide +kernel)
set_option maxRecDepth 100000 in
theorem iw_sys : Cond.initialized "java/lang/System" ∈ lw_g := lwg_of (List.mem_of_getElem? (i := 100) (by decide +kernel)) (by decide +kernel)
set_option maxRecDepth 100000 in
theorem iw_nat : Cond.native arraycopyName ∈ lw_g := lwg_of (List.mem_of_getElem? (i := 741) (by decide +kernel)) (by decide +kernel)
set_option maxRecDepth 100000 in
theorem iw_sta : Cond.static arraycopyName ∈ lw_g := lwg_of (List.mem_of_getElem? (i := 740) (by decide +kernel)) (by decide +kernel)
theorem iLink {o j fa fb fc pc len : Nat} (hr : rsB o (pc, .invokestatic j, len, fa, fb, fc) = true) (h1 : 900 ≤ fa) (h2 : fa ≤ 902) : Cond.methodLink (cN o) j (iNm fa) ∈ lw_g := by
  unfold rsB at hr
  simp only [Bool.and_eq_true] at hr
  have h3 := hr.2
  rw [show Nat.blt fa 900 = false from by rw [Bool.eq_false_iff]; exact fun q => by have := Nat.blt_eq.mp q; omega] at h3
  have h4 : (j, fa) ∈ iRs.getD o [] := List.contains_iff_mem.mp h3
  exact lwg_of (iIn_all o _ (List.mem_map.mpr ⟨(j, fa), List.mem_filter.mpr ⟨h4, Nat.ble_eq_true_of_le h2⟩, rfl⟩)) rfl
theorem cat_sum (st : List mV) : ((st.map (rV ads)).map fun v => v.category).sum = (st.map mCat).sum := by
  rw [List.map_map]
  congr 1
  exact List.map_congr_left fun v _ => rV_cat ads v

theorem si_max (F : Fx p s m args c D aC ads pth LL A L xs b0 q9 mi) {j fb fc : Nat} (hd : decode (mBy.getD mi code) pc = .ok (.invokestatic j, 3)) (hr : rsB (kOw mi) (pc, .invokestatic j, 3, 900, fb, fc) = true) (hR1 : 25 ≤ R.frames) (hR2 : 1025 ≤ R.locals) (hR3 : cf mem.2.2 ≤ R.cells ∧ sf mem.2.2 ≤ R.slots) (h : intr 900 pc ls st mem = some (.inl al)) (hk : alt al k = some r) (ih : ∀ s', k s' = some r → WA p l e R s m args below meth c Q D aC ads pth LL A mi cf sf s') : WA p l e R s m args below meth c Q D aC ads pth LL A mi cf sf (pc, ls, st, mem) := by
  obtain ⟨hx, hb, hml, hown, hts, hK, hE, ⟨hX, hbl, hbA, hb3⟩, ⟨hZ, hq9⟩⟩ := F
  obtain ⟨y, u1, st, rfl, hu1, h⟩ := pI_inv h
  obtain ⟨v, u2, st, rfl, hu2, h⟩ := pI_inv h
  obtain ⟨hg, h⟩ := bif_inv h
  have hg := Nat.le_of_ble_eq_true hg
  have hk := gO_inv h hk
  intro rl H locs ⟨hl, hn, okl, oks, hP, hD, hS⟩
  simp only [List.map_cons, hu1 ads, hu2 ads]
  have oks2 := (List.forall_mem_cons.mp (List.forall_mem_cons.mp oks).2).2
  refine va_mmax hx hb (by rw [hml]; exact hl.1.symm) hown (hts _ (iLink hr (by decide) (by decide))) (hts _ iw_maxs) (hts _ iw_math) (hts _ iw_max) (by omega) (by rw [cat_sum]; omega) hR3.1 hR3.2 hd ?_
  exact ih _ hk rl H locs ⟨hl, hn, okl, List.forall_mem_cons.mpr ⟨trivial, oks2⟩, hP, hD, hS⟩
theorem si_min (F : Fx p s m args c D aC ads pth LL A L xs b0 q9 mi) {j fb fc : Nat} (hd : decode (mBy.getD mi code) pc = .ok (.invokestatic j, 3)) (hr : rsB (kOw mi) (pc, .invokestatic j, 3, 901, fb, fc) = true) (hR1 : 25 ≤ R.frames) (hR2 : 1025 ≤ R.locals) (hR3 : cf mem.2.2 ≤ R.cells ∧ sf mem.2.2 ≤ R.slots) (h : intr 901 pc ls st mem = some (.inl al)) (hk : alt al k = some r) (ih : ∀ s', k s' = some r → WA p l e R s m args below meth c Q D aC ads pth LL A mi cf sf s') : WA p l e R s m args below meth c Q D aC ads pth LL A mi cf sf (pc, ls, st, mem) := by
  obtain ⟨hx, hb, hml, hown, hts, hK, hE, ⟨hX, hbl, hbA, hb3⟩, ⟨hZ, hq9⟩⟩ := F
  obtain ⟨y, u1, st, rfl, hu1, h⟩ := pI_inv h
  obtain ⟨v, u2, st, rfl, hu2, h⟩ := pI_inv h
  obtain ⟨hg, h⟩ := bif_inv h
  have hg := Nat.le_of_ble_eq_true hg
  have hk := gO_inv h hk
  intro rl H locs ⟨hl, hn, okl, oks, hP, hD, hS⟩
  simp only [List.map_cons, hu1 ads, hu2 ads]
  have oks2 := (List.forall_mem_cons.mp (List.forall_mem_cons.mp oks).2).2
  refine va_mmin hx hb (by rw [hml]; exact hl.1.symm) hown (hts _ (iLink hr (by decide) (by decide))) (hts _ iw_mins) (hts _ iw_math) (hts _ iw_min) (by omega) (by rw [cat_sum]; omega) hR3.1 hR3.2 hd ?_
  exact ih _ hk rl H locs ⟨hl, hn, okl, List.forall_mem_cons.mpr ⟨trivial, oks2⟩, hP, hD, hS⟩
theorem si_copy (F : Fx p s m args c D aC ads pth LL A L xs b0 q9 mi) {j fb fc : Nat} (hd : decode (mBy.getD mi code) pc = .ok (.invokestatic j, 3)) (hr : rsB (kOw mi) (pc, .invokestatic j, 3, 902, fb, fc) = true) (hR1 : 25 ≤ R.frames) (hR2 : 1025 ≤ R.locals) (hR3 : cf mem.2.2 ≤ R.cells ∧ sf mem.2.2 ≤ R.slots) (h : intr 902 pc ls st mem = some (.inl al)) (hk : alt al k = some r) (ih : ∀ s', k s' = some r → WA p l e R s m args below meth c Q D aC ads pth LL A mi cf sf s') : WA p l e R s m args below meth c Q D aC ads pth LL A mi cf sf (pc, ls, st, mem) := by
  obtain ⟨hx, hb, hml, hown, hts, hK, hE, ⟨hX, hbl, hbA, hb3⟩, ⟨hZ, hq9⟩⟩ := F
  obtain ⟨n, u1, st, rfl, hu1, h⟩ := pI_inv h
  obtain ⟨dp, u2, st, rfl, hu2, h⟩ := pI_inv h
  obtain ⟨c1, p1, st, rfl, h⟩ := pR_inv h
  obtain ⟨sp, u3, st, rfl, hu3, h⟩ := pI_inv h
  obtain ⟨cc, p0, st, rfl, h⟩ := pR_inv h
  obtain ⟨hg, h⟩ := bif_inv h
  have hg := Nat.le_of_ble_eq_true hg
  obtain ⟨hq, hk⟩ := gG_inv h hk
  intro rl H locs ⟨hl, hn, okl, oks, hP, hD, hS⟩
  have o1 := (List.forall_mem_cons.mp (List.forall_mem_cons.mp oks).2).2
  obtain ⟨o3, o2⟩ := List.forall_mem_cons.mp o1
  obtain ⟨o4, o5⟩ := List.forall_mem_cons.mp (List.forall_mem_cons.mp o2).2
  rw [cpyS_eq] at hq
  unfold cpyB at hq
  simp only [List.map_cons, hu1 ads, hu2 ads, hu3 ads]
  simp only [Bool.and_eq_true, decide_eq_true_eq] at hq
  obtain ⟨⟨⟨⟨⟨⟨q1, q2⟩, q3⟩, q4⟩, q5⟩, q6⟩, q7⟩ := hq
  have q6 := Nat.eq_of_beq_eq_true q6
  have hkind : tgK cc = 1 ∨ (tgK cc = 2 ∧ ∀ i, i < n.toNatClampNeg → isZ (mem.1 p0 (sp.toNatClampNeg + i)) = true) := by
    rcases (Bool.or_eq_true _ _ ▸ q7 : _ ∨ _) with z | z
    · exact Or.inl (Nat.eq_of_beq_eq_true z)
    · simp only [Bool.and_eq_true, List.all_eq_true, List.mem_range] at z
      exact Or.inr ⟨Nat.eq_of_beq_eq_true z.1, z.2⟩
  have hkr : tgK cc = 1 ∨ tgK cc = 2 ∨ tgK cc = 3 := by rcases hkind with z | ⟨z, -⟩ <;> simp [z]
  have ht0 := okA (n := tgK cc) o4 rfl (by omega) (by omega)
  have ht1 := okA (n := tgK cc) o3 q6.symm (by omega) (by omega)
  obtain ⟨k0, hk0⟩ := wd_at (aC := aC) hE ht0 mem
  obtain ⟨k1, hk1⟩ := wd_at (aC := aC) hE ht1 mem
  have hk1' := hk1
  rw [cEl_1 rfl hkr] at hk0
  rw [cEl_1 q6.symm hkr] at hk1
  have hty : ∃ ty, (tysOf aC)[tgK cc - 1]? = some (aC (tgK cc), ty) ∧ refKind ty = false ∧ ∀ i, i < n.toNatClampNeg → fits ty (.int (mem.1 p0 (sp.toNatClampNeg + i))) = true := by
    rcases hkind with z | ⟨z, z2⟩
    · rw [z]; exact ⟨.int, rfl, rfl, fun i _ => rfl⟩
    · rw [z]; exact ⟨.boolean, rfl, rfl, fun i hi => isZ_fit (z2 i hi)⟩
  obtain ⟨ty, hty, hprim, hfit⟩ := hty
  refine va_copyi hx hb (by rw [hml]; exact hl.1.symm) hown (hts _ (iLink hr (by decide) (by decide))) (hts _ iw_nat) (hts _ iw_sta) (hts _ iw_sys) hK hP hD hS k0 k1 (tgK cc - 1) (tgK cc - 1) hk0 hk1 hty hty hprim (Int32.not_lt.mpr q1) (Int32.not_lt.mpr q2) (Int32.not_lt.mpr q3) q4 q5 hfit (by omega) (by rw [cat_sum]; have : nativeFrameWords "java/lang/System" "arraycopy" 5 = 7 := (by decide +kernel); omega) hd (fun H1 locs1 hP1 hD1 hS1 => ?_)
  have hset := wd_set (m2 := (uI mem.1 p1 (va_cpy (mem.1 p0) (mem.1 p1) sp.toNatClampNeg dp.toNatClampNeg n.toNatClampNeg), mem.2)) hE hD ht1 hk1' (fun z hz => ⟨uI_ne hz, rfl⟩)
  rw [cEl_1 q6.symm hkr] at hset
  dsimp only at hset
  rw [uI_same] at hset
  rw [hset] at hP1 hD1
  exact ih _ hk rl H1 locs1 ⟨hl, hn, okl, o5, hP1, hD1, hS1⟩
/-- the members that are walked by hand: text's indexOf, the two that catch -/
def Spc (p : Program) (l : Launch) (e : Env) (R : Room) (s : State) (m : MethodId) (args : Array Value) (below : List Frame) (meth : Method) (c : Code) (Q : State → Prop) (D : va_G) (aC : Nat → ClassId) (ads : List Nat → Nat) (pth : Nat → List Nat) (LL : List Nat) (A : Nat → Prop) (mi : Nat) (cf sf : Nat → Nat) (cap : Nat) : Prop :=
  ∀ (pc j fa : Nat) (ls : List (Option mV)) (st : List mV) (mem : mM) (s' : mS), (decode (mBy.getD mi code) pc = .ok (.invokevirtual j, 3) ∧ (fa = 903 ∨ fa = 904) ∧ (j, fa) ∈ iRs.getD (kOw mi) []) ∨ (decode (mBy.getD mi code) pc = .ok (.invokestatic j, 3) ∧ fa = 905 ∧ (j, fa) ∈ iRs.getD (kOw mi) []) → intr fa pc ls st mem = some (.inl [(true, s')]) → s'.2.2.2.2.2 ≤ cap → WA p l e R s m args below meth c Q D aC ads pth LL A mi cf sf s' → WA p l e R s m args below meth c Q D aC ads pth LL A mi cf sf (pc, ls, st, mem)
theorem callT_no {t n ci pc : Nat} {ls : List (Option mV)} {st : List mV} {mem : mM} {b : Bool} {al : List (Bool × mS)} : ¬ callT t n ci pc ls st mem b = some (.inl al) := by
  intro h
  unfold callT at h
  obtain ⟨-, h⟩ := bif_inv h
  cases h
theorem intr_one {j pc : Nat} {ls : List (Option mV)} {st : List mV} {mem : mM} {al : List (Bool × mS)} (hj : 903 ≤ j) (h : intr j pc ls st mem = some (.inl al)) : ∃ s', al = [(true, s')] := by
  have hn9 : ∀ z, z < 903 → Nat.beq j z = false := fun z hz => by rw [Bool.eq_false_iff]; exact fun q => by have := Nat.eq_of_beq_eq_true q; omega
  unfold intr at h
  rw [hn9 900 (by omega), hn9 901 (by omega), hn9 902 (by omega)] at h
  simp only [cond_false] at h
  cases h3 : Nat.beq j 903 with
  | true =>
    rw [h3] at h
    obtain ⟨_, _, _, _, _, h⟩ := pI_inv h
    obtain ⟨_, _, _, _, h⟩ := pR_inv h
    obtain ⟨-, h⟩ := bif_inv h
    cases h
    exact ⟨_, rfl⟩
  | false =>
    rw [h3] at h
    simp only [cond_false] at h
    cases h4 : Nat.beq j 904 with
    | true =>
      rw [h4] at h
      obtain ⟨_, _, _, _, _, h⟩ := pI_inv h
      obtain ⟨_, _, _, _, h⟩ := pR_inv h
      obtain ⟨-, h⟩ := bif_inv h
      cases h
      exact ⟨_, rfl⟩
    | false =>
      rw [h4] at h
      simp only [cond_false] at h
      obtain ⟨-, h⟩ := bif_inv h
      obtain ⟨_, _, _, _, h⟩ := pR_inv h
      obtain ⟨_, _, _, _, _, h⟩ := pI_inv h
      obtain ⟨_, _, _, _, _, h⟩ := pI_inv h
      obtain ⟨_, _, _, _, h⟩ := pR_inv h
      obtain ⟨-, h⟩ := bif_inv h
      cases h
      exact ⟨_, rfl⟩
theorem stepI (F : Fx p s m args c D aC ads pth LL A L xs b0 q9 mi) (hR1 : 25 ≤ R.frames) (hR2 : 1025 ≤ R.locals) (hR3 : cf mem.2.2 ≤ R.cells ∧ sf mem.2.2 ≤ R.slots) {cap : Nat} (hsp : Spc p l e R s m args below meth c Q D aC ads pth LL A mi cf sf cap) (hmon : ∀ s', k s' = some r → s'.2.2.2.2.2 ≤ cap) (h0 : mStep L xs mi pc ls st mem = some (.inl al)) (hk : alt al k = some r) (ih : ∀ s', k s' = some r → WA p l e R s m args below meth c Q D aC ads pth LL A mi cf sf s') : WA p l e R s m args below meth c Q D aC ads pth LL A mi cf sf (pc, ls, st, mem) := by
  unfold mStep at h0
  split at h0
  · cases h0
  · next p0 ig len fa fb fc hf =>
    obtain ⟨rfl, hd, hr⟩ := tbl_dec hf
    have hlen := rs_len hr
    cases ig
    case iconst n =>
      have hl9 := hlen (by show Nat.succ _ ≠ 0; exact Nat.succ_ne_zero _)
      have hl9 : len = _ := hl9
      subst hl9
      exact si_iconst F hd hr h0 hk ih
    case bipush n =>
      have hl9 := hlen (by show Nat.succ _ ≠ 0; exact Nat.succ_ne_zero _)
      have hl9 : len = _ := hl9
      subst hl9
      exact si_bipush F hd hr h0 hk ih
    case sipush n =>
      have hl9 := hlen (by show Nat.succ _ ≠ 0; exact Nat.succ_ne_zero _)
      have hl9 : len = _ := hl9
      subst hl9
      exact si_sipush F hd hr h0 hk ih
    case lconst n =>
      have hl9 := hlen (by show Nat.succ _ ≠ 0; exact Nat.succ_ne_zero _)
      have hl9 : len = _ := hl9
      subst hl9
      exact si_lconst F hd hr h0 hk ih
    case aconst_null =>
      have hl9 := hlen (by show Nat.succ _ ≠ 0; exact Nat.succ_ne_zero _)
      have hl9 : len = _ := hl9
      subst hl9
      exact si_null F hd hr h0 hk ih
    case ldc j =>
      have hl9 := hlen (by show Nat.succ _ ≠ 0; exact Nat.succ_ne_zero _)
      have hl9 : len = _ := hl9
      subst hl9
      exact si_ldc F hd hr h0 hk ih
    case ldc_w j =>
      have hl9 := hlen (by show Nat.succ _ ≠ 0; exact Nat.succ_ne_zero _)
      have hl9 : len = _ := hl9
      subst hl9
      exact si_ldc_w F hd hr h0 hk ih
    case ldc2_w j =>
      have hl9 := hlen (by show Nat.succ _ ≠ 0; exact Nat.succ_ne_zero _)
      have hl9 : len = _ := hl9
      subst hl9
      exact si_ldc2_w F hd hr h0 hk ih
    case iload_n j =>
      have hl9 := hlen (by show Nat.succ _ ≠ 0; exact Nat.succ_ne_zero _)
      have hl9 : len = _ := hl9
      subst hl9
      exact si_iload_n F hd hr h0 hk ih
    case iload j =>
      have hl9 := hlen (by show Nat.succ _ ≠ 0; exact Nat.succ_ne_zero _)
      have hl9 : len = _ := hl9
      subst hl9
      exact si_iload F hd hr h0 hk ih
    case lload_n j =>
      have hl9 := hlen (by show Nat.succ _ ≠ 0; exact Nat.succ_ne_zero _)
      have hl9 : len = _ := hl9
      subst hl9
      exact si_lload_n F hd hr h0 hk ih
    case lload j =>
      have hl9 := hlen (by show Nat.succ _ ≠ 0; exact Nat.succ_ne_zero _)
      have hl9 : len = _ := hl9
      subst hl9
      exact si_lload F hd hr h0 hk ih
    case aload_n j =>
      have hl9 := hlen (by show Nat.succ _ ≠ 0; exact Nat.succ_ne_zero _)
      have hl9 : len = _ := hl9
      subst hl9
      exact si_aload_n F hd hr h0 hk ih
    case aload j =>
      have hl9 := hlen (by show Nat.succ _ ≠ 0; exact Nat.succ_ne_zero _)
      have hl9 : len = _ := hl9
      subst hl9
      exact si_aload F hd hr h0 hk ih
    case istore_n j =>
      have hl9 := hlen (by show Nat.succ _ ≠ 0; exact Nat.succ_ne_zero _)
      have hl9 : len = _ := hl9
      subst hl9
      exact si_istore_n F hd hr h0 hk ih
    case istore j =>
      have hl9 := hlen (by show Nat.succ _ ≠ 0; exact Nat.succ_ne_zero _)
      have hl9 : len = _ := hl9
      subst hl9
      exact si_istore F hd hr h0 hk ih
    case lstore_n j =>
      have hl9 := hlen (by show Nat.succ _ ≠ 0; exact Nat.succ_ne_zero _)
      have hl9 : len = _ := hl9
      subst hl9
      exact si_lstore_n F hd hr h0 hk ih
    case lstore j =>
      have hl9 := hlen (by show Nat.succ _ ≠ 0; exact Nat.succ_ne_zero _)
      have hl9 : len = _ := hl9
      subst hl9
      exact si_lstore F hd hr h0 hk ih
    case astore_n j =>
      have hl9 := hlen (by show Nat.succ _ ≠ 0; exact Nat.succ_ne_zero _)
      have hl9 : len = _ := hl9
      subst hl9
      exact si_astore_n F hd hr h0 hk ih
    case astore j =>
      have hl9 := hlen (by show Nat.succ _ ≠ 0; exact Nat.succ_ne_zero _)
      have hl9 : len = _ := hl9
      subst hl9
      exact si_astore F hd hr h0 hk ih
    case iinc j n =>
      have hl9 := hlen (by show Nat.succ _ ≠ 0; exact Nat.succ_ne_zero _)
      have hl9 : len = _ := hl9
      subst hl9
      exact si_iinc F hd hr h0 hk ih
    case iadd =>
      have hl9 := hlen (by show Nat.succ _ ≠ 0; exact Nat.succ_ne_zero _)
      have hl9 : len = _ := hl9
      subst hl9
      exact si_iadd F hd hr h0 hk ih
    case isub =>
      have hl9 := hlen (by show Nat.succ _ ≠ 0; exact Nat.succ_ne_zero _)
      have hl9 : len = _ := hl9
      subst hl9
      exact si_isub F hd hr h0 hk ih
    case imul =>
      have hl9 := hlen (by show Nat.succ _ ≠ 0; exact Nat.succ_ne_zero _)
      have hl9 : len = _ := hl9
      subst hl9
      exact si_imul F hd hr h0 hk ih
    case idiv =>
      have hl9 := hlen (by show Nat.succ _ ≠ 0; exact Nat.succ_ne_zero _)
      have hl9 : len = _ := hl9
      subst hl9
      exact si_idiv F hd hr h0 hk ih
    case irem =>
      have hl9 := hlen (by show Nat.succ _ ≠ 0; exact Nat.succ_ne_zero _)
      have hl9 : len = _ := hl9
      subst hl9
      exact si_irem F hd hr h0 hk ih
    case iand =>
      have hl9 := hlen (by show Nat.succ _ ≠ 0; exact Nat.succ_ne_zero _)
      have hl9 : len = _ := hl9
      subst hl9
      exact si_iand F hd hr h0 hk ih
    case ior =>
      have hl9 := hlen (by show Nat.succ _ ≠ 0; exact Nat.succ_ne_zero _)
      have hl9 : len = _ := hl9
      subst hl9
      exact si_ior F hd hr h0 hk ih
    case ishl =>
      have hl9 := hlen (by show Nat.succ _ ≠ 0; exact Nat.succ_ne_zero _)
      have hl9 : len = _ := hl9
      subst hl9
      exact si_ishl F hd hr h0 hk ih
    case ladd =>
      have hl9 := hlen (by show Nat.succ _ ≠ 0; exact Nat.succ_ne_zero _)
      have hl9 : len = _ := hl9
      subst hl9
      exact si_ladd F hd hr h0 hk ih
    case lsub =>
      have hl9 := hlen (by show Nat.succ _ ≠ 0; exact Nat.succ_ne_zero _)
      have hl9 : len = _ := hl9
      subst hl9
      exact si_lsub F hd hr h0 hk ih
    case land =>
      have hl9 := hlen (by show Nat.succ _ ≠ 0; exact Nat.succ_ne_zero _)
      have hl9 : len = _ := hl9
      subst hl9
      exact si_land F hd hr h0 hk ih
    case lor =>
      have hl9 := hlen (by show Nat.succ _ ≠ 0; exact Nat.succ_ne_zero _)
      have hl9 : len = _ := hl9
      subst hl9
      exact si_lor F hd hr h0 hk ih
    case lxor =>
      have hl9 := hlen (by show Nat.succ _ ≠ 0; exact Nat.succ_ne_zero _)
      have hl9 : len = _ := hl9
      subst hl9
      exact si_lxor F hd hr h0 hk ih
    case lshl =>
      have hl9 := hlen (by show Nat.succ _ ≠ 0; exact Nat.succ_ne_zero _)
      have hl9 : len = _ := hl9
      subst hl9
      exact si_lshl F hd hr h0 hk ih
    case lushr =>
      have hl9 := hlen (by show Nat.succ _ ≠ 0; exact Nat.succ_ne_zero _)
      have hl9 : len = _ := hl9
      subst hl9
      exact si_lushr F hd hr h0 hk ih
    case lcmp =>
      have hl9 := hlen (by show Nat.succ _ ≠ 0; exact Nat.succ_ne_zero _)
      have hl9 : len = _ := hl9
      subst hl9
      exact si_lcmp F hd hr h0 hk ih
    case i2l =>
      have hl9 := hlen (by show Nat.succ _ ≠ 0; exact Nat.succ_ne_zero _)
      have hl9 : len = _ := hl9
      subst hl9
      exact si_i2l F hd hr h0 hk ih
    case l2i =>
      have hl9 := hlen (by show Nat.succ _ ≠ 0; exact Nat.succ_ne_zero _)
      have hl9 : len = _ := hl9
      subst hl9
      exact si_l2i F hd hr h0 hk ih
    case i2b =>
      have hl9 := hlen (by show Nat.succ _ ≠ 0; exact Nat.succ_ne_zero _)
      have hl9 : len = _ := hl9
      subst hl9
      exact si_i2b F hd hr h0 hk ih
    case i2s =>
      have hl9 := hlen (by show Nat.succ _ ≠ 0; exact Nat.succ_ne_zero _)
      have hl9 : len = _ := hl9
      subst hl9
      exact si_i2s F hd hr h0 hk ih
    case i2c =>
      have hl9 := hlen (by show Nat.succ _ ≠ 0; exact Nat.succ_ne_zero _)
      have hl9 : len = _ := hl9
      subst hl9
      exact si_i2c F hd hr h0 hk ih
    case dup =>
      have hl9 := hlen (by show Nat.succ _ ≠ 0; exact Nat.succ_ne_zero _)
      have hl9 : len = _ := hl9
      subst hl9
      exact si_dup F hd hr h0 hk ih
    case dup_x1 =>
      have hl9 := hlen (by show Nat.succ _ ≠ 0; exact Nat.succ_ne_zero _)
      have hl9 : len = _ := hl9
      subst hl9
      exact si_dup_x1 F hd hr h0 hk ih
    case dup2 =>
      have hl9 := hlen (by show Nat.succ _ ≠ 0; exact Nat.succ_ne_zero _)
      have hl9 : len = _ := hl9
      subst hl9
      exact si_dup2 F hd hr h0 hk ih
    case pop =>
      have hl9 := hlen (by show Nat.succ _ ≠ 0; exact Nat.succ_ne_zero _)
      have hl9 : len = _ := hl9
      subst hl9
      exact si_pop F hd hr h0 hk ih
    case goto off =>
      have hl9 := hlen (by show Nat.succ _ ≠ 0; exact Nat.succ_ne_zero _)
      have hl9 : len = _ := hl9
      subst hl9
      exact si_goto F hd hr h0 hk ih
    case ifnull off =>
      have hl9 := hlen (by show Nat.succ _ ≠ 0; exact Nat.succ_ne_zero _)
      have hl9 : len = _ := hl9
      subst hl9
      exact si_ifnull F hd hr h0 hk ih
    case ifnonnull off =>
      have hl9 := hlen (by show Nat.succ _ ≠ 0; exact Nat.succ_ne_zero _)
      have hl9 : len = _ := hl9
      subst hl9
      exact si_ifnonnull F hd hr h0 hk ih
    case getfield j =>
      have hl9 := hlen (by show Nat.succ _ ≠ 0; exact Nat.succ_ne_zero _)
      have hl9 : len = _ := hl9
      subst hl9
      exact si_getfield F hd hr h0 hk ih
    case putfield j =>
      have hl9 := hlen (by show Nat.succ _ ≠ 0; exact Nat.succ_ne_zero _)
      have hl9 : len = _ := hl9
      subst hl9
      exact si_putfield F hd hr h0 hk ih
    case iaload =>
      have hl9 := hlen (by show Nat.succ _ ≠ 0; exact Nat.succ_ne_zero _)
      have hl9 : len = _ := hl9
      subst hl9
      exact si_iaload F hd hr h0 hk ih
    case baload =>
      have hl9 := hlen (by show Nat.succ _ ≠ 0; exact Nat.succ_ne_zero _)
      have hl9 : len = _ := hl9
      subst hl9
      exact si_baload F hd hr h0 hk ih
    case laload =>
      have hl9 := hlen (by show Nat.succ _ ≠ 0; exact Nat.succ_ne_zero _)
      have hl9 : len = _ := hl9
      subst hl9
      exact si_laload F hd hr h0 hk ih
    case aaload =>
      have hl9 := hlen (by show Nat.succ _ ≠ 0; exact Nat.succ_ne_zero _)
      have hl9 : len = _ := hl9
      subst hl9
      exact si_aaload F hd hr h0 hk ih
    case iastore =>
      have hl9 := hlen (by show Nat.succ _ ≠ 0; exact Nat.succ_ne_zero _)
      have hl9 : len = _ := hl9
      subst hl9
      exact si_iastore F hd hr h0 hk ih
    case bastore =>
      have hl9 := hlen (by show Nat.succ _ ≠ 0; exact Nat.succ_ne_zero _)
      have hl9 : len = _ := hl9
      subst hl9
      exact si_bastore F hd hr h0 hk ih
    case lastore =>
      have hl9 := hlen (by show Nat.succ _ ≠ 0; exact Nat.succ_ne_zero _)
      have hl9 : len = _ := hl9
      subst hl9
      exact si_lastore F hd hr h0 hk ih
    case arraylength =>
      have hl9 := hlen (by show Nat.succ _ ≠ 0; exact Nat.succ_ne_zero _)
      have hl9 : len = _ := hl9
      subst hl9
      exact si_arraylength F hd hr h0 hk ih
    case tableswitch d lo hi offs => exact si_tableswitch F hd hr h0 hk ih
    case lookupswitch d ps => exact si_lookupswitch F hd hr h0 hk ih
    case ifCond cd off =>
      have hl9 := hlen (by show Nat.succ _ ≠ 0; exact Nat.succ_ne_zero _)
      have hl9 : len = _ := hl9
      subst hl9
      cases cd
      · exact si_if_eq F hd hr h0 hk ih
      · exact si_if_ne F hd hr h0 hk ih
      · exact si_if_lt F hd hr h0 hk ih
      · exact si_if_ge F hd hr h0 hk ih
      · exact si_if_gt F hd hr h0 hk ih
      · exact si_if_le F hd hr h0 hk ih
    case if_icmp cd off =>
      have hl9 := hlen (by show Nat.succ _ ≠ 0; exact Nat.succ_ne_zero _)
      have hl9 : len = _ := hl9
      subst hl9
      cases cd
      · exact si_icmp_eq F hd hr h0 hk ih
      · exact si_icmp_ne F hd hr h0 hk ih
      · exact si_icmp_lt F hd hr h0 hk ih
      · exact si_icmp_ge F hd hr h0 hk ih
      · exact si_icmp_gt F hd hr h0 hk ih
      · exact si_icmp_le F hd hr h0 hk ih
    case invokevirtual j =>
      have hl9 := hlen (by show Nat.succ _ ≠ 0; exact Nat.succ_ne_zero _)
      have hl9 : len = _ := hl9
      subst hl9
      have h0 : (bif Nat.blt fa 900 then callT fa fb fc p0 ls st mem true else bif Nat.beq fa 903 || Nat.beq fa 904 then intr fa p0 ls st mem else none) = some (.inl al) := h0
      cases hb9 : Nat.blt fa 900 with
      | true => rw [hb9] at h0; exact absurd h0 (callT_no (pc := 0) (ls := []) (mem := mem))
      | false =>
        rw [hb9] at h0
        obtain ⟨hg, h0⟩ := bif_inv h0
        have hfa : fa = 903 ∨ fa = 904 := by
          rcases (Bool.or_eq_true _ _ ▸ hg : _ ∨ _) with z | z
          · exact Or.inl (Nat.eq_of_beq_eq_true z)
          · exact Or.inr (Nat.eq_of_beq_eq_true z)
        have hmem : (j, fa) ∈ iRs.getD (kOw mi) [] := by
          unfold rsB at hr
          simp only [Bool.and_eq_true] at hr
          have h3 := hr.2
          rw [hb9] at h3
          exact List.contains_iff_mem.mp h3
        obtain ⟨s', rfl⟩ := intr_one (by omega) h0
        exact hsp p0 j fa ls st mem s' (Or.inl ⟨hd, hfa, hmem⟩) h0 (hmon s' hk) (ih s' hk)
    case invokestatic j =>
      have hl9 := hlen (by show Nat.succ _ ≠ 0; exact Nat.succ_ne_zero _)
      have hl9 : len = _ := hl9
      subst hl9
      have h0 : (bif Nat.blt fa 900 then callT fa fb fc p0 ls st mem false else bif Nat.beq fa 903 || Nat.beq fa 904 then none else intr fa p0 ls st mem) = some (.inl al) := h0
      cases hb9 : Nat.blt fa 900 with
      | true => rw [hb9] at h0; exact absurd h0 (callT_no (pc := 0) (ls := []) (mem := mem))
      | false =>
        rw [hb9] at h0
        cases hb8 : Nat.beq fa 903 || Nat.beq fa 904 with
        | true => rw [hb8] at h0; cases h0
        | false =>
          rw [hb8] at h0
          have h0 : intr fa p0 ls st mem = some (.inl al) := h0
          have hmem : (j, fa) ∈ iRs.getD (kOw mi) [] := by
            unfold rsB at hr
            simp only [Bool.and_eq_true] at hr
            have h3 := hr.2
            rw [hb9] at h3
            exact List.contains_iff_mem.mp h3
          by_cases e0 : fa = 900
          · subst e0; exact si_max F hd hr hR1 hR2 hR3 h0 hk ih
          · by_cases e1 : fa = 901
            · subst e1; exact si_min F hd hr hR1 hR2 hR3 h0 hk ih
            · by_cases e2 : fa = 902
              · subst e2; exact si_copy F hd hr hR1 hR2 hR3 h0 hk ih
              · by_cases e5 : fa = 905
                · obtain ⟨s', rfl⟩ := intr_one (by omega) h0
                  exact hsp p0 j fa ls st mem s' (Or.inr ⟨hd, e5, hmem⟩) h0 (hmon s' hk) (ih s' hk)
                · exfalso
                  have hn9 : ∀ z, fa ≠ z → Nat.beq fa z = false := fun z hz => by rw [Bool.eq_false_iff]; exact fun q => hz (Nat.eq_of_beq_eq_true q)
                  unfold intr at h0
                  rw [hn9 900 e0, hn9 901 e1, hn9 902 e2, hn9 905 e5] at h0
                  simp only [Bool.or_eq_false_iff] at hb8
                  rw [hb8.1, hb8.2] at h0
                  cases h0
    all_goals (first | (cases h0; done) | (exfalso; revert h0; unfold isem; dsimp only; intro h0; (repeat' split at h0) <;> cases h0))
end Sim
