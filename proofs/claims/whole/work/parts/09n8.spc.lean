section Spc8
set_option maxRecDepth 100000 in
theorem wl_220 : Cond.methodLink "TentPlainLaw" 220 yX10_toss ∈ lw_g := (lwg_of (List.mem_of_getElem? (i := 1276) (by decide +kernel)) (by decide +kernel))
set_option maxRecDepth 100000 in
theorem wm_tos : Cond.instanceMethod yX10_toss ∈ lw_g := (lwg_of (List.mem_of_getElem? (i := 1277) (by decide +kernel)) (by decide +kernel))
set_option maxRecDepth 100000 in
theorem ws_tos : Cond.selects RX10 yX10_toss yX10_toss ∈ lw_g := (lwg_of (List.mem_of_getElem? (i := 1278) (by decide +kernel)) (by decide +kernel))
set_option maxRecDepth 100000 in
theorem wk_tos : Cond.codeWith yX10_toss cX10_toss 5 (some .int) [(22, 26, 29, 428), (22, 26, 39, 398)] ∈ lw_g := (lwg_of (List.mem_of_getElem? (i := 1279) (by decide +kernel)) (by decide +kernel))
set_option maxRecDepth 100000 in
theorem wl_202 : Cond.methodLink "TentPlainLaw" 202 yLE ∈ lw_g := (lwg_of (List.mem_of_getElem? (i := 1369) (by decide +kernel)) (by decide +kernel))
set_option maxRecDepth 100000 in
theorem ws_lel : Cond.static yLE ∈ lw_g := (lwg_of (List.mem_of_getElem? (i := 1370) (by decide +kernel)) (by decide +kernel))
set_option maxRecDepth 100000 in
theorem wk_lel : Cond.codeWith yLE cL_element 5 (some .int) [(0, 9, 12, 13), (0, 9, 16, 15)] ∈ lw_g := (lwg_of (List.mem_of_getElem? (i := 1371) (by decide +kernel)) (by decide +kernel))
set_option maxRecDepth 100000 in
theorem wi_law : Cond.initialized "TentPlainLaw" ∈ lw_g := (lwg_of (List.mem_of_getElem? (i := 88) (by decide +kernel)) (by decide +kernel))
theorem sElC_80 {f : List Nat → Nat → Int32} {d i : Int32} (h : sElC f d i ≤ 600) : ((sEle f d i).1 = 0 → inB i 80 = true) ∧ sElC f d i = 1 := by
  unfold sElC at *
  by_cases q : (sEle f d i).1 = 0 ∧ ¬ inB i 80 = true
  · rw [if_pos q] at h
    omega
  · refine ⟨fun h1 => ?_, if_neg q⟩
    by_cases q2 : inB i 80 = true
    · exact q2
    · exact absurd ⟨h1, q2⟩ q
set_option maxRecDepth 100000 in
set_option maxHeartbeats 4000000 in
theorem spc_law {l : Launch} (hst : l.stackTraces = false) (h903 : H903 l) {p : Program} {e : Env} {R : Room} {s : State} {m : MethodId} {args : Array Value} {below : List Frame} {meth : Method} {c : Code} {Q : State → Prop}
    {D : va_G} {aC : Nat → ClassId} {ads : List Nat → Nat} {pth : Nat → List Nat} {LL : List Nat} {L : Nat} {xs : Nat → Int32} {b0 q9 : Nat} (F : Fy p s m args c D aC ads pth LL L xs b0 q9 code 8 "TentPlainLaw") (C S cap : Nat) (hcap : cap ≤ 600) (hroom : ∀ x, x ≤ cap → C + x ≤ R.cells ∧ S + 6 * x ≤ R.slots) (hRf : 100 ≤ R.frames) (hRl : 6000 ≤ R.locals) :
    Spc p l e R s m args below meth c Q D aC ads pth LL (AA LL s.heap.size) 256 (fun x => C + x) (fun x => S + 6 * x) cap := by
  intro pc j fa ls st mem s' hd hi hc9 hw
  obtain ⟨hx, hb, hml, hown, hts, hK, hE, hnd, ⟨hX, hbl, hbn, hb3⟩, ⟨hZ, hq9⟩, hF⟩ := id F
  have k8 : kMl 256 = 8 := by decide +kernel
  rcases hd with ⟨hd, hfa, hj⟩ | ⟨hd, hfa, hj⟩
  · have hj : (j, fa) ∈ [(220, 904), (202, 905)] := hj
    have hjf : j = 220 ∧ fa = 904 := by
      simp only [List.mem_cons, Prod.mk.injEq, List.not_mem_nil, or_false] at hj
      omega
    obtain ⟨rfl, rfl⟩ := hjf
    have hd : decode code pc = .ok (.invokevirtual 220, 3) := hd
    have h : (pI st fun d st => pR st fun t p st => bif Nat.beq t 9 && decide (p = [0]) && Nat.ble (st.map mCat).sum 8 then gO (pc + 3) ls (vi (sTos mem.1 d) :: st) (mem.1, mem.2.1, mem.2.2 + 1) else none) = some (.inl [(true, s')]) := hi
    obtain ⟨v, u1, st1, rfl, hu1, h5⟩ := pI_inv h
    obtain ⟨t, q, st2, rfl, h6⟩ := pR_inv h5
    obtain ⟨hg, h7⟩ := bif_inv h6
    simp only [Bool.and_eq_true, decide_eq_true_eq] at hg
    obtain ⟨⟨g1, rfl⟩, g3⟩ := hg
    have g1 := Nat.eq_of_beq_eq_true g1
    have g3 := Nat.le_of_ble_eq_true g3
    subst g1
    have hs' : s' = (pc + 3, ls, vi (sTos mem.1 v) :: st2, (mem.1, mem.2.1, mem.2.2 + 1)) := by
      have h2 := Option.some.inj h7
      have h3 := Sum.inl.inj h2
      have h4 := (List.cons.inj h3).1
      exact (congrArg Prod.snd h4).symm
    subst hs'
    have hc9 : mem.2.2 + 1 ≤ cap := hc9
    have hr9 := hroom _ hc9
    intro rl H locs ⟨hl, hn, okl, oks, hP, hD, hS⟩
    obtain ⟨-, o1⟩ := List.forall_mem_cons.mp oks
    obtain ⟨-, o3⟩ := List.forall_mem_cons.mp o1
    show W p l e R s m args below meth c H locs (C + mem.2.2) (S + 6 * mem.2.2) Q (F0 m pc rl (rV ads u1 :: .ref (ads [0]) :: st2.map (rV ads)))
    rw [hu1 ads]
    obtain ⟨k0, hk0⟩ := wd_at (aC := aC) hE (p := [0]) (c := 9) rfl mem
    rw [cEl_obj (by decide)] at hk0
    have hwd := F.wd hP hS
    refine va_calli (vx_runVW (As := [.int v]) (rest := st2.map (rV ads)) (C := RX10) ⟨hx, hb, hml, hown, hts⟩ (ct_tos l hst h903 D aC ads pth LL L xs b0 q9 mem v H.size hE hnd hb3 hq9) (vx_cwVW 1 hts (goodIn_g fun w hw9 => ?_) rfl rfl rfl ⟨rfl, by decide, by decide, by decide +kernel⟩ ⟨by dsimp only; omega, by dsimp only; omega⟩) ⟨PcW_blind, va_recv hK hP (rfl : vwCl[9]? = some (RX10, TX10, 9)) hk0, fun U hU hWm => ⟨rfl, hwd U hU hWm⟩⟩ rfl rfl (hl.1.trans k8) rfl (lv_room (by rw [cat_sum]; exact g3)) hd ⟨by omega, by omega⟩) hS (fun q _ h => AA_le hS.1 q h) (AA_le hS.1) (fun r u t H1 locs1 ht1 hvm hpost hP1 hz1 hk1' hS1 => ?_)
    · unfold wsV at hw9
      rcases List.mem_append.mp hw9 with hw9 | hw9
      · simp only [List.mem_cons, List.not_mem_nil, or_false] at hw9
        rcases hw9 with rfl | rfl | rfl | rfl
        · exact wl_220
        · exact wm_tos
        · exact ws_tos
        · exact wi_X10
      · rcases List.mem_cons.mp hw9 with rfl | hw9
        · exact wk_tos
        · exact hw9
    · rw [ht1] at hP1
      rw [hpost]
      have h5 := hw rl H1 locs1 ⟨hl, hn, okl, fun w hw9 => by rcases List.mem_cons.mp hw9 with rfl | hw9; exact trivial; exact o3 w hw9, hP1, wd_D hnd, hS1⟩
      have e6 : S + 6 * mem.2.2 + 6 = S + 6 * (mem.2.2 + 1) := by omega
      rw [e6]
      exact h5
  · have hj : (j, fa) ∈ [(220, 904), (202, 905)] := hj
    have hjf : j = 202 ∧ fa = 905 := by
      simp only [List.mem_cons, Prod.mk.injEq, List.not_mem_nil, or_false] at hj
      omega
    obtain ⟨rfl, rfl⟩ := hjf
    have hd : decode code pc = .ok (.invokestatic 202, 3) := hd
    have h : (pR st fun t3 p3 st => pI st fun i st => pI st fun d st => pR st fun t p st => bif Nat.beq t 9 && decide (p = [0]) && Nat.beq t3 4000001 && decide (p3 = [2]) && Nat.ble (st.map mCat).sum 8 then
      gO (pc + 3) ls (vi (sEle mem.1 d i).1 :: st) (mE mem d i) else none) = some (.inl [(true, s')]) := hi
    obtain ⟨t3, p3, st1, rfl, h1⟩ := pR_inv h
    obtain ⟨i, u2, st2, rfl, hu2, h2⟩ := pI_inv h1
    obtain ⟨d, u3, st3, rfl, hu3, h3⟩ := pI_inv h2
    obtain ⟨t, q, st4, rfl, h4⟩ := pR_inv h3
    obtain ⟨hg, h7⟩ := bif_inv h4
    simp only [Bool.and_eq_true, decide_eq_true_eq] at hg
    obtain ⟨⟨⟨⟨g1, rfl⟩, g2⟩, rfl⟩, g3⟩ := hg
    have g1 := Nat.eq_of_beq_eq_true g1
    have g2 := Nat.eq_of_beq_eq_true g2
    have g3 := Nat.le_of_ble_eq_true g3
    subst g1
    subst g2
    have hs' : s' = (pc + 3, ls, vi (sEle mem.1 d i).1 :: st4, mE mem d i) := by
      have h2 := Option.some.inj h7
      have h3 := Sum.inl.inj h2
      have h4 := (List.cons.inj h3).1
      exact (congrArg Prod.snd h4).symm
    subst hs'
    have hc9 : mem.2.2 + sElC mem.1 d i ≤ cap := hc9
    obtain ⟨h80, hone⟩ := sElC_80 (f := mem.1) (d := d) (i := i) (by omega)
    rw [hone] at hc9
    have hr9 := hroom _ hc9
    intro rl H locs ⟨hl, hn, okl, oks, hP, hD, hS⟩
    obtain ⟨-, o1⟩ := List.forall_mem_cons.mp oks
    obtain ⟨-, o2⟩ := List.forall_mem_cons.mp o1
    obtain ⟨-, o3⟩ := List.forall_mem_cons.mp o2
    obtain ⟨-, o4⟩ := List.forall_mem_cons.mp o3
    show W p l e R s m args below meth c H locs (C + mem.2.2) (S + 6 * mem.2.2) Q (F0 m pc rl (.ref (ads [2]) :: rV ads u2 :: rV ads u3 :: .ref (ads [0]) :: st4.map (rV ads)))
    rw [hu2 ads, hu3 ads]
    have hwd := F.wd hP hS
    refine va_calli (vx_runSW (As := [.ref (ads [0]), .int d, .int i, .ref (ads [2])]) (rest := st4.map (rV ads)) ⟨hx, hb, hml, hown, hts⟩ (ct_lel l hst h903 D aC ads pth LL L xs b0 q9 mem d i h80 H.size hE hnd hb3 hq9) (vx_cwSW 4 hts (goodIn_g fun w hw9 => ?_) rfl rfl rfl ⟨by decide, by decide, by decide +kernel⟩ ⟨by dsimp only; omega, by dsimp only; omega⟩) ⟨PcW_blind, fun U hU hWm => ⟨rfl, hwd U hU hWm⟩⟩ rfl rfl (hl.1.trans k8) rfl (lv_room (by rw [cat_sum]; exact g3)) hd ⟨by omega, by omega⟩) hS (fun q _ h => AA_le hS.1 q h) (AA_le hS.1) (fun r u t H1 locs1 ht1 hvm hpost hP1 hz1 hk1' hS1 => ?_)
    · unfold va_wsS at hw9
      rcases List.mem_append.mp hw9 with hw9 | hw9
      · simp only [List.mem_cons, List.not_mem_nil, or_false] at hw9
        rcases hw9 with rfl | rfl | rfl
        · exact wl_202
        · exact ws_lel
        · exact wi_law
      · rcases List.mem_cons.mp hw9 with rfl | hw9
        · exact wk_lel
        · exact hw9
    · rw [ht1] at hP1
      rw [hpost]
      have h5 := hw rl H1 locs1 ⟨hl, hn, okl, fun w hw9 => by rcases List.mem_cons.mp hw9 with rfl | hw9; exact trivial; exact o4 w hw9, hP1, wd_D hnd, hS1⟩
      have e5 : C + mem.2.2 + 1 = C + (mem.2.2 + sElC mem.1 d i) := by rw [hone]; rfl
      have e6 : S + 6 * mem.2.2 + 6 = S + 6 * (mem.2.2 + sElC mem.1 d i) := by rw [hone]; omega
      rw [e5, e6]
      exact h5
end Spc8
