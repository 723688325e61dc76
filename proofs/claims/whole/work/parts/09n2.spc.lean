section Spc2
variable {p : Program} {l : Launch} {e : Env} {R : Room} {s : State} {m : MethodId} {args : Array Value} {below : List Frame} {meth : Method} {c : Code} {Q : State → Prop}
variable {D : va_G} {aC : Nat → ClassId} {ads : List Nat → Nat} {pth : Nat → List Nat} {LL : List Nat} {L : Nat} {xs : Nat → Int32} {b0 q9 : Nat} {cc : ByteArray} {nL pc : Nat} {own : String} {mem : mM} {H : Heap} {locs : List Loc} {ls : Array Slot} {rest : List Value} {cells slots : Nat}
/-- the world of a callee -/
def WD (D : va_G) (aC : Nat → ClassId) (ads : List Nat → Nat) (pth : Nat → List Nat) (LL : List Nat) (L : Nat) (xs : Nat → Int32) (b0 q9 : Nat) (mem : mM) (sz : Nat) (U : State) : Prop :=
  U.heap.size = sz ∧ va_P D vwCl (wd aC ads pth LL mem) U.heap ∧ va_K D vwCl (tysOf aC) U ∧ va_X b0 L xs U U.heap ∧ b0 < sz ∧ b0 ∉ LL ∧ ZS q9 (AA LL sz) U U.heap ∧ XF (AA LL sz) U
theorem WD.call {sz : Nat} {U : State} {g : JFrame} {mk : MethodId} {a : Array Value} (h : WD D aC ads pth LL L xs b0 q9 mem sz U) : WD D aC ads pth LL L xs b0 q9 mem sz (U.calling g mk a) := by
  obtain ⟨h1, h2, h3, h4, h5, h6, ⟨h7, ⟨adV, h8⟩, h9⟩, h10⟩ := h
  exact ⟨h1, h2, va_K.moved (u := U) (U := U.calling g mk a) (Vm.Alike.refl U.vm) h3, va_X.moved (u := U) (U := U.calling g mk a) (Vm.Alike.refl U.vm) h4, h5, h6, ⟨vk_R.same (u := U) rfl h7, ⟨adV, vk_S.moved (u := U) (U := U.calling g mk a) (Vm.Alike.refl U.vm) h8⟩, va_Z.moved (u := U) (U := U.calling g mk a) (Vm.Alike.refl U.vm) h9⟩, h10.call⟩
/-- what a frame knows that is walked by hand over the tree -/
def Fy (p : Program) (s : State) (m : MethodId) (args : Array Value) (c : Code) (D : va_G) (aC : Nat → ClassId) (ads : List Nat → Nat) (pth : Nat → List Nat) (LL : List Nat) (L : Nat) (xs : Nat → Int32) (b0 q9 : Nat) (cc : ByteArray) (nL : Nat) (own : String) : Prop :=
  p.tables.exec = Jvm.exec ∧ c.code = cc ∧ c.maxLocals = nL ∧ s.vm.findClass own = some m.cls ∧ (∀ w ∈ lw_g, w.before args s = true) ∧ va_K D vwCl (tysOf aC) s ∧ EO ads pth LL ∧ LL.Nodup ∧
    (va_X b0 L xs s s.heap ∧ b0 < s.heap.size ∧ b0 ∉ LL ∧ ads [3] = b0) ∧ (ZS q9 (AA LL s.heap.size) s s.heap ∧ ads [4] = q9) ∧ XF (AA LL s.heap.size) s
theorem AA_le {a b : Nat} (h : a ≤ b) : ∀ q, AA LL b q → AA LL a q := fun _ z => z.elim Or.inl (fun z => Or.inr (Nat.le_trans h z))
theorem Fy.wd (F : Fy p s m args c D aC ads pth LL L xs b0 q9 cc nL own) (hP : va_P D vwCl (wd aC ads pth LL mem) H) (hS : va_S (AA LL s.heap.size) s.heap H locs) (U : State) (hU : U.heap = H) (hWm : s.WarmedH U.vm) : WD D aC ads pth LL L xs b0 q9 mem H.size U := by
  obtain ⟨hx, hbx, hml, hown, hts, hK, hE, hnd, ⟨hX, hbl, hbn, hb3⟩, ⟨hZ, hq9⟩, hF⟩ := F
  have hbA : ¬ AA LL s.heap.size b0 := fun q => q.elim hbn (fun z => by omega)
  exact ⟨by rw [hU], by rw [hU]; exact hP, va_K.moved hWm.alike hK, by rw [hU]; exact (hX.kept (hS.2.1 b0 hbl hbA)).moved hWm.alike, Nat.lt_of_lt_of_le hbl hS.1, hbn, hZ.to hWm hU hS.2.1 (AA_le hS.1), hF.to hWm hU hS.2.1 (AA_le hS.1)⟩
/-- a frame's own start -/
theorem Fy.of (hx : p.tables.exec = Jvm.exec) (hb : c.code = cc) (hml : c.maxLocals = nL) (hown : s.vm.findClass own = some m.cls) (hts : ∀ w ∈ lw_g, w.before args s = true) (hE : EO ads pth LL) (hnd : LL.Nodup) (h3 : ads [3] = b0) (h4 : ads [4] = q9) (h : WD D aC ads pth LL L xs b0 q9 mem s.heap.size s) : Fy p s m args c D aC ads pth LL L xs b0 q9 cc nL own := by
  obtain ⟨-, h2, hK, hX, h5, h6, h7, h8⟩ := h
  exact ⟨hx, hb, hml, hown, hts, hK, hE, hnd, ⟨hX, h5, h6, h3⟩, ⟨h7, h4⟩, h8⟩
/-- a static method of the small machine is called -/
theorem B_smS {t n j : Nat} {as : List mV} {mem1 : mM} {v1 : Option mV} (F : Fy p s m args c D aC ads pth LL L xs b0 q9 cc nL own) (h903 : H903 l) (ht : t < 256) (r4 : mSt.getD t false = true) (hz : exec L xs n t (rkM t as) (0, ini t as, [], mem) = some (v1, mem1)) (hlk : Cond.methodLink own j (mY.getD t x) ∈ lw_g)
    (okas : ∀ w ∈ as, okV w) (e5 : allOne (kMl t) as = true) (hlas : as.length = mNa.getD t 0) (hroom : rkM t as + 1 ≤ R.frames ∧ 8 + (mMl.getD t 0 + 11) + 41 * rkM t as ≤ R.locals) (hcf : cells ≤ R.cells ∧ slots ≤ R.slots) (hcat : (rest.map fun v => v.category).sum ≤ 8)
    (hd : decode cc pc = .ok (.invokestatic j, 3)) (hls : ls.size = nL) (hP : va_P D vwCl (wd aC ads pth LL mem) H) (hS : va_S (AA LL s.heap.size) s.heap H locs)
    (kk : ∀ (H1 : Heap) (locs1 : List Loc), va_P D vwCl (wd aC ads pth LL mem1) H1 → va_S (AA LL s.heap.size) s.heap H1 locs1 → W p l e R s m args below meth c H1 locs1 cells slots Q (F0 m (pc + 3) ls ((v1.map (rV ads)).toList ++ rest))) :
    W p l e R s m args below meth c H locs cells slots Q (F0 m pc ls ((as.map (rV ads)).reverse ++ rest)) := by
  have hwd := F.wd hP hS
  obtain ⟨hx, hbx, hml, hown, hts, hK, hE, hnod, ⟨hX, hbl, hbn, hb3⟩, ⟨hZ, hq9⟩, hF⟩ := F
  have hM := met_of h903 (simA h903 n) ht hz
  obtain ⟨k1, k2, k3, k4, k5, k6, k7, k8, k9, k10, k11, k12⟩ := mK_spec ht
  rw [if_pos r4] at k4
  refine va_callG (va_runS (As := as.map (rV ads)) (rest := rest) ⟨hx, hbx, hml, hown, hts⟩ (hM D aC ads pth LL b0 q9 H.size hE hnod hb3 hq9 okas e5 hlas) (va_cwS (mNa.getD t 0) hts (goodIn_g fun w hw => ?_) rfl rfl rfl ⟨k3.1, k3.2, k4⟩ hroom) ⟨PcM_blind, fun U hU hWm => ?_⟩ rfl (by rw [List.length_map]; exact hlas) hls rfl (lv_room hcat) hd ⟨hcf.1, hcf.2⟩) hS (AA_le hS.1) (fun H1 locs1 hP1 hok1 hS1 => kk H1 locs1 hP1 hS1)
  · unfold va_wsS at hw
    rcases List.mem_append.mp hw with hw | hw
    · simp only [List.mem_cons, List.not_mem_nil, or_false] at hw
      have hs4 : ∀ w ∈ mWs t, w ∈ lw_g := sW_all t ht
      unfold mWs at hs4
      rw [if_pos r4] at hs4
      rcases hw with rfl | rfl | rfl
      · exact hlk
      · exact hs4 _ (by simp)
      · exact hs4 _ (by simp)
    · exact wsM_in ht w hw
  · obtain ⟨h1, h2, h3, h4, h5, h6, h7, h8⟩ := hwd U hU hWm
    exact ⟨rfl, h1, h2, h3, h4, h5, h6, h7⟩
/-- a method of an object of the small machine is called -/
theorem B_smV {t n j fc : Nat} {p9 : List Nat} {tl : List mV} {mem1 : mM} {v1 : Option mV} (F : Fy p s m args c D aC ads pth LL L xs b0 q9 cc nL own) (h903 : H903 l) (ht : t < 256) (r4 : mSt.getD t false = false) (hz : exec L xs n t (rkM t (vr fc p9 :: tl)) (0, ini t (vr fc p9 :: tl), [], mem) = some (v1, mem1)) (hlk : Cond.methodLink own j (mY.getD t x) ∈ lw_g) (htag : tagOf p9 = some fc) (hfc : fc < 11) (hq1 : (vwCl.getD fc ("", fun _ => ("", "", "", false), 0)).1 = (mY.getD t x).cls)
    (okas : ∀ w ∈ tl, okV w) (e5 : allOne (kMl t) (vr fc p9 :: tl) = true) (hlas : tl.length + 1 = mNa.getD t 0) (hroom : rkM t (vr fc p9 :: tl) + 1 ≤ R.frames ∧ 8 + (mMl.getD t 0 + 11) + 41 * rkM t (vr fc p9 :: tl) ≤ R.locals) (hcf : cells ≤ R.cells ∧ slots ≤ R.slots) (hcat : (rest.map fun v => v.category).sum ≤ 8)
    (hd : decode cc pc = .ok (.invokevirtual j, 3)) (hls : ls.size = nL) (hP : va_P D vwCl (wd aC ads pth LL mem) H) (hS : va_S (AA LL s.heap.size) s.heap H locs)
    (kk : ∀ (H1 : Heap) (locs1 : List Loc), va_P D vwCl (wd aC ads pth LL mem1) H1 → va_S (AA LL s.heap.size) s.heap H1 locs1 → W p l e R s m args below meth c H1 locs1 cells slots Q (F0 m (pc + 3) ls ((v1.map (rV ads)).toList ++ rest))) :
    W p l e R s m args below meth c H locs cells slots Q (F0 m pc ls ((tl.map (rV ads)).reverse ++ .ref (ads p9) :: rest)) := by
  have hwd := F.wd hP hS
  obtain ⟨hx, hbx, hml, hown, hts, hK, hE, hnod, ⟨hX, hbl, hbn, hb3⟩, ⟨hZ, hq9⟩, hF⟩ := F
  have hM := met_of h903 (simA h903 n) ht hz
  obtain ⟨k1, k2, k3, k4, k5, k6, k7, k8, k9, k10, k11, k12⟩ := mK_spec ht
  rw [if_neg (by rw [r4]; decide)] at k4
  obtain ⟨kp, hkp⟩ := wd_at (aC := aC) hE htag mem
  rw [cEl_obj hfc] at hkp
  have hvw : ∃ q, vwCl[fc]? = some q ∧ q.1 = (mY.getD t x).cls := by
    have hlt : fc < vwCl.length := hfc
    refine ⟨vwCl[fc], List.getElem?_eq_getElem hlt, ?_⟩
    rw [← hq1, List.getD_eq_getElem?_getD, List.getElem?_eq_getElem hlt]
    rfl
  obtain ⟨q, hvq, hq1⟩ := hvw
  have hrecv := va_recv hK hP hvq hkp
  rw [hq1] at hrecv
  refine va_callG (va_runV (As := tl.map (rV ads)) (rest := rest) (C := (mY.getD t x).cls) ⟨hx, hbx, hml, hown, hts⟩ (hM D aC ads pth LL b0 q9 H.size hE hnod hb3 hq9 (fun w hw => by rcases List.mem_cons.mp hw with rfl | hw; exact Or.inl htag; exact okas w hw) e5 hlas) (cwV (mNa.getD t 0 - 1) hts (goodIn_g fun w hw => ?_) rfl rfl rfl ⟨rfl, k3.1, k3.2, k4⟩ hroom) ⟨PcM_blind, hrecv, fun U hU hWm => ?_⟩ rfl (by rw [List.length_map]; omega) hls rfl (lv_room hcat) hd ⟨hcf.1, hcf.2⟩) hS (AA_le hS.1) (fun H1 locs1 hP1 hok1 hS1 => kk H1 locs1 hP1 hS1)
  · unfold wsV at hw
    rcases List.mem_append.mp hw with hw | hw
    · simp only [List.mem_cons, List.not_mem_nil, or_false] at hw
      have hs4 : ∀ w ∈ mWs t, w ∈ lw_g := sW_all t ht
      unfold mWs at hs4
      rw [if_neg (by rw [r4]; decide)] at hs4
      rcases hw with rfl | rfl | rfl | rfl
      · exact hlk
      · exact hs4 _ (by simp)
      · exact hs4 _ (by simp)
      · exact hs4 _ (by simp)
    · exact wsM_in ht w hw
  · obtain ⟨h1, h2, h3, h4, h5, h6, h7, h8⟩ := hwd U hU hWm
    exact ⟨rfl, h1, h2, h3, h4, h5, h6, h7⟩
end Spc2
