section End9
/-! THE CLAIM OUT OF ONE WALK OF THE LAW'S BODY. Your part is whole_start (and what it stands on); all else here is the same for every law, but numbers. -/
def R_law : String := "TentPlainLaw"
def lw_P (b : Addr) (xs : List Int32) (args : Array Value) (s : State) : Prop := args = #[.ref b] ∧ s.IntsAt b xs ∧ xs.length ≤ 3072 ∧ (Jvm.Cond.and given_1 narrow_1).before args s = true
def lw_Q (_ : Array Value) (s : State) (o : Outcome) (t : State) : Prop := o = .returned (some (.int 1)) ∧ Framed s o t [] 601024 7293034
def lw_Z (below : List Frame) (a : Array Value) (s : State) : State → Prop := fun t => ∃ o, t.status = .running ∧ Ended t below o ∧ lw_Q a s o t
/-- the law's own end, with 1 on the stack, nothing written that was there before, its room as the claim has it -/
theorem lw_ret {p : Program} {l : Launch} {e : Env} {s : State} {m : MethodId} {below : List Frame} {meth : Method} {c : Code} {b : Nat} (hx : p.tables.exec = Jvm.exec) (hb : c.code = code) (hr : meth.sig.returnType = ret) (hlocks : meth.locks = false) {pc : Nat} {H : Heap} {ls : Array Slot} (hdg : decode code pc = .ok (.ireturn, 1)) : W p l e room_1 s m #[Value.ref b] below meth c H [] 601024 7293034 (lw_Z below #[Value.ref b] s) (F0 m pc ls [.int 1]) := by
  intro T hT X
  obtain ⟨fs, hret, hrun, hended, hW, hframe⟩ := X.leave (v := some (.int 1)) (hlocks := hlocks) (fun h => by rw [hr] at h; cases h)
  have hmeth' : T.vm.method? m = some meth := X.method'
  refine ⟨T.setFrames fs, ?_, .returned (some (.int 1)), hrun, hended, rfl, ⟨_, rfl⟩, hW, hframe⟩
  jvm_step X.here [X.here.top, hx, hb, hdg, hmeth', hr, ret, narrow_b1]
  (try refine ⟨rfl, ?_⟩); (try refine ⟨rfl, ?_⟩)
  first | (intro acts; rw [hret _ acts rfl rfl rfl]) | rw [hret _ _ rfl rfl rfl]
  exact Steps.refl _
/-- what holds at the law's entry: the machine, the code, the tables' words (any of lw_tbl by 'hts w (by decide +kernel)'), the script of L ints xs at the cell b, what the Statement gives of the start (any of its parts by flat_of_before) -/
def lw_At (p : Program) (s : State) (m : MethodId) (meth : Method) (c : Code) (b L : Nat) (xs : Nat → Int32) : Prop :=
  p.tables.exec = Jvm.exec ∧ c.code = code ∧ meth.sig.returnType = ret ∧ c.maxLocals = 8 ∧ s.vm.findClass R_law = some m.cls ∧ (∀ w ∈ lw_tbl, w.before #[Value.ref b] s = true) ∧ va_X b L xs s s.heap ∧ b < s.heap.size ∧ meth.locks = false ∧ (Jvm.Cond.and given_1 narrow_1).before #[Value.ref b] s = true
/-- the law's end out of the small machine's -/
theorem law_end {p : Program} {l : Launch} {e : Env} {s : State} {m : MethodId} {below : List Frame} {meth : Method} {c : Code} {b : Nat} {H : Heap} {locs : List Loc} {cells slots pc : Nat} {ls : Array Slot} (hx : p.tables.exec = Jvm.exec) (hb : c.code = code) (hr : meth.sig.returnType = ret) (hlocks : meth.locks = false) (hdg : decode code pc = .ok (.ireturn, 1)) (hf : ∀ q ∈ locs, s.heap.size ≤ q.base) (h1 : cells ≤ 601024) (h2 : slots ≤ 7293034) : W p l e room_1 s m #[Value.ref b] below meth c H locs cells slots (lw_Z below #[Value.ref b] s) (F0 m pc ls [.int 1]) :=
  va_forget hf (W.widen (k := 601024) (n := 7293034) h1 h2 (lw_ret hx hb hr hlocks hdg))
theorem kRt_256 : kRt 256 = some .boolean := by decide +kernel
theorem kMl_256 : kMl 256 = 8 := by decide +kernel
set_option maxRecDepth 100000 in
set_option maxHeartbeats 4000000 in
theorem ret_law {p : Program} {l : Launch} {e : Env} {s : State} {m : MethodId} {below : List Frame} {meth : Method} {c : Code} {b : Nat} {D : va_G} {aC : Nat → ClassId} {ads : List Nat → Nat} {pth : Nat → List Nat} {LL : List Nat} {L : Nat} {xs : Nat → Int32} {mem' : mM} (hx : p.tables.exec = Jvm.exec) (hb : c.code = code) (hr : meth.sig.returnType = ret) (hlocks : meth.locks = false) (hLA : ∀ a ∈ LL, s.heap.size ≤ a) (hc : mem'.2.2 ≤ 512) :
    RetH p l e room_1 s m #[Value.ref b] below meth c (lw_Z below #[Value.ref b] s) D aC ads pth LL (AA LL s.heap.size) L xs 256 (fun x => 661 + x) (fun x => 255280 + 6 * x) (some (vi (oN 1)), mem') := by
  intro pc ls st mem9 v9 hst hrb hr9
  obtain ⟨ig, len, fa, fb, fc, hd, hrs, hi, hcs⟩ := step_inr hst
  have hm9 : mem9 = mem' := congrArg Prod.snd hr9
  have hv9 : cRet 256 v9 = some (vi (oN 1)) := congrArg Prod.fst hr9
  subst hm9
  intro rl H locs ⟨hl, hn, okl, oks, hP, hD, hS⟩
  have hlen9 := rs_len hrs
  have hfree : ∀ q ∈ locs, s.heap.size ≤ q.base := fun q hq => (hS.2.2 q hq).elim (hLA _) id
  have fin : ∀ (u : mV), st = [u] → rV ads u = .int 1 → decode code pc = .ok (.ireturn, 1) → W p l e room_1 s m #[Value.ref b] below meth c H locs (661 + mem9.2.2) (255280 + 6 * mem9.2.2) (lw_Z below #[Value.ref b] s) (F0 m pc rl (st.map (rV ads))) := fun u h1 h2 h3 => by
    subst h1
    show W p l e room_1 s m #[Value.ref b] below meth c H locs (661 + mem9.2.2) (255280 + 6 * mem9.2.2) (lw_Z below #[Value.ref b] s) (F0 m pc rl [rV ads u])
    rw [h2]
    exact law_end hx hb hr hlocks h3 hfree (by omega) (by omega)
  have hk := kRt_256
  rcases hcs with ⟨j, rfl⟩ | ⟨j, rfl⟩ | rfl | rfl | rfl | rfl
  · exfalso
    have hi : (bif Nat.blt fa 900 then callT fa fb fc pc ls st mem9 true else bif Nat.beq fa 903 || Nat.beq fa 904 then intr fa pc ls st mem9 else none) = some (.inr (.inl (true, v9))) := hi
    cases hb9 : Nat.blt fa 900 with
    | true => rw [hb9] at hi; unfold callT at hi; obtain ⟨-, hi⟩ := bif_inv hi; cases hi
    | false => rw [hb9] at hi; exact ni_bif ni_intr ni_none _ hi
  · exfalso
    have hi : (bif Nat.blt fa 900 then callT fa fb fc pc ls st mem9 false else bif Nat.beq fa 903 || Nat.beq fa 904 then none else intr fa pc ls st mem9) = some (.inr (.inl (true, v9))) := hi
    cases hb9 : Nat.blt fa 900 with
    | true => rw [hb9] at hi; unfold callT at hi; obtain ⟨-, hi⟩ := bif_inv hi; cases hi
    | false => rw [hb9] at hi; exact ni_bif ni_none ni_intr _ hi
  · have hl9 : len = _ := hlen9 (by show Nat.succ _ ≠ 0; exact Nat.succ_ne_zero _)
    subst hl9
    have hi : (match (generalizing := false) st with
      | [.inl (.inl v)] => (match (generalizing := false) kRt 256 with
        | some .int => some (.inr (.inl (true, some (vi v))))
        | some .boolean => some (.inr (.inl (isZS v, some (vi v))))
        | _ => none)
      | [.inl (.inr (.inr n))] => (match (generalizing := false) kRt 256 with
        | some .int => some (.inr (.inl (true, some (vk n))))
        | some .boolean => some (.inr (.inl (isZk n, some (vk n))))
        | _ => none)
      | _ => none : Option mO) = some (.inr (.inl (true, v9))) := hi
    rw [hk] at hi
    have nzv : ∀ w : mV, cRet 256 (some w) = some (vi (oN 1)) → rV ads w = .int 1 := fun w h => by
      have h2 := cRet_map ads 256 (some w)
      rw [h] at h2
      exact (Option.some.inj h2).symm
    split at hi
    · next v _ =>
      have e9 : v9 = some (vi v) := by
        have h2 := Sum.inr.inj (Option.some.inj hi)
        exact (congrArg Prod.snd (Sum.inl.inj h2)).symm
      rw [e9] at hv9
      exact fin _ rfl (nzv _ hv9) hd
    · next n _ =>
      have e9 : v9 = some (vk n) := by
        have h2 := Sum.inr.inj (Option.some.inj hi)
        exact (congrArg Prod.snd (Sum.inl.inj h2)).symm
      rw [e9] at hv9
      exact fin _ rfl (nzv _ hv9) hd
    · cases hi
  · exfalso
    have hi : (match (generalizing := false) st with
      | [.inl (.inr (.inl v))] => (match (generalizing := false) kRt 256 with
        | some .long => some (.inr (.inl (true, some (vl v))))
        | _ => none)
      | _ => none : Option mO) = some (.inr (.inl (true, v9))) := hi
    rw [hk] at hi
    split at hi <;> cases hi
  · exfalso
    have hi : (match (generalizing := false) st with
      | [.inr (some (c, p))] => (match (generalizing := false) kRt 256 with
        | some (.object _) => some (.inr (.inl (true, some (vr c p))))
        | some (.array _) => some (.inr (.inl (true, some (vr c p))))
        | _ => none)
      | _ => none : Option mO) = some (.inr (.inl (true, v9))) := hi
    rw [hk] at hi
    split at hi <;> cases hi
  · exfalso
    have hi : (match (generalizing := false) st with
      | [] => (match (generalizing := false) kRt 256 with
        | none => some (.inr (.inl (true, none)))
        | _ => none)
      | _ => none : Option mO) = some (.inr (.inl (true, v9))) := hi
    rw [hk] at hi
    split at hi <;> cases hi
/-- from the entry, for every script, the law comes to its end with true -/
theorem whole_start {p : Program} {e : Env} {s : State} {m : MethodId} {below : List Frame} {meth : Method} {c : Code} (l : Launch) (hflags : l.flags = flags0) {b L : Nat} {xs : Nat → Int32} (hL : L ≤ 3072) (C0 : lw_At p s m meth c b L xs) : W p l e room_1 s m #[Value.ref b] below meth c s.heap [] 0 0 (lw_Z below #[Value.ref b] s) (entryFrame m ([Value.ref b] : List Value).toArray 8) := by
  obtain ⟨hx, hb, hr, hml, hown, hts, hX, hbl, hlocks, hgv⟩ := C0
  have hst : l.stackTraces = false := by
    unfold Launch.stackTraces
    rw [hflags]
    decide +kernel
  refine start_walk l hx hb hml hown hts hX hbl hgv (fun D aC ads pth LL q9 rl H locs F hLA hRel => ?_)
  obtain ⟨mem', hrun, hex⟩ := law_ok (L := L) (xs := xs) hL 512 0 400 mem0 (by omega) (by omega) (by omega) (by omega) rI_0
  obtain ⟨n, hn⟩ := run_some L xs hrun
  have hex : mem'.2.2 ≤ 512 := Nat.le_trans hex (by show 0 + 512 ≤ 512; omega)
  have hcap : ∀ x, x ≤ mem'.2.2 → 661 + x ≤ room_1.cells ∧ 255280 + 6 * x ≤ room_1.slots := fun x h => ⟨by show 661 + x ≤ 601024; omega, by show 255280 + 6 * x ≤ 7293034; omega⟩
  have hsp := spc_law (Q := lw_Z below #[Value.ref b] s) (e := e) (below := below) (meth := meth) hst h903 F 661 255280 mem'.2.2 (by omega) hcap (by show 100 ≤ 2048; omega) (by show 6000 ≤ 84000; omega)
  obtain ⟨-, -, -, -, hg, hK, hE, hnd, ⟨-, -, hbn, hb3⟩, hZ, -⟩ := id F
  have hFx : Fx p s m #[Value.ref b] c D aC ads pth LL (AA LL s.heap.size) L xs b q9 256 := ⟨hx, hb, hml.trans kMl_256.symm, hown, hg, hK, hE, ⟨hX, hbl, fun q => q.elim hbn (fun z => absurd z (Nat.not_le.mpr hbl)), hb3⟩, hZ⟩
  have hW := simA (h903 (l := l)) n p e room_1 s m #[Value.ref b] below meth c (lw_Z below #[Value.ref b] s) D aC ads pth LL b q9 256 (fun x => 661 + x) (fun x => 255280 + 6 * x) 63 (23, ls0, [], mem0) (some (vi (oN 1)), mem') hn hFx hnd (by show 63 ≤ 2048; omega) (by show 41 * 63 ≤ 84000; omega) (by omega) hcap hsp (ret_law hx hb hr hlocks hLA hex)
  have hRel : RelS D aC ads pth LL (AA LL s.heap.size) s (kMl 256) ls0 [] mem0 rl H locs := by
    rw [kMl_256]
    exact hRel
  exact hW rl H locs hRel
set_option maxHeartbeats 4000000 in
theorem lw_walk (l : Launch) (hflags : l.flags = flags0) (b : Addr) (xs : List Int32) : MetFree l x (headSpec (Jvm.Cond.code x code maxLocals ret :: tables_1) room_1) (lw_P b xs) (fun _ _ _ _ _ => True) lw_Q := by
  refine MetFree.of_bodyS (code := code) (maxLocals := maxLocals) (ret := ret) (by decide) ?_ ?_
  · intro args s m h hn
    obtain ⟨meth, c, h1, h2, h3, h4, h5, h6, -, -⟩ := Cond.code_spec hn (atoms_spec (ws := Jvm.Cond.code x code maxLocals ret :: tables_1) h _ List.mem_cons_self)
    exact ⟨meth, c, h1, h2, h3, h4, h5, h6⟩
  · intro p e s m args below meth c s₁ B hml0 hP _
    obtain ⟨rfl, hx, hbd, hgv⟩ := hP
    obtain ⟨scr, harrAt, hlist, hof, hsmall⟩ := hx
    obtain ⟨hcb, hkn, -, -⟩ := State.arrayAt?_spec harrAt
    have hown : s.vm.findClass R_law = some m.cls := findClass_of_methodNamed B.named
    have hts0 : ∀ c ∈ (Jvm.Cond.code x code maxLocals ret :: tables_1), c.before #[Value.ref b] s = true := atoms_spec (ws := Jvm.Cond.code x code maxLocals ret :: tables_1) B.pre
    have hts : ∀ w ∈ lw_tbl, w.before #[Value.ref b] s = true := k2_hts_sels lw_privs (fun w hw => hts0 w (List.mem_cons_of_mem _ hw)) lw_privs_ok
    have hml : c.maxLocals = 8 := B.maxLocals_eq (hts0 _ List.mem_cons_self)
    have X₀ : Stand p l e room_1 s m #[Value.ref b] below meth c s₁ [] 0 0 := Stand.of_body B
    have hh0 : s₁.heap = s.heap := by rw [B.state]; rfl
    have hsz : scr.slots.size = xs.length := by rw [← Array.length_toList, hlist, List.length_map]
    have hval : ∀ j : Nat, j < xs.length → scr.slots[j]? = some (.int (xs.getD j 0)) := fun j hj => by
      rw [← Array.getElem?_toList, hlist]
      simp [hj]
    have hbl : b < s.heap.size := (Array.getElem?_eq_some_iff.mp hcb).1
    have hX : va_X b xs.length (fun j => xs.getD j 0) s s.heap := ⟨scr, hcb, hof, hkn, hsz, hval⟩
    have K : W p l e room_1 s m #[Value.ref b] below meth c s₁.heap [] 0 0 (lw_Z below #[Value.ref b] s) (entryFrame m ([Value.ref b] : List Value).toArray 8) := by
      rw [hh0]
      exact whole_start l hflags hbd ⟨B.exec, B.bytes, B.returns, hml, hown, hts, hX, hbl, B.notSynchronized, hgv⟩
    obtain ⟨t, a1, o, b1, b2, b3⟩ := K s₁ rfl X₀
    exact ⟨t, o, a1, b1, b2, b3⟩
theorem lw_pre_spec {args : Array Value} {s : State} (h : (Jvm.Cond.and given_1 narrow_1).before args s = true) (hr : rest_1_c.before args s = true) : ∃ (b : Addr) (xs : List Int32), lw_P b xs args s := by
  have hs := flat_of_before _ h
  have hq := flat_of_before _ hr
  have hc : (Cond.count 1).before args s = true := hs _ (by decide +kernel)
  have harr : (Cond.arrayOf (.arg 0) .int).before args s = true := hs _ (by decide +kernel)
  have hle : (Cond.le (.length (.arg 0)) (.int 3072)).before args s = true := hs _ (by decide +kernel)
  have hlen : (Cond.isInt (.length (.arg 0))).before args s = true := hq _ (by decide +kernel)
  have hall : (Cond.all (.arg 0) (.isInt (.elem (.arg 0) (.index 0)))).before args s = true := hq _ (by decide +kernel)
  obtain ⟨b, xs, hb, hx⟩ := State.ints_of_pre rfl harr hlen hall
  have hsm : xs.length < 2 ^ 31 := hx.choose_spec.2.2.2
  have hev : (Term.length (.arg 0)).eval args s none [] s = some (.int xs.length.toInt32) := hx.length_eval hb
  have hv := Cond.le_ints hev (show (Term.int 3072).eval args s none [] s = some (.int 3072) from rfl)
  have hd : xs.length.toInt32 ≤ 3072 := by
    simpa [Cond.before, Cond.holds, hv] using hle
  have hN : xs.length ≤ 3072 := (Int32.ofNat_le_ofNat hsm (by decide)).mp (show Int32.ofNat xs.length ≤ Int32.ofNat 3072 from hd)
  exact ⟨b, xs, Cond.one_arg hc (show args[0]? = some (.ref b) from hb), hx, hN, h⟩
theorem lw_comes (l : Launch) (hflags : l.flags = flags0) : Comes l x (Jvm.Cond.code x code maxLocals ret :: tables_1) room_1 (fun tb e args s => Calls_1 tb e args s ∧ rest_1 tb e args s ∧ Pre_1 tb e args s)
    (fun _ _ args s o t => lw_Q args s o t) := by
  intro p e ha hc hk s m args below hf hfit hheap happ hpre
  obtain ⟨b, xs, hP⟩ := lw_pre_spec hpre.2.2 hpre.2.1
  obtain ⟨k, o, h1, h2, h3, hQ⟩ := lw_walk l hflags b xs p e ha hc hk s m args below hf ((Spec.applies_iff_loose hf).mp happ).1 hP trivial
  exact ⟨k, o, h1, h2, h3, hQ⟩
theorem lw_frame {s t : State} {o : Outcome} {args : Array Value} (h : Framed s o t [] 601024 7293034) :
    Framed s o t (fieldLocs frame_1_writes args s ++ arrayLocs frame_1_arrays args s ++ staticLocs frame_1_statics s) 601024 7293034 := h
theorem lw_limb (L : Cond) (hL : ∀ (args : Array Value) (s t : State), L.after args s (.returned (some (.int 1))) t = true) :
    ArmFor flags0 classFile x code maxLocals ret World_1 tables_1 room_1 Calls_1 rest_1 Pre_1
      (fun tb e a s o t => postC L tb e a s o t ∧ Framed s o t (fieldLocs frame_1_writes a s ++ arrayLocs frame_1_arrays a s ++ staticLocs frame_1_statics s) 601024 7293034) := by
  intro l hflags _ _ p e ha hc hk s m args below hf hfit hheap happ hpre
  obtain ⟨k, o, h1, h2, h3, rfl, hF⟩ := lw_comes l hflags p e ha hc hk s m args below hf hfit hheap happ hpre
  exact ⟨k, _, h1, h2, h3, hL args s _, lw_frame hF⟩
theorem i_vc : Claimed_1_1 ∧ Claimed_1_2 := ⟨lw_limb limb_1_1 (fun args s t => by simp [limb_1_1, Cond.after, Cond.holds, Cond.value]), lw_limb limb_1_2 (fun args s t => Cond.after_iff.mpr (by
  first | (rw [show limb_1_2 = Cond.eq .result (.int 1) from rfl, Cond.eq_ints (x := 1) (y := 1) rfl rfl]; simp; done) | (simp [limb_1_2, Cond.value, Term.eval]; done)))⟩
end End9
