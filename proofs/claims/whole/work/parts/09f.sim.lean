/-! THE SMALL MACHINE STANDS FOR THE REAL ONE: the theorem -/
def RetH (p : Program) (l : Launch) (e : Env) (R : Room) (s : State) (m : MethodId) (args : Array Value) (below : List Frame) (meth : Method) (c : Code) (Q : State → Prop) (D : va_G) (aC : Nat → ClassId) (ads : List Nat → Nat) (pth : Nat → List Nat) (LL : List Nat) (A : Nat → Prop) (L : Nat) (xs : Nat → Int32) (mi : Nat) (cf sf : Nat → Nat) (r : Option mV × mM) : Prop :=
  ∀ pc ls st mem v, mStep L xs mi pc ls st mem = some (.inr (.inl (true, v))) → retB (kRt mi) v = true → (cRet mi v, mem) = r → WA p l e R s m args below meth c Q D aC ads pth LL A mi cf sf (pc, ls, st, mem)
def SimA (l : Launch) (L : Nat) (xs : Nat → Int32) (n : Nat) : Prop :=
  ∀ (p : Program) (e : Env) (R : Room) (s : State) (m : MethodId) (args : Array Value) (below : List Frame) (meth : Method) (c : Code) (Q : State → Prop) (D : va_G) (aC : Nat → ClassId) (ads : List Nat → Nat) (pth : Nat → List Nat) (LL : List Nat) (b0 q9 mi : Nat) (cf sf : Nat → Nat) (rk : Nat) (sm : mS) (r : Option mV × mM), exec L xs n mi rk sm = some r → Fx p s m args c D aC ads pth LL (AA LL s.heap.size) L xs b0 q9 mi → LL.Nodup → rk ≤ R.frames → 41 * rk ≤ R.locals → 25 ≤ rk → (∀ x, x ≤ r.2.2.2 → cf x ≤ R.cells ∧ sf x ≤ R.slots) → Spc p l e R s m args below meth c Q D aC ads pth LL (AA LL s.heap.size) mi cf sf r.2.2.2 → RetH p l e R s m args below meth c Q D aC ads pth LL (AA LL s.heap.size) L xs mi cf sf r → WA p l e R s m args below meth c Q D aC ads pth LL (AA LL s.heap.size) mi cf sf sm
/-- what the calls of text's indexOf need -/
def H903 (l : Launch) : Prop :=
  ∀ (p : Program) (e : Env) (R : Room) (s : State) (m : MethodId) (args : Array Value) (below : List Frame) (meth : Method) (c : Code) (Q : State → Prop) (D : va_G) (aC : Nat → ClassId) (ads : List Nat → Nat) (pth : Nat → List Nat) (LL : List Nat) (L : Nat) (xs : Nat → Int32) (b0 q9 mi : Nat) (cf sf : Nat → Nat) (pc j : Nat) (ls : List (Option mV)) (st : List mV) (mem : mM) (s' : mS), Fx p s m args c D aC ads pth LL (AA LL s.heap.size) L xs b0 q9 mi → 25 ≤ R.frames → 1025 ≤ R.locals → (cf mem.2.2 ≤ R.cells ∧ sf mem.2.2 ≤ R.slots) → decode (mBy.getD mi code) pc = .ok (.invokevirtual j, 3) → (j, 903) ∈ iRs.getD (kOw mi) [] → intr 903 pc ls st mem = some (.inl [(true, s')]) → WA p l e R s m args below meth c Q D aC ads pth LL (AA LL s.heap.size) mi cf sf s' → WA p l e R s m args below meth c Q D aC ads pth LL (AA LL s.heap.size) mi cf sf (pc, ls, st, mem)

theorem mK_spec {t : Nat} (h : t < 256) : let y := mY.getD t x
    y.cls = cN (mOw.getD t 0) ∧ plainName y.cls = true ∧ (y.cls ≠ "java/lang/invoke/MethodHandle" ∧ y.cls ≠ "java/lang/invoke/VarHandle") ∧ (parseMethodDescriptor y.desc).map (fun d => d.parameters.length) = some (mNa.getD t 0 - (if mSt.getD t false = true then 0 else 1)) ∧
    mMl.getD t 0 ≤ 13 ∧ 25 ≤ kRk t ∧ kOw t = mOw.getD t 0 ∧ kMl t = mMl.getD t 0 ∧ kRt t = mRt.getD t none ∧ kOw t ≠ 12 ∧
    (mSt.getD t false = false → oCi.getD (mOw.getD t 0) 99 < 11 ∧ (vwCl.getD (oCi.getD (mOw.getD t 0) 99) ("", fun _ => ("", "", "", false), 0)).1 = y.cls ∧ 1 ≤ mNa.getD t 0) ∧ mNa.getD t 0 ≤ mMl.getD t 0 := by
  have h1 := mK_all t h
  unfold mK at h1
  simp only [Bool.and_eq_true, decide_eq_true_eq, Bool.or_eq_true] at h1
  obtain ⟨⟨⟨⟨⟨⟨⟨⟨⟨⟨⟨⟨a1, a2⟩, a3⟩, a4⟩, a5⟩, a6⟩, a7⟩, a8⟩, a9⟩, a10⟩, a11⟩, a12⟩, a13⟩ := h1
  refine ⟨a1, a2, ⟨a3, a4⟩, a5, a6, a7, a8, a9, a10, a11, fun hs => ?_, a13⟩
  rcases a12 with q | ⟨⟨q1, q2⟩, q3⟩
  · rw [hs] at q; cases q
  · exact ⟨q1, q2, q3⟩
theorem wsM_in {t : Nat} (h : t < 256) : ∀ w ∈ wsM t, w ∈ lw_g := fun w hw => by
  rcases List.mem_cons.mp hw with rfl | hw
  · exact cW_all t h
  · exact hw
theorem lv_args_of (ads : List Nat → Nat) : ∀ (as : List mV) (i : Nat), preOne as = true → ∀ (j : Nat) (w : mV), as[j]? = some w → (i + j, rV ads w) ∈ lv_args i (as.map (rV ads))
  | [], _, _, _, _, h => by simp at h
  | [a], i, _, j, w, h => by
    cases j with
    | zero => cases h; exact List.mem_cons_self
    | succ j => cases h
  | a :: b :: as, i, h1, j, w, h => by
    have h1 : (Nat.beq (mCat a) 1 && preOne (b :: as)) = true := h1
    rw [Bool.and_eq_true] at h1
    have hc : (rV ads a).category ≠ 2 := by
      rw [rV_cat]
      have := Nat.eq_of_beq_eq_true h1.1
      omega
    show (i + j, rV ads w) ∈ (i, rV ads a) :: lv_args (if (rV ads a).category = 2 then i + 2 else i + 1) ((b :: as).map (rV ads))
    rw [if_neg hc]
    cases j with
    | zero => cases h; exact List.mem_cons_self
    | succ j =>
      have h2 := lv_args_of ads (b :: as) (i + 1) h1.2 j w h
      rw [show i + (j + 1) = i + 1 + j by omega]
      exact List.mem_cons_of_mem _ h2
theorem lg_len (ads : List Nat → Nat) : ∀ (as : List mV), (lg_sl (as.map (rV ads))).length = (as.map mCat).sum
  | [] => rfl
  | a :: as => by
    have h2 := lg_len ads as
    unfold lg_sl at h2 ⊢
    rw [List.map_cons, List.flatMap_cons, List.length_append, h2, List.map_cons, List.sum_cons]
    congr 1
    rcases a with (a | a | a) | (_ | a) <;> rfl
theorem cArg_map (ads : List Nat → Nat) (t : Nat) (as : List mV) : (cArg t as).map (rV ads) = as.map (rV ads) := by
  unfold cArg
  cases kInl t with
  | true => rfl
  | false =>
    show (as.map nz).map (rV ads) = _
    rw [List.map_map]
    exact List.map_congr_left fun v _ => rV_nz ads v
theorem cRet_map (ads : List Nat → Nat) (t : Nat) (v : Option mV) : (cRet t v).map (rV ads) = v.map (rV ads) := by
  unfold cRet
  cases kInl t with
  | true => rfl
  | false =>
    show (v.map nz).map (rV ads) = _
    cases v with
    | none => rfl
    | some w => show some (rV ads (nz w)) = some (rV ads w); rw [rV_nz]
theorem cArg_ok {t : Nat} {as : List mV} (h : ∀ w ∈ as, okV w) : ∀ w ∈ cArg t as, okV w := by
  unfold cArg
  cases kInl t with
  | true => exact h
  | false =>
    intro w hw
    obtain ⟨u, hu, rfl⟩ := List.mem_map.mp hw
    exact okV_nz (h u hu)
theorem cRet_ok {t : Nat} {v : Option mV} (h : ∀ w, v = some w → okV w) : ∀ w, cRet t v = some w → okV w := by
  unfold cRet
  cases kInl t with
  | true => exact h
  | false =>
    intro w hw
    cases v with
    | none => cases hw
    | some u => cases hw; exact okV_nz (h u rfl)
theorem mCat_nz (v : mV) : mCat (nz v) = mCat v := by rcases v with (v | v | v) | v <;> rfl
theorem preOne_nz : ∀ as : List mV, preOne (as.map nz) = preOne as
  | [] => rfl
  | [_] => rfl
  | a :: b :: as => by
    show (Nat.beq (mCat (nz a)) 1 && preOne ((b :: as).map nz)) = (Nat.beq (mCat a) 1 && preOne (b :: as))
    rw [preOne_nz (b :: as), mCat_nz]
theorem allOne_nz (k : Nat) (as : List mV) : allOne k (as.map nz) = allOne k as := by
  unfold allOne
  rw [preOne_nz, List.map_map]
  congr 3
  exact List.map_congr_left fun v _ => mCat_nz v
theorem cArg_one {k t : Nat} {as : List mV} (h : allOne k as = true) : allOne k (cArg t as) = true := by
  unfold cArg
  cases kInl t with
  | true => exact h
  | false => show allOne k (as.map nz) = true; rw [allOne_nz]; exact h
theorem allOne_sp {k : Nat} {as : List mV} (h : allOne k as = true) : preOne as = true ∧ (as.map mCat).sum ≤ k := by
  unfold allOne at h
  rw [Bool.and_eq_true] at h
  exact ⟨h.1, Nat.le_of_ble_eq_true h.2⟩
theorem cArg_len {t : Nat} {as : List mV} : (cArg t as).length = as.length := by
  unfold cArg
  cases kInl t <;> simp
theorem rkM_le (t : Nat) (as : List mV) : kRk t ≤ rkM t as := by unfold rkM; exact Nat.le_add_right _ _
/-- a run gives a contract -/
theorem met_of {l : Launch} {L : Nat} {xs : Nat → Int32} (h903 : H903 l) {n t : Nat} (hA : SimA l L xs n) (ht : t < 256) {as : List mV} {mem mem' : mM} {v : Option mV} (hx0 : exec L xs n t (rkM t as) (0, ini t as, [], mem) = some (v, mem')) : MetM l L xs t as mem v mem' := by
  intro D aC ads pth LL b0 q9 sz E hnod h3 h4 hok hone hlen
  obtain ⟨k1, k2, k3, k4, k5, k6, k7, k8, k9, k10, k11, k12⟩ := mK_spec ht
  refine Met.ofW (cc := mBy.getD t code) (maxL := mMl.getD t 0) (ret := mRt.getD t none) (ws' := lw_g) k2 rfl ?_
  intro p e s m args below meth c s₁ B hml hv
  obtain ⟨rfl, hsz, hP, hK, hX, hbs, hbn, hZ⟩ := hv
  have hlocks := B.notSynchronized
  have hts0 := atoms_spec (ws := wsM t) B.pre
  have hts : ∀ w ∈ lw_g, w.before (as.map (rV ads)).toArray s = true := fun w hw => hts0 w (List.mem_cons_of_mem _ hw)
  have hown : s.vm.findClass (mY.getD t x).cls = some m.cls := findClass_of_methodNamed B.named
  rw [k1, ← k7] at hown
  subst hsz
  have hl0 := lv_entry (as.map (rV ads)) (n := mMl.getD t 0) (by rw [lg_len ads as]; rw [k8] at hone; exact (allOne_sp hone).2)
  rw [lg_entry_eq]
  have hF : Fx p s m (as.map (rV ads)).toArray c D aC ads pth LL (AA LL s.heap.size) L xs b0 q9 t :=
    ⟨B.exec, B.bytes, by rw [hml, k8], hown, hts, hK, E, ⟨hX, hbs, fun q => q.elim hbn (fun z => by omega), h3⟩, ⟨hZ, h4⟩⟩
  have hW := hA p e (headSpec (wsM t) { frames := rkM t as, cells := 0, slots := 0, locals := 41 * rkM t as }).room s m (as.map (rV ads)).toArray below meth c (MQ below (QcM D aC ads pth LL v mem' s.heap.size) (as.map (rV ads)).toArray s 0 0 (AA LL s.heap.size)) D aC ads pth LL b0 q9 t (fun _ => 0) (fun _ => 0) (rkM t as) (0, ini t as, [], mem) (v, mem') hx0 hF hnod (Nat.le_refl _) (Nat.le_refl _) (Nat.le_trans k6 (rkM_le t as)) (fun _ _ => ⟨Nat.le_refl _, Nat.le_refl _⟩) ?_ ?_
  · refine hW _ s.heap [] ⟨lv_less (by rw [k8]; exact hl0) (fun q hq => ?_), ?_, ?_, fun w hw => absurd hw List.not_mem_nil, hP, wd_D hnod, va_S.rf⟩
    · obtain ⟨i, u⟩ := q
      obtain ⟨w, hw, rfl⟩ := toLv_mem.mp hq
      unfold ini at hw
      rw [List.getElem?_append] at hw
      split at hw
      · rw [List.getElem?_map] at hw
        cases h9 : as[i]? with
        | none => rw [h9] at hw; cases hw
        | some z =>
          rw [h9] at hw
          cases hw
          have := lv_args_of ads as 0 (allOne_sp hone).1 i w h9
          rwa [Nat.zero_add] at this
      · rw [List.getElem?_replicate] at hw
        split at hw <;> cases hw
    · show (ini t as).length = kMl t
      unfold ini
      rw [List.length_append, List.length_map, List.length_replicate, k8]
      omega
    · intro i w hw
      have hw : (ini t as)[i]? = some (some w) := hw
      unfold ini at hw
      rw [List.getElem?_append] at hw
      split at hw
      · rw [List.getElem?_map] at hw
        cases h9 : as[i]? with
        | none => rw [h9] at hw; cases hw
        | some z =>
          rw [h9] at hw
          cases hw
          exact hok w (List.mem_of_getElem? h9)
      · rw [List.getElem?_replicate] at hw
        split at hw <;> cases hw
  · intro pc j fa ls st mem9 s' hd hi _ hw
    rcases hd with ⟨hd, hfa, hj⟩ | ⟨-, hfa, hj⟩
    · rcases hfa with rfl | rfl
      · exact h903 p e _ s m _ below meth c _ D aC ads pth LL L xs b0 q9 t _ _ pc j ls st mem9 s' hF (Nat.le_trans k6 (rkM_le t as)) (by show 1025 ≤ 41 * rkM t as; have := rkM_le t as; omega) ⟨Nat.le_refl _, Nat.le_refl _⟩ hd hj hi hw
      · exact absurd rfl (iRs_law _ k10 _ hj).1
    · subst hfa
      exact absurd rfl (iRs_law _ k10 _ hj).2
  · intro pc ls st mem9 v9 hst hrb hr9
    cases hr9
    obtain ⟨ig, len, fa, fb, fc, hd, hr, hi, hc⟩ := step_inr hst
    intro rl H locs ⟨hl, hn, okl, oks, hP, hD, hS⟩
    have hlen9 := rs_len hr
    have hret : meth.sig.returnType = mRt.getD t none := B.returns
    rw [← k9] at hret
    have hfree : ∀ q ∈ locs, AA LL s.heap.size q.base := hS.2.2
    have hbx := B.bytes
    have hx := B.exec
    have fin9 : ∀ (rv : Option Value), rv = (cRet t v9).map (rV ads) → (∀ w, v9 = some w → okV w) → ∀ u : State, u.heap = H → s.WarmedH u.vm → QcM D aC ads pth LL (cRet t v9) mem' s.heap.size (as.map (rV ads)).toArray s (.returned rv) u := fun rv h1 h2 u hu _ => ⟨⟨by rw [h1], cRet_ok h2, by rw [hu]; exact hP⟩, by rw [show va_F (AA LL s.heap.size) s u ↔ va_F (AA LL s.heap.size) s u from Iff.rfl]; exact hS.F hu⟩
    rcases hc with ⟨j, rfl⟩ | ⟨j, rfl⟩ | rfl | rfl | rfl | rfl
    · exfalso
      have hi : (bif Nat.blt fa 900 then callT fa fb fc pc ls st mem' true else bif Nat.beq fa 903 || Nat.beq fa 904 then intr fa pc ls st mem' else none) = some (.inr (.inl (true, v9))) := hi
      cases hb9 : Nat.blt fa 900 with
      | true => rw [hb9] at hi; unfold callT at hi; obtain ⟨-, hi⟩ := bif_inv hi; cases hi
      | false => rw [hb9] at hi; exact ni_bif ni_intr ni_none _ hi
    · exfalso
      have hi : (bif Nat.blt fa 900 then callT fa fb fc pc ls st mem' false else bif Nat.beq fa 903 || Nat.beq fa 904 then none else intr fa pc ls st mem') = some (.inr (.inl (true, v9))) := hi
      cases hb9 : Nat.blt fa 900 with
      | true => rw [hb9] at hi; unfold callT at hi; obtain ⟨-, hi⟩ := bif_inv hi; cases hi
      | false => rw [hb9] at hi; exact ni_bif ni_none ni_intr _ hi
    · have hl9 : len = _ := hlen9 (by show Nat.succ _ ≠ 0; exact Nat.succ_ne_zero _)
      subst hl9
      have hi : (match (generalizing := false) st with
        | [.inl (.inl v)] => (match (generalizing := false) kRt t with
          | some .int => some (.inr (.inl (true, some (vi v))))
          | some .boolean => some (.inr (.inl (isZS v, some (vi v))))
          | _ => none)
        | [.inl (.inr (.inr n))] => (match (generalizing := false) kRt t with
          | some .int => some (.inr (.inl (true, some (vk n))))
          | some .boolean => some (.inr (.inl (isZk n, some (vk n))))
          | _ => none)
        | _ => none : Option mO) = some (.inr (.inl (true, v9))) := hi
      split at hi
      · split at hi
        · next hk9 =>
          cases hi
          rw [hk9] at hret
          exact W.iret hx hbx hret (fin9 _ (by rw [cRet_map]; rfl) (fun w hw => by cases hw; trivial)) hfree hd
        · next hk9 =>
          cases hz : isZS _ with
          | false => rw [hz] at hi; cases hi
          | true =>
            rw [hz] at hi
            cases hi
            rw [isZS_eq] at hz
            rw [hk9] at hret
            exact W.zret hx hbx hret (isZ_nar hz) (fin9 _ (by rw [cRet_map]; rfl) (fun w hw => by cases hw; trivial)) hfree hd
        · cases hi
      · have ho := oks _ List.mem_cons_self
        split at hi
        · next hk9 =>
          cases hi
          rw [hk9] at hret
          exact W.iret hx hbx hret (fin9 _ (by rw [cRet_map]; rfl) (fun w hw => by cases hw; exact ho)) hfree hd
        · next n _ _ hk9 =>
          cases hz : isZk n with
          | false => rw [hz] at hi; cases hi
          | true =>
            rw [hz] at hi
            cases hi
            have hz2 : isZ (cI n) = true := by
              cases n with
              | negSucc j => cases hz
              | ofNat j =>
                have hj := Nat.le_of_ble_eq_true (show Nat.ble j 1 = true from hz)
                rcases (show j = 0 ∨ j = 1 by omega) with rfl | rfl <;> rfl
            rw [hk9] at hret
            exact W.zret hx hbx hret (isZ_nar hz2) (fin9 _ (by rw [cRet_map]; rfl) (fun w hw => by cases hw; exact ho)) hfree hd
        · cases hi
      · cases hi
    · have hl9 : len = _ := hlen9 (by show Nat.succ _ ≠ 0; exact Nat.succ_ne_zero _)
      subst hl9
      have hi : (match (generalizing := false) st with
        | [.inl (.inr (.inl v))] => (match (generalizing := false) kRt t with
          | some .long => some (.inr (.inl (true, some (vl v))))
          | _ => none)
        | _ => none : Option mO) = some (.inr (.inl (true, v9))) := hi
      split at hi
      · split at hi
        · next hk9 =>
          cases hi
          rw [hk9] at hret
          exact W.lret hx hbx hret (fin9 _ (by rw [cRet_map]; rfl) (fun w hw => by cases hw; trivial)) hfree hd
        · cases hi
      · cases hi
    · have hl9 : len = _ := hlen9 (by show Nat.succ _ ≠ 0; exact Nat.succ_ne_zero _)
      subst hl9
      have hi : (match (generalizing := false) st with
        | [.inr (some (c, p))] => (match (generalizing := false) kRt t with
          | some (.object _) => some (.inr (.inl (true, some (vr c p))))
          | some (.array _) => some (.inr (.inl (true, some (vr c p))))
          | _ => none)
        | _ => none : Option mO) = some (.inr (.inl (true, v9))) := hi
      split at hi
      · have ho := oks _ List.mem_cons_self
        split at hi
        · next hk9 =>
          cases hi
          rw [hk9] at hret
          exact W.aret hx hbx hret (Or.inl ⟨_, rfl⟩) (Or.inr ⟨_, rfl⟩) (fin9 _ (by rw [cRet_map]; rfl) (fun w hw => by cases hw; exact ho)) hfree hd
        · next hk9 =>
          cases hi
          rw [hk9] at hret
          exact W.aret hx hbx hret (Or.inr ⟨_, rfl⟩) (Or.inr ⟨_, rfl⟩) (fin9 _ (by rw [cRet_map]; rfl) (fun w hw => by cases hw; exact ho)) hfree hd
        · cases hi
      · cases hi
    · have hl9 : len = _ := hlen9 (by show Nat.succ _ ≠ 0; exact Nat.succ_ne_zero _)
      subst hl9
      have hi : (match (generalizing := false) st with
        | [] => (match (generalizing := false) kRt t with
          | none => some (.inr (.inl (true, none)))
          | _ => none)
        | _ => none : Option mO) = some (.inr (.inl (true, v9))) := hi
      split at hi
      · split at hi
        · next hk9 =>
          cases hi
          rw [hk9] at hret
          exact W.vret hx hbx hret (fin9 _ (by rw [cRet_map]; rfl) (fun w hw => by cases hw)) hfree hd
        · cases hi
      · cases hi

theorem callT_inv {t n ci pc : Nat} {ls : List (Option mV)} {st : List mV} {mem : mM} {b : Bool} {t' : Nat} {as rest : List mV} (h : callT t n ci pc ls st mem b = some (.inr (.inr (t', as, rest)))) : t' = t ∧ as = (st.take n).reverse ∧ rest = st.drop n ∧ n ≤ st.length ∧ allOne (kMl t) as = true ∧ (rest.map mCat).sum ≤ 8 ∧ (b = true → ∃ p tl, as = vr ci p :: tl) := by
  unfold callT at h
  dsimp only at h
  obtain ⟨hg, h⟩ := bif_inv h
  cases h
  simp only [Bool.and_eq_true] at hg
  obtain ⟨⟨⟨g1, g2⟩, g3⟩, g4⟩ := hg
  refine ⟨rfl, rfl, rfl, Nat.le_of_ble_eq_true g1, g2, Nat.le_of_ble_eq_true g3, fun hb => ?_⟩
  subst hb
  simp only [cond_true] at g4
  split at g4
  · next c p tl he =>
    have := Nat.eq_of_beq_eq_true g4
    subst this
    exact ⟨_, _, he⟩
  · cases g4
theorem simA {l : Launch} {L : Nat} {xs : Nat → Int32} (h903 : H903 l) : ∀ n, SimA l L xs n := by
  intro n
  induction n with
  | zero =>
    intro p e R s m args below meth c Q D aC ads pth LL b0 q9 mi cf sf rk sm r h
    cases h
  | succ n ihn =>
    intro p e R s m args below meth c Q D aC ads pth LL b0 q9 mi cf sf rk sm r h F hnod hR1 hR2 hR3 hcap hsp hret
    have hex0 := exec_ex (n + 1) mi rk sm r h
    rw [exec_succ] at h
    obtain ⟨pc, ls, st, mem⟩ := sm
    unfold body at h
    dsimp only at h
    cases hs : mStep L xs mi pc ls st mem with
    | none => rw [hs] at h; cases h
    | some o =>
      rw [hs] at h
      rcases o with al | ⟨b, v⟩ | ⟨t, as, rest⟩
      · exact stepI F (by omega) (by omega) (hcap _ hex0) hsp (fun s' hk => by have := exec_ex n mi rk _ r hk; rw [nrm_ex] at this; exact this) hs h (fun s' hk => WA_nrm (ihn p e R s m args below meth c Q D aC ads pth LL b0 q9 mi cf sf rk (nrm mi s') r hk F hnod hR1 hR2 hR3 hcap hsp hret))
      · dsimp only at h
        cases hb : b && retB (kRt mi) v with
        | false => rw [hb] at h; cases h
        | true =>
          rw [hb] at h
          obtain ⟨hb1, hb2⟩ := (Bool.and_eq_true _ _ ▸ hb : _ ∧ _)
          subst hb1
          exact hret pc ls st mem v hs hb2 (Option.some.inj h)
      · dsimp only at h
        cases hb : Nat.blt (rkM t (cArg t as)) rk with
        | false => rw [hb] at h; cases h
        | true =>
          rw [hb] at h
          simp only [cond_true] at h
          have hrk : rkM t (cArg t as) < rk := Nat.blt_eq.mp hb
          cases hz : exec L xs n t (rkM t (cArg t as)) (0, ini t (cArg t as), [], mem) with
          | none => rw [hz] at h; cases h
          | some z =>
            obtain ⟨v1, mem1⟩ := z
            rw [hz] at h
            have ht := call_lt hs
            have hex1 : mem1.2.2 = mem.2.2 := exec_eq n t _ _ _ (own_law t ht) hz
            have hM := met_of h903 ihn ht hz
            have hWA := ihn p e R s m args below meth c Q D aC ads pth LL b0 q9 mi cf sf rk (pc + 3, ls, v1.toList ++ rest, mem1) r h F hnod hR1 hR2 hR3 hcap hsp hret
            obtain ⟨k1, k2, k3, k4, k5, k6, k7, k8, k9, k10, k11, k12⟩ := mK_spec ht
            obtain ⟨ig, len, fa, fb, fc, hd, hr, hi, hc⟩ := step_inr hs
            obtain ⟨hx, hbx, hml, hown, hts, hK, hE, ⟨hX, hbl, hbA, hb3⟩, ⟨hZ, hq9⟩⟩ := id F
            have hlen9 := rs_len hr
            -- what both kinds of call share
            have hin : ∀ w ∈ wsM t, w ∈ lw_g := wsM_in ht
            have hlinkw : ∀ j, (j, t) ∈ mRs.getD (kOw mi) [] → Cond.methodLink (cN (kOw mi)) j (mY.getD t x) ∈ lw_g := fun j hj => lwg_of (mIn_all _ _ (List.mem_map.mpr ⟨(j, t), hj, rfl⟩)) rfl
            have hsw := sW_all t ht
            have hroom : ({ frames := rkM t (cArg t as), cells := 0, slots := 0, locals := 41 * rkM t (cArg t as) } : Room).frames + 1 ≤ R.frames ∧ 8 + (mMl.getD t 0 + 11) + ({ frames := rkM t (cArg t as), cells := 0, slots := 0, locals := 41 * rkM t (cArg t as) } : Room).locals ≤ R.locals := by
              dsimp only
              omega
            have hcf := hcap mem.2.2 hex0
            rcases hc with ⟨j, rfl⟩ | ⟨j, rfl⟩ | rfl | rfl | rfl | rfl
            · have hl9 : len = _ := hlen9 (by show Nat.succ _ ≠ 0; exact Nat.succ_ne_zero _)
              subst hl9
              have hi : (bif Nat.blt fa 900 then callT fa fb fc pc ls st mem true else bif Nat.beq fa 903 || Nat.beq fa 904 then intr fa pc ls st mem else none) = some (.inr (.inr (t, as, rest))) := hi
              cases hb9 : Nat.blt fa 900 with
              | false => rw [hb9] at hi; exact absurd hi (ni_bif ni_intr ni_none _)
              | true =>
                rw [hb9] at hi
                obtain ⟨e1, e2, e3, e4, e5, e6, e7⟩ := callT_inv (pc := pc) (ls := ls) (mem := mem) hi
                subst e1
                unfold rsB at hr
                simp only [Bool.and_eq_true] at hr
                have h3 := hr.2
                rw [hb9] at h3
                simp only [cond_true, Bool.and_eq_true, beq_iff_eq] at h3
                obtain ⟨⟨⟨⟨r1, -⟩, r3⟩, r4⟩, r5⟩ := h3
                have r1 := List.contains_iff_mem.mp r1
                have r3 := Nat.eq_of_beq_eq_true r3
                have r5 := Nat.eq_of_beq_eq_true r5
                have r4 : mSt.getD t false = false := by
                  rw [List.getD_eq_getElem?_getD] at r4 ⊢
                  cases q : mSt[t]? with
                  | none => rw [q] at r4; cases r4
                  | some z => rw [q] at r4; exact r4
                obtain ⟨n1, n2, n3⟩ := k11 r4
                rw [if_neg (by rw [r4]; decide)] at k4
                obtain ⟨p9, tl, htl⟩ := e7 rfl
                intro rl H locs ⟨hl, hn, okl, oks, hP, hD, hS⟩
                have hst : st = tl.reverse ++ vr fc p9 :: rest := by
                  have q1 : st = st.take fb ++ st.drop fb := (List.take_append_drop fb st).symm
                  have q2 : st.take fb = as.reverse := by rw [e2, List.reverse_reverse]
                  rw [q2, ← e3, htl] at q1
                  rw [q1]
                  simp
                have okas : ∀ w ∈ as, okV w := fun w hw => oks w (by rw [htl] at hw; rw [hst]; rcases List.mem_cons.mp hw with q | q <;> simp [q])
                have okr : ∀ w ∈ rest, okV w := fun w hw => oks w (by rw [hst]; simp [hw])
                have hlas : as.length = mNa.getD t 0 := by rw [e2, List.length_reverse, List.length_take, ← r3]; omega
                have htag : tagOf p9 = some fc := okO (okas _ (by rw [htl]; exact List.mem_cons_self)) (by omega)
                obtain ⟨kp, hkp⟩ := wd_at (aC := aC) hE htag mem
                rw [cEl_obj (by omega)] at hkp
                have hvw : ∃ q, vwCl[fc]? = some q ∧ q.1 = (mY.getD t x).cls := by
                  have hlt : fc < vwCl.length := by show fc < 11; omega
                  refine ⟨vwCl[fc], List.getElem?_eq_getElem hlt, ?_⟩
                  rw [← n2, ← r5, List.getD_eq_getElem?_getD, List.getElem?_eq_getElem hlt]
                  rfl
                obtain ⟨q, hvq, hq1⟩ := hvw
                have hrecv := va_recv hK hP hvq hkp
                rw [hq1] at hrecv
                have hmap : st.map (rV ads) = (tl.map (rV ads)).reverse ++ .ref (ads p9) :: rest.map (rV ads) := by rw [hst]; simp [rV]
                have htlen : (tl.map (rV ads)).length = mNa.getD t 0 - 1 := by rw [List.length_map]; rw [htl, List.length_cons] at hlas; omega
                dsimp only
                rw [hmap]
                refine va_callG (va_runV (As := tl.map (rV ads)) (rest := rest.map (rV ads)) (C := (mY.getD t x).cls) ⟨hx, hbx, hml, hown, hts⟩ (hM D aC ads pth LL b0 q9 H.size hE hnod hb3 hq9 (cArg_ok okas) (cArg_one e5) (cArg_len.trans hlas)) (cwV (mNa.getD t 0 - 1) hts (goodIn_g fun w hw => ?_) rfl rfl rfl ⟨rfl, k3.1, k3.2, k4⟩ hroom) ⟨PcM_blind, hrecv, fun U hU hWm => ⟨?_, by rw [hU], by rw [hU]; exact hP, va_K.moved hWm.alike hK, ?_, ?_, fun z => hbA (Or.inl z), hZ.to hWm hU hS.2.1 (fun q z => z.elim Or.inl (fun z => Or.inr (Nat.le_trans hS.1 z)))⟩⟩ rfl htlen hl.1 rfl (lv_room (by rw [cat_sum]; exact e6)) hd ⟨hcf.1, hcf.2⟩) hS (fun q hq => hq.elim Or.inl (fun z => Or.inr (Nat.le_trans hS.1 z))) (fun H1 locs1 hP1 hok1 hS1 => ?_)
                · unfold wsV at hw
                  rcases List.mem_append.mp hw with hw | hw
                  · simp only [List.mem_cons, List.not_mem_nil, or_false] at hw
                    have hs4 : ∀ w ∈ mWs t, w ∈ lw_g := hsw
                    unfold mWs at hs4
                    rw [if_neg (by rw [r4]; decide)] at hs4
                    rcases hw with rfl | rfl | rfl | rfl
                    · exact hlinkw j r1
                    · exact hs4 _ (by simp)
                    · exact hs4 _ (by simp)
                    · exact hs4 _ (by simp)
                  · exact hin w hw
                · rw [cArg_map, htl]; rfl
                · rw [hU]
                  exact (hX.kept (hS.2.1 b0 hbl hbA)).moved hWm.alike
                · exact Nat.lt_of_lt_of_le hbl hS.1
                · have h5 := hWA rl H1 locs1 ⟨hl, hn, okl, fun w hw => ?_, hP1, wd_D hnod, hS1⟩
                  · dsimp only at h5
                    rw [hex1] at h5
                    refine W.eq ?_ h5
                    rw [List.map_append]
                    cases v1 <;> rfl
                  · rcases List.mem_append.mp hw with hw | hw
                    · cases v1 with
                      | none => simp at hw
                      | some u => simp at hw; subst hw; exact hok1 _ rfl
                    · exact okr w hw
            · have hl9 : len = _ := hlen9 (by show Nat.succ _ ≠ 0; exact Nat.succ_ne_zero _)
              subst hl9
              have hi : (bif Nat.blt fa 900 then callT fa fb fc pc ls st mem false else bif Nat.beq fa 903 || Nat.beq fa 904 then none else intr fa pc ls st mem) = some (.inr (.inr (t, as, rest))) := hi
              cases hb9 : Nat.blt fa 900 with
              | false => rw [hb9] at hi; exact absurd hi (ni_bif ni_none ni_intr _)
              | true =>
                rw [hb9] at hi
                obtain ⟨e1, e2, e3, e4, e5, e6, -⟩ := callT_inv (pc := pc) (ls := ls) (mem := mem) hi
                subst e1
                unfold rsB at hr
                simp only [Bool.and_eq_true] at hr
                have h3 := hr.2
                rw [hb9] at h3
                simp only [cond_true, Bool.and_eq_true, beq_iff_eq] at h3
                obtain ⟨⟨⟨⟨r1, -⟩, r3⟩, r4⟩, r5⟩ := h3
                have r1 := List.contains_iff_mem.mp r1
                have r3 := Nat.eq_of_beq_eq_true r3
                rw [if_pos r4] at k4
                intro rl H locs ⟨hl, hn, okl, oks, hP, hD, hS⟩
                have hst : st = as.reverse ++ rest := by rw [e2, e3, List.reverse_reverse, List.take_append_drop]
                have okas : ∀ w ∈ as, okV w := fun w hw => oks w (by rw [hst]; simp [hw])
                have okr : ∀ w ∈ rest, okV w := fun w hw => oks w (by rw [hst]; simp [hw])
                have hlas : as.length = mNa.getD t 0 := by rw [e2, List.length_reverse, List.length_take, ← r3]; omega
                have hmap : st.map (rV ads) = (as.map (rV ads)).reverse ++ rest.map (rV ads) := by rw [hst]; simp
                dsimp only
                rw [hmap]
                refine va_callG (va_runS (As := as.map (rV ads)) (rest := rest.map (rV ads)) ⟨hx, hbx, hml, hown, hts⟩ (hM D aC ads pth LL b0 q9 H.size hE hnod hb3 hq9 (cArg_ok okas) (cArg_one e5) (cArg_len.trans hlas)) (va_cwS (mNa.getD t 0) hts (goodIn_g fun w hw => ?_) rfl rfl rfl ⟨k3.1, k3.2, k4⟩ hroom) ⟨PcM_blind, fun U hU hWm => ⟨?_, by rw [hU], by rw [hU]; exact hP, va_K.moved hWm.alike hK, ?_, ?_, fun z => hbA (Or.inl z), hZ.to hWm hU hS.2.1 (fun q z => z.elim Or.inl (fun z => Or.inr (Nat.le_trans hS.1 z)))⟩⟩ rfl (by rw [List.length_map]; exact hlas) hl.1 rfl (lv_room (by rw [cat_sum]; exact e6)) hd ⟨hcf.1, hcf.2⟩) hS (fun q hq => hq.elim Or.inl (fun z => Or.inr (Nat.le_trans hS.1 z))) (fun H1 locs1 hP1 hok1 hS1 => ?_)
                · unfold va_wsS at hw
                  rcases List.mem_append.mp hw with hw | hw
                  · simp only [List.mem_cons, List.not_mem_nil, or_false] at hw
                    have hs4 : ∀ w ∈ mWs t, w ∈ lw_g := hsw
                    unfold mWs at hs4
                    rw [if_pos r4] at hs4
                    rcases hw with rfl | rfl | rfl
                    · exact hlinkw j r1
                    · exact hs4 _ (by simp)
                    · exact hs4 _ (by simp)
                  · exact hin w hw
                · rw [cArg_map]
                · rw [hU]
                  exact (hX.kept (hS.2.1 b0 hbl hbA)).moved hWm.alike
                · exact Nat.lt_of_lt_of_le hbl hS.1
                · have h5 := hWA rl H1 locs1 ⟨hl, hn, okl, fun w hw => ?_, hP1, wd_D hnod, hS1⟩
                  · dsimp only at h5
                    rw [hex1] at h5
                    refine W.eq ?_ h5
                    rw [List.map_append]
                    cases v1 <;> rfl
                  · rcases List.mem_append.mp hw with hw | hw
                    · cases v1 with
                      | none => simp at hw
                      | some u => simp at hw; subst hw; exact hok1 _ rfl
                    · exact okr w hw
            all_goals (exfalso; revert hi; unfold isem; dsimp only; intro hi; (repeat' split at hi) <;> cases hi)

