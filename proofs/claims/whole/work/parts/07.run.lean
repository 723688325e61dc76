/-! a run of any length, and the equations that its steps give -/
section Run
variable (L : Nat) (xs : Nat → Int32)
abbrev mZ : Type := Option (Option mV × mM)
noncomputable def body (R : Nat → Nat → mS → mZ) (m rk : Nat) (s : mS) : mZ := match s with
  | (pc, ls, st, mem) => match mStep L xs m pc ls st mem with
    | none => none
    | some (.inl l) => alt l (fun s' => R m rk (nrm m s'))
    | some (.inr (.inl (b, v))) => bif b && retB (kRt m) v then some (cRet m v, mem) else none
    | some (.inr (.inr (t, args, rest))) => bif Nat.blt (rkM t (cArg t args)) rk then
        (match R t (rkM t (cArg t args)) (0, ini t (cArg t args), [], mem) with
        | none => none
        | some (v, mem') => R m rk (pc + 3, ls, v.toList ++ rest, mem')) else none
theorem exec_succ (n m rk : Nat) (s : mS) : exec L xs (n + 1) m rk s = body L xs (exec L xs n) m rk s := by obtain ⟨pc, ls, st, mem⟩ := s; rfl
theorem alt_mono {α : Type} {r : α} {k1 k2 : mS → Option α} (h : ∀ s, k1 s = some r → k2 s = some r) : ∀ l : List (Bool × mS), alt l k1 = some r → alt l k2 = some r
  | [], h0 => by cases h0
  | (true, s) :: _, h0 => h s h0
  | (false, _) :: t, h0 => alt_mono h t h0
theorem body_mono {R1 R2 : Nat → Nat → mS → mZ} (h : ∀ m rk s r, R1 m rk s = some r → R2 m rk s = some r) (m rk : Nat) (s : mS) (r : Option mV × mM) (h0 : body L xs R1 m rk s = some r) : body L xs R2 m rk s = some r := by
  obtain ⟨pc, ls, st, mem⟩ := s
  unfold body at h0 ⊢
  dsimp only at h0 ⊢
  cases hs : mStep L xs m pc ls st mem with
  | none => rw [hs] at h0; cases h0
  | some o =>
    rw [hs] at h0
    rcases o with l | ⟨b, v⟩ | ⟨t, args, rest⟩
    · exact alt_mono (fun s' h' => h _ _ _ _ h') _ h0
    · exact h0
    · dsimp only at h0 ⊢
      cases hb : Nat.blt (rkM t (cArg t args)) rk with
      | false => rw [hb] at h0; cases h0
      | true =>
        rw [hb] at h0
        simp only [cond_true] at h0 ⊢
        cases hz : R1 t (rkM t (cArg t args)) (0, ini t (cArg t args), [], mem) with
        | none => rw [hz] at h0; cases h0
        | some z =>
          rw [hz] at h0
          rw [h _ _ _ _ hz]
          exact h _ _ _ _ h0
theorem exec_mono : ∀ (n k m rk : Nat) (s : mS) (r : Option mV × mM), exec L xs n m rk s = some r → exec L xs (n + k) m rk s = some r
  | 0, _, _, _, _, _, h => by cases h
  | n + 1, k, m, rk, s, r, h => by
    rw [exec_succ] at h
    rw [show n + 1 + k = (n + k) + 1 by omega, exec_succ]
    exact body_mono L xs (fun m rk s r h' => exec_mono n k m rk s r h') m rk s r h
noncomputable def run (m rk : Nat) (s : mS) : mZ := @dite _ (∃ n r, exec L xs n m rk s = some r) (Classical.propDecidable _) (fun h => exec L xs h.choose m rk s) (fun _ => none)
theorem run_of {n m rk : Nat} {s : mS} {r : Option mV × mM} (h : exec L xs n m rk s = some r) : run L xs m rk s = some r := by
  have he : ∃ n r, exec L xs n m rk s = some r := ⟨n, r, h⟩
  unfold run
  rw [dif_pos he]
  obtain ⟨r', hr⟩ := he.choose_spec
  have h1 := exec_mono L xs _ n m rk s r' hr
  have h2 := exec_mono L xs n he.choose m rk s r h
  rw [Nat.add_comm] at h2
  rw [hr]
  exact h1.symm.trans h2
theorem run_some {m rk : Nat} {s : mS} {r : Option mV × mM} (h : run L xs m rk s = some r) : ∃ n, exec L xs n m rk s = some r := by
  unfold run at h
  split at h
  · next he => exact ⟨_, h⟩
  · cases h
theorem alt_run {m rk : Nat} {r : Option mV × mM} : ∀ (l : List (Bool × mS)), alt l (fun s' => run L xs m rk (nrm m s')) = some r → ∃ n, alt l (fun s' => exec L xs n m rk (nrm m s')) = some r
  | [], h => by cases h
  | (true, s) :: _, h => run_some L xs (s := nrm m s) h
  | (false, _) :: t, h => alt_run t h
theorem run_body (m rk : Nat) (s : mS) : run L xs m rk s = body L xs (run L xs) m rk s := by
  have h1 : ∀ r, body L xs (run L xs) m rk s = some r → run L xs m rk s = some r := by
    intro r h
    obtain ⟨pc, ls, st, mem⟩ := s
    have hx : ∃ n, body L xs (exec L xs n) m rk (pc, ls, st, mem) = some r := by
      unfold body at h ⊢
      dsimp only at h ⊢
      cases hs : mStep L xs m pc ls st mem with
      | none => rw [hs] at h; cases h
      | some o =>
        rw [hs] at h
        rcases o with l | ⟨b, v⟩ | ⟨t, args, rest⟩
        · exact alt_run L xs _ h
        · exact ⟨0, h⟩
        · dsimp only at h ⊢
          cases hb : Nat.blt (rkM t (cArg t args)) rk with
          | false => rw [hb] at h; cases h
          | true =>
            rw [hb] at h
            simp only [cond_true] at h ⊢
            cases hz : run L xs t (rkM t (cArg t args)) (0, ini t (cArg t args), [], mem) with
            | none => rw [hz] at h; cases h
            | some z =>
              rw [hz] at h
              obtain ⟨n1, e1⟩ := run_some L xs hz
              obtain ⟨n2, e2⟩ := run_some L xs h
              refine ⟨n1 + n2, ?_⟩
              rw [exec_mono L xs n1 n2 _ _ _ _ e1]
              show exec L xs (n1 + n2) _ _ _ = _
              rw [Nat.add_comm]
              exact exec_mono L xs n2 n1 _ _ _ _ e2
    obtain ⟨n, hn⟩ := hx
    exact run_of L xs (n := n + 1) (by rw [exec_succ]; exact hn)
  have h2 : ∀ r, run L xs m rk s = some r → body L xs (run L xs) m rk s = some r := by
    intro r h
    obtain ⟨n, hn⟩ := run_some L xs h
    cases n with
    | zero => cases hn
    | succ n =>
      rw [exec_succ] at hn
      exact body_mono L xs (fun m rk s r h' => run_of L xs h') m rk s r hn
  cases hA : run L xs m rk s with
  | some r => exact (h2 r hA).symm
  | none =>
    cases hB : body L xs (run L xs) m rk s with
    | none => rfl
    | some r => rw [h1 r hB] at hA; cases hA
noncomputable def call (t : Nat) (args : List mV) (mem : mM) : mZ := run L xs t (rkM t args) (0, ini t args, [], mem)
theorem alt_P {α : Type} {P : α → Prop} {k : mS → Option α} (h : ∀ s r, k s = some r → P r) : ∀ (l : List (Bool × mS)) (r : α), alt l k = some r → P r
  | [], _, h0 => by cases h0
  | (true, s) :: _, _, h0 => h s _ h0
  | (false, _) :: t, _, h0 => alt_P h t _ h0
/-- what comes back: of the right kind, and a plain int where the method isn't looked into -/
def retN (m : Nat) (v : Option mV) : Prop := retB (kRt m) v = true ∧ (kInl m = false → v.map nz = v)
theorem nz_nz (v : mV) : nz (nz v) = nz v := by rcases v with (v | v | v) | v <;> rfl
theorem retN_of {m : Nat} {v : Option mV} (h : retB (kRt m) v = true) : retN m (cRet m v) := by
  unfold retN cRet
  cases hk : kInl m with
  | true => exact ⟨h, fun q => by cases q⟩
  | false =>
    refine ⟨?_, fun _ => ?_⟩
    · simp only [cond_false]
      revert h
      cases kRt m with
      | none => cases v with
        | none => exact fun h => h
        | some w => intro h; cases h
      | some ty =>
        cases v with
        | none => exact fun h => h
        | some w => cases ty <;> rcases w with (w | w | w) | w <;> exact fun h => h
    · cases v with
      | none => rfl
      | some w => simp [nz_nz]
theorem exec_ret : ∀ (n m rk : Nat) (s : mS) (r : Option mV × mM), exec L xs n m rk s = some r → retN m r.1
  | 0, _, _, _, _, h => by cases h
  | n + 1, m, rk, s, r, h => by
    rw [exec_succ] at h
    obtain ⟨pc, ls, st, mem⟩ := s
    unfold body at h
    dsimp only at h
    cases hs : mStep L xs m pc ls st mem with
    | none => rw [hs] at h; cases h
    | some o =>
      rw [hs] at h
      rcases o with l | ⟨b, v⟩ | ⟨t, args, rest⟩
      · exact alt_P (P := fun r => retN m r.1) (k := fun s' => exec L xs n m rk (nrm m s')) (fun s' r' h' => exec_ret n m rk _ r' h') _ _ h
      · dsimp only at h
        cases hb : b && retB (kRt m) v with
        | false => rw [hb] at h; cases h
        | true =>
          rw [hb] at h
          cases h
          exact retN_of (Bool.and_eq_true _ _ ▸ hb : _ ∧ _).2
      · dsimp only at h
        cases hb : Nat.blt (rkM t (cArg t args)) rk with
        | false => rw [hb] at h; cases h
        | true =>
          rw [hb] at h
          simp only [cond_true] at h
          cases hz : exec L xs n t (rkM t (cArg t args)) (0, ini t (cArg t args), [], mem) with
          | none => rw [hz] at h; cases h
          | some z =>
            rw [hz] at h
            exact exec_ret n m rk _ r h
theorem call_ret {t : Nat} {args : List mV} {mem : mM} {r : Option mV × mM} (h : call L xs t args mem = some r) : retN t r.1 := by
  obtain ⟨n, hn⟩ := run_some L xs h
  exact exec_ret L xs n _ _ _ r hn
noncomputable def kI (t : Nat) (args : List mV) (mem : mM) : Option (Int32 × mM) := (call L xs t args mem).bind fun z => match z.1 with
  | some (.inl (.inl v)) => some (v, z.2)
  | _ => none
noncomputable def kV (t : Nat) (args : List mV) (mem : mM) : Option mM := (call L xs t args mem).bind fun z => match z.1 with
  | none => some z.2
  | _ => none
noncomputable def kJ (t : Nat) (args : List mV) (mem : mM) : Option (Int64 × mM) := (call L xs t args mem).bind fun z => match z.1 with
  | some (.inl (.inr (.inl v))) => some (v, z.2)
  | _ => none
/-- a frame: method, rank, place, locals, stack -/
abbrev mFr : Type := Nat × Nat × Nat × List (Option mV) × List mV
def pushR (v : Option mV) (f : mFr) : mFr := match f with
  | (m, rk, pc, ls, st) => (m, rk, pc, ls, v.toList ++ st)
noncomputable def runF (f : mFr) (mem : mM) : mZ := match f with
  | (m, rk, pc, ls, st) => run L xs m rk (pc, ls, st, mem)
noncomputable def cnt : List mFr → Option mV × mM → mZ
  | [], z => some z
  | g :: gs, z => (runF L xs (pushR z.1 g) z.2).bind (cnt gs)
noncomputable def fin (fs : List mFr) (v : mZ) : mZ := match fs with
  | [] => v
  | g :: gs => v.bind (cnt L xs (g :: gs))
theorem fin_eq (fs : List mFr) (v : mZ) : v.bind (cnt L xs fs) = fin L xs fs v := by
  cases fs with
  | nil => cases v <;> rfl
  | cons g gs => rfl
/-- n steps in mind, calls of the methods in inl too; it stands still where loops begin -/
noncomputable def sg : Nat → mFr → List mFr → mM → mZ
  | 0, f, fs, mem => fin L xs fs (runF L xs f mem)
  | n + 1, (m, rk, pc, ls, st), fs, mem => match mStep L xs m pc ls st mem with
    | none => none
    | some (.inl l) => bif isWr m pc then alt l (fun s' => match s' with
        | (pc', ls', st', mem') => ltM mem' fun me => bif (cutP m pc').isSome then fin L xs fs (run L xs m rk (nrm m (pc', ls', st', me))) else sg n (m, rk, pc', ls', st') fs me)
      else alt l (fun s' => match s' with
        | (pc', ls', st', mem') => bif (cutP m pc').isSome then fin L xs fs (run L xs m rk (nrm m (pc', ls', st', mem'))) else sg n (m, rk, pc', ls', st') fs mem')
    | some (.inr (.inl (b, v))) => bif b && retB (kRt m) v then (match fs with
      | [] => some (cRet m v, mem)
      | g :: gs => sg n (pushR (cRet m v) g) gs mem) else none
    | some (.inr (.inr (t, args, rest))) => bif Nat.blt (rkM t (cArg t args)) rk then
        (bif kInl t then sg n (t, rkM t (cArg t args), 0, ini t (cArg t args), []) ((m, rk, pc + 3, ls, rest) :: fs) mem
        else match kRt t with
          | none => (kV L xs t (cArg t args) mem).bind fun z => sg n (m, rk, pc + 3, ls, rest) fs z
          | some .int => (kI L xs t (cArg t args) mem).bind fun z => sg n (m, rk, pc + 3, ls, vi z.1 :: rest) fs z.2
          | some .boolean => (kI L xs t (cArg t args) mem).bind fun z => sg n (m, rk, pc + 3, ls, vi z.1 :: rest) fs z.2
          | some .long => (kJ L xs t (cArg t args) mem).bind fun z => sg n (m, rk, pc + 3, ls, vl z.1 :: rest) fs z.2
          | _ => (call L xs t (cArg t args) mem).bind fun z => fin L xs fs (runF L xs (m, rk, pc + 3, ls, z.1.toList ++ rest) z.2)) else none
theorem alt_bind {α β : Type} (k : mS → Option α) (g : α → Option β) : ∀ l : List (Bool × mS), (alt l k).bind g = alt l (fun s => (k s).bind g)
  | [] => rfl
  | (true, _) :: _ => rfl
  | (false, _) :: t => alt_bind k g t
theorem alt_congr {α : Type} {k1 k2 : mS → Option α} (h : ∀ s, k1 s = k2 s) (l : List (Bool × mS)) : alt l k1 = alt l k2 := by
  rw [show k1 = k2 from funext h]
theorem sg_ok : ∀ (n : Nat) (f : mFr) (fs : List mFr) (mem : mM), (runF L xs f mem).bind (cnt L xs fs) = sg L xs n f fs mem
  | 0, _, _, _ => fin_eq L xs _ _
  | n + 1, f, fs, mem => by
    obtain ⟨m, rk, pc, ls, st⟩ := f
    show (run L xs m rk (pc, ls, st, mem)).bind (cnt L xs fs) = _
    rw [run_body]
    unfold body sg
    dsimp only
    cases hs : mStep L xs m pc ls st mem with
    | none => rfl
    | some o =>
      rcases o with l | ⟨b, v⟩ | ⟨t, args, rest⟩
      · have key : ∀ s' : mS, (run L xs m rk (nrm m s')).bind (cnt L xs fs) = (match s' with
            | (pc', ls', st', mem') => bif (cutP m pc').isSome then fin L xs fs (run L xs m rk (nrm m (pc', ls', st', mem'))) else sg L xs n (m, rk, pc', ls', st') fs mem') := by
          intro s'
          obtain ⟨pc', ls', st', mem'⟩ := s'
          dsimp only
          cases hc : cutP m pc' with
          | some q => exact fin_eq L xs _ _
          | none =>
            have e1 : nrm m (pc', ls', st', mem') = (pc', ls', st', mem') := by unfold nrm; dsimp only; rw [hc]
            rw [e1]
            exact sg_ok n (m, rk, pc', ls', st') fs mem'
        show (alt l _).bind _ = bif isWr m pc then _ else _
        rw [alt_bind]
        cases isWr m pc with
        | false => exact alt_congr key l
        | true => exact alt_congr key l
      · dsimp only
        cases b && retB (kRt m) v with
        | false => rfl
        | true =>
          cases fs with
          | nil => rfl
          | cons g gs => exact sg_ok n (pushR (cRet m v) g) gs mem
      · dsimp only
        cases Nat.blt (rkM t (cArg t args)) rk with
        | false => rfl
        | true =>
          show Option.bind (match call L xs t (cArg t args) mem with
            | none => none
            | some (v, mem') => run L xs m rk (pc + 3, ls, v.toList ++ rest, mem')) _ = (bif kInl t then _ else _)
          cases hkt : kInl t with
          | true =>
            have h := sg_ok n (t, rkM t (cArg t args), 0, ini t (cArg t args), []) ((m, rk, pc + 3, ls, rest) :: fs) mem
            show _ = sg L xs n (t, rkM t (cArg t args), 0, ini t (cArg t args), []) ((m, rk, pc + 3, ls, rest) :: fs) mem
            rw [← h]
            show _ = (call L xs t (cArg t args) mem).bind _
            cases call L xs t (cArg t args) mem with
            | none => rfl
            | some z => rfl
          | false =>
            have hr := fun z (h : call L xs t (cArg t args) mem = some z) => call_ret L xs h
            simp only [cond_false]
            unfold kV kI kJ
            cases hc : call L xs t (cArg t args) mem with
            | none =>
              show (none : mZ) = _
              cases kRt t with
              | none => rfl
              | some ty => cases ty <;> rfl
            | some z =>
              have h1 := hr z hc
              obtain ⟨h1, h2⟩ := h1
              have h2 := h2 hkt
              obtain ⟨v, mem'⟩ := z
              have key : ∀ w, v = w → (runF L xs (m, rk, pc + 3, ls, w.toList ++ rest) mem').bind (cnt L xs fs) = sg L xs n (m, rk, pc + 3, ls, w.toList ++ rest) fs mem' := fun w _ => sg_ok n _ fs mem'
              show (runF L xs (m, rk, pc + 3, ls, v.toList ++ rest) mem').bind (cnt L xs fs) = _
              revert h1 h2
              cases kRt t with
              | none => intro h1 h2; cases v with
                | none => exact key none rfl
                | some w => cases h1
              | some ty =>
                cases ty <;> intro h1 h2 <;> first
                  | exact fin_eq L xs _ _
                  | (rcases v with _ | ((v | v | v) | v) <;> first | exact key _ rfl | (cases h1; done) | (cases h2; done))
theorem call_sg (n t : Nat) (args : List mV) (mem : mM) : call L xs t args mem = sg L xs n (t, rkM t args, 0, ini t args, []) [] mem := by
  rw [← sg_ok, fin_eq]
  rfl
theorem run_sg (n m rk pc : Nat) (ls : List (Option mV)) (st : List mV) (mem : mM) : run L xs m rk (pc, ls, st, mem) = sg L xs n (m, rk, pc, ls, st) [] mem := by
  rw [← sg_ok, fin_eq]
  rfl
end Run
