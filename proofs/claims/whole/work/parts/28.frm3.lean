section Exc
def okFa (e : mIns) : Bool := match e with
  | (_, .invokevirtual _, _, fa, _, _) => Nat.blt fa 256 || (Nat.ble 900 fa && Nat.ble fa 903)
  | (_, .invokestatic _, _, fa, _, _) => Nat.blt fa 256 || (Nat.ble 900 fa && Nat.ble fa 903)
  | _ => true
set_option maxRecDepth 100000 in
theorem okFa_all : (List.range 256).all (fun m => (kCd m).all (fun c => c.2.all okFa)) = true := by decide +kernel
theorem fndE_mem {α : Type} : ∀ {l : List (Nat × α)} {k : Nat} {e : Nat × α}, fndE l k = some e → e ∈ l
  | [], _, _, h => by cases h
  | (a, b) :: r, k, e, h => by
    unfold fndE at h
    cases hb : Nat.beq a k with
    | true => rw [hb] at h; cases h; exact List.mem_cons_self
    | false => rw [hb] at h; exact List.mem_cons_of_mem _ (fndE_mem h)
theorem fnd2_mem {α : Type} : ∀ {l : List (Nat × List (Nat × α))} {k : Nat} {e : Nat × α}, fnd2 l k = some e → ∃ c, c ∈ l ∧ e ∈ c.2
  | [], _, _, h => by cases h
  | (a, b) :: r, k, e, h => by
    unfold fnd2 at h
    cases hb : Nat.blt k a with
    | true => rw [hb] at h; exact ⟨_, List.mem_cons_self, fndE_mem h⟩
    | false =>
      rw [hb] at h
      obtain ⟨c, h1, h2⟩ := fnd2_mem h
      exact ⟨c, List.mem_cons_of_mem _ h1, h2⟩
def okX (mem : mM) : mO → Prop
  | .inl l => ∀ s, s ∈ l → s.2.2.2.2.2.2 = mem.2.2
  | .inr (.inl _) => True
  | .inr (.inr (t, _)) => t < 256
variable {L : Nat} {xs : Nat → Int32}
section Inv2
variable {α : Type} {a : α} {st : List mV}
theorem xI {k : Int32 → List mV → Option α} (h : pI st k = some a) : ∃ v r, k v r = some a := by
  unfold pI at h; split at h <;> first | exact ⟨_, _, h⟩ | cases h
theorem xL {k : Int64 → List mV → Option α} (h : pL st k = some a) : ∃ v r, k v r = some a := by
  unfold pL at h; split at h <;> first | exact ⟨_, _, h⟩ | cases h
theorem xR {k : Nat → List Nat → List mV → Option α} (h : pR st k = some a) : ∃ c p r, k c p r = some a := by
  unfold pR at h; split at h <;> first | exact ⟨_, _, _, h⟩ | cases h
theorem xN {k : Option (Nat × List Nat) → List mV → Option α} (h : pN st k = some a) : ∃ v r, k v r = some a := by
  unfold pN at h; split at h <;> first | exact ⟨_, _, h⟩ | cases h
theorem xV {k : mV → List mV → Option α} (h : pV st k = some a) : ∃ v r, k v r = some a := by
  unfold pV at h; split at h <;> first | exact ⟨_, _, h⟩ | cases h
theorem xA {k : mV → List mV → Option α} (h : pA st k = some a) : ∃ v r, k v r = some a := by
  unfold pA at h; split at h <;> first | exact ⟨_, _, h⟩ | cases h
theorem xX {n : Nat} {k : Bool → Nat → List mV → Option α} (h : pX n st k = some a) : ∃ b v r, k b v r = some a := by
  unfold pX at h; split at h <;> first | exact ⟨_, _, _, h⟩ | cases h
theorem xZ {k : Bool → Int32 → List mV → Option α} (h : pZ st k = some a) : ∃ b v r, k b v r = some a := by
  unfold pZ at h; split at h <;> first | exact ⟨_, _, _, h⟩ | cases h
theorem xD {k : Bool → Int32 → List mV → Option α} (h : pD st k = some a) : ∃ b v r, k b v r = some a := by
  unfold pD at h; split at h <;> first | exact ⟨_, _, _, h⟩ | cases h
theorem x_ldI {ls : List (Option mV)} {i : Nat} {k : mV → Option mO} {o : mO} (h : ldI ls i k = some o) : ∃ v, k v = some o := by
  unfold ldI at h; split at h <;> first | exact ⟨_, h⟩ | cases h
theorem x_ldL {ls : List (Option mV)} {i : Nat} {k : Int64 → Option mO} {o : mO} (h : ldL ls i k = some o) : ∃ v, k v = some o := by
  unfold ldL at h; split at h <;> first | exact ⟨_, h⟩ | cases h
theorem x_ldR {ls : List (Option mV)} {i : Nat} {k : Option (Nat × List Nat) → Option mO} {o : mO} (h : ldR ls i k = some o) : ∃ v, k v = some o := by
  unfold ldR at h; split at h <;> first | exact ⟨_, h⟩ | cases h
theorem xO {pc : Nat} {ls : List (Option mV)} {mem mem' : mM} {o : mO} (h : gO pc ls st mem' = some o) (hf : mem'.2.2 = mem.2.2) : okX mem o := by
  cases h
  intro s hs'
  rcases List.mem_singleton.mp hs' with rfl
  exact hf
theorem xG {b : Bool} {pc : Nat} {ls : List (Option mV)} {mem mem' : mM} {o : mO} (h : gG b pc ls st mem' = some o) (hf : mem'.2.2 = mem.2.2) : okX mem o := by
  cases h
  intro s hs'
  rcases List.mem_singleton.mp hs' with rfl
  exact hf
theorem xB {b : Bool} {pc : Nat} {off : Int} {ls : List (Option mV)} {mem : mM} {o : mO} (h : gB b pc off ls st mem = some o) : okX mem o := by
  unfold gB at h
  split at h
  · cases h
    intro s hs'
    rcases List.mem_cons.mp hs' with rfl | hs'
    · rfl
    · rcases List.mem_singleton.mp hs' with rfl
      rfl
  · cases h
theorem x_swL {v : Int32} {ls : List (Option mV)} {mem : mM} {d : Nat} : ∀ (ts : List Nat) (k : Nat) (s : Bool × mS), s ∈ swL v k ts ls st mem d → s.2.2.2.2.2.2 = mem.2.2
  | [], k, s, h => by
    rcases List.mem_singleton.mp h with rfl
    rfl
  | t :: r, k, s, h => by
    rcases List.mem_cons.mp h with rfl | h
    · rfl
    · exact x_swL r (k + 1) s h
theorem x_lkL {v : Int32} {ls : List (Option mV)} {mem : mM} {d : Nat} : ∀ (ts : List (Int × Nat)) (s : Bool × mS), s ∈ lkL v ts ls st mem d → s.2.2.2.2.2.2 = mem.2.2
  | [], s, h => by
    rcases List.mem_singleton.mp h with rfl
    rfl
  | (a, t) :: r, s, h => by
    rcases List.mem_cons.mp h with rfl | h
    · rfl
    · exact x_lkL r s h
theorem x_callT {t n ci pc : Nat} {ls : List (Option mV)} {mem : mM} {virt : Bool} {o : mO} (h : callT t n ci pc ls st mem virt = some o) (ht : t < 256) : okX mem o := by
  unfold callT at h
  dsimp only at h
  have h := zbif_inv h
  cases h
  exact ht
theorem x_intr {j pc : Nat} {ls : List (Option mV)} {mem : mM} {o : mO} (h : intr j pc ls st mem = some o) (hj : 900 ≤ j ∧ j ≤ 903) : okX mem o := by
  unfold intr at h
  have hne : ∀ k, j ≠ k → Nat.beq j k = false := fun k hk => by
    cases e : Nat.beq j k with
    | false => rfl
    | true => exact absurd (Nat.eq_of_beq_eq_true e) hk
  have h4 : Nat.beq j 904 = false := hne 904 (by omega)
  have h5 : Nat.beq j 905 = false := hne 905 (by omega)
  rw [h4, h5] at h
  cases h0 : Nat.beq j 900 with
  | true =>
    rw [h0] at h
    obtain ⟨y, r1, h⟩ := xI h
    obtain ⟨v, r2, h⟩ := xI h
    exact xO (zbif_inv h) rfl
  | false =>
  rw [h0] at h
  cases h1 : Nat.beq j 901 with
  | true =>
    rw [h1] at h
    obtain ⟨y, r1, h⟩ := xI h
    obtain ⟨v, r2, h⟩ := xI h
    exact xO (zbif_inv h) rfl
  | false =>
  rw [h1] at h
  cases h2 : Nat.beq j 902 with
  | true =>
    rw [h2] at h
    obtain ⟨n, r1, h⟩ := xI h
    obtain ⟨dp, r2, h⟩ := xI h
    obtain ⟨c1, p1, r3, h⟩ := xR h
    obtain ⟨sp, r4, h⟩ := xI h
    obtain ⟨c0, p0, r5, h⟩ := xR h
    exact xG (zbif_inv h) rfl
  | false =>
  rw [h2] at h
  cases h3 : Nat.beq j 903 with
  | true =>
    rw [h3] at h
    obtain ⟨n, r1, h⟩ := xI h
    obtain ⟨c1, p1, r3, h⟩ := xR h
    exact xO (zbif_inv h) rfl
  | false =>
  rw [h3] at h
  cases h
end Inv2
set_option maxHeartbeats 4000000 in
theorem isem_x {m pc len : Nat} {ig : Instr} {fa fb fc : Nat} {ls : List (Option mV)} {st : List mV} {mem : mM} {o : mO} (h : isem L xs m pc len ig fa fb fc ls st mem = some o) (hfa : okFa (pc, ig, len, fa, fb, fc) = true) : okX mem o := by
  unfold isem at h
  cases ig
  case iconst n =>
    dsimp only at h
    exact xO (zbif_inv h) rfl
  case bipush n =>
    dsimp only at h
    exact xO (zbif_inv h) rfl
  case sipush n =>
    dsimp only at h
    exact xO (zbif_inv h) rfl
  case lconst n =>
    dsimp only at h
    exact xO h rfl
  case aconst_null  =>
    dsimp only at h
    exact xO h rfl
  case ldc j =>
    dsimp only at h
    split at h
    · exact xO h rfl
    · exact xO (zbif_inv h) rfl
  case ldc_w j =>
    dsimp only at h
    split at h
    · exact xO h rfl
    · cases h
  case iload_n k =>
    dsimp only at h
    obtain ⟨v, h⟩ := x_ldI h
    exact xO h rfl
  case iload k =>
    dsimp only at h
    obtain ⟨v, h⟩ := x_ldI h
    exact xO h rfl
  case lload_n k =>
    dsimp only at h
    obtain ⟨v, h⟩ := x_ldL h
    exact xO h rfl
  case lload k =>
    dsimp only at h
    obtain ⟨v, h⟩ := x_ldL h
    exact xO h rfl
  case aload_n k =>
    dsimp only at h
    obtain ⟨v, h⟩ := x_ldR h
    exact xO h rfl
  case aload k =>
    dsimp only at h
    obtain ⟨v, h⟩ := x_ldR h
    exact xO h rfl
  case istore_n k =>
    dsimp only at h
    obtain ⟨v, r, h⟩ := xV h
    exact xO (zbif_inv h) rfl
  case istore k =>
    dsimp only at h
    obtain ⟨v, r, h⟩ := xV h
    exact xO (zbif_inv h) rfl
  case lstore_n k =>
    dsimp only at h
    obtain ⟨v, r, h⟩ := xL h
    exact xO (zbif_inv h) rfl
  case lstore k =>
    dsimp only at h
    obtain ⟨v, r, h⟩ := xL h
    exact xO (zbif_inv h) rfl
  case astore_n k =>
    dsimp only at h
    obtain ⟨v, r, h⟩ := xN h
    exact xO (zbif_inv h) rfl
  case astore k =>
    dsimp only at h
    obtain ⟨v, r, h⟩ := xN h
    exact xO (zbif_inv h) rfl
  case iinc k n =>
    dsimp only at h
    obtain ⟨v, h⟩ := x_ldI h
    obtain ⟨v, r, h⟩ := xI h
    exact xO h rfl
  case iadd  =>
    dsimp only at h
    obtain ⟨y, r1, h⟩ := xI h
    obtain ⟨v, r2, h⟩ := xI h
    exact xO h rfl
  case isub  =>
    dsimp only at h
    obtain ⟨y, r1, h⟩ := xI h
    obtain ⟨v, r2, h⟩ := xI h
    exact xO h rfl
  case imul  =>
    dsimp only at h
    obtain ⟨y, r1, h⟩ := xI h
    obtain ⟨v, r2, h⟩ := xI h
    exact xO h rfl
  case iand  =>
    dsimp only at h
    obtain ⟨y, r1, h⟩ := xI h
    obtain ⟨v, r2, h⟩ := xI h
    exact xO h rfl
  case ior  =>
    dsimp only at h
    obtain ⟨y, r1, h⟩ := xI h
    obtain ⟨v, r2, h⟩ := xI h
    exact xO h rfl
  case ishl  =>
    dsimp only at h
    obtain ⟨y, r1, h⟩ := xI h
    obtain ⟨v, r2, h⟩ := xI h
    exact xO h rfl
  case idiv  =>
    dsimp only at h
    obtain ⟨b, y, r1, h⟩ := xD h
    obtain ⟨v, r2, h⟩ := xI h
    exact xG h rfl
  case irem  =>
    dsimp only at h
    obtain ⟨b, y, r1, h⟩ := xD h
    obtain ⟨v, r2, h⟩ := xI h
    exact xG h rfl
  case land  =>
    dsimp only at h
    obtain ⟨y, r1, h⟩ := xL h
    obtain ⟨v, r2, h⟩ := xL h
    exact xO h rfl
  case lor  =>
    dsimp only at h
    obtain ⟨y, r1, h⟩ := xL h
    obtain ⟨v, r2, h⟩ := xL h
    exact xO h rfl
  case lxor  =>
    dsimp only at h
    obtain ⟨y, r1, h⟩ := xL h
    obtain ⟨v, r2, h⟩ := xL h
    exact xO h rfl
  case lshl  =>
    dsimp only at h
    obtain ⟨y, r1, h⟩ := xI h
    obtain ⟨v, r2, h⟩ := xL h
    exact xO h rfl
  case lushr  =>
    dsimp only at h
    obtain ⟨y, r1, h⟩ := xI h
    obtain ⟨v, r2, h⟩ := xL h
    exact xO h rfl
  case ldc2_w j =>
    dsimp only at h
    split at h
    · exact xO h rfl
    · cases h
  case ladd  =>
    dsimp only at h
    obtain ⟨y, r1, h⟩ := xL h
    obtain ⟨v, r2, h⟩ := xL h
    exact xO h rfl
  case lsub  =>
    dsimp only at h
    obtain ⟨y, r1, h⟩ := xL h
    obtain ⟨v, r2, h⟩ := xL h
    exact xO h rfl
  case lcmp  =>
    dsimp only at h
    obtain ⟨y, r1, h⟩ := xL h
    obtain ⟨v, r2, h⟩ := xL h
    exact xO h rfl
  case i2l  =>
    dsimp only at h
    obtain ⟨v, r2, h⟩ := xI h
    exact xO h rfl
  case l2i  =>
    dsimp only at h
    obtain ⟨v, r2, h⟩ := xL h
    exact xO h rfl
  case i2b  =>
    dsimp only at h
    obtain ⟨v, r2, h⟩ := xI h
    exact xO h rfl
  case i2s  =>
    dsimp only at h
    obtain ⟨v, r2, h⟩ := xI h
    exact xO h rfl
  case i2c  =>
    dsimp only at h
    obtain ⟨v, r2, h⟩ := xI h
    exact xO h rfl
  case dup  =>
    dsimp only at h
    obtain ⟨v, r2, h⟩ := xA h
    exact xO h rfl
  case dup_x1  =>
    dsimp only at h
    obtain ⟨v, r1, h⟩ := xA h
    obtain ⟨w, r2, h⟩ := xA h
    exact xO h rfl
  case dup2  =>
    dsimp only at h
    obtain ⟨v, r1, h⟩ := xA h
    obtain ⟨w, r2, h⟩ := xA h
    exact xO h rfl
  case pop  =>
    dsimp only at h
    obtain ⟨v, r1, h⟩ := xA h
    exact xO h rfl
  case goto off =>
    dsimp only at h
    split at h
    · exact xO h rfl
    · cases h
  case ifCond c off =>
    dsimp only at h
    split at h
    · exact xB h
    · exact xB h
    · cases h
  case if_icmp c off =>
    dsimp only at h
    split at h
    · exact xB h
    · obtain ⟨y, r1, h⟩ := xI h
      obtain ⟨v, r2, h⟩ := xI h
      exact xB h
  case ifnull off =>
    dsimp only at h
    split at h
    · exact xB h
    · exact xB h
    · cases h
  case ifnonnull off =>
    dsimp only at h
    split at h
    · exact xB h
    · exact xB h
    · cases h
  case tableswitch dflt lo hi offs =>
    dsimp only at h
    obtain ⟨v, r, h⟩ := xI h
    split at h
    · have h := zbif_inv h
      split at h
      · cases h
        exact x_swL _ _
      · cases h
    · cases h
  case lookupswitch dflt ps =>
    dsimp only at h
    obtain ⟨v, r, h⟩ := xI h
    have h := zbif_inv h
    split at h
    · cases h
      exact x_lkL _
    · cases h
  case getfield j =>
    dsimp only at h
    obtain ⟨c, p, r, h⟩ := xR h
    have h := zbif_inv h
    cases hb : Nat.ble fc 1 with
    | true => rw [hb] at h; exact xO h rfl
    | false => rw [hb] at h; exact xO h rfl
  case putfield j =>
    dsimp only at h
    obtain ⟨b, v, r, h⟩ := xZ h
    obtain ⟨c, p, r2, h⟩ := xR h
    have h := zbif_inv h
    cases hb : Nat.beq fc 0 with
    | true => rw [hb] at h; exact xO h rfl
    | false => rw [hb] at h; exact xG (zbif_inv h) rfl
  case iaload  =>
    dsimp only at h
    obtain ⟨c, p, r, h⟩ := xR h
    cases hb : Nat.beq (tgK c) 1 with
    | true =>
      rw [hb, cond_true] at h
      obtain ⟨b, v, r2, h⟩ := xX h
      exact xG h rfl
    | false =>
      rw [hb] at h
      obtain ⟨b, v, r2, h⟩ := xX (zbif_inv h)
      exact xG h rfl
  case baload  =>
    dsimp only at h
    obtain ⟨c, p, r, h⟩ := xR h
    obtain ⟨b, v, r2, h⟩ := xX (zbif_inv h)
    exact xG h rfl
  case laload  =>
    dsimp only at h
    obtain ⟨c, p, r, h⟩ := xR h
    obtain ⟨b, v, r2, h⟩ := xX (zbif_inv h)
    exact xG h rfl
  case aaload  =>
    dsimp only at h
    obtain ⟨c, p, r, h⟩ := xR h
    cases hb : Nat.beq (tgK c) 5 with
    | true =>
      rw [hb, cond_true] at h
      obtain ⟨b, v, r2, h⟩ := xX h
      exact xG h rfl
    | false =>
      rw [hb] at h
      obtain ⟨b, v, r2, h⟩ := xX (zbif_inv h)
      exact xG h rfl
  case iastore  =>
    dsimp only at h
    obtain ⟨c, p, r, h⟩ := xR h
    obtain ⟨v, r1, h⟩ := xI (zbif_inv h)
    obtain ⟨b, v, r2, h⟩ := xX h
    exact xG h rfl
  case bastore  =>
    dsimp only at h
    obtain ⟨c, p, r, h⟩ := xR h
    cases hb : Nat.beq (tgK c) 2 with
    | true =>
      rw [hb] at h
      obtain ⟨v, r1, h⟩ := xI h
      obtain ⟨b, v, r2, h⟩ := xX h
      exact xG h rfl
    | false =>
      rw [hb] at h
      obtain ⟨v, r1, h⟩ := xI (zbif_inv h)
      obtain ⟨b, v, r2, h⟩ := xX h
      exact xG h rfl
  case lastore  =>
    dsimp only at h
    obtain ⟨c, p, r, h⟩ := xR h
    obtain ⟨v, r1, h⟩ := xL (zbif_inv h)
    obtain ⟨b, v, r2, h⟩ := xX h
    exact xG h rfl
  case arraylength  =>
    dsimp only at h
    obtain ⟨c, p, r, h⟩ := xR h
    cases hb : Nat.beq (tgK c) 7 with
    | true => rw [hb] at h; exact xO h rfl
    | false => rw [hb] at h; exact xO (zbif_inv h) rfl
  case invokevirtual j =>
    dsimp only at h
    have hfa : (Nat.blt fa 256 || (Nat.ble 900 fa && Nat.ble fa 903)) = true := hfa
    simp only [Bool.or_eq_true, Bool.and_eq_true, Nat.blt_eq, Nat.ble_eq] at hfa
    cases hb : Nat.blt fa 900 with
    | true => rw [hb, cond_true] at h; rw [Nat.blt_eq] at hb; exact x_callT h (by omega)
    | false =>
      rw [hb] at h
      have : ¬ fa < 900 := fun q => by rw [Nat.blt_eq.mpr q] at hb; cases hb
      exact x_intr (zbif_inv h) (by omega)
  case invokestatic j =>
    dsimp only at h
    have hfa : (Nat.blt fa 256 || (Nat.ble 900 fa && Nat.ble fa 903)) = true := hfa
    simp only [Bool.or_eq_true, Bool.and_eq_true, Nat.blt_eq, Nat.ble_eq] at hfa
    cases hb : Nat.blt fa 900 with
    | true => rw [hb, cond_true] at h; rw [Nat.blt_eq] at hb; exact x_callT h (by omega)
    | false =>
      rw [hb] at h
      have : ¬ fa < 900 := fun q => by rw [Nat.blt_eq.mpr q] at hb; cases hb
      cases hb2 : (Nat.beq fa 903 || Nat.beq fa 904) with
      | true => rw [hb2] at h; cases h
      | false => rw [hb2] at h; exact x_intr h (by omega)
  case ireturn  =>
    dsimp only at h
    split at h
    · split at h
      · cases h; trivial
      · cases h; trivial
      · cases h
    · split at h
      · cases h; trivial
      · cases h; trivial
      · cases h
    · cases h
  case lreturn  =>
    dsimp only at h
    split at h
    · split at h
      · cases h; trivial
      · cases h
    · cases h
  case areturn  =>
    dsimp only at h
    split at h
    · split at h
      · cases h; trivial
      · cases h; trivial
      · cases h
    · cases h
  case return_  =>
    dsimp only at h
    split at h
    · split at h
      · cases h; trivial
      · cases h
    · cases h
  all_goals (dsimp only at h; cases h)
theorem nrm_x {m : Nat} (s : mS) : (nrm m s).2.2.2.2.2 = s.2.2.2.2.2 := by
  obtain ⟨pc, ls, st, mem⟩ := s
  unfold nrm
  dsimp only
  split <;> rfl
theorem exec_x : ∀ (n m rk : Nat) (s : mS) (r : Option mV × mM), m < 256 → exec L xs n m rk s = some r → r.2.2.2 = s.2.2.2.2.2
  | 0, _, _, _, _, _, h => by cases h
  | n + 1, m, rk, s, r, hm, h => by
    rw [exec_succ] at h
    obtain ⟨pc, ls, st, mem⟩ := s
    unfold body at h
    dsimp only at h ⊢
    cases hq : mStep L xs m pc ls st mem with
    | none => rw [hq] at h; cases h
    | some o =>
      rw [hq] at h
      have ho : okX mem o := by
        unfold mStep at hq
        split at hq
        · cases hq
        · next e =>
          obtain ⟨c, h1, h2⟩ := fnd2_mem e
          have a1 := List.all_eq_true.mp okFa_all m (List.mem_range.mpr hm)
          have a2 := List.all_eq_true.mp a1 c h1
          have a3 := List.all_eq_true.mp a2 _ h2
          exact isem_x hq a3
      rcases o with l | ⟨b, v⟩ | ⟨t, args, rest⟩
      · dsimp only at h
        have key : ∀ l : List (Bool × mS), (∀ s, s ∈ l → s.2.2.2.2.2.2 = mem.2.2) → alt l (fun s' => exec L xs n m rk (nrm m s')) = some r → r.2.2.2 = mem.2.2 := by
          intro l
          induction l with
          | nil => intro _ h; cases h
          | cons a l ih =>
            intro hk h
            obtain ⟨b, s⟩ := a
            cases b with
            | false => exact ih (fun s hs => hk s (List.mem_cons_of_mem _ hs)) h
            | true =>
              have h : exec L xs n m rk (nrm m s) = some r := h
              have := exec_x n m rk _ r hm h
              rw [nrm_x] at this
              exact this.trans (hk _ List.mem_cons_self)
        exact key l ho h
      · dsimp only at h
        cases hb : b && retB (kRt m) v with
        | false => rw [hb] at h; cases h
        | true =>
          rw [hb] at h
          cases h
          rfl
      · dsimp only at h
        cases hb : Nat.blt (rkM t (cArg t args)) rk with
        | false => rw [hb] at h; cases h
        | true =>
          rw [hb] at h
          simp only [cond_true] at h
          cases hz : exec L xs n t (rkM t (cArg t args)) (0, ini t (cArg t args), [], mem) with
          | none => rw [hz] at h; cases h
          | some z =>
            rw [hz] at h
            exact (exec_x n m rk _ _ hm h).trans (exec_x n t _ _ _ ho hz)
theorem call_x {t : Nat} {args : List mV} {mem : mM} {r : Option mV × mM} (ht : t < 256) (h : call L xs t args mem = some r) : r.2.2.2 = mem.2.2 := by
  obtain ⟨n, hn⟩ := run_some L xs h
  exact exec_x n _ _ _ r ht hn
end Exc
