/-! THE SMALL MACHINE STANDS FOR THE REAL ONE: whole runs -/
def EXM (mem : mM) (z : Option mO) : Prop := ∀ al, z = some (.inl al) → ∀ q ∈ al, mem.2.2 ≤ q.2.2.2.2.2.2
section Ex
variable {mem : mM}
theorem ex_none : EXM mem none := fun _ h => by cases h
theorem ex_inr {z : (Bool × Option mV) ⊕ (Nat × List mV × List mV)} : EXM mem (some (.inr z)) := fun _ h => by cases h
theorem ex_gO {pc ls st mem'} (h : mem.2.2 ≤ mem'.2.2) : EXM mem (gO pc ls st mem') := fun al e q hq => by
  cases e
  rw [List.mem_singleton.mp hq]
  exact h
theorem ex_gG {b pc ls st mem'} (h : mem.2.2 ≤ mem'.2.2) : EXM mem (gG b pc ls st mem') := fun al e q hq => by
  cases e
  rw [List.mem_singleton.mp hq]
  exact h
theorem ex_gB {b pc off ls st} : EXM mem (gB b pc off ls st mem) := fun al e q hq => by
  unfold gB at e
  split at e
  · cases e
    rcases List.mem_cons.mp hq with rfl | hq
    · exact Nat.le_refl _
    · rw [List.mem_singleton.mp hq]
      exact Nat.le_refl _
  · cases e
theorem ex_pI {st} {k : Int32 → List mV → Option mO} (h : ∀ v r, EXM mem (k v r)) : EXM mem (pI st k) := fun al e => by obtain ⟨v, u, r, -, -, h2⟩ := pI_inv e; exact h v r al h2
theorem ex_pL {st} {k : Int64 → List mV → Option mO} (h : ∀ v r, EXM mem (k v r)) : EXM mem (pL st k) := fun al e => by obtain ⟨v, r, -, h2⟩ := pL_inv e; exact h v r al h2
theorem ex_pR {st} {k : Nat → List Nat → List mV → Option mO} (h : ∀ c p r, EXM mem (k c p r)) : EXM mem (pR st k) := fun al e => by obtain ⟨c, p, r, -, h2⟩ := pR_inv e; exact h c p r al h2
theorem ex_pA {st} {k : mV → List mV → Option mO} (h : ∀ v r, EXM mem (k v r)) : EXM mem (pA st k) := fun al e => by obtain ⟨v, r, -, -, h2⟩ := pA_inv e; exact h v r al h2
theorem ex_pN {st} {k : Option (Nat × List Nat) → List mV → Option mO} (h : ∀ v r, EXM mem (k v r)) : EXM mem (pN st k) := fun al e => by obtain ⟨v, r, -, h2⟩ := pN_inv e; exact h v r al h2
theorem ex_pV {st} {k : mV → List mV → Option mO} (h : ∀ v r, EXM mem (k v r)) : EXM mem (pV st k) := fun al e => by obtain ⟨v, u, r, -, -, h2⟩ := pV_inv e; exact h u r al h2
theorem ex_pD {st} {k : Bool → Int32 → List mV → Option mO} (h : ∀ b v r, EXM mem (k b v r)) : EXM mem (pD st k) := fun al e => by obtain ⟨b, v, u, r, -, -, -, h2⟩ := pD_inv e; exact h b v r al h2
theorem ex_pZ {st} {k : Bool → Int32 → List mV → Option mO} (h : ∀ b v r, EXM mem (k b v r)) : EXM mem (pZ st k) := fun al e => by obtain ⟨b, v, u, r, -, -, -, h2⟩ := pZ_inv e; exact h b v r al h2
theorem ex_pX {n st} {k : Bool → Nat → List mV → Option mO} (h : ∀ b v r, EXM mem (k b v r)) : EXM mem (pX n st k) := fun al e => by obtain ⟨b, i, v, u, r, -, -, -, h2⟩ := pX_inv e; exact h b i r al h2
theorem ex_ldI {ls i} {k : mV → Option mO} (h : ∀ v, EXM mem (k v)) : EXM mem (ldI ls i k) := fun al e => by obtain ⟨v, u, -, -, h2⟩ := ldI_inv e; exact h u al h2
theorem ex_ldL {ls i} {k : Int64 → Option mO} (h : ∀ v, EXM mem (k v)) : EXM mem (ldL ls i k) := fun al e => by obtain ⟨v, -, h2⟩ := ldL_inv e; exact h v al h2
theorem ex_ldR {ls i} {k : Option (Nat × List Nat) → Option mO} (h : ∀ v, EXM mem (k v)) : EXM mem (ldR ls i k) := fun al e => by obtain ⟨v, -, h2⟩ := ldR_inv e; exact h v al h2
theorem ex_bif {b : Bool} {u v : Option mO} (h1 : EXM mem u) (h2 : EXM mem v) : EXM mem (bif b then u else v) := by cases b <;> assumption
theorem ex_swL {v : Int32} {ls st d} : ∀ (ts : List Nat) (k0 : Nat), EXM mem (some (.inl (swL v k0 ts ls st mem d)))
  | [], k0 => fun al e q hq => by
    cases e
    rw [List.mem_singleton.mp hq]
    exact Nat.le_refl _
  | t :: ts, k0 => fun al e q hq => by
    cases e
    rcases List.mem_cons.mp hq with rfl | hq
    · exact Nat.le_refl _
    · exact ex_swL ts (k0 + 1) _ rfl q hq
theorem ex_lkL {v : Int32} {ls st d} : ∀ (ts : List (Int × Nat)), EXM mem (some (.inl (lkL v ts ls st mem d)))
  | [] => fun al e q hq => by
    cases e
    rw [List.mem_singleton.mp hq]
    exact Nat.le_refl _
  | (a, t) :: ts => fun al e q hq => by
    cases e
    rcases List.mem_cons.mp hq with rfl | hq
    · exact Nat.le_refl _
    · exact ex_lkL ts _ rfl q hq
theorem ex_callT {t n ci pc ls st b} : EXM mem (callT t n ci pc ls st mem b) := fun al e => absurd e callT_no
theorem ex_intr {j pc ls st} : EXM mem (intr j pc ls st mem) := by
  unfold intr
  repeat first | exact ex_gO (Nat.le_refl _) | exact ex_gO (Nat.le_succ _) | exact ex_gO (Nat.le_add_right _ _) | exact ex_gG (Nat.le_refl _) | exact ex_none | refine ex_bif ?_ ?_ | refine ex_pI (fun _ _ => ?_) | refine ex_pR (fun _ _ _ => ?_)
theorem ex_isem {L : Nat} {xs : Nat → Int32} {m pc len fa fb fc : Nat} {ig : Instr} {ls st} : EXM mem (isem L xs m pc len ig fa fb fc ls st mem) := by
  cases ig <;> first
    | exact ex_none
    | (unfold isem; dsimp only
       repeat first | exact ex_gO (Nat.le_refl _) | exact ex_gG (Nat.le_refl _) | exact ex_gB | exact ex_none | exact ex_callT | exact ex_intr | exact ex_inr | exact ex_swL _ _ | exact ex_lkL _ | refine ex_bif ?_ ?_ | refine ex_pI (fun _ _ => ?_) | refine ex_pL (fun _ _ => ?_) | refine ex_pR (fun _ _ _ => ?_) | refine ex_pA (fun _ _ => ?_) | refine ex_pV (fun _ _ => ?_) | refine ex_pN (fun _ _ => ?_) | refine ex_pD (fun _ _ _ => ?_) | refine ex_pZ (fun _ _ _ => ?_) | refine ex_pX (fun _ _ _ => ?_) | refine ex_ldI (fun _ => ?_) | refine ex_ldL (fun _ => ?_) | refine ex_ldR (fun _ => ?_) | split)
end Ex
def EXQ (mem : mM) (z : Option mO) : Prop := ∀ al, z = some (.inl al) → ∀ q ∈ al, q.2.2.2.2.2.2 = mem.2.2
section Eq
variable {mem : mM}
theorem eq_none : EXQ mem none := fun _ h => by cases h
theorem eq_inr {z : (Bool × Option mV) ⊕ (Nat × List mV × List mV)} : EXQ mem (some (.inr z)) := fun _ h => by cases h
theorem eq_gO {pc ls st mem'} (h : mem'.2.2 = mem.2.2) : EXQ mem (gO pc ls st mem') := fun al e q hq => by
  cases e
  rw [List.mem_singleton.mp hq]
  exact h
theorem eq_gG {b pc ls st mem'} (h : mem'.2.2 = mem.2.2) : EXQ mem (gG b pc ls st mem') := fun al e q hq => by
  cases e
  rw [List.mem_singleton.mp hq]
  exact h
theorem eq_gB {b pc off ls st} : EXQ mem (gB b pc off ls st mem) := fun al e q hq => by
  unfold gB at e
  split at e
  · cases e
    rcases List.mem_cons.mp hq with rfl | hq
    · exact rfl
    · rw [List.mem_singleton.mp hq]
  · cases e
theorem eq_pI {st} {k : Int32 → List mV → Option mO} (h : ∀ v r, EXQ mem (k v r)) : EXQ mem (pI st k) := fun al e => by obtain ⟨v, u, r, -, -, h2⟩ := pI_inv e; exact h v r al h2
theorem eq_pL {st} {k : Int64 → List mV → Option mO} (h : ∀ v r, EXQ mem (k v r)) : EXQ mem (pL st k) := fun al e => by obtain ⟨v, r, -, h2⟩ := pL_inv e; exact h v r al h2
theorem eq_pR {st} {k : Nat → List Nat → List mV → Option mO} (h : ∀ c p r, EXQ mem (k c p r)) : EXQ mem (pR st k) := fun al e => by obtain ⟨c, p, r, -, h2⟩ := pR_inv e; exact h c p r al h2
theorem eq_pA {st} {k : mV → List mV → Option mO} (h : ∀ v r, EXQ mem (k v r)) : EXQ mem (pA st k) := fun al e => by obtain ⟨v, r, -, -, h2⟩ := pA_inv e; exact h v r al h2
theorem eq_pN {st} {k : Option (Nat × List Nat) → List mV → Option mO} (h : ∀ v r, EXQ mem (k v r)) : EXQ mem (pN st k) := fun al e => by obtain ⟨v, r, -, h2⟩ := pN_inv e; exact h v r al h2
theorem eq_pV {st} {k : mV → List mV → Option mO} (h : ∀ v r, EXQ mem (k v r)) : EXQ mem (pV st k) := fun al e => by obtain ⟨v, u, r, -, -, h2⟩ := pV_inv e; exact h u r al h2
theorem eq_pD {st} {k : Bool → Int32 → List mV → Option mO} (h : ∀ b v r, EXQ mem (k b v r)) : EXQ mem (pD st k) := fun al e => by obtain ⟨b, v, u, r, -, -, -, h2⟩ := pD_inv e; exact h b v r al h2
theorem eq_pZ {st} {k : Bool → Int32 → List mV → Option mO} (h : ∀ b v r, EXQ mem (k b v r)) : EXQ mem (pZ st k) := fun al e => by obtain ⟨b, v, u, r, -, -, -, h2⟩ := pZ_inv e; exact h b v r al h2
theorem eq_pX {n st} {k : Bool → Nat → List mV → Option mO} (h : ∀ b v r, EXQ mem (k b v r)) : EXQ mem (pX n st k) := fun al e => by obtain ⟨b, i, v, u, r, -, -, -, h2⟩ := pX_inv e; exact h b i r al h2
theorem eq_ldI {ls i} {k : mV → Option mO} (h : ∀ v, EXQ mem (k v)) : EXQ mem (ldI ls i k) := fun al e => by obtain ⟨v, u, -, -, h2⟩ := ldI_inv e; exact h u al h2
theorem eq_ldL {ls i} {k : Int64 → Option mO} (h : ∀ v, EXQ mem (k v)) : EXQ mem (ldL ls i k) := fun al e => by obtain ⟨v, -, h2⟩ := ldL_inv e; exact h v al h2
theorem eq_ldR {ls i} {k : Option (Nat × List Nat) → Option mO} (h : ∀ v, EXQ mem (k v)) : EXQ mem (ldR ls i k) := fun al e => by obtain ⟨v, -, h2⟩ := ldR_inv e; exact h v al h2
theorem eq_bif {b : Bool} {u v : Option mO} (h1 : EXQ mem u) (h2 : EXQ mem v) : EXQ mem (bif b then u else v) := by cases b <;> assumption
theorem eq_swL {v : Int32} {ls st d} : ∀ (ts : List Nat) (k0 : Nat), EXQ mem (some (.inl (swL v k0 ts ls st mem d)))
  | [], k0 => fun al e q hq => by
    cases e
    rw [List.mem_singleton.mp hq]
  | t :: ts, k0 => fun al e q hq => by
    cases e
    rcases List.mem_cons.mp hq with rfl | hq
    · exact rfl
    · exact eq_swL ts (k0 + 1) _ rfl q hq
theorem eq_lkL {v : Int32} {ls st d} : ∀ (ts : List (Int × Nat)), EXQ mem (some (.inl (lkL v ts ls st mem d)))
  | [] => fun al e q hq => by
    cases e
    rw [List.mem_singleton.mp hq]
  | (a, t) :: ts => fun al e q hq => by
    cases e
    rcases List.mem_cons.mp hq with rfl | hq
    · exact rfl
    · exact eq_lkL ts _ rfl q hq
theorem eq_callT {t n ci pc ls st b} : EXQ mem (callT t n ci pc ls st mem b) := fun al e => absurd e callT_no
theorem eq_intr {j pc ls st} (h4 : j ≠ 904) (h5 : j ≠ 905) : EXQ mem (intr j pc ls st mem) := by
  unfold intr
  rw [show Nat.beq j 904 = false from by rw [Bool.eq_false_iff]; exact fun q => h4 (Nat.eq_of_beq_eq_true q), show Nat.beq j 905 = false from by rw [Bool.eq_false_iff]; exact fun q => h5 (Nat.eq_of_beq_eq_true q)]
  simp only [cond_false]
  repeat first | exact eq_gO (rfl) | exact eq_gG (rfl) | exact eq_none | refine eq_bif ?_ ?_ | refine eq_pI (fun _ _ => ?_) | refine eq_pR (fun _ _ _ => ?_)
theorem eq_isem {L : Nat} {xs : Nat → Int32} {m pc len fa fb fc : Nat} {ig : Instr} {ls st} (h4 : ((∃ j, ig = .invokevirtual j) ∨ ∃ j, ig = .invokestatic j) → Nat.blt fa 900 = true ∨ (fa ≠ 904 ∧ fa ≠ 905)) : EXQ mem (isem L xs m pc len ig fa fb fc ls st mem) := by
  cases ig
  case invokevirtual j =>
    show EXQ mem (bif Nat.blt fa 900 then callT fa fb fc pc ls st mem true else bif Nat.beq fa 903 || Nat.beq fa 904 then intr fa pc ls st mem else none)
    rcases h4 (Or.inl ⟨j, rfl⟩) with h | ⟨h, h'⟩
    · rw [h, cond_true]; exact eq_callT
    · exact eq_bif eq_callT (eq_bif (eq_intr h h') eq_none)
  case invokestatic j =>
    show EXQ mem (bif Nat.blt fa 900 then callT fa fb fc pc ls st mem false else bif Nat.beq fa 903 || Nat.beq fa 904 then none else intr fa pc ls st mem)
    rcases h4 (Or.inr ⟨j, rfl⟩) with h | ⟨h, h'⟩
    · rw [h, cond_true]; exact eq_callT
    · exact eq_bif eq_callT (eq_bif eq_none (eq_intr h h'))
  all_goals first
    | exact eq_none
    | (unfold isem; dsimp only
       repeat first | exact eq_gO (rfl) | exact eq_gG (rfl) | exact eq_gB | exact eq_none | exact eq_callT | exact eq_inr | exact eq_swL _ _ | exact eq_lkL _ | refine eq_bif ?_ ?_ | refine eq_pI (fun _ _ => ?_) | refine eq_pL (fun _ _ => ?_) | refine eq_pR (fun _ _ _ => ?_) | refine eq_pA (fun _ _ => ?_) | refine eq_pV (fun _ _ => ?_) | refine eq_pN (fun _ _ => ?_) | refine eq_pD (fun _ _ _ => ?_) | refine eq_pZ (fun _ _ _ => ?_) | refine eq_pX (fun _ _ _ => ?_) | refine eq_ldI (fun _ => ?_) | refine eq_ldL (fun _ => ?_) | refine eq_ldR (fun _ => ?_) | split)
end Eq
theorem nrm_ex {m : Nat} {sm : mS} : (nrm m sm).2.2.2.2.2 = sm.2.2.2.2.2 := by
  obtain ⟨pc, ls, st, mem⟩ := sm
  unfold nrm
  dsimp only
  split <;> rfl
theorem alt_mem {α : Type} {k : mS → Option α} {r : α} : ∀ {l : List (Bool × mS)}, alt l k = some r → ∃ b sm, (b, sm) ∈ l ∧ k sm = some r
  | [], h => by cases h
  | (true, sm) :: t, h => ⟨true, sm, List.mem_cons_self, h⟩
  | (false, _) :: t, h => by
    obtain ⟨b, sm, h1, h2⟩ := alt_mem (l := t) h
    exact ⟨b, sm, List.mem_cons_of_mem _ h1, h2⟩
theorem exec_ex {L : Nat} {xs : Nat → Int32} : ∀ (n m rk : Nat) (sm : mS) (r : Option mV × mM), exec L xs n m rk sm = some r → sm.2.2.2.2.2 ≤ r.2.2.2
  | 0, _, _, _, _, h => by cases h
  | n + 1, m, rk, sm, r, h => by
    rw [exec_succ] at h
    obtain ⟨pc, ls, st, mem⟩ := sm
    unfold body at h
    dsimp only at h
    cases hs : mStep L xs m pc ls st mem with
    | none => rw [hs] at h; cases h
    | some o =>
      rw [hs] at h
      rcases o with al | ⟨b, v⟩ | ⟨t, args, rest⟩
      · obtain ⟨b, s', h1, h2⟩ := alt_mem h
        have h3 := exec_ex n m rk _ r h2
        rw [nrm_ex] at h3
        unfold mStep at hs
        split at hs
        · cases hs
        · have h4 := ex_isem _ hs _ h1
          exact Nat.le_trans h4 h3
      · dsimp only at h
        cases hb : b && retB (kRt m) v with
        | false => rw [hb] at h; cases h
        | true => rw [hb] at h; cases h; exact Nat.le_refl _
      · dsimp only at h
        cases hb : Nat.blt (rkM t (cArg t args)) rk with
        | false => rw [hb] at h; cases h
        | true =>
          rw [hb] at h
          simp only [cond_true] at h
          cases hz : exec L xs n t (rkM t (cArg t args)) (0, ini t (cArg t args), [], mem) with
          | none => rw [hz] at h; cases h
          | some z =>
            rw [hz] at h
            have h1 := exec_ex n _ _ _ _ hz
            have h2 := exec_ex n _ _ _ _ h
            exact Nat.le_trans h1 h2
theorem iRs_law : ∀ o, o ≠ 12 → ∀ q ∈ iRs.getD o [], q.2 ≠ 904 ∧ q.2 ≠ 905 := by
  intro o ho
  match o, ho with
  | 0, _ => exact (by decide +kernel : ∀ q ∈ iRs.getD 0 [], q.2 ≠ 904 ∧ q.2 ≠ 905)
  | 1, _ => exact (by decide +kernel : ∀ q ∈ iRs.getD 1 [], q.2 ≠ 904 ∧ q.2 ≠ 905)
  | 2, _ => exact (by decide +kernel : ∀ q ∈ iRs.getD 2 [], q.2 ≠ 904 ∧ q.2 ≠ 905)
  | 3, _ => exact (by decide +kernel : ∀ q ∈ iRs.getD 3 [], q.2 ≠ 904 ∧ q.2 ≠ 905)
  | 4, _ => exact (by decide +kernel : ∀ q ∈ iRs.getD 4 [], q.2 ≠ 904 ∧ q.2 ≠ 905)
  | 5, _ => exact (by decide +kernel : ∀ q ∈ iRs.getD 5 [], q.2 ≠ 904 ∧ q.2 ≠ 905)
  | 6, _ => exact (by decide +kernel : ∀ q ∈ iRs.getD 6 [], q.2 ≠ 904 ∧ q.2 ≠ 905)
  | 7, _ => exact (by decide +kernel : ∀ q ∈ iRs.getD 7 [], q.2 ≠ 904 ∧ q.2 ≠ 905)
  | 8, _ => exact (by decide +kernel : ∀ q ∈ iRs.getD 8 [], q.2 ≠ 904 ∧ q.2 ≠ 905)
  | 9, _ => exact (by decide +kernel : ∀ q ∈ iRs.getD 9 [], q.2 ≠ 904 ∧ q.2 ≠ 905)
  | 10, _ => exact (by decide +kernel : ∀ q ∈ iRs.getD 10 [], q.2 ≠ 904 ∧ q.2 ≠ 905)
  | 11, _ => exact (by decide +kernel : ∀ q ∈ iRs.getD 11 [], q.2 ≠ 904 ∧ q.2 ≠ 905)
  | 12, h => exact absurd rfl h
  | o + 13, _ => intro q h; rw [List.getD_eq_getElem?_getD, List.getElem?_eq_none (by show iRs.length ≤ _; have : iRs.length = 13 := (by decide); omega)] at h; cases h
set_option maxRecDepth 100000 in
theorem own_law : ∀ t, t < 256 → kOw t ≠ 12 := by decide +kernel
theorem rs_call {o pc j len fa fb fc : Nat} (ho : o ≠ 12) {ig : Instr} (hr : rsB o (pc, ig, len, fa, fb, fc) = true) (hi : ig = .invokevirtual j ∨ ig = .invokestatic j) : Nat.blt fa 900 = true ∨ (fa ≠ 904 ∧ fa ≠ 905) := by
  cases hb9 : Nat.blt fa 900 with
  | true => exact Or.inl rfl
  | false =>
    right
    unfold rsB at hr
    rcases hi with rfl | rfl <;>
    · simp only [Bool.and_eq_true] at hr
      have h3 := hr.2
      rw [hb9] at h3
      exact iRs_law o ho _ (List.contains_iff_mem.mp h3)
theorem call_lt {L : Nat} {xs : Nat → Int32} {mi pc : Nat} {ls st} {mem : mM} {t : Nat} {as rest : List mV} (h : mStep L xs mi pc ls st mem = some (.inr (.inr (t, as, rest)))) : t < 256 := by
  obtain ⟨ig, len, fa, fb, fc, hd, hr, hi, hc⟩ := step_inr h
  have key : ∀ b, callT fa fb fc pc ls st mem b = some (.inr (.inr (t, as, rest))) → fa = t := by
    intro b hb
    unfold callT at hb
    obtain ⟨-, hb⟩ := bif_inv hb
    cases hb
    rfl
  rcases hc with ⟨j, rfl⟩ | ⟨j, rfl⟩ | rfl | rfl | rfl | rfl
  · have hi : (bif Nat.blt fa 900 then callT fa fb fc pc ls st mem true else bif Nat.beq fa 903 || Nat.beq fa 904 then intr fa pc ls st mem else none) = some (.inr (.inr (t, as, rest))) := hi
    cases hb9 : Nat.blt fa 900 with
    | true =>
      rw [hb9] at hi
      have e := key _ hi
      subst e
      unfold rsB at hr
      simp only [Bool.and_eq_true] at hr
      have h3 := hr.2
      rw [hb9] at h3
      simp only [cond_true, Bool.and_eq_true] at h3
      exact Nat.blt_eq.mp h3.1.1.1.2
    | false => rw [hb9] at hi; exact absurd hi (ni_bif ni_intr ni_none _)
  · have hi : (bif Nat.blt fa 900 then callT fa fb fc pc ls st mem false else bif Nat.beq fa 903 || Nat.beq fa 904 then none else intr fa pc ls st mem) = some (.inr (.inr (t, as, rest))) := hi
    cases hb9 : Nat.blt fa 900 with
    | true =>
      rw [hb9] at hi
      have e := key _ hi
      subst e
      unfold rsB at hr
      simp only [Bool.and_eq_true] at hr
      have h3 := hr.2
      rw [hb9] at h3
      simp only [cond_true, Bool.and_eq_true] at h3
      exact Nat.blt_eq.mp h3.1.1.1.2
    | false => rw [hb9] at hi; exact absurd hi (ni_bif ni_none ni_intr _)
  all_goals (exfalso; revert hi; unfold isem; dsimp only; intro hi; (repeat' split at hi) <;> cases hi)
theorem exec_eq {L : Nat} {xs : Nat → Int32} : ∀ (n m rk : Nat) (sm : mS) (r : Option mV × mM), kOw m ≠ 12 → exec L xs n m rk sm = some r → r.2.2.2 = sm.2.2.2.2.2
  | 0, _, _, _, _, _, h => by cases h
  | n + 1, m, rk, sm, r, ho, h => by
    rw [exec_succ] at h
    obtain ⟨pc, ls, st, mem⟩ := sm
    unfold body at h
    dsimp only at h
    cases hs : mStep L xs m pc ls st mem with
    | none => rw [hs] at h; cases h
    | some o =>
      rw [hs] at h
      rcases o with al | ⟨b, v⟩ | ⟨t, args, rest⟩
      · obtain ⟨b, s', h1, h2⟩ := alt_mem h
        have h3 := exec_eq n m rk _ r ho h2
        rw [nrm_ex] at h3
        rw [h3]
        unfold mStep at hs
        split at hs
        · cases hs
        · next p0 ig len fa fb fc hf =>
          obtain ⟨-, -, hr⟩ := tbl_dec hf
          exact eq_isem (fun q => q.elim (fun ⟨j, q⟩ => rs_call ho hr (Or.inl q)) (fun ⟨j, q⟩ => rs_call ho hr (Or.inr q))) _ hs _ h1
      · dsimp only at h
        cases hb : b && retB (kRt m) v with
        | false => rw [hb] at h; cases h
        | true => rw [hb] at h; cases h; rfl
      · have ht := call_lt hs
        dsimp only at h
        cases hb : Nat.blt (rkM t (cArg t args)) rk with
        | false => rw [hb] at h; cases h
        | true =>
          rw [hb] at h
          simp only [cond_true] at h
          cases hz : exec L xs n t (rkM t (cArg t args)) (0, ini t (cArg t args), [], mem) with
          | none => rw [hz] at h; cases h
          | some z =>
            rw [hz] at h
            have h1 := exec_eq n _ _ _ _ (own_law t ht) hz
            have h2 := exec_eq n _ _ _ _ ho h
            exact h2.trans h1
set_option maxRecDepth 100000 in
theorem cut_len0 : ∀ m, m < 257 → ∀ q ∈ kCut m, q.2.length = kMl m := by decide +kernel
theorem cut_len {m pc : Nat} {q : List Bool} (h : cutP m pc = some q) : q.length = kMl m := by
  have h1 := fnd_spec h
  rcases Nat.lt_or_ge m 257 with hm | hm
  · exact cut_len0 m hm _ h1
  · have e : kCut m = [] := by
      unfold kCut
      rw [show Nat.blt m 257 = false from by rw [Bool.eq_false_iff]; exact fun q => by have := Nat.blt_eq.mp q; omega]
      rfl
    rw [e] at h1
    cases h1
theorem rV_nz (ads : List Nat → Nat) (v : mV) : rV ads (nz v) = rV ads v := by rcases v with (v | v | v) | (_ | ⟨c, p⟩) <;> rfl
theorem okV_nz {v : mV} (h : okV v) : okV (nz v) := by rcases v with (v | v | v) | (_ | ⟨c, p⟩) <;> first | exact trivial | exact h
section Sim
variable {p : Program} {l : Launch} {e : Env} {R : Room} {s : State} {m : MethodId} {args : Array Value} {below : List Frame} {meth : Method} {c : Code} {Q : State → Prop}
variable {D : va_G} {aC : Nat → ClassId} {ads : List Nat → Nat} {pth : Nat → List Nat} {LL : List Nat} {A : Nat → Prop} {L : Nat} {xs : Nat → Int32} {b0 q9 mi : Nat} {cf sf : Nat → Nat}
theorem WA_nrm {sm : mS} (h : WA p l e R s m args below meth c Q D aC ads pth LL A mi cf sf (nrm mi sm)) : WA p l e R s m args below meth c Q D aC ads pth LL A mi cf sf sm := by
  obtain ⟨pc, ls, st, mem⟩ := sm
  unfold nrm at h
  dsimp only at h
  split at h
  · exact h
  · next q hq =>
    have hlen := cut_len hq
    intro rl H locs ⟨hl, hn, okl, oks, hP, hD, hS⟩
    have key : ∀ (i : Nat) (w : mV), (List.zipWith (fun b v => bif b then Option.map nz v else none) q ls)[i]? = some (some w) → ∃ u, ls[i]? = some (some u) ∧ w = nz u := by
      intro i w hw
      rw [List.getElem?_zipWith] at hw
      cases h1 : q[i]? with
      | none => rw [h1] at hw; cases hw
      | some b =>
        cases h2 : ls[i]? with
        | none => rw [h1, h2] at hw; cases hw
        | some v =>
          rw [h1, h2] at hw
          have hw : (bif b then Option.map nz v else none) = some w := Option.some.inj hw
          cases b with
          | false => cases hw
          | true =>
            cases v with
            | none => cases hw
            | some u => exact ⟨u, rfl, (Option.some.inj hw).symm⟩
    refine h rl H locs ⟨lv_less hl (fun z hz => ?_), by rw [List.length_zipWith, hlen]; exact (by rw [hn]; exact Nat.min_self _), fun i v hv => ?_, oks, hP, hD, hS⟩
    · obtain ⟨i, v⟩ := z
      obtain ⟨w, hw, rfl⟩ := toLv_mem.mp hz
      obtain ⟨u, hu, rfl⟩ := key i w hw
      rw [rV_nz]
      exact toLv_mem.mpr ⟨u, hu, rfl⟩
    · obtain ⟨u, hu, rfl⟩ := key i v hv
      exact okV_nz (okl i u hu)
end Sim

