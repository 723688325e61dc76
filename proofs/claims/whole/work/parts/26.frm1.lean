section Frame
def undR (rs : List (List Nat)) (p : List Nat) : Prop := ∃ ro, ro ∈ rs ∧ ∃ t, p = t ++ ro
theorem undR_cons {rs : List (List Nat)} {p : List Nat} (k : Nat) (h : undR rs p) : undR rs (k :: p) := by
  obtain ⟨ro, h1, t, h2⟩ := h
  exact ⟨ro, h1, k :: t, by rw [h2]; rfl⟩
def zokV (rs : List (List Nat)) : mV → Prop
  | .inr (some (_, p)) => undR rs p
  | _ => True
def okL (rs : List (List Nat)) (ls : List (Option mV)) : Prop := ∀ w, some w ∈ ls → zokV rs w
def okS (rs : List (List Nat)) (st : List mV) : Prop := ∀ w, w ∈ st → zokV rs w
def frm (rs : List (List Nat)) (m m' : mM) : Prop := ∀ q, ¬ undR rs q → m'.1 q = m.1 q ∧ m'.2.1 q = m.2.1 q
theorem frm_refl (rs : List (List Nat)) (m : mM) : frm rs m m := fun _ _ => ⟨rfl, rfl⟩
theorem frm_trans {rs : List (List Nat)} {a b c : mM} (h1 : frm rs a b) (h2 : frm rs b c) : frm rs a c := fun q hq => ⟨(h2 q hq).1.trans (h1 q hq).1, (h2 q hq).2.trans (h1 q hq).2⟩
theorem frm_I {rs : List (List Nat)} {m : mM} {p : List Nat} {g : Nat → Int32} (h : undR rs p) : frm rs m (uI m.1 p g, m.2) := fun q hq => by
  refine ⟨?_, rfl⟩
  show (if q = p then g else m.1 q) = m.1 q
  rw [if_neg]
  intro e; subst e; exact hq h
theorem frm_L {rs : List (List Nat)} {m : mM} {p : List Nat} {g : Nat → Int64} {z : Nat} (h : undR rs p) : frm rs m (m.1, uL m.2.1 p g, z) := fun q hq => by
  refine ⟨rfl, ?_⟩
  show (if q = p then g else m.2.1 q) = m.2.1 q
  rw [if_neg]
  intro e; subst e; exact hq h
def zokO (rs : List (List Nat)) (mem : mM) : mO → Prop
  | .inl l => ∀ s, s ∈ l → okL rs s.2.2.1 ∧ okS rs s.2.2.2.1 ∧ frm rs mem s.2.2.2.2
  | .inr (.inl (_, v)) => ∀ w, v = some w → zokV rs w
  | .inr (.inr (_, args, rest)) => okS rs args ∧ okS rs rest
variable {rs : List (List Nat)}
theorem okS_nil : okS rs [] := fun _ h => by cases h
theorem okS_cons {v : mV} {st : List mV} (h : zokV rs v) (hs : okS rs st) : okS rs (v :: st) := fun w hw => by
  rcases List.mem_cons.mp hw with e | e
  · rw [e]; exact h
  · exact hs w e
theorem okS_tl {v : mV} {st : List mV} (hs : okS rs (v :: st)) : okS rs st := fun w hw => hs w (List.mem_cons_of_mem _ hw)
theorem okS_hd {v : mV} {st : List mV} (hs : okS rs (v :: st)) : zokV rs v := hs v List.mem_cons_self
theorem okS_drop {st : List mV} (n : Nat) (hs : okS rs st) : okS rs (st.drop n) := fun w hw => hs w (List.mem_of_mem_drop hw)
theorem okL_set {ls : List (Option mV)} {i : Nat} {v : Option mV} (h : okL rs ls) (hv : ∀ w, v = some w → zokV rs w) : okL rs (ls.set i v) := fun w hw => by
  rcases List.mem_or_eq_of_mem_set hw with e | e
  · exact h w e
  · exact hv w e.symm
theorem okL_lSet {ls : List (Option mV)} {i : Nat} {v : mV} (h : okL rs ls) (hv : zokV rs v) : okL rs (lSet ls i v) := by
  unfold lSet
  have h1 : ∀ l1 : List (Option mV), okL rs l1 → okL rs (l1.set i (some v)) := fun l1 q => okL_set q (fun w hw => by cases hw; exact hv)
  apply h1
  split
  · exact h
  · split
    · exact okL_set h (fun w hw => by cases hw)
    · exact h
theorem okL_lSet2 {ls : List (Option mV)} {i : Nat} {v : mV} (h : okL rs ls) (hv : zokV rs v) : okL rs (lSet2 ls i v) := okL_set (okL_lSet h hv) (fun w hw => by cases hw)
theorem okV_int {v : mV} (h : (∃ x, v = vi x) ∨ (∃ x, v = vk x) ∨ ∃ x, v = vl x) : zokV rs v := by
  rcases h with ⟨x, rfl⟩ | ⟨x, rfl⟩ | ⟨x, rfl⟩ <;> trivial
section Inv
variable {α : Type} {a : α} {st : List mV}
theorem zbif_inv {b : Bool} {x : Option α} (h : (bif b then x else none) = some a) : x = some a := by
  cases b with
  | true => exact h
  | false => cases h
theorem zpI_inv {k : Int32 → List mV → Option α} (h : pI st k = some a) (hs : okS rs st) : ∃ v r, k v r = some a ∧ okS rs r := by
  unfold pI at h
  split at h
  · exact ⟨_, _, h, okS_tl hs⟩
  · exact ⟨_, _, h, okS_tl hs⟩
  · cases h
theorem zpL_inv {k : Int64 → List mV → Option α} (h : pL st k = some a) (hs : okS rs st) : ∃ v r, k v r = some a ∧ okS rs r := by
  unfold pL at h
  split at h
  · exact ⟨_, _, h, okS_tl hs⟩
  · cases h
theorem zpR_inv {k : Nat → List Nat → List mV → Option α} (h : pR st k = some a) (hs : okS rs st) : ∃ c p r, k c p r = some a ∧ undR rs p ∧ okS rs r := by
  unfold pR at h
  split at h
  · exact ⟨_, _, _, h, okS_hd hs, okS_tl hs⟩
  · cases h
theorem zpN_inv {k : Option (Nat × List Nat) → List mV → Option α} (h : pN st k = some a) (hs : okS rs st) : ∃ v r, k v r = some a ∧ zokV rs (.inr v) ∧ okS rs r := by
  unfold pN at h
  split at h
  · exact ⟨_, _, h, okS_hd hs, okS_tl hs⟩
  · cases h
theorem zpV_inv {k : mV → List mV → Option α} (h : pV st k = some a) (hs : okS rs st) : ∃ v r, k v r = some a ∧ zokV rs v ∧ okS rs r := by
  unfold pV at h
  split at h
  · exact ⟨_, _, h, okS_hd hs, okS_tl hs⟩
  · exact ⟨_, _, h, okS_hd hs, okS_tl hs⟩
  · cases h
theorem zpA_inv {k : mV → List mV → Option α} (h : pA st k = some a) (hs : okS rs st) : ∃ v r, k v r = some a ∧ zokV rs v ∧ okS rs r := by
  unfold pA at h
  split at h
  · exact ⟨_, _, h, okS_hd hs, okS_tl hs⟩
  · exact ⟨_, _, h, okS_hd hs, okS_tl hs⟩
  · exact ⟨_, _, h, okS_hd hs, okS_tl hs⟩
  · cases h
theorem zpX_inv {n : Nat} {k : Bool → Nat → List mV → Option α} (h : pX n st k = some a) (hs : okS rs st) : ∃ b v r, k b v r = some a ∧ okS rs r := by
  unfold pX at h
  split at h
  · exact ⟨_, _, _, h, okS_tl hs⟩
  · exact ⟨_, _, _, h, okS_tl hs⟩
  · cases h
theorem zpZ_inv {k : Bool → Int32 → List mV → Option α} (h : pZ st k = some a) (hs : okS rs st) : ∃ b v r, k b v r = some a ∧ okS rs r := by
  unfold pZ at h
  split at h
  · exact ⟨_, _, _, h, okS_tl hs⟩
  · exact ⟨_, _, _, h, okS_tl hs⟩
  · cases h
theorem zpD_inv {k : Bool → Int32 → List mV → Option α} (h : pD st k = some a) (hs : okS rs st) : ∃ b v r, k b v r = some a ∧ okS rs r := by
  unfold pD at h
  split at h
  · exact ⟨_, _, _, h, okS_tl hs⟩
  · exact ⟨_, _, _, h, okS_tl hs⟩
  · cases h
theorem okL_at {ls : List (Option mV)} {i : Nat} {v : mV} (h : okL rs ls) (e : ls[i]? = some (some v)) : zokV rs v := h v (List.mem_of_getElem? e)
theorem zldI_inv {ls : List (Option mV)} {i : Nat} {k : mV → Option mO} {o : mO} (h : ldI ls i k = some o) (hl : okL rs ls) : ∃ v, k v = some o ∧ zokV rs v := by
  unfold ldI at h
  split at h
  · next e => exact ⟨_, h, okL_at hl e⟩
  · next e => exact ⟨_, h, okL_at hl e⟩
  · cases h
theorem zldL_inv {ls : List (Option mV)} {i : Nat} {k : Int64 → Option mO} {o : mO} (h : ldL ls i k = some o) (hl : okL rs ls) : ∃ v, k v = some o := by
  unfold ldL at h
  split at h
  · exact ⟨_, h⟩
  · cases h
theorem zldR_inv {ls : List (Option mV)} {i : Nat} {k : Option (Nat × List Nat) → Option mO} {o : mO} (h : ldR ls i k = some o) (hl : okL rs ls) : ∃ v, k v = some o ∧ zokV rs (.inr v) := by
  unfold ldR at h
  split at h
  · next e => exact ⟨_, h, okL_at hl e⟩
  · cases h
theorem gO_ok {pc : Nat} {ls : List (Option mV)} {mem mem' : mM} {o : mO} (h : gO pc ls st mem' = some o) (hl : okL rs ls) (hs : okS rs st) (hf : frm rs mem mem') : zokO rs mem o := by
  cases h
  intro s hs'
  rcases List.mem_singleton.mp hs' with rfl
  exact ⟨hl, hs, hf⟩
theorem gG_ok {b : Bool} {pc : Nat} {ls : List (Option mV)} {mem mem' : mM} {o : mO} (h : gG b pc ls st mem' = some o) (hl : okL rs ls) (hs : okS rs st) (hf : frm rs mem mem') : zokO rs mem o := by
  cases h
  intro s hs'
  rcases List.mem_singleton.mp hs' with rfl
  exact ⟨hl, hs, hf⟩
theorem gB_ok {b : Bool} {pc : Nat} {off : Int} {ls : List (Option mV)} {mem : mM} {o : mO} (h : gB b pc off ls st mem = some o) (hl : okL rs ls) (hs : okS rs st) : zokO rs mem o := by
  unfold gB at h
  split at h
  · cases h
    intro s hs'
    rcases List.mem_cons.mp hs' with rfl | hs'
    · exact ⟨hl, hs, frm_refl _ _⟩
    · rcases List.mem_singleton.mp hs' with rfl
      exact ⟨hl, hs, frm_refl _ _⟩
  · cases h
theorem callT_ok {t n ci pc : Nat} {ls : List (Option mV)} {mem : mM} {virt : Bool} {o : mO} (h : callT t n ci pc ls st mem virt = some o) (hs : okS rs st) : zokO rs mem o := by
  unfold callT at h
  dsimp only at h
  have h := zbif_inv h
  cases h
  exact ⟨fun w hw => hs w (List.mem_of_mem_take (List.mem_reverse.mp hw)), okS_drop n hs⟩
theorem swL_ok {v : Int32} {ls : List (Option mV)} {mem : mM} {d : Nat} (hl : okL rs ls) (hs : okS rs st) : ∀ (ts : List Nat) (k : Nat) (s : Bool × mS), s ∈ swL v k ts ls st mem d → okL rs s.2.2.1 ∧ okS rs s.2.2.2.1 ∧ frm rs mem s.2.2.2.2
  | [], k, s, h => by
    rcases List.mem_singleton.mp h with rfl
    exact ⟨hl, hs, frm_refl _ _⟩
  | t :: r, k, s, h => by
    rcases List.mem_cons.mp h with rfl | h
    · exact ⟨hl, hs, frm_refl _ _⟩
    · exact swL_ok hl hs r (k + 1) s h
theorem lkL_ok {v : Int32} {ls : List (Option mV)} {mem : mM} {d : Nat} (hl : okL rs ls) (hs : okS rs st) : ∀ (ts : List (Int × Nat)) (s : Bool × mS), s ∈ lkL v ts ls st mem d → okL rs s.2.2.1 ∧ okS rs s.2.2.2.1 ∧ frm rs mem s.2.2.2.2
  | [], s, h => by
    rcases List.mem_singleton.mp h with rfl
    exact ⟨hl, hs, frm_refl _ _⟩
  | (a, t) :: r, s, h => by
    rcases List.mem_cons.mp h with rfl | h
    · exact ⟨hl, hs, frm_refl _ _⟩
    · exact lkL_ok hl hs r s h
end Inv
end Frame
