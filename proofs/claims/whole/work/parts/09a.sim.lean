/-! THE SMALL MACHINE STANDS FOR THE REAL ONE: one instruction -/
theorem fndE_spec {α : Type} {k : Nat} {q : Nat × α} : ∀ {l : List (Nat × α)}, fndE l k = some q → q ∈ l ∧ q.1 = k
  | [], h => by cases h
  | (a, b) :: t, h => by
    unfold fndE at h
    cases hc : Nat.beq a k with
    | true =>
      rw [hc] at h
      cases h
      exact ⟨List.mem_cons_self, Nat.eq_of_beq_eq_true hc⟩
    | false =>
      rw [hc] at h
      obtain ⟨h1, h2⟩ := fndE_spec (l := t) h
      exact ⟨List.mem_cons_of_mem _ h1, h2⟩
theorem fnd_spec {α : Type} {k : Nat} {q : α} : ∀ {l : List (Nat × α)}, fnd l k = some q → (k, q) ∈ l
  | [], h => by cases h
  | (a, b) :: t, h => by
    unfold fnd at h
    cases hc : Nat.beq a k with
    | true =>
      rw [hc] at h
      cases h
      rw [Nat.eq_of_beq_eq_true hc]
      exact List.mem_cons_self
    | false =>
      rw [hc] at h
      exact List.mem_cons_of_mem _ (fnd_spec (l := t) h)
theorem fnd2_spec {α : Type} {k : Nat} {q : Nat × α} : ∀ {l : List (Nat × List (Nat × α))}, fnd2 l k = some q → (∃ c ∈ l, q ∈ c.2) ∧ q.1 = k
  | [], h => by cases h
  | (a, b) :: t, h => by
    unfold fnd2 at h
    cases hc : Nat.blt k a with
    | true =>
      rw [hc] at h
      obtain ⟨h1, h2⟩ := fndE_spec h
      exact ⟨⟨_, List.mem_cons_self, h1⟩, h2⟩
    | false =>
      rw [hc] at h
      obtain ⟨⟨c, h1, h3⟩, h2⟩ := fnd2_spec (l := t) h
      exact ⟨⟨c, List.mem_cons_of_mem _ h1, h3⟩, h2⟩
theorem tbl_dec {mi pc p0 len fa fb fc : Nat} {ig : Instr} (h : fnd2 (kCd mi) pc = some (p0, ig, len, fa, fb, fc)) : p0 = pc ∧ decode (mBy.getD mi code) pc = .ok (ig, len) ∧ rsB (kOw mi) (pc, ig, len, fa, fb, fc) = true := by
  obtain ⟨⟨c, h1, h3⟩, h2⟩ := fnd2_spec h
  obtain ⟨h4, h5⟩ := PM_all mi c h1 _ h3
  subst h2
  exact ⟨rfl, h4, h5⟩
theorem rs_len {o pc len fa fb fc : Nat} {ig : Instr} (h : rsB o (pc, ig, len, fa, fb, fc) = true) (h0 : iLen ig ≠ 0) : len = iLen ig := by
  unfold rsB at h
  simp only [Bool.and_eq_true, Bool.or_eq_true] at h
  rcases h.1 with q | q
  · exact absurd (Nat.eq_of_beq_eq_true q) h0
  · exact Nat.eq_of_beq_eq_true q

/-- the tree: what hangs at a road -/
def rootT (r : Nat) : Option Nat := if r = 0 then some 9 else if r = 1 then some 10 else if r = 2 then some 4000001 else none
def chT (c k : Nat) : Option Nat := if tgK c = 0 then (match fKd c k with
  | some t => bif Nat.ble t 1 then none else some (Nat.sub t 2)
  | none => none) else if tgK c = 5 then (if k < tgN c then some 0 else none) else if tgK c = 6 then (if k < tgN c then some 4 else none) else none
def tagOf : List Nat → Option Nat
  | [] => none
  | k :: p => match p with
    | [] => rootT k
    | q :: p' => (tagOf (q :: p')).bind fun c => chT c k
theorem tag_ch {p : List Nat} {c k d : Nat} (h : tagOf p = some c) (hd : chT c k = some d) : tagOf (k :: p) = some d := by
  cases p with
  | nil => cases h
  | cons q p' =>
    show (tagOf (q :: p')).bind _ = _
    rw [h]
    exact hd
def okV (v : mV) : Prop := match v with
  | .inr (some (c, p)) => tagOf p = some c ∨ (c = 7000000 ∧ p = [3]) ∨ (c = 8000000 ∧ p = [4])
  | .inl (.inr (.inr n)) => n.natAbs ≤ 32767
  | _ => True
def rV (ads : List Nat → Nat) (v : mV) : Value := match v with
  | .inl (.inl v) => .int v
  | .inl (.inr (.inl v)) => .long v
  | .inl (.inr (.inr n)) => .int (cI n)
  | .inr none => .null
  | .inr (some (_, p)) => .ref (ads p)
theorem rV_cat (ads : List Nat → Nat) (v : mV) : (rV ads v).category = mCat v := by
  rcases v with (v | v | v) | (_ | ⟨c, p⟩) <;> rfl
def fVal (ads : List Nat → Nat) (c : Nat) (p : List Nat) (f : Nat → Int32) (k : Nat) : Value := match fKd c k with
  | none => .null
  | some t => bif Nat.ble t 1 then .int (f k) else .ref (ads (k :: p))
def fLst (ads : List Nat → Nat) (c : Nat) (p : List Nat) (f : Nat → Int32) : List Value := (List.range (fKs.getD c []).length).map (fVal ads c p f)
def cEl (aC : Nat → ClassId) (ads : List Nat → Nat) (c : Nat) (p : List Nat) (mem : mM) : va_E :=
  if tgK c = 0 then .inr (c, fLst ads c p (mem.1 p)) else
    .inl (aC (tgK c), tgN c, if tgK c = 4 then .inr (.inl (mem.2.1 p)) else if tgK c = 5 ∨ tgK c = 6 then .inr (.inr (.inr (.inr (fun j => some (ads (j :: p)))))) else .inl (mem.1 p))
def wd (aC : Nat → ClassId) (ads : List Nat → Nat) (pth : Nat → List Nat) (LL : List Nat) (mem : mM) : va_W := va_pl LL (fun a => cEl aC ads ((tagOf (pth a)).getD 0) (pth a) mem)
def EO (ads : List Nat → Nat) (pth : Nat → List Nat) (LL : List Nat) : Prop := (∀ a ∈ LL, ∃ c, tagOf (pth a) = some c ∧ ads (pth a) = a) ∧ (∀ p c, tagOf p = some c → ads p ∈ LL ∧ pth (ads p) = p)
section World
variable {aC : Nat → ClassId} {ads : List Nat → Nat} {pth : Nat → List Nat} {LL : List Nat} {A : Nat → Prop}
theorem wd_at (E : EO ads pth LL) {p : List Nat} {c : Nat} (h : tagOf p = some c) (mem : mM) : ∃ k : Nat, (wd aC ads pth LL mem)[k]? = some (ads p, cEl aC ads c p mem) := by
  obtain ⟨h1, h2⟩ := E.2 p c h
  obtain ⟨k, hk⟩ := va_pl_get (X := []) (f := fun a => cEl aC ads ((tagOf (pth a)).getD 0) (pth a) mem) h1
  refine ⟨k, hk.trans ?_⟩
  simp only [h2, h, Option.getD_some]
theorem cEl_congr {c : Nat} {p : List Nat} {m1 m2 : mM} (h1 : m1.1 p = m2.1 p) (h2 : m1.2.1 p = m2.2.1 p) : cEl aC ads c p m1 = cEl aC ads c p m2 := by
  unfold cEl
  rw [h1, h2]
theorem wd_set (E : EO ads pth LL) {p : List Nat} {c : Nat} {m1 m2 : mM} (hD : va_D A (wd aC ads pth LL m1)) (h : tagOf p = some c) {k : Nat} (hk : (wd aC ads pth LL m1)[k]? = some (ads p, cEl aC ads c p m1))
    (he : ∀ q, q ≠ p → m2.1 q = m1.1 q ∧ m2.2.1 q = m1.2.1 q) : (wd aC ads pth LL m1).set k (ads p, cEl aC ads c p m2) = wd aC ads pth LL m2 := by
  obtain ⟨h1, h2⟩ := E.2 p c h
  have e1 : cEl aC ads ((tagOf (pth (ads p))).getD 0) (pth (ads p)) m1 = cEl aC ads c p m1 := by simp only [h2, h, Option.getD_some]
  have hs := va_pl_set (A := A) (X := []) (L := LL) (f := fun a => cEl aC ads ((tagOf (pth a)).getD 0) (pth a) m1) (a := ads p) (k := k) (e := cEl aC ads c p m2) hD h1 (by rw [e1]; exact hk)
  refine Eq.trans hs ?_
  show va_pl LL _ = va_pl LL _
  unfold va_pl
  apply List.map_congr_left
  intro a ha
  congr 1
  by_cases hap : a = ads p
  · subst hap
    rw [va_up_self]
    simp only [h2, h, Option.getD_some]
  · rw [va_up_ne _ _ hap]
    obtain ⟨c', hc', hc2⟩ := E.1 a ha
    have hne : pth a ≠ p := fun q => hap (by rw [← hc2, q])
    exact (cEl_congr (he _ hne).1 (he _ hne).2).symm
theorem uI_same {f : List Nat → Nat → Int32} {p : List Nat} {g : Nat → Int32} : uI f p g p = g := if_pos rfl
theorem uI_ne {f : List Nat → Nat → Int32} {p q : List Nat} {g : Nat → Int32} (h : q ≠ p) : uI f p g q = f q := if_neg h
theorem uL_same {f : List Nat → Nat → Int64} {p : List Nat} {g : Nat → Int64} : uL f p g p = g := if_pos rfl
theorem uL_ne {f : List Nat → Nat → Int64} {p q : List Nat} {g : Nat → Int64} (h : q ≠ p) : uL f p g q = f q := if_neg h
theorem fLst_get {c k t : Nat} {p : List Nat} {f : Nat → Int32} (hk : fKd c k = some t) : (fLst ads c p f)[k]? = some (if Nat.ble t 1 = true then .int (f k) else .ref (ads (k :: p))) := by
  have hl : k < (fKs.getD c []).length := (List.getElem?_eq_some_iff.mp hk).1
  unfold fLst
  rw [List.getElem?_map, List.getElem?_range hl]
  show some (fVal ads c p f k) = _
  unfold fVal
  rw [hk]
  show some (bif Nat.ble t 1 then Value.int (f k) else Value.ref (ads (k :: p))) = _
  cases Nat.ble t 1 <;> rfl
theorem fLst_len {c : Nat} {p : List Nat} {f : Nat → Int32} : (fLst ads c p f).length = (fKs.getD c []).length := by simp [fLst]
theorem fLst_set {c k t : Nat} {p : List Nat} {f : Nat → Int32} (v : Int32) (hk : fKd c k = some t) (ht : Nat.ble t 1 = true) : (fLst ads c p f).set k (.int v) = fLst ads c p (upd f k v) := by
  have hl : k < (fKs.getD c []).length := (List.getElem?_eq_some_iff.mp hk).1
  apply List.ext_getElem?
  intro j
  by_cases hj : j = k
  · subst hj
    rw [List.getElem?_set_self (by rw [fLst_len]; exact hl), fLst_get hk, if_pos ht]
    simp [upd]
  · rw [List.getElem?_set_ne (Ne.symm hj)]
    unfold fLst
    rw [List.getElem?_map, List.getElem?_map]
    cases hr : (List.range (fKs.getD c []).length)[j]? with
    | none => rfl
    | some i =>
      have hi : i = j := by
        have := List.getElem?_eq_some_iff.mp hr
        obtain ⟨_, q⟩ := this
        rw [List.getElem_range] at q
        exact q.symm
      subst hi
      show some _ = some _
      unfold fVal
      cases fKd c i with
      | none => rfl
      | some t' => cases Nat.ble t' 1 <;> simp [upd, hj]
/-- locals, as the kit's rows have them -/
def toLv (ads : List Nat → Nat) (ls : List (Option mV)) : List (Nat × Value) := ls.zipIdx.filterMap fun (v, i) => v.map fun w => (i, rV ads w)
theorem toLv_mem {ls : List (Option mV)} {i : Nat} {v : Value} : (i, v) ∈ toLv ads ls ↔ ∃ w, ls[i]? = some (some w) ∧ v = rV ads w := by
  unfold toLv
  rw [List.mem_filterMap]
  constructor
  · rintro ⟨⟨w, j⟩, hm, he⟩
    have h1 := List.mem_zipIdx_iff_getElem?.mp hm
    cases w with
    | none => cases he
    | some w =>
      cases he
      exact ⟨w, h1, rfl⟩
  · rintro ⟨w, hw, rfl⟩
    exact ⟨(some w, i), List.mem_zipIdx_iff_getElem?.mpr hw, rfl⟩
theorem lv_less {rl : Array Slot} {nL : Nat} {l1 l2 : List (Nat × Value)} (h : lv_has rl nL l1) (hs : ∀ q ∈ l2, q ∈ l1) : lv_has rl nL l2 := ⟨h.1, h.2.1, fun q hq => h.2.2 q (hs q hq)⟩
theorem lv_of {rl : Array Slot} {nL : Nat} {ls : List (Option mV)} {i : Nat} {w : mV} (h : lv_has rl nL (toLv ads ls)) (hw : ls[i]? = some (some w)) : rl[i]? = some (.val (rV ads w)) := h.2.2 (i, rV ads w) (toLv_mem.mpr ⟨w, hw, rfl⟩)
theorem lSet_len {ls : List (Option mV)} {i : Nat} {v : mV} : (lSet ls i v).length = ls.length := by
  unfold lSet
  cases i with
  | zero => simp
  | succ j =>
    dsimp only
    split <;> simp
theorem set_self_inv {α : Type} {l : List α} {i : Nat} {v w : α} (h : (l.set i v)[i]? = some w) : w = v := by
  rw [List.getElem?_set] at h
  simp only [if_true] at h
  split at h
  · exact (Option.some.inj h).symm
  · cases h
theorem lSet_get {ls : List (Option mV)} {i : Nat} {v : mV} {j : Nat} {w : mV} (h : (lSet ls i v)[j]? = some (some w)) : (j = i ∧ w = v) ∨ (j ≠ i ∧ ls[j]? = some (some w) ∧ ¬ (j + 1 = i ∧ mCat w = 2)) := by
  unfold lSet at h
  by_cases hj : j = i
  · left
    subst hj
    exact ⟨rfl, Option.some.inj (set_self_inv h)⟩
  · right
    refine ⟨hj, ?_⟩
    rw [List.getElem?_set_ne (Ne.symm hj)] at h
    cases i with
    | zero => exact ⟨h, fun q => by omega⟩
    | succ i =>
      dsimp only at h
      split at h
      · by_cases hji : j = i
        · subst hji
          rw [List.getElem?_set] at h
          simp only [if_true] at h
          split at h
          · cases h
          · cases h
        · rw [List.getElem?_set_ne (Ne.symm hji)] at h
          exact ⟨h, fun q => hji (by omega)⟩
      · next hn =>
        refine ⟨h, fun q => ?_⟩
        have hji : j = i := by omega
        subst hji
        rcases w with (w | w | w) | w
        · cases q.2
        · exact hn w h
        · cases q.2
        · cases q.2
theorem lSet_lv {ls : List (Option mV)} {i : Nat} {v : mV} : ∀ q ∈ toLv ads (lSet ls i v), q ∈ (i, rV ads v) :: (toLv ads ls).filter (fun q => !(q.1 == i) && !(q.1 + 1 == i && q.2.category == 2)) := by
  rintro ⟨j, u⟩ hq
  obtain ⟨w, hw, rfl⟩ := toLv_mem.mp hq
  rcases lSet_get hw with ⟨rfl, rfl⟩ | ⟨hj, h1, h2⟩
  · exact List.mem_cons_self
  · refine List.mem_cons_of_mem _ (List.mem_filter.mpr ⟨toLv_mem.mpr ⟨w, h1, rfl⟩, ?_⟩)
    simp only [rV_cat, Bool.and_eq_true, Bool.not_eq_true', beq_eq_false_iff_ne, ne_eq, Bool.and_eq_false_iff]
    refine ⟨hj, ?_⟩
    by_cases q : j + 1 = i
    · right
      exact fun z => h2 ⟨q, z⟩
    · left
      exact q
theorem lSet2_lv {ls : List (Option mV)} {i : Nat} {v : mV} : ∀ q ∈ toLv ads (lSet2 ls i v), q ∈ (i, rV ads v) :: (toLv ads ls).filter (fun q => !(q.1 == i) && (!(q.1 == i + 1) && !(q.1 + 1 == i && q.2.category == 2))) := by
  rintro ⟨j, u⟩ hq
  obtain ⟨w, hw, rfl⟩ := toLv_mem.mp hq
  unfold lSet2 at hw
  by_cases hj1 : j = i + 1
  · subst hj1
    rw [List.getElem?_set] at hw
    simp only [if_true] at hw
    split at hw <;> cases hw
  · rw [List.getElem?_set_ne (Ne.symm hj1)] at hw
    rcases lSet_get hw with ⟨rfl, rfl⟩ | ⟨hj, h1, h2⟩
    · exact List.mem_cons_self
    · refine List.mem_cons_of_mem _ (List.mem_filter.mpr ⟨toLv_mem.mpr ⟨w, h1, rfl⟩, ?_⟩)
      simp only [rV_cat, Bool.and_eq_true, Bool.not_eq_true', beq_eq_false_iff_ne, ne_eq, Bool.and_eq_false_iff]
      refine ⟨hj, hj1, ?_⟩
      by_cases q : j + 1 = i
      · right
        exact fun z => h2 ⟨q, z⟩
      · left
        exact q
theorem lSet_ok {ls : List (Option mV)} {i : Nat} {v : mV} (h : ∀ (j : Nat) (w : mV), ls[j]? = some (some w) → okV w) (hv : okV v) : ∀ (j : Nat) (w : mV), (lSet ls i v)[j]? = some (some w) → okV w := by
  intro j w hw
  rcases lSet_get hw with ⟨rfl, rfl⟩ | ⟨-, h1, -⟩
  · exact hv
  · exact h j w h1
theorem lSet2_ok {ls : List (Option mV)} {i : Nat} {v : mV} (h : ∀ (j : Nat) (w : mV), ls[j]? = some (some w) → okV w) (hv : okV v) : ∀ (j : Nat) (w : mV), (lSet2 ls i v)[j]? = some (some w) → okV w := by
  intro j w hw
  unfold lSet2 at hw
  by_cases hj1 : j = i + 1
  · subst hj1
    rw [List.getElem?_set] at hw
    simp only [if_true] at hw
    split at hw <;> cases hw
  · rw [List.getElem?_set_ne (Ne.symm hj1)] at hw
    exact lSet_ok h hv j w hw
end World
/-! what a step says when taken apart -/
theorem cI_eq (n : Int) : Int32.ofInt n = cI n := by
  cases n with
  | ofNat j => rfl
  | negSucc j =>
    show Int32.ofInt (Int.negSucc j) = -(Int32.ofNat (j + 1))
    rw [← Int32.ofInt_eq_ofNat, ← Int32.ofInt_neg]
    rfl
theorem pI_inv {α : Type} {st : List mV} {k : Int32 → List mV → Option α} {r : α} (h : pI st k = some r) : ∃ v u st', st = u :: st' ∧ (∀ ads, rV ads u = .int v) ∧ k v st' = some r := by
  unfold pI at h
  split at h
  · exact ⟨_, _, _, rfl, fun _ => rfl, h⟩
  · exact ⟨_, _, _, rfl, fun _ => rfl, h⟩
  · cases h
theorem pV_inv {α : Type} {st : List mV} {k : mV → List mV → Option α} {r : α} (h : pV st k = some r) : ∃ v u st', st = u :: st' ∧ (∀ ads, rV ads u = .int v) ∧ k u st' = some r := by
  unfold pV at h
  split at h
  · exact ⟨_, _, _, rfl, fun _ => rfl, h⟩
  · exact ⟨_, _, _, rfl, fun _ => rfl, h⟩
  · cases h
theorem pL_inv {α : Type} {st : List mV} {k : Int64 → List mV → Option α} {r : α} (h : pL st k = some r) : ∃ v st', st = vl v :: st' ∧ k v st' = some r := by
  unfold pL at h
  split at h
  · exact ⟨_, _, rfl, h⟩
  · cases h
theorem cI_toInt {n : Int} (h : n.natAbs ≤ 32767) : (cI n).toInt = n := by
  rw [← cI_eq, Int32.toInt_ofInt_of_le (by omega) (by omega)]
theorem cI_inj {n k : Int} (h : n.natAbs ≤ 32767) (hk : k.natAbs ≤ 32767) : cI n = cI k ↔ n = k := by
  rw [← Int32.toInt_inj, cI_toInt h, cI_toInt hk]
theorem cmpZ_eq {c : ClassFile.Cond} {n k : Int} (h : n.natAbs ≤ 32767) (hk : k.natAbs ≤ 32767) : cmpZ c n k = cmpB c (cI n) (cI k) := by
  cases c <;> simp only [cmpZ, cmpB, cI_inj h hk, Int32.lt_iff_toInt_lt, Int32.le_iff_toInt_le, cI_toInt h, cI_toInt hk]
theorem pD_inv {α : Type} {st : List mV} {k : Bool → Int32 → List mV → Option α} {r : α} (h : pD st k = some r) : ∃ b v u st', st = u :: st' ∧ (∀ ads, rV ads u = .int v) ∧ (okV u → b = true → ¬ v = 0) ∧ k b v st' = some r := by
  unfold pD at h
  split at h
  · refine ⟨_, _, _, _, rfl, fun _ => rfl, fun _ hb => ?_, h⟩
    rw [cmpS_eq] at hb
    simpa [cmpB] using hb
  · next n _ =>
    refine ⟨_, _, _, _, rfl, fun _ => rfl, fun ho hb => ?_, h⟩
    intro q
    have q2 : cI n = cI 0 := q
    rw [cI_inj ho (by decide)] at q2
    subst q2
    cases hb
  · cases h
theorem pZ_inv {α : Type} {st : List mV} {k : Bool → Int32 → List mV → Option α} {r : α} (h : pZ st k = some r) : ∃ b v u st', st = u :: st' ∧ (∀ ads, rV ads u = .int v) ∧ (b = true → isZ v = true) ∧ k b v st' = some r := by
  unfold pZ at h
  split at h
  · refine ⟨_, _, _, _, rfl, fun _ => rfl, fun hb => ?_, h⟩
    rw [isZS_eq] at hb
    exact hb
  · next n _ =>
    refine ⟨_, _, _, _, rfl, fun _ => rfl, fun hb => ?_, h⟩
    cases n with
    | negSucc j => cases hb
    | ofNat j =>
      have hj := Nat.le_of_ble_eq_true (show Nat.ble j 1 = true from hb)
      rcases (show j = 0 ∨ j = 1 by omega) with rfl | rfl <;> rfl
  · cases h
theorem pX_inv {α : Type} {l : Nat} {st : List mV} {k : Bool → Nat → List mV → Option α} {r : α} (h : pX l st k = some r) : ∃ b i v u st', st = u :: st' ∧ (∀ ads, rV ads u = .int v) ∧ (okV u → b = true → inB v l = true ∧ v.toNatClampNeg = i) ∧ k b i st' = some r := by
  unfold pX at h
  split at h
  · refine ⟨_, _, _, _, _, rfl, fun _ => rfl, fun _ hb => ?_, h⟩
    rw [inS_eq] at hb
    exact ⟨hb, rfl⟩
  · next n _ =>
    refine ⟨_, _, _, _, _, rfl, fun _ => rfl, fun ho hb => ?_, h⟩
    cases n with
    | negSucc j => cases hb
    | ofNat j =>
      have hj : j < l := Nat.blt_eq.mp (show Nat.blt j l = true from hb)
      have ho2 : (Int.ofNat j).natAbs ≤ 32767 := ho
      have ho : j ≤ 32767 := ho
      have e : (cI (Int.ofNat j)).toNatClampNeg = j := clamp_of (show cI (Int.ofNat j) = Int32.ofNat j from rfl) (by omega)
      refine ⟨?_, e⟩
      unfold inB
      simp only [Bool.and_eq_true, decide_eq_true_eq]
      refine ⟨?_, by rw [e]; exact hj⟩
      rw [Int32.le_iff_toInt_le, cI_toInt ho2]
      exact Int.natCast_nonneg j
  · cases h
theorem pR_inv {α : Type} {st : List mV} {k : Nat → List Nat → List mV → Option α} {r : α} (h : pR st k = some r) : ∃ c p st', st = vr c p :: st' ∧ k c p st' = some r := by
  unfold pR at h
  split at h
  · exact ⟨_, _, _, rfl, h⟩
  · cases h
theorem pN_inv {α : Type} {st : List mV} {k : Option (Nat × List Nat) → List mV → Option α} {r : α} (h : pN st k = some r) : ∃ v st', st = .inr v :: st' ∧ k v st' = some r := by
  unfold pN at h
  split at h
  · exact ⟨_, _, rfl, h⟩
  · cases h
theorem pA_inv {α : Type} {st : List mV} {k : mV → List mV → Option α} {r : α} (h : pA st k = some r) : ∃ v st', st = v :: st' ∧ mCat v = 1 ∧ k v st' = some r := by
  unfold pA at h
  split at h
  · exact ⟨_, _, rfl, rfl, h⟩
  · exact ⟨_, _, rfl, rfl, h⟩
  · exact ⟨_, _, rfl, rfl, h⟩
  · cases h
theorem bif_inv {α : Type} {b : Bool} {v : Option α} {r : α} (h : (bif b then v else none) = some r) : b = true ∧ v = some r := by
  cases b
  · cases h
  · exact ⟨rfl, h⟩
theorem ldI_inv {ls : List (Option mV)} {i : Nat} {k : mV → Option mO} {r : mO} (h : ldI ls i k = some r) : ∃ v u, ls[i]? = some (some u) ∧ (∀ ads, rV ads u = .int v) ∧ k u = some r := by
  unfold ldI at h
  split at h
  · next v hv => exact ⟨_, _, hv, fun _ => rfl, h⟩
  · next v hv => exact ⟨_, _, hv, fun _ => rfl, h⟩
  · cases h
theorem ldL_inv {ls : List (Option mV)} {i : Nat} {k : Int64 → Option mO} {r : mO} (h : ldL ls i k = some r) : ∃ v, ls[i]? = some (some (vl v)) ∧ k v = some r := by
  unfold ldL at h
  split at h
  · next v hv => exact ⟨v, hv, h⟩
  · cases h
theorem ldR_inv {ls : List (Option mV)} {i : Nat} {k : Option (Nat × List Nat) → Option mO} {r : mO} (h : ldR ls i k = some r) : ∃ v, ls[i]? = some (some (.inr v)) ∧ k v = some r := by
  unfold ldR at h
  split at h
  · next v hv => exact ⟨v, hv, h⟩
  · cases h
section Alts
variable {α : Type} {pc : Nat} {ls : List (Option mV)} {st : List mV} {mem : mM} {al : List (Bool × mS)} {k : mS → Option α} {r : α}
theorem gO_inv (h : gO pc ls st mem = some (.inl al)) (hk : alt al k = some r) : k (pc, ls, st, mem) = some r := by
  unfold gO at h
  cases h
  exact hk
theorem gG_inv {b : Bool} (h : gG b pc ls st mem = some (.inl al)) (hk : alt al k = some r) : b = true ∧ k (pc, ls, st, mem) = some r := by
  unfold gG at h
  cases h
  cases b
  · cases hk
  · exact ⟨rfl, hk⟩
theorem jmp_inv {off : Int} {t : Nat} (h : jmp pc off = some t) : (pc : Int) + off = (t : Int) := by
  unfold jmp at h
  split at h
  · cases h
    rfl
  · next j =>
    obtain ⟨h1, h2⟩ := bif_inv h
    cases h2
    have h3 : j < pc := by
      have := h1
      simp only [Nat.blt_eq] at this
      exact this
    show (pc : Int) + Int.negSucc j = ((pc - (j + 1) : Nat) : Int)
    omega
theorem gB_inv {b : Bool} {off : Int} (h : gB b pc off ls st mem = some (.inl al)) (hk : alt al k = some r) : ∃ t : Nat, (pc : Int) + off = (t : Int) ∧ ((b = true ∧ k (t, ls, st, mem) = some r) ∨ (b = false ∧ k (pc + 3, ls, st, mem) = some r)) := by
  unfold gB at h
  split at h
  · next t ht =>
    cases h
    refine ⟨t, jmp_inv ht, ?_⟩
    cases b
    · exact Or.inr ⟨rfl, hk⟩
    · exact Or.inl ⟨rfl, hk⟩
  · cases h
end Alts
theorem inB_in {i : Int32} {n : Nat} (h : inB i n = true) : vp_in i n := by
  unfold inB at h
  simp only [Bool.and_eq_true, decide_eq_true_eq] at h
  intro q
  rcases q with q | q
  · exact absurd h.1 (Int32.not_le.mpr q)
  · omega

theorem cI8 {n : Int} (h : Nat.ble n.natAbs 127 = true) : (Int8.ofInt n).toInt32 = cI n := by
  have h := Nat.le_of_ble_eq_true h
  rw [← cI_eq, ← Int32.toInt_inj, Int8.toInt_toInt32, Int8.toInt_ofInt_of_le (by omega) (by omega), Int32.toInt_ofInt_of_le (by omega) (by omega)]
theorem cI16 {n : Int} (h : Nat.ble n.natAbs 32767 = true) : (Int16.ofInt n).toInt32 = cI n := by
  have h := Nat.le_of_ble_eq_true h
  rw [← cI_eq, ← Int32.toInt_inj, Int16.toInt_toInt32, Int16.toInt_ofInt_of_le (by omega) (by omega), Int32.toInt_ofInt_of_le (by omega) (by omega)]
theorem isZ_or {v : Int32} (h : isZ v = true) : v = 0 ∨ v = 1 := by
  unfold isZ at h
  simpa using h
theorem isZ_nar {v : Int32} (h : isZ v = true) : narrow .boolean (.int v) = .int v := by
  rcases isZ_or h with rfl | rfl <;> rfl
theorem isZ_fit {v : Int32} (h : isZ v = true) : fits .boolean (.int v) = true := by
  rcases isZ_or h with rfl | rfl <;> rfl
