section Tree
variable {aC : Nat → ClassId}
def tagR (c0 : Nat) : List Nat → Option Nat
  | [] => some c0
  | k :: p => (tagR c0 p).bind fun c => chT c k
theorem tagR_snoc (c0 k : Nat) : ∀ r : List Nat, tagR c0 (r ++ [k]) = (chT c0 k).bind fun t => tagR t r
  | [] => by
    show chT c0 k = _
    cases chT c0 k <;> rfl
  | j :: r => by
    show (tagR c0 (r ++ [k])).bind _ = _
    rw [tagR_snoc c0 k r]
    cases chT c0 k <;> rfl
theorem tagOf_snoc (k : Nat) : ∀ r : List Nat, tagOf (r ++ [k]) = (rootT k).bind fun t => tagR t r
  | [] => by
    show rootT k = _
    cases rootT k <;> rfl
  | j :: r => by
    have ih := tagOf_snoc k r
    cases hr : r ++ [k] with
    | nil => simp at hr
    | cons q p' =>
      rw [hr] at ih
      show tagOf (j :: (r ++ [k])) = _
      rw [hr]
      show (tagOf (q :: p')).bind _ = _
      rw [ih]
      cases rootT k <;> rfl
theorem cEl_ads {ads ads' : List Nat → Nat} {c : Nat} {p p' : List Nat} {m m' : mM} (h : ∀ j, ads (j :: p) = ads' (j :: p')) (h1 : m.1 p = m'.1 p') (h2 : m.2.1 p = m'.2.1 p') : cEl aC ads c p m = cEl aC ads' c p' m' := by
  have e1 : fLst ads c p (m.1 p) = fLst ads' c p' (m'.1 p') := by
    unfold fLst
    apply List.map_congr_left
    intro k _
    unfold fVal
    rw [h1, h k]
  unfold cEl
  rw [e1, h1, h2]
  have e2 : (fun j => some (ads (j :: p))) = fun j => some (ads' (j :: p')) := funext fun j => by rw [h j]
  rw [e2]
def TR (aC : Nat → ClassId) (c0 a0 : Nat) (L : List Nat) (f : Nat → va_E) (mem : mM) : Prop := ∃ (ads : List Nat → Nat) (pth : Nat → List Nat), ads [] = a0 ∧
  (∀ r c, tagR c0 r = some c → ads r ∈ L ∧ pth (ads r) = r ∧ f (ads r) = cEl aC ads c r mem) ∧ ∀ a, a ∈ L → ∃ c, tagR c0 (pth a) = some c ∧ ads (pth a) = a
theorem TR_congr {c0 a0 : Nat} {L : List Nat} {f g : Nat → va_E} {mem : mM} (h : ∀ a, a ∈ L → g a = f a) (ht : TR aC c0 a0 L f mem) : TR aC c0 a0 L g mem := by
  obtain ⟨ads, pth, h1, h2, h3⟩ := ht
  exact ⟨ads, pth, h1, fun r c hr => ⟨(h2 r c hr).1, (h2 r c hr).2.1, by rw [h _ (h2 r c hr).1]; exact (h2 r c hr).2.2⟩, h3⟩
theorem TR_leaf {c0 a0 : Nat} {f : Nat → va_E} {mem : mM} (hc : ∀ k, chT c0 k = none) (hf : f a0 = cEl aC (fun _ => a0) c0 [] mem) : TR aC c0 a0 [a0] f mem := by
  have key : ∀ r c, tagR c0 r = some c → r = [] ∧ c = c0 := by
    intro r
    induction r with
    | nil => intro c h; cases h; exact ⟨rfl, rfl⟩
    | cons k p ih =>
      intro c h
      have h : (tagR c0 p).bind (fun c => chT c k) = some c := h
      cases hp : tagR c0 p with
      | none => rw [hp] at h; cases h
      | some d =>
        obtain ⟨-, hd⟩ := ih d hp
        rw [hp, hd] at h
        have h : chT c0 k = some c := h
        rw [hc] at h
        cases h
  refine ⟨fun _ => a0, fun _ => [], rfl, fun r c hr => ?_, fun a ha => ?_⟩
  · obtain ⟨h1, h2⟩ := key r c hr
    subst h1; subst h2
    exact ⟨List.mem_singleton.mpr rfl, rfl, hf⟩
  · rcases List.mem_singleton.mp ha with rfl
    exact ⟨c0, rfl, rfl⟩
def memN (own : Nat → Int32) (mk : Nat → mM) : mM := (fun p => match p.getLast? with
  | none => own
  | some k => (mk k).1 p.dropLast, fun p => match p.getLast? with
  | none => fun _ => 0
  | some k => (mk k).2.1 p.dropLast, 0)
theorem memN_1 {own : Nat → Int32} {mk : Nat → mM} {r : List Nat} {k : Nat} : (memN own mk).1 (r ++ [k]) = (mk k).1 r := by
  unfold memN
  dsimp only
  rw [List.getLast?_concat, List.dropLast_concat]
theorem memN_2 {own : Nat → Int32} {mk : Nat → mM} {r : List Nat} {k : Nat} : (memN own mk).2.1 (r ++ [k]) = (mk k).2.1 r := by
  unfold memN
  dsimp only
  rw [List.getLast?_concat, List.dropLast_concat]
theorem memN_0 {own : Nat → Int32} {mk : Nat → mM} : (memN own mk).1 [] = own := rfl
theorem TR_node {c0 a0 : Nat} {L : List Nat} {f : Nat → va_E} {mem : mM} (ch : Nat → Nat) (Lk : Nat → List Nat) (mk : Nat → mM)
    (h : ∀ k t, chT c0 k = some t → TR aC t (ch k) (Lk k) f (mk k)) (hdis : ∀ k k' t t', chT c0 k = some t → chT c0 k' = some t' → k ≠ k' → ∀ a, a ∈ Lk k → a ∉ Lk k') (h0 : ∀ k t, chT c0 k = some t → a0 ∉ Lk k)
    (hL : ∀ a, a ∈ L ↔ a = a0 ∨ ∃ k t, chT c0 k = some t ∧ a ∈ Lk k)
    (hf : ∀ ads : List Nat → Nat, (∀ k t, chT c0 k = some t → ads [k] = ch k) → (∀ k, chT c0 k = none → ads [k] = 0) → f a0 = cEl aC ads c0 [] mem)
    (hm : ∀ k t r, chT c0 k = some t → mem.1 (r ++ [k]) = (mk k).1 r ∧ mem.2.1 (r ++ [k]) = (mk k).2.1 r) : TR aC c0 a0 L f mem := by
  have hex : ∀ k, ∃ (ads : List Nat → Nat) (pth : Nat → List Nat), ∀ t, chT c0 k = some t → ads [] = ch k ∧ (∀ r c, tagR t r = some c → ads r ∈ Lk k ∧ pth (ads r) = r ∧ f (ads r) = cEl aC ads c r (mk k)) ∧ ∀ a, a ∈ Lk k → ∃ c, tagR t (pth a) = some c ∧ ads (pth a) = a := fun k => by
    cases hk : chT c0 k with
    | none => exact ⟨fun _ => 0, fun _ => [], fun t ht => by cases ht⟩
    | some t =>
      obtain ⟨ads, pth, x⟩ := h k t hk
      exact ⟨ads, pth, fun t' ht => by cases ht; exact x⟩
  obtain ⟨adk, hex⟩ := Classical.axiomOfChoice hex
  obtain ⟨ptk, hex⟩ := Classical.axiomOfChoice hex
  obtain ⟨ads, hads⟩ : ∃ ads : List Nat → Nat, ads = fun r => match r.getLast? with
    | none => a0
    | some k => if chT c0 k = none then 0 else adk k r.dropLast := ⟨_, rfl⟩
  have a_0 : ads [] = a0 := by rw [hads]; rfl
  have a_2 : ∀ r k, ads (r ++ [k]) = if chT c0 k = none then 0 else adk k r := fun r k => by
    rw [hads]
    dsimp only
    rw [List.getLast?_concat, List.dropLast_concat]
  have a_1 : ∀ r k t, chT c0 k = some t → ads (r ++ [k]) = adk k r := fun r k t h => by
    rw [a_2, h, if_neg (by simp)]
  have hp : ∀ a, ∃ p : List Nat, (∀ k t, chT c0 k = some t → a ∈ Lk k → p = ptk k a ++ [k]) ∧ ((∀ k t, chT c0 k = some t → a ∉ Lk k) → p = []) := fun a => by
    by_cases hx : ∃ k t, chT c0 k = some t ∧ a ∈ Lk k
    · obtain ⟨k, t, hk, ha⟩ := hx
      refine ⟨ptk k a ++ [k], fun k' t' hk' ha' => ?_, fun q => absurd ha (q k t hk)⟩
      by_cases q : k = k'
      · rw [q]
      · exact absurd ha' (hdis _ _ _ _ hk hk' q a ha)
    · exact ⟨[], fun k t hk ha => absurd ⟨k, t, hk, ha⟩ hx, fun _ => rfl⟩
  obtain ⟨pth, hp⟩ := Classical.axiomOfChoice hp
  have p_1 : ∀ k t a, chT c0 k = some t → a ∈ Lk k → pth a = ptk k a ++ [k] := fun k t a hk ha => (hp a).1 k t hk ha
  have p_0 : pth a0 = [] := (hp a0).2 h0
  refine ⟨ads, pth, a_0, fun r c hr => ?_, fun a ha => ?_⟩
  · rcases List.eq_nil_or_concat r with rfl | ⟨r', k, hrk⟩
    · cases hr
      rw [a_0]
      exact ⟨(hL a0).mpr (.inl rfl), p_0, hf ads (fun k t hk => by
        have := a_1 [] k t hk
        rw [List.nil_append] at this
        rw [this]; exact (hex k t hk).1) (fun k hk => by
        have := a_2 [] k
        rw [List.nil_append, hk, if_pos rfl] at this
        exact this)⟩
    · rw [List.concat_eq_append] at hrk
      subst hrk
      rw [tagR_snoc] at hr
      cases hk : chT c0 k with
      | none => rw [hk] at hr; cases hr
      | some t =>
        rw [hk] at hr
        have hr : tagR t r' = some c := hr
        obtain ⟨e1, e2, e3⟩ := hex k t hk
        obtain ⟨g1, g2, g3⟩ := e2 r' c hr
        rw [a_1 r' k t hk]
        refine ⟨(hL _).mpr (.inr ⟨k, t, hk, g1⟩), by rw [p_1 k t _ hk g1, g2], ?_⟩
        rw [g3]
        exact cEl_ads (fun j => by
          have := a_1 (j :: r') k t hk
          exact this.symm) (hm k t r' hk).1.symm (hm k t r' hk).2.symm
  · rcases (hL a).mp ha with rfl | ⟨k, t, hk, ha'⟩
    · rw [p_0]; exact ⟨c0, rfl, a_0⟩
    · obtain ⟨e1, e2, e3⟩ := hex k t hk
      obtain ⟨c, g1, g2⟩ := e3 a ha'
      rw [p_1 k t a hk ha']
      refine ⟨c, ?_, by rw [a_1 _ k t hk]; exact g2⟩
      rw [tagR_snoc, hk]
      exact g1
end Tree
