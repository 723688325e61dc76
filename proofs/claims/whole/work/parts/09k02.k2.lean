section Tree2
variable {aC : Nat → ClassId}
theorem rootT_lt {k t : Nat} (h : rootT k = some t) : k < 3 := by
  unfold rootT at h
  split at h
  · omega
  · split at h
    · omega
    · split at h
      · omega
      · cases h
theorem EO_of {L : List Nat} {f : Nat → va_E} {mem : mM} {b0 q9 : Nat} (ch : Nat → Nat) (Lk : Nat → List Nat) (mk : Nat → mM)
    (h : ∀ k t, rootT k = some t → TR aC t (ch k) (Lk k) f (mk k)) (hdis : ∀ k k' t t', rootT k = some t → rootT k' = some t' → k ≠ k' → ∀ a, a ∈ Lk k → a ∉ Lk k')
    (hL : ∀ a, a ∈ L ↔ ∃ k t, rootT k = some t ∧ a ∈ Lk k)
    (hm : ∀ k t r, rootT k = some t → mem.1 (r ++ [k]) = (mk k).1 r ∧ mem.2.1 (r ++ [k]) = (mk k).2.1 r) :
    ∃ (ads : List Nat → Nat) (pth : Nat → List Nat), EO ads pth L ∧ (∀ k t, rootT k = some t → ads [k] = ch k) ∧ ads [3] = b0 ∧ ads [4] = q9 ∧ wd aC ads pth L mem = va_pl L f := by
  have hex : ∀ k, ∃ (ads : List Nat → Nat) (pth : Nat → List Nat), ∀ t, rootT k = some t → ads [] = ch k ∧ (∀ r c, tagR t r = some c → ads r ∈ Lk k ∧ pth (ads r) = r ∧ f (ads r) = cEl aC ads c r (mk k)) ∧ ∀ a, a ∈ Lk k → ∃ c, tagR t (pth a) = some c ∧ ads (pth a) = a := fun k => by
    cases hk : rootT k with
    | none => exact ⟨fun _ => 0, fun _ => [], fun t ht => by cases ht⟩
    | some t =>
      obtain ⟨ads, pth, x⟩ := h k t hk
      exact ⟨ads, pth, fun t' ht => by cases ht; exact x⟩
  obtain ⟨adk, hex⟩ := Classical.axiomOfChoice hex
  obtain ⟨ptk, hex⟩ := Classical.axiomOfChoice hex
  obtain ⟨ads, hads⟩ : ∃ ads : List Nat → Nat, ads = fun r => match r.getLast? with
    | none => 0
    | some k => if k = 3 then b0 else if k = 4 then q9 else adk k r.dropLast := ⟨_, rfl⟩
  have a_3 : ads [3] = b0 := by rw [hads]; rfl
  have a_4 : ads [4] = q9 := by rw [hads]; rfl
  have a_1 : ∀ r k, k < 3 → ads (r ++ [k]) = adk k r := fun r k hk => by
    rw [hads]
    dsimp only
    rw [List.getLast?_concat, List.dropLast_concat]
    dsimp only
    rw [if_neg (by omega), if_neg (by omega)]
  have hp : ∀ a, ∃ p : List Nat, ∀ k t, rootT k = some t → a ∈ Lk k → p = ptk k a ++ [k] := fun a => by
    by_cases hx : ∃ k t, rootT k = some t ∧ a ∈ Lk k
    · obtain ⟨k, t, hk, ha⟩ := hx
      refine ⟨ptk k a ++ [k], fun k' t' hk' ha' => ?_⟩
      by_cases q : k = k'
      · rw [q]
      · exact absurd ha' (hdis _ _ _ _ hk hk' q a ha)
    · exact ⟨[], fun k t hk ha => absurd ⟨k, t, hk, ha⟩ hx⟩
  obtain ⟨pth, p_1⟩ := Classical.axiomOfChoice hp
  have key : ∀ r k t c, rootT k = some t → tagR t r = some c → ads (r ++ [k]) ∈ L ∧ pth (ads (r ++ [k])) = r ++ [k] ∧ f (ads (r ++ [k])) = cEl aC ads c (r ++ [k]) mem := fun r k t c hk hr => by
    obtain ⟨e1, e2, e3⟩ := hex k t hk
    obtain ⟨g1, g2, g3⟩ := e2 r c hr
    have h3 := rootT_lt hk
    rw [a_1 r k h3]
    refine ⟨(hL _).mpr ⟨k, t, hk, g1⟩, by rw [p_1 _ k t hk g1, g2], ?_⟩
    rw [g3]
    exact cEl_ads (fun j => (a_1 (j :: r) k h3).symm) (hm k t r hk).1.symm (hm k t r hk).2.symm
  have key2 : ∀ a, a ∈ L → ∃ r k t c, rootT k = some t ∧ tagR t r = some c ∧ pth a = r ++ [k] ∧ ads (r ++ [k]) = a := fun a ha => by
    obtain ⟨k, t, hk, ha'⟩ := (hL a).mp ha
    obtain ⟨e1, e2, e3⟩ := hex k t hk
    obtain ⟨c, g1, g2⟩ := e3 a ha'
    exact ⟨_, k, t, c, hk, g1, p_1 a k t hk ha', by rw [a_1 _ k (rootT_lt hk)]; exact g2⟩
  refine ⟨ads, pth, ⟨fun a ha => ?_, fun p c hpc => ?_⟩, fun k t hk => ?_, a_3, a_4, ?_⟩
  · obtain ⟨r, k, t, c, hk, hr, x1, x2⟩ := key2 a ha
    rw [x1]
    exact ⟨c, by rw [tagOf_snoc, hk]; exact hr, x2⟩
  · rcases List.eq_nil_or_concat p with rfl | ⟨r, k, hrk⟩
    · cases hpc
    · rw [List.concat_eq_append] at hrk
      subst hrk
      rw [tagOf_snoc] at hpc
      cases hk : rootT k with
      | none => rw [hk] at hpc; cases hpc
      | some t =>
        rw [hk] at hpc
        obtain ⟨x1, x2, -⟩ := key r k t c hk hpc
        exact ⟨x1, x2⟩
  · have := a_1 [] k (rootT_lt hk)
    rw [List.nil_append] at this
    rw [this]; exact (hex k t hk).1
  · unfold wd va_pl
    apply List.map_congr_left
    intro a ha
    obtain ⟨r, k, t, c, hk, hr, x1, x2⟩ := key2 a ha
    obtain ⟨-, -, x3⟩ := key r k t c hk hr
    have e : (tagOf (pth a)).getD 0 = c := by rw [x1, tagOf_snoc, hk]; show (tagR t r).getD 0 = c; rw [hr]; rfl
    dsimp only
    rw [e, x1, ← x3, x2]
end Tree2
