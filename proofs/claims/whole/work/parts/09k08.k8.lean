section Ctor6
variable {s : State} {H : Heap} {locs : List Loc} {D : va_G} {A : Nat → Prop} {aC : Nat → ClassId} {K : Nat → Option Nat} {pre : va_W} {chs : List (Nat × Nat × List Nat × mM)}
theorem arrV_cg {cI : ClassId} {N : Nat} {f g : Nat → Value} (h : ∀ j, j < N → f j = g j) : arrV cI N f = arrV cI N g := by
  unfold arrV
  have : (fun j : Fin N => f j.val) = fun j : Fin N => g j.val := funext fun j => h j.val j.isLt
  rw [this]
theorem chX_cons {e : Nat × Nat × List Nat × mM} : chX (e :: chs) = e.2.2.1 ++ chX chs := rfl
theorem chX_app {chs' : List (Nat × Nat × List Nat × mM)} : chX (chs ++ chs') = chX chs ++ chX chs' := List.flatMap_append
theorem mem_chX {a : Nat} : a ∈ chX chs ↔ ∃ e ∈ chs, a ∈ e.2.2.1 := List.mem_flatMap
theorem chX_disj : ∀ {chs : List (Nat × Nat × List Nat × mM)}, (chX chs).Nodup → ∀ e ∈ chs, ∀ e' ∈ chs, e.1 ≠ e'.1 → ∀ a, a ∈ e.2.2.1 → a ∉ e'.2.2.1
  | [], _, e, he, _, _, _, _, _ => absurd he List.not_mem_nil
  | x :: r, hn, e, he, e', he', hne, a, ha => fun ha' => by
    rw [chX_cons] at hn
    obtain ⟨h1, h2, h3⟩ := List.nodup_append.mp hn
    rcases List.mem_cons.mp he with q1 | q1
    · rcases List.mem_cons.mp he' with q2 | q2
      · exact hne (by rw [q1, q2])
      · rw [q1] at ha
        exact h3 a ha a (mem_chX.mpr ⟨e', q2, ha'⟩) rfl
    · rcases List.mem_cons.mp he' with q2 | q2
      · rw [q2] at ha'
        exact h3 a ha' a (mem_chX.mpr ⟨e, q1, ha⟩) rfl
      · exact chX_disj h2 e q1 e' q2 hne a ha ha'
theorem WC_nodup {f : Nat → va_E} (hW : WS D A pre (chX chs) f s H locs) : (pre.map (fun q => q.1) ++ chX chs).Nodup := by
  have := (D_iff.mp hW.2.1).1
  rw [List.map_append, map_pl] at this
  exact this
theorem B_unpin {k tg kd q : Nat} {a0 : vp_A} {mk : mM} (hW : WC D aC A K (pre ++ [(q, .inl (aC kd, a0))]) chs s H locs) (hk : K k = some tg) (hlf : ∀ j, chT tg j = none) (hel : cEl aC (fun _ => q) tg [] mk = .inl (aC kd, a0)) : WC D aC A K pre (chs ++ [(k, q, [q], mk)]) s H locs := by
  obtain ⟨f, hW, hC⟩ := hW
  have hn := WC_nodup hW
  obtain ⟨hP, hD, hS⟩ := hW
  have hp : ((pre ++ [(q, Sum.inl (aC kd, a0))]) ++ va_pl (chX chs) f).Perm ((pre ++ va_pl (chX chs) f) ++ [(q, Sum.inl (aC kd, a0))]) := by
    rw [List.append_assoc, List.append_assoc]
    exact List.Perm.append_left _ List.perm_append_comm
  have h1 := D_iff.mp hD
  obtain ⟨hq, hW1⟩ := WS_push (A := A) (P_mem hP (fun x hx => hp.mem_iff.mpr hx)) (D_iff.mpr ⟨(hp.map _).nodup_iff.mp h1.1, fun x hx => h1.2 x (hp.mem_iff.mpr hx)⟩) hS
  exact ⟨_, by rw [chX_push]; exact hW1, CH_push hq hC hk (TR_leaf hlf (by rw [if_pos rfl, hel]))⟩
theorem B_unpinQ {k ca ci kd q NN : Nat} {adr : Nat → Nat} {Ls : Nat → List Nat} {mE : mM} (hW : WC D aC A K (pre ++ [(q, .inl (aC kd, NN, .inr (.inr (.inr (.inr (fun i => if i < NN then some (adr i) else none))))))]) (chs ++ (List.range NN).map (fun i => (1000 + i, adr i, Ls i, mE))) s H locs) (hk : K k = some ca) (hKj : ∀ j, j < NN → K (1000 + j) = some ci)
    (hch : ∀ j, chT ca j = if j < NN then some ci else none) (hel : ∀ (ads : List Nat → Nat) (mem : mM), cEl aC ads ca [] mem = .inl (aC kd, NN, .inr (.inr (.inr (.inr (fun j => some (ads [j]))))))) :
    ∃ L, WC D aC A K pre (chs ++ [(k, q, L, memN (fun _ => 0) (fun _ => mE))]) s H locs := by
  obtain ⟨els, hels⟩ : ∃ els, els = (List.range NN).map (fun i => (1000 + i, adr i, Ls i, mE)) := ⟨_, rfl⟩
  rw [← hels] at hW
  obtain ⟨f, hW, hC⟩ := hW
  have hn := WC_nodup hW
  obtain ⟨hP, hD, hS⟩ := hW
  have hA := (D_iff.mp hD).2
  rw [List.map_append, chX_app] at hn
  have hn : (pre.map (fun q => q.1) ++ [q] ++ (chX chs ++ chX els)).Nodup := hn
  have hq : q ∉ chX chs ++ chX els := fun h => (List.nodup_append.mp hn).2.2 q (List.mem_append_right _ (List.mem_singleton.mpr rfl)) q h rfl
  have hmem : ∀ e ∈ els, ∃ i, i < NN ∧ e = (1000 + i, adr i, Ls i, mE) := fun e he => by
    rw [hels] at he
    obtain ⟨i, hi, rfl⟩ := List.mem_map.mp he
    exact ⟨i, List.mem_range.mp hi, rfl⟩
  have hmem2 : ∀ i, i < NN → (1000 + i, adr i, Ls i, mE) ∈ els := fun i hi => by
    rw [hels]
    exact List.mem_map.mpr ⟨i, List.mem_range.mpr hi, rfl⟩
  obtain ⟨f', hf'⟩ : ∃ f' : Nat → va_E, f' = fun a => if a = q then .inl (aC kd, NN, .inr (.inr (.inr (.inr (fun j => some (if j < NN then adr j else 0)))))) else f a := ⟨_, rfl⟩
  have f1 : f' q = .inl (aC kd, NN, .inr (.inr (.inr (.inr (fun j => some (if j < NN then adr j else 0)))))) := by rw [hf']; exact if_pos rfl
  have f2 : ∀ a, a ≠ q → f' a = f a := fun a ha => by rw [hf']; exact if_neg ha
  have hnd := (List.nodup_append.mp hn).2.1
  have ht : TR aC ca q (q :: chX els) f' (memN (fun _ => 0) (fun _ => mE)) := by
    have hlt : ∀ j t, chT ca j = some t → j < NN ∧ t = ci := fun j t h => by
      rw [hch] at h
      by_cases q1 : j < NN
      · rw [if_pos q1] at h; exact ⟨q1, (Option.some.inj h).symm⟩
      · rw [if_neg q1] at h; cases h
    refine TR_node adr Ls (fun _ => mE) (fun j t h => ?_) (fun j j' t t' h h' hne => ?_) (fun j t h hx => ?_) (fun a => ?_) (fun ads g1 g2 => ?_) (fun j t r _ => ⟨memN_1, memN_2⟩)
    · obtain ⟨h1, rfl⟩ := hlt j t h
      obtain ⟨t2, x1, x2⟩ := hC _ (List.mem_append_right _ (hmem2 j h1))
      have : t2 = t := by
        have x1 : K (1000 + j) = some t2 := x1
        rw [hKj j h1] at x1
        exact (Option.some.inj x1).symm
      subst this
      exact TR_congr (fun a ha => f2 a (fun e => hq (List.mem_append_right _ (mem_chX.mpr ⟨_, hmem2 j h1, e ▸ ha⟩)))) x2
    · exact chX_disj (List.nodup_append.mp hnd).2.1 _ (hmem2 j (hlt j t h).1) _ (hmem2 j' (hlt j' t' h').1) (by show 1000 + j ≠ 1000 + j'; omega)
    · exact hq (List.mem_append_right _ (mem_chX.mpr ⟨_, hmem2 j (hlt j t h).1, hx⟩))
    · rw [List.mem_cons, mem_chX]
      constructor
      · rintro (h | ⟨e, he, ha⟩)
        · exact .inl h
        · obtain ⟨i, hi, rfl⟩ := hmem e he
          exact .inr ⟨i, ci, by rw [hch, if_pos hi], ha⟩
      · rintro (h | ⟨j, t, h, ha⟩)
        · exact .inl h
        · exact .inr ⟨_, hmem2 j (hlt j t h).1, ha⟩
    · rw [f1, hel]
      have : (fun j => some (if j < NN then adr j else 0)) = fun j => some (ads [j]) := funext fun j => by
        by_cases h : j < NN
        · rw [if_pos h, g1 j ci (by rw [hch, if_pos h])]
        · rw [if_neg h, g2 j (by rw [hch, if_neg h])]
      rw [this]
  refine ⟨q :: chX els, f', ⟨?_, ?_, hS⟩, fun e he => ?_⟩
  · rw [chX_push]
    intro j x hx
    have hx := List.mem_of_getElem? hx
    have old : ∀ y, y ∈ (pre ++ [(q, Sum.inl (aC kd, NN, Sum.inr (Sum.inr (Sum.inr (Sum.inr (fun i => if i < NN then some (adr i) else none))))))]) ++ va_pl (chX (chs ++ els)) f → va_at D vwCl y H := fun y hy => by
      obtain ⟨i, hi⟩ := List.getElem?_of_mem hy
      exact hP i y hi
    rcases List.mem_append.mp hx with hx | hx
    · exact old x (List.mem_append_left _ (List.mem_append_left _ hx))
    · obtain ⟨a, ha, rfl⟩ := List.mem_map.mp hx
      by_cases haq : a = q
      · subst haq
        have := old _ (List.mem_append_left _ (List.mem_append_right _ (List.mem_singleton.mpr rfl)))
        rw [f1]
        show H[a]? = some (vp_cell _ _)
        have this : H[a]? = some (arrV (aC kd) NN (fun j => va_rf ((fun i => if i < NN then some (adr i) else none) j))) := this
        rw [this]
        show some (arrV (aC kd) NN (fun j => va_rf ((fun i => if i < NN then some (adr i) else none) j))) = some (arrV (aC kd) NN (fun j => va_rf ((fun j => some (if j < NN then adr j else 0)) j)))
        refine congrArg some (arrV_cg (fun j hj => ?_))
        dsimp only
        rw [if_pos hj, if_pos hj]
      · rw [f2 a haq]
        refine old _ (List.mem_append_right _ (pl_mem ?_))
        rw [chX_app]
        rcases List.mem_append.mp ha with ha | ha
        · exact List.mem_append_left _ ha
        · rcases List.mem_cons.mp ha with h | h
          · exact absurd h haq
          · exact List.mem_append_right _ h
  · rw [chX_push]
    have hp : (pre.map (fun q => q.1) ++ [q] ++ (chX chs ++ chX els)).Perm (pre.map (fun q => q.1) ++ (chX chs ++ q :: chX els)) := by
      rw [List.append_assoc]
      refine List.Perm.append_left _ ?_
      show (q :: (chX chs ++ chX els)).Perm _
      exact List.perm_middle.symm
    refine D_iff.mpr ⟨?_, fun x hx => ?_⟩
    · rw [List.map_append, map_pl]
      exact hp.nodup_iff.mp hn
    · have addr : ∀ y ∈ (pre ++ [(q, Sum.inl (aC kd, NN, Sum.inr (Sum.inr (Sum.inr (Sum.inr (fun i => if i < NN then some (adr i) else none))))))]) ++ va_pl (chX (chs ++ els)) f, A y.1 := hA
      rcases List.mem_append.mp hx with hx | hx
      · exact addr x (List.mem_append_left _ (List.mem_append_left _ hx))
      · obtain ⟨a, ha, rfl⟩ := List.mem_map.mp hx
        rcases List.mem_append.mp ha with ha | ha
        · exact addr (a, f a) (List.mem_append_right _ (pl_mem (by rw [chX_app]; exact List.mem_append_left _ ha)))
        · rcases List.mem_cons.mp ha with h | h
          · show A a
            rw [h]
            exact addr _ (List.mem_append_left _ (List.mem_append_right _ (List.mem_singleton.mpr rfl)))
          · exact addr (a, f a) (List.mem_append_right _ (pl_mem (by rw [chX_app]; exact List.mem_append_right _ h)))
  · rcases List.mem_append.mp he with he | he
    · obtain ⟨t, x1, x2⟩ := hC e (List.mem_append_left _ he)
      exact ⟨t, x1, TR_congr (fun a ha => f2 a (fun h => hq (List.mem_append_left _ (mem_chX.mpr ⟨e, he, h ▸ ha⟩)))) x2⟩
    · rcases List.mem_singleton.mp he with rfl
      exact ⟨ca, hk, ht⟩
theorem B_end {c0 h0 sz : Nat} {fs : List Value} {mem : mM} {t : State} (hW : WC D aC (AC h0 sz) K [(h0, .inr (c0, fs))] chs s H locs) (hKk : ∀ e ∈ chs, K e.1 = chT c0 e.1) (hcov : ∀ k u, chT c0 k = some u → ∃ e ∈ chs, e.1 = k) (hkeys : ∀ e ∈ chs, ∀ e' ∈ chs, e.1 = e'.1 → e = e')
    (hfs : ∀ ads : List Nat → Nat, (∀ e ∈ chs, ads [e.1] = e.2.1) → Sum.inr (c0, fs) = cEl aC ads c0 [] mem) (hm : ∀ e ∈ chs, ∀ r, mem.1 (r ++ [e.1]) = e.2.2.2.1 r ∧ mem.2.1 (r ++ [e.1]) = e.2.2.2.2.1 r) (ht : t.heap = H) : BcC D aC c0 mem h0 sz t := by
  obtain ⟨f, hW, hC⟩ := hW
  have hn := WC_nodup hW
  obtain ⟨hP, hD, hS⟩ := hW
  have hA := (D_iff.mp hD).2
  have hn : (h0 :: chX chs).Nodup := hn
  have h0n : h0 ∉ chX chs := (List.nodup_cons.mp hn).1
  obtain ⟨f', hf'⟩ : ∃ f' : Nat → va_E, f' = fun a => if a = h0 then .inr (c0, fs) else f a := ⟨_, rfl⟩
  have f1 : f' h0 = .inr (c0, fs) := by rw [hf']; exact if_pos rfl
  have f2 : ∀ a, a ∈ chX chs → f' a = f a := fun a ha => by rw [hf']; exact if_neg (fun (e : a = h0) => h0n (e ▸ ha))
  have epl : va_pl (h0 :: chX chs) f' = [(h0, .inr (c0, fs))] ++ va_pl (chX chs) f := by
    show (h0, f' h0) :: va_pl (chX chs) f' = _
    rw [f1, pl_congr f2]
    rfl
  have hsel : ∀ k, ∃ e : Nat × Nat × List Nat × mM, ∀ u, chT c0 k = some u → e ∈ chs ∧ e.1 = k := fun k => by
    cases h : chT c0 k with
    | none => exact ⟨(0, 0, [], zeroM), fun u hu => by cases hu⟩
    | some u =>
      obtain ⟨e, h1, h2⟩ := hcov k u h
      exact ⟨e, fun _ _ => ⟨h1, h2⟩⟩
  obtain ⟨E, hE⟩ := Classical.axiomOfChoice hsel
  refine ⟨h0 :: chX chs, f', by rw [epl, ht]; exact hP, hn, fun a ha => ?_, ?_⟩
  · rcases List.mem_cons.mp ha with rfl | ha
    · exact .inl rfl
    · exact hA (a, f a) (List.mem_append_right _ (pl_mem ha))
  · refine TR_node (fun k => (E k).2.1) (fun k => (E k).2.2.1) (fun k => (E k).2.2.2) (fun k u h => ?_) (fun k k' u u' h h' hne => ?_) (fun k u h hx => ?_) (fun a => ?_) (fun ads g1 _ => ?_) (fun k u r h => ?_)
    · obtain ⟨h1, h2⟩ := hE k u h
      obtain ⟨u2, x1, x2⟩ := hC _ h1
      rw [hKk _ h1, h2, h] at x1
      cases x1
      exact TR_congr (fun a ha => f2 a (mem_chX.mpr ⟨_, h1, ha⟩)) x2
    · obtain ⟨h1, h2⟩ := hE k u h
      obtain ⟨h3, h4⟩ := hE k' u' h'
      exact chX_disj (List.nodup_cons.mp hn).2 _ h1 _ h3 (by rw [h2, h4]; exact hne)
    · obtain ⟨h1, h2⟩ := hE k u h
      exact h0n (mem_chX.mpr ⟨_, h1, hx⟩)
    · rw [List.mem_cons, mem_chX]
      constructor
      · rintro (h | ⟨e, he, ha⟩)
        · exact .inl h
        · obtain ⟨u, x1, -⟩ := hC e he
          rw [hKk e he] at x1
          obtain ⟨h1, h2⟩ := hE e.1 u x1
          have : E e.1 = e := hkeys _ h1 _ he h2
          exact .inr ⟨e.1, u, x1, by rw [this]; exact ha⟩
      · rintro (h | ⟨k, u, h, ha⟩)
        · exact .inl h
        · exact .inr ⟨_, (hE k u h).1, ha⟩
    · rw [f1]
      refine hfs ads (fun e he => ?_)
      obtain ⟨u, x1, -⟩ := hC e he
      rw [hKk e he] at x1
      obtain ⟨h1, h2⟩ := hE e.1 u x1
      have : E e.1 = e := hkeys _ h1 _ he h2
      rw [g1 e.1 u x1, this]
    · obtain ⟨h1, h2⟩ := hE k u h
      have := hm _ h1 r
      rw [h2] at this
      exact this
end Ctor6
