section Ctor4
variable {p : Program} {l : Launch} {e : Env} {R : Room} {s : State} {m : MethodId} {args : Array Value} {below : List Frame} {meth : Method} {c : Code} {H : Heap} {locs : List Loc} {cells slots : Nat} {Q : State → Prop}
variable {cc : ByteArray} {pc nL : Nat} {ls : Array Slot} {rest : List Value} {D : va_G} {A : Nat → Prop} {aC : Nat → ClassId} {own : String} {K : Nat → Option Nat} {pre : va_W} {chs : List (Nat × Nat × List Nat × mM)}
theorem vp_in_N {j n : Nat} (h : j < n) (hn : n < 2147483648) : vp_in (oN j) n := by
  intro q
  rcases q with q | q
  · have := Int32.lt_iff_toInt_lt.mp q
    rw [n_toI (by omega)] at this
    have h0 : (0 : Int32).toInt = 0 := by decide
    omega
  · rw [n_tN (by omega)] at q
    omega
theorem B_get {h0 ci N k idx : Nat} {C : String} {T : u_T} {fs : List Value} {v : Value} {pr : va_W} (F : CX p s m args c D aC cc nL own A) (hW : WC D aC A K ((h0, .inr (ci, fs)) :: pr) chs s H locs) (hcl : vwCl[ci]? = some (C, T, N)) (hin : ∀ w ∈ u_ws C T N, w ∈ lw_g) (hk : k < N) (hO : (T k).1 = C)
    (hlink : Cond.fieldLink own idx C (T k).2.1 (T k).2.2.1 ∈ lw_g) (hv : fs[k]? = some v) (hdg : decode cc pc = .ok (.getfield idx, 3)) (kk : W p l e R s m args below meth c H locs cells slots Q (F0 m (pc + 3) ls (v :: rest))) : W p l e R s m args below meth c H locs cells slots Q (F0 m pc ls (.ref h0 :: rest)) := by
  obtain ⟨hx, hb, hml, hown, hts, hK, hNW, hA⟩ := F
  obtain ⟨f, ⟨hP, hD, hS⟩, hC⟩ := hW
  exact va_get hx hb hts hin hown hK hP 0 rfl hcl k hk (hts _ hlink) (fun x h9 => by rw [hO] at h9; exact h9) hv hdg kk
theorem B_iast {q0 a n j : Nat} {x : Int32} {f : Nat → Int32} (F : CX p s m args c D aC cc nL own A) (hW : WC D aC A K pre chs s H locs) (hq : q0 < pre.length) (ha : pre[q0]? = some (a, .inl (aC 1, n, .inl f))) (hj : j < n) (hn : n < 2147483648) (hdg : decode cc pc = .ok (.iastore, 1))
    (kk : ∀ (H1 : Heap) (locs1 : List Loc), WC D aC A K (pre.set q0 (a, .inl (aC 1, n, .inl (upd f j x)))) chs s H1 locs1 → W p l e R s m args below meth c H1 locs1 cells slots Q (F0 m (pc + 1) ls rest)) : W p l e R s m args below meth c H locs cells slots Q (F0 m pc ls (.int x :: .int (oN j) :: .ref a :: rest)) := by
  obtain ⟨hx, hb, hml, hown, hts, hK, hNW, hA⟩ := F
  obtain ⟨g, ⟨hP, hD, hS⟩, hC⟩ := hW
  have ha' : (pre ++ va_pl (chX chs) g)[q0]? = some (a, .inl (aC 1, n, .inl f)) := by rw [List.getElem?_append_left hq]; exact ha
  refine va_iast hx hb hK hP hD hS q0 0 ha' rfl (vp_in_N hj hn) hdg (fun H1 locs1 hP1 hD1 hS1 => ?_)
  rw [n_tN (by omega), List.set_append_left _ _ hq] at hP1 hD1
  exact kk H1 locs1 ⟨g, ⟨hP1, hD1, hS1⟩, hC⟩
theorem B_aast {q0 a n j v ci k kd : Nat} {L : List Nat} {mk : mM} {f : Nat → Option Nat} {C : String} {T : u_T} {N : Nat} (F : CX p s m args c D aC cc nL own A) (hW : WC D aC A K pre (chs ++ [(k, v, L, mk)]) s H locs) (hk : K k = some ci) (hci : tgK ci = 0) (hcl : vwCl[ci]? = some (C, T, N)) (hkd : kd = 5 ∧ C = "TentPlain$Body" ∨ kd = 6 ∧ C = "TentPlain$Shelf") (hq : q0 < pre.length) (ha : pre[q0]? = some (a, .inl (aC kd, n, .inr (.inr (.inr (.inr f)))))) (hj : j < n) (hn : n < 2147483648) (hdg : decode cc pc = .ok (.aastore, 1))
    (kk : ∀ (H1 : Heap) (locs1 : List Loc), WC D aC A K (pre.set q0 (a, .inl (aC kd, n, .inr (.inr (.inr (.inr (va_up f j (some v)))))))) (chs ++ [(k, v, L, mk)]) s H1 locs1 → W p l e R s m args below meth c H1 locs1 cells slots Q (F0 m (pc + 1) ls rest)) : W p l e R s m args below meth c H locs cells slots Q (F0 m pc ls (.ref v :: .int (oN j) :: .ref a :: rest)) := by
  obtain ⟨hx, hb, hml, hown, hts, hK, hNW, hA⟩ := F
  obtain ⟨g, ⟨hP, hD, hS⟩, hC⟩ := hW
  have ha' : (pre ++ va_pl (chX (chs ++ [(k, v, L, mk)])) g)[q0]? = some (a, .inl (aC kd, n, .inr (.inr (.inr (.inr f))))) := by rw [List.getElem?_append_left hq]; exact ha
  obtain ⟨t, ht, ads, pth, e0, e1, e2⟩ := hC (k, v, L, mk) (List.mem_append_right _ (List.mem_singleton.mpr rfl))
  have htc : t = ci := by
    have h : K k = some t := ht
    rw [hk] at h
    exact (Option.some.inj h).symm
  subst htc
  obtain ⟨x1, x2, x3⟩ := e1 [] t rfl
  have e0 : ads [] = v := e0
  rw [e0] at x1 x3
  have hmem : (v, Sum.inr (t, fLst ads t [] (mk.1 []))) ∈ pre ++ va_pl (chX (chs ++ [(k, v, L, mk)])) g := by
    refine List.mem_append_right _ (List.mem_map.mpr ⟨v, ?_, ?_⟩)
    · rw [chX_push]; exact List.mem_append_right _ x1
    · rw [x3]
      unfold cEl
      rw [if_pos hci]
  obtain ⟨qk, hqk⟩ := List.getElem?_of_mem hmem
  have hty : (tysOf aC)[kd - 1]? = some (aC kd, .object C) := by rcases hkd with ⟨rfl, rfl⟩ | ⟨rfl, rfl⟩ <;> rfl
  refine va_astq hx hb hK hP hD hS q0 (kd - 1) qk t ha' hty hqk hcl (vp_in_N hj hn) hdg (fun H1 locs1 hP1 hD1 hS1 => ?_)
  rw [n_tN (by omega), List.set_append_left _ _ hq] at hP1 hD1
  exact kk H1 locs1 ⟨g, ⟨hP1, hD1, hS1⟩, hC⟩
theorem le_N {a b : Nat} (ha : a < 2147483648) (hb : b < 2147483648) : oN a ≤ oN b ↔ a ≤ b := by
  rw [Int32.le_iff_toInt_le, n_toI ha, n_toI hb]
  omega
end Ctor4
