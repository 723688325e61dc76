section Spc4
variable {L : Nat} {xs : Nat → Int32} {mem : mM} {f : List Nat → Nat → Int32} {d i : Int32}
set_option maxRecDepth 100000 in
set_option maxHeartbeats 4000000 in
theorem e112 (a1 : Int32) (mem : mM) : call L xs 112 [vi a1] mem = (bif cmpS .lt a1 (0 : Int32) then some (some (vk 0), mem) else (bif cmpS .gt a1 (7 : Int32) then some (some (vk 0), mem) else some (some (vk 1), mem))) := (call_sg L xs 16 112 [vi a1] mem).trans rfl
set_option maxRecDepth 100000 in
set_option maxHeartbeats 4000000 in
theorem e143 (a1 : Int32) (a2 : Int32) (a3 : Int32) (mem : mM) : call L xs 143 [vi a1, vi a2, vi a3] mem = (bif cmpS .lt a1 a2 then some (some (vk 0), mem) else (bif cmpS .gt a1 a3 then some (some (vk 0), mem) else some (some (vk 1), mem))) := (call_sg L xs 11 143 [vi a1, vi a2, vi a3] mem).trans rfl
set_option maxRecDepth 100000 in
set_option maxHeartbeats 4000000 in
theorem e86 (p : List Nat) (a1 : Int32) (mem : mM) : call L xs 86 [vr 9 p, vi a1] mem = (bif cmpS .lt a1 (0 : Int32) then some (some (vi (-1 : Int32)), mem) else (bif cmpS .gt a1 (7 : Int32) then some (some (vi (-1 : Int32)), mem) else (bif inS a1 8 then (bif cmpS .ne (mem.1 (a1.toNatClampNeg :: (6 :: p)) 0) 0 then (bif inS a1 8 then (bif cmpS .ne (mem.1 (a1.toNatClampNeg :: (6 :: p)) 0) (1 : Int32) then some (some (vi (-12 : Int32)), mem) else some (some (vi (0 : Int32)), mem)) else none) else some (some (vi (-11 : Int32)), mem)) else none))) := (call_sg L xs 35 86 [vr 9 p, vi a1] mem).trans rfl
theorem inB_8 : inB d 8 = true ↔ ¬ d < 0 ∧ ¬ 7 < d := by
  unfold inB
  simp only [Bool.and_eq_true, decide_eq_true_eq]
  have e7 : (7 : Int32).toInt = 7 := by decide
  have e0 : (0 : Int32).toInt = 0 := by decide
  rw [Int32.le_iff_toInt_le, Int32.lt_iff_toInt_lt, Int32.lt_iff_toInt_lt, e0, e7]
  show _ ∧ d.toInt.toNat < 8 ↔ _
  omega
theorem inBvp {n : Nat} (h : inB d n = true) : vp_in d n := by
  unfold inB at h
  simp only [Bool.and_eq_true, decide_eq_true_eq] at h
  exact fun q => q.elim (fun z => Int32.not_le.mpr z h.1) (fun z => absurd h.2 (Nat.not_lt.mpr z))
theorem cS_lt {a b : Int32} : cmpS .lt a b = decide (a < b) := by rw [cmpS_eq]; rfl
theorem cS_gt {a b : Int32} : cmpS .gt a b = decide (b < a) := by rw [cmpS_eq]; rfl
theorem cS_ne {a b : Int32} : cmpS .ne a b = decide (a ≠ b) := by
  rw [cmpS_eq]
  show (!decide (a = b)) = decide (a ≠ b)
  by_cases h : a = b
  · rw [decide_eq_true h, decide_eq_false (fun z => z h)]
    rfl
  · rw [decide_eq_false h, decide_eq_true h]
    rfl
theorem x112_t (h : inB d 8 = true) : ∃ n, exec L xs n 112 (rkM 112 [vi d]) (0, ini 112 [vi d], [], mem) = some (some (vk 1), mem) := by
  obtain ⟨h1, h2⟩ := inB_8.mp h
  have e := e112 (L := L) (xs := xs) d mem
  rw [cS_lt, cS_gt, decide_eq_false h1, decide_eq_false h2] at e
  exact run_some L xs e
theorem x112_f (h : inB d 8 = false) : ∃ n, exec L xs n 112 (rkM 112 [vi d]) (0, ini 112 [vi d], [], mem) = some (some (vk 0), mem) := by
  have e := e112 (L := L) (xs := xs) d mem
  rw [cS_lt, cS_gt] at e
  by_cases h1 : d < 0
  · rw [decide_eq_true h1] at e
    exact run_some L xs e
  · rw [decide_eq_false h1] at e
    by_cases h2 : 7 < d
    · rw [decide_eq_true h2] at e
      exact run_some L xs e
    · rw [inB_8.mpr ⟨h1, h2⟩] at h
      cases h
theorem x143_t {z : Int32} (h1 : ¬ i < 0) (h2 : ¬ z < i) : ∃ n, exec L xs n 143 (rkM 143 [vi i, vi 0, vi z]) (0, ini 143 [vi i, vi 0, vi z], [], mem) = some (some (vk 1), mem) := by
  have e := e143 (L := L) (xs := xs) i 0 z mem
  rw [cS_lt, cS_gt, decide_eq_false h1, decide_eq_false h2] at e
  exact run_some L xs e
theorem x143_f {z : Int32} (h : i < 0 ∨ z < i) : ∃ n, exec L xs n 143 (rkM 143 [vi i, vi 0, vi z]) (0, ini 143 [vi i, vi 0, vi z], [], mem) = some (some (vk 0), mem) := by
  have e := e143 (L := L) (xs := xs) i 0 z mem
  rw [cS_lt, cS_gt] at e
  by_cases h1 : i < 0
  · rw [decide_eq_true h1] at e
    exact run_some L xs e
  · rw [decide_eq_false h1, decide_eq_true (h.resolve_left h1)] at e
    exact run_some L xs e
/-- what bodyRefusal answers -/
def rBR (f : List Nat → Nat → Int32) (d : Int32) : Int32 := if inB d 8 = true then (if f [d.toNatClampNeg, 6, 0] 0 = 0 then -11 else if f [d.toNatClampNeg, 6, 0] 0 = 1 then 0 else -12) else -1
theorem x86 : ∃ n, exec L xs n 86 (rkM 86 [vr 9 [0], vi d]) (0, ini 86 [vr 9 [0], vi d], [], mem) = some (some (vi (rBR mem.1 d)), mem) := by
  have e := e86 (L := L) (xs := xs) [0] d mem
  rw [cS_lt, cS_gt, cS_ne, cS_ne, inS_eq] at e
  unfold rBR
  cases hB : inB d 8 with
  | true =>
    obtain ⟨h1, h2⟩ := inB_8.mp hB
    rw [decide_eq_false h1, decide_eq_false h2, hB] at e
    rw [if_pos rfl]
    by_cases q0 : mem.1 [d.toNatClampNeg, 6, 0] 0 = 0
    · rw [decide_eq_false (fun z => z q0)] at e
      rw [if_pos q0]
      exact run_some L xs e
    · rw [decide_eq_true q0] at e
      rw [if_neg q0]
      by_cases q1 : mem.1 [d.toNatClampNeg, 6, 0] 0 = 1
      · rw [decide_eq_false (fun z => z q1)] at e
        rw [if_pos q1]
        exact run_some L xs e
      · rw [decide_eq_true q1] at e
        rw [if_neg q1]
        exact run_some L xs e
  | false =>
    rw [if_neg (by decide)]
    by_cases h1 : d < 0
    · rw [decide_eq_true h1] at e
      exact run_some L xs e
    · rw [decide_eq_false h1] at e
      by_cases h2 : 7 < d
      · rw [decide_eq_true h2] at e
        exact run_some L xs e
      · rw [inB_8.mpr ⟨h1, h2⟩] at hB
        cases hB
theorem sEle_1 (h : inB d 8 = false) : sEle f d i = (1, 0) := by
  unfold sEle
  rw [h]
  rfl
theorem sEle_2 (h : inB d 8 = true) (h2 : ¬ f [d.toNatClampNeg, 6, 0] 0 = 2) : sEle f d i = (2, 0) := by
  unfold sEle
  rw [h]
  exact if_neg h2
theorem sEle_3 (h : inB d 8 = true) (h2 : f [d.toNatClampNeg, 6, 0] 0 = 2) (h3 : i < 0 ∨ f [d.toNatClampNeg, 6, 0] 3 - 1 < i) : sEle f d i = (2, 0) := by
  unfold sEle
  rw [h]
  refine (if_pos h2).trans ?_
  by_cases q : i < 0
  · exact if_pos q
  · exact (if_neg q).trans (if_pos (h3.resolve_left q))
theorem sEle_4 (h : inB d 8 = true) (h2 : f [d.toNatClampNeg, 6, 0] 0 = 2) (h3 : ¬ i < 0) (h4 : ¬ f [d.toNatClampNeg, 6, 0] 3 - 1 < i) : sEle f d i = (0, f [4, d.toNatClampNeg, 6, 0] i.toNatClampNeg) := by
  unfold sEle
  rw [h]
  exact (if_pos h2).trans ((if_neg h3).trans (if_neg h4))
theorem sTos_1 (h : ¬ rBR f d = 0) : sTos f d = rBR f d := by
  unfold sTos rBR at *
  cases hB : inB d 8 with
  | false => rfl
  | true =>
    rw [hB, if_pos rfl] at h
    rw [if_pos rfl]
    show (if f [d.toNatClampNeg, 6, 0] 0 = 0 then (-11 : Int32) else if f [d.toNatClampNeg, 6, 0] 0 = 1 then _ else -12) = _
    by_cases q0 : f [d.toNatClampNeg, 6, 0] 0 = 0
    · rw [if_pos q0, if_pos q0]
    · rw [if_neg q0] at h
      rw [if_neg q0, if_neg q0]
      by_cases q1 : f [d.toNatClampNeg, 6, 0] 0 = 1
      · rw [if_pos q1] at h
        exact absurd rfl h
      · rw [if_neg q1, if_neg q1]
theorem rBR_0 (h : rBR f d = 0) : inB d 8 = true ∧ f [d.toNatClampNeg, 6, 0] 0 = 1 := by
  unfold rBR at h
  cases hB : inB d 8 with
  | false =>
    rw [hB, if_neg (by decide)] at h
    exact absurd h (by decide)
  | true =>
    rw [hB, if_pos rfl] at h
    refine ⟨rfl, ?_⟩
    by_cases q0 : f [d.toNatClampNeg, 6, 0] 0 = 0
    · rw [if_pos q0] at h
      exact absurd h (by decide)
    · rw [if_neg q0] at h
      by_cases q1 : f [d.toNatClampNeg, 6, 0] 0 = 1
      · exact q1
      · rw [if_neg q1] at h
        exact absurd h (by decide)
theorem sTos_2 (hB : inB d 8 = true) (h1 : f [d.toNatClampNeg, 6, 0] 0 = 1) : sTos f d = if f [1, d.toNatClampNeg, 6, 0] 1 = 5 then -15 else if f [1, d.toNatClampNeg, 6, 0] 2 < 0 then -15 else if f [1, d.toNatClampNeg, 6, 0] 1 = 3 then 100 + f [1, d.toNatClampNeg, 6, 0] 0 else f [1, d.toNatClampNeg, 6, 0] 0 := by
  unfold sTos
  rw [hB]
  exact (if_neg (by rw [h1]; decide)).trans (if_pos h1)
end Spc4
