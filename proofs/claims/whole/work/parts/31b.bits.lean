section Bits8
/-- a place out of a long: its eight bits from y on -/
def plR (w : Int64) (y : Int32) : Int32 := ((w.toUInt64 >>> (y.toInt64.toUInt64 &&& Int64.toUInt64 63)).toInt64 &&& (255 : Int64)).toInt32
/-- a long with other eight bits from y on -/
def plW (w : Int64) (y : Int32) (v : Int64) : Int64 := (w &&& (((255 : Int64) <<< (y.toInt64 &&& 63)) ^^^ (-1 : Int64))) ||| (v <<< (y.toInt64 &&& 63))
/-- place i of a row of longs, eight places a long -/
def pl (f : Nat → Int64) (i : Nat) : Int32 := plR (f (i / 8)) (oN ((i - i / 8 * 8) * 8))
theorem b255 : ∀ i, i < 64 → (255#64).getLsbD i = decide (i < 8) := by decide +kernel
theorem bm1 : ∀ i, i < 64 → (-1#64).getLsbD i = true := by decide +kernel
theorem bv_same (w v : BitVec 64) {n : Nat} (hn : n ≤ 56) : (((w &&& ((255#64 <<< n) ^^^ -1#64)) ||| (v <<< n)) >>> n) &&& 255#64 = v &&& 255#64 := by
  apply BitVec.eq_of_getLsbD_eq
  intro i hi
  rw [BitVec.getLsbD_and, BitVec.getLsbD_and, BitVec.getLsbD_ushiftRight, b255 i hi]
  by_cases h8 : i < 8
  · rw [BitVec.getLsbD_or, BitVec.getLsbD_and, BitVec.getLsbD_xor, BitVec.getLsbD_shiftLeft, BitVec.getLsbD_shiftLeft, bm1 (n + i) (by omega), show n + i - n = i by omega, b255 i hi,
      decide_eq_true h8, decide_eq_true (show n + i < 64 by omega), decide_eq_false (show ¬ n + i < n by omega)]
    simp
  · rw [decide_eq_false h8, Bool.and_false, Bool.and_false]
theorem bv_ne (w v : BitVec 64) {n m : Nat} (hn : n ≤ 56) (hm : m ≤ 56) (h : n + 8 ≤ m ∨ m + 8 ≤ n) (hv : ∀ i, i < 64 → 8 ≤ i → v.getLsbD i = false) : (((w &&& ((255#64 <<< n) ^^^ -1#64)) ||| (v <<< n)) >>> m) &&& 255#64 = (w >>> m) &&& 255#64 := by
  apply BitVec.eq_of_getLsbD_eq
  intro i hi
  rw [BitVec.getLsbD_and, BitVec.getLsbD_and, BitVec.getLsbD_ushiftRight, BitVec.getLsbD_ushiftRight, b255 i hi]
  by_cases h8 : i < 8
  · rw [BitVec.getLsbD_or, BitVec.getLsbD_and, BitVec.getLsbD_xor, BitVec.getLsbD_shiftLeft, BitVec.getLsbD_shiftLeft, bm1 (m + i) (by omega), decide_eq_true (show m + i < 64 by omega)]
    rcases h with q | q
    · rw [decide_eq_false (show ¬ m + i < n by omega), b255 (m + i - n) (by omega), decide_eq_false (show ¬ m + i - n < 8 by omega), hv (m + i - n) (by omega) (by omega)]
      simp
    · rw [decide_eq_true (show m + i < n by omega)]
      simp
  · rw [decide_eq_false h8, Bool.and_false, Bool.and_false]
theorem t_shl {s : Nat} (hs : s < 8) (v : Int64) : (v <<< ((oN (s * 8)).toInt64 &&& 63)).toBitVec = v.toBitVec <<< (s * 8) := by
  rcases (show s = 0 ∨ s = 1 ∨ s = 2 ∨ s = 3 ∨ s = 4 ∨ s = 5 ∨ s = 6 ∨ s = 7 by omega) with q | q | q | q | q | q | q | q <;> subst q <;> rfl
theorem t_shr {s : Nat} (hs : s < 8) (w : Int64) : ((w.toUInt64 >>> ((oN (s * 8)).toInt64.toUInt64 &&& Int64.toUInt64 63)).toInt64).toBitVec = w.toBitVec >>> (s * 8) := by
  rcases (show s = 0 ∨ s = 1 ∨ s = 2 ∨ s = 3 ∨ s = 4 ∨ s = 5 ∨ s = 6 ∨ s = 7 by omega) with q | q | q | q | q | q | q | q <;> subst q <;> rfl
theorem t_plW {s : Nat} (hs : s < 8) (w v : Int64) : (plW w (oN (s * 8)) v).toBitVec = (w.toBitVec &&& ((255#64 <<< (s * 8)) ^^^ -1#64)) ||| (v.toBitVec <<< (s * 8)) := by
  have e1 := t_shl hs v
  have e2 := t_shl hs (255 : Int64)
  unfold plW
  rw [Int64.toBitVec_or, Int64.toBitVec_and, Int64.toBitVec_xor, e1, e2]
  rfl
theorem k_and : ∀ k, k < 256 → ((oN k).toInt64 &&& (255 : Int64)).toInt32 = oN k := by decide +kernel
theorem k_hi : ∀ k, k < 256 → ∀ i, i < 64 → 8 ≤ i → (oN k).toInt64.toBitVec.getLsbD i = false := by decide +kernel
theorem pl_same (w : Int64) {s k : Nat} (hs : s < 8) (hk : k < 256) : plR (plW w (oN (s * 8)) (oN k).toInt64) (oN (s * 8)) = oN k := by
  have e : ((plW w (oN (s * 8)) (oN k).toInt64).toUInt64 >>> ((oN (s * 8)).toInt64.toUInt64 &&& Int64.toUInt64 63)).toInt64 &&& (255 : Int64) = (oN k).toInt64 &&& (255 : Int64) := by
    apply Int64.toBitVec_inj.mp
    rw [Int64.toBitVec_and, Int64.toBitVec_and, t_shr hs, t_plW hs]
    exact bv_same _ _ (by omega)
  unfold plR
  rw [e]
  exact k_and k hk
theorem pl_ne (w : Int64) {s t k : Nat} (hs : s < 8) (ht : t < 8) (h : s ≠ t) (hk : k < 256) : plR (plW w (oN (s * 8)) (oN k).toInt64) (oN (t * 8)) = plR w (oN (t * 8)) := by
  have e : ((plW w (oN (s * 8)) (oN k).toInt64).toUInt64 >>> ((oN (t * 8)).toInt64.toUInt64 &&& Int64.toUInt64 63)).toInt64 &&& (255 : Int64) = (w.toUInt64 >>> ((oN (t * 8)).toInt64.toUInt64 &&& Int64.toUInt64 63)).toInt64 &&& (255 : Int64) := by
    apply Int64.toBitVec_inj.mp
    rw [Int64.toBitVec_and, Int64.toBitVec_and, t_shr ht, t_shr ht, t_plW hs]
    exact bv_ne _ _ (by omega) (by omega) (by omega) (k_hi k hk)
  unfold plR
  rw [e]
/-- a place is written, the others stay -/
theorem pl_upd {f g : Nat → Int64} {i k : Nat} (hk : k < 256) (hg : ∀ j, g j = if j = i / 8 then plW (f (i / 8)) (oN ((i - i / 8 * 8) * 8)) (oN k).toInt64 else f j) (j : Nat) : pl g j = if j = i then oN k else pl f j := by
  unfold pl
  by_cases e : j = i
  · subst e
    rw [if_pos rfl, hg, if_pos rfl]
    exact pl_same _ (by omega) hk
  · rw [if_neg e, hg]
    by_cases e8 : j / 8 = i / 8
    · rw [if_pos e8, e8]
      have h1 : i - i / 8 * 8 ≠ j - i / 8 * 8 := by omega
      exact pl_ne _ (by omega) (by omega) h1 hk
    · rw [if_neg e8]
section Eq8
variable {L : Nat} {xs : Nat → Int32}
theorem h8_7 (l0 : List Nat) (l1 l2 l4 l5 : Int32) (mem : mM) : run L xs 7 26 (7, [some (vr 1 l0), some (vi l1), some (vi l2), none, some (vi l4), some (vi l5)], [], mem) = (bif cmpS .ge l5 l4 then some (some (vi (0 : Int32)), mem) else (bif inS (((l1 * (4320 : Int32)) + l5) / (8 : Int32)) 21600 then (bif cmpS .ne (plR (mem.2.1 (1 :: l0) (((l1 * (4320 : Int32)) + l5) / (8 : Int32)).toNatClampNeg) ((((l1 * (4320 : Int32)) + l5) - ((l1 * (4320 : Int32)) + l5) / (8 : Int32) * (8 : Int32)) * (8 : Int32))) l2 then (run L xs 7 26 (7, [some (vr 1 l0), some (vi l1), some (vi l2), none, some (vi l4), some (vi (l5 + 1))], [], mem)) else some (some (vi (1 : Int32)), mem)) else none)) := h_7_7 L xs l0 l1 l2 l4 l5 mem
theorem e8_255 (p : List Nat) (a1 : Int32) (a2 : Int64) (mem : mM) : call L xs 255 [vr 1 p, vi a1, vl a2] mem = (bif inS (a1 / (8 : Int32)) 21600 then (bif inS (a1 / (8 : Int32)) 21600 then (ltM (mem.1, (uL mem.2.1 (1 :: p) (vp_updL (mem.2.1 (1 :: p)) (a1 / (8 : Int32)).toNatClampNeg (plW (mem.2.1 (1 :: p) (a1 / (8 : Int32)).toNatClampNeg) ((a1 - a1 / (8 : Int32) * (8 : Int32)) * (8 : Int32)) a2))), mem.2.2) fun z1 => some (none, z1)) else none) else none) := e_255 L xs p a1 a2 mem
theorem e8_137 (p : List Nat) (a1 : Int32) (a2 : Int32) (mem : mM) : call L xs 137 [vr 9 p, vi a1, vi a2] mem = (bif cmpS .lt a1 (0 : Int32) then some (some (vi (-1 : Int32)), mem) else (bif cmpS .gt a1 ((mem.1 (0 :: p) 9) - (1 : Int32)) then some (some (vi (-1 : Int32)), mem) else (bif inS a1 40 then (bif cmpS .ne (mem.1 (a1.toNatClampNeg :: (10 :: (0 :: p))) 1) (0 : Int32) then some (some (vi (-1 : Int32)), mem) else (bif cmpS .lt a2 (0 : Int32) then some (some (vi (-1 : Int32)), mem) else (bif cmpS .gt a2 (4320 : Int32) then some (some (vi (-1 : Int32)), mem) else (bif cmpS .ge a2 (mem.1 (0 :: p) 0) then some (some (vi (-3 : Int32)), mem) else (bif inS a1 40 then (bif cmpS .ge a2 (mem.1 (a1.toNatClampNeg :: (10 :: (0 :: p))) 17) then (bif inS (((a1 * (4320 : Int32)) + a2) / (8 : Int32)) 21600 then some (some (vi (plR (mem.2.1 (1 :: (5 :: p)) (((a1 * (4320 : Int32)) + a2) / (8 : Int32)).toNatClampNeg) ((((a1 * (4320 : Int32)) + a2) - ((a1 * (4320 : Int32)) + a2) / (8 : Int32) * (8 : Int32)) * (8 : Int32)))), mem) else none) else some (some (vi (-3 : Int32)), mem)) else none))))) else none))) := e_137 L xs p a1 a2 mem
end Eq8
end Bits8
