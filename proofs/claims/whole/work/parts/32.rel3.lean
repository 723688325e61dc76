section Inv
theorem w_fun (m : mM) (p q : List Nat) (k : Nat) (v : Int32) : (wI m p k v).1 q = if q = p then upd (m.1 p) k v else m.1 q := rfl
theorem wC_fun (m : mM) (p0 p1 q : List Nat) (sp dp n : Nat) : (wC m p0 p1 sp dp n).1 q = if q = p1 then va_cpy (m.1 p0) (m.1 p1) sp dp n else m.1 q := rfl
theorem kI_of {L : Nat} {xs : Nat → Int32} {t : Nat} {as : List mV} {mem mem' : mM} {v : Int32} (h : call L xs t as mem = some (some (vi v), mem')) : kI L xs t as mem = some (v, mem') := by
  unfold kI
  rw [h]
  rfl
theorem kV_of {L : Nat} {xs : Nat → Int32} {t : Nat} {as : List mV} {mem mem' : mM} (h : call L xs t as mem = some (none, mem')) : kV L xs t as mem = some mem' := by
  unfold kV
  rw [h]
  rfl
def rIm (C M : mM) (nc nw nb np nt now hm : Nat) : Prop :=
  (C.1 [0] 3 = oN 0 ∧ M.1 [1] 4 = oN 0) ∨ (C.1 [0] 3 = oN 1 ∧ M.1 [1] 4 = oN 1 ∧ ∃ nc' nw' nb' np' nt' now' kd wa wb wd wl ws,
    rP [1, 0] (M.1 [2, 1]) C M nc' nw' nb' np' nt' now' hm kd wa wb wd wl ws ∧ nc' ≤ nc ∧ nw' ≤ nw ∧ nb' ≤ nb ∧ np' ≤ np ∧ nt' ≤ nt ∧ now' ≤ now)
def rHi (C M : mM) (nb now : Nat) (kd : Nat → Nat) : Prop :=
  (∀ m, m < now → C.1 [0, 5, 0] (5 * m) = M.1 [20, 1] m ∧ C.1 [0, 5, 0] (5 * m + 1) = M.1 [21, 1] m ∧ C.1 [0, 5, 0] (5 * m + 2) = M.1 [22, 1] m ∧ C.1 [0, 5, 0] (5 * m + 3) = M.1 [23, 1] m ∧ C.1 [0, 5, 0] (5 * m + 4) = M.1 [24, 1] m) ∧
  (∀ b m n, b < nb → kd b = 0 → m < now → M.1 [16, 1] b = oN n → n ≤ 4320 → n ≤ m → pl (C.2.1 [1, 5, 0]) (b * 4320 + m) = M.1 [25, 1] (4321 * b + m))
def rShB (C M : mM) (d : Nat) : Prop := ∃ k, k ≤ 5 ∧ C.1 [1, d, 6, 0] 1 = oN k ∧
  M.1 [53, 1] d = (if k = 0 then ((oN 10 + C.1 [1, d, 6, 0] 6) + oN 0) + C.1 [18, 1, d, 6, 0] 0 else if k = 1 then ((oN 10 + C.1 [1, d, 6, 0] 6) + oN 0) + C.1 [1, d, 6, 0] 8 else if k = 2 then ((oN 10 + C.1 [1, d, 6, 0] 6) + oN 50) + oN 100
    else if k = 3 then oN 2 * (((oN 10 + C.1 [1, d, 6, 0] 6) + oN 300) + oN 100) else if k = 4 then (((oN 10 + C.1 [1, d, 6, 0] 6) + oN 0) + oN 200) + C.1 [1, d, 6, 0] 3 else (oN 10 + C.1 [1, d, 6, 0] 6) + oN 1) ∧
  ((C.1 [1, d, 6, 0] 2 = oM 1 ∧ M.1 [54, 1] d = oM 15) ∨ (∃ c n, c < 16 ∧ n < 40 ∧ C.1 [1, d, 6, 0] 2 = oN c ∧ C.1 [1, d, 6, 0] 0 = oN n ∧ M.1 [54, 1] d = (if k = 5 then oM 15 else if k = 3 then oN (100 + n) else oN n)))
def rShR (C M : mM) (d : Nat) : Prop := ∃ s n, s ≤ 2 ∧ n ≤ 80 ∧ C.1 [d, 6, 0] 2 = oN s ∧ M.1 [55, 1] d = oN s ∧ C.1 [d, 6, 0] 3 = oN n ∧ M.1 [56, 1] d = oN n ∧
  (∀ i, i < n → M.2.1 [57, 1] (80 * d + i) = (C.1 [4, d, 6, 0] i).toInt64) ∧ (s = 0 → ∀ i, i < n → (C.1 [4, d, 6, 0] i).toInt8.toInt32 = C.1 [4, d, 6, 0] i)
def rSh (C M : mM) : Prop := ∀ d, d < 8 → (C.1 [d, 6, 0] 0 = oN 0 ∧ M.1 [52, 1] d = oN 0) ∨ (C.1 [d, 6, 0] 0 = oN 1 ∧ M.1 [52, 1] d = oN 1 ∧ rShB C M d) ∨ (C.1 [d, 6, 0] 0 = oN 2 ∧ M.1 [52, 1] d = oN 2 ∧ rShR C M d)
end Inv
