section Inv4
variable {r : List Nat} {S S' : Nat → Int32} {C C' M M' : mM} {nc nw nb np nt now hm : Nat} {kd wa wb wd wl ws : Nat → Nat}
theorem rHe_congr (hC : C'.1 (7 :: r) = C.1 (7 :: r)) (hS : ∀ i, i < 24 → S' (150 + i) = S (150 + i)) (h : rHe r S C) : rHe r S' C' := fun i hi => by
  rw [hC, hS i hi]; exact h i hi
theorem rFo_congr (hC : C'.1 (8 :: r) = C.1 (8 :: r)) (hS : ∀ i, i < 16 → S' (180 + i) = S (180 + i)) (h : rFo r S C nt) : rFo r S' C' nt := fun i hi => by
  rw [hC, hS i hi]; exact h i hi
theorem rGr_congr (hC : C'.1 (12 :: r) = C.1 (12 :: r)) (h : rGr r C nb kd) : rGr r C' nb kd := fun b hb hk => by
  rw [hC]; exact h b hb hk
theorem rPo_congr (hC : C'.1 (14 :: r) = C.1 (14 :: r)) (hM : ∀ i, i < np → M'.1 [17, 1] i = M.1 [17, 1] i) (h : rPo r C M nb np kd) : rPo r C' M' nb np kd := fun i hi => by
  rw [hC, hM i hi]; exact h i hi
def opR (L : Nat) (xs : Nat → Int32) (c m : Nat) (as : List mV) (C M : mM) (hm : Nat) : Prop :=
  ∃ v C' M', kI L xs c (vr 9 [0] :: as) C = some (v, C') ∧ kI L xs m (vr 10 [1] :: as) M = some (v, M') ∧ rI L xs C' M' hm
end Inv4
section Sfx
theorem sf_ne {t p : List Nat} {a b : Nat} (h : p.reverse.take 2 ≠ [b, a]) : t ++ [a, b] ≠ p := fun e => h (by rw [← e]; simp)
theorem w_sf {m : mM} {t p : List Nat} {a b k : Nat} {v : Int32} (h : p.reverse.take 2 ≠ [b, a]) : (wI m p k v).1 (t ++ [a, b]) = m.1 (t ++ [a, b]) := if_neg (sf_ne h)
theorem wC_sf {m : mM} {t p0 p : List Nat} {a b sp dp n : Nat} (h : p.reverse.take 2 ≠ [b, a]) : (wC m p0 p sp dp n).1 (t ++ [a, b]) = m.1 (t ++ [a, b]) := if_neg (sf_ne h)
end Sfx
