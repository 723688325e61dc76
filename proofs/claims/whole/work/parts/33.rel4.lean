section Inv2
def txt (cod : Nat → Int32) (sz : Int32) (byt : Nat → Int32) (n : Int32) (t : Nat) : Prop := cod 0 = byt 0 ∧ sz = n ∧ t = t
end Inv2
