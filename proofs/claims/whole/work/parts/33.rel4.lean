section Inv2
def stA (C : mM) (p : List Nat) (F : Nat → Int32) : mM := (uI C.1 p F, C.2)
def fLet : Nat → Nat
  | 0 => 109 | 1 => 104 | 2 => 100 | 3 => 112 | 4 => 113 | 5 => 110 | 6 => 115 | 7 => 108 | 8 => 117 | 9 => 116 | 10 => 119 | _ => 120
def lAt (B : Nat → Int32) (n i : Nat) : Int32 := if i < n then B i else oM 1
def mTx (M : mM) (n : Nat) (B : Nat → Int32) : Prop := n ≤ 80 ∧ M.1 [1] 31 = oN n ∧ ∃ t, M.1 [1] 30 = oN (80 * t) ∧
  ((M.1 [1] 29 = oN 0 ∧ t < 20 ∧ ∀ i, i < n → M.1 [18, 1] (80 * t + i) = B i) ∨ (M.1 [1] 29 = oN 1 ∧ t < 8 ∧ ∀ i, i < n → (M.2.1 [57, 1] (80 * t + i)).toInt32 &&& (255 : Int32) = B i))
def pG (g : Nat → Int32) (a : Nat) (b : Int32) (d vn sn : Nat) : Nat → Int32 := upd (upd (upd (upd (upd g 32 (oN a)) 33 b) 34 (oN d)) 38 (oN vn)) 40 (oN sn)
def pM (M : mM) (a : Nat) (b : Int32) (d vn : Nat) (V : Nat → Int32) (sn : Nat) (S : Nat → Int32) : mM := stA (stA (stA M [1] (pG (M.1 [1]) a b d vn sn)) [37, 1] V) [39, 1] S
def bM (β : Nat → Nat) (i : Nat) : Int32 := oN (β i)
def b2 (b : Bool) : Int32 := bif b then oN 1 else oN 0
noncomputable def jn (c : Nat) (x y : Int32) : Int32 :=
  if c = 38 then x &&& y else if c = 43 then x + y else if c = 45 then x - y else if c = 60 then b2 (!cmpS .ge x y) else if c = 61 then b2 (!cmpS .ne x y) else if c = 62 then b2 (!cmpS .le x y) else x ||| y
noncomputable def ev1 (F : Nat → Int32) (s : List Int32) (c : Nat) : List Int32 :=
  if c < 10000 then oN c :: s else if c < 20000 then F (c - 10000) :: s else if c = 20033 then (match s with
    | [] => []
    | x :: r => (oN 1 - x) :: r) else (match s with
    | y :: x :: r => jn (c - 20000) x y :: r
    | s => s)
noncomputable def ev (F : Nat → Int32) (cs : List Nat) (s : List Int32) : List Int32 := cs.foldl (ev1 F) s
def okc (cs : List Nat) : Prop := ∀ c, c ∈ cs → c ≤ 20200 ∧ (10000 ≤ c → c < 20000 → c < 10012)
def mFd (L : Nat) (xs : Nat → Int32) (M : mM) (Fd : Nat → Int32) : Prop :=
  (M.1 [1] 29 = oN 0 ∧ ∀ i, i < 12 → ∀ a b d vn V sn S, kI L xs 166 [vr 10 [1], vi (oN (fLet i))] (pM M a b d vn V sn S) = some (Fd i, pM M a b d vn V sn S)) ∨ (M.1 [1] 29 = oN 1 ∧ ∀ i, i < 12 → Fd i = oN 0)
def rdL (g : Nat → Int32) : Nat → List Nat → Prop
  | _, [] => True
  | i, c :: cs => g i = oN c ∧ rdL g (i + 1) cs
def txt (L : Nat) (xs : Nat → Int32) (cod : Nat → Int32) (sz : Int32) (byt : Nat → Int32) (len : Int32) (t : Nat) : Prop :=
  ∃ (n : Nat) (β : Nat → Nat) (cs : List Nat) (v : (Nat → Int32) → Bool), n ≤ 80 ∧ (∀ i, i < n → β i ≤ 255) ∧ cs.length ≤ 80 ∧ okc cs ∧ (∀ F s, ev F cs s = b2 (v F) :: s) ∧ rdL cod (80 * t) cs ∧ sz = oN cs.length ∧ len = oN n ∧ (∀ i, i < n → byt (80 * t + i) = oN (β i)) ∧
    ∀ M Fd, mTx M n (bM β) → mFd L xs M Fd → ∃ a d vn V sn S, kI L xs 213 [vr 10 [1]] M = some (b2 (v Fd), pM M a (oN 0) d vn V sn S)
end Inv2
