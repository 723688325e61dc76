section Rel
def opt (x y : Int32) (n : Nat) : Prop := (x = oM 1 ∧ y = oM 4) ∨ ∃ c, c < n ∧ x = oN c ∧ y = oN c
theorem opt_mono {x y : Int32} {n n' : Nat} (hn : n ≤ n') (h : opt x y n) : opt x y n' := h.elim .inl (fun ⟨c, h1, h2⟩ => .inr ⟨c, Nat.lt_of_lt_of_le h1 hn, h2⟩)
def cntG (kd : Nat → Nat) : Nat → Nat
  | 0 => 0
  | n + 1 => cntG kd n + (if kd n = 0 then 1 else 0)
theorem cntG_le (kd : Nat → Nat) : ∀ n, cntG kd n ≤ n
  | 0 => Nat.le_refl 0
  | n + 1 => by
    have := cntG_le kd n
    unfold cntG
    split <;> omega
theorem cntG_mono (kd : Nat → Nat) {a b : Nat} (h : a ≤ b) : cntG kd a ≤ cntG kd b := by
  induction b with
  | zero => have : a = 0 := by omega
            subst this; exact Nat.le_refl _
  | succ n ih =>
    by_cases e : a = n + 1
    · subst e; exact Nat.le_refl _
    · have := ih (by omega)
      show _ ≤ cntG kd n + _
      omega
theorem cntG_lt (kd : Nat → Nat) {a b : Nat} (h : a < b) (hk : kd a = 0) : cntG kd a < cntG kd b := by
  have h1 := cntG_mono kd (show a + 1 ≤ b from h)
  have h2 : cntG kd (a + 1) = cntG kd a + 1 := by show cntG kd a + (if kd a = 0 then 1 else 0) = _; rw [if_pos hk]
  omega
theorem cntG_t {kd : Nat → Nat} {n : Nat} (hk : kd n = 0) : cntG kd (n + 1) = cntG kd n + 1 := by show cntG kd n + (if kd n = 0 then 1 else 0) = _; rw [if_pos hk]
theorem cntG_f {kd : Nat → Nat} {n : Nat} (hk : kd n ≠ 0) : cntG kd (n + 1) = cntG kd n := by show cntG kd n + (if kd n = 0 then 1 else 0) = _; rw [if_neg hk]; rfl
theorem cntG_congr {kd kd' : Nat → Nat} : ∀ {n : Nat}, (∀ b, b < n → kd' b = kd b) → cntG kd' n = cntG kd n
  | 0, _ => rfl
  | n + 1, h => by
    show cntG kd' n + (if kd' n = 0 then 1 else 0) = cntG kd n + (if kd n = 0 then 1 else 0)
    rw [cntG_congr (fun b hb => h b (by omega)), h n (by omega)]
def rSc (r : List Nat) (S : Nat → Int32) (C : mM) (nc nw nb np nt now : Nat) (kd : Nat → Nat) : Prop :=
  C.1 r 0 = oN now ∧ C.1 r 1 = oN nt ∧ C.1 r 2 = oN nc ∧ C.1 (6 :: r) 0 = oN nw ∧ C.1 r 9 = oN nb ∧ C.1 r 11 = oN (cntG kd nb) ∧ C.1 r 13 = oN np ∧
  S 0 = oN nc ∧ S 1 = oN nw ∧ S 2 = oN nb ∧ S 3 = oN nt ∧ S 4 = oN np ∧ S 5 = oN now ∧
  nc ≤ 16 ∧ nw ≤ 24 ∧ nb ≤ 40 ∧ np ≤ 8 ∧ nt ≤ 20 ∧ now ≤ 4320
def rCe (r : List Nat) (S : Nat → Int32) (C M : mM) (nc : Nat) : Prop :=
  ∀ i, i < nc → C.1 (3 :: r) i = M.1 [5, 1] i ∧ C.1 (4 :: r) i = M.1 [6, 1] i ∧ C.1 (5 :: r) i = S (10 + i)
def rWa (r : List Nat) (S : Nat → Int32) (C M : mM) (nc nw : Nat) (wa wb wd wl ws : Nat → Nat) : Prop :=
  ∀ w, w < nw → wa w < nc ∧ wb w < nc ∧ wa w ≠ wb w ∧ 1 ≤ wd w ∧ wd w ≤ 60 ∧ 1 ≤ wl w ∧ wl w ≤ 30 ∧ ws w ≤ 3 ∧
    C.1 (1 :: 6 :: r) w = oN (wa w) ∧ M.1 [7, 1] w = oN (wa w) ∧ C.1 (2 :: 6 :: r) w = oN (wb w) ∧ M.1 [8, 1] w = oN (wb w) ∧
    C.1 (3 :: 6 :: r) w = oN (wd w) ∧ M.1 [9, 1] w = oN (wd w) ∧ C.1 (4 :: 6 :: r) w = oN (wl w) ∧ M.1 [10, 1] w = oN (wl w) ∧
    C.1 (5 :: 6 :: r) w = oN (ws w) ∧ S (30 + w) = oN (ws w)
def rWd (r : List Nat) (S : Nat → Int32) (C : mM) (nw hm : Nat) : Prop :=
  ∀ w, w < nw → (∃ p, p ≤ 40 * hm ∧ C.1 (6 :: 6 :: r) w = oN p ∧ S (60 + w) = oN p) ∧ (∃ p, p ≤ 80 * hm ∧ C.1 (7 :: 6 :: r) w = oN p ∧ S (90 + w) = oN p) ∧
    (∃ k, k ≤ 1 ∧ C.1 (9 :: 6 :: r) w = oN k ∧ S (120 + w) = oN k)
def rHe (r : List Nat) (S : Nat → Int32) (C : mM) : Prop := ∀ h, h < 24 → C.1 (7 :: r) h = S (150 + h) ∧ ∃ k, k ≤ 60 ∧ S (150 + h) = oN k
def rFo (r : List Nat) (S : Nat → Int32) (C : mM) (nt : Nat) : Prop := ∀ k, k < 16 → opt (C.1 (8 :: r) k) (S (180 + k)) nt
def rBi (r : List Nat) (C M : mM) (k b : Nat) : Prop :=
  k ≤ 5 ∧ C.1 (b :: 10 :: r) 0 = oN b ∧ C.1 (b :: 10 :: r) 1 = oN k ∧ M.1 [11, 1] b = oN k ∧ opt (C.1 (b :: 10 :: r) 7) (M.1 [12, 1] b) 6 ∧ opt (C.1 (b :: 10 :: r) 8) (M.1 [13, 1] b) 111 ∧
  C.1 (b :: 10 :: r) 16 = M.1 [14, 1] b ∧ (M.1 [14, 1] b = oM 1 ∨ ∃ g, g < 40 ∧ M.1 [14, 1] b = oN g) ∧ (∃ n, n ≤ 4320 ∧ C.1 (b :: 10 :: r) 17 = oN n ∧ M.1 [16, 1] b = oN n) ∧ (k ≤ 1 → C.1 (b :: 10 :: r) 8 = M.1 [13, 1] b)
def rBp (r : List Nat) (S : Nat → Int32) (C M : mM) (nc nw k b : Nat) : Prop :=
  C.1 (b :: 10 :: r) 5 = S (200 + 16 * b + 2) ∧
  ((k = 0 ∧ (∃ c, c < nc ∧ C.1 (b :: 10 :: r) 2 = oN c ∧ S (200 + 16 * b) = oN c ∧ C.1 (b :: 10 :: r) 3 = oM 1 ∧ S (200 + 16 * b + 1) = oM 4)) ∨
   (k = 0 ∧ (∃ w e t, w < nw ∧ e < nc ∧ 1 ≤ t ∧ t ≤ 30 ∧ C.1 (b :: 10 :: r) 2 = oM 1 ∧ S (200 + 16 * b) = oM 4 ∧ C.1 (b :: 10 :: r) 3 = oN w ∧ S (200 + 16 * b + 1) = oN w ∧
      C.1 (b :: 10 :: r) 4 = oN e ∧ S (200 + 16 * b + 13) = oN e ∧ C.1 (b :: 10 :: r) 5 = oN t ∧ S (200 + 16 * b + 2) = oN t)) ∨
   (k = 4 ∧ C.1 (b :: 10 :: r) 2 = oM 1 ∧ S (200 + 16 * b) = oM 4 ∧ S (200 + 16 * b + 1) = oM 4 ∧ ∃ w, w < nw ∧ C.1 (b :: 10 :: r) 3 = oN w ∧ M.1 [15, 1] b = oN w) ∨
   (k ≠ 0 ∧ k ≠ 4 ∧ opt (C.1 (b :: 10 :: r) 2) (S (200 + 16 * b)) nc ∧ C.1 (b :: 10 :: r) 3 = oM 1 ∧ S (200 + 16 * b + 1) = oM 4))
def rBv (r : List Nat) (S : Nat → Int32) (C : mM) (hm b : Nat) : Prop :=
  (∃ h, h ≤ hm ∧ C.1 (b :: 10 :: r) 6 = oN h ∧ S (200 + 16 * b + 3) = oN h) ∧ C.1 (b :: 10 :: r) 9 = S (200 + 16 * b + 4) ∧ C.1 (b :: 10 :: r) 10 = S (200 + 16 * b + 5) ∧
  C.1 (b :: 10 :: r) 11 = S (200 + 16 * b + 6) ∧ C.1 (b :: 10 :: r) 13 = S (200 + 16 * b + 7) ∧ C.1 (b :: 10 :: r) 14 = S (200 + 16 * b + 8) ∧ C.1 (b :: 10 :: r) 15 = S (200 + 16 * b + 9)
def rBt (r : List Nat) (S : Nat → Int32) (C : mM) (now k b : Nat) : Prop :=
  k = 0 → (∃ tt n, tt ≤ 7 ∧ n ≤ 7 ∧ C.1 (b :: 10 :: r) 12 = oN tt ∧ S (200 + 16 * b + 11) = oN n ∧
    ((S (200 + 16 * b + 10) = oM 1 ∧ (now % 1440 ≠ 0 → tt = 0)) ∨ ∃ d, S (200 + 16 * b + 10) = oN d ∧ 1440 * d < now ∧ (now % 1440 ≠ 0 → tt = if d = now / 1440 then n else 0)))
def rBa (r : List Nat) (S : Nat → Int32) (C : mM) (nc b : Nat) : Prop :=
  ∃ n, n ≤ 8 ∧ C.1 (18 :: b :: 10 :: r) 0 = oN n ∧ S (200 + 16 * b + 12) = oN n ∧
    ∀ i, i < n → C.1 (1 :: 18 :: b :: 10 :: r) i = S (900 + 16 * b + 2 * i) ∧ ∃ c, c < nc ∧ C.1 (2 :: 18 :: b :: 10 :: r) i = oN c ∧ S (900 + 16 * b + 2 * i + 1) = oN c
def rBo (r : List Nat) (S : Nat → Int32) (C M : mM) (nc nw nb now hm : Nat) (kd : Nat → Nat) : Prop :=
  ∀ b, b < nb → rBi r C M (kd b) b ∧ rBp r S C M nc nw (kd b) b ∧ rBv r S C hm b ∧ rBt r S C now (kd b) b ∧ rBa r S C nc b
def rGr (r : List Nat) (C : mM) (nb : Nat) (kd : Nat → Nat) : Prop := ∀ b, b < nb → kd b = 0 → C.1 (12 :: r) (cntG kd b) = oN b
def rPo (r : List Nat) (C M : mM) (nb np : Nat) (kd : Nat → Nat) : Prop := ∀ k, k < np → ∃ b, b < nb ∧ kd b = 4 ∧ C.1 (14 :: r) k = oN b ∧ M.1 [17, 1] k = oN b
def wE (nw : Nat) (wa wb wl ws : Nat → Nat) (u v c : Nat) : Prop := ∃ w, w < nw ∧ c = wl w ∧ ((wa w = u ∧ wb w = v ∧ (ws w = 0 ∨ ws w = 1)) ∨ (wb w = u ∧ wa w = v ∧ (ws w = 0 ∨ ws w = 2)))
def wW (nw : Nat) (wa wb wl ws : Nat → Nat) : Nat → Nat → Nat → Nat → Prop
  | 0, u, v, n => u = v ∧ n = 0
  | k + 1, u, v, n => ∃ x c m, wE nw wa wb wl ws u x c ∧ wW nw wa wb wl ws k x v m ∧ n = c + m
def wD (nw : Nat) (wa wb wl ws : Nat → Nat) (u v d : Nat) : Prop :=
  d ≤ 1000000 ∧ (d < 1000000 → ∃ k, wW nw wa wb wl ws k u v d) ∧ ∀ k m, wW nw wa wb wl ws k u v m → d ≤ m
theorem wD_inj {nw : Nat} {wa wb wl ws : Nat → Nat} {u v d d' : Nat} (h : wD nw wa wb wl ws u v d) (h' : wD nw wa wb wl ws u v d') : d = d' := by
  obtain ⟨a1, a2, a3⟩ := h
  obtain ⟨b1, b2, b3⟩ := h'
  rcases Nat.lt_trichotomy d d' with q | q | q
  · obtain ⟨k, hk⟩ := a2 (by omega)
    have := b3 k d hk
    omega
  · exact q
  · obtain ⟨k, hk⟩ := b2 (by omega)
    have := a3 k d' hk
    omega
def rDi (r : List Nat) (C : mM) (nc nw : Nat) (wa wb wl ws : Nat → Nat) : Prop :=
  C.1 (6 :: r) 11 = oN 0 ∨ (C.1 (6 :: r) 11 = oN 1 ∧ ∀ u v, u < nc → v < nc → ∃ d, C.1 (12 :: 6 :: r) (u * 16 + v) = oN d ∧ wD nw wa wb wl ws u v d)
def rP (r : List Nat) (S : Nat → Int32) (C M : mM) (nc nw nb np nt now hm : Nat) (kd wa wb wd wl ws : Nat → Nat) : Prop :=
  rSc r S C nc nw nb np nt now kd ∧ rCe r S C M nc ∧ rWa r S C M nc nw wa wb wd wl ws ∧ rWd r S C nw hm ∧ rHe r S C ∧ rFo r S C nt ∧ rBo r S C M nc nw nb now hm kd ∧ rGr r C nb kd ∧ rPo r C M nb np kd ∧ rDi r C nc nw wa wb wl ws
end Rel
