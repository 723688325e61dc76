section Wave7
variable {L : Nat} {xs : Nat → Int32} {M : mM} {w cap : Nat → Nat} {R G n : Nat} {d e : Nat → Nat}
def nB (B : Nat) (d : Nat → Nat) : Nat → Nat
  | 0 => 0
  | n + 1 => B * nB B d n + d n
theorem nB_cg {B : Nat} {d e : Nat → Nat} : ∀ {n}, (∀ l, l < n → e l = d l) → nB B e n = nB B d n
  | 0, _ => rfl
  | n + 1, h => by
    show B * nB B e n + e n = B * nB B d n + d n
    rw [nB_cg (fun l hl => h l (by omega)), h n (by omega)]
theorem nB_lt {d : Nat → Nat} : ∀ {n}, (∀ l, l < n → d l ≤ R) → nB (R + 1) d n < (R + 1) ^ n
  | 0, _ => Nat.one_pos
  | n + 1, h => by
    have h1 := nB_lt (d := d) (n := n) (fun l hl => h l (by omega))
    have h2 := h n (by omega)
    have e : (R + 1) ^ (n + 1) = (R + 1) * (R + 1) ^ n := by rw [Nat.pow_succ, Nat.mul_comm]
    have h3 : (R + 1) * (nB (R + 1) d n + 1) ≤ (R + 1) * (R + 1) ^ n := Nat.mul_le_mul_left _ h1
    rw [Nat.mul_add, Nat.mul_one] at h3
    show (R + 1) * nB (R + 1) d n + d n < _
    rw [e]
    omega
theorem nB_lex {d e : Nat → Nat} : ∀ {n}, (∀ l, l < n → d l ≤ R) → (∀ l, l < n → e l ≤ R) → nB (R + 1) d n ≤ nB (R + 1) e n → (∀ l, l < n → e l = d l) ∨ ∃ j, j < n ∧ (∀ l, l < j → e l = d l) ∧ d j < e j
  | 0, _, _, _ => .inl (fun l hl => by omega)
  | n + 1, hd, he, h => by
    have h : (R + 1) * nB (R + 1) d n + d n ≤ (R + 1) * nB (R + 1) e n + e n := h
    have d5 := hd n (by omega)
    have e5 := he n (by omega)
    have hle : nB (R + 1) d n ≤ nB (R + 1) e n := by
      by_cases q : nB (R + 1) d n ≤ nB (R + 1) e n
      · exact q
      · have h3 : (R + 1) * (nB (R + 1) e n + 1) ≤ (R + 1) * nB (R + 1) d n := Nat.mul_le_mul_left _ (by omega)
        rw [Nat.mul_add, Nat.mul_one] at h3
        omega
    rcases nB_lex (n := n) (fun l hl => hd l (by omega)) (fun l hl => he l (by omega)) hle with a | ⟨j, j1, j2, j3⟩
    · have hv := nB_cg (B := R + 1) a
      rw [hv] at h
      by_cases q : e n = d n
      · refine .inl (fun l hl => ?_)
        by_cases ql : l = n
        · subst ql; exact q
        · exact a l (by omega)
      · exact .inr ⟨n, by omega, a, by omega⟩
    · exact .inr ⟨j, by omega, j2, j3⟩
theorem nB_inj {d e : Nat → Nat} (hd : ∀ l, l < n → d l ≤ R) (he : ∀ l, l < n → e l ≤ R) (h : nB (R + 1) d n = nB (R + 1) e n) : ∀ l, l < n → e l = d l := by
  rcases nB_lex hd he (by omega) with a | ⟨j, j1, j2, j3⟩
  · exact a
  · rcases nB_lex he hd (by omega) with b | ⟨i, i1, i2, i3⟩
    · have := b j j1; omega
    · by_cases h1 : i < j
      · have := j2 i h1; omega
      · by_cases h2 : j < i
        · have := i2 j h2; omega
        · have : i = j := by omega
          subst this; omega
def gX (w cap : Nat → Nat) (R G : Nat) (e : Nat → Nat) : Prop := (∀ l, l < G → e l ≤ R) ∧ gW w cap R G e
theorem gX_cg (h : ∀ l, l < G → e l = d l) (hd : gX w cap R G d) : gX w cap R G e := ⟨fun l hl => by rw [h l hl]; exact hd.1 l hl, fun r hr => by rw [thS_cg h]; exact hd.2 r hr⟩
theorem gX_R : gX w cap R G (fun _ => R) := ⟨fun _ _ => Nat.le_refl _, fun r hr => by
  have : ∀ n, thS w (fun _ => R) r n = 0 := by
    intro n
    induction n with
    | zero => rfl
    | succ n ih =>
      show thS w (fun _ => R) r n + (if R = r then w n else 0) = 0
      rw [ih, if_neg (by omega)]
  rw [this]; exact Nat.zero_le _⟩
def wB (w cap : Nat → Nat) (R G n : Nat) (B : Nat → Int32) (mo : Nat) : Prop :=
  (mo = 0 ∧ ∀ e, gX w cap R G e → ¬ nB (R + 1) e G < n) ∨ ∃ d, gX w cap R G d ∧ nB (R + 1) d G < n ∧ mo = tt w R d G + 1 ∧ (∀ l, l < G → B l = oN (d l)) ∧ ∀ e, gX w cap R G e → nB (R + 1) e G < n → tt w R e G ≤ tt w R d G ∧ (tt w R e G = tt w R d G → nB (R + 1) d G ≤ nB (R + 1) e G)
theorem wB_0 {B : Nat → Int32} : wB w cap R G 0 B 0 := .inl ⟨rfl, fun _ _ => Nat.not_lt_zero _⟩
theorem wB_keep {B : Nat → Int32} {mo : Nat} (hd : ∀ l, l < G → d l ≤ R) (hn : nB (R + 1) d G = n) (hk : gW w cap R G d → tt w R d G < mo) (h : wB w cap R G n B mo) : wB w cap R G (n + 1) B mo := by
  have hs : ∀ e, gX w cap R G e → nB (R + 1) e G = n → tt w R e G < mo := fun e he hv => by
    have hc := nB_inj hd he.1 (by omega)
    rw [tt_cg hc]
    exact hk (gX_cg (fun l hl => (hc l hl).symm) he).2
  rcases h with ⟨h1, h2⟩ | ⟨d', h1, h2, h3, h4, h5⟩
  · refine .inl ⟨h1, fun e he hlt => ?_⟩
    by_cases q : nB (R + 1) e G = n
    · have := hs e he q; omega
    · exact h2 e he (by omega)
  · refine .inr ⟨d', h1, by omega, h3, h4, fun e he hlt => ?_⟩
    by_cases q : nB (R + 1) e G = n
    · have := hs e he q
      exact ⟨by omega, fun _ => by omega⟩
    · exact h5 e he (by omega)
theorem wB_take {B B' : Nat → Int32} {mo : Nat} (hd : ∀ l, l < G → d l ≤ R) (hn : nB (R + 1) d G = n) (hg : gW w cap R G d) (hm : mo ≤ tt w R d G) (hB : ∀ l, l < G → B' l = oN (d l)) (h : wB w cap R G n B mo) : wB w cap R G (n + 1) B' (tt w R d G + 1) := by
  refine .inr ⟨d, ⟨hd, hg⟩, by omega, rfl, hB, fun e he hlt => ?_⟩
  by_cases q : nB (R + 1) e G = n
  · rw [tt_cg (nB_inj hd he.1 (by omega))]
    exact ⟨Nat.le_refl _, fun _ => by omega⟩
  · rcases h with ⟨h1, h2⟩ | ⟨d', h1, h2, h3, h4, h5⟩
    · exact absurd (show nB (R + 1) e G < n by omega) (h2 e he)
    · have := (h5 e he (by omega)).1
      exact ⟨by omega, fun _ => by omega⟩
theorem wPB {mo mo' : Nat} {c kp kp' : Nat → Nat} {B : Nat → Int32} (h1 : wP w cap R G 0 c 0 kp mo kp') (h2 : wB w cap R G ((R + 1) ^ G) B mo') : ∃ d, (∀ l, l < G → d l ≤ R) ∧ mo = mo' ∧ mo = tt w R d G + 1 ∧ ∀ l, l < G → kp' l = d l ∧ B l = oN (d l) := by
  have up : ∀ e, gX w cap R G e → wX w cap R G 0 c e := fun e he => ⟨fun l hl => by omega, he.1, he.2⟩
  rcases h1 with ⟨d, a1, a2, a3, a4, a5⟩ | ⟨a1, a2, a3⟩
  · have gd : gX w cap R G d := a1.2
    rcases h2 with ⟨b1, b2⟩ | ⟨d', b1, b2, b3, b4, b5⟩
    · exact absurd (nB_lt gd.1) (b2 d gd)
    · obtain ⟨x1, x2⟩ := a5 d' (up d' b1)
      obtain ⟨y1, y2⟩ := b5 d gd (nB_lt gd.1)
      have heq : tt w R d' G = tt w R d G := by omega
      have hc : ∀ l, l < G → d' l = d l := by
        rcases x2 heq with a | ⟨j, j1, j2, j3⟩
        · exact a
        · rcases nB_lex b1.1 gd.1 (y2 heq.symm) with b | ⟨i, i1, i2, i3⟩
          · have := b j j1; omega
          · by_cases q1 : i < j
            · have := j2 i q1; omega
            · by_cases q2 : j < i
              · have := i2 j q2; omega
              · have : i = j := by omega
                subst this; omega
      exact ⟨d, gd.1, by omega, a3, fun l hl => ⟨a4 l hl, by rw [b4 l hl, hc l hl]⟩⟩
  · exact absurd (a1 _ (up _ gX_R)) (Nat.not_lt_zero _)
def w4 (M : mM) (A B D : Nat → Int32) : mM := stA (stA (stA M [46, 1] A) [47, 1] B) [48, 1] D
variable {A B D F : Nat → Int32}
theorem w4_6 : (w4 M A B D).1 [46, 1] = A := by unfold w4; rw [stA_ne (by simp), stA_ne (by simp), stA_same]
theorem w4_7 : (w4 M A B D).1 [47, 1] = B := by unfold w4; rw [stA_ne (by simp), stA_same]
theorem w4_8 : (w4 M A B D).1 [48, 1] = D := stA_same
theorem w4_q {q : List Nat} (h1 : q ≠ [46, 1]) (h2 : q ≠ [47, 1]) (h3 : q ≠ [48, 1]) : (w4 M A B D).1 q = M.1 q := by unfold w4; rw [stA_ne h3, stA_ne h2, stA_ne h1]
theorem w4_f8 : (uI (w4 M A B D).1 [48, 1] F, (w4 M A B D).2) = w4 M A B F := stA_stA
theorem w4_f7 : (uI (w4 M A B D).1 [47, 1] F, (w4 M A B D).2) = w4 M A F D := by
  show stA (w4 M A B D) [47, 1] F = _
  unfold w4
  rw [stA_com (p := [48, 1]) (q := [47, 1]) (by simp), stA_stA]
theorem w4_f6 : (uI (w4 M A B D).1 [46, 1] F, (w4 M A B D).2) = w4 M F B D := by
  show stA (w4 M A B D) [46, 1] F = _
  unfold w4
  rw [stA_com (p := [48, 1]) (q := [46, 1]) (by simp), stA_com (p := [47, 1]) (q := [46, 1]) (by simp), stA_stA]
theorem w4_w8 {i : Nat} {v : Int32} : wI (w4 M A B D) [48, 1] i v = w4 M A B (upd D i v) := by unfold wI; rw [w4_8, w4_f8]
theorem w4_w7 {i : Nat} {v : Int32} : wI (w4 M A B D) [47, 1] i v = w4 M A (upd B i v) D := by unfold wI; rw [w4_7, w4_f7]
theorem w4_w6 {i : Nat} {v : Int32} : wI (w4 M A B D) [46, 1] i v = w4 M (upd A i v) B D := by unfold wI; rw [w4_6, w4_f6]
end Wave7
