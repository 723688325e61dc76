section Wave1
variable {w cap c d e : Nat → Nat} {R G i s a n r : Nat}
def tt (w : Nat → Nat) (R : Nat) (d : Nat → Nat) : Nat → Nat
  | 0 => 0
  | n + 1 => tt w R d n + (if d n < R then w n else 0)
def hp (w : Nat → Nat) : Nat → Nat
  | 0 => 0
  | n + 1 => hp w n + w n
def gW (w cap : Nat → Nat) (R G : Nat) (e : Nat → Nat) : Prop := ∀ r, r < R → thS w e r G ≤ cap r
theorem tt_cg {d' : Nat → Nat} (h : ∀ l, l < n → d' l = d l) : tt w R d' n = tt w R d n := by
  induction n with
  | zero => rfl
  | succ n ih =>
    show tt w R d' n + (if d' n < R then w n else 0) = tt w R d n + (if d n < R then w n else 0)
    rw [ih (fun l hl => h l (by omega)), h n (by omega)]
theorem thS_S : thS w d r n ≤ thS w d r (n + 1) := Nat.le_add_right _ _
theorem thS_mono {m : Nat} (h : n ≤ m) : thS w d r n ≤ thS w d r m := by
  induction m with
  | zero => have : n = 0 := by omega
            subst this; exact Nat.le_refl _
  | succ m ih =>
    by_cases q : n = m + 1
    · subst q; exact Nat.le_refl _
    · exact Nat.le_trans (ih (by omega)) thS_S
theorem tt_hp {m : Nat} (h : n ≤ m) : tt w R d m + hp w n ≤ tt w R d n + hp w m := by
  induction m with
  | zero => have : n = 0 := by omega
            subst this; exact Nat.le_refl _
  | succ m ih =>
    by_cases q : n = m + 1
    · subst q; exact Nat.le_refl _
    · have := ih (by omega)
      show tt w R d m + (if d m < R then w m else 0) + hp w n ≤ tt w R d n + (hp w m + w m)
      split <;> omega
theorem hp_mono {m : Nat} (h : n ≤ m) : hp w n ≤ hp w m := by
  induction m with
  | zero => have : n = 0 := by omega
            subst this; exact Nat.le_refl _
  | succ m ih =>
    by_cases q : n = m + 1
    · subst q; exact Nat.le_refl _
    · have := ih (by omega)
      show _ ≤ hp w m + w m
      omega
def sw (e : Nat → Nat) (i a s : Nat) (l : Nat) : Nat := if l < i then e l else if e l = a then s else if e l = s then a else e l
theorem sw_lo {l : Nat} (h : l < i) : sw e i a s l = e l := if_pos h
theorem sw_ld (has : a ≠ s) {σ : Nat} (hσ : (r = a ∧ σ = s) ∨ (r = s ∧ σ = a) ∨ (r ≠ a ∧ r ≠ s ∧ σ = r)) (hn : i ≤ n) : thS w (sw e i a s) r n + thS w e σ i = thS w e r i + thS w e σ n := by
  induction n with
  | zero =>
    have : i = 0 := by omega
    subst this
    show 0 + 0 = 0 + 0
    rfl
  | succ n ih =>
    by_cases q : i = n + 1
    · subst q
      rw [thS_cg (sl := e) (fun l hl => sw_lo hl)]
    · have h1 := ih (by omega)
      have h2 : (if sw e i a s n = r then w n else 0) = (if e n = σ then w n else 0) := by
        have e1 : sw e i a s n = if e n = a then s else if e n = s then a else e n := if_neg (by omega)
        rw [e1]
        by_cases x : e n = a
        · rw [if_pos x]
          by_cases y : s = r
          · rw [if_pos y, if_pos (by omega)]
          · rw [if_neg y, if_neg (by omega)]
        · rw [if_neg x]
          by_cases z : e n = s
          · rw [if_pos z]
            by_cases y : a = r
            · rw [if_pos y, if_pos (by omega)]
            · rw [if_neg y, if_neg (by omega)]
          · rw [if_neg z]
            by_cases y : e n = r
            · rw [if_pos y, if_pos (by omega)]
            · rw [if_neg y, if_neg (by omega)]
      show thS w (sw e i a s) r n + (if sw e i a s n = r then w n else 0) + thS w e σ i = thS w e r i + (thS w e σ n + (if e n = σ then w n else 0))
      rw [h2]; omega
theorem sw_tt (ha : a < R) (hs : s < R) : tt w R (sw e i a s) n = tt w R e n := by
  induction n with
  | zero => rfl
  | succ n ih =>
    have h2 : (if sw e i a s n < R then w n else 0) = (if e n < R then w n else 0) := by
      unfold sw
      by_cases q : n < i
      · rw [if_pos q]
      · rw [if_neg q]
        by_cases x : e n = a
        · rw [if_pos x, if_pos hs, if_pos (by omega)]
        · rw [if_neg x]
          by_cases z : e n = s
          · rw [if_pos z, if_pos ha, if_pos (by omega)]
          · rw [if_neg z]
    show tt w R (sw e i a s) n + _ = tt w R e n + _
    rw [ih, h2]
def lexl (G : Nat) (d e : Nat → Nat) : Prop := (∀ l, l < G → e l = d l) ∨ ∃ j, j < G ∧ (∀ l, l < j → e l = d l) ∧ d j < e j
def wX (w cap : Nat → Nat) (R G i : Nat) (c e : Nat → Nat) : Prop := (∀ l, l < i → e l = c l) ∧ (∀ l, l < G → e l ≤ R) ∧ gW w cap R G e
end Wave1
section Wave2
variable {w cap c d e : Nat → Nat} {R G i s a n r : Nat} {kp kp0 kp' : Nat → Nat} {mo mo0 mo' : Nat}
def wP (w cap : Nat → Nat) (R G i : Nat) (c : Nat → Nat) (mo : Nat) (kp : Nat → Nat) (mo' : Nat) (kp' : Nat → Nat) : Prop :=
  (∃ d, wX w cap R G i c d ∧ mo ≤ tt w R d G ∧ mo' = tt w R d G + 1 ∧ (∀ l, l < G → kp' l = d l) ∧ ∀ e, wX w cap R G i c e → tt w R e G ≤ tt w R d G ∧ (tt w R e G = tt w R d G → lexl G d e)) ∨
  ((∀ e, wX w cap R G i c e → tt w R e G < mo) ∧ mo' = mo ∧ ∀ l, l < G → kp' l = kp l)
def wQ (w cap : Nat → Nat) (R G i : Nat) (c : Nat → Nat) (s mo : Nat) (kp : Nat → Nat) (mo' : Nat) (kp' : Nat → Nat) : Prop :=
  (∃ d, wX w cap R G i c d ∧ d i < s ∧ mo ≤ tt w R d G ∧ mo' = tt w R d G + 1 ∧ (∀ l, l < G → kp' l = d l) ∧ ∀ e, wX w cap R G i c e → e i < s → tt w R e G ≤ tt w R d G ∧ (tt w R e G = tt w R d G → lexl G d e)) ∨
  ((∀ e, wX w cap R G i c e → e i < s → tt w R e G < mo) ∧ mo' = mo ∧ ∀ l, l < G → kp' l = kp l)
theorem wQ_0 : wQ w cap R G i c 0 mo kp mo kp := .inr ⟨fun e _ h => absurd h (Nat.not_lt_zero _), rfl, fun _ _ => rfl⟩
theorem wX_up (he : wX w cap R G i c e) (hs : e i = s) : wX w cap R G (i + 1) (updN c i s) e := ⟨fun l hl => by
  by_cases q : l = i
  · subst q; rw [updN_same, hs]
  · rw [updN_ne q]; exact he.1 l (by omega), he.2⟩
theorem wX_dn (he : wX w cap R G (i + 1) (updN c i s) e) : wX w cap R G i c e ∧ e i = s := ⟨⟨fun l hl => by rw [he.1 l (by omega), updN_ne (by omega)], he.2⟩, by rw [he.1 i (by omega), updN_same]⟩
theorem wQ_step (hi : i < G) (hQ : wQ w cap R G i c s mo0 kp0 mo kp) (hP : wP w cap R G (i + 1) (updN c i s) mo kp mo' kp') : wQ w cap R G i c (s + 1) mo0 kp0 mo' kp' := by
  rcases hP with ⟨d', p1, p2, p3, p4, p5⟩ | ⟨p1, p2, p3⟩
  · obtain ⟨x1, x2⟩ := wX_dn p1
    rcases hQ with ⟨d, q1, q2, q3, q4, q5, q6⟩ | ⟨q1, q2, q3⟩
    · refine .inl ⟨d', x1, by omega, by omega, p3, p4, fun e he hes => ?_⟩
      by_cases h : e i = s
      · exact p5 e (wX_up he h)
      · have := (q6 e he (by omega)).1
        exact ⟨by omega, fun _ => by omega⟩
    · refine .inl ⟨d', x1, by omega, by omega, p3, p4, fun e he hes => ?_⟩
      by_cases h : e i = s
      · exact p5 e (wX_up he h)
      · have := q1 e he (by omega)
        exact ⟨by omega, fun _ => by omega⟩
  · rcases hQ with ⟨d, q1, q2, q3, q4, q5, q6⟩ | ⟨q1, q2, q3⟩
    · refine .inl ⟨d, q1, by omega, q3, by omega, fun l hl => by rw [p3 l hl]; exact q5 l hl, fun e he hes => ?_⟩
      by_cases h : e i = s
      · have := p1 e (wX_up he h)
        refine ⟨by omega, fun _ => .inr ⟨i, hi, fun l hl => by rw [he.1 l hl, q1.1 l hl], by omega⟩⟩
      · exact q6 e he (by omega)
    · refine .inr ⟨fun e he hes => ?_, by omega, fun l hl => by rw [p3 l hl]; exact q3 l hl⟩
      by_cases h : e i = s
      · have := p1 e (wX_up he h)
        omega
      · exact q1 e he (by omega)
theorem wQ_skip (hi : i < G) (hQ : wQ w cap R G i c s mo0 kp0 mo kp) (hn : ∀ e, wX w cap R G i c e → e i = s → tt w R e G < mo) : wQ w cap R G i c (s + 1) mo0 kp0 mo kp :=
  wQ_step hi hQ (.inr ⟨fun e he => hn e (wX_dn he).1 (wX_dn he).2, rfl, fun _ _ => rfl⟩)
theorem wQ_end (hi : i < G) (hQ : wQ w cap R G i c (R + 1) mo kp mo' kp') : wP w cap R G i c mo kp mo' kp' := by
  rcases hQ with ⟨d, q1, q2, q3, q4, q5, q6⟩ | ⟨q1, q2, q3⟩
  · exact .inl ⟨d, q1, q3, q4, q5, fun e he => q6 e he (by have := he.2.1 i hi; omega)⟩
  · exact .inr ⟨fun e he => q1 e he (by have := he.2.1 i hi; omega), q2, q3⟩
theorem wP_prune (hi : i ≤ G) (h : tt w R c i + hp w G < mo + hp w i) : wP w cap R G i c mo kp mo kp := by
  refine .inr ⟨fun e he => ?_, rfl, fun _ _ => rfl⟩
  have h1 := tt_hp (w := w) (R := R) (d := e) hi
  rw [tt_cg (d := c) he.1] at h1
  omega
theorem wP_full (h : tt w R c G < mo) : wP w cap R G G c mo kp mo kp := .inr ⟨fun e he => by rw [tt_cg (d := c) he.1]; exact h, rfl, fun _ _ => rfl⟩
theorem wP_take (hc : ∀ l, l < G → c l ≤ R) (hg : gW w cap R G c) (h : mo ≤ tt w R c G) (hk : ∀ l, l < G → kp' l = c l) : wP w cap R G G c mo kp (tt w R c G + 1) kp' :=
  .inl ⟨c, ⟨fun _ _ => rfl, hc, hg⟩, h, rfl, hk, fun e he => ⟨by rw [tt_cg (d := c) he.1]; exact Nat.le_refl _, fun _ => .inl he.1⟩⟩
theorem wQ_twin (hi : i < G) (hs : s < R) (ha : a < s) (hcl : ∀ r, r < R → thS w c r i ≤ cap r) (hr : cap a - thS w c a i = cap s - thS w c s i) (hQ : wQ w cap R G i c s mo0 kp0 mo kp) : ∀ e, wX w cap R G i c e → e i = s → tt w R e G < mo := by
  intro e he hes
  obtain ⟨h1, h2, h3⟩ := he
  have hx : wX w cap R G i c (sw e i a s) := by
    refine ⟨fun l hl => by rw [sw_lo hl]; exact h1 l hl, fun l hl => ?_, fun r hr' => ?_⟩
    · have := h2 l hl
      unfold sw
      split
      · exact this
      · split
        · omega
        · split
          · omega
          · exact this
    · have e1 := thS_cg (h := w) (s := a) (sl := c) (sl' := e) h1
      have e2 := thS_cg (h := w) (s := s) (sl := c) (sl' := e) h1
      have ca := hcl a (by omega)
      have cs := hcl s hs
      have ga := h3 a (by omega)
      have gs := h3 s hs
      have ma := thS_mono (w := w) (d := e) (r := a) (show i ≤ G by omega)
      have ms := thS_mono (w := w) (d := e) (r := s) (show i ≤ G by omega)
      by_cases q1 : r = a
      · have := sw_ld (w := w) (e := e) (i := i) (a := a) (s := s) (r := r) (σ := s) (n := G) (by omega) (.inl ⟨q1, rfl⟩) (by omega)
        subst q1
        omega
      · by_cases q2 : r = s
        · have := sw_ld (w := w) (e := e) (i := i) (a := a) (s := s) (r := r) (σ := a) (n := G) (by omega) (.inr (.inl ⟨q2, rfl⟩)) (by omega)
          subst q2
          omega
        · have := sw_ld (w := w) (e := e) (i := i) (a := a) (s := s) (r := r) (σ := r) (n := G) (by omega) (.inr (.inr ⟨q1, q2, rfl⟩)) (by omega)
          have := h3 r hr'
          omega
  have hi' : sw e i a s i = a := by
    unfold sw
    rw [if_neg (Nat.lt_irrefl i), if_neg (by omega), if_pos hes]
  have ht := sw_tt (w := w) (e := e) (i := i) (n := G) (show a < R by omega) hs
  rcases hQ with ⟨d, q1, q2, q3, q4, q5, q6⟩ | ⟨q1, q2, q3⟩
  · have := (q6 _ hx (by omega)).1
    omega
  · have := q1 _ hx (by omega)
    omega
end Wave2
