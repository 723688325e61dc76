section Dist
variable {nw : Nat} {wa wb wl ws : Nat → Nat}
theorem wW_app : ∀ {k j u x v n m : Nat}, wW nw wa wb wl ws k u x n → wW nw wa wb wl ws j x v m → wW nw wa wb wl ws (k + j) u v (n + m)
  | 0, j, u, x, v, n, m, h, h' => by
    obtain ⟨rfl, rfl⟩ := h
    rw [Nat.zero_add, Nat.zero_add]
    exact h'
  | k + 1, j, u, x, v, n, m, ⟨y, c, m', h1, h2, h3⟩, h' => by
    rw [show k + 1 + j = (k + j) + 1 by omega]
    exact ⟨y, c, m' + m, h1, wW_app h2 h', by omega⟩
theorem wW_one {u v c : Nat} (h : wE nw wa wb wl ws u v c) : wW nw wa wb wl ws 1 u v c := ⟨v, c, 0, h, ⟨rfl, rfl⟩, rfl⟩
def wV (nw : Nat) (wa wb wl ws : Nat → Nat) (K : Nat) : Nat → Nat → Nat → Nat → Prop
  | 0, u, v, n => u = v ∧ n = 0
  | k + 1, u, v, n => ∃ x c m, wE nw wa wb wl ws u x c ∧ (k = 0 ∨ x < K) ∧ wV nw wa wb wl ws K k x v m ∧ n = c + m
theorem wV_of {nc : Nat} (hlt : ∀ w, w < nw → wa w < nc ∧ wb w < nc) : ∀ {k u v n : Nat}, wW nw wa wb wl ws k u v n → wV nw wa wb wl ws nc k u v n
  | 0, _, _, _, h => h
  | k + 1, u, v, n, ⟨x, c, m, h1, h2, h3⟩ => by
    refine ⟨x, c, m, h1, .inr ?_, wV_of hlt h2, h3⟩
    obtain ⟨w, hw, -, h | h⟩ := h1
    · rw [← h.2.1]; exact (hlt w hw).2
    · rw [← h.2.1]; exact (hlt w hw).1
theorem wV_split {K : Nat} : ∀ {k u v n : Nat}, wV nw wa wb wl ws (K + 1) k u v n → wV nw wa wb wl ws K k u v n ∨ ∃ k1 k2 n1 n2, k2 < k ∧ wV nw wa wb wl ws K k1 u K n1 ∧ wV nw wa wb wl ws (K + 1) k2 K v n2 ∧ n = n1 + n2
  | 0, _, _, _, h => .inl h
  | k + 1, u, v, n, ⟨x, c, m, h1, h0, h2, h3⟩ => by
    rcases h0 with rfl | h0
    · obtain ⟨rfl, rfl⟩ := h2
      exact .inl ⟨x, c, 0, h1, .inl rfl, ⟨rfl, rfl⟩, h3⟩
    · by_cases e : x = K
      · subst e
        exact .inr ⟨1, k, c, m, by omega, ⟨x, c, 0, h1, .inl rfl, ⟨rfl, rfl⟩, rfl⟩, h2, h3⟩
      · rcases wV_split h2 with h | ⟨k1, k2, n1, n2, a1, a2, a3, a4⟩
        · exact .inl ⟨x, c, m, h1, .inr (by omega), h, h3⟩
        · exact .inr ⟨k1 + 1, k2, c + n1, n2, by omega, ⟨x, c, n1, h1, .inr (by omega), a2, rfl⟩, a3, by omega⟩
theorem wV_K {K : Nat} {d : Nat → Nat} (hd : ∀ v k n, wV nw wa wb wl ws K k K v n → d v ≤ n) : ∀ (k v n : Nat), wV nw wa wb wl ws (K + 1) k K v n → d v ≤ n := by
  intro k
  induction k using Nat.strongRecOn with
  | _ k ih =>
    intro v n h
    rcases wV_split h with h | ⟨k1, k2, n1, n2, a1, a2, a3, a4⟩
    · exact hd v k n h
    · have := ih k2 a1 v n2 a3
      omega
theorem wV_phase {nc K : Nat} {d D : Nat → Nat → Nat} (hK : K < nc) (hd : ∀ u v k n, u < nc → v < nc → wV nw wa wb wl ws K k u v n → d u v ≤ n) (h1 : ∀ u v, u < nc → v < nc → D u v ≤ d u v) (h2 : ∀ u v, u < nc → v < nc → D u v ≤ d u K + d K v) :
    ∀ u v k n, u < nc → v < nc → wV nw wa wb wl ws (K + 1) k u v n → D u v ≤ n := by
  intro u v k n hu hv h
  rcases wV_split h with h | ⟨k1, k2, n1, n2, a1, a2, a3, a4⟩
  · exact Nat.le_trans (h1 u v hu hv) (hd u v k n hu hv h)
  · have b1 := hd u K k1 n1 hu hK a2
    have b2 : ∀ v, v < nc → ∀ k n, wV nw wa wb wl ws (K + 1) k K v n → d K v ≤ n := fun v hv k => by
      induction k using Nat.strongRecOn with
      | _ k ih =>
        intro n h
        rcases wV_split h with h | ⟨k1, k2, n1, n2, a1, a2, a3, a4⟩
        · exact hd K v k n hK hv h
        · have := ih k2 a1 n2 a3
          omega
    have b3 := b2 v hv k2 n2 a3
    have b4 := h2 u v hu hv
    omega
def dS (nw : Nat) (wa wb wl ws : Nat → Nat) (nc : Nat) (d : Nat → Nat → Nat) : Prop := ∀ u v, u < nc → v < nc → d u v ≤ 1000000 ∧ (d u v < 1000000 → ∃ k, wW nw wa wb wl ws k u v (d u v)) ∧ (u = v → d u v = 0)
theorem dS_wD {nc : Nat} {d : Nat → Nat → Nat} (hlt : ∀ w, w < nw → wa w < nc ∧ wb w < nc) (hS : dS nw wa wb wl ws nc d) (hC : ∀ u v k n, u < nc → v < nc → wV nw wa wb wl ws nc k u v n → d u v ≤ n) : ∀ u v, u < nc → v < nc → wD nw wa wb wl ws u v (d u v) := fun u v hu hv =>
  ⟨(hS u v hu hv).1, (hS u v hu hv).2.1, fun k m h => hC u v k m hu hv (wV_of hlt h)⟩
theorem wV0 {nc : Nat} {d : Nat → Nat → Nat} (hS : dS nw wa wb wl ws nc d) (hE : ∀ u v c, u < nc → v < nc → wE nw wa wb wl ws u v c → d u v ≤ c) : ∀ u v k n, u < nc → v < nc → wV nw wa wb wl ws 0 k u v n → d u v ≤ n
  | u, v, 0, n, hu, hv, ⟨e, _⟩ => by rw [(hS u v hu hv).2.2 e]; omega
  | u, v, k + 1, n, hu, hv, ⟨x, c, m, h1, h0, h2, h3⟩ => by
    rcases h0 with rfl | h0
    · obtain ⟨rfl, rfl⟩ := h2
      have := hE u x c hu hv h1
      omega
    · omega
end Dist
