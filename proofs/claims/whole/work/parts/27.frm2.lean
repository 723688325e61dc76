section Frame2
variable {L : Nat} {xs : Nat → Int32} {rs : List (List Nat)}
theorem okI (v : Int32) : zokV rs (vi v) := trivial
theorem okJ (v : Int64) : zokV rs (vl v) := trivial
theorem okK (v : Int) : zokV rs (vk v) := trivial
theorem okR {c : Nat} {p : List Nat} (h : undR rs p) : zokV rs (vr c p) := h
theorem intr_ok {j pc : Nat} {ls : List (Option mV)} {st : List mV} {mem : mM} {o : mO} (h : intr j pc ls st mem = some o) (hl : okL rs ls) (hs : okS rs st) : zokO rs mem o := by
  unfold intr at h
  cases h0 : Nat.beq j 900 with
  | true =>
    rw [h0] at h
    obtain ⟨y, r1, h, s1⟩ := zpI_inv h hs
    obtain ⟨v, r2, h, s2⟩ := zpI_inv h s1
    exact gO_ok (zbif_inv h) hl (okS_cons (okI _) s2) (frm_refl _ _)
  | false =>
  rw [h0] at h
  cases h1 : Nat.beq j 901 with
  | true =>
    rw [h1] at h
    obtain ⟨y, r1, h, s1⟩ := zpI_inv h hs
    obtain ⟨v, r2, h, s2⟩ := zpI_inv h s1
    exact gO_ok (zbif_inv h) hl (okS_cons (okI _) s2) (frm_refl _ _)
  | false =>
  rw [h1] at h
  cases h2 : Nat.beq j 902 with
  | true =>
    rw [h2] at h
    obtain ⟨n, r1, h, s1⟩ := zpI_inv h hs
    obtain ⟨dp, r2, h, s2⟩ := zpI_inv h s1
    obtain ⟨c1, p1, r3, h, u1, s3⟩ := zpR_inv h s2
    obtain ⟨sp, r4, h, s4⟩ := zpI_inv h s3
    obtain ⟨c0, p0, r5, h, u0, s5⟩ := zpR_inv h s4
    exact gG_ok (zbif_inv h) hl s5 (frm_I u1)
  | false =>
  rw [h2] at h
  cases h3 : Nat.beq j 903 with
  | true =>
    rw [h3] at h
    obtain ⟨n, r1, h, s1⟩ := zpI_inv h hs
    obtain ⟨c1, p1, r3, h, u1, s3⟩ := zpR_inv h s1
    exact gO_ok (zbif_inv h) hl (okS_cons (okI _) s3) (frm_refl _ _)
  | false =>
  rw [h3] at h
  cases h4 : Nat.beq j 904 with
  | true =>
    rw [h4] at h
    obtain ⟨n, r1, h, s1⟩ := zpI_inv h hs
    obtain ⟨c1, p1, r3, h, u1, s3⟩ := zpR_inv h s1
    exact gO_ok (zbif_inv h) hl (okS_cons (okI _) s3) (fun _ _ => ⟨rfl, rfl⟩)
  | false =>
  rw [h4] at h
  cases h5 : Nat.beq j 905 with
  | true =>
    rw [h5] at h
    obtain ⟨c3, p3, r1, h, u3, s1⟩ := zpR_inv h hs
    obtain ⟨i, r2, h, s2⟩ := zpI_inv h s1
    obtain ⟨d, r3, h, s3⟩ := zpI_inv h s2
    obtain ⟨c1, p1, r4, h9, u1, s4⟩ := zpR_inv h s3
    clear h
    generalize hb : ((c1.beq 9 && decide (p1 = [0])) && (c3.beq 4000001) && decide (p3 = [2]) && (List.map mCat r4).sum.ble 8) = bb at h9
    have hp : p3 = [2] := by
      cases bb with
      | false => cases h9
      | true =>
        simp only [Bool.and_eq_true, decide_eq_true_eq] at hb
        exact hb.1.2
    subst hp
    refine gO_ok (zbif_inv h9) hl (okS_cons (okI _) s4) ?_
    intro q hq
    refine ⟨rfl, ?_⟩
    dsimp only
    split
    · exact (frm_L (m := mem) (z := 0) u3 q hq).2
    · rfl
  | false =>
  rw [h5] at h
  cases h
set_option maxHeartbeats 4000000 in
theorem isem_ok {m pc len : Nat} {ig : Instr} {fa fb fc : Nat} {ls : List (Option mV)} {st : List mV} {mem : mM} {o : mO} (h4 : undR rs [4]) (h3 : undR rs [3] ∨ True) (h : isem L xs m pc len ig fa fb fc ls st mem = some o) (hl : okL rs ls) (hs : okS rs st) : zokO rs mem o := by
  unfold isem at h
  cases ig
  case iconst n =>
    dsimp only at h
    exact gO_ok (zbif_inv h) hl (okS_cons (okK _) hs) (frm_refl _ _)
  case bipush n =>
    dsimp only at h
    exact gO_ok (zbif_inv h) hl (okS_cons (okK _) hs) (frm_refl _ _)
  case sipush n =>
    dsimp only at h
    exact gO_ok (zbif_inv h) hl (okS_cons (okK _) hs) (frm_refl _ _)
  case lconst n =>
    dsimp only at h
    exact gO_ok h hl (okS_cons (okJ _) hs) (frm_refl _ _)
  case aconst_null  =>
    dsimp only at h
    exact gO_ok h hl (okS_cons trivial hs) (frm_refl _ _)
  case ldc j =>
    dsimp only at h
    split at h
    · exact gO_ok h hl (okS_cons (okI _) hs) (frm_refl _ _)
    · exact gO_ok (zbif_inv h) hl (okS_cons (okR h4) hs) (frm_refl _ _)
  case ldc_w j =>
    dsimp only at h
    split at h
    · exact gO_ok h hl (okS_cons (okI _) hs) (frm_refl _ _)
    · cases h
  case iload_n k =>
    dsimp only at h
    obtain ⟨v, h, hv⟩ := zldI_inv h hl
    exact gO_ok h hl (okS_cons hv hs) (frm_refl _ _)
  case iload k =>
    dsimp only at h
    obtain ⟨v, h, hv⟩ := zldI_inv h hl
    exact gO_ok h hl (okS_cons hv hs) (frm_refl _ _)
  case lload_n k =>
    dsimp only at h
    obtain ⟨v, h⟩ := zldL_inv h hl
    exact gO_ok h hl (okS_cons (okJ _) hs) (frm_refl _ _)
  case lload k =>
    dsimp only at h
    obtain ⟨v, h⟩ := zldL_inv h hl
    exact gO_ok h hl (okS_cons (okJ _) hs) (frm_refl _ _)
  case aload_n k =>
    dsimp only at h
    obtain ⟨v, h, hv⟩ := zldR_inv h hl
    exact gO_ok h hl (okS_cons hv hs) (frm_refl _ _)
  case aload k =>
    dsimp only at h
    obtain ⟨v, h, hv⟩ := zldR_inv h hl
    exact gO_ok h hl (okS_cons hv hs) (frm_refl _ _)
  case istore_n k =>
    dsimp only at h
    obtain ⟨v, r, h, hv, s1⟩ := zpV_inv h hs
    exact gO_ok (zbif_inv h) (okL_lSet hl hv) s1 (frm_refl _ _)
  case istore k =>
    dsimp only at h
    obtain ⟨v, r, h, hv, s1⟩ := zpV_inv h hs
    exact gO_ok (zbif_inv h) (okL_lSet hl hv) s1 (frm_refl _ _)
  case lstore_n k =>
    dsimp only at h
    obtain ⟨v, r, h, s1⟩ := zpL_inv h hs
    exact gO_ok (zbif_inv h) (okL_lSet2 hl (okJ _)) s1 (frm_refl _ _)
  case lstore k =>
    dsimp only at h
    obtain ⟨v, r, h, s1⟩ := zpL_inv h hs
    exact gO_ok (zbif_inv h) (okL_lSet2 hl (okJ _)) s1 (frm_refl _ _)
  case astore_n k =>
    dsimp only at h
    obtain ⟨v, r, h, hv, s1⟩ := zpN_inv h hs
    exact gO_ok (zbif_inv h) (okL_lSet hl hv) s1 (frm_refl _ _)
  case astore k =>
    dsimp only at h
    obtain ⟨v, r, h, hv, s1⟩ := zpN_inv h hs
    exact gO_ok (zbif_inv h) (okL_lSet hl hv) s1 (frm_refl _ _)
  case iinc k n =>
    dsimp only at h
    obtain ⟨v, h, hv⟩ := zldI_inv h hl
    obtain ⟨v, r, h, s1⟩ := zpI_inv h (okS_cons hv okS_nil)
    exact gO_ok h (okL_lSet hl (okI _)) hs (frm_refl _ _)
  case iadd  =>
    dsimp only at h
    obtain ⟨y, r1, h, s1⟩ := zpI_inv h hs
    obtain ⟨v, r2, h, s2⟩ := zpI_inv h s1
    exact gO_ok h hl (okS_cons (okI _) s2) (frm_refl _ _)
  case isub  =>
    dsimp only at h
    obtain ⟨y, r1, h, s1⟩ := zpI_inv h hs
    obtain ⟨v, r2, h, s2⟩ := zpI_inv h s1
    exact gO_ok h hl (okS_cons (okI _) s2) (frm_refl _ _)
  case imul  =>
    dsimp only at h
    obtain ⟨y, r1, h, s1⟩ := zpI_inv h hs
    obtain ⟨v, r2, h, s2⟩ := zpI_inv h s1
    exact gO_ok h hl (okS_cons (okI _) s2) (frm_refl _ _)
  case iand  =>
    dsimp only at h
    obtain ⟨y, r1, h, s1⟩ := zpI_inv h hs
    obtain ⟨v, r2, h, s2⟩ := zpI_inv h s1
    exact gO_ok h hl (okS_cons (okI _) s2) (frm_refl _ _)
  case ior  =>
    dsimp only at h
    obtain ⟨y, r1, h, s1⟩ := zpI_inv h hs
    obtain ⟨v, r2, h, s2⟩ := zpI_inv h s1
    exact gO_ok h hl (okS_cons (okI _) s2) (frm_refl _ _)
  case ishl  =>
    dsimp only at h
    obtain ⟨y, r1, h, s1⟩ := zpI_inv h hs
    obtain ⟨v, r2, h, s2⟩ := zpI_inv h s1
    exact gO_ok h hl (okS_cons (okI _) s2) (frm_refl _ _)
  case idiv  =>
    dsimp only at h
    obtain ⟨b, y, r1, h, s1⟩ := zpD_inv h hs
    obtain ⟨v, r2, h, s2⟩ := zpI_inv h s1
    exact gG_ok h hl (okS_cons (okI _) s2) (frm_refl _ _)
  case irem  =>
    dsimp only at h
    obtain ⟨b, y, r1, h, s1⟩ := zpD_inv h hs
    obtain ⟨v, r2, h, s2⟩ := zpI_inv h s1
    exact gG_ok h hl (okS_cons (okI _) s2) (frm_refl _ _)
  case land  =>
    dsimp only at h
    obtain ⟨y, r1, h, s1⟩ := zpL_inv h hs
    obtain ⟨v, r2, h, s2⟩ := zpL_inv h s1
    exact gO_ok h hl (okS_cons (okJ _) s2) (frm_refl _ _)
  case lor  =>
    dsimp only at h
    obtain ⟨y, r1, h, s1⟩ := zpL_inv h hs
    obtain ⟨v, r2, h, s2⟩ := zpL_inv h s1
    exact gO_ok h hl (okS_cons (okJ _) s2) (frm_refl _ _)
  case lxor  =>
    dsimp only at h
    obtain ⟨y, r1, h, s1⟩ := zpL_inv h hs
    obtain ⟨v, r2, h, s2⟩ := zpL_inv h s1
    exact gO_ok h hl (okS_cons (okJ _) s2) (frm_refl _ _)
  case lshl  =>
    dsimp only at h
    obtain ⟨y, r1, h, s1⟩ := zpI_inv h hs
    obtain ⟨v, r2, h, s2⟩ := zpL_inv h s1
    exact gO_ok h hl (okS_cons (okJ _) s2) (frm_refl _ _)
  case lushr  =>
    dsimp only at h
    obtain ⟨y, r1, h, s1⟩ := zpI_inv h hs
    obtain ⟨v, r2, h, s2⟩ := zpL_inv h s1
    exact gO_ok h hl (okS_cons (okJ _) s2) (frm_refl _ _)
  case ldc2_w j =>
    dsimp only at h
    split at h
    · exact gO_ok h hl (okS_cons (okJ _) hs) (frm_refl _ _)
    · cases h
  case ladd  =>
    dsimp only at h
    obtain ⟨y, r1, h, s1⟩ := zpL_inv h hs
    obtain ⟨v, r2, h, s2⟩ := zpL_inv h s1
    exact gO_ok h hl (okS_cons (okJ _) s2) (frm_refl _ _)
  case lsub  =>
    dsimp only at h
    obtain ⟨y, r1, h, s1⟩ := zpL_inv h hs
    obtain ⟨v, r2, h, s2⟩ := zpL_inv h s1
    exact gO_ok h hl (okS_cons (okJ _) s2) (frm_refl _ _)
  case lcmp  =>
    dsimp only at h
    obtain ⟨y, r1, h, s1⟩ := zpL_inv h hs
    obtain ⟨v, r2, h, s2⟩ := zpL_inv h s1
    exact gO_ok h hl (okS_cons (okI _) s2) (frm_refl _ _)
  case i2l  =>
    dsimp only at h
    obtain ⟨v, r2, h, s2⟩ := zpI_inv h hs
    exact gO_ok h hl (okS_cons (okJ _) s2) (frm_refl _ _)
  case l2i  =>
    dsimp only at h
    obtain ⟨v, r2, h, s2⟩ := zpL_inv h hs
    exact gO_ok h hl (okS_cons (okI _) s2) (frm_refl _ _)
  case i2b  =>
    dsimp only at h
    obtain ⟨v, r2, h, s2⟩ := zpI_inv h hs
    exact gO_ok h hl (okS_cons (okI _) s2) (frm_refl _ _)
  case i2s  =>
    dsimp only at h
    obtain ⟨v, r2, h, s2⟩ := zpI_inv h hs
    exact gO_ok h hl (okS_cons (okI _) s2) (frm_refl _ _)
  case i2c  =>
    dsimp only at h
    obtain ⟨v, r2, h, s2⟩ := zpI_inv h hs
    exact gO_ok h hl (okS_cons (okI _) s2) (frm_refl _ _)
  case dup  =>
    dsimp only at h
    obtain ⟨v, r2, h, hv, s2⟩ := zpA_inv h hs
    exact gO_ok h hl (okS_cons hv (okS_cons hv s2)) (frm_refl _ _)
  case dup_x1  =>
    dsimp only at h
    obtain ⟨v, r1, h, hv, s1⟩ := zpA_inv h hs
    obtain ⟨w, r2, h, hw, s2⟩ := zpA_inv h s1
    exact gO_ok h hl (okS_cons hv (okS_cons hw (okS_cons hv s2))) (frm_refl _ _)
  case dup2  =>
    dsimp only at h
    obtain ⟨v, r1, h, hv, s1⟩ := zpA_inv h hs
    obtain ⟨w, r2, h, hw, s2⟩ := zpA_inv h s1
    exact gO_ok h hl (okS_cons hv (okS_cons hw (okS_cons hv (okS_cons hw s2)))) (frm_refl _ _)
  case pop  =>
    dsimp only at h
    obtain ⟨v, r1, h, hv, s1⟩ := zpA_inv h hs
    exact gO_ok h hl s1 (frm_refl _ _)
  case goto off =>
    dsimp only at h
    split at h
    · exact gO_ok h hl hs (frm_refl _ _)
    · cases h
  case ifCond c off =>
    dsimp only at h
    split at h
    · exact gB_ok h hl (okS_tl hs)
    · exact gB_ok h hl (okS_tl hs)
    · cases h
  case if_icmp c off =>
    dsimp only at h
    split at h
    · exact gB_ok h hl (okS_tl (okS_tl hs))
    · obtain ⟨y, r1, h, s1⟩ := zpI_inv h hs
      obtain ⟨v, r2, h, s2⟩ := zpI_inv h s1
      exact gB_ok h hl s2
  case ifnull off =>
    dsimp only at h
    split at h
    · exact gB_ok h hl (okS_tl hs)
    · exact gB_ok h hl (okS_tl hs)
    · cases h
  case ifnonnull off =>
    dsimp only at h
    split at h
    · exact gB_ok h hl (okS_tl hs)
    · exact gB_ok h hl (okS_tl hs)
    · cases h
  case tableswitch dflt lo hi offs =>
    dsimp only at h
    obtain ⟨v, r, h, s1⟩ := zpI_inv h hs
    split at h
    · have h := zbif_inv h
      split at h
      · cases h
        exact swL_ok hl s1 _ _
      · cases h
    · cases h
  case lookupswitch dflt ps =>
    dsimp only at h
    obtain ⟨v, r, h, s1⟩ := zpI_inv h hs
    have h := zbif_inv h
    split at h
    · cases h
      exact lkL_ok hl s1 _
    · cases h
  case getfield j =>
    dsimp only at h
    obtain ⟨c, p, r, h, u, s1⟩ := zpR_inv h hs
    have h := zbif_inv h
    cases hb : Nat.ble fc 1 with
    | true => rw [hb] at h; exact gO_ok h hl (okS_cons (okI _) s1) (frm_refl _ _)
    | false => rw [hb] at h; exact gO_ok h hl (okS_cons (okR (undR_cons _ u)) s1) (frm_refl _ _)
  case putfield j =>
    dsimp only at h
    obtain ⟨b, v, r, h, s1⟩ := zpZ_inv h hs
    obtain ⟨c, p, r2, h, u, s2⟩ := zpR_inv h s1
    have h := zbif_inv h
    cases hb : Nat.beq fc 0 with
    | true => rw [hb] at h; exact gO_ok h hl s2 (frm_I u)
    | false => rw [hb] at h; exact gG_ok (zbif_inv h) hl s2 (frm_I u)
  case iaload  =>
    dsimp only at h
    obtain ⟨c, p, r, h, u, -⟩ := zpR_inv h (okS_drop 1 hs)
    cases hb : Nat.beq (tgK c) 1 with
    | true =>
      rw [hb, cond_true] at h
      obtain ⟨b, v, r2, h, s2⟩ := zpX_inv h hs
      exact gG_ok h hl (okS_cons (okI _) (okS_drop 1 s2)) (frm_refl _ _)
    | false =>
      rw [hb] at h
      obtain ⟨b, v, r2, h, s2⟩ := zpX_inv (zbif_inv h) hs
      exact gG_ok h hl (okS_cons (okI _) (okS_drop 1 s2)) (frm_refl _ _)
  case baload  =>
    dsimp only at h
    obtain ⟨c, p, r, h, u, -⟩ := zpR_inv h (okS_drop 1 hs)
    obtain ⟨b, v, r2, h, s2⟩ := zpX_inv (zbif_inv h) hs
    exact gG_ok h hl (okS_cons (okI _) (okS_drop 1 s2)) (frm_refl _ _)
  case laload  =>
    dsimp only at h
    obtain ⟨c, p, r, h, u, -⟩ := zpR_inv h (okS_drop 1 hs)
    obtain ⟨b, v, r2, h, s2⟩ := zpX_inv (zbif_inv h) hs
    exact gG_ok h hl (okS_cons (okJ _) (okS_drop 1 s2)) (frm_refl _ _)
  case aaload  =>
    dsimp only at h
    obtain ⟨c, p, r, h, u, -⟩ := zpR_inv h (okS_drop 1 hs)
    cases hb : Nat.beq (tgK c) 5 with
    | true =>
      rw [hb, cond_true] at h
      obtain ⟨b, v, r2, h, s2⟩ := zpX_inv h hs
      exact gG_ok h hl (okS_cons (okR (undR_cons _ u)) (okS_drop 1 s2)) (frm_refl _ _)
    | false =>
      rw [hb] at h
      obtain ⟨b, v, r2, h, s2⟩ := zpX_inv (zbif_inv h) hs
      exact gG_ok h hl (okS_cons (okR (undR_cons _ u)) (okS_drop 1 s2)) (frm_refl _ _)
  case iastore  =>
    dsimp only at h
    obtain ⟨c, p, r, h, u, -⟩ := zpR_inv h (okS_drop 2 hs)
    obtain ⟨v, r1, h, s1⟩ := zpI_inv (zbif_inv h) hs
    obtain ⟨b, v, r2, h, s2⟩ := zpX_inv h s1
    exact gG_ok h hl (okS_drop 1 s2) (frm_I u)
  case bastore  =>
    dsimp only at h
    obtain ⟨c, p, r, h, u, -⟩ := zpR_inv h (okS_drop 2 hs)
    cases hb : Nat.beq (tgK c) 2 with
    | true =>
      rw [hb] at h
      obtain ⟨v, r1, h, s1⟩ := zpI_inv h hs
      obtain ⟨b, v, r2, h, s2⟩ := zpX_inv h s1
      exact gG_ok h hl (okS_drop 1 s2) (frm_I u)
    | false =>
      rw [hb] at h
      obtain ⟨v, r1, h, s1⟩ := zpI_inv (zbif_inv h) hs
      obtain ⟨b, v, r2, h, s2⟩ := zpX_inv h s1
      exact gG_ok h hl (okS_drop 1 s2) (frm_I u)
  case lastore  =>
    dsimp only at h
    obtain ⟨c, p, r, h, u, -⟩ := zpR_inv h (okS_drop 2 hs)
    obtain ⟨v, r1, h, s1⟩ := zpL_inv (zbif_inv h) hs
    obtain ⟨b, v, r2, h, s2⟩ := zpX_inv h s1
    exact gG_ok h hl (okS_drop 1 s2) (frm_L u)
  case arraylength  =>
    dsimp only at h
    obtain ⟨c, p, r, h, u, s1⟩ := zpR_inv h hs
    cases hb : Nat.beq (tgK c) 7 with
    | true => rw [hb] at h; exact gO_ok h hl (okS_cons (okI _) s1) (frm_refl _ _)
    | false => rw [hb] at h; exact gO_ok (zbif_inv h) hl (okS_cons (okI _) s1) (frm_refl _ _)
  case invokevirtual j =>
    dsimp only at h
    cases hb : Nat.blt fa 900 with
    | true => rw [hb, cond_true] at h; exact callT_ok h hs
    | false => rw [hb] at h; exact intr_ok (zbif_inv h) hl hs
  case invokestatic j =>
    dsimp only at h
    cases hb : Nat.blt fa 900 with
    | true => rw [hb, cond_true] at h; exact callT_ok h hs
    | false =>
      rw [hb] at h
      cases hb2 : (Nat.beq fa 903 || Nat.beq fa 904) with
      | true => rw [hb2] at h; cases h
      | false => rw [hb2] at h; exact intr_ok h hl hs
  case ireturn  =>
    dsimp only at h
    split at h
    · split at h
      · cases h; intro w hw; cases hw; trivial
      · cases h; intro w hw; cases hw; trivial
      · cases h
    · split at h
      · cases h; intro w hw; cases hw; trivial
      · cases h; intro w hw; cases hw; trivial
      · cases h
    · cases h
  case lreturn  =>
    dsimp only at h
    split at h
    · split at h
      · cases h; intro w hw; cases hw; trivial
      · cases h
    · cases h
  case areturn  =>
    dsimp only at h
    split at h
    · split at h
      · cases h; intro w hw; cases hw; exact okS_hd hs
      · cases h; intro w hw; cases hw; exact okS_hd hs
      · cases h
    · cases h
  case return_  =>
    dsimp only at h
    split at h
    · split at h
      · cases h; intro w hw; cases hw
      · cases h
    · cases h
  all_goals (dsimp only at h; cases h)
theorem zokV_nz {v : mV} (h : zokV rs v) : zokV rs (nz v) := by
  rcases v with (v | v | v) | v
  · trivial
  · trivial
  · trivial
  · exact h
theorem okL_zip {q : List Bool} : ∀ {ls : List (Option mV)}, okL rs ls → okL rs (List.zipWith (fun b v => bif b then v.map nz else none) q ls) := by
  induction q with
  | nil => intro ls _ w hw; cases hw
  | cons b q ih =>
    intro ls hl w hw
    cases ls with
    | nil => cases hw
    | cons v ls =>
      rw [List.zipWith_cons_cons] at hw
      rcases List.mem_cons.mp hw with e | e
      · cases b with
        | false => cases e
        | true =>
          cases v with
          | none => cases e
          | some v =>
            have e : some w = some (nz v) := e
            cases e
            exact zokV_nz (hl v List.mem_cons_self)
      · exact ih (fun w hw => hl w (List.mem_cons_of_mem _ hw)) w e
theorem okL_nrm {m pc : Nat} {ls : List (Option mV)} {st : List mV} {mem : mM} (hl : okL rs ls) : okL rs (nrm m (pc, ls, st, mem)).2.1 ∧ (nrm m (pc, ls, st, mem)).2.2 = (st, mem) := by
  unfold nrm
  dsimp only
  split
  · exact ⟨hl, rfl⟩
  · exact ⟨okL_zip hl, rfl⟩
theorem okS_cArg {t : Nat} {args : List mV} (h : okS rs args) : okS rs (cArg t args) := by
  unfold cArg
  cases kInl t with
  | true => exact h
  | false =>
    intro w hw
    obtain ⟨v, hv, rfl⟩ := List.mem_map.mp hw
    exact zokV_nz (h v hv)
theorem okV_cRet {m : Nat} {v : Option mV} (h : ∀ w, v = some w → zokV rs w) : ∀ w, cRet m v = some w → zokV rs w := by
  unfold cRet
  cases kInl m with
  | true => exact h
  | false =>
    intro w hw
    cases v with
    | none => cases hw
    | some v =>
      have hw : some (nz v) = some w := hw
      cases hw
      exact zokV_nz (h v rfl)
theorem okL_ini {t : Nat} {args : List mV} (h : okS rs args) : okL rs (ini t args) := by
  unfold ini
  intro w hw
  rcases List.mem_append.mp hw with e | e
  · obtain ⟨v, hv, e⟩ := List.mem_map.mp e
    have e := Option.some.inj e
    subst e
    exact h _ hv
  · have := List.eq_of_mem_replicate e
    cases this
theorem exec_frame (h4 : undR rs [4]) : ∀ (n m rk pc : Nat) (ls : List (Option mV)) (st : List mV) (mem : mM) (r : Option mV × mM), exec L xs n m rk (pc, ls, st, mem) = some r → okL rs ls → okS rs st → frm rs mem r.2 ∧ ∀ w, r.1 = some w → zokV rs w
  | 0, _, _, _, _, _, _, _, h, _, _ => by cases h
  | n + 1, m, rk, pc, ls, st, mem, r, h, hl, hs => by
    rw [exec_succ] at h
    unfold body at h
    dsimp only at h
    cases hq : mStep L xs m pc ls st mem with
    | none => rw [hq] at h; cases h
    | some o =>
      rw [hq] at h
      have ho : zokO rs mem o := by
        unfold mStep at hq
        split at hq
        · cases hq
        · exact isem_ok h4 (.inr trivial) hq hl hs
      rcases o with l | ⟨b, v⟩ | ⟨t, args, rest⟩
      · dsimp only at h
        have key : ∀ l : List (Bool × mS), (∀ s, s ∈ l → okL rs s.2.2.1 ∧ okS rs s.2.2.2.1 ∧ frm rs mem s.2.2.2.2) → alt l (fun s' => exec L xs n m rk (nrm m s')) = some r → frm rs mem r.2 ∧ ∀ w, r.1 = some w → zokV rs w := by
          intro l
          induction l with
          | nil => intro _ h; cases h
          | cons a l ih =>
            intro hk h
            obtain ⟨b, s⟩ := a
            cases b with
            | false => exact ih (fun s hs => hk s (List.mem_cons_of_mem _ hs)) h
            | true =>
              obtain ⟨pc', ls', st', mem'⟩ := s
              obtain ⟨k1, k2, k3⟩ := hk _ List.mem_cons_self
              obtain ⟨e1, e2⟩ := okL_nrm (m := m) (pc := pc') (st := st') (mem := mem') k1
              have h : exec L xs n m rk (nrm m (pc', ls', st', mem')) = some r := h
              generalize hz : nrm m (pc', ls', st', mem') = z at h e1 e2
              obtain ⟨zp, zl, zs, zm⟩ := z
              cases e2
              obtain ⟨f1, f2⟩ := exec_frame h4 n m rk _ _ _ _ _ h e1 k2
              exact ⟨frm_trans k3 f1, f2⟩
        exact key l ho h
      · dsimp only at h
        cases hb : b && retB (kRt m) v with
        | false => rw [hb] at h; cases h
        | true =>
          rw [hb] at h
          cases h
          exact ⟨frm_refl _ _, okV_cRet ho⟩
      · dsimp only at h
        obtain ⟨ha, hr⟩ := ho
        cases hb : Nat.blt (rkM t (cArg t args)) rk with
        | false => rw [hb] at h; cases h
        | true =>
          rw [hb] at h
          simp only [cond_true] at h
          cases hz : exec L xs n t (rkM t (cArg t args)) (0, ini t (cArg t args), [], mem) with
          | none => rw [hz] at h; cases h
          | some z =>
            rw [hz] at h
            obtain ⟨v, mem'⟩ := z
            obtain ⟨f1, f2⟩ := exec_frame h4 n t _ _ _ _ _ _ hz (okL_ini (okS_cArg ha)) okS_nil
            have hst : okS rs (v.toList ++ rest) := by
              cases v with
              | none => exact hr
              | some w => exact okS_cons (f2 w rfl) hr
            obtain ⟨g1, g2⟩ := exec_frame h4 n m rk _ _ _ _ _ h hl hst
            exact ⟨frm_trans f1 g1, g2⟩
theorem call_frame {t : Nat} {args : List mV} {mem : mM} {r : Option mV × mM} (h4 : undR rs [4]) (h : call L xs t args mem = some r) (ha : okS rs args) : frm rs mem r.2 := by
  obtain ⟨n, hn⟩ := run_some L xs h
  exact (exec_frame h4 n _ _ _ _ _ _ r hn (okL_ini ha) okS_nil).1
theorem run_frame {m rk pc : Nat} {ls : List (Option mV)} {st : List mV} {mem : mM} {r : Option mV × mM} (h4 : undR rs [4]) (h : run L xs m rk (pc, ls, st, mem) = some r) (hl : okL rs ls) (hs : okS rs st) : frm rs mem r.2 := by
  obtain ⟨n, hn⟩ := run_some L xs h
  exact (exec_frame h4 n _ _ _ _ _ _ r hn hl hs).1
theorem kI_call {t : Nat} {args : List mV} {mem mem' : mM} {v : Int32} (h : kI L xs t args mem = some (v, mem')) : ∃ w, call L xs t args mem = some (w, mem') := by
  unfold kI at h
  cases hc : call L xs t args mem with
  | none => rw [hc] at h; cases h
  | some z =>
    rw [hc] at h
    obtain ⟨w, m'⟩ := z
    refine ⟨w, ?_⟩
    dsimp only [Option.bind] at h
    split at h
    · cases h; rfl
    · cases h
theorem kV_call {t : Nat} {args : List mV} {mem mem' : mM} (h : kV L xs t args mem = some mem') : ∃ w, call L xs t args mem = some (w, mem') := by
  unfold kV at h
  cases hc : call L xs t args mem with
  | none => rw [hc] at h; cases h
  | some z =>
    rw [hc] at h
    obtain ⟨w, m'⟩ := z
    refine ⟨w, ?_⟩
    dsimp only [Option.bind] at h
    split at h
    · cases h; rfl
    · cases h
theorem kJ_call {t : Nat} {args : List mV} {mem mem' : mM} {v : Int64} (h : kJ L xs t args mem = some (v, mem')) : ∃ w, call L xs t args mem = some (w, mem') := by
  unfold kJ at h
  cases hc : call L xs t args mem with
  | none => rw [hc] at h; cases h
  | some z =>
    rw [hc] at h
    obtain ⟨w, m'⟩ := z
    refine ⟨w, ?_⟩
    dsimp only [Option.bind] at h
    split at h
    · cases h; rfl
    · cases h
theorem kI_frame {t : Nat} {args : List mV} {mem mem' : mM} {v : Int32} (h4 : undR rs [4]) (h : kI L xs t args mem = some (v, mem')) (ha : okS rs args) : frm rs mem mem' := by
  obtain ⟨w, e⟩ := kI_call h
  exact call_frame h4 e ha
theorem kV_frame {t : Nat} {args : List mV} {mem mem' : mM} (h4 : undR rs [4]) (h : kV L xs t args mem = some mem') (ha : okS rs args) : frm rs mem mem' := by
  obtain ⟨w, e⟩ := kV_call h
  exact call_frame h4 e ha
theorem kJ_frame {t : Nat} {args : List mV} {mem mem' : mM} {v : Int64} (h4 : undR rs [4]) (h : kJ L xs t args mem = some (v, mem')) (ha : okS rs args) : frm rs mem mem' := by
  obtain ⟨w, e⟩ := kJ_call h
  exact call_frame h4 e ha
end Frame2
