theorem all_more {α : Type} {P : α → Prop} {l : List α} (a n : Nat) (h1 : ∀ q ∈ (l.drop a).take n, P q) (h2 : ∀ q ∈ l.drop (a + n), P q) : ∀ q ∈ l.drop a, P q := by
  intro q hq
  rw [← List.take_append_drop n (l.drop a), List.drop_drop] at hq
  rcases List.mem_append.mp hq with h | h
  · exact h1 q h
  · exact h2 q h
def iLen (ig : Instr) : Nat := match ig with
  | .bipush _ => 2 | .ldc2_w _ => 3 | .ldc _ => 2 | .iload _ => 2 | .lload _ => 2 | .aload _ => 2 | .istore _ => 2 | .lstore _ => 2 | .astore _ => 2 | .newarray _ => 2
  | .sipush _ => 3 | .ldc_w _ => 3 | .getfield _ => 3 | .putfield _ => 3 | .goto _ => 3 | .if_icmp _ _ => 3 | .ifCond _ _ => 3 | .ifnull _ => 3 | .ifnonnull _ => 3
  | .invokevirtual _ => 3 | .invokestatic _ => 3 | .invokespecial _ => 3 | .iinc _ _ => 3 | .new _ => 3 | .anewarray _ => 3
  | .tableswitch _ _ _ _ => 0 | .lookupswitch _ _ => 0
  | _ => 1
/-- is the number of an instruction of a method of class o rightly resolved, and its length what it is -/
def rsB (o : Nat) (q : mIns) : Bool := match q with
  | (_, ig, len, fa, fb, fc) => (Nat.beq (iLen ig) 0 || Nat.beq len (iLen ig)) && (match ig with
    | .getfield j => (fRs.getD o []).contains (j, fa, fb) && (fKd fa fb == some fc)
    | .putfield j => (fRs.getD o []).contains (j, fa, fb) && (fKd fa fb == some fc)
    | .invokevirtual j => bif Nat.blt fa 900 then (mRs.getD o []).contains (j, fa) && Nat.blt fa 256 && Nat.beq fb (mNa.getD fa 0) && (mSt.getD fa true == false) && Nat.beq fc (oCi.getD (mOw.getD fa 0) 99) else (iRs.getD o []).contains (j, fa)
    | .invokestatic j => bif Nat.blt fa 900 then (mRs.getD o []).contains (j, fa) && Nat.blt fa 256 && Nat.beq fb (mNa.getD fa 0) && (mSt.getD fa false == true) && Nat.beq fc 99 else (iRs.getD o []).contains (j, fa)
    | _ => true)
def PM (mi : Nat) : Prop := ∀ c ∈ kCd mi, ∀ q ∈ c.2, decode (mBy.getD mi code) q.1 = .ok (q.2.1, q.2.2.1) ∧ rsB (kOw mi) q = true
set_option maxRecDepth 100000 in
theorem dk_0 : ∀ c ∈ cd_0, ∀ q ∈ c.2, decode cX0_begin q.1 = .ok (q.2.1, q.2.2.1) := by decide +kernel
set_option maxRecDepth 100000 in
theorem dk_1 : ∀ c ∈ cd_1, ∀ q ∈ c.2, decode cX0_copyFrom q.1 = .ok (q.2.1, q.2.2.1) := by decide +kernel
set_option maxRecDepth 100000 in
theorem dk_2 : ∀ c ∈ cd_2, ∀ q ∈ c.2, decode cX0_heaviness q.1 = .ok (q.2.1, q.2.2.1) := by decide +kernel
set_option maxRecDepth 100000 in
theorem dk_3 : ∀ c ∈ cd_3, ∀ q ∈ c.2, decode cX0_seats q.1 = .ok (q.2.1, q.2.2.1) := by decide +kernel
set_option maxRecDepth 100000 in
theorem dk_4 : ∀ c ∈ cd_4, ∀ q ∈ c.2, decode cX1_note q.1 = .ok (q.2.1, q.2.2.1) := by decide +kernel
set_option maxRecDepth 100000 in
theorem dk_5 : ∀ c ∈ cd_5, ∀ q ∈ c.2, decode cX1_placeOf q.1 = .ok (q.2.1, q.2.2.1) := by decide +kernel
set_option maxRecDepth 100000 in
theorem dk_6 : ∀ c ∈ cd_6, ∀ q ∈ c.2, decode cX1_recordOf q.1 = .ok (q.2.1, q.2.2.1) := by decide +kernel
set_option maxRecDepth 100000 in
theorem dk_7 : ∀ c ∈ cd_7, ∀ q ∈ c.2, decode cX1_wasIn q.1 = .ok (q.2.1, q.2.2.1) := by decide +kernel
set_option maxRecDepth 100000 in
theorem dk_8 : ∀ c ∈ cd_8, ∀ q ∈ c.2, decode cX2_canWalk q.1 = .ok (q.2.1, q.2.2.1) := by decide +kernel
set_option maxRecDepth 100000 in
theorem dk_9 : ∀ c ∈ cd_9, ∀ q ∈ c.2, decode cX2_drink q.1 = .ok (q.2.1, q.2.2.1) := by decide +kernel
set_option maxRecDepth 100000 in
theorem dk_10 : ∀ c ∈ cd_10, ∀ q ∈ c.2, decode cX2_faint q.1 = .ok (q.2.1, q.2.2.1) := by decide +kernel
set_option maxRecDepth 100000 in
theorem dk_11 : ∀ c ∈ cd_11, ∀ q ∈ c.2, decode cX2_firstWayToward q.1 = .ok (q.2.1, q.2.2.1) := by decide +kernel
set_option maxRecDepth 100000 in
theorem dk_12 : ∀ c ∈ cd_12, ∀ q ∈ c.2, decode cX2_keepRites q.1 = .ok (q.2.1, q.2.2.1) := by decide +kernel
set_option maxRecDepth 100000 in
theorem dk_13 : ∀ c ∈ cd_13, ∀ q ∈ c.2, decode cX2_letFall q.1 = .ok (q.2.1, q.2.2.1) := by decide +kernel
set_option maxRecDepth 100000 in
theorem dk_14 : ∀ c ∈ cd_14, ∀ q ∈ c.2, decode cX2_loadWays q.1 = .ok (q.2.1, q.2.2.1) := by decide +kernel
set_option maxRecDepth 100000 in
theorem dk_15 : ∀ c ∈ cd_15, ∀ q ∈ c.2, decode cX2_neighboursPush q.1 = .ok (q.2.1, q.2.2.1) := by decide +kernel
set_option maxRecDepth 100000 in
theorem dk_16 : ∀ c ∈ cd_16, ∀ q ∈ c.2, decode cX2_pass q.1 = .ok (q.2.1, q.2.2.1) := by decide +kernel
set_option maxRecDepth 100000 in
theorem dk_17 : ∀ c ∈ cd_17, ∀ q ∈ c.2, decode cX2_pushWays q.1 = .ok (q.2.1, q.2.2.1) := by decide +kernel
set_option maxRecDepth 100000 in
theorem dk_18 : ∀ c ∈ cd_18, ∀ q ∈ c.2, decode cX2_shutWays q.1 = .ok (q.2.1, q.2.2.1) := by decide +kernel
set_option maxRecDepth 100000 in
theorem dk_19 : ∀ c ∈ cd_19, ∀ q ∈ c.2, decode cX2_stepOut q.1 = .ok (q.2.1, q.2.2.1) := by decide +kernel
set_option maxRecDepth 100000 in
theorem dk_20 : ∀ c ∈ cd_20, ∀ q ∈ c.2, decode cX2_stepToward q.1 = .ok (q.2.1, q.2.2.1) := by decide +kernel
set_option maxRecDepth 100000 in
theorem dk_21 : ∀ c ∈ cd_21, ∀ q ∈ c.2, decode cX2_sufferHeat q.1 = .ok (q.2.1, q.2.2.1) := by decide +kernel
set_option maxRecDepth 100000 in
theorem dk_22 : ∀ c ∈ cd_22, ∀ q ∈ c.2, decode cX2_walkOn q.1 = .ok (q.2.1, q.2.2.1) := by decide +kernel
set_option maxRecDepth 100000 in
theorem dk_23 : ∀ c ∈ cd_23, ∀ q ∈ c.2, decode cX2_weighWays q.1 = .ok (q.2.1, q.2.2.1) := by decide +kernel
set_option maxRecDepth 100000 in
theorem dk_24 : ∀ c ∈ cd_24, ∀ q ∈ c.2, decode cX3_addBody q.1 = .ok (q.2.1, q.2.2.1) := by decide +kernel
set_option maxRecDepth 100000 in
theorem dk_25 : ∀ c ∈ cd_25, ∀ q ∈ c.2, decode cX3_addCell q.1 = .ok (q.2.1, q.2.2.1) := by decide +kernel
set_option maxRecDepth 100000 in
theorem dk_26 : ∀ c ∈ cd_26, ∀ q ∈ c.2, decode cX3_allCarried q.1 = .ok (q.2.1, q.2.2.1) := by decide +kernel
set_option maxRecDepth 100000 in
theorem dk_27 : ∀ c ∈ cd_27, ∀ q ∈ c.2, decode cX3_allFainted q.1 = .ok (q.2.1, q.2.2.1) := by decide +kernel
set_option maxRecDepth 100000 in
theorem dk_28 : ∀ c ∈ cd_28, ∀ q ∈ c.2, decode cX3_allFell q.1 = .ok (q.2.1, q.2.2.1) := by decide +kernel
set_option maxRecDepth 100000 in
theorem dk_29 : ∀ c ∈ cd_29, ∀ q ∈ c.2, decode cX3_allHeads q.1 = .ok (q.2.1, q.2.2.1) := by decide +kernel
set_option maxRecDepth 100000 in
theorem dk_30 : ∀ c ∈ cd_30, ∀ q ∈ c.2, decode cX3_allWater q.1 = .ok (q.2.1, q.2.2.1) := by decide +kernel
set_option maxRecDepth 100000 in
theorem dk_31 : ∀ c ∈ cd_31, ∀ q ∈ c.2, decode cX3_copyFrom q.1 = .ok (q.2.1, q.2.2.1) := by decide +kernel
set_option maxRecDepth 100000 in
theorem dk_32 : ∀ c ∈ cd_32, ∀ q ∈ c.2, decode cX3_fieldsOf q.1 = .ok (q.2.1, q.2.2.1) := by decide +kernel
set_option maxRecDepth 100000 in
theorem dk_33 : ∀ c ∈ cd_33, ∀ q ∈ c.2, decode cX3_groupAt q.1 = .ok (q.2.1, q.2.2.1) := by decide +kernel
set_option maxRecDepth 100000 in
theorem dk_34 : ∀ c ∈ cd_34, ∀ q ∈ c.2, decode cX3_headsOn q.1 = .ok (q.2.1, q.2.2.1) := by decide +kernel
set_option maxRecDepth 100000 in
theorem dk_35 : ∀ c ∈ cd_35, ∀ q ∈ c.2, decode cX3_hour q.1 = .ok (q.2.1, q.2.2.1) := by decide +kernel
set_option maxRecDepth 100000 in
theorem dk_36 : ∀ c ∈ cd_36, ∀ q ∈ c.2, decode cX3_late q.1 = .ok (q.2.1, q.2.2.1) := by decide +kernel
set_option maxRecDepth 100000 in
theorem dk_37 : ∀ c ∈ cd_37, ∀ q ∈ c.2, decode cX3_straysNotFound q.1 = .ok (q.2.1, q.2.2.1) := by decide +kernel
set_option maxRecDepth 100000 in
theorem dk_38 : ∀ c ∈ cd_38, ∀ q ∈ c.2, decode cX4_begin q.1 = .ok (q.2.1, q.2.2.1) := by decide +kernel
set_option maxRecDepth 100000 in
theorem dk_39 : ∀ c ∈ cd_39, ∀ q ∈ c.2, decode cX4_choose q.1 = .ok (q.2.1, q.2.2.1) := by decide +kernel
set_option maxRecDepth 100000 in
theorem dk_40 : ∀ c ∈ cd_40, ∀ q ∈ c.2, decode cX4_firstOver q.1 = .ok (q.2.1, q.2.2.1) := by decide +kernel
set_option maxRecDepth 100000 in
theorem dk_41 : ∀ c ∈ cd_41, ∀ q ∈ c.2, decode cX4_mostIn q.1 = .ok (q.2.1, q.2.2.1) := by decide +kernel
set_option maxRecDepth 100000 in
theorem dk_42 : ∀ c ∈ cd_42, ∀ q ∈ c.2, decode cX4_solve q.1 = .ok (q.2.1, q.2.2.1) := by decide +kernel
set_option maxRecDepth 100000 in
theorem dk_43 : ∀ c ∈ cd_43, ∀ q ∈ c.2, decode cX5_become q.1 = .ok (q.2.1, q.2.2.1) := by decide +kernel
set_option maxRecDepth 100000 in
theorem dk_44 : ∀ c ∈ cd_44, ∀ q ∈ c.2, decode cX5_hasPlaces q.1 = .ok (q.2.1, q.2.2.1) := by decide +kernel
set_option maxRecDepth 100000 in
theorem dk_45 : ∀ c ∈ cd_45, ∀ q ∈ c.2, decode cX5_holdBody q.1 = .ok (q.2.1, q.2.2.1) := by decide +kernel
set_option maxRecDepth 100000 in
theorem dk_46 : ∀ c ∈ cd_46, ∀ q ∈ c.2, decode cX5_holdRow q.1 = .ok (q.2.1, q.2.2.1) := by decide +kernel
set_option maxRecDepth 100000 in
theorem dk_47 : ∀ c ∈ cd_47, ∀ q ∈ c.2, decode cX6_faultOf q.1 = .ok (q.2.1, q.2.2.1) := by decide +kernel
set_option maxRecDepth 100000 in
theorem dk_48 : ∀ c ∈ cd_48, ∀ q ∈ c.2, decode cX6_isDigit q.1 = .ok (q.2.1, q.2.2.1) := by decide +kernel
set_option maxRecDepth 100000 in
theorem dk_49 : ∀ c ∈ cd_49, ∀ q ∈ c.2, decode cX6_isTrue q.1 = .ok (q.2.1, q.2.2.1) := by decide +kernel
set_option maxRecDepth 100000 in
theorem dk_50 : ∀ c ∈ cd_50, ∀ q ∈ c.2, decode cX6_joined q.1 = .ok (q.2.1, q.2.2.1) := by decide +kernel
set_option maxRecDepth 100000 in
theorem dk_51 : ∀ c ∈ cd_51, ∀ q ∈ c.2, decode cX6_keepAs q.1 = .ok (q.2.1, q.2.2.1) := by decide +kernel
set_option maxRecDepth 100000 in
theorem dk_52 : ∀ c ∈ cd_52, ∀ q ∈ c.2, decode cX6_make q.1 = .ok (q.2.1, q.2.2.1) := by decide +kernel
set_option maxRecDepth 100000 in
theorem dk_53 : ∀ c ∈ cd_53, ∀ q ∈ c.2, decode cX6_next q.1 = .ok (q.2.1, q.2.2.1) := by decide +kernel
set_option maxRecDepth 100000 in
theorem dk_54 : ∀ c ∈ cd_54, ∀ q ∈ c.2, decode cX6_readAnd q.1 = .ok (q.2.1, q.2.2.1) := by decide +kernel
set_option maxRecDepth 100000 in
theorem dk_55 : ∀ c ∈ cd_55, ∀ q ∈ c.2, decode cX6_readAtom q.1 = .ok (q.2.1, q.2.2.1) := by decide +kernel
set_option maxRecDepth 100000 in
theorem dk_56 : ∀ c ∈ cd_56, ∀ q ∈ c.2, decode cX6_readOr q.1 = .ok (q.2.1, q.2.2.1) := by decide +kernel
set_option maxRecDepth 100000 in
theorem dk_57 : ∀ c ∈ cd_57, ∀ q ∈ c.2, decode cX6_readSum q.1 = .ok (q.2.1, q.2.2.1) := by decide +kernel
set_option maxRecDepth 100000 in
theorem dk_58 : ∀ c ∈ cd_58, ∀ q ∈ c.2, decode cX6_readTest q.1 = .ok (q.2.1, q.2.2.1) := by decide +kernel
set_option maxRecDepth 100000 in
theorem dk_59 : ∀ c ∈ cd_59, ∀ q ∈ c.2, decode cX6_takeIf q.1 = .ok (q.2.1, q.2.2.1) := by decide +kernel
set_option maxRecDepth 100000 in
theorem dk_60 : ∀ c ∈ cd_60, ∀ q ∈ c.2, decode cX7_add q.1 = .ok (q.2.1, q.2.2.1) := by decide +kernel
set_option maxRecDepth 100000 in
theorem dk_61 : ∀ c ∈ cd_61, ∀ q ∈ c.2, decode cX7_copyFrom q.1 = .ok (q.2.1, q.2.2.1) := by decide +kernel
set_option maxRecDepth 100000 in
theorem dk_62 : ∀ c ∈ cd_62, ∀ q ∈ c.2, decode cX7_holdingIn q.1 = .ok (q.2.1, q.2.2.1) := by decide +kernel
set_option maxRecDepth 100000 in
theorem dk_63 : ∀ c ∈ cd_63, ∀ q ∈ c.2, decode cX7_lastMinute q.1 = .ok (q.2.1, q.2.2.1) := by decide +kernel
set_option maxRecDepth 100000 in
theorem dk_64 : ∀ c ∈ cd_64, ∀ q ∈ c.2, decode cX8_choose q.1 = .ok (q.2.1, q.2.2.1) := by decide +kernel
set_option maxRecDepth 100000 in
theorem dk_65 : ∀ c ∈ cd_65, ∀ q ∈ c.2, decode cX8_gather q.1 = .ok (q.2.1, q.2.2.1) := by decide +kernel
set_option maxRecDepth 100000 in
theorem dk_66 : ∀ c ∈ cd_66, ∀ q ∈ c.2, decode cX8_hasTwinAhead q.1 = .ok (q.2.1, q.2.2.1) := by decide +kernel
set_option maxRecDepth 100000 in
theorem dk_67 : ∀ c ∈ cd_67, ∀ q ∈ c.2, decode cX8_keepChosen q.1 = .ok (q.2.1, q.2.2.1) := by decide +kernel
set_option maxRecDepth 100000 in
theorem dk_68 : ∀ c ∈ cd_68, ∀ q ∈ c.2, decode cX8_rideOf q.1 = .ok (q.2.1, q.2.2.1) := by decide +kernel
set_option maxRecDepth 100000 in
theorem dk_69 : ∀ c ∈ cd_69, ∀ q ∈ c.2, decode cX8_solve q.1 = .ok (q.2.1, q.2.2.1) := by decide +kernel
set_option maxRecDepth 100000 in
theorem dk_70 : ∀ c ∈ cd_70, ∀ q ∈ c.2, decode cX9_add q.1 = .ok (q.2.1, q.2.2.1) := by decide +kernel
set_option maxRecDepth 100000 in
theorem dk_71 : ∀ c ∈ cd_71, ∀ q ∈ c.2, decode cX9_areNeighbours q.1 = .ok (q.2.1, q.2.2.1) := by decide +kernel
set_option maxRecDepth 100000 in
theorem dk_72 : ∀ c ∈ cd_72, ∀ q ∈ c.2, decode cX9_changeSign q.1 = .ok (q.2.1, q.2.2.1) := by decide +kernel
set_option maxRecDepth 100000 in
theorem dk_73 : ∀ c ∈ cd_73, ∀ q ∈ c.2, decode cX9_copyFrom q.1 = .ok (q.2.1, q.2.2.1) := by decide +kernel
set_option maxRecDepth 100000 in
theorem dk_74 : ∀ c ∈ cd_74, ∀ q ∈ c.2, decode cX9_endFrom q.1 = .ok (q.2.1, q.2.2.1) := by decide +kernel
set_option maxRecDepth 100000 in
theorem dk_75 : ∀ c ∈ cd_75, ∀ q ∈ c.2, decode cX9_greatest q.1 = .ok (q.2.1, q.2.2.1) := by decide +kernel
set_option maxRecDepth 100000 in
theorem dk_76 : ∀ c ∈ cd_76, ∀ q ∈ c.2, decode cX9_leastFrom q.1 = .ok (q.2.1, q.2.2.1) := by decide +kernel
set_option maxRecDepth 100000 in
theorem dk_77 : ∀ c ∈ cd_77, ∀ q ∈ c.2, decode cX9_reckon q.1 = .ok (q.2.1, q.2.2.1) := by decide +kernel
set_option maxRecDepth 100000 in
theorem dk_78 : ∀ c ∈ cd_78, ∀ q ∈ c.2, decode cX9_shorten q.1 = .ok (q.2.1, q.2.2.1) := by decide +kernel
set_option maxRecDepth 100000 in
theorem dk_79 : ∀ c ∈ cd_79, ∀ q ∈ c.2, decode cX9_shortenOver q.1 = .ok (q.2.1, q.2.2.1) := by decide +kernel
set_option maxRecDepth 100000 in
theorem dk_80 : ∀ c ∈ cd_80, ∀ q ∈ c.2, decode cX9_touches q.1 = .ok (q.2.1, q.2.2.1) := by decide +kernel
set_option maxRecDepth 100000 in
theorem dk_81 : ∀ c ∈ cd_81, ∀ q ∈ c.2, decode cX10_about q.1 = .ok (q.2.1, q.2.2.1) := by decide +kernel
set_option maxRecDepth 100000 in
theorem dk_82 : ∀ c ∈ cd_82, ∀ q ∈ c.2, decode cX10_aim q.1 = .ok (q.2.1, q.2.2.1) := by decide +kernel
set_option maxRecDepth 100000 in
theorem dk_83 : ∀ c ∈ cd_83, ∀ q ∈ c.2, decode cX10_areFirstGroups q.1 = .ok (q.2.1, q.2.2.1) := by decide +kernel
set_option maxRecDepth 100000 in
theorem dk_84 : ∀ c ∈ cd_84, ∀ q ∈ c.2, decode cX10_best q.1 = .ok (q.2.1, q.2.2.1) := by decide +kernel
set_option maxRecDepth 100000 in
theorem dk_85 : ∀ c ∈ cd_85, ∀ q ∈ c.2, decode cX10_body q.1 = .ok (q.2.1, q.2.2.1) := by decide +kernel
set_option maxRecDepth 100000 in
theorem dk_86 : ∀ c ∈ cd_86, ∀ q ∈ c.2, decode cX10_bodyRefusal q.1 = .ok (q.2.1, q.2.2.1) := by decide +kernel
set_option maxRecDepth 100000 in
theorem dk_87 : ∀ c ∈ cd_87, ∀ q ∈ c.2, decode cX10_bring q.1 = .ok (q.2.1, q.2.2.1) := by decide +kernel
set_option maxRecDepth 100000 in
theorem dk_88 : ∀ c ∈ cd_88, ∀ q ∈ c.2, decode cX10_canBe q.1 = .ok (q.2.1, q.2.2.1) := by decide +kernel
set_option maxRecDepth 100000 in
theorem dk_89 : ∀ c ∈ cd_89, ∀ q ∈ c.2, decode cX10_carry q.1 = .ok (q.2.1, q.2.2.1) := by decide +kernel
set_option maxRecDepth 100000 in
theorem dk_90 : ∀ c ∈ cd_90, ∀ q ∈ c.2, decode cX10_cell q.1 = .ok (q.2.1, q.2.2.1) := by decide +kernel
set_option maxRecDepth 100000 in
theorem dk_91 : ∀ c ∈ cd_91, ∀ q ∈ c.2, decode cX10_closes q.1 = .ok (q.2.1, q.2.2.1) := by decide +kernel
set_option maxRecDepth 100000 in
theorem dk_92 : ∀ c ∈ cd_92, ∀ q ∈ c.2, decode cX10_comes q.1 = .ok (q.2.1, q.2.2.1) := by decide +kernel
set_option maxRecDepth 100000 in
theorem dk_93 : ∀ c ∈ cd_93, ∀ q ∈ c.2, decode cX10_copy q.1 = .ok (q.2.1, q.2.2.1) := by decide +kernel
set_option maxRecDepth 100000 in
theorem dk_94 : ∀ c ∈ cd_94, ∀ q ∈ c.2, decode cX10_count q.1 = .ok (q.2.1, q.2.2.1) := by decide +kernel
set_option maxRecDepth 100000 in
theorem dk_95 : ∀ c ∈ cd_95, ∀ q ∈ c.2, decode cX10_counterRefusal q.1 = .ok (q.2.1, q.2.2.1) := by decide +kernel
set_option maxRecDepth 100000 in
theorem dk_96 : ∀ c ∈ cd_96, ∀ q ∈ c.2, decode cX10_far q.1 = .ok (q.2.1, q.2.2.1) := by decide +kernel
set_option maxRecDepth 100000 in
theorem dk_97 : ∀ c ∈ cd_97, ∀ q ∈ c.2, decode cX10_fault q.1 = .ok (q.2.1, q.2.2.1) := by decide +kernel
set_option maxRecDepth 100000 in
theorem dk_98 : ∀ c ∈ cd_98, ∀ q ∈ c.2, decode cX10_force q.1 = .ok (q.2.1, q.2.2.1) := by decide +kernel
set_option maxRecDepth 100000 in
theorem dk_99 : ∀ c ∈ cd_99, ∀ q ∈ c.2, decode cX10_found q.1 = .ok (q.2.1, q.2.2.1) := by decide +kernel
set_option maxRecDepth 100000 in
theorem dk_100 : ∀ c ∈ cd_100, ∀ q ∈ c.2, decode cX10_go q.1 = .ok (q.2.1, q.2.2.1) := by decide +kernel
set_option maxRecDepth 100000 in
theorem dk_101 : ∀ c ∈ cd_101, ∀ q ∈ c.2, decode cX10_group q.1 = .ok (q.2.1, q.2.2.1) := by decide +kernel
set_option maxRecDepth 100000 in
theorem dk_102 : ∀ c ∈ cd_102, ∀ q ∈ c.2, decode cX10_heat q.1 = .ok (q.2.1, q.2.2.1) := by decide +kernel
set_option maxRecDepth 100000 in
theorem dk_103 : ∀ c ∈ cd_103, ∀ q ∈ c.2, decode cX10_holds q.1 = .ok (q.2.1, q.2.2.1) := by decide +kernel
set_option maxRecDepth 100000 in
theorem dk_104 : ∀ c ∈ cd_104, ∀ q ∈ c.2, decode cX10_image q.1 = .ok (q.2.1, q.2.2.1) := by decide +kernel
set_option maxRecDepth 100000 in
theorem dk_105 : ∀ c ∈ cd_105, ∀ q ∈ c.2, decode cX10_isBody q.1 = .ok (q.2.1, q.2.2.1) := by decide +kernel
set_option maxRecDepth 100000 in
theorem dk_106 : ∀ c ∈ cd_106, ∀ q ∈ c.2, decode cX10_isCell q.1 = .ok (q.2.1, q.2.2.1) := by decide +kernel
set_option maxRecDepth 100000 in
theorem dk_107 : ∀ c ∈ cd_107, ∀ q ∈ c.2, decode cX10_isFound q.1 = .ok (q.2.1, q.2.2.1) := by decide +kernel
set_option maxRecDepth 100000 in
theorem dk_108 : ∀ c ∈ cd_108, ∀ q ∈ c.2, decode cX10_isGate q.1 = .ok (q.2.1, q.2.2.1) := by decide +kernel
set_option maxRecDepth 100000 in
theorem dk_109 : ∀ c ∈ cd_109, ∀ q ∈ c.2, decode cX10_isMinute q.1 = .ok (q.2.1, q.2.2.1) := by decide +kernel
set_option maxRecDepth 100000 in
theorem dk_110 : ∀ c ∈ cd_110, ∀ q ∈ c.2, decode cX10_isOfKind q.1 = .ok (q.2.1, q.2.2.1) := by decide +kernel
set_option maxRecDepth 100000 in
theorem dk_111 : ∀ c ∈ cd_111, ∀ q ∈ c.2, decode cX10_isRite q.1 = .ok (q.2.1, q.2.2.1) := by decide +kernel
set_option maxRecDepth 100000 in
theorem dk_112 : ∀ c ∈ cd_112, ∀ q ∈ c.2, decode cX10_isShelf q.1 = .ok (q.2.1, q.2.2.1) := by decide +kernel
set_option maxRecDepth 100000 in
theorem dk_113 : ∀ c ∈ cd_113, ∀ q ∈ c.2, decode cX10_isSign q.1 = .ok (q.2.1, q.2.2.1) := by decide +kernel
set_option maxRecDepth 100000 in
theorem dk_114 : ∀ c ∈ cd_114, ∀ q ∈ c.2, decode cX10_isText q.1 = .ok (q.2.1, q.2.2.1) := by decide +kernel
set_option maxRecDepth 100000 in
theorem dk_115 : ∀ c ∈ cd_115, ∀ q ∈ c.2, decode cX10_isWay q.1 = .ok (q.2.1, q.2.2.1) := by decide +kernel
set_option maxRecDepth 100000 in
theorem dk_116 : ∀ c ∈ cd_116, ∀ q ∈ c.2, decode cX10_judge q.1 = .ok (q.2.1, q.2.2.1) := by decide +kernel
set_option maxRecDepth 100000 in
theorem dk_117 : ∀ c ∈ cd_117, ∀ q ∈ c.2, decode cX10_keep q.1 = .ok (q.2.1, q.2.2.1) := by decide +kernel
set_option maxRecDepth 100000 in
theorem dk_118 : ∀ c ∈ cd_118, ∀ q ∈ c.2, decode cX10_leastOrNone q.1 = .ok (q.2.1, q.2.2.1) := by decide +kernel
set_option maxRecDepth 100000 in
theorem dk_119 : ∀ c ∈ cd_119, ∀ q ∈ c.2, decode cX10_post q.1 = .ok (q.2.1, q.2.2.1) := by decide +kernel
set_option maxRecDepth 100000 in
theorem dk_120 : ∀ c ∈ cd_120, ∀ q ∈ c.2, decode cX10_pushed q.1 = .ok (q.2.1, q.2.2.1) := by decide +kernel
set_option maxRecDepth 100000 in
theorem dk_121 : ∀ c ∈ cd_121, ∀ q ∈ c.2, decode cX10_put q.1 = .ok (q.2.1, q.2.2.1) := by decide +kernel
set_option maxRecDepth 100000 in
theorem dk_122 : ∀ c ∈ cd_122, ∀ q ∈ c.2, decode cX10_record q.1 = .ok (q.2.1, q.2.2.1) := by decide +kernel
set_option maxRecDepth 100000 in
theorem dk_123 : ∀ c ∈ cd_123, ∀ q ∈ c.2, decode cX10_restore q.1 = .ok (q.2.1, q.2.2.1) := by decide +kernel
set_option maxRecDepth 100000 in
theorem dk_124 : ∀ c ∈ cd_124, ∀ q ∈ c.2, decode cX10_rides q.1 = .ok (q.2.1, q.2.2.1) := by decide +kernel
set_option maxRecDepth 100000 in
theorem dk_125 : ∀ c ∈ cd_125, ∀ q ∈ c.2, decode cX10_riteStands q.1 = .ok (q.2.1, q.2.2.1) := by decide +kernel
set_option maxRecDepth 100000 in
theorem dk_126 : ∀ c ∈ cd_126, ∀ q ∈ c.2, decode cX10_round q.1 = .ok (q.2.1, q.2.2.1) := by decide +kernel
set_option maxRecDepth 100000 in
theorem dk_127 : ∀ c ∈ cd_127, ∀ q ∈ c.2, decode cX10_row q.1 = .ok (q.2.1, q.2.2.1) := by decide +kernel
set_option maxRecDepth 100000 in
theorem dk_128 : ∀ c ∈ cd_128, ∀ q ∈ c.2, decode cX10_rowRefusal q.1 = .ok (q.2.1, q.2.2.1) := by decide +kernel
set_option maxRecDepth 100000 in
theorem dk_129 : ∀ c ∈ cd_129, ∀ q ∈ c.2, decode cX10_schools q.1 = .ok (q.2.1, q.2.2.1) := by decide +kernel
set_option maxRecDepth 100000 in
theorem dk_130 : ∀ c ∈ cd_130, ∀ q ∈ c.2, decode cX10_sign q.1 = .ok (q.2.1, q.2.2.1) := by decide +kernel
set_option maxRecDepth 100000 in
theorem dk_131 : ∀ c ∈ cd_131, ∀ q ∈ c.2, decode cX10_slot q.1 = .ok (q.2.1, q.2.2.1) := by decide +kernel
set_option maxRecDepth 100000 in
theorem dk_132 : ∀ c ∈ cd_132, ∀ q ∈ c.2, decode cX10_stands q.1 = .ok (q.2.1, q.2.2.1) := by decide +kernel
set_option maxRecDepth 100000 in
theorem dk_133 : ∀ c ∈ cd_133, ∀ q ∈ c.2, decode cX10_stray q.1 = .ok (q.2.1, q.2.2.1) := by decide +kernel
set_option maxRecDepth 100000 in
theorem dk_134 : ∀ c ∈ cd_134, ∀ q ∈ c.2, decode cX10_sure q.1 = .ok (q.2.1, q.2.2.1) := by decide +kernel
set_option maxRecDepth 100000 in
theorem dk_135 : ∀ c ∈ cd_135, ∀ q ∈ c.2, decode cX10_text q.1 = .ok (q.2.1, q.2.2.1) := by decide +kernel
set_option maxRecDepth 100000 in
theorem dk_136 : ∀ c ∈ cd_136, ∀ q ∈ c.2, decode cX10_unaim q.1 = .ok (q.2.1, q.2.2.1) := by decide +kernel
set_option maxRecDepth 100000 in
theorem dk_137 : ∀ c ∈ cd_137, ∀ q ∈ c.2, decode cX10_was q.1 = .ok (q.2.1, q.2.2.1) := by decide +kernel
set_option maxRecDepth 100000 in
theorem dk_138 : ∀ c ∈ cd_138, ∀ q ∈ c.2, decode cX10_water q.1 = .ok (q.2.1, q.2.2.1) := by decide +kernel
set_option maxRecDepth 100000 in
theorem dk_139 : ∀ c ∈ cd_139, ∀ q ∈ c.2, decode cX10_wave q.1 = .ok (q.2.1, q.2.2.1) := by decide +kernel
set_option maxRecDepth 100000 in
theorem dk_140 : ∀ c ∈ cd_140, ∀ q ∈ c.2, decode cX10_way q.1 = .ok (q.2.1, q.2.2.1) := by decide +kernel
set_option maxRecDepth 100000 in
theorem dk_141 : ∀ c ∈ cd_141, ∀ q ∈ c.2, decode cX10_weight q.1 = .ok (q.2.1, q.2.2.1) := by decide +kernel
set_option maxRecDepth 100000 in
theorem dk_142 : ∀ c ∈ cd_142, ∀ q ∈ c.2, decode cX10_whose q.1 = .ok (q.2.1, q.2.2.1) := by decide +kernel
set_option maxRecDepth 100000 in
theorem dk_143 : ∀ c ∈ cd_143, ∀ q ∈ c.2, decode cX10_within q.1 = .ok (q.2.1, q.2.2.1) := by decide +kernel
set_option maxRecDepth 100000 in
theorem dk_144 : ∀ c ∈ cd_144, ∀ q ∈ c.2, decode cX10_worst q.1 = .ok (q.2.1, q.2.2.1) := by decide +kernel
set_option maxRecDepth 100000 in
theorem dk_145 : ∀ c ∈ cd_145, ∀ q ∈ c.2, decode cX10_worstInMind q.1 = .ok (q.2.1, q.2.2.1) := by decide +kernel
set_option maxRecDepth 100000 in
theorem dk_146 : ∀ c ∈ cd_146, ∀ q ∈ c.2, decode cX10_wrong q.1 = .ok (q.2.1, q.2.2.1) := by decide +kernel
set_option maxRecDepth 100000 in
theorem dk_147 : ∀ c ∈ cd_147, ∀ q ∈ c.2, decode cX11_about q.1 = .ok (q.2.1, q.2.2.1) := by decide +kernel
set_option maxRecDepth 100000 in
theorem dk_148 : ∀ c ∈ cd_148, ∀ q ∈ c.2, decode cX11_add q.1 = .ok (q.2.1, q.2.2.1) := by decide +kernel
set_option maxRecDepth 100000 in
theorem dk_149 : ∀ c ∈ cd_149, ∀ q ∈ c.2, decode cX11_aim q.1 = .ok (q.2.1, q.2.2.1) := by decide +kernel
set_option maxRecDepth 100000 in
theorem dk_150 : ∀ c ∈ cd_150, ∀ q ∈ c.2, decode cX11_aimOf q.1 = .ok (q.2.1, q.2.2.1) := by decide +kernel
set_option maxRecDepth 100000 in
theorem dk_151 : ∀ c ∈ cd_151, ∀ q ∈ c.2, decode cX11_best q.1 = .ok (q.2.1, q.2.2.1) := by decide +kernel
set_option maxRecDepth 100000 in
theorem dk_152 : ∀ c ∈ cd_152, ∀ q ∈ c.2, decode cX11_body q.1 = .ok (q.2.1, q.2.2.1) := by decide +kernel
set_option maxRecDepth 100000 in
theorem dk_153 : ∀ c ∈ cd_153, ∀ q ∈ c.2, decode cX11_bring q.1 = .ok (q.2.1, q.2.2.1) := by decide +kernel
set_option maxRecDepth 100000 in
theorem dk_154 : ∀ c ∈ cd_154, ∀ q ∈ c.2, decode cX11_canBe q.1 = .ok (q.2.1, q.2.2.1) := by decide +kernel
set_option maxRecDepth 100000 in
theorem dk_155 : ∀ c ∈ cd_155, ∀ q ∈ c.2, decode cX11_carry q.1 = .ok (q.2.1, q.2.2.1) := by decide +kernel
set_option maxRecDepth 100000 in
theorem dk_156 : ∀ c ∈ cd_156, ∀ q ∈ c.2, decode cX11_cell q.1 = .ok (q.2.1, q.2.2.1) := by decide +kernel
set_option maxRecDepth 100000 in
theorem dk_157 : ∀ c ∈ cd_157, ∀ q ∈ c.2, decode cX11_closes q.1 = .ok (q.2.1, q.2.2.1) := by decide +kernel
set_option maxRecDepth 100000 in
theorem dk_158 : ∀ c ∈ cd_158, ∀ q ∈ c.2, decode cX11_comes q.1 = .ok (q.2.1, q.2.2.1) := by decide +kernel
set_option maxRecDepth 100000 in
theorem dk_159 : ∀ c ∈ cd_159, ∀ q ∈ c.2, decode cX11_copy q.1 = .ok (q.2.1, q.2.2.1) := by decide +kernel
set_option maxRecDepth 100000 in
theorem dk_160 : ∀ c ∈ cd_160, ∀ q ∈ c.2, decode cX11_count q.1 = .ok (q.2.1, q.2.2.1) := by decide +kernel
set_option maxRecDepth 100000 in
theorem dk_161 : ∀ c ∈ cd_161, ∀ q ∈ c.2, decode cX11_element q.1 = .ok (q.2.1, q.2.2.1) := by decide +kernel
set_option maxRecDepth 100000 in
theorem dk_162 : ∀ c ∈ cd_162, ∀ q ∈ c.2, decode cX11_fall q.1 = .ok (q.2.1, q.2.2.1) := by decide +kernel
set_option maxRecDepth 100000 in
theorem dk_163 : ∀ c ∈ cd_163, ∀ q ∈ c.2, decode cX11_far q.1 = .ok (q.2.1, q.2.2.1) := by decide +kernel
set_option maxRecDepth 100000 in
theorem dk_164 : ∀ c ∈ cd_164, ∀ q ∈ c.2, decode cX11_fault q.1 = .ok (q.2.1, q.2.2.1) := by decide +kernel
set_option maxRecDepth 100000 in
theorem dk_165 : ∀ c ∈ cd_165, ∀ q ∈ c.2, decode cX11_faultOf q.1 = .ok (q.2.1, q.2.2.1) := by decide +kernel
set_option maxRecDepth 100000 in
theorem dk_166 : ∀ c ∈ cd_166, ∀ q ∈ c.2, decode cX11_field q.1 = .ok (q.2.1, q.2.2.1) := by decide +kernel
set_option maxRecDepth 100000 in
theorem dk_167 : ∀ c ∈ cd_167, ∀ q ∈ c.2, decode cX11_findFar q.1 = .ok (q.2.1, q.2.2.1) := by decide +kernel
set_option maxRecDepth 100000 in
theorem dk_168 : ∀ c ∈ cd_168, ∀ q ∈ c.2, decode cX11_findHeads q.1 = .ok (q.2.1, q.2.2.1) := by decide +kernel
set_option maxRecDepth 100000 in
theorem dk_169 : ∀ c ∈ cd_169, ∀ q ∈ c.2, decode cX11_findRound q.1 = .ok (q.2.1, q.2.2.1) := by decide +kernel
set_option maxRecDepth 100000 in
theorem dk_170 : ∀ c ∈ cd_170, ∀ q ∈ c.2, decode cX11_findWave q.1 = .ok (q.2.1, q.2.2.1) := by decide +kernel
set_option maxRecDepth 100000 in
theorem dk_171 : ∀ c ∈ cd_171, ∀ q ∈ c.2, decode cX11_force q.1 = .ok (q.2.1, q.2.2.1) := by decide +kernel
set_option maxRecDepth 100000 in
theorem dk_172 : ∀ c ∈ cd_172, ∀ q ∈ c.2, decode cX11_found q.1 = .ok (q.2.1, q.2.2.1) := by decide +kernel
set_option maxRecDepth 100000 in
theorem dk_173 : ∀ c ∈ cd_173, ∀ q ∈ c.2, decode cX11_go q.1 = .ok (q.2.1, q.2.2.1) := by decide +kernel
set_option maxRecDepth 100000 in
theorem dk_174 : ∀ c ∈ cd_174, ∀ q ∈ c.2, decode cX11_goOn q.1 = .ok (q.2.1, q.2.2.1) := by decide +kernel
set_option maxRecDepth 100000 in
theorem dk_175 : ∀ c ∈ cd_175, ∀ q ∈ c.2, decode cX11_group q.1 = .ok (q.2.1, q.2.2.1) := by decide +kernel
set_option maxRecDepth 100000 in
theorem dk_176 : ∀ c ∈ cd_176, ∀ q ∈ c.2, decode cX11_groups q.1 = .ok (q.2.1, q.2.2.1) := by decide +kernel
set_option maxRecDepth 100000 in
theorem dk_177 : ∀ c ∈ cd_177, ∀ q ∈ c.2, decode cX11_headsOn q.1 = .ok (q.2.1, q.2.2.1) := by decide +kernel
set_option maxRecDepth 100000 in
theorem dk_178 : ∀ c ∈ cd_178, ∀ q ∈ c.2, decode cX11_heat q.1 = .ok (q.2.1, q.2.2.1) := by decide +kernel
set_option maxRecDepth 100000 in
theorem dk_179 : ∀ c ∈ cd_179, ∀ q ∈ c.2, decode cX11_here q.1 = .ok (q.2.1, q.2.2.1) := by decide +kernel
set_option maxRecDepth 100000 in
theorem dk_180 : ∀ c ∈ cd_180, ∀ q ∈ c.2, decode cX11_holds q.1 = .ok (q.2.1, q.2.2.1) := by decide +kernel
set_option maxRecDepth 100000 in
theorem dk_181 : ∀ c ∈ cd_181, ∀ q ∈ c.2, decode cX11_holdsFor q.1 = .ok (q.2.1, q.2.2.1) := by decide +kernel
set_option maxRecDepth 100000 in
theorem dk_182 : ∀ c ∈ cd_182, ∀ q ∈ c.2, decode cX11_hourNow q.1 = .ok (q.2.1, q.2.2.1) := by decide +kernel
set_option maxRecDepth 100000 in
theorem dk_183 : ∀ c ∈ cd_183, ∀ q ∈ c.2, decode cX11_image q.1 = .ok (q.2.1, q.2.2.1) := by decide +kernel
set_option maxRecDepth 100000 in
theorem dk_184 : ∀ c ∈ cd_184, ∀ q ∈ c.2, decode cX11_in q.1 = .ok (q.2.1, q.2.2.1) := by decide +kernel
set_option maxRecDepth 100000 in
theorem dk_185 : ∀ c ∈ cd_185, ∀ q ∈ c.2, decode cX11_isBody q.1 = .ok (q.2.1, q.2.2.1) := by decide +kernel
set_option maxRecDepth 100000 in
theorem dk_186 : ∀ c ∈ cd_186, ∀ q ∈ c.2, decode cX11_isCell q.1 = .ok (q.2.1, q.2.2.1) := by decide +kernel
set_option maxRecDepth 100000 in
theorem dk_187 : ∀ c ∈ cd_187, ∀ q ∈ c.2, decode cX11_isField q.1 = .ok (q.2.1, q.2.2.1) := by decide +kernel
set_option maxRecDepth 100000 in
theorem dk_188 : ∀ c ∈ cd_188, ∀ q ∈ c.2, decode cX11_isFound q.1 = .ok (q.2.1, q.2.2.1) := by decide +kernel
set_option maxRecDepth 100000 in
theorem dk_189 : ∀ c ∈ cd_189, ∀ q ∈ c.2, decode cX11_isGroup q.1 = .ok (q.2.1, q.2.2.1) := by decide +kernel
set_option maxRecDepth 100000 in
theorem dk_190 : ∀ c ∈ cd_190, ∀ q ∈ c.2, decode cX11_isRound q.1 = .ok (q.2.1, q.2.2.1) := by decide +kernel
set_option maxRecDepth 100000 in
theorem dk_191 : ∀ c ∈ cd_191, ∀ q ∈ c.2, decode cX11_isStray q.1 = .ok (q.2.1, q.2.2.1) := by decide +kernel
set_option maxRecDepth 100000 in
theorem dk_192 : ∀ c ∈ cd_192, ∀ q ∈ c.2, decode cX11_isText q.1 = .ok (q.2.1, q.2.2.1) := by decide +kernel
set_option maxRecDepth 100000 in
theorem dk_193 : ∀ c ∈ cd_193, ∀ q ∈ c.2, decode cX11_isWay q.1 = .ok (q.2.1, q.2.2.1) := by decide +kernel
set_option maxRecDepth 100000 in
theorem dk_194 : ∀ c ∈ cd_194, ∀ q ∈ c.2, decode cX11_join q.1 = .ok (q.2.1, q.2.2.1) := by decide +kernel
set_option maxRecDepth 100000 in
theorem dk_195 : ∀ c ∈ cd_195, ∀ q ∈ c.2, decode cX11_judge q.1 = .ok (q.2.1, q.2.2.1) := by decide +kernel
set_option maxRecDepth 100000 in
theorem dk_196 : ∀ c ∈ cd_196, ∀ q ∈ c.2, decode cX11_keep q.1 = .ok (q.2.1, q.2.2.1) := by decide +kernel
set_option maxRecDepth 100000 in
theorem dk_197 : ∀ c ∈ cd_197, ∀ q ∈ c.2, decode cX11_lacks q.1 = .ok (q.2.1, q.2.2.1) := by decide +kernel
set_option maxRecDepth 100000 in
theorem dk_198 : ∀ c ∈ cd_198, ∀ q ∈ c.2, decode cX11_lateOf q.1 = .ok (q.2.1, q.2.2.1) := by decide +kernel
set_option maxRecDepth 100000 in
theorem dk_199 : ∀ c ∈ cd_199, ∀ q ∈ c.2, decode cX11_leads q.1 = .ok (q.2.1, q.2.2.1) := by decide +kernel
set_option maxRecDepth 100000 in
theorem dk_200 : ∀ c ∈ cd_200, ∀ q ∈ c.2, decode cX11_mostPress q.1 = .ok (q.2.1, q.2.2.1) := by decide +kernel
set_option maxRecDepth 100000 in
theorem dk_201 : ∀ c ∈ cd_201, ∀ q ∈ c.2, decode cX11_narrowed q.1 = .ok (q.2.1, q.2.2.1) := by decide +kernel
set_option maxRecDepth 100000 in
theorem dk_202 : ∀ c ∈ cd_202, ∀ q ∈ c.2, decode cX11_of q.1 = .ok (q.2.1, q.2.2.1) := by decide +kernel
set_option maxRecDepth 100000 in
theorem dk_203 : ∀ c ∈ cd_203, ∀ q ∈ c.2, decode cX11_other q.1 = .ok (q.2.1, q.2.2.1) := by decide +kernel
set_option maxRecDepth 100000 in
theorem dk_204 : ∀ c ∈ cd_204, ∀ q ∈ c.2, decode cX11_overSlot q.1 = .ok (q.2.1, q.2.2.1) := by decide +kernel
set_option maxRecDepth 100000 in
theorem dk_205 : ∀ c ∈ cd_205, ∀ q ∈ c.2, decode cX11_pass q.1 = .ok (q.2.1, q.2.2.1) := by decide +kernel
set_option maxRecDepth 100000 in
theorem dk_206 : ∀ c ∈ cd_206, ∀ q ∈ c.2, decode cX11_post q.1 = .ok (q.2.1, q.2.2.1) := by decide +kernel
set_option maxRecDepth 100000 in
theorem dk_207 : ∀ c ∈ cd_207, ∀ q ∈ c.2, decode cX11_press q.1 = .ok (q.2.1, q.2.2.1) := by decide +kernel
set_option maxRecDepth 100000 in
theorem dk_208 : ∀ c ∈ cd_208, ∀ q ∈ c.2, decode cX11_pushed q.1 = .ok (q.2.1, q.2.2.1) := by decide +kernel
set_option maxRecDepth 100000 in
theorem dk_209 : ∀ c ∈ cd_209, ∀ q ∈ c.2, decode cX11_put q.1 = .ok (q.2.1, q.2.2.1) := by decide +kernel
set_option maxRecDepth 100000 in
theorem dk_210 : ∀ c ∈ cd_210, ∀ q ∈ c.2, decode cX11_readAtom q.1 = .ok (q.2.1, q.2.2.1) := by decide +kernel
set_option maxRecDepth 100000 in
theorem dk_211 : ∀ c ∈ cd_211, ∀ q ∈ c.2, decode cX11_readSum q.1 = .ok (q.2.1, q.2.2.1) := by decide +kernel
set_option maxRecDepth 100000 in
theorem dk_212 : ∀ c ∈ cd_212, ∀ q ∈ c.2, decode cX11_readTest q.1 = .ok (q.2.1, q.2.2.1) := by decide +kernel
set_option maxRecDepth 100000 in
theorem dk_213 : ∀ c ∈ cd_213, ∀ q ∈ c.2, decode cX11_readText q.1 = .ok (q.2.1, q.2.2.1) := by decide +kernel
set_option maxRecDepth 100000 in
theorem dk_214 : ∀ c ∈ cd_214, ∀ q ∈ c.2, decode cX11_record q.1 = .ok (q.2.1, q.2.2.1) := by decide +kernel
set_option maxRecDepth 100000 in
theorem dk_215 : ∀ c ∈ cd_215, ∀ q ∈ c.2, decode cX11_recordNow q.1 = .ok (q.2.1, q.2.2.1) := by decide +kernel
set_option maxRecDepth 100000 in
theorem dk_216 : ∀ c ∈ cd_216, ∀ q ∈ c.2, decode cX11_restore q.1 = .ok (q.2.1, q.2.2.1) := by decide +kernel
set_option maxRecDepth 100000 in
theorem dk_217 : ∀ c ∈ cd_217, ∀ q ∈ c.2, decode cX11_rides q.1 = .ok (q.2.1, q.2.2.1) := by decide +kernel
set_option maxRecDepth 100000 in
theorem dk_218 : ∀ c ∈ cd_218, ∀ q ∈ c.2, decode cX11_rite q.1 = .ok (q.2.1, q.2.2.1) := by decide +kernel
set_option maxRecDepth 100000 in
theorem dk_219 : ∀ c ∈ cd_219, ∀ q ∈ c.2, decode cX11_round q.1 = .ok (q.2.1, q.2.2.1) := by decide +kernel
set_option maxRecDepth 100000 in
theorem dk_220 : ∀ c ∈ cd_220, ∀ q ∈ c.2, decode cX11_row q.1 = .ok (q.2.1, q.2.2.1) := by decide +kernel
set_option maxRecDepth 100000 in
theorem dk_221 : ∀ c ∈ cd_221, ∀ q ∈ c.2, decode cX11_schools q.1 = .ok (q.2.1, q.2.2.1) := by decide +kernel
set_option maxRecDepth 100000 in
theorem dk_222 : ∀ c ∈ cd_222, ∀ q ∈ c.2, decode cX11_seatsOf q.1 = .ok (q.2.1, q.2.2.1) := by decide +kernel
set_option maxRecDepth 100000 in
theorem dk_223 : ∀ c ∈ cd_223, ∀ q ∈ c.2, decode cX11_sign q.1 = .ok (q.2.1, q.2.2.1) := by decide +kernel
set_option maxRecDepth 100000 in
theorem dk_224 : ∀ c ∈ cd_224, ∀ q ∈ c.2, decode cX11_slot q.1 = .ok (q.2.1, q.2.2.1) := by decide +kernel
set_option maxRecDepth 100000 in
theorem dk_225 : ∀ c ∈ cd_225, ∀ q ∈ c.2, decode cX11_stands q.1 = .ok (q.2.1, q.2.2.1) := by decide +kernel
set_option maxRecDepth 100000 in
theorem dk_226 : ∀ c ∈ cd_226, ∀ q ∈ c.2, decode cX11_standsBy q.1 = .ok (q.2.1, q.2.2.1) := by decide +kernel
set_option maxRecDepth 100000 in
theorem dk_227 : ∀ c ∈ cd_227, ∀ q ∈ c.2, decode cX11_step q.1 = .ok (q.2.1, q.2.2.1) := by decide +kernel
set_option maxRecDepth 100000 in
theorem dk_228 : ∀ c ∈ cd_228, ∀ q ∈ c.2, decode cX11_stray q.1 = .ok (q.2.1, q.2.2.1) := by decide +kernel
set_option maxRecDepth 100000 in
theorem dk_229 : ∀ c ∈ cd_229, ∀ q ∈ c.2, decode cX11_sumOf q.1 = .ok (q.2.1, q.2.2.1) := by decide +kernel
set_option maxRecDepth 100000 in
theorem dk_230 : ∀ c ∈ cd_230, ∀ q ∈ c.2, decode cX11_sure q.1 = .ok (q.2.1, q.2.2.1) := by decide +kernel
set_option maxRecDepth 100000 in
theorem dk_231 : ∀ c ∈ cd_231, ∀ q ∈ c.2, decode cX11_tell q.1 = .ok (q.2.1, q.2.2.1) := by decide +kernel
set_option maxRecDepth 100000 in
theorem dk_232 : ∀ c ∈ cd_232, ∀ q ∈ c.2, decode cX11_testEnds q.1 = .ok (q.2.1, q.2.2.1) := by decide +kernel
set_option maxRecDepth 100000 in
theorem dk_233 : ∀ c ∈ cd_233, ∀ q ∈ c.2, decode cX11_text q.1 = .ok (q.2.1, q.2.2.1) := by decide +kernel
set_option maxRecDepth 100000 in
theorem dk_234 : ∀ c ∈ cd_234, ∀ q ∈ c.2, decode cX11_thrown q.1 = .ok (q.2.1, q.2.2.1) := by decide +kernel
set_option maxRecDepth 100000 in
theorem dk_235 : ∀ c ∈ cd_235, ∀ q ∈ c.2, decode cX11_topSign q.1 = .ok (q.2.1, q.2.2.1) := by decide +kernel
set_option maxRecDepth 100000 in
theorem dk_236 : ∀ c ∈ cd_236, ∀ q ∈ c.2, decode cX11_toss q.1 = .ok (q.2.1, q.2.2.1) := by decide +kernel
set_option maxRecDepth 100000 in
theorem dk_237 : ∀ c ∈ cd_237, ∀ q ∈ c.2, decode cX11_touch q.1 = .ok (q.2.1, q.2.2.1) := by decide +kernel
set_option maxRecDepth 100000 in
theorem dk_238 : ∀ c ∈ cd_238, ∀ q ∈ c.2, decode cX11_unaim q.1 = .ok (q.2.1, q.2.2.1) := by decide +kernel
set_option maxRecDepth 100000 in
theorem dk_239 : ∀ c ∈ cd_239, ∀ q ∈ c.2, decode cX11_walk q.1 = .ok (q.2.1, q.2.2.1) := by decide +kernel
set_option maxRecDepth 100000 in
theorem dk_240 : ∀ c ∈ cd_240, ∀ q ∈ c.2, decode cX11_warm q.1 = .ok (q.2.1, q.2.2.1) := by decide +kernel
set_option maxRecDepth 100000 in
theorem dk_241 : ∀ c ∈ cd_241, ∀ q ∈ c.2, decode cX11_was q.1 = .ok (q.2.1, q.2.2.1) := by decide +kernel
set_option maxRecDepth 100000 in
theorem dk_242 : ∀ c ∈ cd_242, ∀ q ∈ c.2, decode cX11_water q.1 = .ok (q.2.1, q.2.2.1) := by decide +kernel
set_option maxRecDepth 100000 in
theorem dk_243 : ∀ c ∈ cd_243, ∀ q ∈ c.2, decode cX11_wave q.1 = .ok (q.2.1, q.2.2.1) := by decide +kernel
set_option maxRecDepth 100000 in
theorem dk_244 : ∀ c ∈ cd_244, ∀ q ∈ c.2, decode cX11_way q.1 = .ok (q.2.1, q.2.2.1) := by decide +kernel
set_option maxRecDepth 100000 in
theorem dk_245 : ∀ c ∈ cd_245, ∀ q ∈ c.2, decode cX11_weight q.1 = .ok (q.2.1, q.2.2.1) := by decide +kernel
set_option maxRecDepth 100000 in
theorem dk_246 : ∀ c ∈ cd_246, ∀ q ∈ c.2, decode cX11_weightOf q.1 = .ok (q.2.1, q.2.2.1) := by decide +kernel
set_option maxRecDepth 100000 in
theorem dk_247 : ∀ c ∈ cd_247, ∀ q ∈ c.2, decode cX11_whose q.1 = .ok (q.2.1, q.2.2.1) := by decide +kernel
set_option maxRecDepth 100000 in
theorem dk_248 : ∀ c ∈ cd_248, ∀ q ∈ c.2, decode cX11_worst q.1 = .ok (q.2.1, q.2.2.1) := by decide +kernel
set_option maxRecDepth 100000 in
theorem dk_249 : ∀ c ∈ cd_249, ∀ q ∈ c.2, decode cX11_worstOf q.1 = .ok (q.2.1, q.2.2.1) := by decide +kernel
set_option maxRecDepth 100000 in
theorem dk_250 : ∀ c ∈ cd_250, ∀ q ∈ c.2, decode cX11_wrong q.1 = .ok (q.2.1, q.2.2.1) := by decide +kernel
set_option maxRecDepth 100000 in
theorem dk_251 : ∀ c ∈ cd_251, ∀ q ∈ c.2, decode cX11_wrongCounter q.1 = .ok (q.2.1, q.2.2.1) := by decide +kernel
set_option maxRecDepth 100000 in
theorem dk_252 : ∀ c ∈ cd_252, ∀ q ∈ c.2, decode cX11_wrongRow q.1 = .ok (q.2.1, q.2.2.1) := by decide +kernel
set_option maxRecDepth 100000 in
theorem dk_253 : ∀ c ∈ cd_253, ∀ q ∈ c.2, decode cX11_wrongShelf q.1 = .ok (q.2.1, q.2.2.1) := by decide +kernel
set_option maxRecDepth 100000 in
theorem dk_254 : ∀ c ∈ cd_254, ∀ q ∈ c.2, decode cX11_wrongTime q.1 = .ok (q.2.1, q.2.2.1) := by decide +kernel
set_option maxRecDepth 100000 in
theorem dk_255 : ∀ c ∈ cd_255, ∀ q ∈ c.2, decode cX1_notePlace q.1 = .ok (q.2.1, q.2.2.1) := by decide +kernel
set_option maxRecDepth 100000 in
theorem dkl_0_0 : ∀ q ∈ (cd_256_0.drop 0).take 8, decode code q.1 = .ok (q.2.1, q.2.2.1) := by decide +kernel
set_option maxRecDepth 100000 in
theorem dkl_0_8 : ∀ q ∈ (cd_256_0.drop 8).take 8, decode code q.1 = .ok (q.2.1, q.2.2.1) := by decide +kernel
set_option maxRecDepth 100000 in
theorem dkl_0_16 : ∀ q ∈ (cd_256_0.drop 16).take 8, decode code q.1 = .ok (q.2.1, q.2.2.1) := by decide +kernel
set_option maxRecDepth 100000 in
theorem dkl_0_24 : ∀ q ∈ (cd_256_0.drop 24).take 8, decode code q.1 = .ok (q.2.1, q.2.2.1) := by decide +kernel
set_option maxRecDepth 100000 in
theorem dkl_0_32 : ∀ q ∈ (cd_256_0.drop 32).take 8, decode code q.1 = .ok (q.2.1, q.2.2.1) := by decide +kernel
set_option maxRecDepth 100000 in
theorem dkl_0 : ∀ q ∈ cd_256_0, decode code q.1 = .ok (q.2.1, q.2.2.1) := all_more 0 8 dkl_0_0 (all_more 8 8 dkl_0_8 (all_more 16 8 dkl_0_16 (all_more 24 8 dkl_0_24 (all_more 32 8 dkl_0_32 (fun q h => absurd (show q ∈ ([] : List mIns) from h) List.not_mem_nil)))))
set_option maxRecDepth 100000 in
theorem dkl_1_0 : ∀ q ∈ (cd_256_1.drop 0).take 8, decode code q.1 = .ok (q.2.1, q.2.2.1) := by decide +kernel
set_option maxRecDepth 100000 in
theorem dkl_1_8 : ∀ q ∈ (cd_256_1.drop 8).take 8, decode code q.1 = .ok (q.2.1, q.2.2.1) := by decide +kernel
set_option maxRecDepth 100000 in
theorem dkl_1_16 : ∀ q ∈ (cd_256_1.drop 16).take 8, decode code q.1 = .ok (q.2.1, q.2.2.1) := by decide +kernel
set_option maxRecDepth 100000 in
theorem dkl_1_24 : ∀ q ∈ (cd_256_1.drop 24).take 8, decode code q.1 = .ok (q.2.1, q.2.2.1) := by decide +kernel
set_option maxRecDepth 100000 in
theorem dkl_1_32 : ∀ q ∈ (cd_256_1.drop 32).take 8, decode code q.1 = .ok (q.2.1, q.2.2.1) := by decide +kernel
set_option maxRecDepth 100000 in
theorem dkl_1 : ∀ q ∈ cd_256_1, decode code q.1 = .ok (q.2.1, q.2.2.1) := all_more 0 8 dkl_1_0 (all_more 8 8 dkl_1_8 (all_more 16 8 dkl_1_16 (all_more 24 8 dkl_1_24 (all_more 32 8 dkl_1_32 (fun q h => absurd (show q ∈ ([] : List mIns) from h) List.not_mem_nil)))))
set_option maxRecDepth 100000 in
theorem dkl_2_0 : ∀ q ∈ (cd_256_2.drop 0).take 8, decode code q.1 = .ok (q.2.1, q.2.2.1) := by decide +kernel
set_option maxRecDepth 100000 in
theorem dkl_2_8 : ∀ q ∈ (cd_256_2.drop 8).take 8, decode code q.1 = .ok (q.2.1, q.2.2.1) := by decide +kernel
set_option maxRecDepth 100000 in
theorem dkl_2_16 : ∀ q ∈ (cd_256_2.drop 16).take 8, decode code q.1 = .ok (q.2.1, q.2.2.1) := by decide +kernel
set_option maxRecDepth 100000 in
theorem dkl_2_24 : ∀ q ∈ (cd_256_2.drop 24).take 8, decode code q.1 = .ok (q.2.1, q.2.2.1) := by decide +kernel
set_option maxRecDepth 100000 in
theorem dkl_2_32 : ∀ q ∈ (cd_256_2.drop 32).take 8, decode code q.1 = .ok (q.2.1, q.2.2.1) := by decide +kernel
set_option maxRecDepth 100000 in
theorem dkl_2 : ∀ q ∈ cd_256_2, decode code q.1 = .ok (q.2.1, q.2.2.1) := all_more 0 8 dkl_2_0 (all_more 8 8 dkl_2_8 (all_more 16 8 dkl_2_16 (all_more 24 8 dkl_2_24 (all_more 32 8 dkl_2_32 (fun q h => absurd (show q ∈ ([] : List mIns) from h) List.not_mem_nil)))))
set_option maxRecDepth 100000 in
theorem dkl_3_0 : ∀ q ∈ (cd_256_3.drop 0).take 8, decode code q.1 = .ok (q.2.1, q.2.2.1) := by decide +kernel
set_option maxRecDepth 100000 in
theorem dkl_3_8 : ∀ q ∈ (cd_256_3.drop 8).take 8, decode code q.1 = .ok (q.2.1, q.2.2.1) := by decide +kernel
set_option maxRecDepth 100000 in
theorem dkl_3_16 : ∀ q ∈ (cd_256_3.drop 16).take 8, decode code q.1 = .ok (q.2.1, q.2.2.1) := by decide +kernel
set_option maxRecDepth 100000 in
theorem dkl_3_24 : ∀ q ∈ (cd_256_3.drop 24).take 8, decode code q.1 = .ok (q.2.1, q.2.2.1) := by decide +kernel
set_option maxRecDepth 100000 in
theorem dkl_3_32 : ∀ q ∈ (cd_256_3.drop 32).take 8, decode code q.1 = .ok (q.2.1, q.2.2.1) := by decide +kernel
set_option maxRecDepth 100000 in
theorem dkl_3 : ∀ q ∈ cd_256_3, decode code q.1 = .ok (q.2.1, q.2.2.1) := all_more 0 8 dkl_3_0 (all_more 8 8 dkl_3_8 (all_more 16 8 dkl_3_16 (all_more 24 8 dkl_3_24 (all_more 32 8 dkl_3_32 (fun q h => absurd (show q ∈ ([] : List mIns) from h) List.not_mem_nil)))))
set_option maxRecDepth 100000 in
theorem dkl_4_0 : ∀ q ∈ (cd_256_4.drop 0).take 8, decode code q.1 = .ok (q.2.1, q.2.2.1) := by decide +kernel
set_option maxRecDepth 100000 in
theorem dkl_4_8 : ∀ q ∈ (cd_256_4.drop 8).take 8, decode code q.1 = .ok (q.2.1, q.2.2.1) := by decide +kernel
set_option maxRecDepth 100000 in
theorem dkl_4_16 : ∀ q ∈ (cd_256_4.drop 16).take 8, decode code q.1 = .ok (q.2.1, q.2.2.1) := by decide +kernel
set_option maxRecDepth 100000 in
theorem dkl_4_24 : ∀ q ∈ (cd_256_4.drop 24).take 8, decode code q.1 = .ok (q.2.1, q.2.2.1) := by decide +kernel
set_option maxRecDepth 100000 in
theorem dkl_4_32 : ∀ q ∈ (cd_256_4.drop 32).take 8, decode code q.1 = .ok (q.2.1, q.2.2.1) := by decide +kernel
set_option maxRecDepth 100000 in
theorem dkl_4 : ∀ q ∈ cd_256_4, decode code q.1 = .ok (q.2.1, q.2.2.1) := all_more 0 8 dkl_4_0 (all_more 8 8 dkl_4_8 (all_more 16 8 dkl_4_16 (all_more 24 8 dkl_4_24 (all_more 32 8 dkl_4_32 (fun q h => absurd (show q ∈ ([] : List mIns) from h) List.not_mem_nil)))))
set_option maxRecDepth 100000 in
theorem dkl_5_0 : ∀ q ∈ (cd_256_5.drop 0).take 8, decode code q.1 = .ok (q.2.1, q.2.2.1) := by decide +kernel
set_option maxRecDepth 100000 in
theorem dkl_5_8 : ∀ q ∈ (cd_256_5.drop 8).take 8, decode code q.1 = .ok (q.2.1, q.2.2.1) := by decide +kernel
set_option maxRecDepth 100000 in
theorem dkl_5_16 : ∀ q ∈ (cd_256_5.drop 16).take 8, decode code q.1 = .ok (q.2.1, q.2.2.1) := by decide +kernel
set_option maxRecDepth 100000 in
theorem dkl_5_24 : ∀ q ∈ (cd_256_5.drop 24).take 8, decode code q.1 = .ok (q.2.1, q.2.2.1) := by decide +kernel
set_option maxRecDepth 100000 in
theorem dkl_5_32 : ∀ q ∈ (cd_256_5.drop 32).take 8, decode code q.1 = .ok (q.2.1, q.2.2.1) := by decide +kernel
set_option maxRecDepth 100000 in
theorem dkl_5 : ∀ q ∈ cd_256_5, decode code q.1 = .ok (q.2.1, q.2.2.1) := all_more 0 8 dkl_5_0 (all_more 8 8 dkl_5_8 (all_more 16 8 dkl_5_16 (all_more 24 8 dkl_5_24 (all_more 32 8 dkl_5_32 (fun q h => absurd (show q ∈ ([] : List mIns) from h) List.not_mem_nil)))))
set_option maxRecDepth 100000 in
theorem dkl_6_0 : ∀ q ∈ (cd_256_6.drop 0).take 8, decode code q.1 = .ok (q.2.1, q.2.2.1) := by decide +kernel
set_option maxRecDepth 100000 in
theorem dkl_6_8 : ∀ q ∈ (cd_256_6.drop 8).take 8, decode code q.1 = .ok (q.2.1, q.2.2.1) := by decide +kernel
set_option maxRecDepth 100000 in
theorem dkl_6_16 : ∀ q ∈ (cd_256_6.drop 16).take 8, decode code q.1 = .ok (q.2.1, q.2.2.1) := by decide +kernel
set_option maxRecDepth 100000 in
theorem dkl_6_24 : ∀ q ∈ (cd_256_6.drop 24).take 8, decode code q.1 = .ok (q.2.1, q.2.2.1) := by decide +kernel
set_option maxRecDepth 100000 in
theorem dkl_6_32 : ∀ q ∈ (cd_256_6.drop 32).take 8, decode code q.1 = .ok (q.2.1, q.2.2.1) := by decide +kernel
set_option maxRecDepth 100000 in
theorem dkl_6 : ∀ q ∈ cd_256_6, decode code q.1 = .ok (q.2.1, q.2.2.1) := all_more 0 8 dkl_6_0 (all_more 8 8 dkl_6_8 (all_more 16 8 dkl_6_16 (all_more 24 8 dkl_6_24 (all_more 32 8 dkl_6_32 (fun q h => absurd (show q ∈ ([] : List mIns) from h) List.not_mem_nil)))))
set_option maxRecDepth 100000 in
theorem dkl_7_0 : ∀ q ∈ (cd_256_7.drop 0).take 8, decode code q.1 = .ok (q.2.1, q.2.2.1) := by decide +kernel
set_option maxRecDepth 100000 in
theorem dkl_7_8 : ∀ q ∈ (cd_256_7.drop 8).take 8, decode code q.1 = .ok (q.2.1, q.2.2.1) := by decide +kernel
set_option maxRecDepth 100000 in
theorem dkl_7_16 : ∀ q ∈ (cd_256_7.drop 16).take 8, decode code q.1 = .ok (q.2.1, q.2.2.1) := by decide +kernel
set_option maxRecDepth 100000 in
theorem dkl_7_24 : ∀ q ∈ (cd_256_7.drop 24).take 8, decode code q.1 = .ok (q.2.1, q.2.2.1) := by decide +kernel
set_option maxRecDepth 100000 in
theorem dkl_7_32 : ∀ q ∈ (cd_256_7.drop 32).take 8, decode code q.1 = .ok (q.2.1, q.2.2.1) := by decide +kernel
set_option maxRecDepth 100000 in
theorem dkl_7 : ∀ q ∈ cd_256_7, decode code q.1 = .ok (q.2.1, q.2.2.1) := all_more 0 8 dkl_7_0 (all_more 8 8 dkl_7_8 (all_more 16 8 dkl_7_16 (all_more 24 8 dkl_7_24 (all_more 32 8 dkl_7_32 (fun q h => absurd (show q ∈ ([] : List mIns) from h) List.not_mem_nil)))))
set_option maxRecDepth 100000 in
theorem dkl_8_0 : ∀ q ∈ (cd_256_8.drop 0).take 8, decode code q.1 = .ok (q.2.1, q.2.2.1) := by decide +kernel
set_option maxRecDepth 100000 in
theorem dkl_8_8 : ∀ q ∈ (cd_256_8.drop 8).take 8, decode code q.1 = .ok (q.2.1, q.2.2.1) := by decide +kernel
set_option maxRecDepth 100000 in
theorem dkl_8_16 : ∀ q ∈ (cd_256_8.drop 16).take 8, decode code q.1 = .ok (q.2.1, q.2.2.1) := by decide +kernel
set_option maxRecDepth 100000 in
theorem dkl_8_24 : ∀ q ∈ (cd_256_8.drop 24).take 8, decode code q.1 = .ok (q.2.1, q.2.2.1) := by decide +kernel
set_option maxRecDepth 100000 in
theorem dkl_8_32 : ∀ q ∈ (cd_256_8.drop 32).take 8, decode code q.1 = .ok (q.2.1, q.2.2.1) := by decide +kernel
set_option maxRecDepth 100000 in
theorem dkl_8 : ∀ q ∈ cd_256_8, decode code q.1 = .ok (q.2.1, q.2.2.1) := all_more 0 8 dkl_8_0 (all_more 8 8 dkl_8_8 (all_more 16 8 dkl_8_16 (all_more 24 8 dkl_8_24 (all_more 32 8 dkl_8_32 (fun q h => absurd (show q ∈ ([] : List mIns) from h) List.not_mem_nil)))))
set_option maxRecDepth 100000 in
theorem dkl_9_0 : ∀ q ∈ (cd_256_9.drop 0).take 8, decode code q.1 = .ok (q.2.1, q.2.2.1) := by decide +kernel
set_option maxRecDepth 100000 in
theorem dkl_9_8 : ∀ q ∈ (cd_256_9.drop 8).take 8, decode code q.1 = .ok (q.2.1, q.2.2.1) := by decide +kernel
set_option maxRecDepth 100000 in
theorem dkl_9_16 : ∀ q ∈ (cd_256_9.drop 16).take 8, decode code q.1 = .ok (q.2.1, q.2.2.1) := by decide +kernel
set_option maxRecDepth 100000 in
theorem dkl_9_24 : ∀ q ∈ (cd_256_9.drop 24).take 8, decode code q.1 = .ok (q.2.1, q.2.2.1) := by decide +kernel
set_option maxRecDepth 100000 in
theorem dkl_9_32 : ∀ q ∈ (cd_256_9.drop 32).take 8, decode code q.1 = .ok (q.2.1, q.2.2.1) := by decide +kernel
set_option maxRecDepth 100000 in
theorem dkl_9 : ∀ q ∈ cd_256_9, decode code q.1 = .ok (q.2.1, q.2.2.1) := all_more 0 8 dkl_9_0 (all_more 8 8 dkl_9_8 (all_more 16 8 dkl_9_16 (all_more 24 8 dkl_9_24 (all_more 32 8 dkl_9_32 (fun q h => absurd (show q ∈ ([] : List mIns) from h) List.not_mem_nil)))))
set_option maxRecDepth 100000 in
theorem dkl_10_0 : ∀ q ∈ (cd_256_10.drop 0).take 8, decode code q.1 = .ok (q.2.1, q.2.2.1) := by decide +kernel
set_option maxRecDepth 100000 in
theorem dkl_10_8 : ∀ q ∈ (cd_256_10.drop 8).take 8, decode code q.1 = .ok (q.2.1, q.2.2.1) := by decide +kernel
set_option maxRecDepth 100000 in
theorem dkl_10_16 : ∀ q ∈ (cd_256_10.drop 16).take 8, decode code q.1 = .ok (q.2.1, q.2.2.1) := by decide +kernel
set_option maxRecDepth 100000 in
theorem dkl_10_24 : ∀ q ∈ (cd_256_10.drop 24).take 8, decode code q.1 = .ok (q.2.1, q.2.2.1) := by decide +kernel
set_option maxRecDepth 100000 in
theorem dkl_10_32 : ∀ q ∈ (cd_256_10.drop 32).take 8, decode code q.1 = .ok (q.2.1, q.2.2.1) := by decide +kernel
set_option maxRecDepth 100000 in
theorem dkl_10 : ∀ q ∈ cd_256_10, decode code q.1 = .ok (q.2.1, q.2.2.1) := all_more 0 8 dkl_10_0 (all_more 8 8 dkl_10_8 (all_more 16 8 dkl_10_16 (all_more 24 8 dkl_10_24 (all_more 32 8 dkl_10_32 (fun q h => absurd (show q ∈ ([] : List mIns) from h) List.not_mem_nil)))))
set_option maxRecDepth 100000 in
theorem dkl_11_0 : ∀ q ∈ (cd_256_11.drop 0).take 8, decode code q.1 = .ok (q.2.1, q.2.2.1) := by decide +kernel
set_option maxRecDepth 100000 in
theorem dkl_11_8 : ∀ q ∈ (cd_256_11.drop 8).take 8, decode code q.1 = .ok (q.2.1, q.2.2.1) := by decide +kernel
set_option maxRecDepth 100000 in
theorem dkl_11_16 : ∀ q ∈ (cd_256_11.drop 16).take 8, decode code q.1 = .ok (q.2.1, q.2.2.1) := by decide +kernel
set_option maxRecDepth 100000 in
theorem dkl_11_24 : ∀ q ∈ (cd_256_11.drop 24).take 8, decode code q.1 = .ok (q.2.1, q.2.2.1) := by decide +kernel
set_option maxRecDepth 100000 in
theorem dkl_11_32 : ∀ q ∈ (cd_256_11.drop 32).take 8, decode code q.1 = .ok (q.2.1, q.2.2.1) := by decide +kernel
set_option maxRecDepth 100000 in
theorem dkl_11 : ∀ q ∈ cd_256_11, decode code q.1 = .ok (q.2.1, q.2.2.1) := all_more 0 8 dkl_11_0 (all_more 8 8 dkl_11_8 (all_more 16 8 dkl_11_16 (all_more 24 8 dkl_11_24 (all_more 32 8 dkl_11_32 (fun q h => absurd (show q ∈ ([] : List mIns) from h) List.not_mem_nil)))))
set_option maxRecDepth 100000 in
theorem dkl_12_0 : ∀ q ∈ (cd_256_12.drop 0).take 8, decode code q.1 = .ok (q.2.1, q.2.2.1) := by decide +kernel
set_option maxRecDepth 100000 in
theorem dkl_12_8 : ∀ q ∈ (cd_256_12.drop 8).take 8, decode code q.1 = .ok (q.2.1, q.2.2.1) := by decide +kernel
set_option maxRecDepth 100000 in
theorem dkl_12_16 : ∀ q ∈ (cd_256_12.drop 16).take 8, decode code q.1 = .ok (q.2.1, q.2.2.1) := by decide +kernel
set_option maxRecDepth 100000 in
theorem dkl_12_24 : ∀ q ∈ (cd_256_12.drop 24).take 8, decode code q.1 = .ok (q.2.1, q.2.2.1) := by decide +kernel
set_option maxRecDepth 100000 in
theorem dkl_12_32 : ∀ q ∈ (cd_256_12.drop 32).take 8, decode code q.1 = .ok (q.2.1, q.2.2.1) := by decide +kernel
set_option maxRecDepth 100000 in
theorem dkl_12 : ∀ q ∈ cd_256_12, decode code q.1 = .ok (q.2.1, q.2.2.1) := all_more 0 8 dkl_12_0 (all_more 8 8 dkl_12_8 (all_more 16 8 dkl_12_16 (all_more 24 8 dkl_12_24 (all_more 32 8 dkl_12_32 (fun q h => absurd (show q ∈ ([] : List mIns) from h) List.not_mem_nil)))))
set_option maxRecDepth 100000 in
theorem dkl_13_0 : ∀ q ∈ (cd_256_13.drop 0).take 8, decode code q.1 = .ok (q.2.1, q.2.2.1) := by decide +kernel
set_option maxRecDepth 100000 in
theorem dkl_13_8 : ∀ q ∈ (cd_256_13.drop 8).take 8, decode code q.1 = .ok (q.2.1, q.2.2.1) := by decide +kernel
set_option maxRecDepth 100000 in
theorem dkl_13_16 : ∀ q ∈ (cd_256_13.drop 16).take 8, decode code q.1 = .ok (q.2.1, q.2.2.1) := by decide +kernel
set_option maxRecDepth 100000 in
theorem dkl_13_24 : ∀ q ∈ (cd_256_13.drop 24).take 8, decode code q.1 = .ok (q.2.1, q.2.2.1) := by decide +kernel
set_option maxRecDepth 100000 in
theorem dkl_13_32 : ∀ q ∈ (cd_256_13.drop 32).take 8, decode code q.1 = .ok (q.2.1, q.2.2.1) := by decide +kernel
set_option maxRecDepth 100000 in
theorem dkl_13 : ∀ q ∈ cd_256_13, decode code q.1 = .ok (q.2.1, q.2.2.1) := all_more 0 8 dkl_13_0 (all_more 8 8 dkl_13_8 (all_more 16 8 dkl_13_16 (all_more 24 8 dkl_13_24 (all_more 32 8 dkl_13_32 (fun q h => absurd (show q ∈ ([] : List mIns) from h) List.not_mem_nil)))))
set_option maxRecDepth 100000 in
theorem dkl_14_0 : ∀ q ∈ (cd_256_14.drop 0).take 8, decode code q.1 = .ok (q.2.1, q.2.2.1) := by decide +kernel
set_option maxRecDepth 100000 in
theorem dkl_14_8 : ∀ q ∈ (cd_256_14.drop 8).take 8, decode code q.1 = .ok (q.2.1, q.2.2.1) := by decide +kernel
set_option maxRecDepth 100000 in
theorem dkl_14_16 : ∀ q ∈ (cd_256_14.drop 16).take 8, decode code q.1 = .ok (q.2.1, q.2.2.1) := by decide +kernel
set_option maxRecDepth 100000 in
theorem dkl_14_24 : ∀ q ∈ (cd_256_14.drop 24).take 8, decode code q.1 = .ok (q.2.1, q.2.2.1) := by decide +kernel
set_option maxRecDepth 100000 in
theorem dkl_14_32 : ∀ q ∈ (cd_256_14.drop 32).take 8, decode code q.1 = .ok (q.2.1, q.2.2.1) := by decide +kernel
set_option maxRecDepth 100000 in
theorem dkl_14 : ∀ q ∈ cd_256_14, decode code q.1 = .ok (q.2.1, q.2.2.1) := all_more 0 8 dkl_14_0 (all_more 8 8 dkl_14_8 (all_more 16 8 dkl_14_16 (all_more 24 8 dkl_14_24 (all_more 32 8 dkl_14_32 (fun q h => absurd (show q ∈ ([] : List mIns) from h) List.not_mem_nil)))))
set_option maxRecDepth 100000 in
theorem dkl_15_0 : ∀ q ∈ (cd_256_15.drop 0).take 8, decode code q.1 = .ok (q.2.1, q.2.2.1) := by decide +kernel
set_option maxRecDepth 100000 in
theorem dkl_15_8 : ∀ q ∈ (cd_256_15.drop 8).take 8, decode code q.1 = .ok (q.2.1, q.2.2.1) := by decide +kernel
set_option maxRecDepth 100000 in
theorem dkl_15_16 : ∀ q ∈ (cd_256_15.drop 16).take 8, decode code q.1 = .ok (q.2.1, q.2.2.1) := by decide +kernel
set_option maxRecDepth 100000 in
theorem dkl_15_24 : ∀ q ∈ (cd_256_15.drop 24).take 8, decode code q.1 = .ok (q.2.1, q.2.2.1) := by decide +kernel
set_option maxRecDepth 100000 in
theorem dkl_15_32 : ∀ q ∈ (cd_256_15.drop 32).take 8, decode code q.1 = .ok (q.2.1, q.2.2.1) := by decide +kernel
set_option maxRecDepth 100000 in
theorem dkl_15 : ∀ q ∈ cd_256_15, decode code q.1 = .ok (q.2.1, q.2.2.1) := all_more 0 8 dkl_15_0 (all_more 8 8 dkl_15_8 (all_more 16 8 dkl_15_16 (all_more 24 8 dkl_15_24 (all_more 32 8 dkl_15_32 (fun q h => absurd (show q ∈ ([] : List mIns) from h) List.not_mem_nil)))))
set_option maxRecDepth 100000 in
theorem dkl_16_0 : ∀ q ∈ (cd_256_16.drop 0).take 8, decode code q.1 = .ok (q.2.1, q.2.2.1) := by decide +kernel
set_option maxRecDepth 100000 in
theorem dkl_16_8 : ∀ q ∈ (cd_256_16.drop 8).take 8, decode code q.1 = .ok (q.2.1, q.2.2.1) := by decide +kernel
set_option maxRecDepth 100000 in
theorem dkl_16_16 : ∀ q ∈ (cd_256_16.drop 16).take 8, decode code q.1 = .ok (q.2.1, q.2.2.1) := by decide +kernel
set_option maxRecDepth 100000 in
theorem dkl_16_24 : ∀ q ∈ (cd_256_16.drop 24).take 8, decode code q.1 = .ok (q.2.1, q.2.2.1) := by decide +kernel
set_option maxRecDepth 100000 in
theorem dkl_16_32 : ∀ q ∈ (cd_256_16.drop 32).take 8, decode code q.1 = .ok (q.2.1, q.2.2.1) := by decide +kernel
set_option maxRecDepth 100000 in
theorem dkl_16 : ∀ q ∈ cd_256_16, decode code q.1 = .ok (q.2.1, q.2.2.1) := all_more 0 8 dkl_16_0 (all_more 8 8 dkl_16_8 (all_more 16 8 dkl_16_16 (all_more 24 8 dkl_16_24 (all_more 32 8 dkl_16_32 (fun q h => absurd (show q ∈ ([] : List mIns) from h) List.not_mem_nil)))))
set_option maxRecDepth 100000 in
theorem dkl_17_0 : ∀ q ∈ (cd_256_17.drop 0).take 8, decode code q.1 = .ok (q.2.1, q.2.2.1) := by decide +kernel
set_option maxRecDepth 100000 in
theorem dkl_17_8 : ∀ q ∈ (cd_256_17.drop 8).take 8, decode code q.1 = .ok (q.2.1, q.2.2.1) := by decide +kernel
set_option maxRecDepth 100000 in
theorem dkl_17_16 : ∀ q ∈ (cd_256_17.drop 16).take 8, decode code q.1 = .ok (q.2.1, q.2.2.1) := by decide +kernel
set_option maxRecDepth 100000 in
theorem dkl_17_24 : ∀ q ∈ (cd_256_17.drop 24).take 8, decode code q.1 = .ok (q.2.1, q.2.2.1) := by decide +kernel
set_option maxRecDepth 100000 in
theorem dkl_17_32 : ∀ q ∈ (cd_256_17.drop 32).take 8, decode code q.1 = .ok (q.2.1, q.2.2.1) := by decide +kernel
set_option maxRecDepth 100000 in
theorem dkl_17 : ∀ q ∈ cd_256_17, decode code q.1 = .ok (q.2.1, q.2.2.1) := all_more 0 8 dkl_17_0 (all_more 8 8 dkl_17_8 (all_more 16 8 dkl_17_16 (all_more 24 8 dkl_17_24 (all_more 32 8 dkl_17_32 (fun q h => absurd (show q ∈ ([] : List mIns) from h) List.not_mem_nil)))))
set_option maxRecDepth 100000 in
theorem dkl_18_0 : ∀ q ∈ (cd_256_18.drop 0).take 8, decode code q.1 = .ok (q.2.1, q.2.2.1) := by decide +kernel
set_option maxRecDepth 100000 in
theorem dkl_18_8 : ∀ q ∈ (cd_256_18.drop 8).take 8, decode code q.1 = .ok (q.2.1, q.2.2.1) := by decide +kernel
set_option maxRecDepth 100000 in
theorem dkl_18_16 : ∀ q ∈ (cd_256_18.drop 16).take 8, decode code q.1 = .ok (q.2.1, q.2.2.1) := by decide +kernel
set_option maxRecDepth 100000 in
theorem dkl_18_24 : ∀ q ∈ (cd_256_18.drop 24).take 8, decode code q.1 = .ok (q.2.1, q.2.2.1) := by decide +kernel
set_option maxRecDepth 100000 in
theorem dkl_18_32 : ∀ q ∈ (cd_256_18.drop 32).take 8, decode code q.1 = .ok (q.2.1, q.2.2.1) := by decide +kernel
set_option maxRecDepth 100000 in
theorem dkl_18 : ∀ q ∈ cd_256_18, decode code q.1 = .ok (q.2.1, q.2.2.1) := all_more 0 8 dkl_18_0 (all_more 8 8 dkl_18_8 (all_more 16 8 dkl_18_16 (all_more 24 8 dkl_18_24 (all_more 32 8 dkl_18_32 (fun q h => absurd (show q ∈ ([] : List mIns) from h) List.not_mem_nil)))))
set_option maxRecDepth 100000 in
theorem dkl_19_0 : ∀ q ∈ (cd_256_19.drop 0).take 8, decode code q.1 = .ok (q.2.1, q.2.2.1) := by decide +kernel
set_option maxRecDepth 100000 in
theorem dkl_19_8 : ∀ q ∈ (cd_256_19.drop 8).take 8, decode code q.1 = .ok (q.2.1, q.2.2.1) := by decide +kernel
set_option maxRecDepth 100000 in
theorem dkl_19_16 : ∀ q ∈ (cd_256_19.drop 16).take 8, decode code q.1 = .ok (q.2.1, q.2.2.1) := by decide +kernel
set_option maxRecDepth 100000 in
theorem dkl_19_24 : ∀ q ∈ (cd_256_19.drop 24).take 8, decode code q.1 = .ok (q.2.1, q.2.2.1) := by decide +kernel
set_option maxRecDepth 100000 in
theorem dkl_19_32 : ∀ q ∈ (cd_256_19.drop 32).take 8, decode code q.1 = .ok (q.2.1, q.2.2.1) := by decide +kernel
set_option maxRecDepth 100000 in
theorem dkl_19 : ∀ q ∈ cd_256_19, decode code q.1 = .ok (q.2.1, q.2.2.1) := all_more 0 8 dkl_19_0 (all_more 8 8 dkl_19_8 (all_more 16 8 dkl_19_16 (all_more 24 8 dkl_19_24 (all_more 32 8 dkl_19_32 (fun q h => absurd (show q ∈ ([] : List mIns) from h) List.not_mem_nil)))))
set_option maxRecDepth 100000 in
theorem dkl_20_0 : ∀ q ∈ (cd_256_20.drop 0).take 8, decode code q.1 = .ok (q.2.1, q.2.2.1) := by decide +kernel
set_option maxRecDepth 100000 in
theorem dkl_20_8 : ∀ q ∈ (cd_256_20.drop 8).take 8, decode code q.1 = .ok (q.2.1, q.2.2.1) := by decide +kernel
set_option maxRecDepth 100000 in
theorem dkl_20_16 : ∀ q ∈ (cd_256_20.drop 16).take 8, decode code q.1 = .ok (q.2.1, q.2.2.1) := by decide +kernel
set_option maxRecDepth 100000 in
theorem dkl_20_24 : ∀ q ∈ (cd_256_20.drop 24).take 8, decode code q.1 = .ok (q.2.1, q.2.2.1) := by decide +kernel
set_option maxRecDepth 100000 in
theorem dkl_20_32 : ∀ q ∈ (cd_256_20.drop 32).take 8, decode code q.1 = .ok (q.2.1, q.2.2.1) := by decide +kernel
set_option maxRecDepth 100000 in
theorem dkl_20 : ∀ q ∈ cd_256_20, decode code q.1 = .ok (q.2.1, q.2.2.1) := all_more 0 8 dkl_20_0 (all_more 8 8 dkl_20_8 (all_more 16 8 dkl_20_16 (all_more 24 8 dkl_20_24 (all_more 32 8 dkl_20_32 (fun q h => absurd (show q ∈ ([] : List mIns) from h) List.not_mem_nil)))))
set_option maxRecDepth 100000 in
theorem dkl_21_0 : ∀ q ∈ (cd_256_21.drop 0).take 8, decode code q.1 = .ok (q.2.1, q.2.2.1) := by decide +kernel
set_option maxRecDepth 100000 in
theorem dkl_21_8 : ∀ q ∈ (cd_256_21.drop 8).take 8, decode code q.1 = .ok (q.2.1, q.2.2.1) := by decide +kernel
set_option maxRecDepth 100000 in
theorem dkl_21_16 : ∀ q ∈ (cd_256_21.drop 16).take 8, decode code q.1 = .ok (q.2.1, q.2.2.1) := by decide +kernel
set_option maxRecDepth 100000 in
theorem dkl_21_24 : ∀ q ∈ (cd_256_21.drop 24).take 8, decode code q.1 = .ok (q.2.1, q.2.2.1) := by decide +kernel
set_option maxRecDepth 100000 in
theorem dkl_21_32 : ∀ q ∈ (cd_256_21.drop 32).take 8, decode code q.1 = .ok (q.2.1, q.2.2.1) := by decide +kernel
set_option maxRecDepth 100000 in
theorem dkl_21 : ∀ q ∈ cd_256_21, decode code q.1 = .ok (q.2.1, q.2.2.1) := all_more 0 8 dkl_21_0 (all_more 8 8 dkl_21_8 (all_more 16 8 dkl_21_16 (all_more 24 8 dkl_21_24 (all_more 32 8 dkl_21_32 (fun q h => absurd (show q ∈ ([] : List mIns) from h) List.not_mem_nil)))))
set_option maxRecDepth 100000 in
theorem dkl_22_0 : ∀ q ∈ (cd_256_22.drop 0).take 8, decode code q.1 = .ok (q.2.1, q.2.2.1) := by decide +kernel
set_option maxRecDepth 100000 in
theorem dkl_22_8 : ∀ q ∈ (cd_256_22.drop 8).take 8, decode code q.1 = .ok (q.2.1, q.2.2.1) := by decide +kernel
set_option maxRecDepth 100000 in
theorem dkl_22_16 : ∀ q ∈ (cd_256_22.drop 16).take 8, decode code q.1 = .ok (q.2.1, q.2.2.1) := by decide +kernel
set_option maxRecDepth 100000 in
theorem dkl_22_24 : ∀ q ∈ (cd_256_22.drop 24).take 8, decode code q.1 = .ok (q.2.1, q.2.2.1) := by decide +kernel
set_option maxRecDepth 100000 in
theorem dkl_22_32 : ∀ q ∈ (cd_256_22.drop 32).take 8, decode code q.1 = .ok (q.2.1, q.2.2.1) := by decide +kernel
set_option maxRecDepth 100000 in
theorem dkl_22 : ∀ q ∈ cd_256_22, decode code q.1 = .ok (q.2.1, q.2.2.1) := all_more 0 8 dkl_22_0 (all_more 8 8 dkl_22_8 (all_more 16 8 dkl_22_16 (all_more 24 8 dkl_22_24 (all_more 32 8 dkl_22_32 (fun q h => absurd (show q ∈ ([] : List mIns) from h) List.not_mem_nil)))))
set_option maxRecDepth 100000 in
theorem dkl_23_0 : ∀ q ∈ (cd_256_23.drop 0).take 8, decode code q.1 = .ok (q.2.1, q.2.2.1) := by decide +kernel
set_option maxRecDepth 100000 in
theorem dkl_23_8 : ∀ q ∈ (cd_256_23.drop 8).take 8, decode code q.1 = .ok (q.2.1, q.2.2.1) := by decide +kernel
set_option maxRecDepth 100000 in
theorem dkl_23_16 : ∀ q ∈ (cd_256_23.drop 16).take 8, decode code q.1 = .ok (q.2.1, q.2.2.1) := by decide +kernel
set_option maxRecDepth 100000 in
theorem dkl_23_24 : ∀ q ∈ (cd_256_23.drop 24).take 8, decode code q.1 = .ok (q.2.1, q.2.2.1) := by decide +kernel
set_option maxRecDepth 100000 in
theorem dkl_23_32 : ∀ q ∈ (cd_256_23.drop 32).take 8, decode code q.1 = .ok (q.2.1, q.2.2.1) := by decide +kernel
set_option maxRecDepth 100000 in
theorem dkl_23 : ∀ q ∈ cd_256_23, decode code q.1 = .ok (q.2.1, q.2.2.1) := all_more 0 8 dkl_23_0 (all_more 8 8 dkl_23_8 (all_more 16 8 dkl_23_16 (all_more 24 8 dkl_23_24 (all_more 32 8 dkl_23_32 (fun q h => absurd (show q ∈ ([] : List mIns) from h) List.not_mem_nil)))))
set_option maxRecDepth 100000 in
theorem dkl_24_0 : ∀ q ∈ (cd_256_24.drop 0).take 8, decode code q.1 = .ok (q.2.1, q.2.2.1) := by decide +kernel
set_option maxRecDepth 100000 in
theorem dkl_24_8 : ∀ q ∈ (cd_256_24.drop 8).take 8, decode code q.1 = .ok (q.2.1, q.2.2.1) := by decide +kernel
set_option maxRecDepth 100000 in
theorem dkl_24_16 : ∀ q ∈ (cd_256_24.drop 16).take 8, decode code q.1 = .ok (q.2.1, q.2.2.1) := by decide +kernel
set_option maxRecDepth 100000 in
theorem dkl_24_24 : ∀ q ∈ (cd_256_24.drop 24).take 8, decode code q.1 = .ok (q.2.1, q.2.2.1) := by decide +kernel
set_option maxRecDepth 100000 in
theorem dkl_24_32 : ∀ q ∈ (cd_256_24.drop 32).take 8, decode code q.1 = .ok (q.2.1, q.2.2.1) := by decide +kernel
set_option maxRecDepth 100000 in
theorem dkl_24 : ∀ q ∈ cd_256_24, decode code q.1 = .ok (q.2.1, q.2.2.1) := all_more 0 8 dkl_24_0 (all_more 8 8 dkl_24_8 (all_more 16 8 dkl_24_16 (all_more 24 8 dkl_24_24 (all_more 32 8 dkl_24_32 (fun q h => absurd (show q ∈ ([] : List mIns) from h) List.not_mem_nil)))))
set_option maxRecDepth 100000 in
theorem dkl_25_0 : ∀ q ∈ (cd_256_25.drop 0).take 8, decode code q.1 = .ok (q.2.1, q.2.2.1) := by decide +kernel
set_option maxRecDepth 100000 in
theorem dkl_25_8 : ∀ q ∈ (cd_256_25.drop 8).take 8, decode code q.1 = .ok (q.2.1, q.2.2.1) := by decide +kernel
set_option maxRecDepth 100000 in
theorem dkl_25_16 : ∀ q ∈ (cd_256_25.drop 16).take 8, decode code q.1 = .ok (q.2.1, q.2.2.1) := by decide +kernel
set_option maxRecDepth 100000 in
theorem dkl_25_24 : ∀ q ∈ (cd_256_25.drop 24).take 8, decode code q.1 = .ok (q.2.1, q.2.2.1) := by decide +kernel
set_option maxRecDepth 100000 in
theorem dkl_25_32 : ∀ q ∈ (cd_256_25.drop 32).take 8, decode code q.1 = .ok (q.2.1, q.2.2.1) := by decide +kernel
set_option maxRecDepth 100000 in
theorem dkl_25 : ∀ q ∈ cd_256_25, decode code q.1 = .ok (q.2.1, q.2.2.1) := all_more 0 8 dkl_25_0 (all_more 8 8 dkl_25_8 (all_more 16 8 dkl_25_16 (all_more 24 8 dkl_25_24 (all_more 32 8 dkl_25_32 (fun q h => absurd (show q ∈ ([] : List mIns) from h) List.not_mem_nil)))))
set_option maxRecDepth 100000 in
theorem dkl_26_0 : ∀ q ∈ (cd_256_26.drop 0).take 8, decode code q.1 = .ok (q.2.1, q.2.2.1) := by decide +kernel
set_option maxRecDepth 100000 in
theorem dkl_26_8 : ∀ q ∈ (cd_256_26.drop 8).take 8, decode code q.1 = .ok (q.2.1, q.2.2.1) := by decide +kernel
set_option maxRecDepth 100000 in
theorem dkl_26_16 : ∀ q ∈ (cd_256_26.drop 16).take 8, decode code q.1 = .ok (q.2.1, q.2.2.1) := by decide +kernel
set_option maxRecDepth 100000 in
theorem dkl_26_24 : ∀ q ∈ (cd_256_26.drop 24).take 8, decode code q.1 = .ok (q.2.1, q.2.2.1) := by decide +kernel
set_option maxRecDepth 100000 in
theorem dkl_26_32 : ∀ q ∈ (cd_256_26.drop 32).take 8, decode code q.1 = .ok (q.2.1, q.2.2.1) := by decide +kernel
set_option maxRecDepth 100000 in
theorem dkl_26 : ∀ q ∈ cd_256_26, decode code q.1 = .ok (q.2.1, q.2.2.1) := all_more 0 8 dkl_26_0 (all_more 8 8 dkl_26_8 (all_more 16 8 dkl_26_16 (all_more 24 8 dkl_26_24 (all_more 32 8 dkl_26_32 (fun q h => absurd (show q ∈ ([] : List mIns) from h) List.not_mem_nil)))))
set_option maxRecDepth 100000 in
theorem dkl_27_0 : ∀ q ∈ (cd_256_27.drop 0).take 8, decode code q.1 = .ok (q.2.1, q.2.2.1) := by decide +kernel
set_option maxRecDepth 100000 in
theorem dkl_27_8 : ∀ q ∈ (cd_256_27.drop 8).take 8, decode code q.1 = .ok (q.2.1, q.2.2.1) := by decide +kernel
set_option maxRecDepth 100000 in
theorem dkl_27_16 : ∀ q ∈ (cd_256_27.drop 16).take 8, decode code q.1 = .ok (q.2.1, q.2.2.1) := by decide +kernel
set_option maxRecDepth 100000 in
theorem dkl_27_24 : ∀ q ∈ (cd_256_27.drop 24).take 8, decode code q.1 = .ok (q.2.1, q.2.2.1) := by decide +kernel
set_option maxRecDepth 100000 in
theorem dkl_27_32 : ∀ q ∈ (cd_256_27.drop 32).take 8, decode code q.1 = .ok (q.2.1, q.2.2.1) := by decide +kernel
set_option maxRecDepth 100000 in
theorem dkl_27 : ∀ q ∈ cd_256_27, decode code q.1 = .ok (q.2.1, q.2.2.1) := all_more 0 8 dkl_27_0 (all_more 8 8 dkl_27_8 (all_more 16 8 dkl_27_16 (all_more 24 8 dkl_27_24 (all_more 32 8 dkl_27_32 (fun q h => absurd (show q ∈ ([] : List mIns) from h) List.not_mem_nil)))))
set_option maxRecDepth 100000 in
theorem dkl_28_0 : ∀ q ∈ (cd_256_28.drop 0).take 8, decode code q.1 = .ok (q.2.1, q.2.2.1) := by decide +kernel
set_option maxRecDepth 100000 in
theorem dkl_28_8 : ∀ q ∈ (cd_256_28.drop 8).take 8, decode code q.1 = .ok (q.2.1, q.2.2.1) := by decide +kernel
set_option maxRecDepth 100000 in
theorem dkl_28_16 : ∀ q ∈ (cd_256_28.drop 16).take 8, decode code q.1 = .ok (q.2.1, q.2.2.1) := by decide +kernel
set_option maxRecDepth 100000 in
theorem dkl_28_24 : ∀ q ∈ (cd_256_28.drop 24).take 8, decode code q.1 = .ok (q.2.1, q.2.2.1) := by decide +kernel
set_option maxRecDepth 100000 in
theorem dkl_28_32 : ∀ q ∈ (cd_256_28.drop 32).take 8, decode code q.1 = .ok (q.2.1, q.2.2.1) := by decide +kernel
set_option maxRecDepth 100000 in
theorem dkl_28 : ∀ q ∈ cd_256_28, decode code q.1 = .ok (q.2.1, q.2.2.1) := all_more 0 8 dkl_28_0 (all_more 8 8 dkl_28_8 (all_more 16 8 dkl_28_16 (all_more 24 8 dkl_28_24 (all_more 32 8 dkl_28_32 (fun q h => absurd (show q ∈ ([] : List mIns) from h) List.not_mem_nil)))))
set_option maxRecDepth 100000 in
theorem dkl_29_0 : ∀ q ∈ (cd_256_29.drop 0).take 8, decode code q.1 = .ok (q.2.1, q.2.2.1) := by decide +kernel
set_option maxRecDepth 100000 in
theorem dkl_29_8 : ∀ q ∈ (cd_256_29.drop 8).take 8, decode code q.1 = .ok (q.2.1, q.2.2.1) := by decide +kernel
set_option maxRecDepth 100000 in
theorem dkl_29_16 : ∀ q ∈ (cd_256_29.drop 16).take 8, decode code q.1 = .ok (q.2.1, q.2.2.1) := by decide +kernel
set_option maxRecDepth 100000 in
theorem dkl_29_24 : ∀ q ∈ (cd_256_29.drop 24).take 8, decode code q.1 = .ok (q.2.1, q.2.2.1) := by decide +kernel
set_option maxRecDepth 100000 in
theorem dkl_29_32 : ∀ q ∈ (cd_256_29.drop 32).take 8, decode code q.1 = .ok (q.2.1, q.2.2.1) := by decide +kernel
set_option maxRecDepth 100000 in
theorem dkl_29 : ∀ q ∈ cd_256_29, decode code q.1 = .ok (q.2.1, q.2.2.1) := all_more 0 8 dkl_29_0 (all_more 8 8 dkl_29_8 (all_more 16 8 dkl_29_16 (all_more 24 8 dkl_29_24 (all_more 32 8 dkl_29_32 (fun q h => absurd (show q ∈ ([] : List mIns) from h) List.not_mem_nil)))))
set_option maxRecDepth 100000 in
theorem dkl_30_0 : ∀ q ∈ (cd_256_30.drop 0).take 8, decode code q.1 = .ok (q.2.1, q.2.2.1) := by decide +kernel
set_option maxRecDepth 100000 in
theorem dkl_30_8 : ∀ q ∈ (cd_256_30.drop 8).take 8, decode code q.1 = .ok (q.2.1, q.2.2.1) := by decide +kernel
set_option maxRecDepth 100000 in
theorem dkl_30_16 : ∀ q ∈ (cd_256_30.drop 16).take 8, decode code q.1 = .ok (q.2.1, q.2.2.1) := by decide +kernel
set_option maxRecDepth 100000 in
theorem dkl_30_24 : ∀ q ∈ (cd_256_30.drop 24).take 8, decode code q.1 = .ok (q.2.1, q.2.2.1) := by decide +kernel
set_option maxRecDepth 100000 in
theorem dkl_30_32 : ∀ q ∈ (cd_256_30.drop 32).take 8, decode code q.1 = .ok (q.2.1, q.2.2.1) := by decide +kernel
set_option maxRecDepth 100000 in
theorem dkl_30 : ∀ q ∈ cd_256_30, decode code q.1 = .ok (q.2.1, q.2.2.1) := all_more 0 8 dkl_30_0 (all_more 8 8 dkl_30_8 (all_more 16 8 dkl_30_16 (all_more 24 8 dkl_30_24 (all_more 32 8 dkl_30_32 (fun q h => absurd (show q ∈ ([] : List mIns) from h) List.not_mem_nil)))))
set_option maxRecDepth 100000 in
theorem dkl_31_0 : ∀ q ∈ (cd_256_31.drop 0).take 8, decode code q.1 = .ok (q.2.1, q.2.2.1) := by decide +kernel
set_option maxRecDepth 100000 in
theorem dkl_31_8 : ∀ q ∈ (cd_256_31.drop 8).take 8, decode code q.1 = .ok (q.2.1, q.2.2.1) := by decide +kernel
set_option maxRecDepth 100000 in
theorem dkl_31_16 : ∀ q ∈ (cd_256_31.drop 16).take 8, decode code q.1 = .ok (q.2.1, q.2.2.1) := by decide +kernel
set_option maxRecDepth 100000 in
theorem dkl_31_24 : ∀ q ∈ (cd_256_31.drop 24).take 8, decode code q.1 = .ok (q.2.1, q.2.2.1) := by decide +kernel
set_option maxRecDepth 100000 in
theorem dkl_31_32 : ∀ q ∈ (cd_256_31.drop 32).take 8, decode code q.1 = .ok (q.2.1, q.2.2.1) := by decide +kernel
set_option maxRecDepth 100000 in
theorem dkl_31 : ∀ q ∈ cd_256_31, decode code q.1 = .ok (q.2.1, q.2.2.1) := all_more 0 8 dkl_31_0 (all_more 8 8 dkl_31_8 (all_more 16 8 dkl_31_16 (all_more 24 8 dkl_31_24 (all_more 32 8 dkl_31_32 (fun q h => absurd (show q ∈ ([] : List mIns) from h) List.not_mem_nil)))))
set_option maxRecDepth 100000 in
theorem dkl_32_0 : ∀ q ∈ (cd_256_32.drop 0).take 8, decode code q.1 = .ok (q.2.1, q.2.2.1) := by decide +kernel
set_option maxRecDepth 100000 in
theorem dkl_32_8 : ∀ q ∈ (cd_256_32.drop 8).take 8, decode code q.1 = .ok (q.2.1, q.2.2.1) := by decide +kernel
set_option maxRecDepth 100000 in
theorem dkl_32_16 : ∀ q ∈ (cd_256_32.drop 16).take 8, decode code q.1 = .ok (q.2.1, q.2.2.1) := by decide +kernel
set_option maxRecDepth 100000 in
theorem dkl_32_24 : ∀ q ∈ (cd_256_32.drop 24).take 8, decode code q.1 = .ok (q.2.1, q.2.2.1) := by decide +kernel
set_option maxRecDepth 100000 in
theorem dkl_32_32 : ∀ q ∈ (cd_256_32.drop 32).take 8, decode code q.1 = .ok (q.2.1, q.2.2.1) := by decide +kernel
set_option maxRecDepth 100000 in
theorem dkl_32 : ∀ q ∈ cd_256_32, decode code q.1 = .ok (q.2.1, q.2.2.1) := all_more 0 8 dkl_32_0 (all_more 8 8 dkl_32_8 (all_more 16 8 dkl_32_16 (all_more 24 8 dkl_32_24 (all_more 32 8 dkl_32_32 (fun q h => absurd (show q ∈ ([] : List mIns) from h) List.not_mem_nil)))))
set_option maxRecDepth 100000 in
theorem dkl_33_0 : ∀ q ∈ (cd_256_33.drop 0).take 8, decode code q.1 = .ok (q.2.1, q.2.2.1) := by decide +kernel
set_option maxRecDepth 100000 in
theorem dkl_33_8 : ∀ q ∈ (cd_256_33.drop 8).take 8, decode code q.1 = .ok (q.2.1, q.2.2.1) := by decide +kernel
set_option maxRecDepth 100000 in
theorem dkl_33_16 : ∀ q ∈ (cd_256_33.drop 16).take 8, decode code q.1 = .ok (q.2.1, q.2.2.1) := by decide +kernel
set_option maxRecDepth 100000 in
theorem dkl_33_24 : ∀ q ∈ (cd_256_33.drop 24).take 8, decode code q.1 = .ok (q.2.1, q.2.2.1) := by decide +kernel
set_option maxRecDepth 100000 in
theorem dkl_33_32 : ∀ q ∈ (cd_256_33.drop 32).take 8, decode code q.1 = .ok (q.2.1, q.2.2.1) := by decide +kernel
set_option maxRecDepth 100000 in
theorem dkl_33 : ∀ q ∈ cd_256_33, decode code q.1 = .ok (q.2.1, q.2.2.1) := all_more 0 8 dkl_33_0 (all_more 8 8 dkl_33_8 (all_more 16 8 dkl_33_16 (all_more 24 8 dkl_33_24 (all_more 32 8 dkl_33_32 (fun q h => absurd (show q ∈ ([] : List mIns) from h) List.not_mem_nil)))))
set_option maxRecDepth 100000 in
theorem dkl_34_0 : ∀ q ∈ (cd_256_34.drop 0).take 8, decode code q.1 = .ok (q.2.1, q.2.2.1) := by decide +kernel
set_option maxRecDepth 100000 in
theorem dkl_34_8 : ∀ q ∈ (cd_256_34.drop 8).take 8, decode code q.1 = .ok (q.2.1, q.2.2.1) := by decide +kernel
set_option maxRecDepth 100000 in
theorem dkl_34_16 : ∀ q ∈ (cd_256_34.drop 16).take 8, decode code q.1 = .ok (q.2.1, q.2.2.1) := by decide +kernel
set_option maxRecDepth 100000 in
theorem dkl_34_24 : ∀ q ∈ (cd_256_34.drop 24).take 8, decode code q.1 = .ok (q.2.1, q.2.2.1) := by decide +kernel
set_option maxRecDepth 100000 in
theorem dkl_34_32 : ∀ q ∈ (cd_256_34.drop 32).take 8, decode code q.1 = .ok (q.2.1, q.2.2.1) := by decide +kernel
set_option maxRecDepth 100000 in
theorem dkl_34 : ∀ q ∈ cd_256_34, decode code q.1 = .ok (q.2.1, q.2.2.1) := all_more 0 8 dkl_34_0 (all_more 8 8 dkl_34_8 (all_more 16 8 dkl_34_16 (all_more 24 8 dkl_34_24 (all_more 32 8 dkl_34_32 (fun q h => absurd (show q ∈ ([] : List mIns) from h) List.not_mem_nil)))))
set_option maxRecDepth 100000 in
theorem dkl_35_0 : ∀ q ∈ (cd_256_35.drop 0).take 8, decode code q.1 = .ok (q.2.1, q.2.2.1) := by decide +kernel
set_option maxRecDepth 100000 in
theorem dkl_35_8 : ∀ q ∈ (cd_256_35.drop 8).take 8, decode code q.1 = .ok (q.2.1, q.2.2.1) := by decide +kernel
set_option maxRecDepth 100000 in
theorem dkl_35_16 : ∀ q ∈ (cd_256_35.drop 16).take 8, decode code q.1 = .ok (q.2.1, q.2.2.1) := by decide +kernel
set_option maxRecDepth 100000 in
theorem dkl_35_24 : ∀ q ∈ (cd_256_35.drop 24).take 8, decode code q.1 = .ok (q.2.1, q.2.2.1) := by decide +kernel
set_option maxRecDepth 100000 in
theorem dkl_35_32 : ∀ q ∈ (cd_256_35.drop 32).take 8, decode code q.1 = .ok (q.2.1, q.2.2.1) := by decide +kernel
set_option maxRecDepth 100000 in
theorem dkl_35 : ∀ q ∈ cd_256_35, decode code q.1 = .ok (q.2.1, q.2.2.1) := all_more 0 8 dkl_35_0 (all_more 8 8 dkl_35_8 (all_more 16 8 dkl_35_16 (all_more 24 8 dkl_35_24 (all_more 32 8 dkl_35_32 (fun q h => absurd (show q ∈ ([] : List mIns) from h) List.not_mem_nil)))))
set_option maxRecDepth 100000 in
theorem dkl_36_0 : ∀ q ∈ (cd_256_36.drop 0).take 8, decode code q.1 = .ok (q.2.1, q.2.2.1) := by decide +kernel
set_option maxRecDepth 100000 in
theorem dkl_36_8 : ∀ q ∈ (cd_256_36.drop 8).take 8, decode code q.1 = .ok (q.2.1, q.2.2.1) := by decide +kernel
set_option maxRecDepth 100000 in
theorem dkl_36_16 : ∀ q ∈ (cd_256_36.drop 16).take 8, decode code q.1 = .ok (q.2.1, q.2.2.1) := by decide +kernel
set_option maxRecDepth 100000 in
theorem dkl_36_24 : ∀ q ∈ (cd_256_36.drop 24).take 8, decode code q.1 = .ok (q.2.1, q.2.2.1) := by decide +kernel
set_option maxRecDepth 100000 in
theorem dkl_36_32 : ∀ q ∈ (cd_256_36.drop 32).take 8, decode code q.1 = .ok (q.2.1, q.2.2.1) := by decide +kernel
set_option maxRecDepth 100000 in
theorem dkl_36 : ∀ q ∈ cd_256_36, decode code q.1 = .ok (q.2.1, q.2.2.1) := all_more 0 8 dkl_36_0 (all_more 8 8 dkl_36_8 (all_more 16 8 dkl_36_16 (all_more 24 8 dkl_36_24 (all_more 32 8 dkl_36_32 (fun q h => absurd (show q ∈ ([] : List mIns) from h) List.not_mem_nil)))))
set_option maxRecDepth 100000 in
theorem dkl_37_0 : ∀ q ∈ (cd_256_37.drop 0).take 8, decode code q.1 = .ok (q.2.1, q.2.2.1) := by decide +kernel
set_option maxRecDepth 100000 in
theorem dkl_37_8 : ∀ q ∈ (cd_256_37.drop 8).take 8, decode code q.1 = .ok (q.2.1, q.2.2.1) := by decide +kernel
set_option maxRecDepth 100000 in
theorem dkl_37_16 : ∀ q ∈ (cd_256_37.drop 16).take 8, decode code q.1 = .ok (q.2.1, q.2.2.1) := by decide +kernel
set_option maxRecDepth 100000 in
theorem dkl_37_24 : ∀ q ∈ (cd_256_37.drop 24).take 8, decode code q.1 = .ok (q.2.1, q.2.2.1) := by decide +kernel
set_option maxRecDepth 100000 in
theorem dkl_37_32 : ∀ q ∈ (cd_256_37.drop 32).take 8, decode code q.1 = .ok (q.2.1, q.2.2.1) := by decide +kernel
set_option maxRecDepth 100000 in
theorem dkl_37 : ∀ q ∈ cd_256_37, decode code q.1 = .ok (q.2.1, q.2.2.1) := all_more 0 8 dkl_37_0 (all_more 8 8 dkl_37_8 (all_more 16 8 dkl_37_16 (all_more 24 8 dkl_37_24 (all_more 32 8 dkl_37_32 (fun q h => absurd (show q ∈ ([] : List mIns) from h) List.not_mem_nil)))))
set_option maxRecDepth 100000 in
theorem dk_256 : ∀ c ∈ cd_256, ∀ q ∈ c.2, decode code q.1 = .ok (q.2.1, q.2.2.1) := List.forall_mem_cons.mpr ⟨dkl_0, List.forall_mem_cons.mpr ⟨dkl_1, List.forall_mem_cons.mpr ⟨dkl_2, List.forall_mem_cons.mpr ⟨dkl_3, List.forall_mem_cons.mpr ⟨dkl_4, List.forall_mem_cons.mpr ⟨dkl_5, List.forall_mem_cons.mpr ⟨dkl_6, List.forall_mem_cons.mpr ⟨dkl_7, List.forall_mem_cons.mpr ⟨dkl_8, List.forall_mem_cons.mpr ⟨dkl_9, List.forall_mem_cons.mpr ⟨dkl_10, List.forall_mem_cons.mpr ⟨dkl_11, List.forall_mem_cons.mpr ⟨dkl_12, List.forall_mem_cons.mpr ⟨dkl_13, List.forall_mem_cons.mpr ⟨dkl_14, List.forall_mem_cons.mpr ⟨dkl_15, List.forall_mem_cons.mpr ⟨dkl_16, List.forall_mem_cons.mpr ⟨dkl_17, List.forall_mem_cons.mpr ⟨dkl_18, List.forall_mem_cons.mpr ⟨dkl_19, List.forall_mem_cons.mpr ⟨dkl_20, List.forall_mem_cons.mpr ⟨dkl_21, List.forall_mem_cons.mpr ⟨dkl_22, List.forall_mem_cons.mpr ⟨dkl_23, List.forall_mem_cons.mpr ⟨dkl_24, List.forall_mem_cons.mpr ⟨dkl_25, List.forall_mem_cons.mpr ⟨dkl_26, List.forall_mem_cons.mpr ⟨dkl_27, List.forall_mem_cons.mpr ⟨dkl_28, List.forall_mem_cons.mpr ⟨dkl_29, List.forall_mem_cons.mpr ⟨dkl_30, List.forall_mem_cons.mpr ⟨dkl_31, List.forall_mem_cons.mpr ⟨dkl_32, List.forall_mem_cons.mpr ⟨dkl_33, List.forall_mem_cons.mpr ⟨dkl_34, List.forall_mem_cons.mpr ⟨dkl_35, List.forall_mem_cons.mpr ⟨dkl_36, List.forall_mem_cons.mpr ⟨dkl_37, fun _ h => absurd h List.not_mem_nil⟩⟩⟩⟩⟩⟩⟩⟩⟩⟩⟩⟩⟩⟩⟩⟩⟩⟩⟩⟩⟩⟩⟩⟩⟩⟩⟩⟩⟩⟩⟩⟩⟩⟩⟩⟩⟩⟩
set_option maxRecDepth 100000 in
theorem rs_0 : ∀ c ∈ cd_0, ∀ q ∈ c.2, rsB 0 q = true := by decide +kernel
theorem PM_0 : PM 0 := fun c hc q hq => ⟨dk_0 c hc q hq, rs_0 c hc q hq⟩
set_option maxRecDepth 100000 in
theorem rs_1 : ∀ c ∈ cd_1, ∀ q ∈ c.2, rsB 0 q = true := by decide +kernel
theorem PM_1 : PM 1 := fun c hc q hq => ⟨dk_1 c hc q hq, rs_1 c hc q hq⟩
set_option maxRecDepth 100000 in
theorem rs_2 : ∀ c ∈ cd_2, ∀ q ∈ c.2, rsB 0 q = true := by decide +kernel
theorem PM_2 : PM 2 := fun c hc q hq => ⟨dk_2 c hc q hq, rs_2 c hc q hq⟩
set_option maxRecDepth 100000 in
theorem rs_3 : ∀ c ∈ cd_3, ∀ q ∈ c.2, rsB 0 q = true := by decide +kernel
theorem PM_3 : PM 3 := fun c hc q hq => ⟨dk_3 c hc q hq, rs_3 c hc q hq⟩
set_option maxRecDepth 100000 in
theorem rs_4 : ∀ c ∈ cd_4, ∀ q ∈ c.2, rsB 1 q = true := by decide +kernel
theorem PM_4 : PM 4 := fun c hc q hq => ⟨dk_4 c hc q hq, rs_4 c hc q hq⟩
set_option maxRecDepth 100000 in
theorem rs_5 : ∀ c ∈ cd_5, ∀ q ∈ c.2, rsB 1 q = true := by decide +kernel
theorem PM_5 : PM 5 := fun c hc q hq => ⟨dk_5 c hc q hq, rs_5 c hc q hq⟩
set_option maxRecDepth 100000 in
theorem rs_6 : ∀ c ∈ cd_6, ∀ q ∈ c.2, rsB 1 q = true := by decide +kernel
theorem PM_6 : PM 6 := fun c hc q hq => ⟨dk_6 c hc q hq, rs_6 c hc q hq⟩
set_option maxRecDepth 100000 in
theorem rs_7 : ∀ c ∈ cd_7, ∀ q ∈ c.2, rsB 1 q = true := by decide +kernel
theorem PM_7 : PM 7 := fun c hc q hq => ⟨dk_7 c hc q hq, rs_7 c hc q hq⟩
set_option maxRecDepth 100000 in
theorem rs_8 : ∀ c ∈ cd_8, ∀ q ∈ c.2, rsB 2 q = true := by decide +kernel
theorem PM_8 : PM 8 := fun c hc q hq => ⟨dk_8 c hc q hq, rs_8 c hc q hq⟩
set_option maxRecDepth 100000 in
theorem rs_9 : ∀ c ∈ cd_9, ∀ q ∈ c.2, rsB 2 q = true := by decide +kernel
theorem PM_9 : PM 9 := fun c hc q hq => ⟨dk_9 c hc q hq, rs_9 c hc q hq⟩
set_option maxRecDepth 100000 in
theorem rs_10 : ∀ c ∈ cd_10, ∀ q ∈ c.2, rsB 2 q = true := by decide +kernel
theorem PM_10 : PM 10 := fun c hc q hq => ⟨dk_10 c hc q hq, rs_10 c hc q hq⟩
set_option maxRecDepth 100000 in
theorem rs_11 : ∀ c ∈ cd_11, ∀ q ∈ c.2, rsB 2 q = true := by decide +kernel
theorem PM_11 : PM 11 := fun c hc q hq => ⟨dk_11 c hc q hq, rs_11 c hc q hq⟩
set_option maxRecDepth 100000 in
theorem rs_12 : ∀ c ∈ cd_12, ∀ q ∈ c.2, rsB 2 q = true := by decide +kernel
theorem PM_12 : PM 12 := fun c hc q hq => ⟨dk_12 c hc q hq, rs_12 c hc q hq⟩
set_option maxRecDepth 100000 in
theorem rs_13 : ∀ c ∈ cd_13, ∀ q ∈ c.2, rsB 2 q = true := by decide +kernel
theorem PM_13 : PM 13 := fun c hc q hq => ⟨dk_13 c hc q hq, rs_13 c hc q hq⟩
set_option maxRecDepth 100000 in
theorem rs_14 : ∀ c ∈ cd_14, ∀ q ∈ c.2, rsB 2 q = true := by decide +kernel
theorem PM_14 : PM 14 := fun c hc q hq => ⟨dk_14 c hc q hq, rs_14 c hc q hq⟩
set_option maxRecDepth 100000 in
theorem rs_15 : ∀ c ∈ cd_15, ∀ q ∈ c.2, rsB 2 q = true := by decide +kernel
theorem PM_15 : PM 15 := fun c hc q hq => ⟨dk_15 c hc q hq, rs_15 c hc q hq⟩
set_option maxRecDepth 100000 in
theorem rs_16 : ∀ c ∈ cd_16, ∀ q ∈ c.2, rsB 2 q = true := by decide +kernel
theorem PM_16 : PM 16 := fun c hc q hq => ⟨dk_16 c hc q hq, rs_16 c hc q hq⟩
set_option maxRecDepth 100000 in
theorem rs_17 : ∀ c ∈ cd_17, ∀ q ∈ c.2, rsB 2 q = true := by decide +kernel
theorem PM_17 : PM 17 := fun c hc q hq => ⟨dk_17 c hc q hq, rs_17 c hc q hq⟩
set_option maxRecDepth 100000 in
theorem rs_18 : ∀ c ∈ cd_18, ∀ q ∈ c.2, rsB 2 q = true := by decide +kernel
theorem PM_18 : PM 18 := fun c hc q hq => ⟨dk_18 c hc q hq, rs_18 c hc q hq⟩
set_option maxRecDepth 100000 in
theorem rs_19 : ∀ c ∈ cd_19, ∀ q ∈ c.2, rsB 2 q = true := by decide +kernel
theorem PM_19 : PM 19 := fun c hc q hq => ⟨dk_19 c hc q hq, rs_19 c hc q hq⟩
set_option maxRecDepth 100000 in
theorem rs_20 : ∀ c ∈ cd_20, ∀ q ∈ c.2, rsB 2 q = true := by decide +kernel
theorem PM_20 : PM 20 := fun c hc q hq => ⟨dk_20 c hc q hq, rs_20 c hc q hq⟩
set_option maxRecDepth 100000 in
theorem rs_21 : ∀ c ∈ cd_21, ∀ q ∈ c.2, rsB 2 q = true := by decide +kernel
theorem PM_21 : PM 21 := fun c hc q hq => ⟨dk_21 c hc q hq, rs_21 c hc q hq⟩
set_option maxRecDepth 100000 in
theorem rs_22 : ∀ c ∈ cd_22, ∀ q ∈ c.2, rsB 2 q = true := by decide +kernel
theorem PM_22 : PM 22 := fun c hc q hq => ⟨dk_22 c hc q hq, rs_22 c hc q hq⟩
set_option maxRecDepth 100000 in
theorem rs_23 : ∀ c ∈ cd_23, ∀ q ∈ c.2, rsB 2 q = true := by decide +kernel
theorem PM_23 : PM 23 := fun c hc q hq => ⟨dk_23 c hc q hq, rs_23 c hc q hq⟩
set_option maxRecDepth 100000 in
theorem rs_24 : ∀ c ∈ cd_24, ∀ q ∈ c.2, rsB 3 q = true := by decide +kernel
theorem PM_24 : PM 24 := fun c hc q hq => ⟨dk_24 c hc q hq, rs_24 c hc q hq⟩
set_option maxRecDepth 100000 in
theorem rs_25 : ∀ c ∈ cd_25, ∀ q ∈ c.2, rsB 3 q = true := by decide +kernel
theorem PM_25 : PM 25 := fun c hc q hq => ⟨dk_25 c hc q hq, rs_25 c hc q hq⟩
set_option maxRecDepth 100000 in
theorem rs_26 : ∀ c ∈ cd_26, ∀ q ∈ c.2, rsB 3 q = true := by decide +kernel
theorem PM_26 : PM 26 := fun c hc q hq => ⟨dk_26 c hc q hq, rs_26 c hc q hq⟩
set_option maxRecDepth 100000 in
theorem rs_27 : ∀ c ∈ cd_27, ∀ q ∈ c.2, rsB 3 q = true := by decide +kernel
theorem PM_27 : PM 27 := fun c hc q hq => ⟨dk_27 c hc q hq, rs_27 c hc q hq⟩
set_option maxRecDepth 100000 in
theorem rs_28 : ∀ c ∈ cd_28, ∀ q ∈ c.2, rsB 3 q = true := by decide +kernel
theorem PM_28 : PM 28 := fun c hc q hq => ⟨dk_28 c hc q hq, rs_28 c hc q hq⟩
set_option maxRecDepth 100000 in
theorem rs_29 : ∀ c ∈ cd_29, ∀ q ∈ c.2, rsB 3 q = true := by decide +kernel
theorem PM_29 : PM 29 := fun c hc q hq => ⟨dk_29 c hc q hq, rs_29 c hc q hq⟩
set_option maxRecDepth 100000 in
theorem rs_30 : ∀ c ∈ cd_30, ∀ q ∈ c.2, rsB 3 q = true := by decide +kernel
theorem PM_30 : PM 30 := fun c hc q hq => ⟨dk_30 c hc q hq, rs_30 c hc q hq⟩
set_option maxRecDepth 100000 in
theorem rs_31 : ∀ c ∈ cd_31, ∀ q ∈ c.2, rsB 3 q = true := by decide +kernel
theorem PM_31 : PM 31 := fun c hc q hq => ⟨dk_31 c hc q hq, rs_31 c hc q hq⟩
set_option maxRecDepth 100000 in
theorem rs_32 : ∀ c ∈ cd_32, ∀ q ∈ c.2, rsB 3 q = true := by decide +kernel
theorem PM_32 : PM 32 := fun c hc q hq => ⟨dk_32 c hc q hq, rs_32 c hc q hq⟩
set_option maxRecDepth 100000 in
theorem rs_33 : ∀ c ∈ cd_33, ∀ q ∈ c.2, rsB 3 q = true := by decide +kernel
theorem PM_33 : PM 33 := fun c hc q hq => ⟨dk_33 c hc q hq, rs_33 c hc q hq⟩
set_option maxRecDepth 100000 in
theorem rs_34 : ∀ c ∈ cd_34, ∀ q ∈ c.2, rsB 3 q = true := by decide +kernel
theorem PM_34 : PM 34 := fun c hc q hq => ⟨dk_34 c hc q hq, rs_34 c hc q hq⟩
set_option maxRecDepth 100000 in
theorem rs_35 : ∀ c ∈ cd_35, ∀ q ∈ c.2, rsB 3 q = true := by decide +kernel
theorem PM_35 : PM 35 := fun c hc q hq => ⟨dk_35 c hc q hq, rs_35 c hc q hq⟩
set_option maxRecDepth 100000 in
theorem rs_36 : ∀ c ∈ cd_36, ∀ q ∈ c.2, rsB 3 q = true := by decide +kernel
theorem PM_36 : PM 36 := fun c hc q hq => ⟨dk_36 c hc q hq, rs_36 c hc q hq⟩
set_option maxRecDepth 100000 in
theorem rs_37 : ∀ c ∈ cd_37, ∀ q ∈ c.2, rsB 3 q = true := by decide +kernel
theorem PM_37 : PM 37 := fun c hc q hq => ⟨dk_37 c hc q hq, rs_37 c hc q hq⟩
set_option maxRecDepth 100000 in
theorem rs_38 : ∀ c ∈ cd_38, ∀ q ∈ c.2, rsB 4 q = true := by decide +kernel
theorem PM_38 : PM 38 := fun c hc q hq => ⟨dk_38 c hc q hq, rs_38 c hc q hq⟩
set_option maxRecDepth 100000 in
theorem rs_39 : ∀ c ∈ cd_39, ∀ q ∈ c.2, rsB 4 q = true := by decide +kernel
theorem PM_39 : PM 39 := fun c hc q hq => ⟨dk_39 c hc q hq, rs_39 c hc q hq⟩
set_option maxRecDepth 100000 in
theorem rs_40 : ∀ c ∈ cd_40, ∀ q ∈ c.2, rsB 4 q = true := by decide +kernel
theorem PM_40 : PM 40 := fun c hc q hq => ⟨dk_40 c hc q hq, rs_40 c hc q hq⟩
set_option maxRecDepth 100000 in
theorem rs_41 : ∀ c ∈ cd_41, ∀ q ∈ c.2, rsB 4 q = true := by decide +kernel
theorem PM_41 : PM 41 := fun c hc q hq => ⟨dk_41 c hc q hq, rs_41 c hc q hq⟩
set_option maxRecDepth 100000 in
theorem rs_42 : ∀ c ∈ cd_42, ∀ q ∈ c.2, rsB 4 q = true := by decide +kernel
theorem PM_42 : PM 42 := fun c hc q hq => ⟨dk_42 c hc q hq, rs_42 c hc q hq⟩
set_option maxRecDepth 100000 in
theorem rs_43 : ∀ c ∈ cd_43, ∀ q ∈ c.2, rsB 5 q = true := by decide +kernel
theorem PM_43 : PM 43 := fun c hc q hq => ⟨dk_43 c hc q hq, rs_43 c hc q hq⟩
set_option maxRecDepth 100000 in
theorem rs_44 : ∀ c ∈ cd_44, ∀ q ∈ c.2, rsB 5 q = true := by decide +kernel
theorem PM_44 : PM 44 := fun c hc q hq => ⟨dk_44 c hc q hq, rs_44 c hc q hq⟩
set_option maxRecDepth 100000 in
theorem rs_45 : ∀ c ∈ cd_45, ∀ q ∈ c.2, rsB 5 q = true := by decide +kernel
theorem PM_45 : PM 45 := fun c hc q hq => ⟨dk_45 c hc q hq, rs_45 c hc q hq⟩
set_option maxRecDepth 100000 in
theorem rs_46 : ∀ c ∈ cd_46, ∀ q ∈ c.2, rsB 5 q = true := by decide +kernel
theorem PM_46 : PM 46 := fun c hc q hq => ⟨dk_46 c hc q hq, rs_46 c hc q hq⟩
set_option maxRecDepth 100000 in
theorem rs_47 : ∀ c ∈ cd_47, ∀ q ∈ c.2, rsB 6 q = true := by decide +kernel
theorem PM_47 : PM 47 := fun c hc q hq => ⟨dk_47 c hc q hq, rs_47 c hc q hq⟩
set_option maxRecDepth 100000 in
theorem rs_48 : ∀ c ∈ cd_48, ∀ q ∈ c.2, rsB 6 q = true := by decide +kernel
theorem PM_48 : PM 48 := fun c hc q hq => ⟨dk_48 c hc q hq, rs_48 c hc q hq⟩
set_option maxRecDepth 100000 in
theorem rs_49 : ∀ c ∈ cd_49, ∀ q ∈ c.2, rsB 6 q = true := by decide +kernel
theorem PM_49 : PM 49 := fun c hc q hq => ⟨dk_49 c hc q hq, rs_49 c hc q hq⟩
set_option maxRecDepth 100000 in
theorem rs_50 : ∀ c ∈ cd_50, ∀ q ∈ c.2, rsB 6 q = true := by decide +kernel
theorem PM_50 : PM 50 := fun c hc q hq => ⟨dk_50 c hc q hq, rs_50 c hc q hq⟩
set_option maxRecDepth 100000 in
theorem rs_51 : ∀ c ∈ cd_51, ∀ q ∈ c.2, rsB 6 q = true := by decide +kernel
theorem PM_51 : PM 51 := fun c hc q hq => ⟨dk_51 c hc q hq, rs_51 c hc q hq⟩
set_option maxRecDepth 100000 in
theorem rs_52 : ∀ c ∈ cd_52, ∀ q ∈ c.2, rsB 6 q = true := by decide +kernel
theorem PM_52 : PM 52 := fun c hc q hq => ⟨dk_52 c hc q hq, rs_52 c hc q hq⟩
set_option maxRecDepth 100000 in
theorem rs_53 : ∀ c ∈ cd_53, ∀ q ∈ c.2, rsB 6 q = true := by decide +kernel
theorem PM_53 : PM 53 := fun c hc q hq => ⟨dk_53 c hc q hq, rs_53 c hc q hq⟩
set_option maxRecDepth 100000 in
theorem rs_54 : ∀ c ∈ cd_54, ∀ q ∈ c.2, rsB 6 q = true := by decide +kernel
theorem PM_54 : PM 54 := fun c hc q hq => ⟨dk_54 c hc q hq, rs_54 c hc q hq⟩
set_option maxRecDepth 100000 in
theorem rs_55 : ∀ c ∈ cd_55, ∀ q ∈ c.2, rsB 6 q = true := by decide +kernel
theorem PM_55 : PM 55 := fun c hc q hq => ⟨dk_55 c hc q hq, rs_55 c hc q hq⟩
set_option maxRecDepth 100000 in
theorem rs_56 : ∀ c ∈ cd_56, ∀ q ∈ c.2, rsB 6 q = true := by decide +kernel
theorem PM_56 : PM 56 := fun c hc q hq => ⟨dk_56 c hc q hq, rs_56 c hc q hq⟩
set_option maxRecDepth 100000 in
theorem rs_57 : ∀ c ∈ cd_57, ∀ q ∈ c.2, rsB 6 q = true := by decide +kernel
theorem PM_57 : PM 57 := fun c hc q hq => ⟨dk_57 c hc q hq, rs_57 c hc q hq⟩
set_option maxRecDepth 100000 in
theorem rs_58 : ∀ c ∈ cd_58, ∀ q ∈ c.2, rsB 6 q = true := by decide +kernel
theorem PM_58 : PM 58 := fun c hc q hq => ⟨dk_58 c hc q hq, rs_58 c hc q hq⟩
set_option maxRecDepth 100000 in
theorem rs_59 : ∀ c ∈ cd_59, ∀ q ∈ c.2, rsB 6 q = true := by decide +kernel
theorem PM_59 : PM 59 := fun c hc q hq => ⟨dk_59 c hc q hq, rs_59 c hc q hq⟩
set_option maxRecDepth 100000 in
theorem rs_60 : ∀ c ∈ cd_60, ∀ q ∈ c.2, rsB 7 q = true := by decide +kernel
theorem PM_60 : PM 60 := fun c hc q hq => ⟨dk_60 c hc q hq, rs_60 c hc q hq⟩
set_option maxRecDepth 100000 in
theorem rs_61 : ∀ c ∈ cd_61, ∀ q ∈ c.2, rsB 7 q = true := by decide +kernel
theorem PM_61 : PM 61 := fun c hc q hq => ⟨dk_61 c hc q hq, rs_61 c hc q hq⟩
set_option maxRecDepth 100000 in
theorem rs_62 : ∀ c ∈ cd_62, ∀ q ∈ c.2, rsB 7 q = true := by decide +kernel
theorem PM_62 : PM 62 := fun c hc q hq => ⟨dk_62 c hc q hq, rs_62 c hc q hq⟩
set_option maxRecDepth 100000 in
theorem rs_63 : ∀ c ∈ cd_63, ∀ q ∈ c.2, rsB 7 q = true := by decide +kernel
theorem PM_63 : PM 63 := fun c hc q hq => ⟨dk_63 c hc q hq, rs_63 c hc q hq⟩
set_option maxRecDepth 100000 in
theorem rs_64 : ∀ c ∈ cd_64, ∀ q ∈ c.2, rsB 8 q = true := by decide +kernel
theorem PM_64 : PM 64 := fun c hc q hq => ⟨dk_64 c hc q hq, rs_64 c hc q hq⟩
set_option maxRecDepth 100000 in
theorem rs_65 : ∀ c ∈ cd_65, ∀ q ∈ c.2, rsB 8 q = true := by decide +kernel
theorem PM_65 : PM 65 := fun c hc q hq => ⟨dk_65 c hc q hq, rs_65 c hc q hq⟩
set_option maxRecDepth 100000 in
theorem rs_66 : ∀ c ∈ cd_66, ∀ q ∈ c.2, rsB 8 q = true := by decide +kernel
theorem PM_66 : PM 66 := fun c hc q hq => ⟨dk_66 c hc q hq, rs_66 c hc q hq⟩
set_option maxRecDepth 100000 in
theorem rs_67 : ∀ c ∈ cd_67, ∀ q ∈ c.2, rsB 8 q = true := by decide +kernel
theorem PM_67 : PM 67 := fun c hc q hq => ⟨dk_67 c hc q hq, rs_67 c hc q hq⟩
set_option maxRecDepth 100000 in
theorem rs_68 : ∀ c ∈ cd_68, ∀ q ∈ c.2, rsB 8 q = true := by decide +kernel
theorem PM_68 : PM 68 := fun c hc q hq => ⟨dk_68 c hc q hq, rs_68 c hc q hq⟩
set_option maxRecDepth 100000 in
theorem rs_69 : ∀ c ∈ cd_69, ∀ q ∈ c.2, rsB 8 q = true := by decide +kernel
theorem PM_69 : PM 69 := fun c hc q hq => ⟨dk_69 c hc q hq, rs_69 c hc q hq⟩
set_option maxRecDepth 100000 in
theorem rs_70 : ∀ c ∈ cd_70, ∀ q ∈ c.2, rsB 9 q = true := by decide +kernel
theorem PM_70 : PM 70 := fun c hc q hq => ⟨dk_70 c hc q hq, rs_70 c hc q hq⟩
set_option maxRecDepth 100000 in
theorem rs_71 : ∀ c ∈ cd_71, ∀ q ∈ c.2, rsB 9 q = true := by decide +kernel
theorem PM_71 : PM 71 := fun c hc q hq => ⟨dk_71 c hc q hq, rs_71 c hc q hq⟩
set_option maxRecDepth 100000 in
theorem rs_72 : ∀ c ∈ cd_72, ∀ q ∈ c.2, rsB 9 q = true := by decide +kernel
theorem PM_72 : PM 72 := fun c hc q hq => ⟨dk_72 c hc q hq, rs_72 c hc q hq⟩
set_option maxRecDepth 100000 in
theorem rs_73 : ∀ c ∈ cd_73, ∀ q ∈ c.2, rsB 9 q = true := by decide +kernel
theorem PM_73 : PM 73 := fun c hc q hq => ⟨dk_73 c hc q hq, rs_73 c hc q hq⟩
set_option maxRecDepth 100000 in
theorem rs_74 : ∀ c ∈ cd_74, ∀ q ∈ c.2, rsB 9 q = true := by decide +kernel
theorem PM_74 : PM 74 := fun c hc q hq => ⟨dk_74 c hc q hq, rs_74 c hc q hq⟩
set_option maxRecDepth 100000 in
theorem rs_75 : ∀ c ∈ cd_75, ∀ q ∈ c.2, rsB 9 q = true := by decide +kernel
theorem PM_75 : PM 75 := fun c hc q hq => ⟨dk_75 c hc q hq, rs_75 c hc q hq⟩
set_option maxRecDepth 100000 in
theorem rs_76 : ∀ c ∈ cd_76, ∀ q ∈ c.2, rsB 9 q = true := by decide +kernel
theorem PM_76 : PM 76 := fun c hc q hq => ⟨dk_76 c hc q hq, rs_76 c hc q hq⟩
set_option maxRecDepth 100000 in
theorem rs_77 : ∀ c ∈ cd_77, ∀ q ∈ c.2, rsB 9 q = true := by decide +kernel
theorem PM_77 : PM 77 := fun c hc q hq => ⟨dk_77 c hc q hq, rs_77 c hc q hq⟩
set_option maxRecDepth 100000 in
theorem rs_78 : ∀ c ∈ cd_78, ∀ q ∈ c.2, rsB 9 q = true := by decide +kernel
theorem PM_78 : PM 78 := fun c hc q hq => ⟨dk_78 c hc q hq, rs_78 c hc q hq⟩
set_option maxRecDepth 100000 in
theorem rs_79 : ∀ c ∈ cd_79, ∀ q ∈ c.2, rsB 9 q = true := by decide +kernel
theorem PM_79 : PM 79 := fun c hc q hq => ⟨dk_79 c hc q hq, rs_79 c hc q hq⟩
set_option maxRecDepth 100000 in
theorem rs_80 : ∀ c ∈ cd_80, ∀ q ∈ c.2, rsB 9 q = true := by decide +kernel
theorem PM_80 : PM 80 := fun c hc q hq => ⟨dk_80 c hc q hq, rs_80 c hc q hq⟩
set_option maxRecDepth 100000 in
theorem rs_81 : ∀ c ∈ cd_81, ∀ q ∈ c.2, rsB 10 q = true := by decide +kernel
theorem PM_81 : PM 81 := fun c hc q hq => ⟨dk_81 c hc q hq, rs_81 c hc q hq⟩
set_option maxRecDepth 100000 in
theorem rs_82 : ∀ c ∈ cd_82, ∀ q ∈ c.2, rsB 10 q = true := by decide +kernel
theorem PM_82 : PM 82 := fun c hc q hq => ⟨dk_82 c hc q hq, rs_82 c hc q hq⟩
set_option maxRecDepth 100000 in
theorem rs_83 : ∀ c ∈ cd_83, ∀ q ∈ c.2, rsB 10 q = true := by decide +kernel
theorem PM_83 : PM 83 := fun c hc q hq => ⟨dk_83 c hc q hq, rs_83 c hc q hq⟩
set_option maxRecDepth 100000 in
theorem rs_84 : ∀ c ∈ cd_84, ∀ q ∈ c.2, rsB 10 q = true := by decide +kernel
theorem PM_84 : PM 84 := fun c hc q hq => ⟨dk_84 c hc q hq, rs_84 c hc q hq⟩
set_option maxRecDepth 100000 in
theorem rs_85 : ∀ c ∈ cd_85, ∀ q ∈ c.2, rsB 10 q = true := by decide +kernel
theorem PM_85 : PM 85 := fun c hc q hq => ⟨dk_85 c hc q hq, rs_85 c hc q hq⟩
set_option maxRecDepth 100000 in
theorem rs_86 : ∀ c ∈ cd_86, ∀ q ∈ c.2, rsB 10 q = true := by decide +kernel
theorem PM_86 : PM 86 := fun c hc q hq => ⟨dk_86 c hc q hq, rs_86 c hc q hq⟩
set_option maxRecDepth 100000 in
theorem rs_87 : ∀ c ∈ cd_87, ∀ q ∈ c.2, rsB 10 q = true := by decide +kernel
theorem PM_87 : PM 87 := fun c hc q hq => ⟨dk_87 c hc q hq, rs_87 c hc q hq⟩
set_option maxRecDepth 100000 in
theorem rs_88 : ∀ c ∈ cd_88, ∀ q ∈ c.2, rsB 10 q = true := by decide +kernel
theorem PM_88 : PM 88 := fun c hc q hq => ⟨dk_88 c hc q hq, rs_88 c hc q hq⟩
set_option maxRecDepth 100000 in
theorem rs_89 : ∀ c ∈ cd_89, ∀ q ∈ c.2, rsB 10 q = true := by decide +kernel
theorem PM_89 : PM 89 := fun c hc q hq => ⟨dk_89 c hc q hq, rs_89 c hc q hq⟩
set_option maxRecDepth 100000 in
theorem rs_90 : ∀ c ∈ cd_90, ∀ q ∈ c.2, rsB 10 q = true := by decide +kernel
theorem PM_90 : PM 90 := fun c hc q hq => ⟨dk_90 c hc q hq, rs_90 c hc q hq⟩
set_option maxRecDepth 100000 in
theorem rs_91 : ∀ c ∈ cd_91, ∀ q ∈ c.2, rsB 10 q = true := by decide +kernel
theorem PM_91 : PM 91 := fun c hc q hq => ⟨dk_91 c hc q hq, rs_91 c hc q hq⟩
set_option maxRecDepth 100000 in
theorem rs_92 : ∀ c ∈ cd_92, ∀ q ∈ c.2, rsB 10 q = true := by decide +kernel
theorem PM_92 : PM 92 := fun c hc q hq => ⟨dk_92 c hc q hq, rs_92 c hc q hq⟩
set_option maxRecDepth 100000 in
theorem rs_93 : ∀ c ∈ cd_93, ∀ q ∈ c.2, rsB 10 q = true := by decide +kernel
theorem PM_93 : PM 93 := fun c hc q hq => ⟨dk_93 c hc q hq, rs_93 c hc q hq⟩
set_option maxRecDepth 100000 in
theorem rs_94 : ∀ c ∈ cd_94, ∀ q ∈ c.2, rsB 10 q = true := by decide +kernel
theorem PM_94 : PM 94 := fun c hc q hq => ⟨dk_94 c hc q hq, rs_94 c hc q hq⟩
set_option maxRecDepth 100000 in
theorem rs_95 : ∀ c ∈ cd_95, ∀ q ∈ c.2, rsB 10 q = true := by decide +kernel
theorem PM_95 : PM 95 := fun c hc q hq => ⟨dk_95 c hc q hq, rs_95 c hc q hq⟩
set_option maxRecDepth 100000 in
theorem rs_96 : ∀ c ∈ cd_96, ∀ q ∈ c.2, rsB 10 q = true := by decide +kernel
theorem PM_96 : PM 96 := fun c hc q hq => ⟨dk_96 c hc q hq, rs_96 c hc q hq⟩
set_option maxRecDepth 100000 in
theorem rs_97 : ∀ c ∈ cd_97, ∀ q ∈ c.2, rsB 10 q = true := by decide +kernel
theorem PM_97 : PM 97 := fun c hc q hq => ⟨dk_97 c hc q hq, rs_97 c hc q hq⟩
set_option maxRecDepth 100000 in
theorem rs_98 : ∀ c ∈ cd_98, ∀ q ∈ c.2, rsB 10 q = true := by decide +kernel
theorem PM_98 : PM 98 := fun c hc q hq => ⟨dk_98 c hc q hq, rs_98 c hc q hq⟩
set_option maxRecDepth 100000 in
theorem rs_99 : ∀ c ∈ cd_99, ∀ q ∈ c.2, rsB 10 q = true := by decide +kernel
theorem PM_99 : PM 99 := fun c hc q hq => ⟨dk_99 c hc q hq, rs_99 c hc q hq⟩
set_option maxRecDepth 100000 in
theorem rs_100 : ∀ c ∈ cd_100, ∀ q ∈ c.2, rsB 10 q = true := by decide +kernel
theorem PM_100 : PM 100 := fun c hc q hq => ⟨dk_100 c hc q hq, rs_100 c hc q hq⟩
set_option maxRecDepth 100000 in
theorem rs_101 : ∀ c ∈ cd_101, ∀ q ∈ c.2, rsB 10 q = true := by decide +kernel
theorem PM_101 : PM 101 := fun c hc q hq => ⟨dk_101 c hc q hq, rs_101 c hc q hq⟩
set_option maxRecDepth 100000 in
theorem rs_102 : ∀ c ∈ cd_102, ∀ q ∈ c.2, rsB 10 q = true := by decide +kernel
theorem PM_102 : PM 102 := fun c hc q hq => ⟨dk_102 c hc q hq, rs_102 c hc q hq⟩
set_option maxRecDepth 100000 in
theorem rs_103 : ∀ c ∈ cd_103, ∀ q ∈ c.2, rsB 10 q = true := by decide +kernel
theorem PM_103 : PM 103 := fun c hc q hq => ⟨dk_103 c hc q hq, rs_103 c hc q hq⟩
set_option maxRecDepth 100000 in
theorem rs_104 : ∀ c ∈ cd_104, ∀ q ∈ c.2, rsB 10 q = true := by decide +kernel
theorem PM_104 : PM 104 := fun c hc q hq => ⟨dk_104 c hc q hq, rs_104 c hc q hq⟩
set_option maxRecDepth 100000 in
theorem rs_105 : ∀ c ∈ cd_105, ∀ q ∈ c.2, rsB 10 q = true := by decide +kernel
theorem PM_105 : PM 105 := fun c hc q hq => ⟨dk_105 c hc q hq, rs_105 c hc q hq⟩
set_option maxRecDepth 100000 in
theorem rs_106 : ∀ c ∈ cd_106, ∀ q ∈ c.2, rsB 10 q = true := by decide +kernel
theorem PM_106 : PM 106 := fun c hc q hq => ⟨dk_106 c hc q hq, rs_106 c hc q hq⟩
set_option maxRecDepth 100000 in
theorem rs_107 : ∀ c ∈ cd_107, ∀ q ∈ c.2, rsB 10 q = true := by decide +kernel
theorem PM_107 : PM 107 := fun c hc q hq => ⟨dk_107 c hc q hq, rs_107 c hc q hq⟩
set_option maxRecDepth 100000 in
theorem rs_108 : ∀ c ∈ cd_108, ∀ q ∈ c.2, rsB 10 q = true := by decide +kernel
theorem PM_108 : PM 108 := fun c hc q hq => ⟨dk_108 c hc q hq, rs_108 c hc q hq⟩
set_option maxRecDepth 100000 in
theorem rs_109 : ∀ c ∈ cd_109, ∀ q ∈ c.2, rsB 10 q = true := by decide +kernel
theorem PM_109 : PM 109 := fun c hc q hq => ⟨dk_109 c hc q hq, rs_109 c hc q hq⟩
set_option maxRecDepth 100000 in
theorem rs_110 : ∀ c ∈ cd_110, ∀ q ∈ c.2, rsB 10 q = true := by decide +kernel
theorem PM_110 : PM 110 := fun c hc q hq => ⟨dk_110 c hc q hq, rs_110 c hc q hq⟩
set_option maxRecDepth 100000 in
theorem rs_111 : ∀ c ∈ cd_111, ∀ q ∈ c.2, rsB 10 q = true := by decide +kernel
theorem PM_111 : PM 111 := fun c hc q hq => ⟨dk_111 c hc q hq, rs_111 c hc q hq⟩
set_option maxRecDepth 100000 in
theorem rs_112 : ∀ c ∈ cd_112, ∀ q ∈ c.2, rsB 10 q = true := by decide +kernel
theorem PM_112 : PM 112 := fun c hc q hq => ⟨dk_112 c hc q hq, rs_112 c hc q hq⟩
set_option maxRecDepth 100000 in
theorem rs_113 : ∀ c ∈ cd_113, ∀ q ∈ c.2, rsB 10 q = true := by decide +kernel
theorem PM_113 : PM 113 := fun c hc q hq => ⟨dk_113 c hc q hq, rs_113 c hc q hq⟩
set_option maxRecDepth 100000 in
theorem rs_114 : ∀ c ∈ cd_114, ∀ q ∈ c.2, rsB 10 q = true := by decide +kernel
theorem PM_114 : PM 114 := fun c hc q hq => ⟨dk_114 c hc q hq, rs_114 c hc q hq⟩
set_option maxRecDepth 100000 in
theorem rs_115 : ∀ c ∈ cd_115, ∀ q ∈ c.2, rsB 10 q = true := by decide +kernel
theorem PM_115 : PM 115 := fun c hc q hq => ⟨dk_115 c hc q hq, rs_115 c hc q hq⟩
set_option maxRecDepth 100000 in
theorem rs_116 : ∀ c ∈ cd_116, ∀ q ∈ c.2, rsB 10 q = true := by decide +kernel
theorem PM_116 : PM 116 := fun c hc q hq => ⟨dk_116 c hc q hq, rs_116 c hc q hq⟩
set_option maxRecDepth 100000 in
theorem rs_117 : ∀ c ∈ cd_117, ∀ q ∈ c.2, rsB 10 q = true := by decide +kernel
theorem PM_117 : PM 117 := fun c hc q hq => ⟨dk_117 c hc q hq, rs_117 c hc q hq⟩
set_option maxRecDepth 100000 in
theorem rs_118 : ∀ c ∈ cd_118, ∀ q ∈ c.2, rsB 10 q = true := by decide +kernel
theorem PM_118 : PM 118 := fun c hc q hq => ⟨dk_118 c hc q hq, rs_118 c hc q hq⟩
set_option maxRecDepth 100000 in
theorem rs_119 : ∀ c ∈ cd_119, ∀ q ∈ c.2, rsB 10 q = true := by decide +kernel
theorem PM_119 : PM 119 := fun c hc q hq => ⟨dk_119 c hc q hq, rs_119 c hc q hq⟩
set_option maxRecDepth 100000 in
theorem rs_120 : ∀ c ∈ cd_120, ∀ q ∈ c.2, rsB 10 q = true := by decide +kernel
theorem PM_120 : PM 120 := fun c hc q hq => ⟨dk_120 c hc q hq, rs_120 c hc q hq⟩
set_option maxRecDepth 100000 in
theorem rs_121 : ∀ c ∈ cd_121, ∀ q ∈ c.2, rsB 10 q = true := by decide +kernel
theorem PM_121 : PM 121 := fun c hc q hq => ⟨dk_121 c hc q hq, rs_121 c hc q hq⟩
set_option maxRecDepth 100000 in
theorem rs_122 : ∀ c ∈ cd_122, ∀ q ∈ c.2, rsB 10 q = true := by decide +kernel
theorem PM_122 : PM 122 := fun c hc q hq => ⟨dk_122 c hc q hq, rs_122 c hc q hq⟩
set_option maxRecDepth 100000 in
theorem rs_123 : ∀ c ∈ cd_123, ∀ q ∈ c.2, rsB 10 q = true := by decide +kernel
theorem PM_123 : PM 123 := fun c hc q hq => ⟨dk_123 c hc q hq, rs_123 c hc q hq⟩
set_option maxRecDepth 100000 in
theorem rs_124 : ∀ c ∈ cd_124, ∀ q ∈ c.2, rsB 10 q = true := by decide +kernel
theorem PM_124 : PM 124 := fun c hc q hq => ⟨dk_124 c hc q hq, rs_124 c hc q hq⟩
set_option maxRecDepth 100000 in
theorem rs_125 : ∀ c ∈ cd_125, ∀ q ∈ c.2, rsB 10 q = true := by decide +kernel
theorem PM_125 : PM 125 := fun c hc q hq => ⟨dk_125 c hc q hq, rs_125 c hc q hq⟩
set_option maxRecDepth 100000 in
theorem rs_126 : ∀ c ∈ cd_126, ∀ q ∈ c.2, rsB 10 q = true := by decide +kernel
theorem PM_126 : PM 126 := fun c hc q hq => ⟨dk_126 c hc q hq, rs_126 c hc q hq⟩
set_option maxRecDepth 100000 in
theorem rs_127 : ∀ c ∈ cd_127, ∀ q ∈ c.2, rsB 10 q = true := by decide +kernel
theorem PM_127 : PM 127 := fun c hc q hq => ⟨dk_127 c hc q hq, rs_127 c hc q hq⟩
set_option maxRecDepth 100000 in
theorem rs_128 : ∀ c ∈ cd_128, ∀ q ∈ c.2, rsB 10 q = true := by decide +kernel
theorem PM_128 : PM 128 := fun c hc q hq => ⟨dk_128 c hc q hq, rs_128 c hc q hq⟩
set_option maxRecDepth 100000 in
theorem rs_129 : ∀ c ∈ cd_129, ∀ q ∈ c.2, rsB 10 q = true := by decide +kernel
theorem PM_129 : PM 129 := fun c hc q hq => ⟨dk_129 c hc q hq, rs_129 c hc q hq⟩
set_option maxRecDepth 100000 in
theorem rs_130 : ∀ c ∈ cd_130, ∀ q ∈ c.2, rsB 10 q = true := by decide +kernel
theorem PM_130 : PM 130 := fun c hc q hq => ⟨dk_130 c hc q hq, rs_130 c hc q hq⟩
set_option maxRecDepth 100000 in
theorem rs_131 : ∀ c ∈ cd_131, ∀ q ∈ c.2, rsB 10 q = true := by decide +kernel
theorem PM_131 : PM 131 := fun c hc q hq => ⟨dk_131 c hc q hq, rs_131 c hc q hq⟩
set_option maxRecDepth 100000 in
theorem rs_132 : ∀ c ∈ cd_132, ∀ q ∈ c.2, rsB 10 q = true := by decide +kernel
theorem PM_132 : PM 132 := fun c hc q hq => ⟨dk_132 c hc q hq, rs_132 c hc q hq⟩
set_option maxRecDepth 100000 in
theorem rs_133 : ∀ c ∈ cd_133, ∀ q ∈ c.2, rsB 10 q = true := by decide +kernel
theorem PM_133 : PM 133 := fun c hc q hq => ⟨dk_133 c hc q hq, rs_133 c hc q hq⟩
set_option maxRecDepth 100000 in
theorem rs_134 : ∀ c ∈ cd_134, ∀ q ∈ c.2, rsB 10 q = true := by decide +kernel
theorem PM_134 : PM 134 := fun c hc q hq => ⟨dk_134 c hc q hq, rs_134 c hc q hq⟩
set_option maxRecDepth 100000 in
theorem rs_135 : ∀ c ∈ cd_135, ∀ q ∈ c.2, rsB 10 q = true := by decide +kernel
theorem PM_135 : PM 135 := fun c hc q hq => ⟨dk_135 c hc q hq, rs_135 c hc q hq⟩
set_option maxRecDepth 100000 in
theorem rs_136 : ∀ c ∈ cd_136, ∀ q ∈ c.2, rsB 10 q = true := by decide +kernel
theorem PM_136 : PM 136 := fun c hc q hq => ⟨dk_136 c hc q hq, rs_136 c hc q hq⟩
set_option maxRecDepth 100000 in
theorem rs_137 : ∀ c ∈ cd_137, ∀ q ∈ c.2, rsB 10 q = true := by decide +kernel
theorem PM_137 : PM 137 := fun c hc q hq => ⟨dk_137 c hc q hq, rs_137 c hc q hq⟩
set_option maxRecDepth 100000 in
theorem rs_138 : ∀ c ∈ cd_138, ∀ q ∈ c.2, rsB 10 q = true := by decide +kernel
theorem PM_138 : PM 138 := fun c hc q hq => ⟨dk_138 c hc q hq, rs_138 c hc q hq⟩
set_option maxRecDepth 100000 in
theorem rs_139 : ∀ c ∈ cd_139, ∀ q ∈ c.2, rsB 10 q = true := by decide +kernel
theorem PM_139 : PM 139 := fun c hc q hq => ⟨dk_139 c hc q hq, rs_139 c hc q hq⟩
set_option maxRecDepth 100000 in
theorem rs_140 : ∀ c ∈ cd_140, ∀ q ∈ c.2, rsB 10 q = true := by decide +kernel
theorem PM_140 : PM 140 := fun c hc q hq => ⟨dk_140 c hc q hq, rs_140 c hc q hq⟩
set_option maxRecDepth 100000 in
theorem rs_141 : ∀ c ∈ cd_141, ∀ q ∈ c.2, rsB 10 q = true := by decide +kernel
theorem PM_141 : PM 141 := fun c hc q hq => ⟨dk_141 c hc q hq, rs_141 c hc q hq⟩
set_option maxRecDepth 100000 in
theorem rs_142 : ∀ c ∈ cd_142, ∀ q ∈ c.2, rsB 10 q = true := by decide +kernel
theorem PM_142 : PM 142 := fun c hc q hq => ⟨dk_142 c hc q hq, rs_142 c hc q hq⟩
set_option maxRecDepth 100000 in
theorem rs_143 : ∀ c ∈ cd_143, ∀ q ∈ c.2, rsB 10 q = true := by decide +kernel
theorem PM_143 : PM 143 := fun c hc q hq => ⟨dk_143 c hc q hq, rs_143 c hc q hq⟩
set_option maxRecDepth 100000 in
theorem rs_144 : ∀ c ∈ cd_144, ∀ q ∈ c.2, rsB 10 q = true := by decide +kernel
theorem PM_144 : PM 144 := fun c hc q hq => ⟨dk_144 c hc q hq, rs_144 c hc q hq⟩
set_option maxRecDepth 100000 in
theorem rs_145 : ∀ c ∈ cd_145, ∀ q ∈ c.2, rsB 10 q = true := by decide +kernel
theorem PM_145 : PM 145 := fun c hc q hq => ⟨dk_145 c hc q hq, rs_145 c hc q hq⟩
set_option maxRecDepth 100000 in
theorem rs_146 : ∀ c ∈ cd_146, ∀ q ∈ c.2, rsB 10 q = true := by decide +kernel
theorem PM_146 : PM 146 := fun c hc q hq => ⟨dk_146 c hc q hq, rs_146 c hc q hq⟩
set_option maxRecDepth 100000 in
theorem rs_147 : ∀ c ∈ cd_147, ∀ q ∈ c.2, rsB 11 q = true := by decide +kernel
theorem PM_147 : PM 147 := fun c hc q hq => ⟨dk_147 c hc q hq, rs_147 c hc q hq⟩
set_option maxRecDepth 100000 in
theorem rs_148 : ∀ c ∈ cd_148, ∀ q ∈ c.2, rsB 11 q = true := by decide +kernel
theorem PM_148 : PM 148 := fun c hc q hq => ⟨dk_148 c hc q hq, rs_148 c hc q hq⟩
set_option maxRecDepth 100000 in
theorem rs_149 : ∀ c ∈ cd_149, ∀ q ∈ c.2, rsB 11 q = true := by decide +kernel
theorem PM_149 : PM 149 := fun c hc q hq => ⟨dk_149 c hc q hq, rs_149 c hc q hq⟩
set_option maxRecDepth 100000 in
theorem rs_150 : ∀ c ∈ cd_150, ∀ q ∈ c.2, rsB 11 q = true := by decide +kernel
theorem PM_150 : PM 150 := fun c hc q hq => ⟨dk_150 c hc q hq, rs_150 c hc q hq⟩
set_option maxRecDepth 100000 in
theorem rs_151 : ∀ c ∈ cd_151, ∀ q ∈ c.2, rsB 11 q = true := by decide +kernel
theorem PM_151 : PM 151 := fun c hc q hq => ⟨dk_151 c hc q hq, rs_151 c hc q hq⟩
set_option maxRecDepth 100000 in
theorem rs_152 : ∀ c ∈ cd_152, ∀ q ∈ c.2, rsB 11 q = true := by decide +kernel
theorem PM_152 : PM 152 := fun c hc q hq => ⟨dk_152 c hc q hq, rs_152 c hc q hq⟩
set_option maxRecDepth 100000 in
theorem rs_153 : ∀ c ∈ cd_153, ∀ q ∈ c.2, rsB 11 q = true := by decide +kernel
theorem PM_153 : PM 153 := fun c hc q hq => ⟨dk_153 c hc q hq, rs_153 c hc q hq⟩
set_option maxRecDepth 100000 in
theorem rs_154 : ∀ c ∈ cd_154, ∀ q ∈ c.2, rsB 11 q = true := by decide +kernel
theorem PM_154 : PM 154 := fun c hc q hq => ⟨dk_154 c hc q hq, rs_154 c hc q hq⟩
set_option maxRecDepth 100000 in
theorem rs_155 : ∀ c ∈ cd_155, ∀ q ∈ c.2, rsB 11 q = true := by decide +kernel
theorem PM_155 : PM 155 := fun c hc q hq => ⟨dk_155 c hc q hq, rs_155 c hc q hq⟩
set_option maxRecDepth 100000 in
theorem rs_156 : ∀ c ∈ cd_156, ∀ q ∈ c.2, rsB 11 q = true := by decide +kernel
theorem PM_156 : PM 156 := fun c hc q hq => ⟨dk_156 c hc q hq, rs_156 c hc q hq⟩
set_option maxRecDepth 100000 in
theorem rs_157 : ∀ c ∈ cd_157, ∀ q ∈ c.2, rsB 11 q = true := by decide +kernel
theorem PM_157 : PM 157 := fun c hc q hq => ⟨dk_157 c hc q hq, rs_157 c hc q hq⟩
set_option maxRecDepth 100000 in
theorem rs_158 : ∀ c ∈ cd_158, ∀ q ∈ c.2, rsB 11 q = true := by decide +kernel
theorem PM_158 : PM 158 := fun c hc q hq => ⟨dk_158 c hc q hq, rs_158 c hc q hq⟩
set_option maxRecDepth 100000 in
theorem rs_159 : ∀ c ∈ cd_159, ∀ q ∈ c.2, rsB 11 q = true := by decide +kernel
theorem PM_159 : PM 159 := fun c hc q hq => ⟨dk_159 c hc q hq, rs_159 c hc q hq⟩
set_option maxRecDepth 100000 in
theorem rs_160 : ∀ c ∈ cd_160, ∀ q ∈ c.2, rsB 11 q = true := by decide +kernel
theorem PM_160 : PM 160 := fun c hc q hq => ⟨dk_160 c hc q hq, rs_160 c hc q hq⟩
set_option maxRecDepth 100000 in
theorem rs_161 : ∀ c ∈ cd_161, ∀ q ∈ c.2, rsB 11 q = true := by decide +kernel
theorem PM_161 : PM 161 := fun c hc q hq => ⟨dk_161 c hc q hq, rs_161 c hc q hq⟩
set_option maxRecDepth 100000 in
theorem rs_162 : ∀ c ∈ cd_162, ∀ q ∈ c.2, rsB 11 q = true := by decide +kernel
theorem PM_162 : PM 162 := fun c hc q hq => ⟨dk_162 c hc q hq, rs_162 c hc q hq⟩
set_option maxRecDepth 100000 in
theorem rs_163 : ∀ c ∈ cd_163, ∀ q ∈ c.2, rsB 11 q = true := by decide +kernel
theorem PM_163 : PM 163 := fun c hc q hq => ⟨dk_163 c hc q hq, rs_163 c hc q hq⟩
set_option maxRecDepth 100000 in
theorem rs_164 : ∀ c ∈ cd_164, ∀ q ∈ c.2, rsB 11 q = true := by decide +kernel
theorem PM_164 : PM 164 := fun c hc q hq => ⟨dk_164 c hc q hq, rs_164 c hc q hq⟩
set_option maxRecDepth 100000 in
theorem rs_165 : ∀ c ∈ cd_165, ∀ q ∈ c.2, rsB 11 q = true := by decide +kernel
theorem PM_165 : PM 165 := fun c hc q hq => ⟨dk_165 c hc q hq, rs_165 c hc q hq⟩
set_option maxRecDepth 100000 in
theorem rs_166 : ∀ c ∈ cd_166, ∀ q ∈ c.2, rsB 11 q = true := by decide +kernel
theorem PM_166 : PM 166 := fun c hc q hq => ⟨dk_166 c hc q hq, rs_166 c hc q hq⟩
set_option maxRecDepth 100000 in
theorem rs_167 : ∀ c ∈ cd_167, ∀ q ∈ c.2, rsB 11 q = true := by decide +kernel
theorem PM_167 : PM 167 := fun c hc q hq => ⟨dk_167 c hc q hq, rs_167 c hc q hq⟩
set_option maxRecDepth 100000 in
theorem rs_168 : ∀ c ∈ cd_168, ∀ q ∈ c.2, rsB 11 q = true := by decide +kernel
theorem PM_168 : PM 168 := fun c hc q hq => ⟨dk_168 c hc q hq, rs_168 c hc q hq⟩
set_option maxRecDepth 100000 in
theorem rs_169 : ∀ c ∈ cd_169, ∀ q ∈ c.2, rsB 11 q = true := by decide +kernel
theorem PM_169 : PM 169 := fun c hc q hq => ⟨dk_169 c hc q hq, rs_169 c hc q hq⟩
set_option maxRecDepth 100000 in
theorem rs_170 : ∀ c ∈ cd_170, ∀ q ∈ c.2, rsB 11 q = true := by decide +kernel
theorem PM_170 : PM 170 := fun c hc q hq => ⟨dk_170 c hc q hq, rs_170 c hc q hq⟩
set_option maxRecDepth 100000 in
theorem rs_171 : ∀ c ∈ cd_171, ∀ q ∈ c.2, rsB 11 q = true := by decide +kernel
theorem PM_171 : PM 171 := fun c hc q hq => ⟨dk_171 c hc q hq, rs_171 c hc q hq⟩
set_option maxRecDepth 100000 in
theorem rs_172 : ∀ c ∈ cd_172, ∀ q ∈ c.2, rsB 11 q = true := by decide +kernel
theorem PM_172 : PM 172 := fun c hc q hq => ⟨dk_172 c hc q hq, rs_172 c hc q hq⟩
set_option maxRecDepth 100000 in
theorem rs_173 : ∀ c ∈ cd_173, ∀ q ∈ c.2, rsB 11 q = true := by decide +kernel
theorem PM_173 : PM 173 := fun c hc q hq => ⟨dk_173 c hc q hq, rs_173 c hc q hq⟩
set_option maxRecDepth 100000 in
theorem rs_174 : ∀ c ∈ cd_174, ∀ q ∈ c.2, rsB 11 q = true := by decide +kernel
theorem PM_174 : PM 174 := fun c hc q hq => ⟨dk_174 c hc q hq, rs_174 c hc q hq⟩
set_option maxRecDepth 100000 in
theorem rs_175 : ∀ c ∈ cd_175, ∀ q ∈ c.2, rsB 11 q = true := by decide +kernel
theorem PM_175 : PM 175 := fun c hc q hq => ⟨dk_175 c hc q hq, rs_175 c hc q hq⟩
set_option maxRecDepth 100000 in
theorem rs_176 : ∀ c ∈ cd_176, ∀ q ∈ c.2, rsB 11 q = true := by decide +kernel
theorem PM_176 : PM 176 := fun c hc q hq => ⟨dk_176 c hc q hq, rs_176 c hc q hq⟩
set_option maxRecDepth 100000 in
theorem rs_177 : ∀ c ∈ cd_177, ∀ q ∈ c.2, rsB 11 q = true := by decide +kernel
theorem PM_177 : PM 177 := fun c hc q hq => ⟨dk_177 c hc q hq, rs_177 c hc q hq⟩
set_option maxRecDepth 100000 in
theorem rs_178 : ∀ c ∈ cd_178, ∀ q ∈ c.2, rsB 11 q = true := by decide +kernel
theorem PM_178 : PM 178 := fun c hc q hq => ⟨dk_178 c hc q hq, rs_178 c hc q hq⟩
set_option maxRecDepth 100000 in
theorem rs_179 : ∀ c ∈ cd_179, ∀ q ∈ c.2, rsB 11 q = true := by decide +kernel
theorem PM_179 : PM 179 := fun c hc q hq => ⟨dk_179 c hc q hq, rs_179 c hc q hq⟩
set_option maxRecDepth 100000 in
theorem rs_180 : ∀ c ∈ cd_180, ∀ q ∈ c.2, rsB 11 q = true := by decide +kernel
theorem PM_180 : PM 180 := fun c hc q hq => ⟨dk_180 c hc q hq, rs_180 c hc q hq⟩
set_option maxRecDepth 100000 in
theorem rs_181 : ∀ c ∈ cd_181, ∀ q ∈ c.2, rsB 11 q = true := by decide +kernel
theorem PM_181 : PM 181 := fun c hc q hq => ⟨dk_181 c hc q hq, rs_181 c hc q hq⟩
set_option maxRecDepth 100000 in
theorem rs_182 : ∀ c ∈ cd_182, ∀ q ∈ c.2, rsB 11 q = true := by decide +kernel
theorem PM_182 : PM 182 := fun c hc q hq => ⟨dk_182 c hc q hq, rs_182 c hc q hq⟩
set_option maxRecDepth 100000 in
theorem rs_183 : ∀ c ∈ cd_183, ∀ q ∈ c.2, rsB 11 q = true := by decide +kernel
theorem PM_183 : PM 183 := fun c hc q hq => ⟨dk_183 c hc q hq, rs_183 c hc q hq⟩
set_option maxRecDepth 100000 in
theorem rs_184 : ∀ c ∈ cd_184, ∀ q ∈ c.2, rsB 11 q = true := by decide +kernel
theorem PM_184 : PM 184 := fun c hc q hq => ⟨dk_184 c hc q hq, rs_184 c hc q hq⟩
set_option maxRecDepth 100000 in
theorem rs_185 : ∀ c ∈ cd_185, ∀ q ∈ c.2, rsB 11 q = true := by decide +kernel
theorem PM_185 : PM 185 := fun c hc q hq => ⟨dk_185 c hc q hq, rs_185 c hc q hq⟩
set_option maxRecDepth 100000 in
theorem rs_186 : ∀ c ∈ cd_186, ∀ q ∈ c.2, rsB 11 q = true := by decide +kernel
theorem PM_186 : PM 186 := fun c hc q hq => ⟨dk_186 c hc q hq, rs_186 c hc q hq⟩
set_option maxRecDepth 100000 in
theorem rs_187 : ∀ c ∈ cd_187, ∀ q ∈ c.2, rsB 11 q = true := by decide +kernel
theorem PM_187 : PM 187 := fun c hc q hq => ⟨dk_187 c hc q hq, rs_187 c hc q hq⟩
set_option maxRecDepth 100000 in
theorem rs_188 : ∀ c ∈ cd_188, ∀ q ∈ c.2, rsB 11 q = true := by decide +kernel
theorem PM_188 : PM 188 := fun c hc q hq => ⟨dk_188 c hc q hq, rs_188 c hc q hq⟩
set_option maxRecDepth 100000 in
theorem rs_189 : ∀ c ∈ cd_189, ∀ q ∈ c.2, rsB 11 q = true := by decide +kernel
theorem PM_189 : PM 189 := fun c hc q hq => ⟨dk_189 c hc q hq, rs_189 c hc q hq⟩
set_option maxRecDepth 100000 in
theorem rs_190 : ∀ c ∈ cd_190, ∀ q ∈ c.2, rsB 11 q = true := by decide +kernel
theorem PM_190 : PM 190 := fun c hc q hq => ⟨dk_190 c hc q hq, rs_190 c hc q hq⟩
set_option maxRecDepth 100000 in
theorem rs_191 : ∀ c ∈ cd_191, ∀ q ∈ c.2, rsB 11 q = true := by decide +kernel
theorem PM_191 : PM 191 := fun c hc q hq => ⟨dk_191 c hc q hq, rs_191 c hc q hq⟩
set_option maxRecDepth 100000 in
theorem rs_192 : ∀ c ∈ cd_192, ∀ q ∈ c.2, rsB 11 q = true := by decide +kernel
theorem PM_192 : PM 192 := fun c hc q hq => ⟨dk_192 c hc q hq, rs_192 c hc q hq⟩
set_option maxRecDepth 100000 in
theorem rs_193 : ∀ c ∈ cd_193, ∀ q ∈ c.2, rsB 11 q = true := by decide +kernel
theorem PM_193 : PM 193 := fun c hc q hq => ⟨dk_193 c hc q hq, rs_193 c hc q hq⟩
set_option maxRecDepth 100000 in
theorem rs_194 : ∀ c ∈ cd_194, ∀ q ∈ c.2, rsB 11 q = true := by decide +kernel
theorem PM_194 : PM 194 := fun c hc q hq => ⟨dk_194 c hc q hq, rs_194 c hc q hq⟩
set_option maxRecDepth 100000 in
theorem rs_195 : ∀ c ∈ cd_195, ∀ q ∈ c.2, rsB 11 q = true := by decide +kernel
theorem PM_195 : PM 195 := fun c hc q hq => ⟨dk_195 c hc q hq, rs_195 c hc q hq⟩
set_option maxRecDepth 100000 in
theorem rs_196 : ∀ c ∈ cd_196, ∀ q ∈ c.2, rsB 11 q = true := by decide +kernel
theorem PM_196 : PM 196 := fun c hc q hq => ⟨dk_196 c hc q hq, rs_196 c hc q hq⟩
set_option maxRecDepth 100000 in
theorem rs_197 : ∀ c ∈ cd_197, ∀ q ∈ c.2, rsB 11 q = true := by decide +kernel
theorem PM_197 : PM 197 := fun c hc q hq => ⟨dk_197 c hc q hq, rs_197 c hc q hq⟩
set_option maxRecDepth 100000 in
theorem rs_198 : ∀ c ∈ cd_198, ∀ q ∈ c.2, rsB 11 q = true := by decide +kernel
theorem PM_198 : PM 198 := fun c hc q hq => ⟨dk_198 c hc q hq, rs_198 c hc q hq⟩
set_option maxRecDepth 100000 in
theorem rs_199 : ∀ c ∈ cd_199, ∀ q ∈ c.2, rsB 11 q = true := by decide +kernel
theorem PM_199 : PM 199 := fun c hc q hq => ⟨dk_199 c hc q hq, rs_199 c hc q hq⟩
set_option maxRecDepth 100000 in
theorem rs_200 : ∀ c ∈ cd_200, ∀ q ∈ c.2, rsB 11 q = true := by decide +kernel
theorem PM_200 : PM 200 := fun c hc q hq => ⟨dk_200 c hc q hq, rs_200 c hc q hq⟩
set_option maxRecDepth 100000 in
theorem rs_201 : ∀ c ∈ cd_201, ∀ q ∈ c.2, rsB 11 q = true := by decide +kernel
theorem PM_201 : PM 201 := fun c hc q hq => ⟨dk_201 c hc q hq, rs_201 c hc q hq⟩
set_option maxRecDepth 100000 in
theorem rs_202 : ∀ c ∈ cd_202, ∀ q ∈ c.2, rsB 11 q = true := by decide +kernel
theorem PM_202 : PM 202 := fun c hc q hq => ⟨dk_202 c hc q hq, rs_202 c hc q hq⟩
set_option maxRecDepth 100000 in
theorem rs_203 : ∀ c ∈ cd_203, ∀ q ∈ c.2, rsB 11 q = true := by decide +kernel
theorem PM_203 : PM 203 := fun c hc q hq => ⟨dk_203 c hc q hq, rs_203 c hc q hq⟩
set_option maxRecDepth 100000 in
theorem rs_204 : ∀ c ∈ cd_204, ∀ q ∈ c.2, rsB 11 q = true := by decide +kernel
theorem PM_204 : PM 204 := fun c hc q hq => ⟨dk_204 c hc q hq, rs_204 c hc q hq⟩
set_option maxRecDepth 100000 in
theorem rs_205 : ∀ c ∈ cd_205, ∀ q ∈ c.2, rsB 11 q = true := by decide +kernel
theorem PM_205 : PM 205 := fun c hc q hq => ⟨dk_205 c hc q hq, rs_205 c hc q hq⟩
set_option maxRecDepth 100000 in
theorem rs_206 : ∀ c ∈ cd_206, ∀ q ∈ c.2, rsB 11 q = true := by decide +kernel
theorem PM_206 : PM 206 := fun c hc q hq => ⟨dk_206 c hc q hq, rs_206 c hc q hq⟩
set_option maxRecDepth 100000 in
theorem rs_207 : ∀ c ∈ cd_207, ∀ q ∈ c.2, rsB 11 q = true := by decide +kernel
theorem PM_207 : PM 207 := fun c hc q hq => ⟨dk_207 c hc q hq, rs_207 c hc q hq⟩
set_option maxRecDepth 100000 in
theorem rs_208 : ∀ c ∈ cd_208, ∀ q ∈ c.2, rsB 11 q = true := by decide +kernel
theorem PM_208 : PM 208 := fun c hc q hq => ⟨dk_208 c hc q hq, rs_208 c hc q hq⟩
set_option maxRecDepth 100000 in
theorem rs_209 : ∀ c ∈ cd_209, ∀ q ∈ c.2, rsB 11 q = true := by decide +kernel
theorem PM_209 : PM 209 := fun c hc q hq => ⟨dk_209 c hc q hq, rs_209 c hc q hq⟩
set_option maxRecDepth 100000 in
theorem rs_210 : ∀ c ∈ cd_210, ∀ q ∈ c.2, rsB 11 q = true := by decide +kernel
theorem PM_210 : PM 210 := fun c hc q hq => ⟨dk_210 c hc q hq, rs_210 c hc q hq⟩
set_option maxRecDepth 100000 in
theorem rs_211 : ∀ c ∈ cd_211, ∀ q ∈ c.2, rsB 11 q = true := by decide +kernel
theorem PM_211 : PM 211 := fun c hc q hq => ⟨dk_211 c hc q hq, rs_211 c hc q hq⟩
set_option maxRecDepth 100000 in
theorem rs_212 : ∀ c ∈ cd_212, ∀ q ∈ c.2, rsB 11 q = true := by decide +kernel
theorem PM_212 : PM 212 := fun c hc q hq => ⟨dk_212 c hc q hq, rs_212 c hc q hq⟩
set_option maxRecDepth 100000 in
theorem rs_213 : ∀ c ∈ cd_213, ∀ q ∈ c.2, rsB 11 q = true := by decide +kernel
theorem PM_213 : PM 213 := fun c hc q hq => ⟨dk_213 c hc q hq, rs_213 c hc q hq⟩
set_option maxRecDepth 100000 in
theorem rs_214 : ∀ c ∈ cd_214, ∀ q ∈ c.2, rsB 11 q = true := by decide +kernel
theorem PM_214 : PM 214 := fun c hc q hq => ⟨dk_214 c hc q hq, rs_214 c hc q hq⟩
set_option maxRecDepth 100000 in
theorem rs_215 : ∀ c ∈ cd_215, ∀ q ∈ c.2, rsB 11 q = true := by decide +kernel
theorem PM_215 : PM 215 := fun c hc q hq => ⟨dk_215 c hc q hq, rs_215 c hc q hq⟩
set_option maxRecDepth 100000 in
theorem rs_216 : ∀ c ∈ cd_216, ∀ q ∈ c.2, rsB 11 q = true := by decide +kernel
theorem PM_216 : PM 216 := fun c hc q hq => ⟨dk_216 c hc q hq, rs_216 c hc q hq⟩
set_option maxRecDepth 100000 in
theorem rs_217 : ∀ c ∈ cd_217, ∀ q ∈ c.2, rsB 11 q = true := by decide +kernel
theorem PM_217 : PM 217 := fun c hc q hq => ⟨dk_217 c hc q hq, rs_217 c hc q hq⟩
set_option maxRecDepth 100000 in
theorem rs_218 : ∀ c ∈ cd_218, ∀ q ∈ c.2, rsB 11 q = true := by decide +kernel
theorem PM_218 : PM 218 := fun c hc q hq => ⟨dk_218 c hc q hq, rs_218 c hc q hq⟩
set_option maxRecDepth 100000 in
theorem rs_219 : ∀ c ∈ cd_219, ∀ q ∈ c.2, rsB 11 q = true := by decide +kernel
theorem PM_219 : PM 219 := fun c hc q hq => ⟨dk_219 c hc q hq, rs_219 c hc q hq⟩
set_option maxRecDepth 100000 in
theorem rs_220 : ∀ c ∈ cd_220, ∀ q ∈ c.2, rsB 11 q = true := by decide +kernel
theorem PM_220 : PM 220 := fun c hc q hq => ⟨dk_220 c hc q hq, rs_220 c hc q hq⟩
set_option maxRecDepth 100000 in
theorem rs_221 : ∀ c ∈ cd_221, ∀ q ∈ c.2, rsB 11 q = true := by decide +kernel
theorem PM_221 : PM 221 := fun c hc q hq => ⟨dk_221 c hc q hq, rs_221 c hc q hq⟩
set_option maxRecDepth 100000 in
theorem rs_222 : ∀ c ∈ cd_222, ∀ q ∈ c.2, rsB 11 q = true := by decide +kernel
theorem PM_222 : PM 222 := fun c hc q hq => ⟨dk_222 c hc q hq, rs_222 c hc q hq⟩
set_option maxRecDepth 100000 in
theorem rs_223 : ∀ c ∈ cd_223, ∀ q ∈ c.2, rsB 11 q = true := by decide +kernel
theorem PM_223 : PM 223 := fun c hc q hq => ⟨dk_223 c hc q hq, rs_223 c hc q hq⟩
set_option maxRecDepth 100000 in
theorem rs_224 : ∀ c ∈ cd_224, ∀ q ∈ c.2, rsB 11 q = true := by decide +kernel
theorem PM_224 : PM 224 := fun c hc q hq => ⟨dk_224 c hc q hq, rs_224 c hc q hq⟩
set_option maxRecDepth 100000 in
theorem rs_225 : ∀ c ∈ cd_225, ∀ q ∈ c.2, rsB 11 q = true := by decide +kernel
theorem PM_225 : PM 225 := fun c hc q hq => ⟨dk_225 c hc q hq, rs_225 c hc q hq⟩
set_option maxRecDepth 100000 in
theorem rs_226 : ∀ c ∈ cd_226, ∀ q ∈ c.2, rsB 11 q = true := by decide +kernel
theorem PM_226 : PM 226 := fun c hc q hq => ⟨dk_226 c hc q hq, rs_226 c hc q hq⟩
set_option maxRecDepth 100000 in
theorem rs_227 : ∀ c ∈ cd_227, ∀ q ∈ c.2, rsB 11 q = true := by decide +kernel
theorem PM_227 : PM 227 := fun c hc q hq => ⟨dk_227 c hc q hq, rs_227 c hc q hq⟩
set_option maxRecDepth 100000 in
theorem rs_228 : ∀ c ∈ cd_228, ∀ q ∈ c.2, rsB 11 q = true := by decide +kernel
theorem PM_228 : PM 228 := fun c hc q hq => ⟨dk_228 c hc q hq, rs_228 c hc q hq⟩
set_option maxRecDepth 100000 in
theorem rs_229 : ∀ c ∈ cd_229, ∀ q ∈ c.2, rsB 11 q = true := by decide +kernel
theorem PM_229 : PM 229 := fun c hc q hq => ⟨dk_229 c hc q hq, rs_229 c hc q hq⟩
set_option maxRecDepth 100000 in
theorem rs_230 : ∀ c ∈ cd_230, ∀ q ∈ c.2, rsB 11 q = true := by decide +kernel
theorem PM_230 : PM 230 := fun c hc q hq => ⟨dk_230 c hc q hq, rs_230 c hc q hq⟩
set_option maxRecDepth 100000 in
theorem rs_231 : ∀ c ∈ cd_231, ∀ q ∈ c.2, rsB 11 q = true := by decide +kernel
theorem PM_231 : PM 231 := fun c hc q hq => ⟨dk_231 c hc q hq, rs_231 c hc q hq⟩
set_option maxRecDepth 100000 in
theorem rs_232 : ∀ c ∈ cd_232, ∀ q ∈ c.2, rsB 11 q = true := by decide +kernel
theorem PM_232 : PM 232 := fun c hc q hq => ⟨dk_232 c hc q hq, rs_232 c hc q hq⟩
set_option maxRecDepth 100000 in
theorem rs_233 : ∀ c ∈ cd_233, ∀ q ∈ c.2, rsB 11 q = true := by decide +kernel
theorem PM_233 : PM 233 := fun c hc q hq => ⟨dk_233 c hc q hq, rs_233 c hc q hq⟩
set_option maxRecDepth 100000 in
theorem rs_234 : ∀ c ∈ cd_234, ∀ q ∈ c.2, rsB 11 q = true := by decide +kernel
theorem PM_234 : PM 234 := fun c hc q hq => ⟨dk_234 c hc q hq, rs_234 c hc q hq⟩
set_option maxRecDepth 100000 in
theorem rs_235 : ∀ c ∈ cd_235, ∀ q ∈ c.2, rsB 11 q = true := by decide +kernel
theorem PM_235 : PM 235 := fun c hc q hq => ⟨dk_235 c hc q hq, rs_235 c hc q hq⟩
set_option maxRecDepth 100000 in
theorem rs_236 : ∀ c ∈ cd_236, ∀ q ∈ c.2, rsB 11 q = true := by decide +kernel
theorem PM_236 : PM 236 := fun c hc q hq => ⟨dk_236 c hc q hq, rs_236 c hc q hq⟩
set_option maxRecDepth 100000 in
theorem rs_237 : ∀ c ∈ cd_237, ∀ q ∈ c.2, rsB 11 q = true := by decide +kernel
theorem PM_237 : PM 237 := fun c hc q hq => ⟨dk_237 c hc q hq, rs_237 c hc q hq⟩
set_option maxRecDepth 100000 in
theorem rs_238 : ∀ c ∈ cd_238, ∀ q ∈ c.2, rsB 11 q = true := by decide +kernel
theorem PM_238 : PM 238 := fun c hc q hq => ⟨dk_238 c hc q hq, rs_238 c hc q hq⟩
set_option maxRecDepth 100000 in
theorem rs_239 : ∀ c ∈ cd_239, ∀ q ∈ c.2, rsB 11 q = true := by decide +kernel
theorem PM_239 : PM 239 := fun c hc q hq => ⟨dk_239 c hc q hq, rs_239 c hc q hq⟩
set_option maxRecDepth 100000 in
theorem rs_240 : ∀ c ∈ cd_240, ∀ q ∈ c.2, rsB 11 q = true := by decide +kernel
theorem PM_240 : PM 240 := fun c hc q hq => ⟨dk_240 c hc q hq, rs_240 c hc q hq⟩
set_option maxRecDepth 100000 in
theorem rs_241 : ∀ c ∈ cd_241, ∀ q ∈ c.2, rsB 11 q = true := by decide +kernel
theorem PM_241 : PM 241 := fun c hc q hq => ⟨dk_241 c hc q hq, rs_241 c hc q hq⟩
set_option maxRecDepth 100000 in
theorem rs_242 : ∀ c ∈ cd_242, ∀ q ∈ c.2, rsB 11 q = true := by decide +kernel
theorem PM_242 : PM 242 := fun c hc q hq => ⟨dk_242 c hc q hq, rs_242 c hc q hq⟩
set_option maxRecDepth 100000 in
theorem rs_243 : ∀ c ∈ cd_243, ∀ q ∈ c.2, rsB 11 q = true := by decide +kernel
theorem PM_243 : PM 243 := fun c hc q hq => ⟨dk_243 c hc q hq, rs_243 c hc q hq⟩
set_option maxRecDepth 100000 in
theorem rs_244 : ∀ c ∈ cd_244, ∀ q ∈ c.2, rsB 11 q = true := by decide +kernel
theorem PM_244 : PM 244 := fun c hc q hq => ⟨dk_244 c hc q hq, rs_244 c hc q hq⟩
set_option maxRecDepth 100000 in
theorem rs_245 : ∀ c ∈ cd_245, ∀ q ∈ c.2, rsB 11 q = true := by decide +kernel
theorem PM_245 : PM 245 := fun c hc q hq => ⟨dk_245 c hc q hq, rs_245 c hc q hq⟩
set_option maxRecDepth 100000 in
theorem rs_246 : ∀ c ∈ cd_246, ∀ q ∈ c.2, rsB 11 q = true := by decide +kernel
theorem PM_246 : PM 246 := fun c hc q hq => ⟨dk_246 c hc q hq, rs_246 c hc q hq⟩
set_option maxRecDepth 100000 in
theorem rs_247 : ∀ c ∈ cd_247, ∀ q ∈ c.2, rsB 11 q = true := by decide +kernel
theorem PM_247 : PM 247 := fun c hc q hq => ⟨dk_247 c hc q hq, rs_247 c hc q hq⟩
set_option maxRecDepth 100000 in
theorem rs_248 : ∀ c ∈ cd_248, ∀ q ∈ c.2, rsB 11 q = true := by decide +kernel
theorem PM_248 : PM 248 := fun c hc q hq => ⟨dk_248 c hc q hq, rs_248 c hc q hq⟩
set_option maxRecDepth 100000 in
theorem rs_249 : ∀ c ∈ cd_249, ∀ q ∈ c.2, rsB 11 q = true := by decide +kernel
theorem PM_249 : PM 249 := fun c hc q hq => ⟨dk_249 c hc q hq, rs_249 c hc q hq⟩
set_option maxRecDepth 100000 in
theorem rs_250 : ∀ c ∈ cd_250, ∀ q ∈ c.2, rsB 11 q = true := by decide +kernel
theorem PM_250 : PM 250 := fun c hc q hq => ⟨dk_250 c hc q hq, rs_250 c hc q hq⟩
set_option maxRecDepth 100000 in
theorem rs_251 : ∀ c ∈ cd_251, ∀ q ∈ c.2, rsB 11 q = true := by decide +kernel
theorem PM_251 : PM 251 := fun c hc q hq => ⟨dk_251 c hc q hq, rs_251 c hc q hq⟩
set_option maxRecDepth 100000 in
theorem rs_252 : ∀ c ∈ cd_252, ∀ q ∈ c.2, rsB 11 q = true := by decide +kernel
theorem PM_252 : PM 252 := fun c hc q hq => ⟨dk_252 c hc q hq, rs_252 c hc q hq⟩
set_option maxRecDepth 100000 in
theorem rs_253 : ∀ c ∈ cd_253, ∀ q ∈ c.2, rsB 11 q = true := by decide +kernel
theorem PM_253 : PM 253 := fun c hc q hq => ⟨dk_253 c hc q hq, rs_253 c hc q hq⟩
set_option maxRecDepth 100000 in
theorem rs_254 : ∀ c ∈ cd_254, ∀ q ∈ c.2, rsB 11 q = true := by decide +kernel
theorem PM_254 : PM 254 := fun c hc q hq => ⟨dk_254 c hc q hq, rs_254 c hc q hq⟩
set_option maxRecDepth 100000 in
theorem rs_255 : ∀ c ∈ cd_255, ∀ q ∈ c.2, rsB 1 q = true := by decide +kernel
theorem PM_255 : PM 255 := fun c hc q hq => ⟨dk_255 c hc q hq, rs_255 c hc q hq⟩
set_option maxRecDepth 100000 in
theorem rs_256 : ∀ c ∈ cd_256, ∀ q ∈ c.2, rsB 12 q = true := by decide +kernel
theorem PM_256 : PM 256 := fun c hc q hq => ⟨dk_256 c hc q hq, rs_256 c hc q hq⟩
theorem PMb_0 : ∀ mi ∈ ([0, 1, 2, 3, 4, 5, 6, 7, 8, 9, 10, 11, 12, 13, 14, 15] : List Nat), PM mi := List.forall_mem_cons.mpr ⟨PM_0, List.forall_mem_cons.mpr ⟨PM_1, List.forall_mem_cons.mpr ⟨PM_2, List.forall_mem_cons.mpr ⟨PM_3, List.forall_mem_cons.mpr ⟨PM_4, List.forall_mem_cons.mpr ⟨PM_5, List.forall_mem_cons.mpr ⟨PM_6, List.forall_mem_cons.mpr ⟨PM_7, List.forall_mem_cons.mpr ⟨PM_8, List.forall_mem_cons.mpr ⟨PM_9, List.forall_mem_cons.mpr ⟨PM_10, List.forall_mem_cons.mpr ⟨PM_11, List.forall_mem_cons.mpr ⟨PM_12, List.forall_mem_cons.mpr ⟨PM_13, List.forall_mem_cons.mpr ⟨PM_14, List.forall_mem_cons.mpr ⟨PM_15, fun _ h => absurd h List.not_mem_nil⟩⟩⟩⟩⟩⟩⟩⟩⟩⟩⟩⟩⟩⟩⟩⟩
theorem PMb_1 : ∀ mi ∈ ([16, 17, 18, 19, 20, 21, 22, 23, 24, 25, 26, 27, 28, 29, 30, 31] : List Nat), PM mi := List.forall_mem_cons.mpr ⟨PM_16, List.forall_mem_cons.mpr ⟨PM_17, List.forall_mem_cons.mpr ⟨PM_18, List.forall_mem_cons.mpr ⟨PM_19, List.forall_mem_cons.mpr ⟨PM_20, List.forall_mem_cons.mpr ⟨PM_21, List.forall_mem_cons.mpr ⟨PM_22, List.forall_mem_cons.mpr ⟨PM_23, List.forall_mem_cons.mpr ⟨PM_24, List.forall_mem_cons.mpr ⟨PM_25, List.forall_mem_cons.mpr ⟨PM_26, List.forall_mem_cons.mpr ⟨PM_27, List.forall_mem_cons.mpr ⟨PM_28, List.forall_mem_cons.mpr ⟨PM_29, List.forall_mem_cons.mpr ⟨PM_30, List.forall_mem_cons.mpr ⟨PM_31, fun _ h => absurd h List.not_mem_nil⟩⟩⟩⟩⟩⟩⟩⟩⟩⟩⟩⟩⟩⟩⟩⟩
theorem PMb_2 : ∀ mi ∈ ([32, 33, 34, 35, 36, 37, 38, 39, 40, 41, 42, 43, 44, 45, 46, 47] : List Nat), PM mi := List.forall_mem_cons.mpr ⟨PM_32, List.forall_mem_cons.mpr ⟨PM_33, List.forall_mem_cons.mpr ⟨PM_34, List.forall_mem_cons.mpr ⟨PM_35, List.forall_mem_cons.mpr ⟨PM_36, List.forall_mem_cons.mpr ⟨PM_37, List.forall_mem_cons.mpr ⟨PM_38, List.forall_mem_cons.mpr ⟨PM_39, List.forall_mem_cons.mpr ⟨PM_40, List.forall_mem_cons.mpr ⟨PM_41, List.forall_mem_cons.mpr ⟨PM_42, List.forall_mem_cons.mpr ⟨PM_43, List.forall_mem_cons.mpr ⟨PM_44, List.forall_mem_cons.mpr ⟨PM_45, List.forall_mem_cons.mpr ⟨PM_46, List.forall_mem_cons.mpr ⟨PM_47, fun _ h => absurd h List.not_mem_nil⟩⟩⟩⟩⟩⟩⟩⟩⟩⟩⟩⟩⟩⟩⟩⟩
theorem PMb_3 : ∀ mi ∈ ([48, 49, 50, 51, 52, 53, 54, 55, 56, 57, 58, 59, 60, 61, 62, 63] : List Nat), PM mi := List.forall_mem_cons.mpr ⟨PM_48, List.forall_mem_cons.mpr ⟨PM_49, List.forall_mem_cons.mpr ⟨PM_50, List.forall_mem_cons.mpr ⟨PM_51, List.forall_mem_cons.mpr ⟨PM_52, List.forall_mem_cons.mpr ⟨PM_53, List.forall_mem_cons.mpr ⟨PM_54, List.forall_mem_cons.mpr ⟨PM_55, List.forall_mem_cons.mpr ⟨PM_56, List.forall_mem_cons.mpr ⟨PM_57, List.forall_mem_cons.mpr ⟨PM_58, List.forall_mem_cons.mpr ⟨PM_59, List.forall_mem_cons.mpr ⟨PM_60, List.forall_mem_cons.mpr ⟨PM_61, List.forall_mem_cons.mpr ⟨PM_62, List.forall_mem_cons.mpr ⟨PM_63, fun _ h => absurd h List.not_mem_nil⟩⟩⟩⟩⟩⟩⟩⟩⟩⟩⟩⟩⟩⟩⟩⟩
theorem PMb_4 : ∀ mi ∈ ([64, 65, 66, 67, 68, 69, 70, 71, 72, 73, 74, 75, 76, 77, 78, 79] : List Nat), PM mi := List.forall_mem_cons.mpr ⟨PM_64, List.forall_mem_cons.mpr ⟨PM_65, List.forall_mem_cons.mpr ⟨PM_66, List.forall_mem_cons.mpr ⟨PM_67, List.forall_mem_cons.mpr ⟨PM_68, List.forall_mem_cons.mpr ⟨PM_69, List.forall_mem_cons.mpr ⟨PM_70, List.forall_mem_cons.mpr ⟨PM_71, List.forall_mem_cons.mpr ⟨PM_72, List.forall_mem_cons.mpr ⟨PM_73, List.forall_mem_cons.mpr ⟨PM_74, List.forall_mem_cons.mpr ⟨PM_75, List.forall_mem_cons.mpr ⟨PM_76, List.forall_mem_cons.mpr ⟨PM_77, List.forall_mem_cons.mpr ⟨PM_78, List.forall_mem_cons.mpr ⟨PM_79, fun _ h => absurd h List.not_mem_nil⟩⟩⟩⟩⟩⟩⟩⟩⟩⟩⟩⟩⟩⟩⟩⟩
theorem PMb_5 : ∀ mi ∈ ([80, 81, 82, 83, 84, 85, 86, 87, 88, 89, 90, 91, 92, 93, 94, 95] : List Nat), PM mi := List.forall_mem_cons.mpr ⟨PM_80, List.forall_mem_cons.mpr ⟨PM_81, List.forall_mem_cons.mpr ⟨PM_82, List.forall_mem_cons.mpr ⟨PM_83, List.forall_mem_cons.mpr ⟨PM_84, List.forall_mem_cons.mpr ⟨PM_85, List.forall_mem_cons.mpr ⟨PM_86, List.forall_mem_cons.mpr ⟨PM_87, List.forall_mem_cons.mpr ⟨PM_88, List.forall_mem_cons.mpr ⟨PM_89, List.forall_mem_cons.mpr ⟨PM_90, List.forall_mem_cons.mpr ⟨PM_91, List.forall_mem_cons.mpr ⟨PM_92, List.forall_mem_cons.mpr ⟨PM_93, List.forall_mem_cons.mpr ⟨PM_94, List.forall_mem_cons.mpr ⟨PM_95, fun _ h => absurd h List.not_mem_nil⟩⟩⟩⟩⟩⟩⟩⟩⟩⟩⟩⟩⟩⟩⟩⟩
theorem PMb_6 : ∀ mi ∈ ([96, 97, 98, 99, 100, 101, 102, 103, 104, 105, 106, 107, 108, 109, 110, 111] : List Nat), PM mi := List.forall_mem_cons.mpr ⟨PM_96, List.forall_mem_cons.mpr ⟨PM_97, List.forall_mem_cons.mpr ⟨PM_98, List.forall_mem_cons.mpr ⟨PM_99, List.forall_mem_cons.mpr ⟨PM_100, List.forall_mem_cons.mpr ⟨PM_101, List.forall_mem_cons.mpr ⟨PM_102, List.forall_mem_cons.mpr ⟨PM_103, List.forall_mem_cons.mpr ⟨PM_104, List.forall_mem_cons.mpr ⟨PM_105, List.forall_mem_cons.mpr ⟨PM_106, List.forall_mem_cons.mpr ⟨PM_107, List.forall_mem_cons.mpr ⟨PM_108, List.forall_mem_cons.mpr ⟨PM_109, List.forall_mem_cons.mpr ⟨PM_110, List.forall_mem_cons.mpr ⟨PM_111, fun _ h => absurd h List.not_mem_nil⟩⟩⟩⟩⟩⟩⟩⟩⟩⟩⟩⟩⟩⟩⟩⟩
theorem PMb_7 : ∀ mi ∈ ([112, 113, 114, 115, 116, 117, 118, 119, 120, 121, 122, 123, 124, 125, 126, 127] : List Nat), PM mi := List.forall_mem_cons.mpr ⟨PM_112, List.forall_mem_cons.mpr ⟨PM_113, List.forall_mem_cons.mpr ⟨PM_114, List.forall_mem_cons.mpr ⟨PM_115, List.forall_mem_cons.mpr ⟨PM_116, List.forall_mem_cons.mpr ⟨PM_117, List.forall_mem_cons.mpr ⟨PM_118, List.forall_mem_cons.mpr ⟨PM_119, List.forall_mem_cons.mpr ⟨PM_120, List.forall_mem_cons.mpr ⟨PM_121, List.forall_mem_cons.mpr ⟨PM_122, List.forall_mem_cons.mpr ⟨PM_123, List.forall_mem_cons.mpr ⟨PM_124, List.forall_mem_cons.mpr ⟨PM_125, List.forall_mem_cons.mpr ⟨PM_126, List.forall_mem_cons.mpr ⟨PM_127, fun _ h => absurd h List.not_mem_nil⟩⟩⟩⟩⟩⟩⟩⟩⟩⟩⟩⟩⟩⟩⟩⟩
theorem PMb_8 : ∀ mi ∈ ([128, 129, 130, 131, 132, 133, 134, 135, 136, 137, 138, 139, 140, 141, 142, 143] : List Nat), PM mi := List.forall_mem_cons.mpr ⟨PM_128, List.forall_mem_cons.mpr ⟨PM_129, List.forall_mem_cons.mpr ⟨PM_130, List.forall_mem_cons.mpr ⟨PM_131, List.forall_mem_cons.mpr ⟨PM_132, List.forall_mem_cons.mpr ⟨PM_133, List.forall_mem_cons.mpr ⟨PM_134, List.forall_mem_cons.mpr ⟨PM_135, List.forall_mem_cons.mpr ⟨PM_136, List.forall_mem_cons.mpr ⟨PM_137, List.forall_mem_cons.mpr ⟨PM_138, List.forall_mem_cons.mpr ⟨PM_139, List.forall_mem_cons.mpr ⟨PM_140, List.forall_mem_cons.mpr ⟨PM_141, List.forall_mem_cons.mpr ⟨PM_142, List.forall_mem_cons.mpr ⟨PM_143, fun _ h => absurd h List.not_mem_nil⟩⟩⟩⟩⟩⟩⟩⟩⟩⟩⟩⟩⟩⟩⟩⟩
theorem PMb_9 : ∀ mi ∈ ([144, 145, 146, 147, 148, 149, 150, 151, 152, 153, 154, 155, 156, 157, 158, 159] : List Nat), PM mi := List.forall_mem_cons.mpr ⟨PM_144, List.forall_mem_cons.mpr ⟨PM_145, List.forall_mem_cons.mpr ⟨PM_146, List.forall_mem_cons.mpr ⟨PM_147, List.forall_mem_cons.mpr ⟨PM_148, List.forall_mem_cons.mpr ⟨PM_149, List.forall_mem_cons.mpr ⟨PM_150, List.forall_mem_cons.mpr ⟨PM_151, List.forall_mem_cons.mpr ⟨PM_152, List.forall_mem_cons.mpr ⟨PM_153, List.forall_mem_cons.mpr ⟨PM_154, List.forall_mem_cons.mpr ⟨PM_155, List.forall_mem_cons.mpr ⟨PM_156, List.forall_mem_cons.mpr ⟨PM_157, List.forall_mem_cons.mpr ⟨PM_158, List.forall_mem_cons.mpr ⟨PM_159, fun _ h => absurd h List.not_mem_nil⟩⟩⟩⟩⟩⟩⟩⟩⟩⟩⟩⟩⟩⟩⟩⟩
theorem PMb_10 : ∀ mi ∈ ([160, 161, 162, 163, 164, 165, 166, 167, 168, 169, 170, 171, 172, 173, 174, 175] : List Nat), PM mi := List.forall_mem_cons.mpr ⟨PM_160, List.forall_mem_cons.mpr ⟨PM_161, List.forall_mem_cons.mpr ⟨PM_162, List.forall_mem_cons.mpr ⟨PM_163, List.forall_mem_cons.mpr ⟨PM_164, List.forall_mem_cons.mpr ⟨PM_165, List.forall_mem_cons.mpr ⟨PM_166, List.forall_mem_cons.mpr ⟨PM_167, List.forall_mem_cons.mpr ⟨PM_168, List.forall_mem_cons.mpr ⟨PM_169, List.forall_mem_cons.mpr ⟨PM_170, List.forall_mem_cons.mpr ⟨PM_171, List.forall_mem_cons.mpr ⟨PM_172, List.forall_mem_cons.mpr ⟨PM_173, List.forall_mem_cons.mpr ⟨PM_174, List.forall_mem_cons.mpr ⟨PM_175, fun _ h => absurd h List.not_mem_nil⟩⟩⟩⟩⟩⟩⟩⟩⟩⟩⟩⟩⟩⟩⟩⟩
theorem PMb_11 : ∀ mi ∈ ([176, 177, 178, 179, 180, 181, 182, 183, 184, 185, 186, 187, 188, 189, 190, 191] : List Nat), PM mi := List.forall_mem_cons.mpr ⟨PM_176, List.forall_mem_cons.mpr ⟨PM_177, List.forall_mem_cons.mpr ⟨PM_178, List.forall_mem_cons.mpr ⟨PM_179, List.forall_mem_cons.mpr ⟨PM_180, List.forall_mem_cons.mpr ⟨PM_181, List.forall_mem_cons.mpr ⟨PM_182, List.forall_mem_cons.mpr ⟨PM_183, List.forall_mem_cons.mpr ⟨PM_184, List.forall_mem_cons.mpr ⟨PM_185, List.forall_mem_cons.mpr ⟨PM_186, List.forall_mem_cons.mpr ⟨PM_187, List.forall_mem_cons.mpr ⟨PM_188, List.forall_mem_cons.mpr ⟨PM_189, List.forall_mem_cons.mpr ⟨PM_190, List.forall_mem_cons.mpr ⟨PM_191, fun _ h => absurd h List.not_mem_nil⟩⟩⟩⟩⟩⟩⟩⟩⟩⟩⟩⟩⟩⟩⟩⟩
theorem PMb_12 : ∀ mi ∈ ([192, 193, 194, 195, 196, 197, 198, 199, 200, 201, 202, 203, 204, 205, 206, 207] : List Nat), PM mi := List.forall_mem_cons.mpr ⟨PM_192, List.forall_mem_cons.mpr ⟨PM_193, List.forall_mem_cons.mpr ⟨PM_194, List.forall_mem_cons.mpr ⟨PM_195, List.forall_mem_cons.mpr ⟨PM_196, List.forall_mem_cons.mpr ⟨PM_197, List.forall_mem_cons.mpr ⟨PM_198, List.forall_mem_cons.mpr ⟨PM_199, List.forall_mem_cons.mpr ⟨PM_200, List.forall_mem_cons.mpr ⟨PM_201, List.forall_mem_cons.mpr ⟨PM_202, List.forall_mem_cons.mpr ⟨PM_203, List.forall_mem_cons.mpr ⟨PM_204, List.forall_mem_cons.mpr ⟨PM_205, List.forall_mem_cons.mpr ⟨PM_206, List.forall_mem_cons.mpr ⟨PM_207, fun _ h => absurd h List.not_mem_nil⟩⟩⟩⟩⟩⟩⟩⟩⟩⟩⟩⟩⟩⟩⟩⟩
theorem PMb_13 : ∀ mi ∈ ([208, 209, 210, 211, 212, 213, 214, 215, 216, 217, 218, 219, 220, 221, 222, 223] : List Nat), PM mi := List.forall_mem_cons.mpr ⟨PM_208, List.forall_mem_cons.mpr ⟨PM_209, List.forall_mem_cons.mpr ⟨PM_210, List.forall_mem_cons.mpr ⟨PM_211, List.forall_mem_cons.mpr ⟨PM_212, List.forall_mem_cons.mpr ⟨PM_213, List.forall_mem_cons.mpr ⟨PM_214, List.forall_mem_cons.mpr ⟨PM_215, List.forall_mem_cons.mpr ⟨PM_216, List.forall_mem_cons.mpr ⟨PM_217, List.forall_mem_cons.mpr ⟨PM_218, List.forall_mem_cons.mpr ⟨PM_219, List.forall_mem_cons.mpr ⟨PM_220, List.forall_mem_cons.mpr ⟨PM_221, List.forall_mem_cons.mpr ⟨PM_222, List.forall_mem_cons.mpr ⟨PM_223, fun _ h => absurd h List.not_mem_nil⟩⟩⟩⟩⟩⟩⟩⟩⟩⟩⟩⟩⟩⟩⟩⟩
theorem PMb_14 : ∀ mi ∈ ([224, 225, 226, 227, 228, 229, 230, 231, 232, 233, 234, 235, 236, 237, 238, 239] : List Nat), PM mi := List.forall_mem_cons.mpr ⟨PM_224, List.forall_mem_cons.mpr ⟨PM_225, List.forall_mem_cons.mpr ⟨PM_226, List.forall_mem_cons.mpr ⟨PM_227, List.forall_mem_cons.mpr ⟨PM_228, List.forall_mem_cons.mpr ⟨PM_229, List.forall_mem_cons.mpr ⟨PM_230, List.forall_mem_cons.mpr ⟨PM_231, List.forall_mem_cons.mpr ⟨PM_232, List.forall_mem_cons.mpr ⟨PM_233, List.forall_mem_cons.mpr ⟨PM_234, List.forall_mem_cons.mpr ⟨PM_235, List.forall_mem_cons.mpr ⟨PM_236, List.forall_mem_cons.mpr ⟨PM_237, List.forall_mem_cons.mpr ⟨PM_238, List.forall_mem_cons.mpr ⟨PM_239, fun _ h => absurd h List.not_mem_nil⟩⟩⟩⟩⟩⟩⟩⟩⟩⟩⟩⟩⟩⟩⟩⟩
theorem PMb_15 : ∀ mi ∈ ([240, 241, 242, 243, 244, 245, 246, 247, 248, 249, 250, 251, 252, 253, 254, 255] : List Nat), PM mi := List.forall_mem_cons.mpr ⟨PM_240, List.forall_mem_cons.mpr ⟨PM_241, List.forall_mem_cons.mpr ⟨PM_242, List.forall_mem_cons.mpr ⟨PM_243, List.forall_mem_cons.mpr ⟨PM_244, List.forall_mem_cons.mpr ⟨PM_245, List.forall_mem_cons.mpr ⟨PM_246, List.forall_mem_cons.mpr ⟨PM_247, List.forall_mem_cons.mpr ⟨PM_248, List.forall_mem_cons.mpr ⟨PM_249, List.forall_mem_cons.mpr ⟨PM_250, List.forall_mem_cons.mpr ⟨PM_251, List.forall_mem_cons.mpr ⟨PM_252, List.forall_mem_cons.mpr ⟨PM_253, List.forall_mem_cons.mpr ⟨PM_254, List.forall_mem_cons.mpr ⟨PM_255, fun _ h => absurd h List.not_mem_nil⟩⟩⟩⟩⟩⟩⟩⟩⟩⟩⟩⟩⟩⟩⟩⟩
theorem PMb_16 : ∀ mi ∈ ([256] : List Nat), PM mi := List.forall_mem_cons.mpr ⟨PM_256, fun _ h => absurd h List.not_mem_nil⟩
set_option maxRecDepth 100000 in
theorem PM_all (mi : Nat) : PM mi := by
  rcases Nat.lt_or_ge mi 257 with h | h
  · have e : List.range 257 = (([0, 1, 2, 3, 4, 5, 6, 7, 8, 9, 10, 11, 12, 13, 14, 15] ++ ([16, 17, 18, 19, 20, 21, 22, 23, 24, 25, 26, 27, 28, 29, 30, 31] ++ ([32, 33, 34, 35, 36, 37, 38, 39, 40, 41, 42, 43, 44, 45, 46, 47] ++ ([48, 49, 50, 51, 52, 53, 54, 55, 56, 57, 58, 59, 60, 61, 62, 63] ++ ([64, 65, 66, 67, 68, 69, 70, 71, 72, 73, 74, 75, 76, 77, 78, 79] ++ ([80, 81, 82, 83, 84, 85, 86, 87, 88, 89, 90, 91, 92, 93, 94, 95] ++ ([96, 97, 98, 99, 100, 101, 102, 103, 104, 105, 106, 107, 108, 109, 110, 111] ++ ([112, 113, 114, 115, 116, 117, 118, 119, 120, 121, 122, 123, 124, 125, 126, 127] ++ ([128, 129, 130, 131, 132, 133, 134, 135, 136, 137, 138, 139, 140, 141, 142, 143] ++ ([144, 145, 146, 147, 148, 149, 150, 151, 152, 153, 154, 155, 156, 157, 158, 159] ++ ([160, 161, 162, 163, 164, 165, 166, 167, 168, 169, 170, 171, 172, 173, 174, 175] ++ ([176, 177, 178, 179, 180, 181, 182, 183, 184, 185, 186, 187, 188, 189, 190, 191] ++ ([192, 193, 194, 195, 196, 197, 198, 199, 200, 201, 202, 203, 204, 205, 206, 207] ++ ([208, 209, 210, 211, 212, 213, 214, 215, 216, 217, 218, 219, 220, 221, 222, 223] ++ ([224, 225, 226, 227, 228, 229, 230, 231, 232, 233, 234, 235, 236, 237, 238, 239] ++ ([240, 241, 242, 243, 244, 245, 246, 247, 248, 249, 250, 251, 252, 253, 254, 255] ++ [256])))))))))))))))) : List Nat) := by decide +kernel
    have hm : mi ∈ (([0, 1, 2, 3, 4, 5, 6, 7, 8, 9, 10, 11, 12, 13, 14, 15] ++ ([16, 17, 18, 19, 20, 21, 22, 23, 24, 25, 26, 27, 28, 29, 30, 31] ++ ([32, 33, 34, 35, 36, 37, 38, 39, 40, 41, 42, 43, 44, 45, 46, 47] ++ ([48, 49, 50, 51, 52, 53, 54, 55, 56, 57, 58, 59, 60, 61, 62, 63] ++ ([64, 65, 66, 67, 68, 69, 70, 71, 72, 73, 74, 75, 76, 77, 78, 79] ++ ([80, 81, 82, 83, 84, 85, 86, 87, 88, 89, 90, 91, 92, 93, 94, 95] ++ ([96, 97, 98, 99, 100, 101, 102, 103, 104, 105, 106, 107, 108, 109, 110, 111] ++ ([112, 113, 114, 115, 116, 117, 118, 119, 120, 121, 122, 123, 124, 125, 126, 127] ++ ([128, 129, 130, 131, 132, 133, 134, 135, 136, 137, 138, 139, 140, 141, 142, 143] ++ ([144, 145, 146, 147, 148, 149, 150, 151, 152, 153, 154, 155, 156, 157, 158, 159] ++ ([160, 161, 162, 163, 164, 165, 166, 167, 168, 169, 170, 171, 172, 173, 174, 175] ++ ([176, 177, 178, 179, 180, 181, 182, 183, 184, 185, 186, 187, 188, 189, 190, 191] ++ ([192, 193, 194, 195, 196, 197, 198, 199, 200, 201, 202, 203, 204, 205, 206, 207] ++ ([208, 209, 210, 211, 212, 213, 214, 215, 216, 217, 218, 219, 220, 221, 222, 223] ++ ([224, 225, 226, 227, 228, 229, 230, 231, 232, 233, 234, 235, 236, 237, 238, 239] ++ ([240, 241, 242, 243, 244, 245, 246, 247, 248, 249, 250, 251, 252, 253, 254, 255] ++ [256])))))))))))))))) : List Nat) := by rw [← e]; exact List.mem_range.mpr h
    revert hm mi
    exact fun mi _ hm => (List.forall_mem_append.mpr ⟨PMb_0, List.forall_mem_append.mpr ⟨PMb_1, List.forall_mem_append.mpr ⟨PMb_2, List.forall_mem_append.mpr ⟨PMb_3, List.forall_mem_append.mpr ⟨PMb_4, List.forall_mem_append.mpr ⟨PMb_5, List.forall_mem_append.mpr ⟨PMb_6, List.forall_mem_append.mpr ⟨PMb_7, List.forall_mem_append.mpr ⟨PMb_8, List.forall_mem_append.mpr ⟨PMb_9, List.forall_mem_append.mpr ⟨PMb_10, List.forall_mem_append.mpr ⟨PMb_11, List.forall_mem_append.mpr ⟨PMb_12, List.forall_mem_append.mpr ⟨PMb_13, List.forall_mem_append.mpr ⟨PMb_14, List.forall_mem_append.mpr ⟨PMb_15, PMb_16⟩⟩⟩⟩⟩⟩⟩⟩⟩⟩⟩⟩⟩⟩⟩⟩) mi hm
  · intro c hc
    have e : kCd mi = [] := by
      unfold kCd
      rw [show Nat.blt mi 257 = false from by rw [Bool.eq_false_iff]; exact fun q => by have := Nat.blt_eq.mp q; omega]
      rfl
    rw [e] at hc
    cases hc
