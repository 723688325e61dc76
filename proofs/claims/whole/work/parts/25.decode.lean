theorem all_more {α : Type} {P : α → Prop} {l : List α} (a n : Nat) (h1 : ∀ q ∈ (l.drop a).take n, P q) (h2 : ∀ q ∈ l.drop (a + n), P q) : ∀ q ∈ l.drop a, P q := by
  intro q hq
  rw [← List.take_append_drop n (l.drop a), List.drop_drop] at hq
  rcases List.mem_append.mp hq with h | h
  · exact h1 q h
  · exact h2 q h
set_option maxRecDepth 100000 in
theorem dk_0 : ∀ q ∈ cd_0, decode cX0_begin q.1 = .ok (q.2.1, q.2.2) := by decide +kernel
set_option maxRecDepth 100000 in
theorem dk_1 : ∀ q ∈ cd_1, decode cX0_copyFrom q.1 = .ok (q.2.1, q.2.2) := by decide +kernel
set_option maxRecDepth 100000 in
theorem dk_2 : ∀ q ∈ cd_2, decode cX0_heaviness q.1 = .ok (q.2.1, q.2.2) := by decide +kernel
set_option maxRecDepth 100000 in
theorem dk_3 : ∀ q ∈ cd_3, decode cX0_seats q.1 = .ok (q.2.1, q.2.2) := by decide +kernel
set_option maxRecDepth 100000 in
theorem dk_4 : ∀ q ∈ cd_4, decode cX1_note q.1 = .ok (q.2.1, q.2.2) := by decide +kernel
set_option maxRecDepth 100000 in
theorem dk_5 : ∀ q ∈ cd_5, decode cX1_placeOf q.1 = .ok (q.2.1, q.2.2) := by decide +kernel
set_option maxRecDepth 100000 in
theorem dk_6 : ∀ q ∈ cd_6, decode cX1_recordOf q.1 = .ok (q.2.1, q.2.2) := by decide +kernel
set_option maxRecDepth 100000 in
theorem dk_7 : ∀ q ∈ cd_7, decode cX1_wasIn q.1 = .ok (q.2.1, q.2.2) := by decide +kernel
set_option maxRecDepth 100000 in
theorem dk_8 : ∀ q ∈ cd_8, decode cX2_canWalk q.1 = .ok (q.2.1, q.2.2) := by decide +kernel
set_option maxRecDepth 100000 in
theorem dk_9 : ∀ q ∈ cd_9, decode cX2_drink q.1 = .ok (q.2.1, q.2.2) := by decide +kernel
set_option maxRecDepth 100000 in
theorem dk_10 : ∀ q ∈ cd_10, decode cX2_faint q.1 = .ok (q.2.1, q.2.2) := by decide +kernel
set_option maxRecDepth 100000 in
theorem dk_11 : ∀ q ∈ cd_11, decode cX2_firstWayToward q.1 = .ok (q.2.1, q.2.2) := by decide +kernel
set_option maxRecDepth 100000 in
theorem dk_12 : ∀ q ∈ cd_12, decode cX2_keepRites q.1 = .ok (q.2.1, q.2.2) := by decide +kernel
set_option maxRecDepth 100000 in
theorem dk_13 : ∀ q ∈ cd_13, decode cX2_letFall q.1 = .ok (q.2.1, q.2.2) := by decide +kernel
set_option maxRecDepth 100000 in
theorem dk_14 : ∀ q ∈ cd_14, decode cX2_loadWays q.1 = .ok (q.2.1, q.2.2) := by decide +kernel
set_option maxRecDepth 100000 in
theorem dk_15 : ∀ q ∈ cd_15, decode cX2_neighboursPush q.1 = .ok (q.2.1, q.2.2) := by decide +kernel
set_option maxRecDepth 100000 in
theorem dk_16 : ∀ q ∈ cd_16, decode cX2_pass q.1 = .ok (q.2.1, q.2.2) := by decide +kernel
set_option maxRecDepth 100000 in
theorem dk_17 : ∀ q ∈ cd_17, decode cX2_pushWays q.1 = .ok (q.2.1, q.2.2) := by decide +kernel
set_option maxRecDepth 100000 in
theorem dk_18 : ∀ q ∈ cd_18, decode cX2_shutWays q.1 = .ok (q.2.1, q.2.2) := by decide +kernel
set_option maxRecDepth 100000 in
theorem dk_19 : ∀ q ∈ cd_19, decode cX2_stepOut q.1 = .ok (q.2.1, q.2.2) := by decide +kernel
set_option maxRecDepth 100000 in
theorem dk_20 : ∀ q ∈ cd_20, decode cX2_stepToward q.1 = .ok (q.2.1, q.2.2) := by decide +kernel
set_option maxRecDepth 100000 in
theorem dk_21 : ∀ q ∈ cd_21, decode cX2_sufferHeat q.1 = .ok (q.2.1, q.2.2) := by decide +kernel
set_option maxRecDepth 100000 in
theorem dk_22 : ∀ q ∈ cd_22, decode cX2_walkOn q.1 = .ok (q.2.1, q.2.2) := by decide +kernel
set_option maxRecDepth 100000 in
theorem dk_23 : ∀ q ∈ cd_23, decode cX2_weighWays q.1 = .ok (q.2.1, q.2.2) := by decide +kernel
set_option maxRecDepth 100000 in
theorem dk_24 : ∀ q ∈ cd_24, decode cX3_addBody q.1 = .ok (q.2.1, q.2.2) := by decide +kernel
set_option maxRecDepth 100000 in
theorem dk_25 : ∀ q ∈ cd_25, decode cX3_addCell q.1 = .ok (q.2.1, q.2.2) := by decide +kernel
set_option maxRecDepth 100000 in
theorem dk_26 : ∀ q ∈ cd_26, decode cX3_allCarried q.1 = .ok (q.2.1, q.2.2) := by decide +kernel
set_option maxRecDepth 100000 in
theorem dk_27 : ∀ q ∈ cd_27, decode cX3_allFainted q.1 = .ok (q.2.1, q.2.2) := by decide +kernel
set_option maxRecDepth 100000 in
theorem dk_28 : ∀ q ∈ cd_28, decode cX3_allFell q.1 = .ok (q.2.1, q.2.2) := by decide +kernel
set_option maxRecDepth 100000 in
theorem dk_29 : ∀ q ∈ cd_29, decode cX3_allHeads q.1 = .ok (q.2.1, q.2.2) := by decide +kernel
set_option maxRecDepth 100000 in
theorem dk_30 : ∀ q ∈ cd_30, decode cX3_allWater q.1 = .ok (q.2.1, q.2.2) := by decide +kernel
set_option maxRecDepth 100000 in
theorem dk_31 : ∀ q ∈ cd_31, decode cX3_copyFrom q.1 = .ok (q.2.1, q.2.2) := by decide +kernel
set_option maxRecDepth 100000 in
theorem dk_32 : ∀ q ∈ cd_32, decode cX3_fieldsOf q.1 = .ok (q.2.1, q.2.2) := by decide +kernel
set_option maxRecDepth 100000 in
theorem dk_33 : ∀ q ∈ cd_33, decode cX3_groupAt q.1 = .ok (q.2.1, q.2.2) := by decide +kernel
set_option maxRecDepth 100000 in
theorem dk_34 : ∀ q ∈ cd_34, decode cX3_headsOn q.1 = .ok (q.2.1, q.2.2) := by decide +kernel
set_option maxRecDepth 100000 in
theorem dk_35 : ∀ q ∈ cd_35, decode cX3_hour q.1 = .ok (q.2.1, q.2.2) := by decide +kernel
set_option maxRecDepth 100000 in
theorem dk_36 : ∀ q ∈ cd_36, decode cX3_late q.1 = .ok (q.2.1, q.2.2) := by decide +kernel
set_option maxRecDepth 100000 in
theorem dk_37 : ∀ q ∈ cd_37, decode cX3_straysNotFound q.1 = .ok (q.2.1, q.2.2) := by decide +kernel
set_option maxRecDepth 100000 in
theorem dk_38 : ∀ q ∈ cd_38, decode cX4_begin q.1 = .ok (q.2.1, q.2.2) := by decide +kernel
set_option maxRecDepth 100000 in
theorem dk_39 : ∀ q ∈ cd_39, decode cX4_choose q.1 = .ok (q.2.1, q.2.2) := by decide +kernel
set_option maxRecDepth 100000 in
theorem dk_40 : ∀ q ∈ cd_40, decode cX4_firstOver q.1 = .ok (q.2.1, q.2.2) := by decide +kernel
set_option maxRecDepth 100000 in
theorem dk_41 : ∀ q ∈ cd_41, decode cX4_mostIn q.1 = .ok (q.2.1, q.2.2) := by decide +kernel
set_option maxRecDepth 100000 in
theorem dk_42 : ∀ q ∈ cd_42, decode cX4_solve q.1 = .ok (q.2.1, q.2.2) := by decide +kernel
set_option maxRecDepth 100000 in
theorem dk_43 : ∀ q ∈ cd_43, decode cX5_become q.1 = .ok (q.2.1, q.2.2) := by decide +kernel
set_option maxRecDepth 100000 in
theorem dk_44 : ∀ q ∈ cd_44, decode cX5_hasPlaces q.1 = .ok (q.2.1, q.2.2) := by decide +kernel
set_option maxRecDepth 100000 in
theorem dk_45 : ∀ q ∈ cd_45, decode cX5_holdBody q.1 = .ok (q.2.1, q.2.2) := by decide +kernel
set_option maxRecDepth 100000 in
theorem dk_46 : ∀ q ∈ cd_46, decode cX5_holdRow q.1 = .ok (q.2.1, q.2.2) := by decide +kernel
set_option maxRecDepth 100000 in
theorem dk_47 : ∀ q ∈ cd_47, decode cX6_faultOf q.1 = .ok (q.2.1, q.2.2) := by decide +kernel
set_option maxRecDepth 100000 in
theorem dk_48 : ∀ q ∈ cd_48, decode cX6_isDigit q.1 = .ok (q.2.1, q.2.2) := by decide +kernel
set_option maxRecDepth 100000 in
theorem dk_49 : ∀ q ∈ cd_49, decode cX6_isTrue q.1 = .ok (q.2.1, q.2.2) := by decide +kernel
set_option maxRecDepth 100000 in
theorem dk_50 : ∀ q ∈ cd_50, decode cX6_joined q.1 = .ok (q.2.1, q.2.2) := by decide +kernel
set_option maxRecDepth 100000 in
theorem dk_51 : ∀ q ∈ cd_51, decode cX6_keepAs q.1 = .ok (q.2.1, q.2.2) := by decide +kernel
set_option maxRecDepth 100000 in
theorem dk_52 : ∀ q ∈ cd_52, decode cX6_make q.1 = .ok (q.2.1, q.2.2) := by decide +kernel
set_option maxRecDepth 100000 in
theorem dk_53 : ∀ q ∈ cd_53, decode cX6_next q.1 = .ok (q.2.1, q.2.2) := by decide +kernel
set_option maxRecDepth 100000 in
theorem dk_54 : ∀ q ∈ cd_54, decode cX6_readAnd q.1 = .ok (q.2.1, q.2.2) := by decide +kernel
set_option maxRecDepth 100000 in
theorem dk_55 : ∀ q ∈ cd_55, decode cX6_readAtom q.1 = .ok (q.2.1, q.2.2) := by decide +kernel
set_option maxRecDepth 100000 in
theorem dk_56 : ∀ q ∈ cd_56, decode cX6_readOr q.1 = .ok (q.2.1, q.2.2) := by decide +kernel
set_option maxRecDepth 100000 in
theorem dk_57 : ∀ q ∈ cd_57, decode cX6_readSum q.1 = .ok (q.2.1, q.2.2) := by decide +kernel
set_option maxRecDepth 100000 in
theorem dk_58 : ∀ q ∈ cd_58, decode cX6_readTest q.1 = .ok (q.2.1, q.2.2) := by decide +kernel
set_option maxRecDepth 100000 in
theorem dk_59 : ∀ q ∈ cd_59, decode cX6_takeIf q.1 = .ok (q.2.1, q.2.2) := by decide +kernel
set_option maxRecDepth 100000 in
theorem dk_60 : ∀ q ∈ cd_60, decode cX7_add q.1 = .ok (q.2.1, q.2.2) := by decide +kernel
set_option maxRecDepth 100000 in
theorem dk_61 : ∀ q ∈ cd_61, decode cX7_copyFrom q.1 = .ok (q.2.1, q.2.2) := by decide +kernel
set_option maxRecDepth 100000 in
theorem dk_62 : ∀ q ∈ cd_62, decode cX7_holdingIn q.1 = .ok (q.2.1, q.2.2) := by decide +kernel
set_option maxRecDepth 100000 in
theorem dk_63 : ∀ q ∈ cd_63, decode cX7_lastMinute q.1 = .ok (q.2.1, q.2.2) := by decide +kernel
set_option maxRecDepth 100000 in
theorem dk_64 : ∀ q ∈ cd_64, decode cX8_choose q.1 = .ok (q.2.1, q.2.2) := by decide +kernel
set_option maxRecDepth 100000 in
theorem dk_65 : ∀ q ∈ cd_65, decode cX8_gather q.1 = .ok (q.2.1, q.2.2) := by decide +kernel
set_option maxRecDepth 100000 in
theorem dk_66 : ∀ q ∈ cd_66, decode cX8_hasTwinAhead q.1 = .ok (q.2.1, q.2.2) := by decide +kernel
set_option maxRecDepth 100000 in
theorem dk_67 : ∀ q ∈ cd_67, decode cX8_keepChosen q.1 = .ok (q.2.1, q.2.2) := by decide +kernel
set_option maxRecDepth 100000 in
theorem dk_68 : ∀ q ∈ cd_68, decode cX8_rideOf q.1 = .ok (q.2.1, q.2.2) := by decide +kernel
set_option maxRecDepth 100000 in
theorem dk_69 : ∀ q ∈ cd_69, decode cX8_solve q.1 = .ok (q.2.1, q.2.2) := by decide +kernel
set_option maxRecDepth 100000 in
theorem dk_70 : ∀ q ∈ cd_70, decode cX9_add q.1 = .ok (q.2.1, q.2.2) := by decide +kernel
set_option maxRecDepth 100000 in
theorem dk_71 : ∀ q ∈ cd_71, decode cX9_areNeighbours q.1 = .ok (q.2.1, q.2.2) := by decide +kernel
set_option maxRecDepth 100000 in
theorem dk_72 : ∀ q ∈ cd_72, decode cX9_changeSign q.1 = .ok (q.2.1, q.2.2) := by decide +kernel
set_option maxRecDepth 100000 in
theorem dk_73 : ∀ q ∈ cd_73, decode cX9_copyFrom q.1 = .ok (q.2.1, q.2.2) := by decide +kernel
set_option maxRecDepth 100000 in
theorem dk_74 : ∀ q ∈ cd_74, decode cX9_endFrom q.1 = .ok (q.2.1, q.2.2) := by decide +kernel
set_option maxRecDepth 100000 in
theorem dk_75 : ∀ q ∈ cd_75, decode cX9_greatest q.1 = .ok (q.2.1, q.2.2) := by decide +kernel
set_option maxRecDepth 100000 in
theorem dk_76 : ∀ q ∈ cd_76, decode cX9_leastFrom q.1 = .ok (q.2.1, q.2.2) := by decide +kernel
set_option maxRecDepth 100000 in
theorem dk_77 : ∀ q ∈ cd_77, decode cX9_reckon q.1 = .ok (q.2.1, q.2.2) := by decide +kernel
set_option maxRecDepth 100000 in
theorem dk_78 : ∀ q ∈ cd_78, decode cX9_shorten q.1 = .ok (q.2.1, q.2.2) := by decide +kernel
set_option maxRecDepth 100000 in
theorem dk_79 : ∀ q ∈ cd_79, decode cX9_shortenOver q.1 = .ok (q.2.1, q.2.2) := by decide +kernel
set_option maxRecDepth 100000 in
theorem dk_80 : ∀ q ∈ cd_80, decode cX9_touches q.1 = .ok (q.2.1, q.2.2) := by decide +kernel
set_option maxRecDepth 100000 in
theorem dk_81 : ∀ q ∈ cd_81, decode cX10_about q.1 = .ok (q.2.1, q.2.2) := by decide +kernel
set_option maxRecDepth 100000 in
theorem dk_82 : ∀ q ∈ cd_82, decode cX10_aim q.1 = .ok (q.2.1, q.2.2) := by decide +kernel
set_option maxRecDepth 100000 in
theorem dk_83 : ∀ q ∈ cd_83, decode cX10_areFirstGroups q.1 = .ok (q.2.1, q.2.2) := by decide +kernel
set_option maxRecDepth 100000 in
theorem dk_84 : ∀ q ∈ cd_84, decode cX10_best q.1 = .ok (q.2.1, q.2.2) := by decide +kernel
set_option maxRecDepth 100000 in
theorem dk_85 : ∀ q ∈ cd_85, decode cX10_body q.1 = .ok (q.2.1, q.2.2) := by decide +kernel
set_option maxRecDepth 100000 in
theorem dk_86 : ∀ q ∈ cd_86, decode cX10_bodyRefusal q.1 = .ok (q.2.1, q.2.2) := by decide +kernel
set_option maxRecDepth 100000 in
theorem dk_87 : ∀ q ∈ cd_87, decode cX10_bring q.1 = .ok (q.2.1, q.2.2) := by decide +kernel
set_option maxRecDepth 100000 in
theorem dk_88 : ∀ q ∈ cd_88, decode cX10_canBe q.1 = .ok (q.2.1, q.2.2) := by decide +kernel
set_option maxRecDepth 100000 in
theorem dk_89 : ∀ q ∈ cd_89, decode cX10_carry q.1 = .ok (q.2.1, q.2.2) := by decide +kernel
set_option maxRecDepth 100000 in
theorem dk_90 : ∀ q ∈ cd_90, decode cX10_cell q.1 = .ok (q.2.1, q.2.2) := by decide +kernel
set_option maxRecDepth 100000 in
theorem dk_91 : ∀ q ∈ cd_91, decode cX10_closes q.1 = .ok (q.2.1, q.2.2) := by decide +kernel
set_option maxRecDepth 100000 in
theorem dk_92 : ∀ q ∈ cd_92, decode cX10_comes q.1 = .ok (q.2.1, q.2.2) := by decide +kernel
set_option maxRecDepth 100000 in
theorem dk_93 : ∀ q ∈ cd_93, decode cX10_copy q.1 = .ok (q.2.1, q.2.2) := by decide +kernel
set_option maxRecDepth 100000 in
theorem dk_94 : ∀ q ∈ cd_94, decode cX10_count q.1 = .ok (q.2.1, q.2.2) := by decide +kernel
set_option maxRecDepth 100000 in
theorem dk_95 : ∀ q ∈ cd_95, decode cX10_counterRefusal q.1 = .ok (q.2.1, q.2.2) := by decide +kernel
set_option maxRecDepth 100000 in
theorem dk_96 : ∀ q ∈ cd_96, decode cX10_far q.1 = .ok (q.2.1, q.2.2) := by decide +kernel
set_option maxRecDepth 100000 in
theorem dk_97 : ∀ q ∈ cd_97, decode cX10_fault q.1 = .ok (q.2.1, q.2.2) := by decide +kernel
set_option maxRecDepth 100000 in
theorem dk_98 : ∀ q ∈ cd_98, decode cX10_force q.1 = .ok (q.2.1, q.2.2) := by decide +kernel
set_option maxRecDepth 100000 in
theorem dk_99 : ∀ q ∈ cd_99, decode cX10_found q.1 = .ok (q.2.1, q.2.2) := by decide +kernel
set_option maxRecDepth 100000 in
theorem dk_100 : ∀ q ∈ cd_100, decode cX10_go q.1 = .ok (q.2.1, q.2.2) := by decide +kernel
set_option maxRecDepth 100000 in
theorem dk_101 : ∀ q ∈ cd_101, decode cX10_group q.1 = .ok (q.2.1, q.2.2) := by decide +kernel
set_option maxRecDepth 100000 in
theorem dk_102 : ∀ q ∈ cd_102, decode cX10_heat q.1 = .ok (q.2.1, q.2.2) := by decide +kernel
set_option maxRecDepth 100000 in
theorem dk_103 : ∀ q ∈ cd_103, decode cX10_holds q.1 = .ok (q.2.1, q.2.2) := by decide +kernel
set_option maxRecDepth 100000 in
theorem dk_104 : ∀ q ∈ cd_104, decode cX10_image q.1 = .ok (q.2.1, q.2.2) := by decide +kernel
set_option maxRecDepth 100000 in
theorem dk_105 : ∀ q ∈ cd_105, decode cX10_isBody q.1 = .ok (q.2.1, q.2.2) := by decide +kernel
set_option maxRecDepth 100000 in
theorem dk_106 : ∀ q ∈ cd_106, decode cX10_isCell q.1 = .ok (q.2.1, q.2.2) := by decide +kernel
set_option maxRecDepth 100000 in
theorem dk_107 : ∀ q ∈ cd_107, decode cX10_isFound q.1 = .ok (q.2.1, q.2.2) := by decide +kernel
set_option maxRecDepth 100000 in
theorem dk_108 : ∀ q ∈ cd_108, decode cX10_isGate q.1 = .ok (q.2.1, q.2.2) := by decide +kernel
set_option maxRecDepth 100000 in
theorem dk_109 : ∀ q ∈ cd_109, decode cX10_isMinute q.1 = .ok (q.2.1, q.2.2) := by decide +kernel
set_option maxRecDepth 100000 in
theorem dk_110 : ∀ q ∈ cd_110, decode cX10_isOfKind q.1 = .ok (q.2.1, q.2.2) := by decide +kernel
set_option maxRecDepth 100000 in
theorem dk_111 : ∀ q ∈ cd_111, decode cX10_isRite q.1 = .ok (q.2.1, q.2.2) := by decide +kernel
set_option maxRecDepth 100000 in
theorem dk_112 : ∀ q ∈ cd_112, decode cX10_isShelf q.1 = .ok (q.2.1, q.2.2) := by decide +kernel
set_option maxRecDepth 100000 in
theorem dk_113 : ∀ q ∈ cd_113, decode cX10_isSign q.1 = .ok (q.2.1, q.2.2) := by decide +kernel
set_option maxRecDepth 100000 in
theorem dk_114 : ∀ q ∈ cd_114, decode cX10_isText q.1 = .ok (q.2.1, q.2.2) := by decide +kernel
set_option maxRecDepth 100000 in
theorem dk_115 : ∀ q ∈ cd_115, decode cX10_isWay q.1 = .ok (q.2.1, q.2.2) := by decide +kernel
set_option maxRecDepth 100000 in
theorem dk_116 : ∀ q ∈ cd_116, decode cX10_judge q.1 = .ok (q.2.1, q.2.2) := by decide +kernel
set_option maxRecDepth 100000 in
theorem dk_117 : ∀ q ∈ cd_117, decode cX10_keep q.1 = .ok (q.2.1, q.2.2) := by decide +kernel
set_option maxRecDepth 100000 in
theorem dk_118 : ∀ q ∈ cd_118, decode cX10_leastOrNone q.1 = .ok (q.2.1, q.2.2) := by decide +kernel
set_option maxRecDepth 100000 in
theorem dk_119 : ∀ q ∈ cd_119, decode cX10_post q.1 = .ok (q.2.1, q.2.2) := by decide +kernel
set_option maxRecDepth 100000 in
theorem dk_120 : ∀ q ∈ cd_120, decode cX10_pushed q.1 = .ok (q.2.1, q.2.2) := by decide +kernel
set_option maxRecDepth 100000 in
theorem dk_121 : ∀ q ∈ cd_121, decode cX10_put q.1 = .ok (q.2.1, q.2.2) := by decide +kernel
set_option maxRecDepth 100000 in
theorem dk_122 : ∀ q ∈ cd_122, decode cX10_record q.1 = .ok (q.2.1, q.2.2) := by decide +kernel
set_option maxRecDepth 100000 in
theorem dk_123 : ∀ q ∈ cd_123, decode cX10_restore q.1 = .ok (q.2.1, q.2.2) := by decide +kernel
set_option maxRecDepth 100000 in
theorem dk_124 : ∀ q ∈ cd_124, decode cX10_rides q.1 = .ok (q.2.1, q.2.2) := by decide +kernel
set_option maxRecDepth 100000 in
theorem dk_125 : ∀ q ∈ cd_125, decode cX10_riteStands q.1 = .ok (q.2.1, q.2.2) := by decide +kernel
set_option maxRecDepth 100000 in
theorem dk_126 : ∀ q ∈ cd_126, decode cX10_round q.1 = .ok (q.2.1, q.2.2) := by decide +kernel
set_option maxRecDepth 100000 in
theorem dk_127 : ∀ q ∈ cd_127, decode cX10_row q.1 = .ok (q.2.1, q.2.2) := by decide +kernel
set_option maxRecDepth 100000 in
theorem dk_128 : ∀ q ∈ cd_128, decode cX10_rowRefusal q.1 = .ok (q.2.1, q.2.2) := by decide +kernel
set_option maxRecDepth 100000 in
theorem dk_129 : ∀ q ∈ cd_129, decode cX10_schools q.1 = .ok (q.2.1, q.2.2) := by decide +kernel
set_option maxRecDepth 100000 in
theorem dk_130 : ∀ q ∈ cd_130, decode cX10_sign q.1 = .ok (q.2.1, q.2.2) := by decide +kernel
set_option maxRecDepth 100000 in
theorem dk_131 : ∀ q ∈ cd_131, decode cX10_slot q.1 = .ok (q.2.1, q.2.2) := by decide +kernel
set_option maxRecDepth 100000 in
theorem dk_132 : ∀ q ∈ cd_132, decode cX10_stands q.1 = .ok (q.2.1, q.2.2) := by decide +kernel
set_option maxRecDepth 100000 in
theorem dk_133 : ∀ q ∈ cd_133, decode cX10_stray q.1 = .ok (q.2.1, q.2.2) := by decide +kernel
set_option maxRecDepth 100000 in
theorem dk_134 : ∀ q ∈ cd_134, decode cX10_sure q.1 = .ok (q.2.1, q.2.2) := by decide +kernel
set_option maxRecDepth 100000 in
theorem dk_135 : ∀ q ∈ cd_135, decode cX10_text q.1 = .ok (q.2.1, q.2.2) := by decide +kernel
set_option maxRecDepth 100000 in
theorem dk_136 : ∀ q ∈ cd_136, decode cX10_unaim q.1 = .ok (q.2.1, q.2.2) := by decide +kernel
set_option maxRecDepth 100000 in
theorem dk_137 : ∀ q ∈ cd_137, decode cX10_was q.1 = .ok (q.2.1, q.2.2) := by decide +kernel
set_option maxRecDepth 100000 in
theorem dk_138 : ∀ q ∈ cd_138, decode cX10_water q.1 = .ok (q.2.1, q.2.2) := by decide +kernel
set_option maxRecDepth 100000 in
theorem dk_139 : ∀ q ∈ cd_139, decode cX10_wave q.1 = .ok (q.2.1, q.2.2) := by decide +kernel
set_option maxRecDepth 100000 in
theorem dk_140 : ∀ q ∈ cd_140, decode cX10_way q.1 = .ok (q.2.1, q.2.2) := by decide +kernel
set_option maxRecDepth 100000 in
theorem dk_141 : ∀ q ∈ cd_141, decode cX10_weight q.1 = .ok (q.2.1, q.2.2) := by decide +kernel
set_option maxRecDepth 100000 in
theorem dk_142 : ∀ q ∈ cd_142, decode cX10_whose q.1 = .ok (q.2.1, q.2.2) := by decide +kernel
set_option maxRecDepth 100000 in
theorem dk_143 : ∀ q ∈ cd_143, decode cX10_within q.1 = .ok (q.2.1, q.2.2) := by decide +kernel
set_option maxRecDepth 100000 in
theorem dk_144 : ∀ q ∈ cd_144, decode cX10_worst q.1 = .ok (q.2.1, q.2.2) := by decide +kernel
set_option maxRecDepth 100000 in
theorem dk_145 : ∀ q ∈ cd_145, decode cX10_worstInMind q.1 = .ok (q.2.1, q.2.2) := by decide +kernel
set_option maxRecDepth 100000 in
theorem dk_146 : ∀ q ∈ cd_146, decode cX10_wrong q.1 = .ok (q.2.1, q.2.2) := by decide +kernel
set_option maxRecDepth 100000 in
theorem dk_147 : ∀ q ∈ cd_147, decode cX11_about q.1 = .ok (q.2.1, q.2.2) := by decide +kernel
set_option maxRecDepth 100000 in
theorem dk_148 : ∀ q ∈ cd_148, decode cX11_add q.1 = .ok (q.2.1, q.2.2) := by decide +kernel
set_option maxRecDepth 100000 in
theorem dk_149 : ∀ q ∈ cd_149, decode cX11_aim q.1 = .ok (q.2.1, q.2.2) := by decide +kernel
set_option maxRecDepth 100000 in
theorem dk_150 : ∀ q ∈ cd_150, decode cX11_aimOf q.1 = .ok (q.2.1, q.2.2) := by decide +kernel
set_option maxRecDepth 100000 in
theorem dk_151 : ∀ q ∈ cd_151, decode cX11_best q.1 = .ok (q.2.1, q.2.2) := by decide +kernel
set_option maxRecDepth 100000 in
theorem dk_152 : ∀ q ∈ cd_152, decode cX11_body q.1 = .ok (q.2.1, q.2.2) := by decide +kernel
set_option maxRecDepth 100000 in
theorem dk_153 : ∀ q ∈ cd_153, decode cX11_bring q.1 = .ok (q.2.1, q.2.2) := by decide +kernel
set_option maxRecDepth 100000 in
theorem dk_154 : ∀ q ∈ cd_154, decode cX11_canBe q.1 = .ok (q.2.1, q.2.2) := by decide +kernel
set_option maxRecDepth 100000 in
theorem dk_155 : ∀ q ∈ cd_155, decode cX11_carry q.1 = .ok (q.2.1, q.2.2) := by decide +kernel
set_option maxRecDepth 100000 in
theorem dk_156 : ∀ q ∈ cd_156, decode cX11_cell q.1 = .ok (q.2.1, q.2.2) := by decide +kernel
set_option maxRecDepth 100000 in
theorem dk_157 : ∀ q ∈ cd_157, decode cX11_closes q.1 = .ok (q.2.1, q.2.2) := by decide +kernel
set_option maxRecDepth 100000 in
theorem dk_158 : ∀ q ∈ cd_158, decode cX11_comes q.1 = .ok (q.2.1, q.2.2) := by decide +kernel
set_option maxRecDepth 100000 in
theorem dk_159 : ∀ q ∈ cd_159, decode cX11_copy q.1 = .ok (q.2.1, q.2.2) := by decide +kernel
set_option maxRecDepth 100000 in
theorem dk_160 : ∀ q ∈ cd_160, decode cX11_count q.1 = .ok (q.2.1, q.2.2) := by decide +kernel
set_option maxRecDepth 100000 in
theorem dk_161 : ∀ q ∈ cd_161, decode cX11_element q.1 = .ok (q.2.1, q.2.2) := by decide +kernel
set_option maxRecDepth 100000 in
theorem dk_162 : ∀ q ∈ cd_162, decode cX11_fall q.1 = .ok (q.2.1, q.2.2) := by decide +kernel
set_option maxRecDepth 100000 in
theorem dk_163 : ∀ q ∈ cd_163, decode cX11_far q.1 = .ok (q.2.1, q.2.2) := by decide +kernel
set_option maxRecDepth 100000 in
theorem dk_164 : ∀ q ∈ cd_164, decode cX11_fault q.1 = .ok (q.2.1, q.2.2) := by decide +kernel
set_option maxRecDepth 100000 in
theorem dk_165 : ∀ q ∈ cd_165, decode cX11_faultOf q.1 = .ok (q.2.1, q.2.2) := by decide +kernel
set_option maxRecDepth 100000 in
theorem dk_166 : ∀ q ∈ cd_166, decode cX11_field q.1 = .ok (q.2.1, q.2.2) := by decide +kernel
set_option maxRecDepth 100000 in
theorem dk_167 : ∀ q ∈ cd_167, decode cX11_findFar q.1 = .ok (q.2.1, q.2.2) := by decide +kernel
set_option maxRecDepth 100000 in
theorem dk_168 : ∀ q ∈ cd_168, decode cX11_findHeads q.1 = .ok (q.2.1, q.2.2) := by decide +kernel
set_option maxRecDepth 100000 in
theorem dk_169 : ∀ q ∈ cd_169, decode cX11_findRound q.1 = .ok (q.2.1, q.2.2) := by decide +kernel
set_option maxRecDepth 100000 in
theorem dk_170 : ∀ q ∈ cd_170, decode cX11_findWave q.1 = .ok (q.2.1, q.2.2) := by decide +kernel
set_option maxRecDepth 100000 in
theorem dk_171 : ∀ q ∈ cd_171, decode cX11_force q.1 = .ok (q.2.1, q.2.2) := by decide +kernel
set_option maxRecDepth 100000 in
theorem dk_172 : ∀ q ∈ cd_172, decode cX11_found q.1 = .ok (q.2.1, q.2.2) := by decide +kernel
set_option maxRecDepth 100000 in
theorem dk_173 : ∀ q ∈ cd_173, decode cX11_go q.1 = .ok (q.2.1, q.2.2) := by decide +kernel
set_option maxRecDepth 100000 in
theorem dk_174 : ∀ q ∈ cd_174, decode cX11_goOn q.1 = .ok (q.2.1, q.2.2) := by decide +kernel
set_option maxRecDepth 100000 in
theorem dk_175 : ∀ q ∈ cd_175, decode cX11_group q.1 = .ok (q.2.1, q.2.2) := by decide +kernel
set_option maxRecDepth 100000 in
theorem dk_176 : ∀ q ∈ cd_176, decode cX11_groups q.1 = .ok (q.2.1, q.2.2) := by decide +kernel
set_option maxRecDepth 100000 in
theorem dk_177 : ∀ q ∈ cd_177, decode cX11_headsOn q.1 = .ok (q.2.1, q.2.2) := by decide +kernel
set_option maxRecDepth 100000 in
theorem dk_178 : ∀ q ∈ cd_178, decode cX11_heat q.1 = .ok (q.2.1, q.2.2) := by decide +kernel
set_option maxRecDepth 100000 in
theorem dk_179 : ∀ q ∈ cd_179, decode cX11_here q.1 = .ok (q.2.1, q.2.2) := by decide +kernel
set_option maxRecDepth 100000 in
theorem dk_180 : ∀ q ∈ cd_180, decode cX11_holds q.1 = .ok (q.2.1, q.2.2) := by decide +kernel
set_option maxRecDepth 100000 in
theorem dk_181 : ∀ q ∈ cd_181, decode cX11_holdsFor q.1 = .ok (q.2.1, q.2.2) := by decide +kernel
set_option maxRecDepth 100000 in
theorem dk_182 : ∀ q ∈ cd_182, decode cX11_hourNow q.1 = .ok (q.2.1, q.2.2) := by decide +kernel
set_option maxRecDepth 100000 in
theorem dk_183 : ∀ q ∈ cd_183, decode cX11_image q.1 = .ok (q.2.1, q.2.2) := by decide +kernel
set_option maxRecDepth 100000 in
theorem dk_184 : ∀ q ∈ cd_184, decode cX11_in q.1 = .ok (q.2.1, q.2.2) := by decide +kernel
set_option maxRecDepth 100000 in
theorem dk_185 : ∀ q ∈ cd_185, decode cX11_isBody q.1 = .ok (q.2.1, q.2.2) := by decide +kernel
set_option maxRecDepth 100000 in
theorem dk_186 : ∀ q ∈ cd_186, decode cX11_isCell q.1 = .ok (q.2.1, q.2.2) := by decide +kernel
set_option maxRecDepth 100000 in
theorem dk_187 : ∀ q ∈ cd_187, decode cX11_isField q.1 = .ok (q.2.1, q.2.2) := by decide +kernel
set_option maxRecDepth 100000 in
theorem dk_188 : ∀ q ∈ cd_188, decode cX11_isFound q.1 = .ok (q.2.1, q.2.2) := by decide +kernel
set_option maxRecDepth 100000 in
theorem dk_189 : ∀ q ∈ cd_189, decode cX11_isGroup q.1 = .ok (q.2.1, q.2.2) := by decide +kernel
set_option maxRecDepth 100000 in
theorem dk_190 : ∀ q ∈ cd_190, decode cX11_isRound q.1 = .ok (q.2.1, q.2.2) := by decide +kernel
set_option maxRecDepth 100000 in
theorem dk_191 : ∀ q ∈ cd_191, decode cX11_isStray q.1 = .ok (q.2.1, q.2.2) := by decide +kernel
set_option maxRecDepth 100000 in
theorem dk_192 : ∀ q ∈ cd_192, decode cX11_isText q.1 = .ok (q.2.1, q.2.2) := by decide +kernel
set_option maxRecDepth 100000 in
theorem dk_193 : ∀ q ∈ cd_193, decode cX11_isWay q.1 = .ok (q.2.1, q.2.2) := by decide +kernel
set_option maxRecDepth 100000 in
theorem dk_194 : ∀ q ∈ cd_194, decode cX11_join q.1 = .ok (q.2.1, q.2.2) := by decide +kernel
set_option maxRecDepth 100000 in
theorem dk_195 : ∀ q ∈ cd_195, decode cX11_judge q.1 = .ok (q.2.1, q.2.2) := by decide +kernel
set_option maxRecDepth 100000 in
theorem dk_196 : ∀ q ∈ cd_196, decode cX11_keep q.1 = .ok (q.2.1, q.2.2) := by decide +kernel
set_option maxRecDepth 100000 in
theorem dk_197 : ∀ q ∈ cd_197, decode cX11_lacks q.1 = .ok (q.2.1, q.2.2) := by decide +kernel
set_option maxRecDepth 100000 in
theorem dk_198 : ∀ q ∈ cd_198, decode cX11_lateOf q.1 = .ok (q.2.1, q.2.2) := by decide +kernel
set_option maxRecDepth 100000 in
theorem dk_199 : ∀ q ∈ cd_199, decode cX11_leads q.1 = .ok (q.2.1, q.2.2) := by decide +kernel
set_option maxRecDepth 100000 in
theorem dk_200 : ∀ q ∈ cd_200, decode cX11_mostPress q.1 = .ok (q.2.1, q.2.2) := by decide +kernel
set_option maxRecDepth 100000 in
theorem dk_201 : ∀ q ∈ cd_201, decode cX11_narrowed q.1 = .ok (q.2.1, q.2.2) := by decide +kernel
set_option maxRecDepth 100000 in
theorem dk_202 : ∀ q ∈ cd_202, decode cX11_of q.1 = .ok (q.2.1, q.2.2) := by decide +kernel
set_option maxRecDepth 100000 in
theorem dk_203 : ∀ q ∈ cd_203, decode cX11_other q.1 = .ok (q.2.1, q.2.2) := by decide +kernel
set_option maxRecDepth 100000 in
theorem dk_204 : ∀ q ∈ cd_204, decode cX11_overSlot q.1 = .ok (q.2.1, q.2.2) := by decide +kernel
set_option maxRecDepth 100000 in
theorem dk_205 : ∀ q ∈ cd_205, decode cX11_pass q.1 = .ok (q.2.1, q.2.2) := by decide +kernel
set_option maxRecDepth 100000 in
theorem dk_206 : ∀ q ∈ cd_206, decode cX11_post q.1 = .ok (q.2.1, q.2.2) := by decide +kernel
set_option maxRecDepth 100000 in
theorem dk_207 : ∀ q ∈ cd_207, decode cX11_press q.1 = .ok (q.2.1, q.2.2) := by decide +kernel
set_option maxRecDepth 100000 in
theorem dk_208 : ∀ q ∈ cd_208, decode cX11_pushed q.1 = .ok (q.2.1, q.2.2) := by decide +kernel
set_option maxRecDepth 100000 in
theorem dk_209 : ∀ q ∈ cd_209, decode cX11_put q.1 = .ok (q.2.1, q.2.2) := by decide +kernel
set_option maxRecDepth 100000 in
theorem dk_210 : ∀ q ∈ cd_210, decode cX11_readAtom q.1 = .ok (q.2.1, q.2.2) := by decide +kernel
set_option maxRecDepth 100000 in
theorem dk_211 : ∀ q ∈ cd_211, decode cX11_readSum q.1 = .ok (q.2.1, q.2.2) := by decide +kernel
set_option maxRecDepth 100000 in
theorem dk_212 : ∀ q ∈ cd_212, decode cX11_readTest q.1 = .ok (q.2.1, q.2.2) := by decide +kernel
set_option maxRecDepth 100000 in
theorem dk_213 : ∀ q ∈ cd_213, decode cX11_readText q.1 = .ok (q.2.1, q.2.2) := by decide +kernel
set_option maxRecDepth 100000 in
theorem dk_214 : ∀ q ∈ cd_214, decode cX11_record q.1 = .ok (q.2.1, q.2.2) := by decide +kernel
set_option maxRecDepth 100000 in
theorem dk_215 : ∀ q ∈ cd_215, decode cX11_recordNow q.1 = .ok (q.2.1, q.2.2) := by decide +kernel
set_option maxRecDepth 100000 in
theorem dk_216 : ∀ q ∈ cd_216, decode cX11_restore q.1 = .ok (q.2.1, q.2.2) := by decide +kernel
set_option maxRecDepth 100000 in
theorem dk_217 : ∀ q ∈ cd_217, decode cX11_rides q.1 = .ok (q.2.1, q.2.2) := by decide +kernel
set_option maxRecDepth 100000 in
theorem dk_218 : ∀ q ∈ cd_218, decode cX11_rite q.1 = .ok (q.2.1, q.2.2) := by decide +kernel
set_option maxRecDepth 100000 in
theorem dk_219 : ∀ q ∈ cd_219, decode cX11_round q.1 = .ok (q.2.1, q.2.2) := by decide +kernel
set_option maxRecDepth 100000 in
theorem dk_220 : ∀ q ∈ cd_220, decode cX11_row q.1 = .ok (q.2.1, q.2.2) := by decide +kernel
set_option maxRecDepth 100000 in
theorem dk_221 : ∀ q ∈ cd_221, decode cX11_schools q.1 = .ok (q.2.1, q.2.2) := by decide +kernel
set_option maxRecDepth 100000 in
theorem dk_222 : ∀ q ∈ cd_222, decode cX11_seatsOf q.1 = .ok (q.2.1, q.2.2) := by decide +kernel
set_option maxRecDepth 100000 in
theorem dk_223 : ∀ q ∈ cd_223, decode cX11_sign q.1 = .ok (q.2.1, q.2.2) := by decide +kernel
set_option maxRecDepth 100000 in
theorem dk_224 : ∀ q ∈ cd_224, decode cX11_slot q.1 = .ok (q.2.1, q.2.2) := by decide +kernel
set_option maxRecDepth 100000 in
theorem dk_225 : ∀ q ∈ cd_225, decode cX11_stands q.1 = .ok (q.2.1, q.2.2) := by decide +kernel
set_option maxRecDepth 100000 in
theorem dk_226 : ∀ q ∈ cd_226, decode cX11_standsBy q.1 = .ok (q.2.1, q.2.2) := by decide +kernel
set_option maxRecDepth 100000 in
theorem dk_227 : ∀ q ∈ cd_227, decode cX11_step q.1 = .ok (q.2.1, q.2.2) := by decide +kernel
set_option maxRecDepth 100000 in
theorem dk_228 : ∀ q ∈ cd_228, decode cX11_stray q.1 = .ok (q.2.1, q.2.2) := by decide +kernel
set_option maxRecDepth 100000 in
theorem dk_229 : ∀ q ∈ cd_229, decode cX11_sumOf q.1 = .ok (q.2.1, q.2.2) := by decide +kernel
set_option maxRecDepth 100000 in
theorem dk_230 : ∀ q ∈ cd_230, decode cX11_sure q.1 = .ok (q.2.1, q.2.2) := by decide +kernel
set_option maxRecDepth 100000 in
theorem dk_231 : ∀ q ∈ cd_231, decode cX11_tell q.1 = .ok (q.2.1, q.2.2) := by decide +kernel
set_option maxRecDepth 100000 in
theorem dk_232 : ∀ q ∈ cd_232, decode cX11_testEnds q.1 = .ok (q.2.1, q.2.2) := by decide +kernel
set_option maxRecDepth 100000 in
theorem dk_233 : ∀ q ∈ cd_233, decode cX11_text q.1 = .ok (q.2.1, q.2.2) := by decide +kernel
set_option maxRecDepth 100000 in
theorem dk_234 : ∀ q ∈ cd_234, decode cX11_thrown q.1 = .ok (q.2.1, q.2.2) := by decide +kernel
set_option maxRecDepth 100000 in
theorem dk_235 : ∀ q ∈ cd_235, decode cX11_topSign q.1 = .ok (q.2.1, q.2.2) := by decide +kernel
set_option maxRecDepth 100000 in
theorem dk_236 : ∀ q ∈ cd_236, decode cX11_toss q.1 = .ok (q.2.1, q.2.2) := by decide +kernel
set_option maxRecDepth 100000 in
theorem dk_237 : ∀ q ∈ cd_237, decode cX11_touch q.1 = .ok (q.2.1, q.2.2) := by decide +kernel
set_option maxRecDepth 100000 in
theorem dk_238 : ∀ q ∈ cd_238, decode cX11_unaim q.1 = .ok (q.2.1, q.2.2) := by decide +kernel
set_option maxRecDepth 100000 in
theorem dk_239 : ∀ q ∈ cd_239, decode cX11_walk q.1 = .ok (q.2.1, q.2.2) := by decide +kernel
set_option maxRecDepth 100000 in
theorem dk_240 : ∀ q ∈ cd_240, decode cX11_warm q.1 = .ok (q.2.1, q.2.2) := by decide +kernel
set_option maxRecDepth 100000 in
theorem dk_241 : ∀ q ∈ cd_241, decode cX11_was q.1 = .ok (q.2.1, q.2.2) := by decide +kernel
set_option maxRecDepth 100000 in
theorem dk_242 : ∀ q ∈ cd_242, decode cX11_water q.1 = .ok (q.2.1, q.2.2) := by decide +kernel
set_option maxRecDepth 100000 in
theorem dk_243 : ∀ q ∈ cd_243, decode cX11_wave q.1 = .ok (q.2.1, q.2.2) := by decide +kernel
set_option maxRecDepth 100000 in
theorem dk_244 : ∀ q ∈ cd_244, decode cX11_way q.1 = .ok (q.2.1, q.2.2) := by decide +kernel
set_option maxRecDepth 100000 in
theorem dk_245 : ∀ q ∈ cd_245, decode cX11_weight q.1 = .ok (q.2.1, q.2.2) := by decide +kernel
set_option maxRecDepth 100000 in
theorem dk_246 : ∀ q ∈ cd_246, decode cX11_weightOf q.1 = .ok (q.2.1, q.2.2) := by decide +kernel
set_option maxRecDepth 100000 in
theorem dk_247 : ∀ q ∈ cd_247, decode cX11_whose q.1 = .ok (q.2.1, q.2.2) := by decide +kernel
set_option maxRecDepth 100000 in
theorem dk_248 : ∀ q ∈ cd_248, decode cX11_worst q.1 = .ok (q.2.1, q.2.2) := by decide +kernel
set_option maxRecDepth 100000 in
theorem dk_249 : ∀ q ∈ cd_249, decode cX11_worstOf q.1 = .ok (q.2.1, q.2.2) := by decide +kernel
set_option maxRecDepth 100000 in
theorem dk_250 : ∀ q ∈ cd_250, decode cX11_wrong q.1 = .ok (q.2.1, q.2.2) := by decide +kernel
set_option maxRecDepth 100000 in
theorem dk_251 : ∀ q ∈ cd_251, decode cX11_wrongCounter q.1 = .ok (q.2.1, q.2.2) := by decide +kernel
set_option maxRecDepth 100000 in
theorem dk_252 : ∀ q ∈ cd_252, decode cX11_wrongRow q.1 = .ok (q.2.1, q.2.2) := by decide +kernel
set_option maxRecDepth 100000 in
theorem dk_253 : ∀ q ∈ cd_253, decode cX11_wrongShelf q.1 = .ok (q.2.1, q.2.2) := by decide +kernel
set_option maxRecDepth 100000 in
theorem dk_254 : ∀ q ∈ cd_254, decode cX11_wrongTime q.1 = .ok (q.2.1, q.2.2) := by decide +kernel
set_option maxRecDepth 100000 in
theorem dkl_0 : ∀ q ∈ (cd_255.drop 0).take 8, decode code q.1 = .ok (q.2.1, q.2.2) := by decide +kernel
set_option maxRecDepth 100000 in
theorem dkl_8 : ∀ q ∈ (cd_255.drop 8).take 8, decode code q.1 = .ok (q.2.1, q.2.2) := by decide +kernel
set_option maxRecDepth 100000 in
theorem dkl_16 : ∀ q ∈ (cd_255.drop 16).take 8, decode code q.1 = .ok (q.2.1, q.2.2) := by decide +kernel
set_option maxRecDepth 100000 in
theorem dkl_24 : ∀ q ∈ (cd_255.drop 24).take 8, decode code q.1 = .ok (q.2.1, q.2.2) := by decide +kernel
set_option maxRecDepth 100000 in
theorem dkl_32 : ∀ q ∈ (cd_255.drop 32).take 8, decode code q.1 = .ok (q.2.1, q.2.2) := by decide +kernel
set_option maxRecDepth 100000 in
theorem dkl_40 : ∀ q ∈ (cd_255.drop 40).take 8, decode code q.1 = .ok (q.2.1, q.2.2) := by decide +kernel
set_option maxRecDepth 100000 in
theorem dkl_48 : ∀ q ∈ (cd_255.drop 48).take 8, decode code q.1 = .ok (q.2.1, q.2.2) := by decide +kernel
set_option maxRecDepth 100000 in
theorem dkl_56 : ∀ q ∈ (cd_255.drop 56).take 8, decode code q.1 = .ok (q.2.1, q.2.2) := by decide +kernel
set_option maxRecDepth 100000 in
theorem dkl_64 : ∀ q ∈ (cd_255.drop 64).take 8, decode code q.1 = .ok (q.2.1, q.2.2) := by decide +kernel
set_option maxRecDepth 100000 in
theorem dkl_72 : ∀ q ∈ (cd_255.drop 72).take 8, decode code q.1 = .ok (q.2.1, q.2.2) := by decide +kernel
set_option maxRecDepth 100000 in
theorem dkl_80 : ∀ q ∈ (cd_255.drop 80).take 8, decode code q.1 = .ok (q.2.1, q.2.2) := by decide +kernel
set_option maxRecDepth 100000 in
theorem dkl_88 : ∀ q ∈ (cd_255.drop 88).take 8, decode code q.1 = .ok (q.2.1, q.2.2) := by decide +kernel
set_option maxRecDepth 100000 in
theorem dkl_96 : ∀ q ∈ (cd_255.drop 96).take 8, decode code q.1 = .ok (q.2.1, q.2.2) := by decide +kernel
set_option maxRecDepth 100000 in
theorem dkl_104 : ∀ q ∈ (cd_255.drop 104).take 8, decode code q.1 = .ok (q.2.1, q.2.2) := by decide +kernel
set_option maxRecDepth 100000 in
theorem dkl_112 : ∀ q ∈ (cd_255.drop 112).take 8, decode code q.1 = .ok (q.2.1, q.2.2) := by decide +kernel
set_option maxRecDepth 100000 in
theorem dkl_120 : ∀ q ∈ (cd_255.drop 120).take 8, decode code q.1 = .ok (q.2.1, q.2.2) := by decide +kernel
set_option maxRecDepth 100000 in
theorem dkl_128 : ∀ q ∈ (cd_255.drop 128).take 8, decode code q.1 = .ok (q.2.1, q.2.2) := by decide +kernel
set_option maxRecDepth 100000 in
theorem dkl_136 : ∀ q ∈ (cd_255.drop 136).take 8, decode code q.1 = .ok (q.2.1, q.2.2) := by decide +kernel
set_option maxRecDepth 100000 in
theorem dkl_144 : ∀ q ∈ (cd_255.drop 144).take 8, decode code q.1 = .ok (q.2.1, q.2.2) := by decide +kernel
set_option maxRecDepth 100000 in
theorem dkl_152 : ∀ q ∈ (cd_255.drop 152).take 8, decode code q.1 = .ok (q.2.1, q.2.2) := by decide +kernel
set_option maxRecDepth 100000 in
theorem dkl_160 : ∀ q ∈ (cd_255.drop 160).take 8, decode code q.1 = .ok (q.2.1, q.2.2) := by decide +kernel
set_option maxRecDepth 100000 in
theorem dkl_168 : ∀ q ∈ (cd_255.drop 168).take 8, decode code q.1 = .ok (q.2.1, q.2.2) := by decide +kernel
set_option maxRecDepth 100000 in
theorem dkl_176 : ∀ q ∈ (cd_255.drop 176).take 8, decode code q.1 = .ok (q.2.1, q.2.2) := by decide +kernel
set_option maxRecDepth 100000 in
theorem dkl_184 : ∀ q ∈ (cd_255.drop 184).take 8, decode code q.1 = .ok (q.2.1, q.2.2) := by decide +kernel
set_option maxRecDepth 100000 in
theorem dkl_192 : ∀ q ∈ (cd_255.drop 192).take 8, decode code q.1 = .ok (q.2.1, q.2.2) := by decide +kernel
set_option maxRecDepth 100000 in
theorem dkl_200 : ∀ q ∈ (cd_255.drop 200).take 8, decode code q.1 = .ok (q.2.1, q.2.2) := by decide +kernel
set_option maxRecDepth 100000 in
theorem dkl_208 : ∀ q ∈ (cd_255.drop 208).take 8, decode code q.1 = .ok (q.2.1, q.2.2) := by decide +kernel
set_option maxRecDepth 100000 in
theorem dkl_216 : ∀ q ∈ (cd_255.drop 216).take 8, decode code q.1 = .ok (q.2.1, q.2.2) := by decide +kernel
set_option maxRecDepth 100000 in
theorem dkl_224 : ∀ q ∈ (cd_255.drop 224).take 8, decode code q.1 = .ok (q.2.1, q.2.2) := by decide +kernel
set_option maxRecDepth 100000 in
theorem dkl_232 : ∀ q ∈ (cd_255.drop 232).take 8, decode code q.1 = .ok (q.2.1, q.2.2) := by decide +kernel
set_option maxRecDepth 100000 in
theorem dkl_240 : ∀ q ∈ (cd_255.drop 240).take 8, decode code q.1 = .ok (q.2.1, q.2.2) := by decide +kernel
set_option maxRecDepth 100000 in
theorem dkl_248 : ∀ q ∈ (cd_255.drop 248).take 8, decode code q.1 = .ok (q.2.1, q.2.2) := by decide +kernel
set_option maxRecDepth 100000 in
theorem dkl_256 : ∀ q ∈ (cd_255.drop 256).take 8, decode code q.1 = .ok (q.2.1, q.2.2) := by decide +kernel
set_option maxRecDepth 100000 in
theorem dkl_264 : ∀ q ∈ (cd_255.drop 264).take 8, decode code q.1 = .ok (q.2.1, q.2.2) := by decide +kernel
set_option maxRecDepth 100000 in
theorem dkl_272 : ∀ q ∈ (cd_255.drop 272).take 8, decode code q.1 = .ok (q.2.1, q.2.2) := by decide +kernel
set_option maxRecDepth 100000 in
theorem dkl_280 : ∀ q ∈ (cd_255.drop 280).take 8, decode code q.1 = .ok (q.2.1, q.2.2) := by decide +kernel
set_option maxRecDepth 100000 in
theorem dkl_288 : ∀ q ∈ (cd_255.drop 288).take 8, decode code q.1 = .ok (q.2.1, q.2.2) := by decide +kernel
set_option maxRecDepth 100000 in
theorem dkl_296 : ∀ q ∈ (cd_255.drop 296).take 8, decode code q.1 = .ok (q.2.1, q.2.2) := by decide +kernel
set_option maxRecDepth 100000 in
theorem dkl_304 : ∀ q ∈ (cd_255.drop 304).take 8, decode code q.1 = .ok (q.2.1, q.2.2) := by decide +kernel
set_option maxRecDepth 100000 in
theorem dkl_312 : ∀ q ∈ (cd_255.drop 312).take 8, decode code q.1 = .ok (q.2.1, q.2.2) := by decide +kernel
set_option maxRecDepth 100000 in
theorem dkl_320 : ∀ q ∈ (cd_255.drop 320).take 8, decode code q.1 = .ok (q.2.1, q.2.2) := by decide +kernel
set_option maxRecDepth 100000 in
theorem dkl_328 : ∀ q ∈ (cd_255.drop 328).take 8, decode code q.1 = .ok (q.2.1, q.2.2) := by decide +kernel
set_option maxRecDepth 100000 in
theorem dkl_336 : ∀ q ∈ (cd_255.drop 336).take 8, decode code q.1 = .ok (q.2.1, q.2.2) := by decide +kernel
set_option maxRecDepth 100000 in
theorem dkl_344 : ∀ q ∈ (cd_255.drop 344).take 8, decode code q.1 = .ok (q.2.1, q.2.2) := by decide +kernel
set_option maxRecDepth 100000 in
theorem dkl_352 : ∀ q ∈ (cd_255.drop 352).take 8, decode code q.1 = .ok (q.2.1, q.2.2) := by decide +kernel
set_option maxRecDepth 100000 in
theorem dkl_360 : ∀ q ∈ (cd_255.drop 360).take 8, decode code q.1 = .ok (q.2.1, q.2.2) := by decide +kernel
set_option maxRecDepth 100000 in
theorem dkl_368 : ∀ q ∈ (cd_255.drop 368).take 8, decode code q.1 = .ok (q.2.1, q.2.2) := by decide +kernel
set_option maxRecDepth 100000 in
theorem dkl_376 : ∀ q ∈ (cd_255.drop 376).take 8, decode code q.1 = .ok (q.2.1, q.2.2) := by decide +kernel
set_option maxRecDepth 100000 in
theorem dkl_384 : ∀ q ∈ (cd_255.drop 384).take 8, decode code q.1 = .ok (q.2.1, q.2.2) := by decide +kernel
set_option maxRecDepth 100000 in
theorem dkl_392 : ∀ q ∈ (cd_255.drop 392).take 8, decode code q.1 = .ok (q.2.1, q.2.2) := by decide +kernel
set_option maxRecDepth 100000 in
theorem dkl_400 : ∀ q ∈ (cd_255.drop 400).take 8, decode code q.1 = .ok (q.2.1, q.2.2) := by decide +kernel
set_option maxRecDepth 100000 in
theorem dkl_408 : ∀ q ∈ (cd_255.drop 408).take 8, decode code q.1 = .ok (q.2.1, q.2.2) := by decide +kernel
set_option maxRecDepth 100000 in
theorem dkl_416 : ∀ q ∈ (cd_255.drop 416).take 8, decode code q.1 = .ok (q.2.1, q.2.2) := by decide +kernel
set_option maxRecDepth 100000 in
theorem dkl_424 : ∀ q ∈ (cd_255.drop 424).take 8, decode code q.1 = .ok (q.2.1, q.2.2) := by decide +kernel
set_option maxRecDepth 100000 in
theorem dkl_432 : ∀ q ∈ (cd_255.drop 432).take 8, decode code q.1 = .ok (q.2.1, q.2.2) := by decide +kernel
set_option maxRecDepth 100000 in
theorem dkl_440 : ∀ q ∈ (cd_255.drop 440).take 8, decode code q.1 = .ok (q.2.1, q.2.2) := by decide +kernel
set_option maxRecDepth 100000 in
theorem dkl_448 : ∀ q ∈ (cd_255.drop 448).take 8, decode code q.1 = .ok (q.2.1, q.2.2) := by decide +kernel
set_option maxRecDepth 100000 in
theorem dkl_456 : ∀ q ∈ (cd_255.drop 456).take 8, decode code q.1 = .ok (q.2.1, q.2.2) := by decide +kernel
set_option maxRecDepth 100000 in
theorem dkl_464 : ∀ q ∈ (cd_255.drop 464).take 8, decode code q.1 = .ok (q.2.1, q.2.2) := by decide +kernel
set_option maxRecDepth 100000 in
theorem dkl_472 : ∀ q ∈ (cd_255.drop 472).take 8, decode code q.1 = .ok (q.2.1, q.2.2) := by decide +kernel
set_option maxRecDepth 100000 in
theorem dkl_480 : ∀ q ∈ (cd_255.drop 480).take 8, decode code q.1 = .ok (q.2.1, q.2.2) := by decide +kernel
set_option maxRecDepth 100000 in
theorem dkl_488 : ∀ q ∈ (cd_255.drop 488).take 8, decode code q.1 = .ok (q.2.1, q.2.2) := by decide +kernel
set_option maxRecDepth 100000 in
theorem dkl_496 : ∀ q ∈ (cd_255.drop 496).take 8, decode code q.1 = .ok (q.2.1, q.2.2) := by decide +kernel
set_option maxRecDepth 100000 in
theorem dkl_504 : ∀ q ∈ (cd_255.drop 504).take 8, decode code q.1 = .ok (q.2.1, q.2.2) := by decide +kernel
set_option maxRecDepth 100000 in
theorem dkl_512 : ∀ q ∈ (cd_255.drop 512).take 8, decode code q.1 = .ok (q.2.1, q.2.2) := by decide +kernel
set_option maxRecDepth 100000 in
theorem dkl_520 : ∀ q ∈ (cd_255.drop 520).take 8, decode code q.1 = .ok (q.2.1, q.2.2) := by decide +kernel
set_option maxRecDepth 100000 in
theorem dkl_528 : ∀ q ∈ (cd_255.drop 528).take 8, decode code q.1 = .ok (q.2.1, q.2.2) := by decide +kernel
set_option maxRecDepth 100000 in
theorem dkl_536 : ∀ q ∈ (cd_255.drop 536).take 8, decode code q.1 = .ok (q.2.1, q.2.2) := by decide +kernel
set_option maxRecDepth 100000 in
theorem dkl_544 : ∀ q ∈ (cd_255.drop 544).take 8, decode code q.1 = .ok (q.2.1, q.2.2) := by decide +kernel
set_option maxRecDepth 100000 in
theorem dkl_552 : ∀ q ∈ (cd_255.drop 552).take 8, decode code q.1 = .ok (q.2.1, q.2.2) := by decide +kernel
set_option maxRecDepth 100000 in
theorem dkl_560 : ∀ q ∈ (cd_255.drop 560).take 8, decode code q.1 = .ok (q.2.1, q.2.2) := by decide +kernel
set_option maxRecDepth 100000 in
theorem dkl_568 : ∀ q ∈ (cd_255.drop 568).take 8, decode code q.1 = .ok (q.2.1, q.2.2) := by decide +kernel
set_option maxRecDepth 100000 in
theorem dkl_576 : ∀ q ∈ (cd_255.drop 576).take 8, decode code q.1 = .ok (q.2.1, q.2.2) := by decide +kernel
set_option maxRecDepth 100000 in
theorem dkl_584 : ∀ q ∈ (cd_255.drop 584).take 8, decode code q.1 = .ok (q.2.1, q.2.2) := by decide +kernel
set_option maxRecDepth 100000 in
theorem dkl_592 : ∀ q ∈ (cd_255.drop 592).take 8, decode code q.1 = .ok (q.2.1, q.2.2) := by decide +kernel
set_option maxRecDepth 100000 in
theorem dkl_600 : ∀ q ∈ (cd_255.drop 600).take 8, decode code q.1 = .ok (q.2.1, q.2.2) := by decide +kernel
set_option maxRecDepth 100000 in
theorem dkl_608 : ∀ q ∈ (cd_255.drop 608).take 8, decode code q.1 = .ok (q.2.1, q.2.2) := by decide +kernel
set_option maxRecDepth 100000 in
theorem dkl_616 : ∀ q ∈ (cd_255.drop 616).take 8, decode code q.1 = .ok (q.2.1, q.2.2) := by decide +kernel
set_option maxRecDepth 100000 in
theorem dkl_624 : ∀ q ∈ (cd_255.drop 624).take 8, decode code q.1 = .ok (q.2.1, q.2.2) := by decide +kernel
set_option maxRecDepth 100000 in
theorem dkl_632 : ∀ q ∈ (cd_255.drop 632).take 8, decode code q.1 = .ok (q.2.1, q.2.2) := by decide +kernel
set_option maxRecDepth 100000 in
theorem dkl_640 : ∀ q ∈ (cd_255.drop 640).take 8, decode code q.1 = .ok (q.2.1, q.2.2) := by decide +kernel
set_option maxRecDepth 100000 in
theorem dkl_648 : ∀ q ∈ (cd_255.drop 648).take 8, decode code q.1 = .ok (q.2.1, q.2.2) := by decide +kernel
set_option maxRecDepth 100000 in
theorem dkl_656 : ∀ q ∈ (cd_255.drop 656).take 8, decode code q.1 = .ok (q.2.1, q.2.2) := by decide +kernel
set_option maxRecDepth 100000 in
theorem dkl_664 : ∀ q ∈ (cd_255.drop 664).take 8, decode code q.1 = .ok (q.2.1, q.2.2) := by decide +kernel
set_option maxRecDepth 100000 in
theorem dkl_672 : ∀ q ∈ (cd_255.drop 672).take 8, decode code q.1 = .ok (q.2.1, q.2.2) := by decide +kernel
set_option maxRecDepth 100000 in
theorem dkl_680 : ∀ q ∈ (cd_255.drop 680).take 8, decode code q.1 = .ok (q.2.1, q.2.2) := by decide +kernel
set_option maxRecDepth 100000 in
theorem dkl_688 : ∀ q ∈ (cd_255.drop 688).take 8, decode code q.1 = .ok (q.2.1, q.2.2) := by decide +kernel
set_option maxRecDepth 100000 in
theorem dkl_696 : ∀ q ∈ (cd_255.drop 696).take 8, decode code q.1 = .ok (q.2.1, q.2.2) := by decide +kernel
set_option maxRecDepth 100000 in
theorem dkl_704 : ∀ q ∈ (cd_255.drop 704).take 8, decode code q.1 = .ok (q.2.1, q.2.2) := by decide +kernel
set_option maxRecDepth 100000 in
theorem dkl_712 : ∀ q ∈ (cd_255.drop 712).take 8, decode code q.1 = .ok (q.2.1, q.2.2) := by decide +kernel
set_option maxRecDepth 100000 in
theorem dkl_720 : ∀ q ∈ (cd_255.drop 720).take 8, decode code q.1 = .ok (q.2.1, q.2.2) := by decide +kernel
set_option maxRecDepth 100000 in
theorem dkl_728 : ∀ q ∈ (cd_255.drop 728).take 8, decode code q.1 = .ok (q.2.1, q.2.2) := by decide +kernel
set_option maxRecDepth 100000 in
theorem dkl_736 : ∀ q ∈ (cd_255.drop 736).take 8, decode code q.1 = .ok (q.2.1, q.2.2) := by decide +kernel
set_option maxRecDepth 100000 in
theorem dkl_744 : ∀ q ∈ (cd_255.drop 744).take 8, decode code q.1 = .ok (q.2.1, q.2.2) := by decide +kernel
set_option maxRecDepth 100000 in
theorem dkl_752 : ∀ q ∈ (cd_255.drop 752).take 8, decode code q.1 = .ok (q.2.1, q.2.2) := by decide +kernel
set_option maxRecDepth 100000 in
theorem dkl_760 : ∀ q ∈ (cd_255.drop 760).take 8, decode code q.1 = .ok (q.2.1, q.2.2) := by decide +kernel
set_option maxRecDepth 100000 in
theorem dkl_768 : ∀ q ∈ (cd_255.drop 768).take 8, decode code q.1 = .ok (q.2.1, q.2.2) := by decide +kernel
set_option maxRecDepth 100000 in
theorem dkl_776 : ∀ q ∈ (cd_255.drop 776).take 8, decode code q.1 = .ok (q.2.1, q.2.2) := by decide +kernel
set_option maxRecDepth 100000 in
theorem dkl_784 : ∀ q ∈ (cd_255.drop 784).take 8, decode code q.1 = .ok (q.2.1, q.2.2) := by decide +kernel
set_option maxRecDepth 100000 in
theorem dkl_792 : ∀ q ∈ (cd_255.drop 792).take 8, decode code q.1 = .ok (q.2.1, q.2.2) := by decide +kernel
set_option maxRecDepth 100000 in
theorem dkl_800 : ∀ q ∈ (cd_255.drop 800).take 8, decode code q.1 = .ok (q.2.1, q.2.2) := by decide +kernel
set_option maxRecDepth 100000 in
theorem dkl_808 : ∀ q ∈ (cd_255.drop 808).take 8, decode code q.1 = .ok (q.2.1, q.2.2) := by decide +kernel
set_option maxRecDepth 100000 in
theorem dkl_816 : ∀ q ∈ (cd_255.drop 816).take 8, decode code q.1 = .ok (q.2.1, q.2.2) := by decide +kernel
set_option maxRecDepth 100000 in
theorem dkl_824 : ∀ q ∈ (cd_255.drop 824).take 8, decode code q.1 = .ok (q.2.1, q.2.2) := by decide +kernel
set_option maxRecDepth 100000 in
theorem dkl_832 : ∀ q ∈ (cd_255.drop 832).take 8, decode code q.1 = .ok (q.2.1, q.2.2) := by decide +kernel
set_option maxRecDepth 100000 in
theorem dkl_840 : ∀ q ∈ (cd_255.drop 840).take 8, decode code q.1 = .ok (q.2.1, q.2.2) := by decide +kernel
set_option maxRecDepth 100000 in
theorem dkl_848 : ∀ q ∈ (cd_255.drop 848).take 8, decode code q.1 = .ok (q.2.1, q.2.2) := by decide +kernel
set_option maxRecDepth 100000 in
theorem dkl_856 : ∀ q ∈ (cd_255.drop 856).take 8, decode code q.1 = .ok (q.2.1, q.2.2) := by decide +kernel
set_option maxRecDepth 100000 in
theorem dkl_864 : ∀ q ∈ (cd_255.drop 864).take 8, decode code q.1 = .ok (q.2.1, q.2.2) := by decide +kernel
set_option maxRecDepth 100000 in
theorem dkl_872 : ∀ q ∈ (cd_255.drop 872).take 8, decode code q.1 = .ok (q.2.1, q.2.2) := by decide +kernel
set_option maxRecDepth 100000 in
theorem dkl_880 : ∀ q ∈ (cd_255.drop 880).take 8, decode code q.1 = .ok (q.2.1, q.2.2) := by decide +kernel
set_option maxRecDepth 100000 in
theorem dkl_888 : ∀ q ∈ (cd_255.drop 888).take 8, decode code q.1 = .ok (q.2.1, q.2.2) := by decide +kernel
set_option maxRecDepth 100000 in
theorem dkl_896 : ∀ q ∈ (cd_255.drop 896).take 8, decode code q.1 = .ok (q.2.1, q.2.2) := by decide +kernel
set_option maxRecDepth 100000 in
theorem dkl_904 : ∀ q ∈ (cd_255.drop 904).take 8, decode code q.1 = .ok (q.2.1, q.2.2) := by decide +kernel
set_option maxRecDepth 100000 in
theorem dkl_912 : ∀ q ∈ (cd_255.drop 912).take 8, decode code q.1 = .ok (q.2.1, q.2.2) := by decide +kernel
set_option maxRecDepth 100000 in
theorem dkl_920 : ∀ q ∈ (cd_255.drop 920).take 8, decode code q.1 = .ok (q.2.1, q.2.2) := by decide +kernel
set_option maxRecDepth 100000 in
theorem dkl_928 : ∀ q ∈ (cd_255.drop 928).take 8, decode code q.1 = .ok (q.2.1, q.2.2) := by decide +kernel
set_option maxRecDepth 100000 in
theorem dkl_936 : ∀ q ∈ (cd_255.drop 936).take 8, decode code q.1 = .ok (q.2.1, q.2.2) := by decide +kernel
set_option maxRecDepth 100000 in
theorem dkl_944 : ∀ q ∈ (cd_255.drop 944).take 8, decode code q.1 = .ok (q.2.1, q.2.2) := by decide +kernel
set_option maxRecDepth 100000 in
theorem dkl_952 : ∀ q ∈ (cd_255.drop 952).take 8, decode code q.1 = .ok (q.2.1, q.2.2) := by decide +kernel
set_option maxRecDepth 100000 in
theorem dkl_960 : ∀ q ∈ (cd_255.drop 960).take 8, decode code q.1 = .ok (q.2.1, q.2.2) := by decide +kernel
set_option maxRecDepth 100000 in
theorem dkl_968 : ∀ q ∈ (cd_255.drop 968).take 8, decode code q.1 = .ok (q.2.1, q.2.2) := by decide +kernel
set_option maxRecDepth 100000 in
theorem dkl_976 : ∀ q ∈ (cd_255.drop 976).take 8, decode code q.1 = .ok (q.2.1, q.2.2) := by decide +kernel
set_option maxRecDepth 100000 in
theorem dkl_984 : ∀ q ∈ (cd_255.drop 984).take 8, decode code q.1 = .ok (q.2.1, q.2.2) := by decide +kernel
set_option maxRecDepth 100000 in
theorem dkl_992 : ∀ q ∈ (cd_255.drop 992).take 8, decode code q.1 = .ok (q.2.1, q.2.2) := by decide +kernel
set_option maxRecDepth 100000 in
theorem dkl_1000 : ∀ q ∈ (cd_255.drop 1000).take 8, decode code q.1 = .ok (q.2.1, q.2.2) := by decide +kernel
set_option maxRecDepth 100000 in
theorem dkl_1008 : ∀ q ∈ (cd_255.drop 1008).take 8, decode code q.1 = .ok (q.2.1, q.2.2) := by decide +kernel
set_option maxRecDepth 100000 in
theorem dkl_1016 : ∀ q ∈ (cd_255.drop 1016).take 8, decode code q.1 = .ok (q.2.1, q.2.2) := by decide +kernel
set_option maxRecDepth 100000 in
theorem dkl_1024 : ∀ q ∈ (cd_255.drop 1024).take 8, decode code q.1 = .ok (q.2.1, q.2.2) := by decide +kernel
set_option maxRecDepth 100000 in
theorem dkl_1032 : ∀ q ∈ (cd_255.drop 1032).take 8, decode code q.1 = .ok (q.2.1, q.2.2) := by decide +kernel
set_option maxRecDepth 100000 in
theorem dkl_1040 : ∀ q ∈ (cd_255.drop 1040).take 8, decode code q.1 = .ok (q.2.1, q.2.2) := by decide +kernel
set_option maxRecDepth 100000 in
theorem dkl_1048 : ∀ q ∈ (cd_255.drop 1048).take 8, decode code q.1 = .ok (q.2.1, q.2.2) := by decide +kernel
set_option maxRecDepth 100000 in
theorem dkl_1056 : ∀ q ∈ (cd_255.drop 1056).take 8, decode code q.1 = .ok (q.2.1, q.2.2) := by decide +kernel
set_option maxRecDepth 100000 in
theorem dkl_1064 : ∀ q ∈ (cd_255.drop 1064).take 8, decode code q.1 = .ok (q.2.1, q.2.2) := by decide +kernel
set_option maxRecDepth 100000 in
theorem dkl_1072 : ∀ q ∈ (cd_255.drop 1072).take 8, decode code q.1 = .ok (q.2.1, q.2.2) := by decide +kernel
set_option maxRecDepth 100000 in
theorem dkl_1080 : ∀ q ∈ (cd_255.drop 1080).take 8, decode code q.1 = .ok (q.2.1, q.2.2) := by decide +kernel
set_option maxRecDepth 100000 in
theorem dkl_1088 : ∀ q ∈ (cd_255.drop 1088).take 8, decode code q.1 = .ok (q.2.1, q.2.2) := by decide +kernel
set_option maxRecDepth 100000 in
theorem dkl_1096 : ∀ q ∈ (cd_255.drop 1096).take 8, decode code q.1 = .ok (q.2.1, q.2.2) := by decide +kernel
set_option maxRecDepth 100000 in
theorem dkl_1104 : ∀ q ∈ (cd_255.drop 1104).take 8, decode code q.1 = .ok (q.2.1, q.2.2) := by decide +kernel
set_option maxRecDepth 100000 in
theorem dkl_1112 : ∀ q ∈ (cd_255.drop 1112).take 8, decode code q.1 = .ok (q.2.1, q.2.2) := by decide +kernel
set_option maxRecDepth 100000 in
theorem dkl_1120 : ∀ q ∈ (cd_255.drop 1120).take 8, decode code q.1 = .ok (q.2.1, q.2.2) := by decide +kernel
set_option maxRecDepth 100000 in
theorem dkl_1128 : ∀ q ∈ (cd_255.drop 1128).take 8, decode code q.1 = .ok (q.2.1, q.2.2) := by decide +kernel
set_option maxRecDepth 100000 in
theorem dkl_1136 : ∀ q ∈ (cd_255.drop 1136).take 8, decode code q.1 = .ok (q.2.1, q.2.2) := by decide +kernel
set_option maxRecDepth 100000 in
theorem dkl_1144 : ∀ q ∈ (cd_255.drop 1144).take 8, decode code q.1 = .ok (q.2.1, q.2.2) := by decide +kernel
set_option maxRecDepth 100000 in
theorem dkl_1152 : ∀ q ∈ (cd_255.drop 1152).take 8, decode code q.1 = .ok (q.2.1, q.2.2) := by decide +kernel
set_option maxRecDepth 100000 in
theorem dkl_1160 : ∀ q ∈ (cd_255.drop 1160).take 8, decode code q.1 = .ok (q.2.1, q.2.2) := by decide +kernel
set_option maxRecDepth 100000 in
theorem dkl_1168 : ∀ q ∈ (cd_255.drop 1168).take 8, decode code q.1 = .ok (q.2.1, q.2.2) := by decide +kernel
set_option maxRecDepth 100000 in
theorem dkl_1176 : ∀ q ∈ (cd_255.drop 1176).take 8, decode code q.1 = .ok (q.2.1, q.2.2) := by decide +kernel
set_option maxRecDepth 100000 in
theorem dkl_1184 : ∀ q ∈ (cd_255.drop 1184).take 8, decode code q.1 = .ok (q.2.1, q.2.2) := by decide +kernel
set_option maxRecDepth 100000 in
theorem dkl_1192 : ∀ q ∈ (cd_255.drop 1192).take 8, decode code q.1 = .ok (q.2.1, q.2.2) := by decide +kernel
set_option maxRecDepth 100000 in
theorem dkl_1200 : ∀ q ∈ (cd_255.drop 1200).take 8, decode code q.1 = .ok (q.2.1, q.2.2) := by decide +kernel
set_option maxRecDepth 100000 in
theorem dkl_1208 : ∀ q ∈ (cd_255.drop 1208).take 8, decode code q.1 = .ok (q.2.1, q.2.2) := by decide +kernel
set_option maxRecDepth 100000 in
theorem dkl_1216 : ∀ q ∈ (cd_255.drop 1216).take 8, decode code q.1 = .ok (q.2.1, q.2.2) := by decide +kernel
set_option maxRecDepth 100000 in
theorem dkl_1224 : ∀ q ∈ (cd_255.drop 1224).take 8, decode code q.1 = .ok (q.2.1, q.2.2) := by decide +kernel
set_option maxRecDepth 100000 in
theorem dkl_1232 : ∀ q ∈ (cd_255.drop 1232).take 8, decode code q.1 = .ok (q.2.1, q.2.2) := by decide +kernel
set_option maxRecDepth 100000 in
theorem dkl_1240 : ∀ q ∈ (cd_255.drop 1240).take 8, decode code q.1 = .ok (q.2.1, q.2.2) := by decide +kernel
set_option maxRecDepth 100000 in
theorem dkl_1248 : ∀ q ∈ (cd_255.drop 1248).take 8, decode code q.1 = .ok (q.2.1, q.2.2) := by decide +kernel
set_option maxRecDepth 100000 in
theorem dkl_1256 : ∀ q ∈ (cd_255.drop 1256).take 8, decode code q.1 = .ok (q.2.1, q.2.2) := by decide +kernel
set_option maxRecDepth 100000 in
theorem dkl_1264 : ∀ q ∈ (cd_255.drop 1264).take 8, decode code q.1 = .ok (q.2.1, q.2.2) := by decide +kernel
set_option maxRecDepth 100000 in
theorem dkl_1272 : ∀ q ∈ (cd_255.drop 1272).take 8, decode code q.1 = .ok (q.2.1, q.2.2) := by decide +kernel
set_option maxRecDepth 100000 in
theorem dkl_1280 : ∀ q ∈ (cd_255.drop 1280).take 8, decode code q.1 = .ok (q.2.1, q.2.2) := by decide +kernel
set_option maxRecDepth 100000 in
theorem dkl_1288 : ∀ q ∈ (cd_255.drop 1288).take 8, decode code q.1 = .ok (q.2.1, q.2.2) := by decide +kernel
set_option maxRecDepth 100000 in
theorem dkl_1296 : ∀ q ∈ (cd_255.drop 1296).take 8, decode code q.1 = .ok (q.2.1, q.2.2) := by decide +kernel
set_option maxRecDepth 100000 in
theorem dkl_1304 : ∀ q ∈ (cd_255.drop 1304).take 8, decode code q.1 = .ok (q.2.1, q.2.2) := by decide +kernel
set_option maxRecDepth 100000 in
theorem dkl_1312 : ∀ q ∈ (cd_255.drop 1312).take 8, decode code q.1 = .ok (q.2.1, q.2.2) := by decide +kernel
set_option maxRecDepth 100000 in
theorem dkl_1320 : ∀ q ∈ (cd_255.drop 1320).take 8, decode code q.1 = .ok (q.2.1, q.2.2) := by decide +kernel
set_option maxRecDepth 100000 in
theorem dkl_1328 : ∀ q ∈ (cd_255.drop 1328).take 8, decode code q.1 = .ok (q.2.1, q.2.2) := by decide +kernel
set_option maxRecDepth 100000 in
theorem dkl_1336 : ∀ q ∈ (cd_255.drop 1336).take 8, decode code q.1 = .ok (q.2.1, q.2.2) := by decide +kernel
set_option maxRecDepth 100000 in
theorem dkr_1344 : ∀ q ∈ cd_255.drop 1344, decode code q.1 = .ok (q.2.1, q.2.2) := by decide +kernel
theorem dkr_1336 : ∀ q ∈ cd_255.drop 1336, decode code q.1 = .ok (q.2.1, q.2.2) := all_more 1336 8 dkl_1336 dkr_1344
theorem dkr_1328 : ∀ q ∈ cd_255.drop 1328, decode code q.1 = .ok (q.2.1, q.2.2) := all_more 1328 8 dkl_1328 dkr_1336
theorem dkr_1320 : ∀ q ∈ cd_255.drop 1320, decode code q.1 = .ok (q.2.1, q.2.2) := all_more 1320 8 dkl_1320 dkr_1328
theorem dkr_1312 : ∀ q ∈ cd_255.drop 1312, decode code q.1 = .ok (q.2.1, q.2.2) := all_more 1312 8 dkl_1312 dkr_1320
theorem dkr_1304 : ∀ q ∈ cd_255.drop 1304, decode code q.1 = .ok (q.2.1, q.2.2) := all_more 1304 8 dkl_1304 dkr_1312
theorem dkr_1296 : ∀ q ∈ cd_255.drop 1296, decode code q.1 = .ok (q.2.1, q.2.2) := all_more 1296 8 dkl_1296 dkr_1304
theorem dkr_1288 : ∀ q ∈ cd_255.drop 1288, decode code q.1 = .ok (q.2.1, q.2.2) := all_more 1288 8 dkl_1288 dkr_1296
theorem dkr_1280 : ∀ q ∈ cd_255.drop 1280, decode code q.1 = .ok (q.2.1, q.2.2) := all_more 1280 8 dkl_1280 dkr_1288
theorem dkr_1272 : ∀ q ∈ cd_255.drop 1272, decode code q.1 = .ok (q.2.1, q.2.2) := all_more 1272 8 dkl_1272 dkr_1280
theorem dkr_1264 : ∀ q ∈ cd_255.drop 1264, decode code q.1 = .ok (q.2.1, q.2.2) := all_more 1264 8 dkl_1264 dkr_1272
theorem dkr_1256 : ∀ q ∈ cd_255.drop 1256, decode code q.1 = .ok (q.2.1, q.2.2) := all_more 1256 8 dkl_1256 dkr_1264
theorem dkr_1248 : ∀ q ∈ cd_255.drop 1248, decode code q.1 = .ok (q.2.1, q.2.2) := all_more 1248 8 dkl_1248 dkr_1256
theorem dkr_1240 : ∀ q ∈ cd_255.drop 1240, decode code q.1 = .ok (q.2.1, q.2.2) := all_more 1240 8 dkl_1240 dkr_1248
theorem dkr_1232 : ∀ q ∈ cd_255.drop 1232, decode code q.1 = .ok (q.2.1, q.2.2) := all_more 1232 8 dkl_1232 dkr_1240
theorem dkr_1224 : ∀ q ∈ cd_255.drop 1224, decode code q.1 = .ok (q.2.1, q.2.2) := all_more 1224 8 dkl_1224 dkr_1232
theorem dkr_1216 : ∀ q ∈ cd_255.drop 1216, decode code q.1 = .ok (q.2.1, q.2.2) := all_more 1216 8 dkl_1216 dkr_1224
theorem dkr_1208 : ∀ q ∈ cd_255.drop 1208, decode code q.1 = .ok (q.2.1, q.2.2) := all_more 1208 8 dkl_1208 dkr_1216
theorem dkr_1200 : ∀ q ∈ cd_255.drop 1200, decode code q.1 = .ok (q.2.1, q.2.2) := all_more 1200 8 dkl_1200 dkr_1208
theorem dkr_1192 : ∀ q ∈ cd_255.drop 1192, decode code q.1 = .ok (q.2.1, q.2.2) := all_more 1192 8 dkl_1192 dkr_1200
theorem dkr_1184 : ∀ q ∈ cd_255.drop 1184, decode code q.1 = .ok (q.2.1, q.2.2) := all_more 1184 8 dkl_1184 dkr_1192
theorem dkr_1176 : ∀ q ∈ cd_255.drop 1176, decode code q.1 = .ok (q.2.1, q.2.2) := all_more 1176 8 dkl_1176 dkr_1184
theorem dkr_1168 : ∀ q ∈ cd_255.drop 1168, decode code q.1 = .ok (q.2.1, q.2.2) := all_more 1168 8 dkl_1168 dkr_1176
theorem dkr_1160 : ∀ q ∈ cd_255.drop 1160, decode code q.1 = .ok (q.2.1, q.2.2) := all_more 1160 8 dkl_1160 dkr_1168
theorem dkr_1152 : ∀ q ∈ cd_255.drop 1152, decode code q.1 = .ok (q.2.1, q.2.2) := all_more 1152 8 dkl_1152 dkr_1160
theorem dkr_1144 : ∀ q ∈ cd_255.drop 1144, decode code q.1 = .ok (q.2.1, q.2.2) := all_more 1144 8 dkl_1144 dkr_1152
theorem dkr_1136 : ∀ q ∈ cd_255.drop 1136, decode code q.1 = .ok (q.2.1, q.2.2) := all_more 1136 8 dkl_1136 dkr_1144
theorem dkr_1128 : ∀ q ∈ cd_255.drop 1128, decode code q.1 = .ok (q.2.1, q.2.2) := all_more 1128 8 dkl_1128 dkr_1136
theorem dkr_1120 : ∀ q ∈ cd_255.drop 1120, decode code q.1 = .ok (q.2.1, q.2.2) := all_more 1120 8 dkl_1120 dkr_1128
theorem dkr_1112 : ∀ q ∈ cd_255.drop 1112, decode code q.1 = .ok (q.2.1, q.2.2) := all_more 1112 8 dkl_1112 dkr_1120
theorem dkr_1104 : ∀ q ∈ cd_255.drop 1104, decode code q.1 = .ok (q.2.1, q.2.2) := all_more 1104 8 dkl_1104 dkr_1112
theorem dkr_1096 : ∀ q ∈ cd_255.drop 1096, decode code q.1 = .ok (q.2.1, q.2.2) := all_more 1096 8 dkl_1096 dkr_1104
theorem dkr_1088 : ∀ q ∈ cd_255.drop 1088, decode code q.1 = .ok (q.2.1, q.2.2) := all_more 1088 8 dkl_1088 dkr_1096
theorem dkr_1080 : ∀ q ∈ cd_255.drop 1080, decode code q.1 = .ok (q.2.1, q.2.2) := all_more 1080 8 dkl_1080 dkr_1088
theorem dkr_1072 : ∀ q ∈ cd_255.drop 1072, decode code q.1 = .ok (q.2.1, q.2.2) := all_more 1072 8 dkl_1072 dkr_1080
theorem dkr_1064 : ∀ q ∈ cd_255.drop 1064, decode code q.1 = .ok (q.2.1, q.2.2) := all_more 1064 8 dkl_1064 dkr_1072
theorem dkr_1056 : ∀ q ∈ cd_255.drop 1056, decode code q.1 = .ok (q.2.1, q.2.2) := all_more 1056 8 dkl_1056 dkr_1064
theorem dkr_1048 : ∀ q ∈ cd_255.drop 1048, decode code q.1 = .ok (q.2.1, q.2.2) := all_more 1048 8 dkl_1048 dkr_1056
theorem dkr_1040 : ∀ q ∈ cd_255.drop 1040, decode code q.1 = .ok (q.2.1, q.2.2) := all_more 1040 8 dkl_1040 dkr_1048
theorem dkr_1032 : ∀ q ∈ cd_255.drop 1032, decode code q.1 = .ok (q.2.1, q.2.2) := all_more 1032 8 dkl_1032 dkr_1040
theorem dkr_1024 : ∀ q ∈ cd_255.drop 1024, decode code q.1 = .ok (q.2.1, q.2.2) := all_more 1024 8 dkl_1024 dkr_1032
theorem dkr_1016 : ∀ q ∈ cd_255.drop 1016, decode code q.1 = .ok (q.2.1, q.2.2) := all_more 1016 8 dkl_1016 dkr_1024
theorem dkr_1008 : ∀ q ∈ cd_255.drop 1008, decode code q.1 = .ok (q.2.1, q.2.2) := all_more 1008 8 dkl_1008 dkr_1016
theorem dkr_1000 : ∀ q ∈ cd_255.drop 1000, decode code q.1 = .ok (q.2.1, q.2.2) := all_more 1000 8 dkl_1000 dkr_1008
theorem dkr_992 : ∀ q ∈ cd_255.drop 992, decode code q.1 = .ok (q.2.1, q.2.2) := all_more 992 8 dkl_992 dkr_1000
theorem dkr_984 : ∀ q ∈ cd_255.drop 984, decode code q.1 = .ok (q.2.1, q.2.2) := all_more 984 8 dkl_984 dkr_992
theorem dkr_976 : ∀ q ∈ cd_255.drop 976, decode code q.1 = .ok (q.2.1, q.2.2) := all_more 976 8 dkl_976 dkr_984
theorem dkr_968 : ∀ q ∈ cd_255.drop 968, decode code q.1 = .ok (q.2.1, q.2.2) := all_more 968 8 dkl_968 dkr_976
theorem dkr_960 : ∀ q ∈ cd_255.drop 960, decode code q.1 = .ok (q.2.1, q.2.2) := all_more 960 8 dkl_960 dkr_968
theorem dkr_952 : ∀ q ∈ cd_255.drop 952, decode code q.1 = .ok (q.2.1, q.2.2) := all_more 952 8 dkl_952 dkr_960
theorem dkr_944 : ∀ q ∈ cd_255.drop 944, decode code q.1 = .ok (q.2.1, q.2.2) := all_more 944 8 dkl_944 dkr_952
theorem dkr_936 : ∀ q ∈ cd_255.drop 936, decode code q.1 = .ok (q.2.1, q.2.2) := all_more 936 8 dkl_936 dkr_944
theorem dkr_928 : ∀ q ∈ cd_255.drop 928, decode code q.1 = .ok (q.2.1, q.2.2) := all_more 928 8 dkl_928 dkr_936
theorem dkr_920 : ∀ q ∈ cd_255.drop 920, decode code q.1 = .ok (q.2.1, q.2.2) := all_more 920 8 dkl_920 dkr_928
theorem dkr_912 : ∀ q ∈ cd_255.drop 912, decode code q.1 = .ok (q.2.1, q.2.2) := all_more 912 8 dkl_912 dkr_920
theorem dkr_904 : ∀ q ∈ cd_255.drop 904, decode code q.1 = .ok (q.2.1, q.2.2) := all_more 904 8 dkl_904 dkr_912
theorem dkr_896 : ∀ q ∈ cd_255.drop 896, decode code q.1 = .ok (q.2.1, q.2.2) := all_more 896 8 dkl_896 dkr_904
theorem dkr_888 : ∀ q ∈ cd_255.drop 888, decode code q.1 = .ok (q.2.1, q.2.2) := all_more 888 8 dkl_888 dkr_896
theorem dkr_880 : ∀ q ∈ cd_255.drop 880, decode code q.1 = .ok (q.2.1, q.2.2) := all_more 880 8 dkl_880 dkr_888
theorem dkr_872 : ∀ q ∈ cd_255.drop 872, decode code q.1 = .ok (q.2.1, q.2.2) := all_more 872 8 dkl_872 dkr_880
theorem dkr_864 : ∀ q ∈ cd_255.drop 864, decode code q.1 = .ok (q.2.1, q.2.2) := all_more 864 8 dkl_864 dkr_872
theorem dkr_856 : ∀ q ∈ cd_255.drop 856, decode code q.1 = .ok (q.2.1, q.2.2) := all_more 856 8 dkl_856 dkr_864
theorem dkr_848 : ∀ q ∈ cd_255.drop 848, decode code q.1 = .ok (q.2.1, q.2.2) := all_more 848 8 dkl_848 dkr_856
theorem dkr_840 : ∀ q ∈ cd_255.drop 840, decode code q.1 = .ok (q.2.1, q.2.2) := all_more 840 8 dkl_840 dkr_848
theorem dkr_832 : ∀ q ∈ cd_255.drop 832, decode code q.1 = .ok (q.2.1, q.2.2) := all_more 832 8 dkl_832 dkr_840
theorem dkr_824 : ∀ q ∈ cd_255.drop 824, decode code q.1 = .ok (q.2.1, q.2.2) := all_more 824 8 dkl_824 dkr_832
theorem dkr_816 : ∀ q ∈ cd_255.drop 816, decode code q.1 = .ok (q.2.1, q.2.2) := all_more 816 8 dkl_816 dkr_824
theorem dkr_808 : ∀ q ∈ cd_255.drop 808, decode code q.1 = .ok (q.2.1, q.2.2) := all_more 808 8 dkl_808 dkr_816
theorem dkr_800 : ∀ q ∈ cd_255.drop 800, decode code q.1 = .ok (q.2.1, q.2.2) := all_more 800 8 dkl_800 dkr_808
theorem dkr_792 : ∀ q ∈ cd_255.drop 792, decode code q.1 = .ok (q.2.1, q.2.2) := all_more 792 8 dkl_792 dkr_800
theorem dkr_784 : ∀ q ∈ cd_255.drop 784, decode code q.1 = .ok (q.2.1, q.2.2) := all_more 784 8 dkl_784 dkr_792
theorem dkr_776 : ∀ q ∈ cd_255.drop 776, decode code q.1 = .ok (q.2.1, q.2.2) := all_more 776 8 dkl_776 dkr_784
theorem dkr_768 : ∀ q ∈ cd_255.drop 768, decode code q.1 = .ok (q.2.1, q.2.2) := all_more 768 8 dkl_768 dkr_776
theorem dkr_760 : ∀ q ∈ cd_255.drop 760, decode code q.1 = .ok (q.2.1, q.2.2) := all_more 760 8 dkl_760 dkr_768
theorem dkr_752 : ∀ q ∈ cd_255.drop 752, decode code q.1 = .ok (q.2.1, q.2.2) := all_more 752 8 dkl_752 dkr_760
theorem dkr_744 : ∀ q ∈ cd_255.drop 744, decode code q.1 = .ok (q.2.1, q.2.2) := all_more 744 8 dkl_744 dkr_752
theorem dkr_736 : ∀ q ∈ cd_255.drop 736, decode code q.1 = .ok (q.2.1, q.2.2) := all_more 736 8 dkl_736 dkr_744
theorem dkr_728 : ∀ q ∈ cd_255.drop 728, decode code q.1 = .ok (q.2.1, q.2.2) := all_more 728 8 dkl_728 dkr_736
theorem dkr_720 : ∀ q ∈ cd_255.drop 720, decode code q.1 = .ok (q.2.1, q.2.2) := all_more 720 8 dkl_720 dkr_728
theorem dkr_712 : ∀ q ∈ cd_255.drop 712, decode code q.1 = .ok (q.2.1, q.2.2) := all_more 712 8 dkl_712 dkr_720
theorem dkr_704 : ∀ q ∈ cd_255.drop 704, decode code q.1 = .ok (q.2.1, q.2.2) := all_more 704 8 dkl_704 dkr_712
theorem dkr_696 : ∀ q ∈ cd_255.drop 696, decode code q.1 = .ok (q.2.1, q.2.2) := all_more 696 8 dkl_696 dkr_704
theorem dkr_688 : ∀ q ∈ cd_255.drop 688, decode code q.1 = .ok (q.2.1, q.2.2) := all_more 688 8 dkl_688 dkr_696
theorem dkr_680 : ∀ q ∈ cd_255.drop 680, decode code q.1 = .ok (q.2.1, q.2.2) := all_more 680 8 dkl_680 dkr_688
theorem dkr_672 : ∀ q ∈ cd_255.drop 672, decode code q.1 = .ok (q.2.1, q.2.2) := all_more 672 8 dkl_672 dkr_680
theorem dkr_664 : ∀ q ∈ cd_255.drop 664, decode code q.1 = .ok (q.2.1, q.2.2) := all_more 664 8 dkl_664 dkr_672
theorem dkr_656 : ∀ q ∈ cd_255.drop 656, decode code q.1 = .ok (q.2.1, q.2.2) := all_more 656 8 dkl_656 dkr_664
theorem dkr_648 : ∀ q ∈ cd_255.drop 648, decode code q.1 = .ok (q.2.1, q.2.2) := all_more 648 8 dkl_648 dkr_656
theorem dkr_640 : ∀ q ∈ cd_255.drop 640, decode code q.1 = .ok (q.2.1, q.2.2) := all_more 640 8 dkl_640 dkr_648
theorem dkr_632 : ∀ q ∈ cd_255.drop 632, decode code q.1 = .ok (q.2.1, q.2.2) := all_more 632 8 dkl_632 dkr_640
theorem dkr_624 : ∀ q ∈ cd_255.drop 624, decode code q.1 = .ok (q.2.1, q.2.2) := all_more 624 8 dkl_624 dkr_632
theorem dkr_616 : ∀ q ∈ cd_255.drop 616, decode code q.1 = .ok (q.2.1, q.2.2) := all_more 616 8 dkl_616 dkr_624
theorem dkr_608 : ∀ q ∈ cd_255.drop 608, decode code q.1 = .ok (q.2.1, q.2.2) := all_more 608 8 dkl_608 dkr_616
theorem dkr_600 : ∀ q ∈ cd_255.drop 600, decode code q.1 = .ok (q.2.1, q.2.2) := all_more 600 8 dkl_600 dkr_608
theorem dkr_592 : ∀ q ∈ cd_255.drop 592, decode code q.1 = .ok (q.2.1, q.2.2) := all_more 592 8 dkl_592 dkr_600
theorem dkr_584 : ∀ q ∈ cd_255.drop 584, decode code q.1 = .ok (q.2.1, q.2.2) := all_more 584 8 dkl_584 dkr_592
theorem dkr_576 : ∀ q ∈ cd_255.drop 576, decode code q.1 = .ok (q.2.1, q.2.2) := all_more 576 8 dkl_576 dkr_584
theorem dkr_568 : ∀ q ∈ cd_255.drop 568, decode code q.1 = .ok (q.2.1, q.2.2) := all_more 568 8 dkl_568 dkr_576
theorem dkr_560 : ∀ q ∈ cd_255.drop 560, decode code q.1 = .ok (q.2.1, q.2.2) := all_more 560 8 dkl_560 dkr_568
theorem dkr_552 : ∀ q ∈ cd_255.drop 552, decode code q.1 = .ok (q.2.1, q.2.2) := all_more 552 8 dkl_552 dkr_560
theorem dkr_544 : ∀ q ∈ cd_255.drop 544, decode code q.1 = .ok (q.2.1, q.2.2) := all_more 544 8 dkl_544 dkr_552
theorem dkr_536 : ∀ q ∈ cd_255.drop 536, decode code q.1 = .ok (q.2.1, q.2.2) := all_more 536 8 dkl_536 dkr_544
theorem dkr_528 : ∀ q ∈ cd_255.drop 528, decode code q.1 = .ok (q.2.1, q.2.2) := all_more 528 8 dkl_528 dkr_536
theorem dkr_520 : ∀ q ∈ cd_255.drop 520, decode code q.1 = .ok (q.2.1, q.2.2) := all_more 520 8 dkl_520 dkr_528
theorem dkr_512 : ∀ q ∈ cd_255.drop 512, decode code q.1 = .ok (q.2.1, q.2.2) := all_more 512 8 dkl_512 dkr_520
theorem dkr_504 : ∀ q ∈ cd_255.drop 504, decode code q.1 = .ok (q.2.1, q.2.2) := all_more 504 8 dkl_504 dkr_512
theorem dkr_496 : ∀ q ∈ cd_255.drop 496, decode code q.1 = .ok (q.2.1, q.2.2) := all_more 496 8 dkl_496 dkr_504
theorem dkr_488 : ∀ q ∈ cd_255.drop 488, decode code q.1 = .ok (q.2.1, q.2.2) := all_more 488 8 dkl_488 dkr_496
theorem dkr_480 : ∀ q ∈ cd_255.drop 480, decode code q.1 = .ok (q.2.1, q.2.2) := all_more 480 8 dkl_480 dkr_488
theorem dkr_472 : ∀ q ∈ cd_255.drop 472, decode code q.1 = .ok (q.2.1, q.2.2) := all_more 472 8 dkl_472 dkr_480
theorem dkr_464 : ∀ q ∈ cd_255.drop 464, decode code q.1 = .ok (q.2.1, q.2.2) := all_more 464 8 dkl_464 dkr_472
theorem dkr_456 : ∀ q ∈ cd_255.drop 456, decode code q.1 = .ok (q.2.1, q.2.2) := all_more 456 8 dkl_456 dkr_464
theorem dkr_448 : ∀ q ∈ cd_255.drop 448, decode code q.1 = .ok (q.2.1, q.2.2) := all_more 448 8 dkl_448 dkr_456
theorem dkr_440 : ∀ q ∈ cd_255.drop 440, decode code q.1 = .ok (q.2.1, q.2.2) := all_more 440 8 dkl_440 dkr_448
theorem dkr_432 : ∀ q ∈ cd_255.drop 432, decode code q.1 = .ok (q.2.1, q.2.2) := all_more 432 8 dkl_432 dkr_440
theorem dkr_424 : ∀ q ∈ cd_255.drop 424, decode code q.1 = .ok (q.2.1, q.2.2) := all_more 424 8 dkl_424 dkr_432
theorem dkr_416 : ∀ q ∈ cd_255.drop 416, decode code q.1 = .ok (q.2.1, q.2.2) := all_more 416 8 dkl_416 dkr_424
theorem dkr_408 : ∀ q ∈ cd_255.drop 408, decode code q.1 = .ok (q.2.1, q.2.2) := all_more 408 8 dkl_408 dkr_416
theorem dkr_400 : ∀ q ∈ cd_255.drop 400, decode code q.1 = .ok (q.2.1, q.2.2) := all_more 400 8 dkl_400 dkr_408
theorem dkr_392 : ∀ q ∈ cd_255.drop 392, decode code q.1 = .ok (q.2.1, q.2.2) := all_more 392 8 dkl_392 dkr_400
theorem dkr_384 : ∀ q ∈ cd_255.drop 384, decode code q.1 = .ok (q.2.1, q.2.2) := all_more 384 8 dkl_384 dkr_392
theorem dkr_376 : ∀ q ∈ cd_255.drop 376, decode code q.1 = .ok (q.2.1, q.2.2) := all_more 376 8 dkl_376 dkr_384
theorem dkr_368 : ∀ q ∈ cd_255.drop 368, decode code q.1 = .ok (q.2.1, q.2.2) := all_more 368 8 dkl_368 dkr_376
theorem dkr_360 : ∀ q ∈ cd_255.drop 360, decode code q.1 = .ok (q.2.1, q.2.2) := all_more 360 8 dkl_360 dkr_368
theorem dkr_352 : ∀ q ∈ cd_255.drop 352, decode code q.1 = .ok (q.2.1, q.2.2) := all_more 352 8 dkl_352 dkr_360
theorem dkr_344 : ∀ q ∈ cd_255.drop 344, decode code q.1 = .ok (q.2.1, q.2.2) := all_more 344 8 dkl_344 dkr_352
theorem dkr_336 : ∀ q ∈ cd_255.drop 336, decode code q.1 = .ok (q.2.1, q.2.2) := all_more 336 8 dkl_336 dkr_344
theorem dkr_328 : ∀ q ∈ cd_255.drop 328, decode code q.1 = .ok (q.2.1, q.2.2) := all_more 328 8 dkl_328 dkr_336
theorem dkr_320 : ∀ q ∈ cd_255.drop 320, decode code q.1 = .ok (q.2.1, q.2.2) := all_more 320 8 dkl_320 dkr_328
theorem dkr_312 : ∀ q ∈ cd_255.drop 312, decode code q.1 = .ok (q.2.1, q.2.2) := all_more 312 8 dkl_312 dkr_320
theorem dkr_304 : ∀ q ∈ cd_255.drop 304, decode code q.1 = .ok (q.2.1, q.2.2) := all_more 304 8 dkl_304 dkr_312
theorem dkr_296 : ∀ q ∈ cd_255.drop 296, decode code q.1 = .ok (q.2.1, q.2.2) := all_more 296 8 dkl_296 dkr_304
theorem dkr_288 : ∀ q ∈ cd_255.drop 288, decode code q.1 = .ok (q.2.1, q.2.2) := all_more 288 8 dkl_288 dkr_296
theorem dkr_280 : ∀ q ∈ cd_255.drop 280, decode code q.1 = .ok (q.2.1, q.2.2) := all_more 280 8 dkl_280 dkr_288
theorem dkr_272 : ∀ q ∈ cd_255.drop 272, decode code q.1 = .ok (q.2.1, q.2.2) := all_more 272 8 dkl_272 dkr_280
theorem dkr_264 : ∀ q ∈ cd_255.drop 264, decode code q.1 = .ok (q.2.1, q.2.2) := all_more 264 8 dkl_264 dkr_272
theorem dkr_256 : ∀ q ∈ cd_255.drop 256, decode code q.1 = .ok (q.2.1, q.2.2) := all_more 256 8 dkl_256 dkr_264
theorem dkr_248 : ∀ q ∈ cd_255.drop 248, decode code q.1 = .ok (q.2.1, q.2.2) := all_more 248 8 dkl_248 dkr_256
theorem dkr_240 : ∀ q ∈ cd_255.drop 240, decode code q.1 = .ok (q.2.1, q.2.2) := all_more 240 8 dkl_240 dkr_248
theorem dkr_232 : ∀ q ∈ cd_255.drop 232, decode code q.1 = .ok (q.2.1, q.2.2) := all_more 232 8 dkl_232 dkr_240
theorem dkr_224 : ∀ q ∈ cd_255.drop 224, decode code q.1 = .ok (q.2.1, q.2.2) := all_more 224 8 dkl_224 dkr_232
theorem dkr_216 : ∀ q ∈ cd_255.drop 216, decode code q.1 = .ok (q.2.1, q.2.2) := all_more 216 8 dkl_216 dkr_224
theorem dkr_208 : ∀ q ∈ cd_255.drop 208, decode code q.1 = .ok (q.2.1, q.2.2) := all_more 208 8 dkl_208 dkr_216
theorem dkr_200 : ∀ q ∈ cd_255.drop 200, decode code q.1 = .ok (q.2.1, q.2.2) := all_more 200 8 dkl_200 dkr_208
theorem dkr_192 : ∀ q ∈ cd_255.drop 192, decode code q.1 = .ok (q.2.1, q.2.2) := all_more 192 8 dkl_192 dkr_200
theorem dkr_184 : ∀ q ∈ cd_255.drop 184, decode code q.1 = .ok (q.2.1, q.2.2) := all_more 184 8 dkl_184 dkr_192
theorem dkr_176 : ∀ q ∈ cd_255.drop 176, decode code q.1 = .ok (q.2.1, q.2.2) := all_more 176 8 dkl_176 dkr_184
theorem dkr_168 : ∀ q ∈ cd_255.drop 168, decode code q.1 = .ok (q.2.1, q.2.2) := all_more 168 8 dkl_168 dkr_176
theorem dkr_160 : ∀ q ∈ cd_255.drop 160, decode code q.1 = .ok (q.2.1, q.2.2) := all_more 160 8 dkl_160 dkr_168
theorem dkr_152 : ∀ q ∈ cd_255.drop 152, decode code q.1 = .ok (q.2.1, q.2.2) := all_more 152 8 dkl_152 dkr_160
theorem dkr_144 : ∀ q ∈ cd_255.drop 144, decode code q.1 = .ok (q.2.1, q.2.2) := all_more 144 8 dkl_144 dkr_152
theorem dkr_136 : ∀ q ∈ cd_255.drop 136, decode code q.1 = .ok (q.2.1, q.2.2) := all_more 136 8 dkl_136 dkr_144
theorem dkr_128 : ∀ q ∈ cd_255.drop 128, decode code q.1 = .ok (q.2.1, q.2.2) := all_more 128 8 dkl_128 dkr_136
theorem dkr_120 : ∀ q ∈ cd_255.drop 120, decode code q.1 = .ok (q.2.1, q.2.2) := all_more 120 8 dkl_120 dkr_128
theorem dkr_112 : ∀ q ∈ cd_255.drop 112, decode code q.1 = .ok (q.2.1, q.2.2) := all_more 112 8 dkl_112 dkr_120
theorem dkr_104 : ∀ q ∈ cd_255.drop 104, decode code q.1 = .ok (q.2.1, q.2.2) := all_more 104 8 dkl_104 dkr_112
theorem dkr_96 : ∀ q ∈ cd_255.drop 96, decode code q.1 = .ok (q.2.1, q.2.2) := all_more 96 8 dkl_96 dkr_104
theorem dkr_88 : ∀ q ∈ cd_255.drop 88, decode code q.1 = .ok (q.2.1, q.2.2) := all_more 88 8 dkl_88 dkr_96
theorem dkr_80 : ∀ q ∈ cd_255.drop 80, decode code q.1 = .ok (q.2.1, q.2.2) := all_more 80 8 dkl_80 dkr_88
theorem dkr_72 : ∀ q ∈ cd_255.drop 72, decode code q.1 = .ok (q.2.1, q.2.2) := all_more 72 8 dkl_72 dkr_80
theorem dkr_64 : ∀ q ∈ cd_255.drop 64, decode code q.1 = .ok (q.2.1, q.2.2) := all_more 64 8 dkl_64 dkr_72
theorem dkr_56 : ∀ q ∈ cd_255.drop 56, decode code q.1 = .ok (q.2.1, q.2.2) := all_more 56 8 dkl_56 dkr_64
theorem dkr_48 : ∀ q ∈ cd_255.drop 48, decode code q.1 = .ok (q.2.1, q.2.2) := all_more 48 8 dkl_48 dkr_56
theorem dkr_40 : ∀ q ∈ cd_255.drop 40, decode code q.1 = .ok (q.2.1, q.2.2) := all_more 40 8 dkl_40 dkr_48
theorem dkr_32 : ∀ q ∈ cd_255.drop 32, decode code q.1 = .ok (q.2.1, q.2.2) := all_more 32 8 dkl_32 dkr_40
theorem dkr_24 : ∀ q ∈ cd_255.drop 24, decode code q.1 = .ok (q.2.1, q.2.2) := all_more 24 8 dkl_24 dkr_32
theorem dkr_16 : ∀ q ∈ cd_255.drop 16, decode code q.1 = .ok (q.2.1, q.2.2) := all_more 16 8 dkl_16 dkr_24
theorem dkr_8 : ∀ q ∈ cd_255.drop 8, decode code q.1 = .ok (q.2.1, q.2.2) := all_more 8 8 dkl_8 dkr_16
theorem dkr_0 : ∀ q ∈ cd_255.drop 0, decode code q.1 = .ok (q.2.1, q.2.2) := all_more 0 8 dkl_0 dkr_8
theorem dk_255 : ∀ q ∈ cd_255, decode code q.1 = .ok (q.2.1, q.2.2) := dkr_0
theorem dkB_0 : ∀ c ∈ ([(cd_0, cX0_begin), (cd_1, cX0_copyFrom), (cd_2, cX0_heaviness), (cd_3, cX0_seats), (cd_4, cX1_note), (cd_5, cX1_placeOf), (cd_6, cX1_recordOf), (cd_7, cX1_wasIn), (cd_8, cX2_canWalk), (cd_9, cX2_drink), (cd_10, cX2_faint), (cd_11, cX2_firstWayToward), (cd_12, cX2_keepRites), (cd_13, cX2_letFall), (cd_14, cX2_loadWays), (cd_15, cX2_neighboursPush)] : List (List mIns × ByteArray)), ∀ q ∈ c.1, decode c.2 q.1 = .ok (q.2.1, q.2.2) := List.forall_mem_cons.mpr ⟨dk_0, List.forall_mem_cons.mpr ⟨dk_1, List.forall_mem_cons.mpr ⟨dk_2, List.forall_mem_cons.mpr ⟨dk_3, List.forall_mem_cons.mpr ⟨dk_4, List.forall_mem_cons.mpr ⟨dk_5, List.forall_mem_cons.mpr ⟨dk_6, List.forall_mem_cons.mpr ⟨dk_7, List.forall_mem_cons.mpr ⟨dk_8, List.forall_mem_cons.mpr ⟨dk_9, List.forall_mem_cons.mpr ⟨dk_10, List.forall_mem_cons.mpr ⟨dk_11, List.forall_mem_cons.mpr ⟨dk_12, List.forall_mem_cons.mpr ⟨dk_13, List.forall_mem_cons.mpr ⟨dk_14, List.forall_mem_cons.mpr ⟨dk_15, fun _ h => absurd h List.not_mem_nil⟩⟩⟩⟩⟩⟩⟩⟩⟩⟩⟩⟩⟩⟩⟩⟩
theorem dkB_1 : ∀ c ∈ ([(cd_16, cX2_pass), (cd_17, cX2_pushWays), (cd_18, cX2_shutWays), (cd_19, cX2_stepOut), (cd_20, cX2_stepToward), (cd_21, cX2_sufferHeat), (cd_22, cX2_walkOn), (cd_23, cX2_weighWays), (cd_24, cX3_addBody), (cd_25, cX3_addCell), (cd_26, cX3_allCarried), (cd_27, cX3_allFainted), (cd_28, cX3_allFell), (cd_29, cX3_allHeads), (cd_30, cX3_allWater), (cd_31, cX3_copyFrom)] : List (List mIns × ByteArray)), ∀ q ∈ c.1, decode c.2 q.1 = .ok (q.2.1, q.2.2) := List.forall_mem_cons.mpr ⟨dk_16, List.forall_mem_cons.mpr ⟨dk_17, List.forall_mem_cons.mpr ⟨dk_18, List.forall_mem_cons.mpr ⟨dk_19, List.forall_mem_cons.mpr ⟨dk_20, List.forall_mem_cons.mpr ⟨dk_21, List.forall_mem_cons.mpr ⟨dk_22, List.forall_mem_cons.mpr ⟨dk_23, List.forall_mem_cons.mpr ⟨dk_24, List.forall_mem_cons.mpr ⟨dk_25, List.forall_mem_cons.mpr ⟨dk_26, List.forall_mem_cons.mpr ⟨dk_27, List.forall_mem_cons.mpr ⟨dk_28, List.forall_mem_cons.mpr ⟨dk_29, List.forall_mem_cons.mpr ⟨dk_30, List.forall_mem_cons.mpr ⟨dk_31, fun _ h => absurd h List.not_mem_nil⟩⟩⟩⟩⟩⟩⟩⟩⟩⟩⟩⟩⟩⟩⟩⟩
theorem dkB_2 : ∀ c ∈ ([(cd_32, cX3_fieldsOf), (cd_33, cX3_groupAt), (cd_34, cX3_headsOn), (cd_35, cX3_hour), (cd_36, cX3_late), (cd_37, cX3_straysNotFound), (cd_38, cX4_begin), (cd_39, cX4_choose), (cd_40, cX4_firstOver), (cd_41, cX4_mostIn), (cd_42, cX4_solve), (cd_43, cX5_become), (cd_44, cX5_hasPlaces), (cd_45, cX5_holdBody), (cd_46, cX5_holdRow), (cd_47, cX6_faultOf)] : List (List mIns × ByteArray)), ∀ q ∈ c.1, decode c.2 q.1 = .ok (q.2.1, q.2.2) := List.forall_mem_cons.mpr ⟨dk_32, List.forall_mem_cons.mpr ⟨dk_33, List.forall_mem_cons.mpr ⟨dk_34, List.forall_mem_cons.mpr ⟨dk_35, List.forall_mem_cons.mpr ⟨dk_36, List.forall_mem_cons.mpr ⟨dk_37, List.forall_mem_cons.mpr ⟨dk_38, List.forall_mem_cons.mpr ⟨dk_39, List.forall_mem_cons.mpr ⟨dk_40, List.forall_mem_cons.mpr ⟨dk_41, List.forall_mem_cons.mpr ⟨dk_42, List.forall_mem_cons.mpr ⟨dk_43, List.forall_mem_cons.mpr ⟨dk_44, List.forall_mem_cons.mpr ⟨dk_45, List.forall_mem_cons.mpr ⟨dk_46, List.forall_mem_cons.mpr ⟨dk_47, fun _ h => absurd h List.not_mem_nil⟩⟩⟩⟩⟩⟩⟩⟩⟩⟩⟩⟩⟩⟩⟩⟩
theorem dkB_3 : ∀ c ∈ ([(cd_48, cX6_isDigit), (cd_49, cX6_isTrue), (cd_50, cX6_joined), (cd_51, cX6_keepAs), (cd_52, cX6_make), (cd_53, cX6_next), (cd_54, cX6_readAnd), (cd_55, cX6_readAtom), (cd_56, cX6_readOr), (cd_57, cX6_readSum), (cd_58, cX6_readTest), (cd_59, cX6_takeIf), (cd_60, cX7_add), (cd_61, cX7_copyFrom), (cd_62, cX7_holdingIn), (cd_63, cX7_lastMinute)] : List (List mIns × ByteArray)), ∀ q ∈ c.1, decode c.2 q.1 = .ok (q.2.1, q.2.2) := List.forall_mem_cons.mpr ⟨dk_48, List.forall_mem_cons.mpr ⟨dk_49, List.forall_mem_cons.mpr ⟨dk_50, List.forall_mem_cons.mpr ⟨dk_51, List.forall_mem_cons.mpr ⟨dk_52, List.forall_mem_cons.mpr ⟨dk_53, List.forall_mem_cons.mpr ⟨dk_54, List.forall_mem_cons.mpr ⟨dk_55, List.forall_mem_cons.mpr ⟨dk_56, List.forall_mem_cons.mpr ⟨dk_57, List.forall_mem_cons.mpr ⟨dk_58, List.forall_mem_cons.mpr ⟨dk_59, List.forall_mem_cons.mpr ⟨dk_60, List.forall_mem_cons.mpr ⟨dk_61, List.forall_mem_cons.mpr ⟨dk_62, List.forall_mem_cons.mpr ⟨dk_63, fun _ h => absurd h List.not_mem_nil⟩⟩⟩⟩⟩⟩⟩⟩⟩⟩⟩⟩⟩⟩⟩⟩
theorem dkB_4 : ∀ c ∈ ([(cd_64, cX8_choose), (cd_65, cX8_gather), (cd_66, cX8_hasTwinAhead), (cd_67, cX8_keepChosen), (cd_68, cX8_rideOf), (cd_69, cX8_solve), (cd_70, cX9_add), (cd_71, cX9_areNeighbours), (cd_72, cX9_changeSign), (cd_73, cX9_copyFrom), (cd_74, cX9_endFrom), (cd_75, cX9_greatest), (cd_76, cX9_leastFrom), (cd_77, cX9_reckon), (cd_78, cX9_shorten), (cd_79, cX9_shortenOver)] : List (List mIns × ByteArray)), ∀ q ∈ c.1, decode c.2 q.1 = .ok (q.2.1, q.2.2) := List.forall_mem_cons.mpr ⟨dk_64, List.forall_mem_cons.mpr ⟨dk_65, List.forall_mem_cons.mpr ⟨dk_66, List.forall_mem_cons.mpr ⟨dk_67, List.forall_mem_cons.mpr ⟨dk_68, List.forall_mem_cons.mpr ⟨dk_69, List.forall_mem_cons.mpr ⟨dk_70, List.forall_mem_cons.mpr ⟨dk_71, List.forall_mem_cons.mpr ⟨dk_72, List.forall_mem_cons.mpr ⟨dk_73, List.forall_mem_cons.mpr ⟨dk_74, List.forall_mem_cons.mpr ⟨dk_75, List.forall_mem_cons.mpr ⟨dk_76, List.forall_mem_cons.mpr ⟨dk_77, List.forall_mem_cons.mpr ⟨dk_78, List.forall_mem_cons.mpr ⟨dk_79, fun _ h => absurd h List.not_mem_nil⟩⟩⟩⟩⟩⟩⟩⟩⟩⟩⟩⟩⟩⟩⟩⟩
theorem dkB_5 : ∀ c ∈ ([(cd_80, cX9_touches), (cd_81, cX10_about), (cd_82, cX10_aim), (cd_83, cX10_areFirstGroups), (cd_84, cX10_best), (cd_85, cX10_body), (cd_86, cX10_bodyRefusal), (cd_87, cX10_bring), (cd_88, cX10_canBe), (cd_89, cX10_carry), (cd_90, cX10_cell), (cd_91, cX10_closes), (cd_92, cX10_comes), (cd_93, cX10_copy), (cd_94, cX10_count), (cd_95, cX10_counterRefusal)] : List (List mIns × ByteArray)), ∀ q ∈ c.1, decode c.2 q.1 = .ok (q.2.1, q.2.2) := List.forall_mem_cons.mpr ⟨dk_80, List.forall_mem_cons.mpr ⟨dk_81, List.forall_mem_cons.mpr ⟨dk_82, List.forall_mem_cons.mpr ⟨dk_83, List.forall_mem_cons.mpr ⟨dk_84, List.forall_mem_cons.mpr ⟨dk_85, List.forall_mem_cons.mpr ⟨dk_86, List.forall_mem_cons.mpr ⟨dk_87, List.forall_mem_cons.mpr ⟨dk_88, List.forall_mem_cons.mpr ⟨dk_89, List.forall_mem_cons.mpr ⟨dk_90, List.forall_mem_cons.mpr ⟨dk_91, List.forall_mem_cons.mpr ⟨dk_92, List.forall_mem_cons.mpr ⟨dk_93, List.forall_mem_cons.mpr ⟨dk_94, List.forall_mem_cons.mpr ⟨dk_95, fun _ h => absurd h List.not_mem_nil⟩⟩⟩⟩⟩⟩⟩⟩⟩⟩⟩⟩⟩⟩⟩⟩
theorem dkB_6 : ∀ c ∈ ([(cd_96, cX10_far), (cd_97, cX10_fault), (cd_98, cX10_force), (cd_99, cX10_found), (cd_100, cX10_go), (cd_101, cX10_group), (cd_102, cX10_heat), (cd_103, cX10_holds), (cd_104, cX10_image), (cd_105, cX10_isBody), (cd_106, cX10_isCell), (cd_107, cX10_isFound), (cd_108, cX10_isGate), (cd_109, cX10_isMinute), (cd_110, cX10_isOfKind), (cd_111, cX10_isRite)] : List (List mIns × ByteArray)), ∀ q ∈ c.1, decode c.2 q.1 = .ok (q.2.1, q.2.2) := List.forall_mem_cons.mpr ⟨dk_96, List.forall_mem_cons.mpr ⟨dk_97, List.forall_mem_cons.mpr ⟨dk_98, List.forall_mem_cons.mpr ⟨dk_99, List.forall_mem_cons.mpr ⟨dk_100, List.forall_mem_cons.mpr ⟨dk_101, List.forall_mem_cons.mpr ⟨dk_102, List.forall_mem_cons.mpr ⟨dk_103, List.forall_mem_cons.mpr ⟨dk_104, List.forall_mem_cons.mpr ⟨dk_105, List.forall_mem_cons.mpr ⟨dk_106, List.forall_mem_cons.mpr ⟨dk_107, List.forall_mem_cons.mpr ⟨dk_108, List.forall_mem_cons.mpr ⟨dk_109, List.forall_mem_cons.mpr ⟨dk_110, List.forall_mem_cons.mpr ⟨dk_111, fun _ h => absurd h List.not_mem_nil⟩⟩⟩⟩⟩⟩⟩⟩⟩⟩⟩⟩⟩⟩⟩⟩
theorem dkB_7 : ∀ c ∈ ([(cd_112, cX10_isShelf), (cd_113, cX10_isSign), (cd_114, cX10_isText), (cd_115, cX10_isWay), (cd_116, cX10_judge), (cd_117, cX10_keep), (cd_118, cX10_leastOrNone), (cd_119, cX10_post), (cd_120, cX10_pushed), (cd_121, cX10_put), (cd_122, cX10_record), (cd_123, cX10_restore), (cd_124, cX10_rides), (cd_125, cX10_riteStands), (cd_126, cX10_round), (cd_127, cX10_row)] : List (List mIns × ByteArray)), ∀ q ∈ c.1, decode c.2 q.1 = .ok (q.2.1, q.2.2) := List.forall_mem_cons.mpr ⟨dk_112, List.forall_mem_cons.mpr ⟨dk_113, List.forall_mem_cons.mpr ⟨dk_114, List.forall_mem_cons.mpr ⟨dk_115, List.forall_mem_cons.mpr ⟨dk_116, List.forall_mem_cons.mpr ⟨dk_117, List.forall_mem_cons.mpr ⟨dk_118, List.forall_mem_cons.mpr ⟨dk_119, List.forall_mem_cons.mpr ⟨dk_120, List.forall_mem_cons.mpr ⟨dk_121, List.forall_mem_cons.mpr ⟨dk_122, List.forall_mem_cons.mpr ⟨dk_123, List.forall_mem_cons.mpr ⟨dk_124, List.forall_mem_cons.mpr ⟨dk_125, List.forall_mem_cons.mpr ⟨dk_126, List.forall_mem_cons.mpr ⟨dk_127, fun _ h => absurd h List.not_mem_nil⟩⟩⟩⟩⟩⟩⟩⟩⟩⟩⟩⟩⟩⟩⟩⟩
theorem dkB_8 : ∀ c ∈ ([(cd_128, cX10_rowRefusal), (cd_129, cX10_schools), (cd_130, cX10_sign), (cd_131, cX10_slot), (cd_132, cX10_stands), (cd_133, cX10_stray), (cd_134, cX10_sure), (cd_135, cX10_text), (cd_136, cX10_unaim), (cd_137, cX10_was), (cd_138, cX10_water), (cd_139, cX10_wave), (cd_140, cX10_way), (cd_141, cX10_weight), (cd_142, cX10_whose), (cd_143, cX10_within)] : List (List mIns × ByteArray)), ∀ q ∈ c.1, decode c.2 q.1 = .ok (q.2.1, q.2.2) := List.forall_mem_cons.mpr ⟨dk_128, List.forall_mem_cons.mpr ⟨dk_129, List.forall_mem_cons.mpr ⟨dk_130, List.forall_mem_cons.mpr ⟨dk_131, List.forall_mem_cons.mpr ⟨dk_132, List.forall_mem_cons.mpr ⟨dk_133, List.forall_mem_cons.mpr ⟨dk_134, List.forall_mem_cons.mpr ⟨dk_135, List.forall_mem_cons.mpr ⟨dk_136, List.forall_mem_cons.mpr ⟨dk_137, List.forall_mem_cons.mpr ⟨dk_138, List.forall_mem_cons.mpr ⟨dk_139, List.forall_mem_cons.mpr ⟨dk_140, List.forall_mem_cons.mpr ⟨dk_141, List.forall_mem_cons.mpr ⟨dk_142, List.forall_mem_cons.mpr ⟨dk_143, fun _ h => absurd h List.not_mem_nil⟩⟩⟩⟩⟩⟩⟩⟩⟩⟩⟩⟩⟩⟩⟩⟩
theorem dkB_9 : ∀ c ∈ ([(cd_144, cX10_worst), (cd_145, cX10_worstInMind), (cd_146, cX10_wrong), (cd_147, cX11_about), (cd_148, cX11_add), (cd_149, cX11_aim), (cd_150, cX11_aimOf), (cd_151, cX11_best), (cd_152, cX11_body), (cd_153, cX11_bring), (cd_154, cX11_canBe), (cd_155, cX11_carry), (cd_156, cX11_cell), (cd_157, cX11_closes), (cd_158, cX11_comes), (cd_159, cX11_copy)] : List (List mIns × ByteArray)), ∀ q ∈ c.1, decode c.2 q.1 = .ok (q.2.1, q.2.2) := List.forall_mem_cons.mpr ⟨dk_144, List.forall_mem_cons.mpr ⟨dk_145, List.forall_mem_cons.mpr ⟨dk_146, List.forall_mem_cons.mpr ⟨dk_147, List.forall_mem_cons.mpr ⟨dk_148, List.forall_mem_cons.mpr ⟨dk_149, List.forall_mem_cons.mpr ⟨dk_150, List.forall_mem_cons.mpr ⟨dk_151, List.forall_mem_cons.mpr ⟨dk_152, List.forall_mem_cons.mpr ⟨dk_153, List.forall_mem_cons.mpr ⟨dk_154, List.forall_mem_cons.mpr ⟨dk_155, List.forall_mem_cons.mpr ⟨dk_156, List.forall_mem_cons.mpr ⟨dk_157, List.forall_mem_cons.mpr ⟨dk_158, List.forall_mem_cons.mpr ⟨dk_159, fun _ h => absurd h List.not_mem_nil⟩⟩⟩⟩⟩⟩⟩⟩⟩⟩⟩⟩⟩⟩⟩⟩
theorem dkB_10 : ∀ c ∈ ([(cd_160, cX11_count), (cd_161, cX11_element), (cd_162, cX11_fall), (cd_163, cX11_far), (cd_164, cX11_fault), (cd_165, cX11_faultOf), (cd_166, cX11_field), (cd_167, cX11_findFar), (cd_168, cX11_findHeads), (cd_169, cX11_findRound), (cd_170, cX11_findWave), (cd_171, cX11_force), (cd_172, cX11_found), (cd_173, cX11_go), (cd_174, cX11_goOn), (cd_175, cX11_group)] : List (List mIns × ByteArray)), ∀ q ∈ c.1, decode c.2 q.1 = .ok (q.2.1, q.2.2) := List.forall_mem_cons.mpr ⟨dk_160, List.forall_mem_cons.mpr ⟨dk_161, List.forall_mem_cons.mpr ⟨dk_162, List.forall_mem_cons.mpr ⟨dk_163, List.forall_mem_cons.mpr ⟨dk_164, List.forall_mem_cons.mpr ⟨dk_165, List.forall_mem_cons.mpr ⟨dk_166, List.forall_mem_cons.mpr ⟨dk_167, List.forall_mem_cons.mpr ⟨dk_168, List.forall_mem_cons.mpr ⟨dk_169, List.forall_mem_cons.mpr ⟨dk_170, List.forall_mem_cons.mpr ⟨dk_171, List.forall_mem_cons.mpr ⟨dk_172, List.forall_mem_cons.mpr ⟨dk_173, List.forall_mem_cons.mpr ⟨dk_174, List.forall_mem_cons.mpr ⟨dk_175, fun _ h => absurd h List.not_mem_nil⟩⟩⟩⟩⟩⟩⟩⟩⟩⟩⟩⟩⟩⟩⟩⟩
theorem dkB_11 : ∀ c ∈ ([(cd_176, cX11_groups), (cd_177, cX11_headsOn), (cd_178, cX11_heat), (cd_179, cX11_here), (cd_180, cX11_holds), (cd_181, cX11_holdsFor), (cd_182, cX11_hourNow), (cd_183, cX11_image), (cd_184, cX11_in), (cd_185, cX11_isBody), (cd_186, cX11_isCell), (cd_187, cX11_isField), (cd_188, cX11_isFound), (cd_189, cX11_isGroup), (cd_190, cX11_isRound), (cd_191, cX11_isStray)] : List (List mIns × ByteArray)), ∀ q ∈ c.1, decode c.2 q.1 = .ok (q.2.1, q.2.2) := List.forall_mem_cons.mpr ⟨dk_176, List.forall_mem_cons.mpr ⟨dk_177, List.forall_mem_cons.mpr ⟨dk_178, List.forall_mem_cons.mpr ⟨dk_179, List.forall_mem_cons.mpr ⟨dk_180, List.forall_mem_cons.mpr ⟨dk_181, List.forall_mem_cons.mpr ⟨dk_182, List.forall_mem_cons.mpr ⟨dk_183, List.forall_mem_cons.mpr ⟨dk_184, List.forall_mem_cons.mpr ⟨dk_185, List.forall_mem_cons.mpr ⟨dk_186, List.forall_mem_cons.mpr ⟨dk_187, List.forall_mem_cons.mpr ⟨dk_188, List.forall_mem_cons.mpr ⟨dk_189, List.forall_mem_cons.mpr ⟨dk_190, List.forall_mem_cons.mpr ⟨dk_191, fun _ h => absurd h List.not_mem_nil⟩⟩⟩⟩⟩⟩⟩⟩⟩⟩⟩⟩⟩⟩⟩⟩
theorem dkB_12 : ∀ c ∈ ([(cd_192, cX11_isText), (cd_193, cX11_isWay), (cd_194, cX11_join), (cd_195, cX11_judge), (cd_196, cX11_keep), (cd_197, cX11_lacks), (cd_198, cX11_lateOf), (cd_199, cX11_leads), (cd_200, cX11_mostPress), (cd_201, cX11_narrowed), (cd_202, cX11_of), (cd_203, cX11_other), (cd_204, cX11_overSlot), (cd_205, cX11_pass), (cd_206, cX11_post), (cd_207, cX11_press)] : List (List mIns × ByteArray)), ∀ q ∈ c.1, decode c.2 q.1 = .ok (q.2.1, q.2.2) := List.forall_mem_cons.mpr ⟨dk_192, List.forall_mem_cons.mpr ⟨dk_193, List.forall_mem_cons.mpr ⟨dk_194, List.forall_mem_cons.mpr ⟨dk_195, List.forall_mem_cons.mpr ⟨dk_196, List.forall_mem_cons.mpr ⟨dk_197, List.forall_mem_cons.mpr ⟨dk_198, List.forall_mem_cons.mpr ⟨dk_199, List.forall_mem_cons.mpr ⟨dk_200, List.forall_mem_cons.mpr ⟨dk_201, List.forall_mem_cons.mpr ⟨dk_202, List.forall_mem_cons.mpr ⟨dk_203, List.forall_mem_cons.mpr ⟨dk_204, List.forall_mem_cons.mpr ⟨dk_205, List.forall_mem_cons.mpr ⟨dk_206, List.forall_mem_cons.mpr ⟨dk_207, fun _ h => absurd h List.not_mem_nil⟩⟩⟩⟩⟩⟩⟩⟩⟩⟩⟩⟩⟩⟩⟩⟩
theorem dkB_13 : ∀ c ∈ ([(cd_208, cX11_pushed), (cd_209, cX11_put), (cd_210, cX11_readAtom), (cd_211, cX11_readSum), (cd_212, cX11_readTest), (cd_213, cX11_readText), (cd_214, cX11_record), (cd_215, cX11_recordNow), (cd_216, cX11_restore), (cd_217, cX11_rides), (cd_218, cX11_rite), (cd_219, cX11_round), (cd_220, cX11_row), (cd_221, cX11_schools), (cd_222, cX11_seatsOf), (cd_223, cX11_sign)] : List (List mIns × ByteArray)), ∀ q ∈ c.1, decode c.2 q.1 = .ok (q.2.1, q.2.2) := List.forall_mem_cons.mpr ⟨dk_208, List.forall_mem_cons.mpr ⟨dk_209, List.forall_mem_cons.mpr ⟨dk_210, List.forall_mem_cons.mpr ⟨dk_211, List.forall_mem_cons.mpr ⟨dk_212, List.forall_mem_cons.mpr ⟨dk_213, List.forall_mem_cons.mpr ⟨dk_214, List.forall_mem_cons.mpr ⟨dk_215, List.forall_mem_cons.mpr ⟨dk_216, List.forall_mem_cons.mpr ⟨dk_217, List.forall_mem_cons.mpr ⟨dk_218, List.forall_mem_cons.mpr ⟨dk_219, List.forall_mem_cons.mpr ⟨dk_220, List.forall_mem_cons.mpr ⟨dk_221, List.forall_mem_cons.mpr ⟨dk_222, List.forall_mem_cons.mpr ⟨dk_223, fun _ h => absurd h List.not_mem_nil⟩⟩⟩⟩⟩⟩⟩⟩⟩⟩⟩⟩⟩⟩⟩⟩
theorem dkB_14 : ∀ c ∈ ([(cd_224, cX11_slot), (cd_225, cX11_stands), (cd_226, cX11_standsBy), (cd_227, cX11_step), (cd_228, cX11_stray), (cd_229, cX11_sumOf), (cd_230, cX11_sure), (cd_231, cX11_tell), (cd_232, cX11_testEnds), (cd_233, cX11_text), (cd_234, cX11_thrown), (cd_235, cX11_topSign), (cd_236, cX11_toss), (cd_237, cX11_touch), (cd_238, cX11_unaim), (cd_239, cX11_walk)] : List (List mIns × ByteArray)), ∀ q ∈ c.1, decode c.2 q.1 = .ok (q.2.1, q.2.2) := List.forall_mem_cons.mpr ⟨dk_224, List.forall_mem_cons.mpr ⟨dk_225, List.forall_mem_cons.mpr ⟨dk_226, List.forall_mem_cons.mpr ⟨dk_227, List.forall_mem_cons.mpr ⟨dk_228, List.forall_mem_cons.mpr ⟨dk_229, List.forall_mem_cons.mpr ⟨dk_230, List.forall_mem_cons.mpr ⟨dk_231, List.forall_mem_cons.mpr ⟨dk_232, List.forall_mem_cons.mpr ⟨dk_233, List.forall_mem_cons.mpr ⟨dk_234, List.forall_mem_cons.mpr ⟨dk_235, List.forall_mem_cons.mpr ⟨dk_236, List.forall_mem_cons.mpr ⟨dk_237, List.forall_mem_cons.mpr ⟨dk_238, List.forall_mem_cons.mpr ⟨dk_239, fun _ h => absurd h List.not_mem_nil⟩⟩⟩⟩⟩⟩⟩⟩⟩⟩⟩⟩⟩⟩⟩⟩
theorem dkB_15 : ∀ c ∈ ([(cd_240, cX11_warm), (cd_241, cX11_was), (cd_242, cX11_water), (cd_243, cX11_wave), (cd_244, cX11_way), (cd_245, cX11_weight), (cd_246, cX11_weightOf), (cd_247, cX11_whose), (cd_248, cX11_worst), (cd_249, cX11_worstOf), (cd_250, cX11_wrong), (cd_251, cX11_wrongCounter), (cd_252, cX11_wrongRow), (cd_253, cX11_wrongShelf), (cd_254, cX11_wrongTime), (cd_255, code)] : List (List mIns × ByteArray)), ∀ q ∈ c.1, decode c.2 q.1 = .ok (q.2.1, q.2.2) := List.forall_mem_cons.mpr ⟨dk_240, List.forall_mem_cons.mpr ⟨dk_241, List.forall_mem_cons.mpr ⟨dk_242, List.forall_mem_cons.mpr ⟨dk_243, List.forall_mem_cons.mpr ⟨dk_244, List.forall_mem_cons.mpr ⟨dk_245, List.forall_mem_cons.mpr ⟨dk_246, List.forall_mem_cons.mpr ⟨dk_247, List.forall_mem_cons.mpr ⟨dk_248, List.forall_mem_cons.mpr ⟨dk_249, List.forall_mem_cons.mpr ⟨dk_250, List.forall_mem_cons.mpr ⟨dk_251, List.forall_mem_cons.mpr ⟨dk_252, List.forall_mem_cons.mpr ⟨dk_253, List.forall_mem_cons.mpr ⟨dk_254, List.forall_mem_cons.mpr ⟨dk_255, fun _ h => absurd h List.not_mem_nil⟩⟩⟩⟩⟩⟩⟩⟩⟩⟩⟩⟩⟩⟩⟩⟩
set_option maxRecDepth 100000 in
theorem dk_all : ∀ c ∈ List.zip mCd mBy, ∀ q ∈ c.1, decode c.2 q.1 = .ok (q.2.1, q.2.2) := List.forall_mem_append.mpr ⟨dkB_0, List.forall_mem_append.mpr ⟨dkB_1, List.forall_mem_append.mpr ⟨dkB_2, List.forall_mem_append.mpr ⟨dkB_3, List.forall_mem_append.mpr ⟨dkB_4, List.forall_mem_append.mpr ⟨dkB_5, List.forall_mem_append.mpr ⟨dkB_6, List.forall_mem_append.mpr ⟨dkB_7, List.forall_mem_append.mpr ⟨dkB_8, List.forall_mem_append.mpr ⟨dkB_9, List.forall_mem_append.mpr ⟨dkB_10, List.forall_mem_append.mpr ⟨dkB_11, List.forall_mem_append.mpr ⟨dkB_12, List.forall_mem_append.mpr ⟨dkB_13, List.forall_mem_append.mpr ⟨dkB_14, dkB_15⟩⟩⟩⟩⟩⟩⟩⟩⟩⟩⟩⟩⟩⟩⟩
