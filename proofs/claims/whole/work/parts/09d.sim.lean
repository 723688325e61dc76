/-! THE SMALL MACHINE STANDS FOR THE REAL ONE: calls, returns, whole runs -/
theorem mIn_all : ∀ (o : Nat), ∀ w ∈ (mRs.getD o []).map (mWd o), w ∈ lw_tbl := by
  intro o
  match o with
  | 0 => exact mIn_0
  | 1 => exact mIn_1
  | 2 => exact mIn_2
  | 3 => exact mIn_3
  | 4 => exact mIn_4
  | 5 => exact mIn_5
  | 6 => exact mIn_6
  | 7 => exact mIn_7
  | 8 => exact mIn_8
  | 9 => exact mIn_9
  | 10 => exact mIn_10
  | 11 => exact mIn_11
  | 12 => exact mIn_12
  | o + 13 => intro w h; rw [List.getD_eq_getElem?_getD, List.getElem?_eq_none (by show mRs.length ≤ _; have : mRs.length = 13 := (by decide); omega)] at h; cases h
theorem cWb_0 : ∀ t ∈ ([0, 1, 2, 3, 4, 5, 6, 7, 8, 9, 10, 11, 12, 13, 14, 15] : List Nat), mWc t ∈ lw_tbl := List.forall_mem_cons.mpr ⟨mWc_0, List.forall_mem_cons.mpr ⟨mWc_1, List.forall_mem_cons.mpr ⟨mWc_2, List.forall_mem_cons.mpr ⟨mWc_3, List.forall_mem_cons.mpr ⟨mWc_4, List.forall_mem_cons.mpr ⟨mWc_5, List.forall_mem_cons.mpr ⟨mWc_6, List.forall_mem_cons.mpr ⟨mWc_7, List.forall_mem_cons.mpr ⟨mWc_8, List.forall_mem_cons.mpr ⟨mWc_9, List.forall_mem_cons.mpr ⟨mWc_10, List.forall_mem_cons.mpr ⟨mWc_11, List.forall_mem_cons.mpr ⟨mWc_12, List.forall_mem_cons.mpr ⟨mWc_13, List.forall_mem_cons.mpr ⟨mWc_14, List.forall_mem_cons.mpr ⟨mWc_15, fun _ h => absurd h List.not_mem_nil⟩⟩⟩⟩⟩⟩⟩⟩⟩⟩⟩⟩⟩⟩⟩⟩
theorem cWb_1 : ∀ t ∈ ([16, 17, 18, 19, 20, 21, 22, 23, 24, 25, 26, 27, 28, 29, 30, 31] : List Nat), mWc t ∈ lw_tbl := List.forall_mem_cons.mpr ⟨mWc_16, List.forall_mem_cons.mpr ⟨mWc_17, List.forall_mem_cons.mpr ⟨mWc_18, List.forall_mem_cons.mpr ⟨mWc_19, List.forall_mem_cons.mpr ⟨mWc_20, List.forall_mem_cons.mpr ⟨mWc_21, List.forall_mem_cons.mpr ⟨mWc_22, List.forall_mem_cons.mpr ⟨mWc_23, List.forall_mem_cons.mpr ⟨mWc_24, List.forall_mem_cons.mpr ⟨mWc_25, List.forall_mem_cons.mpr ⟨mWc_26, List.forall_mem_cons.mpr ⟨mWc_27, List.forall_mem_cons.mpr ⟨mWc_28, List.forall_mem_cons.mpr ⟨mWc_29, List.forall_mem_cons.mpr ⟨mWc_30, List.forall_mem_cons.mpr ⟨mWc_31, fun _ h => absurd h List.not_mem_nil⟩⟩⟩⟩⟩⟩⟩⟩⟩⟩⟩⟩⟩⟩⟩⟩
theorem cWb_2 : ∀ t ∈ ([32, 33, 34, 35, 36, 37, 38, 39, 40, 41, 42, 43, 44, 45, 46, 47] : List Nat), mWc t ∈ lw_tbl := List.forall_mem_cons.mpr ⟨mWc_32, List.forall_mem_cons.mpr ⟨mWc_33, List.forall_mem_cons.mpr ⟨mWc_34, List.forall_mem_cons.mpr ⟨mWc_35, List.forall_mem_cons.mpr ⟨mWc_36, List.forall_mem_cons.mpr ⟨mWc_37, List.forall_mem_cons.mpr ⟨mWc_38, List.forall_mem_cons.mpr ⟨mWc_39, List.forall_mem_cons.mpr ⟨mWc_40, List.forall_mem_cons.mpr ⟨mWc_41, List.forall_mem_cons.mpr ⟨mWc_42, List.forall_mem_cons.mpr ⟨mWc_43, List.forall_mem_cons.mpr ⟨mWc_44, List.forall_mem_cons.mpr ⟨mWc_45, List.forall_mem_cons.mpr ⟨mWc_46, List.forall_mem_cons.mpr ⟨mWc_47, fun _ h => absurd h List.not_mem_nil⟩⟩⟩⟩⟩⟩⟩⟩⟩⟩⟩⟩⟩⟩⟩⟩
theorem cWb_3 : ∀ t ∈ ([48, 49, 50, 51, 52, 53, 54, 55, 56, 57, 58, 59, 60, 61, 62, 63] : List Nat), mWc t ∈ lw_tbl := List.forall_mem_cons.mpr ⟨mWc_48, List.forall_mem_cons.mpr ⟨mWc_49, List.forall_mem_cons.mpr ⟨mWc_50, List.forall_mem_cons.mpr ⟨mWc_51, List.forall_mem_cons.mpr ⟨mWc_52, List.forall_mem_cons.mpr ⟨mWc_53, List.forall_mem_cons.mpr ⟨mWc_54, List.forall_mem_cons.mpr ⟨mWc_55, List.forall_mem_cons.mpr ⟨mWc_56, List.forall_mem_cons.mpr ⟨mWc_57, List.forall_mem_cons.mpr ⟨mWc_58, List.forall_mem_cons.mpr ⟨mWc_59, List.forall_mem_cons.mpr ⟨mWc_60, List.forall_mem_cons.mpr ⟨mWc_61, List.forall_mem_cons.mpr ⟨mWc_62, List.forall_mem_cons.mpr ⟨mWc_63, fun _ h => absurd h List.not_mem_nil⟩⟩⟩⟩⟩⟩⟩⟩⟩⟩⟩⟩⟩⟩⟩⟩
theorem cWb_4 : ∀ t ∈ ([64, 65, 66, 67, 68, 69, 70, 71, 72, 73, 74, 75, 76, 77, 78, 79] : List Nat), mWc t ∈ lw_tbl := List.forall_mem_cons.mpr ⟨mWc_64, List.forall_mem_cons.mpr ⟨mWc_65, List.forall_mem_cons.mpr ⟨mWc_66, List.forall_mem_cons.mpr ⟨mWc_67, List.forall_mem_cons.mpr ⟨mWc_68, List.forall_mem_cons.mpr ⟨mWc_69, List.forall_mem_cons.mpr ⟨mWc_70, List.forall_mem_cons.mpr ⟨mWc_71, List.forall_mem_cons.mpr ⟨mWc_72, List.forall_mem_cons.mpr ⟨mWc_73, List.forall_mem_cons.mpr ⟨mWc_74, List.forall_mem_cons.mpr ⟨mWc_75, List.forall_mem_cons.mpr ⟨mWc_76, List.forall_mem_cons.mpr ⟨mWc_77, List.forall_mem_cons.mpr ⟨mWc_78, List.forall_mem_cons.mpr ⟨mWc_79, fun _ h => absurd h List.not_mem_nil⟩⟩⟩⟩⟩⟩⟩⟩⟩⟩⟩⟩⟩⟩⟩⟩
theorem cWb_5 : ∀ t ∈ ([80, 81, 82, 83, 84, 85, 86, 87, 88, 89, 90, 91, 92, 93, 94, 95] : List Nat), mWc t ∈ lw_tbl := List.forall_mem_cons.mpr ⟨mWc_80, List.forall_mem_cons.mpr ⟨mWc_81, List.forall_mem_cons.mpr ⟨mWc_82, List.forall_mem_cons.mpr ⟨mWc_83, List.forall_mem_cons.mpr ⟨mWc_84, List.forall_mem_cons.mpr ⟨mWc_85, List.forall_mem_cons.mpr ⟨mWc_86, List.forall_mem_cons.mpr ⟨mWc_87, List.forall_mem_cons.mpr ⟨mWc_88, List.forall_mem_cons.mpr ⟨mWc_89, List.forall_mem_cons.mpr ⟨mWc_90, List.forall_mem_cons.mpr ⟨mWc_91, List.forall_mem_cons.mpr ⟨mWc_92, List.forall_mem_cons.mpr ⟨mWc_93, List.forall_mem_cons.mpr ⟨mWc_94, List.forall_mem_cons.mpr ⟨mWc_95, fun _ h => absurd h List.not_mem_nil⟩⟩⟩⟩⟩⟩⟩⟩⟩⟩⟩⟩⟩⟩⟩⟩
theorem cWb_6 : ∀ t ∈ ([96, 97, 98, 99, 100, 101, 102, 103, 104, 105, 106, 107, 108, 109, 110, 111] : List Nat), mWc t ∈ lw_tbl := List.forall_mem_cons.mpr ⟨mWc_96, List.forall_mem_cons.mpr ⟨mWc_97, List.forall_mem_cons.mpr ⟨mWc_98, List.forall_mem_cons.mpr ⟨mWc_99, List.forall_mem_cons.mpr ⟨mWc_100, List.forall_mem_cons.mpr ⟨mWc_101, List.forall_mem_cons.mpr ⟨mWc_102, List.forall_mem_cons.mpr ⟨mWc_103, List.forall_mem_cons.mpr ⟨mWc_104, List.forall_mem_cons.mpr ⟨mWc_105, List.forall_mem_cons.mpr ⟨mWc_106, List.forall_mem_cons.mpr ⟨mWc_107, List.forall_mem_cons.mpr ⟨mWc_108, List.forall_mem_cons.mpr ⟨mWc_109, List.forall_mem_cons.mpr ⟨mWc_110, List.forall_mem_cons.mpr ⟨mWc_111, fun _ h => absurd h List.not_mem_nil⟩⟩⟩⟩⟩⟩⟩⟩⟩⟩⟩⟩⟩⟩⟩⟩
theorem cWb_7 : ∀ t ∈ ([112, 113, 114, 115, 116, 117, 118, 119, 120, 121, 122, 123, 124, 125, 126, 127] : List Nat), mWc t ∈ lw_tbl := List.forall_mem_cons.mpr ⟨mWc_112, List.forall_mem_cons.mpr ⟨mWc_113, List.forall_mem_cons.mpr ⟨mWc_114, List.forall_mem_cons.mpr ⟨mWc_115, List.forall_mem_cons.mpr ⟨mWc_116, List.forall_mem_cons.mpr ⟨mWc_117, List.forall_mem_cons.mpr ⟨mWc_118, List.forall_mem_cons.mpr ⟨mWc_119, List.forall_mem_cons.mpr ⟨mWc_120, List.forall_mem_cons.mpr ⟨mWc_121, List.forall_mem_cons.mpr ⟨mWc_122, List.forall_mem_cons.mpr ⟨mWc_123, List.forall_mem_cons.mpr ⟨mWc_124, List.forall_mem_cons.mpr ⟨mWc_125, List.forall_mem_cons.mpr ⟨mWc_126, List.forall_mem_cons.mpr ⟨mWc_127, fun _ h => absurd h List.not_mem_nil⟩⟩⟩⟩⟩⟩⟩⟩⟩⟩⟩⟩⟩⟩⟩⟩
theorem cWb_8 : ∀ t ∈ ([128, 129, 130, 131, 132, 133, 134, 135, 136, 137, 138, 139, 140, 141, 142, 143] : List Nat), mWc t ∈ lw_tbl := List.forall_mem_cons.mpr ⟨mWc_128, List.forall_mem_cons.mpr ⟨mWc_129, List.forall_mem_cons.mpr ⟨mWc_130, List.forall_mem_cons.mpr ⟨mWc_131, List.forall_mem_cons.mpr ⟨mWc_132, List.forall_mem_cons.mpr ⟨mWc_133, List.forall_mem_cons.mpr ⟨mWc_134, List.forall_mem_cons.mpr ⟨mWc_135, List.forall_mem_cons.mpr ⟨mWc_136, List.forall_mem_cons.mpr ⟨mWc_137, List.forall_mem_cons.mpr ⟨mWc_138, List.forall_mem_cons.mpr ⟨mWc_139, List.forall_mem_cons.mpr ⟨mWc_140, List.forall_mem_cons.mpr ⟨mWc_141, List.forall_mem_cons.mpr ⟨mWc_142, List.forall_mem_cons.mpr ⟨mWc_143, fun _ h => absurd h List.not_mem_nil⟩⟩⟩⟩⟩⟩⟩⟩⟩⟩⟩⟩⟩⟩⟩⟩
theorem cWb_9 : ∀ t ∈ ([144, 145, 146, 147, 148, 149, 150, 151, 152, 153, 154, 155, 156, 157, 158, 159] : List Nat), mWc t ∈ lw_tbl := List.forall_mem_cons.mpr ⟨mWc_144, List.forall_mem_cons.mpr ⟨mWc_145, List.forall_mem_cons.mpr ⟨mWc_146, List.forall_mem_cons.mpr ⟨mWc_147, List.forall_mem_cons.mpr ⟨mWc_148, List.forall_mem_cons.mpr ⟨mWc_149, List.forall_mem_cons.mpr ⟨mWc_150, List.forall_mem_cons.mpr ⟨mWc_151, List.forall_mem_cons.mpr ⟨mWc_152, List.forall_mem_cons.mpr ⟨mWc_153, List.forall_mem_cons.mpr ⟨mWc_154, List.forall_mem_cons.mpr ⟨mWc_155, List.forall_mem_cons.mpr ⟨mWc_156, List.forall_mem_cons.mpr ⟨mWc_157, List.forall_mem_cons.mpr ⟨mWc_158, List.forall_mem_cons.mpr ⟨mWc_159, fun _ h => absurd h List.not_mem_nil⟩⟩⟩⟩⟩⟩⟩⟩⟩⟩⟩⟩⟩⟩⟩⟩
theorem cWb_10 : ∀ t ∈ ([160, 161, 162, 163, 164, 165, 166, 167, 168, 169, 170, 171, 172, 173, 174, 175] : List Nat), mWc t ∈ lw_tbl := List.forall_mem_cons.mpr ⟨mWc_160, List.forall_mem_cons.mpr ⟨mWc_161, List.forall_mem_cons.mpr ⟨mWc_162, List.forall_mem_cons.mpr ⟨mWc_163, List.forall_mem_cons.mpr ⟨mWc_164, List.forall_mem_cons.mpr ⟨mWc_165, List.forall_mem_cons.mpr ⟨mWc_166, List.forall_mem_cons.mpr ⟨mWc_167, List.forall_mem_cons.mpr ⟨mWc_168, List.forall_mem_cons.mpr ⟨mWc_169, List.forall_mem_cons.mpr ⟨mWc_170, List.forall_mem_cons.mpr ⟨mWc_171, List.forall_mem_cons.mpr ⟨mWc_172, List.forall_mem_cons.mpr ⟨mWc_173, List.forall_mem_cons.mpr ⟨mWc_174, List.forall_mem_cons.mpr ⟨mWc_175, fun _ h => absurd h List.not_mem_nil⟩⟩⟩⟩⟩⟩⟩⟩⟩⟩⟩⟩⟩⟩⟩⟩
theorem cWb_11 : ∀ t ∈ ([176, 177, 178, 179, 180, 181, 182, 183, 184, 185, 186, 187, 188, 189, 190, 191] : List Nat), mWc t ∈ lw_tbl := List.forall_mem_cons.mpr ⟨mWc_176, List.forall_mem_cons.mpr ⟨mWc_177, List.forall_mem_cons.mpr ⟨mWc_178, List.forall_mem_cons.mpr ⟨mWc_179, List.forall_mem_cons.mpr ⟨mWc_180, List.forall_mem_cons.mpr ⟨mWc_181, List.forall_mem_cons.mpr ⟨mWc_182, List.forall_mem_cons.mpr ⟨mWc_183, List.forall_mem_cons.mpr ⟨mWc_184, List.forall_mem_cons.mpr ⟨mWc_185, List.forall_mem_cons.mpr ⟨mWc_186, List.forall_mem_cons.mpr ⟨mWc_187, List.forall_mem_cons.mpr ⟨mWc_188, List.forall_mem_cons.mpr ⟨mWc_189, List.forall_mem_cons.mpr ⟨mWc_190, List.forall_mem_cons.mpr ⟨mWc_191, fun _ h => absurd h List.not_mem_nil⟩⟩⟩⟩⟩⟩⟩⟩⟩⟩⟩⟩⟩⟩⟩⟩
theorem cWb_12 : ∀ t ∈ ([192, 193, 194, 195, 196, 197, 198, 199, 200, 201, 202, 203, 204, 205, 206, 207] : List Nat), mWc t ∈ lw_tbl := List.forall_mem_cons.mpr ⟨mWc_192, List.forall_mem_cons.mpr ⟨mWc_193, List.forall_mem_cons.mpr ⟨mWc_194, List.forall_mem_cons.mpr ⟨mWc_195, List.forall_mem_cons.mpr ⟨mWc_196, List.forall_mem_cons.mpr ⟨mWc_197, List.forall_mem_cons.mpr ⟨mWc_198, List.forall_mem_cons.mpr ⟨mWc_199, List.forall_mem_cons.mpr ⟨mWc_200, List.forall_mem_cons.mpr ⟨mWc_201, List.forall_mem_cons.mpr ⟨mWc_202, List.forall_mem_cons.mpr ⟨mWc_203, List.forall_mem_cons.mpr ⟨mWc_204, List.forall_mem_cons.mpr ⟨mWc_205, List.forall_mem_cons.mpr ⟨mWc_206, List.forall_mem_cons.mpr ⟨mWc_207, fun _ h => absurd h List.not_mem_nil⟩⟩⟩⟩⟩⟩⟩⟩⟩⟩⟩⟩⟩⟩⟩⟩
theorem cWb_13 : ∀ t ∈ ([208, 209, 210, 211, 212, 213, 214, 215, 216, 217, 218, 219, 220, 221, 222, 223] : List Nat), mWc t ∈ lw_tbl := List.forall_mem_cons.mpr ⟨mWc_208, List.forall_mem_cons.mpr ⟨mWc_209, List.forall_mem_cons.mpr ⟨mWc_210, List.forall_mem_cons.mpr ⟨mWc_211, List.forall_mem_cons.mpr ⟨mWc_212, List.forall_mem_cons.mpr ⟨mWc_213, List.forall_mem_cons.mpr ⟨mWc_214, List.forall_mem_cons.mpr ⟨mWc_215, List.forall_mem_cons.mpr ⟨mWc_216, List.forall_mem_cons.mpr ⟨mWc_217, List.forall_mem_cons.mpr ⟨mWc_218, List.forall_mem_cons.mpr ⟨mWc_219, List.forall_mem_cons.mpr ⟨mWc_220, List.forall_mem_cons.mpr ⟨mWc_221, List.forall_mem_cons.mpr ⟨mWc_222, List.forall_mem_cons.mpr ⟨mWc_223, fun _ h => absurd h List.not_mem_nil⟩⟩⟩⟩⟩⟩⟩⟩⟩⟩⟩⟩⟩⟩⟩⟩
theorem cWb_14 : ∀ t ∈ ([224, 225, 226, 227, 228, 229, 230, 231, 232, 233, 234, 235, 236, 237, 238, 239] : List Nat), mWc t ∈ lw_tbl := List.forall_mem_cons.mpr ⟨mWc_224, List.forall_mem_cons.mpr ⟨mWc_225, List.forall_mem_cons.mpr ⟨mWc_226, List.forall_mem_cons.mpr ⟨mWc_227, List.forall_mem_cons.mpr ⟨mWc_228, List.forall_mem_cons.mpr ⟨mWc_229, List.forall_mem_cons.mpr ⟨mWc_230, List.forall_mem_cons.mpr ⟨mWc_231, List.forall_mem_cons.mpr ⟨mWc_232, List.forall_mem_cons.mpr ⟨mWc_233, List.forall_mem_cons.mpr ⟨mWc_234, List.forall_mem_cons.mpr ⟨mWc_235, List.forall_mem_cons.mpr ⟨mWc_236, List.forall_mem_cons.mpr ⟨mWc_237, List.forall_mem_cons.mpr ⟨mWc_238, List.forall_mem_cons.mpr ⟨mWc_239, fun _ h => absurd h List.not_mem_nil⟩⟩⟩⟩⟩⟩⟩⟩⟩⟩⟩⟩⟩⟩⟩⟩
theorem cWb_15 : ∀ t ∈ ([240, 241, 242, 243, 244, 245, 246, 247, 248, 249, 250, 251, 252, 253, 254, 255] : List Nat), mWc t ∈ lw_tbl := List.forall_mem_cons.mpr ⟨mWc_240, List.forall_mem_cons.mpr ⟨mWc_241, List.forall_mem_cons.mpr ⟨mWc_242, List.forall_mem_cons.mpr ⟨mWc_243, List.forall_mem_cons.mpr ⟨mWc_244, List.forall_mem_cons.mpr ⟨mWc_245, List.forall_mem_cons.mpr ⟨mWc_246, List.forall_mem_cons.mpr ⟨mWc_247, List.forall_mem_cons.mpr ⟨mWc_248, List.forall_mem_cons.mpr ⟨mWc_249, List.forall_mem_cons.mpr ⟨mWc_250, List.forall_mem_cons.mpr ⟨mWc_251, List.forall_mem_cons.mpr ⟨mWc_252, List.forall_mem_cons.mpr ⟨mWc_253, List.forall_mem_cons.mpr ⟨mWc_254, List.forall_mem_cons.mpr ⟨mWc_255, fun _ h => absurd h List.not_mem_nil⟩⟩⟩⟩⟩⟩⟩⟩⟩⟩⟩⟩⟩⟩⟩⟩
set_option maxRecDepth 100000 in
theorem cW_all (t : Nat) (h : t < 256) : mWc t ∈ lw_g := by
  have e : List.range 256 = (([0, 1, 2, 3, 4, 5, 6, 7, 8, 9, 10, 11, 12, 13, 14, 15] ++ ([16, 17, 18, 19, 20, 21, 22, 23, 24, 25, 26, 27, 28, 29, 30, 31] ++ ([32, 33, 34, 35, 36, 37, 38, 39, 40, 41, 42, 43, 44, 45, 46, 47] ++ ([48, 49, 50, 51, 52, 53, 54, 55, 56, 57, 58, 59, 60, 61, 62, 63] ++ ([64, 65, 66, 67, 68, 69, 70, 71, 72, 73, 74, 75, 76, 77, 78, 79] ++ ([80, 81, 82, 83, 84, 85, 86, 87, 88, 89, 90, 91, 92, 93, 94, 95] ++ ([96, 97, 98, 99, 100, 101, 102, 103, 104, 105, 106, 107, 108, 109, 110, 111] ++ ([112, 113, 114, 115, 116, 117, 118, 119, 120, 121, 122, 123, 124, 125, 126, 127] ++ ([128, 129, 130, 131, 132, 133, 134, 135, 136, 137, 138, 139, 140, 141, 142, 143] ++ ([144, 145, 146, 147, 148, 149, 150, 151, 152, 153, 154, 155, 156, 157, 158, 159] ++ ([160, 161, 162, 163, 164, 165, 166, 167, 168, 169, 170, 171, 172, 173, 174, 175] ++ ([176, 177, 178, 179, 180, 181, 182, 183, 184, 185, 186, 187, 188, 189, 190, 191] ++ ([192, 193, 194, 195, 196, 197, 198, 199, 200, 201, 202, 203, 204, 205, 206, 207] ++ ([208, 209, 210, 211, 212, 213, 214, 215, 216, 217, 218, 219, 220, 221, 222, 223] ++ ([224, 225, 226, 227, 228, 229, 230, 231, 232, 233, 234, 235, 236, 237, 238, 239] ++ [240, 241, 242, 243, 244, 245, 246, 247, 248, 249, 250, 251, 252, 253, 254, 255]))))))))))))))) : List Nat) := by decide +kernel
  have hm : t ∈ (([0, 1, 2, 3, 4, 5, 6, 7, 8, 9, 10, 11, 12, 13, 14, 15] ++ ([16, 17, 18, 19, 20, 21, 22, 23, 24, 25, 26, 27, 28, 29, 30, 31] ++ ([32, 33, 34, 35, 36, 37, 38, 39, 40, 41, 42, 43, 44, 45, 46, 47] ++ ([48, 49, 50, 51, 52, 53, 54, 55, 56, 57, 58, 59, 60, 61, 62, 63] ++ ([64, 65, 66, 67, 68, 69, 70, 71, 72, 73, 74, 75, 76, 77, 78, 79] ++ ([80, 81, 82, 83, 84, 85, 86, 87, 88, 89, 90, 91, 92, 93, 94, 95] ++ ([96, 97, 98, 99, 100, 101, 102, 103, 104, 105, 106, 107, 108, 109, 110, 111] ++ ([112, 113, 114, 115, 116, 117, 118, 119, 120, 121, 122, 123, 124, 125, 126, 127] ++ ([128, 129, 130, 131, 132, 133, 134, 135, 136, 137, 138, 139, 140, 141, 142, 143] ++ ([144, 145, 146, 147, 148, 149, 150, 151, 152, 153, 154, 155, 156, 157, 158, 159] ++ ([160, 161, 162, 163, 164, 165, 166, 167, 168, 169, 170, 171, 172, 173, 174, 175] ++ ([176, 177, 178, 179, 180, 181, 182, 183, 184, 185, 186, 187, 188, 189, 190, 191] ++ ([192, 193, 194, 195, 196, 197, 198, 199, 200, 201, 202, 203, 204, 205, 206, 207] ++ ([208, 209, 210, 211, 212, 213, 214, 215, 216, 217, 218, 219, 220, 221, 222, 223] ++ ([224, 225, 226, 227, 228, 229, 230, 231, 232, 233, 234, 235, 236, 237, 238, 239] ++ [240, 241, 242, 243, 244, 245, 246, 247, 248, 249, 250, 251, 252, 253, 254, 255]))))))))))))))) : List Nat) := by rw [← e]; exact List.mem_range.mpr h
  exact lwg_of ((List.forall_mem_append.mpr ⟨cWb_0, List.forall_mem_append.mpr ⟨cWb_1, List.forall_mem_append.mpr ⟨cWb_2, List.forall_mem_append.mpr ⟨cWb_3, List.forall_mem_append.mpr ⟨cWb_4, List.forall_mem_append.mpr ⟨cWb_5, List.forall_mem_append.mpr ⟨cWb_6, List.forall_mem_append.mpr ⟨cWb_7, List.forall_mem_append.mpr ⟨cWb_8, List.forall_mem_append.mpr ⟨cWb_9, List.forall_mem_append.mpr ⟨cWb_10, List.forall_mem_append.mpr ⟨cWb_11, List.forall_mem_append.mpr ⟨cWb_12, List.forall_mem_append.mpr ⟨cWb_13, List.forall_mem_append.mpr ⟨cWb_14, cWb_15⟩⟩⟩⟩⟩⟩⟩⟩⟩⟩⟩⟩⟩⟩⟩) t hm) rfl
theorem sW_all (t : Nat) (h : t < 256) : ∀ w ∈ mWs t, w ∈ lw_g := by
  intro w hw
  have hg : goodWord w = true := by
    unfold mWs at hw
    dsimp only at hw
    split at hw <;> simp only [List.mem_cons, List.not_mem_nil, or_false] at hw
    · rcases hw with rfl | rfl <;> rfl
    · rcases hw with rfl | rfl | rfl <;> rfl
  refine lwg_of ?_ hg
  have key : ∀ b n : Nat, 32 * b ≤ t → t < 32 * b + n → w ∈ ((List.range n).map (· + 32 * b)).flatMap mWs := fun b n h1 h2 => List.mem_flatMap.mpr ⟨t, List.mem_map.mpr ⟨t - 32 * b, List.mem_range.mpr (by omega), by omega⟩, hw⟩
  rcases (show t / 32 = 0 ∨ t / 32 = 1 ∨ t / 32 = 2 ∨ t / 32 = 3 ∨ t / 32 = 4 ∨ t / 32 = 5 ∨ t / 32 = 6 ∨ t / 32 = 7 by omega) with q | q | q | q | q | q | q | q
  · exact mWs_0 w (key 0 32 (by omega) (by omega))
  · exact mWs_1 w (key 1 32 (by omega) (by omega))
  · exact mWs_2 w (key 2 32 (by omega) (by omega))
  · exact mWs_3 w (key 3 32 (by omega) (by omega))
  · exact mWs_4 w (key 4 32 (by omega) (by omega))
  · exact mWs_5 w (key 5 32 (by omega) (by omega))
  · exact mWs_6 w (key 6 32 (by omega) (by omega))
  · exact mWs_7 w (key 7 32 (by omega) (by omega))
def mK (t : Nat) : Bool := let y := mY.getD t x
  decide (y.cls = cN (mOw.getD t 0)) && plainName y.cls && decide (y.cls ≠ "java/lang/invoke/MethodHandle") && decide (y.cls ≠ "java/lang/invoke/VarHandle") &&
    decide ((parseMethodDescriptor y.desc).map (fun d => d.parameters.length) = some (mNa.getD t 0 - (if mSt.getD t false = true then 0 else 1))) && decide (mMl.getD t 0 ≤ 13) && decide (25 ≤ kRk t) && decide (kOw t = mOw.getD t 0) && decide (kMl t = mMl.getD t 0) && decide (kRt t = mRt.getD t none) && decide (kOw t ≠ 12) &&
    (mSt.getD t false || (decide (oCi.getD (mOw.getD t 0) 99 < 11) && decide ((vwCl.getD (oCi.getD (mOw.getD t 0) 99) ("", fun _ => ("", "", "", false), 0)).1 = y.cls) && decide (1 ≤ mNa.getD t 0))) && decide (mNa.getD t 0 ≤ mMl.getD t 0)
set_option maxRecDepth 100000 in
theorem mK_all : ∀ t, t < 256 → mK t = true := by decide +kernel
def AA (LL : List Nat) (sz : Nat) : Nat → Prop := fun q => q ∈ LL ∨ sz ≤ q
def wsM (t : Nat) : List Cond := mWc t :: lw_g
theorem goodIn_g {ws : List Cond} (h : ∀ w ∈ ws, w ∈ lw_g) : GoodIn lw_g ws := fun w hw => ⟨h w hw, good_of_word (List.mem_filter.mp (h w hw)).2⟩
def PcM (D : va_G) (aC : Nat → ClassId) (ads : List Nat → Nat) (pth : Nat → List Nat) (LL : List Nat) (L : Nat) (xs : Nat → Int32) (b0 q9 : Nat) (as : List mV) (mem : mM) (sz : Nat) : Array Value → State → Prop :=
  va_Pc (as.map (rV ads)) (fun U => U.heap.size = sz ∧ va_P D vwCl (wd aC ads pth LL mem) U.heap ∧ va_K D vwCl (tysOf aC) U ∧ va_X b0 L xs U U.heap ∧ b0 < sz ∧ b0 ∉ LL ∧ ZS q9 (AA LL sz) U U.heap)
def QcM (D : va_G) (aC : Nat → ClassId) (ads : List Nat → Nat) (pth : Nat → List Nat) (LL : List Nat) (v : Option mV) (mem : mM) (sz : Nat) : Array Value → State → Outcome → State → Prop := fun _ st oc t =>
  (oc = .returned (v.map (rV ads)) ∧ (∀ w, v = some w → okV w) ∧ va_P D vwCl (wd aC ads pth LL mem) t.heap) ∧ va_F (AA LL sz) st t
def MetM (l : Launch) (L : Nat) (xs : Nat → Int32) (t : Nat) (as : List mV) (mem : mM) (v : Option mV) (mem' : mM) : Prop :=
  ∀ (D : va_G) (aC : Nat → ClassId) (ads : List Nat → Nat) (pth : Nat → List Nat) (LL : List Nat) (b0 q9 sz : Nat), EO ads pth LL → LL.Nodup → ads [3] = b0 → ads [4] = q9 → (∀ w ∈ as, okV w) → allOne (kMl t) as = true → as.length = mNa.getD t 0 →
    Met l (mY.getD t x) (wsM t) { frames := rkM t as, cells := 0, slots := 0, locals := 41 * rkM t as } (PcM D aC ads pth LL L xs b0 q9 as mem sz) (QcM D aC ads pth LL v mem' sz) 0 0 (AA LL sz)
theorem PcM_blind {D : va_G} {aC : Nat → ClassId} {ads : List Nat → Nat} {pth : Nat → List Nat} {LL : List Nat} {L : Nat} {xs : Nat → Int32} {b0 q9 : Nat} {as : List mV} {mem : mM} {sz : Nat} : FrameBlind (PcM D aC ads pth LL L xs b0 q9 as mem sz) := by
  intro a U g mk h
  obtain ⟨h0, h1, h2, h3, h4, h5, h6, h7, ⟨adV, h8⟩, h9⟩ := h
  exact ⟨h0, h1, h2, va_K.moved (u := U) (U := U.calling g mk a) (Vm.Alike.refl U.vm) h3, va_X.moved (u := U) (U := U.calling g mk a) (Vm.Alike.refl U.vm) h4, h5, h6, ⟨vk_R.same (u := U) rfl h7, ⟨adV, vk_S.moved (u := U) (U := U.calling g mk a) (Vm.Alike.refl U.vm) h8⟩, va_Z.moved (u := U) (U := U.calling g mk a) (Vm.Alike.refl U.vm) h9⟩⟩
theorem wd_D {aC : Nat → ClassId} {ads : List Nat → Nat} {pth : Nat → List Nat} {LL : List Nat} {mem : mM} {sz : Nat} (hn : LL.Nodup) : va_D (AA LL sz) (wd aC ads pth LL mem) := by
  refine ⟨fun i j p q hi hj hpq => ?_, fun k q hk => ?_⟩
  · unfold wd va_pl at hi hj
    rw [List.getElem?_map] at hi hj
    cases h1 : LL[i]? with
    | none => rw [h1] at hi; cases hi
    | some a =>
      cases h2 : LL[j]? with
      | none => rw [h2] at hj; cases hj
      | some b =>
        rw [h1] at hi; rw [h2] at hj
        cases hi; cases hj
        have hab : a = b := hpq
        subst hab
        obtain ⟨hil, e1⟩ := List.getElem?_eq_some_iff.mp h1
        obtain ⟨hjl, e2⟩ := List.getElem?_eq_some_iff.mp h2
        have hpw := List.pairwise_iff_getElem.mp hn
        rcases Nat.lt_trichotomy i j with h | h | h
        · exact absurd (e1.trans e2.symm) (hpw i j hil hjl h)
        · exact h
        · exact absurd (e2.trans e1.symm) (hpw j i hjl hil h)
  · unfold wd va_pl at hk
    rw [List.getElem?_map] at hk
    cases h1 : LL[k]? with
    | none => rw [h1] at hk; cases hk
    | some a =>
      rw [h1] at hk
      cases hk
      exact Or.inl (List.mem_of_getElem? h1)
section Sim
variable {p : Program} {l : Launch} {e : Env} {R : Room} {s : State} {m : MethodId} {args : Array Value} {below : List Frame} {meth : Method} {c : Code} {Q : State → Prop}
variable {D : va_G} {aC : Nat → ClassId} {ads : List Nat → Nat} {pth : Nat → List Nat} {LL : List Nat} {L : Nat} {xs : Nat → Int32} {b0 q9 mi : Nat} {cf sf : Nat → Nat}
theorem va_callG {cells slots pc sz : Nat} {H : Heap} {locs : List Loc} {ls : Array Slot} {rest st0 : List Value} {a : Array Value} {v : Option mV} {mem' : mM} {A : Nat → Prop} (hr : va_Run p l e R s m args below meth c H locs cells slots 0 0 (F0 m pc ls st0) rest (QcM D aC ads pth LL v mem' sz a) (AA LL sz)) (hS : va_S A s.heap H locs) (hA : ∀ q, AA LL sz q → A q)
    (kk : ∀ (H1 : Heap) (locs1 : List Loc), va_P D vwCl (wd aC ads pth LL mem') H1 → (∀ w, v = some w → okV w) → va_S A s.heap H1 locs1 → W p l e R s m args below meth c H1 locs1 cells slots Q (F0 m (pc + 3) ls ((v.map (rV ads)).toList ++ rest))) : W p l e R s m args below meth c H locs cells slots Q (F0 m pc ls st0) := by
  intro T hT X
  obtain ⟨v', st₀, t, T', L', h0, X', hL, e1, e2, ⟨⟨hv, hok, hp⟩, hz, hk⟩, st⟩ := hr T hT X
  cases hv
  rw [h0] at hz hk
  obtain ⟨t2, a1, b1⟩ := kk T'.heap (locs ++ L') (by rw [e1]; exact hp) hok ⟨Nat.le_trans hS.1 (by rw [e1]; exact hz), fun q h1 h2 => by rw [e1, hk q (Nat.lt_of_lt_of_le h1 hS.1) (fun z => h2 (hA q z))]; exact hS.2.1 q h1 h2, fun q hq => by
      rcases List.mem_append.mp hq with h | h
      · exact hS.2.2 q h
      · exact hA _ (hL q h)⟩ T' rfl X'
  exact ⟨t2, st t2 a1, b1⟩
/-- what a step is that calls -/
def NI (z : Option mO) : Prop := ∀ q, z ≠ some (.inr q)
theorem ni_none : NI none := fun _ h => by cases h
theorem ni_gO {pc ls st mem} : NI (gO pc ls st mem) := fun _ h => by cases h
theorem ni_gG {b pc ls st mem} : NI (gG b pc ls st mem) := fun _ h => by cases h
theorem ni_gB {b pc off ls st mem} : NI (gB b pc off ls st mem) := fun _ h => by unfold gB at h; split at h <;> cases h
theorem ni_pI {st} {k : Int32 → List mV → Option mO} (h : ∀ v r, NI (k v r)) : NI (pI st k) := fun q hq => by obtain ⟨v, u, r, -, -, h2⟩ := pI_inv hq; exact h v r q h2
theorem ni_pL {st} {k : Int64 → List mV → Option mO} (h : ∀ v r, NI (k v r)) : NI (pL st k) := fun q hq => by obtain ⟨v, r, -, h2⟩ := pL_inv hq; exact h v r q h2
theorem ni_pR {st} {k : Nat → List Nat → List mV → Option mO} (h : ∀ c p r, NI (k c p r)) : NI (pR st k) := fun q hq => by obtain ⟨c, p, r, -, h2⟩ := pR_inv hq; exact h c p r q h2
theorem ni_pA {st} {k : mV → List mV → Option mO} (h : ∀ v r, NI (k v r)) : NI (pA st k) := fun q hq => by obtain ⟨v, r, -, -, h2⟩ := pA_inv hq; exact h v r q h2
theorem ni_ldI {ls i} {k : mV → Option mO} (h : ∀ v, NI (k v)) : NI (ldI ls i k) := fun q hq => by obtain ⟨v, u, -, -, h2⟩ := ldI_inv hq; exact h u q h2
theorem ni_ldL {ls i} {k : Int64 → Option mO} (h : ∀ v, NI (k v)) : NI (ldL ls i k) := fun q hq => by obtain ⟨v, -, h2⟩ := ldL_inv hq; exact h v q h2
theorem ni_ldR {ls i} {k : Option (Nat × List Nat) → Option mO} (h : ∀ v, NI (k v)) : NI (ldR ls i k) := fun q hq => by obtain ⟨v, -, h2⟩ := ldR_inv hq; exact h v q h2
theorem ni_pN {st} {k : Option (Nat × List Nat) → List mV → Option mO} (h : ∀ v r, NI (k v r)) : NI (pN st k) := fun q hq => by obtain ⟨v, r, -, h2⟩ := pN_inv hq; exact h v r q h2
theorem ni_pV {st} {k : mV → List mV → Option mO} (h : ∀ v r, NI (k v r)) : NI (pV st k) := fun q hq => by obtain ⟨v, u, r, -, -, h2⟩ := pV_inv hq; exact h u r q h2
theorem ni_pD {st} {k : Bool → Int32 → List mV → Option mO} (h : ∀ b v r, NI (k b v r)) : NI (pD st k) := fun q hq => by obtain ⟨b, v, u, r, -, -, -, h2⟩ := pD_inv hq; exact h b v r q h2
theorem ni_pZ {st} {k : Bool → Int32 → List mV → Option mO} (h : ∀ b v r, NI (k b v r)) : NI (pZ st k) := fun q hq => by obtain ⟨b, v, u, r, -, -, -, h2⟩ := pZ_inv hq; exact h b v r q h2
theorem ni_pX {n st} {k : Bool → Nat → List mV → Option mO} (h : ∀ b v r, NI (k b v r)) : NI (pX n st k) := fun q hq => by obtain ⟨b, i, v, u, r, -, -, -, h2⟩ := pX_inv hq; exact h b i r q h2
theorem ni_bif {b : Bool} {u v : Option mO} (h1 : NI u) (h2 : NI v) : NI (bif b then u else v) := by cases b <;> assumption
theorem ni_intr {j pc ls st mem} : NI (intr j pc ls st mem) := by
  unfold intr
  repeat first | exact ni_gO | exact ni_gG | exact ni_none | refine ni_bif ?_ ?_ | refine ni_pI (fun _ _ => ?_) | refine ni_pR (fun _ _ _ => ?_)
theorem step_inr {pc : Nat} {ls : List (Option mV)} {st : List mV} {mem : mM} {z : (Bool × Option mV) ⊕ (Nat × List mV × List mV)} (h0 : mStep L xs mi pc ls st mem = some (.inr z)) : ∃ ig len fa fb fc, decode (mBy.getD mi code) pc = .ok (ig, len) ∧ rsB (kOw mi) (pc, ig, len, fa, fb, fc) = true ∧ isem L xs mi pc len ig fa fb fc ls st mem = some (.inr z) ∧
    ((∃ j, ig = .invokevirtual j) ∨ (∃ j, ig = .invokestatic j) ∨ ig = .ireturn ∨ ig = .lreturn ∨ ig = .areturn ∨ ig = .return_) := by
  unfold mStep at h0
  split at h0
  · cases h0
  · next p0 ig len fa fb fc hf =>
    obtain ⟨rfl, hd, hr⟩ := tbl_dec hf
    refine ⟨ig, len, fa, fb, fc, hd, hr, h0, ?_⟩
    cases ig
    case invokevirtual j => exact Or.inl ⟨j, rfl⟩
    case invokestatic j => exact Or.inr (Or.inl ⟨j, rfl⟩)
    case ireturn => exact Or.inr (Or.inr (Or.inl rfl))
    case lreturn => exact Or.inr (Or.inr (Or.inr (Or.inl rfl)))
    case areturn => exact Or.inr (Or.inr (Or.inr (Or.inr (Or.inl rfl))))
    case return_ => exact Or.inr (Or.inr (Or.inr (Or.inr (Or.inr rfl))))
    all_goals first
      | (cases h0; done)
      | (exfalso; refine (?_ : NI _) _ h0; unfold isem; dsimp only
         repeat first | exact ni_gO | exact ni_gG | exact ni_gB | exact ni_none | refine ni_bif ?_ ?_ | refine ni_pI (fun _ _ => ?_) | refine ni_pL (fun _ _ => ?_) | refine ni_pR (fun _ _ _ => ?_) | refine ni_pA (fun _ _ => ?_) | refine ni_pV (fun _ _ => ?_) | refine ni_pN (fun _ _ => ?_) | refine ni_pD (fun _ _ _ => ?_) | refine ni_pZ (fun _ _ _ => ?_) | refine ni_pX (fun _ _ _ => ?_) | refine ni_ldI (fun _ => ?_) | refine ni_ldL (fun _ => ?_) | refine ni_ldR (fun _ => ?_) | split | exact (fun _ h => by cases h))
end Sim

