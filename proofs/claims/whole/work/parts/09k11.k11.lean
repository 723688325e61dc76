section CtorW
set_option maxRecDepth 100000 in
theorem wK_90 : Cond.initialized RX3 ∈ lw_g := lwg_of (List.mem_of_getElem? (i := 90) (by decide +kernel)) (by decide +kernel)
set_option maxRecDepth 100000 in
theorem wK_91 : Cond.initialized RX9 ∈ lw_g := lwg_of (List.mem_of_getElem? (i := 91) (by decide +kernel)) (by decide +kernel)
set_option maxRecDepth 100000 in
theorem wK_92 : Cond.initialized RX0 ∈ lw_g := lwg_of (List.mem_of_getElem? (i := 92) (by decide +kernel)) (by decide +kernel)
set_option maxRecDepth 100000 in
theorem wK_93 : Cond.initialized RX7 ∈ lw_g := lwg_of (List.mem_of_getElem? (i := 93) (by decide +kernel)) (by decide +kernel)
set_option maxRecDepth 100000 in
theorem wK_94 : Cond.initialized RX6 ∈ lw_g := lwg_of (List.mem_of_getElem? (i := 94) (by decide +kernel)) (by decide +kernel)
set_option maxRecDepth 100000 in
theorem wK_95 : Cond.initialized RX1 ∈ lw_g := lwg_of (List.mem_of_getElem? (i := 95) (by decide +kernel)) (by decide +kernel)
set_option maxRecDepth 100000 in
theorem wK_96 : Cond.initialized RX8 ∈ lw_g := lwg_of (List.mem_of_getElem? (i := 96) (by decide +kernel)) (by decide +kernel)
set_option maxRecDepth 100000 in
theorem wK_97 : Cond.initialized RX4 ∈ lw_g := lwg_of (List.mem_of_getElem? (i := 97) (by decide +kernel)) (by decide +kernel)
set_option maxRecDepth 100000 in
theorem wK_98 : Cond.initialized RX5 ∈ lw_g := lwg_of (List.mem_of_getElem? (i := 98) (by decide +kernel)) (by decide +kernel)
set_option maxRecDepth 100000 in
theorem wK_119 : Cond.methodLink RX10 1 objectInit ∈ lw_g := lwg_of (List.mem_of_getElem? (i := 119) (by decide +kernel)) (by decide +kernel)
set_option maxRecDepth 100000 in
theorem wK_120 : Cond.instanceMethod objectInit ∈ lw_g := lwg_of (List.mem_of_getElem? (i := 120) (by decide +kernel)) (by decide +kernel)
set_option maxRecDepth 100000 in
theorem wK_121 : Cond.code objectInit ⟨#[0xb1]⟩ 1 none ∈ lw_g := lwg_of (List.mem_of_getElem? (i := 121) (by decide +kernel)) (by decide +kernel)
set_option maxRecDepth 100000 in
theorem wK_122 : Cond.classLink RX10 7 RX3 ∈ lw_g := lwg_of (List.mem_of_getElem? (i := 122) (by decide +kernel)) (by decide +kernel)
set_option maxRecDepth 100000 in
theorem wK_123 : Cond.instantiable RX3 16 ∈ lw_g := lwg_of (List.mem_of_getElem? (i := 123) (by decide +kernel)) (by decide +kernel)
set_option maxRecDepth 100000 in
theorem wK_124 : Cond.methodLink RX10 9 yX3_init ∈ lw_g := lwg_of (List.mem_of_getElem? (i := 124) (by decide +kernel)) (by decide +kernel)
set_option maxRecDepth 100000 in
theorem wK_125 : Cond.instanceMethod yX3_init ∈ lw_g := lwg_of (List.mem_of_getElem? (i := 125) (by decide +kernel)) (by decide +kernel)
set_option maxRecDepth 100000 in
theorem wK_126 : Cond.code yX3_init cX3_init 2 none ∈ lw_g := lwg_of (List.mem_of_getElem? (i := 126) (by decide +kernel)) (by decide +kernel)
set_option maxRecDepth 100000 in
theorem wK_127 : Cond.methodLink RX3 3 objectInit ∈ lw_g := lwg_of (List.mem_of_getElem? (i := 127) (by decide +kernel)) (by decide +kernel)
set_option maxRecDepth 100000 in
theorem wK_128 : Cond.classLink RX3 31 RX9 ∈ lw_g := lwg_of (List.mem_of_getElem? (i := 128) (by decide +kernel)) (by decide +kernel)
set_option maxRecDepth 100000 in
theorem wK_129 : Cond.instantiable RX9 13 ∈ lw_g := lwg_of (List.mem_of_getElem? (i := 129) (by decide +kernel)) (by decide +kernel)
set_option maxRecDepth 100000 in
theorem wK_131 : Cond.instanceMethod yX9_init ∈ lw_g := lwg_of (List.mem_of_getElem? (i := 131) (by decide +kernel)) (by decide +kernel)
set_option maxRecDepth 100000 in
theorem wK_132 : Cond.code yX9_init cX9_init 1 none ∈ lw_g := lwg_of (List.mem_of_getElem? (i := 132) (by decide +kernel)) (by decide +kernel)
set_option maxRecDepth 100000 in
theorem wK_133 : Cond.methodLink RX9 3 objectInit ∈ lw_g := lwg_of (List.mem_of_getElem? (i := 133) (by decide +kernel)) (by decide +kernel)
set_option maxRecDepth 100000 in
theorem wK_134 : Cond.fieldLink RX9 9 RX9 (TX9 0).2.1 (TX9 0).2.2.1 ∈ lw_g := lwg_of (List.mem_of_getElem? (i := 134) (by decide +kernel)) (by decide +kernel)
set_option maxRecDepth 100000 in
theorem wK_137 : Cond.fieldLink RX9 15 RX9 (TX9 1).2.1 (TX9 1).2.2.1 ∈ lw_g := lwg_of (List.mem_of_getElem? (i := 137) (by decide +kernel)) (by decide +kernel)
set_option maxRecDepth 100000 in
theorem wK_139 : Cond.fieldLink RX9 19 RX9 (TX9 2).2.1 (TX9 2).2.2.1 ∈ lw_g := lwg_of (List.mem_of_getElem? (i := 139) (by decide +kernel)) (by decide +kernel)
set_option maxRecDepth 100000 in
theorem wK_141 : Cond.fieldLink RX9 22 RX9 (TX9 3).2.1 (TX9 3).2.2.1 ∈ lw_g := lwg_of (List.mem_of_getElem? (i := 141) (by decide +kernel)) (by decide +kernel)
set_option maxRecDepth 100000 in
theorem wK_144 : Cond.fieldLink RX9 25 RX9 (TX9 4).2.1 (TX9 4).2.2.1 ∈ lw_g := lwg_of (List.mem_of_getElem? (i := 144) (by decide +kernel)) (by decide +kernel)
set_option maxRecDepth 100000 in
theorem wK_147 : Cond.fieldLink RX9 28 RX9 (TX9 5).2.1 (TX9 5).2.2.1 ∈ lw_g := lwg_of (List.mem_of_getElem? (i := 147) (by decide +kernel)) (by decide +kernel)
set_option maxRecDepth 100000 in
theorem wK_150 : Cond.fieldLink RX9 31 RX9 (TX9 6).2.1 (TX9 6).2.2.1 ∈ lw_g := lwg_of (List.mem_of_getElem? (i := 150) (by decide +kernel)) (by decide +kernel)
set_option maxRecDepth 100000 in
theorem wK_155 : Cond.fieldLink RX9 34 RX9 (TX9 7).2.1 (TX9 7).2.2.1 ∈ lw_g := lwg_of (List.mem_of_getElem? (i := 155) (by decide +kernel)) (by decide +kernel)
set_option maxRecDepth 100000 in
theorem wK_160 : Cond.fieldLink RX9 37 RX9 (TX9 8).2.1 (TX9 8).2.2.1 ∈ lw_g := lwg_of (List.mem_of_getElem? (i := 160) (by decide +kernel)) (by decide +kernel)
set_option maxRecDepth 100000 in
theorem wK_162 : Cond.fieldLink RX9 40 RX9 (TX9 9).2.1 (TX9 9).2.2.1 ∈ lw_g := lwg_of (List.mem_of_getElem? (i := 162) (by decide +kernel)) (by decide +kernel)
set_option maxRecDepth 100000 in
theorem wK_165 : Cond.fieldLink RX9 44 RX9 (TX9 10).2.1 (TX9 10).2.2.1 ∈ lw_g := lwg_of (List.mem_of_getElem? (i := 165) (by decide +kernel)) (by decide +kernel)
set_option maxRecDepth 100000 in
theorem wK_167 : Cond.fieldLink RX9 47 RX9 (TX9 11).2.1 (TX9 11).2.2.1 ∈ lw_g := lwg_of (List.mem_of_getElem? (i := 167) (by decide +kernel)) (by decide +kernel)
set_option maxRecDepth 100000 in
theorem wK_169 : Cond.fieldLink RX9 51 RX9 (TX9 12).2.1 (TX9 12).2.2.1 ∈ lw_g := lwg_of (List.mem_of_getElem? (i := 169) (by decide +kernel)) (by decide +kernel)
set_option maxRecDepth 100000 in
theorem wK_197 : Cond.arrayClass .int ∈ lw_g := lwg_of (List.mem_of_getElem? (i := 197) (by decide +kernel)) (by decide +kernel)
set_option maxRecDepth 100000 in
theorem wK_198 : Cond.arrayClass .boolean ∈ lw_g := lwg_of (List.mem_of_getElem? (i := 198) (by decide +kernel)) (by decide +kernel)
set_option maxRecDepth 100000 in
theorem wK_199 : Cond.classLink RX3 47 RX0 ∈ lw_g := lwg_of (List.mem_of_getElem? (i := 199) (by decide +kernel)) (by decide +kernel)
set_option maxRecDepth 100000 in
theorem wK_201 : Cond.instantiable RX0 19 ∈ lw_g := lwg_of (List.mem_of_getElem? (i := 201) (by decide +kernel)) (by decide +kernel)
set_option maxRecDepth 100000 in
theorem wK_203 : Cond.instanceMethod yX0_init ∈ lw_g := lwg_of (List.mem_of_getElem? (i := 203) (by decide +kernel)) (by decide +kernel)
set_option maxRecDepth 100000 in
theorem wK_204 : Cond.code yX0_init cX0_init 1 none ∈ lw_g := lwg_of (List.mem_of_getElem? (i := 204) (by decide +kernel)) (by decide +kernel)
set_option maxRecDepth 100000 in
theorem wK_205 : Cond.methodLink RX0 3 objectInit ∈ lw_g := lwg_of (List.mem_of_getElem? (i := 205) (by decide +kernel)) (by decide +kernel)
set_option maxRecDepth 100000 in
theorem wK_206 : Cond.classLink RX0 9 RX7 ∈ lw_g := lwg_of (List.mem_of_getElem? (i := 206) (by decide +kernel)) (by decide +kernel)
set_option maxRecDepth 100000 in
theorem wK_207 : Cond.instantiable RX7 3 ∈ lw_g := lwg_of (List.mem_of_getElem? (i := 207) (by decide +kernel)) (by decide +kernel)
set_option maxRecDepth 100000 in
theorem wK_209 : Cond.instanceMethod yX7_init ∈ lw_g := lwg_of (List.mem_of_getElem? (i := 209) (by decide +kernel)) (by decide +kernel)
set_option maxRecDepth 100000 in
theorem wK_210 : Cond.code yX7_init cX7_init 1 none ∈ lw_g := lwg_of (List.mem_of_getElem? (i := 210) (by decide +kernel)) (by decide +kernel)
set_option maxRecDepth 100000 in
theorem wK_211 : Cond.methodLink RX7 3 objectInit ∈ lw_g := lwg_of (List.mem_of_getElem? (i := 211) (by decide +kernel)) (by decide +kernel)
set_option maxRecDepth 100000 in
theorem wK_212 : Cond.fieldLink RX7 9 RX7 (TX7 0).2.1 (TX7 0).2.2.1 ∈ lw_g := lwg_of (List.mem_of_getElem? (i := 212) (by decide +kernel)) (by decide +kernel)
set_option maxRecDepth 100000 in
theorem wK_215 : Cond.fieldLink RX7 15 RX7 (TX7 1).2.1 (TX7 1).2.2.1 ∈ lw_g := lwg_of (List.mem_of_getElem? (i := 215) (by decide +kernel)) (by decide +kernel)
set_option maxRecDepth 100000 in
theorem wK_217 : Cond.fieldLink RX7 19 RX7 (TX7 2).2.1 (TX7 2).2.2.1 ∈ lw_g := lwg_of (List.mem_of_getElem? (i := 217) (by decide +kernel)) (by decide +kernel)
set_option maxRecDepth 100000 in
theorem wK_291 : Cond.fieldLink RX0 12 RX0 (TX0 18).2.1 (TX0 18).2.2.1 ∈ lw_g := lwg_of (List.mem_of_getElem? (i := 291) (by decide +kernel)) (by decide +kernel)
set_option maxRecDepth 100000 in
theorem wK_334 : Cond.fieldLink RX3 9 RX3 (TX3 0).2.1 (TX3 0).2.2.1 ∈ lw_g := lwg_of (List.mem_of_getElem? (i := 334) (by decide +kernel)) (by decide +kernel)
set_option maxRecDepth 100000 in
theorem wK_338 : Cond.fieldLink RX3 15 RX3 (TX3 1).2.1 (TX3 1).2.2.1 ∈ lw_g := lwg_of (List.mem_of_getElem? (i := 338) (by decide +kernel)) (by decide +kernel)
set_option maxRecDepth 100000 in
theorem wK_340 : Cond.fieldLink RX3 18 RX3 (TX3 2).2.1 (TX3 2).2.2.1 ∈ lw_g := lwg_of (List.mem_of_getElem? (i := 340) (by decide +kernel)) (by decide +kernel)
set_option maxRecDepth 100000 in
theorem wK_343 : Cond.fieldLink RX3 21 RX3 (TX3 3).2.1 (TX3 3).2.2.1 ∈ lw_g := lwg_of (List.mem_of_getElem? (i := 343) (by decide +kernel)) (by decide +kernel)
set_option maxRecDepth 100000 in
theorem wK_346 : Cond.fieldLink RX3 25 RX3 (TX3 4).2.1 (TX3 4).2.2.1 ∈ lw_g := lwg_of (List.mem_of_getElem? (i := 346) (by decide +kernel)) (by decide +kernel)
set_option maxRecDepth 100000 in
theorem wK_348 : Cond.fieldLink RX3 28 RX3 (TX3 5).2.1 (TX3 5).2.2.1 ∈ lw_g := lwg_of (List.mem_of_getElem? (i := 348) (by decide +kernel)) (by decide +kernel)
set_option maxRecDepth 100000 in
theorem wK_351 : Cond.fieldLink RX3 34 RX3 (TX3 6).2.1 (TX3 6).2.2.1 ∈ lw_g := lwg_of (List.mem_of_getElem? (i := 351) (by decide +kernel)) (by decide +kernel)
set_option maxRecDepth 100000 in
theorem wK_355 : Cond.fieldLink RX3 38 RX3 (TX3 7).2.1 (TX3 7).2.2.1 ∈ lw_g := lwg_of (List.mem_of_getElem? (i := 355) (by decide +kernel)) (by decide +kernel)
set_option maxRecDepth 100000 in
theorem wK_358 : Cond.fieldLink RX3 41 RX3 (TX3 8).2.1 (TX3 8).2.2.1 ∈ lw_g := lwg_of (List.mem_of_getElem? (i := 358) (by decide +kernel)) (by decide +kernel)
set_option maxRecDepth 100000 in
theorem wK_361 : Cond.fieldLink RX3 44 RX3 (TX3 9).2.1 (TX3 9).2.2.1 ∈ lw_g := lwg_of (List.mem_of_getElem? (i := 361) (by decide +kernel)) (by decide +kernel)
set_option maxRecDepth 100000 in
theorem wK_364 : Cond.fieldLink RX3 49 RX3 (TX3 10).2.1 (TX3 10).2.2.1 ∈ lw_g := lwg_of (List.mem_of_getElem? (i := 364) (by decide +kernel)) (by decide +kernel)
set_option maxRecDepth 100000 in
theorem wK_368 : Cond.fieldLink RX3 53 RX3 (TX3 11).2.1 (TX3 11).2.2.1 ∈ lw_g := lwg_of (List.mem_of_getElem? (i := 368) (by decide +kernel)) (by decide +kernel)
set_option maxRecDepth 100000 in
theorem wK_372 : Cond.fieldLink RX3 56 RX3 (TX3 12).2.1 (TX3 12).2.2.1 ∈ lw_g := lwg_of (List.mem_of_getElem? (i := 372) (by decide +kernel)) (by decide +kernel)
set_option maxRecDepth 100000 in
theorem wK_374 : Cond.fieldLink RX3 59 RX3 (TX3 13).2.1 (TX3 13).2.2.1 ∈ lw_g := lwg_of (List.mem_of_getElem? (i := 374) (by decide +kernel)) (by decide +kernel)
set_option maxRecDepth 100000 in
theorem wK_377 : Cond.fieldLink RX3 62 RX3 (TX3 14).2.1 (TX3 14).2.2.1 ∈ lw_g := lwg_of (List.mem_of_getElem? (i := 377) (by decide +kernel)) (by decide +kernel)
set_option maxRecDepth 100000 in
theorem wK_379 : Cond.fieldLink RX3 67 RX3 (TX3 15).2.1 (TX3 15).2.2.1 ∈ lw_g := lwg_of (List.mem_of_getElem? (i := 379) (by decide +kernel)) (by decide +kernel)
set_option maxRecDepth 100000 in
theorem wK_413 : Cond.classLink RX10 26 RX6 ∈ lw_g := lwg_of (List.mem_of_getElem? (i := 413) (by decide +kernel)) (by decide +kernel)
set_option maxRecDepth 100000 in
theorem wK_414 : Cond.instantiable RX6 9 ∈ lw_g := lwg_of (List.mem_of_getElem? (i := 414) (by decide +kernel)) (by decide +kernel)
set_option maxRecDepth 100000 in
theorem wK_416 : Cond.instanceMethod yX6_init ∈ lw_g := lwg_of (List.mem_of_getElem? (i := 416) (by decide +kernel)) (by decide +kernel)
set_option maxRecDepth 100000 in
theorem wK_417 : Cond.code yX6_init cX6_init 1 none ∈ lw_g := lwg_of (List.mem_of_getElem? (i := 417) (by decide +kernel)) (by decide +kernel)
set_option maxRecDepth 100000 in
theorem wK_418 : Cond.methodLink RX6 3 objectInit ∈ lw_g := lwg_of (List.mem_of_getElem? (i := 418) (by decide +kernel)) (by decide +kernel)
set_option maxRecDepth 100000 in
theorem wK_419 : Cond.fieldLink RX6 9 RX6 (TX6 0).2.1 (TX6 0).2.2.1 ∈ lw_g := lwg_of (List.mem_of_getElem? (i := 419) (by decide +kernel)) (by decide +kernel)
set_option maxRecDepth 100000 in
theorem wK_420 : Cond.fieldLink RX6 15 RX6 (TX6 1).2.1 (TX6 1).2.2.1 ∈ lw_g := lwg_of (List.mem_of_getElem? (i := 420) (by decide +kernel)) (by decide +kernel)
set_option maxRecDepth 100000 in
theorem wK_421 : Cond.fieldLink RX6 18 RX6 (TX6 2).2.1 (TX6 2).2.2.1 ∈ lw_g := lwg_of (List.mem_of_getElem? (i := 421) (by decide +kernel)) (by decide +kernel)
set_option maxRecDepth 100000 in
theorem wK_422 : Cond.fieldLink RX6 21 RX6 (TX6 3).2.1 (TX6 3).2.2.1 ∈ lw_g := lwg_of (List.mem_of_getElem? (i := 422) (by decide +kernel)) (by decide +kernel)
set_option maxRecDepth 100000 in
theorem wK_423 : Cond.fieldLink RX6 25 RX6 (TX6 4).2.1 (TX6 4).2.2.1 ∈ lw_g := lwg_of (List.mem_of_getElem? (i := 423) (by decide +kernel)) (by decide +kernel)
set_option maxRecDepth 100000 in
theorem wK_424 : Cond.fieldLink RX6 28 RX6 (TX6 5).2.1 (TX6 5).2.2.1 ∈ lw_g := lwg_of (List.mem_of_getElem? (i := 424) (by decide +kernel)) (by decide +kernel)
set_option maxRecDepth 100000 in
theorem wK_425 : Cond.fieldLink RX6 31 RX6 (TX6 6).2.1 (TX6 6).2.2.1 ∈ lw_g := lwg_of (List.mem_of_getElem? (i := 425) (by decide +kernel)) (by decide +kernel)
set_option maxRecDepth 100000 in
theorem wK_426 : Cond.fieldLink RX6 34 RX6 (TX6 7).2.1 (TX6 7).2.2.1 ∈ lw_g := lwg_of (List.mem_of_getElem? (i := 426) (by decide +kernel)) (by decide +kernel)
set_option maxRecDepth 100000 in
theorem wK_427 : Cond.fieldLink RX6 37 RX6 (TX6 8).2.1 (TX6 8).2.2.1 ∈ lw_g := lwg_of (List.mem_of_getElem? (i := 427) (by decide +kernel)) (by decide +kernel)
set_option maxRecDepth 100000 in
theorem wK_447 : Cond.classLink RX10 33 RX1 ∈ lw_g := lwg_of (List.mem_of_getElem? (i := 447) (by decide +kernel)) (by decide +kernel)
set_option maxRecDepth 100000 in
theorem wK_448 : Cond.instantiable RX1 2 ∈ lw_g := lwg_of (List.mem_of_getElem? (i := 448) (by decide +kernel)) (by decide +kernel)
set_option maxRecDepth 100000 in
theorem wK_450 : Cond.instanceMethod yX1_init ∈ lw_g := lwg_of (List.mem_of_getElem? (i := 450) (by decide +kernel)) (by decide +kernel)
set_option maxRecDepth 100000 in
theorem wK_451 : Cond.code yX1_init cX1_init 1 none ∈ lw_g := lwg_of (List.mem_of_getElem? (i := 451) (by decide +kernel)) (by decide +kernel)
set_option maxRecDepth 100000 in
theorem wK_452 : Cond.methodLink RX1 3 objectInit ∈ lw_g := lwg_of (List.mem_of_getElem? (i := 452) (by decide +kernel)) (by decide +kernel)
set_option maxRecDepth 100000 in
theorem wK_453 : Cond.fieldLink RX1 11 RX1 (TX1 0).2.1 (TX1 0).2.2.1 ∈ lw_g := lwg_of (List.mem_of_getElem? (i := 453) (by decide +kernel)) (by decide +kernel)
set_option maxRecDepth 100000 in
theorem wK_454 : Cond.fieldLink RX1 15 RX1 (TX1 1).2.1 (TX1 1).2.2.1 ∈ lw_g := lwg_of (List.mem_of_getElem? (i := 454) (by decide +kernel)) (by decide +kernel)
set_option maxRecDepth 100000 in
theorem wK_460 : Cond.arrayClass .long ∈ lw_g := lwg_of (List.mem_of_getElem? (i := 460) (by decide +kernel)) (by decide +kernel)
set_option maxRecDepth 100000 in
theorem wK_461 : Cond.classLink RX10 40 RX5 ∈ lw_g := lwg_of (List.mem_of_getElem? (i := 461) (by decide +kernel)) (by decide +kernel)
set_option maxRecDepth 100000 in
theorem wK_463 : Cond.classLink RX10 46 RX8 ∈ lw_g := lwg_of (List.mem_of_getElem? (i := 463) (by decide +kernel)) (by decide +kernel)
set_option maxRecDepth 100000 in
theorem wK_464 : Cond.instantiable RX8 11 ∈ lw_g := lwg_of (List.mem_of_getElem? (i := 464) (by decide +kernel)) (by decide +kernel)
set_option maxRecDepth 100000 in
theorem wK_466 : Cond.instanceMethod yX8_init ∈ lw_g := lwg_of (List.mem_of_getElem? (i := 466) (by decide +kernel)) (by decide +kernel)
set_option maxRecDepth 100000 in
theorem wK_467 : Cond.code yX8_init cX8_init 1 none ∈ lw_g := lwg_of (List.mem_of_getElem? (i := 467) (by decide +kernel)) (by decide +kernel)
set_option maxRecDepth 100000 in
theorem wK_468 : Cond.methodLink RX8 3 objectInit ∈ lw_g := lwg_of (List.mem_of_getElem? (i := 468) (by decide +kernel)) (by decide +kernel)
set_option maxRecDepth 100000 in
theorem wK_469 : Cond.fieldLink RX8 9 RX8 (TX8 0).2.1 (TX8 0).2.2.1 ∈ lw_g := lwg_of (List.mem_of_getElem? (i := 469) (by decide +kernel)) (by decide +kernel)
set_option maxRecDepth 100000 in
theorem wK_470 : Cond.fieldLink RX8 15 RX8 (TX8 1).2.1 (TX8 1).2.2.1 ∈ lw_g := lwg_of (List.mem_of_getElem? (i := 470) (by decide +kernel)) (by decide +kernel)
set_option maxRecDepth 100000 in
theorem wK_471 : Cond.fieldLink RX8 19 RX8 (TX8 2).2.1 (TX8 2).2.2.1 ∈ lw_g := lwg_of (List.mem_of_getElem? (i := 471) (by decide +kernel)) (by decide +kernel)
set_option maxRecDepth 100000 in
theorem wK_472 : Cond.fieldLink RX8 22 RX8 (TX8 3).2.1 (TX8 3).2.2.1 ∈ lw_g := lwg_of (List.mem_of_getElem? (i := 472) (by decide +kernel)) (by decide +kernel)
set_option maxRecDepth 100000 in
theorem wK_473 : Cond.fieldLink RX8 25 RX8 (TX8 4).2.1 (TX8 4).2.2.1 ∈ lw_g := lwg_of (List.mem_of_getElem? (i := 473) (by decide +kernel)) (by decide +kernel)
set_option maxRecDepth 100000 in
theorem wK_474 : Cond.fieldLink RX8 28 RX8 (TX8 5).2.1 (TX8 5).2.2.1 ∈ lw_g := lwg_of (List.mem_of_getElem? (i := 474) (by decide +kernel)) (by decide +kernel)
set_option maxRecDepth 100000 in
theorem wK_475 : Cond.fieldLink RX8 31 RX8 (TX8 6).2.1 (TX8 6).2.2.1 ∈ lw_g := lwg_of (List.mem_of_getElem? (i := 475) (by decide +kernel)) (by decide +kernel)
set_option maxRecDepth 100000 in
theorem wK_476 : Cond.fieldLink RX8 34 RX8 (TX8 7).2.1 (TX8 7).2.2.1 ∈ lw_g := lwg_of (List.mem_of_getElem? (i := 476) (by decide +kernel)) (by decide +kernel)
set_option maxRecDepth 100000 in
theorem wK_477 : Cond.fieldLink RX8 37 RX8 (TX8 8).2.1 (TX8 8).2.2.1 ∈ lw_g := lwg_of (List.mem_of_getElem? (i := 477) (by decide +kernel)) (by decide +kernel)
set_option maxRecDepth 100000 in
theorem wK_478 : Cond.fieldLink RX8 40 RX8 (TX8 9).2.1 (TX8 9).2.2.1 ∈ lw_g := lwg_of (List.mem_of_getElem? (i := 478) (by decide +kernel)) (by decide +kernel)
set_option maxRecDepth 100000 in
theorem wK_479 : Cond.fieldLink RX8 43 RX8 (TX8 10).2.1 (TX8 10).2.2.1 ∈ lw_g := lwg_of (List.mem_of_getElem? (i := 479) (by decide +kernel)) (by decide +kernel)
set_option maxRecDepth 100000 in
theorem wK_504 : Cond.classLink RX10 53 RX4 ∈ lw_g := lwg_of (List.mem_of_getElem? (i := 504) (by decide +kernel)) (by decide +kernel)
set_option maxRecDepth 100000 in
theorem wK_505 : Cond.instantiable RX4 4 ∈ lw_g := lwg_of (List.mem_of_getElem? (i := 505) (by decide +kernel)) (by decide +kernel)
set_option maxRecDepth 100000 in
theorem wK_507 : Cond.instanceMethod yX4_init ∈ lw_g := lwg_of (List.mem_of_getElem? (i := 507) (by decide +kernel)) (by decide +kernel)
set_option maxRecDepth 100000 in
theorem wK_508 : Cond.code yX4_init cX4_init 1 none ∈ lw_g := lwg_of (List.mem_of_getElem? (i := 508) (by decide +kernel)) (by decide +kernel)
set_option maxRecDepth 100000 in
theorem wK_509 : Cond.methodLink RX4 3 objectInit ∈ lw_g := lwg_of (List.mem_of_getElem? (i := 509) (by decide +kernel)) (by decide +kernel)
set_option maxRecDepth 100000 in
theorem wK_510 : Cond.fieldLink RX4 9 RX4 (TX4 0).2.1 (TX4 0).2.2.1 ∈ lw_g := lwg_of (List.mem_of_getElem? (i := 510) (by decide +kernel)) (by decide +kernel)
set_option maxRecDepth 100000 in
theorem wK_511 : Cond.fieldLink RX4 15 RX4 (TX4 1).2.1 (TX4 1).2.2.1 ∈ lw_g := lwg_of (List.mem_of_getElem? (i := 511) (by decide +kernel)) (by decide +kernel)
set_option maxRecDepth 100000 in
theorem wK_512 : Cond.fieldLink RX4 18 RX4 (TX4 2).2.1 (TX4 2).2.2.1 ∈ lw_g := lwg_of (List.mem_of_getElem? (i := 512) (by decide +kernel)) (by decide +kernel)
set_option maxRecDepth 100000 in
theorem wK_513 : Cond.fieldLink RX4 22 RX4 (TX4 3).2.1 (TX4 3).2.2.1 ∈ lw_g := lwg_of (List.mem_of_getElem? (i := 513) (by decide +kernel)) (by decide +kernel)
set_option maxRecDepth 100000 in
theorem wK_524 : Cond.instantiable RX5 5 ∈ lw_g := lwg_of (List.mem_of_getElem? (i := 524) (by decide +kernel)) (by decide +kernel)
set_option maxRecDepth 100000 in
theorem wK_526 : Cond.instanceMethod yX5_init ∈ lw_g := lwg_of (List.mem_of_getElem? (i := 526) (by decide +kernel)) (by decide +kernel)
set_option maxRecDepth 100000 in
theorem wK_527 : Cond.code yX5_init cX5_init 1 none ∈ lw_g := lwg_of (List.mem_of_getElem? (i := 527) (by decide +kernel)) (by decide +kernel)
set_option maxRecDepth 100000 in
theorem wK_528 : Cond.methodLink RX5 3 objectInit ∈ lw_g := lwg_of (List.mem_of_getElem? (i := 528) (by decide +kernel)) (by decide +kernel)
set_option maxRecDepth 100000 in
theorem wK_529 : Cond.classLink RX5 15 RX0 ∈ lw_g := lwg_of (List.mem_of_getElem? (i := 529) (by decide +kernel)) (by decide +kernel)
set_option maxRecDepth 100000 in
theorem wK_531 : Cond.fieldLink RX5 11 RX5 (TX5 0).2.1 (TX5 0).2.2.1 ∈ lw_g := lwg_of (List.mem_of_getElem? (i := 531) (by decide +kernel)) (by decide +kernel)
set_option maxRecDepth 100000 in
theorem wK_533 : Cond.fieldLink RX5 18 RX5 (TX5 1).2.1 (TX5 1).2.2.1 ∈ lw_g := lwg_of (List.mem_of_getElem? (i := 533) (by decide +kernel)) (by decide +kernel)
set_option maxRecDepth 100000 in
theorem wK_535 : Cond.fieldLink RX5 22 RX5 (TX5 2).2.1 (TX5 2).2.2.1 ∈ lw_g := lwg_of (List.mem_of_getElem? (i := 535) (by decide +kernel)) (by decide +kernel)
set_option maxRecDepth 100000 in
theorem wK_537 : Cond.fieldLink RX5 25 RX5 (TX5 3).2.1 (TX5 3).2.2.1 ∈ lw_g := lwg_of (List.mem_of_getElem? (i := 537) (by decide +kernel)) (by decide +kernel)
set_option maxRecDepth 100000 in
theorem wK_539 : Cond.fieldLink RX5 28 RX5 (TX5 4).2.1 (TX5 4).2.2.1 ∈ lw_g := lwg_of (List.mem_of_getElem? (i := 539) (by decide +kernel)) (by decide +kernel)
set_option maxRecDepth 100000 in
theorem wK_552 : Cond.fieldLink RX10 10 RX10 (TX10 0).2.1 (TX10 0).2.2.1 ∈ lw_g := lwg_of (List.mem_of_getElem? (i := 552) (by decide +kernel)) (by decide +kernel)
set_option maxRecDepth 100000 in
theorem wK_553 : Cond.fieldLink RX10 16 RX10 (TX10 1).2.1 (TX10 1).2.2.1 ∈ lw_g := lwg_of (List.mem_of_getElem? (i := 553) (by decide +kernel)) (by decide +kernel)
set_option maxRecDepth 100000 in
theorem wK_554 : Cond.fieldLink RX10 19 RX10 (TX10 2).2.1 (TX10 2).2.2.1 ∈ lw_g := lwg_of (List.mem_of_getElem? (i := 554) (by decide +kernel)) (by decide +kernel)
set_option maxRecDepth 100000 in
theorem wK_555 : Cond.fieldLink RX10 22 RX10 (TX10 3).2.1 (TX10 3).2.2.1 ∈ lw_g := lwg_of (List.mem_of_getElem? (i := 555) (by decide +kernel)) (by decide +kernel)
set_option maxRecDepth 100000 in
theorem wK_556 : Cond.fieldLink RX10 29 RX10 (TX10 4).2.1 (TX10 4).2.2.1 ∈ lw_g := lwg_of (List.mem_of_getElem? (i := 556) (by decide +kernel)) (by decide +kernel)
set_option maxRecDepth 100000 in
theorem wK_557 : Cond.fieldLink RX10 36 RX10 (TX10 5).2.1 (TX10 5).2.2.1 ∈ lw_g := lwg_of (List.mem_of_getElem? (i := 557) (by decide +kernel)) (by decide +kernel)
set_option maxRecDepth 100000 in
theorem wK_558 : Cond.fieldLink RX10 42 RX10 (TX10 6).2.1 (TX10 6).2.2.1 ∈ lw_g := lwg_of (List.mem_of_getElem? (i := 558) (by decide +kernel)) (by decide +kernel)
set_option maxRecDepth 100000 in
theorem wK_559 : Cond.fieldLink RX10 49 RX10 (TX10 7).2.1 (TX10 7).2.2.1 ∈ lw_g := lwg_of (List.mem_of_getElem? (i := 559) (by decide +kernel)) (by decide +kernel)
set_option maxRecDepth 100000 in
theorem wK_560 : Cond.fieldLink RX10 56 RX10 (TX10 8).2.1 (TX10 8).2.2.1 ∈ lw_g := lwg_of (List.mem_of_getElem? (i := 560) (by decide +kernel)) (by decide +kernel)
set_option maxRecDepth 100000 in
theorem wK_864 : Cond.arrayClass .byte ∈ lw_g := lwg_of (List.mem_of_getElem? (i := 864) (by decide +kernel)) (by decide +kernel)
set_option maxRecDepth 100000 in
theorem wK_1402 : Cond.methodLink RX11 1 objectInit ∈ lw_g := lwg_of (List.mem_of_getElem? (i := 1402) (by decide +kernel)) (by decide +kernel)
set_option maxRecDepth 100000 in
theorem wK_1403 : Cond.constant RX11 79 172840 ∈ lw_g := lwg_of (List.mem_of_getElem? (i := 1403) (by decide +kernel)) (by decide +kernel)
set_option maxRecDepth 100000 in
theorem wK_1405 : Cond.fieldLink RX11 7 RX11 (TX11 1).2.1 (TX11 1).2.2.1 ∈ lw_g := lwg_of (List.mem_of_getElem? (i := 1405) (by decide +kernel)) (by decide +kernel)
set_option maxRecDepth 100000 in
theorem wK_1406 : Cond.fieldLink RX11 13 RX11 (TX11 2).2.1 (TX11 2).2.2.1 ∈ lw_g := lwg_of (List.mem_of_getElem? (i := 1406) (by decide +kernel)) (by decide +kernel)
set_option maxRecDepth 100000 in
theorem wK_1407 : Cond.fieldLink RX11 16 RX11 (TX11 3).2.1 (TX11 3).2.2.1 ∈ lw_g := lwg_of (List.mem_of_getElem? (i := 1407) (by decide +kernel)) (by decide +kernel)
set_option maxRecDepth 100000 in
theorem wK_1409 : Cond.fieldLink RX11 19 RX11 (TX11 5).2.1 (TX11 5).2.2.1 ∈ lw_g := lwg_of (List.mem_of_getElem? (i := 1409) (by decide +kernel)) (by decide +kernel)
set_option maxRecDepth 100000 in
theorem wK_1410 : Cond.fieldLink RX11 22 RX11 (TX11 6).2.1 (TX11 6).2.2.1 ∈ lw_g := lwg_of (List.mem_of_getElem? (i := 1410) (by decide +kernel)) (by decide +kernel)
set_option maxRecDepth 100000 in
theorem wK_1411 : Cond.fieldLink RX11 25 RX11 (TX11 7).2.1 (TX11 7).2.2.1 ∈ lw_g := lwg_of (List.mem_of_getElem? (i := 1411) (by decide +kernel)) (by decide +kernel)
set_option maxRecDepth 100000 in
theorem wK_1412 : Cond.fieldLink RX11 28 RX11 (TX11 8).2.1 (TX11 8).2.2.1 ∈ lw_g := lwg_of (List.mem_of_getElem? (i := 1412) (by decide +kernel)) (by decide +kernel)
set_option maxRecDepth 100000 in
theorem wK_1413 : Cond.fieldLink RX11 31 RX11 (TX11 9).2.1 (TX11 9).2.2.1 ∈ lw_g := lwg_of (List.mem_of_getElem? (i := 1413) (by decide +kernel)) (by decide +kernel)
set_option maxRecDepth 100000 in
theorem wK_1414 : Cond.fieldLink RX11 34 RX11 (TX11 10).2.1 (TX11 10).2.2.1 ∈ lw_g := lwg_of (List.mem_of_getElem? (i := 1414) (by decide +kernel)) (by decide +kernel)
set_option maxRecDepth 100000 in
theorem wK_1415 : Cond.fieldLink RX11 37 RX11 (TX11 11).2.1 (TX11 11).2.2.1 ∈ lw_g := lwg_of (List.mem_of_getElem? (i := 1415) (by decide +kernel)) (by decide +kernel)
set_option maxRecDepth 100000 in
theorem wK_1416 : Cond.fieldLink RX11 40 RX11 (TX11 12).2.1 (TX11 12).2.2.1 ∈ lw_g := lwg_of (List.mem_of_getElem? (i := 1416) (by decide +kernel)) (by decide +kernel)
set_option maxRecDepth 100000 in
theorem wK_1417 : Cond.fieldLink RX11 43 RX11 (TX11 13).2.1 (TX11 13).2.2.1 ∈ lw_g := lwg_of (List.mem_of_getElem? (i := 1417) (by decide +kernel)) (by decide +kernel)
set_option maxRecDepth 100000 in
theorem wK_1418 : Cond.fieldLink RX11 46 RX11 (TX11 14).2.1 (TX11 14).2.2.1 ∈ lw_g := lwg_of (List.mem_of_getElem? (i := 1418) (by decide +kernel)) (by decide +kernel)
set_option maxRecDepth 100000 in
theorem wK_1419 : Cond.fieldLink RX11 49 RX11 (TX11 15).2.1 (TX11 15).2.2.1 ∈ lw_g := lwg_of (List.mem_of_getElem? (i := 1419) (by decide +kernel)) (by decide +kernel)
set_option maxRecDepth 100000 in
theorem wK_1420 : Cond.fieldLink RX11 52 RX11 (TX11 16).2.1 (TX11 16).2.2.1 ∈ lw_g := lwg_of (List.mem_of_getElem? (i := 1420) (by decide +kernel)) (by decide +kernel)
set_option maxRecDepth 100000 in
theorem wK_1421 : Cond.fieldLink RX11 55 RX11 (TX11 17).2.1 (TX11 17).2.2.1 ∈ lw_g := lwg_of (List.mem_of_getElem? (i := 1421) (by decide +kernel)) (by decide +kernel)
set_option maxRecDepth 100000 in
theorem wK_1422 : Cond.fieldLink RX11 58 RX11 (TX11 18).2.1 (TX11 18).2.2.1 ∈ lw_g := lwg_of (List.mem_of_getElem? (i := 1422) (by decide +kernel)) (by decide +kernel)
set_option maxRecDepth 100000 in
theorem wK_1423 : Cond.fieldLink RX11 61 RX11 (TX11 19).2.1 (TX11 19).2.2.1 ∈ lw_g := lwg_of (List.mem_of_getElem? (i := 1423) (by decide +kernel)) (by decide +kernel)
set_option maxRecDepth 100000 in
theorem wK_1424 : Cond.fieldLink RX11 64 RX11 (TX11 20).2.1 (TX11 20).2.2.1 ∈ lw_g := lwg_of (List.mem_of_getElem? (i := 1424) (by decide +kernel)) (by decide +kernel)
set_option maxRecDepth 100000 in
theorem wK_1425 : Cond.fieldLink RX11 67 RX11 (TX11 21).2.1 (TX11 21).2.2.1 ∈ lw_g := lwg_of (List.mem_of_getElem? (i := 1425) (by decide +kernel)) (by decide +kernel)
set_option maxRecDepth 100000 in
theorem wK_1426 : Cond.fieldLink RX11 70 RX11 (TX11 22).2.1 (TX11 22).2.2.1 ∈ lw_g := lwg_of (List.mem_of_getElem? (i := 1426) (by decide +kernel)) (by decide +kernel)
set_option maxRecDepth 100000 in
theorem wK_1427 : Cond.fieldLink RX11 73 RX11 (TX11 23).2.1 (TX11 23).2.2.1 ∈ lw_g := lwg_of (List.mem_of_getElem? (i := 1427) (by decide +kernel)) (by decide +kernel)
set_option maxRecDepth 100000 in
theorem wK_1428 : Cond.fieldLink RX11 76 RX11 (TX11 24).2.1 (TX11 24).2.2.1 ∈ lw_g := lwg_of (List.mem_of_getElem? (i := 1428) (by decide +kernel)) (by decide +kernel)
set_option maxRecDepth 100000 in
theorem wK_1429 : Cond.fieldLink RX11 80 RX11 (TX11 25).2.1 (TX11 25).2.2.1 ∈ lw_g := lwg_of (List.mem_of_getElem? (i := 1429) (by decide +kernel)) (by decide +kernel)
set_option maxRecDepth 100000 in
theorem wK_1431 : Cond.fieldLink RX11 84 RX11 (TX11 27).2.1 (TX11 27).2.2.1 ∈ lw_g := lwg_of (List.mem_of_getElem? (i := 1431) (by decide +kernel)) (by decide +kernel)
set_option maxRecDepth 100000 in
theorem wK_1432 : Cond.fieldLink RX11 87 RX11 (TX11 28).2.1 (TX11 28).2.2.1 ∈ lw_g := lwg_of (List.mem_of_getElem? (i := 1432) (by decide +kernel)) (by decide +kernel)
set_option maxRecDepth 100000 in
theorem wK_1441 : Cond.fieldLink RX11 91 RX11 (TX11 37).2.1 (TX11 37).2.2.1 ∈ lw_g := lwg_of (List.mem_of_getElem? (i := 1441) (by decide +kernel)) (by decide +kernel)
set_option maxRecDepth 100000 in
theorem wK_1443 : Cond.fieldLink RX11 95 RX11 (TX11 39).2.1 (TX11 39).2.2.1 ∈ lw_g := lwg_of (List.mem_of_getElem? (i := 1443) (by decide +kernel)) (by decide +kernel)
set_option maxRecDepth 100000 in
theorem wK_1445 : Cond.fieldLink RX11 98 RX11 (TX11 41).2.1 (TX11 41).2.2.1 ∈ lw_g := lwg_of (List.mem_of_getElem? (i := 1445) (by decide +kernel)) (by decide +kernel)
set_option maxRecDepth 100000 in
theorem wK_1446 : Cond.fieldLink RX11 101 RX11 (TX11 42).2.1 (TX11 42).2.2.1 ∈ lw_g := lwg_of (List.mem_of_getElem? (i := 1446) (by decide +kernel)) (by decide +kernel)
set_option maxRecDepth 100000 in
theorem wK_1447 : Cond.fieldLink RX11 104 RX11 (TX11 43).2.1 (TX11 43).2.2.1 ∈ lw_g := lwg_of (List.mem_of_getElem? (i := 1447) (by decide +kernel)) (by decide +kernel)
set_option maxRecDepth 100000 in
theorem wK_1450 : Cond.fieldLink RX11 107 RX11 (TX11 46).2.1 (TX11 46).2.2.1 ∈ lw_g := lwg_of (List.mem_of_getElem? (i := 1450) (by decide +kernel)) (by decide +kernel)
set_option maxRecDepth 100000 in
theorem wK_1451 : Cond.fieldLink RX11 110 RX11 (TX11 47).2.1 (TX11 47).2.2.1 ∈ lw_g := lwg_of (List.mem_of_getElem? (i := 1451) (by decide +kernel)) (by decide +kernel)
set_option maxRecDepth 100000 in
theorem wK_1452 : Cond.fieldLink RX11 113 RX11 (TX11 48).2.1 (TX11 48).2.2.1 ∈ lw_g := lwg_of (List.mem_of_getElem? (i := 1452) (by decide +kernel)) (by decide +kernel)
set_option maxRecDepth 100000 in
theorem wK_1453 : Cond.fieldLink RX11 116 RX11 (TX11 49).2.1 (TX11 49).2.2.1 ∈ lw_g := lwg_of (List.mem_of_getElem? (i := 1453) (by decide +kernel)) (by decide +kernel)
set_option maxRecDepth 100000 in
theorem wK_1454 : Cond.fieldLink RX11 119 RX11 (TX11 50).2.1 (TX11 50).2.2.1 ∈ lw_g := lwg_of (List.mem_of_getElem? (i := 1454) (by decide +kernel)) (by decide +kernel)
set_option maxRecDepth 100000 in
theorem wK_1455 : Cond.fieldLink RX11 122 RX11 (TX11 51).2.1 (TX11 51).2.2.1 ∈ lw_g := lwg_of (List.mem_of_getElem? (i := 1455) (by decide +kernel)) (by decide +kernel)
set_option maxRecDepth 100000 in
theorem wK_1456 : Cond.fieldLink RX11 125 RX11 (TX11 52).2.1 (TX11 52).2.2.1 ∈ lw_g := lwg_of (List.mem_of_getElem? (i := 1456) (by decide +kernel)) (by decide +kernel)
set_option maxRecDepth 100000 in
theorem wK_1457 : Cond.fieldLink RX11 128 RX11 (TX11 53).2.1 (TX11 53).2.2.1 ∈ lw_g := lwg_of (List.mem_of_getElem? (i := 1457) (by decide +kernel)) (by decide +kernel)
set_option maxRecDepth 100000 in
theorem wK_1458 : Cond.fieldLink RX11 131 RX11 (TX11 54).2.1 (TX11 54).2.2.1 ∈ lw_g := lwg_of (List.mem_of_getElem? (i := 1458) (by decide +kernel)) (by decide +kernel)
set_option maxRecDepth 100000 in
theorem wK_1459 : Cond.fieldLink RX11 134 RX11 (TX11 55).2.1 (TX11 55).2.2.1 ∈ lw_g := lwg_of (List.mem_of_getElem? (i := 1459) (by decide +kernel)) (by decide +kernel)
set_option maxRecDepth 100000 in
theorem wK_1460 : Cond.fieldLink RX11 137 RX11 (TX11 56).2.1 (TX11 56).2.2.1 ∈ lw_g := lwg_of (List.mem_of_getElem? (i := 1460) (by decide +kernel)) (by decide +kernel)
set_option maxRecDepth 100000 in
theorem wK_1461 : Cond.fieldLink RX11 140 RX11 (TX11 57).2.1 (TX11 57).2.2.1 ∈ lw_g := lwg_of (List.mem_of_getElem? (i := 1461) (by decide +kernel)) (by decide +kernel)
set_option maxRecDepth 100000 in
theorem wK_1462 : Cond.fieldLink RX11 144 RX11 (TX11 58).2.1 (TX11 58).2.2.1 ∈ lw_g := lwg_of (List.mem_of_getElem? (i := 1462) (by decide +kernel)) (by decide +kernel)
/-- an array of ints, filled -/
def leafM (g : Nat → Int32) : mM := (fun _ => g, fun _ _ => 0, 0)
def KF_3 (k : Nat) : Option Nat := if k < 1000 then chT 2 k else chT 5000040 (k - 1000)
def KF_10 (k : Nat) : Option Nat := if k < 1000 then chT 9 k else chT 6000008 (k - 1000)
theorem KFc_3 (j : Nat) : chT 5000040 j = if j < 40 then some 0 else none := rfl
theorem KFc_10 (j : Nat) : chT 6000008 j = if j < 8 then some 4 else none := rfl
theorem KFj_3 {j : Nat} (h : j < 40) : KF_3 (1000 + j) = some 0 := by
  unfold KF_3
  rw [if_neg (by omega), KFc_3, if_pos (by omega)]
theorem KFj_10 {j : Nat} (h : j < 8) : KF_10 (1000 + j) = some 4 := by
  unfold KF_10
  rw [if_neg (by omega), KFc_10, if_pos (by omega)]
def im7 : mM := memN (fun _ => 0) (fun _ => zeroM)
def im0 : mM := memN (fun _ => 0) (fun k => if k = 18 then im7 else zeroM)
def im9 : mM := memN (fun _ => 0) (fun _ => zeroM)
def imA3 : mM := memN (fun _ => 0) (fun _ => im0)
def im3 : mM := memN (fun _ => 0) (fun k => if k = 6 then im9 else if k = 10 then imA3 else if k = 7 then leafM (fun i => if 0 ≤ i ∧ i < 0 + 24 then 30 else (fun _ => 0) i) else if k = 8 then leafM (fun i => if 0 ≤ i ∧ i < 0 + 16 then (-1) else (fun _ => 0) i) else zeroM)
def im6 : mM := memN (fun k => if k = 7 then (-4) else 0) (fun _ => zeroM)
def im1 : mM := memN (fun _ => 0) (fun _ => zeroM)
def im8 : mM := memN (fun k => if k = 6 then 1 else if k = 10 then (-1) else 0) (fun _ => zeroM)
def im4 : mM := memN (fun k => if k = 1 then 1 else 0) (fun _ => zeroM)
def im5 : mM := memN (fun _ => 0) (fun k => if k = 1 then im0 else zeroM)
def imA10 : mM := memN (fun _ => 0) (fun _ => im5)
def im10 : mM := memN (fun _ => 0) (fun k => if k < 3 then im3 else if k = 4 then im6 else if k = 5 then im1 else if k = 6 then imA10 else if k = 7 then im8 else if k = 8 then im4 else zeroM)
def im11 : mM := memN (fun k => if k = 28 then (-1) else 0) (fun k => if k = 1 then leafM (fun i => if 180 ≤ i ∧ i < 180 + 16 then (-4) else ((fun i => if 150 ≤ i ∧ i < 150 + 24 then 30 else (fun _ => 0) i)) i) else zeroM)
end CtorW
