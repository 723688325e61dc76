section Spc1
def RUE : String := "java/lang/UnsupportedOperationException"
def RSE : String := "java/lang/IllegalStateException"
def RAE : String := "java/lang/IllegalArgumentException"
def RRE : String := "java/lang/RuntimeException"
def REX : String := "java/lang/Exception"
def nmX : List String := [RRE, REX]
abbrev dX (C : String) : Cond := .declares (Bundle.initS C)
def XW (U : State) : Prop := (va_Nw (dX RRE) U ∧ va_Nw (dX REX) U ∧ va_Nw (dX Bundle.tN) U) ∧ (va_Nw (.castable RUE RUE) U ∧ va_Nw (.castable RSE RSE) U ∧ va_Nw (.castable RAE RAE) U) ∧ va_Nc RSE RUE U ∧ va_Nc RSE RAE U
def XT (A : Nat → Prop) (U : State) (H : Heap) : Prop := vx_Zq Bundle.tN "UNASSIGNED_STACK" Bundle.steD A U H ∧ vx_Zq Bundle.tN "SUPPRESSED_SENTINEL" Bundle.listD A U H
def XR (U : State) : Prop := (∃ a, vk_R RX0 86 "a train fails" a U) ∧ (∃ a, vk_R RX0 93 "a body fails" a U) ∧ (∃ a, vk_R RX10 393 "no such shelf" a U) ∧ (∃ a, vk_R RX10 400 "no row is held" a U) ∧ ∃ a, vk_R RX10 403 "no such place" a U
/-- what a throw needs of the state -/
def XF (A : Nat → Prop) (U : State) : Prop := XW U ∧ XT A U U.heap ∧ XR U
theorem XF.to {A B : Nat → Prop} {s U : State} {H : Heap} (h : XF A s) (hW : s.WarmedH U.vm) (hU : U.heap = H) (hk : ∀ a : Nat, a < s.heap.size → ¬ A a → H[a]? = s.heap[a]?) (hAB : ∀ q, B q → A q) : XF B U := by
  subst hU
  obtain ⟨⟨⟨w1, w2, w3⟩, ⟨w4, w5, w6⟩, w7, w8⟩, ⟨t1, t2⟩, ⟨a1, r1⟩, ⟨a2, r2⟩, ⟨a3, r3⟩, ⟨a4, r4⟩, a5, r5⟩ := h
  exact ⟨⟨⟨va_Nw.warmD hW w1, va_Nw.warmD hW w2, va_Nw.warmD hW w3⟩, ⟨va_Nw.warmC hW w4, va_Nw.warmC hW w5, va_Nw.warmC hW w6⟩, w7.moved hW.alike, w8.moved hW.alike⟩, ⟨vx_Zq.moved hW.alike ((t1.kept hk).narrow hAB), vx_Zq.moved hW.alike ((t2.kept hk).narrow hAB)⟩, ⟨a1, vk_R.warm hW r1⟩, ⟨a2, vk_R.warm hW r2⟩, ⟨a3, vk_R.warm hW r3⟩, ⟨a4, vk_R.warm hW r4⟩, a5, vk_R.warm hW r5⟩
theorem XF.call {A : Nat → Prop} {U : State} {g : JFrame} {mk : MethodId} {a : Array Value} (h : XF A U) : XF A (U.calling g mk a) := by
  obtain ⟨⟨⟨w1, w2, w3⟩, ⟨w4, w5, w6⟩, w7, w8⟩, ⟨t1, t2⟩, ⟨a1, r1⟩, ⟨a2, r2⟩, ⟨a3, r3⟩, ⟨a4, r4⟩, a5, r5⟩ := h
  exact ⟨⟨⟨va_Nw.same (u := U) rfl rfl w1, va_Nw.same (u := U) rfl rfl w2, va_Nw.same (u := U) rfl rfl w3⟩, ⟨va_Nw.same (u := U) rfl rfl w4, va_Nw.same (u := U) rfl rfl w5, va_Nw.same (u := U) rfl rfl w6⟩, va_Nc.moved (u := U) (U := U.calling g mk a) (Vm.Alike.refl U.vm) w7, va_Nc.moved (u := U) (U := U.calling g mk a) (Vm.Alike.refl U.vm) w8⟩, ⟨vx_Zq.moved (u := U) (U := U.calling g mk a) (Vm.Alike.refl U.vm) t1, vx_Zq.moved (u := U) (U := U.calling g mk a) (Vm.Alike.refl U.vm) t2⟩, ⟨a1, vk_R.same (u := U) rfl r1⟩, ⟨a2, vk_R.same (u := U) rfl r2⟩, ⟨a3, vk_R.same (u := U) rfl r3⟩, ⟨a4, vk_R.same (u := U) rfl r4⟩, a5, vk_R.same (u := U) rfl r5⟩
set_option maxRecDepth 100000 in
theorem XF_start {s : State} {args : Array Value} {A : Nat → Prop} (hts : ∀ w ∈ lw_tbl, w.before args s = true) (hgv : (Jvm.Cond.and given_1 narrow_1).before args s = true) (hA : ∀ a : Nat, a < s.heap.size → ¬ A a) : XF A s := by
  have hs := flat_of_before _ hgv
  obtain ⟨a86, _, _, _, q86, _⟩ := Cond.exactly_spec (args := args) (first := s) (o := none) (s := s) (idx := []) (t := .string RX0 86) (cls := "java/lang/String") (hs _ (by decide +kernel))
  obtain ⟨a93, _, _, _, q93, _⟩ := Cond.exactly_spec (args := args) (first := s) (o := none) (s := s) (idx := []) (t := .string RX0 93) (cls := "java/lang/String") (hs _ (by decide +kernel))
  obtain ⟨a393, _, _, _, q393, _⟩ := Cond.exactly_spec (args := args) (first := s) (o := none) (s := s) (idx := []) (t := .string RX10 393) (cls := "java/lang/String") (hs _ (by decide +kernel))
  obtain ⟨a400, _, _, _, q400, _⟩ := Cond.exactly_spec (args := args) (first := s) (o := none) (s := s) (idx := []) (t := .string RX10 400) (cls := "java/lang/String") (hs _ (by decide +kernel))
  obtain ⟨a403, _, _, _, q403, _⟩ := Cond.exactly_spec (args := args) (first := s) (o := none) (s := s) (idx := []) (t := .string RX10 403) (cls := "java/lang/String") (hs _ (by decide +kernel))
  exact ⟨⟨⟨va_Nw.of rfl (hts _ (List.mem_of_getElem? (i := 1290) (by decide +kernel))), va_Nw.of rfl (hts _ (List.mem_of_getElem? (i := 1292) (by decide +kernel))), va_Nw.of rfl (hts _ (List.mem_of_getElem? (i := 1294) (by decide +kernel)))⟩, ⟨va_Nw.of rfl (hts _ (List.mem_of_getElem? (i := 1288) (by decide +kernel))), va_Nw.of rfl (hts _ (List.mem_of_getElem? (i := 1355) (by decide +kernel))), va_Nw.of rfl (hts _ (List.mem_of_getElem? (i := 1380) (by decide +kernel)))⟩, va_Nc.of (hs _ (by decide +kernel)), va_Nc.of (hs _ (by decide +kernel))⟩,
    ⟨vx_Zqof (hts _ (List.mem_of_getElem? (i := 1313) (by decide +kernel))) (hts _ (List.mem_of_getElem? (i := 108) (by decide +kernel))) (hs _ (by decide +kernel)) hA, vx_Zqof (hts _ (List.mem_of_getElem? (i := 1315) (by decide +kernel))) (hts _ (List.mem_of_getElem? (i := 108) (by decide +kernel))) (hs _ (by decide +kernel)) hA⟩,
    ⟨a86, vk_R.of (hts _ (List.mem_of_getElem? (i := 1327) (by decide +kernel))) q86⟩, ⟨a93, vk_R.of (hts _ (List.mem_of_getElem? (i := 1362) (by decide +kernel))) q93⟩, ⟨a393, vk_R.of (hts _ (List.mem_of_getElem? (i := 1387) (by decide +kernel))) q393⟩, ⟨a400, vk_R.of (hts _ (List.mem_of_getElem? (i := 1394) (by decide +kernel))) q400⟩, a403, vk_R.of (hts _ (List.mem_of_getElem? (i := 1396) (by decide +kernel))) q403⟩
set_option maxRecDepth 100000 in
theorem hat_88 {s : State} {args : Array Value} (hts : ∀ w ∈ lw_g, w.before args s = true) (h : XW s) : ∀ w ∈ vx_atS RX0 88 RUE nmX, w.before args s = true :=
  vx_hat (B := [.castable RUE RUE, dX RRE, dX REX, dX Bundle.tN]) (fun w hw => hts w (lwg_of (mem_of_places (ps := [108, 1308, 1317, 1321, 1324, 1326, 1309, 1310, 120, 121, 1311, 1316, 1322, 1342, 1298, 1343, 1300, 1344, 1302, 1312, 1314, 1304, 1338, 1339, 1341, 1304, 1329, 1330, 1331, 1332, 1332, 1333, 1334, 1335, 1335, 1336, 1337, 1338, 1328, 1287, 1295, 1296, 1297, 1299, 1301, 1303, 1307, 1306, 1305]) (by decide +kernel) w hw) (List.mem_filter.mp hw).2)) (by decide +kernel)
    (vx_c (va_Nw.use rfl h.2.1.1) (vx_c (va_Nw.use rfl h.1.1) (vx_c (va_Nw.use rfl h.1.2.1) (vx_c (va_Nw.use rfl h.1.2.2) vx_n))))
set_option maxRecDepth 100000 in
theorem hat_95 {s : State} {args : Array Value} (hts : ∀ w ∈ lw_g, w.before args s = true) (h : XW s) : ∀ w ∈ vx_atS RX0 95 RSE nmX, w.before args s = true :=
  vx_hat (B := [.castable RSE RSE, dX RRE, dX REX, dX Bundle.tN]) (fun w hw => hts w (lwg_of (mem_of_places (ps := [108, 1308, 1317, 1321, 1324, 1326, 1309, 1310, 120, 121, 1311, 1316, 1322, 1342, 1298, 1343, 1300, 1344, 1302, 1312, 1314, 1304, 1338, 1339, 1341, 1304, 1364, 1365, 1366, 1332, 1332, 1333, 1334, 1335, 1335, 1336, 1337, 1338, 1363, 1354, 1356, 1320, 1357, 1358, 1359, 1360, 1307, 1306, 1361]) (by decide +kernel) w hw) (List.mem_filter.mp hw).2)) (by decide +kernel)
    (vx_c (va_Nw.use rfl h.2.1.2.1) (vx_c (va_Nw.use rfl h.1.1) (vx_c (va_Nw.use rfl h.1.2.1) (vx_c (va_Nw.use rfl h.1.2.2) vx_n))))
set_option maxRecDepth 100000 in
theorem hat_395 {s : State} {args : Array Value} (hts : ∀ w ∈ lw_g, w.before args s = true) (h : XW s) : ∀ w ∈ vx_atS RX10 395 RAE nmX, w.before args s = true :=
  vx_hat (B := [.castable RAE RAE, dX RRE, dX REX, dX Bundle.tN]) (fun w hw => hts w (lwg_of (mem_of_places (ps := [108, 1308, 1317, 1321, 1324, 1326, 1309, 1310, 120, 121, 1311, 1316, 1322, 1342, 1298, 1343, 1300, 1344, 1302, 1312, 1314, 1304, 1338, 1339, 1341, 1304, 1389, 1390, 1391, 1332, 1332, 1333, 1334, 1335, 1335, 1336, 1337, 1338, 1388, 1379, 1381, 1319, 1382, 1383, 1384, 1385, 1307, 1306, 1386]) (by decide +kernel) w hw) (List.mem_filter.mp hw).2)) (by decide +kernel)
    (vx_c (va_Nw.use rfl h.2.1.2.2) (vx_c (va_Nw.use rfl h.1.1) (vx_c (va_Nw.use rfl h.1.2.1) (vx_c (va_Nw.use rfl h.1.2.2) vx_n))))
set_option maxRecDepth 100000 in
theorem hat_402 {s : State} {args : Array Value} (hts : ∀ w ∈ lw_g, w.before args s = true) (h : XW s) : ∀ w ∈ vx_atS RX10 402 RSE nmX, w.before args s = true :=
  vx_hat (B := [.castable RSE RSE, dX RRE, dX REX, dX Bundle.tN]) (fun w hw => hts w (lwg_of (mem_of_places (ps := [108, 1308, 1317, 1321, 1324, 1326, 1309, 1310, 120, 121, 1311, 1316, 1322, 1342, 1298, 1343, 1300, 1344, 1302, 1312, 1314, 1304, 1338, 1339, 1341, 1304, 1364, 1365, 1366, 1332, 1332, 1333, 1334, 1335, 1335, 1336, 1337, 1338, 1395, 1354, 1356, 1320, 1357, 1358, 1359, 1360, 1307, 1306, 1361]) (by decide +kernel) w hw) (List.mem_filter.mp hw).2)) (by decide +kernel)
    (vx_c (va_Nw.use rfl h.2.1.2.1) (vx_c (va_Nw.use rfl h.1.1) (vx_c (va_Nw.use rfl h.1.2.1) (vx_c (va_Nw.use rfl h.1.2.2) vx_n))))
end Spc1
