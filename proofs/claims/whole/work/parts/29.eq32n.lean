section Eqs
variable (L : Nat) (xs : Nat → Int32)
set_option maxRecDepth 2000000 in
set_option maxHeartbeats 4000000 in
theorem q_32_0 (p : List Nat) (a1 : Int32) (mem : mM) : call L xs 32 [vr 2 p, vi a1, vn] mem = (ltM ((uI mem.1 (15 :: p) (upd (mem.1 (15 :: p)) 0 ((mem.1 p 0) - (mem.1 p 0) / (1440 : Int32) * (1440 : Int32)))), mem.2) fun z1 => (ltM ((uI z1.1 (15 :: p) (upd (z1.1 (15 :: p)) 1 (((z1.1 p 0) / (60 : Int32)) - ((z1.1 p 0) / (60 : Int32)) / (24 : Int32) * (24 : Int32)))), z1.2) fun z2 => (ltM ((uI z2.1 (15 :: p) (upd (z2.1 (15 :: p)) 2 ((z2.1 p 0) / (1440 : Int32)))), z2.2) fun z3 => (run L xs 32 27 (44, [some (vr 2 p), some (vi a1), some (vn)], [vi a1, vk 3, vr 1000012 (15 :: p)], z3))))) := (call_sg L xs 33 32 [vr 2 p, vi a1, vn] mem).trans rfl
set_option maxRecDepth 2000000 in
set_option maxHeartbeats 4000000 in
theorem q_32_44 (p : List Nat) (a1 : Int32) (mem : mM) : run L xs 32 27 (44, [some (vr 2 p), some (vi a1), some (vn)], [vi a1, vk 3, vr 1000012 (15 :: p)], mem) = (bif cmpS .lt a1 0 then (run L xs 32 27 (59, [some (vr 2 p), some (vi a1), some (vn)], [vk 3, vr 1000012 (15 :: p)], mem)) else (run L xs 32 27 (47, [some (vr 2 p), some (vi a1), some (vn)], [vk 3, vr 1000012 (15 :: p)], mem))) := (run_sg L xs 1 32 27 44 [some (vr 2 p), some (vi a1), some (vn)] [vi a1, vk 3, vr 1000012 (15 :: p)] mem).trans rfl
set_option maxRecDepth 2000000 in
set_option maxHeartbeats 4000000 in
theorem q_32_47 (p : List Nat) (a1 : Int32) (mem : mM) : run L xs 32 27 (47, [some (vr 2 p), some (vi a1), some (vn)], [vk 3, vr 1000012 (15 :: p)], mem) = (bif inS a1 24 then (ltM ((uI mem.1 (15 :: p) (upd (mem.1 (15 :: p)) 3 (mem.1 (6 :: (6 :: p)) a1.toNatClampNeg))), mem.2) fun z1 => (run L xs 32 27 (67, [some (vr 2 p), some (vi a1), some (vn)], [vi a1, vk 4, vr 1000012 (15 :: p)], z1))) else none) := (run_sg L xs 11 32 27 47 [some (vr 2 p), some (vi a1), some (vn)] [vk 3, vr 1000012 (15 :: p)] mem).trans rfl
set_option maxRecDepth 2000000 in
set_option maxHeartbeats 4000000 in
theorem q_32_59 (p : List Nat) (a1 : Int32) (mem : mM) : run L xs 32 27 (59, [some (vr 2 p), some (vi a1), some (vn)], [vk 3, vr 1000012 (15 :: p)], mem) = (ltM ((uI mem.1 (15 :: p) (upd (mem.1 (15 :: p)) 3 (0 : Int32))), mem.2) fun z1 => (run L xs 32 27 (67, [some (vr 2 p), some (vi a1), some (vn)], [vi a1, vk 4, vr 1000012 (15 :: p)], z1))) := (run_sg L xs 6 32 27 59 [some (vr 2 p), some (vi a1), some (vn)] [vk 3, vr 1000012 (15 :: p)] mem).trans rfl
set_option maxRecDepth 2000000 in
set_option maxHeartbeats 4000000 in
theorem q_32_67 (p : List Nat) (a1 : Int32) (mem : mM) : run L xs 32 27 (67, [some (vr 2 p), some (vi a1), some (vn)], [vi a1, vk 4, vr 1000012 (15 :: p)], mem) = (bif cmpS .lt a1 0 then (run L xs 32 27 (82, [some (vr 2 p), some (vi a1), some (vn)], [vk 4, vr 1000012 (15 :: p)], mem)) else (run L xs 32 27 (70, [some (vr 2 p), some (vi a1), some (vn)], [vk 4, vr 1000012 (15 :: p)], mem))) := (run_sg L xs 1 32 27 67 [some (vr 2 p), some (vi a1), some (vn)] [vi a1, vk 4, vr 1000012 (15 :: p)] mem).trans rfl
set_option maxRecDepth 2000000 in
set_option maxHeartbeats 4000000 in
theorem q_32_70 (p : List Nat) (a1 : Int32) (mem : mM) : run L xs 32 27 (70, [some (vr 2 p), some (vi a1), some (vn)], [vk 4, vr 1000012 (15 :: p)], mem) = (bif inS a1 24 then (ltM ((uI mem.1 (15 :: p) (upd (mem.1 (15 :: p)) 4 (mem.1 (7 :: (6 :: p)) a1.toNatClampNeg))), mem.2) fun z1 => (run L xs 32 27 (84, [some (vr 2 p), some (vi a1), some (vn)], [], z1))) else none) := (run_sg L xs 7 32 27 70 [some (vr 2 p), some (vi a1), some (vn)] [vk 4, vr 1000012 (15 :: p)] mem).trans rfl
set_option maxRecDepth 2000000 in
set_option maxHeartbeats 4000000 in
theorem q_32_82 (p : List Nat) (a1 : Int32) (mem : mM) : run L xs 32 27 (82, [some (vr 2 p), some (vi a1), some (vn)], [vk 4, vr 1000012 (15 :: p)], mem) = (ltM ((uI mem.1 (15 :: p) (upd (mem.1 (15 :: p)) 4 (0 : Int32))), mem.2) fun z1 => (run L xs 32 27 (84, [some (vr 2 p), some (vi a1), some (vn)], [], z1))) := (run_sg L xs 2 32 27 82 [some (vr 2 p), some (vi a1), some (vn)] [vk 4, vr 1000012 (15 :: p)] mem).trans rfl
set_option maxRecDepth 2000000 in
set_option maxHeartbeats 4000000 in
theorem q_32_84 (p : List Nat) (a1 : Int32) (mem : mM) : run L xs 32 27 (84, [some (vr 2 p), some (vi a1), some (vn)], [], mem) = (ltM ((uI mem.1 (15 :: p) (upd (mem.1 (15 :: p)) 5 (0 : Int32))), mem.2) fun z1 => (ltM ((uI z1.1 (15 :: p) (upd (z1.1 (15 :: p)) 6 (0 : Int32))), z1.2) fun z2 => (ltM ((uI z2.1 (15 :: p) (upd (z2.1 (15 :: p)) 7 (0 : Int32))), z2.2) fun z3 => (ltM ((uI z3.1 (15 :: p) (upd (z3.1 (15 :: p)) 8 (0 : Int32))), z3.2) fun z4 => (ltM ((uI z4.1 (15 :: p) (upd (z4.1 (15 :: p)) 9 (0 : Int32))), z4.2) fun z5 => (ltM ((uI z5.1 (15 :: p) (upd (z5.1 (15 :: p)) 10 (0 : Int32))), z5.2) fun z6 => (bif inS (((z6.1 p 0) / (60 : Int32)) - ((z6.1 p 0) / (60 : Int32)) / (24 : Int32) * (24 : Int32)) 24 then (ltM ((uI z6.1 (15 :: p) (upd (z6.1 (15 :: p)) 11 (z6.1 (7 :: p) (((z6.1 p 0) / (60 : Int32)) - ((z6.1 p 0) / (60 : Int32)) / (24 : Int32) * (24 : Int32)).toNatClampNeg))), z6.2) fun z7 => some (some (vr 1000012 (15 :: p)), z7)) else none))))))) := (run_sg L xs 63 32 27 84 [some (vr 2 p), some (vi a1), some (vn)] [] mem).trans rfl
end Eqs
