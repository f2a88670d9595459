theorem dX5_island_52 : decode cX5_island 52 = .ok (.aload_n 3, 1) := by decide +kernel
theorem dX5_island_53 : decode cX5_island 53 = .ok (.iload_n 1, 1) := by decide +kernel
theorem dX5_island_54 : decode cX5_island 54 = .ok (.invokevirtual 121, 3) := by decide +kernel
theorem dX5_island_57 : decode cX5_island 57 = .ok (.ireturn, 1) := by decide +kernel
theorem dX5_island_58 : decode cX5_island 58 = .ok (.aload_n 3, 1) := by decide +kernel
theorem dX5_island_59 : decode cX5_island 59 = .ok (.iload_n 1, 1) := by decide +kernel
theorem dX5_island_60 : decode cX5_island 60 = .ok (.invokevirtual 124, 3) := by decide +kernel
theorem dX5_island_63 : decode cX5_island 63 = .ok (.ireturn, 1) := by decide +kernel
theorem dX5_island_64 : decode cX5_island 64 = .ok (.aload_n 3, 1) := by decide +kernel
theorem dX5_island_65 : decode cX5_island 65 = .ok (.iload_n 1, 1) := by decide +kernel
theorem dX5_island_66 : decode cX5_island 66 = .ok (.invokevirtual 127, 3) := by decide +kernel
theorem dX5_island_69 : decode cX5_island 69 = .ok (.ireturn, 1) := by decide +kernel
theorem dX5_island_70 : decode cX5_island 70 = .ok (.aload_n 0, 1) := by decide +kernel
theorem dX5_island_71 : decode cX5_island 71 = .ok (.getfield 39, 3) := by decide +kernel
theorem dX5_island_74 : decode cX5_island 74 = .ok (.iload_n 1, 1) := by decide +kernel
theorem dX5_island_75 : decode cX5_island 75 = .ok (.invokevirtual 128, 3) := by decide +kernel
theorem dX5_island_78 : decode cX5_island 78 = .ok (.ireturn, 1) := by decide +kernel
theorem dX5_island_79 : decode cX5_island 79 = .ok (.sipush (-1002), 3) := by decide +kernel
theorem dX5_island_82 : decode cX5_island 82 = .ok (.ireturn, 1) := by decide +kernel
theorem qX5_constant_r1 {w : Cond} (h : w ∈ wsX5_constant_r1) : w ∈ wsX5_constant := List.mem_cons_of_mem _ (List.mem_append_left _ (List.mem_append_left _ (List.mem_append_left _ (List.mem_append_left _ (List.mem_append_left _ (h))))))
theorem qX5_constant_r2 {w : Cond} (h : w ∈ wsX5_constant_r2) : w ∈ wsX5_constant := List.mem_cons_of_mem _ (List.mem_append_left _ (List.mem_append_left _ (List.mem_append_left _ (List.mem_append_left _ (List.mem_append_right _ (List.mem_append_left _ (h)))))))
theorem qX5_constant_r3 {w : Cond} (h : w ∈ wsX5_constant_r3) : w ∈ wsX5_constant := List.mem_cons_of_mem _ (List.mem_append_left _ (List.mem_append_left _ (List.mem_append_left _ (List.mem_append_left _ (List.mem_append_right _ (List.mem_append_right _ (h)))))))
set_option maxRecDepth 20000 in
theorem ggX5_constant_X4_has : GoodIn wsX5_constant wsX4_has := goodIn_sub (fm_c (qX5_constant_r1 (mg 5 rfl)) (ms_a (fm_c (qX5_constant_r1 (mg 6 rfl)) (fm_c (qX5_constant_r1 (mg 7 rfl)) (fm_n))) (fun _ h => List.mem_cons_of_mem _ (List.mem_append_left _ (List.mem_append_right _ (h)))))) (by decide +kernel)
set_option maxRecDepth 20000 in
theorem gX5_constant_X4_has : GoodIn wsX5_constant (wsV RX5 118 RX4 yX4_has wsX4_has) := goodIn_app (goodIn_sub (fm_c (qX5_constant_r1 (mg 1 rfl)) (fm_c (qX5_constant_r1 (mg 2 rfl)) (fm_c (qX5_constant_r1 (mg 3 rfl)) (fm_c (qX5_constant_r1 (mg 4 rfl)) (fm_n))))) (by decide +kernel)) ggX5_constant_X4_has
set_option maxRecDepth 20000 in
theorem ggX5_constant_X4_nameOf : GoodIn wsX5_constant wsX4_nameOf := goodIn_sub (fm_c (qX5_constant_r1 (mg 11 rfl)) (ms_a (fm_c (qX5_constant_r1 (mg 7 rfl)) (fm_c (qX5_constant_r1 (mg 12 rfl)) (fm_c (qX5_constant_r1 (mg 2 rfl)) (fm_c (qX5_constant_r1 (mg 3 rfl)) (fm_c (qX5_constant_r1 (mg 4 rfl)) (fm_c (qX5_constant_r1 (mg 5 rfl)) (fm_c (qX5_constant_r1 (mg 6 rfl)) (fm_n)))))))) (fun _ h => List.mem_cons_of_mem _ (List.mem_append_left _ (List.mem_append_right _ (h)))))) (by decide +kernel)
set_option maxRecDepth 20000 in
theorem gX5_constant_X4_nameOf : GoodIn wsX5_constant (wsV RX5 121 RX4 yX4_nameOf wsX4_nameOf) := goodIn_app (goodIn_sub (fm_c (qX5_constant_r1 (mg 8 rfl)) (fm_c (qX5_constant_r1 (mg 9 rfl)) (fm_c (qX5_constant_r1 (mg 10 rfl)) (fm_c (qX5_constant_r1 (mg 4 rfl)) (fm_n))))) (by decide +kernel)) ggX5_constant_X4_nameOf
set_option maxRecDepth 20000 in
theorem ggX5_constant_X4_returnOf : GoodIn wsX5_constant wsX4_returnOf := goodIn_sub (fm_c (qX5_constant_r1 (mg 16 rfl)) (ms_a (fm_c (qX5_constant_r1 (mg 17 rfl)) (fm_c (qX5_constant_r1 (mg 12 rfl)) (fm_c (qX5_constant_r1 (mg 2 rfl)) (fm_c (qX5_constant_r1 (mg 3 rfl)) (fm_c (qX5_constant_r1 (mg 4 rfl)) (fm_c (qX5_constant_r1 (mg 5 rfl)) (fm_c (qX5_constant_r1 (mg 6 rfl)) (fm_c (qX5_constant_r1 (mg 7 rfl)) (fm_n))))))))) (fun _ h => List.mem_cons_of_mem _ (List.mem_append_left _ (List.mem_append_right _ (h)))))) (by decide +kernel)
set_option maxRecDepth 20000 in
theorem gX5_constant_X4_returnOf : GoodIn wsX5_constant (wsV RX5 124 RX4 yX4_returnOf wsX4_returnOf) := goodIn_app (goodIn_sub (fm_c (qX5_constant_r1 (mg 13 rfl)) (fm_c (qX5_constant_r1 (mg 14 rfl)) (fm_c (qX5_constant_r1 (mg 15 rfl)) (fm_c (qX5_constant_r1 (mg 4 rfl)) (fm_n))))) (by decide +kernel)) ggX5_constant_X4_returnOf
set_option maxRecDepth 20000 in
theorem ggX5_constant_X4_addressOf : GoodIn wsX5_constant wsX4_addressOf := goodIn_sub (fm_c (qX5_constant_r1 (mg 21 rfl)) (ms_a (fm_c (qX5_constant_r1 (mg 17 rfl)) (fm_c (qX5_constant_r1 (mg 22 rfl)) (fm_c (qX5_constant_r1 (mg 23 rfl)) (fm_c (qX5_constant_r1 (mg 12 rfl)) (fm_c (qX5_constant_r1 (mg 2 rfl)) (fm_c (qX5_constant_r1 (mg 3 rfl)) (fm_c (qX5_constant_r1 (mg 4 rfl)) (fm_c (qX5_constant_r1 (mg 5 rfl)) (fm_c (qX5_constant_r1 (mg 6 rfl)) (fm_c (qX5_constant_r1 (mg 7 rfl)) (fm_c (qX5_constant_r2 (mg 0 rfl)) (fm_c (qX5_constant_r2 (mg 1 rfl)) (fm_c (qX5_constant_r2 (mg 2 rfl)) (fm_n)))))))))))))) (fun _ h => List.mem_cons_of_mem _ (List.mem_append_left _ (List.mem_append_right _ (h)))))) (by decide +kernel)
set_option maxRecDepth 20000 in
theorem gX5_constant_X4_addressOf : GoodIn wsX5_constant (wsV RX5 127 RX4 yX4_addressOf wsX4_addressOf) := goodIn_app (goodIn_sub (fm_c (qX5_constant_r1 (mg 18 rfl)) (fm_c (qX5_constant_r1 (mg 19 rfl)) (fm_c (qX5_constant_r1 (mg 20 rfl)) (fm_c (qX5_constant_r1 (mg 4 rfl)) (fm_n))))) (by decide +kernel)) ggX5_constant_X4_addressOf
set_option maxRecDepth 20000 in
theorem ggX5_constant_X2_loadsOf : GoodIn wsX5_constant wsX2_loadsOf := goodIn_sub (fm_c (qX5_constant_r2 (mg 7 rfl)) (ms_a (ms_a (ms_a (ms_a (fm_c (qX5_constant_r2 (mg 8 rfl)) (fm_c (qX5_constant_r2 (mg 9 rfl)) (fm_c (qX5_constant_r2 (mg 10 rfl)) (fm_c (qX5_constant_r1 (mg 19 rfl)) (fm_c (qX5_constant_r1 (mg 20 rfl)) (fm_c (qX5_constant_r1 (mg 4 rfl)) (fm_c (qX5_constant_r1 (mg 21 rfl)) (fm_c (qX5_constant_r1 (mg 17 rfl)) (fm_c (qX5_constant_r1 (mg 22 rfl)) (fm_c (qX5_constant_r1 (mg 23 rfl)) (fm_c (qX5_constant_r1 (mg 12 rfl)) (fm_c (qX5_constant_r1 (mg 2 rfl)) (fm_c (qX5_constant_r1 (mg 3 rfl)) (fm_c (qX5_constant_r1 (mg 5 rfl)) (fm_c (qX5_constant_r1 (mg 6 rfl)) (fm_c (qX5_constant_r1 (mg 7 rfl)) (fm_c (qX5_constant_r2 (mg 0 rfl)) (fm_c (qX5_constant_r2 (mg 1 rfl)) (fm_c (qX5_constant_r2 (mg 2 rfl)) (fm_c (qX5_constant_r2 (mg 11 rfl)) (fm_c (qX5_constant_r2 (mg 12 rfl)) (fm_c (qX5_constant_r2 (mg 13 rfl)) (fm_c (qX5_constant_r2 (mg 14 rfl)) (fm_c (qX5_constant_r2 (mg 15 rfl)) (fm_n))))))))))))))))))))))))) (fm_c (qX5_constant_r2 (mg 16 rfl)) (fm_c (qX5_constant_r2 (mg 17 rfl)) (fm_c (qX5_constant_r2 (mg 18 rfl)) (fm_c (qX5_constant_r2 (mg 19 rfl)) (fm_c (qX5_constant_r2 (mg 20 rfl)) (fm_c (qX5_constant_r2 (mg 21 rfl)) (fm_c (qX5_constant_r2 (mg 22 rfl)) (fm_c (qX5_constant_r2 (mg 23 rfl)) (fm_c (qX5_constant_r3 (mg 0 rfl)) (fm_c (qX5_constant_r3 (mg 1 rfl)) (fm_c (qX5_constant_r3 (mg 2 rfl)) (fm_c (qX5_constant_r3 (mg 3 rfl)) (fm_c (qX5_constant_r3 (mg 4 rfl)) (fm_c (qX5_constant_r3 (mg 5 rfl)) (fm_c (qX5_constant_r2 (mg 6 rfl)) (fm_c (qX5_constant_r3 (mg 6 rfl)) (fm_c (qX5_constant_r3 (mg 7 rfl)) (fm_n))))))))))))))))))) (fun _ h => List.mem_cons_of_mem _ (List.mem_append_left _ (List.mem_append_left _ (List.mem_append_right _ (h)))))) (fun _ h => List.mem_cons_of_mem _ (List.mem_append_left _ (List.mem_append_right _ (h))))) (fun _ h => List.mem_cons_of_mem _ (List.mem_append_right _ (h))))) (by decide +kernel)
set_option maxRecDepth 20000 in
theorem gX5_constant_X2_loadsOf : GoodIn wsX5_constant (wsV RX5 134 RX2 yX2_loadsOf wsX2_loadsOf) := goodIn_app (goodIn_sub (fm_c (qX5_constant_r2 (mg 3 rfl)) (fm_c (qX5_constant_r2 (mg 4 rfl)) (fm_c (qX5_constant_r2 (mg 5 rfl)) (fm_c (qX5_constant_r2 (mg 6 rfl)) (fm_n))))) (by decide +kernel)) ggX5_constant_X2_loadsOf
theorem dX5_constant_0 : decode cX5_constant 0 = .ok (.aload_n 0, 1) := by decide +kernel
theorem dX5_constant_1 : decode cX5_constant 1 = .ok (.getfield 39, 3) := by decide +kernel
theorem dX5_constant_4 : decode cX5_constant 4 = .ok (.getfield 131, 3) := by decide +kernel
theorem dX5_constant_7 : decode cX5_constant 7 = .ok (.astore_n 3, 1) := by decide +kernel
theorem dX5_constant_8 : decode cX5_constant 8 = .ok (.aload_n 3, 1) := by decide +kernel
theorem dX5_constant_9 : decode cX5_constant 9 = .ok (.iload_n 1, 1) := by decide +kernel
theorem dX5_constant_10 : decode cX5_constant 10 = .ok (.invokevirtual 118, 3) := by decide +kernel
theorem dX5_constant_13 : decode cX5_constant 13 = .ok (.ifCond .ne 7, 3) := by decide +kernel
theorem dX5_constant_16 : decode cX5_constant 16 = .ok (.sipush (-1001), 3) := by decide +kernel
theorem dX5_constant_19 : decode cX5_constant 19 = .ok (.ireturn, 1) := by decide +kernel
theorem dX5_constant_20 : decode cX5_constant 20 = .ok (.iload_n 2, 1) := by decide +kernel
theorem dX5_constant_21 : decode cX5_constant 21 = .ok (.tableswitch 58 0 3 #[31, 37, 43, 49], 31) := by decide +kernel
theorem dX5_constant_52 : decode cX5_constant 52 = .ok (.aload_n 3, 1) := by decide +kernel
theorem dX5_constant_53 : decode cX5_constant 53 = .ok (.iload_n 1, 1) := by decide +kernel
theorem dX5_constant_54 : decode cX5_constant 54 = .ok (.invokevirtual 121, 3) := by decide +kernel
theorem dX5_constant_57 : decode cX5_constant 57 = .ok (.ireturn, 1) := by decide +kernel
theorem dX5_constant_58 : decode cX5_constant 58 = .ok (.aload_n 3, 1) := by decide +kernel
theorem dX5_constant_59 : decode cX5_constant 59 = .ok (.iload_n 1, 1) := by decide +kernel
theorem dX5_constant_60 : decode cX5_constant 60 = .ok (.invokevirtual 124, 3) := by decide +kernel
theorem dX5_constant_63 : decode cX5_constant 63 = .ok (.ireturn, 1) := by decide +kernel
theorem dX5_constant_64 : decode cX5_constant 64 = .ok (.aload_n 3, 1) := by decide +kernel
theorem dX5_constant_65 : decode cX5_constant 65 = .ok (.iload_n 1, 1) := by decide +kernel
theorem dX5_constant_66 : decode cX5_constant 66 = .ok (.invokevirtual 127, 3) := by decide +kernel
theorem dX5_constant_69 : decode cX5_constant 69 = .ok (.ireturn, 1) := by decide +kernel
theorem dX5_constant_70 : decode cX5_constant 70 = .ok (.aload_n 0, 1) := by decide +kernel
theorem dX5_constant_71 : decode cX5_constant 71 = .ok (.getfield 39, 3) := by decide +kernel
theorem dX5_constant_74 : decode cX5_constant 74 = .ok (.iload_n 1, 1) := by decide +kernel
theorem dX5_constant_75 : decode cX5_constant 75 = .ok (.invokevirtual 134, 3) := by decide +kernel
theorem dX5_constant_78 : decode cX5_constant 78 = .ok (.ireturn, 1) := by decide +kernel
theorem dX5_constant_79 : decode cX5_constant 79 = .ok (.sipush (-1002), 3) := by decide +kernel
theorem dX5_constant_82 : decode cX5_constant 82 = .ok (.ireturn, 1) := by decide +kernel
theorem qX5_hops_r1 {w : Cond} (h : w ∈ wsX5_hops_r1) : w ∈ wsX5_hops := List.mem_cons_of_mem _ (List.mem_append_left _ (List.mem_append_left _ (List.mem_append_left _ (List.mem_append_left _ (List.mem_append_left _ (h))))))
theorem qX5_hops_r2 {w : Cond} (h : w ∈ wsX5_hops_r2) : w ∈ wsX5_hops := List.mem_cons_of_mem _ (List.mem_append_left _ (List.mem_append_left _ (List.mem_append_left _ (List.mem_append_left _ (List.mem_append_right _ (List.mem_append_left _ (h)))))))
theorem qX5_hops_r3 {w : Cond} (h : w ∈ wsX5_hops_r3) : w ∈ wsX5_hops := List.mem_cons_of_mem _ (List.mem_append_left _ (List.mem_append_left _ (List.mem_append_left _ (List.mem_append_left _ (List.mem_append_right _ (List.mem_append_right _ (List.mem_append_left _ (h))))))))
theorem qX5_hops_r4 {w : Cond} (h : w ∈ wsX5_hops_r4) : w ∈ wsX5_hops := List.mem_cons_of_mem _ (List.mem_append_left _ (List.mem_append_left _ (List.mem_append_left _ (List.mem_append_left _ (List.mem_append_right _ (List.mem_append_right _ (List.mem_append_right _ (h))))))))
set_option maxRecDepth 20000 in
theorem ggX5_hops_X0_has : GoodIn wsX5_hops wsX0_has := goodIn_sub (fm_c (qX5_hops_r1 (mg 6 rfl)) (ms_a (fm_c (qX5_hops_r1 (mg 7 rfl)) (fm_c (qX5_hops_r1 (mg 8 rfl)) (fm_c (qX5_hops_r1 (mg 9 rfl)) (fm_n)))) (fun _ h => List.mem_cons_of_mem _ (List.mem_append_left _ (List.mem_append_left _ (List.mem_append_right _ (h))))))) (by decide +kernel)
set_option maxRecDepth 20000 in
theorem gX5_hops_X0_has : GoodIn wsX5_hops (wsV RX5 88 RX0 yX0_has wsX0_has) := goodIn_app (goodIn_sub (fm_c (qX5_hops_r1 (mg 2 rfl)) (fm_c (qX5_hops_r1 (mg 3 rfl)) (fm_c (qX5_hops_r1 (mg 4 rfl)) (fm_c (qX5_hops_r1 (mg 5 rfl)) (fm_n))))) (by decide +kernel)) ggX5_hops_X0_has
set_option maxRecDepth 20000 in
theorem ggX5_hops_X0_kindOf : GoodIn wsX5_hops wsX0_kindOf := goodIn_sub (fm_c (qX5_hops_r1 (mg 13 rfl)) (ms_a (fm_c (qX5_hops_r1 (mg 8 rfl)) (fm_c (qX5_hops_r1 (mg 14 rfl)) (fm_c (qX5_hops_r1 (mg 3 rfl)) (fm_c (qX5_hops_r1 (mg 4 rfl)) (fm_c (qX5_hops_r1 (mg 5 rfl)) (fm_c (qX5_hops_r1 (mg 6 rfl)) (fm_c (qX5_hops_r1 (mg 7 rfl)) (fm_c (qX5_hops_r1 (mg 9 rfl)) (fm_n))))))))) (fun _ h => List.mem_cons_of_mem _ (List.mem_append_left _ (List.mem_append_left _ (List.mem_append_right _ (h))))))) (by decide +kernel)
set_option maxRecDepth 20000 in
theorem gX5_hops_X0_kindOf : GoodIn wsX5_hops (wsV RX5 91 RX0 yX0_kindOf wsX0_kindOf) := goodIn_app (goodIn_sub (fm_c (qX5_hops_r1 (mg 10 rfl)) (fm_c (qX5_hops_r1 (mg 11 rfl)) (fm_c (qX5_hops_r1 (mg 12 rfl)) (fm_c (qX5_hops_r1 (mg 5 rfl)) (fm_n))))) (by decide +kernel)) ggX5_hops_X0_kindOf
set_option maxRecDepth 20000 in
theorem ggX5_hops_X2_hopsFrom : GoodIn wsX5_hops wsX2_hopsFrom := goodIn_sub (fm_c (qX5_hops_r1 (mg 19 rfl)) (ms_a (ms_a (ms_a (ms_a (fm_c (qX5_hops_r1 (mg 20 rfl)) (fm_c (qX5_hops_r1 (mg 21 rfl)) (fm_c (qX5_hops_r1 (mg 22 rfl)) (fm_c (qX5_hops_r1 (mg 23 rfl)) (fm_c (qX5_hops_r2 (mg 0 rfl)) (fm_c (qX5_hops_r1 (mg 5 rfl)) (fm_c (qX5_hops_r2 (mg 1 rfl)) (fm_c (qX5_hops_r1 (mg 9 rfl)) (fm_c (qX5_hops_r1 (mg 14 rfl)) (fm_c (qX5_hops_r1 (mg 3 rfl)) (fm_c (qX5_hops_r1 (mg 4 rfl)) (fm_c (qX5_hops_r1 (mg 6 rfl)) (fm_c (qX5_hops_r1 (mg 7 rfl)) (fm_c (qX5_hops_r1 (mg 8 rfl)) (fm_c (qX5_hops_r2 (mg 2 rfl)) (fm_c (qX5_hops_r2 (mg 3 rfl)) (fm_c (qX5_hops_r2 (mg 4 rfl)) (fm_c (qX5_hops_r1 (mg 18 rfl)) (fm_c (qX5_hops_r2 (mg 5 rfl)) (fm_c (qX5_hops_r2 (mg 6 rfl)) (fm_c (qX5_hops_r2 (mg 7 rfl)) (fm_c (qX5_hops_r2 (mg 8 rfl)) (fm_c (qX5_hops_r2 (mg 9 rfl)) (fm_c (qX5_hops_r2 (mg 10 rfl)) (fm_n))))))))))))))))))))))))) (ms_a (fm_c (qX5_hops_r2 (mg 11 rfl)) (fm_c (qX5_hops_r2 (mg 12 rfl)) (fm_c (qX5_hops_r2 (mg 13 rfl)) (fm_c (qX5_hops_r2 (mg 14 rfl)) (fm_c (qX5_hops_r2 (mg 15 rfl)) (fm_c (qX5_hops_r2 (mg 16 rfl)) (fm_c (qX5_hops_r2 (mg 17 rfl)) (fm_c (qX5_hops_r2 (mg 18 rfl)) (fm_c (qX5_hops_r2 (mg 19 rfl)) (fm_c (qX5_hops_r2 (mg 20 rfl)) (fm_c (qX5_hops_r2 (mg 21 rfl)) (fm_c (qX5_hops_r2 (mg 22 rfl)) (fm_c (qX5_hops_r2 (mg 23 rfl)) (fm_c (qX5_hops_r3 (mg 0 rfl)) (fm_c (qX5_hops_r3 (mg 1 rfl)) (fm_c (qX5_hops_r3 (mg 2 rfl)) (fm_c (qX5_hops_r3 (mg 3 rfl)) (fm_c (qX5_hops_r3 (mg 4 rfl)) (fm_c (qX5_hops_r3 (mg 5 rfl)) (fm_c (qX5_hops_r3 (mg 6 rfl)) (fm_c (qX5_hops_r3 (mg 7 rfl)) (fm_c (qX5_hops_r3 (mg 8 rfl)) (fm_c (qX5_hops_r3 (mg 9 rfl)) (fm_c (qX5_hops_r3 (mg 10 rfl)) (fm_n))))))))))))))))))))))))) (fm_c (qX5_hops_r3 (mg 11 rfl)) (fm_c (qX5_hops_r3 (mg 12 rfl)) (fm_c (qX5_hops_r3 (mg 13 rfl)) (fm_c (qX5_hops_r3 (mg 14 rfl)) (fm_c (qX5_hops_r3 (mg 15 rfl)) (fm_c (qX5_hops_r3 (mg 16 rfl)) (fm_c (qX5_hops_r3 (mg 17 rfl)) (fm_c (qX5_hops_r3 (mg 18 rfl)) (fm_c (qX5_hops_r3 (mg 19 rfl)) (fm_c (qX5_hops_r3 (mg 20 rfl)) (fm_c (qX5_hops_r3 (mg 21 rfl)) (fm_c (qX5_hops_r3 (mg 22 rfl)) (fm_c (qX5_hops_r3 (mg 23 rfl)) (fm_c (qX5_hops_r4 (mg 0 rfl)) (fm_c (qX5_hops_r4 (mg 1 rfl)) (fm_c (qX5_hops_r4 (mg 2 rfl)) (fm_c (qX5_hops_r4 (mg 3 rfl)) (fm_c (qX5_hops_r4 (mg 4 rfl)) (fm_c (qX5_hops_r4 (mg 5 rfl)) (fm_c (qX5_hops_r4 (mg 6 rfl)) (fm_c (qX5_hops_r4 (mg 7 rfl)) (fm_c (qX5_hops_r4 (mg 8 rfl)) (fm_c (qX5_hops_r4 (mg 9 rfl)) (fm_c (qX5_hops_r4 (mg 10 rfl)) (fm_n))))))))))))))))))))))))))) (fun _ h => List.mem_cons_of_mem _ (List.mem_append_left _ (List.mem_append_right _ (h))))) (fun _ h => List.mem_cons_of_mem _ (List.mem_append_left _ (List.mem_append_left _ (List.mem_append_right _ (h)))))) (fun _ h => List.mem_cons_of_mem _ (List.mem_append_right _ (h))))) (by decide +kernel)
set_option maxRecDepth 20000 in
theorem gX5_hops_X2_hopsFrom : GoodIn wsX5_hops (wsV RX5 137 RX2 yX2_hopsFrom wsX2_hopsFrom) := goodIn_app (goodIn_sub (fm_c (qX5_hops_r1 (mg 15 rfl)) (fm_c (qX5_hops_r1 (mg 16 rfl)) (fm_c (qX5_hops_r1 (mg 17 rfl)) (fm_c (qX5_hops_r1 (mg 18 rfl)) (fm_n))))) (by decide +kernel)) ggX5_hops_X2_hopsFrom
theorem dX5_hops_0 : decode cX5_hops 0 = .ok (.aload_n 0, 1) := by decide +kernel
theorem dX5_hops_1 : decode cX5_hops 1 = .ok (.getfield 26, 3) := by decide +kernel
theorem dX5_hops_4 : decode cX5_hops 4 = .ok (.iload_n 1, 1) := by decide +kernel
theorem dX5_hops_5 : decode cX5_hops 5 = .ok (.invokevirtual 88, 3) := by decide +kernel
theorem dX5_hops_8 : decode cX5_hops 8 = .ok (.ifCond .ne 7, 3) := by decide +kernel
theorem dX5_hops_11 : decode cX5_hops 11 = .ok (.sipush (-1001), 3) := by decide +kernel
theorem dX5_hops_14 : decode cX5_hops 14 = .ok (.ireturn, 1) := by decide +kernel
theorem dX5_hops_15 : decode cX5_hops 15 = .ok (.aload_n 0, 1) := by decide +kernel
theorem dX5_hops_16 : decode cX5_hops 16 = .ok (.getfield 26, 3) := by decide +kernel
theorem dX5_hops_19 : decode cX5_hops 19 = .ok (.iload_n 1, 1) := by decide +kernel
theorem dX5_hops_20 : decode cX5_hops 20 = .ok (.invokevirtual 91, 3) := by decide +kernel
theorem dX5_hops_23 : decode cX5_hops 23 = .ok (.iconst 2, 1) := by decide +kernel
theorem dX5_hops_24 : decode cX5_hops 24 = .ok (.if_icmp .eq 7, 3) := by decide +kernel
theorem dX5_hops_27 : decode cX5_hops 27 = .ok (.sipush (-1003), 3) := by decide +kernel
theorem dX5_hops_30 : decode cX5_hops 30 = .ok (.ireturn, 1) := by decide +kernel
theorem dX5_hops_31 : decode cX5_hops 31 = .ok (.aload_n 0, 1) := by decide +kernel
theorem dX5_hops_32 : decode cX5_hops 32 = .ok (.getfield 39, 3) := by decide +kernel
theorem dX5_hops_35 : decode cX5_hops 35 = .ok (.iload_n 1, 1) := by decide +kernel
theorem dX5_hops_36 : decode cX5_hops 36 = .ok (.invokevirtual 137, 3) := by decide +kernel
theorem dX5_hops_39 : decode cX5_hops 39 = .ok (.ireturn, 1) := by decide +kernel
set_option maxRecDepth 20000 in
theorem ggX5_placed_X4_size : GoodIn wsX5_placed wsX4_size := goodIn_sub (fm_c (List.mem_cons_of_mem _ (List.mem_append_left _ (List.mem_append_left _ (List.mem_append_left _ (mg 5 rfl))))) (ms_a (fm_c (List.mem_cons_of_mem _ (List.mem_append_left _ (List.mem_append_left _ (List.mem_append_left _ (mg 6 rfl))))) (fm_n)) (fun _ h => List.mem_cons_of_mem _ (List.mem_append_right _ (h))))) (by decide +kernel)
set_option maxRecDepth 20000 in
theorem gX5_placed_X4_size : GoodIn wsX5_placed (wsV RX5 155 RX4 yX4_size wsX4_size) := goodIn_app (goodIn_sub (fm_c (List.mem_cons_of_mem _ (List.mem_append_left _ (List.mem_append_left _ (List.mem_append_left _ (mg 1 rfl))))) (fm_c (List.mem_cons_of_mem _ (List.mem_append_left _ (List.mem_append_left _ (List.mem_append_left _ (mg 2 rfl))))) (fm_c (List.mem_cons_of_mem _ (List.mem_append_left _ (List.mem_append_left _ (List.mem_append_left _ (mg 3 rfl))))) (fm_c (List.mem_cons_of_mem _ (List.mem_append_left _ (List.mem_append_left _ (List.mem_append_left _ (mg 4 rfl))))) (fm_n))))) (by decide +kernel)) ggX5_placed_X4_size
theorem dX5_placed_0 : decode cX5_placed 0 = .ok (.iload_n 1, 1) := by decide +kernel
theorem dX5_placed_1 : decode cX5_placed 1 = .ok (.tableswitch 137 0 8 #[51, 67, 75, 83, 91, 99, 107, 118, 129], 51) := by decide +kernel
theorem dX5_placed_52 : decode cX5_placed 52 = .ok (.aload_n 0, 1) := by decide +kernel
theorem dX5_placed_53 : decode cX5_placed 53 = .ok (.getfield 39, 3) := by decide +kernel
theorem dX5_placed_56 : decode cX5_placed 56 = .ok (.getfield 140, 3) := by decide +kernel
theorem dX5_placed_59 : decode cX5_placed 59 = .ok (.ifCond .ne 7, 3) := by decide +kernel
theorem dX5_placed_62 : decode cX5_placed 62 = .ok (.iconst 1, 1) := by decide +kernel
theorem dX5_placed_63 : decode cX5_placed 63 = .ok (.goto 4, 3) := by decide +kernel
theorem dX5_placed_66 : decode cX5_placed 66 = .ok (.iconst 0, 1) := by decide +kernel
theorem dX5_placed_67 : decode cX5_placed 67 = .ok (.ireturn, 1) := by decide +kernel
theorem dX5_placed_68 : decode cX5_placed 68 = .ok (.aload_n 0, 1) := by decide +kernel
theorem dX5_placed_69 : decode cX5_placed 69 = .ok (.getfield 39, 3) := by decide +kernel
theorem dX5_placed_72 : decode cX5_placed 72 = .ok (.getfield 143, 3) := by decide +kernel
theorem dX5_placed_75 : decode cX5_placed 75 = .ok (.ireturn, 1) := by decide +kernel
theorem dX5_placed_76 : decode cX5_placed 76 = .ok (.aload_n 0, 1) := by decide +kernel
theorem dX5_placed_77 : decode cX5_placed 77 = .ok (.getfield 39, 3) := by decide +kernel
theorem dX5_placed_80 : decode cX5_placed 80 = .ok (.getfield 146, 3) := by decide +kernel
theorem dX5_placed_83 : decode cX5_placed 83 = .ok (.ireturn, 1) := by decide +kernel
theorem dX5_placed_84 : decode cX5_placed 84 = .ok (.aload_n 0, 1) := by decide +kernel
theorem dX5_placed_85 : decode cX5_placed 85 = .ok (.getfield 39, 3) := by decide +kernel
theorem dX5_placed_88 : decode cX5_placed 88 = .ok (.getfield 149, 3) := by decide +kernel
theorem dX5_placed_91 : decode cX5_placed 91 = .ok (.ireturn, 1) := by decide +kernel
theorem dX5_placed_92 : decode cX5_placed 92 = .ok (.aload_n 0, 1) := by decide +kernel
theorem dX5_placed_93 : decode cX5_placed 93 = .ok (.getfield 39, 3) := by decide +kernel
theorem dX5_placed_96 : decode cX5_placed 96 = .ok (.getfield 140, 3) := by decide +kernel
theorem dX5_placed_99 : decode cX5_placed 99 = .ok (.ireturn, 1) := by decide +kernel
theorem dX5_placed_100 : decode cX5_placed 100 = .ok (.aload_n 0, 1) := by decide +kernel
theorem dX5_placed_101 : decode cX5_placed 101 = .ok (.getfield 39, 3) := by decide +kernel
theorem dX5_placed_104 : decode cX5_placed 104 = .ok (.getfield 152, 3) := by decide +kernel
theorem dX5_placed_107 : decode cX5_placed 107 = .ok (.ireturn, 1) := by decide +kernel
theorem dX5_placed_108 : decode cX5_placed 108 = .ok (.aload_n 0, 1) := by decide +kernel
theorem dX5_placed_109 : decode cX5_placed 109 = .ok (.getfield 39, 3) := by decide +kernel
theorem dX5_placed_112 : decode cX5_placed 112 = .ok (.getfield 114, 3) := by decide +kernel
theorem dX5_placed_115 : decode cX5_placed 115 = .ok (.invokevirtual 155, 3) := by decide +kernel
theorem dX5_placed_118 : decode cX5_placed 118 = .ok (.ireturn, 1) := by decide +kernel
theorem dX5_placed_119 : decode cX5_placed 119 = .ok (.aload_n 0, 1) := by decide +kernel
theorem dX5_placed_120 : decode cX5_placed 120 = .ok (.getfield 39, 3) := by decide +kernel
theorem dX5_placed_123 : decode cX5_placed 123 = .ok (.getfield 131, 3) := by decide +kernel
theorem dX5_placed_126 : decode cX5_placed 126 = .ok (.invokevirtual 155, 3) := by decide +kernel
theorem dX5_placed_129 : decode cX5_placed 129 = .ok (.ireturn, 1) := by decide +kernel
theorem dX5_placed_130 : decode cX5_placed 130 = .ok (.aload_n 0, 1) := by decide +kernel
theorem dX5_placed_131 : decode cX5_placed 131 = .ok (.getfield 39, 3) := by decide +kernel
theorem dX5_placed_134 : decode cX5_placed 134 = .ok (.getfield 156, 3) := by decide +kernel
theorem dX5_placed_137 : decode cX5_placed 137 = .ok (.ireturn, 1) := by decide +kernel
theorem dX5_placed_138 : decode cX5_placed 138 = .ok (.sipush (-1002), 3) := by decide +kernel
theorem dX5_placed_141 : decode cX5_placed 141 = .ok (.ireturn, 1) := by decide +kernel
set_option maxRecDepth 20000 in
theorem ggX5_count_X0_size : GoodIn wsX5_count wsX0_size := goodIn_sub (fm_c (List.mem_cons_of_mem _ (List.mem_append_left _ (List.mem_append_left _ (List.mem_append_left _ (mg 9 rfl))))) (ms_a (fm_c (List.mem_cons_of_mem _ (List.mem_append_left _ (List.mem_append_left _ (List.mem_append_left _ (mg 10 rfl))))) (fm_n)) (fun _ h => List.mem_cons_of_mem _ (List.mem_append_left _ (List.mem_append_right _ (h)))))) (by decide +kernel)
set_option maxRecDepth 20000 in
theorem gX5_count_X0_size : GoodIn wsX5_count (wsV RX5 76 RX0 yX0_size wsX0_size) := goodIn_app (goodIn_sub (fm_c (List.mem_cons_of_mem _ (List.mem_append_left _ (List.mem_append_left _ (List.mem_append_left _ (mg 5 rfl))))) (fm_c (List.mem_cons_of_mem _ (List.mem_append_left _ (List.mem_append_left _ (List.mem_append_left _ (mg 6 rfl))))) (fm_c (List.mem_cons_of_mem _ (List.mem_append_left _ (List.mem_append_left _ (List.mem_append_left _ (mg 7 rfl))))) (fm_c (List.mem_cons_of_mem _ (List.mem_append_left _ (List.mem_append_left _ (List.mem_append_left _ (mg 8 rfl))))) (fm_n))))) (by decide +kernel)) ggX5_count_X0_size
set_option maxRecDepth 20000 in
theorem ggX5_count_X1_length : GoodIn wsX5_count wsX1_length := goodIn_sub (fm_c (List.mem_cons_of_mem _ (List.mem_append_left _ (List.mem_append_left _ (List.mem_append_left _ (mg 15 rfl))))) (ms_a (fm_c (List.mem_cons_of_mem _ (List.mem_append_left _ (List.mem_append_left _ (List.mem_append_left _ (mg 16 rfl))))) (fm_n)) (fun _ h => List.mem_cons_of_mem _ (List.mem_append_right _ (h))))) (by decide +kernel)
set_option maxRecDepth 20000 in
theorem gX5_count_X1_length : GoodIn wsX5_count (wsV RX5 47 RX1 yX1_length wsX1_length) := goodIn_app (goodIn_sub (fm_c (List.mem_cons_of_mem _ (List.mem_append_left _ (List.mem_append_left _ (List.mem_append_left _ (mg 11 rfl))))) (fm_c (List.mem_cons_of_mem _ (List.mem_append_left _ (List.mem_append_left _ (List.mem_append_left _ (mg 12 rfl))))) (fm_c (List.mem_cons_of_mem _ (List.mem_append_left _ (List.mem_append_left _ (List.mem_append_left _ (mg 13 rfl))))) (fm_c (List.mem_cons_of_mem _ (List.mem_append_left _ (List.mem_append_left _ (List.mem_append_left _ (mg 14 rfl))))) (fm_n))))) (by decide +kernel)) ggX5_count_X1_length
set_option maxRecDepth 20000 in
theorem ggX5_count_X0_gaps : GoodIn wsX5_count wsX0_gaps := goodIn_sub (fm_c (List.mem_cons_of_mem _ (List.mem_append_left _ (List.mem_append_left _ (List.mem_append_left _ (mg 20 rfl))))) (ms_a (fm_c (List.mem_cons_of_mem _ (List.mem_append_left _ (List.mem_append_left _ (List.mem_append_left _ (mg 21 rfl))))) (fm_n)) (fun _ h => List.mem_cons_of_mem _ (List.mem_append_left _ (List.mem_append_right _ (h)))))) (by decide +kernel)
set_option maxRecDepth 20000 in
theorem gX5_count_X0_gaps : GoodIn wsX5_count (wsV RX5 159 RX0 yX0_gaps wsX0_gaps) := goodIn_app (goodIn_sub (fm_c (List.mem_cons_of_mem _ (List.mem_append_left _ (List.mem_append_left _ (List.mem_append_left _ (mg 17 rfl))))) (fm_c (List.mem_cons_of_mem _ (List.mem_append_left _ (List.mem_append_left _ (List.mem_append_left _ (mg 18 rfl))))) (fm_c (List.mem_cons_of_mem _ (List.mem_append_left _ (List.mem_append_left _ (List.mem_append_left _ (mg 19 rfl))))) (fm_c (List.mem_cons_of_mem _ (List.mem_append_left _ (List.mem_append_left _ (List.mem_append_left _ (mg 8 rfl))))) (fm_n))))) (by decide +kernel)) ggX5_count_X0_gaps
theorem dX5_count_0 : decode cX5_count 0 = .ok (.iload_n 1, 1) := by decide +kernel
theorem dX5_count_1 : decode cX5_count 1 = .ok (.tableswitch 102 0 7 #[47, 55, 63, 71, 78, 85, 92, 97], 47) := by decide +kernel
theorem dX5_count_48 : decode cX5_count 48 = .ok (.aload_n 0, 1) := by decide +kernel
theorem dX5_count_49 : decode cX5_count 49 = .ok (.getfield 26, 3) := by decide +kernel
theorem dX5_count_52 : decode cX5_count 52 = .ok (.invokevirtual 76, 3) := by decide +kernel
theorem dX5_count_55 : decode cX5_count 55 = .ok (.ireturn, 1) := by decide +kernel
theorem dX5_count_56 : decode cX5_count 56 = .ok (.aload_n 0, 1) := by decide +kernel
theorem dX5_count_57 : decode cX5_count 57 = .ok (.getfield 12, 3) := by decide +kernel
theorem dX5_count_60 : decode cX5_count 60 = .ok (.invokevirtual 47, 3) := by decide +kernel
theorem dX5_count_63 : decode cX5_count 63 = .ok (.ireturn, 1) := by decide +kernel
theorem dX5_count_64 : decode cX5_count 64 = .ok (.aload_n 0, 1) := by decide +kernel
theorem dX5_count_65 : decode cX5_count 65 = .ok (.getfield 26, 3) := by decide +kernel
theorem dX5_count_68 : decode cX5_count 68 = .ok (.invokevirtual 159, 3) := by decide +kernel
theorem dX5_count_71 : decode cX5_count 71 = .ok (.ireturn, 1) := by decide +kernel
theorem dX5_count_72 : decode cX5_count 72 = .ok (.aload_n 0, 1) := by decide +kernel
theorem dX5_count_73 : decode cX5_count 73 = .ok (.getfield 30, 3) := by decide +kernel
theorem dX5_count_76 : decode cX5_count 76 = .ok (.iconst 0, 1) := by decide +kernel
theorem dX5_count_77 : decode cX5_count 77 = .ok (.iaload, 1) := by decide +kernel
theorem dX5_count_78 : decode cX5_count 78 = .ok (.ireturn, 1) := by decide +kernel
theorem dX5_count_79 : decode cX5_count 79 = .ok (.aload_n 0, 1) := by decide +kernel
theorem dX5_count_80 : decode cX5_count 80 = .ok (.getfield 30, 3) := by decide +kernel
theorem dX5_count_83 : decode cX5_count 83 = .ok (.iconst 1, 1) := by decide +kernel
theorem dX5_count_84 : decode cX5_count 84 = .ok (.iaload, 1) := by decide +kernel
theorem dX5_count_85 : decode cX5_count 85 = .ok (.ireturn, 1) := by decide +kernel
theorem dX5_count_86 : decode cX5_count 86 = .ok (.aload_n 0, 1) := by decide +kernel
theorem dX5_count_87 : decode cX5_count 87 = .ok (.getfield 30, 3) := by decide +kernel
theorem dX5_count_90 : decode cX5_count 90 = .ok (.iconst 2, 1) := by decide +kernel
theorem dX5_count_91 : decode cX5_count 91 = .ok (.iaload, 1) := by decide +kernel
theorem dX5_count_92 : decode cX5_count 92 = .ok (.ireturn, 1) := by decide +kernel
theorem dX5_count_93 : decode cX5_count 93 = .ok (.aload_n 0, 1) := by decide +kernel
theorem dX5_count_94 : decode cX5_count 94 = .ok (.getfield 69, 3) := by decide +kernel
theorem dX5_count_97 : decode cX5_count 97 = .ok (.ireturn, 1) := by decide +kernel
theorem dX5_count_98 : decode cX5_count 98 = .ok (.aload_n 0, 1) := by decide +kernel
theorem dX5_count_99 : decode cX5_count 99 = .ok (.getfield 85, 3) := by decide +kernel
theorem dX5_count_102 : decode cX5_count 102 = .ok (.ireturn, 1) := by decide +kernel
theorem dX5_count_103 : decode cX5_count 103 = .ok (.sipush (-1002), 3) := by decide +kernel
theorem dX5_count_106 : decode cX5_count 106 = .ok (.ireturn, 1) := by decide +kernel
theorem qX5_digest_r1 {w : Cond} (h : w ∈ wsX5_digest_r1) : w ∈ wsX5_digest := List.mem_cons_of_mem _ (List.mem_append_left _ (List.mem_append_left _ (List.mem_append_left _ (List.mem_append_left _ (List.mem_append_left _ (List.mem_append_left _ (h)))))))
theorem qX5_digest_r2 {w : Cond} (h : w ∈ wsX5_digest_r2) : w ∈ wsX5_digest := List.mem_cons_of_mem _ (List.mem_append_left _ (List.mem_append_left _ (List.mem_append_left _ (List.mem_append_left _ (List.mem_append_left _ (List.mem_append_right _ (List.mem_append_left _ (h))))))))
theorem qX5_digest_r3 {w : Cond} (h : w ∈ wsX5_digest_r3) : w ∈ wsX5_digest := List.mem_cons_of_mem _ (List.mem_append_left _ (List.mem_append_left _ (List.mem_append_left _ (List.mem_append_left _ (List.mem_append_left _ (List.mem_append_right _ (List.mem_append_right _ (List.mem_append_left _ (h)))))))))
theorem qX5_digest_r4 {w : Cond} (h : w ∈ wsX5_digest_r4) : w ∈ wsX5_digest := List.mem_cons_of_mem _ (List.mem_append_left _ (List.mem_append_left _ (List.mem_append_left _ (List.mem_append_left _ (List.mem_append_left _ (List.mem_append_right _ (List.mem_append_right _ (List.mem_append_right _ (List.mem_append_left _ (h))))))))))
theorem qX5_digest_r5 {w : Cond} (h : w ∈ wsX5_digest_r5) : w ∈ wsX5_digest := List.mem_cons_of_mem _ (List.mem_append_left _ (List.mem_append_left _ (List.mem_append_left _ (List.mem_append_left _ (List.mem_append_left _ (List.mem_append_right _ (List.mem_append_right _ (List.mem_append_right _ (List.mem_append_right _ (List.mem_append_left _ (h)))))))))))
theorem qX5_digest_r6 {w : Cond} (h : w ∈ wsX5_digest_r6) : w ∈ wsX5_digest := List.mem_cons_of_mem _ (List.mem_append_left _ (List.mem_append_left _ (List.mem_append_left _ (List.mem_append_left _ (List.mem_append_left _ (List.mem_append_right _ (List.mem_append_right _ (List.mem_append_right _ (List.mem_append_right _ (List.mem_append_right _ (h)))))))))))
set_option maxRecDepth 20000 in
theorem ggX5_digest_X5_digestItems : GoodIn wsX5_digest wsX5_digestItems := goodIn_sub (fm_c (qX5_digest_r1 (mg 7 rfl)) (ms_a (ms_a (ms_a (ms_a (fm_c (qX5_digest_r1 (mg 8 rfl)) (fm_c (qX5_digest_r1 (mg 1 rfl)) (fm_c (qX5_digest_r1 (mg 9 rfl)) (fm_c (qX5_digest_r1 (mg 10 rfl)) (fm_c (qX5_digest_r1 (mg 11 rfl)) (fm_c (qX5_digest_r1 (mg 12 rfl)) (fm_c (qX5_digest_r1 (mg 13 rfl)) (fm_c (qX5_digest_r1 (mg 14 rfl)) (fm_c (qX5_digest_r1 (mg 15 rfl)) (fm_c (qX5_digest_r1 (mg 16 rfl)) (fm_c (qX5_digest_r1 (mg 17 rfl)) (fm_c (qX5_digest_r1 (mg 6 rfl)) (fm_c (qX5_digest_r1 (mg 18 rfl)) (fm_c (qX5_digest_r1 (mg 19 rfl)) (fm_c (qX5_digest_r1 (mg 20 rfl)) (fm_c (qX5_digest_r1 (mg 21 rfl)) (fm_c (qX5_digest_r1 (mg 22 rfl)) (fm_c (qX5_digest_r1 (mg 23 rfl)) (fm_c (qX5_digest_r2 (mg 0 rfl)) (fm_c (qX5_digest_r2 (mg 1 rfl)) (fm_c (qX5_digest_r2 (mg 2 rfl)) (fm_c (qX5_digest_r2 (mg 3 rfl)) (fm_c (qX5_digest_r2 (mg 4 rfl)) (fm_c (qX5_digest_r2 (mg 5 rfl)) (fm_n))))))))))))))))))))))))) (ms_a (fm_c (qX5_digest_r2 (mg 6 rfl)) (fm_c (qX5_digest_r2 (mg 7 rfl)) (fm_c (qX5_digest_r2 (mg 8 rfl)) (fm_c (qX5_digest_r2 (mg 9 rfl)) (fm_c (qX5_digest_r2 (mg 10 rfl)) (fm_c (qX5_digest_r2 (mg 11 rfl)) (fm_c (qX5_digest_r2 (mg 12 rfl)) (fm_c (qX5_digest_r2 (mg 13 rfl)) (fm_c (qX5_digest_r2 (mg 14 rfl)) (fm_c (qX5_digest_r2 (mg 15 rfl)) (fm_c (qX5_digest_r2 (mg 16 rfl)) (fm_c (qX5_digest_r2 (mg 17 rfl)) (fm_c (qX5_digest_r2 (mg 18 rfl)) (fm_c (qX5_digest_r2 (mg 19 rfl)) (fm_c (qX5_digest_r2 (mg 20 rfl)) (fm_c (qX5_digest_r2 (mg 21 rfl)) (fm_c (qX5_digest_r2 (mg 22 rfl)) (fm_c (qX5_digest_r2 (mg 23 rfl)) (fm_c (qX5_digest_r3 (mg 0 rfl)) (fm_c (qX5_digest_r3 (mg 1 rfl)) (fm_c (qX5_digest_r3 (mg 2 rfl)) (fm_c (qX5_digest_r3 (mg 3 rfl)) (fm_c (qX5_digest_r3 (mg 4 rfl)) (fm_c (qX5_digest_r3 (mg 5 rfl)) (fm_n))))))))))))))))))))))))) (fm_c (qX5_digest_r3 (mg 6 rfl)) (fm_c (qX5_digest_r3 (mg 7 rfl)) (fm_n))))) (fun _ h => List.mem_cons_of_mem _ (List.mem_append_left _ (List.mem_append_left _ (List.mem_append_left _ (List.mem_append_left _ (List.mem_append_right _ (h)))))))) (fun _ h => List.mem_cons_of_mem _ (List.mem_append_left _ (List.mem_append_left _ (List.mem_append_left _ (List.mem_append_right _ (h))))))) (fun _ h => List.mem_cons_of_mem _ (List.mem_append_left _ (List.mem_append_left _ (List.mem_append_right _ (h))))))) (by decide +kernel)
set_option maxRecDepth 20000 in
theorem gX5_digest_X5_digestItems : GoodIn wsX5_digest (wsV RX5 164 RX5 yX5_digestItems wsX5_digestItems) := goodIn_app (goodIn_sub (fm_c (qX5_digest_r1 (mg 3 rfl)) (fm_c (qX5_digest_r1 (mg 4 rfl)) (fm_c (qX5_digest_r1 (mg 5 rfl)) (fm_c (qX5_digest_r1 (mg 6 rfl)) (fm_n))))) (by decide +kernel)) ggX5_digest_X5_digestItems
set_option maxRecDepth 20000 in
theorem ggX5_digest_X5_digestIslands : GoodIn wsX5_digest wsX5_digestIslands := goodIn_sub (fm_c (qX5_digest_r3 (mg 11 rfl)) (ms_a (ms_a (ms_a (ms_a (fm_c (qX5_digest_r1 (mg 19 rfl)) (fm_c (qX5_digest_r1 (mg 1 rfl)) (fm_c (qX5_digest_r3 (mg 12 rfl)) (fm_c (qX5_digest_r3 (mg 13 rfl)) (fm_c (qX5_digest_r3 (mg 14 rfl)) (fm_c (qX5_digest_r3 (mg 15 rfl)) (fm_c (qX5_digest_r3 (mg 16 rfl)) (fm_c (qX5_digest_r3 (mg 17 rfl)) (fm_c (qX5_digest_r3 (mg 18 rfl)) (fm_c (qX5_digest_r3 (mg 19 rfl)) (fm_c (qX5_digest_r3 (mg 20 rfl)) (fm_c (qX5_digest_r1 (mg 6 rfl)) (fm_c (qX5_digest_r3 (mg 21 rfl)) (fm_c (qX5_digest_r3 (mg 22 rfl)) (fm_c (qX5_digest_r3 (mg 23 rfl)) (fm_c (qX5_digest_r4 (mg 0 rfl)) (fm_c (qX5_digest_r4 (mg 1 rfl)) (fm_c (qX5_digest_r4 (mg 2 rfl)) (fm_c (qX5_digest_r4 (mg 3 rfl)) (fm_c (qX5_digest_r4 (mg 4 rfl)) (fm_c (qX5_digest_r4 (mg 5 rfl)) (fm_c (qX5_digest_r4 (mg 6 rfl)) (fm_c (qX5_digest_r4 (mg 7 rfl)) (fm_c (qX5_digest_r4 (mg 8 rfl)) (fm_n))))))))))))))))))))))))) (fm_c (qX5_digest_r4 (mg 9 rfl)) (fm_c (qX5_digest_r4 (mg 10 rfl)) (fm_c (qX5_digest_r4 (mg 11 rfl)) (fm_c (qX5_digest_r4 (mg 12 rfl)) (fm_c (qX5_digest_r4 (mg 13 rfl)) (fm_c (qX5_digest_r4 (mg 14 rfl)) (fm_c (qX5_digest_r4 (mg 15 rfl)) (fm_c (qX5_digest_r4 (mg 16 rfl)) (fm_c (qX5_digest_r4 (mg 17 rfl)) (fm_c (qX5_digest_r4 (mg 18 rfl)) (fm_c (qX5_digest_r4 (mg 19 rfl)) (fm_c (qX5_digest_r4 (mg 20 rfl)) (fm_c (qX5_digest_r4 (mg 21 rfl)) (fm_c (qX5_digest_r4 (mg 22 rfl)) (fm_c (qX5_digest_r4 (mg 23 rfl)) (fm_c (qX5_digest_r5 (mg 0 rfl)) (fm_c (qX5_digest_r2 (mg 14 rfl)) (fm_c (qX5_digest_r5 (mg 1 rfl)) (fm_c (qX5_digest_r5 (mg 2 rfl)) (fm_n))))))))))))))))))))) (fun _ h => List.mem_cons_of_mem _ (List.mem_append_left _ (List.mem_append_left _ (List.mem_append_left _ (List.mem_append_left _ (List.mem_append_right _ (h)))))))) (fun _ h => List.mem_cons_of_mem _ (List.mem_append_left _ (List.mem_append_left _ (List.mem_append_right _ (h)))))) (fun _ h => List.mem_cons_of_mem _ (List.mem_append_left _ (List.mem_append_right _ (h)))))) (by decide +kernel)
set_option maxRecDepth 20000 in
theorem gX5_digest_X5_digestIslands : GoodIn wsX5_digest (wsV RX5 168 RX5 yX5_digestIslands wsX5_digestIslands) := goodIn_app (goodIn_sub (fm_c (qX5_digest_r3 (mg 8 rfl)) (fm_c (qX5_digest_r3 (mg 9 rfl)) (fm_c (qX5_digest_r3 (mg 10 rfl)) (fm_c (qX5_digest_r1 (mg 6 rfl)) (fm_n))))) (by decide +kernel)) ggX5_digest_X5_digestIslands
set_option maxRecDepth 20000 in
theorem ggX5_digest_X5_digestConstants : GoodIn wsX5_digest wsX5_digestConstants := goodIn_sub (fm_c (qX5_digest_r5 (mg 6 rfl)) (ms_a (ms_a (ms_a (ms_a (ms_a (fm_c (qX5_digest_r1 (mg 19 rfl)) (fm_c (qX5_digest_r1 (mg 1 rfl)) (fm_c (qX5_digest_r3 (mg 12 rfl)) (fm_c (qX5_digest_r3 (mg 13 rfl)) (fm_c (qX5_digest_r3 (mg 14 rfl)) (fm_c (qX5_digest_r3 (mg 15 rfl)) (fm_c (qX5_digest_r3 (mg 16 rfl)) (fm_c (qX5_digest_r3 (mg 17 rfl)) (fm_c (qX5_digest_r5 (mg 7 rfl)) (fm_c (qX5_digest_r5 (mg 8 rfl)) (fm_c (qX5_digest_r5 (mg 9 rfl)) (fm_c (qX5_digest_r1 (mg 6 rfl)) (fm_c (qX5_digest_r5 (mg 10 rfl)) (fm_c (qX5_digest_r3 (mg 22 rfl)) (fm_c (qX5_digest_r3 (mg 23 rfl)) (fm_c (qX5_digest_r4 (mg 0 rfl)) (fm_c (qX5_digest_r4 (mg 1 rfl)) (fm_c (qX5_digest_r4 (mg 2 rfl)) (fm_c (qX5_digest_r4 (mg 3 rfl)) (fm_c (qX5_digest_r4 (mg 4 rfl)) (fm_c (qX5_digest_r4 (mg 5 rfl)) (fm_c (qX5_digest_r4 (mg 6 rfl)) (fm_c (qX5_digest_r4 (mg 7 rfl)) (fm_c (qX5_digest_r4 (mg 8 rfl)) (fm_n))))))))))))))))))))))))) (ms_a (fm_c (qX5_digest_r4 (mg 9 rfl)) (fm_c (qX5_digest_r4 (mg 10 rfl)) (fm_c (qX5_digest_r4 (mg 11 rfl)) (fm_c (qX5_digest_r4 (mg 12 rfl)) (fm_c (qX5_digest_r4 (mg 13 rfl)) (fm_c (qX5_digest_r4 (mg 14 rfl)) (fm_c (qX5_digest_r4 (mg 15 rfl)) (fm_c (qX5_digest_r4 (mg 16 rfl)) (fm_c (qX5_digest_r4 (mg 17 rfl)) (fm_c (qX5_digest_r4 (mg 18 rfl)) (fm_c (qX5_digest_r4 (mg 19 rfl)) (fm_c (qX5_digest_r4 (mg 20 rfl)) (fm_c (qX5_digest_r4 (mg 21 rfl)) (fm_c (qX5_digest_r5 (mg 11 rfl)) (fm_c (qX5_digest_r5 (mg 12 rfl)) (fm_c (qX5_digest_r5 (mg 13 rfl)) (fm_c (qX5_digest_r2 (mg 14 rfl)) (fm_c (qX5_digest_r5 (mg 14 rfl)) (fm_c (qX5_digest_r5 (mg 15 rfl)) (fm_c (qX5_digest_r5 (mg 16 rfl)) (fm_c (qX5_digest_r5 (mg 17 rfl)) (fm_c (qX5_digest_r5 (mg 18 rfl)) (fm_c (qX5_digest_r1 (mg 10 rfl)) (fm_c (qX5_digest_r1 (mg 11 rfl)) (fm_n))))))))))))))))))))))))) (fm_c (qX5_digest_r1 (mg 12 rfl)) (fm_c (qX5_digest_r1 (mg 13 rfl)) (fm_c (qX5_digest_r1 (mg 14 rfl)) (fm_c (qX5_digest_r5 (mg 19 rfl)) (fm_c (qX5_digest_r2 (mg 3 rfl)) (fm_c (qX5_digest_r2 (mg 4 rfl)) (fm_c (qX5_digest_r2 (mg 5 rfl)) (fm_c (qX5_digest_r2 (mg 0 rfl)) (fm_c (qX5_digest_r2 (mg 6 rfl)) (fm_c (qX5_digest_r1 (mg 21 rfl)) (fm_c (qX5_digest_r1 (mg 22 rfl)) (fm_c (qX5_digest_r1 (mg 23 rfl)) (fm_c (qX5_digest_r2 (mg 1 rfl)) (fm_c (qX5_digest_r5 (mg 20 rfl)) (fm_c (qX5_digest_r3 (mg 4 rfl)) (fm_c (qX5_digest_r3 (mg 5 rfl)) (fm_c (qX5_digest_r3 (mg 6 rfl)) (fm_c (qX5_digest_r3 (mg 7 rfl)) (fm_n))))))))))))))))))))) (fun _ h => List.mem_cons_of_mem _ (List.mem_append_left _ (List.mem_append_left _ (List.mem_append_left _ (List.mem_append_left _ (List.mem_append_right _ (h)))))))) (fun _ h => List.mem_cons_of_mem _ (List.mem_append_left _ (List.mem_append_left _ (List.mem_append_right _ (h)))))) (fun _ h => List.mem_cons_of_mem _ (List.mem_append_left _ (List.mem_append_right _ (h))))) (fun _ h => List.mem_cons_of_mem _ (List.mem_append_left _ (List.mem_append_left _ (List.mem_append_left _ (List.mem_append_right _ (h)))))))) (by decide +kernel)
set_option maxRecDepth 20000 in
theorem gX5_digest_X5_digestConstants : GoodIn wsX5_digest (wsV RX5 171 RX5 yX5_digestConstants wsX5_digestConstants) := goodIn_app (goodIn_sub (fm_c (qX5_digest_r5 (mg 3 rfl)) (fm_c (qX5_digest_r5 (mg 4 rfl)) (fm_c (qX5_digest_r5 (mg 5 rfl)) (fm_c (qX5_digest_r1 (mg 6 rfl)) (fm_n))))) (by decide +kernel)) ggX5_digest_X5_digestConstants
set_option maxRecDepth 20000 in
theorem ggX5_digest_X5_placed : GoodIn wsX5_digest wsX5_placed := goodIn_sub (fm_c (qX5_digest_r6 (mg 0 rfl)) (ms_a (ms_a (ms_a (fm_c (qX5_digest_r1 (mg 19 rfl)) (fm_c (qX5_digest_r3 (mg 12 rfl)) (fm_c (qX5_digest_r3 (mg 13 rfl)) (fm_c (qX5_digest_r3 (mg 14 rfl)) (fm_c (qX5_digest_r3 (mg 15 rfl)) (fm_c (qX5_digest_r3 (mg 16 rfl)) (fm_c (qX5_digest_r3 (mg 17 rfl)) (fm_n)))))))) (fun _ h => List.mem_cons_of_mem _ (List.mem_append_left _ (List.mem_append_left _ (List.mem_append_left _ (List.mem_append_left _ (List.mem_append_right _ (h)))))))) (fun _ h => List.mem_cons_of_mem _ (List.mem_append_left _ (List.mem_append_left _ (List.mem_append_right _ (h)))))) (fun _ h => List.mem_cons_of_mem _ (List.mem_append_left _ (List.mem_append_right _ (h)))))) (by decide +kernel)
set_option maxRecDepth 20000 in
theorem gX5_digest_X5_placed : GoodIn wsX5_digest (wsV RX5 176 RX5 yX5_placed wsX5_placed) := goodIn_app (goodIn_sub (fm_c (qX5_digest_r5 (mg 21 rfl)) (fm_c (qX5_digest_r5 (mg 22 rfl)) (fm_c (qX5_digest_r5 (mg 23 rfl)) (fm_c (qX5_digest_r1 (mg 6 rfl)) (fm_n))))) (by decide +kernel)) ggX5_digest_X5_placed
set_option maxRecDepth 20000 in
theorem ggX5_digest_X1_length : GoodIn wsX5_digest wsX1_length := goodIn_sub (fm_c (qX5_digest_r6 (mg 5 rfl)) (ms_a (fm_c (qX5_digest_r6 (mg 6 rfl)) (fm_n)) (fun _ h => List.mem_cons_of_mem _ (List.mem_append_right _ (h))))) (by decide +kernel)
set_option maxRecDepth 20000 in
theorem gX5_digest_X1_length : GoodIn wsX5_digest (wsV RX5 47 RX1 yX1_length wsX1_length) := goodIn_app (goodIn_sub (fm_c (qX5_digest_r6 (mg 1 rfl)) (fm_c (qX5_digest_r6 (mg 2 rfl)) (fm_c (qX5_digest_r6 (mg 3 rfl)) (fm_c (qX5_digest_r6 (mg 4 rfl)) (fm_n))))) (by decide +kernel)) ggX5_digest_X1_length
set_option maxRecDepth 20000 in
theorem ggX5_digest_X1_letterAt : GoodIn wsX5_digest wsX1_letterAt := goodIn_sub (fm_c (qX5_digest_r6 (mg 10 rfl)) (ms_a (fm_c (qX5_digest_r6 (mg 6 rfl)) (fm_c (qX5_digest_r6 (mg 11 rfl)) (fm_n))) (fun _ h => List.mem_cons_of_mem _ (List.mem_append_right _ (h))))) (by decide +kernel)
set_option maxRecDepth 20000 in
theorem gX5_digest_X1_letterAt : GoodIn wsX5_digest (wsV RX5 179 RX1 yX1_letterAt wsX1_letterAt) := goodIn_app (goodIn_sub (fm_c (qX5_digest_r6 (mg 7 rfl)) (fm_c (qX5_digest_r6 (mg 8 rfl)) (fm_c (qX5_digest_r6 (mg 9 rfl)) (fm_c (qX5_digest_r6 (mg 4 rfl)) (fm_n))))) (by decide +kernel)) ggX5_digest_X1_letterAt
set_option maxRecDepth 20000 in
theorem ggX5_digest_X5_count : GoodIn wsX5_digest wsX5_count := goodIn_sub (fm_c (qX5_digest_r6 (mg 15 rfl)) (ms_a (ms_a (ms_a (fm_c (qX5_digest_r1 (mg 8 rfl)) (fm_c (qX5_digest_r1 (mg 2 rfl)) (fm_c (qX5_digest_r6 (mg 16 rfl)) (fm_c (qX5_digest_r6 (mg 17 rfl)) (fm_c (qX5_digest_r6 (mg 18 rfl)) (fm_c (qX5_digest_r1 (mg 9 rfl)) (fm_c (qX5_digest_r1 (mg 10 rfl)) (fm_c (qX5_digest_r1 (mg 11 rfl)) (fm_c (qX5_digest_r1 (mg 12 rfl)) (fm_c (qX5_digest_r1 (mg 13 rfl)) (fm_c (qX5_digest_r1 (mg 14 rfl)) (fm_c (qX5_digest_r6 (mg 1 rfl)) (fm_c (qX5_digest_r6 (mg 2 rfl)) (fm_c (qX5_digest_r6 (mg 3 rfl)) (fm_c (qX5_digest_r6 (mg 4 rfl)) (fm_c (qX5_digest_r6 (mg 5 rfl)) (fm_c (qX5_digest_r6 (mg 6 rfl)) (fm_c (qX5_digest_r6 (mg 19 rfl)) (fm_c (qX5_digest_r6 (mg 20 rfl)) (fm_c (qX5_digest_r6 (mg 21 rfl)) (fm_c (qX5_digest_r6 (mg 22 rfl)) (fm_c (qX5_digest_r6 (mg 23 rfl)) (fm_n))))))))))))))))))))))) (fun _ h => List.mem_cons_of_mem _ (List.mem_append_left _ (List.mem_append_left _ (List.mem_append_left _ (List.mem_append_left _ (List.mem_append_right _ (h)))))))) (fun _ h => List.mem_cons_of_mem _ (List.mem_append_left _ (List.mem_append_left _ (List.mem_append_left _ (List.mem_append_right _ (h))))))) (fun _ h => List.mem_cons_of_mem _ (List.mem_append_right _ (h))))) (by decide +kernel)
set_option maxRecDepth 20000 in
theorem gX5_digest_X5_count : GoodIn wsX5_digest (wsV RX5 182 RX5 yX5_count wsX5_count) := goodIn_app (goodIn_sub (fm_c (qX5_digest_r6 (mg 12 rfl)) (fm_c (qX5_digest_r6 (mg 13 rfl)) (fm_c (qX5_digest_r6 (mg 14 rfl)) (fm_c (qX5_digest_r1 (mg 6 rfl)) (fm_n))))) (by decide +kernel)) ggX5_digest_X5_count
theorem dX5_digest_0 : decode cX5_digest 0 = .ok (.aload_n 0, 1) := by decide +kernel
theorem dX5_digest_1 : decode cX5_digest 1 = .ok (.ldc2_w 162, 3) := by decide +kernel
theorem dX5_digest_4 : decode cX5_digest 4 = .ok (.invokevirtual 164, 3) := by decide +kernel
theorem dX5_digest_7 : decode cX5_digest 7 = .ok (.lstore_n 1, 1) := by decide +kernel
theorem dX5_digest_8 : decode cX5_digest 8 = .ok (.aload_n 0, 1) := by decide +kernel
theorem dX5_digest_9 : decode cX5_digest 9 = .ok (.lload_n 1, 1) := by decide +kernel
theorem dX5_digest_10 : decode cX5_digest 10 = .ok (.invokevirtual 168, 3) := by decide +kernel
theorem dX5_digest_13 : decode cX5_digest 13 = .ok (.lstore_n 1, 1) := by decide +kernel
theorem dX5_digest_14 : decode cX5_digest 14 = .ok (.aload_n 0, 1) := by decide +kernel
theorem dX5_digest_15 : decode cX5_digest 15 = .ok (.lload_n 1, 1) := by decide +kernel
theorem dX5_digest_16 : decode cX5_digest 16 = .ok (.invokevirtual 171, 3) := by decide +kernel
theorem dX5_digest_19 : decode cX5_digest 19 = .ok (.lstore_n 1, 1) := by decide +kernel
theorem dX5_digest_20 : decode cX5_digest 20 = .ok (.iconst 0, 1) := by decide +kernel
theorem dX5_digest_21 : decode cX5_digest 21 = .ok (.istore_n 3, 1) := by decide +kernel
theorem dX5_digest_22 : decode cX5_digest 22 = .ok (.iload_n 3, 1) := by decide +kernel
theorem dX5_digest_23 : decode cX5_digest 23 = .ok (.bipush 9, 2) := by decide +kernel
theorem dX5_digest_25 : decode cX5_digest 25 = .ok (.if_icmp .ge 22, 3) := by decide +kernel
theorem dX5_digest_28 : decode cX5_digest 28 = .ok (.ldc2_w 174, 3) := by decide +kernel
theorem dX5_digest_31 : decode cX5_digest 31 = .ok (.lload_n 1, 1) := by decide +kernel
theorem dX5_digest_32 : decode cX5_digest 32 = .ok (.lmul, 1) := by decide +kernel
theorem dX5_digest_33 : decode cX5_digest 33 = .ok (.aload_n 0, 1) := by decide +kernel
theorem dX5_digest_34 : decode cX5_digest 34 = .ok (.iload_n 3, 1) := by decide +kernel
theorem dX5_digest_35 : decode cX5_digest 35 = .ok (.invokevirtual 176, 3) := by decide +kernel
theorem dX5_digest_38 : decode cX5_digest 38 = .ok (.i2l, 1) := by decide +kernel
theorem dX5_digest_39 : decode cX5_digest 39 = .ok (.ladd, 1) := by decide +kernel
theorem dX5_digest_40 : decode cX5_digest 40 = .ok (.lstore_n 1, 1) := by decide +kernel
theorem dX5_digest_41 : decode cX5_digest 41 = .ok (.iinc 3 1, 3) := by decide +kernel
theorem dX5_digest_44 : decode cX5_digest 44 = .ok (.goto (-22), 3) := by decide +kernel
theorem dX5_digest_47 : decode cX5_digest 47 = .ok (.iconst 0, 1) := by decide +kernel
theorem dX5_digest_48 : decode cX5_digest 48 = .ok (.istore_n 3, 1) := by decide +kernel
theorem dX5_digest_49 : decode cX5_digest 49 = .ok (.iload_n 3, 1) := by decide +kernel
theorem dX5_digest_50 : decode cX5_digest 50 = .ok (.aload_n 0, 1) := by decide +kernel
theorem dX5_digest_51 : decode cX5_digest 51 = .ok (.getfield 12, 3) := by decide +kernel
theorem dX5_digest_54 : decode cX5_digest 54 = .ok (.invokevirtual 47, 3) := by decide +kernel
theorem dX5_digest_57 : decode cX5_digest 57 = .ok (.if_icmp .ge 25, 3) := by decide +kernel
theorem dX5_digest_60 : decode cX5_digest 60 = .ok (.ldc2_w 174, 3) := by decide +kernel
theorem dX5_digest_63 : decode cX5_digest 63 = .ok (.lload_n 1, 1) := by decide +kernel
theorem dX5_digest_64 : decode cX5_digest 64 = .ok (.lmul, 1) := by decide +kernel
theorem dX5_digest_65 : decode cX5_digest 65 = .ok (.aload_n 0, 1) := by decide +kernel
theorem dX5_digest_66 : decode cX5_digest 66 = .ok (.getfield 12, 3) := by decide +kernel
theorem dX5_digest_69 : decode cX5_digest 69 = .ok (.iload_n 3, 1) := by decide +kernel
theorem dX5_digest_70 : decode cX5_digest 70 = .ok (.invokevirtual 179, 3) := by decide +kernel
theorem dX5_digest_73 : decode cX5_digest 73 = .ok (.i2l, 1) := by decide +kernel
theorem dX5_digest_74 : decode cX5_digest 74 = .ok (.ladd, 1) := by decide +kernel
theorem dX5_digest_75 : decode cX5_digest 75 = .ok (.lstore_n 1, 1) := by decide +kernel
theorem dX5_digest_76 : decode cX5_digest 76 = .ok (.iinc 3 1, 3) := by decide +kernel
theorem dX5_digest_79 : decode cX5_digest 79 = .ok (.goto (-30), 3) := by decide +kernel
theorem dX5_digest_82 : decode cX5_digest 82 = .ok (.iconst 0, 1) := by decide +kernel
theorem dX5_digest_83 : decode cX5_digest 83 = .ok (.istore_n 3, 1) := by decide +kernel
theorem dX5_digest_84 : decode cX5_digest 84 = .ok (.iload_n 3, 1) := by decide +kernel
theorem dX5_digest_85 : decode cX5_digest 85 = .ok (.bipush 8, 2) := by decide +kernel
theorem dX5_digest_87 : decode cX5_digest 87 = .ok (.if_icmp .ge 22, 3) := by decide +kernel
theorem dX5_digest_90 : decode cX5_digest 90 = .ok (.ldc2_w 174, 3) := by decide +kernel
theorem dX5_digest_93 : decode cX5_digest 93 = .ok (.lload_n 1, 1) := by decide +kernel
theorem dX5_digest_94 : decode cX5_digest 94 = .ok (.lmul, 1) := by decide +kernel
theorem dX5_digest_95 : decode cX5_digest 95 = .ok (.aload_n 0, 1) := by decide +kernel
theorem dX5_digest_96 : decode cX5_digest 96 = .ok (.iload_n 3, 1) := by decide +kernel
theorem dX5_digest_97 : decode cX5_digest 97 = .ok (.invokevirtual 182, 3) := by decide +kernel
theorem dX5_digest_100 : decode cX5_digest 100 = .ok (.i2l, 1) := by decide +kernel
theorem dX5_digest_101 : decode cX5_digest 101 = .ok (.ladd, 1) := by decide +kernel
theorem dX5_digest_102 : decode cX5_digest 102 = .ok (.lstore_n 1, 1) := by decide +kernel
theorem dX5_digest_103 : decode cX5_digest 103 = .ok (.iinc 3 1, 3) := by decide +kernel
theorem dX5_digest_106 : decode cX5_digest 106 = .ok (.goto (-22), 3) := by decide +kernel
theorem dX5_digest_109 : decode cX5_digest 109 = .ok (.lload_n 1, 1) := by decide +kernel
theorem dX5_digest_110 : decode cX5_digest 110 = .ok (.lreturn, 1) := by decide +kernel
theorem qX5_digestItems_r1 {w : Cond} (h : w ∈ wsX5_digestItems_r1) : w ∈ wsX5_digestItems := List.mem_cons_of_mem _ (List.mem_append_left _ (List.mem_append_left _ (List.mem_append_left _ (List.mem_append_left _ (h)))))
theorem qX5_digestItems_r2 {w : Cond} (h : w ∈ wsX5_digestItems_r2) : w ∈ wsX5_digestItems := List.mem_cons_of_mem _ (List.mem_append_left _ (List.mem_append_left _ (List.mem_append_left _ (List.mem_append_right _ (List.mem_append_left _ (h))))))
theorem qX5_digestItems_r3 {w : Cond} (h : w ∈ wsX5_digestItems_r3) : w ∈ wsX5_digestItems := List.mem_cons_of_mem _ (List.mem_append_left _ (List.mem_append_left _ (List.mem_append_left _ (List.mem_append_right _ (List.mem_append_right _ (h))))))
set_option maxRecDepth 20000 in
theorem ggX5_digestItems_X0_size : GoodIn wsX5_digestItems wsX0_size := goodIn_sub (fm_c (qX5_digestItems_r1 (mg 6 rfl)) (ms_a (fm_c (qX5_digestItems_r1 (mg 7 rfl)) (fm_n)) (fun _ h => List.mem_cons_of_mem _ (List.mem_append_left _ (List.mem_append_right _ (h)))))) (by decide +kernel)
set_option maxRecDepth 20000 in
theorem gX5_digestItems_X0_size : GoodIn wsX5_digestItems (wsV RX5 76 RX0 yX0_size wsX0_size) := goodIn_app (goodIn_sub (fm_c (qX5_digestItems_r1 (mg 2 rfl)) (fm_c (qX5_digestItems_r1 (mg 3 rfl)) (fm_c (qX5_digestItems_r1 (mg 4 rfl)) (fm_c (qX5_digestItems_r1 (mg 5 rfl)) (fm_n))))) (by decide +kernel)) ggX5_digestItems_X0_size
set_option maxRecDepth 20000 in
theorem ggX5_digestItems_X5_item : GoodIn wsX5_digestItems wsX5_item := goodIn_sub (fm_c (qX5_digestItems_r1 (mg 12 rfl)) (ms_a (ms_a (ms_a (ms_a (fm_c (qX5_digestItems_r1 (mg 0 rfl)) (fm_c (qX5_digestItems_r1 (mg 13 rfl)) (fm_c (qX5_digestItems_r1 (mg 14 rfl)) (fm_c (qX5_digestItems_r1 (mg 15 rfl)) (fm_c (qX5_digestItems_r1 (mg 16 rfl)) (fm_c (qX5_digestItems_r1 (mg 5 rfl)) (fm_c (qX5_digestItems_r1 (mg 17 rfl)) (fm_c (qX5_digestItems_r1 (mg 7 rfl)) (fm_c (qX5_digestItems_r1 (mg 18 rfl)) (fm_c (qX5_digestItems_r1 (mg 19 rfl)) (fm_c (qX5_digestItems_r1 (mg 20 rfl)) (fm_c (qX5_digestItems_r1 (mg 21 rfl)) (fm_c (qX5_digestItems_r1 (mg 22 rfl)) (fm_c (qX5_digestItems_r1 (mg 23 rfl)) (fm_c (qX5_digestItems_r2 (mg 0 rfl)) (fm_c (qX5_digestItems_r2 (mg 1 rfl)) (fm_c (qX5_digestItems_r2 (mg 2 rfl)) (fm_c (qX5_digestItems_r2 (mg 3 rfl)) (fm_c (qX5_digestItems_r2 (mg 4 rfl)) (fm_c (qX5_digestItems_r2 (mg 5 rfl)) (fm_c (qX5_digestItems_r2 (mg 6 rfl)) (fm_c (qX5_digestItems_r2 (mg 7 rfl)) (fm_c (qX5_digestItems_r2 (mg 8 rfl)) (fm_c (qX5_digestItems_r2 (mg 9 rfl)) (fm_n))))))))))))))))))))))))) (fm_c (qX5_digestItems_r2 (mg 10 rfl)) (fm_c (qX5_digestItems_r2 (mg 11 rfl)) (fm_c (qX5_digestItems_r2 (mg 12 rfl)) (fm_c (qX5_digestItems_r2 (mg 13 rfl)) (fm_c (qX5_digestItems_r2 (mg 14 rfl)) (fm_c (qX5_digestItems_r2 (mg 15 rfl)) (fm_c (qX5_digestItems_r2 (mg 16 rfl)) (fm_c (qX5_digestItems_r2 (mg 17 rfl)) (fm_c (qX5_digestItems_r2 (mg 18 rfl)) (fm_c (qX5_digestItems_r2 (mg 19 rfl)) (fm_c (qX5_digestItems_r2 (mg 20 rfl)) (fm_c (qX5_digestItems_r2 (mg 21 rfl)) (fm_c (qX5_digestItems_r2 (mg 22 rfl)) (fm_c (qX5_digestItems_r2 (mg 23 rfl)) (fm_c (qX5_digestItems_r3 (mg 0 rfl)) (fm_c (qX5_digestItems_r3 (mg 1 rfl)) (fm_n)))))))))))))))))) (fun _ h => List.mem_cons_of_mem _ (List.mem_append_left _ (List.mem_append_left _ (List.mem_append_right _ (h)))))) (fun _ h => List.mem_cons_of_mem _ (List.mem_append_left _ (List.mem_append_right _ (h))))) (fun _ h => List.mem_cons_of_mem _ (List.mem_append_right _ (h))))) (by decide +kernel)
set_option maxRecDepth 20000 in
theorem gX5_digestItems_X5_item : GoodIn wsX5_digestItems (wsV RX5 185 RX5 yX5_item wsX5_item) := goodIn_app (goodIn_sub (fm_c (qX5_digestItems_r1 (mg 8 rfl)) (fm_c (qX5_digestItems_r1 (mg 9 rfl)) (fm_c (qX5_digestItems_r1 (mg 10 rfl)) (fm_c (qX5_digestItems_r1 (mg 11 rfl)) (fm_n))))) (by decide +kernel)) ggX5_digestItems_X5_item
theorem dX5_digestItems_0 : decode cX5_digestItems 0 = .ok (.lload_n 1, 1) := by decide +kernel
theorem dX5_digestItems_1 : decode cX5_digestItems 1 = .ok (.lstore_n 3, 1) := by decide +kernel
theorem dX5_digestItems_2 : decode cX5_digestItems 2 = .ok (.iconst 0, 1) := by decide +kernel
theorem dX5_digestItems_3 : decode cX5_digestItems 3 = .ok (.istore 5, 2) := by decide +kernel
theorem dX5_digestItems_5 : decode cX5_digestItems 5 = .ok (.iload 5, 2) := by decide +kernel
theorem dX5_digestItems_7 : decode cX5_digestItems 7 = .ok (.aload_n 0, 1) := by decide +kernel
theorem dX5_digestItems_8 : decode cX5_digestItems 8 = .ok (.getfield 26, 3) := by decide +kernel
theorem dX5_digestItems_11 : decode cX5_digestItems 11 = .ok (.invokevirtual 76, 3) := by decide +kernel
theorem dX5_digestItems_14 : decode cX5_digestItems 14 = .ok (.if_icmp .ge 41, 3) := by decide +kernel
theorem dX5_digestItems_17 : decode cX5_digestItems 17 = .ok (.iconst 0, 1) := by decide +kernel
theorem dX5_digestItems_18 : decode cX5_digestItems 18 = .ok (.istore 6, 2) := by decide +kernel
theorem dX5_digestItems_20 : decode cX5_digestItems 20 = .ok (.iload 6, 2) := by decide +kernel
theorem dX5_digestItems_22 : decode cX5_digestItems 22 = .ok (.bipush 6, 2) := by decide +kernel
theorem dX5_digestItems_24 : decode cX5_digestItems 24 = .ok (.if_icmp .ge 25, 3) := by decide +kernel
theorem dX5_digestItems_27 : decode cX5_digestItems 27 = .ok (.ldc2_w 174, 3) := by decide +kernel
theorem dX5_digestItems_30 : decode cX5_digestItems 30 = .ok (.lload_n 3, 1) := by decide +kernel
theorem dX5_digestItems_31 : decode cX5_digestItems 31 = .ok (.lmul, 1) := by decide +kernel
theorem dX5_digestItems_32 : decode cX5_digestItems 32 = .ok (.aload_n 0, 1) := by decide +kernel
theorem dX5_digestItems_33 : decode cX5_digestItems 33 = .ok (.iload 5, 2) := by decide +kernel
theorem dX5_digestItems_35 : decode cX5_digestItems 35 = .ok (.iload 6, 2) := by decide +kernel
theorem dX5_digestItems_37 : decode cX5_digestItems 37 = .ok (.invokevirtual 185, 3) := by decide +kernel
theorem dX5_digestItems_40 : decode cX5_digestItems 40 = .ok (.i2l, 1) := by decide +kernel
theorem dX5_digestItems_41 : decode cX5_digestItems 41 = .ok (.ladd, 1) := by decide +kernel
theorem dX5_digestItems_42 : decode cX5_digestItems 42 = .ok (.lstore_n 3, 1) := by decide +kernel
theorem dX5_digestItems_43 : decode cX5_digestItems 43 = .ok (.iinc 6 1, 3) := by decide +kernel
theorem dX5_digestItems_46 : decode cX5_digestItems 46 = .ok (.goto (-26), 3) := by decide +kernel
theorem dX5_digestItems_49 : decode cX5_digestItems 49 = .ok (.iinc 5 1, 3) := by decide +kernel
theorem dX5_digestItems_52 : decode cX5_digestItems 52 = .ok (.goto (-47), 3) := by decide +kernel
theorem dX5_digestItems_55 : decode cX5_digestItems 55 = .ok (.lload_n 3, 1) := by decide +kernel
theorem dX5_digestItems_56 : decode cX5_digestItems 56 = .ok (.lreturn, 1) := by decide +kernel
theorem qX5_digestIslands_r1 {w : Cond} (h : w ∈ wsX5_digestIslands_r1) : w ∈ wsX5_digestIslands := List.mem_cons_of_mem _ (List.mem_append_left _ (List.mem_append_left _ (List.mem_append_left _ (List.mem_append_left _ (h)))))
theorem qX5_digestIslands_r2 {w : Cond} (h : w ∈ wsX5_digestIslands_r2) : w ∈ wsX5_digestIslands := List.mem_cons_of_mem _ (List.mem_append_left _ (List.mem_append_left _ (List.mem_append_left _ (List.mem_append_right _ (h)))))
set_option maxRecDepth 20000 in
theorem ggX5_digestIslands_X4_size : GoodIn wsX5_digestIslands wsX4_size := goodIn_sub (fm_c (qX5_digestIslands_r1 (mg 6 rfl)) (ms_a (fm_c (qX5_digestIslands_r1 (mg 7 rfl)) (fm_n)) (fun _ h => List.mem_cons_of_mem _ (List.mem_append_right _ (h))))) (by decide +kernel)
set_option maxRecDepth 20000 in
theorem gX5_digestIslands_X4_size : GoodIn wsX5_digestIslands (wsV RX5 155 RX4 yX4_size wsX4_size) := goodIn_app (goodIn_sub (fm_c (qX5_digestIslands_r1 (mg 2 rfl)) (fm_c (qX5_digestIslands_r1 (mg 3 rfl)) (fm_c (qX5_digestIslands_r1 (mg 4 rfl)) (fm_c (qX5_digestIslands_r1 (mg 5 rfl)) (fm_n))))) (by decide +kernel)) ggX5_digestIslands_X4_size
set_option maxRecDepth 20000 in
theorem ggX5_digestIslands_X5_island : GoodIn wsX5_digestIslands wsX5_island := goodIn_sub (fm_c (qX5_digestIslands_r1 (mg 12 rfl)) (ms_a (ms_a (ms_a (ms_a (fm_c (qX5_digestIslands_r1 (mg 0 rfl)) (fm_c (qX5_digestIslands_r1 (mg 13 rfl)) (fm_c (qX5_digestIslands_r1 (mg 14 rfl)) (fm_c (qX5_digestIslands_r1 (mg 15 rfl)) (fm_c (qX5_digestIslands_r1 (mg 5 rfl)) (fm_c (qX5_digestIslands_r1 (mg 16 rfl)) (fm_c (qX5_digestIslands_r1 (mg 7 rfl)) (fm_c (qX5_digestIslands_r1 (mg 17 rfl)) (fm_c (qX5_digestIslands_r1 (mg 18 rfl)) (fm_c (qX5_digestIslands_r1 (mg 19 rfl)) (fm_c (qX5_digestIslands_r1 (mg 20 rfl)) (fm_c (qX5_digestIslands_r1 (mg 21 rfl)) (fm_c (qX5_digestIslands_r1 (mg 22 rfl)) (fm_c (qX5_digestIslands_r1 (mg 23 rfl)) (fm_c (qX5_digestIslands_r2 (mg 0 rfl)) (fm_c (qX5_digestIslands_r2 (mg 1 rfl)) (fm_c (qX5_digestIslands_r2 (mg 2 rfl)) (fm_c (qX5_digestIslands_r2 (mg 3 rfl)) (fm_c (qX5_digestIslands_r2 (mg 4 rfl)) (fm_c (qX5_digestIslands_r2 (mg 5 rfl)) (fm_c (qX5_digestIslands_r2 (mg 6 rfl)) (fm_c (qX5_digestIslands_r2 (mg 7 rfl)) (fm_c (qX5_digestIslands_r2 (mg 8 rfl)) (fm_c (qX5_digestIslands_r2 (mg 9 rfl)) (fm_n))))))))))))))))))))))))) (fm_c (qX5_digestIslands_r2 (mg 10 rfl)) (fm_c (qX5_digestIslands_r2 (mg 11 rfl)) (fm_c (qX5_digestIslands_r2 (mg 12 rfl)) (fm_c (qX5_digestIslands_r2 (mg 13 rfl)) (fm_c (qX5_digestIslands_r2 (mg 14 rfl)) (fm_c (qX5_digestIslands_r2 (mg 15 rfl)) (fm_c (qX5_digestIslands_r2 (mg 16 rfl)) (fm_c (qX5_digestIslands_r2 (mg 17 rfl)) (fm_c (qX5_digestIslands_r2 (mg 18 rfl)) (fm_n))))))))))) (fun _ h => List.mem_cons_of_mem _ (List.mem_append_left _ (List.mem_append_left _ (List.mem_append_right _ (h)))))) (fun _ h => List.mem_cons_of_mem _ (List.mem_append_left _ (List.mem_append_right _ (h))))) (fun _ h => List.mem_cons_of_mem _ (List.mem_append_right _ (h))))) (by decide +kernel)
set_option maxRecDepth 20000 in
theorem gX5_digestIslands_X5_island : GoodIn wsX5_digestIslands (wsV RX5 189 RX5 yX5_island wsX5_island) := goodIn_app (goodIn_sub (fm_c (qX5_digestIslands_r1 (mg 8 rfl)) (fm_c (qX5_digestIslands_r1 (mg 9 rfl)) (fm_c (qX5_digestIslands_r1 (mg 10 rfl)) (fm_c (qX5_digestIslands_r1 (mg 11 rfl)) (fm_n))))) (by decide +kernel)) ggX5_digestIslands_X5_island
theorem dX5_digestIslands_0 : decode cX5_digestIslands 0 = .ok (.lload_n 1, 1) := by decide +kernel
theorem dX5_digestIslands_1 : decode cX5_digestIslands 1 = .ok (.lstore_n 3, 1) := by decide +kernel
theorem dX5_digestIslands_2 : decode cX5_digestIslands 2 = .ok (.iconst 0, 1) := by decide +kernel
theorem dX5_digestIslands_3 : decode cX5_digestIslands 3 = .ok (.istore 5, 2) := by decide +kernel
theorem dX5_digestIslands_5 : decode cX5_digestIslands 5 = .ok (.iload 5, 2) := by decide +kernel
theorem dX5_digestIslands_7 : decode cX5_digestIslands 7 = .ok (.aload_n 0, 1) := by decide +kernel
theorem dX5_digestIslands_8 : decode cX5_digestIslands 8 = .ok (.getfield 39, 3) := by decide +kernel
theorem dX5_digestIslands_11 : decode cX5_digestIslands 11 = .ok (.getfield 114, 3) := by decide +kernel
theorem dX5_digestIslands_14 : decode cX5_digestIslands 14 = .ok (.invokevirtual 155, 3) := by decide +kernel
theorem dX5_digestIslands_17 : decode cX5_digestIslands 17 = .ok (.if_icmp .ge 40, 3) := by decide +kernel
theorem dX5_digestIslands_20 : decode cX5_digestIslands 20 = .ok (.iconst 0, 1) := by decide +kernel
theorem dX5_digestIslands_21 : decode cX5_digestIslands 21 = .ok (.istore 6, 2) := by decide +kernel
theorem dX5_digestIslands_23 : decode cX5_digestIslands 23 = .ok (.iload 6, 2) := by decide +kernel
theorem dX5_digestIslands_25 : decode cX5_digestIslands 25 = .ok (.iconst 4, 1) := by decide +kernel
theorem dX5_digestIslands_26 : decode cX5_digestIslands 26 = .ok (.if_icmp .ge 25, 3) := by decide +kernel
theorem dX5_digestIslands_29 : decode cX5_digestIslands 29 = .ok (.ldc2_w 174, 3) := by decide +kernel
theorem dX5_digestIslands_32 : decode cX5_digestIslands 32 = .ok (.lload_n 3, 1) := by decide +kernel
theorem dX5_digestIslands_33 : decode cX5_digestIslands 33 = .ok (.lmul, 1) := by decide +kernel
theorem dX5_digestIslands_34 : decode cX5_digestIslands 34 = .ok (.aload_n 0, 1) := by decide +kernel
theorem dX5_digestIslands_35 : decode cX5_digestIslands 35 = .ok (.iload 5, 2) := by decide +kernel
theorem dX5_digestIslands_37 : decode cX5_digestIslands 37 = .ok (.iload 6, 2) := by decide +kernel
theorem dX5_digestIslands_39 : decode cX5_digestIslands 39 = .ok (.invokevirtual 189, 3) := by decide +kernel
theorem dX5_digestIslands_42 : decode cX5_digestIslands 42 = .ok (.i2l, 1) := by decide +kernel
theorem dX5_digestIslands_43 : decode cX5_digestIslands 43 = .ok (.ladd, 1) := by decide +kernel
theorem dX5_digestIslands_44 : decode cX5_digestIslands 44 = .ok (.lstore_n 3, 1) := by decide +kernel
theorem dX5_digestIslands_45 : decode cX5_digestIslands 45 = .ok (.iinc 6 1, 3) := by decide +kernel
theorem dX5_digestIslands_48 : decode cX5_digestIslands 48 = .ok (.goto (-25), 3) := by decide +kernel
theorem dX5_digestIslands_51 : decode cX5_digestIslands 51 = .ok (.iinc 5 1, 3) := by decide +kernel
theorem dX5_digestIslands_54 : decode cX5_digestIslands 54 = .ok (.goto (-49), 3) := by decide +kernel
theorem dX5_digestIslands_57 : decode cX5_digestIslands 57 = .ok (.lload_n 3, 1) := by decide +kernel
theorem dX5_digestIslands_58 : decode cX5_digestIslands 58 = .ok (.lreturn, 1) := by decide +kernel
theorem qX5_digestConstants_r1 {w : Cond} (h : w ∈ wsX5_digestConstants_r1) : w ∈ wsX5_digestConstants := List.mem_cons_of_mem _ (List.mem_append_left _ (List.mem_append_left _ (List.mem_append_left _ (List.mem_append_left _ (List.mem_append_left _ (h))))))
theorem qX5_digestConstants_r2 {w : Cond} (h : w ∈ wsX5_digestConstants_r2) : w ∈ wsX5_digestConstants := List.mem_cons_of_mem _ (List.mem_append_left _ (List.mem_append_left _ (List.mem_append_left _ (List.mem_append_left _ (List.mem_append_right _ (List.mem_append_left _ (h)))))))
theorem qX5_digestConstants_r3 {w : Cond} (h : w ∈ wsX5_digestConstants_r3) : w ∈ wsX5_digestConstants := List.mem_cons_of_mem _ (List.mem_append_left _ (List.mem_append_left _ (List.mem_append_left _ (List.mem_append_left _ (List.mem_append_right _ (List.mem_append_right _ (h)))))))
set_option maxRecDepth 20000 in
theorem ggX5_digestConstants_X4_size : GoodIn wsX5_digestConstants wsX4_size := goodIn_sub (fm_c (qX5_digestConstants_r1 (mg 6 rfl)) (ms_a (fm_c (qX5_digestConstants_r1 (mg 7 rfl)) (fm_n)) (fun _ h => List.mem_cons_of_mem _ (List.mem_append_left _ (List.mem_append_right _ (h)))))) (by decide +kernel)
set_option maxRecDepth 20000 in
theorem gX5_digestConstants_X4_size : GoodIn wsX5_digestConstants (wsV RX5 155 RX4 yX4_size wsX4_size) := goodIn_app (goodIn_sub (fm_c (qX5_digestConstants_r1 (mg 2 rfl)) (fm_c (qX5_digestConstants_r1 (mg 3 rfl)) (fm_c (qX5_digestConstants_r1 (mg 4 rfl)) (fm_c (qX5_digestConstants_r1 (mg 5 rfl)) (fm_n))))) (by decide +kernel)) ggX5_digestConstants_X4_size
set_option maxRecDepth 20000 in
theorem ggX5_digestConstants_X5_constant : GoodIn wsX5_digestConstants wsX5_constant := goodIn_sub (fm_c (qX5_digestConstants_r1 (mg 12 rfl)) (ms_a (ms_a (ms_a (ms_a (ms_a (fm_c (qX5_digestConstants_r1 (mg 0 rfl)) (fm_c (qX5_digestConstants_r1 (mg 13 rfl)) (fm_c (qX5_digestConstants_r1 (mg 14 rfl)) (fm_c (qX5_digestConstants_r1 (mg 15 rfl)) (fm_c (qX5_digestConstants_r1 (mg 5 rfl)) (fm_c (qX5_digestConstants_r1 (mg 16 rfl)) (fm_c (qX5_digestConstants_r1 (mg 7 rfl)) (fm_c (qX5_digestConstants_r1 (mg 17 rfl)) (fm_c (qX5_digestConstants_r1 (mg 18 rfl)) (fm_c (qX5_digestConstants_r1 (mg 19 rfl)) (fm_c (qX5_digestConstants_r1 (mg 20 rfl)) (fm_c (qX5_digestConstants_r1 (mg 21 rfl)) (fm_c (qX5_digestConstants_r1 (mg 22 rfl)) (fm_c (qX5_digestConstants_r1 (mg 23 rfl)) (fm_c (qX5_digestConstants_r2 (mg 0 rfl)) (fm_c (qX5_digestConstants_r2 (mg 1 rfl)) (fm_c (qX5_digestConstants_r2 (mg 2 rfl)) (fm_c (qX5_digestConstants_r2 (mg 3 rfl)) (fm_c (qX5_digestConstants_r2 (mg 4 rfl)) (fm_c (qX5_digestConstants_r2 (mg 5 rfl)) (fm_c (qX5_digestConstants_r2 (mg 6 rfl)) (fm_c (qX5_digestConstants_r2 (mg 7 rfl)) (fm_c (qX5_digestConstants_r2 (mg 8 rfl)) (fm_c (qX5_digestConstants_r2 (mg 9 rfl)) (fm_n))))))))))))))))))))))))) (ms_a (fm_c (qX5_digestConstants_r2 (mg 10 rfl)) (fm_c (qX5_digestConstants_r2 (mg 11 rfl)) (fm_c (qX5_digestConstants_r2 (mg 12 rfl)) (fm_c (qX5_digestConstants_r2 (mg 13 rfl)) (fm_c (qX5_digestConstants_r2 (mg 14 rfl)) (fm_c (qX5_digestConstants_r2 (mg 15 rfl)) (fm_c (qX5_digestConstants_r2 (mg 16 rfl)) (fm_c (qX5_digestConstants_r2 (mg 17 rfl)) (fm_c (qX5_digestConstants_r2 (mg 18 rfl)) (fm_c (qX5_digestConstants_r2 (mg 19 rfl)) (fm_c (qX5_digestConstants_r2 (mg 20 rfl)) (fm_c (qX5_digestConstants_r2 (mg 21 rfl)) (fm_c (qX5_digestConstants_r2 (mg 22 rfl)) (fm_c (qX5_digestConstants_r2 (mg 23 rfl)) (fm_c (qX5_digestConstants_r3 (mg 0 rfl)) (fm_c (qX5_digestConstants_r3 (mg 1 rfl)) (fm_c (qX5_digestConstants_r3 (mg 2 rfl)) (fm_c (qX5_digestConstants_r3 (mg 3 rfl)) (fm_c (qX5_digestConstants_r3 (mg 4 rfl)) (fm_c (qX5_digestConstants_r3 (mg 5 rfl)) (fm_c (qX5_digestConstants_r3 (mg 6 rfl)) (fm_c (qX5_digestConstants_r3 (mg 7 rfl)) (fm_c (qX5_digestConstants_r3 (mg 8 rfl)) (fm_c (qX5_digestConstants_r3 (mg 9 rfl)) (fm_n))))))))))))))))))))))))) (fm_c (qX5_digestConstants_r3 (mg 10 rfl)) (fm_c (qX5_digestConstants_r3 (mg 11 rfl)) (fm_c (qX5_digestConstants_r3 (mg 12 rfl)) (fm_c (qX5_digestConstants_r3 (mg 13 rfl)) (fm_c (qX5_digestConstants_r3 (mg 14 rfl)) (fm_c (qX5_digestConstants_r3 (mg 15 rfl)) (fm_c (qX5_digestConstants_r3 (mg 16 rfl)) (fm_c (qX5_digestConstants_r3 (mg 17 rfl)) (fm_n))))))))))) (fun _ h => List.mem_cons_of_mem _ (List.mem_append_left _ (List.mem_append_left _ (List.mem_append_left _ (List.mem_append_right _ (h))))))) (fun _ h => List.mem_cons_of_mem _ (List.mem_append_left _ (List.mem_append_left _ (List.mem_append_right _ (h)))))) (fun _ h => List.mem_cons_of_mem _ (List.mem_append_left _ (List.mem_append_right _ (h))))) (fun _ h => List.mem_cons_of_mem _ (List.mem_append_right _ (h))))) (by decide +kernel)
set_option maxRecDepth 20000 in
theorem gX5_digestConstants_X5_constant : GoodIn wsX5_digestConstants (wsV RX5 192 RX5 yX5_constant wsX5_constant) := goodIn_app (goodIn_sub (fm_c (qX5_digestConstants_r1 (mg 8 rfl)) (fm_c (qX5_digestConstants_r1 (mg 9 rfl)) (fm_c (qX5_digestConstants_r1 (mg 10 rfl)) (fm_c (qX5_digestConstants_r1 (mg 11 rfl)) (fm_n))))) (by decide +kernel)) ggX5_digestConstants_X5_constant
theorem dX5_digestConstants_0 : decode cX5_digestConstants 0 = .ok (.lload_n 1, 1) := by decide +kernel
theorem dX5_digestConstants_1 : decode cX5_digestConstants 1 = .ok (.lstore_n 3, 1) := by decide +kernel
theorem dX5_digestConstants_2 : decode cX5_digestConstants 2 = .ok (.iconst 0, 1) := by decide +kernel
theorem dX5_digestConstants_3 : decode cX5_digestConstants 3 = .ok (.istore 5, 2) := by decide +kernel
theorem dX5_digestConstants_5 : decode cX5_digestConstants 5 = .ok (.iload 5, 2) := by decide +kernel
theorem dX5_digestConstants_7 : decode cX5_digestConstants 7 = .ok (.aload_n 0, 1) := by decide +kernel
theorem dX5_digestConstants_8 : decode cX5_digestConstants 8 = .ok (.getfield 39, 3) := by decide +kernel
theorem dX5_digestConstants_11 : decode cX5_digestConstants 11 = .ok (.getfield 131, 3) := by decide +kernel
theorem dX5_digestConstants_14 : decode cX5_digestConstants 14 = .ok (.invokevirtual 155, 3) := by decide +kernel
theorem dX5_digestConstants_17 : decode cX5_digestConstants 17 = .ok (.if_icmp .ge 40, 3) := by decide +kernel
theorem dX5_digestConstants_20 : decode cX5_digestConstants 20 = .ok (.iconst 0, 1) := by decide +kernel
theorem dX5_digestConstants_21 : decode cX5_digestConstants 21 = .ok (.istore 6, 2) := by decide +kernel
theorem dX5_digestConstants_23 : decode cX5_digestConstants 23 = .ok (.iload 6, 2) := by decide +kernel
theorem dX5_digestConstants_25 : decode cX5_digestConstants 25 = .ok (.iconst 4, 1) := by decide +kernel
theorem dX5_digestConstants_26 : decode cX5_digestConstants 26 = .ok (.if_icmp .ge 25, 3) := by decide +kernel
theorem dX5_digestConstants_29 : decode cX5_digestConstants 29 = .ok (.ldc2_w 174, 3) := by decide +kernel
theorem dX5_digestConstants_32 : decode cX5_digestConstants 32 = .ok (.lload_n 3, 1) := by decide +kernel
theorem dX5_digestConstants_33 : decode cX5_digestConstants 33 = .ok (.lmul, 1) := by decide +kernel
theorem dX5_digestConstants_34 : decode cX5_digestConstants 34 = .ok (.aload_n 0, 1) := by decide +kernel
theorem dX5_digestConstants_35 : decode cX5_digestConstants 35 = .ok (.iload 5, 2) := by decide +kernel
theorem dX5_digestConstants_37 : decode cX5_digestConstants 37 = .ok (.iload 6, 2) := by decide +kernel
theorem dX5_digestConstants_39 : decode cX5_digestConstants 39 = .ok (.invokevirtual 192, 3) := by decide +kernel
theorem dX5_digestConstants_42 : decode cX5_digestConstants 42 = .ok (.i2l, 1) := by decide +kernel
theorem dX5_digestConstants_43 : decode cX5_digestConstants 43 = .ok (.ladd, 1) := by decide +kernel
theorem dX5_digestConstants_44 : decode cX5_digestConstants 44 = .ok (.lstore_n 3, 1) := by decide +kernel
theorem dX5_digestConstants_45 : decode cX5_digestConstants 45 = .ok (.iinc 6 1, 3) := by decide +kernel
theorem dX5_digestConstants_48 : decode cX5_digestConstants 48 = .ok (.goto (-25), 3) := by decide +kernel
theorem dX5_digestConstants_51 : decode cX5_digestConstants 51 = .ok (.iinc 5 1, 3) := by decide +kernel
theorem dX5_digestConstants_54 : decode cX5_digestConstants 54 = .ok (.goto (-49), 3) := by decide +kernel
theorem dX5_digestConstants_57 : decode cX5_digestConstants 57 = .ok (.lload_n 3, 1) := by decide +kernel
theorem dX5_digestConstants_58 : decode cX5_digestConstants 58 = .ok (.lreturn, 1) := by decide +kernel
theorem dX5_far_0 : decode cX5_far 0 = .ok (.iload_n 0, 1) := by decide +kernel
theorem dX5_far_1 : decode cX5_far 1 = .ok (.iload_n 1, 1) := by decide +kernel
theorem dX5_far_2 : decode cX5_far 2 = .ok (.if_icmp .ge 9, 3) := by decide +kernel
theorem dX5_far_5 : decode cX5_far 5 = .ok (.iload_n 1, 1) := by decide +kernel
theorem dX5_far_6 : decode cX5_far 6 = .ok (.iload_n 0, 1) := by decide +kernel
theorem dX5_far_7 : decode cX5_far 7 = .ok (.isub, 1) := by decide +kernel
theorem dX5_far_8 : decode cX5_far 8 = .ok (.goto 6, 3) := by decide +kernel
theorem dX5_far_11 : decode cX5_far 11 = .ok (.iload_n 0, 1) := by decide +kernel
theorem dX5_far_12 : decode cX5_far 12 = .ok (.iload_n 1, 1) := by decide +kernel
theorem dX5_far_13 : decode cX5_far 13 = .ok (.isub, 1) := by decide +kernel
theorem dX5_far_14 : decode cX5_far 14 = .ok (.ireturn, 1) := by decide +kernel
theorem dX5_fillTo_0 : decode cX5_fillTo 0 = .ok (.iload_n 1, 1) := by decide +kernel
theorem dX5_fillTo_1 : decode cX5_fillTo 1 = .ok (.ineg, 1) := by decide +kernel
theorem dX5_fillTo_2 : decode cX5_fillTo 2 = .ok (.iload_n 0, 1) := by decide +kernel
theorem dX5_fillTo_3 : decode cX5_fillTo 3 = .ok (.iconst 1, 1) := by decide +kernel
theorem dX5_fillTo_4 : decode cX5_fillTo 4 = .ok (.isub, 1) := by decide +kernel
theorem dX5_fillTo_5 : decode cX5_fillTo 5 = .ok (.iand, 1) := by decide +kernel
theorem dX5_fillTo_6 : decode cX5_fillTo 6 = .ok (.ireturn, 1) := by decide +kernel
theorem dX6_init_0 : decode cX6_init 0 = .ok (.aload_n 0, 1) := by decide +kernel
theorem dX6_init_1 : decode cX6_init 1 = .ok (.invokespecial 1, 3) := by decide +kernel
theorem dX6_init_4 : decode cX6_init 4 = .ok (.aload_n 0, 1) := by decide +kernel
theorem dX6_init_5 : decode cX6_init 5 = .ok (.bipush 50, 2) := by decide +kernel
theorem dX6_init_7 : decode cX6_init 7 = .ok (.newarray .int, 2) := by decide +kernel
theorem dX6_init_9 : decode cX6_init 9 = .ok (.putfield 7, 3) := by decide +kernel
theorem dX6_init_12 : decode cX6_init 12 = .ok (.aload_n 0, 1) := by decide +kernel
theorem dX6_init_13 : decode cX6_init 13 = .ok (.bipush 24, 2) := by decide +kernel
theorem dX6_init_15 : decode cX6_init 15 = .ok (.newarray .int, 2) := by decide +kernel
theorem dX6_init_17 : decode cX6_init 17 = .ok (.putfield 13, 3) := by decide +kernel
theorem dX6_init_20 : decode cX6_init 20 = .ok (.aload_n 0, 1) := by decide +kernel
theorem dX6_init_21 : decode cX6_init 21 = .ok (.bipush 24, 2) := by decide +kernel
theorem dX6_init_23 : decode cX6_init 23 = .ok (.newarray .int, 2) := by decide +kernel
theorem dX6_init_25 : decode cX6_init 25 = .ok (.putfield 16, 3) := by decide +kernel
theorem dX6_init_28 : decode cX6_init 28 = .ok (.aload_n 0, 1) := by decide +kernel
theorem dX6_init_29 : decode cX6_init 29 = .ok (.iconst 3, 1) := by decide +kernel
theorem dX6_init_30 : decode cX6_init 30 = .ok (.newarray .int, 2) := by decide +kernel
theorem dX6_init_32 : decode cX6_init 32 = .ok (.putfield 19, 3) := by decide +kernel
theorem dX6_init_35 : decode cX6_init 35 = .ok (.aload_n 0, 1) := by decide +kernel
theorem dX6_init_36 : decode cX6_init 36 = .ok (.bipush 24, 2) := by decide +kernel
theorem dX6_init_38 : decode cX6_init 38 = .ok (.newarray .int, 2) := by decide +kernel
theorem dX6_init_40 : decode cX6_init 40 = .ok (.putfield 22, 3) := by decide +kernel
theorem dX6_init_43 : decode cX6_init 43 = .ok (.aload_n 0, 1) := by decide +kernel
theorem dX6_init_44 : decode cX6_init 44 = .ok (.bipush 24, 2) := by decide +kernel
theorem dX6_init_46 : decode cX6_init 46 = .ok (.newarray .int, 2) := by decide +kernel
theorem dX6_init_48 : decode cX6_init 48 = .ok (.putfield 25, 3) := by decide +kernel
theorem dX6_init_51 : decode cX6_init 51 = .ok (.aload_n 0, 1) := by decide +kernel
theorem dX6_init_52 : decode cX6_init 52 = .ok (.bipush 24, 2) := by decide +kernel
theorem dX6_init_54 : decode cX6_init 54 = .ok (.newarray .boolean, 2) := by decide +kernel
theorem dX6_init_56 : decode cX6_init 56 = .ok (.putfield 28, 3) := by decide +kernel
theorem dX6_init_59 : decode cX6_init 59 = .ok (.aload_n 0, 1) := by decide +kernel
theorem dX6_init_60 : decode cX6_init 60 = .ok (.bipush 12, 2) := by decide +kernel
theorem dX6_init_62 : decode cX6_init 62 = .ok (.newarray .int, 2) := by decide +kernel
theorem dX6_init_64 : decode cX6_init 64 = .ok (.putfield 32, 3) := by decide +kernel
theorem dX6_init_67 : decode cX6_init 67 = .ok (.aload_n 0, 1) := by decide +kernel
theorem dX6_init_68 : decode cX6_init 68 = .ok (.bipush 12, 2) := by decide +kernel
theorem dX6_init_70 : decode cX6_init 70 = .ok (.newarray .int, 2) := by decide +kernel
theorem dX6_init_72 : decode cX6_init 72 = .ok (.putfield 35, 3) := by decide +kernel
theorem dX6_init_75 : decode cX6_init 75 = .ok (.aload_n 0, 1) := by decide +kernel
theorem dX6_init_76 : decode cX6_init 76 = .ok (.bipush 16, 2) := by decide +kernel
theorem dX6_init_78 : decode cX6_init 78 = .ok (.newarray .int, 2) := by decide +kernel
theorem dX6_init_80 : decode cX6_init 80 = .ok (.putfield 38, 3) := by decide +kernel
theorem dX6_init_83 : decode cX6_init 83 = .ok (.aload_n 0, 1) := by decide +kernel
theorem dX6_init_84 : decode cX6_init 84 = .ok (.bipush 16, 2) := by decide +kernel
theorem dX6_init_86 : decode cX6_init 86 = .ok (.newarray .int, 2) := by decide +kernel
theorem dX6_init_88 : decode cX6_init 88 = .ok (.putfield 41, 3) := by decide +kernel
theorem dX6_init_91 : decode cX6_init 91 = .ok (.aload_n 0, 1) := by decide +kernel
theorem dX6_init_92 : decode cX6_init 92 = .ok (.bipush 24, 2) := by decide +kernel
theorem dX6_init_94 : decode cX6_init 94 = .ok (.newarray .int, 2) := by decide +kernel
theorem dX6_init_96 : decode cX6_init 96 = .ok (.putfield 44, 3) := by decide +kernel
theorem dX6_init_99 : decode cX6_init 99 = .ok (.aload_n 0, 1) := by decide +kernel
theorem dX6_init_100 : decode cX6_init 100 = .ok (.bipush 12, 2) := by decide +kernel
theorem dX6_init_102 : decode cX6_init 102 = .ok (.newarray .int, 2) := by decide +kernel
theorem dX6_init_104 : decode cX6_init 104 = .ok (.putfield 47, 3) := by decide +kernel
theorem dX6_init_107 : decode cX6_init 107 = .ok (.aload_n 0, 1) := by decide +kernel
theorem dX6_init_108 : decode cX6_init 108 = .ok (.bipush 16, 2) := by decide +kernel
theorem dX6_init_110 : decode cX6_init 110 = .ok (.newarray .int, 2) := by decide +kernel
theorem dX6_init_112 : decode cX6_init 112 = .ok (.putfield 50, 3) := by decide +kernel
theorem dX6_init_115 : decode cX6_init 115 = .ok (.aload_n 0, 1) := by decide +kernel
theorem dX6_init_116 : decode cX6_init 116 = .ok (.bipush 24, 2) := by decide +kernel
theorem dX6_init_118 : decode cX6_init 118 = .ok (.newarray .int, 2) := by decide +kernel
theorem dX6_init_120 : decode cX6_init 120 = .ok (.putfield 53, 3) := by decide +kernel
theorem dX6_init_123 : decode cX6_init 123 = .ok (.aload_n 0, 1) := by decide +kernel
theorem dX6_init_124 : decode cX6_init 124 = .ok (.bipush 24, 2) := by decide +kernel
theorem dX6_init_126 : decode cX6_init 126 = .ok (.newarray .int, 2) := by decide +kernel
theorem dX6_init_128 : decode cX6_init 128 = .ok (.putfield 56, 3) := by decide +kernel
theorem dX6_init_131 : decode cX6_init 131 = .ok (.aload_n 0, 1) := by decide +kernel
theorem dX6_init_132 : decode cX6_init 132 = .ok (.bipush 8, 2) := by decide +kernel
theorem dX6_init_134 : decode cX6_init 134 = .ok (.newarray .int, 2) := by decide +kernel
theorem dX6_init_136 : decode cX6_init 136 = .ok (.putfield 59, 3) := by decide +kernel
theorem dX6_init_139 : decode cX6_init 139 = .ok (.aload_n 0, 1) := by decide +kernel
theorem dX6_init_140 : decode cX6_init 140 = .ok (.iconst 1, 1) := by decide +kernel
theorem dX6_init_141 : decode cX6_init 141 = .ok (.putfield 62, 3) := by decide +kernel
theorem dX6_init_144 : decode cX6_init 144 = .ok (.aload_n 0, 1) := by decide +kernel
theorem dX6_init_145 : decode cX6_init 145 = .ok (.iconst (-1), 1) := by decide +kernel
theorem dX6_init_146 : decode cX6_init 146 = .ok (.putfield 66, 3) := by decide +kernel
theorem dX6_init_149 : decode cX6_init 149 = .ok (.aload_n 0, 1) := by decide +kernel
theorem dX6_init_150 : decode cX6_init 150 = .ok (.getfield 19, 3) := by decide +kernel
theorem dX6_init_153 : decode cX6_init 153 = .ok (.iconst 0, 1) := by decide +kernel
theorem dX6_init_154 : decode cX6_init 154 = .ok (.bipush 8, 2) := by decide +kernel
theorem dX6_init_156 : decode cX6_init 156 = .ok (.iastore, 1) := by decide +kernel
theorem dX6_init_157 : decode cX6_init 157 = .ok (.aload_n 0, 1) := by decide +kernel
theorem dX6_init_158 : decode cX6_init 158 = .ok (.getfield 19, 3) := by decide +kernel
theorem dX6_init_161 : decode cX6_init 161 = .ok (.iconst 1, 1) := by decide +kernel
theorem dX6_init_162 : decode cX6_init 162 = .ok (.bipush 32, 2) := by decide +kernel
theorem dX6_init_164 : decode cX6_init 164 = .ok (.iastore, 1) := by decide +kernel
theorem dX6_init_165 : decode cX6_init 165 = .ok (.aload_n 0, 1) := by decide +kernel
theorem dX6_init_166 : decode cX6_init 166 = .ok (.getfield 19, 3) := by decide +kernel
theorem dX6_init_169 : decode cX6_init 169 = .ok (.iconst 2, 1) := by decide +kernel
theorem dX6_init_170 : decode cX6_init 170 = .ok (.bipush 24, 2) := by decide +kernel
theorem dX6_init_172 : decode cX6_init 172 = .ok (.iastore, 1) := by decide +kernel
theorem dX6_init_173 : decode cX6_init 173 = .ok (.return_, 1) := by decide +kernel
theorem dX6_within_0 : decode cX6_within 0 = .ok (.iload_n 0, 1) := by decide +kernel
theorem dX6_within_1 : decode cX6_within 1 = .ok (.iload_n 1, 1) := by decide +kernel
theorem dX6_within_2 : decode cX6_within 2 = .ok (.if_icmp .lt 12, 3) := by decide +kernel
theorem dX6_within_5 : decode cX6_within 5 = .ok (.iload_n 0, 1) := by decide +kernel
theorem dX6_within_6 : decode cX6_within 6 = .ok (.iload_n 2, 1) := by decide +kernel
theorem dX6_within_7 : decode cX6_within 7 = .ok (.if_icmp .gt 7, 3) := by decide +kernel
theorem dX6_within_10 : decode cX6_within 10 = .ok (.iconst 1, 1) := by decide +kernel
theorem dX6_within_11 : decode cX6_within 11 = .ok (.goto 4, 3) := by decide +kernel
theorem dX6_within_14 : decode cX6_within 14 = .ok (.iconst 0, 1) := by decide +kernel
theorem dX6_within_15 : decode cX6_within 15 = .ok (.ireturn, 1) := by decide +kernel
set_option maxRecDepth 20000 in
theorem ggX6_letter_X6_within : GoodIn wsX6_letter wsX6_within := goodIn_sub (fm_c (List.mem_cons_of_mem _ (List.mem_append_left _ (mg 5 rfl))) (fm_n)) (by decide +kernel)
set_option maxRecDepth 20000 in
theorem gX6_letter_X6_within : GoodIn wsX6_letter (va_wsS RX6 70 yX6_within wsX6_within) := goodIn_app (goodIn_sub (fm_c (List.mem_cons_of_mem _ (List.mem_append_left _ (mg 2 rfl))) (fm_c (List.mem_cons_of_mem _ (List.mem_append_left _ (mg 3 rfl))) (fm_c (List.mem_cons_of_mem _ (List.mem_append_left _ (mg 4 rfl))) (fm_n)))) (by decide +kernel)) ggX6_letter_X6_within
theorem dX6_letter_0 : decode cX6_letter 0 = .ok (.iload_n 1, 1) := by decide +kernel
theorem dX6_letter_1 : decode cX6_letter 1 = .ok (.bipush 32, 2) := by decide +kernel
theorem dX6_letter_3 : decode cX6_letter 3 = .ok (.bipush 126, 2) := by decide +kernel
theorem dX6_letter_5 : decode cX6_letter 5 = .ok (.invokestatic 70, 3) := by decide +kernel
theorem dX6_letter_8 : decode cX6_letter 8 = .ok (.ifCond .ne 7, 3) := by decide +kernel
theorem dX6_letter_11 : decode cX6_letter 11 = .ok (.sipush (-1002), 3) := by decide +kernel
theorem dX6_letter_14 : decode cX6_letter 14 = .ok (.ireturn, 1) := by decide +kernel
theorem dX6_letter_15 : decode cX6_letter 15 = .ok (.aload_n 0, 1) := by decide +kernel
theorem dX6_letter_16 : decode cX6_letter 16 = .ok (.getfield 74, 3) := by decide +kernel
theorem dX6_letter_19 : decode cX6_letter 19 = .ok (.bipush 50, 2) := by decide +kernel
theorem dX6_letter_21 : decode cX6_letter 21 = .ok (.if_icmp .ne 7, 3) := by decide +kernel
theorem dX6_letter_24 : decode cX6_letter 24 = .ok (.sipush (-1004), 3) := by decide +kernel
theorem dX6_letter_27 : decode cX6_letter 27 = .ok (.ireturn, 1) := by decide +kernel
theorem dX6_letter_28 : decode cX6_letter 28 = .ok (.aload_n 0, 1) := by decide +kernel
theorem dX6_letter_29 : decode cX6_letter 29 = .ok (.getfield 7, 3) := by decide +kernel
theorem dX6_letter_32 : decode cX6_letter 32 = .ok (.aload_n 0, 1) := by decide +kernel
theorem dX6_letter_33 : decode cX6_letter 33 = .ok (.getfield 74, 3) := by decide +kernel
theorem dX6_letter_36 : decode cX6_letter 36 = .ok (.iload_n 1, 1) := by decide +kernel
theorem dX6_letter_37 : decode cX6_letter 37 = .ok (.iastore, 1) := by decide +kernel
theorem dX6_letter_38 : decode cX6_letter 38 = .ok (.aload_n 0, 1) := by decide +kernel
theorem dX6_letter_39 : decode cX6_letter 39 = .ok (.dup, 1) := by decide +kernel
theorem dX6_letter_40 : decode cX6_letter 40 = .ok (.getfield 74, 3) := by decide +kernel
theorem dX6_letter_43 : decode cX6_letter 43 = .ok (.iconst 1, 1) := by decide +kernel
theorem dX6_letter_44 : decode cX6_letter 44 = .ok (.iadd, 1) := by decide +kernel
theorem dX6_letter_45 : decode cX6_letter 45 = .ok (.putfield 74, 3) := by decide +kernel
theorem dX6_letter_48 : decode cX6_letter 48 = .ok (.aload_n 0, 1) := by decide +kernel
theorem dX6_letter_49 : decode cX6_letter 49 = .ok (.getfield 74, 3) := by decide +kernel
theorem dX6_letter_52 : decode cX6_letter 52 = .ok (.ireturn, 1) := by decide +kernel
theorem dX6_blank_0 : decode cX6_blank 0 = .ok (.aload_n 0, 1) := by decide +kernel
theorem dX6_blank_1 : decode cX6_blank 1 = .ok (.getfield 74, 3) := by decide +kernel
theorem dX6_blank_4 : decode cX6_blank 4 = .ok (.istore_n 1, 1) := by decide +kernel
theorem dX6_blank_5 : decode cX6_blank 5 = .ok (.aload_n 0, 1) := by decide +kernel
theorem dX6_blank_6 : decode cX6_blank 6 = .ok (.iconst 0, 1) := by decide +kernel
theorem dX6_blank_7 : decode cX6_blank 7 = .ok (.putfield 74, 3) := by decide +kernel
theorem dX6_blank_10 : decode cX6_blank 10 = .ok (.iload_n 1, 1) := by decide +kernel
theorem dX6_blank_11 : decode cX6_blank 11 = .ok (.ireturn, 1) := by decide +kernel
theorem dX6_kindBy_0 : decode cX6_kindBy 0 = .ok (.iload_n 0, 1) := by decide +kernel
theorem dX6_kindBy_1 : decode cX6_kindBy 1 = .ok (.lookupswitch 71 #[(58, 65), (97, 67), (98, 63), (108, 61), (110, 59), (114, 69)], 59) := by decide +kernel
theorem dX6_kindBy_60 : decode cX6_kindBy 60 = .ok (.iconst 0, 1) := by decide +kernel
theorem dX6_kindBy_61 : decode cX6_kindBy 61 = .ok (.ireturn, 1) := by decide +kernel
theorem dX6_kindBy_62 : decode cX6_kindBy 62 = .ok (.iconst 1, 1) := by decide +kernel
theorem dX6_kindBy_63 : decode cX6_kindBy 63 = .ok (.ireturn, 1) := by decide +kernel
theorem dX6_kindBy_64 : decode cX6_kindBy 64 = .ok (.iconst 2, 1) := by decide +kernel
theorem dX6_kindBy_65 : decode cX6_kindBy 65 = .ok (.ireturn, 1) := by decide +kernel
theorem dX6_kindBy_66 : decode cX6_kindBy 66 = .ok (.iconst 3, 1) := by decide +kernel
theorem dX6_kindBy_67 : decode cX6_kindBy 67 = .ok (.ireturn, 1) := by decide +kernel
theorem dX6_kindBy_68 : decode cX6_kindBy 68 = .ok (.iconst 4, 1) := by decide +kernel
theorem dX6_kindBy_69 : decode cX6_kindBy 69 = .ok (.ireturn, 1) := by decide +kernel
theorem dX6_kindBy_70 : decode cX6_kindBy 70 = .ok (.iconst 5, 1) := by decide +kernel
theorem dX6_kindBy_71 : decode cX6_kindBy 71 = .ok (.ireturn, 1) := by decide +kernel
theorem dX6_kindBy_72 : decode cX6_kindBy 72 = .ok (.iconst (-1), 1) := by decide +kernel
theorem dX6_kindBy_73 : decode cX6_kindBy 73 = .ok (.ireturn, 1) := by decide +kernel
theorem dX6_keepItem_0 : decode cX6_keepItem 0 = .ok (.aload_n 0, 1) := by decide +kernel
theorem dX6_keepItem_1 : decode cX6_keepItem 1 = .ok (.getfield 22, 3) := by decide +kernel
theorem dX6_keepItem_4 : decode cX6_keepItem 4 = .ok (.aload_n 0, 1) := by decide +kernel
theorem dX6_keepItem_5 : decode cX6_keepItem 5 = .ok (.getfield 77, 3) := by decide +kernel
theorem dX6_keepItem_8 : decode cX6_keepItem 8 = .ok (.iload_n 1, 1) := by decide +kernel
theorem dX6_keepItem_9 : decode cX6_keepItem 9 = .ok (.iastore, 1) := by decide +kernel
theorem dX6_keepItem_10 : decode cX6_keepItem 10 = .ok (.aload_n 0, 1) := by decide +kernel
theorem dX6_keepItem_11 : decode cX6_keepItem 11 = .ok (.getfield 25, 3) := by decide +kernel
theorem dX6_keepItem_14 : decode cX6_keepItem 14 = .ok (.aload_n 0, 1) := by decide +kernel
theorem dX6_keepItem_15 : decode cX6_keepItem 15 = .ok (.getfield 77, 3) := by decide +kernel
theorem dX6_keepItem_18 : decode cX6_keepItem 18 = .ok (.iload_n 2, 1) := by decide +kernel
theorem dX6_keepItem_19 : decode cX6_keepItem 19 = .ok (.iastore, 1) := by decide +kernel
theorem dX6_keepItem_20 : decode cX6_keepItem 20 = .ok (.aload_n 0, 1) := by decide +kernel
theorem dX6_keepItem_21 : decode cX6_keepItem 21 = .ok (.dup, 1) := by decide +kernel
theorem dX6_keepItem_22 : decode cX6_keepItem 22 = .ok (.getfield 77, 3) := by decide +kernel
theorem dX6_keepItem_25 : decode cX6_keepItem 25 = .ok (.iconst 1, 1) := by decide +kernel
theorem dX6_keepItem_26 : decode cX6_keepItem 26 = .ok (.iadd, 1) := by decide +kernel
theorem dX6_keepItem_27 : decode cX6_keepItem 27 = .ok (.putfield 77, 3) := by decide +kernel
theorem dX6_keepItem_30 : decode cX6_keepItem 30 = .ok (.aload_n 0, 1) := by decide +kernel
theorem dX6_keepItem_31 : decode cX6_keepItem 31 = .ok (.iconst (-1), 1) := by decide +kernel
theorem dX6_keepItem_32 : decode cX6_keepItem 32 = .ok (.putfield 80, 3) := by decide +kernel
theorem dX6_keepItem_35 : decode cX6_keepItem 35 = .ok (.return_, 1) := by decide +kernel
set_option maxRecDepth 20000 in
theorem ggX6_takesFirst_X6_kindBy : GoodIn wsX6_takesFirst wsX6_kindBy := goodIn_sub (fm_c (List.mem_cons_of_mem _ (List.mem_append_left _ (mg 5 rfl))) (fm_n)) (by decide +kernel)
set_option maxRecDepth 20000 in
theorem gX6_takesFirst_X6_kindBy : GoodIn wsX6_takesFirst (va_wsS RX6 83 yX6_kindBy wsX6_kindBy) := goodIn_app (goodIn_sub (fm_c (List.mem_cons_of_mem _ (List.mem_append_left _ (mg 2 rfl))) (fm_c (List.mem_cons_of_mem _ (List.mem_append_left _ (mg 3 rfl))) (fm_c (List.mem_cons_of_mem _ (List.mem_append_left _ (mg 4 rfl))) (fm_n)))) (by decide +kernel)) ggX6_takesFirst_X6_kindBy
set_option maxRecDepth 20000 in
theorem ggX6_takesFirst_X6_keepItem : GoodIn wsX6_takesFirst wsX6_keepItem := goodIn_sub (fm_c (List.mem_cons_of_mem _ (List.mem_append_left _ (mg 9 rfl))) (ms_a (fm_c (List.mem_cons_of_mem _ (List.mem_append_left _ (mg 10 rfl))) (fm_c (List.mem_cons_of_mem _ (List.mem_append_left _ (mg 0 rfl))) (fm_c (List.mem_cons_of_mem _ (List.mem_append_left _ (mg 11 rfl))) (fm_c (List.mem_cons_of_mem _ (List.mem_append_left _ (mg 1 rfl))) (fm_n))))) (fun _ h => List.mem_cons_of_mem _ (List.mem_append_right _ (h))))) (by decide +kernel)
set_option maxRecDepth 20000 in
theorem gX6_takesFirst_X6_keepItem : GoodIn wsX6_takesFirst (wsV RX6 87 RX6 yX6_keepItem wsX6_keepItem) := goodIn_app (goodIn_sub (fm_c (List.mem_cons_of_mem _ (List.mem_append_left _ (mg 6 rfl))) (fm_c (List.mem_cons_of_mem _ (List.mem_append_left _ (mg 7 rfl))) (fm_c (List.mem_cons_of_mem _ (List.mem_append_left _ (mg 8 rfl))) (fm_c (List.mem_cons_of_mem _ (List.mem_append_left _ (mg 4 rfl))) (fm_n))))) (by decide +kernel)) ggX6_takesFirst_X6_keepItem
theorem dX6_takesFirst_0 : decode cX6_takesFirst 0 = .ok (.iload_n 1, 1) := by decide +kernel
theorem dX6_takesFirst_1 : decode cX6_takesFirst 1 = .ok (.invokestatic 83, 3) := by decide +kernel
theorem dX6_takesFirst_4 : decode cX6_takesFirst 4 = .ok (.istore_n 2, 1) := by decide +kernel
theorem dX6_takesFirst_5 : decode cX6_takesFirst 5 = .ok (.iload_n 2, 1) := by decide +kernel
theorem dX6_takesFirst_6 : decode cX6_takesFirst 6 = .ok (.iconst (-1), 1) := by decide +kernel
theorem dX6_takesFirst_7 : decode cX6_takesFirst 7 = .ok (.if_icmp .eq 12, 3) := by decide +kernel
theorem dX6_takesFirst_10 : decode cX6_takesFirst 10 = .ok (.aload_n 0, 1) := by decide +kernel
theorem dX6_takesFirst_11 : decode cX6_takesFirst 11 = .ok (.getfield 77, 3) := by decide +kernel
theorem dX6_takesFirst_14 : decode cX6_takesFirst 14 = .ok (.bipush 24, 2) := by decide +kernel
theorem dX6_takesFirst_16 : decode cX6_takesFirst 16 = .ok (.if_icmp .ne 5, 3) := by decide +kernel
theorem dX6_takesFirst_19 : decode cX6_takesFirst 19 = .ok (.iconst 0, 1) := by decide +kernel
theorem dX6_takesFirst_20 : decode cX6_takesFirst 20 = .ok (.ireturn, 1) := by decide +kernel
theorem dX6_takesFirst_21 : decode cX6_takesFirst 21 = .ok (.iload_n 2, 1) := by decide +kernel
theorem dX6_takesFirst_22 : decode cX6_takesFirst 22 = .ok (.iconst 5, 1) := by decide +kernel
theorem dX6_takesFirst_23 : decode cX6_takesFirst 23 = .ok (.if_icmp .ne 12, 3) := by decide +kernel
theorem dX6_takesFirst_26 : decode cX6_takesFirst 26 = .ok (.aload_n 0, 1) := by decide +kernel
theorem dX6_takesFirst_27 : decode cX6_takesFirst 27 = .ok (.iconst 5, 1) := by decide +kernel
theorem dX6_takesFirst_28 : decode cX6_takesFirst 28 = .ok (.iconst 0, 1) := by decide +kernel
theorem dX6_takesFirst_29 : decode cX6_takesFirst 29 = .ok (.invokevirtual 87, 3) := by decide +kernel
theorem dX6_takesFirst_32 : decode cX6_takesFirst 32 = .ok (.goto 8, 3) := by decide +kernel
theorem dX6_takesFirst_35 : decode cX6_takesFirst 35 = .ok (.aload_n 0, 1) := by decide +kernel
theorem dX6_takesFirst_36 : decode cX6_takesFirst 36 = .ok (.iload_n 2, 1) := by decide +kernel
theorem dX6_takesFirst_37 : decode cX6_takesFirst 37 = .ok (.putfield 80, 3) := by decide +kernel
theorem dX6_takesFirst_40 : decode cX6_takesFirst 40 = .ok (.iconst 1, 1) := by decide +kernel
theorem dX6_takesFirst_41 : decode cX6_takesFirst 41 = .ok (.ireturn, 1) := by decide +kernel
set_option maxRecDepth 20000 in
theorem ggX6_takesLetter_X6_within : GoodIn wsX6_takesLetter wsX6_within := goodIn_sub (fm_c (List.mem_cons_of_mem _ (List.mem_append_left _ (mg 6 rfl))) (fm_n)) (by decide +kernel)
set_option maxRecDepth 20000 in
theorem gX6_takesLetter_X6_within : GoodIn wsX6_takesLetter (va_wsS RX6 70 yX6_within wsX6_within) := goodIn_app (goodIn_sub (fm_c (List.mem_cons_of_mem _ (List.mem_append_left _ (mg 3 rfl))) (fm_c (List.mem_cons_of_mem _ (List.mem_append_left _ (mg 4 rfl))) (fm_c (List.mem_cons_of_mem _ (List.mem_append_left _ (mg 5 rfl))) (fm_n)))) (by decide +kernel)) ggX6_takesLetter_X6_within
set_option maxRecDepth 20000 in
theorem ggX6_takesLetter_X6_keepItem : GoodIn wsX6_takesLetter wsX6_keepItem := goodIn_sub (fm_c (List.mem_cons_of_mem _ (List.mem_append_left _ (mg 10 rfl))) (ms_a (fm_c (List.mem_cons_of_mem _ (List.mem_append_left _ (mg 11 rfl))) (fm_c (List.mem_cons_of_mem _ (List.mem_append_left _ (mg 12 rfl))) (fm_c (List.mem_cons_of_mem _ (List.mem_append_left _ (mg 13 rfl))) (fm_c (List.mem_cons_of_mem _ (List.mem_append_left _ (mg 0 rfl))) (fm_n))))) (fun _ h => List.mem_cons_of_mem _ (List.mem_append_right _ (h))))) (by decide +kernel)
set_option maxRecDepth 20000 in
theorem gX6_takesLetter_X6_keepItem : GoodIn wsX6_takesLetter (wsV RX6 87 RX6 yX6_keepItem wsX6_keepItem) := goodIn_app (goodIn_sub (fm_c (List.mem_cons_of_mem _ (List.mem_append_left _ (mg 7 rfl))) (fm_c (List.mem_cons_of_mem _ (List.mem_append_left _ (mg 8 rfl))) (fm_c (List.mem_cons_of_mem _ (List.mem_append_left _ (mg 9 rfl))) (fm_c (List.mem_cons_of_mem _ (List.mem_append_left _ (mg 5 rfl))) (fm_n))))) (by decide +kernel)) ggX6_takesLetter_X6_keepItem
theorem dX6_takesLetter_0 : decode cX6_takesLetter 0 = .ok (.iload_n 1, 1) := by decide +kernel
theorem dX6_takesLetter_1 : decode cX6_takesLetter 1 = .ok (.bipush 65, 2) := by decide +kernel
theorem dX6_takesLetter_3 : decode cX6_takesLetter 3 = .ok (.isub, 1) := by decide +kernel
theorem dX6_takesLetter_4 : decode cX6_takesLetter 4 = .ok (.istore_n 2, 1) := by decide +kernel
theorem dX6_takesLetter_5 : decode cX6_takesLetter 5 = .ok (.iload_n 2, 1) := by decide +kernel
theorem dX6_takesLetter_6 : decode cX6_takesLetter 6 = .ok (.iconst 0, 1) := by decide +kernel
theorem dX6_takesLetter_7 : decode cX6_takesLetter 7 = .ok (.bipush 7, 2) := by decide +kernel
theorem dX6_takesLetter_9 : decode cX6_takesLetter 9 = .ok (.invokestatic 70, 3) := by decide +kernel
theorem dX6_takesLetter_12 : decode cX6_takesLetter 12 = .ok (.ifCond .eq 23, 3) := by decide +kernel
theorem dX6_takesLetter_15 : decode cX6_takesLetter 15 = .ok (.aload_n 0, 1) := by decide +kernel
theorem dX6_takesLetter_16 : decode cX6_takesLetter 16 = .ok (.getfield 80, 3) := by decide +kernel
theorem dX6_takesLetter_19 : decode cX6_takesLetter 19 = .ok (.iconst 3, 1) := by decide +kernel
theorem dX6_takesLetter_20 : decode cX6_takesLetter 20 = .ok (.if_icmp .ne 17, 3) := by decide +kernel
theorem dX6_takesLetter_23 : decode cX6_takesLetter 23 = .ok (.aload_n 0, 1) := by decide +kernel
theorem dX6_takesLetter_24 : decode cX6_takesLetter 24 = .ok (.getfield 91, 3) := by decide +kernel
theorem dX6_takesLetter_27 : decode cX6_takesLetter 27 = .ok (.iload_n 2, 1) := by decide +kernel
theorem dX6_takesLetter_28 : decode cX6_takesLetter 28 = .ok (.ishr, 1) := by decide +kernel
theorem dX6_takesLetter_29 : decode cX6_takesLetter 29 = .ok (.iconst 1, 1) := by decide +kernel
theorem dX6_takesLetter_30 : decode cX6_takesLetter 30 = .ok (.iand, 1) := by decide +kernel
theorem dX6_takesLetter_31 : decode cX6_takesLetter 31 = .ok (.iconst 1, 1) := by decide +kernel
theorem dX6_takesLetter_32 : decode cX6_takesLetter 32 = .ok (.if_icmp .ne 5, 3) := by decide +kernel
theorem dX6_takesLetter_35 : decode cX6_takesLetter 35 = .ok (.iconst 0, 1) := by decide +kernel
theorem dX6_takesLetter_36 : decode cX6_takesLetter 36 = .ok (.ireturn, 1) := by decide +kernel
theorem dX6_takesLetter_37 : decode cX6_takesLetter 37 = .ok (.aload_n 0, 1) := by decide +kernel
theorem dX6_takesLetter_38 : decode cX6_takesLetter 38 = .ok (.dup, 1) := by decide +kernel
theorem dX6_takesLetter_39 : decode cX6_takesLetter 39 = .ok (.getfield 91, 3) := by decide +kernel
theorem dX6_takesLetter_42 : decode cX6_takesLetter 42 = .ok (.aload_n 0, 1) := by decide +kernel
theorem dX6_takesLetter_43 : decode cX6_takesLetter 43 = .ok (.getfield 80, 3) := by decide +kernel
theorem dX6_takesLetter_46 : decode cX6_takesLetter 46 = .ok (.iconst 3, 1) := by decide +kernel
theorem dX6_takesLetter_47 : decode cX6_takesLetter 47 = .ok (.if_icmp .ne 9, 3) := by decide +kernel
theorem dX6_takesLetter_50 : decode cX6_takesLetter 50 = .ok (.iconst 1, 1) := by decide +kernel
theorem dX6_takesLetter_51 : decode cX6_takesLetter 51 = .ok (.iload_n 2, 1) := by decide +kernel
theorem dX6_takesLetter_52 : decode cX6_takesLetter 52 = .ok (.ishl, 1) := by decide +kernel
theorem dX6_takesLetter_53 : decode cX6_takesLetter 53 = .ok (.goto 4, 3) := by decide +kernel
theorem dX6_takesLetter_56 : decode cX6_takesLetter 56 = .ok (.iconst 0, 1) := by decide +kernel
theorem dX6_takesLetter_57 : decode cX6_takesLetter 57 = .ok (.ior, 1) := by decide +kernel
theorem dX6_takesLetter_58 : decode cX6_takesLetter 58 = .ok (.putfield 91, 3) := by decide +kernel
theorem dX6_takesLetter_61 : decode cX6_takesLetter 61 = .ok (.aload_n 0, 1) := by decide +kernel
theorem dX6_takesLetter_62 : decode cX6_takesLetter 62 = .ok (.dup, 1) := by decide +kernel
theorem dX6_takesLetter_63 : decode cX6_takesLetter 63 = .ok (.getfield 94, 3) := by decide +kernel
theorem dX6_takesLetter_66 : decode cX6_takesLetter 66 = .ok (.aload_n 0, 1) := by decide +kernel
theorem dX6_takesLetter_67 : decode cX6_takesLetter 67 = .ok (.getfield 80, 3) := by decide +kernel
theorem dX6_takesLetter_70 : decode cX6_takesLetter 70 = .ok (.iconst 2, 1) := by decide +kernel
theorem dX6_takesLetter_71 : decode cX6_takesLetter 71 = .ok (.if_icmp .ne 9, 3) := by decide +kernel
theorem dX6_takesLetter_74 : decode cX6_takesLetter 74 = .ok (.iconst 1, 1) := by decide +kernel
theorem dX6_takesLetter_75 : decode cX6_takesLetter 75 = .ok (.iload_n 2, 1) := by decide +kernel
theorem dX6_takesLetter_76 : decode cX6_takesLetter 76 = .ok (.ishl, 1) := by decide +kernel
theorem dX6_takesLetter_77 : decode cX6_takesLetter 77 = .ok (.goto 4, 3) := by decide +kernel
theorem dX6_takesLetter_80 : decode cX6_takesLetter 80 = .ok (.iconst 0, 1) := by decide +kernel
theorem dX6_takesLetter_81 : decode cX6_takesLetter 81 = .ok (.ior, 1) := by decide +kernel
theorem dX6_takesLetter_82 : decode cX6_takesLetter 82 = .ok (.putfield 94, 3) := by decide +kernel
theorem dX6_takesLetter_85 : decode cX6_takesLetter 85 = .ok (.aload_n 0, 1) := by decide +kernel
theorem dX6_takesLetter_86 : decode cX6_takesLetter 86 = .ok (.aload_n 0, 1) := by decide +kernel
theorem dX6_takesLetter_87 : decode cX6_takesLetter 87 = .ok (.getfield 80, 3) := by decide +kernel
theorem dX6_takesLetter_90 : decode cX6_takesLetter 90 = .ok (.iload_n 2, 1) := by decide +kernel
theorem dX6_takesLetter_91 : decode cX6_takesLetter 91 = .ok (.invokevirtual 87, 3) := by decide +kernel
theorem dX6_takesLetter_94 : decode cX6_takesLetter 94 = .ok (.iconst 1, 1) := by decide +kernel
theorem dX6_takesLetter_95 : decode cX6_takesLetter 95 = .ok (.ireturn, 1) := by decide +kernel
set_option maxRecDepth 20000 in
theorem ggX6_takesFigure_X6_within : GoodIn wsX6_takesFigure wsX6_within := goodIn_sub (fm_c (List.mem_cons_of_mem _ (List.mem_append_left _ (mg 4 rfl))) (fm_n)) (by decide +kernel)
set_option maxRecDepth 20000 in
theorem gX6_takesFigure_X6_within : GoodIn wsX6_takesFigure (va_wsS RX6 70 yX6_within wsX6_within) := goodIn_app (goodIn_sub (fm_c (List.mem_cons_of_mem _ (List.mem_append_left _ (mg 1 rfl))) (fm_c (List.mem_cons_of_mem _ (List.mem_append_left _ (mg 2 rfl))) (fm_c (List.mem_cons_of_mem _ (List.mem_append_left _ (mg 3 rfl))) (fm_n)))) (by decide +kernel)) ggX6_takesFigure_X6_within
set_option maxRecDepth 20000 in
theorem ggX6_takesFigure_X6_keepItem : GoodIn wsX6_takesFigure wsX6_keepItem := goodIn_sub (fm_c (List.mem_cons_of_mem _ (List.mem_append_left _ (mg 8 rfl))) (ms_a (fm_c (List.mem_cons_of_mem _ (List.mem_append_left _ (mg 9 rfl))) (fm_c (List.mem_cons_of_mem _ (List.mem_append_left _ (mg 10 rfl))) (fm_c (List.mem_cons_of_mem _ (List.mem_append_left _ (mg 11 rfl))) (fm_c (List.mem_cons_of_mem _ (List.mem_append_left _ (mg 0 rfl))) (fm_n))))) (fun _ h => List.mem_cons_of_mem _ (List.mem_append_right _ (h))))) (by decide +kernel)
set_option maxRecDepth 20000 in
theorem gX6_takesFigure_X6_keepItem : GoodIn wsX6_takesFigure (wsV RX6 87 RX6 yX6_keepItem wsX6_keepItem) := goodIn_app (goodIn_sub (fm_c (List.mem_cons_of_mem _ (List.mem_append_left _ (mg 5 rfl))) (fm_c (List.mem_cons_of_mem _ (List.mem_append_left _ (mg 6 rfl))) (fm_c (List.mem_cons_of_mem _ (List.mem_append_left _ (mg 7 rfl))) (fm_c (List.mem_cons_of_mem _ (List.mem_append_left _ (mg 3 rfl))) (fm_n))))) (by decide +kernel)) ggX6_takesFigure_X6_keepItem
theorem dX6_takesFigure_0 : decode cX6_takesFigure 0 = .ok (.aload_n 0, 1) := by decide +kernel
theorem dX6_takesFigure_1 : decode cX6_takesFigure 1 = .ok (.getfield 80, 3) := by decide +kernel
theorem dX6_takesFigure_4 : decode cX6_takesFigure 4 = .ok (.ifCond .ne 13, 3) := by decide +kernel
theorem dX6_takesFigure_7 : decode cX6_takesFigure 7 = .ok (.iload_n 1, 1) := by decide +kernel
theorem dX6_takesFigure_8 : decode cX6_takesFigure 8 = .ok (.iconst 1, 1) := by decide +kernel
theorem dX6_takesFigure_9 : decode cX6_takesFigure 9 = .ok (.bipush 9, 2) := by decide +kernel
theorem dX6_takesFigure_11 : decode cX6_takesFigure 11 = .ok (.invokestatic 70, 3) := by decide +kernel
theorem dX6_takesFigure_14 : decode cX6_takesFigure 14 = .ok (.goto 27, 3) := by decide +kernel
theorem dX6_takesFigure_17 : decode cX6_takesFigure 17 = .ok (.aload_n 0, 1) := by decide +kernel
theorem dX6_takesFigure_18 : decode cX6_takesFigure 18 = .ok (.getfield 80, 3) := by decide +kernel
theorem dX6_takesFigure_21 : decode cX6_takesFigure 21 = .ok (.iconst 1, 1) := by decide +kernel
theorem dX6_takesFigure_22 : decode cX6_takesFigure 22 = .ok (.if_icmp .ne 13, 3) := by decide +kernel
theorem dX6_takesFigure_25 : decode cX6_takesFigure 25 = .ok (.iload_n 1, 1) := by decide +kernel
theorem dX6_takesFigure_26 : decode cX6_takesFigure 26 = .ok (.iconst 0, 1) := by decide +kernel
theorem dX6_takesFigure_27 : decode cX6_takesFigure 27 = .ok (.bipush 9, 2) := by decide +kernel
theorem dX6_takesFigure_29 : decode cX6_takesFigure 29 = .ok (.invokestatic 70, 3) := by decide +kernel
theorem dX6_takesFigure_32 : decode cX6_takesFigure 32 = .ok (.goto 9, 3) := by decide +kernel
theorem dX6_takesFigure_35 : decode cX6_takesFigure 35 = .ok (.iload_n 1, 1) := by decide +kernel
theorem dX6_takesFigure_36 : decode cX6_takesFigure 36 = .ok (.iconst 1, 1) := by decide +kernel
theorem dX6_takesFigure_37 : decode cX6_takesFigure 37 = .ok (.iconst 3, 1) := by decide +kernel
theorem dX6_takesFigure_38 : decode cX6_takesFigure 38 = .ok (.invokestatic 70, 3) := by decide +kernel
theorem dX6_takesFigure_41 : decode cX6_takesFigure 41 = .ok (.istore_n 2, 1) := by decide +kernel
theorem dX6_takesFigure_42 : decode cX6_takesFigure 42 = .ok (.iload_n 2, 1) := by decide +kernel
theorem dX6_takesFigure_43 : decode cX6_takesFigure 43 = .ok (.ifCond .eq 26, 3) := by decide +kernel
theorem dX6_takesFigure_46 : decode cX6_takesFigure 46 = .ok (.aload_n 0, 1) := by decide +kernel
theorem dX6_takesFigure_47 : decode cX6_takesFigure 47 = .ok (.aload_n 0, 1) := by decide +kernel
theorem dX6_takesFigure_48 : decode cX6_takesFigure 48 = .ok (.getfield 80, 3) := by decide +kernel
theorem dX6_takesFigure_51 : decode cX6_takesFigure 51 = .ok (.aload_n 0, 1) := by decide +kernel
theorem dX6_takesFigure_52 : decode cX6_takesFigure 52 = .ok (.getfield 80, 3) := by decide +kernel
theorem dX6_takesFigure_55 : decode cX6_takesFigure 55 = .ok (.iconst 4, 1) := by decide +kernel
theorem dX6_takesFigure_56 : decode cX6_takesFigure 56 = .ok (.if_icmp .ne 9, 3) := by decide +kernel
theorem dX6_takesFigure_59 : decode cX6_takesFigure 59 = .ok (.iconst 1, 1) := by decide +kernel
theorem dX6_takesFigure_60 : decode cX6_takesFigure 60 = .ok (.iload_n 1, 1) := by decide +kernel
theorem dX6_takesFigure_61 : decode cX6_takesFigure 61 = .ok (.ishl, 1) := by decide +kernel
theorem dX6_takesFigure_62 : decode cX6_takesFigure 62 = .ok (.goto 4, 3) := by decide +kernel
theorem dX6_takesFigure_65 : decode cX6_takesFigure 65 = .ok (.iload_n 1, 1) := by decide +kernel
theorem dX6_takesFigure_66 : decode cX6_takesFigure 66 = .ok (.invokevirtual 87, 3) := by decide +kernel
theorem dX6_takesFigure_69 : decode cX6_takesFigure 69 = .ok (.iload_n 2, 1) := by decide +kernel
theorem dX6_takesFigure_70 : decode cX6_takesFigure 70 = .ok (.ireturn, 1) := by decide +kernel
theorem qX6_takes_r1 {w : Cond} (h : w ∈ wsX6_takes_r1) : w ∈ wsX6_takes := List.mem_cons_of_mem _ (List.mem_append_left _ (List.mem_append_left _ (h)))
theorem qX6_takes_r2 {w : Cond} (h : w ∈ wsX6_takes_r2) : w ∈ wsX6_takes := List.mem_cons_of_mem _ (List.mem_append_left _ (List.mem_append_right _ (h)))
set_option maxRecDepth 20000 in
theorem ggX6_takes_X6_takesFirst : GoodIn wsX6_takes wsX6_takesFirst := goodIn_sub (fm_c (qX6_takes_r1 (mg 5 rfl)) (ms_a (fm_c (qX6_takes_r1 (mg 6 rfl)) (fm_c (qX6_takes_r1 (mg 0 rfl)) (fm_c (qX6_takes_r1 (mg 7 rfl)) (fm_c (qX6_takes_r1 (mg 8 rfl)) (fm_c (qX6_takes_r1 (mg 4 rfl)) (fm_c (qX6_takes_r1 (mg 9 rfl)) (fm_c (qX6_takes_r1 (mg 10 rfl)) (fm_c (qX6_takes_r1 (mg 11 rfl)) (fm_c (qX6_takes_r1 (mg 12 rfl)) (fm_c (qX6_takes_r1 (mg 13 rfl)) (fm_c (qX6_takes_r1 (mg 14 rfl)) (fm_c (qX6_takes_r1 (mg 15 rfl)) (fm_n))))))))))))) (fun _ h => List.mem_cons_of_mem _ (List.mem_append_right _ (h))))) (by decide +kernel)
set_option maxRecDepth 20000 in
theorem gX6_takes_X6_takesFirst : GoodIn wsX6_takes (wsV RX6 97 RX6 yX6_takesFirst wsX6_takesFirst) := goodIn_app (goodIn_sub (fm_c (qX6_takes_r1 (mg 1 rfl)) (fm_c (qX6_takes_r1 (mg 2 rfl)) (fm_c (qX6_takes_r1 (mg 3 rfl)) (fm_c (qX6_takes_r1 (mg 4 rfl)) (fm_n))))) (by decide +kernel)) ggX6_takes_X6_takesFirst
set_option maxRecDepth 20000 in
theorem ggX6_takes_X6_takesLetter : GoodIn wsX6_takes wsX6_takesLetter := goodIn_sub (fm_c (qX6_takes_r1 (mg 19 rfl)) (ms_a (fm_c (qX6_takes_r1 (mg 0 rfl)) (fm_c (qX6_takes_r1 (mg 20 rfl)) (fm_c (qX6_takes_r1 (mg 21 rfl)) (fm_c (qX6_takes_r1 (mg 22 rfl)) (fm_c (qX6_takes_r1 (mg 23 rfl)) (fm_c (qX6_takes_r1 (mg 4 rfl)) (fm_c (qX6_takes_r2 (mg 0 rfl)) (fm_c (qX6_takes_r1 (mg 10 rfl)) (fm_c (qX6_takes_r1 (mg 11 rfl)) (fm_c (qX6_takes_r1 (mg 12 rfl)) (fm_c (qX6_takes_r1 (mg 13 rfl)) (fm_c (qX6_takes_r1 (mg 14 rfl)) (fm_c (qX6_takes_r1 (mg 6 rfl)) (fm_c (qX6_takes_r1 (mg 15 rfl)) (fm_n))))))))))))))) (fun _ h => List.mem_cons_of_mem _ (List.mem_append_right _ (h))))) (by decide +kernel)
set_option maxRecDepth 20000 in
theorem gX6_takes_X6_takesLetter : GoodIn wsX6_takes (wsV RX6 101 RX6 yX6_takesLetter wsX6_takesLetter) := goodIn_app (goodIn_sub (fm_c (qX6_takes_r1 (mg 16 rfl)) (fm_c (qX6_takes_r1 (mg 17 rfl)) (fm_c (qX6_takes_r1 (mg 18 rfl)) (fm_c (qX6_takes_r1 (mg 4 rfl)) (fm_n))))) (by decide +kernel)) ggX6_takes_X6_takesLetter
set_option maxRecDepth 20000 in
theorem ggX6_takes_X6_takesFigure : GoodIn wsX6_takes wsX6_takesFigure := goodIn_sub (fm_c (qX6_takes_r2 (mg 4 rfl)) (ms_a (fm_c (qX6_takes_r1 (mg 0 rfl)) (fm_c (qX6_takes_r1 (mg 22 rfl)) (fm_c (qX6_takes_r1 (mg 23 rfl)) (fm_c (qX6_takes_r1 (mg 4 rfl)) (fm_c (qX6_takes_r2 (mg 0 rfl)) (fm_c (qX6_takes_r1 (mg 10 rfl)) (fm_c (qX6_takes_r1 (mg 11 rfl)) (fm_c (qX6_takes_r1 (mg 12 rfl)) (fm_c (qX6_takes_r1 (mg 13 rfl)) (fm_c (qX6_takes_r1 (mg 14 rfl)) (fm_c (qX6_takes_r1 (mg 6 rfl)) (fm_c (qX6_takes_r1 (mg 15 rfl)) (fm_n))))))))))))) (fun _ h => List.mem_cons_of_mem _ (List.mem_append_right _ (h))))) (by decide +kernel)
set_option maxRecDepth 20000 in
theorem gX6_takes_X6_takesFigure : GoodIn wsX6_takes (wsV RX6 104 RX6 yX6_takesFigure wsX6_takesFigure) := goodIn_app (goodIn_sub (fm_c (qX6_takes_r2 (mg 1 rfl)) (fm_c (qX6_takes_r2 (mg 2 rfl)) (fm_c (qX6_takes_r2 (mg 3 rfl)) (fm_c (qX6_takes_r1 (mg 4 rfl)) (fm_n))))) (by decide +kernel)) ggX6_takes_X6_takesFigure
theorem dX6_takes_0 : decode cX6_takes 0 = .ok (.aload_n 0, 1) := by decide +kernel
theorem dX6_takes_1 : decode cX6_takes 1 = .ok (.getfield 80, 3) := by decide +kernel
theorem dX6_takes_4 : decode cX6_takes 4 = .ok (.iconst (-1), 1) := by decide +kernel
theorem dX6_takes_5 : decode cX6_takes 5 = .ok (.if_icmp .ne 9, 3) := by decide +kernel
theorem dX6_takes_8 : decode cX6_takes 8 = .ok (.aload_n 0, 1) := by decide +kernel
theorem dX6_takes_9 : decode cX6_takes 9 = .ok (.iload_n 1, 1) := by decide +kernel
theorem dX6_takes_10 : decode cX6_takes 10 = .ok (.invokevirtual 97, 3) := by decide +kernel
theorem dX6_takes_13 : decode cX6_takes 13 = .ok (.ireturn, 1) := by decide +kernel
theorem dX6_takes_14 : decode cX6_takes 14 = .ok (.aload_n 0, 1) := by decide +kernel
theorem dX6_takes_15 : decode cX6_takes 15 = .ok (.getfield 80, 3) := by decide +kernel
theorem dX6_takes_18 : decode cX6_takes 18 = .ok (.iconst 2, 1) := by decide +kernel
theorem dX6_takes_19 : decode cX6_takes 19 = .ok (.if_icmp .eq 11, 3) := by decide +kernel
theorem dX6_takes_22 : decode cX6_takes 22 = .ok (.aload_n 0, 1) := by decide +kernel
theorem dX6_takes_23 : decode cX6_takes 23 = .ok (.getfield 80, 3) := by decide +kernel
theorem dX6_takes_26 : decode cX6_takes 26 = .ok (.iconst 3, 1) := by decide +kernel
theorem dX6_takes_27 : decode cX6_takes 27 = .ok (.if_icmp .ne 11, 3) := by decide +kernel
theorem dX6_takes_30 : decode cX6_takes 30 = .ok (.aload_n 0, 1) := by decide +kernel
theorem dX6_takes_31 : decode cX6_takes 31 = .ok (.iload_n 1, 1) := by decide +kernel
theorem dX6_takes_32 : decode cX6_takes 32 = .ok (.invokevirtual 101, 3) := by decide +kernel
theorem dX6_takes_35 : decode cX6_takes 35 = .ok (.goto 11, 3) := by decide +kernel
theorem dX6_takes_38 : decode cX6_takes 38 = .ok (.aload_n 0, 1) := by decide +kernel
theorem dX6_takes_39 : decode cX6_takes 39 = .ok (.iload_n 1, 1) := by decide +kernel
theorem dX6_takes_40 : decode cX6_takes 40 = .ok (.bipush 48, 2) := by decide +kernel
theorem dX6_takes_42 : decode cX6_takes 42 = .ok (.isub, 1) := by decide +kernel
theorem dX6_takes_43 : decode cX6_takes 43 = .ok (.invokevirtual 104, 3) := by decide +kernel
theorem dX6_takes_46 : decode cX6_takes 46 = .ok (.ireturn, 1) := by decide +kernel
theorem qX6_goAlong_r1 {w : Cond} (h : w ∈ wsX6_goAlong_r1) : w ∈ wsX6_goAlong := List.mem_cons_of_mem _ (List.mem_append_left _ (List.mem_append_left _ (h)))
theorem qX6_goAlong_r2 {w : Cond} (h : w ∈ wsX6_goAlong_r2) : w ∈ wsX6_goAlong := List.mem_cons_of_mem _ (List.mem_append_left _ (List.mem_append_right _ (h)))
set_option maxRecDepth 20000 in
theorem ggX6_goAlong_X6_takes : GoodIn wsX6_goAlong wsX6_takes := goodIn_sub (fm_c (qX6_goAlong_r1 (mg 10 rfl)) (ms_a (ms_a (fm_c (qX6_goAlong_r1 (mg 1 rfl)) (fm_c (qX6_goAlong_r1 (mg 11 rfl)) (fm_c (qX6_goAlong_r1 (mg 12 rfl)) (fm_c (qX6_goAlong_r1 (mg 13 rfl)) (fm_c (qX6_goAlong_r1 (mg 9 rfl)) (fm_c (qX6_goAlong_r1 (mg 14 rfl)) (fm_c (qX6_goAlong_r1 (mg 0 rfl)) (fm_c (qX6_goAlong_r1 (mg 15 rfl)) (fm_c (qX6_goAlong_r1 (mg 16 rfl)) (fm_c (qX6_goAlong_r1 (mg 17 rfl)) (fm_c (qX6_goAlong_r1 (mg 18 rfl)) (fm_c (qX6_goAlong_r1 (mg 19 rfl)) (fm_c (qX6_goAlong_r1 (mg 20 rfl)) (fm_c (qX6_goAlong_r1 (mg 21 rfl)) (fm_c (qX6_goAlong_r1 (mg 22 rfl)) (fm_c (qX6_goAlong_r1 (mg 23 rfl)) (fm_c (qX6_goAlong_r2 (mg 0 rfl)) (fm_c (qX6_goAlong_r2 (mg 1 rfl)) (fm_c (qX6_goAlong_r2 (mg 2 rfl)) (fm_c (qX6_goAlong_r2 (mg 3 rfl)) (fm_c (qX6_goAlong_r1 (mg 2 rfl)) (fm_c (qX6_goAlong_r1 (mg 3 rfl)) (fm_c (qX6_goAlong_r2 (mg 4 rfl)) (fm_c (qX6_goAlong_r2 (mg 5 rfl)) (fm_n))))))))))))))))))))))))) (fm_c (qX6_goAlong_r2 (mg 6 rfl)) (fm_c (qX6_goAlong_r2 (mg 7 rfl)) (fm_c (qX6_goAlong_r2 (mg 8 rfl)) (fm_c (qX6_goAlong_r2 (mg 9 rfl)) (fm_c (qX6_goAlong_r2 (mg 10 rfl)) (fm_n))))))) (fun _ h => List.mem_cons_of_mem _ (List.mem_append_right _ (h))))) (by decide +kernel)
set_option maxRecDepth 20000 in
theorem gX6_goAlong_X6_takes : GoodIn wsX6_goAlong (wsV RX6 107 RX6 yX6_takes wsX6_takes) := goodIn_app (goodIn_sub (fm_c (qX6_goAlong_r1 (mg 6 rfl)) (fm_c (qX6_goAlong_r1 (mg 7 rfl)) (fm_c (qX6_goAlong_r1 (mg 8 rfl)) (fm_c (qX6_goAlong_r1 (mg 9 rfl)) (fm_n))))) (by decide +kernel)) ggX6_goAlong_X6_takes
theorem dX6_goAlong_0 : decode cX6_goAlong 0 = .ok (.aload_n 0, 1) := by decide +kernel
theorem dX6_goAlong_1 : decode cX6_goAlong 1 = .ok (.iconst 0, 1) := by decide +kernel
theorem dX6_goAlong_2 : decode cX6_goAlong 2 = .ok (.putfield 77, 3) := by decide +kernel
theorem dX6_goAlong_5 : decode cX6_goAlong 5 = .ok (.aload_n 0, 1) := by decide +kernel
theorem dX6_goAlong_6 : decode cX6_goAlong 6 = .ok (.iconst (-1), 1) := by decide +kernel
theorem dX6_goAlong_7 : decode cX6_goAlong 7 = .ok (.putfield 80, 3) := by decide +kernel
theorem dX6_goAlong_10 : decode cX6_goAlong 10 = .ok (.aload_n 0, 1) := by decide +kernel
theorem dX6_goAlong_11 : decode cX6_goAlong 11 = .ok (.iconst 0, 1) := by decide +kernel
theorem dX6_goAlong_12 : decode cX6_goAlong 12 = .ok (.putfield 91, 3) := by decide +kernel
theorem dX6_goAlong_15 : decode cX6_goAlong 15 = .ok (.aload_n 0, 1) := by decide +kernel
theorem dX6_goAlong_16 : decode cX6_goAlong 16 = .ok (.iconst 0, 1) := by decide +kernel
theorem dX6_goAlong_17 : decode cX6_goAlong 17 = .ok (.putfield 94, 3) := by decide +kernel
theorem dX6_goAlong_20 : decode cX6_goAlong 20 = .ok (.iconst 0, 1) := by decide +kernel
theorem dX6_goAlong_21 : decode cX6_goAlong 21 = .ok (.istore_n 1, 1) := by decide +kernel
theorem dX6_goAlong_22 : decode cX6_goAlong 22 = .ok (.iload_n 1, 1) := by decide +kernel
theorem dX6_goAlong_23 : decode cX6_goAlong 23 = .ok (.aload_n 0, 1) := by decide +kernel
theorem dX6_goAlong_24 : decode cX6_goAlong 24 = .ok (.getfield 74, 3) := by decide +kernel
theorem dX6_goAlong_27 : decode cX6_goAlong 27 = .ok (.if_icmp .ge 22, 3) := by decide +kernel
theorem dX6_goAlong_30 : decode cX6_goAlong 30 = .ok (.aload_n 0, 1) := by decide +kernel
theorem dX6_goAlong_31 : decode cX6_goAlong 31 = .ok (.aload_n 0, 1) := by decide +kernel
theorem dX6_goAlong_32 : decode cX6_goAlong 32 = .ok (.getfield 7, 3) := by decide +kernel
theorem dX6_goAlong_35 : decode cX6_goAlong 35 = .ok (.iload_n 1, 1) := by decide +kernel
theorem dX6_goAlong_36 : decode cX6_goAlong 36 = .ok (.iaload, 1) := by decide +kernel
theorem dX6_goAlong_37 : decode cX6_goAlong 37 = .ok (.invokevirtual 107, 3) := by decide +kernel
theorem dX6_goAlong_40 : decode cX6_goAlong 40 = .ok (.ifCond .eq 9, 3) := by decide +kernel
theorem dX6_goAlong_43 : decode cX6_goAlong 43 = .ok (.iinc 1 1, 3) := by decide +kernel
theorem dX6_goAlong_46 : decode cX6_goAlong 46 = .ok (.goto (-24), 3) := by decide +kernel
theorem dX6_goAlong_49 : decode cX6_goAlong 49 = .ok (.iload_n 1, 1) := by decide +kernel
theorem dX6_goAlong_50 : decode cX6_goAlong 50 = .ok (.ireturn, 1) := by decide +kernel
theorem qX6_fault_r1 {w : Cond} (h : w ∈ wsX6_fault_r1) : w ∈ wsX6_fault := List.mem_cons_of_mem _ (List.mem_append_left _ (List.mem_append_left _ (h)))
theorem qX6_fault_r2 {w : Cond} (h : w ∈ wsX6_fault_r2) : w ∈ wsX6_fault := List.mem_cons_of_mem _ (List.mem_append_left _ (List.mem_append_right _ (h)))
set_option maxRecDepth 20000 in
theorem ggX6_fault_X6_goAlong : GoodIn wsX6_fault wsX6_goAlong := goodIn_sub (fm_c (qX6_fault_r1 (mg 4 rfl)) (ms_a (ms_a (fm_c (qX6_fault_r1 (mg 5 rfl)) (fm_c (qX6_fault_r1 (mg 6 rfl)) (fm_c (qX6_fault_r1 (mg 7 rfl)) (fm_c (qX6_fault_r1 (mg 8 rfl)) (fm_c (qX6_fault_r1 (mg 9 rfl)) (fm_c (qX6_fault_r1 (mg 10 rfl)) (fm_c (qX6_fault_r1 (mg 11 rfl)) (fm_c (qX6_fault_r1 (mg 12 rfl)) (fm_c (qX6_fault_r1 (mg 13 rfl)) (fm_c (qX6_fault_r1 (mg 3 rfl)) (fm_c (qX6_fault_r1 (mg 14 rfl)) (fm_c (qX6_fault_r1 (mg 15 rfl)) (fm_c (qX6_fault_r1 (mg 16 rfl)) (fm_c (qX6_fault_r1 (mg 17 rfl)) (fm_c (qX6_fault_r1 (mg 18 rfl)) (fm_c (qX6_fault_r1 (mg 19 rfl)) (fm_c (qX6_fault_r1 (mg 20 rfl)) (fm_c (qX6_fault_r1 (mg 21 rfl)) (fm_c (qX6_fault_r1 (mg 22 rfl)) (fm_c (qX6_fault_r1 (mg 23 rfl)) (fm_c (qX6_fault_r2 (mg 0 rfl)) (fm_c (qX6_fault_r2 (mg 1 rfl)) (fm_c (qX6_fault_r2 (mg 2 rfl)) (fm_c (qX6_fault_r2 (mg 3 rfl)) (fm_n))))))))))))))))))))))))) (fm_c (qX6_fault_r2 (mg 4 rfl)) (fm_c (qX6_fault_r2 (mg 5 rfl)) (fm_c (qX6_fault_r2 (mg 6 rfl)) (fm_c (qX6_fault_r2 (mg 7 rfl)) (fm_c (qX6_fault_r2 (mg 8 rfl)) (fm_c (qX6_fault_r2 (mg 9 rfl)) (fm_c (qX6_fault_r2 (mg 10 rfl)) (fm_c (qX6_fault_r2 (mg 11 rfl)) (fm_c (qX6_fault_r2 (mg 12 rfl)) (fm_c (qX6_fault_r2 (mg 13 rfl)) (fm_c (qX6_fault_r2 (mg 14 rfl)) (fm_n))))))))))))) (fun _ h => List.mem_cons_of_mem _ (List.mem_append_right _ (h))))) (by decide +kernel)
set_option maxRecDepth 20000 in
theorem gX6_fault_X6_goAlong : GoodIn wsX6_fault (wsV RX6 110 RX6 yX6_goAlong wsX6_goAlong) := goodIn_app (goodIn_sub (fm_c (qX6_fault_r1 (mg 0 rfl)) (fm_c (qX6_fault_r1 (mg 1 rfl)) (fm_c (qX6_fault_r1 (mg 2 rfl)) (fm_c (qX6_fault_r1 (mg 3 rfl)) (fm_n))))) (by decide +kernel)) ggX6_fault_X6_goAlong
theorem dX6_fault_0 : decode cX6_fault 0 = .ok (.aload_n 0, 1) := by decide +kernel
theorem dX6_fault_1 : decode cX6_fault 1 = .ok (.invokevirtual 110, 3) := by decide +kernel
theorem dX6_fault_4 : decode cX6_fault 4 = .ok (.ireturn, 1) := by decide +kernel
theorem qX6_code_r1 {w : Cond} (h : w ∈ wsX6_code_r1) : w ∈ wsX6_code := List.mem_cons_of_mem _ (List.mem_append_left _ (List.mem_append_left _ (h)))
theorem qX6_code_r2 {w : Cond} (h : w ∈ wsX6_code_r2) : w ∈ wsX6_code := List.mem_cons_of_mem _ (List.mem_append_left _ (List.mem_append_right _ (List.mem_append_left _ (h))))
theorem qX6_code_r3 {w : Cond} (h : w ∈ wsX6_code_r3) : w ∈ wsX6_code := List.mem_cons_of_mem _ (List.mem_append_left _ (List.mem_append_right _ (List.mem_append_right _ (List.mem_append_left _ (h)))))
theorem qX6_code_r4 {w : Cond} (h : w ∈ wsX6_code_r4) : w ∈ wsX6_code := List.mem_cons_of_mem _ (List.mem_append_left _ (List.mem_append_right _ (List.mem_append_right _ (List.mem_append_right _ (List.mem_append_left _ (h))))))
theorem qX6_code_r5 {w : Cond} (h : w ∈ wsX6_code_r5) : w ∈ wsX6_code := List.mem_cons_of_mem _ (List.mem_append_left _ (List.mem_append_right _ (List.mem_append_right _ (List.mem_append_right _ (List.mem_append_right _ (List.mem_append_left _ (h)))))))
theorem qX6_code_r6 {w : Cond} (h : w ∈ wsX6_code_r6) : w ∈ wsX6_code := List.mem_cons_of_mem _ (List.mem_append_left _ (List.mem_append_right _ (List.mem_append_right _ (List.mem_append_right _ (List.mem_append_right _ (List.mem_append_right _ (h)))))))
set_option maxRecDepth 20000 in
theorem ggX6_code_X6_goAlong : GoodIn wsX6_code wsX6_goAlong := goodIn_sub (fm_c (qX6_code_r1 (mg 15 rfl)) (ms_a (ms_a (fm_c (qX6_code_r1 (mg 2 rfl)) (fm_c (qX6_code_r1 (mg 1 rfl)) (fm_c (qX6_code_r1 (mg 4 rfl)) (fm_c (qX6_code_r1 (mg 3 rfl)) (fm_c (qX6_code_r1 (mg 0 rfl)) (fm_c (qX6_code_r1 (mg 16 rfl)) (fm_c (qX6_code_r1 (mg 17 rfl)) (fm_c (qX6_code_r1 (mg 18 rfl)) (fm_c (qX6_code_r1 (mg 19 rfl)) (fm_c (qX6_code_r1 (mg 14 rfl)) (fm_c (qX6_code_r1 (mg 20 rfl)) (fm_c (qX6_code_r1 (mg 21 rfl)) (fm_c (qX6_code_r1 (mg 22 rfl)) (fm_c (qX6_code_r1 (mg 23 rfl)) (fm_c (qX6_code_r2 (mg 0 rfl)) (fm_c (qX6_code_r2 (mg 1 rfl)) (fm_c (qX6_code_r2 (mg 2 rfl)) (fm_c (qX6_code_r2 (mg 3 rfl)) (fm_c (qX6_code_r2 (mg 4 rfl)) (fm_c (qX6_code_r2 (mg 5 rfl)) (fm_c (qX6_code_r2 (mg 6 rfl)) (fm_c (qX6_code_r2 (mg 7 rfl)) (fm_c (qX6_code_r1 (mg 7 rfl)) (fm_c (qX6_code_r1 (mg 9 rfl)) (fm_n))))))))))))))))))))))))) (fm_c (qX6_code_r2 (mg 8 rfl)) (fm_c (qX6_code_r2 (mg 9 rfl)) (fm_c (qX6_code_r2 (mg 10 rfl)) (fm_c (qX6_code_r2 (mg 11 rfl)) (fm_c (qX6_code_r2 (mg 12 rfl)) (fm_c (qX6_code_r2 (mg 13 rfl)) (fm_c (qX6_code_r2 (mg 14 rfl)) (fm_c (qX6_code_r2 (mg 15 rfl)) (fm_c (qX6_code_r2 (mg 16 rfl)) (fm_c (qX6_code_r2 (mg 17 rfl)) (fm_c (qX6_code_r2 (mg 18 rfl)) (fm_n))))))))))))) (fun _ h => List.mem_cons_of_mem _ (List.mem_append_right _ (h))))) (by decide +kernel)
set_option maxRecDepth 20000 in
theorem gX6_code_X6_goAlong : GoodIn wsX6_code (wsV RX6 110 RX6 yX6_goAlong wsX6_goAlong) := goodIn_app (goodIn_sub (fm_c (qX6_code_r1 (mg 11 rfl)) (fm_c (qX6_code_r1 (mg 12 rfl)) (fm_c (qX6_code_r1 (mg 13 rfl)) (fm_c (qX6_code_r1 (mg 14 rfl)) (fm_n))))) (by decide +kernel)) ggX6_code_X6_goAlong
set_option maxRecDepth 20000 in
theorem ggX6_code_X6_placeAll : GoodIn wsX6_code wsX6_placeAll := goodIn_sub (fm_c (qX6_code_r2 (mg 22 rfl)) (ms_a (ms_a (fm_c (qX6_code_r2 (mg 23 rfl)) (fm_c (qX6_code_r3 (mg 0 rfl)) (fm_c (qX6_code_r3 (mg 1 rfl)) (fm_c (qX6_code_r3 (mg 2 rfl)) (fm_c (qX6_code_r3 (mg 3 rfl)) (fm_c (qX6_code_r3 (mg 4 rfl)) (fm_c (qX6_code_r1 (mg 5 rfl)) (fm_c (qX6_code_r3 (mg 5 rfl)) (fm_c (qX6_code_r3 (mg 6 rfl)) (fm_c (qX6_code_r3 (mg 7 rfl)) (fm_c (qX6_code_r3 (mg 8 rfl)) (fm_c (qX6_code_r1 (mg 14 rfl)) (fm_c (qX6_code_r3 (mg 9 rfl)) (fm_c (qX6_code_r3 (mg 10 rfl)) (fm_c (qX6_code_r3 (mg 11 rfl)) (fm_c (qX6_code_r1 (mg 6 rfl)) (fm_c (qX6_code_r3 (mg 12 rfl)) (fm_c (qX6_code_r1 (mg 8 rfl)) (fm_c (qX6_code_r3 (mg 13 rfl)) (fm_c (qX6_code_r3 (mg 14 rfl)) (fm_c (qX6_code_r3 (mg 15 rfl)) (fm_c (qX6_code_r3 (mg 16 rfl)) (fm_c (qX6_code_r3 (mg 17 rfl)) (fm_c (qX6_code_r3 (mg 18 rfl)) (fm_n))))))))))))))))))))))))) (ms_a (fm_c (qX6_code_r3 (mg 19 rfl)) (fm_c (qX6_code_r3 (mg 20 rfl)) (fm_c (qX6_code_r3 (mg 21 rfl)) (fm_c (qX6_code_r3 (mg 22 rfl)) (fm_c (qX6_code_r3 (mg 23 rfl)) (fm_c (qX6_code_r4 (mg 0 rfl)) (fm_c (qX6_code_r4 (mg 1 rfl)) (fm_c (qX6_code_r4 (mg 2 rfl)) (fm_c (qX6_code_r4 (mg 3 rfl)) (fm_c (qX6_code_r4 (mg 4 rfl)) (fm_c (qX6_code_r4 (mg 5 rfl)) (fm_c (qX6_code_r4 (mg 6 rfl)) (fm_c (qX6_code_r4 (mg 7 rfl)) (fm_c (qX6_code_r4 (mg 8 rfl)) (fm_c (qX6_code_r4 (mg 9 rfl)) (fm_c (qX6_code_r4 (mg 10 rfl)) (fm_c (qX6_code_r4 (mg 11 rfl)) (fm_c (qX6_code_r4 (mg 12 rfl)) (fm_c (qX6_code_r4 (mg 13 rfl)) (fm_c (qX6_code_r4 (mg 14 rfl)) (fm_c (qX6_code_r4 (mg 15 rfl)) (fm_c (qX6_code_r4 (mg 16 rfl)) (fm_c (qX6_code_r4 (mg 17 rfl)) (fm_c (qX6_code_r4 (mg 18 rfl)) (fm_n))))))))))))))))))))))))) (ms_a (fm_c (qX6_code_r4 (mg 19 rfl)) (fm_c (qX6_code_r4 (mg 20 rfl)) (fm_c (qX6_code_r4 (mg 21 rfl)) (fm_c (qX6_code_r4 (mg 22 rfl)) (fm_c (qX6_code_r4 (mg 23 rfl)) (fm_c (qX6_code_r5 (mg 0 rfl)) (fm_c (qX6_code_r5 (mg 1 rfl)) (fm_c (qX6_code_r5 (mg 2 rfl)) (fm_c (qX6_code_r5 (mg 3 rfl)) (fm_c (qX6_code_r5 (mg 4 rfl)) (fm_c (qX6_code_r5 (mg 5 rfl)) (fm_c (qX6_code_r5 (mg 6 rfl)) (fm_c (qX6_code_r5 (mg 7 rfl)) (fm_c (qX6_code_r5 (mg 8 rfl)) (fm_c (qX6_code_r5 (mg 9 rfl)) (fm_c (qX6_code_r5 (mg 10 rfl)) (fm_c (qX6_code_r5 (mg 11 rfl)) (fm_c (qX6_code_r5 (mg 12 rfl)) (fm_c (qX6_code_r5 (mg 13 rfl)) (fm_c (qX6_code_r5 (mg 14 rfl)) (fm_c (qX6_code_r5 (mg 15 rfl)) (fm_c (qX6_code_r5 (mg 16 rfl)) (fm_c (qX6_code_r5 (mg 17 rfl)) (fm_c (qX6_code_r5 (mg 18 rfl)) (fm_n))))))))))))))))))))))))) (fm_c (qX6_code_r5 (mg 19 rfl)) (fm_c (qX6_code_r5 (mg 20 rfl)) (fm_c (qX6_code_r5 (mg 21 rfl)) (fm_c (qX6_code_r5 (mg 22 rfl)) (fm_c (qX6_code_r5 (mg 23 rfl)) (fm_c (qX6_code_r6 (mg 0 rfl)) (fm_c (qX6_code_r6 (mg 1 rfl)) (fm_c (qX6_code_r6 (mg 2 rfl)) (fm_c (qX6_code_r6 (mg 3 rfl)) (fm_c (qX6_code_r6 (mg 4 rfl)) (fm_c (qX6_code_r6 (mg 5 rfl)) (fm_c (qX6_code_r6 (mg 6 rfl)) (fm_c (qX6_code_r6 (mg 7 rfl)) (fm_c (qX6_code_r6 (mg 8 rfl)) (fm_c (qX6_code_r6 (mg 9 rfl)) (fm_c (qX6_code_r6 (mg 10 rfl)) (fm_c (qX6_code_r6 (mg 11 rfl)) (fm_c (qX6_code_r6 (mg 12 rfl)) (fm_c (qX6_code_r6 (mg 13 rfl)) (fm_c (qX6_code_r6 (mg 14 rfl)) (fm_c (qX6_code_r6 (mg 15 rfl)) (fm_c (qX6_code_r6 (mg 16 rfl)) (fm_c (qX6_code_r6 (mg 17 rfl)) (fm_n))))))))))))))))))))))))))) (fun _ h => List.mem_cons_of_mem _ (List.mem_append_right _ (h))))) (by decide +kernel)
set_option maxRecDepth 20000 in
theorem gX6_code_X6_placeAll : GoodIn wsX6_code (wsV RX6 120 RX6 yX6_placeAll wsX6_placeAll) := goodIn_app (goodIn_sub (fm_c (qX6_code_r2 (mg 19 rfl)) (fm_c (qX6_code_r2 (mg 20 rfl)) (fm_c (qX6_code_r2 (mg 21 rfl)) (fm_c (qX6_code_r1 (mg 14 rfl)) (fm_n))))) (by decide +kernel)) ggX6_code_X6_placeAll
theorem dX6_code_0 : decode cX6_code 0 = .ok (.aload_n 0, 1) := by decide +kernel
theorem dX6_code_1 : decode cX6_code 1 = .ok (.invokevirtual 110, 3) := by decide +kernel
theorem dX6_code_4 : decode cX6_code 4 = .ok (.aload_n 0, 1) := by decide +kernel
theorem dX6_code_5 : decode cX6_code 5 = .ok (.getfield 74, 3) := by decide +kernel
theorem dX6_code_8 : decode cX6_code 8 = .ok (.if_icmp .lt 32, 3) := by decide +kernel
theorem dX6_code_11 : decode cX6_code 11 = .ok (.aload_n 0, 1) := by decide +kernel
theorem dX6_code_12 : decode cX6_code 12 = .ok (.getfield 80, 3) := by decide +kernel
theorem dX6_code_15 : decode cX6_code 15 = .ok (.iconst (-1), 1) := by decide +kernel
theorem dX6_code_16 : decode cX6_code 16 = .ok (.if_icmp .ne 24, 3) := by decide +kernel
theorem dX6_code_19 : decode cX6_code 19 = .ok (.aload_n 0, 1) := by decide +kernel
theorem dX6_code_20 : decode cX6_code 20 = .ok (.getfield 77, 3) := by decide +kernel
theorem dX6_code_23 : decode cX6_code 23 = .ok (.ifCond .eq 17, 3) := by decide +kernel
theorem dX6_code_26 : decode cX6_code 26 = .ok (.aload_n 0, 1) := by decide +kernel
theorem dX6_code_27 : decode cX6_code 27 = .ok (.getfield 94, 3) := by decide +kernel
theorem dX6_code_30 : decode cX6_code 30 = .ok (.aload_n 0, 1) := by decide +kernel
theorem dX6_code_31 : decode cX6_code 31 = .ok (.getfield 91, 3) := by decide +kernel
theorem dX6_code_34 : decode cX6_code 34 = .ok (.iconst (-1), 1) := by decide +kernel
theorem dX6_code_35 : decode cX6_code 35 = .ok (.ixor, 1) := by decide +kernel
theorem dX6_code_36 : decode cX6_code 36 = .ok (.iand, 1) := by decide +kernel
theorem dX6_code_37 : decode cX6_code 37 = .ok (.ifCond .eq 7, 3) := by decide +kernel
theorem dX6_code_40 : decode cX6_code 40 = .ok (.sipush (-1003), 3) := by decide +kernel
theorem dX6_code_43 : decode cX6_code 43 = .ok (.ireturn, 1) := by decide +kernel
theorem dX6_code_44 : decode cX6_code 44 = .ok (.aload_n 0, 1) := by decide +kernel
theorem dX6_code_45 : decode cX6_code 45 = .ok (.aload_n 0, 1) := by decide +kernel
theorem dX6_code_46 : decode cX6_code 46 = .ok (.getfield 77, 3) := by decide +kernel
theorem dX6_code_49 : decode cX6_code 49 = .ok (.putfield 114, 3) := by decide +kernel
theorem dX6_code_52 : decode cX6_code 52 = .ok (.iconst 0, 1) := by decide +kernel
theorem dX6_code_53 : decode cX6_code 53 = .ok (.istore_n 1, 1) := by decide +kernel
theorem dX6_code_54 : decode cX6_code 54 = .ok (.iload_n 1, 1) := by decide +kernel
theorem dX6_code_55 : decode cX6_code 55 = .ok (.aload_n 0, 1) := by decide +kernel
theorem dX6_code_56 : decode cX6_code 56 = .ok (.getfield 114, 3) := by decide +kernel
theorem dX6_code_59 : decode cX6_code 59 = .ok (.if_icmp .ge 33, 3) := by decide +kernel
theorem dX6_code_62 : decode cX6_code 62 = .ok (.aload_n 0, 1) := by decide +kernel
theorem dX6_code_63 : decode cX6_code 63 = .ok (.getfield 13, 3) := by decide +kernel
theorem dX6_code_66 : decode cX6_code 66 = .ok (.iload_n 1, 1) := by decide +kernel
theorem dX6_code_67 : decode cX6_code 67 = .ok (.aload_n 0, 1) := by decide +kernel
theorem dX6_code_68 : decode cX6_code 68 = .ok (.getfield 22, 3) := by decide +kernel
theorem dX6_code_71 : decode cX6_code 71 = .ok (.iload_n 1, 1) := by decide +kernel
theorem dX6_code_72 : decode cX6_code 72 = .ok (.iaload, 1) := by decide +kernel
theorem dX6_code_73 : decode cX6_code 73 = .ok (.iastore, 1) := by decide +kernel
theorem dX6_code_74 : decode cX6_code 74 = .ok (.aload_n 0, 1) := by decide +kernel
theorem dX6_code_75 : decode cX6_code 75 = .ok (.getfield 16, 3) := by decide +kernel
theorem dX6_code_78 : decode cX6_code 78 = .ok (.iload_n 1, 1) := by decide +kernel
theorem dX6_code_79 : decode cX6_code 79 = .ok (.aload_n 0, 1) := by decide +kernel
theorem dX6_code_80 : decode cX6_code 80 = .ok (.getfield 25, 3) := by decide +kernel
theorem dX6_code_83 : decode cX6_code 83 = .ok (.iload_n 1, 1) := by decide +kernel
theorem dX6_code_84 : decode cX6_code 84 = .ok (.iaload, 1) := by decide +kernel
theorem dX6_code_85 : decode cX6_code 85 = .ok (.iastore, 1) := by decide +kernel
theorem dX6_code_86 : decode cX6_code 86 = .ok (.iinc 1 1, 3) := by decide +kernel
theorem dX6_code_89 : decode cX6_code 89 = .ok (.goto (-35), 3) := by decide +kernel
theorem dX6_code_92 : decode cX6_code 92 = .ok (.aload_n 0, 1) := by decide +kernel
theorem dX6_code_93 : decode cX6_code 93 = .ok (.dup, 1) := by decide +kernel
theorem dX6_code_94 : decode cX6_code 94 = .ok (.getfield 117, 3) := by decide +kernel
theorem dX6_code_97 : decode cX6_code 97 = .ok (.iconst 1, 1) := by decide +kernel
theorem dX6_code_98 : decode cX6_code 98 = .ok (.iadd, 1) := by decide +kernel
theorem dX6_code_99 : decode cX6_code 99 = .ok (.putfield 117, 3) := by decide +kernel
theorem dX6_code_102 : decode cX6_code 102 = .ok (.aload_n 0, 1) := by decide +kernel
theorem dX6_code_103 : decode cX6_code 103 = .ok (.iconst 0, 1) := by decide +kernel
theorem dX6_code_104 : decode cX6_code 104 = .ok (.putfield 74, 3) := by decide +kernel
theorem dX6_code_107 : decode cX6_code 107 = .ok (.aload_n 0, 1) := by decide +kernel
theorem dX6_code_108 : decode cX6_code 108 = .ok (.invokevirtual 120, 3) := by decide +kernel
theorem dX6_code_111 : decode cX6_code 111 = .ok (.aload_n 0, 1) := by decide +kernel
theorem dX6_code_112 : decode cX6_code 112 = .ok (.getfield 114, 3) := by decide +kernel
theorem dX6_code_115 : decode cX6_code 115 = .ok (.ireturn, 1) := by decide +kernel
set_option maxRecDepth 20000 in
theorem ggX6_isItem_X6_within : GoodIn wsX6_isItem wsX6_within := goodIn_sub (fm_c (List.mem_cons_of_mem _ (List.mem_append_left _ (mg 4 rfl))) (fm_n)) (by decide +kernel)
set_option maxRecDepth 20000 in
theorem gX6_isItem_X6_within : GoodIn wsX6_isItem (va_wsS RX6 70 yX6_within wsX6_within) := goodIn_app (goodIn_sub (fm_c (List.mem_cons_of_mem _ (List.mem_append_left _ (mg 1 rfl))) (fm_c (List.mem_cons_of_mem _ (List.mem_append_left _ (mg 2 rfl))) (fm_c (List.mem_cons_of_mem _ (List.mem_append_left _ (mg 3 rfl))) (fm_n)))) (by decide +kernel)) ggX6_isItem_X6_within
theorem dX6_isItem_0 : decode cX6_isItem 0 = .ok (.iload_n 1, 1) := by decide +kernel
theorem dX6_isItem_1 : decode cX6_isItem 1 = .ok (.iconst 0, 1) := by decide +kernel
theorem dX6_isItem_2 : decode cX6_isItem 2 = .ok (.aload_n 0, 1) := by decide +kernel
theorem dX6_isItem_3 : decode cX6_isItem 3 = .ok (.getfield 114, 3) := by decide +kernel
theorem dX6_isItem_6 : decode cX6_isItem 6 = .ok (.iconst 1, 1) := by decide +kernel
theorem dX6_isItem_7 : decode cX6_isItem 7 = .ok (.isub, 1) := by decide +kernel
theorem dX6_isItem_8 : decode cX6_isItem 8 = .ok (.invokestatic 70, 3) := by decide +kernel
theorem dX6_isItem_11 : decode cX6_isItem 11 = .ok (.ireturn, 1) := by decide +kernel
theorem qX6_reach_r1 {w : Cond} (h : w ∈ wsX6_reach_r1) : w ∈ wsX6_reach := List.mem_cons_of_mem _ (List.mem_append_left _ (List.mem_append_left _ (h)))
theorem qX6_reach_r2 {w : Cond} (h : w ∈ wsX6_reach_r2) : w ∈ wsX6_reach := List.mem_cons_of_mem _ (List.mem_append_left _ (List.mem_append_right _ (List.mem_append_left _ (h))))
theorem qX6_reach_r3 {w : Cond} (h : w ∈ wsX6_reach_r3) : w ∈ wsX6_reach := List.mem_cons_of_mem _ (List.mem_append_left _ (List.mem_append_right _ (List.mem_append_right _ (List.mem_append_left _ (h)))))
theorem qX6_reach_r4 {w : Cond} (h : w ∈ wsX6_reach_r4) : w ∈ wsX6_reach := List.mem_cons_of_mem _ (List.mem_append_left _ (List.mem_append_right _ (List.mem_append_right _ (List.mem_append_right _ (List.mem_append_left _ (h))))))
theorem qX6_reach_r5 {w : Cond} (h : w ∈ wsX6_reach_r5) : w ∈ wsX6_reach := List.mem_cons_of_mem _ (List.mem_append_left _ (List.mem_append_right _ (List.mem_append_right _ (List.mem_append_right _ (List.mem_append_right _ (h))))))
set_option maxRecDepth 20000 in
theorem ggX6_reach_X6_within : GoodIn wsX6_reach wsX6_within := goodIn_sub (fm_c (qX6_reach_r1 (mg 5 rfl)) (fm_n)) (by decide +kernel)
set_option maxRecDepth 20000 in
theorem gX6_reach_X6_within : GoodIn wsX6_reach (va_wsS RX6 70 yX6_within wsX6_within) := goodIn_app (goodIn_sub (fm_c (qX6_reach_r1 (mg 2 rfl)) (fm_c (qX6_reach_r1 (mg 3 rfl)) (fm_c (qX6_reach_r1 (mg 4 rfl)) (fm_n)))) (by decide +kernel)) ggX6_reach_X6_within
set_option maxRecDepth 20000 in
theorem ggX6_reach_X6_placeAll : GoodIn wsX6_reach wsX6_placeAll := goodIn_sub (fm_c (qX6_reach_r1 (mg 9 rfl)) (ms_a (ms_a (fm_c (qX6_reach_r1 (mg 10 rfl)) (fm_c (qX6_reach_r1 (mg 11 rfl)) (fm_c (qX6_reach_r1 (mg 12 rfl)) (fm_c (qX6_reach_r1 (mg 13 rfl)) (fm_c (qX6_reach_r1 (mg 14 rfl)) (fm_c (qX6_reach_r1 (mg 15 rfl)) (fm_c (qX6_reach_r1 (mg 16 rfl)) (fm_c (qX6_reach_r1 (mg 17 rfl)) (fm_c (qX6_reach_r1 (mg 18 rfl)) (fm_c (qX6_reach_r1 (mg 19 rfl)) (fm_c (qX6_reach_r1 (mg 20 rfl)) (fm_c (qX6_reach_r1 (mg 4 rfl)) (fm_c (qX6_reach_r1 (mg 21 rfl)) (fm_c (qX6_reach_r1 (mg 22 rfl)) (fm_c (qX6_reach_r1 (mg 23 rfl)) (fm_c (qX6_reach_r2 (mg 0 rfl)) (fm_c (qX6_reach_r2 (mg 1 rfl)) (fm_c (qX6_reach_r2 (mg 2 rfl)) (fm_c (qX6_reach_r2 (mg 3 rfl)) (fm_c (qX6_reach_r2 (mg 4 rfl)) (fm_c (qX6_reach_r2 (mg 5 rfl)) (fm_c (qX6_reach_r2 (mg 6 rfl)) (fm_c (qX6_reach_r2 (mg 7 rfl)) (fm_c (qX6_reach_r2 (mg 8 rfl)) (fm_n))))))))))))))))))))))))) (ms_a (fm_c (qX6_reach_r2 (mg 9 rfl)) (fm_c (qX6_reach_r2 (mg 10 rfl)) (fm_c (qX6_reach_r2 (mg 11 rfl)) (fm_c (qX6_reach_r2 (mg 12 rfl)) (fm_c (qX6_reach_r2 (mg 13 rfl)) (fm_c (qX6_reach_r2 (mg 14 rfl)) (fm_c (qX6_reach_r2 (mg 15 rfl)) (fm_c (qX6_reach_r2 (mg 16 rfl)) (fm_c (qX6_reach_r2 (mg 17 rfl)) (fm_c (qX6_reach_r2 (mg 18 rfl)) (fm_c (qX6_reach_r2 (mg 19 rfl)) (fm_c (qX6_reach_r2 (mg 20 rfl)) (fm_c (qX6_reach_r2 (mg 21 rfl)) (fm_c (qX6_reach_r2 (mg 22 rfl)) (fm_c (qX6_reach_r2 (mg 23 rfl)) (fm_c (qX6_reach_r3 (mg 0 rfl)) (fm_c (qX6_reach_r3 (mg 1 rfl)) (fm_c (qX6_reach_r3 (mg 2 rfl)) (fm_c (qX6_reach_r3 (mg 3 rfl)) (fm_c (qX6_reach_r3 (mg 4 rfl)) (fm_c (qX6_reach_r3 (mg 5 rfl)) (fm_c (qX6_reach_r3 (mg 6 rfl)) (fm_c (qX6_reach_r3 (mg 7 rfl)) (fm_c (qX6_reach_r3 (mg 8 rfl)) (fm_n))))))))))))))))))))))))) (ms_a (fm_c (qX6_reach_r3 (mg 9 rfl)) (fm_c (qX6_reach_r3 (mg 10 rfl)) (fm_c (qX6_reach_r3 (mg 11 rfl)) (fm_c (qX6_reach_r3 (mg 12 rfl)) (fm_c (qX6_reach_r3 (mg 13 rfl)) (fm_c (qX6_reach_r3 (mg 14 rfl)) (fm_c (qX6_reach_r1 (mg 0 rfl)) (fm_c (qX6_reach_r3 (mg 15 rfl)) (fm_c (qX6_reach_r3 (mg 16 rfl)) (fm_c (qX6_reach_r3 (mg 17 rfl)) (fm_c (qX6_reach_r3 (mg 18 rfl)) (fm_c (qX6_reach_r3 (mg 19 rfl)) (fm_c (qX6_reach_r3 (mg 20 rfl)) (fm_c (qX6_reach_r3 (mg 21 rfl)) (fm_c (qX6_reach_r3 (mg 22 rfl)) (fm_c (qX6_reach_r3 (mg 23 rfl)) (fm_c (qX6_reach_r4 (mg 0 rfl)) (fm_c (qX6_reach_r4 (mg 1 rfl)) (fm_c (qX6_reach_r4 (mg 2 rfl)) (fm_c (qX6_reach_r4 (mg 3 rfl)) (fm_c (qX6_reach_r4 (mg 4 rfl)) (fm_c (qX6_reach_r4 (mg 5 rfl)) (fm_c (qX6_reach_r4 (mg 6 rfl)) (fm_c (qX6_reach_r4 (mg 7 rfl)) (fm_n))))))))))))))))))))))))) (fm_c (qX6_reach_r4 (mg 8 rfl)) (fm_c (qX6_reach_r4 (mg 9 rfl)) (fm_c (qX6_reach_r4 (mg 10 rfl)) (fm_c (qX6_reach_r4 (mg 11 rfl)) (fm_c (qX6_reach_r4 (mg 12 rfl)) (fm_c (qX6_reach_r4 (mg 13 rfl)) (fm_c (qX6_reach_r4 (mg 14 rfl)) (fm_c (qX6_reach_r4 (mg 15 rfl)) (fm_c (qX6_reach_r4 (mg 16 rfl)) (fm_c (qX6_reach_r4 (mg 17 rfl)) (fm_c (qX6_reach_r4 (mg 18 rfl)) (fm_c (qX6_reach_r4 (mg 19 rfl)) (fm_c (qX6_reach_r4 (mg 20 rfl)) (fm_c (qX6_reach_r4 (mg 21 rfl)) (fm_c (qX6_reach_r4 (mg 22 rfl)) (fm_c (qX6_reach_r4 (mg 23 rfl)) (fm_c (qX6_reach_r5 (mg 0 rfl)) (fm_c (qX6_reach_r5 (mg 1 rfl)) (fm_c (qX6_reach_r5 (mg 2 rfl)) (fm_c (qX6_reach_r5 (mg 3 rfl)) (fm_c (qX6_reach_r5 (mg 4 rfl)) (fm_c (qX6_reach_r5 (mg 5 rfl)) (fm_c (qX6_reach_r5 (mg 6 rfl)) (fm_n))))))))))))))))))))))))))) (fun _ h => List.mem_cons_of_mem _ (List.mem_append_right _ (h))))) (by decide +kernel)
set_option maxRecDepth 20000 in
theorem gX6_reach_X6_placeAll : GoodIn wsX6_reach (wsV RX6 120 RX6 yX6_placeAll wsX6_placeAll) := goodIn_app (goodIn_sub (fm_c (qX6_reach_r1 (mg 6 rfl)) (fm_c (qX6_reach_r1 (mg 7 rfl)) (fm_c (qX6_reach_r1 (mg 8 rfl)) (fm_c (qX6_reach_r1 (mg 4 rfl)) (fm_n))))) (by decide +kernel)) ggX6_reach_X6_placeAll
theorem dX6_reach_0 : decode cX6_reach 0 = .ok (.iload_n 1, 1) := by decide +kernel
theorem dX6_reach_1 : decode cX6_reach 1 = .ok (.iconst 0, 1) := by decide +kernel
theorem dX6_reach_2 : decode cX6_reach 2 = .ok (.iconst 2, 1) := by decide +kernel
theorem dX6_reach_3 : decode cX6_reach 3 = .ok (.invokestatic 70, 3) := by decide +kernel
theorem dX6_reach_6 : decode cX6_reach 6 = .ok (.ifCond .eq 30, 3) := by decide +kernel
theorem dX6_reach_9 : decode cX6_reach 9 = .ok (.iload_n 2, 1) := by decide +kernel
theorem dX6_reach_10 : decode cX6_reach 10 = .ok (.iload_n 1, 1) := by decide +kernel
theorem dX6_reach_11 : decode cX6_reach 11 = .ok (.ifCond .ne 7, 3) := by decide +kernel
theorem dX6_reach_14 : decode cX6_reach 14 = .ok (.iconst 2, 1) := by decide +kernel
theorem dX6_reach_15 : decode cX6_reach 15 = .ok (.goto 4, 3) := by decide +kernel
theorem dX6_reach_18 : decode cX6_reach 18 = .ok (.iconst 4, 1) := by decide +kernel
theorem dX6_reach_19 : decode cX6_reach 19 = .ok (.iload_n 1, 1) := by decide +kernel
theorem dX6_reach_20 : decode cX6_reach 20 = .ok (.ifCond .ne 8, 3) := by decide +kernel
theorem dX6_reach_23 : decode cX6_reach 23 = .ok (.bipush 60, 2) := by decide +kernel
theorem dX6_reach_25 : decode cX6_reach 25 = .ok (.goto 5, 3) := by decide +kernel
theorem dX6_reach_28 : decode cX6_reach 28 = .ok (.bipush 120, 2) := by decide +kernel
theorem dX6_reach_30 : decode cX6_reach 30 = .ok (.invokestatic 70, 3) := by decide +kernel
theorem dX6_reach_33 : decode cX6_reach 33 = .ok (.ifCond .ne 7, 3) := by decide +kernel
theorem dX6_reach_36 : decode cX6_reach 36 = .ok (.sipush (-1002), 3) := by decide +kernel
theorem dX6_reach_39 : decode cX6_reach 39 = .ok (.ireturn, 1) := by decide +kernel
theorem dX6_reach_40 : decode cX6_reach 40 = .ok (.aload_n 0, 1) := by decide +kernel
theorem dX6_reach_41 : decode cX6_reach 41 = .ok (.getfield 19, 3) := by decide +kernel
theorem dX6_reach_44 : decode cX6_reach 44 = .ok (.iload_n 1, 1) := by decide +kernel
theorem dX6_reach_45 : decode cX6_reach 45 = .ok (.iaload, 1) := by decide +kernel
theorem dX6_reach_46 : decode cX6_reach 46 = .ok (.istore_n 3, 1) := by decide +kernel
theorem dX6_reach_47 : decode cX6_reach 47 = .ok (.aload_n 0, 1) := by decide +kernel
theorem dX6_reach_48 : decode cX6_reach 48 = .ok (.getfield 19, 3) := by decide +kernel
theorem dX6_reach_51 : decode cX6_reach 51 = .ok (.iload_n 1, 1) := by decide +kernel
theorem dX6_reach_52 : decode cX6_reach 52 = .ok (.iload_n 2, 1) := by decide +kernel
theorem dX6_reach_53 : decode cX6_reach 53 = .ok (.iastore, 1) := by decide +kernel
theorem dX6_reach_54 : decode cX6_reach 54 = .ok (.aload_n 0, 1) := by decide +kernel
theorem dX6_reach_55 : decode cX6_reach 55 = .ok (.dup, 1) := by decide +kernel
theorem dX6_reach_56 : decode cX6_reach 56 = .ok (.getfield 123, 3) := by decide +kernel
theorem dX6_reach_59 : decode cX6_reach 59 = .ok (.iconst 1, 1) := by decide +kernel
theorem dX6_reach_60 : decode cX6_reach 60 = .ok (.iadd, 1) := by decide +kernel
theorem dX6_reach_61 : decode cX6_reach 61 = .ok (.putfield 123, 3) := by decide +kernel
theorem dX6_reach_64 : decode cX6_reach 64 = .ok (.aload_n 0, 1) := by decide +kernel
theorem dX6_reach_65 : decode cX6_reach 65 = .ok (.invokevirtual 120, 3) := by decide +kernel
theorem dX6_reach_68 : decode cX6_reach 68 = .ok (.iload_n 3, 1) := by decide +kernel
theorem dX6_reach_69 : decode cX6_reach 69 = .ok (.ireturn, 1) := by decide +kernel
theorem qX6_grow_r1 {w : Cond} (h : w ∈ wsX6_grow_r1) : w ∈ wsX6_grow := List.mem_cons_of_mem _ (List.mem_append_left _ (List.mem_append_left _ (h)))
theorem qX6_grow_r2 {w : Cond} (h : w ∈ wsX6_grow_r2) : w ∈ wsX6_grow := List.mem_cons_of_mem _ (List.mem_append_left _ (List.mem_append_right _ (List.mem_append_left _ (h))))
theorem qX6_grow_r3 {w : Cond} (h : w ∈ wsX6_grow_r3) : w ∈ wsX6_grow := List.mem_cons_of_mem _ (List.mem_append_left _ (List.mem_append_right _ (List.mem_append_right _ (List.mem_append_left _ (h)))))
theorem qX6_grow_r4 {w : Cond} (h : w ∈ wsX6_grow_r4) : w ∈ wsX6_grow := List.mem_cons_of_mem _ (List.mem_append_left _ (List.mem_append_right _ (List.mem_append_right _ (List.mem_append_right _ (List.mem_append_left _ (h))))))
theorem qX6_grow_r5 {w : Cond} (h : w ∈ wsX6_grow_r5) : w ∈ wsX6_grow := List.mem_cons_of_mem _ (List.mem_append_left _ (List.mem_append_right _ (List.mem_append_right _ (List.mem_append_right _ (List.mem_append_right _ (h))))))
set_option maxRecDepth 20000 in
theorem ggX6_grow_X6_isItem : GoodIn wsX6_grow wsX6_isItem := goodIn_sub (fm_c (qX6_grow_r1 (mg 7 rfl)) (ms_a (fm_c (qX6_grow_r1 (mg 8 rfl)) (fm_c (qX6_grow_r1 (mg 9 rfl)) (fm_c (qX6_grow_r1 (mg 10 rfl)) (fm_c (qX6_grow_r1 (mg 6 rfl)) (fm_c (qX6_grow_r1 (mg 11 rfl)) (fm_n)))))) (fun _ h => List.mem_cons_of_mem _ (List.mem_append_right _ (h))))) (by decide +kernel)
set_option maxRecDepth 20000 in
theorem gX6_grow_X6_isItem : GoodIn wsX6_grow (wsV RX6 126 RX6 yX6_isItem wsX6_isItem) := goodIn_app (goodIn_sub (fm_c (qX6_grow_r1 (mg 3 rfl)) (fm_c (qX6_grow_r1 (mg 4 rfl)) (fm_c (qX6_grow_r1 (mg 5 rfl)) (fm_c (qX6_grow_r1 (mg 6 rfl)) (fm_n))))) (by decide +kernel)) ggX6_grow_X6_isItem
set_option maxRecDepth 20000 in
theorem ggX6_grow_X6_within : GoodIn wsX6_grow wsX6_within := goodIn_sub (fm_c (qX6_grow_r1 (mg 11 rfl)) (fm_n)) (by decide +kernel)
set_option maxRecDepth 20000 in
theorem gX6_grow_X6_within : GoodIn wsX6_grow (va_wsS RX6 70 yX6_within wsX6_within) := goodIn_app (goodIn_sub (fm_c (qX6_grow_r1 (mg 9 rfl)) (fm_c (qX6_grow_r1 (mg 10 rfl)) (fm_c (qX6_grow_r1 (mg 6 rfl)) (fm_n)))) (by decide +kernel)) ggX6_grow_X6_within
set_option maxRecDepth 20000 in
theorem ggX6_grow_X6_placeAll : GoodIn wsX6_grow wsX6_placeAll := goodIn_sub (fm_c (qX6_grow_r1 (mg 15 rfl)) (ms_a (ms_a (fm_c (qX6_grow_r1 (mg 16 rfl)) (fm_c (qX6_grow_r1 (mg 17 rfl)) (fm_c (qX6_grow_r1 (mg 18 rfl)) (fm_c (qX6_grow_r1 (mg 19 rfl)) (fm_c (qX6_grow_r1 (mg 20 rfl)) (fm_c (qX6_grow_r1 (mg 21 rfl)) (fm_c (qX6_grow_r1 (mg 8 rfl)) (fm_c (qX6_grow_r1 (mg 22 rfl)) (fm_c (qX6_grow_r1 (mg 23 rfl)) (fm_c (qX6_grow_r2 (mg 0 rfl)) (fm_c (qX6_grow_r2 (mg 1 rfl)) (fm_c (qX6_grow_r1 (mg 6 rfl)) (fm_c (qX6_grow_r2 (mg 2 rfl)) (fm_c (qX6_grow_r2 (mg 3 rfl)) (fm_c (qX6_grow_r2 (mg 4 rfl)) (fm_c (qX6_grow_r1 (mg 0 rfl)) (fm_c (qX6_grow_r2 (mg 5 rfl)) (fm_c (qX6_grow_r1 (mg 1 rfl)) (fm_c (qX6_grow_r2 (mg 6 rfl)) (fm_c (qX6_grow_r2 (mg 7 rfl)) (fm_c (qX6_grow_r2 (mg 8 rfl)) (fm_c (qX6_grow_r2 (mg 9 rfl)) (fm_c (qX6_grow_r2 (mg 10 rfl)) (fm_c (qX6_grow_r2 (mg 11 rfl)) (fm_n))))))))))))))))))))))))) (ms_a (fm_c (qX6_grow_r2 (mg 12 rfl)) (fm_c (qX6_grow_r2 (mg 13 rfl)) (fm_c (qX6_grow_r2 (mg 14 rfl)) (fm_c (qX6_grow_r2 (mg 15 rfl)) (fm_c (qX6_grow_r2 (mg 16 rfl)) (fm_c (qX6_grow_r2 (mg 17 rfl)) (fm_c (qX6_grow_r2 (mg 18 rfl)) (fm_c (qX6_grow_r2 (mg 19 rfl)) (fm_c (qX6_grow_r2 (mg 20 rfl)) (fm_c (qX6_grow_r2 (mg 21 rfl)) (fm_c (qX6_grow_r2 (mg 22 rfl)) (fm_c (qX6_grow_r2 (mg 23 rfl)) (fm_c (qX6_grow_r3 (mg 0 rfl)) (fm_c (qX6_grow_r3 (mg 1 rfl)) (fm_c (qX6_grow_r3 (mg 2 rfl)) (fm_c (qX6_grow_r3 (mg 3 rfl)) (fm_c (qX6_grow_r3 (mg 4 rfl)) (fm_c (qX6_grow_r3 (mg 5 rfl)) (fm_c (qX6_grow_r3 (mg 6 rfl)) (fm_c (qX6_grow_r3 (mg 7 rfl)) (fm_c (qX6_grow_r3 (mg 8 rfl)) (fm_c (qX6_grow_r3 (mg 9 rfl)) (fm_c (qX6_grow_r3 (mg 10 rfl)) (fm_c (qX6_grow_r3 (mg 11 rfl)) (fm_n))))))))))))))))))))))))) (ms_a (fm_c (qX6_grow_r3 (mg 12 rfl)) (fm_c (qX6_grow_r3 (mg 13 rfl)) (fm_c (qX6_grow_r3 (mg 14 rfl)) (fm_c (qX6_grow_r3 (mg 15 rfl)) (fm_c (qX6_grow_r3 (mg 16 rfl)) (fm_c (qX6_grow_r3 (mg 17 rfl)) (fm_c (qX6_grow_r3 (mg 18 rfl)) (fm_c (qX6_grow_r3 (mg 19 rfl)) (fm_c (qX6_grow_r3 (mg 20 rfl)) (fm_c (qX6_grow_r3 (mg 21 rfl)) (fm_c (qX6_grow_r3 (mg 22 rfl)) (fm_c (qX6_grow_r3 (mg 23 rfl)) (fm_c (qX6_grow_r4 (mg 0 rfl)) (fm_c (qX6_grow_r4 (mg 1 rfl)) (fm_c (qX6_grow_r4 (mg 2 rfl)) (fm_c (qX6_grow_r4 (mg 3 rfl)) (fm_c (qX6_grow_r4 (mg 4 rfl)) (fm_c (qX6_grow_r4 (mg 5 rfl)) (fm_c (qX6_grow_r4 (mg 6 rfl)) (fm_c (qX6_grow_r4 (mg 7 rfl)) (fm_c (qX6_grow_r4 (mg 8 rfl)) (fm_c (qX6_grow_r4 (mg 9 rfl)) (fm_c (qX6_grow_r4 (mg 10 rfl)) (fm_c (qX6_grow_r4 (mg 11 rfl)) (fm_n))))))))))))))))))))))))) (fm_c (qX6_grow_r4 (mg 12 rfl)) (fm_c (qX6_grow_r4 (mg 13 rfl)) (fm_c (qX6_grow_r4 (mg 14 rfl)) (fm_c (qX6_grow_r4 (mg 15 rfl)) (fm_c (qX6_grow_r4 (mg 16 rfl)) (fm_c (qX6_grow_r4 (mg 17 rfl)) (fm_c (qX6_grow_r4 (mg 18 rfl)) (fm_c (qX6_grow_r4 (mg 19 rfl)) (fm_c (qX6_grow_r4 (mg 20 rfl)) (fm_c (qX6_grow_r4 (mg 21 rfl)) (fm_c (qX6_grow_r4 (mg 22 rfl)) (fm_c (qX6_grow_r4 (mg 23 rfl)) (fm_c (qX6_grow_r5 (mg 0 rfl)) (fm_c (qX6_grow_r5 (mg 1 rfl)) (fm_c (qX6_grow_r5 (mg 2 rfl)) (fm_c (qX6_grow_r5 (mg 3 rfl)) (fm_c (qX6_grow_r5 (mg 4 rfl)) (fm_c (qX6_grow_r5 (mg 5 rfl)) (fm_c (qX6_grow_r5 (mg 6 rfl)) (fm_c (qX6_grow_r5 (mg 7 rfl)) (fm_c (qX6_grow_r5 (mg 8 rfl)) (fm_c (qX6_grow_r5 (mg 9 rfl)) (fm_c (qX6_grow_r5 (mg 10 rfl)) (fm_n))))))))))))))))))))))))))) (fun _ h => List.mem_cons_of_mem _ (List.mem_append_right _ (h))))) (by decide +kernel)
set_option maxRecDepth 20000 in
theorem gX6_grow_X6_placeAll : GoodIn wsX6_grow (wsV RX6 120 RX6 yX6_placeAll wsX6_placeAll) := goodIn_app (goodIn_sub (fm_c (qX6_grow_r1 (mg 12 rfl)) (fm_c (qX6_grow_r1 (mg 13 rfl)) (fm_c (qX6_grow_r1 (mg 14 rfl)) (fm_c (qX6_grow_r1 (mg 6 rfl)) (fm_n))))) (by decide +kernel)) ggX6_grow_X6_placeAll
theorem dX6_grow_0 : decode cX6_grow 0 = .ok (.aload_n 0, 1) := by decide +kernel
theorem dX6_grow_1 : decode cX6_grow 1 = .ok (.iload_n 1, 1) := by decide +kernel
theorem dX6_grow_2 : decode cX6_grow 2 = .ok (.invokevirtual 126, 3) := by decide +kernel
theorem dX6_grow_5 : decode cX6_grow 5 = .ok (.ifCond .ne 7, 3) := by decide +kernel
theorem dX6_grow_8 : decode cX6_grow 8 = .ok (.sipush (-1001), 3) := by decide +kernel
theorem dX6_grow_11 : decode cX6_grow 11 = .ok (.ireturn, 1) := by decide +kernel
theorem dX6_grow_12 : decode cX6_grow 12 = .ok (.iload_n 2, 1) := by decide +kernel
theorem dX6_grow_13 : decode cX6_grow 13 = .ok (.iconst 1, 1) := by decide +kernel
theorem dX6_grow_14 : decode cX6_grow 14 = .ok (.bipush 40, 2) := by decide +kernel
theorem dX6_grow_16 : decode cX6_grow 16 = .ok (.invokestatic 70, 3) := by decide +kernel
theorem dX6_grow_19 : decode cX6_grow 19 = .ok (.ifCond .ne 7, 3) := by decide +kernel
theorem dX6_grow_22 : decode cX6_grow 22 = .ok (.sipush (-1002), 3) := by decide +kernel
theorem dX6_grow_25 : decode cX6_grow 25 = .ok (.ireturn, 1) := by decide +kernel
theorem dX6_grow_26 : decode cX6_grow 26 = .ok (.aload_n 0, 1) := by decide +kernel
theorem dX6_grow_27 : decode cX6_grow 27 = .ok (.getfield 13, 3) := by decide +kernel
theorem dX6_grow_30 : decode cX6_grow 30 = .ok (.iload_n 1, 1) := by decide +kernel
theorem dX6_grow_31 : decode cX6_grow 31 = .ok (.iaload, 1) := by decide +kernel
theorem dX6_grow_32 : decode cX6_grow 32 = .ok (.ifCond .eq 7, 3) := by decide +kernel
theorem dX6_grow_35 : decode cX6_grow 35 = .ok (.sipush (-1003), 3) := by decide +kernel
theorem dX6_grow_38 : decode cX6_grow 38 = .ok (.ireturn, 1) := by decide +kernel
theorem dX6_grow_39 : decode cX6_grow 39 = .ok (.aload_n 0, 1) := by decide +kernel
theorem dX6_grow_40 : decode cX6_grow 40 = .ok (.getfield 16, 3) := by decide +kernel
theorem dX6_grow_43 : decode cX6_grow 43 = .ok (.iload_n 1, 1) := by decide +kernel
theorem dX6_grow_44 : decode cX6_grow 44 = .ok (.iaload, 1) := by decide +kernel
theorem dX6_grow_45 : decode cX6_grow 45 = .ok (.istore_n 3, 1) := by decide +kernel
theorem dX6_grow_46 : decode cX6_grow 46 = .ok (.aload_n 0, 1) := by decide +kernel
theorem dX6_grow_47 : decode cX6_grow 47 = .ok (.getfield 16, 3) := by decide +kernel
theorem dX6_grow_50 : decode cX6_grow 50 = .ok (.iload_n 1, 1) := by decide +kernel
theorem dX6_grow_51 : decode cX6_grow 51 = .ok (.iload_n 2, 1) := by decide +kernel
theorem dX6_grow_52 : decode cX6_grow 52 = .ok (.iastore, 1) := by decide +kernel
theorem dX6_grow_53 : decode cX6_grow 53 = .ok (.aload_n 0, 1) := by decide +kernel
theorem dX6_grow_54 : decode cX6_grow 54 = .ok (.dup, 1) := by decide +kernel
theorem dX6_grow_55 : decode cX6_grow 55 = .ok (.getfield 123, 3) := by decide +kernel
theorem dX6_grow_58 : decode cX6_grow 58 = .ok (.iconst 1, 1) := by decide +kernel
theorem dX6_grow_59 : decode cX6_grow 59 = .ok (.iadd, 1) := by decide +kernel
theorem dX6_grow_60 : decode cX6_grow 60 = .ok (.putfield 123, 3) := by decide +kernel
theorem dX6_grow_63 : decode cX6_grow 63 = .ok (.aload_n 0, 1) := by decide +kernel
theorem dX6_grow_64 : decode cX6_grow 64 = .ok (.invokevirtual 120, 3) := by decide +kernel
theorem dX6_grow_67 : decode cX6_grow 67 = .ok (.iload_n 3, 1) := by decide +kernel
theorem dX6_grow_68 : decode cX6_grow 68 = .ok (.ireturn, 1) := by decide +kernel
theorem dX6_up_0 : decode cX6_up 0 = .ok (.iload_n 0, 1) := by decide +kernel
theorem dX6_up_1 : decode cX6_up 1 = .ok (.iload_n 1, 1) := by decide +kernel
theorem dX6_up_2 : decode cX6_up 2 = .ok (.iadd, 1) := by decide +kernel
theorem dX6_up_3 : decode cX6_up 3 = .ok (.iconst 1, 1) := by decide +kernel
theorem dX6_up_4 : decode cX6_up 4 = .ok (.isub, 1) := by decide +kernel
theorem dX6_up_5 : decode cX6_up 5 = .ok (.iload_n 1, 1) := by decide +kernel
theorem dX6_up_6 : decode cX6_up 6 = .ok (.idiv, 1) := by decide +kernel
theorem dX6_up_7 : decode cX6_up 7 = .ok (.iload_n 1, 1) := by decide +kernel
theorem dX6_up_8 : decode cX6_up 8 = .ok (.imul, 1) := by decide +kernel
theorem dX6_up_9 : decode cX6_up 9 = .ok (.ireturn, 1) := by decide +kernel
set_option maxRecDepth 20000 in
theorem ggX6_sizeOf_X6_up : GoodIn wsX6_sizeOf wsX6_up := goodIn_sub (fm_c (List.mem_cons_of_mem _ (List.mem_append_left _ (mg 6 rfl))) (fm_n)) (by decide +kernel)
set_option maxRecDepth 20000 in
theorem gX6_sizeOf_X6_up : GoodIn wsX6_sizeOf (va_wsS RX6 129 yX6_up wsX6_up) := goodIn_app (goodIn_sub (fm_c (List.mem_cons_of_mem _ (List.mem_append_left _ (mg 3 rfl))) (fm_c (List.mem_cons_of_mem _ (List.mem_append_left _ (mg 4 rfl))) (fm_c (List.mem_cons_of_mem _ (List.mem_append_left _ (mg 5 rfl))) (fm_n)))) (by decide +kernel)) ggX6_sizeOf_X6_up
theorem dX6_sizeOf_0 : decode cX6_sizeOf 0 = .ok (.aload_n 0, 1) := by decide +kernel
theorem dX6_sizeOf_1 : decode cX6_sizeOf 1 = .ok (.getfield 13, 3) := by decide +kernel
theorem dX6_sizeOf_4 : decode cX6_sizeOf 4 = .ok (.iload_n 1, 1) := by decide +kernel
theorem dX6_sizeOf_5 : decode cX6_sizeOf 5 = .ok (.iaload, 1) := by decide +kernel
theorem dX6_sizeOf_6 : decode cX6_sizeOf 6 = .ok (.tableswitch 71 0 4 #[34, 71, 41, 56, 58], 34) := by decide +kernel
theorem dX6_sizeOf_40 : decode cX6_sizeOf 40 = .ok (.aload_n 0, 1) := by decide +kernel
theorem dX6_sizeOf_41 : decode cX6_sizeOf 41 = .ok (.getfield 16, 3) := by decide +kernel
theorem dX6_sizeOf_44 : decode cX6_sizeOf 44 = .ok (.iload_n 1, 1) := by decide +kernel
theorem dX6_sizeOf_45 : decode cX6_sizeOf 45 = .ok (.iaload, 1) := by decide +kernel
theorem dX6_sizeOf_46 : decode cX6_sizeOf 46 = .ok (.ireturn, 1) := by decide +kernel
theorem dX6_sizeOf_47 : decode cX6_sizeOf 47 = .ok (.aload_n 0, 1) := by decide +kernel
theorem dX6_sizeOf_48 : decode cX6_sizeOf 48 = .ok (.getfield 28, 3) := by decide +kernel
theorem dX6_sizeOf_51 : decode cX6_sizeOf 51 = .ok (.iload_n 1, 1) := by decide +kernel
theorem dX6_sizeOf_52 : decode cX6_sizeOf 52 = .ok (.baload, 1) := by decide +kernel
theorem dX6_sizeOf_53 : decode cX6_sizeOf 53 = .ok (.ifCond .eq 7, 3) := by decide +kernel
theorem dX6_sizeOf_56 : decode cX6_sizeOf 56 = .ok (.iconst 4, 1) := by decide +kernel
theorem dX6_sizeOf_57 : decode cX6_sizeOf 57 = .ok (.goto 4, 3) := by decide +kernel
theorem dX6_sizeOf_60 : decode cX6_sizeOf 60 = .ok (.iconst 2, 1) := by decide +kernel
theorem dX6_sizeOf_61 : decode cX6_sizeOf 61 = .ok (.ireturn, 1) := by decide +kernel
theorem dX6_sizeOf_62 : decode cX6_sizeOf 62 = .ok (.iconst 0, 1) := by decide +kernel
theorem dX6_sizeOf_63 : decode cX6_sizeOf 63 = .ok (.ireturn, 1) := by decide +kernel
theorem dX6_sizeOf_64 : decode cX6_sizeOf 64 = .ok (.iload_n 2, 1) := by decide +kernel
theorem dX6_sizeOf_65 : decode cX6_sizeOf 65 = .ok (.aload_n 0, 1) := by decide +kernel
theorem dX6_sizeOf_66 : decode cX6_sizeOf 66 = .ok (.getfield 16, 3) := by decide +kernel
theorem dX6_sizeOf_69 : decode cX6_sizeOf 69 = .ok (.iload_n 1, 1) := by decide +kernel
theorem dX6_sizeOf_70 : decode cX6_sizeOf 70 = .ok (.iaload, 1) := by decide +kernel
theorem dX6_sizeOf_71 : decode cX6_sizeOf 71 = .ok (.invokestatic 129, 3) := by decide +kernel
theorem dX6_sizeOf_74 : decode cX6_sizeOf 74 = .ok (.iload_n 2, 1) := by decide +kernel
theorem dX6_sizeOf_75 : decode cX6_sizeOf 75 = .ok (.isub, 1) := by decide +kernel
theorem dX6_sizeOf_76 : decode cX6_sizeOf 76 = .ok (.ireturn, 1) := by decide +kernel
theorem dX6_sizeOf_77 : decode cX6_sizeOf 77 = .ok (.iconst 2, 1) := by decide +kernel
theorem dX6_sizeOf_78 : decode cX6_sizeOf 78 = .ok (.ireturn, 1) := by decide +kernel
set_option maxRecDepth 20000 in
theorem ggX6_layGap_X6_up : GoodIn wsX6_layGap wsX6_up := goodIn_sub (fm_c (List.mem_cons_of_mem _ (List.mem_append_left _ (mg 12 rfl))) (fm_n)) (by decide +kernel)
set_option maxRecDepth 20000 in
theorem gX6_layGap_X6_up : GoodIn wsX6_layGap (va_wsS RX6 129 yX6_up wsX6_up) := goodIn_app (goodIn_sub (fm_c (List.mem_cons_of_mem _ (List.mem_append_left _ (mg 9 rfl))) (fm_c (List.mem_cons_of_mem _ (List.mem_append_left _ (mg 10 rfl))) (fm_c (List.mem_cons_of_mem _ (List.mem_append_left _ (mg 11 rfl))) (fm_n)))) (by decide +kernel)) ggX6_layGap_X6_up
theorem dX6_layGap_0 : decode cX6_layGap 0 = .ok (.iload_n 2, 1) := by decide +kernel
theorem dX6_layGap_1 : decode cX6_layGap 1 = .ok (.istore_n 3, 1) := by decide +kernel
theorem dX6_layGap_2 : decode cX6_layGap 2 = .ok (.iconst 0, 1) := by decide +kernel
theorem dX6_layGap_3 : decode cX6_layGap 3 = .ok (.istore 4, 2) := by decide +kernel
theorem dX6_layGap_5 : decode cX6_layGap 5 = .ok (.iload 4, 2) := by decide +kernel
theorem dX6_layGap_7 : decode cX6_layGap 7 = .ok (.aload_n 0, 1) := by decide +kernel
theorem dX6_layGap_8 : decode cX6_layGap 8 = .ok (.getfield 133, 3) := by decide +kernel
theorem dX6_layGap_11 : decode cX6_layGap 11 = .ok (.if_icmp .ge 31, 3) := by decide +kernel
theorem dX6_layGap_14 : decode cX6_layGap 14 = .ok (.aload_n 0, 1) := by decide +kernel
theorem dX6_layGap_15 : decode cX6_layGap 15 = .ok (.getfield 35, 3) := by decide +kernel
theorem dX6_layGap_18 : decode cX6_layGap 18 = .ok (.iload 4, 2) := by decide +kernel
theorem dX6_layGap_20 : decode cX6_layGap 20 = .ok (.iaload, 1) := by decide +kernel
theorem dX6_layGap_21 : decode cX6_layGap 21 = .ok (.iload_n 1, 1) := by decide +kernel
theorem dX6_layGap_22 : decode cX6_layGap 22 = .ok (.if_icmp .ne 14, 3) := by decide +kernel
theorem dX6_layGap_25 : decode cX6_layGap 25 = .ok (.aload_n 0, 1) := by decide +kernel
theorem dX6_layGap_26 : decode cX6_layGap 26 = .ok (.getfield 47, 3) := by decide +kernel
theorem dX6_layGap_29 : decode cX6_layGap 29 = .ok (.iload 4, 2) := by decide +kernel
theorem dX6_layGap_31 : decode cX6_layGap 31 = .ok (.iload_n 3, 1) := by decide +kernel
theorem dX6_layGap_32 : decode cX6_layGap 32 = .ok (.iastore, 1) := by decide +kernel
theorem dX6_layGap_33 : decode cX6_layGap 33 = .ok (.iinc 3 4, 3) := by decide +kernel
theorem dX6_layGap_36 : decode cX6_layGap 36 = .ok (.iinc 4 1, 3) := by decide +kernel
theorem dX6_layGap_39 : decode cX6_layGap 39 = .ok (.goto (-34), 3) := by decide +kernel
theorem dX6_layGap_42 : decode cX6_layGap 42 = .ok (.aload_n 0, 1) := by decide +kernel
theorem dX6_layGap_43 : decode cX6_layGap 43 = .ok (.getfield 53, 3) := by decide +kernel
theorem dX6_layGap_46 : decode cX6_layGap 46 = .ok (.iload_n 1, 1) := by decide +kernel
theorem dX6_layGap_47 : decode cX6_layGap 47 = .ok (.iload_n 3, 1) := by decide +kernel
theorem dX6_layGap_48 : decode cX6_layGap 48 = .ok (.iastore, 1) := by decide +kernel
theorem dX6_layGap_49 : decode cX6_layGap 49 = .ok (.iconst 0, 1) := by decide +kernel
theorem dX6_layGap_50 : decode cX6_layGap 50 = .ok (.istore 4, 2) := by decide +kernel
theorem dX6_layGap_52 : decode cX6_layGap 52 = .ok (.iconst 0, 1) := by decide +kernel
theorem dX6_layGap_53 : decode cX6_layGap 53 = .ok (.istore 5, 2) := by decide +kernel
theorem dX6_layGap_55 : decode cX6_layGap 55 = .ok (.iload 5, 2) := by decide +kernel
theorem dX6_layGap_57 : decode cX6_layGap 57 = .ok (.aload_n 0, 1) := by decide +kernel
theorem dX6_layGap_58 : decode cX6_layGap 58 = .ok (.getfield 136, 3) := by decide +kernel
theorem dX6_layGap_61 : decode cX6_layGap 61 = .ok (.if_icmp .ge 65, 3) := by decide +kernel
theorem dX6_layGap_64 : decode cX6_layGap 64 = .ok (.aload_n 0, 1) := by decide +kernel
theorem dX6_layGap_65 : decode cX6_layGap 65 = .ok (.getfield 41, 3) := by decide +kernel
theorem dX6_layGap_68 : decode cX6_layGap 68 = .ok (.iload 5, 2) := by decide +kernel
theorem dX6_layGap_70 : decode cX6_layGap 70 = .ok (.iaload, 1) := by decide +kernel
theorem dX6_layGap_71 : decode cX6_layGap 71 = .ok (.iload_n 1, 1) := by decide +kernel
theorem dX6_layGap_72 : decode cX6_layGap 72 = .ok (.if_icmp .ne 48, 3) := by decide +kernel
theorem dX6_layGap_75 : decode cX6_layGap 75 = .ok (.aload_n 0, 1) := by decide +kernel
theorem dX6_layGap_76 : decode cX6_layGap 76 = .ok (.dup, 1) := by decide +kernel
theorem dX6_layGap_77 : decode cX6_layGap 77 = .ok (.getfield 139, 3) := by decide +kernel
theorem dX6_layGap_80 : decode cX6_layGap 80 = .ok (.iload 4, 2) := by decide +kernel
theorem dX6_layGap_82 : decode cX6_layGap 82 = .ok (.ifCond .eq 7, 3) := by decide +kernel
theorem dX6_layGap_85 : decode cX6_layGap 85 = .ok (.iconst 0, 1) := by decide +kernel
theorem dX6_layGap_86 : decode cX6_layGap 86 = .ok (.goto 10, 3) := by decide +kernel
theorem dX6_layGap_89 : decode cX6_layGap 89 = .ok (.iload_n 3, 1) := by decide +kernel
theorem dX6_layGap_90 : decode cX6_layGap 90 = .ok (.iconst 4, 1) := by decide +kernel
theorem dX6_layGap_91 : decode cX6_layGap 91 = .ok (.invokestatic 129, 3) := by decide +kernel
theorem dX6_layGap_94 : decode cX6_layGap 94 = .ok (.iload_n 3, 1) := by decide +kernel
theorem dX6_layGap_95 : decode cX6_layGap 95 = .ok (.isub, 1) := by decide +kernel
theorem dX6_layGap_96 : decode cX6_layGap 96 = .ok (.iadd, 1) := by decide +kernel
theorem dX6_layGap_97 : decode cX6_layGap 97 = .ok (.putfield 139, 3) := by decide +kernel
theorem dX6_layGap_100 : decode cX6_layGap 100 = .ok (.iload_n 3, 1) := by decide +kernel
theorem dX6_layGap_101 : decode cX6_layGap 101 = .ok (.iconst 4, 1) := by decide +kernel
theorem dX6_layGap_102 : decode cX6_layGap 102 = .ok (.invokestatic 129, 3) := by decide +kernel
theorem dX6_layGap_105 : decode cX6_layGap 105 = .ok (.istore_n 3, 1) := by decide +kernel
theorem dX6_layGap_106 : decode cX6_layGap 106 = .ok (.aload_n 0, 1) := by decide +kernel
theorem dX6_layGap_107 : decode cX6_layGap 107 = .ok (.getfield 50, 3) := by decide +kernel
theorem dX6_layGap_110 : decode cX6_layGap 110 = .ok (.iload 5, 2) := by decide +kernel
theorem dX6_layGap_112 : decode cX6_layGap 112 = .ok (.iload_n 3, 1) := by decide +kernel
theorem dX6_layGap_113 : decode cX6_layGap 113 = .ok (.iastore, 1) := by decide +kernel
theorem dX6_layGap_114 : decode cX6_layGap 114 = .ok (.iinc 3 4, 3) := by decide +kernel
theorem dX6_layGap_117 : decode cX6_layGap 117 = .ok (.iconst 1, 1) := by decide +kernel
theorem dX6_layGap_118 : decode cX6_layGap 118 = .ok (.istore 4, 2) := by decide +kernel
theorem dX6_layGap_120 : decode cX6_layGap 120 = .ok (.iinc 5 1, 3) := by decide +kernel
theorem dX6_layGap_123 : decode cX6_layGap 123 = .ok (.goto (-68), 3) := by decide +kernel
theorem dX6_layGap_126 : decode cX6_layGap 126 = .ok (.aload_n 0, 1) := by decide +kernel
theorem dX6_layGap_127 : decode cX6_layGap 127 = .ok (.getfield 56, 3) := by decide +kernel
theorem dX6_layGap_130 : decode cX6_layGap 130 = .ok (.iload_n 1, 1) := by decide +kernel
theorem dX6_layGap_131 : decode cX6_layGap 131 = .ok (.iload_n 3, 1) := by decide +kernel
theorem dX6_layGap_132 : decode cX6_layGap 132 = .ok (.iconst 4, 1) := by decide +kernel
theorem dX6_layGap_133 : decode cX6_layGap 133 = .ok (.invokestatic 129, 3) := by decide +kernel
theorem dX6_layGap_136 : decode cX6_layGap 136 = .ok (.iastore, 1) := by decide +kernel
theorem dX6_layGap_137 : decode cX6_layGap 137 = .ok (.iload_n 3, 1) := by decide +kernel
theorem dX6_layGap_138 : decode cX6_layGap 138 = .ok (.ireturn, 1) := by decide +kernel
theorem qX6_layAll_r1 {w : Cond} (h : w ∈ wsX6_layAll_r1) : w ∈ wsX6_layAll := List.mem_cons_of_mem _ (List.mem_append_left _ (List.mem_append_left _ (h)))
theorem qX6_layAll_r2 {w : Cond} (h : w ∈ wsX6_layAll_r2) : w ∈ wsX6_layAll := List.mem_cons_of_mem _ (List.mem_append_left _ (List.mem_append_right _ (h)))
set_option maxRecDepth 20000 in
theorem ggX6_layAll_X6_sizeOf : GoodIn wsX6_layAll wsX6_sizeOf := goodIn_sub (fm_c (qX6_layAll_r1 (mg 11 rfl)) (ms_a (fm_c (qX6_layAll_r1 (mg 3 rfl)) (fm_c (qX6_layAll_r1 (mg 5 rfl)) (fm_c (qX6_layAll_r1 (mg 12 rfl)) (fm_c (qX6_layAll_r1 (mg 13 rfl)) (fm_c (qX6_layAll_r1 (mg 14 rfl)) (fm_c (qX6_layAll_r1 (mg 10 rfl)) (fm_c (qX6_layAll_r1 (mg 15 rfl)) (fm_n)))))))) (fun _ h => List.mem_cons_of_mem _ (List.mem_append_right _ (h))))) (by decide +kernel)
set_option maxRecDepth 20000 in
theorem gX6_layAll_X6_sizeOf : GoodIn wsX6_layAll (wsV RX6 142 RX6 yX6_sizeOf wsX6_sizeOf) := goodIn_app (goodIn_sub (fm_c (qX6_layAll_r1 (mg 7 rfl)) (fm_c (qX6_layAll_r1 (mg 8 rfl)) (fm_c (qX6_layAll_r1 (mg 9 rfl)) (fm_c (qX6_layAll_r1 (mg 10 rfl)) (fm_n))))) (by decide +kernel)) ggX6_layAll_X6_sizeOf
set_option maxRecDepth 20000 in
theorem ggX6_layAll_X6_layGap : GoodIn wsX6_layAll wsX6_layGap := goodIn_sub (fm_c (qX6_layAll_r1 (mg 19 rfl)) (ms_a (fm_c (qX6_layAll_r1 (mg 20 rfl)) (fm_c (qX6_layAll_r1 (mg 21 rfl)) (fm_c (qX6_layAll_r1 (mg 22 rfl)) (fm_c (qX6_layAll_r1 (mg 23 rfl)) (fm_c (qX6_layAll_r2 (mg 0 rfl)) (fm_c (qX6_layAll_r2 (mg 1 rfl)) (fm_c (qX6_layAll_r1 (mg 0 rfl)) (fm_c (qX6_layAll_r2 (mg 2 rfl)) (fm_c (qX6_layAll_r2 (mg 3 rfl)) (fm_c (qX6_layAll_r1 (mg 13 rfl)) (fm_c (qX6_layAll_r1 (mg 14 rfl)) (fm_c (qX6_layAll_r1 (mg 10 rfl)) (fm_c (qX6_layAll_r1 (mg 15 rfl)) (fm_n)))))))))))))) (fun _ h => List.mem_cons_of_mem _ (List.mem_append_right _ (h))))) (by decide +kernel)
set_option maxRecDepth 20000 in
theorem gX6_layAll_X6_layGap : GoodIn wsX6_layAll (wsV RX6 145 RX6 yX6_layGap wsX6_layGap) := goodIn_app (goodIn_sub (fm_c (qX6_layAll_r1 (mg 16 rfl)) (fm_c (qX6_layAll_r1 (mg 17 rfl)) (fm_c (qX6_layAll_r1 (mg 18 rfl)) (fm_c (qX6_layAll_r1 (mg 10 rfl)) (fm_n))))) (by decide +kernel)) ggX6_layAll_X6_layGap
theorem dX6_layAll_0 : decode cX6_layAll 0 = .ok (.iconst 0, 1) := by decide +kernel
theorem dX6_layAll_1 : decode cX6_layAll 1 = .ok (.istore_n 1, 1) := by decide +kernel
theorem dX6_layAll_2 : decode cX6_layAll 2 = .ok (.aload_n 0, 1) := by decide +kernel
theorem dX6_layAll_3 : decode cX6_layAll 3 = .ok (.iconst 0, 1) := by decide +kernel
theorem dX6_layAll_4 : decode cX6_layAll 4 = .ok (.putfield 139, 3) := by decide +kernel
theorem dX6_layAll_7 : decode cX6_layAll 7 = .ok (.iconst 0, 1) := by decide +kernel
theorem dX6_layAll_8 : decode cX6_layAll 8 = .ok (.istore_n 2, 1) := by decide +kernel
theorem dX6_layAll_9 : decode cX6_layAll 9 = .ok (.iload_n 2, 1) := by decide +kernel
theorem dX6_layAll_10 : decode cX6_layAll 10 = .ok (.aload_n 0, 1) := by decide +kernel
theorem dX6_layAll_11 : decode cX6_layAll 11 = .ok (.getfield 114, 3) := by decide +kernel
theorem dX6_layAll_14 : decode cX6_layAll 14 = .ok (.if_icmp .ge 93, 3) := by decide +kernel
theorem dX6_layAll_17 : decode cX6_layAll 17 = .ok (.aload_n 0, 1) := by decide +kernel
theorem dX6_layAll_18 : decode cX6_layAll 18 = .ok (.getfield 44, 3) := by decide +kernel
theorem dX6_layAll_21 : decode cX6_layAll 21 = .ok (.iload_n 2, 1) := by decide +kernel
theorem dX6_layAll_22 : decode cX6_layAll 22 = .ok (.iload_n 1, 1) := by decide +kernel
theorem dX6_layAll_23 : decode cX6_layAll 23 = .ok (.iastore, 1) := by decide +kernel
theorem dX6_layAll_24 : decode cX6_layAll 24 = .ok (.aload_n 0, 1) := by decide +kernel
theorem dX6_layAll_25 : decode cX6_layAll 25 = .ok (.getfield 13, 3) := by decide +kernel
theorem dX6_layAll_28 : decode cX6_layAll 28 = .ok (.iload_n 2, 1) := by decide +kernel
theorem dX6_layAll_29 : decode cX6_layAll 29 = .ok (.iaload, 1) := by decide +kernel
theorem dX6_layAll_30 : decode cX6_layAll 30 = .ok (.iconst 3, 1) := by decide +kernel
theorem dX6_layAll_31 : decode cX6_layAll 31 = .ok (.if_icmp .ne 15, 3) := by decide +kernel
theorem dX6_layAll_34 : decode cX6_layAll 34 = .ok (.aload_n 0, 1) := by decide +kernel
theorem dX6_layAll_35 : decode cX6_layAll 35 = .ok (.getfield 59, 3) := by decide +kernel
theorem dX6_layAll_38 : decode cX6_layAll 38 = .ok (.aload_n 0, 1) := by decide +kernel
theorem dX6_layAll_39 : decode cX6_layAll 39 = .ok (.getfield 16, 3) := by decide +kernel
theorem dX6_layAll_42 : decode cX6_layAll 42 = .ok (.iload_n 2, 1) := by decide +kernel
theorem dX6_layAll_43 : decode cX6_layAll 43 = .ok (.iaload, 1) := by decide +kernel
theorem dX6_layAll_44 : decode cX6_layAll 44 = .ok (.iload_n 1, 1) := by decide +kernel
theorem dX6_layAll_45 : decode cX6_layAll 45 = .ok (.iastore, 1) := by decide +kernel
theorem dX6_layAll_46 : decode cX6_layAll 46 = .ok (.aload_n 0, 1) := by decide +kernel
theorem dX6_layAll_47 : decode cX6_layAll 47 = .ok (.dup, 1) := by decide +kernel
theorem dX6_layAll_48 : decode cX6_layAll 48 = .ok (.getfield 139, 3) := by decide +kernel
theorem dX6_layAll_51 : decode cX6_layAll 51 = .ok (.aload_n 0, 1) := by decide +kernel
theorem dX6_layAll_52 : decode cX6_layAll 52 = .ok (.getfield 13, 3) := by decide +kernel
theorem dX6_layAll_55 : decode cX6_layAll 55 = .ok (.iload_n 2, 1) := by decide +kernel
theorem dX6_layAll_56 : decode cX6_layAll 56 = .ok (.iaload, 1) := by decide +kernel
theorem dX6_layAll_57 : decode cX6_layAll 57 = .ok (.iconst 4, 1) := by decide +kernel
theorem dX6_layAll_58 : decode cX6_layAll 58 = .ok (.if_icmp .ne 12, 3) := by decide +kernel
theorem dX6_layAll_61 : decode cX6_layAll 61 = .ok (.aload_n 0, 1) := by decide +kernel
theorem dX6_layAll_62 : decode cX6_layAll 62 = .ok (.iload_n 2, 1) := by decide +kernel
theorem dX6_layAll_63 : decode cX6_layAll 63 = .ok (.iload_n 1, 1) := by decide +kernel
theorem dX6_layAll_64 : decode cX6_layAll 64 = .ok (.invokevirtual 142, 3) := by decide +kernel
theorem dX6_layAll_67 : decode cX6_layAll 67 = .ok (.goto 4, 3) := by decide +kernel
theorem dX6_layAll_70 : decode cX6_layAll 70 = .ok (.iconst 0, 1) := by decide +kernel
theorem dX6_layAll_71 : decode cX6_layAll 71 = .ok (.iadd, 1) := by decide +kernel
theorem dX6_layAll_72 : decode cX6_layAll 72 = .ok (.putfield 139, 3) := by decide +kernel
theorem dX6_layAll_75 : decode cX6_layAll 75 = .ok (.iload_n 1, 1) := by decide +kernel
theorem dX6_layAll_76 : decode cX6_layAll 76 = .ok (.aload_n 0, 1) := by decide +kernel
theorem dX6_layAll_77 : decode cX6_layAll 77 = .ok (.iload_n 2, 1) := by decide +kernel
theorem dX6_layAll_78 : decode cX6_layAll 78 = .ok (.iload_n 1, 1) := by decide +kernel
theorem dX6_layAll_79 : decode cX6_layAll 79 = .ok (.invokevirtual 142, 3) := by decide +kernel
theorem dX6_layAll_82 : decode cX6_layAll 82 = .ok (.iadd, 1) := by decide +kernel
theorem dX6_layAll_83 : decode cX6_layAll 83 = .ok (.istore_n 1, 1) := by decide +kernel
theorem dX6_layAll_84 : decode cX6_layAll 84 = .ok (.aload_n 0, 1) := by decide +kernel
theorem dX6_layAll_85 : decode cX6_layAll 85 = .ok (.getfield 13, 3) := by decide +kernel
theorem dX6_layAll_88 : decode cX6_layAll 88 = .ok (.iload_n 2, 1) := by decide +kernel
theorem dX6_layAll_89 : decode cX6_layAll 89 = .ok (.iaload, 1) := by decide +kernel
theorem dX6_layAll_90 : decode cX6_layAll 90 = .ok (.iconst 5, 1) := by decide +kernel
theorem dX6_layAll_91 : decode cX6_layAll 91 = .ok (.if_icmp .ne 10, 3) := by decide +kernel
theorem dX6_layAll_94 : decode cX6_layAll 94 = .ok (.aload_n 0, 1) := by decide +kernel
theorem dX6_layAll_95 : decode cX6_layAll 95 = .ok (.iload_n 2, 1) := by decide +kernel
theorem dX6_layAll_96 : decode cX6_layAll 96 = .ok (.iload_n 1, 1) := by decide +kernel
theorem dX6_layAll_97 : decode cX6_layAll 97 = .ok (.invokevirtual 145, 3) := by decide +kernel
theorem dX6_layAll_100 : decode cX6_layAll 100 = .ok (.istore_n 1, 1) := by decide +kernel
theorem dX6_layAll_101 : decode cX6_layAll 101 = .ok (.iinc 2 1, 3) := by decide +kernel
theorem dX6_layAll_104 : decode cX6_layAll 104 = .ok (.goto (-95), 3) := by decide +kernel
theorem dX6_layAll_107 : decode cX6_layAll 107 = .ok (.aload_n 0, 1) := by decide +kernel
theorem dX6_layAll_108 : decode cX6_layAll 108 = .ok (.iload_n 1, 1) := by decide +kernel
theorem dX6_layAll_109 : decode cX6_layAll 109 = .ok (.putfield 148, 3) := by decide +kernel
theorem dX6_layAll_112 : decode cX6_layAll 112 = .ok (.return_, 1) := by decide +kernel
theorem dX6_apart_0 : decode cX6_apart 0 = .ok (.iload_n 0, 1) := by decide +kernel
theorem dX6_apart_1 : decode cX6_apart 1 = .ok (.iload_n 1, 1) := by decide +kernel
theorem dX6_apart_2 : decode cX6_apart 2 = .ok (.if_icmp .ge 9, 3) := by decide +kernel
theorem dX6_apart_5 : decode cX6_apart 5 = .ok (.iload_n 1, 1) := by decide +kernel
theorem dX6_apart_6 : decode cX6_apart 6 = .ok (.iload_n 0, 1) := by decide +kernel
theorem dX6_apart_7 : decode cX6_apart 7 = .ok (.isub, 1) := by decide +kernel
theorem dX6_apart_8 : decode cX6_apart 8 = .ok (.goto 6, 3) := by decide +kernel
theorem dX6_apart_11 : decode cX6_apart 11 = .ok (.iload_n 0, 1) := by decide +kernel
theorem dX6_apart_12 : decode cX6_apart 12 = .ok (.iload_n 1, 1) := by decide +kernel
theorem dX6_apart_13 : decode cX6_apart 13 = .ok (.isub, 1) := by decide +kernel
theorem dX6_apart_14 : decode cX6_apart 14 = .ok (.ireturn, 1) := by decide +kernel
theorem dX6_constantFor_0 : decode cX6_constantFor 0 = .ok (.iconst (-1), 1) := by decide +kernel
theorem dX6_constantFor_1 : decode cX6_constantFor 1 = .ok (.istore_n 2, 1) := by decide +kernel
theorem dX6_constantFor_2 : decode cX6_constantFor 2 = .ok (.iconst 0, 1) := by decide +kernel
theorem dX6_constantFor_3 : decode cX6_constantFor 3 = .ok (.istore_n 3, 1) := by decide +kernel
theorem dX6_constantFor_4 : decode cX6_constantFor 4 = .ok (.iload_n 3, 1) := by decide +kernel
theorem dX6_constantFor_5 : decode cX6_constantFor 5 = .ok (.aload_n 0, 1) := by decide +kernel
theorem dX6_constantFor_6 : decode cX6_constantFor 6 = .ok (.getfield 136, 3) := by decide +kernel
theorem dX6_constantFor_9 : decode cX6_constantFor 9 = .ok (.if_icmp .ge 84, 3) := by decide +kernel
theorem dX6_constantFor_12 : decode cX6_constantFor 12 = .ok (.aload_n 0, 1) := by decide +kernel
theorem dX6_constantFor_13 : decode cX6_constantFor 13 = .ok (.getfield 50, 3) := by decide +kernel
theorem dX6_constantFor_16 : decode cX6_constantFor 16 = .ok (.iload_n 3, 1) := by decide +kernel
theorem dX6_constantFor_17 : decode cX6_constantFor 17 = .ok (.iaload, 1) := by decide +kernel
theorem dX6_constantFor_18 : decode cX6_constantFor 18 = .ok (.aload_n 0, 1) := by decide +kernel
theorem dX6_constantFor_19 : decode cX6_constantFor 19 = .ok (.getfield 44, 3) := by decide +kernel
theorem dX6_constantFor_22 : decode cX6_constantFor 22 = .ok (.iload_n 1, 1) := by decide +kernel
theorem dX6_constantFor_23 : decode cX6_constantFor 23 = .ok (.iaload, 1) := by decide +kernel
theorem dX6_constantFor_24 : decode cX6_constantFor 24 = .ok (.isub, 1) := by decide +kernel
theorem dX6_constantFor_25 : decode cX6_constantFor 25 = .ok (.istore 4, 2) := by decide +kernel
theorem dX6_constantFor_27 : decode cX6_constantFor 27 = .ok (.aload_n 0, 1) := by decide +kernel
theorem dX6_constantFor_28 : decode cX6_constantFor 28 = .ok (.getfield 38, 3) := by decide +kernel
theorem dX6_constantFor_31 : decode cX6_constantFor 31 = .ok (.iload_n 3, 1) := by decide +kernel
theorem dX6_constantFor_32 : decode cX6_constantFor 32 = .ok (.iaload, 1) := by decide +kernel
theorem dX6_constantFor_33 : decode cX6_constantFor 33 = .ok (.aload_n 0, 1) := by decide +kernel
theorem dX6_constantFor_34 : decode cX6_constantFor 34 = .ok (.getfield 16, 3) := by decide +kernel
theorem dX6_constantFor_37 : decode cX6_constantFor 37 = .ok (.iload_n 1, 1) := by decide +kernel
theorem dX6_constantFor_38 : decode cX6_constantFor 38 = .ok (.iaload, 1) := by decide +kernel
theorem dX6_constantFor_39 : decode cX6_constantFor 39 = .ok (.if_icmp .ne 48, 3) := by decide +kernel
theorem dX6_constantFor_42 : decode cX6_constantFor 42 = .ok (.iload 4, 2) := by decide +kernel
theorem dX6_constantFor_44 : decode cX6_constantFor 44 = .ok (.ifCond .le 43, 3) := by decide +kernel
theorem dX6_constantFor_47 : decode cX6_constantFor 47 = .ok (.iload 4, 2) := by decide +kernel
theorem dX6_constantFor_49 : decode cX6_constantFor 49 = .ok (.aload_n 0, 1) := by decide +kernel
theorem dX6_constantFor_50 : decode cX6_constantFor 50 = .ok (.getfield 19, 3) := by decide +kernel
theorem dX6_constantFor_53 : decode cX6_constantFor 53 = .ok (.iconst 2, 1) := by decide +kernel
theorem dX6_constantFor_54 : decode cX6_constantFor 54 = .ok (.iaload, 1) := by decide +kernel
theorem dX6_constantFor_55 : decode cX6_constantFor 55 = .ok (.if_icmp .gt 32, 3) := by decide +kernel
theorem dX6_constantFor_58 : decode cX6_constantFor 58 = .ok (.iload_n 2, 1) := by decide +kernel
theorem dX6_constantFor_59 : decode cX6_constantFor 59 = .ok (.iconst (-1), 1) := by decide +kernel
theorem dX6_constantFor_60 : decode cX6_constantFor 60 = .ok (.if_icmp .eq 21, 3) := by decide +kernel
theorem dX6_constantFor_63 : decode cX6_constantFor 63 = .ok (.iload 4, 2) := by decide +kernel
theorem dX6_constantFor_65 : decode cX6_constantFor 65 = .ok (.aload_n 0, 1) := by decide +kernel
