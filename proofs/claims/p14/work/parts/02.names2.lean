theorem dX0_init_0 : decode cX0_init 0 = .ok (.aload_n 0, 1) := by decide +kernel
theorem dX0_init_1 : decode cX0_init 1 = .ok (.invokespecial 3, 3) := by decide +kernel
theorem dX0_init_4 : decode cX0_init 4 = .ok (.aload_n 0, 1) := by decide +kernel
theorem dX0_init_5 : decode cX0_init 5 = .ok (.bipush 24, 2) := by decide +kernel
theorem dX0_init_7 : decode cX0_init 7 = .ok (.newarray .int, 2) := by decide +kernel
theorem dX0_init_9 : decode cX0_init 9 = .ok (.putfield 9, 3) := by decide +kernel
theorem dX0_init_12 : decode cX0_init 12 = .ok (.aload_n 0, 1) := by decide +kernel
theorem dX0_init_13 : decode cX0_init 13 = .ok (.bipush 24, 2) := by decide +kernel
theorem dX0_init_15 : decode cX0_init 15 = .ok (.newarray .int, 2) := by decide +kernel
theorem dX0_init_17 : decode cX0_init 17 = .ok (.putfield 15, 3) := by decide +kernel
theorem dX0_init_20 : decode cX0_init 20 = .ok (.return_, 1) := by decide +kernel
theorem dX0_clear_0 : decode cX0_clear 0 = .ok (.aload_n 0, 1) := by decide +kernel
theorem dX0_clear_1 : decode cX0_clear 1 = .ok (.iconst 0, 1) := by decide +kernel
theorem dX0_clear_2 : decode cX0_clear 2 = .ok (.putfield 18, 3) := by decide +kernel
theorem dX0_clear_5 : decode cX0_clear 5 = .ok (.aload_n 0, 1) := by decide +kernel
theorem dX0_clear_6 : decode cX0_clear 6 = .ok (.iconst 0, 1) := by decide +kernel
theorem dX0_clear_7 : decode cX0_clear 7 = .ok (.putfield 22, 3) := by decide +kernel
theorem dX0_clear_10 : decode cX0_clear 10 = .ok (.return_, 1) := by decide +kernel
theorem dX0_add_0 : decode cX0_add 0 = .ok (.aload_n 0, 1) := by decide +kernel
theorem dX0_add_1 : decode cX0_add 1 = .ok (.getfield 18, 3) := by decide +kernel
theorem dX0_add_4 : decode cX0_add 4 = .ok (.ifCond .lt 27, 3) := by decide +kernel
theorem dX0_add_7 : decode cX0_add 7 = .ok (.aload_n 0, 1) := by decide +kernel
theorem dX0_add_8 : decode cX0_add 8 = .ok (.getfield 18, 3) := by decide +kernel
theorem dX0_add_11 : decode cX0_add 11 = .ok (.aload_n 0, 1) := by decide +kernel
theorem dX0_add_12 : decode cX0_add 12 = .ok (.getfield 9, 3) := by decide +kernel
theorem dX0_add_15 : decode cX0_add 15 = .ok (.arraylength, 1) := by decide +kernel
theorem dX0_add_16 : decode cX0_add 16 = .ok (.if_icmp .ge 15, 3) := by decide +kernel
theorem dX0_add_19 : decode cX0_add 19 = .ok (.aload_n 0, 1) := by decide +kernel
theorem dX0_add_20 : decode cX0_add 20 = .ok (.getfield 18, 3) := by decide +kernel
theorem dX0_add_23 : decode cX0_add 23 = .ok (.aload_n 0, 1) := by decide +kernel
theorem dX0_add_24 : decode cX0_add 24 = .ok (.getfield 15, 3) := by decide +kernel
theorem dX0_add_27 : decode cX0_add 27 = .ok (.arraylength, 1) := by decide +kernel
theorem dX0_add_28 : decode cX0_add 28 = .ok (.if_icmp .lt 5, 3) := by decide +kernel
theorem dX0_add_31 : decode cX0_add 31 = .ok (.iconst 0, 1) := by decide +kernel
theorem dX0_add_32 : decode cX0_add 32 = .ok (.ireturn, 1) := by decide +kernel
theorem dX0_add_33 : decode cX0_add 33 = .ok (.aload_n 0, 1) := by decide +kernel
theorem dX0_add_34 : decode cX0_add 34 = .ok (.getfield 9, 3) := by decide +kernel
theorem dX0_add_37 : decode cX0_add 37 = .ok (.aload_n 0, 1) := by decide +kernel
theorem dX0_add_38 : decode cX0_add 38 = .ok (.getfield 18, 3) := by decide +kernel
theorem dX0_add_41 : decode cX0_add 41 = .ok (.iload_n 1, 1) := by decide +kernel
theorem dX0_add_42 : decode cX0_add 42 = .ok (.iastore, 1) := by decide +kernel
theorem dX0_add_43 : decode cX0_add 43 = .ok (.aload_n 0, 1) := by decide +kernel
theorem dX0_add_44 : decode cX0_add 44 = .ok (.getfield 15, 3) := by decide +kernel
theorem dX0_add_47 : decode cX0_add 47 = .ok (.aload_n 0, 1) := by decide +kernel
theorem dX0_add_48 : decode cX0_add 48 = .ok (.getfield 18, 3) := by decide +kernel
theorem dX0_add_51 : decode cX0_add 51 = .ok (.iload_n 2, 1) := by decide +kernel
theorem dX0_add_52 : decode cX0_add 52 = .ok (.iastore, 1) := by decide +kernel
theorem dX0_add_53 : decode cX0_add 53 = .ok (.iload_n 1, 1) := by decide +kernel
theorem dX0_add_54 : decode cX0_add 54 = .ok (.iconst 5, 1) := by decide +kernel
theorem dX0_add_55 : decode cX0_add 55 = .ok (.if_icmp .ne 13, 3) := by decide +kernel
theorem dX0_add_58 : decode cX0_add 58 = .ok (.aload_n 0, 1) := by decide +kernel
theorem dX0_add_59 : decode cX0_add 59 = .ok (.dup, 1) := by decide +kernel
theorem dX0_add_60 : decode cX0_add 60 = .ok (.getfield 22, 3) := by decide +kernel
theorem dX0_add_63 : decode cX0_add 63 = .ok (.iconst 1, 1) := by decide +kernel
theorem dX0_add_64 : decode cX0_add 64 = .ok (.iadd, 1) := by decide +kernel
theorem dX0_add_65 : decode cX0_add 65 = .ok (.putfield 22, 3) := by decide +kernel
theorem dX0_add_68 : decode cX0_add 68 = .ok (.aload_n 0, 1) := by decide +kernel
theorem dX0_add_69 : decode cX0_add 69 = .ok (.dup, 1) := by decide +kernel
theorem dX0_add_70 : decode cX0_add 70 = .ok (.getfield 18, 3) := by decide +kernel
theorem dX0_add_73 : decode cX0_add 73 = .ok (.iconst 1, 1) := by decide +kernel
theorem dX0_add_74 : decode cX0_add 74 = .ok (.iadd, 1) := by decide +kernel
theorem dX0_add_75 : decode cX0_add 75 = .ok (.putfield 18, 3) := by decide +kernel
theorem dX0_add_78 : decode cX0_add 78 = .ok (.iconst 1, 1) := by decide +kernel
theorem dX0_add_79 : decode cX0_add 79 = .ok (.ireturn, 1) := by decide +kernel
theorem qX0_takeFrom_r1 {w : Cond} (h : w ∈ wsX0_takeFrom_r1) : w ∈ wsX0_takeFrom := List.mem_cons_of_mem _ (List.mem_append_left _ (List.mem_append_left _ (h)))
theorem qX0_takeFrom_r2 {w : Cond} (h : w ∈ wsX0_takeFrom_r2) : w ∈ wsX0_takeFrom := List.mem_cons_of_mem _ (List.mem_append_left _ (List.mem_append_right _ (h)))
set_option maxRecDepth 20000 in
theorem ggX0_takeFrom_X0_clear : GoodIn wsX0_takeFrom wsX0_clear := goodIn_sub (fm_c (qX0_takeFrom_r1 (mg 4 rfl)) (ms_a (fm_c (qX0_takeFrom_r1 (mg 5 rfl)) (fm_c (qX0_takeFrom_r1 (mg 6 rfl)) (fm_n))) (fun _ h => List.mem_cons_of_mem _ (List.mem_append_right _ (h))))) (by decide +kernel)
set_option maxRecDepth 20000 in
theorem gX0_takeFrom_X0_clear : GoodIn wsX0_takeFrom (wsV RX0 25 RX0 yX0_clear wsX0_clear) := goodIn_app (goodIn_sub (fm_c (qX0_takeFrom_r1 (mg 0 rfl)) (fm_c (qX0_takeFrom_r1 (mg 1 rfl)) (fm_c (qX0_takeFrom_r1 (mg 2 rfl)) (fm_c (qX0_takeFrom_r1 (mg 3 rfl)) (fm_n))))) (by decide +kernel)) ggX0_takeFrom_X0_clear
set_option maxRecDepth 20000 in
theorem ggX0_takeFrom_X0_size : GoodIn wsX0_takeFrom wsX0_size := goodIn_sub (fm_c (qX0_takeFrom_r1 (mg 10 rfl)) (ms_a (fm_c (qX0_takeFrom_r1 (mg 5 rfl)) (fm_n)) (fun _ h => List.mem_cons_of_mem _ (List.mem_append_right _ (h))))) (by decide +kernel)
set_option maxRecDepth 20000 in
theorem gX0_takeFrom_X0_size : GoodIn wsX0_takeFrom (wsV RX0 28 RX0 yX0_size wsX0_size) := goodIn_app (goodIn_sub (fm_c (qX0_takeFrom_r1 (mg 7 rfl)) (fm_c (qX0_takeFrom_r1 (mg 8 rfl)) (fm_c (qX0_takeFrom_r1 (mg 9 rfl)) (fm_c (qX0_takeFrom_r1 (mg 3 rfl)) (fm_n))))) (by decide +kernel)) ggX0_takeFrom_X0_size
set_option maxRecDepth 20000 in
theorem ggX0_takeFrom_X0_kindOf : GoodIn wsX0_takeFrom wsX0_kindOf := goodIn_sub (fm_c (qX0_takeFrom_r1 (mg 14 rfl)) (ms_a (fm_c (qX0_takeFrom_r1 (mg 15 rfl)) (fm_c (qX0_takeFrom_r1 (mg 16 rfl)) (fm_c (qX0_takeFrom_r1 (mg 17 rfl)) (fm_c (qX0_takeFrom_r1 (mg 18 rfl)) (fm_c (qX0_takeFrom_r1 (mg 3 rfl)) (fm_c (qX0_takeFrom_r1 (mg 19 rfl)) (fm_c (qX0_takeFrom_r1 (mg 5 rfl)) (fm_c (qX0_takeFrom_r1 (mg 20 rfl)) (fm_n))))))))) (fun _ h => List.mem_cons_of_mem _ (List.mem_append_right _ (h))))) (by decide +kernel)
set_option maxRecDepth 20000 in
theorem gX0_takeFrom_X0_kindOf : GoodIn wsX0_takeFrom (wsV RX0 31 RX0 yX0_kindOf wsX0_kindOf) := goodIn_app (goodIn_sub (fm_c (qX0_takeFrom_r1 (mg 11 rfl)) (fm_c (qX0_takeFrom_r1 (mg 12 rfl)) (fm_c (qX0_takeFrom_r1 (mg 13 rfl)) (fm_c (qX0_takeFrom_r1 (mg 3 rfl)) (fm_n))))) (by decide +kernel)) ggX0_takeFrom_X0_kindOf
set_option maxRecDepth 20000 in
theorem ggX0_takeFrom_X0_toldOf : GoodIn wsX0_takeFrom wsX0_toldOf := goodIn_sub (fm_c (qX0_takeFrom_r2 (mg 0 rfl)) (ms_a (fm_c (qX0_takeFrom_r1 (mg 20 rfl)) (fm_c (qX0_takeFrom_r1 (mg 16 rfl)) (fm_c (qX0_takeFrom_r1 (mg 17 rfl)) (fm_c (qX0_takeFrom_r1 (mg 18 rfl)) (fm_c (qX0_takeFrom_r1 (mg 3 rfl)) (fm_c (qX0_takeFrom_r1 (mg 19 rfl)) (fm_c (qX0_takeFrom_r1 (mg 5 rfl)) (fm_c (qX0_takeFrom_r1 (mg 15 rfl)) (fm_n))))))))) (fun _ h => List.mem_cons_of_mem _ (List.mem_append_right _ (h))))) (by decide +kernel)
set_option maxRecDepth 20000 in
theorem gX0_takeFrom_X0_toldOf : GoodIn wsX0_takeFrom (wsV RX0 35 RX0 yX0_toldOf wsX0_toldOf) := goodIn_app (goodIn_sub (fm_c (qX0_takeFrom_r1 (mg 21 rfl)) (fm_c (qX0_takeFrom_r1 (mg 22 rfl)) (fm_c (qX0_takeFrom_r1 (mg 23 rfl)) (fm_c (qX0_takeFrom_r1 (mg 3 rfl)) (fm_n))))) (by decide +kernel)) ggX0_takeFrom_X0_toldOf
set_option maxRecDepth 20000 in
theorem ggX0_takeFrom_X0_add : GoodIn wsX0_takeFrom wsX0_add := goodIn_sub (fm_c (qX0_takeFrom_r2 (mg 4 rfl)) (ms_a (fm_c (qX0_takeFrom_r1 (mg 5 rfl)) (fm_c (qX0_takeFrom_r1 (mg 15 rfl)) (fm_c (qX0_takeFrom_r1 (mg 20 rfl)) (fm_c (qX0_takeFrom_r1 (mg 6 rfl)) (fm_n))))) (fun _ h => List.mem_cons_of_mem _ (List.mem_append_right _ (h))))) (by decide +kernel)
set_option maxRecDepth 20000 in
theorem gX0_takeFrom_X0_add : GoodIn wsX0_takeFrom (wsV RX0 38 RX0 yX0_add wsX0_add) := goodIn_app (goodIn_sub (fm_c (qX0_takeFrom_r2 (mg 1 rfl)) (fm_c (qX0_takeFrom_r2 (mg 2 rfl)) (fm_c (qX0_takeFrom_r2 (mg 3 rfl)) (fm_c (qX0_takeFrom_r1 (mg 3 rfl)) (fm_n))))) (by decide +kernel)) ggX0_takeFrom_X0_add
theorem dX0_takeFrom_0 : decode cX0_takeFrom 0 = .ok (.aload_n 0, 1) := by decide +kernel
theorem dX0_takeFrom_1 : decode cX0_takeFrom 1 = .ok (.invokevirtual 25, 3) := by decide +kernel
theorem dX0_takeFrom_4 : decode cX0_takeFrom 4 = .ok (.iconst 0, 1) := by decide +kernel
theorem dX0_takeFrom_5 : decode cX0_takeFrom 5 = .ok (.istore_n 2, 1) := by decide +kernel
theorem dX0_takeFrom_6 : decode cX0_takeFrom 6 = .ok (.iload_n 2, 1) := by decide +kernel
theorem dX0_takeFrom_7 : decode cX0_takeFrom 7 = .ok (.aload_n 1, 1) := by decide +kernel
theorem dX0_takeFrom_8 : decode cX0_takeFrom 8 = .ok (.invokevirtual 28, 3) := by decide +kernel
theorem dX0_takeFrom_11 : decode cX0_takeFrom 11 = .ok (.if_icmp .ge 30, 3) := by decide +kernel
theorem dX0_takeFrom_14 : decode cX0_takeFrom 14 = .ok (.iload_n 2, 1) := by decide +kernel
theorem dX0_takeFrom_15 : decode cX0_takeFrom 15 = .ok (.bipush 24, 2) := by decide +kernel
theorem dX0_takeFrom_17 : decode cX0_takeFrom 17 = .ok (.if_icmp .ge 24, 3) := by decide +kernel
theorem dX0_takeFrom_20 : decode cX0_takeFrom 20 = .ok (.aload_n 0, 1) := by decide +kernel
theorem dX0_takeFrom_21 : decode cX0_takeFrom 21 = .ok (.aload_n 1, 1) := by decide +kernel
theorem dX0_takeFrom_22 : decode cX0_takeFrom 22 = .ok (.iload_n 2, 1) := by decide +kernel
theorem dX0_takeFrom_23 : decode cX0_takeFrom 23 = .ok (.invokevirtual 31, 3) := by decide +kernel
theorem dX0_takeFrom_26 : decode cX0_takeFrom 26 = .ok (.aload_n 1, 1) := by decide +kernel
theorem dX0_takeFrom_27 : decode cX0_takeFrom 27 = .ok (.iload_n 2, 1) := by decide +kernel
theorem dX0_takeFrom_28 : decode cX0_takeFrom 28 = .ok (.invokevirtual 35, 3) := by decide +kernel
theorem dX0_takeFrom_31 : decode cX0_takeFrom 31 = .ok (.invokevirtual 38, 3) := by decide +kernel
theorem dX0_takeFrom_34 : decode cX0_takeFrom 34 = .ok (.pop, 1) := by decide +kernel
theorem dX0_takeFrom_35 : decode cX0_takeFrom 35 = .ok (.iinc 2 1, 3) := by decide +kernel
theorem dX0_takeFrom_38 : decode cX0_takeFrom 38 = .ok (.goto (-32), 3) := by decide +kernel
theorem dX0_takeFrom_41 : decode cX0_takeFrom 41 = .ok (.return_, 1) := by decide +kernel
theorem dX0_size_0 : decode cX0_size 0 = .ok (.aload_n 0, 1) := by decide +kernel
theorem dX0_size_1 : decode cX0_size 1 = .ok (.getfield 18, 3) := by decide +kernel
theorem dX0_size_4 : decode cX0_size 4 = .ok (.ireturn, 1) := by decide +kernel
theorem dX0_gaps_0 : decode cX0_gaps 0 = .ok (.aload_n 0, 1) := by decide +kernel
theorem dX0_gaps_1 : decode cX0_gaps 1 = .ok (.getfield 22, 3) := by decide +kernel
theorem dX0_gaps_4 : decode cX0_gaps 4 = .ok (.ireturn, 1) := by decide +kernel
theorem dX0_has_0 : decode cX0_has 0 = .ok (.iload_n 1, 1) := by decide +kernel
theorem dX0_has_1 : decode cX0_has 1 = .ok (.ifCond .lt 33, 3) := by decide +kernel
theorem dX0_has_4 : decode cX0_has 4 = .ok (.iload_n 1, 1) := by decide +kernel
theorem dX0_has_5 : decode cX0_has 5 = .ok (.aload_n 0, 1) := by decide +kernel
theorem dX0_has_6 : decode cX0_has 6 = .ok (.getfield 18, 3) := by decide +kernel
theorem dX0_has_9 : decode cX0_has 9 = .ok (.if_icmp .ge 25, 3) := by decide +kernel
theorem dX0_has_12 : decode cX0_has 12 = .ok (.iload_n 1, 1) := by decide +kernel
theorem dX0_has_13 : decode cX0_has 13 = .ok (.aload_n 0, 1) := by decide +kernel
theorem dX0_has_14 : decode cX0_has 14 = .ok (.getfield 9, 3) := by decide +kernel
theorem dX0_has_17 : decode cX0_has 17 = .ok (.arraylength, 1) := by decide +kernel
theorem dX0_has_18 : decode cX0_has 18 = .ok (.if_icmp .ge 16, 3) := by decide +kernel
theorem dX0_has_21 : decode cX0_has 21 = .ok (.iload_n 1, 1) := by decide +kernel
theorem dX0_has_22 : decode cX0_has 22 = .ok (.aload_n 0, 1) := by decide +kernel
theorem dX0_has_23 : decode cX0_has 23 = .ok (.getfield 15, 3) := by decide +kernel
theorem dX0_has_26 : decode cX0_has 26 = .ok (.arraylength, 1) := by decide +kernel
theorem dX0_has_27 : decode cX0_has 27 = .ok (.if_icmp .ge 7, 3) := by decide +kernel
theorem dX0_has_30 : decode cX0_has 30 = .ok (.iconst 1, 1) := by decide +kernel
theorem dX0_has_31 : decode cX0_has 31 = .ok (.goto 4, 3) := by decide +kernel
theorem dX0_has_34 : decode cX0_has 34 = .ok (.iconst 0, 1) := by decide +kernel
theorem dX0_has_35 : decode cX0_has 35 = .ok (.ireturn, 1) := by decide +kernel
set_option maxRecDepth 20000 in
theorem ggX0_kindOf_X0_has : GoodIn wsX0_kindOf wsX0_has := goodIn_sub (fm_c (List.mem_cons_of_mem _ (List.mem_append_left _ (mg 5 rfl))) (ms_a (fm_c (List.mem_cons_of_mem _ (List.mem_append_left _ (mg 6 rfl))) (fm_c (List.mem_cons_of_mem _ (List.mem_append_left _ (mg 0 rfl))) (fm_c (List.mem_cons_of_mem _ (List.mem_append_left _ (mg 7 rfl))) (fm_n)))) (fun _ h => List.mem_cons_of_mem _ (List.mem_append_right _ (h))))) (by decide +kernel)
set_option maxRecDepth 20000 in
theorem gX0_kindOf_X0_has : GoodIn wsX0_kindOf (wsV RX0 42 RX0 yX0_has wsX0_has) := goodIn_app (goodIn_sub (fm_c (List.mem_cons_of_mem _ (List.mem_append_left _ (mg 1 rfl))) (fm_c (List.mem_cons_of_mem _ (List.mem_append_left _ (mg 2 rfl))) (fm_c (List.mem_cons_of_mem _ (List.mem_append_left _ (mg 3 rfl))) (fm_c (List.mem_cons_of_mem _ (List.mem_append_left _ (mg 4 rfl))) (fm_n))))) (by decide +kernel)) ggX0_kindOf_X0_has
theorem dX0_kindOf_0 : decode cX0_kindOf 0 = .ok (.aload_n 0, 1) := by decide +kernel
theorem dX0_kindOf_1 : decode cX0_kindOf 1 = .ok (.iload_n 1, 1) := by decide +kernel
theorem dX0_kindOf_2 : decode cX0_kindOf 2 = .ok (.invokevirtual 42, 3) := by decide +kernel
theorem dX0_kindOf_5 : decode cX0_kindOf 5 = .ok (.ifCond .eq 12, 3) := by decide +kernel
theorem dX0_kindOf_8 : decode cX0_kindOf 8 = .ok (.aload_n 0, 1) := by decide +kernel
theorem dX0_kindOf_9 : decode cX0_kindOf 9 = .ok (.getfield 9, 3) := by decide +kernel
theorem dX0_kindOf_12 : decode cX0_kindOf 12 = .ok (.iload_n 1, 1) := by decide +kernel
theorem dX0_kindOf_13 : decode cX0_kindOf 13 = .ok (.iaload, 1) := by decide +kernel
theorem dX0_kindOf_14 : decode cX0_kindOf 14 = .ok (.goto 4, 3) := by decide +kernel
theorem dX0_kindOf_17 : decode cX0_kindOf 17 = .ok (.iconst (-1), 1) := by decide +kernel
theorem dX0_kindOf_18 : decode cX0_kindOf 18 = .ok (.ireturn, 1) := by decide +kernel
set_option maxRecDepth 20000 in
theorem ggX0_toldOf_X0_has : GoodIn wsX0_toldOf wsX0_has := goodIn_sub (fm_c (List.mem_cons_of_mem _ (List.mem_append_left _ (mg 5 rfl))) (ms_a (fm_c (List.mem_cons_of_mem _ (List.mem_append_left _ (mg 6 rfl))) (fm_c (List.mem_cons_of_mem _ (List.mem_append_left _ (mg 7 rfl))) (fm_c (List.mem_cons_of_mem _ (List.mem_append_left _ (mg 0 rfl))) (fm_n)))) (fun _ h => List.mem_cons_of_mem _ (List.mem_append_right _ (h))))) (by decide +kernel)
set_option maxRecDepth 20000 in
theorem gX0_toldOf_X0_has : GoodIn wsX0_toldOf (wsV RX0 42 RX0 yX0_has wsX0_has) := goodIn_app (goodIn_sub (fm_c (List.mem_cons_of_mem _ (List.mem_append_left _ (mg 1 rfl))) (fm_c (List.mem_cons_of_mem _ (List.mem_append_left _ (mg 2 rfl))) (fm_c (List.mem_cons_of_mem _ (List.mem_append_left _ (mg 3 rfl))) (fm_c (List.mem_cons_of_mem _ (List.mem_append_left _ (mg 4 rfl))) (fm_n))))) (by decide +kernel)) ggX0_toldOf_X0_has
theorem dX0_toldOf_0 : decode cX0_toldOf 0 = .ok (.aload_n 0, 1) := by decide +kernel
theorem dX0_toldOf_1 : decode cX0_toldOf 1 = .ok (.iload_n 1, 1) := by decide +kernel
theorem dX0_toldOf_2 : decode cX0_toldOf 2 = .ok (.invokevirtual 42, 3) := by decide +kernel
theorem dX0_toldOf_5 : decode cX0_toldOf 5 = .ok (.ifCond .eq 12, 3) := by decide +kernel
theorem dX0_toldOf_8 : decode cX0_toldOf 8 = .ok (.aload_n 0, 1) := by decide +kernel
theorem dX0_toldOf_9 : decode cX0_toldOf 9 = .ok (.getfield 15, 3) := by decide +kernel
theorem dX0_toldOf_12 : decode cX0_toldOf 12 = .ok (.iload_n 1, 1) := by decide +kernel
theorem dX0_toldOf_13 : decode cX0_toldOf 13 = .ok (.iaload, 1) := by decide +kernel
theorem dX0_toldOf_14 : decode cX0_toldOf 14 = .ok (.goto 4, 3) := by decide +kernel
theorem dX0_toldOf_17 : decode cX0_toldOf 17 = .ok (.iconst (-1), 1) := by decide +kernel
theorem dX0_toldOf_18 : decode cX0_toldOf 18 = .ok (.ireturn, 1) := by decide +kernel
set_option maxRecDepth 20000 in
theorem ggX0_tell_X0_has : GoodIn wsX0_tell wsX0_has := goodIn_sub (fm_c (List.mem_cons_of_mem _ (List.mem_append_left _ (mg 5 rfl))) (ms_a (fm_c (List.mem_cons_of_mem _ (List.mem_append_left _ (mg 6 rfl))) (fm_c (List.mem_cons_of_mem _ (List.mem_append_left _ (mg 7 rfl))) (fm_c (List.mem_cons_of_mem _ (List.mem_append_left _ (mg 0 rfl))) (fm_n)))) (fun _ h => List.mem_cons_of_mem _ (List.mem_append_right _ (h))))) (by decide +kernel)
set_option maxRecDepth 20000 in
theorem gX0_tell_X0_has : GoodIn wsX0_tell (wsV RX0 42 RX0 yX0_has wsX0_has) := goodIn_app (goodIn_sub (fm_c (List.mem_cons_of_mem _ (List.mem_append_left _ (mg 1 rfl))) (fm_c (List.mem_cons_of_mem _ (List.mem_append_left _ (mg 2 rfl))) (fm_c (List.mem_cons_of_mem _ (List.mem_append_left _ (mg 3 rfl))) (fm_c (List.mem_cons_of_mem _ (List.mem_append_left _ (mg 4 rfl))) (fm_n))))) (by decide +kernel)) ggX0_tell_X0_has
theorem dX0_tell_0 : decode cX0_tell 0 = .ok (.aload_n 0, 1) := by decide +kernel
theorem dX0_tell_1 : decode cX0_tell 1 = .ok (.iload_n 1, 1) := by decide +kernel
theorem dX0_tell_2 : decode cX0_tell 2 = .ok (.invokevirtual 42, 3) := by decide +kernel
theorem dX0_tell_5 : decode cX0_tell 5 = .ok (.ifCond .eq 10, 3) := by decide +kernel
theorem dX0_tell_8 : decode cX0_tell 8 = .ok (.aload_n 0, 1) := by decide +kernel
theorem dX0_tell_9 : decode cX0_tell 9 = .ok (.getfield 15, 3) := by decide +kernel
theorem dX0_tell_12 : decode cX0_tell 12 = .ok (.iload_n 1, 1) := by decide +kernel
theorem dX0_tell_13 : decode cX0_tell 13 = .ok (.iload_n 2, 1) := by decide +kernel
theorem dX0_tell_14 : decode cX0_tell 14 = .ok (.iastore, 1) := by decide +kernel
theorem dX0_tell_15 : decode cX0_tell 15 = .ok (.return_, 1) := by decide +kernel
theorem dX1_init_0 : decode cX1_init 0 = .ok (.aload_n 0, 1) := by decide +kernel
theorem dX1_init_1 : decode cX1_init 1 = .ok (.invokespecial 3, 3) := by decide +kernel
theorem dX1_init_4 : decode cX1_init 4 = .ok (.aload_n 0, 1) := by decide +kernel
theorem dX1_init_5 : decode cX1_init 5 = .ok (.bipush 50, 2) := by decide +kernel
theorem dX1_init_7 : decode cX1_init 7 = .ok (.newarray .int, 2) := by decide +kernel
theorem dX1_init_9 : decode cX1_init 9 = .ok (.putfield 9, 3) := by decide +kernel
theorem dX1_init_12 : decode cX1_init 12 = .ok (.return_, 1) := by decide +kernel
theorem dX1_length_0 : decode cX1_length 0 = .ok (.aload_n 0, 1) := by decide +kernel
theorem dX1_length_1 : decode cX1_length 1 = .ok (.getfield 15, 3) := by decide +kernel
theorem dX1_length_4 : decode cX1_length 4 = .ok (.ireturn, 1) := by decide +kernel
theorem dX1_append_0 : decode cX1_append 0 = .ok (.aload_n 0, 1) := by decide +kernel
theorem dX1_append_1 : decode cX1_append 1 = .ok (.getfield 15, 3) := by decide +kernel
theorem dX1_append_4 : decode cX1_append 4 = .ok (.ifCond .lt 15, 3) := by decide +kernel
theorem dX1_append_7 : decode cX1_append 7 = .ok (.aload_n 0, 1) := by decide +kernel
theorem dX1_append_8 : decode cX1_append 8 = .ok (.getfield 15, 3) := by decide +kernel
theorem dX1_append_11 : decode cX1_append 11 = .ok (.aload_n 0, 1) := by decide +kernel
theorem dX1_append_12 : decode cX1_append 12 = .ok (.getfield 9, 3) := by decide +kernel
theorem dX1_append_15 : decode cX1_append 15 = .ok (.arraylength, 1) := by decide +kernel
theorem dX1_append_16 : decode cX1_append 16 = .ok (.if_icmp .lt 5, 3) := by decide +kernel
theorem dX1_append_19 : decode cX1_append 19 = .ok (.iconst 0, 1) := by decide +kernel
theorem dX1_append_20 : decode cX1_append 20 = .ok (.ireturn, 1) := by decide +kernel
theorem dX1_append_21 : decode cX1_append 21 = .ok (.aload_n 0, 1) := by decide +kernel
theorem dX1_append_22 : decode cX1_append 22 = .ok (.getfield 9, 3) := by decide +kernel
theorem dX1_append_25 : decode cX1_append 25 = .ok (.aload_n 0, 1) := by decide +kernel
theorem dX1_append_26 : decode cX1_append 26 = .ok (.getfield 15, 3) := by decide +kernel
theorem dX1_append_29 : decode cX1_append 29 = .ok (.iload_n 1, 1) := by decide +kernel
theorem dX1_append_30 : decode cX1_append 30 = .ok (.iastore, 1) := by decide +kernel
theorem dX1_append_31 : decode cX1_append 31 = .ok (.aload_n 0, 1) := by decide +kernel
theorem dX1_append_32 : decode cX1_append 32 = .ok (.dup, 1) := by decide +kernel
theorem dX1_append_33 : decode cX1_append 33 = .ok (.getfield 15, 3) := by decide +kernel
theorem dX1_append_36 : decode cX1_append 36 = .ok (.iconst 1, 1) := by decide +kernel
theorem dX1_append_37 : decode cX1_append 37 = .ok (.iadd, 1) := by decide +kernel
theorem dX1_append_38 : decode cX1_append 38 = .ok (.putfield 15, 3) := by decide +kernel
theorem dX1_append_41 : decode cX1_append 41 = .ok (.iconst 1, 1) := by decide +kernel
theorem dX1_append_42 : decode cX1_append 42 = .ok (.ireturn, 1) := by decide +kernel
theorem dX1_clear_0 : decode cX1_clear 0 = .ok (.aload_n 0, 1) := by decide +kernel
theorem dX1_clear_1 : decode cX1_clear 1 = .ok (.iconst 0, 1) := by decide +kernel
theorem dX1_clear_2 : decode cX1_clear 2 = .ok (.putfield 15, 3) := by decide +kernel
theorem dX1_clear_5 : decode cX1_clear 5 = .ok (.return_, 1) := by decide +kernel
theorem dX1_letterAt_0 : decode cX1_letterAt 0 = .ok (.iload_n 1, 1) := by decide +kernel
theorem dX1_letterAt_1 : decode cX1_letterAt 1 = .ok (.ifCond .lt 29, 3) := by decide +kernel
theorem dX1_letterAt_4 : decode cX1_letterAt 4 = .ok (.iload_n 1, 1) := by decide +kernel
theorem dX1_letterAt_5 : decode cX1_letterAt 5 = .ok (.aload_n 0, 1) := by decide +kernel
theorem dX1_letterAt_6 : decode cX1_letterAt 6 = .ok (.getfield 15, 3) := by decide +kernel
theorem dX1_letterAt_9 : decode cX1_letterAt 9 = .ok (.if_icmp .ge 21, 3) := by decide +kernel
theorem dX1_letterAt_12 : decode cX1_letterAt 12 = .ok (.iload_n 1, 1) := by decide +kernel
theorem dX1_letterAt_13 : decode cX1_letterAt 13 = .ok (.aload_n 0, 1) := by decide +kernel
theorem dX1_letterAt_14 : decode cX1_letterAt 14 = .ok (.getfield 9, 3) := by decide +kernel
theorem dX1_letterAt_17 : decode cX1_letterAt 17 = .ok (.arraylength, 1) := by decide +kernel
theorem dX1_letterAt_18 : decode cX1_letterAt 18 = .ok (.if_icmp .ge 12, 3) := by decide +kernel
theorem dX1_letterAt_21 : decode cX1_letterAt 21 = .ok (.aload_n 0, 1) := by decide +kernel
theorem dX1_letterAt_22 : decode cX1_letterAt 22 = .ok (.getfield 9, 3) := by decide +kernel
theorem dX1_letterAt_25 : decode cX1_letterAt 25 = .ok (.iload_n 1, 1) := by decide +kernel
theorem dX1_letterAt_26 : decode cX1_letterAt 26 = .ok (.iaload, 1) := by decide +kernel
theorem dX1_letterAt_27 : decode cX1_letterAt 27 = .ok (.goto 4, 3) := by decide +kernel
theorem dX1_letterAt_30 : decode cX1_letterAt 30 = .ok (.iconst (-1), 1) := by decide +kernel
theorem dX1_letterAt_31 : decode cX1_letterAt 31 = .ok (.ireturn, 1) := by decide +kernel
theorem qX2_init_r1 {w : Cond} (h : w ∈ wsX2_init_r1) : w ∈ wsX2_init := List.mem_cons_of_mem _ (List.mem_append_left _ (List.mem_append_left _ (List.mem_append_left _ (h))))
theorem qX2_init_r2 {w : Cond} (h : w ∈ wsX2_init_r2) : w ∈ wsX2_init := List.mem_cons_of_mem _ (List.mem_append_left _ (List.mem_append_left _ (List.mem_append_right _ (h))))
set_option maxRecDepth 20000 in
theorem ggX2_init_X4_init : GoodIn wsX2_init wsX4_init := goodIn_sub (fm_c (qX2_init_r1 (mg 22 rfl)) (ms_a (fm_c (qX2_init_r1 (mg 23 rfl)) (fm_c (qX2_init_r1 (mg 1 rfl)) (fm_c (qX2_init_r1 (mg 2 rfl)) (fm_c (qX2_init_r1 (mg 10 rfl)) (fm_c (qX2_init_r2 (mg 0 rfl)) (fm_c (qX2_init_r2 (mg 1 rfl)) (fm_c (qX2_init_r2 (mg 2 rfl)) (fm_c (qX2_init_r2 (mg 3 rfl)) (fm_c (qX2_init_r2 (mg 4 rfl)) (fm_c (qX2_init_r2 (mg 5 rfl)) (fm_c (qX2_init_r2 (mg 6 rfl)) (fm_c (qX2_init_r2 (mg 7 rfl)) (fm_c (qX2_init_r2 (mg 8 rfl)) (fm_n)))))))))))))) (fun _ h => List.mem_cons_of_mem _ (List.mem_append_left _ (List.mem_append_right _ (h)))))) (by decide +kernel)
set_option maxRecDepth 20000 in
theorem gX2_init_X4_init : GoodIn wsX2_init (wsX4_init) := ggX2_init_X4_init
theorem dX2_init_0 : decode cX2_init 0 = .ok (.aload_n 0, 1) := by decide +kernel
theorem dX2_init_1 : decode cX2_init 1 = .ok (.invokespecial 3, 3) := by decide +kernel
theorem dX2_init_4 : decode cX2_init 4 = .ok (.aload_n 0, 1) := by decide +kernel
theorem dX2_init_5 : decode cX2_init 5 = .ok (.new 9, 3) := by decide +kernel
theorem dX2_init_8 : decode cX2_init 8 = .ok (.dup, 1) := by decide +kernel
theorem dX2_init_9 : decode cX2_init 9 = .ok (.bipush 12, 2) := by decide +kernel
theorem dX2_init_11 : decode cX2_init 11 = .ok (.invokespecial 11, 3) := by decide +kernel
theorem dX2_init_14 : decode cX2_init 14 = .ok (.putfield 14, 3) := by decide +kernel
theorem dX2_init_17 : decode cX2_init 17 = .ok (.aload_n 0, 1) := by decide +kernel
theorem dX2_init_18 : decode cX2_init 18 = .ok (.new 9, 3) := by decide +kernel
theorem dX2_init_21 : decode cX2_init 21 = .ok (.dup, 1) := by decide +kernel
theorem dX2_init_22 : decode cX2_init 22 = .ok (.bipush 16, 2) := by decide +kernel
theorem dX2_init_24 : decode cX2_init 24 = .ok (.invokespecial 11, 3) := by decide +kernel
theorem dX2_init_27 : decode cX2_init 27 = .ok (.putfield 20, 3) := by decide +kernel
theorem dX2_init_30 : decode cX2_init 30 = .ok (.aload_n 0, 1) := by decide +kernel
theorem dX2_init_31 : decode cX2_init 31 = .ok (.bipush 24, 2) := by decide +kernel
theorem dX2_init_33 : decode cX2_init 33 = .ok (.newarray .boolean, 2) := by decide +kernel
theorem dX2_init_35 : decode cX2_init 35 = .ok (.putfield 23, 3) := by decide +kernel
theorem dX2_init_38 : decode cX2_init 38 = .ok (.aload_n 0, 1) := by decide +kernel
theorem dX2_init_39 : decode cX2_init 39 = .ok (.bipush 24, 2) := by decide +kernel
theorem dX2_init_41 : decode cX2_init 41 = .ok (.newarray .int, 2) := by decide +kernel
theorem dX2_init_43 : decode cX2_init 43 = .ok (.putfield 27, 3) := by decide +kernel
theorem dX2_init_46 : decode cX2_init 46 = .ok (.aload_n 0, 1) := by decide +kernel
theorem dX2_init_47 : decode cX2_init 47 = .ok (.bipush 24, 2) := by decide +kernel
theorem dX2_init_49 : decode cX2_init 49 = .ok (.newarray .int, 2) := by decide +kernel
theorem dX2_init_51 : decode cX2_init 51 = .ok (.putfield 31, 3) := by decide +kernel
theorem dX2_init_54 : decode cX2_init 54 = .ok (.aload_n 0, 1) := by decide +kernel
theorem dX2_init_55 : decode cX2_init 55 = .ok (.bipush 8, 2) := by decide +kernel
theorem dX2_init_57 : decode cX2_init 57 = .ok (.newarray .int, 2) := by decide +kernel
theorem dX2_init_59 : decode cX2_init 59 = .ok (.putfield 34, 3) := by decide +kernel
theorem dX2_init_62 : decode cX2_init 62 = .ok (.aload_n 0, 1) := by decide +kernel
theorem dX2_init_63 : decode cX2_init 63 = .ok (.bipush 24, 2) := by decide +kernel
theorem dX2_init_65 : decode cX2_init 65 = .ok (.newarray .int, 2) := by decide +kernel
theorem dX2_init_67 : decode cX2_init 67 = .ok (.putfield 37, 3) := by decide +kernel
theorem dX2_init_70 : decode cX2_init 70 = .ok (.aload_n 0, 1) := by decide +kernel
theorem dX2_init_71 : decode cX2_init 71 = .ok (.bipush 12, 2) := by decide +kernel
theorem dX2_init_73 : decode cX2_init 73 = .ok (.newarray .int, 2) := by decide +kernel
theorem dX2_init_75 : decode cX2_init 75 = .ok (.putfield 40, 3) := by decide +kernel
theorem dX2_init_78 : decode cX2_init 78 = .ok (.aload_n 0, 1) := by decide +kernel
theorem dX2_init_79 : decode cX2_init 79 = .ok (.iconst 0, 1) := by decide +kernel
theorem dX2_init_80 : decode cX2_init 80 = .ok (.putfield 43, 3) := by decide +kernel
theorem dX2_init_83 : decode cX2_init 83 = .ok (.aload_n 0, 1) := by decide +kernel
theorem dX2_init_84 : decode cX2_init 84 = .ok (.iconst (-1), 1) := by decide +kernel
theorem dX2_init_85 : decode cX2_init 85 = .ok (.putfield 47, 3) := by decide +kernel
theorem dX2_init_88 : decode cX2_init 88 = .ok (.aload_n 0, 1) := by decide +kernel
theorem dX2_init_89 : decode cX2_init 89 = .ok (.aload_n 1, 1) := by decide +kernel
theorem dX2_init_90 : decode cX2_init 90 = .ok (.putfield 50, 3) := by decide +kernel
theorem dX2_init_93 : decode cX2_init 93 = .ok (.aload_n 0, 1) := by decide +kernel
theorem dX2_init_94 : decode cX2_init 94 = .ok (.aload_n 2, 1) := by decide +kernel
theorem dX2_init_95 : decode cX2_init 95 = .ok (.putfield 54, 3) := by decide +kernel
theorem dX2_init_98 : decode cX2_init 98 = .ok (.return_, 1) := by decide +kernel
theorem qX2_placeAll_r1 {w : Cond} (h : w ∈ wsX2_placeAll_r1) : w ∈ wsX2_placeAll := List.mem_cons_of_mem _ (List.mem_append_left _ (List.mem_append_left _ (List.mem_append_left _ (List.mem_append_left _ (h)))))
theorem qX2_placeAll_r2 {w : Cond} (h : w ∈ wsX2_placeAll_r2) : w ∈ wsX2_placeAll := List.mem_cons_of_mem _ (List.mem_append_left _ (List.mem_append_left _ (List.mem_append_left _ (List.mem_append_right _ (List.mem_append_left _ (h))))))
theorem qX2_placeAll_r3 {w : Cond} (h : w ∈ wsX2_placeAll_r3) : w ∈ wsX2_placeAll := List.mem_cons_of_mem _ (List.mem_append_left _ (List.mem_append_left _ (List.mem_append_left _ (List.mem_append_right _ (List.mem_append_right _ (List.mem_append_left _ (h)))))))
theorem qX2_placeAll_r4 {w : Cond} (h : w ∈ wsX2_placeAll_r4) : w ∈ wsX2_placeAll := List.mem_cons_of_mem _ (List.mem_append_left _ (List.mem_append_left _ (List.mem_append_left _ (List.mem_append_right _ (List.mem_append_right _ (List.mem_append_right _ (List.mem_append_left _ (h))))))))
theorem qX2_placeAll_r5 {w : Cond} (h : w ∈ wsX2_placeAll_r5) : w ∈ wsX2_placeAll := List.mem_cons_of_mem _ (List.mem_append_left _ (List.mem_append_left _ (List.mem_append_left _ (List.mem_append_right _ (List.mem_append_right _ (List.mem_append_right _ (List.mem_append_right _ (List.mem_append_left _ (h)))))))))
theorem qX2_placeAll_r6 {w : Cond} (h : w ∈ wsX2_placeAll_r6) : w ∈ wsX2_placeAll := List.mem_cons_of_mem _ (List.mem_append_left _ (List.mem_append_left _ (List.mem_append_left _ (List.mem_append_right _ (List.mem_append_right _ (List.mem_append_right _ (List.mem_append_right _ (List.mem_append_right _ (List.mem_append_left _ (h))))))))))
theorem qX2_placeAll_r7 {w : Cond} (h : w ∈ wsX2_placeAll_r7) : w ∈ wsX2_placeAll := List.mem_cons_of_mem _ (List.mem_append_left _ (List.mem_append_left _ (List.mem_append_left _ (List.mem_append_right _ (List.mem_append_right _ (List.mem_append_right _ (List.mem_append_right _ (List.mem_append_right _ (List.mem_append_right _ (List.mem_append_left _ (h)))))))))))
theorem qX2_placeAll_r8 {w : Cond} (h : w ∈ wsX2_placeAll_r8) : w ∈ wsX2_placeAll := List.mem_cons_of_mem _ (List.mem_append_left _ (List.mem_append_left _ (List.mem_append_left _ (List.mem_append_right _ (List.mem_append_right _ (List.mem_append_right _ (List.mem_append_right _ (List.mem_append_right _ (List.mem_append_right _ (List.mem_append_right _ (h)))))))))))
set_option maxRecDepth 20000 in
theorem ggX2_placeAll_X2_clear : GoodIn wsX2_placeAll wsX2_clear := goodIn_sub (fm_c (qX2_placeAll_r1 (mg 6 rfl)) (ms_a (ms_a (fm_c (qX2_placeAll_r1 (mg 7 rfl)) (fm_c (qX2_placeAll_r1 (mg 8 rfl)) (fm_c (qX2_placeAll_r1 (mg 9 rfl)) (fm_c (qX2_placeAll_r1 (mg 10 rfl)) (fm_c (qX2_placeAll_r1 (mg 1 rfl)) (fm_c (qX2_placeAll_r1 (mg 11 rfl)) (fm_c (qX2_placeAll_r1 (mg 12 rfl)) (fm_c (qX2_placeAll_r1 (mg 13 rfl)) (fm_c (qX2_placeAll_r1 (mg 14 rfl)) (fm_c (qX2_placeAll_r1 (mg 15 rfl)) (fm_c (qX2_placeAll_r1 (mg 16 rfl)) (fm_c (qX2_placeAll_r1 (mg 17 rfl)) (fm_c (qX2_placeAll_r1 (mg 18 rfl)) (fm_c (qX2_placeAll_r1 (mg 19 rfl)) (fm_c (qX2_placeAll_r1 (mg 20 rfl)) (fm_c (qX2_placeAll_r1 (mg 21 rfl)) (fm_c (qX2_placeAll_r1 (mg 22 rfl)) (fm_n)))))))))))))))))) (fun _ h => List.mem_cons_of_mem _ (List.mem_append_left _ (List.mem_append_left _ (List.mem_append_right _ (h)))))) (fun _ h => List.mem_cons_of_mem _ (List.mem_append_left _ (List.mem_append_right _ (h)))))) (by decide +kernel)
set_option maxRecDepth 20000 in
theorem gX2_placeAll_X2_clear : GoodIn wsX2_placeAll (wsV RX2 57 RX2 yX2_clear wsX2_clear) := goodIn_app (goodIn_sub (fm_c (qX2_placeAll_r1 (mg 2 rfl)) (fm_c (qX2_placeAll_r1 (mg 3 rfl)) (fm_c (qX2_placeAll_r1 (mg 4 rfl)) (fm_c (qX2_placeAll_r1 (mg 5 rfl)) (fm_n))))) (by decide +kernel)) ggX2_placeAll_X2_clear
set_option maxRecDepth 20000 in
theorem ggX2_placeAll_X0_size : GoodIn wsX2_placeAll wsX0_size := goodIn_sub (fm_c (qX2_placeAll_r2 (mg 3 rfl)) (ms_a (fm_c (qX2_placeAll_r2 (mg 4 rfl)) (fm_n)) (fun _ h => List.mem_cons_of_mem _ (List.mem_append_right _ (h))))) (by decide +kernel)
set_option maxRecDepth 20000 in
theorem gX2_placeAll_X0_size : GoodIn wsX2_placeAll (wsV RX2 60 RX0 yX0_size wsX0_size) := goodIn_app (goodIn_sub (fm_c (qX2_placeAll_r1 (mg 23 rfl)) (fm_c (qX2_placeAll_r2 (mg 0 rfl)) (fm_c (qX2_placeAll_r2 (mg 1 rfl)) (fm_c (qX2_placeAll_r2 (mg 2 rfl)) (fm_n))))) (by decide +kernel)) ggX2_placeAll_X0_size
set_option maxRecDepth 20000 in
theorem ggX2_placeAll_X2_lay : GoodIn wsX2_placeAll wsX2_lay := goodIn_sub (fm_c (qX2_placeAll_r2 (mg 8 rfl)) (ms_a (ms_a (ms_a (ms_a (fm_c (qX2_placeAll_r1 (mg 12 rfl)) (fm_c (qX2_placeAll_r1 (mg 0 rfl)) (fm_c (qX2_placeAll_r2 (mg 9 rfl)) (fm_c (qX2_placeAll_r2 (mg 10 rfl)) (fm_c (qX2_placeAll_r1 (mg 11 rfl)) (fm_c (qX2_placeAll_r1 (mg 23 rfl)) (fm_c (qX2_placeAll_r2 (mg 0 rfl)) (fm_c (qX2_placeAll_r2 (mg 1 rfl)) (fm_c (qX2_placeAll_r2 (mg 2 rfl)) (fm_c (qX2_placeAll_r2 (mg 3 rfl)) (fm_c (qX2_placeAll_r2 (mg 4 rfl)) (fm_c (qX2_placeAll_r2 (mg 11 rfl)) (fm_c (qX2_placeAll_r2 (mg 12 rfl)) (fm_c (qX2_placeAll_r2 (mg 13 rfl)) (fm_c (qX2_placeAll_r2 (mg 14 rfl)) (fm_c (qX2_placeAll_r2 (mg 15 rfl)) (fm_c (qX2_placeAll_r2 (mg 16 rfl)) (fm_c (qX2_placeAll_r2 (mg 17 rfl)) (fm_c (qX2_placeAll_r2 (mg 18 rfl)) (fm_c (qX2_placeAll_r2 (mg 19 rfl)) (fm_c (qX2_placeAll_r2 (mg 20 rfl)) (fm_c (qX2_placeAll_r2 (mg 21 rfl)) (fm_c (qX2_placeAll_r2 (mg 22 rfl)) (fm_c (qX2_placeAll_r2 (mg 23 rfl)) (fm_n))))))))))))))))))))))))) (ms_a (fm_c (qX2_placeAll_r1 (mg 5 rfl)) (fm_c (qX2_placeAll_r3 (mg 0 rfl)) (fm_c (qX2_placeAll_r3 (mg 1 rfl)) (fm_c (qX2_placeAll_r3 (mg 2 rfl)) (fm_c (qX2_placeAll_r3 (mg 3 rfl)) (fm_c (qX2_placeAll_r3 (mg 4 rfl)) (fm_c (qX2_placeAll_r3 (mg 5 rfl)) (fm_c (qX2_placeAll_r3 (mg 6 rfl)) (fm_c (qX2_placeAll_r3 (mg 7 rfl)) (fm_c (qX2_placeAll_r3 (mg 8 rfl)) (fm_c (qX2_placeAll_r1 (mg 9 rfl)) (fm_c (qX2_placeAll_r3 (mg 9 rfl)) (fm_c (qX2_placeAll_r3 (mg 10 rfl)) (fm_c (qX2_placeAll_r3 (mg 11 rfl)) (fm_c (qX2_placeAll_r3 (mg 12 rfl)) (fm_c (qX2_placeAll_r3 (mg 13 rfl)) (fm_c (qX2_placeAll_r3 (mg 14 rfl)) (fm_c (qX2_placeAll_r3 (mg 15 rfl)) (fm_c (qX2_placeAll_r3 (mg 16 rfl)) (fm_c (qX2_placeAll_r3 (mg 17 rfl)) (fm_c (qX2_placeAll_r3 (mg 18 rfl)) (fm_c (qX2_placeAll_r3 (mg 19 rfl)) (fm_c (qX2_placeAll_r3 (mg 20 rfl)) (fm_c (qX2_placeAll_r1 (mg 7 rfl)) (fm_n))))))))))))))))))))))))) (fm_c (qX2_placeAll_r1 (mg 8 rfl)) (fm_c (qX2_placeAll_r3 (mg 21 rfl)) (fm_c (qX2_placeAll_r3 (mg 22 rfl)) (fm_c (qX2_placeAll_r3 (mg 23 rfl)) (fm_c (qX2_placeAll_r1 (mg 18 rfl)) (fm_c (qX2_placeAll_r4 (mg 0 rfl)) (fm_c (qX2_placeAll_r1 (mg 22 rfl)) (fm_c (qX2_placeAll_r1 (mg 21 rfl)) (fm_c (qX2_placeAll_r4 (mg 1 rfl)) (fm_c (qX2_placeAll_r4 (mg 2 rfl)) (fm_c (qX2_placeAll_r4 (mg 3 rfl)) (fm_c (qX2_placeAll_r4 (mg 4 rfl)) (fm_c (qX2_placeAll_r4 (mg 5 rfl)) (fm_c (qX2_placeAll_r4 (mg 6 rfl)) (fm_c (qX2_placeAll_r4 (mg 7 rfl)) (fm_n)))))))))))))))))) (fun _ h => List.mem_cons_of_mem _ (List.mem_append_left _ (List.mem_append_left _ (List.mem_append_right _ (h)))))) (fun _ h => List.mem_cons_of_mem _ (List.mem_append_right _ (h)))) (fun _ h => List.mem_cons_of_mem _ (List.mem_append_left _ (List.mem_append_right _ (h)))))) (by decide +kernel)
set_option maxRecDepth 20000 in
theorem gX2_placeAll_X2_lay : GoodIn wsX2_placeAll (wsV RX2 69 RX2 yX2_lay wsX2_lay) := goodIn_app (goodIn_sub (fm_c (qX2_placeAll_r2 (mg 5 rfl)) (fm_c (qX2_placeAll_r2 (mg 6 rfl)) (fm_c (qX2_placeAll_r2 (mg 7 rfl)) (fm_c (qX2_placeAll_r1 (mg 5 rfl)) (fm_n))))) (by decide +kernel)) ggX2_placeAll_X2_lay
set_option maxRecDepth 20000 in
theorem ggX2_placeAll_X2_aimItems : GoodIn wsX2_placeAll wsX2_aimItems := goodIn_sub (fm_c (qX2_placeAll_r4 (mg 11 rfl)) (ms_a (ms_a (ms_a (ms_a (fm_c (qX2_placeAll_r1 (mg 0 rfl)) (fm_c (qX2_placeAll_r4 (mg 12 rfl)) (fm_c (qX2_placeAll_r1 (mg 8 rfl)) (fm_c (qX2_placeAll_r1 (mg 23 rfl)) (fm_c (qX2_placeAll_r2 (mg 0 rfl)) (fm_c (qX2_placeAll_r2 (mg 1 rfl)) (fm_c (qX2_placeAll_r2 (mg 2 rfl)) (fm_c (qX2_placeAll_r2 (mg 3 rfl)) (fm_c (qX2_placeAll_r2 (mg 4 rfl)) (fm_c (qX2_placeAll_r3 (mg 1 rfl)) (fm_c (qX2_placeAll_r3 (mg 2 rfl)) (fm_c (qX2_placeAll_r3 (mg 3 rfl)) (fm_c (qX2_placeAll_r3 (mg 4 rfl)) (fm_c (qX2_placeAll_r2 (mg 20 rfl)) (fm_c (qX2_placeAll_r2 (mg 16 rfl)) (fm_c (qX2_placeAll_r2 (mg 17 rfl)) (fm_c (qX2_placeAll_r2 (mg 18 rfl)) (fm_c (qX2_placeAll_r2 (mg 19 rfl)) (fm_c (qX2_placeAll_r2 (mg 15 rfl)) (fm_c (qX2_placeAll_r2 (mg 11 rfl)) (fm_c (qX2_placeAll_r2 (mg 12 rfl)) (fm_c (qX2_placeAll_r2 (mg 13 rfl)) (fm_c (qX2_placeAll_r2 (mg 14 rfl)) (fm_c (qX2_placeAll_r4 (mg 13 rfl)) (fm_n))))))))))))))))))))))))) (ms_a (fm_c (qX2_placeAll_r4 (mg 14 rfl)) (fm_c (qX2_placeAll_r4 (mg 15 rfl)) (fm_c (qX2_placeAll_r1 (mg 5 rfl)) (fm_c (qX2_placeAll_r4 (mg 16 rfl)) (fm_c (qX2_placeAll_r2 (mg 9 rfl)) (fm_c (qX2_placeAll_r4 (mg 17 rfl)) (fm_c (qX2_placeAll_r4 (mg 18 rfl)) (fm_c (qX2_placeAll_r4 (mg 19 rfl)) (fm_c (qX2_placeAll_r4 (mg 20 rfl)) (fm_c (qX2_placeAll_r4 (mg 21 rfl)) (fm_c (qX2_placeAll_r4 (mg 22 rfl)) (fm_c (qX2_placeAll_r4 (mg 23 rfl)) (fm_c (qX2_placeAll_r1 (mg 18 rfl)) (fm_c (qX2_placeAll_r5 (mg 0 rfl)) (fm_c (qX2_placeAll_r1 (mg 20 rfl)) (fm_c (qX2_placeAll_r5 (mg 1 rfl)) (fm_c (qX2_placeAll_r5 (mg 2 rfl)) (fm_c (qX2_placeAll_r5 (mg 3 rfl)) (fm_c (qX2_placeAll_r5 (mg 4 rfl)) (fm_c (qX2_placeAll_r5 (mg 5 rfl)) (fm_c (qX2_placeAll_r1 (mg 22 rfl)) (fm_c (qX2_placeAll_r5 (mg 6 rfl)) (fm_c (qX2_placeAll_r5 (mg 7 rfl)) (fm_c (qX2_placeAll_r5 (mg 8 rfl)) (fm_n))))))))))))))))))))))))) (ms_a (fm_c (qX2_placeAll_r5 (mg 9 rfl)) (fm_c (qX2_placeAll_r5 (mg 10 rfl)) (fm_c (qX2_placeAll_r5 (mg 11 rfl)) (fm_c (qX2_placeAll_r4 (mg 1 rfl)) (fm_c (qX2_placeAll_r4 (mg 2 rfl)) (fm_c (qX2_placeAll_r4 (mg 3 rfl)) (fm_c (qX2_placeAll_r5 (mg 12 rfl)) (fm_c (qX2_placeAll_r5 (mg 13 rfl)) (fm_c (qX2_placeAll_r5 (mg 14 rfl)) (fm_c (qX2_placeAll_r5 (mg 15 rfl)) (fm_c (qX2_placeAll_r5 (mg 16 rfl)) (fm_c (qX2_placeAll_r5 (mg 17 rfl)) (fm_c (qX2_placeAll_r5 (mg 18 rfl)) (fm_c (qX2_placeAll_r5 (mg 19 rfl)) (fm_c (qX2_placeAll_r5 (mg 20 rfl)) (fm_c (qX2_placeAll_r3 (mg 5 rfl)) (fm_c (qX2_placeAll_r3 (mg 6 rfl)) (fm_c (qX2_placeAll_r3 (mg 7 rfl)) (fm_c (qX2_placeAll_r3 (mg 8 rfl)) (fm_c (qX2_placeAll_r1 (mg 9 rfl)) (fm_c (qX2_placeAll_r5 (mg 21 rfl)) (fm_c (qX2_placeAll_r5 (mg 22 rfl)) (fm_c (qX2_placeAll_r5 (mg 23 rfl)) (fm_c (qX2_placeAll_r6 (mg 0 rfl)) (fm_n))))))))))))))))))))))))) (fm_c (qX2_placeAll_r1 (mg 7 rfl)) (fm_c (qX2_placeAll_r6 (mg 1 rfl)) (fm_c (qX2_placeAll_r6 (mg 2 rfl)) (fm_c (qX2_placeAll_r6 (mg 3 rfl)) (fm_c (qX2_placeAll_r6 (mg 4 rfl)) (fm_c (qX2_placeAll_r6 (mg 5 rfl)) (fm_c (qX2_placeAll_r6 (mg 6 rfl)) (fm_c (qX2_placeAll_r6 (mg 7 rfl)) (fm_c (qX2_placeAll_r6 (mg 8 rfl)) (fm_c (qX2_placeAll_r3 (mg 16 rfl)) (fm_c (qX2_placeAll_r6 (mg 9 rfl)) (fm_c (qX2_placeAll_r3 (mg 10 rfl)) (fm_c (qX2_placeAll_r6 (mg 10 rfl)) (fm_c (qX2_placeAll_r6 (mg 11 rfl)) (fm_c (qX2_placeAll_r6 (mg 12 rfl)) (fm_c (qX2_placeAll_r6 (mg 13 rfl)) (fm_c (qX2_placeAll_r6 (mg 14 rfl)) (fm_c (qX2_placeAll_r6 (mg 15 rfl)) (fm_c (qX2_placeAll_r6 (mg 16 rfl)) (fm_c (qX2_placeAll_r6 (mg 17 rfl)) (fm_c (qX2_placeAll_r6 (mg 18 rfl)) (fm_n))))))))))))))))))))))))) (fun _ h => List.mem_cons_of_mem _ (List.mem_append_left _ (List.mem_append_left _ (List.mem_append_right _ (h)))))) (fun _ h => List.mem_cons_of_mem _ (List.mem_append_right _ (h)))) (fun _ h => List.mem_cons_of_mem _ (List.mem_append_left _ (List.mem_append_right _ (h)))))) (by decide +kernel)
set_option maxRecDepth 20000 in
theorem gX2_placeAll_X2_aimItems : GoodIn wsX2_placeAll (wsV RX2 72 RX2 yX2_aimItems wsX2_aimItems) := goodIn_app (goodIn_sub (fm_c (qX2_placeAll_r4 (mg 8 rfl)) (fm_c (qX2_placeAll_r4 (mg 9 rfl)) (fm_c (qX2_placeAll_r4 (mg 10 rfl)) (fm_c (qX2_placeAll_r1 (mg 5 rfl)) (fm_n))))) (by decide +kernel)) ggX2_placeAll_X2_aimItems
set_option maxRecDepth 20000 in
theorem ggX2_placeAll_X2_aimIslands : GoodIn wsX2_placeAll wsX2_aimIslands := goodIn_sub (fm_c (qX2_placeAll_r6 (mg 22 rfl)) (ms_a (ms_a (ms_a (fm_c (qX2_placeAll_r1 (mg 7 rfl)) (fm_c (qX2_placeAll_r6 (mg 23 rfl)) (fm_c (qX2_placeAll_r4 (mg 21 rfl)) (fm_c (qX2_placeAll_r4 (mg 22 rfl)) (fm_c (qX2_placeAll_r4 (mg 23 rfl)) (fm_c (qX2_placeAll_r1 (mg 18 rfl)) (fm_c (qX2_placeAll_r5 (mg 0 rfl)) (fm_c (qX2_placeAll_r1 (mg 20 rfl)) (fm_c (qX2_placeAll_r5 (mg 1 rfl)) (fm_c (qX2_placeAll_r5 (mg 2 rfl)) (fm_c (qX2_placeAll_r5 (mg 3 rfl)) (fm_c (qX2_placeAll_r5 (mg 4 rfl)) (fm_c (qX2_placeAll_r5 (mg 5 rfl)) (fm_c (qX2_placeAll_r1 (mg 22 rfl)) (fm_c (qX2_placeAll_r5 (mg 6 rfl)) (fm_c (qX2_placeAll_r5 (mg 7 rfl)) (fm_c (qX2_placeAll_r5 (mg 8 rfl)) (fm_c (qX2_placeAll_r5 (mg 9 rfl)) (fm_c (qX2_placeAll_r5 (mg 10 rfl)) (fm_c (qX2_placeAll_r5 (mg 11 rfl)) (fm_c (qX2_placeAll_r4 (mg 1 rfl)) (fm_c (qX2_placeAll_r4 (mg 2 rfl)) (fm_c (qX2_placeAll_r4 (mg 3 rfl)) (fm_c (qX2_placeAll_r5 (mg 12 rfl)) (fm_n))))))))))))))))))))))))) (ms_a (fm_c (qX2_placeAll_r5 (mg 13 rfl)) (fm_c (qX2_placeAll_r5 (mg 14 rfl)) (fm_c (qX2_placeAll_r5 (mg 15 rfl)) (fm_c (qX2_placeAll_r5 (mg 21 rfl)) (fm_c (qX2_placeAll_r5 (mg 22 rfl)) (fm_c (qX2_placeAll_r5 (mg 23 rfl)) (fm_c (qX2_placeAll_r1 (mg 5 rfl)) (fm_c (qX2_placeAll_r6 (mg 0 rfl)) (fm_c (qX2_placeAll_r6 (mg 1 rfl)) (fm_c (qX2_placeAll_r6 (mg 2 rfl)) (fm_c (qX2_placeAll_r6 (mg 3 rfl)) (fm_c (qX2_placeAll_r6 (mg 4 rfl)) (fm_c (qX2_placeAll_r5 (mg 20 rfl)) (fm_c (qX2_placeAll_r6 (mg 5 rfl)) (fm_c (qX2_placeAll_r6 (mg 6 rfl)) (fm_c (qX2_placeAll_r6 (mg 7 rfl)) (fm_c (qX2_placeAll_r6 (mg 8 rfl)) (fm_c (qX2_placeAll_r3 (mg 16 rfl)) (fm_c (qX2_placeAll_r6 (mg 9 rfl)) (fm_c (qX2_placeAll_r3 (mg 10 rfl)) (fm_c (qX2_placeAll_r6 (mg 10 rfl)) (fm_c (qX2_placeAll_r6 (mg 11 rfl)) (fm_c (qX2_placeAll_r6 (mg 12 rfl)) (fm_c (qX2_placeAll_r6 (mg 13 rfl)) (fm_n))))))))))))))))))))))))) (fm_c (qX2_placeAll_r6 (mg 14 rfl)) (fm_n)))) (fun _ h => List.mem_cons_of_mem _ (List.mem_append_left _ (List.mem_append_left _ (List.mem_append_right _ (h)))))) (fun _ h => List.mem_cons_of_mem _ (List.mem_append_left _ (List.mem_append_right _ (h)))))) (by decide +kernel)
set_option maxRecDepth 20000 in
theorem gX2_placeAll_X2_aimIslands : GoodIn wsX2_placeAll (wsV RX2 75 RX2 yX2_aimIslands wsX2_aimIslands) := goodIn_app (goodIn_sub (fm_c (qX2_placeAll_r6 (mg 19 rfl)) (fm_c (qX2_placeAll_r6 (mg 20 rfl)) (fm_c (qX2_placeAll_r6 (mg 21 rfl)) (fm_c (qX2_placeAll_r1 (mg 5 rfl)) (fm_n))))) (by decide +kernel)) ggX2_placeAll_X2_aimIslands
set_option maxRecDepth 20000 in
theorem ggX2_placeAll_X2_mendsOne : GoodIn wsX2_placeAll wsX2_mendsOne := goodIn_sub (fm_c (qX2_placeAll_r7 (mg 3 rfl)) (ms_a (ms_a (ms_a (ms_a (fm_c (qX2_placeAll_r1 (mg 0 rfl)) (fm_c (qX2_placeAll_r1 (mg 7 rfl)) (fm_c (qX2_placeAll_r7 (mg 4 rfl)) (fm_c (qX2_placeAll_r7 (mg 5 rfl)) (fm_c (qX2_placeAll_r7 (mg 6 rfl)) (fm_c (qX2_placeAll_r1 (mg 5 rfl)) (fm_c (qX2_placeAll_r7 (mg 7 rfl)) (fm_c (qX2_placeAll_r1 (mg 23 rfl)) (fm_c (qX2_placeAll_r2 (mg 0 rfl)) (fm_c (qX2_placeAll_r2 (mg 1 rfl)) (fm_c (qX2_placeAll_r2 (mg 2 rfl)) (fm_c (qX2_placeAll_r2 (mg 3 rfl)) (fm_c (qX2_placeAll_r2 (mg 4 rfl)) (fm_c (qX2_placeAll_r2 (mg 11 rfl)) (fm_c (qX2_placeAll_r2 (mg 12 rfl)) (fm_c (qX2_placeAll_r2 (mg 13 rfl)) (fm_c (qX2_placeAll_r2 (mg 14 rfl)) (fm_c (qX2_placeAll_r2 (mg 15 rfl)) (fm_c (qX2_placeAll_r2 (mg 16 rfl)) (fm_c (qX2_placeAll_r2 (mg 17 rfl)) (fm_c (qX2_placeAll_r2 (mg 18 rfl)) (fm_c (qX2_placeAll_r2 (mg 19 rfl)) (fm_c (qX2_placeAll_r2 (mg 20 rfl)) (fm_c (qX2_placeAll_r3 (mg 5 rfl)) (fm_n))))))))))))))))))))))))) (ms_a (fm_c (qX2_placeAll_r3 (mg 6 rfl)) (fm_c (qX2_placeAll_r3 (mg 7 rfl)) (fm_c (qX2_placeAll_r3 (mg 8 rfl)) (fm_c (qX2_placeAll_r1 (mg 9 rfl)) (fm_c (qX2_placeAll_r7 (mg 8 rfl)) (fm_c (qX2_placeAll_r7 (mg 9 rfl)) (fm_c (qX2_placeAll_r7 (mg 10 rfl)) (fm_c (qX2_placeAll_r7 (mg 11 rfl)) (fm_c (qX2_placeAll_r4 (mg 12 rfl)) (fm_c (qX2_placeAll_r7 (mg 12 rfl)) (fm_c (qX2_placeAll_r7 (mg 13 rfl)) (fm_c (qX2_placeAll_r7 (mg 14 rfl)) (fm_c (qX2_placeAll_r7 (mg 15 rfl)) (fm_c (qX2_placeAll_r1 (mg 10 rfl)) (fm_c (qX2_placeAll_r7 (mg 16 rfl)) (fm_c (qX2_placeAll_r7 (mg 17 rfl)) (fm_c (qX2_placeAll_r7 (mg 18 rfl)) (fm_c (qX2_placeAll_r7 (mg 19 rfl)) (fm_c (qX2_placeAll_r1 (mg 8 rfl)) (fm_c (qX2_placeAll_r4 (mg 13 rfl)) (fm_c (qX2_placeAll_r4 (mg 14 rfl)) (fm_c (qX2_placeAll_r4 (mg 15 rfl)) (fm_c (qX2_placeAll_r4 (mg 16 rfl)) (fm_c (qX2_placeAll_r2 (mg 9 rfl)) (fm_n))))))))))))))))))))))))) (ms_a (fm_c (qX2_placeAll_r7 (mg 20 rfl)) (fm_c (qX2_placeAll_r7 (mg 21 rfl)) (fm_c (qX2_placeAll_r7 (mg 22 rfl)) (fm_c (qX2_placeAll_r7 (mg 23 rfl)) (fm_c (qX2_placeAll_r8 (mg 0 rfl)) (fm_c (qX2_placeAll_r8 (mg 1 rfl)) (fm_c (qX2_placeAll_r8 (mg 2 rfl)) (fm_c (qX2_placeAll_r1 (mg 18 rfl)) (fm_c (qX2_placeAll_r8 (mg 3 rfl)) (fm_c (qX2_placeAll_r1 (mg 22 rfl)) (fm_c (qX2_placeAll_r1 (mg 21 rfl)) (fm_c (qX2_placeAll_r4 (mg 1 rfl)) (fm_c (qX2_placeAll_r4 (mg 2 rfl)) (fm_c (qX2_placeAll_r4 (mg 3 rfl)) (fm_c (qX2_placeAll_r3 (mg 9 rfl)) (fm_c (qX2_placeAll_r3 (mg 10 rfl)) (fm_c (qX2_placeAll_r3 (mg 11 rfl)) (fm_c (qX2_placeAll_r5 (mg 16 rfl)) (fm_c (qX2_placeAll_r5 (mg 17 rfl)) (fm_c (qX2_placeAll_r5 (mg 18 rfl)) (fm_c (qX2_placeAll_r5 (mg 19 rfl)) (fm_c (qX2_placeAll_r5 (mg 20 rfl)) (fm_c (qX2_placeAll_r3 (mg 1 rfl)) (fm_c (qX2_placeAll_r3 (mg 2 rfl)) (fm_n))))))))))))))))))))))))) (ms_a (fm_c (qX2_placeAll_r3 (mg 3 rfl)) (fm_c (qX2_placeAll_r3 (mg 4 rfl)) (fm_c (qX2_placeAll_r8 (mg 4 rfl)) (fm_c (qX2_placeAll_r8 (mg 5 rfl)) (fm_c (qX2_placeAll_r8 (mg 6 rfl)) (fm_c (qX2_placeAll_r8 (mg 7 rfl)) (fm_c (qX2_placeAll_r1 (mg 20 rfl)) (fm_c (qX2_placeAll_r5 (mg 11 rfl)) (fm_c (qX2_placeAll_r5 (mg 5 rfl)) (fm_c (qX2_placeAll_r5 (mg 6 rfl)) (fm_c (qX2_placeAll_r8 (mg 8 rfl)) (fm_c (qX2_placeAll_r8 (mg 9 rfl)) (fm_c (qX2_placeAll_r8 (mg 10 rfl)) (fm_c (qX2_placeAll_r8 (mg 11 rfl)) (fm_c (qX2_placeAll_r1 (mg 13 rfl)) (fm_c (qX2_placeAll_r1 (mg 14 rfl)) (fm_c (qX2_placeAll_r8 (mg 12 rfl)) (fm_c (qX2_placeAll_r8 (mg 13 rfl)) (fm_c (qX2_placeAll_r8 (mg 14 rfl)) (fm_c (qX2_placeAll_r8 (mg 15 rfl)) (fm_c (qX2_placeAll_r6 (mg 5 rfl)) (fm_c (qX2_placeAll_r6 (mg 6 rfl)) (fm_c (qX2_placeAll_r6 (mg 7 rfl)) (fm_c (qX2_placeAll_r6 (mg 8 rfl)) (fm_n))))))))))))))))))))))))) (ms_a (fm_c (qX2_placeAll_r3 (mg 16 rfl)) (fm_c (qX2_placeAll_r6 (mg 9 rfl)) (fm_c (qX2_placeAll_r6 (mg 10 rfl)) (fm_c (qX2_placeAll_r8 (mg 16 rfl)) (fm_c (qX2_placeAll_r8 (mg 17 rfl)) (fm_c (qX2_placeAll_r8 (mg 18 rfl)) (fm_c (qX2_placeAll_r8 (mg 19 rfl)) (fm_c (qX2_placeAll_r4 (mg 21 rfl)) (fm_c (qX2_placeAll_r4 (mg 22 rfl)) (fm_c (qX2_placeAll_r4 (mg 23 rfl)) (fm_c (qX2_placeAll_r5 (mg 0 rfl)) (fm_c (qX2_placeAll_r8 (mg 20 rfl)) (fm_c (qX2_placeAll_r8 (mg 21 rfl)) (fm_c (qX2_placeAll_r8 (mg 22 rfl)) (fm_c (qX2_placeAll_r8 (mg 23 rfl)) (fm_c (qX2_placeAll_r6 (mg 23 rfl)) (fm_c (qX2_placeAll_r5 (mg 1 rfl)) (fm_c (qX2_placeAll_r5 (mg 2 rfl)) (fm_c (qX2_placeAll_r5 (mg 3 rfl)) (fm_c (qX2_placeAll_r5 (mg 4 rfl)) (fm_c (qX2_placeAll_r5 (mg 7 rfl)) (fm_c (qX2_placeAll_r5 (mg 8 rfl)) (fm_c (qX2_placeAll_r5 (mg 9 rfl)) (fm_c (qX2_placeAll_r5 (mg 10 rfl)) (fm_n))))))))))))))))))))))))) (fm_c (qX2_placeAll_r5 (mg 12 rfl)) (fm_c (qX2_placeAll_r5 (mg 13 rfl)) (fm_c (qX2_placeAll_r5 (mg 14 rfl)) (fm_c (qX2_placeAll_r5 (mg 15 rfl)) (fm_n)))))))))) (fun _ h => List.mem_cons_of_mem _ (List.mem_append_left _ (List.mem_append_left _ (List.mem_append_right _ (h)))))) (fun _ h => List.mem_cons_of_mem _ (List.mem_append_right _ (h)))) (fun _ h => List.mem_cons_of_mem _ (List.mem_append_left _ (List.mem_append_right _ (h)))))) (by decide +kernel)
set_option maxRecDepth 20000 in
theorem gX2_placeAll_X2_mendsOne : GoodIn wsX2_placeAll (wsV RX2 78 RX2 yX2_mendsOne wsX2_mendsOne) := goodIn_app (goodIn_sub (fm_c (qX2_placeAll_r7 (mg 0 rfl)) (fm_c (qX2_placeAll_r7 (mg 1 rfl)) (fm_c (qX2_placeAll_r7 (mg 2 rfl)) (fm_c (qX2_placeAll_r1 (mg 5 rfl)) (fm_n))))) (by decide +kernel)) ggX2_placeAll_X2_mendsOne
theorem dX2_placeAll_0 : decode cX2_placeAll 0 = .ok (.aload_n 0, 1) := by decide +kernel
theorem dX2_placeAll_1 : decode cX2_placeAll 1 = .ok (.invokevirtual 57, 3) := by decide +kernel
theorem dX2_placeAll_4 : decode cX2_placeAll 4 = .ok (.aload_n 0, 1) := by decide +kernel
theorem dX2_placeAll_5 : decode cX2_placeAll 5 = .ok (.getfield 50, 3) := by decide +kernel
theorem dX2_placeAll_8 : decode cX2_placeAll 8 = .ok (.invokevirtual 60, 3) := by decide +kernel
theorem dX2_placeAll_11 : decode cX2_placeAll 11 = .ok (.ifCond .ne 4, 3) := by decide +kernel
theorem dX2_placeAll_14 : decode cX2_placeAll 14 = .ok (.return_, 1) := by decide +kernel
theorem dX2_placeAll_15 : decode cX2_placeAll 15 = .ok (.iconst 1, 1) := by decide +kernel
theorem dX2_placeAll_16 : decode cX2_placeAll 16 = .ok (.istore_n 1, 1) := by decide +kernel
theorem dX2_placeAll_17 : decode cX2_placeAll 17 = .ok (.iload_n 1, 1) := by decide +kernel
theorem dX2_placeAll_18 : decode cX2_placeAll 18 = .ok (.ifCond .eq 42, 3) := by decide +kernel
theorem dX2_placeAll_21 : decode cX2_placeAll 21 = .ok (.aload_n 0, 1) := by decide +kernel
theorem dX2_placeAll_22 : decode cX2_placeAll 22 = .ok (.getfield 66, 3) := by decide +kernel
theorem dX2_placeAll_25 : decode cX2_placeAll 25 = .ok (.bipush 53, 2) := by decide +kernel
theorem dX2_placeAll_27 : decode cX2_placeAll 27 = .ok (.if_icmp .ge 33, 3) := by decide +kernel
theorem dX2_placeAll_30 : decode cX2_placeAll 30 = .ok (.aload_n 0, 1) := by decide +kernel
theorem dX2_placeAll_31 : decode cX2_placeAll 31 = .ok (.dup, 1) := by decide +kernel
theorem dX2_placeAll_32 : decode cX2_placeAll 32 = .ok (.getfield 66, 3) := by decide +kernel
theorem dX2_placeAll_35 : decode cX2_placeAll 35 = .ok (.iconst 1, 1) := by decide +kernel
theorem dX2_placeAll_36 : decode cX2_placeAll 36 = .ok (.iadd, 1) := by decide +kernel
theorem dX2_placeAll_37 : decode cX2_placeAll 37 = .ok (.putfield 66, 3) := by decide +kernel
theorem dX2_placeAll_40 : decode cX2_placeAll 40 = .ok (.aload_n 0, 1) := by decide +kernel
theorem dX2_placeAll_41 : decode cX2_placeAll 41 = .ok (.invokevirtual 69, 3) := by decide +kernel
theorem dX2_placeAll_44 : decode cX2_placeAll 44 = .ok (.aload_n 0, 1) := by decide +kernel
theorem dX2_placeAll_45 : decode cX2_placeAll 45 = .ok (.invokevirtual 72, 3) := by decide +kernel
theorem dX2_placeAll_48 : decode cX2_placeAll 48 = .ok (.aload_n 0, 1) := by decide +kernel
theorem dX2_placeAll_49 : decode cX2_placeAll 49 = .ok (.invokevirtual 75, 3) := by decide +kernel
theorem dX2_placeAll_52 : decode cX2_placeAll 52 = .ok (.aload_n 0, 1) := by decide +kernel
theorem dX2_placeAll_53 : decode cX2_placeAll 53 = .ok (.invokevirtual 78, 3) := by decide +kernel
theorem dX2_placeAll_56 : decode cX2_placeAll 56 = .ok (.istore_n 1, 1) := by decide +kernel
theorem dX2_placeAll_57 : decode cX2_placeAll 57 = .ok (.goto (-40), 3) := by decide +kernel
theorem dX2_placeAll_60 : decode cX2_placeAll 60 = .ok (.return_, 1) := by decide +kernel
set_option maxRecDepth 20000 in
theorem ggX2_clear_X4_clear : GoodIn wsX2_clear wsX4_clear := goodIn_sub (fm_c (List.mem_cons_of_mem _ (List.mem_append_left _ (List.mem_append_left _ (mg 13 rfl)))) (ms_a (fm_c (List.mem_cons_of_mem _ (List.mem_append_left _ (List.mem_append_left _ (mg 14 rfl)))) (fm_c (List.mem_cons_of_mem _ (List.mem_append_left _ (List.mem_append_left _ (mg 15 rfl)))) (fm_c (List.mem_cons_of_mem _ (List.mem_append_left _ (List.mem_append_left _ (mg 16 rfl)))) (fm_n)))) (fun _ h => List.mem_cons_of_mem _ (List.mem_append_right _ (h))))) (by decide +kernel)
set_option maxRecDepth 20000 in
theorem gX2_clear_X4_clear : GoodIn wsX2_clear (wsV RX2 82 RX4 yX4_clear wsX4_clear) := goodIn_app (goodIn_sub (fm_c (List.mem_cons_of_mem _ (List.mem_append_left _ (List.mem_append_left _ (mg 9 rfl)))) (fm_c (List.mem_cons_of_mem _ (List.mem_append_left _ (List.mem_append_left _ (mg 10 rfl)))) (fm_c (List.mem_cons_of_mem _ (List.mem_append_left _ (List.mem_append_left _ (mg 11 rfl)))) (fm_c (List.mem_cons_of_mem _ (List.mem_append_left _ (List.mem_append_left _ (mg 12 rfl)))) (fm_n))))) (by decide +kernel)) ggX2_clear_X4_clear
theorem dX2_clear_0 : decode cX2_clear 0 = .ok (.aload_n 0, 1) := by decide +kernel
theorem dX2_clear_1 : decode cX2_clear 1 = .ok (.getfield 14, 3) := by decide +kernel
theorem dX2_clear_4 : decode cX2_clear 4 = .ok (.invokevirtual 82, 3) := by decide +kernel
theorem dX2_clear_7 : decode cX2_clear 7 = .ok (.aload_n 0, 1) := by decide +kernel
theorem dX2_clear_8 : decode cX2_clear 8 = .ok (.getfield 20, 3) := by decide +kernel
theorem dX2_clear_11 : decode cX2_clear 11 = .ok (.invokevirtual 82, 3) := by decide +kernel
theorem dX2_clear_14 : decode cX2_clear 14 = .ok (.iconst 0, 1) := by decide +kernel
theorem dX2_clear_15 : decode cX2_clear 15 = .ok (.istore_n 1, 1) := by decide +kernel
theorem dX2_clear_16 : decode cX2_clear 16 = .ok (.iload_n 1, 1) := by decide +kernel
theorem dX2_clear_17 : decode cX2_clear 17 = .ok (.bipush 24, 2) := by decide +kernel
theorem dX2_clear_19 : decode cX2_clear 19 = .ok (.if_icmp .ge 16, 3) := by decide +kernel
theorem dX2_clear_22 : decode cX2_clear 22 = .ok (.aload_n 0, 1) := by decide +kernel
theorem dX2_clear_23 : decode cX2_clear 23 = .ok (.getfield 23, 3) := by decide +kernel
theorem dX2_clear_26 : decode cX2_clear 26 = .ok (.iload_n 1, 1) := by decide +kernel
theorem dX2_clear_27 : decode cX2_clear 27 = .ok (.iconst 0, 1) := by decide +kernel
theorem dX2_clear_28 : decode cX2_clear 28 = .ok (.bastore, 1) := by decide +kernel
theorem dX2_clear_29 : decode cX2_clear 29 = .ok (.iinc 1 1, 3) := by decide +kernel
theorem dX2_clear_32 : decode cX2_clear 32 = .ok (.goto (-16), 3) := by decide +kernel
theorem dX2_clear_35 : decode cX2_clear 35 = .ok (.aload_n 0, 1) := by decide +kernel
theorem dX2_clear_36 : decode cX2_clear 36 = .ok (.iconst 0, 1) := by decide +kernel
theorem dX2_clear_37 : decode cX2_clear 37 = .ok (.putfield 83, 3) := by decide +kernel
theorem dX2_clear_40 : decode cX2_clear 40 = .ok (.aload_n 0, 1) := by decide +kernel
theorem dX2_clear_41 : decode cX2_clear 41 = .ok (.iconst 0, 1) := by decide +kernel
theorem dX2_clear_42 : decode cX2_clear 42 = .ok (.putfield 66, 3) := by decide +kernel
theorem dX2_clear_45 : decode cX2_clear 45 = .ok (.aload_n 0, 1) := by decide +kernel
theorem dX2_clear_46 : decode cX2_clear 46 = .ok (.iconst 0, 1) := by decide +kernel
theorem dX2_clear_47 : decode cX2_clear 47 = .ok (.putfield 86, 3) := by decide +kernel
theorem dX2_clear_50 : decode cX2_clear 50 = .ok (.aload_n 0, 1) := by decide +kernel
theorem dX2_clear_51 : decode cX2_clear 51 = .ok (.iconst 0, 1) := by decide +kernel
theorem dX2_clear_52 : decode cX2_clear 52 = .ok (.putfield 89, 3) := by decide +kernel
theorem dX2_clear_55 : decode cX2_clear 55 = .ok (.aload_n 0, 1) := by decide +kernel
theorem dX2_clear_56 : decode cX2_clear 56 = .ok (.iconst 0, 1) := by decide +kernel
theorem dX2_clear_57 : decode cX2_clear 57 = .ok (.putfield 43, 3) := by decide +kernel
theorem dX2_clear_60 : decode cX2_clear 60 = .ok (.aload_n 0, 1) := by decide +kernel
theorem dX2_clear_61 : decode cX2_clear 61 = .ok (.iconst (-1), 1) := by decide +kernel
theorem dX2_clear_62 : decode cX2_clear 62 = .ok (.putfield 47, 3) := by decide +kernel
theorem dX2_clear_65 : decode cX2_clear 65 = .ok (.return_, 1) := by decide +kernel
theorem qX2_lay_r1 {w : Cond} (h : w ∈ wsX2_lay_r1) : w ∈ wsX2_lay := List.mem_cons_of_mem _ (List.mem_append_left _ (List.mem_append_left _ (List.mem_append_left _ (List.mem_append_left _ (h)))))
theorem qX2_lay_r2 {w : Cond} (h : w ∈ wsX2_lay_r2) : w ∈ wsX2_lay := List.mem_cons_of_mem _ (List.mem_append_left _ (List.mem_append_left _ (List.mem_append_left _ (List.mem_append_right _ (List.mem_append_left _ (h))))))
theorem qX2_lay_r3 {w : Cond} (h : w ∈ wsX2_lay_r3) : w ∈ wsX2_lay := List.mem_cons_of_mem _ (List.mem_append_left _ (List.mem_append_left _ (List.mem_append_left _ (List.mem_append_right _ (List.mem_append_right _ (h))))))
set_option maxRecDepth 20000 in
theorem ggX2_lay_X0_size : GoodIn wsX2_lay wsX0_size := goodIn_sub (fm_c (qX2_lay_r1 (mg 9 rfl)) (ms_a (fm_c (qX2_lay_r1 (mg 10 rfl)) (fm_n)) (fun _ h => List.mem_cons_of_mem _ (List.mem_append_left _ (List.mem_append_right _ (h)))))) (by decide +kernel)
set_option maxRecDepth 20000 in
theorem gX2_lay_X0_size : GoodIn wsX2_lay (wsV RX2 60 RX0 yX0_size wsX0_size) := goodIn_app (goodIn_sub (fm_c (qX2_lay_r1 (mg 5 rfl)) (fm_c (qX2_lay_r1 (mg 6 rfl)) (fm_c (qX2_lay_r1 (mg 7 rfl)) (fm_c (qX2_lay_r1 (mg 8 rfl)) (fm_n))))) (by decide +kernel)) ggX2_lay_X0_size
set_option maxRecDepth 20000 in
theorem ggX2_lay_X0_kindOf : GoodIn wsX2_lay wsX0_kindOf := goodIn_sub (fm_c (qX2_lay_r1 (mg 14 rfl)) (ms_a (fm_c (qX2_lay_r1 (mg 15 rfl)) (fm_c (qX2_lay_r1 (mg 16 rfl)) (fm_c (qX2_lay_r1 (mg 17 rfl)) (fm_c (qX2_lay_r1 (mg 18 rfl)) (fm_c (qX2_lay_r1 (mg 8 rfl)) (fm_c (qX2_lay_r1 (mg 19 rfl)) (fm_c (qX2_lay_r1 (mg 10 rfl)) (fm_c (qX2_lay_r1 (mg 20 rfl)) (fm_n))))))))) (fun _ h => List.mem_cons_of_mem _ (List.mem_append_left _ (List.mem_append_right _ (h)))))) (by decide +kernel)
set_option maxRecDepth 20000 in
theorem gX2_lay_X0_kindOf : GoodIn wsX2_lay (wsV RX2 92 RX0 yX0_kindOf wsX0_kindOf) := goodIn_app (goodIn_sub (fm_c (qX2_lay_r1 (mg 11 rfl)) (fm_c (qX2_lay_r1 (mg 12 rfl)) (fm_c (qX2_lay_r1 (mg 13 rfl)) (fm_c (qX2_lay_r1 (mg 8 rfl)) (fm_n))))) (by decide +kernel)) ggX2_lay_X0_kindOf
set_option maxRecDepth 20000 in
theorem ggX2_lay_X2_sizeAt : GoodIn wsX2_lay wsX2_sizeAt := goodIn_sub (fm_c (qX2_lay_r2 (mg 1 rfl)) (ms_a (ms_a (ms_a (fm_c (qX2_lay_r1 (mg 1 rfl)) (fm_c (qX2_lay_r1 (mg 11 rfl)) (fm_c (qX2_lay_r1 (mg 12 rfl)) (fm_c (qX2_lay_r1 (mg 13 rfl)) (fm_c (qX2_lay_r1 (mg 8 rfl)) (fm_c (qX2_lay_r1 (mg 14 rfl)) (fm_c (qX2_lay_r1 (mg 15 rfl)) (fm_c (qX2_lay_r1 (mg 16 rfl)) (fm_c (qX2_lay_r1 (mg 17 rfl)) (fm_c (qX2_lay_r1 (mg 18 rfl)) (fm_c (qX2_lay_r1 (mg 19 rfl)) (fm_c (qX2_lay_r1 (mg 10 rfl)) (fm_c (qX2_lay_r1 (mg 20 rfl)) (fm_c (qX2_lay_r2 (mg 2 rfl)) (fm_c (qX2_lay_r2 (mg 3 rfl)) (fm_c (qX2_lay_r2 (mg 4 rfl)) (fm_c (qX2_lay_r2 (mg 5 rfl)) (fm_c (qX2_lay_r2 (mg 6 rfl)) (fm_c (qX2_lay_r2 (mg 7 rfl)) (fm_c (qX2_lay_r2 (mg 8 rfl)) (fm_c (qX2_lay_r2 (mg 0 rfl)) (fm_c (qX2_lay_r2 (mg 9 rfl)) (fm_c (qX2_lay_r2 (mg 10 rfl)) (fm_c (qX2_lay_r2 (mg 11 rfl)) (fm_n))))))))))))))))))))))))) (fm_c (qX2_lay_r2 (mg 12 rfl)) (fm_c (qX2_lay_r2 (mg 13 rfl)) (fm_n)))) (fun _ h => List.mem_cons_of_mem _ (List.mem_append_left _ (List.mem_append_left _ (List.mem_append_right _ (h)))))) (fun _ h => List.mem_cons_of_mem _ (List.mem_append_left _ (List.mem_append_right _ (h)))))) (by decide +kernel)
set_option maxRecDepth 20000 in
theorem gX2_lay_X2_sizeAt : GoodIn wsX2_lay (wsV RX2 96 RX2 yX2_sizeAt wsX2_sizeAt) := goodIn_app (goodIn_sub (fm_c (qX2_lay_r1 (mg 21 rfl)) (fm_c (qX2_lay_r1 (mg 22 rfl)) (fm_c (qX2_lay_r1 (mg 23 rfl)) (fm_c (qX2_lay_r2 (mg 0 rfl)) (fm_n))))) (by decide +kernel)) ggX2_lay_X2_sizeAt
set_option maxRecDepth 20000 in
theorem ggX2_lay_X0_toldOf : GoodIn wsX2_lay wsX0_toldOf := goodIn_sub (fm_c (qX2_lay_r2 (mg 5 rfl)) (ms_a (fm_c (qX2_lay_r1 (mg 20 rfl)) (fm_c (qX2_lay_r1 (mg 16 rfl)) (fm_c (qX2_lay_r1 (mg 17 rfl)) (fm_c (qX2_lay_r1 (mg 18 rfl)) (fm_c (qX2_lay_r1 (mg 8 rfl)) (fm_c (qX2_lay_r1 (mg 19 rfl)) (fm_c (qX2_lay_r1 (mg 10 rfl)) (fm_c (qX2_lay_r1 (mg 15 rfl)) (fm_n))))))))) (fun _ h => List.mem_cons_of_mem _ (List.mem_append_left _ (List.mem_append_right _ (h)))))) (by decide +kernel)
set_option maxRecDepth 20000 in
theorem gX2_lay_X0_toldOf : GoodIn wsX2_lay (wsV RX2 100 RX0 yX0_toldOf wsX0_toldOf) := goodIn_app (goodIn_sub (fm_c (qX2_lay_r2 (mg 2 rfl)) (fm_c (qX2_lay_r2 (mg 3 rfl)) (fm_c (qX2_lay_r2 (mg 4 rfl)) (fm_c (qX2_lay_r1 (mg 8 rfl)) (fm_n))))) (by decide +kernel)) ggX2_lay_X0_toldOf
set_option maxRecDepth 20000 in
theorem ggX2_lay_X2_noteLabel : GoodIn wsX2_lay wsX2_noteLabel := goodIn_sub (fm_c (qX2_lay_r2 (mg 17 rfl)) (ms_a (fm_c (qX2_lay_r2 (mg 18 rfl)) (fm_n)) (fun _ h => List.mem_cons_of_mem _ (List.mem_append_left _ (List.mem_append_left _ (List.mem_append_right _ (h))))))) (by decide +kernel)
set_option maxRecDepth 20000 in
theorem gX2_lay_X2_noteLabel : GoodIn wsX2_lay (wsV RX2 103 RX2 yX2_noteLabel wsX2_noteLabel) := goodIn_app (goodIn_sub (fm_c (qX2_lay_r2 (mg 14 rfl)) (fm_c (qX2_lay_r2 (mg 15 rfl)) (fm_c (qX2_lay_r2 (mg 16 rfl)) (fm_c (qX2_lay_r2 (mg 0 rfl)) (fm_n))))) (by decide +kernel)) ggX2_lay_X2_noteLabel
set_option maxRecDepth 20000 in
theorem ggX2_lay_X2_layGap : GoodIn wsX2_lay wsX2_layGap := goodIn_sub (fm_c (qX2_lay_r2 (mg 22 rfl)) (ms_a (ms_a (fm_c (qX2_lay_r2 (mg 23 rfl)) (fm_c (qX2_lay_r3 (mg 0 rfl)) (fm_c (qX2_lay_r1 (mg 0 rfl)) (fm_c (qX2_lay_r3 (mg 1 rfl)) (fm_c (qX2_lay_r3 (mg 2 rfl)) (fm_c (qX2_lay_r3 (mg 3 rfl)) (fm_c (qX2_lay_r3 (mg 4 rfl)) (fm_c (qX2_lay_r3 (mg 5 rfl)) (fm_c (qX2_lay_r3 (mg 6 rfl)) (fm_c (qX2_lay_r3 (mg 7 rfl)) (fm_c (qX2_lay_r3 (mg 8 rfl)) (fm_c (qX2_lay_r3 (mg 9 rfl)) (fm_c (qX2_lay_r3 (mg 10 rfl)) (fm_c (qX2_lay_r3 (mg 11 rfl)) (fm_c (qX2_lay_r3 (mg 12 rfl)) (fm_c (qX2_lay_r3 (mg 13 rfl)) (fm_c (qX2_lay_r3 (mg 14 rfl)) (fm_c (qX2_lay_r2 (mg 11 rfl)) (fm_c (qX2_lay_r2 (mg 12 rfl)) (fm_c (qX2_lay_r2 (mg 13 rfl)) (fm_n))))))))))))))))))))) (fun _ h => List.mem_cons_of_mem _ (List.mem_append_left _ (List.mem_append_left _ (List.mem_append_right _ (h)))))) (fun _ h => List.mem_cons_of_mem _ (List.mem_append_right _ (h))))) (by decide +kernel)
set_option maxRecDepth 20000 in
theorem gX2_lay_X2_layGap : GoodIn wsX2_lay (wsV RX2 107 RX2 yX2_layGap wsX2_layGap) := goodIn_app (goodIn_sub (fm_c (qX2_lay_r2 (mg 19 rfl)) (fm_c (qX2_lay_r2 (mg 20 rfl)) (fm_c (qX2_lay_r2 (mg 21 rfl)) (fm_c (qX2_lay_r2 (mg 0 rfl)) (fm_n))))) (by decide +kernel)) ggX2_lay_X2_layGap
theorem dX2_lay_0 : decode cX2_lay 0 = .ok (.iconst 0, 1) := by decide +kernel
theorem dX2_lay_1 : decode cX2_lay 1 = .ok (.istore_n 1, 1) := by decide +kernel
theorem dX2_lay_2 : decode cX2_lay 2 = .ok (.aload_n 0, 1) := by decide +kernel
theorem dX2_lay_3 : decode cX2_lay 3 = .ok (.iconst 0, 1) := by decide +kernel
theorem dX2_lay_4 : decode cX2_lay 4 = .ok (.putfield 89, 3) := by decide +kernel
theorem dX2_lay_7 : decode cX2_lay 7 = .ok (.iconst 0, 1) := by decide +kernel
theorem dX2_lay_8 : decode cX2_lay 8 = .ok (.istore_n 2, 1) := by decide +kernel
theorem dX2_lay_9 : decode cX2_lay 9 = .ok (.iload_n 2, 1) := by decide +kernel
theorem dX2_lay_10 : decode cX2_lay 10 = .ok (.aload_n 0, 1) := by decide +kernel
theorem dX2_lay_11 : decode cX2_lay 11 = .ok (.getfield 50, 3) := by decide +kernel
theorem dX2_lay_14 : decode cX2_lay 14 = .ok (.invokevirtual 60, 3) := by decide +kernel
theorem dX2_lay_17 : decode cX2_lay 17 = .ok (.if_icmp .ge 104, 3) := by decide +kernel
theorem dX2_lay_20 : decode cX2_lay 20 = .ok (.iload_n 2, 1) := by decide +kernel
theorem dX2_lay_21 : decode cX2_lay 21 = .ok (.bipush 24, 2) := by decide +kernel
theorem dX2_lay_23 : decode cX2_lay 23 = .ok (.if_icmp .ge 98, 3) := by decide +kernel
theorem dX2_lay_26 : decode cX2_lay 26 = .ok (.aload_n 0, 1) := by decide +kernel
theorem dX2_lay_27 : decode cX2_lay 27 = .ok (.getfield 50, 3) := by decide +kernel
theorem dX2_lay_30 : decode cX2_lay 30 = .ok (.iload_n 2, 1) := by decide +kernel
theorem dX2_lay_31 : decode cX2_lay 31 = .ok (.invokevirtual 92, 3) := by decide +kernel
theorem dX2_lay_34 : decode cX2_lay 34 = .ok (.istore_n 3, 1) := by decide +kernel
theorem dX2_lay_35 : decode cX2_lay 35 = .ok (.aload_n 0, 1) := by decide +kernel
theorem dX2_lay_36 : decode cX2_lay 36 = .ok (.iload_n 2, 1) := by decide +kernel
theorem dX2_lay_37 : decode cX2_lay 37 = .ok (.iload_n 1, 1) := by decide +kernel
theorem dX2_lay_38 : decode cX2_lay 38 = .ok (.invokevirtual 96, 3) := by decide +kernel
theorem dX2_lay_41 : decode cX2_lay 41 = .ok (.istore 4, 2) := by decide +kernel
theorem dX2_lay_43 : decode cX2_lay 43 = .ok (.aload_n 0, 1) := by decide +kernel
theorem dX2_lay_44 : decode cX2_lay 44 = .ok (.getfield 27, 3) := by decide +kernel
theorem dX2_lay_47 : decode cX2_lay 47 = .ok (.iload_n 2, 1) := by decide +kernel
theorem dX2_lay_48 : decode cX2_lay 48 = .ok (.iload_n 1, 1) := by decide +kernel
theorem dX2_lay_49 : decode cX2_lay 49 = .ok (.iastore, 1) := by decide +kernel
theorem dX2_lay_50 : decode cX2_lay 50 = .ok (.aload_n 0, 1) := by decide +kernel
theorem dX2_lay_51 : decode cX2_lay 51 = .ok (.getfield 31, 3) := by decide +kernel
theorem dX2_lay_54 : decode cX2_lay 54 = .ok (.iload_n 2, 1) := by decide +kernel
theorem dX2_lay_55 : decode cX2_lay 55 = .ok (.iload 4, 2) := by decide +kernel
theorem dX2_lay_57 : decode cX2_lay 57 = .ok (.iastore, 1) := by decide +kernel
theorem dX2_lay_58 : decode cX2_lay 58 = .ok (.iload_n 1, 1) := by decide +kernel
theorem dX2_lay_59 : decode cX2_lay 59 = .ok (.iload 4, 2) := by decide +kernel
theorem dX2_lay_61 : decode cX2_lay 61 = .ok (.iadd, 1) := by decide +kernel
theorem dX2_lay_62 : decode cX2_lay 62 = .ok (.istore_n 1, 1) := by decide +kernel
theorem dX2_lay_63 : decode cX2_lay 63 = .ok (.iload_n 3, 1) := by decide +kernel
theorem dX2_lay_64 : decode cX2_lay 64 = .ok (.iconst 4, 1) := by decide +kernel
theorem dX2_lay_65 : decode cX2_lay 65 = .ok (.if_icmp .ne 17, 3) := by decide +kernel
theorem dX2_lay_68 : decode cX2_lay 68 = .ok (.aload_n 0, 1) := by decide +kernel
theorem dX2_lay_69 : decode cX2_lay 69 = .ok (.dup, 1) := by decide +kernel
theorem dX2_lay_70 : decode cX2_lay 70 = .ok (.getfield 89, 3) := by decide +kernel
theorem dX2_lay_73 : decode cX2_lay 73 = .ok (.iload 4, 2) := by decide +kernel
theorem dX2_lay_75 : decode cX2_lay 75 = .ok (.iadd, 1) := by decide +kernel
theorem dX2_lay_76 : decode cX2_lay 76 = .ok (.putfield 89, 3) := by decide +kernel
theorem dX2_lay_79 : decode cX2_lay 79 = .ok (.goto 36, 3) := by decide +kernel
theorem dX2_lay_82 : decode cX2_lay 82 = .ok (.iload_n 3, 1) := by decide +kernel
theorem dX2_lay_83 : decode cX2_lay 83 = .ok (.iconst 3, 1) := by decide +kernel
theorem dX2_lay_84 : decode cX2_lay 84 = .ok (.if_icmp .ne 19, 3) := by decide +kernel
theorem dX2_lay_87 : decode cX2_lay 87 = .ok (.aload_n 0, 1) := by decide +kernel
theorem dX2_lay_88 : decode cX2_lay 88 = .ok (.aload_n 0, 1) := by decide +kernel
theorem dX2_lay_89 : decode cX2_lay 89 = .ok (.getfield 50, 3) := by decide +kernel
theorem dX2_lay_92 : decode cX2_lay 92 = .ok (.iload_n 2, 1) := by decide +kernel
theorem dX2_lay_93 : decode cX2_lay 93 = .ok (.invokevirtual 100, 3) := by decide +kernel
theorem dX2_lay_96 : decode cX2_lay 96 = .ok (.iload_n 1, 1) := by decide +kernel
theorem dX2_lay_97 : decode cX2_lay 97 = .ok (.invokevirtual 103, 3) := by decide +kernel
theorem dX2_lay_100 : decode cX2_lay 100 = .ok (.goto 15, 3) := by decide +kernel
theorem dX2_lay_103 : decode cX2_lay 103 = .ok (.iload_n 3, 1) := by decide +kernel
theorem dX2_lay_104 : decode cX2_lay 104 = .ok (.iconst 5, 1) := by decide +kernel
theorem dX2_lay_105 : decode cX2_lay 105 = .ok (.if_icmp .ne 10, 3) := by decide +kernel
theorem dX2_lay_108 : decode cX2_lay 108 = .ok (.aload_n 0, 1) := by decide +kernel
theorem dX2_lay_109 : decode cX2_lay 109 = .ok (.iload_n 2, 1) := by decide +kernel
theorem dX2_lay_110 : decode cX2_lay 110 = .ok (.iload_n 1, 1) := by decide +kernel
theorem dX2_lay_111 : decode cX2_lay 111 = .ok (.invokevirtual 107, 3) := by decide +kernel
theorem dX2_lay_114 : decode cX2_lay 114 = .ok (.istore_n 1, 1) := by decide +kernel
theorem dX2_lay_115 : decode cX2_lay 115 = .ok (.iinc 2 1, 3) := by decide +kernel
theorem dX2_lay_118 : decode cX2_lay 118 = .ok (.goto (-109), 3) := by decide +kernel
theorem dX2_lay_121 : decode cX2_lay 121 = .ok (.aload_n 0, 1) := by decide +kernel
theorem dX2_lay_122 : decode cX2_lay 122 = .ok (.iload_n 1, 1) := by decide +kernel
theorem dX2_lay_123 : decode cX2_lay 123 = .ok (.putfield 86, 3) := by decide +kernel
theorem dX2_lay_126 : decode cX2_lay 126 = .ok (.return_, 1) := by decide +kernel
theorem qX2_sizeAt_r1 {w : Cond} (h : w ∈ wsX2_sizeAt_r1) : w ∈ wsX2_sizeAt := List.mem_cons_of_mem _ (List.mem_append_left _ (List.mem_append_left _ (List.mem_append_left _ (h))))
theorem qX2_sizeAt_r2 {w : Cond} (h : w ∈ wsX2_sizeAt_r2) : w ∈ wsX2_sizeAt := List.mem_cons_of_mem _ (List.mem_append_left _ (List.mem_append_left _ (List.mem_append_right _ (h))))
set_option maxRecDepth 20000 in
theorem ggX2_sizeAt_X0_kindOf : GoodIn wsX2_sizeAt wsX0_kindOf := goodIn_sub (fm_c (qX2_sizeAt_r1 (mg 5 rfl)) (ms_a (fm_c (qX2_sizeAt_r1 (mg 6 rfl)) (fm_c (qX2_sizeAt_r1 (mg 7 rfl)) (fm_c (qX2_sizeAt_r1 (mg 8 rfl)) (fm_c (qX2_sizeAt_r1 (mg 9 rfl)) (fm_c (qX2_sizeAt_r1 (mg 4 rfl)) (fm_c (qX2_sizeAt_r1 (mg 10 rfl)) (fm_c (qX2_sizeAt_r1 (mg 11 rfl)) (fm_c (qX2_sizeAt_r1 (mg 12 rfl)) (fm_n))))))))) (fun _ h => List.mem_cons_of_mem _ (List.mem_append_right _ (h))))) (by decide +kernel)
set_option maxRecDepth 20000 in
theorem gX2_sizeAt_X0_kindOf : GoodIn wsX2_sizeAt (wsV RX2 92 RX0 yX0_kindOf wsX0_kindOf) := goodIn_app (goodIn_sub (fm_c (qX2_sizeAt_r1 (mg 1 rfl)) (fm_c (qX2_sizeAt_r1 (mg 2 rfl)) (fm_c (qX2_sizeAt_r1 (mg 3 rfl)) (fm_c (qX2_sizeAt_r1 (mg 4 rfl)) (fm_n))))) (by decide +kernel)) ggX2_sizeAt_X0_kindOf
set_option maxRecDepth 20000 in
theorem ggX2_sizeAt_X0_toldOf : GoodIn wsX2_sizeAt wsX0_toldOf := goodIn_sub (fm_c (qX2_sizeAt_r1 (mg 16 rfl)) (ms_a (fm_c (qX2_sizeAt_r1 (mg 12 rfl)) (fm_c (qX2_sizeAt_r1 (mg 7 rfl)) (fm_c (qX2_sizeAt_r1 (mg 8 rfl)) (fm_c (qX2_sizeAt_r1 (mg 9 rfl)) (fm_c (qX2_sizeAt_r1 (mg 4 rfl)) (fm_c (qX2_sizeAt_r1 (mg 10 rfl)) (fm_c (qX2_sizeAt_r1 (mg 11 rfl)) (fm_c (qX2_sizeAt_r1 (mg 6 rfl)) (fm_n))))))))) (fun _ h => List.mem_cons_of_mem _ (List.mem_append_right _ (h))))) (by decide +kernel)
set_option maxRecDepth 20000 in
theorem gX2_sizeAt_X0_toldOf : GoodIn wsX2_sizeAt (wsV RX2 100 RX0 yX0_toldOf wsX0_toldOf) := goodIn_app (goodIn_sub (fm_c (qX2_sizeAt_r1 (mg 13 rfl)) (fm_c (qX2_sizeAt_r1 (mg 14 rfl)) (fm_c (qX2_sizeAt_r1 (mg 15 rfl)) (fm_c (qX2_sizeAt_r1 (mg 4 rfl)) (fm_n))))) (by decide +kernel)) ggX2_sizeAt_X0_toldOf
set_option maxRecDepth 20000 in
theorem ggX2_sizeAt_X2_isLong : GoodIn wsX2_sizeAt wsX2_isLong := goodIn_sub (fm_c (qX2_sizeAt_r1 (mg 21 rfl)) (ms_a (fm_c (qX2_sizeAt_r1 (mg 22 rfl)) (fm_n)) (fun _ h => List.mem_cons_of_mem _ (List.mem_append_left _ (List.mem_append_right _ (h)))))) (by decide +kernel)
set_option maxRecDepth 20000 in
theorem gX2_sizeAt_X2_isLong : GoodIn wsX2_sizeAt (wsV RX2 110 RX2 yX2_isLong wsX2_isLong) := goodIn_app (goodIn_sub (fm_c (qX2_sizeAt_r1 (mg 17 rfl)) (fm_c (qX2_sizeAt_r1 (mg 18 rfl)) (fm_c (qX2_sizeAt_r1 (mg 19 rfl)) (fm_c (qX2_sizeAt_r1 (mg 20 rfl)) (fm_n))))) (by decide +kernel)) ggX2_sizeAt_X2_isLong
set_option maxRecDepth 20000 in
theorem ggX2_sizeAt_X5_fillTo : GoodIn wsX2_sizeAt wsX5_fillTo := goodIn_sub (fm_c (qX2_sizeAt_r2 (mg 1 rfl)) (fm_n)) (by decide +kernel)
set_option maxRecDepth 20000 in
theorem gX2_sizeAt_X5_fillTo_n114 : GoodIn wsX2_sizeAt (wsX5_fillTo) := ggX2_sizeAt_X5_fillTo
theorem dX2_sizeAt_0 : decode cX2_sizeAt 0 = .ok (.aload_n 0, 1) := by decide +kernel
theorem dX2_sizeAt_1 : decode cX2_sizeAt 1 = .ok (.getfield 50, 3) := by decide +kernel
theorem dX2_sizeAt_4 : decode cX2_sizeAt 4 = .ok (.iload_n 1, 1) := by decide +kernel
theorem dX2_sizeAt_5 : decode cX2_sizeAt 5 = .ok (.invokevirtual 92, 3) := by decide +kernel
theorem dX2_sizeAt_8 : decode cX2_sizeAt 8 = .ok (.tableswitch 80 0 5 #[40, 49, 51, 80, 65, 78], 40) := by decide +kernel
theorem dX2_sizeAt_48 : decode cX2_sizeAt 48 = .ok (.aload_n 0, 1) := by decide +kernel
theorem dX2_sizeAt_49 : decode cX2_sizeAt 49 = .ok (.getfield 50, 3) := by decide +kernel
theorem dX2_sizeAt_52 : decode cX2_sizeAt 52 = .ok (.iload_n 1, 1) := by decide +kernel
theorem dX2_sizeAt_53 : decode cX2_sizeAt 53 = .ok (.invokevirtual 100, 3) := by decide +kernel
theorem dX2_sizeAt_56 : decode cX2_sizeAt 56 = .ok (.ireturn, 1) := by decide +kernel
theorem dX2_sizeAt_57 : decode cX2_sizeAt 57 = .ok (.iconst 2, 1) := by decide +kernel
theorem dX2_sizeAt_58 : decode cX2_sizeAt 58 = .ok (.ireturn, 1) := by decide +kernel
theorem dX2_sizeAt_59 : decode cX2_sizeAt 59 = .ok (.aload_n 0, 1) := by decide +kernel
theorem dX2_sizeAt_60 : decode cX2_sizeAt 60 = .ok (.iload_n 1, 1) := by decide +kernel
theorem dX2_sizeAt_61 : decode cX2_sizeAt 61 = .ok (.invokevirtual 110, 3) := by decide +kernel
theorem dX2_sizeAt_64 : decode cX2_sizeAt 64 = .ok (.ifCond .eq 7, 3) := by decide +kernel
theorem dX2_sizeAt_67 : decode cX2_sizeAt 67 = .ok (.iconst 4, 1) := by decide +kernel
theorem dX2_sizeAt_68 : decode cX2_sizeAt 68 = .ok (.goto 4, 3) := by decide +kernel
theorem dX2_sizeAt_71 : decode cX2_sizeAt 71 = .ok (.iconst 2, 1) := by decide +kernel
theorem dX2_sizeAt_72 : decode cX2_sizeAt 72 = .ok (.ireturn, 1) := by decide +kernel
theorem dX2_sizeAt_73 : decode cX2_sizeAt 73 = .ok (.aload_n 0, 1) := by decide +kernel
theorem dX2_sizeAt_74 : decode cX2_sizeAt 74 = .ok (.getfield 50, 3) := by decide +kernel
theorem dX2_sizeAt_77 : decode cX2_sizeAt 77 = .ok (.iload_n 1, 1) := by decide +kernel
theorem dX2_sizeAt_78 : decode cX2_sizeAt 78 = .ok (.invokevirtual 100, 3) := by decide +kernel
theorem dX2_sizeAt_81 : decode cX2_sizeAt 81 = .ok (.iload_n 2, 1) := by decide +kernel
theorem dX2_sizeAt_82 : decode cX2_sizeAt 82 = .ok (.invokestatic 114, 3) := by decide +kernel
theorem dX2_sizeAt_85 : decode cX2_sizeAt 85 = .ok (.ireturn, 1) := by decide +kernel
theorem dX2_sizeAt_86 : decode cX2_sizeAt 86 = .ok (.iconst 2, 1) := by decide +kernel
theorem dX2_sizeAt_87 : decode cX2_sizeAt 87 = .ok (.ireturn, 1) := by decide +kernel
theorem dX2_sizeAt_88 : decode cX2_sizeAt 88 = .ok (.iconst 0, 1) := by decide +kernel
theorem dX2_sizeAt_89 : decode cX2_sizeAt 89 = .ok (.ireturn, 1) := by decide +kernel
theorem dX2_noteLabel_0 : decode cX2_noteLabel 0 = .ok (.iload_n 1, 1) := by decide +kernel
theorem dX2_noteLabel_1 : decode cX2_noteLabel 1 = .ok (.ifCond .lt 19, 3) := by decide +kernel
theorem dX2_noteLabel_4 : decode cX2_noteLabel 4 = .ok (.iload_n 1, 1) := by decide +kernel
theorem dX2_noteLabel_5 : decode cX2_noteLabel 5 = .ok (.aload_n 0, 1) := by decide +kernel
theorem dX2_noteLabel_6 : decode cX2_noteLabel 6 = .ok (.getfield 34, 3) := by decide +kernel
theorem dX2_noteLabel_9 : decode cX2_noteLabel 9 = .ok (.arraylength, 1) := by decide +kernel
theorem dX2_noteLabel_10 : decode cX2_noteLabel 10 = .ok (.if_icmp .ge 10, 3) := by decide +kernel
theorem dX2_noteLabel_13 : decode cX2_noteLabel 13 = .ok (.aload_n 0, 1) := by decide +kernel
theorem dX2_noteLabel_14 : decode cX2_noteLabel 14 = .ok (.getfield 34, 3) := by decide +kernel
theorem dX2_noteLabel_17 : decode cX2_noteLabel 17 = .ok (.iload_n 1, 1) := by decide +kernel
theorem dX2_noteLabel_18 : decode cX2_noteLabel 18 = .ok (.iload_n 2, 1) := by decide +kernel
theorem dX2_noteLabel_19 : decode cX2_noteLabel 19 = .ok (.iastore, 1) := by decide +kernel
theorem dX2_noteLabel_20 : decode cX2_noteLabel 20 = .ok (.return_, 1) := by decide +kernel
set_option maxRecDepth 20000 in
theorem ggX2_layGap_X4_lay : GoodIn wsX2_layGap wsX4_lay := goodIn_sub (fm_c (List.mem_cons_of_mem _ (List.mem_append_left _ (List.mem_append_left _ (mg 7 rfl)))) (ms_a (fm_c (List.mem_cons_of_mem _ (List.mem_append_left _ (List.mem_append_left _ (mg 8 rfl)))) (fm_c (List.mem_cons_of_mem _ (List.mem_append_left _ (List.mem_append_left _ (mg 9 rfl)))) (fm_c (List.mem_cons_of_mem _ (List.mem_append_left _ (List.mem_append_left _ (mg 10 rfl)))) (fm_c (List.mem_cons_of_mem _ (List.mem_append_left _ (List.mem_append_left _ (mg 11 rfl)))) (fm_c (List.mem_cons_of_mem _ (List.mem_append_left _ (List.mem_append_left _ (mg 6 rfl)))) (fm_c (List.mem_cons_of_mem _ (List.mem_append_left _ (List.mem_append_left _ (mg 12 rfl)))) (fm_n))))))) (fun _ h => List.mem_cons_of_mem _ (List.mem_append_right _ (h))))) (by decide +kernel)
set_option maxRecDepth 20000 in
theorem gX2_layGap_X4_lay : GoodIn wsX2_layGap (wsV RX2 117 RX4 yX4_lay wsX4_lay) := goodIn_app (goodIn_sub (fm_c (List.mem_cons_of_mem _ (List.mem_append_left _ (List.mem_append_left _ (mg 3 rfl)))) (fm_c (List.mem_cons_of_mem _ (List.mem_append_left _ (List.mem_append_left _ (mg 4 rfl)))) (fm_c (List.mem_cons_of_mem _ (List.mem_append_left _ (List.mem_append_left _ (mg 5 rfl)))) (fm_c (List.mem_cons_of_mem _ (List.mem_append_left _ (List.mem_append_left _ (mg 6 rfl)))) (fm_n))))) (by decide +kernel)) ggX2_layGap_X4_lay
set_option maxRecDepth 20000 in
theorem ggX2_layGap_X4_isIn : GoodIn wsX2_layGap wsX4_isIn := goodIn_sub (fm_c (List.mem_cons_of_mem _ (List.mem_append_left _ (List.mem_append_left _ (mg 16 rfl)))) (ms_a (fm_c (List.mem_cons_of_mem _ (List.mem_append_left _ (List.mem_append_left _ (mg 9 rfl)))) (fm_c (List.mem_cons_of_mem _ (List.mem_append_left _ (List.mem_append_left _ (mg 10 rfl)))) (fm_c (List.mem_cons_of_mem _ (List.mem_append_left _ (List.mem_append_left _ (mg 11 rfl)))) (fm_c (List.mem_cons_of_mem _ (List.mem_append_left _ (List.mem_append_left _ (mg 6 rfl)))) (fm_c (List.mem_cons_of_mem _ (List.mem_append_left _ (List.mem_append_left _ (mg 12 rfl)))) (fm_n)))))) (fun _ h => List.mem_cons_of_mem _ (List.mem_append_right _ (h))))) (by decide +kernel)
set_option maxRecDepth 20000 in
theorem gX2_layGap_X4_isIn : GoodIn wsX2_layGap (wsV RX2 119 RX4 yX4_isIn wsX4_isIn) := goodIn_app (goodIn_sub (fm_c (List.mem_cons_of_mem _ (List.mem_append_left _ (List.mem_append_left _ (mg 13 rfl)))) (fm_c (List.mem_cons_of_mem _ (List.mem_append_left _ (List.mem_append_left _ (mg 14 rfl)))) (fm_c (List.mem_cons_of_mem _ (List.mem_append_left _ (List.mem_append_left _ (mg 15 rfl)))) (fm_c (List.mem_cons_of_mem _ (List.mem_append_left _ (List.mem_append_left _ (mg 6 rfl)))) (fm_n))))) (by decide +kernel)) ggX2_layGap_X4_isIn
set_option maxRecDepth 20000 in
theorem ggX2_layGap_X5_fillTo : GoodIn wsX2_layGap wsX5_fillTo := goodIn_sub (fm_c (List.mem_cons_of_mem _ (List.mem_append_left _ (List.mem_append_left _ (mg 19 rfl)))) (fm_n)) (by decide +kernel)
set_option maxRecDepth 20000 in
theorem gX2_layGap_X5_fillTo_n114 : GoodIn wsX2_layGap (wsX5_fillTo) := ggX2_layGap_X5_fillTo
theorem dX2_layGap_0 : decode cX2_layGap 0 = .ok (.aload_n 0, 1) := by decide +kernel
theorem dX2_layGap_1 : decode cX2_layGap 1 = .ok (.getfield 14, 3) := by decide +kernel
theorem dX2_layGap_4 : decode cX2_layGap 4 = .ok (.iload_n 1, 1) := by decide +kernel
theorem dX2_layGap_5 : decode cX2_layGap 5 = .ok (.iload_n 2, 1) := by decide +kernel
theorem dX2_layGap_6 : decode cX2_layGap 6 = .ok (.invokevirtual 117, 3) := by decide +kernel
theorem dX2_layGap_9 : decode cX2_layGap 9 = .ok (.istore_n 3, 1) := by decide +kernel
theorem dX2_layGap_10 : decode cX2_layGap 10 = .ok (.aload_n 0, 1) := by decide +kernel
theorem dX2_layGap_11 : decode cX2_layGap 11 = .ok (.getfield 20, 3) := by decide +kernel
theorem dX2_layGap_14 : decode cX2_layGap 14 = .ok (.iload_n 1, 1) := by decide +kernel
theorem dX2_layGap_15 : decode cX2_layGap 15 = .ok (.invokevirtual 119, 3) := by decide +kernel
theorem dX2_layGap_18 : decode cX2_layGap 18 = .ok (.ifCond .eq 26, 3) := by decide +kernel
theorem dX2_layGap_21 : decode cX2_layGap 21 = .ok (.iconst 4, 1) := by decide +kernel
theorem dX2_layGap_22 : decode cX2_layGap 22 = .ok (.iload_n 3, 1) := by decide +kernel
theorem dX2_layGap_23 : decode cX2_layGap 23 = .ok (.invokestatic 114, 3) := by decide +kernel
theorem dX2_layGap_26 : decode cX2_layGap 26 = .ok (.istore 4, 2) := by decide +kernel
theorem dX2_layGap_28 : decode cX2_layGap 28 = .ok (.aload_n 0, 1) := by decide +kernel
theorem dX2_layGap_29 : decode cX2_layGap 29 = .ok (.dup, 1) := by decide +kernel
theorem dX2_layGap_30 : decode cX2_layGap 30 = .ok (.getfield 89, 3) := by decide +kernel
theorem dX2_layGap_33 : decode cX2_layGap 33 = .ok (.iload 4, 2) := by decide +kernel
theorem dX2_layGap_35 : decode cX2_layGap 35 = .ok (.iadd, 1) := by decide +kernel
theorem dX2_layGap_36 : decode cX2_layGap 36 = .ok (.putfield 89, 3) := by decide +kernel
theorem dX2_layGap_39 : decode cX2_layGap 39 = .ok (.iload_n 3, 1) := by decide +kernel
theorem dX2_layGap_40 : decode cX2_layGap 40 = .ok (.iload 4, 2) := by decide +kernel
theorem dX2_layGap_42 : decode cX2_layGap 42 = .ok (.iadd, 1) := by decide +kernel
theorem dX2_layGap_43 : decode cX2_layGap 43 = .ok (.istore_n 3, 1) := by decide +kernel
theorem dX2_layGap_44 : decode cX2_layGap 44 = .ok (.aload_n 0, 1) := by decide +kernel
theorem dX2_layGap_45 : decode cX2_layGap 45 = .ok (.getfield 20, 3) := by decide +kernel
theorem dX2_layGap_48 : decode cX2_layGap 48 = .ok (.iload_n 1, 1) := by decide +kernel
theorem dX2_layGap_49 : decode cX2_layGap 49 = .ok (.iload_n 3, 1) := by decide +kernel
theorem dX2_layGap_50 : decode cX2_layGap 50 = .ok (.invokevirtual 117, 3) := by decide +kernel
theorem dX2_layGap_53 : decode cX2_layGap 53 = .ok (.ireturn, 1) := by decide +kernel
theorem dX2_addressOf_0 : decode cX2_addressOf 0 = .ok (.iload_n 1, 1) := by decide +kernel
theorem dX2_addressOf_1 : decode cX2_addressOf 1 = .ok (.ifCond .lt 21, 3) := by decide +kernel
theorem dX2_addressOf_4 : decode cX2_addressOf 4 = .ok (.iload_n 1, 1) := by decide +kernel
theorem dX2_addressOf_5 : decode cX2_addressOf 5 = .ok (.aload_n 0, 1) := by decide +kernel
theorem dX2_addressOf_6 : decode cX2_addressOf 6 = .ok (.getfield 27, 3) := by decide +kernel
theorem dX2_addressOf_9 : decode cX2_addressOf 9 = .ok (.arraylength, 1) := by decide +kernel
theorem dX2_addressOf_10 : decode cX2_addressOf 10 = .ok (.if_icmp .ge 12, 3) := by decide +kernel
theorem dX2_addressOf_13 : decode cX2_addressOf 13 = .ok (.aload_n 0, 1) := by decide +kernel
theorem dX2_addressOf_14 : decode cX2_addressOf 14 = .ok (.getfield 27, 3) := by decide +kernel
theorem dX2_addressOf_17 : decode cX2_addressOf 17 = .ok (.iload_n 1, 1) := by decide +kernel
theorem dX2_addressOf_18 : decode cX2_addressOf 18 = .ok (.iaload, 1) := by decide +kernel
theorem dX2_addressOf_19 : decode cX2_addressOf 19 = .ok (.goto 4, 3) := by decide +kernel
theorem dX2_addressOf_22 : decode cX2_addressOf 22 = .ok (.iconst (-1), 1) := by decide +kernel
theorem dX2_addressOf_23 : decode cX2_addressOf 23 = .ok (.ireturn, 1) := by decide +kernel
theorem dX2_sizeOf_0 : decode cX2_sizeOf 0 = .ok (.iload_n 1, 1) := by decide +kernel
theorem dX2_sizeOf_1 : decode cX2_sizeOf 1 = .ok (.ifCond .lt 21, 3) := by decide +kernel
theorem dX2_sizeOf_4 : decode cX2_sizeOf 4 = .ok (.iload_n 1, 1) := by decide +kernel
theorem dX2_sizeOf_5 : decode cX2_sizeOf 5 = .ok (.aload_n 0, 1) := by decide +kernel
theorem dX2_sizeOf_6 : decode cX2_sizeOf 6 = .ok (.getfield 31, 3) := by decide +kernel
theorem dX2_sizeOf_9 : decode cX2_sizeOf 9 = .ok (.arraylength, 1) := by decide +kernel
theorem dX2_sizeOf_10 : decode cX2_sizeOf 10 = .ok (.if_icmp .ge 12, 3) := by decide +kernel
theorem dX2_sizeOf_13 : decode cX2_sizeOf 13 = .ok (.aload_n 0, 1) := by decide +kernel
theorem dX2_sizeOf_14 : decode cX2_sizeOf 14 = .ok (.getfield 31, 3) := by decide +kernel
theorem dX2_sizeOf_17 : decode cX2_sizeOf 17 = .ok (.iload_n 1, 1) := by decide +kernel
theorem dX2_sizeOf_18 : decode cX2_sizeOf 18 = .ok (.iaload, 1) := by decide +kernel
theorem dX2_sizeOf_19 : decode cX2_sizeOf 19 = .ok (.goto 4, 3) := by decide +kernel
theorem dX2_sizeOf_22 : decode cX2_sizeOf 22 = .ok (.iconst (-1), 1) := by decide +kernel
theorem dX2_sizeOf_23 : decode cX2_sizeOf 23 = .ok (.ireturn, 1) := by decide +kernel
theorem dX2_isLong_0 : decode cX2_isLong 0 = .ok (.iload_n 1, 1) := by decide +kernel
theorem dX2_isLong_1 : decode cX2_isLong 1 = .ok (.ifCond .lt 25, 3) := by decide +kernel
theorem dX2_isLong_4 : decode cX2_isLong 4 = .ok (.iload_n 1, 1) := by decide +kernel
theorem dX2_isLong_5 : decode cX2_isLong 5 = .ok (.aload_n 0, 1) := by decide +kernel
theorem dX2_isLong_6 : decode cX2_isLong 6 = .ok (.getfield 23, 3) := by decide +kernel
theorem dX2_isLong_9 : decode cX2_isLong 9 = .ok (.arraylength, 1) := by decide +kernel
theorem dX2_isLong_10 : decode cX2_isLong 10 = .ok (.if_icmp .ge 16, 3) := by decide +kernel
theorem dX2_isLong_13 : decode cX2_isLong 13 = .ok (.aload_n 0, 1) := by decide +kernel
theorem dX2_isLong_14 : decode cX2_isLong 14 = .ok (.getfield 23, 3) := by decide +kernel
theorem dX2_isLong_17 : decode cX2_isLong 17 = .ok (.iload_n 1, 1) := by decide +kernel
theorem dX2_isLong_18 : decode cX2_isLong 18 = .ok (.baload, 1) := by decide +kernel
theorem dX2_isLong_19 : decode cX2_isLong 19 = .ok (.ifCond .eq 7, 3) := by decide +kernel
theorem dX2_isLong_22 : decode cX2_isLong 22 = .ok (.iconst 1, 1) := by decide +kernel
theorem dX2_isLong_23 : decode cX2_isLong 23 = .ok (.goto 4, 3) := by decide +kernel
theorem dX2_isLong_26 : decode cX2_isLong 26 = .ok (.iconst 0, 1) := by decide +kernel
theorem dX2_isLong_27 : decode cX2_isLong 27 = .ok (.ireturn, 1) := by decide +kernel
theorem dX2_labelAddress_0 : decode cX2_labelAddress 0 = .ok (.iload_n 1, 1) := by decide +kernel
theorem dX2_labelAddress_1 : decode cX2_labelAddress 1 = .ok (.ifCond .lt 21, 3) := by decide +kernel
theorem dX2_labelAddress_4 : decode cX2_labelAddress 4 = .ok (.iload_n 1, 1) := by decide +kernel
theorem dX2_labelAddress_5 : decode cX2_labelAddress 5 = .ok (.aload_n 0, 1) := by decide +kernel
theorem dX2_labelAddress_6 : decode cX2_labelAddress 6 = .ok (.getfield 34, 3) := by decide +kernel
theorem dX2_labelAddress_9 : decode cX2_labelAddress 9 = .ok (.arraylength, 1) := by decide +kernel
theorem dX2_labelAddress_10 : decode cX2_labelAddress 10 = .ok (.if_icmp .ge 12, 3) := by decide +kernel
theorem dX2_labelAddress_13 : decode cX2_labelAddress 13 = .ok (.aload_n 0, 1) := by decide +kernel
theorem dX2_labelAddress_14 : decode cX2_labelAddress 14 = .ok (.getfield 34, 3) := by decide +kernel
theorem dX2_labelAddress_17 : decode cX2_labelAddress 17 = .ok (.iload_n 1, 1) := by decide +kernel
theorem dX2_labelAddress_18 : decode cX2_labelAddress 18 = .ok (.iaload, 1) := by decide +kernel
theorem dX2_labelAddress_19 : decode cX2_labelAddress 19 = .ok (.goto 4, 3) := by decide +kernel
theorem dX2_labelAddress_22 : decode cX2_labelAddress 22 = .ok (.iconst (-1), 1) := by decide +kernel
theorem dX2_labelAddress_23 : decode cX2_labelAddress 23 = .ok (.ireturn, 1) := by decide +kernel
theorem qX2_aimItems_r1 {w : Cond} (h : w ∈ wsX2_aimItems_r1) : w ∈ wsX2_aimItems := List.mem_cons_of_mem _ (List.mem_append_left _ (List.mem_append_left _ (List.mem_append_left _ (List.mem_append_left _ (h)))))
theorem qX2_aimItems_r2 {w : Cond} (h : w ∈ wsX2_aimItems_r2) : w ∈ wsX2_aimItems := List.mem_cons_of_mem _ (List.mem_append_left _ (List.mem_append_left _ (List.mem_append_left _ (List.mem_append_right _ (List.mem_append_left _ (h))))))
theorem qX2_aimItems_r3 {w : Cond} (h : w ∈ wsX2_aimItems_r3) : w ∈ wsX2_aimItems := List.mem_cons_of_mem _ (List.mem_append_left _ (List.mem_append_left _ (List.mem_append_left _ (List.mem_append_right _ (List.mem_append_right _ (List.mem_append_left _ (h)))))))
theorem qX2_aimItems_r4 {w : Cond} (h : w ∈ wsX2_aimItems_r4) : w ∈ wsX2_aimItems := List.mem_cons_of_mem _ (List.mem_append_left _ (List.mem_append_left _ (List.mem_append_left _ (List.mem_append_right _ (List.mem_append_right _ (List.mem_append_right _ (h)))))))
set_option maxRecDepth 20000 in
theorem ggX2_aimItems_X0_size : GoodIn wsX2_aimItems wsX0_size := goodIn_sub (fm_c (qX2_aimItems_r1 (mg 7 rfl)) (ms_a (fm_c (qX2_aimItems_r1 (mg 8 rfl)) (fm_n)) (fun _ h => List.mem_cons_of_mem _ (List.mem_append_left _ (List.mem_append_right _ (h)))))) (by decide +kernel)
set_option maxRecDepth 20000 in
theorem gX2_aimItems_X0_size : GoodIn wsX2_aimItems (wsV RX2 60 RX0 yX0_size wsX0_size) := goodIn_app (goodIn_sub (fm_c (qX2_aimItems_r1 (mg 3 rfl)) (fm_c (qX2_aimItems_r1 (mg 4 rfl)) (fm_c (qX2_aimItems_r1 (mg 5 rfl)) (fm_c (qX2_aimItems_r1 (mg 6 rfl)) (fm_n))))) (by decide +kernel)) ggX2_aimItems_X0_size
set_option maxRecDepth 20000 in
theorem ggX2_aimItems_X0_toldOf : GoodIn wsX2_aimItems wsX0_toldOf := goodIn_sub (fm_c (qX2_aimItems_r1 (mg 12 rfl)) (ms_a (fm_c (qX2_aimItems_r1 (mg 13 rfl)) (fm_c (qX2_aimItems_r1 (mg 14 rfl)) (fm_c (qX2_aimItems_r1 (mg 15 rfl)) (fm_c (qX2_aimItems_r1 (mg 16 rfl)) (fm_c (qX2_aimItems_r1 (mg 6 rfl)) (fm_c (qX2_aimItems_r1 (mg 17 rfl)) (fm_c (qX2_aimItems_r1 (mg 8 rfl)) (fm_c (qX2_aimItems_r1 (mg 18 rfl)) (fm_n))))))))) (fun _ h => List.mem_cons_of_mem _ (List.mem_append_left _ (List.mem_append_right _ (h)))))) (by decide +kernel)
set_option maxRecDepth 20000 in
theorem gX2_aimItems_X0_toldOf : GoodIn wsX2_aimItems (wsV RX2 100 RX0 yX0_toldOf wsX0_toldOf) := goodIn_app (goodIn_sub (fm_c (qX2_aimItems_r1 (mg 9 rfl)) (fm_c (qX2_aimItems_r1 (mg 10 rfl)) (fm_c (qX2_aimItems_r1 (mg 11 rfl)) (fm_c (qX2_aimItems_r1 (mg 6 rfl)) (fm_n))))) (by decide +kernel)) ggX2_aimItems_X0_toldOf
set_option maxRecDepth 20000 in
theorem ggX2_aimItems_X0_kindOf : GoodIn wsX2_aimItems wsX0_kindOf := goodIn_sub (fm_c (qX2_aimItems_r1 (mg 22 rfl)) (ms_a (fm_c (qX2_aimItems_r1 (mg 18 rfl)) (fm_c (qX2_aimItems_r1 (mg 14 rfl)) (fm_c (qX2_aimItems_r1 (mg 15 rfl)) (fm_c (qX2_aimItems_r1 (mg 16 rfl)) (fm_c (qX2_aimItems_r1 (mg 6 rfl)) (fm_c (qX2_aimItems_r1 (mg 17 rfl)) (fm_c (qX2_aimItems_r1 (mg 8 rfl)) (fm_c (qX2_aimItems_r1 (mg 13 rfl)) (fm_n))))))))) (fun _ h => List.mem_cons_of_mem _ (List.mem_append_left _ (List.mem_append_right _ (h)))))) (by decide +kernel)
set_option maxRecDepth 20000 in
theorem gX2_aimItems_X0_kindOf : GoodIn wsX2_aimItems (wsV RX2 92 RX0 yX0_kindOf wsX0_kindOf) := goodIn_app (goodIn_sub (fm_c (qX2_aimItems_r1 (mg 19 rfl)) (fm_c (qX2_aimItems_r1 (mg 20 rfl)) (fm_c (qX2_aimItems_r1 (mg 21 rfl)) (fm_c (qX2_aimItems_r1 (mg 6 rfl)) (fm_n))))) (by decide +kernel)) ggX2_aimItems_X0_kindOf
set_option maxRecDepth 20000 in
theorem ggX2_aimItems_X2_addressOf : GoodIn wsX2_aimItems wsX2_addressOf := goodIn_sub (fm_c (qX2_aimItems_r2 (mg 3 rfl)) (ms_a (fm_c (qX2_aimItems_r2 (mg 4 rfl)) (fm_n)) (fun _ h => List.mem_cons_of_mem _ (List.mem_append_left _ (List.mem_append_left _ (List.mem_append_right _ (h))))))) (by decide +kernel)
set_option maxRecDepth 20000 in
theorem gX2_aimItems_X2_addressOf : GoodIn wsX2_aimItems (wsV RX2 122 RX2 yX2_addressOf wsX2_addressOf) := goodIn_app (goodIn_sub (fm_c (qX2_aimItems_r1 (mg 23 rfl)) (fm_c (qX2_aimItems_r2 (mg 0 rfl)) (fm_c (qX2_aimItems_r2 (mg 1 rfl)) (fm_c (qX2_aimItems_r2 (mg 2 rfl)) (fm_n))))) (by decide +kernel)) ggX2_aimItems_X2_addressOf
set_option maxRecDepth 20000 in
theorem ggX2_aimItems_X2_constantFor : GoodIn wsX2_aimItems wsX2_constantFor := goodIn_sub (fm_c (qX2_aimItems_r2 (mg 8 rfl)) (ms_a (ms_a (ms_a (fm_c (qX2_aimItems_r1 (mg 2 rfl)) (fm_c (qX2_aimItems_r2 (mg 9 rfl)) (fm_c (qX2_aimItems_r2 (mg 10 rfl)) (fm_c (qX2_aimItems_r2 (mg 11 rfl)) (fm_c (qX2_aimItems_r2 (mg 12 rfl)) (fm_c (qX2_aimItems_r2 (mg 13 rfl)) (fm_c (qX2_aimItems_r2 (mg 14 rfl)) (fm_c (qX2_aimItems_r2 (mg 15 rfl)) (fm_c (qX2_aimItems_r2 (mg 16 rfl)) (fm_c (qX2_aimItems_r2 (mg 17 rfl)) (fm_c (qX2_aimItems_r2 (mg 18 rfl)) (fm_c (qX2_aimItems_r2 (mg 19 rfl)) (fm_c (qX2_aimItems_r2 (mg 20 rfl)) (fm_c (qX2_aimItems_r2 (mg 21 rfl)) (fm_c (qX2_aimItems_r2 (mg 22 rfl)) (fm_c (qX2_aimItems_r2 (mg 23 rfl)) (fm_c (qX2_aimItems_r3 (mg 0 rfl)) (fm_c (qX2_aimItems_r3 (mg 1 rfl)) (fm_c (qX2_aimItems_r3 (mg 2 rfl)) (fm_c (qX2_aimItems_r3 (mg 3 rfl)) (fm_c (qX2_aimItems_r3 (mg 4 rfl)) (fm_c (qX2_aimItems_r3 (mg 5 rfl)) (fm_c (qX2_aimItems_r3 (mg 6 rfl)) (fm_c (qX2_aimItems_r3 (mg 7 rfl)) (fm_n))))))))))))))))))))))))) (fm_c (qX2_aimItems_r3 (mg 8 rfl)) (fm_c (qX2_aimItems_r3 (mg 9 rfl)) (fm_c (qX2_aimItems_r3 (mg 10 rfl)) (fm_c (qX2_aimItems_r3 (mg 11 rfl)) (fm_c (qX2_aimItems_r3 (mg 12 rfl)) (fm_c (qX2_aimItems_r2 (mg 2 rfl)) (fm_c (qX2_aimItems_r3 (mg 13 rfl)) (fm_c (qX2_aimItems_r3 (mg 14 rfl)) (fm_n)))))))))) (fun _ h => List.mem_cons_of_mem _ (List.mem_append_left _ (List.mem_append_left _ (List.mem_append_right _ (h)))))) (fun _ h => List.mem_cons_of_mem _ (List.mem_append_right _ (h))))) (by decide +kernel)
set_option maxRecDepth 20000 in
theorem gX2_aimItems_X2_constantFor : GoodIn wsX2_aimItems (wsV RX2 125 RX2 yX2_constantFor wsX2_constantFor) := goodIn_app (goodIn_sub (fm_c (qX2_aimItems_r2 (mg 5 rfl)) (fm_c (qX2_aimItems_r2 (mg 6 rfl)) (fm_c (qX2_aimItems_r2 (mg 7 rfl)) (fm_c (qX2_aimItems_r2 (mg 2 rfl)) (fm_n))))) (by decide +kernel)) ggX2_aimItems_X2_constantFor
set_option maxRecDepth 20000 in
theorem ggX2_aimItems_X4_addressOf : GoodIn wsX2_aimItems wsX4_addressOf := goodIn_sub (fm_c (qX2_aimItems_r2 (mg 18 rfl)) (ms_a (fm_c (qX2_aimItems_r2 (mg 19 rfl)) (fm_c (qX2_aimItems_r2 (mg 20 rfl)) (fm_c (qX2_aimItems_r2 (mg 21 rfl)) (fm_c (qX2_aimItems_r2 (mg 22 rfl)) (fm_c (qX2_aimItems_r2 (mg 23 rfl)) (fm_c (qX2_aimItems_r3 (mg 0 rfl)) (fm_c (qX2_aimItems_r2 (mg 12 rfl)) (fm_c (qX2_aimItems_r3 (mg 1 rfl)) (fm_c (qX2_aimItems_r2 (mg 14 rfl)) (fm_c (qX2_aimItems_r3 (mg 2 rfl)) (fm_c (qX2_aimItems_r3 (mg 3 rfl)) (fm_c (qX2_aimItems_r3 (mg 4 rfl)) (fm_c (qX2_aimItems_r3 (mg 5 rfl)) (fm_n)))))))))))))) (fun _ h => List.mem_cons_of_mem _ (List.mem_append_right _ (h))))) (by decide +kernel)
set_option maxRecDepth 20000 in
theorem gX2_aimItems_X4_addressOf : GoodIn wsX2_aimItems (wsV RX2 128 RX4 yX4_addressOf wsX4_addressOf) := goodIn_app (goodIn_sub (fm_c (qX2_aimItems_r2 (mg 15 rfl)) (fm_c (qX2_aimItems_r2 (mg 16 rfl)) (fm_c (qX2_aimItems_r2 (mg 17 rfl)) (fm_c (qX2_aimItems_r2 (mg 12 rfl)) (fm_n))))) (by decide +kernel)) ggX2_aimItems_X4_addressOf
set_option maxRecDepth 20000 in
theorem ggX2_aimItems_X2_isLong : GoodIn wsX2_aimItems wsX2_isLong := goodIn_sub (fm_c (qX2_aimItems_r3 (mg 18 rfl)) (ms_a (fm_c (qX2_aimItems_r3 (mg 19 rfl)) (fm_n)) (fun _ h => List.mem_cons_of_mem _ (List.mem_append_left _ (List.mem_append_left _ (List.mem_append_right _ (h))))))) (by decide +kernel)
set_option maxRecDepth 20000 in
theorem gX2_aimItems_X2_isLong : GoodIn wsX2_aimItems (wsV RX2 110 RX2 yX2_isLong wsX2_isLong) := goodIn_app (goodIn_sub (fm_c (qX2_aimItems_r3 (mg 15 rfl)) (fm_c (qX2_aimItems_r3 (mg 16 rfl)) (fm_c (qX2_aimItems_r3 (mg 17 rfl)) (fm_c (qX2_aimItems_r2 (mg 2 rfl)) (fm_n))))) (by decide +kernel)) ggX2_aimItems_X2_isLong
set_option maxRecDepth 20000 in
theorem ggX2_aimItems_X2_longAim : GoodIn wsX2_aimItems wsX2_longAim := goodIn_sub (fm_c (qX2_aimItems_r3 (mg 23 rfl)) (ms_a (ms_a (ms_a (fm_c (qX2_aimItems_r4 (mg 0 rfl)) (fm_c (qX2_aimItems_r4 (mg 1 rfl)) (fm_c (qX2_aimItems_r4 (mg 2 rfl)) (fm_c (qX2_aimItems_r4 (mg 3 rfl)) (fm_c (qX2_aimItems_r2 (mg 2 rfl)) (fm_c (qX2_aimItems_r4 (mg 4 rfl)) (fm_c (qX2_aimItems_r3 (mg 14 rfl)) (fm_c (qX2_aimItems_r4 (mg 5 rfl)) (fm_c (qX2_aimItems_r4 (mg 6 rfl)) (fm_c (qX2_aimItems_r4 (mg 7 rfl)) (fm_c (qX2_aimItems_r4 (mg 8 rfl)) (fm_c (qX2_aimItems_r4 (mg 9 rfl)) (fm_c (qX2_aimItems_r4 (mg 10 rfl)) (fm_c (qX2_aimItems_r4 (mg 11 rfl)) (fm_c (qX2_aimItems_r4 (mg 12 rfl)) (fm_c (qX2_aimItems_r4 (mg 13 rfl)) (fm_c (qX2_aimItems_r4 (mg 14 rfl)) (fm_c (qX2_aimItems_r4 (mg 15 rfl)) (fm_c (qX2_aimItems_r4 (mg 16 rfl)) (fm_c (qX2_aimItems_r2 (mg 9 rfl)) (fm_c (qX2_aimItems_r2 (mg 10 rfl)) (fm_c (qX2_aimItems_r2 (mg 11 rfl)) (fm_c (qX2_aimItems_r2 (mg 12 rfl)) (fm_c (qX2_aimItems_r2 (mg 13 rfl)) (fm_n))))))))))))))))))))))))) (fm_c (qX2_aimItems_r2 (mg 14 rfl)) (fm_c (qX2_aimItems_r2 (mg 15 rfl)) (fm_c (qX2_aimItems_r2 (mg 16 rfl)) (fm_c (qX2_aimItems_r2 (mg 17 rfl)) (fm_c (qX2_aimItems_r2 (mg 18 rfl)) (fm_c (qX2_aimItems_r2 (mg 19 rfl)) (fm_c (qX2_aimItems_r2 (mg 20 rfl)) (fm_c (qX2_aimItems_r2 (mg 21 rfl)) (fm_c (qX2_aimItems_r2 (mg 22 rfl)) (fm_c (qX2_aimItems_r2 (mg 23 rfl)) (fm_c (qX2_aimItems_r3 (mg 0 rfl)) (fm_c (qX2_aimItems_r3 (mg 1 rfl)) (fm_c (qX2_aimItems_r3 (mg 2 rfl)) (fm_c (qX2_aimItems_r3 (mg 3 rfl)) (fm_c (qX2_aimItems_r3 (mg 4 rfl)) (fm_c (qX2_aimItems_r3 (mg 5 rfl)) (fm_c (qX2_aimItems_r3 (mg 6 rfl)) (fm_c (qX2_aimItems_r3 (mg 7 rfl)) (fm_c (qX2_aimItems_r3 (mg 8 rfl)) (fm_c (qX2_aimItems_r3 (mg 9 rfl)) (fm_n)))))))))))))))))))))) (fun _ h => List.mem_cons_of_mem _ (List.mem_append_left _ (List.mem_append_left _ (List.mem_append_right _ (h)))))) (fun _ h => List.mem_cons_of_mem _ (List.mem_append_right _ (h))))) (by decide +kernel)
set_option maxRecDepth 20000 in
theorem gX2_aimItems_X2_longAim : GoodIn wsX2_aimItems (wsV RX2 129 RX2 yX2_longAim wsX2_longAim) := goodIn_app (goodIn_sub (fm_c (qX2_aimItems_r3 (mg 20 rfl)) (fm_c (qX2_aimItems_r3 (mg 21 rfl)) (fm_c (qX2_aimItems_r3 (mg 22 rfl)) (fm_c (qX2_aimItems_r2 (mg 2 rfl)) (fm_n))))) (by decide +kernel)) ggX2_aimItems_X2_longAim
set_option maxRecDepth 20000 in
theorem ggX2_aimItems_X2_shortAim : GoodIn wsX2_aimItems wsX2_shortAim := goodIn_sub (fm_c (qX2_aimItems_r4 (mg 20 rfl)) (ms_a (fm_c (qX2_aimItems_r3 (mg 14 rfl)) (fm_c (qX2_aimItems_r4 (mg 5 rfl)) (fm_c (qX2_aimItems_r4 (mg 6 rfl)) (fm_c (qX2_aimItems_r4 (mg 7 rfl)) (fm_c (qX2_aimItems_r2 (mg 2 rfl)) (fm_c (qX2_aimItems_r4 (mg 8 rfl)) (fm_c (qX2_aimItems_r4 (mg 9 rfl)) (fm_c (qX2_aimItems_r4 (mg 10 rfl)) (fm_c (qX2_aimItems_r4 (mg 11 rfl)) (fm_c (qX2_aimItems_r4 (mg 12 rfl)) (fm_n))))))))))) (fun _ h => List.mem_cons_of_mem _ (List.mem_append_left _ (List.mem_append_left _ (List.mem_append_right _ (h))))))) (by decide +kernel)
set_option maxRecDepth 20000 in
theorem gX2_aimItems_X2_shortAim : GoodIn wsX2_aimItems (wsV RX2 132 RX2 yX2_shortAim wsX2_shortAim) := goodIn_app (goodIn_sub (fm_c (qX2_aimItems_r4 (mg 17 rfl)) (fm_c (qX2_aimItems_r4 (mg 18 rfl)) (fm_c (qX2_aimItems_r4 (mg 19 rfl)) (fm_c (qX2_aimItems_r2 (mg 2 rfl)) (fm_n))))) (by decide +kernel)) ggX2_aimItems_X2_shortAim
theorem dX2_aimItems_0 : decode cX2_aimItems 0 = .ok (.iconst 0, 1) := by decide +kernel
theorem dX2_aimItems_1 : decode cX2_aimItems 1 = .ok (.istore_n 1, 1) := by decide +kernel
theorem dX2_aimItems_2 : decode cX2_aimItems 2 = .ok (.iload_n 1, 1) := by decide +kernel
theorem dX2_aimItems_3 : decode cX2_aimItems 3 = .ok (.aload_n 0, 1) := by decide +kernel
theorem dX2_aimItems_4 : decode cX2_aimItems 4 = .ok (.getfield 50, 3) := by decide +kernel
theorem dX2_aimItems_7 : decode cX2_aimItems 7 = .ok (.invokevirtual 60, 3) := by decide +kernel
theorem dX2_aimItems_10 : decode cX2_aimItems 10 = .ok (.if_icmp .ge 133, 3) := by decide +kernel
theorem dX2_aimItems_13 : decode cX2_aimItems 13 = .ok (.iload_n 1, 1) := by decide +kernel
theorem dX2_aimItems_14 : decode cX2_aimItems 14 = .ok (.aload_n 0, 1) := by decide +kernel
theorem dX2_aimItems_15 : decode cX2_aimItems 15 = .ok (.getfield 37, 3) := by decide +kernel
theorem dX2_aimItems_18 : decode cX2_aimItems 18 = .ok (.arraylength, 1) := by decide +kernel
theorem dX2_aimItems_19 : decode cX2_aimItems 19 = .ok (.if_icmp .ge 124, 3) := by decide +kernel
theorem dX2_aimItems_22 : decode cX2_aimItems 22 = .ok (.aload_n 0, 1) := by decide +kernel
theorem dX2_aimItems_23 : decode cX2_aimItems 23 = .ok (.getfield 50, 3) := by decide +kernel
theorem dX2_aimItems_26 : decode cX2_aimItems 26 = .ok (.iload_n 1, 1) := by decide +kernel
theorem dX2_aimItems_27 : decode cX2_aimItems 27 = .ok (.invokevirtual 100, 3) := by decide +kernel
theorem dX2_aimItems_30 : decode cX2_aimItems 30 = .ok (.istore_n 2, 1) := by decide +kernel
theorem dX2_aimItems_31 : decode cX2_aimItems 31 = .ok (.aload_n 0, 1) := by decide +kernel
theorem dX2_aimItems_32 : decode cX2_aimItems 32 = .ok (.getfield 50, 3) := by decide +kernel
theorem dX2_aimItems_35 : decode cX2_aimItems 35 = .ok (.iload_n 1, 1) := by decide +kernel
theorem dX2_aimItems_36 : decode cX2_aimItems 36 = .ok (.invokevirtual 92, 3) := by decide +kernel
theorem dX2_aimItems_39 : decode cX2_aimItems 39 = .ok (.lookupswitch 91 #[(1, 25), (2, 51)], 25) := by decide +kernel
theorem dX2_aimItems_64 : decode cX2_aimItems 64 = .ok (.aload_n 0, 1) := by decide +kernel
theorem dX2_aimItems_65 : decode cX2_aimItems 65 = .ok (.getfield 37, 3) := by decide +kernel
theorem dX2_aimItems_68 : decode cX2_aimItems 68 = .ok (.iload_n 1, 1) := by decide +kernel
theorem dX2_aimItems_69 : decode cX2_aimItems 69 = .ok (.aload_n 0, 1) := by decide +kernel
theorem dX2_aimItems_70 : decode cX2_aimItems 70 = .ok (.getfield 20, 3) := by decide +kernel
theorem dX2_aimItems_73 : decode cX2_aimItems 73 = .ok (.aload_n 0, 1) := by decide +kernel
theorem dX2_aimItems_74 : decode cX2_aimItems 74 = .ok (.aload_n 0, 1) := by decide +kernel
theorem dX2_aimItems_75 : decode cX2_aimItems 75 = .ok (.iload_n 1, 1) := by decide +kernel
theorem dX2_aimItems_76 : decode cX2_aimItems 76 = .ok (.invokevirtual 122, 3) := by decide +kernel
theorem dX2_aimItems_79 : decode cX2_aimItems 79 = .ok (.iload_n 2, 1) := by decide +kernel
theorem dX2_aimItems_80 : decode cX2_aimItems 80 = .ok (.invokevirtual 125, 3) := by decide +kernel
theorem dX2_aimItems_83 : decode cX2_aimItems 83 = .ok (.invokevirtual 128, 3) := by decide +kernel
theorem dX2_aimItems_86 : decode cX2_aimItems 86 = .ok (.iastore, 1) := by decide +kernel
theorem dX2_aimItems_87 : decode cX2_aimItems 87 = .ok (.goto 50, 3) := by decide +kernel
theorem dX2_aimItems_90 : decode cX2_aimItems 90 = .ok (.aload_n 0, 1) := by decide +kernel
theorem dX2_aimItems_91 : decode cX2_aimItems 91 = .ok (.getfield 37, 3) := by decide +kernel
theorem dX2_aimItems_94 : decode cX2_aimItems 94 = .ok (.iload_n 1, 1) := by decide +kernel
theorem dX2_aimItems_95 : decode cX2_aimItems 95 = .ok (.aload_n 0, 1) := by decide +kernel
theorem dX2_aimItems_96 : decode cX2_aimItems 96 = .ok (.iload_n 1, 1) := by decide +kernel
theorem dX2_aimItems_97 : decode cX2_aimItems 97 = .ok (.invokevirtual 110, 3) := by decide +kernel
theorem dX2_aimItems_100 : decode cX2_aimItems 100 = .ok (.ifCond .eq 16, 3) := by decide +kernel
theorem dX2_aimItems_103 : decode cX2_aimItems 103 = .ok (.aload_n 0, 1) := by decide +kernel
theorem dX2_aimItems_104 : decode cX2_aimItems 104 = .ok (.aload_n 0, 1) := by decide +kernel
theorem dX2_aimItems_105 : decode cX2_aimItems 105 = .ok (.iload_n 1, 1) := by decide +kernel
theorem dX2_aimItems_106 : decode cX2_aimItems 106 = .ok (.invokevirtual 122, 3) := by decide +kernel
theorem dX2_aimItems_109 : decode cX2_aimItems 109 = .ok (.iload_n 2, 1) := by decide +kernel
theorem dX2_aimItems_110 : decode cX2_aimItems 110 = .ok (.invokevirtual 129, 3) := by decide +kernel
theorem dX2_aimItems_113 : decode cX2_aimItems 113 = .ok (.goto 13, 3) := by decide +kernel
theorem dX2_aimItems_116 : decode cX2_aimItems 116 = .ok (.aload_n 0, 1) := by decide +kernel
theorem dX2_aimItems_117 : decode cX2_aimItems 117 = .ok (.aload_n 0, 1) := by decide +kernel
theorem dX2_aimItems_118 : decode cX2_aimItems 118 = .ok (.iload_n 1, 1) := by decide +kernel
theorem dX2_aimItems_119 : decode cX2_aimItems 119 = .ok (.invokevirtual 122, 3) := by decide +kernel
theorem dX2_aimItems_122 : decode cX2_aimItems 122 = .ok (.iload_n 2, 1) := by decide +kernel
theorem dX2_aimItems_123 : decode cX2_aimItems 123 = .ok (.invokevirtual 132, 3) := by decide +kernel
theorem dX2_aimItems_126 : decode cX2_aimItems 126 = .ok (.iastore, 1) := by decide +kernel
theorem dX2_aimItems_127 : decode cX2_aimItems 127 = .ok (.goto 10, 3) := by decide +kernel
theorem dX2_aimItems_130 : decode cX2_aimItems 130 = .ok (.aload_n 0, 1) := by decide +kernel
theorem dX2_aimItems_131 : decode cX2_aimItems 131 = .ok (.getfield 37, 3) := by decide +kernel
theorem dX2_aimItems_134 : decode cX2_aimItems 134 = .ok (.iload_n 1, 1) := by decide +kernel
theorem dX2_aimItems_135 : decode cX2_aimItems 135 = .ok (.iconst (-1), 1) := by decide +kernel
theorem dX2_aimItems_136 : decode cX2_aimItems 136 = .ok (.iastore, 1) := by decide +kernel
theorem dX2_aimItems_137 : decode cX2_aimItems 137 = .ok (.iinc 1 1, 3) := by decide +kernel
theorem dX2_aimItems_140 : decode cX2_aimItems 140 = .ok (.goto (-138), 3) := by decide +kernel
theorem dX2_aimItems_143 : decode cX2_aimItems 143 = .ok (.return_, 1) := by decide +kernel
theorem qX2_aimIslands_r1 {w : Cond} (h : w ∈ wsX2_aimIslands_r1) : w ∈ wsX2_aimIslands := List.mem_cons_of_mem _ (List.mem_append_left _ (List.mem_append_left _ (List.mem_append_left _ (h))))
theorem qX2_aimIslands_r2 {w : Cond} (h : w ∈ wsX2_aimIslands_r2) : w ∈ wsX2_aimIslands := List.mem_cons_of_mem _ (List.mem_append_left _ (List.mem_append_left _ (List.mem_append_right _ (List.mem_append_left _ (h)))))
theorem qX2_aimIslands_r3 {w : Cond} (h : w ∈ wsX2_aimIslands_r3) : w ∈ wsX2_aimIslands := List.mem_cons_of_mem _ (List.mem_append_left _ (List.mem_append_left _ (List.mem_append_right _ (List.mem_append_right _ (h)))))
set_option maxRecDepth 20000 in
theorem ggX2_aimIslands_X4_size : GoodIn wsX2_aimIslands wsX4_size := goodIn_sub (fm_c (qX2_aimIslands_r1 (mg 6 rfl)) (ms_a (fm_c (qX2_aimIslands_r1 (mg 7 rfl)) (fm_n)) (fun _ h => List.mem_cons_of_mem _ (List.mem_append_right _ (h))))) (by decide +kernel)
set_option maxRecDepth 20000 in
theorem gX2_aimIslands_X4_size : GoodIn wsX2_aimIslands (wsV RX2 135 RX4 yX4_size wsX4_size) := goodIn_app (goodIn_sub (fm_c (qX2_aimIslands_r1 (mg 2 rfl)) (fm_c (qX2_aimIslands_r1 (mg 3 rfl)) (fm_c (qX2_aimIslands_r1 (mg 4 rfl)) (fm_c (qX2_aimIslands_r1 (mg 5 rfl)) (fm_n))))) (by decide +kernel)) ggX2_aimIslands_X4_size
set_option maxRecDepth 20000 in
theorem ggX2_aimIslands_X4_addressOf : GoodIn wsX2_aimIslands wsX4_addressOf := goodIn_sub (fm_c (qX2_aimIslands_r1 (mg 11 rfl)) (ms_a (fm_c (qX2_aimIslands_r1 (mg 12 rfl)) (fm_c (qX2_aimIslands_r1 (mg 13 rfl)) (fm_c (qX2_aimIslands_r1 (mg 14 rfl)) (fm_c (qX2_aimIslands_r1 (mg 15 rfl)) (fm_c (qX2_aimIslands_r1 (mg 16 rfl)) (fm_c (qX2_aimIslands_r1 (mg 17 rfl)) (fm_c (qX2_aimIslands_r1 (mg 5 rfl)) (fm_c (qX2_aimIslands_r1 (mg 18 rfl)) (fm_c (qX2_aimIslands_r1 (mg 7 rfl)) (fm_c (qX2_aimIslands_r1 (mg 19 rfl)) (fm_c (qX2_aimIslands_r1 (mg 20 rfl)) (fm_c (qX2_aimIslands_r1 (mg 21 rfl)) (fm_c (qX2_aimIslands_r1 (mg 22 rfl)) (fm_n)))))))))))))) (fun _ h => List.mem_cons_of_mem _ (List.mem_append_right _ (h))))) (by decide +kernel)
set_option maxRecDepth 20000 in
theorem gX2_aimIslands_X4_addressOf : GoodIn wsX2_aimIslands (wsV RX2 128 RX4 yX4_addressOf wsX4_addressOf) := goodIn_app (goodIn_sub (fm_c (qX2_aimIslands_r1 (mg 8 rfl)) (fm_c (qX2_aimIslands_r1 (mg 9 rfl)) (fm_c (qX2_aimIslands_r1 (mg 10 rfl)) (fm_c (qX2_aimIslands_r1 (mg 5 rfl)) (fm_n))))) (by decide +kernel)) ggX2_aimIslands_X4_addressOf
set_option maxRecDepth 20000 in
theorem ggX2_aimIslands_X4_nameOf : GoodIn wsX2_aimIslands wsX4_nameOf := goodIn_sub (fm_c (qX2_aimIslands_r2 (mg 2 rfl)) (ms_a (fm_c (qX2_aimIslands_r1 (mg 19 rfl)) (fm_c (qX2_aimIslands_r1 (mg 15 rfl)) (fm_c (qX2_aimIslands_r1 (mg 16 rfl)) (fm_c (qX2_aimIslands_r1 (mg 17 rfl)) (fm_c (qX2_aimIslands_r1 (mg 5 rfl)) (fm_c (qX2_aimIslands_r1 (mg 18 rfl)) (fm_c (qX2_aimIslands_r1 (mg 7 rfl)) (fm_n)))))))) (fun _ h => List.mem_cons_of_mem _ (List.mem_append_right _ (h))))) (by decide +kernel)
set_option maxRecDepth 20000 in
theorem gX2_aimIslands_X4_nameOf : GoodIn wsX2_aimIslands (wsV RX2 136 RX4 yX4_nameOf wsX4_nameOf) := goodIn_app (goodIn_sub (fm_c (qX2_aimIslands_r1 (mg 23 rfl)) (fm_c (qX2_aimIslands_r2 (mg 0 rfl)) (fm_c (qX2_aimIslands_r2 (mg 1 rfl)) (fm_c (qX2_aimIslands_r1 (mg 5 rfl)) (fm_n))))) (by decide +kernel)) ggX2_aimIslands_X4_nameOf
set_option maxRecDepth 20000 in
theorem ggX2_aimIslands_X2_longAim : GoodIn wsX2_aimIslands wsX2_longAim := goodIn_sub (fm_c (qX2_aimIslands_r2 (mg 7 rfl)) (ms_a (ms_a (ms_a (fm_c (qX2_aimIslands_r1 (mg 0 rfl)) (fm_c (qX2_aimIslands_r2 (mg 8 rfl)) (fm_c (qX2_aimIslands_r2 (mg 9 rfl)) (fm_c (qX2_aimIslands_r2 (mg 10 rfl)) (fm_c (qX2_aimIslands_r2 (mg 6 rfl)) (fm_c (qX2_aimIslands_r2 (mg 11 rfl)) (fm_c (qX2_aimIslands_r2 (mg 12 rfl)) (fm_c (qX2_aimIslands_r2 (mg 13 rfl)) (fm_c (qX2_aimIslands_r2 (mg 14 rfl)) (fm_c (qX2_aimIslands_r2 (mg 15 rfl)) (fm_c (qX2_aimIslands_r2 (mg 16 rfl)) (fm_c (qX2_aimIslands_r2 (mg 17 rfl)) (fm_c (qX2_aimIslands_r2 (mg 18 rfl)) (fm_c (qX2_aimIslands_r2 (mg 19 rfl)) (fm_c (qX2_aimIslands_r2 (mg 20 rfl)) (fm_c (qX2_aimIslands_r2 (mg 21 rfl)) (fm_c (qX2_aimIslands_r2 (mg 22 rfl)) (fm_c (qX2_aimIslands_r2 (mg 23 rfl)) (fm_c (qX2_aimIslands_r3 (mg 0 rfl)) (fm_c (qX2_aimIslands_r1 (mg 2 rfl)) (fm_c (qX2_aimIslands_r1 (mg 3 rfl)) (fm_c (qX2_aimIslands_r1 (mg 4 rfl)) (fm_c (qX2_aimIslands_r1 (mg 5 rfl)) (fm_c (qX2_aimIslands_r1 (mg 6 rfl)) (fm_n))))))))))))))))))))))))) (fm_c (qX2_aimIslands_r1 (mg 7 rfl)) (fm_c (qX2_aimIslands_r1 (mg 8 rfl)) (fm_c (qX2_aimIslands_r1 (mg 9 rfl)) (fm_c (qX2_aimIslands_r1 (mg 10 rfl)) (fm_c (qX2_aimIslands_r1 (mg 11 rfl)) (fm_c (qX2_aimIslands_r1 (mg 12 rfl)) (fm_c (qX2_aimIslands_r1 (mg 13 rfl)) (fm_c (qX2_aimIslands_r1 (mg 14 rfl)) (fm_c (qX2_aimIslands_r1 (mg 15 rfl)) (fm_c (qX2_aimIslands_r1 (mg 16 rfl)) (fm_c (qX2_aimIslands_r1 (mg 17 rfl)) (fm_c (qX2_aimIslands_r1 (mg 18 rfl)) (fm_c (qX2_aimIslands_r1 (mg 19 rfl)) (fm_c (qX2_aimIslands_r1 (mg 20 rfl)) (fm_c (qX2_aimIslands_r1 (mg 21 rfl)) (fm_c (qX2_aimIslands_r1 (mg 22 rfl)) (fm_c (qX2_aimIslands_r1 (mg 23 rfl)) (fm_c (qX2_aimIslands_r2 (mg 0 rfl)) (fm_c (qX2_aimIslands_r2 (mg 1 rfl)) (fm_c (qX2_aimIslands_r2 (mg 2 rfl)) (fm_n)))))))))))))))))))))) (fun _ h => List.mem_cons_of_mem _ (List.mem_append_left _ (List.mem_append_right _ (h))))) (fun _ h => List.mem_cons_of_mem _ (List.mem_append_right _ (h))))) (by decide +kernel)
set_option maxRecDepth 20000 in
theorem gX2_aimIslands_X2_longAim : GoodIn wsX2_aimIslands (wsV RX2 129 RX2 yX2_longAim wsX2_longAim) := goodIn_app (goodIn_sub (fm_c (qX2_aimIslands_r2 (mg 3 rfl)) (fm_c (qX2_aimIslands_r2 (mg 4 rfl)) (fm_c (qX2_aimIslands_r2 (mg 5 rfl)) (fm_c (qX2_aimIslands_r2 (mg 6 rfl)) (fm_n))))) (by decide +kernel)) ggX2_aimIslands_X2_longAim
theorem dX2_aimIslands_0 : decode cX2_aimIslands 0 = .ok (.iconst 0, 1) := by decide +kernel
theorem dX2_aimIslands_1 : decode cX2_aimIslands 1 = .ok (.istore_n 1, 1) := by decide +kernel
theorem dX2_aimIslands_2 : decode cX2_aimIslands 2 = .ok (.iload_n 1, 1) := by decide +kernel
theorem dX2_aimIslands_3 : decode cX2_aimIslands 3 = .ok (.aload_n 0, 1) := by decide +kernel
theorem dX2_aimIslands_4 : decode cX2_aimIslands 4 = .ok (.getfield 14, 3) := by decide +kernel
theorem dX2_aimIslands_7 : decode cX2_aimIslands 7 = .ok (.invokevirtual 135, 3) := by decide +kernel
theorem dX2_aimIslands_10 : decode cX2_aimIslands 10 = .ok (.if_icmp .ge 44, 3) := by decide +kernel
theorem dX2_aimIslands_13 : decode cX2_aimIslands 13 = .ok (.iload_n 1, 1) := by decide +kernel
theorem dX2_aimIslands_14 : decode cX2_aimIslands 14 = .ok (.aload_n 0, 1) := by decide +kernel
theorem dX2_aimIslands_15 : decode cX2_aimIslands 15 = .ok (.getfield 40, 3) := by decide +kernel
theorem dX2_aimIslands_18 : decode cX2_aimIslands 18 = .ok (.arraylength, 1) := by decide +kernel
theorem dX2_aimIslands_19 : decode cX2_aimIslands 19 = .ok (.if_icmp .ge 35, 3) := by decide +kernel
theorem dX2_aimIslands_22 : decode cX2_aimIslands 22 = .ok (.aload_n 0, 1) := by decide +kernel
theorem dX2_aimIslands_23 : decode cX2_aimIslands 23 = .ok (.getfield 40, 3) := by decide +kernel
theorem dX2_aimIslands_26 : decode cX2_aimIslands 26 = .ok (.iload_n 1, 1) := by decide +kernel
theorem dX2_aimIslands_27 : decode cX2_aimIslands 27 = .ok (.aload_n 0, 1) := by decide +kernel
theorem dX2_aimIslands_28 : decode cX2_aimIslands 28 = .ok (.aload_n 0, 1) := by decide +kernel
theorem dX2_aimIslands_29 : decode cX2_aimIslands 29 = .ok (.getfield 14, 3) := by decide +kernel
theorem dX2_aimIslands_32 : decode cX2_aimIslands 32 = .ok (.iload_n 1, 1) := by decide +kernel
theorem dX2_aimIslands_33 : decode cX2_aimIslands 33 = .ok (.invokevirtual 128, 3) := by decide +kernel
theorem dX2_aimIslands_36 : decode cX2_aimIslands 36 = .ok (.aload_n 0, 1) := by decide +kernel
theorem dX2_aimIslands_37 : decode cX2_aimIslands 37 = .ok (.getfield 14, 3) := by decide +kernel
theorem dX2_aimIslands_40 : decode cX2_aimIslands 40 = .ok (.iload_n 1, 1) := by decide +kernel
theorem dX2_aimIslands_41 : decode cX2_aimIslands 41 = .ok (.invokevirtual 136, 3) := by decide +kernel
theorem dX2_aimIslands_44 : decode cX2_aimIslands 44 = .ok (.invokevirtual 129, 3) := by decide +kernel
theorem dX2_aimIslands_47 : decode cX2_aimIslands 47 = .ok (.iastore, 1) := by decide +kernel
theorem dX2_aimIslands_48 : decode cX2_aimIslands 48 = .ok (.iinc 1 1, 3) := by decide +kernel
theorem dX2_aimIslands_51 : decode cX2_aimIslands 51 = .ok (.goto (-49), 3) := by decide +kernel
theorem dX2_aimIslands_54 : decode cX2_aimIslands 54 = .ok (.return_, 1) := by decide +kernel
set_option maxRecDepth 20000 in
theorem ggX2_shortAim_X2_labelAddress : GoodIn wsX2_shortAim wsX2_labelAddress := goodIn_sub (fm_c (List.mem_cons_of_mem _ (List.mem_append_left _ (mg 5 rfl))) (ms_a (fm_c (List.mem_cons_of_mem _ (List.mem_append_left _ (mg 6 rfl))) (fm_n)) (fun _ h => List.mem_cons_of_mem _ (List.mem_append_right _ (h))))) (by decide +kernel)
set_option maxRecDepth 20000 in
theorem gX2_shortAim_X2_labelAddress : GoodIn wsX2_shortAim (wsV RX2 139 RX2 yX2_labelAddress wsX2_labelAddress) := goodIn_app (goodIn_sub (fm_c (List.mem_cons_of_mem _ (List.mem_append_left _ (mg 1 rfl))) (fm_c (List.mem_cons_of_mem _ (List.mem_append_left _ (mg 2 rfl))) (fm_c (List.mem_cons_of_mem _ (List.mem_append_left _ (mg 3 rfl))) (fm_c (List.mem_cons_of_mem _ (List.mem_append_left _ (mg 4 rfl))) (fm_n))))) (by decide +kernel)) ggX2_shortAim_X2_labelAddress
set_option maxRecDepth 20000 in
theorem ggX2_shortAim_X5_far : GoodIn wsX2_shortAim wsX5_far := goodIn_sub (fm_c (List.mem_cons_of_mem _ (List.mem_append_left _ (mg 9 rfl))) (fm_n)) (by decide +kernel)
set_option maxRecDepth 20000 in
theorem gX2_shortAim_X5_far_n142 : GoodIn wsX2_shortAim (wsX5_far) := ggX2_shortAim_X5_far
theorem dX2_shortAim_0 : decode cX2_shortAim 0 = .ok (.aload_n 0, 1) := by decide +kernel
theorem dX2_shortAim_1 : decode cX2_shortAim 1 = .ok (.iload_n 2, 1) := by decide +kernel
theorem dX2_shortAim_2 : decode cX2_shortAim 2 = .ok (.invokevirtual 139, 3) := by decide +kernel
theorem dX2_shortAim_5 : decode cX2_shortAim 5 = .ok (.istore_n 3, 1) := by decide +kernel
theorem dX2_shortAim_6 : decode cX2_shortAim 6 = .ok (.iload_n 1, 1) := by decide +kernel
theorem dX2_shortAim_7 : decode cX2_shortAim 7 = .ok (.iload_n 3, 1) := by decide +kernel
theorem dX2_shortAim_8 : decode cX2_shortAim 8 = .ok (.invokestatic 142, 3) := by decide +kernel
theorem dX2_shortAim_11 : decode cX2_shortAim 11 = .ok (.aload_n 0, 1) := by decide +kernel
theorem dX2_shortAim_12 : decode cX2_shortAim 12 = .ok (.getfield 54, 3) := by decide +kernel
theorem dX2_shortAim_15 : decode cX2_shortAim 15 = .ok (.iconst 0, 1) := by decide +kernel
theorem dX2_shortAim_16 : decode cX2_shortAim 16 = .ok (.iaload, 1) := by decide +kernel
theorem dX2_shortAim_17 : decode cX2_shortAim 17 = .ok (.if_icmp .gt 7, 3) := by decide +kernel
theorem dX2_shortAim_20 : decode cX2_shortAim 20 = .ok (.iload_n 3, 1) := by decide +kernel
theorem dX2_shortAim_21 : decode cX2_shortAim 21 = .ok (.goto 4, 3) := by decide +kernel
theorem dX2_shortAim_24 : decode cX2_shortAim 24 = .ok (.iconst (-1), 1) := by decide +kernel
theorem dX2_shortAim_25 : decode cX2_shortAim 25 = .ok (.ireturn, 1) := by decide +kernel
theorem qX2_longAim_r1 {w : Cond} (h : w ∈ wsX2_longAim_r1) : w ∈ wsX2_longAim := List.mem_cons_of_mem _ (List.mem_append_left _ (List.mem_append_left _ (List.mem_append_left _ (h))))
theorem qX2_longAim_r2 {w : Cond} (h : w ∈ wsX2_longAim_r2) : w ∈ wsX2_longAim := List.mem_cons_of_mem _ (List.mem_append_left _ (List.mem_append_left _ (List.mem_append_right _ (h))))
set_option maxRecDepth 20000 in
theorem ggX2_longAim_X2_goesStraight : GoodIn wsX2_longAim wsX2_goesStraight := goodIn_sub (fm_c (qX2_longAim_r1 (mg 5 rfl)) (ms_a (fm_c (qX2_longAim_r1 (mg 6 rfl)) (fm_c (qX2_longAim_r1 (mg 7 rfl)) (fm_c (qX2_longAim_r1 (mg 8 rfl)) (fm_c (qX2_longAim_r1 (mg 9 rfl)) (fm_c (qX2_longAim_r1 (mg 4 rfl)) (fm_c (qX2_longAim_r1 (mg 10 rfl)) (fm_c (qX2_longAim_r1 (mg 11 rfl)) (fm_c (qX2_longAim_r1 (mg 12 rfl)) (fm_c (qX2_longAim_r1 (mg 13 rfl)) (fm_c (qX2_longAim_r1 (mg 14 rfl)) (fm_n))))))))))) (fun _ h => List.mem_cons_of_mem _ (List.mem_append_left _ (List.mem_append_right _ (h)))))) (by decide +kernel)
set_option maxRecDepth 20000 in
theorem gX2_longAim_X2_goesStraight : GoodIn wsX2_longAim (wsV RX2 145 RX2 yX2_goesStraight wsX2_goesStraight) := goodIn_app (goodIn_sub (fm_c (qX2_longAim_r1 (mg 1 rfl)) (fm_c (qX2_longAim_r1 (mg 2 rfl)) (fm_c (qX2_longAim_r1 (mg 3 rfl)) (fm_c (qX2_longAim_r1 (mg 4 rfl)) (fm_n))))) (by decide +kernel)) ggX2_longAim_X2_goesStraight
set_option maxRecDepth 20000 in
theorem ggX2_longAim_X2_labelAddress : GoodIn wsX2_longAim wsX2_labelAddress := goodIn_sub (fm_c (qX2_longAim_r1 (mg 10 rfl)) (ms_a (fm_c (qX2_longAim_r1 (mg 11 rfl)) (fm_n)) (fun _ h => List.mem_cons_of_mem _ (List.mem_append_left _ (List.mem_append_right _ (h)))))) (by decide +kernel)
set_option maxRecDepth 20000 in
theorem gX2_longAim_X2_labelAddress : GoodIn wsX2_longAim (wsV RX2 139 RX2 yX2_labelAddress wsX2_labelAddress) := goodIn_app (goodIn_sub (fm_c (qX2_longAim_r1 (mg 7 rfl)) (fm_c (qX2_longAim_r1 (mg 8 rfl)) (fm_c (qX2_longAim_r1 (mg 9 rfl)) (fm_c (qX2_longAim_r1 (mg 4 rfl)) (fm_n))))) (by decide +kernel)) ggX2_longAim_X2_labelAddress
set_option maxRecDepth 20000 in
theorem ggX2_longAim_X2_islandFor : GoodIn wsX2_longAim wsX2_islandFor := goodIn_sub (fm_c (qX2_longAim_r1 (mg 18 rfl)) (ms_a (ms_a (ms_a (fm_c (qX2_longAim_r1 (mg 0 rfl)) (fm_c (qX2_longAim_r1 (mg 6 rfl)) (fm_c (qX2_longAim_r1 (mg 7 rfl)) (fm_c (qX2_longAim_r1 (mg 8 rfl)) (fm_c (qX2_longAim_r1 (mg 9 rfl)) (fm_c (qX2_longAim_r1 (mg 4 rfl)) (fm_c (qX2_longAim_r1 (mg 10 rfl)) (fm_c (qX2_longAim_r1 (mg 11 rfl)) (fm_c (qX2_longAim_r1 (mg 12 rfl)) (fm_c (qX2_longAim_r1 (mg 13 rfl)) (fm_c (qX2_longAim_r1 (mg 14 rfl)) (fm_c (qX2_longAim_r1 (mg 19 rfl)) (fm_c (qX2_longAim_r1 (mg 20 rfl)) (fm_c (qX2_longAim_r1 (mg 21 rfl)) (fm_c (qX2_longAim_r1 (mg 22 rfl)) (fm_c (qX2_longAim_r1 (mg 23 rfl)) (fm_c (qX2_longAim_r2 (mg 0 rfl)) (fm_c (qX2_longAim_r2 (mg 1 rfl)) (fm_c (qX2_longAim_r2 (mg 2 rfl)) (fm_c (qX2_longAim_r2 (mg 3 rfl)) (fm_c (qX2_longAim_r2 (mg 4 rfl)) (fm_c (qX2_longAim_r2 (mg 5 rfl)) (fm_c (qX2_longAim_r2 (mg 6 rfl)) (fm_c (qX2_longAim_r2 (mg 7 rfl)) (fm_n))))))))))))))))))))))))) (fm_c (qX2_longAim_r2 (mg 8 rfl)) (fm_c (qX2_longAim_r2 (mg 9 rfl)) (fm_c (qX2_longAim_r2 (mg 10 rfl)) (fm_c (qX2_longAim_r2 (mg 11 rfl)) (fm_c (qX2_longAim_r2 (mg 12 rfl)) (fm_c (qX2_longAim_r2 (mg 13 rfl)) (fm_c (qX2_longAim_r2 (mg 14 rfl)) (fm_c (qX2_longAim_r2 (mg 15 rfl)) (fm_c (qX2_longAim_r2 (mg 16 rfl)) (fm_c (qX2_longAim_r2 (mg 17 rfl)) (fm_c (qX2_longAim_r2 (mg 18 rfl)) (fm_c (qX2_longAim_r2 (mg 19 rfl)) (fm_n)))))))))))))) (fun _ h => List.mem_cons_of_mem _ (List.mem_append_left _ (List.mem_append_right _ (h))))) (fun _ h => List.mem_cons_of_mem _ (List.mem_append_right _ (h))))) (by decide +kernel)
set_option maxRecDepth 20000 in
theorem gX2_longAim_X2_islandFor : GoodIn wsX2_longAim (wsV RX2 149 RX2 yX2_islandFor wsX2_islandFor) := goodIn_app (goodIn_sub (fm_c (qX2_longAim_r1 (mg 15 rfl)) (fm_c (qX2_longAim_r1 (mg 16 rfl)) (fm_c (qX2_longAim_r1 (mg 17 rfl)) (fm_c (qX2_longAim_r1 (mg 4 rfl)) (fm_n))))) (by decide +kernel)) ggX2_longAim_X2_islandFor
set_option maxRecDepth 20000 in
theorem ggX2_longAim_X4_addressOf : GoodIn wsX2_longAim wsX4_addressOf := goodIn_sub (fm_c (qX2_longAim_r2 (mg 4 rfl)) (ms_a (fm_c (qX2_longAim_r2 (mg 5 rfl)) (fm_c (qX2_longAim_r2 (mg 6 rfl)) (fm_c (qX2_longAim_r2 (mg 7 rfl)) (fm_c (qX2_longAim_r2 (mg 8 rfl)) (fm_c (qX2_longAim_r2 (mg 9 rfl)) (fm_c (qX2_longAim_r2 (mg 10 rfl)) (fm_c (qX2_longAim_r1 (mg 22 rfl)) (fm_c (qX2_longAim_r2 (mg 11 rfl)) (fm_c (qX2_longAim_r2 (mg 0 rfl)) (fm_c (qX2_longAim_r2 (mg 12 rfl)) (fm_c (qX2_longAim_r2 (mg 13 rfl)) (fm_c (qX2_longAim_r2 (mg 14 rfl)) (fm_c (qX2_longAim_r2 (mg 15 rfl)) (fm_n)))))))))))))) (fun _ h => List.mem_cons_of_mem _ (List.mem_append_right _ (h))))) (by decide +kernel)
set_option maxRecDepth 20000 in
theorem gX2_longAim_X4_addressOf : GoodIn wsX2_longAim (wsV RX2 128 RX4 yX4_addressOf wsX4_addressOf) := goodIn_app (goodIn_sub (fm_c (qX2_longAim_r2 (mg 1 rfl)) (fm_c (qX2_longAim_r2 (mg 2 rfl)) (fm_c (qX2_longAim_r2 (mg 3 rfl)) (fm_c (qX2_longAim_r1 (mg 22 rfl)) (fm_n))))) (by decide +kernel)) ggX2_longAim_X4_addressOf
theorem dX2_longAim_0 : decode cX2_longAim 0 = .ok (.aload_n 0, 1) := by decide +kernel
theorem dX2_longAim_1 : decode cX2_longAim 1 = .ok (.iload_n 1, 1) := by decide +kernel
theorem dX2_longAim_2 : decode cX2_longAim 2 = .ok (.iload_n 2, 1) := by decide +kernel
theorem dX2_longAim_3 : decode cX2_longAim 3 = .ok (.invokevirtual 145, 3) := by decide +kernel
theorem dX2_longAim_6 : decode cX2_longAim 6 = .ok (.ifCond .eq 9, 3) := by decide +kernel
theorem dX2_longAim_9 : decode cX2_longAim 9 = .ok (.aload_n 0, 1) := by decide +kernel
theorem dX2_longAim_10 : decode cX2_longAim 10 = .ok (.iload_n 2, 1) := by decide +kernel
theorem dX2_longAim_11 : decode cX2_longAim 11 = .ok (.invokevirtual 139, 3) := by decide +kernel
theorem dX2_longAim_14 : decode cX2_longAim 14 = .ok (.ireturn, 1) := by decide +kernel
theorem dX2_longAim_15 : decode cX2_longAim 15 = .ok (.aload_n 0, 1) := by decide +kernel
theorem dX2_longAim_16 : decode cX2_longAim 16 = .ok (.getfield 14, 3) := by decide +kernel
theorem dX2_longAim_19 : decode cX2_longAim 19 = .ok (.aload_n 0, 1) := by decide +kernel
theorem dX2_longAim_20 : decode cX2_longAim 20 = .ok (.iload_n 1, 1) := by decide +kernel
theorem dX2_longAim_21 : decode cX2_longAim 21 = .ok (.iload_n 2, 1) := by decide +kernel
theorem dX2_longAim_22 : decode cX2_longAim 22 = .ok (.invokevirtual 149, 3) := by decide +kernel
theorem dX2_longAim_25 : decode cX2_longAim 25 = .ok (.invokevirtual 128, 3) := by decide +kernel
theorem dX2_longAim_28 : decode cX2_longAim 28 = .ok (.ireturn, 1) := by decide +kernel
set_option maxRecDepth 20000 in
theorem ggX2_goesStraight_X2_labelAddress : GoodIn wsX2_goesStraight wsX2_labelAddress := goodIn_sub (fm_c (List.mem_cons_of_mem _ (List.mem_append_left _ (mg 5 rfl))) (ms_a (fm_c (List.mem_cons_of_mem _ (List.mem_append_left _ (mg 6 rfl))) (fm_n)) (fun _ h => List.mem_cons_of_mem _ (List.mem_append_right _ (h))))) (by decide +kernel)
set_option maxRecDepth 20000 in
theorem gX2_goesStraight_X2_labelAddress : GoodIn wsX2_goesStraight (wsV RX2 139 RX2 yX2_labelAddress wsX2_labelAddress) := goodIn_app (goodIn_sub (fm_c (List.mem_cons_of_mem _ (List.mem_append_left _ (mg 1 rfl))) (fm_c (List.mem_cons_of_mem _ (List.mem_append_left _ (mg 2 rfl))) (fm_c (List.mem_cons_of_mem _ (List.mem_append_left _ (mg 3 rfl))) (fm_c (List.mem_cons_of_mem _ (List.mem_append_left _ (mg 4 rfl))) (fm_n))))) (by decide +kernel)) ggX2_goesStraight_X2_labelAddress
set_option maxRecDepth 20000 in
theorem ggX2_goesStraight_X5_far : GoodIn wsX2_goesStraight wsX5_far := goodIn_sub (fm_c (List.mem_cons_of_mem _ (List.mem_append_left _ (mg 9 rfl))) (fm_n)) (by decide +kernel)
set_option maxRecDepth 20000 in
theorem gX2_goesStraight_X5_far_n142 : GoodIn wsX2_goesStraight (wsX5_far) := ggX2_goesStraight_X5_far
theorem dX2_goesStraight_0 : decode cX2_goesStraight 0 = .ok (.iload_n 1, 1) := by decide +kernel
theorem dX2_goesStraight_1 : decode cX2_goesStraight 1 = .ok (.aload_n 0, 1) := by decide +kernel
theorem dX2_goesStraight_2 : decode cX2_goesStraight 2 = .ok (.iload_n 2, 1) := by decide +kernel
theorem dX2_goesStraight_3 : decode cX2_goesStraight 3 = .ok (.invokevirtual 139, 3) := by decide +kernel
theorem dX2_goesStraight_6 : decode cX2_goesStraight 6 = .ok (.invokestatic 142, 3) := by decide +kernel
theorem dX2_goesStraight_9 : decode cX2_goesStraight 9 = .ok (.aload_n 0, 1) := by decide +kernel
theorem dX2_goesStraight_10 : decode cX2_goesStraight 10 = .ok (.getfield 54, 3) := by decide +kernel
theorem dX2_goesStraight_13 : decode cX2_goesStraight 13 = .ok (.iconst 1, 1) := by decide +kernel
theorem dX2_goesStraight_14 : decode cX2_goesStraight 14 = .ok (.iaload, 1) := by decide +kernel
theorem dX2_goesStraight_15 : decode cX2_goesStraight 15 = .ok (.if_icmp .gt 7, 3) := by decide +kernel
theorem dX2_goesStraight_18 : decode cX2_goesStraight 18 = .ok (.iconst 1, 1) := by decide +kernel
theorem dX2_goesStraight_19 : decode cX2_goesStraight 19 = .ok (.goto 4, 3) := by decide +kernel
theorem dX2_goesStraight_22 : decode cX2_goesStraight 22 = .ok (.iconst 0, 1) := by decide +kernel
theorem dX2_goesStraight_23 : decode cX2_goesStraight 23 = .ok (.ireturn, 1) := by decide +kernel
theorem qX2_islandFor_r1 {w : Cond} (h : w ∈ wsX2_islandFor_r1) : w ∈ wsX2_islandFor := List.mem_cons_of_mem _ (List.mem_append_left _ (List.mem_append_left _ (List.mem_append_left _ (h))))
theorem qX2_islandFor_r2 {w : Cond} (h : w ∈ wsX2_islandFor_r2) : w ∈ wsX2_islandFor := List.mem_cons_of_mem _ (List.mem_append_left _ (List.mem_append_left _ (List.mem_append_right _ (h))))
set_option maxRecDepth 20000 in
theorem ggX2_islandFor_X2_labelAddress : GoodIn wsX2_islandFor wsX2_labelAddress := goodIn_sub (fm_c (qX2_islandFor_r1 (mg 6 rfl)) (ms_a (fm_c (qX2_islandFor_r1 (mg 7 rfl)) (fm_n)) (fun _ h => List.mem_cons_of_mem _ (List.mem_append_left _ (List.mem_append_right _ (h)))))) (by decide +kernel)
set_option maxRecDepth 20000 in
theorem gX2_islandFor_X2_labelAddress : GoodIn wsX2_islandFor (wsV RX2 139 RX2 yX2_labelAddress wsX2_labelAddress) := goodIn_app (goodIn_sub (fm_c (qX2_islandFor_r1 (mg 2 rfl)) (fm_c (qX2_islandFor_r1 (mg 3 rfl)) (fm_c (qX2_islandFor_r1 (mg 4 rfl)) (fm_c (qX2_islandFor_r1 (mg 5 rfl)) (fm_n))))) (by decide +kernel)) ggX2_islandFor_X2_labelAddress
set_option maxRecDepth 20000 in
theorem ggX2_islandFor_X5_far : GoodIn wsX2_islandFor wsX5_far := goodIn_sub (fm_c (qX2_islandFor_r1 (mg 10 rfl)) (fm_n)) (by decide +kernel)
set_option maxRecDepth 20000 in
theorem gX2_islandFor_X5_far_n142 : GoodIn wsX2_islandFor (wsX5_far) := ggX2_islandFor_X5_far
set_option maxRecDepth 20000 in
theorem ggX2_islandFor_X4_size : GoodIn wsX2_islandFor wsX4_size := goodIn_sub (fm_c (qX2_islandFor_r1 (mg 15 rfl)) (ms_a (fm_c (qX2_islandFor_r1 (mg 16 rfl)) (fm_n)) (fun _ h => List.mem_cons_of_mem _ (List.mem_append_right _ (h))))) (by decide +kernel)
set_option maxRecDepth 20000 in
theorem gX2_islandFor_X4_size : GoodIn wsX2_islandFor (wsV RX2 135 RX4 yX4_size wsX4_size) := goodIn_app (goodIn_sub (fm_c (qX2_islandFor_r1 (mg 11 rfl)) (fm_c (qX2_islandFor_r1 (mg 12 rfl)) (fm_c (qX2_islandFor_r1 (mg 13 rfl)) (fm_c (qX2_islandFor_r1 (mg 14 rfl)) (fm_n))))) (by decide +kernel)) ggX2_islandFor_X4_size
set_option maxRecDepth 20000 in
theorem ggX2_islandFor_X4_addressOf : GoodIn wsX2_islandFor wsX4_addressOf := goodIn_sub (fm_c (qX2_islandFor_r1 (mg 20 rfl)) (ms_a (fm_c (qX2_islandFor_r1 (mg 21 rfl)) (fm_c (qX2_islandFor_r1 (mg 22 rfl)) (fm_c (qX2_islandFor_r1 (mg 23 rfl)) (fm_c (qX2_islandFor_r2 (mg 0 rfl)) (fm_c (qX2_islandFor_r2 (mg 1 rfl)) (fm_c (qX2_islandFor_r2 (mg 2 rfl)) (fm_c (qX2_islandFor_r1 (mg 14 rfl)) (fm_c (qX2_islandFor_r2 (mg 3 rfl)) (fm_c (qX2_islandFor_r1 (mg 16 rfl)) (fm_c (qX2_islandFor_r2 (mg 4 rfl)) (fm_c (qX2_islandFor_r2 (mg 5 rfl)) (fm_c (qX2_islandFor_r2 (mg 6 rfl)) (fm_c (qX2_islandFor_r2 (mg 7 rfl)) (fm_n)))))))))))))) (fun _ h => List.mem_cons_of_mem _ (List.mem_append_right _ (h))))) (by decide +kernel)
set_option maxRecDepth 20000 in
theorem gX2_islandFor_X4_addressOf : GoodIn wsX2_islandFor (wsV RX2 128 RX4 yX4_addressOf wsX4_addressOf) := goodIn_app (goodIn_sub (fm_c (qX2_islandFor_r1 (mg 17 rfl)) (fm_c (qX2_islandFor_r1 (mg 18 rfl)) (fm_c (qX2_islandFor_r1 (mg 19 rfl)) (fm_c (qX2_islandFor_r1 (mg 14 rfl)) (fm_n))))) (by decide +kernel)) ggX2_islandFor_X4_addressOf
set_option maxRecDepth 20000 in
theorem ggX2_islandFor_X4_nameOf : GoodIn wsX2_islandFor wsX4_nameOf := goodIn_sub (fm_c (qX2_islandFor_r2 (mg 11 rfl)) (ms_a (fm_c (qX2_islandFor_r2 (mg 4 rfl)) (fm_c (qX2_islandFor_r2 (mg 0 rfl)) (fm_c (qX2_islandFor_r2 (mg 1 rfl)) (fm_c (qX2_islandFor_r2 (mg 2 rfl)) (fm_c (qX2_islandFor_r1 (mg 14 rfl)) (fm_c (qX2_islandFor_r2 (mg 3 rfl)) (fm_c (qX2_islandFor_r1 (mg 16 rfl)) (fm_n)))))))) (fun _ h => List.mem_cons_of_mem _ (List.mem_append_right _ (h))))) (by decide +kernel)
set_option maxRecDepth 20000 in
theorem gX2_islandFor_X4_nameOf : GoodIn wsX2_islandFor (wsV RX2 136 RX4 yX4_nameOf wsX4_nameOf) := goodIn_app (goodIn_sub (fm_c (qX2_islandFor_r2 (mg 8 rfl)) (fm_c (qX2_islandFor_r2 (mg 9 rfl)) (fm_c (qX2_islandFor_r2 (mg 10 rfl)) (fm_c (qX2_islandFor_r1 (mg 14 rfl)) (fm_n))))) (by decide +kernel)) ggX2_islandFor_X4_nameOf
theorem dX2_islandFor_0 : decode cX2_islandFor 0 = .ok (.aload_n 0, 1) := by decide +kernel
theorem dX2_islandFor_1 : decode cX2_islandFor 1 = .ok (.iload_n 2, 1) := by decide +kernel
theorem dX2_islandFor_2 : decode cX2_islandFor 2 = .ok (.invokevirtual 139, 3) := by decide +kernel
theorem dX2_islandFor_5 : decode cX2_islandFor 5 = .ok (.istore_n 3, 1) := by decide +kernel
theorem dX2_islandFor_6 : decode cX2_islandFor 6 = .ok (.iconst (-1), 1) := by decide +kernel
theorem dX2_islandFor_7 : decode cX2_islandFor 7 = .ok (.istore 4, 2) := by decide +kernel
theorem dX2_islandFor_9 : decode cX2_islandFor 9 = .ok (.iload_n 1, 1) := by decide +kernel
theorem dX2_islandFor_10 : decode cX2_islandFor 10 = .ok (.iload_n 3, 1) := by decide +kernel
theorem dX2_islandFor_11 : decode cX2_islandFor 11 = .ok (.invokestatic 142, 3) := by decide +kernel
theorem dX2_islandFor_14 : decode cX2_islandFor 14 = .ok (.istore 5, 2) := by decide +kernel
theorem dX2_islandFor_16 : decode cX2_islandFor 16 = .ok (.iconst 0, 1) := by decide +kernel
theorem dX2_islandFor_17 : decode cX2_islandFor 17 = .ok (.istore 6, 2) := by decide +kernel
theorem dX2_islandFor_19 : decode cX2_islandFor 19 = .ok (.iload 6, 2) := by decide +kernel
theorem dX2_islandFor_21 : decode cX2_islandFor 21 = .ok (.aload_n 0, 1) := by decide +kernel
theorem dX2_islandFor_22 : decode cX2_islandFor 22 = .ok (.getfield 14, 3) := by decide +kernel
theorem dX2_islandFor_25 : decode cX2_islandFor 25 = .ok (.invokevirtual 135, 3) := by decide +kernel
theorem dX2_islandFor_28 : decode cX2_islandFor 28 = .ok (.if_icmp .ge 122, 3) := by decide +kernel
theorem dX2_islandFor_31 : decode cX2_islandFor 31 = .ok (.aload_n 0, 1) := by decide +kernel
theorem dX2_islandFor_32 : decode cX2_islandFor 32 = .ok (.getfield 14, 3) := by decide +kernel
theorem dX2_islandFor_35 : decode cX2_islandFor 35 = .ok (.iload 6, 2) := by decide +kernel
theorem dX2_islandFor_37 : decode cX2_islandFor 37 = .ok (.invokevirtual 128, 3) := by decide +kernel
theorem dX2_islandFor_40 : decode cX2_islandFor 40 = .ok (.istore 7, 2) := by decide +kernel
theorem dX2_islandFor_42 : decode cX2_islandFor 42 = .ok (.iload 7, 2) := by decide +kernel
theorem dX2_islandFor_44 : decode cX2_islandFor 44 = .ok (.iload_n 3, 1) := by decide +kernel
theorem dX2_islandFor_45 : decode cX2_islandFor 45 = .ok (.invokestatic 142, 3) := by decide +kernel
theorem dX2_islandFor_48 : decode cX2_islandFor 48 = .ok (.istore 8, 2) := by decide +kernel
theorem dX2_islandFor_50 : decode cX2_islandFor 50 = .ok (.aload_n 0, 1) := by decide +kernel
theorem dX2_islandFor_51 : decode cX2_islandFor 51 = .ok (.getfield 14, 3) := by decide +kernel
theorem dX2_islandFor_54 : decode cX2_islandFor 54 = .ok (.iload 6, 2) := by decide +kernel
theorem dX2_islandFor_56 : decode cX2_islandFor 56 = .ok (.invokevirtual 136, 3) := by decide +kernel
theorem dX2_islandFor_59 : decode cX2_islandFor 59 = .ok (.iload_n 2, 1) := by decide +kernel
theorem dX2_islandFor_60 : decode cX2_islandFor 60 = .ok (.if_icmp .ne 22, 3) := by decide +kernel
theorem dX2_islandFor_63 : decode cX2_islandFor 63 = .ok (.iload 7, 2) := by decide +kernel
theorem dX2_islandFor_65 : decode cX2_islandFor 65 = .ok (.iload_n 1, 1) := by decide +kernel
theorem dX2_islandFor_66 : decode cX2_islandFor 66 = .ok (.invokestatic 142, 3) := by decide +kernel
theorem dX2_islandFor_69 : decode cX2_islandFor 69 = .ok (.aload_n 0, 1) := by decide +kernel
theorem dX2_islandFor_70 : decode cX2_islandFor 70 = .ok (.getfield 54, 3) := by decide +kernel
theorem dX2_islandFor_73 : decode cX2_islandFor 73 = .ok (.iconst 1, 1) := by decide +kernel
theorem dX2_islandFor_74 : decode cX2_islandFor 74 = .ok (.iaload, 1) := by decide +kernel
theorem dX2_islandFor_75 : decode cX2_islandFor 75 = .ok (.if_icmp .gt 7, 3) := by decide +kernel
theorem dX2_islandFor_78 : decode cX2_islandFor 78 = .ok (.iconst 1, 1) := by decide +kernel
theorem dX2_islandFor_79 : decode cX2_islandFor 79 = .ok (.goto 4, 3) := by decide +kernel
theorem dX2_islandFor_82 : decode cX2_islandFor 82 = .ok (.iconst 0, 1) := by decide +kernel
theorem dX2_islandFor_83 : decode cX2_islandFor 83 = .ok (.istore 9, 2) := by decide +kernel
theorem dX2_islandFor_85 : decode cX2_islandFor 85 = .ok (.iload 4, 2) := by decide +kernel
theorem dX2_islandFor_87 : decode cX2_islandFor 87 = .ok (.iconst (-1), 1) := by decide +kernel
theorem dX2_islandFor_88 : decode cX2_islandFor 88 = .ok (.if_icmp .eq 28, 3) := by decide +kernel
theorem dX2_islandFor_91 : decode cX2_islandFor 91 = .ok (.iload 8, 2) := by decide +kernel
theorem dX2_islandFor_93 : decode cX2_islandFor 93 = .ok (.iload 5, 2) := by decide +kernel
theorem dX2_islandFor_95 : decode cX2_islandFor 95 = .ok (.if_icmp .ne 21, 3) := by decide +kernel
theorem dX2_islandFor_98 : decode cX2_islandFor 98 = .ok (.iload 7, 2) := by decide +kernel
theorem dX2_islandFor_100 : decode cX2_islandFor 100 = .ok (.aload_n 0, 1) := by decide +kernel
theorem dX2_islandFor_101 : decode cX2_islandFor 101 = .ok (.getfield 14, 3) := by decide +kernel
theorem dX2_islandFor_104 : decode cX2_islandFor 104 = .ok (.iload 4, 2) := by decide +kernel
theorem dX2_islandFor_106 : decode cX2_islandFor 106 = .ok (.invokevirtual 128, 3) := by decide +kernel
theorem dX2_islandFor_109 : decode cX2_islandFor 109 = .ok (.if_icmp .ge 7, 3) := by decide +kernel
theorem dX2_islandFor_112 : decode cX2_islandFor 112 = .ok (.iconst 1, 1) := by decide +kernel
theorem dX2_islandFor_113 : decode cX2_islandFor 113 = .ok (.goto 4, 3) := by decide +kernel
theorem dX2_islandFor_116 : decode cX2_islandFor 116 = .ok (.iconst 0, 1) := by decide +kernel
theorem dX2_islandFor_117 : decode cX2_islandFor 117 = .ok (.istore 10, 2) := by decide +kernel
theorem dX2_islandFor_119 : decode cX2_islandFor 119 = .ok (.iload 9, 2) := by decide +kernel
theorem dX2_islandFor_121 : decode cX2_islandFor 121 = .ok (.ifCond .eq 23, 3) := by decide +kernel
theorem dX2_islandFor_124 : decode cX2_islandFor 124 = .ok (.iload 8, 2) := by decide +kernel
theorem dX2_islandFor_126 : decode cX2_islandFor 126 = .ok (.iload 5, 2) := by decide +kernel
theorem dX2_islandFor_128 : decode cX2_islandFor 128 = .ok (.if_icmp .lt 8, 3) := by decide +kernel
theorem dX2_islandFor_131 : decode cX2_islandFor 131 = .ok (.iload 10, 2) := by decide +kernel
theorem dX2_islandFor_133 : decode cX2_islandFor 133 = .ok (.ifCond .eq 11, 3) := by decide +kernel
theorem dX2_islandFor_136 : decode cX2_islandFor 136 = .ok (.iload 6, 2) := by decide +kernel
theorem dX2_islandFor_138 : decode cX2_islandFor 138 = .ok (.istore 4, 2) := by decide +kernel
theorem dX2_islandFor_140 : decode cX2_islandFor 140 = .ok (.iload 8, 2) := by decide +kernel
theorem dX2_islandFor_142 : decode cX2_islandFor 142 = .ok (.istore 5, 2) := by decide +kernel
theorem dX2_islandFor_144 : decode cX2_islandFor 144 = .ok (.iinc 6 1, 3) := by decide +kernel
theorem dX2_islandFor_147 : decode cX2_islandFor 147 = .ok (.goto (-128), 3) := by decide +kernel
theorem dX2_islandFor_150 : decode cX2_islandFor 150 = .ok (.iload 4, 2) := by decide +kernel
theorem dX2_islandFor_152 : decode cX2_islandFor 152 = .ok (.ireturn, 1) := by decide +kernel
theorem qX2_constantFor_r1 {w : Cond} (h : w ∈ wsX2_constantFor_r1) : w ∈ wsX2_constantFor := List.mem_cons_of_mem _ (List.mem_append_left _ (List.mem_append_left _ (List.mem_append_left _ (h))))
theorem qX2_constantFor_r2 {w : Cond} (h : w ∈ wsX2_constantFor_r2) : w ∈ wsX2_constantFor := List.mem_cons_of_mem _ (List.mem_append_left _ (List.mem_append_left _ (List.mem_append_right _ (h))))
set_option maxRecDepth 20000 in
theorem ggX2_constantFor_X4_size : GoodIn wsX2_constantFor wsX4_size := goodIn_sub (fm_c (qX2_constantFor_r1 (mg 5 rfl)) (ms_a (fm_c (qX2_constantFor_r1 (mg 6 rfl)) (fm_n)) (fun _ h => List.mem_cons_of_mem _ (List.mem_append_right _ (h))))) (by decide +kernel)
set_option maxRecDepth 20000 in
theorem gX2_constantFor_X4_size : GoodIn wsX2_constantFor (wsV RX2 135 RX4 yX4_size wsX4_size) := goodIn_app (goodIn_sub (fm_c (qX2_constantFor_r1 (mg 1 rfl)) (fm_c (qX2_constantFor_r1 (mg 2 rfl)) (fm_c (qX2_constantFor_r1 (mg 3 rfl)) (fm_c (qX2_constantFor_r1 (mg 4 rfl)) (fm_n))))) (by decide +kernel)) ggX2_constantFor_X4_size
set_option maxRecDepth 20000 in
theorem ggX2_constantFor_X4_addressOf : GoodIn wsX2_constantFor wsX4_addressOf := goodIn_sub (fm_c (qX2_constantFor_r1 (mg 10 rfl)) (ms_a (fm_c (qX2_constantFor_r1 (mg 11 rfl)) (fm_c (qX2_constantFor_r1 (mg 12 rfl)) (fm_c (qX2_constantFor_r1 (mg 13 rfl)) (fm_c (qX2_constantFor_r1 (mg 14 rfl)) (fm_c (qX2_constantFor_r1 (mg 15 rfl)) (fm_c (qX2_constantFor_r1 (mg 16 rfl)) (fm_c (qX2_constantFor_r1 (mg 4 rfl)) (fm_c (qX2_constantFor_r1 (mg 17 rfl)) (fm_c (qX2_constantFor_r1 (mg 6 rfl)) (fm_c (qX2_constantFor_r1 (mg 18 rfl)) (fm_c (qX2_constantFor_r1 (mg 19 rfl)) (fm_c (qX2_constantFor_r1 (mg 20 rfl)) (fm_c (qX2_constantFor_r1 (mg 21 rfl)) (fm_n)))))))))))))) (fun _ h => List.mem_cons_of_mem _ (List.mem_append_right _ (h))))) (by decide +kernel)
set_option maxRecDepth 20000 in
theorem gX2_constantFor_X4_addressOf : GoodIn wsX2_constantFor (wsV RX2 128 RX4 yX4_addressOf wsX4_addressOf) := goodIn_app (goodIn_sub (fm_c (qX2_constantFor_r1 (mg 7 rfl)) (fm_c (qX2_constantFor_r1 (mg 8 rfl)) (fm_c (qX2_constantFor_r1 (mg 9 rfl)) (fm_c (qX2_constantFor_r1 (mg 4 rfl)) (fm_n))))) (by decide +kernel)) ggX2_constantFor_X4_addressOf
set_option maxRecDepth 20000 in
theorem ggX2_constantFor_X4_nameOf : GoodIn wsX2_constantFor wsX4_nameOf := goodIn_sub (fm_c (qX2_constantFor_r2 (mg 1 rfl)) (ms_a (fm_c (qX2_constantFor_r1 (mg 18 rfl)) (fm_c (qX2_constantFor_r1 (mg 14 rfl)) (fm_c (qX2_constantFor_r1 (mg 15 rfl)) (fm_c (qX2_constantFor_r1 (mg 16 rfl)) (fm_c (qX2_constantFor_r1 (mg 4 rfl)) (fm_c (qX2_constantFor_r1 (mg 17 rfl)) (fm_c (qX2_constantFor_r1 (mg 6 rfl)) (fm_n)))))))) (fun _ h => List.mem_cons_of_mem _ (List.mem_append_right _ (h))))) (by decide +kernel)
set_option maxRecDepth 20000 in
theorem gX2_constantFor_X4_nameOf : GoodIn wsX2_constantFor (wsV RX2 136 RX4 yX4_nameOf wsX4_nameOf) := goodIn_app (goodIn_sub (fm_c (qX2_constantFor_r1 (mg 22 rfl)) (fm_c (qX2_constantFor_r1 (mg 23 rfl)) (fm_c (qX2_constantFor_r2 (mg 0 rfl)) (fm_c (qX2_constantFor_r1 (mg 4 rfl)) (fm_n))))) (by decide +kernel)) ggX2_constantFor_X4_nameOf
set_option maxRecDepth 20000 in
theorem ggX2_constantFor_X2_isInLoadReach : GoodIn wsX2_constantFor wsX2_isInLoadReach := goodIn_sub (fm_c (qX2_constantFor_r2 (mg 6 rfl)) (ms_a (fm_c (qX2_constantFor_r2 (mg 7 rfl)) (fm_n)) (fun _ h => List.mem_cons_of_mem _ (List.mem_append_left _ (List.mem_append_right _ (h)))))) (by decide +kernel)
set_option maxRecDepth 20000 in
theorem gX2_constantFor_X2_isInLoadReach : GoodIn wsX2_constantFor (wsV RX2 152 RX2 yX2_isInLoadReach wsX2_isInLoadReach) := goodIn_app (goodIn_sub (fm_c (qX2_constantFor_r2 (mg 2 rfl)) (fm_c (qX2_constantFor_r2 (mg 3 rfl)) (fm_c (qX2_constantFor_r2 (mg 4 rfl)) (fm_c (qX2_constantFor_r2 (mg 5 rfl)) (fm_n))))) (by decide +kernel)) ggX2_constantFor_X2_isInLoadReach
theorem dX2_constantFor_0 : decode cX2_constantFor 0 = .ok (.iconst (-1), 1) := by decide +kernel
theorem dX2_constantFor_1 : decode cX2_constantFor 1 = .ok (.istore_n 3, 1) := by decide +kernel
theorem dX2_constantFor_2 : decode cX2_constantFor 2 = .ok (.iconst 0, 1) := by decide +kernel
theorem dX2_constantFor_3 : decode cX2_constantFor 3 = .ok (.istore 4, 2) := by decide +kernel
theorem dX2_constantFor_5 : decode cX2_constantFor 5 = .ok (.iload 4, 2) := by decide +kernel
theorem dX2_constantFor_7 : decode cX2_constantFor 7 = .ok (.aload_n 0, 1) := by decide +kernel
theorem dX2_constantFor_8 : decode cX2_constantFor 8 = .ok (.getfield 20, 3) := by decide +kernel
theorem dX2_constantFor_11 : decode cX2_constantFor 11 = .ok (.invokevirtual 135, 3) := by decide +kernel
theorem dX2_constantFor_14 : decode cX2_constantFor 14 = .ok (.if_icmp .ge 64, 3) := by decide +kernel
theorem dX2_constantFor_17 : decode cX2_constantFor 17 = .ok (.aload_n 0, 1) := by decide +kernel
theorem dX2_constantFor_18 : decode cX2_constantFor 18 = .ok (.getfield 20, 3) := by decide +kernel
theorem dX2_constantFor_21 : decode cX2_constantFor 21 = .ok (.iload 4, 2) := by decide +kernel
theorem dX2_constantFor_23 : decode cX2_constantFor 23 = .ok (.invokevirtual 128, 3) := by decide +kernel
theorem dX2_constantFor_26 : decode cX2_constantFor 26 = .ok (.istore 5, 2) := by decide +kernel
theorem dX2_constantFor_28 : decode cX2_constantFor 28 = .ok (.aload_n 0, 1) := by decide +kernel
theorem dX2_constantFor_29 : decode cX2_constantFor 29 = .ok (.getfield 20, 3) := by decide +kernel
theorem dX2_constantFor_32 : decode cX2_constantFor 32 = .ok (.iload 4, 2) := by decide +kernel
theorem dX2_constantFor_34 : decode cX2_constantFor 34 = .ok (.invokevirtual 136, 3) := by decide +kernel
theorem dX2_constantFor_37 : decode cX2_constantFor 37 = .ok (.iload_n 2, 1) := by decide +kernel
theorem dX2_constantFor_38 : decode cX2_constantFor 38 = .ok (.if_icmp .ne 34, 3) := by decide +kernel
theorem dX2_constantFor_41 : decode cX2_constantFor 41 = .ok (.aload_n 0, 1) := by decide +kernel
theorem dX2_constantFor_42 : decode cX2_constantFor 42 = .ok (.iload_n 1, 1) := by decide +kernel
theorem dX2_constantFor_43 : decode cX2_constantFor 43 = .ok (.iload 5, 2) := by decide +kernel
theorem dX2_constantFor_45 : decode cX2_constantFor 45 = .ok (.invokevirtual 152, 3) := by decide +kernel
theorem dX2_constantFor_48 : decode cX2_constantFor 48 = .ok (.ifCond .eq 24, 3) := by decide +kernel
theorem dX2_constantFor_51 : decode cX2_constantFor 51 = .ok (.iload_n 3, 1) := by decide +kernel
theorem dX2_constantFor_52 : decode cX2_constantFor 52 = .ok (.iconst (-1), 1) := by decide +kernel
theorem dX2_constantFor_53 : decode cX2_constantFor 53 = .ok (.if_icmp .eq 16, 3) := by decide +kernel
theorem dX2_constantFor_56 : decode cX2_constantFor 56 = .ok (.iload 5, 2) := by decide +kernel
theorem dX2_constantFor_58 : decode cX2_constantFor 58 = .ok (.aload_n 0, 1) := by decide +kernel
theorem dX2_constantFor_59 : decode cX2_constantFor 59 = .ok (.getfield 20, 3) := by decide +kernel
theorem dX2_constantFor_62 : decode cX2_constantFor 62 = .ok (.iload_n 3, 1) := by decide +kernel
theorem dX2_constantFor_63 : decode cX2_constantFor 63 = .ok (.invokevirtual 128, 3) := by decide +kernel
theorem dX2_constantFor_66 : decode cX2_constantFor 66 = .ok (.if_icmp .ge 6, 3) := by decide +kernel
theorem dX2_constantFor_69 : decode cX2_constantFor 69 = .ok (.iload 4, 2) := by decide +kernel
theorem dX2_constantFor_71 : decode cX2_constantFor 71 = .ok (.istore_n 3, 1) := by decide +kernel
theorem dX2_constantFor_72 : decode cX2_constantFor 72 = .ok (.iinc 4 1, 3) := by decide +kernel
theorem dX2_constantFor_75 : decode cX2_constantFor 75 = .ok (.goto (-70), 3) := by decide +kernel
theorem dX2_constantFor_78 : decode cX2_constantFor 78 = .ok (.iload_n 3, 1) := by decide +kernel
theorem dX2_constantFor_79 : decode cX2_constantFor 79 = .ok (.ireturn, 1) := by decide +kernel
theorem dX2_isInLoadReach_0 : decode cX2_isInLoadReach 0 = .ok (.iload_n 2, 1) := by decide +kernel
theorem dX2_isInLoadReach_1 : decode cX2_isInLoadReach 1 = .ok (.iload_n 1, 1) := by decide +kernel
theorem dX2_isInLoadReach_2 : decode cX2_isInLoadReach 2 = .ok (.if_icmp .le 19, 3) := by decide +kernel
theorem dX2_isInLoadReach_5 : decode cX2_isInLoadReach 5 = .ok (.iload_n 2, 1) := by decide +kernel
theorem dX2_isInLoadReach_6 : decode cX2_isInLoadReach 6 = .ok (.iload_n 1, 1) := by decide +kernel
theorem dX2_isInLoadReach_7 : decode cX2_isInLoadReach 7 = .ok (.isub, 1) := by decide +kernel
theorem dX2_isInLoadReach_8 : decode cX2_isInLoadReach 8 = .ok (.aload_n 0, 1) := by decide +kernel
theorem dX2_isInLoadReach_9 : decode cX2_isInLoadReach 9 = .ok (.getfield 54, 3) := by decide +kernel
theorem dX2_isInLoadReach_12 : decode cX2_isInLoadReach 12 = .ok (.iconst 2, 1) := by decide +kernel
theorem dX2_isInLoadReach_13 : decode cX2_isInLoadReach 13 = .ok (.iaload, 1) := by decide +kernel
theorem dX2_isInLoadReach_14 : decode cX2_isInLoadReach 14 = .ok (.if_icmp .gt 7, 3) := by decide +kernel
theorem dX2_isInLoadReach_17 : decode cX2_isInLoadReach 17 = .ok (.iconst 1, 1) := by decide +kernel
theorem dX2_isInLoadReach_18 : decode cX2_isInLoadReach 18 = .ok (.goto 4, 3) := by decide +kernel
theorem dX2_isInLoadReach_21 : decode cX2_isInLoadReach 21 = .ok (.iconst 0, 1) := by decide +kernel
theorem dX2_isInLoadReach_22 : decode cX2_isInLoadReach 22 = .ok (.ireturn, 1) := by decide +kernel
theorem dX2_aimOf_0 : decode cX2_aimOf 0 = .ok (.iload_n 1, 1) := by decide +kernel
theorem dX2_aimOf_1 : decode cX2_aimOf 1 = .ok (.ifCond .lt 21, 3) := by decide +kernel
theorem dX2_aimOf_4 : decode cX2_aimOf 4 = .ok (.iload_n 1, 1) := by decide +kernel
theorem dX2_aimOf_5 : decode cX2_aimOf 5 = .ok (.aload_n 0, 1) := by decide +kernel
theorem dX2_aimOf_6 : decode cX2_aimOf 6 = .ok (.getfield 37, 3) := by decide +kernel
theorem dX2_aimOf_9 : decode cX2_aimOf 9 = .ok (.arraylength, 1) := by decide +kernel
theorem dX2_aimOf_10 : decode cX2_aimOf 10 = .ok (.if_icmp .ge 12, 3) := by decide +kernel
theorem dX2_aimOf_13 : decode cX2_aimOf 13 = .ok (.aload_n 0, 1) := by decide +kernel
theorem dX2_aimOf_14 : decode cX2_aimOf 14 = .ok (.getfield 37, 3) := by decide +kernel
theorem dX2_aimOf_17 : decode cX2_aimOf 17 = .ok (.iload_n 1, 1) := by decide +kernel
theorem dX2_aimOf_18 : decode cX2_aimOf 18 = .ok (.iaload, 1) := by decide +kernel
theorem dX2_aimOf_19 : decode cX2_aimOf 19 = .ok (.goto 4, 3) := by decide +kernel
theorem dX2_aimOf_22 : decode cX2_aimOf 22 = .ok (.iconst (-1), 1) := by decide +kernel
theorem dX2_aimOf_23 : decode cX2_aimOf 23 = .ok (.ireturn, 1) := by decide +kernel
theorem dX2_islandAimOf_0 : decode cX2_islandAimOf 0 = .ok (.iload_n 1, 1) := by decide +kernel
theorem dX2_islandAimOf_1 : decode cX2_islandAimOf 1 = .ok (.ifCond .lt 21, 3) := by decide +kernel
theorem dX2_islandAimOf_4 : decode cX2_islandAimOf 4 = .ok (.iload_n 1, 1) := by decide +kernel
theorem dX2_islandAimOf_5 : decode cX2_islandAimOf 5 = .ok (.aload_n 0, 1) := by decide +kernel
theorem dX2_islandAimOf_6 : decode cX2_islandAimOf 6 = .ok (.getfield 40, 3) := by decide +kernel
theorem dX2_islandAimOf_9 : decode cX2_islandAimOf 9 = .ok (.arraylength, 1) := by decide +kernel
theorem dX2_islandAimOf_10 : decode cX2_islandAimOf 10 = .ok (.if_icmp .ge 12, 3) := by decide +kernel
theorem dX2_islandAimOf_13 : decode cX2_islandAimOf 13 = .ok (.aload_n 0, 1) := by decide +kernel
theorem dX2_islandAimOf_14 : decode cX2_islandAimOf 14 = .ok (.getfield 40, 3) := by decide +kernel
theorem dX2_islandAimOf_17 : decode cX2_islandAimOf 17 = .ok (.iload_n 1, 1) := by decide +kernel
theorem dX2_islandAimOf_18 : decode cX2_islandAimOf 18 = .ok (.iaload, 1) := by decide +kernel
theorem dX2_islandAimOf_19 : decode cX2_islandAimOf 19 = .ok (.goto 4, 3) := by decide +kernel
theorem dX2_islandAimOf_22 : decode cX2_islandAimOf 22 = .ok (.iconst (-1), 1) := by decide +kernel
theorem dX2_islandAimOf_23 : decode cX2_islandAimOf 23 = .ok (.ireturn, 1) := by decide +kernel
theorem qX2_loadsOf_r1 {w : Cond} (h : w ∈ wsX2_loadsOf_r1) : w ∈ wsX2_loadsOf := List.mem_cons_of_mem _ (List.mem_append_left _ (List.mem_append_left _ (List.mem_append_left _ (List.mem_append_left _ (h)))))
theorem qX2_loadsOf_r2 {w : Cond} (h : w ∈ wsX2_loadsOf_r2) : w ∈ wsX2_loadsOf := List.mem_cons_of_mem _ (List.mem_append_left _ (List.mem_append_left _ (List.mem_append_left _ (List.mem_append_right _ (h)))))
set_option maxRecDepth 20000 in
theorem ggX2_loadsOf_X4_addressOf : GoodIn wsX2_loadsOf wsX4_addressOf := goodIn_sub (fm_c (qX2_loadsOf_r1 (mg 6 rfl)) (ms_a (fm_c (qX2_loadsOf_r1 (mg 7 rfl)) (fm_c (qX2_loadsOf_r1 (mg 8 rfl)) (fm_c (qX2_loadsOf_r1 (mg 9 rfl)) (fm_c (qX2_loadsOf_r1 (mg 10 rfl)) (fm_c (qX2_loadsOf_r1 (mg 11 rfl)) (fm_c (qX2_loadsOf_r1 (mg 12 rfl)) (fm_c (qX2_loadsOf_r1 (mg 5 rfl)) (fm_c (qX2_loadsOf_r1 (mg 13 rfl)) (fm_c (qX2_loadsOf_r1 (mg 14 rfl)) (fm_c (qX2_loadsOf_r1 (mg 15 rfl)) (fm_c (qX2_loadsOf_r1 (mg 16 rfl)) (fm_c (qX2_loadsOf_r1 (mg 17 rfl)) (fm_c (qX2_loadsOf_r1 (mg 18 rfl)) (fm_n)))))))))))))) (fun _ h => List.mem_cons_of_mem _ (List.mem_append_left _ (List.mem_append_right _ (h)))))) (by decide +kernel)
set_option maxRecDepth 20000 in
theorem gX2_loadsOf_X4_addressOf : GoodIn wsX2_loadsOf (wsV RX2 128 RX4 yX4_addressOf wsX4_addressOf) := goodIn_app (goodIn_sub (fm_c (qX2_loadsOf_r1 (mg 2 rfl)) (fm_c (qX2_loadsOf_r1 (mg 3 rfl)) (fm_c (qX2_loadsOf_r1 (mg 4 rfl)) (fm_c (qX2_loadsOf_r1 (mg 5 rfl)) (fm_n))))) (by decide +kernel)) ggX2_loadsOf_X4_addressOf
set_option maxRecDepth 20000 in
theorem ggX2_loadsOf_X0_size : GoodIn wsX2_loadsOf wsX0_size := goodIn_sub (fm_c (qX2_loadsOf_r1 (mg 23 rfl)) (ms_a (fm_c (qX2_loadsOf_r2 (mg 0 rfl)) (fm_n)) (fun _ h => List.mem_cons_of_mem _ (List.mem_append_right _ (h))))) (by decide +kernel)
set_option maxRecDepth 20000 in
theorem gX2_loadsOf_X0_size : GoodIn wsX2_loadsOf (wsV RX2 60 RX0 yX0_size wsX0_size) := goodIn_app (goodIn_sub (fm_c (qX2_loadsOf_r1 (mg 19 rfl)) (fm_c (qX2_loadsOf_r1 (mg 20 rfl)) (fm_c (qX2_loadsOf_r1 (mg 21 rfl)) (fm_c (qX2_loadsOf_r1 (mg 22 rfl)) (fm_n))))) (by decide +kernel)) ggX2_loadsOf_X0_size
set_option maxRecDepth 20000 in
theorem ggX2_loadsOf_X0_kindOf : GoodIn wsX2_loadsOf wsX0_kindOf := goodIn_sub (fm_c (qX2_loadsOf_r2 (mg 4 rfl)) (ms_a (fm_c (qX2_loadsOf_r2 (mg 5 rfl)) (fm_c (qX2_loadsOf_r2 (mg 6 rfl)) (fm_c (qX2_loadsOf_r2 (mg 7 rfl)) (fm_c (qX2_loadsOf_r2 (mg 8 rfl)) (fm_c (qX2_loadsOf_r1 (mg 22 rfl)) (fm_c (qX2_loadsOf_r2 (mg 9 rfl)) (fm_c (qX2_loadsOf_r2 (mg 0 rfl)) (fm_c (qX2_loadsOf_r2 (mg 10 rfl)) (fm_n))))))))) (fun _ h => List.mem_cons_of_mem _ (List.mem_append_right _ (h))))) (by decide +kernel)
set_option maxRecDepth 20000 in
theorem gX2_loadsOf_X0_kindOf : GoodIn wsX2_loadsOf (wsV RX2 92 RX0 yX0_kindOf wsX0_kindOf) := goodIn_app (goodIn_sub (fm_c (qX2_loadsOf_r2 (mg 1 rfl)) (fm_c (qX2_loadsOf_r2 (mg 2 rfl)) (fm_c (qX2_loadsOf_r2 (mg 3 rfl)) (fm_c (qX2_loadsOf_r1 (mg 22 rfl)) (fm_n))))) (by decide +kernel)) ggX2_loadsOf_X0_kindOf
set_option maxRecDepth 20000 in
theorem ggX2_loadsOf_X2_aimOf : GoodIn wsX2_loadsOf wsX2_aimOf := goodIn_sub (fm_c (qX2_loadsOf_r2 (mg 15 rfl)) (ms_a (fm_c (qX2_loadsOf_r2 (mg 16 rfl)) (fm_n)) (fun _ h => List.mem_cons_of_mem _ (List.mem_append_left _ (List.mem_append_left _ (List.mem_append_right _ (h))))))) (by decide +kernel)
set_option maxRecDepth 20000 in
theorem gX2_loadsOf_X2_aimOf : GoodIn wsX2_loadsOf (wsV RX2 155 RX2 yX2_aimOf wsX2_aimOf) := goodIn_app (goodIn_sub (fm_c (qX2_loadsOf_r2 (mg 11 rfl)) (fm_c (qX2_loadsOf_r2 (mg 12 rfl)) (fm_c (qX2_loadsOf_r2 (mg 13 rfl)) (fm_c (qX2_loadsOf_r2 (mg 14 rfl)) (fm_n))))) (by decide +kernel)) ggX2_loadsOf_X2_aimOf
theorem dX2_loadsOf_0 : decode cX2_loadsOf 0 = .ok (.aload_n 0, 1) := by decide +kernel
theorem dX2_loadsOf_1 : decode cX2_loadsOf 1 = .ok (.getfield 20, 3) := by decide +kernel
theorem dX2_loadsOf_4 : decode cX2_loadsOf 4 = .ok (.iload_n 1, 1) := by decide +kernel
theorem dX2_loadsOf_5 : decode cX2_loadsOf 5 = .ok (.invokevirtual 128, 3) := by decide +kernel
theorem dX2_loadsOf_8 : decode cX2_loadsOf 8 = .ok (.istore_n 2, 1) := by decide +kernel
theorem dX2_loadsOf_9 : decode cX2_loadsOf 9 = .ok (.iconst 0, 1) := by decide +kernel
theorem dX2_loadsOf_10 : decode cX2_loadsOf 10 = .ok (.istore_n 3, 1) := by decide +kernel
theorem dX2_loadsOf_11 : decode cX2_loadsOf 11 = .ok (.iconst 0, 1) := by decide +kernel
theorem dX2_loadsOf_12 : decode cX2_loadsOf 12 = .ok (.istore 4, 2) := by decide +kernel
theorem dX2_loadsOf_14 : decode cX2_loadsOf 14 = .ok (.iload 4, 2) := by decide +kernel
theorem dX2_loadsOf_16 : decode cX2_loadsOf 16 = .ok (.aload_n 0, 1) := by decide +kernel
theorem dX2_loadsOf_17 : decode cX2_loadsOf 17 = .ok (.getfield 50, 3) := by decide +kernel
theorem dX2_loadsOf_20 : decode cX2_loadsOf 20 = .ok (.invokevirtual 60, 3) := by decide +kernel
theorem dX2_loadsOf_23 : decode cX2_loadsOf 23 = .ok (.if_icmp .ge 35, 3) := by decide +kernel
theorem dX2_loadsOf_26 : decode cX2_loadsOf 26 = .ok (.aload_n 0, 1) := by decide +kernel
theorem dX2_loadsOf_27 : decode cX2_loadsOf 27 = .ok (.getfield 50, 3) := by decide +kernel
theorem dX2_loadsOf_30 : decode cX2_loadsOf 30 = .ok (.iload 4, 2) := by decide +kernel
theorem dX2_loadsOf_32 : decode cX2_loadsOf 32 = .ok (.invokevirtual 92, 3) := by decide +kernel
theorem dX2_loadsOf_35 : decode cX2_loadsOf 35 = .ok (.iconst 1, 1) := by decide +kernel
theorem dX2_loadsOf_36 : decode cX2_loadsOf 36 = .ok (.if_icmp .ne 16, 3) := by decide +kernel
theorem dX2_loadsOf_39 : decode cX2_loadsOf 39 = .ok (.aload_n 0, 1) := by decide +kernel
theorem dX2_loadsOf_40 : decode cX2_loadsOf 40 = .ok (.iload 4, 2) := by decide +kernel
theorem dX2_loadsOf_42 : decode cX2_loadsOf 42 = .ok (.invokevirtual 155, 3) := by decide +kernel
theorem dX2_loadsOf_45 : decode cX2_loadsOf 45 = .ok (.iload_n 2, 1) := by decide +kernel
theorem dX2_loadsOf_46 : decode cX2_loadsOf 46 = .ok (.if_icmp .ne 6, 3) := by decide +kernel
theorem dX2_loadsOf_49 : decode cX2_loadsOf 49 = .ok (.iinc 3 1, 3) := by decide +kernel
theorem dX2_loadsOf_52 : decode cX2_loadsOf 52 = .ok (.iinc 4 1, 3) := by decide +kernel
theorem dX2_loadsOf_55 : decode cX2_loadsOf 55 = .ok (.goto (-41), 3) := by decide +kernel
theorem dX2_loadsOf_58 : decode cX2_loadsOf 58 = .ok (.iload_n 3, 1) := by decide +kernel
theorem dX2_loadsOf_59 : decode cX2_loadsOf 59 = .ok (.ireturn, 1) := by decide +kernel
theorem qX2_hopsFrom_r1 {w : Cond} (h : w ∈ wsX2_hopsFrom_r1) : w ∈ wsX2_hopsFrom := List.mem_cons_of_mem _ (List.mem_append_left _ (List.mem_append_left _ (List.mem_append_left _ (List.mem_append_left _ (h)))))
theorem qX2_hopsFrom_r2 {w : Cond} (h : w ∈ wsX2_hopsFrom_r2) : w ∈ wsX2_hopsFrom := List.mem_cons_of_mem _ (List.mem_append_left _ (List.mem_append_left _ (List.mem_append_left _ (List.mem_append_right _ (List.mem_append_left _ (h))))))
theorem qX2_hopsFrom_r3 {w : Cond} (h : w ∈ wsX2_hopsFrom_r3) : w ∈ wsX2_hopsFrom := List.mem_cons_of_mem _ (List.mem_append_left _ (List.mem_append_left _ (List.mem_append_left _ (List.mem_append_right _ (List.mem_append_right _ (h))))))
set_option maxRecDepth 20000 in
theorem ggX2_hopsFrom_X0_toldOf : GoodIn wsX2_hopsFrom wsX0_toldOf := goodIn_sub (fm_c (qX2_hopsFrom_r1 (mg 6 rfl)) (ms_a (fm_c (qX2_hopsFrom_r1 (mg 7 rfl)) (fm_c (qX2_hopsFrom_r1 (mg 8 rfl)) (fm_c (qX2_hopsFrom_r1 (mg 9 rfl)) (fm_c (qX2_hopsFrom_r1 (mg 10 rfl)) (fm_c (qX2_hopsFrom_r1 (mg 5 rfl)) (fm_c (qX2_hopsFrom_r1 (mg 11 rfl)) (fm_c (qX2_hopsFrom_r1 (mg 12 rfl)) (fm_c (qX2_hopsFrom_r1 (mg 13 rfl)) (fm_n))))))))) (fun _ h => List.mem_cons_of_mem _ (List.mem_append_left _ (List.mem_append_right _ (h)))))) (by decide +kernel)
set_option maxRecDepth 20000 in
theorem gX2_hopsFrom_X0_toldOf : GoodIn wsX2_hopsFrom (wsV RX2 100 RX0 yX0_toldOf wsX0_toldOf) := goodIn_app (goodIn_sub (fm_c (qX2_hopsFrom_r1 (mg 2 rfl)) (fm_c (qX2_hopsFrom_r1 (mg 3 rfl)) (fm_c (qX2_hopsFrom_r1 (mg 4 rfl)) (fm_c (qX2_hopsFrom_r1 (mg 5 rfl)) (fm_n))))) (by decide +kernel)) ggX2_hopsFrom_X0_toldOf
set_option maxRecDepth 20000 in
theorem ggX2_hopsFrom_X2_addressOf : GoodIn wsX2_hopsFrom wsX2_addressOf := goodIn_sub (fm_c (qX2_hopsFrom_r1 (mg 18 rfl)) (ms_a (fm_c (qX2_hopsFrom_r1 (mg 19 rfl)) (fm_n)) (fun _ h => List.mem_cons_of_mem _ (List.mem_append_left _ (List.mem_append_left _ (List.mem_append_right _ (h))))))) (by decide +kernel)
set_option maxRecDepth 20000 in
theorem gX2_hopsFrom_X2_addressOf : GoodIn wsX2_hopsFrom (wsV RX2 122 RX2 yX2_addressOf wsX2_addressOf) := goodIn_app (goodIn_sub (fm_c (qX2_hopsFrom_r1 (mg 14 rfl)) (fm_c (qX2_hopsFrom_r1 (mg 15 rfl)) (fm_c (qX2_hopsFrom_r1 (mg 16 rfl)) (fm_c (qX2_hopsFrom_r1 (mg 17 rfl)) (fm_n))))) (by decide +kernel)) ggX2_hopsFrom_X2_addressOf
set_option maxRecDepth 20000 in
theorem ggX2_hopsFrom_X2_isLong : GoodIn wsX2_hopsFrom wsX2_isLong := goodIn_sub (fm_c (qX2_hopsFrom_r1 (mg 23 rfl)) (ms_a (fm_c (qX2_hopsFrom_r2 (mg 0 rfl)) (fm_n)) (fun _ h => List.mem_cons_of_mem _ (List.mem_append_left _ (List.mem_append_left _ (List.mem_append_right _ (h))))))) (by decide +kernel)
set_option maxRecDepth 20000 in
theorem gX2_hopsFrom_X2_isLong : GoodIn wsX2_hopsFrom (wsV RX2 110 RX2 yX2_isLong wsX2_isLong) := goodIn_app (goodIn_sub (fm_c (qX2_hopsFrom_r1 (mg 20 rfl)) (fm_c (qX2_hopsFrom_r1 (mg 21 rfl)) (fm_c (qX2_hopsFrom_r1 (mg 22 rfl)) (fm_c (qX2_hopsFrom_r1 (mg 17 rfl)) (fm_n))))) (by decide +kernel)) ggX2_hopsFrom_X2_isLong
set_option maxRecDepth 20000 in
theorem ggX2_hopsFrom_X2_aimOf : GoodIn wsX2_hopsFrom wsX2_aimOf := goodIn_sub (fm_c (qX2_hopsFrom_r2 (mg 4 rfl)) (ms_a (fm_c (qX2_hopsFrom_r2 (mg 5 rfl)) (fm_n)) (fun _ h => List.mem_cons_of_mem _ (List.mem_append_left _ (List.mem_append_left _ (List.mem_append_right _ (h))))))) (by decide +kernel)
set_option maxRecDepth 20000 in
theorem gX2_hopsFrom_X2_aimOf : GoodIn wsX2_hopsFrom (wsV RX2 155 RX2 yX2_aimOf wsX2_aimOf) := goodIn_app (goodIn_sub (fm_c (qX2_hopsFrom_r2 (mg 1 rfl)) (fm_c (qX2_hopsFrom_r2 (mg 2 rfl)) (fm_c (qX2_hopsFrom_r2 (mg 3 rfl)) (fm_c (qX2_hopsFrom_r1 (mg 17 rfl)) (fm_n))))) (by decide +kernel)) ggX2_hopsFrom_X2_aimOf
set_option maxRecDepth 20000 in
theorem ggX2_hopsFrom_X2_goesStraight : GoodIn wsX2_hopsFrom wsX2_goesStraight := goodIn_sub (fm_c (qX2_hopsFrom_r2 (mg 9 rfl)) (ms_a (fm_c (qX2_hopsFrom_r2 (mg 10 rfl)) (fm_c (qX2_hopsFrom_r2 (mg 11 rfl)) (fm_c (qX2_hopsFrom_r2 (mg 12 rfl)) (fm_c (qX2_hopsFrom_r2 (mg 13 rfl)) (fm_c (qX2_hopsFrom_r1 (mg 17 rfl)) (fm_c (qX2_hopsFrom_r2 (mg 14 rfl)) (fm_c (qX2_hopsFrom_r2 (mg 15 rfl)) (fm_c (qX2_hopsFrom_r2 (mg 16 rfl)) (fm_c (qX2_hopsFrom_r2 (mg 17 rfl)) (fm_c (qX2_hopsFrom_r2 (mg 18 rfl)) (fm_n))))))))))) (fun _ h => List.mem_cons_of_mem _ (List.mem_append_left _ (List.mem_append_left _ (List.mem_append_right _ (h))))))) (by decide +kernel)
set_option maxRecDepth 20000 in
theorem gX2_hopsFrom_X2_goesStraight : GoodIn wsX2_hopsFrom (wsV RX2 145 RX2 yX2_goesStraight wsX2_goesStraight) := goodIn_app (goodIn_sub (fm_c (qX2_hopsFrom_r2 (mg 6 rfl)) (fm_c (qX2_hopsFrom_r2 (mg 7 rfl)) (fm_c (qX2_hopsFrom_r2 (mg 8 rfl)) (fm_c (qX2_hopsFrom_r1 (mg 17 rfl)) (fm_n))))) (by decide +kernel)) ggX2_hopsFrom_X2_goesStraight
set_option maxRecDepth 20000 in
theorem ggX2_hopsFrom_X2_islandFor : GoodIn wsX2_hopsFrom wsX2_islandFor := goodIn_sub (fm_c (qX2_hopsFrom_r2 (mg 22 rfl)) (ms_a (ms_a (ms_a (fm_c (qX2_hopsFrom_r1 (mg 1 rfl)) (fm_c (qX2_hopsFrom_r2 (mg 10 rfl)) (fm_c (qX2_hopsFrom_r2 (mg 11 rfl)) (fm_c (qX2_hopsFrom_r2 (mg 12 rfl)) (fm_c (qX2_hopsFrom_r2 (mg 13 rfl)) (fm_c (qX2_hopsFrom_r1 (mg 17 rfl)) (fm_c (qX2_hopsFrom_r2 (mg 14 rfl)) (fm_c (qX2_hopsFrom_r2 (mg 15 rfl)) (fm_c (qX2_hopsFrom_r2 (mg 16 rfl)) (fm_c (qX2_hopsFrom_r2 (mg 17 rfl)) (fm_c (qX2_hopsFrom_r2 (mg 18 rfl)) (fm_c (qX2_hopsFrom_r2 (mg 23 rfl)) (fm_c (qX2_hopsFrom_r3 (mg 0 rfl)) (fm_c (qX2_hopsFrom_r3 (mg 1 rfl)) (fm_c (qX2_hopsFrom_r3 (mg 2 rfl)) (fm_c (qX2_hopsFrom_r3 (mg 3 rfl)) (fm_c (qX2_hopsFrom_r3 (mg 4 rfl)) (fm_c (qX2_hopsFrom_r3 (mg 5 rfl)) (fm_c (qX2_hopsFrom_r3 (mg 6 rfl)) (fm_c (qX2_hopsFrom_r3 (mg 7 rfl)) (fm_c (qX2_hopsFrom_r3 (mg 8 rfl)) (fm_c (qX2_hopsFrom_r3 (mg 9 rfl)) (fm_c (qX2_hopsFrom_r3 (mg 10 rfl)) (fm_c (qX2_hopsFrom_r3 (mg 11 rfl)) (fm_n))))))))))))))))))))))))) (fm_c (qX2_hopsFrom_r3 (mg 12 rfl)) (fm_c (qX2_hopsFrom_r3 (mg 13 rfl)) (fm_c (qX2_hopsFrom_r3 (mg 14 rfl)) (fm_c (qX2_hopsFrom_r3 (mg 15 rfl)) (fm_c (qX2_hopsFrom_r3 (mg 16 rfl)) (fm_c (qX2_hopsFrom_r3 (mg 17 rfl)) (fm_c (qX2_hopsFrom_r3 (mg 18 rfl)) (fm_c (qX2_hopsFrom_r3 (mg 19 rfl)) (fm_c (qX2_hopsFrom_r3 (mg 20 rfl)) (fm_c (qX2_hopsFrom_r3 (mg 21 rfl)) (fm_c (qX2_hopsFrom_r3 (mg 22 rfl)) (fm_c (qX2_hopsFrom_r3 (mg 23 rfl)) (fm_n)))))))))))))) (fun _ h => List.mem_cons_of_mem _ (List.mem_append_left _ (List.mem_append_left _ (List.mem_append_right _ (h)))))) (fun _ h => List.mem_cons_of_mem _ (List.mem_append_right _ (h))))) (by decide +kernel)
set_option maxRecDepth 20000 in
theorem gX2_hopsFrom_X2_islandFor : GoodIn wsX2_hopsFrom (wsV RX2 149 RX2 yX2_islandFor wsX2_islandFor) := goodIn_app (goodIn_sub (fm_c (qX2_hopsFrom_r2 (mg 19 rfl)) (fm_c (qX2_hopsFrom_r2 (mg 20 rfl)) (fm_c (qX2_hopsFrom_r2 (mg 21 rfl)) (fm_c (qX2_hopsFrom_r1 (mg 17 rfl)) (fm_n))))) (by decide +kernel)) ggX2_hopsFrom_X2_islandFor
set_option maxRecDepth 20000 in
theorem ggX2_hopsFrom_X4_addressOf : GoodIn wsX2_hopsFrom wsX4_addressOf := goodIn_sub (fm_c (qX2_hopsFrom_r3 (mg 8 rfl)) (ms_a (fm_c (qX2_hopsFrom_r3 (mg 9 rfl)) (fm_c (qX2_hopsFrom_r3 (mg 10 rfl)) (fm_c (qX2_hopsFrom_r3 (mg 11 rfl)) (fm_c (qX2_hopsFrom_r3 (mg 12 rfl)) (fm_c (qX2_hopsFrom_r3 (mg 13 rfl)) (fm_c (qX2_hopsFrom_r3 (mg 14 rfl)) (fm_c (qX2_hopsFrom_r3 (mg 2 rfl)) (fm_c (qX2_hopsFrom_r3 (mg 15 rfl)) (fm_c (qX2_hopsFrom_r3 (mg 4 rfl)) (fm_c (qX2_hopsFrom_r3 (mg 16 rfl)) (fm_c (qX2_hopsFrom_r3 (mg 17 rfl)) (fm_c (qX2_hopsFrom_r3 (mg 18 rfl)) (fm_c (qX2_hopsFrom_r3 (mg 19 rfl)) (fm_n)))))))))))))) (fun _ h => List.mem_cons_of_mem _ (List.mem_append_right _ (h))))) (by decide +kernel)
set_option maxRecDepth 20000 in
theorem gX2_hopsFrom_X4_addressOf : GoodIn wsX2_hopsFrom (wsV RX2 128 RX4 yX4_addressOf wsX4_addressOf) := goodIn_app (goodIn_sub (fm_c (qX2_hopsFrom_r3 (mg 5 rfl)) (fm_c (qX2_hopsFrom_r3 (mg 6 rfl)) (fm_c (qX2_hopsFrom_r3 (mg 7 rfl)) (fm_c (qX2_hopsFrom_r3 (mg 2 rfl)) (fm_n))))) (by decide +kernel)) ggX2_hopsFrom_X4_addressOf
theorem dX2_hopsFrom_0 : decode cX2_hopsFrom 0 = .ok (.aload_n 0, 1) := by decide +kernel
theorem dX2_hopsFrom_1 : decode cX2_hopsFrom 1 = .ok (.getfield 50, 3) := by decide +kernel
theorem dX2_hopsFrom_4 : decode cX2_hopsFrom 4 = .ok (.iload_n 1, 1) := by decide +kernel
theorem dX2_hopsFrom_5 : decode cX2_hopsFrom 5 = .ok (.invokevirtual 100, 3) := by decide +kernel
theorem dX2_hopsFrom_8 : decode cX2_hopsFrom 8 = .ok (.istore_n 2, 1) := by decide +kernel
theorem dX2_hopsFrom_9 : decode cX2_hopsFrom 9 = .ok (.aload_n 0, 1) := by decide +kernel
theorem dX2_hopsFrom_10 : decode cX2_hopsFrom 10 = .ok (.iload_n 1, 1) := by decide +kernel
theorem dX2_hopsFrom_11 : decode cX2_hopsFrom 11 = .ok (.invokevirtual 122, 3) := by decide +kernel
theorem dX2_hopsFrom_14 : decode cX2_hopsFrom 14 = .ok (.istore_n 3, 1) := by decide +kernel
theorem dX2_hopsFrom_15 : decode cX2_hopsFrom 15 = .ok (.aload_n 0, 1) := by decide +kernel
theorem dX2_hopsFrom_16 : decode cX2_hopsFrom 16 = .ok (.iload_n 1, 1) := by decide +kernel
theorem dX2_hopsFrom_17 : decode cX2_hopsFrom 17 = .ok (.invokevirtual 110, 3) := by decide +kernel
theorem dX2_hopsFrom_20 : decode cX2_hopsFrom 20 = .ok (.ifCond .ne 18, 3) := by decide +kernel
theorem dX2_hopsFrom_23 : decode cX2_hopsFrom 23 = .ok (.aload_n 0, 1) := by decide +kernel
theorem dX2_hopsFrom_24 : decode cX2_hopsFrom 24 = .ok (.iload_n 1, 1) := by decide +kernel
theorem dX2_hopsFrom_25 : decode cX2_hopsFrom 25 = .ok (.invokevirtual 155, 3) := by decide +kernel
theorem dX2_hopsFrom_28 : decode cX2_hopsFrom 28 = .ok (.iconst (-1), 1) := by decide +kernel
theorem dX2_hopsFrom_29 : decode cX2_hopsFrom 29 = .ok (.if_icmp .ne 7, 3) := by decide +kernel
theorem dX2_hopsFrom_32 : decode cX2_hopsFrom 32 = .ok (.iconst (-1), 1) := by decide +kernel
theorem dX2_hopsFrom_33 : decode cX2_hopsFrom 33 = .ok (.goto 4, 3) := by decide +kernel
theorem dX2_hopsFrom_36 : decode cX2_hopsFrom 36 = .ok (.iconst 0, 1) := by decide +kernel
theorem dX2_hopsFrom_37 : decode cX2_hopsFrom 37 = .ok (.ireturn, 1) := by decide +kernel
theorem dX2_hopsFrom_38 : decode cX2_hopsFrom 38 = .ok (.iconst 0, 1) := by decide +kernel
theorem dX2_hopsFrom_39 : decode cX2_hopsFrom 39 = .ok (.istore 4, 2) := by decide +kernel
theorem dX2_hopsFrom_41 : decode cX2_hopsFrom 41 = .ok (.iload 4, 2) := by decide +kernel
theorem dX2_hopsFrom_43 : decode cX2_hopsFrom 43 = .ok (.bipush 12, 2) := by decide +kernel
theorem dX2_hopsFrom_45 : decode cX2_hopsFrom 45 = .ok (.if_icmp .gt 47, 3) := by decide +kernel
theorem dX2_hopsFrom_48 : decode cX2_hopsFrom 48 = .ok (.aload_n 0, 1) := by decide +kernel
theorem dX2_hopsFrom_49 : decode cX2_hopsFrom 49 = .ok (.iload_n 3, 1) := by decide +kernel
theorem dX2_hopsFrom_50 : decode cX2_hopsFrom 50 = .ok (.iload_n 2, 1) := by decide +kernel
theorem dX2_hopsFrom_51 : decode cX2_hopsFrom 51 = .ok (.invokevirtual 145, 3) := by decide +kernel
theorem dX2_hopsFrom_54 : decode cX2_hopsFrom 54 = .ok (.ifCond .eq 6, 3) := by decide +kernel
theorem dX2_hopsFrom_57 : decode cX2_hopsFrom 57 = .ok (.iload 4, 2) := by decide +kernel
theorem dX2_hopsFrom_59 : decode cX2_hopsFrom 59 = .ok (.ireturn, 1) := by decide +kernel
theorem dX2_hopsFrom_60 : decode cX2_hopsFrom 60 = .ok (.aload_n 0, 1) := by decide +kernel
theorem dX2_hopsFrom_61 : decode cX2_hopsFrom 61 = .ok (.iload_n 3, 1) := by decide +kernel
theorem dX2_hopsFrom_62 : decode cX2_hopsFrom 62 = .ok (.iload_n 2, 1) := by decide +kernel
theorem dX2_hopsFrom_63 : decode cX2_hopsFrom 63 = .ok (.invokevirtual 149, 3) := by decide +kernel
theorem dX2_hopsFrom_66 : decode cX2_hopsFrom 66 = .ok (.istore 5, 2) := by decide +kernel
theorem dX2_hopsFrom_68 : decode cX2_hopsFrom 68 = .ok (.iload 5, 2) := by decide +kernel
theorem dX2_hopsFrom_70 : decode cX2_hopsFrom 70 = .ok (.iconst (-1), 1) := by decide +kernel
theorem dX2_hopsFrom_71 : decode cX2_hopsFrom 71 = .ok (.if_icmp .ne 5, 3) := by decide +kernel
theorem dX2_hopsFrom_74 : decode cX2_hopsFrom 74 = .ok (.iconst (-1), 1) := by decide +kernel
theorem dX2_hopsFrom_75 : decode cX2_hopsFrom 75 = .ok (.ireturn, 1) := by decide +kernel
theorem dX2_hopsFrom_76 : decode cX2_hopsFrom 76 = .ok (.aload_n 0, 1) := by decide +kernel
theorem dX2_hopsFrom_77 : decode cX2_hopsFrom 77 = .ok (.getfield 14, 3) := by decide +kernel
theorem dX2_hopsFrom_80 : decode cX2_hopsFrom 80 = .ok (.iload 5, 2) := by decide +kernel
theorem dX2_hopsFrom_82 : decode cX2_hopsFrom 82 = .ok (.invokevirtual 128, 3) := by decide +kernel
theorem dX2_hopsFrom_85 : decode cX2_hopsFrom 85 = .ok (.istore_n 3, 1) := by decide +kernel
theorem dX2_hopsFrom_86 : decode cX2_hopsFrom 86 = .ok (.iinc 4 1, 3) := by decide +kernel
theorem dX2_hopsFrom_89 : decode cX2_hopsFrom 89 = .ok (.goto (-48), 3) := by decide +kernel
theorem dX2_hopsFrom_92 : decode cX2_hopsFrom 92 = .ok (.iconst (-1), 1) := by decide +kernel
theorem dX2_hopsFrom_93 : decode cX2_hopsFrom 93 = .ok (.ireturn, 1) := by decide +kernel
theorem qX2_mendsOne_r1 {w : Cond} (h : w ∈ wsX2_mendsOne_r1) : w ∈ wsX2_mendsOne := List.mem_cons_of_mem _ (List.mem_append_left _ (List.mem_append_left _ (List.mem_append_left _ (List.mem_append_left _ (h)))))
theorem qX2_mendsOne_r2 {w : Cond} (h : w ∈ wsX2_mendsOne_r2) : w ∈ wsX2_mendsOne := List.mem_cons_of_mem _ (List.mem_append_left _ (List.mem_append_left _ (List.mem_append_left _ (List.mem_append_right _ (List.mem_append_left _ (h))))))
theorem qX2_mendsOne_r3 {w : Cond} (h : w ∈ wsX2_mendsOne_r3) : w ∈ wsX2_mendsOne := List.mem_cons_of_mem _ (List.mem_append_left _ (List.mem_append_left _ (List.mem_append_left _ (List.mem_append_right _ (List.mem_append_right _ (List.mem_append_left _ (h)))))))
theorem qX2_mendsOne_r4 {w : Cond} (h : w ∈ wsX2_mendsOne_r4) : w ∈ wsX2_mendsOne := List.mem_cons_of_mem _ (List.mem_append_left _ (List.mem_append_left _ (List.mem_append_left _ (List.mem_append_right _ (List.mem_append_right _ (List.mem_append_right _ (List.mem_append_left _ (h))))))))
theorem qX2_mendsOne_r5 {w : Cond} (h : w ∈ wsX2_mendsOne_r5) : w ∈ wsX2_mendsOne := List.mem_cons_of_mem _ (List.mem_append_left _ (List.mem_append_left _ (List.mem_append_left _ (List.mem_append_right _ (List.mem_append_right _ (List.mem_append_right _ (List.mem_append_right _ (List.mem_append_left _ (h)))))))))
theorem qX2_mendsOne_r6 {w : Cond} (h : w ∈ wsX2_mendsOne_r6) : w ∈ wsX2_mendsOne := List.mem_cons_of_mem _ (List.mem_append_left _ (List.mem_append_left _ (List.mem_append_left _ (List.mem_append_right _ (List.mem_append_right _ (List.mem_append_right _ (List.mem_append_right _ (List.mem_append_right _ (h)))))))))
set_option maxRecDepth 20000 in
theorem ggX2_mendsOne_X2_firstAstray : GoodIn wsX2_mendsOne wsX2_firstAstray := goodIn_sub (fm_c (qX2_mendsOne_r1 (mg 6 rfl)) (ms_a (ms_a (ms_a (fm_c (qX2_mendsOne_r1 (mg 0 rfl)) (fm_c (qX2_mendsOne_r1 (mg 7 rfl)) (fm_c (qX2_mendsOne_r1 (mg 8 rfl)) (fm_c (qX2_mendsOne_r1 (mg 9 rfl)) (fm_c (qX2_mendsOne_r1 (mg 10 rfl)) (fm_c (qX2_mendsOne_r1 (mg 11 rfl)) (fm_c (qX2_mendsOne_r1 (mg 12 rfl)) (fm_c (qX2_mendsOne_r1 (mg 13 rfl)) (fm_c (qX2_mendsOne_r1 (mg 14 rfl)) (fm_c (qX2_mendsOne_r1 (mg 15 rfl)) (fm_c (qX2_mendsOne_r1 (mg 16 rfl)) (fm_c (qX2_mendsOne_r1 (mg 17 rfl)) (fm_c (qX2_mendsOne_r1 (mg 18 rfl)) (fm_c (qX2_mendsOne_r1 (mg 19 rfl)) (fm_c (qX2_mendsOne_r1 (mg 20 rfl)) (fm_c (qX2_mendsOne_r1 (mg 21 rfl)) (fm_c (qX2_mendsOne_r1 (mg 22 rfl)) (fm_c (qX2_mendsOne_r1 (mg 23 rfl)) (fm_c (qX2_mendsOne_r2 (mg 0 rfl)) (fm_c (qX2_mendsOne_r2 (mg 1 rfl)) (fm_c (qX2_mendsOne_r1 (mg 5 rfl)) (fm_c (qX2_mendsOne_r2 (mg 2 rfl)) (fm_c (qX2_mendsOne_r2 (mg 3 rfl)) (fm_c (qX2_mendsOne_r2 (mg 4 rfl)) (fm_n))))))))))))))))))))))))) (fm_c (qX2_mendsOne_r2 (mg 5 rfl)) (fm_c (qX2_mendsOne_r2 (mg 6 rfl)) (fm_c (qX2_mendsOne_r2 (mg 7 rfl)) (fm_c (qX2_mendsOne_r2 (mg 8 rfl)) (fm_n)))))) (fun _ h => List.mem_cons_of_mem _ (List.mem_append_left _ (List.mem_append_left _ (List.mem_append_right _ (h)))))) (fun _ h => List.mem_cons_of_mem _ (List.mem_append_left _ (List.mem_append_right _ (h)))))) (by decide +kernel)
set_option maxRecDepth 20000 in
theorem gX2_mendsOne_X2_firstAstray : GoodIn wsX2_mendsOne (wsV RX2 158 RX2 yX2_firstAstray wsX2_firstAstray) := goodIn_app (goodIn_sub (fm_c (qX2_mendsOne_r1 (mg 2 rfl)) (fm_c (qX2_mendsOne_r1 (mg 3 rfl)) (fm_c (qX2_mendsOne_r1 (mg 4 rfl)) (fm_c (qX2_mendsOne_r1 (mg 5 rfl)) (fm_n))))) (by decide +kernel)) ggX2_mendsOne_X2_firstAstray
set_option maxRecDepth 20000 in
theorem ggX2_mendsOne_X2_lengthens : GoodIn wsX2_mendsOne wsX2_lengthens := goodIn_sub (fm_c (qX2_mendsOne_r2 (mg 12 rfl)) (ms_a (fm_c (qX2_mendsOne_r2 (mg 3 rfl)) (fm_c (qX2_mendsOne_r2 (mg 13 rfl)) (fm_n))) (fun _ h => List.mem_cons_of_mem _ (List.mem_append_left _ (List.mem_append_left _ (List.mem_append_right _ (h))))))) (by decide +kernel)
set_option maxRecDepth 20000 in
theorem gX2_mendsOne_X2_lengthens : GoodIn wsX2_mendsOne (wsV RX2 162 RX2 yX2_lengthens wsX2_lengthens) := goodIn_app (goodIn_sub (fm_c (qX2_mendsOne_r2 (mg 9 rfl)) (fm_c (qX2_mendsOne_r2 (mg 10 rfl)) (fm_c (qX2_mendsOne_r2 (mg 11 rfl)) (fm_c (qX2_mendsOne_r1 (mg 5 rfl)) (fm_n))))) (by decide +kernel)) ggX2_mendsOne_X2_lengthens
set_option maxRecDepth 20000 in
theorem ggX2_mendsOne_X2_bringsConstant : GoodIn wsX2_mendsOne wsX2_bringsConstant := goodIn_sub (fm_c (qX2_mendsOne_r2 (mg 17 rfl)) (ms_a (ms_a (ms_a (ms_a (fm_c (qX2_mendsOne_r1 (mg 0 rfl)) (fm_c (qX2_mendsOne_r2 (mg 18 rfl)) (fm_c (qX2_mendsOne_r2 (mg 19 rfl)) (fm_c (qX2_mendsOne_r2 (mg 20 rfl)) (fm_c (qX2_mendsOne_r2 (mg 21 rfl)) (fm_c (qX2_mendsOne_r1 (mg 5 rfl)) (fm_c (qX2_mendsOne_r2 (mg 22 rfl)) (fm_c (qX2_mendsOne_r2 (mg 23 rfl)) (fm_c (qX2_mendsOne_r1 (mg 7 rfl)) (fm_c (qX2_mendsOne_r1 (mg 8 rfl)) (fm_c (qX2_mendsOne_r1 (mg 9 rfl)) (fm_c (qX2_mendsOne_r1 (mg 10 rfl)) (fm_c (qX2_mendsOne_r1 (mg 11 rfl)) (fm_c (qX2_mendsOne_r1 (mg 12 rfl)) (fm_c (qX2_mendsOne_r1 (mg 13 rfl)) (fm_c (qX2_mendsOne_r1 (mg 14 rfl)) (fm_c (qX2_mendsOne_r1 (mg 15 rfl)) (fm_c (qX2_mendsOne_r1 (mg 16 rfl)) (fm_c (qX2_mendsOne_r1 (mg 17 rfl)) (fm_c (qX2_mendsOne_r1 (mg 18 rfl)) (fm_c (qX2_mendsOne_r1 (mg 19 rfl)) (fm_c (qX2_mendsOne_r1 (mg 20 rfl)) (fm_c (qX2_mendsOne_r1 (mg 21 rfl)) (fm_c (qX2_mendsOne_r1 (mg 22 rfl)) (fm_n))))))))))))))))))))))))) (ms_a (fm_c (qX2_mendsOne_r3 (mg 0 rfl)) (fm_c (qX2_mendsOne_r3 (mg 1 rfl)) (fm_c (qX2_mendsOne_r3 (mg 2 rfl)) (fm_c (qX2_mendsOne_r3 (mg 3 rfl)) (fm_c (qX2_mendsOne_r3 (mg 4 rfl)) (fm_c (qX2_mendsOne_r3 (mg 5 rfl)) (fm_c (qX2_mendsOne_r3 (mg 6 rfl)) (fm_c (qX2_mendsOne_r3 (mg 7 rfl)) (fm_c (qX2_mendsOne_r3 (mg 8 rfl)) (fm_c (qX2_mendsOne_r3 (mg 9 rfl)) (fm_c (qX2_mendsOne_r3 (mg 10 rfl)) (fm_c (qX2_mendsOne_r3 (mg 11 rfl)) (fm_c (qX2_mendsOne_r3 (mg 12 rfl)) (fm_c (qX2_mendsOne_r3 (mg 13 rfl)) (fm_c (qX2_mendsOne_r3 (mg 14 rfl)) (fm_c (qX2_mendsOne_r3 (mg 15 rfl)) (fm_c (qX2_mendsOne_r3 (mg 16 rfl)) (fm_c (qX2_mendsOne_r3 (mg 17 rfl)) (fm_c (qX2_mendsOne_r3 (mg 18 rfl)) (fm_c (qX2_mendsOne_r3 (mg 19 rfl)) (fm_c (qX2_mendsOne_r3 (mg 20 rfl)) (fm_c (qX2_mendsOne_r3 (mg 21 rfl)) (fm_c (qX2_mendsOne_r3 (mg 22 rfl)) (fm_c (qX2_mendsOne_r3 (mg 23 rfl)) (fm_n))))))))))))))))))))))))) (fm_c (qX2_mendsOne_r4 (mg 0 rfl)) (fm_c (qX2_mendsOne_r4 (mg 1 rfl)) (fm_c (qX2_mendsOne_r4 (mg 2 rfl)) (fm_c (qX2_mendsOne_r4 (mg 3 rfl)) (fm_c (qX2_mendsOne_r4 (mg 4 rfl)) (fm_c (qX2_mendsOne_r4 (mg 5 rfl)) (fm_c (qX2_mendsOne_r4 (mg 6 rfl)) (fm_c (qX2_mendsOne_r4 (mg 7 rfl)) (fm_c (qX2_mendsOne_r4 (mg 8 rfl)) (fm_c (qX2_mendsOne_r4 (mg 9 rfl)) (fm_n))))))))))))) (fun _ h => List.mem_cons_of_mem _ (List.mem_append_left _ (List.mem_append_left _ (List.mem_append_right _ (h)))))) (fun _ h => List.mem_cons_of_mem _ (List.mem_append_left _ (List.mem_append_right _ (h))))) (fun _ h => List.mem_cons_of_mem _ (List.mem_append_right _ (h))))) (by decide +kernel)
set_option maxRecDepth 20000 in
theorem gX2_mendsOne_X2_bringsConstant : GoodIn wsX2_mendsOne (wsV RX2 165 RX2 yX2_bringsConstant wsX2_bringsConstant) := goodIn_app (goodIn_sub (fm_c (qX2_mendsOne_r2 (mg 14 rfl)) (fm_c (qX2_mendsOne_r2 (mg 15 rfl)) (fm_c (qX2_mendsOne_r2 (mg 16 rfl)) (fm_c (qX2_mendsOne_r1 (mg 5 rfl)) (fm_n))))) (by decide +kernel)) ggX2_mendsOne_X2_bringsConstant
set_option maxRecDepth 20000 in
theorem ggX2_mendsOne_X2_fails : GoodIn wsX2_mendsOne wsX2_fails := goodIn_sub (fm_c (qX2_mendsOne_r4 (mg 13 rfl)) (ms_a (fm_c (qX2_mendsOne_r4 (mg 14 rfl)) (fm_c (qX2_mendsOne_r4 (mg 15 rfl)) (fm_n))) (fun _ h => List.mem_cons_of_mem _ (List.mem_append_left _ (List.mem_append_left _ (List.mem_append_right _ (h))))))) (by decide +kernel)
set_option maxRecDepth 20000 in
theorem gX2_mendsOne_X2_fails : GoodIn wsX2_mendsOne (wsV RX2 168 RX2 yX2_fails wsX2_fails) := goodIn_app (goodIn_sub (fm_c (qX2_mendsOne_r4 (mg 10 rfl)) (fm_c (qX2_mendsOne_r4 (mg 11 rfl)) (fm_c (qX2_mendsOne_r4 (mg 12 rfl)) (fm_c (qX2_mendsOne_r1 (mg 5 rfl)) (fm_n))))) (by decide +kernel)) ggX2_mendsOne_X2_fails
set_option maxRecDepth 20000 in
theorem ggX2_mendsOne_X2_addressOf : GoodIn wsX2_mendsOne wsX2_addressOf := goodIn_sub (fm_c (qX2_mendsOne_r2 (mg 22 rfl)) (ms_a (fm_c (qX2_mendsOne_r2 (mg 23 rfl)) (fm_n)) (fun _ h => List.mem_cons_of_mem _ (List.mem_append_left _ (List.mem_append_left _ (List.mem_append_right _ (h))))))) (by decide +kernel)
set_option maxRecDepth 20000 in
theorem gX2_mendsOne_X2_addressOf : GoodIn wsX2_mendsOne (wsV RX2 122 RX2 yX2_addressOf wsX2_addressOf) := goodIn_app (goodIn_sub (fm_c (qX2_mendsOne_r2 (mg 19 rfl)) (fm_c (qX2_mendsOne_r2 (mg 20 rfl)) (fm_c (qX2_mendsOne_r2 (mg 21 rfl)) (fm_c (qX2_mendsOne_r1 (mg 5 rfl)) (fm_n))))) (by decide +kernel)) ggX2_mendsOne_X2_addressOf
set_option maxRecDepth 20000 in
theorem ggX2_mendsOne_X0_toldOf : GoodIn wsX2_mendsOne wsX0_toldOf := goodIn_sub (fm_c (qX2_mendsOne_r4 (mg 1 rfl)) (ms_a (fm_c (qX2_mendsOne_r1 (mg 22 rfl)) (fm_c (qX2_mendsOne_r1 (mg 18 rfl)) (fm_c (qX2_mendsOne_r1 (mg 19 rfl)) (fm_c (qX2_mendsOne_r1 (mg 20 rfl)) (fm_c (qX2_mendsOne_r1 (mg 10 rfl)) (fm_c (qX2_mendsOne_r1 (mg 21 rfl)) (fm_c (qX2_mendsOne_r1 (mg 12 rfl)) (fm_c (qX2_mendsOne_r1 (mg 17 rfl)) (fm_n))))))))) (fun _ h => List.mem_cons_of_mem _ (List.mem_append_left _ (List.mem_append_right _ (h)))))) (by decide +kernel)
set_option maxRecDepth 20000 in
theorem gX2_mendsOne_X0_toldOf : GoodIn wsX2_mendsOne (wsV RX2 100 RX0 yX0_toldOf wsX0_toldOf) := goodIn_app (goodIn_sub (fm_c (qX2_mendsOne_r3 (mg 22 rfl)) (fm_c (qX2_mendsOne_r3 (mg 23 rfl)) (fm_c (qX2_mendsOne_r4 (mg 0 rfl)) (fm_c (qX2_mendsOne_r1 (mg 10 rfl)) (fm_n))))) (by decide +kernel)) ggX2_mendsOne_X0_toldOf
set_option maxRecDepth 20000 in
theorem ggX2_mendsOne_X2_bringsIsland : GoodIn wsX2_mendsOne wsX2_bringsIsland := goodIn_sub (fm_c (qX2_mendsOne_r4 (mg 19 rfl)) (ms_a (ms_a (ms_a (ms_a (fm_c (qX2_mendsOne_r1 (mg 0 rfl)) (fm_c (qX2_mendsOne_r1 (mg 1 rfl)) (fm_c (qX2_mendsOne_r3 (mg 21 rfl)) (fm_c (qX2_mendsOne_r4 (mg 20 rfl)) (fm_c (qX2_mendsOne_r4 (mg 21 rfl)) (fm_c (qX2_mendsOne_r4 (mg 22 rfl)) (fm_c (qX2_mendsOne_r1 (mg 5 rfl)) (fm_c (qX2_mendsOne_r4 (mg 23 rfl)) (fm_c (qX2_mendsOne_r5 (mg 0 rfl)) (fm_c (qX2_mendsOne_r5 (mg 1 rfl)) (fm_c (qX2_mendsOne_r3 (mg 15 rfl)) (fm_c (qX2_mendsOne_r5 (mg 2 rfl)) (fm_c (qX2_mendsOne_r1 (mg 7 rfl)) (fm_c (qX2_mendsOne_r1 (mg 8 rfl)) (fm_c (qX2_mendsOne_r1 (mg 9 rfl)) (fm_c (qX2_mendsOne_r1 (mg 10 rfl)) (fm_c (qX2_mendsOne_r1 (mg 11 rfl)) (fm_c (qX2_mendsOne_r1 (mg 12 rfl)) (fm_c (qX2_mendsOne_r3 (mg 4 rfl)) (fm_c (qX2_mendsOne_r3 (mg 5 rfl)) (fm_c (qX2_mendsOne_r3 (mg 6 rfl)) (fm_c (qX2_mendsOne_r3 (mg 7 rfl)) (fm_c (qX2_mendsOne_r3 (mg 8 rfl)) (fm_c (qX2_mendsOne_r3 (mg 9 rfl)) (fm_n))))))))))))))))))))))))) (fm_c (qX2_mendsOne_r3 (mg 10 rfl)) (fm_c (qX2_mendsOne_r3 (mg 11 rfl)) (fm_c (qX2_mendsOne_r3 (mg 12 rfl)) (fm_c (qX2_mendsOne_r3 (mg 13 rfl)) (fm_c (qX2_mendsOne_r1 (mg 13 rfl)) (fm_c (qX2_mendsOne_r1 (mg 14 rfl)) (fm_c (qX2_mendsOne_r1 (mg 15 rfl)) (fm_c (qX2_mendsOne_r1 (mg 16 rfl)) (fm_c (qX2_mendsOne_r1 (mg 17 rfl)) (fm_c (qX2_mendsOne_r1 (mg 18 rfl)) (fm_c (qX2_mendsOne_r1 (mg 19 rfl)) (fm_c (qX2_mendsOne_r1 (mg 20 rfl)) (fm_c (qX2_mendsOne_r1 (mg 21 rfl)) (fm_c (qX2_mendsOne_r1 (mg 22 rfl)) (fm_c (qX2_mendsOne_r4 (mg 2 rfl)) (fm_c (qX2_mendsOne_r4 (mg 3 rfl)) (fm_c (qX2_mendsOne_r4 (mg 4 rfl)) (fm_c (qX2_mendsOne_r4 (mg 5 rfl)) (fm_c (qX2_mendsOne_r4 (mg 6 rfl)) (fm_c (qX2_mendsOne_r4 (mg 7 rfl)) (fm_c (qX2_mendsOne_r4 (mg 8 rfl)) (fm_c (qX2_mendsOne_r4 (mg 9 rfl)) (fm_n)))))))))))))))))))))))) (fun _ h => List.mem_cons_of_mem _ (List.mem_append_left _ (List.mem_append_left _ (List.mem_append_right _ (h)))))) (fun _ h => List.mem_cons_of_mem _ (List.mem_append_left _ (List.mem_append_right _ (h))))) (fun _ h => List.mem_cons_of_mem _ (List.mem_append_right _ (h))))) (by decide +kernel)
set_option maxRecDepth 20000 in
theorem gX2_mendsOne_X2_bringsIsland : GoodIn wsX2_mendsOne (wsV RX2 171 RX2 yX2_bringsIsland wsX2_bringsIsland) := goodIn_app (goodIn_sub (fm_c (qX2_mendsOne_r4 (mg 16 rfl)) (fm_c (qX2_mendsOne_r4 (mg 17 rfl)) (fm_c (qX2_mendsOne_r4 (mg 18 rfl)) (fm_c (qX2_mendsOne_r1 (mg 5 rfl)) (fm_n))))) (by decide +kernel)) ggX2_mendsOne_X2_bringsIsland
set_option maxRecDepth 20000 in
theorem ggX2_mendsOne_X2_firstIslandAstray : GoodIn wsX2_mendsOne wsX2_firstIslandAstray := goodIn_sub (fm_c (qX2_mendsOne_r5 (mg 6 rfl)) (ms_a (ms_a (fm_c (qX2_mendsOne_r1 (mg 1 rfl)) (fm_c (qX2_mendsOne_r5 (mg 7 rfl)) (fm_c (qX2_mendsOne_r5 (mg 8 rfl)) (fm_c (qX2_mendsOne_r5 (mg 9 rfl)) (fm_c (qX2_mendsOne_r3 (mg 7 rfl)) (fm_c (qX2_mendsOne_r5 (mg 10 rfl)) (fm_c (qX2_mendsOne_r4 (mg 6 rfl)) (fm_c (qX2_mendsOne_r5 (mg 11 rfl)) (fm_c (qX2_mendsOne_r5 (mg 12 rfl)) (fm_c (qX2_mendsOne_r5 (mg 13 rfl)) (fm_c (qX2_mendsOne_r1 (mg 5 rfl)) (fm_c (qX2_mendsOne_r5 (mg 14 rfl)) (fm_c (qX2_mendsOne_r5 (mg 15 rfl)) (fm_n)))))))))))))) (fun _ h => List.mem_cons_of_mem _ (List.mem_append_left _ (List.mem_append_left _ (List.mem_append_right _ (h)))))) (fun _ h => List.mem_cons_of_mem _ (List.mem_append_right _ (h))))) (by decide +kernel)
set_option maxRecDepth 20000 in
theorem gX2_mendsOne_X2_firstIslandAstray : GoodIn wsX2_mendsOne (wsV RX2 174 RX2 yX2_firstIslandAstray wsX2_firstIslandAstray) := goodIn_app (goodIn_sub (fm_c (qX2_mendsOne_r5 (mg 3 rfl)) (fm_c (qX2_mendsOne_r5 (mg 4 rfl)) (fm_c (qX2_mendsOne_r5 (mg 5 rfl)) (fm_c (qX2_mendsOne_r1 (mg 5 rfl)) (fm_n))))) (by decide +kernel)) ggX2_mendsOne_X2_firstIslandAstray
set_option maxRecDepth 20000 in
theorem ggX2_mendsOne_X4_addressOf : GoodIn wsX2_mendsOne wsX4_addressOf := goodIn_sub (fm_c (qX2_mendsOne_r5 (mg 19 rfl)) (ms_a (fm_c (qX2_mendsOne_r4 (mg 8 rfl)) (fm_c (qX2_mendsOne_r3 (mg 9 rfl)) (fm_c (qX2_mendsOne_r4 (mg 9 rfl)) (fm_c (qX2_mendsOne_r5 (mg 20 rfl)) (fm_c (qX2_mendsOne_r5 (mg 21 rfl)) (fm_c (qX2_mendsOne_r5 (mg 22 rfl)) (fm_c (qX2_mendsOne_r3 (mg 7 rfl)) (fm_c (qX2_mendsOne_r5 (mg 23 rfl)) (fm_c (qX2_mendsOne_r4 (mg 6 rfl)) (fm_c (qX2_mendsOne_r4 (mg 7 rfl)) (fm_c (qX2_mendsOne_r3 (mg 11 rfl)) (fm_c (qX2_mendsOne_r3 (mg 12 rfl)) (fm_c (qX2_mendsOne_r3 (mg 13 rfl)) (fm_n)))))))))))))) (fun _ h => List.mem_cons_of_mem _ (List.mem_append_right _ (h))))) (by decide +kernel)
set_option maxRecDepth 20000 in
theorem gX2_mendsOne_X4_addressOf : GoodIn wsX2_mendsOne (wsV RX2 128 RX4 yX4_addressOf wsX4_addressOf) := goodIn_app (goodIn_sub (fm_c (qX2_mendsOne_r5 (mg 16 rfl)) (fm_c (qX2_mendsOne_r5 (mg 17 rfl)) (fm_c (qX2_mendsOne_r5 (mg 18 rfl)) (fm_c (qX2_mendsOne_r3 (mg 7 rfl)) (fm_n))))) (by decide +kernel)) ggX2_mendsOne_X4_addressOf
set_option maxRecDepth 20000 in
theorem ggX2_mendsOne_X4_nameOf : GoodIn wsX2_mendsOne wsX4_nameOf := goodIn_sub (fm_c (qX2_mendsOne_r6 (mg 3 rfl)) (ms_a (fm_c (qX2_mendsOne_r4 (mg 7 rfl)) (fm_c (qX2_mendsOne_r5 (mg 20 rfl)) (fm_c (qX2_mendsOne_r5 (mg 21 rfl)) (fm_c (qX2_mendsOne_r5 (mg 22 rfl)) (fm_c (qX2_mendsOne_r3 (mg 7 rfl)) (fm_c (qX2_mendsOne_r5 (mg 23 rfl)) (fm_c (qX2_mendsOne_r4 (mg 6 rfl)) (fm_n)))))))) (fun _ h => List.mem_cons_of_mem _ (List.mem_append_right _ (h))))) (by decide +kernel)
set_option maxRecDepth 20000 in
theorem gX2_mendsOne_X4_nameOf : GoodIn wsX2_mendsOne (wsV RX2 136 RX4 yX4_nameOf wsX4_nameOf) := goodIn_app (goodIn_sub (fm_c (qX2_mendsOne_r6 (mg 0 rfl)) (fm_c (qX2_mendsOne_r6 (mg 1 rfl)) (fm_c (qX2_mendsOne_r6 (mg 2 rfl)) (fm_c (qX2_mendsOne_r3 (mg 7 rfl)) (fm_n))))) (by decide +kernel)) ggX2_mendsOne_X4_nameOf
theorem dX2_mendsOne_0 : decode cX2_mendsOne 0 = .ok (.aload_n 0, 1) := by decide +kernel
theorem dX2_mendsOne_1 : decode cX2_mendsOne 1 = .ok (.iconst 2, 1) := by decide +kernel
theorem dX2_mendsOne_2 : decode cX2_mendsOne 2 = .ok (.iconst 0, 1) := by decide +kernel
theorem dX2_mendsOne_3 : decode cX2_mendsOne 3 = .ok (.invokevirtual 158, 3) := by decide +kernel
theorem dX2_mendsOne_6 : decode cX2_mendsOne 6 = .ok (.istore_n 1, 1) := by decide +kernel
theorem dX2_mendsOne_7 : decode cX2_mendsOne 7 = .ok (.iload_n 1, 1) := by decide +kernel
theorem dX2_mendsOne_8 : decode cX2_mendsOne 8 = .ok (.iconst (-1), 1) := by decide +kernel
theorem dX2_mendsOne_9 : decode cX2_mendsOne 9 = .ok (.if_icmp .eq 9, 3) := by decide +kernel
theorem dX2_mendsOne_12 : decode cX2_mendsOne 12 = .ok (.aload_n 0, 1) := by decide +kernel
theorem dX2_mendsOne_13 : decode cX2_mendsOne 13 = .ok (.iload_n 1, 1) := by decide +kernel
theorem dX2_mendsOne_14 : decode cX2_mendsOne 14 = .ok (.invokevirtual 162, 3) := by decide +kernel
theorem dX2_mendsOne_17 : decode cX2_mendsOne 17 = .ok (.ireturn, 1) := by decide +kernel
theorem dX2_mendsOne_18 : decode cX2_mendsOne 18 = .ok (.aload_n 0, 1) := by decide +kernel
theorem dX2_mendsOne_19 : decode cX2_mendsOne 19 = .ok (.iconst 1, 1) := by decide +kernel
theorem dX2_mendsOne_20 : decode cX2_mendsOne 20 = .ok (.iconst 0, 1) := by decide +kernel
theorem dX2_mendsOne_21 : decode cX2_mendsOne 21 = .ok (.invokevirtual 158, 3) := by decide +kernel
theorem dX2_mendsOne_24 : decode cX2_mendsOne 24 = .ok (.istore_n 1, 1) := by decide +kernel
theorem dX2_mendsOne_25 : decode cX2_mendsOne 25 = .ok (.iload_n 1, 1) := by decide +kernel
theorem dX2_mendsOne_26 : decode cX2_mendsOne 26 = .ok (.iconst (-1), 1) := by decide +kernel
theorem dX2_mendsOne_27 : decode cX2_mendsOne 27 = .ok (.if_icmp .eq 26, 3) := by decide +kernel
theorem dX2_mendsOne_30 : decode cX2_mendsOne 30 = .ok (.aload_n 0, 1) := by decide +kernel
theorem dX2_mendsOne_31 : decode cX2_mendsOne 31 = .ok (.iload_n 1, 1) := by decide +kernel
theorem dX2_mendsOne_32 : decode cX2_mendsOne 32 = .ok (.invokevirtual 165, 3) := by decide +kernel
theorem dX2_mendsOne_35 : decode cX2_mendsOne 35 = .ok (.ifCond .ne 12, 3) := by decide +kernel
theorem dX2_mendsOne_38 : decode cX2_mendsOne 38 = .ok (.aload_n 0, 1) := by decide +kernel
theorem dX2_mendsOne_39 : decode cX2_mendsOne 39 = .ok (.iconst 1, 1) := by decide +kernel
theorem dX2_mendsOne_40 : decode cX2_mendsOne 40 = .ok (.iload_n 1, 1) := by decide +kernel
theorem dX2_mendsOne_41 : decode cX2_mendsOne 41 = .ok (.invokevirtual 168, 3) := by decide +kernel
theorem dX2_mendsOne_44 : decode cX2_mendsOne 44 = .ok (.ifCond .eq 7, 3) := by decide +kernel
theorem dX2_mendsOne_47 : decode cX2_mendsOne 47 = .ok (.iconst 1, 1) := by decide +kernel
theorem dX2_mendsOne_48 : decode cX2_mendsOne 48 = .ok (.goto 4, 3) := by decide +kernel
theorem dX2_mendsOne_51 : decode cX2_mendsOne 51 = .ok (.iconst 0, 1) := by decide +kernel
theorem dX2_mendsOne_52 : decode cX2_mendsOne 52 = .ok (.ireturn, 1) := by decide +kernel
theorem dX2_mendsOne_53 : decode cX2_mendsOne 53 = .ok (.aload_n 0, 1) := by decide +kernel
theorem dX2_mendsOne_54 : decode cX2_mendsOne 54 = .ok (.iconst 2, 1) := by decide +kernel
theorem dX2_mendsOne_55 : decode cX2_mendsOne 55 = .ok (.iconst 1, 1) := by decide +kernel
theorem dX2_mendsOne_56 : decode cX2_mendsOne 56 = .ok (.invokevirtual 158, 3) := by decide +kernel
theorem dX2_mendsOne_59 : decode cX2_mendsOne 59 = .ok (.istore_n 1, 1) := by decide +kernel
theorem dX2_mendsOne_60 : decode cX2_mendsOne 60 = .ok (.iload_n 1, 1) := by decide +kernel
theorem dX2_mendsOne_61 : decode cX2_mendsOne 61 = .ok (.iconst (-1), 1) := by decide +kernel
theorem dX2_mendsOne_62 : decode cX2_mendsOne 62 = .ok (.if_icmp .eq 38, 3) := by decide +kernel
theorem dX2_mendsOne_65 : decode cX2_mendsOne 65 = .ok (.aload_n 0, 1) := by decide +kernel
theorem dX2_mendsOne_66 : decode cX2_mendsOne 66 = .ok (.aload_n 0, 1) := by decide +kernel
theorem dX2_mendsOne_67 : decode cX2_mendsOne 67 = .ok (.iload_n 1, 1) := by decide +kernel
theorem dX2_mendsOne_68 : decode cX2_mendsOne 68 = .ok (.invokevirtual 122, 3) := by decide +kernel
theorem dX2_mendsOne_71 : decode cX2_mendsOne 71 = .ok (.aload_n 0, 1) := by decide +kernel
