theorem dX2_mendsOne_72 : decode cX2_mendsOne 72 = .ok (.getfield 50, 3) := by decide +kernel
theorem dX2_mendsOne_75 : decode cX2_mendsOne 75 = .ok (.iload_n 1, 1) := by decide +kernel
theorem dX2_mendsOne_76 : decode cX2_mendsOne 76 = .ok (.invokevirtual 100, 3) := by decide +kernel
theorem dX2_mendsOne_79 : decode cX2_mendsOne 79 = .ok (.invokevirtual 171, 3) := by decide +kernel
theorem dX2_mendsOne_82 : decode cX2_mendsOne 82 = .ok (.ifCond .ne 12, 3) := by decide +kernel
theorem dX2_mendsOne_85 : decode cX2_mendsOne 85 = .ok (.aload_n 0, 1) := by decide +kernel
theorem dX2_mendsOne_86 : decode cX2_mendsOne 86 = .ok (.iconst 2, 1) := by decide +kernel
theorem dX2_mendsOne_87 : decode cX2_mendsOne 87 = .ok (.iload_n 1, 1) := by decide +kernel
theorem dX2_mendsOne_88 : decode cX2_mendsOne 88 = .ok (.invokevirtual 168, 3) := by decide +kernel
theorem dX2_mendsOne_91 : decode cX2_mendsOne 91 = .ok (.ifCond .eq 7, 3) := by decide +kernel
theorem dX2_mendsOne_94 : decode cX2_mendsOne 94 = .ok (.iconst 1, 1) := by decide +kernel
theorem dX2_mendsOne_95 : decode cX2_mendsOne 95 = .ok (.goto 4, 3) := by decide +kernel
theorem dX2_mendsOne_98 : decode cX2_mendsOne 98 = .ok (.iconst 0, 1) := by decide +kernel
theorem dX2_mendsOne_99 : decode cX2_mendsOne 99 = .ok (.ireturn, 1) := by decide +kernel
theorem dX2_mendsOne_100 : decode cX2_mendsOne 100 = .ok (.aload_n 0, 1) := by decide +kernel
theorem dX2_mendsOne_101 : decode cX2_mendsOne 101 = .ok (.invokevirtual 174, 3) := by decide +kernel
theorem dX2_mendsOne_104 : decode cX2_mendsOne 104 = .ok (.istore_n 1, 1) := by decide +kernel
theorem dX2_mendsOne_105 : decode cX2_mendsOne 105 = .ok (.iload_n 1, 1) := by decide +kernel
theorem dX2_mendsOne_106 : decode cX2_mendsOne 106 = .ok (.iconst (-1), 1) := by decide +kernel
theorem dX2_mendsOne_107 : decode cX2_mendsOne 107 = .ok (.if_icmp .eq 41, 3) := by decide +kernel
theorem dX2_mendsOne_110 : decode cX2_mendsOne 110 = .ok (.aload_n 0, 1) := by decide +kernel
theorem dX2_mendsOne_111 : decode cX2_mendsOne 111 = .ok (.aload_n 0, 1) := by decide +kernel
theorem dX2_mendsOne_112 : decode cX2_mendsOne 112 = .ok (.getfield 14, 3) := by decide +kernel
theorem dX2_mendsOne_115 : decode cX2_mendsOne 115 = .ok (.iload_n 1, 1) := by decide +kernel
theorem dX2_mendsOne_116 : decode cX2_mendsOne 116 = .ok (.invokevirtual 128, 3) := by decide +kernel
theorem dX2_mendsOne_119 : decode cX2_mendsOne 119 = .ok (.aload_n 0, 1) := by decide +kernel
theorem dX2_mendsOne_120 : decode cX2_mendsOne 120 = .ok (.getfield 14, 3) := by decide +kernel
theorem dX2_mendsOne_123 : decode cX2_mendsOne 123 = .ok (.iload_n 1, 1) := by decide +kernel
theorem dX2_mendsOne_124 : decode cX2_mendsOne 124 = .ok (.invokevirtual 136, 3) := by decide +kernel
theorem dX2_mendsOne_127 : decode cX2_mendsOne 127 = .ok (.invokevirtual 171, 3) := by decide +kernel
theorem dX2_mendsOne_130 : decode cX2_mendsOne 130 = .ok (.ifCond .ne 12, 3) := by decide +kernel
theorem dX2_mendsOne_133 : decode cX2_mendsOne 133 = .ok (.aload_n 0, 1) := by decide +kernel
theorem dX2_mendsOne_134 : decode cX2_mendsOne 134 = .ok (.iconst 3, 1) := by decide +kernel
theorem dX2_mendsOne_135 : decode cX2_mendsOne 135 = .ok (.iload_n 1, 1) := by decide +kernel
theorem dX2_mendsOne_136 : decode cX2_mendsOne 136 = .ok (.invokevirtual 168, 3) := by decide +kernel
theorem dX2_mendsOne_139 : decode cX2_mendsOne 139 = .ok (.ifCond .eq 7, 3) := by decide +kernel
theorem dX2_mendsOne_142 : decode cX2_mendsOne 142 = .ok (.iconst 1, 1) := by decide +kernel
theorem dX2_mendsOne_143 : decode cX2_mendsOne 143 = .ok (.goto 4, 3) := by decide +kernel
theorem dX2_mendsOne_146 : decode cX2_mendsOne 146 = .ok (.iconst 0, 1) := by decide +kernel
theorem dX2_mendsOne_147 : decode cX2_mendsOne 147 = .ok (.ireturn, 1) := by decide +kernel
theorem dX2_mendsOne_148 : decode cX2_mendsOne 148 = .ok (.iconst 0, 1) := by decide +kernel
theorem dX2_mendsOne_149 : decode cX2_mendsOne 149 = .ok (.ireturn, 1) := by decide +kernel
theorem qX2_firstAstray_r1 {w : Cond} (h : w ∈ wsX2_firstAstray_r1) : w ∈ wsX2_firstAstray := List.mem_cons_of_mem _ (List.mem_append_left _ (List.mem_append_left _ (List.mem_append_left _ (h))))
theorem qX2_firstAstray_r2 {w : Cond} (h : w ∈ wsX2_firstAstray_r2) : w ∈ wsX2_firstAstray := List.mem_cons_of_mem _ (List.mem_append_left _ (List.mem_append_left _ (List.mem_append_right _ (h))))
set_option maxRecDepth 20000 in
theorem ggX2_firstAstray_X0_size : GoodIn wsX2_firstAstray wsX0_size := goodIn_sub (fm_c (qX2_firstAstray_r1 (mg 5 rfl)) (ms_a (fm_c (qX2_firstAstray_r1 (mg 6 rfl)) (fm_n)) (fun _ h => List.mem_cons_of_mem _ (List.mem_append_right _ (h))))) (by decide +kernel)
set_option maxRecDepth 20000 in
theorem gX2_firstAstray_X0_size : GoodIn wsX2_firstAstray (wsV RX2 60 RX0 yX0_size wsX0_size) := goodIn_app (goodIn_sub (fm_c (qX2_firstAstray_r1 (mg 1 rfl)) (fm_c (qX2_firstAstray_r1 (mg 2 rfl)) (fm_c (qX2_firstAstray_r1 (mg 3 rfl)) (fm_c (qX2_firstAstray_r1 (mg 4 rfl)) (fm_n))))) (by decide +kernel)) ggX2_firstAstray_X0_size
set_option maxRecDepth 20000 in
theorem ggX2_firstAstray_X0_kindOf : GoodIn wsX2_firstAstray wsX0_kindOf := goodIn_sub (fm_c (qX2_firstAstray_r1 (mg 10 rfl)) (ms_a (fm_c (qX2_firstAstray_r1 (mg 11 rfl)) (fm_c (qX2_firstAstray_r1 (mg 12 rfl)) (fm_c (qX2_firstAstray_r1 (mg 13 rfl)) (fm_c (qX2_firstAstray_r1 (mg 14 rfl)) (fm_c (qX2_firstAstray_r1 (mg 4 rfl)) (fm_c (qX2_firstAstray_r1 (mg 15 rfl)) (fm_c (qX2_firstAstray_r1 (mg 6 rfl)) (fm_c (qX2_firstAstray_r1 (mg 16 rfl)) (fm_n))))))))) (fun _ h => List.mem_cons_of_mem _ (List.mem_append_right _ (h))))) (by decide +kernel)
set_option maxRecDepth 20000 in
theorem gX2_firstAstray_X0_kindOf : GoodIn wsX2_firstAstray (wsV RX2 92 RX0 yX0_kindOf wsX0_kindOf) := goodIn_app (goodIn_sub (fm_c (qX2_firstAstray_r1 (mg 7 rfl)) (fm_c (qX2_firstAstray_r1 (mg 8 rfl)) (fm_c (qX2_firstAstray_r1 (mg 9 rfl)) (fm_c (qX2_firstAstray_r1 (mg 4 rfl)) (fm_n))))) (by decide +kernel)) ggX2_firstAstray_X0_kindOf
set_option maxRecDepth 20000 in
theorem ggX2_firstAstray_X2_isLong : GoodIn wsX2_firstAstray wsX2_isLong := goodIn_sub (fm_c (qX2_firstAstray_r1 (mg 21 rfl)) (ms_a (fm_c (qX2_firstAstray_r1 (mg 22 rfl)) (fm_n)) (fun _ h => List.mem_cons_of_mem _ (List.mem_append_left _ (List.mem_append_right _ (h)))))) (by decide +kernel)
set_option maxRecDepth 20000 in
theorem gX2_firstAstray_X2_isLong : GoodIn wsX2_firstAstray (wsV RX2 110 RX2 yX2_isLong wsX2_isLong) := goodIn_app (goodIn_sub (fm_c (qX2_firstAstray_r1 (mg 17 rfl)) (fm_c (qX2_firstAstray_r1 (mg 18 rfl)) (fm_c (qX2_firstAstray_r1 (mg 19 rfl)) (fm_c (qX2_firstAstray_r1 (mg 20 rfl)) (fm_n))))) (by decide +kernel)) ggX2_firstAstray_X2_isLong
set_option maxRecDepth 20000 in
theorem ggX2_firstAstray_X2_aimOf : GoodIn wsX2_firstAstray wsX2_aimOf := goodIn_sub (fm_c (qX2_firstAstray_r2 (mg 2 rfl)) (ms_a (fm_c (qX2_firstAstray_r2 (mg 3 rfl)) (fm_n)) (fun _ h => List.mem_cons_of_mem _ (List.mem_append_left _ (List.mem_append_right _ (h)))))) (by decide +kernel)
set_option maxRecDepth 20000 in
theorem gX2_firstAstray_X2_aimOf : GoodIn wsX2_firstAstray (wsV RX2 155 RX2 yX2_aimOf wsX2_aimOf) := goodIn_app (goodIn_sub (fm_c (qX2_firstAstray_r1 (mg 23 rfl)) (fm_c (qX2_firstAstray_r2 (mg 0 rfl)) (fm_c (qX2_firstAstray_r2 (mg 1 rfl)) (fm_c (qX2_firstAstray_r1 (mg 20 rfl)) (fm_n))))) (by decide +kernel)) ggX2_firstAstray_X2_aimOf
theorem dX2_firstAstray_0 : decode cX2_firstAstray 0 = .ok (.iconst 0, 1) := by decide +kernel
theorem dX2_firstAstray_1 : decode cX2_firstAstray 1 = .ok (.istore_n 3, 1) := by decide +kernel
theorem dX2_firstAstray_2 : decode cX2_firstAstray 2 = .ok (.iload_n 3, 1) := by decide +kernel
theorem dX2_firstAstray_3 : decode cX2_firstAstray 3 = .ok (.aload_n 0, 1) := by decide +kernel
theorem dX2_firstAstray_4 : decode cX2_firstAstray 4 = .ok (.getfield 50, 3) := by decide +kernel
theorem dX2_firstAstray_7 : decode cX2_firstAstray 7 = .ok (.invokevirtual 60, 3) := by decide +kernel
theorem dX2_firstAstray_10 : decode cX2_firstAstray 10 = .ok (.if_icmp .ge 41, 3) := by decide +kernel
theorem dX2_firstAstray_13 : decode cX2_firstAstray 13 = .ok (.aload_n 0, 1) := by decide +kernel
theorem dX2_firstAstray_14 : decode cX2_firstAstray 14 = .ok (.getfield 50, 3) := by decide +kernel
theorem dX2_firstAstray_17 : decode cX2_firstAstray 17 = .ok (.iload_n 3, 1) := by decide +kernel
theorem dX2_firstAstray_18 : decode cX2_firstAstray 18 = .ok (.invokevirtual 92, 3) := by decide +kernel
theorem dX2_firstAstray_21 : decode cX2_firstAstray 21 = .ok (.iload_n 1, 1) := by decide +kernel
theorem dX2_firstAstray_22 : decode cX2_firstAstray 22 = .ok (.if_icmp .ne 23, 3) := by decide +kernel
theorem dX2_firstAstray_25 : decode cX2_firstAstray 25 = .ok (.aload_n 0, 1) := by decide +kernel
theorem dX2_firstAstray_26 : decode cX2_firstAstray 26 = .ok (.iload_n 3, 1) := by decide +kernel
theorem dX2_firstAstray_27 : decode cX2_firstAstray 27 = .ok (.invokevirtual 110, 3) := by decide +kernel
theorem dX2_firstAstray_30 : decode cX2_firstAstray 30 = .ok (.iload_n 2, 1) := by decide +kernel
theorem dX2_firstAstray_31 : decode cX2_firstAstray 31 = .ok (.if_icmp .ne 14, 3) := by decide +kernel
theorem dX2_firstAstray_34 : decode cX2_firstAstray 34 = .ok (.aload_n 0, 1) := by decide +kernel
theorem dX2_firstAstray_35 : decode cX2_firstAstray 35 = .ok (.iload_n 3, 1) := by decide +kernel
theorem dX2_firstAstray_36 : decode cX2_firstAstray 36 = .ok (.invokevirtual 155, 3) := by decide +kernel
theorem dX2_firstAstray_39 : decode cX2_firstAstray 39 = .ok (.iconst (-1), 1) := by decide +kernel
theorem dX2_firstAstray_40 : decode cX2_firstAstray 40 = .ok (.if_icmp .ne 5, 3) := by decide +kernel
theorem dX2_firstAstray_43 : decode cX2_firstAstray 43 = .ok (.iload_n 3, 1) := by decide +kernel
theorem dX2_firstAstray_44 : decode cX2_firstAstray 44 = .ok (.ireturn, 1) := by decide +kernel
theorem dX2_firstAstray_45 : decode cX2_firstAstray 45 = .ok (.iinc 3 1, 3) := by decide +kernel
theorem dX2_firstAstray_48 : decode cX2_firstAstray 48 = .ok (.goto (-46), 3) := by decide +kernel
theorem dX2_firstAstray_51 : decode cX2_firstAstray 51 = .ok (.iconst (-1), 1) := by decide +kernel
theorem dX2_firstAstray_52 : decode cX2_firstAstray 52 = .ok (.ireturn, 1) := by decide +kernel
set_option maxRecDepth 20000 in
theorem ggX2_firstIslandAstray_X4_size : GoodIn wsX2_firstIslandAstray wsX4_size := goodIn_sub (fm_c (List.mem_cons_of_mem _ (List.mem_append_left _ (List.mem_append_left _ (mg 5 rfl)))) (ms_a (fm_c (List.mem_cons_of_mem _ (List.mem_append_left _ (List.mem_append_left _ (mg 6 rfl)))) (fm_n)) (fun _ h => List.mem_cons_of_mem _ (List.mem_append_right _ (h))))) (by decide +kernel)
set_option maxRecDepth 20000 in
theorem gX2_firstIslandAstray_X4_size : GoodIn wsX2_firstIslandAstray (wsV RX2 135 RX4 yX4_size wsX4_size) := goodIn_app (goodIn_sub (fm_c (List.mem_cons_of_mem _ (List.mem_append_left _ (List.mem_append_left _ (mg 1 rfl)))) (fm_c (List.mem_cons_of_mem _ (List.mem_append_left _ (List.mem_append_left _ (mg 2 rfl)))) (fm_c (List.mem_cons_of_mem _ (List.mem_append_left _ (List.mem_append_left _ (mg 3 rfl)))) (fm_c (List.mem_cons_of_mem _ (List.mem_append_left _ (List.mem_append_left _ (mg 4 rfl)))) (fm_n))))) (by decide +kernel)) ggX2_firstIslandAstray_X4_size
set_option maxRecDepth 20000 in
theorem ggX2_firstIslandAstray_X2_islandAimOf : GoodIn wsX2_firstIslandAstray wsX2_islandAimOf := goodIn_sub (fm_c (List.mem_cons_of_mem _ (List.mem_append_left _ (List.mem_append_left _ (mg 11 rfl)))) (ms_a (fm_c (List.mem_cons_of_mem _ (List.mem_append_left _ (List.mem_append_left _ (mg 12 rfl)))) (fm_n)) (fun _ h => List.mem_cons_of_mem _ (List.mem_append_left _ (List.mem_append_right _ (h)))))) (by decide +kernel)
set_option maxRecDepth 20000 in
theorem gX2_firstIslandAstray_X2_islandAimOf : GoodIn wsX2_firstIslandAstray (wsV RX2 177 RX2 yX2_islandAimOf wsX2_islandAimOf) := goodIn_app (goodIn_sub (fm_c (List.mem_cons_of_mem _ (List.mem_append_left _ (List.mem_append_left _ (mg 7 rfl)))) (fm_c (List.mem_cons_of_mem _ (List.mem_append_left _ (List.mem_append_left _ (mg 8 rfl)))) (fm_c (List.mem_cons_of_mem _ (List.mem_append_left _ (List.mem_append_left _ (mg 9 rfl)))) (fm_c (List.mem_cons_of_mem _ (List.mem_append_left _ (List.mem_append_left _ (mg 10 rfl)))) (fm_n))))) (by decide +kernel)) ggX2_firstIslandAstray_X2_islandAimOf
theorem dX2_firstIslandAstray_0 : decode cX2_firstIslandAstray 0 = .ok (.iconst 0, 1) := by decide +kernel
theorem dX2_firstIslandAstray_1 : decode cX2_firstIslandAstray 1 = .ok (.istore_n 1, 1) := by decide +kernel
theorem dX2_firstIslandAstray_2 : decode cX2_firstIslandAstray 2 = .ok (.iload_n 1, 1) := by decide +kernel
theorem dX2_firstIslandAstray_3 : decode cX2_firstIslandAstray 3 = .ok (.aload_n 0, 1) := by decide +kernel
theorem dX2_firstIslandAstray_4 : decode cX2_firstIslandAstray 4 = .ok (.getfield 14, 3) := by decide +kernel
theorem dX2_firstIslandAstray_7 : decode cX2_firstIslandAstray 7 = .ok (.invokevirtual 135, 3) := by decide +kernel
theorem dX2_firstIslandAstray_10 : decode cX2_firstIslandAstray 10 = .ok (.if_icmp .ge 20, 3) := by decide +kernel
theorem dX2_firstIslandAstray_13 : decode cX2_firstIslandAstray 13 = .ok (.aload_n 0, 1) := by decide +kernel
theorem dX2_firstIslandAstray_14 : decode cX2_firstIslandAstray 14 = .ok (.iload_n 1, 1) := by decide +kernel
theorem dX2_firstIslandAstray_15 : decode cX2_firstIslandAstray 15 = .ok (.invokevirtual 177, 3) := by decide +kernel
theorem dX2_firstIslandAstray_18 : decode cX2_firstIslandAstray 18 = .ok (.iconst (-1), 1) := by decide +kernel
theorem dX2_firstIslandAstray_19 : decode cX2_firstIslandAstray 19 = .ok (.if_icmp .ne 5, 3) := by decide +kernel
theorem dX2_firstIslandAstray_22 : decode cX2_firstIslandAstray 22 = .ok (.iload_n 1, 1) := by decide +kernel
theorem dX2_firstIslandAstray_23 : decode cX2_firstIslandAstray 23 = .ok (.ireturn, 1) := by decide +kernel
theorem dX2_firstIslandAstray_24 : decode cX2_firstIslandAstray 24 = .ok (.iinc 1 1, 3) := by decide +kernel
theorem dX2_firstIslandAstray_27 : decode cX2_firstIslandAstray 27 = .ok (.goto (-25), 3) := by decide +kernel
theorem dX2_firstIslandAstray_30 : decode cX2_firstIslandAstray 30 = .ok (.iconst (-1), 1) := by decide +kernel
theorem dX2_firstIslandAstray_31 : decode cX2_firstIslandAstray 31 = .ok (.ireturn, 1) := by decide +kernel
theorem dX2_fails_0 : decode cX2_fails 0 = .ok (.aload_n 0, 1) := by decide +kernel
theorem dX2_fails_1 : decode cX2_fails 1 = .ok (.iload_n 1, 1) := by decide +kernel
theorem dX2_fails_2 : decode cX2_fails 2 = .ok (.putfield 43, 3) := by decide +kernel
theorem dX2_fails_5 : decode cX2_fails 5 = .ok (.aload_n 0, 1) := by decide +kernel
theorem dX2_fails_6 : decode cX2_fails 6 = .ok (.iload_n 2, 1) := by decide +kernel
theorem dX2_fails_7 : decode cX2_fails 7 = .ok (.putfield 47, 3) := by decide +kernel
theorem dX2_fails_10 : decode cX2_fails 10 = .ok (.iconst 0, 1) := by decide +kernel
theorem dX2_fails_11 : decode cX2_fails 11 = .ok (.ireturn, 1) := by decide +kernel
theorem dX2_lengthens_0 : decode cX2_lengthens 0 = .ok (.iload_n 1, 1) := by decide +kernel
theorem dX2_lengthens_1 : decode cX2_lengthens 1 = .ok (.ifCond .lt 12, 3) := by decide +kernel
theorem dX2_lengthens_4 : decode cX2_lengthens 4 = .ok (.iload_n 1, 1) := by decide +kernel
theorem dX2_lengthens_5 : decode cX2_lengthens 5 = .ok (.aload_n 0, 1) := by decide +kernel
theorem dX2_lengthens_6 : decode cX2_lengthens 6 = .ok (.getfield 23, 3) := by decide +kernel
theorem dX2_lengthens_9 : decode cX2_lengthens 9 = .ok (.arraylength, 1) := by decide +kernel
theorem dX2_lengthens_10 : decode cX2_lengthens 10 = .ok (.if_icmp .lt 5, 3) := by decide +kernel
theorem dX2_lengthens_13 : decode cX2_lengthens 13 = .ok (.iconst 0, 1) := by decide +kernel
theorem dX2_lengthens_14 : decode cX2_lengthens 14 = .ok (.ireturn, 1) := by decide +kernel
theorem dX2_lengthens_15 : decode cX2_lengthens 15 = .ok (.aload_n 0, 1) := by decide +kernel
theorem dX2_lengthens_16 : decode cX2_lengthens 16 = .ok (.getfield 23, 3) := by decide +kernel
theorem dX2_lengthens_19 : decode cX2_lengthens 19 = .ok (.iload_n 1, 1) := by decide +kernel
theorem dX2_lengthens_20 : decode cX2_lengthens 20 = .ok (.iconst 1, 1) := by decide +kernel
theorem dX2_lengthens_21 : decode cX2_lengthens 21 = .ok (.bastore, 1) := by decide +kernel
theorem dX2_lengthens_22 : decode cX2_lengthens 22 = .ok (.aload_n 0, 1) := by decide +kernel
theorem dX2_lengthens_23 : decode cX2_lengthens 23 = .ok (.dup, 1) := by decide +kernel
theorem dX2_lengthens_24 : decode cX2_lengthens 24 = .ok (.getfield 83, 3) := by decide +kernel
theorem dX2_lengthens_27 : decode cX2_lengthens 27 = .ok (.iconst 1, 1) := by decide +kernel
theorem dX2_lengthens_28 : decode cX2_lengthens 28 = .ok (.iadd, 1) := by decide +kernel
theorem dX2_lengthens_29 : decode cX2_lengthens 29 = .ok (.putfield 83, 3) := by decide +kernel
theorem dX2_lengthens_32 : decode cX2_lengthens 32 = .ok (.iconst 1, 1) := by decide +kernel
theorem dX2_lengthens_33 : decode cX2_lengthens 33 = .ok (.ireturn, 1) := by decide +kernel
theorem qX2_bringsConstant_r1 {w : Cond} (h : w ∈ wsX2_bringsConstant_r1) : w ∈ wsX2_bringsConstant := List.mem_cons_of_mem _ (List.mem_append_left _ (List.mem_append_left _ (List.mem_append_left _ (List.mem_append_left _ (h)))))
theorem qX2_bringsConstant_r2 {w : Cond} (h : w ∈ wsX2_bringsConstant_r2) : w ∈ wsX2_bringsConstant := List.mem_cons_of_mem _ (List.mem_append_left _ (List.mem_append_left _ (List.mem_append_left _ (List.mem_append_right _ (List.mem_append_left _ (h))))))
theorem qX2_bringsConstant_r3 {w : Cond} (h : w ∈ wsX2_bringsConstant_r3) : w ∈ wsX2_bringsConstant := List.mem_cons_of_mem _ (List.mem_append_left _ (List.mem_append_left _ (List.mem_append_left _ (List.mem_append_right _ (List.mem_append_right _ (h))))))
set_option maxRecDepth 20000 in
theorem ggX2_bringsConstant_X2_addressOf : GoodIn wsX2_bringsConstant wsX2_addressOf := goodIn_sub (fm_c (qX2_bringsConstant_r1 (mg 6 rfl)) (ms_a (fm_c (qX2_bringsConstant_r1 (mg 7 rfl)) (fm_n)) (fun _ h => List.mem_cons_of_mem _ (List.mem_append_left _ (List.mem_append_left _ (List.mem_append_right _ (h))))))) (by decide +kernel)
set_option maxRecDepth 20000 in
theorem gX2_bringsConstant_X2_addressOf : GoodIn wsX2_bringsConstant (wsV RX2 122 RX2 yX2_addressOf wsX2_addressOf) := goodIn_app (goodIn_sub (fm_c (qX2_bringsConstant_r1 (mg 2 rfl)) (fm_c (qX2_bringsConstant_r1 (mg 3 rfl)) (fm_c (qX2_bringsConstant_r1 (mg 4 rfl)) (fm_c (qX2_bringsConstant_r1 (mg 5 rfl)) (fm_n))))) (by decide +kernel)) ggX2_bringsConstant_X2_addressOf
set_option maxRecDepth 20000 in
theorem ggX2_bringsConstant_X0_size : GoodIn wsX2_bringsConstant wsX0_size := goodIn_sub (fm_c (qX2_bringsConstant_r1 (mg 12 rfl)) (ms_a (fm_c (qX2_bringsConstant_r1 (mg 13 rfl)) (fm_n)) (fun _ h => List.mem_cons_of_mem _ (List.mem_append_left _ (List.mem_append_right _ (h)))))) (by decide +kernel)
set_option maxRecDepth 20000 in
theorem gX2_bringsConstant_X0_size : GoodIn wsX2_bringsConstant (wsV RX2 60 RX0 yX0_size wsX0_size) := goodIn_app (goodIn_sub (fm_c (qX2_bringsConstant_r1 (mg 8 rfl)) (fm_c (qX2_bringsConstant_r1 (mg 9 rfl)) (fm_c (qX2_bringsConstant_r1 (mg 10 rfl)) (fm_c (qX2_bringsConstant_r1 (mg 11 rfl)) (fm_n))))) (by decide +kernel)) ggX2_bringsConstant_X0_size
set_option maxRecDepth 20000 in
theorem ggX2_bringsConstant_X0_kindOf : GoodIn wsX2_bringsConstant wsX0_kindOf := goodIn_sub (fm_c (qX2_bringsConstant_r1 (mg 17 rfl)) (ms_a (fm_c (qX2_bringsConstant_r1 (mg 18 rfl)) (fm_c (qX2_bringsConstant_r1 (mg 19 rfl)) (fm_c (qX2_bringsConstant_r1 (mg 20 rfl)) (fm_c (qX2_bringsConstant_r1 (mg 21 rfl)) (fm_c (qX2_bringsConstant_r1 (mg 11 rfl)) (fm_c (qX2_bringsConstant_r1 (mg 22 rfl)) (fm_c (qX2_bringsConstant_r1 (mg 13 rfl)) (fm_c (qX2_bringsConstant_r1 (mg 23 rfl)) (fm_n))))))))) (fun _ h => List.mem_cons_of_mem _ (List.mem_append_left _ (List.mem_append_right _ (h)))))) (by decide +kernel)
set_option maxRecDepth 20000 in
theorem gX2_bringsConstant_X0_kindOf : GoodIn wsX2_bringsConstant (wsV RX2 92 RX0 yX0_kindOf wsX0_kindOf) := goodIn_app (goodIn_sub (fm_c (qX2_bringsConstant_r1 (mg 14 rfl)) (fm_c (qX2_bringsConstant_r1 (mg 15 rfl)) (fm_c (qX2_bringsConstant_r1 (mg 16 rfl)) (fm_c (qX2_bringsConstant_r1 (mg 11 rfl)) (fm_n))))) (by decide +kernel)) ggX2_bringsConstant_X0_kindOf
set_option maxRecDepth 20000 in
theorem ggX2_bringsConstant_X2_nextConstantIn : GoodIn wsX2_bringsConstant wsX2_nextConstantIn := goodIn_sub (fm_c (qX2_bringsConstant_r2 (mg 3 rfl)) (ms_a (ms_a (fm_c (qX2_bringsConstant_r1 (mg 1 rfl)) (fm_c (qX2_bringsConstant_r2 (mg 4 rfl)) (fm_c (qX2_bringsConstant_r2 (mg 5 rfl)) (fm_c (qX2_bringsConstant_r2 (mg 6 rfl)) (fm_c (qX2_bringsConstant_r2 (mg 7 rfl)) (fm_c (qX2_bringsConstant_r2 (mg 8 rfl)) (fm_c (qX2_bringsConstant_r2 (mg 9 rfl)) (fm_c (qX2_bringsConstant_r2 (mg 10 rfl)) (fm_c (qX2_bringsConstant_r2 (mg 11 rfl)) (fm_c (qX2_bringsConstant_r2 (mg 12 rfl)) (fm_c (qX2_bringsConstant_r2 (mg 13 rfl)) (fm_c (qX2_bringsConstant_r2 (mg 14 rfl)) (fm_c (qX2_bringsConstant_r2 (mg 15 rfl)) (fm_c (qX2_bringsConstant_r2 (mg 16 rfl)) (fm_n))))))))))))))) (fun _ h => List.mem_cons_of_mem _ (List.mem_append_left _ (List.mem_append_left _ (List.mem_append_right _ (h)))))) (fun _ h => List.mem_cons_of_mem _ (List.mem_append_right _ (h))))) (by decide +kernel)
set_option maxRecDepth 20000 in
theorem gX2_bringsConstant_X2_nextConstantIn : GoodIn wsX2_bringsConstant (wsV RX2 180 RX2 yX2_nextConstantIn wsX2_nextConstantIn) := goodIn_app (goodIn_sub (fm_c (qX2_bringsConstant_r2 (mg 0 rfl)) (fm_c (qX2_bringsConstant_r2 (mg 1 rfl)) (fm_c (qX2_bringsConstant_r2 (mg 2 rfl)) (fm_c (qX2_bringsConstant_r1 (mg 5 rfl)) (fm_n))))) (by decide +kernel)) ggX2_bringsConstant_X2_nextConstantIn
set_option maxRecDepth 20000 in
theorem ggX2_bringsConstant_X2_isInLoadReach : GoodIn wsX2_bringsConstant wsX2_isInLoadReach := goodIn_sub (fm_c (qX2_bringsConstant_r2 (mg 20 rfl)) (ms_a (fm_c (qX2_bringsConstant_r2 (mg 21 rfl)) (fm_n)) (fun _ h => List.mem_cons_of_mem _ (List.mem_append_left _ (List.mem_append_left _ (List.mem_append_right _ (h))))))) (by decide +kernel)
set_option maxRecDepth 20000 in
theorem gX2_bringsConstant_X2_isInLoadReach : GoodIn wsX2_bringsConstant (wsV RX2 152 RX2 yX2_isInLoadReach wsX2_isInLoadReach) := goodIn_app (goodIn_sub (fm_c (qX2_bringsConstant_r2 (mg 17 rfl)) (fm_c (qX2_bringsConstant_r2 (mg 18 rfl)) (fm_c (qX2_bringsConstant_r2 (mg 19 rfl)) (fm_c (qX2_bringsConstant_r1 (mg 5 rfl)) (fm_n))))) (by decide +kernel)) ggX2_bringsConstant_X2_isInLoadReach
set_option maxRecDepth 20000 in
theorem ggX2_bringsConstant_X0_toldOf : GoodIn wsX2_bringsConstant wsX0_toldOf := goodIn_sub (fm_c (qX2_bringsConstant_r3 (mg 1 rfl)) (ms_a (fm_c (qX2_bringsConstant_r1 (mg 23 rfl)) (fm_c (qX2_bringsConstant_r1 (mg 19 rfl)) (fm_c (qX2_bringsConstant_r1 (mg 20 rfl)) (fm_c (qX2_bringsConstant_r1 (mg 21 rfl)) (fm_c (qX2_bringsConstant_r1 (mg 11 rfl)) (fm_c (qX2_bringsConstant_r1 (mg 22 rfl)) (fm_c (qX2_bringsConstant_r1 (mg 13 rfl)) (fm_c (qX2_bringsConstant_r1 (mg 18 rfl)) (fm_n))))))))) (fun _ h => List.mem_cons_of_mem _ (List.mem_append_left _ (List.mem_append_right _ (h)))))) (by decide +kernel)
set_option maxRecDepth 20000 in
theorem gX2_bringsConstant_X0_toldOf : GoodIn wsX2_bringsConstant (wsV RX2 100 RX0 yX0_toldOf wsX0_toldOf) := goodIn_app (goodIn_sub (fm_c (qX2_bringsConstant_r2 (mg 22 rfl)) (fm_c (qX2_bringsConstant_r2 (mg 23 rfl)) (fm_c (qX2_bringsConstant_r3 (mg 0 rfl)) (fm_c (qX2_bringsConstant_r1 (mg 11 rfl)) (fm_n))))) (by decide +kernel)) ggX2_bringsConstant_X0_toldOf
set_option maxRecDepth 20000 in
theorem ggX2_bringsConstant_X4_add : GoodIn wsX2_bringsConstant wsX4_add := goodIn_sub (fm_c (qX2_bringsConstant_r3 (mg 5 rfl)) (ms_a (fm_c (qX2_bringsConstant_r3 (mg 6 rfl)) (fm_c (qX2_bringsConstant_r3 (mg 7 rfl)) (fm_c (qX2_bringsConstant_r3 (mg 8 rfl)) (fm_c (qX2_bringsConstant_r3 (mg 9 rfl)) (fm_c (qX2_bringsConstant_r2 (mg 10 rfl)) (fm_c (qX2_bringsConstant_r2 (mg 11 rfl)) (fm_c (qX2_bringsConstant_r2 (mg 12 rfl)) (fm_c (qX2_bringsConstant_r2 (mg 7 rfl)) (fm_c (qX2_bringsConstant_r2 (mg 13 rfl)) (fm_n)))))))))) (fun _ h => List.mem_cons_of_mem _ (List.mem_append_right _ (h))))) (by decide +kernel)
set_option maxRecDepth 20000 in
theorem gX2_bringsConstant_X4_add : GoodIn wsX2_bringsConstant (wsV RX2 183 RX4 yX4_add wsX4_add) := goodIn_app (goodIn_sub (fm_c (qX2_bringsConstant_r3 (mg 2 rfl)) (fm_c (qX2_bringsConstant_r3 (mg 3 rfl)) (fm_c (qX2_bringsConstant_r3 (mg 4 rfl)) (fm_c (qX2_bringsConstant_r2 (mg 7 rfl)) (fm_n))))) (by decide +kernel)) ggX2_bringsConstant_X4_add
theorem dX2_bringsConstant_0 : decode cX2_bringsConstant 0 = .ok (.aload_n 0, 1) := by decide +kernel
theorem dX2_bringsConstant_1 : decode cX2_bringsConstant 1 = .ok (.iload_n 1, 1) := by decide +kernel
theorem dX2_bringsConstant_2 : decode cX2_bringsConstant 2 = .ok (.invokevirtual 122, 3) := by decide +kernel
theorem dX2_bringsConstant_5 : decode cX2_bringsConstant 5 = .ok (.istore_n 2, 1) := by decide +kernel
theorem dX2_bringsConstant_6 : decode cX2_bringsConstant 6 = .ok (.iconst (-1), 1) := by decide +kernel
theorem dX2_bringsConstant_7 : decode cX2_bringsConstant 7 = .ok (.istore_n 3, 1) := by decide +kernel
theorem dX2_bringsConstant_8 : decode cX2_bringsConstant 8 = .ok (.iload_n 1, 1) := by decide +kernel
theorem dX2_bringsConstant_9 : decode cX2_bringsConstant 9 = .ok (.iconst 1, 1) := by decide +kernel
theorem dX2_bringsConstant_10 : decode cX2_bringsConstant 10 = .ok (.iadd, 1) := by decide +kernel
theorem dX2_bringsConstant_11 : decode cX2_bringsConstant 11 = .ok (.istore 4, 2) := by decide +kernel
theorem dX2_bringsConstant_13 : decode cX2_bringsConstant 13 = .ok (.iload 4, 2) := by decide +kernel
theorem dX2_bringsConstant_15 : decode cX2_bringsConstant 15 = .ok (.aload_n 0, 1) := by decide +kernel
theorem dX2_bringsConstant_16 : decode cX2_bringsConstant 16 = .ok (.getfield 50, 3) := by decide +kernel
theorem dX2_bringsConstant_19 : decode cX2_bringsConstant 19 = .ok (.invokevirtual 60, 3) := by decide +kernel
theorem dX2_bringsConstant_22 : decode cX2_bringsConstant 22 = .ok (.if_icmp .ge 39, 3) := by decide +kernel
theorem dX2_bringsConstant_25 : decode cX2_bringsConstant 25 = .ok (.aload_n 0, 1) := by decide +kernel
theorem dX2_bringsConstant_26 : decode cX2_bringsConstant 26 = .ok (.getfield 50, 3) := by decide +kernel
theorem dX2_bringsConstant_29 : decode cX2_bringsConstant 29 = .ok (.iload 4, 2) := by decide +kernel
theorem dX2_bringsConstant_31 : decode cX2_bringsConstant 31 = .ok (.invokevirtual 92, 3) := by decide +kernel
theorem dX2_bringsConstant_34 : decode cX2_bringsConstant 34 = .ok (.iconst 5, 1) := by decide +kernel
theorem dX2_bringsConstant_35 : decode cX2_bringsConstant 35 = .ok (.if_icmp .ne 20, 3) := by decide +kernel
theorem dX2_bringsConstant_38 : decode cX2_bringsConstant 38 = .ok (.aload_n 0, 1) := by decide +kernel
theorem dX2_bringsConstant_39 : decode cX2_bringsConstant 39 = .ok (.iload_n 2, 1) := by decide +kernel
theorem dX2_bringsConstant_40 : decode cX2_bringsConstant 40 = .ok (.aload_n 0, 1) := by decide +kernel
theorem dX2_bringsConstant_41 : decode cX2_bringsConstant 41 = .ok (.iload 4, 2) := by decide +kernel
theorem dX2_bringsConstant_43 : decode cX2_bringsConstant 43 = .ok (.invokevirtual 180, 3) := by decide +kernel
theorem dX2_bringsConstant_46 : decode cX2_bringsConstant 46 = .ok (.invokevirtual 152, 3) := by decide +kernel
theorem dX2_bringsConstant_49 : decode cX2_bringsConstant 49 = .ok (.ifCond .eq 6, 3) := by decide +kernel
theorem dX2_bringsConstant_52 : decode cX2_bringsConstant 52 = .ok (.iload 4, 2) := by decide +kernel
theorem dX2_bringsConstant_54 : decode cX2_bringsConstant 54 = .ok (.istore_n 3, 1) := by decide +kernel
theorem dX2_bringsConstant_55 : decode cX2_bringsConstant 55 = .ok (.iinc 4 1, 3) := by decide +kernel
theorem dX2_bringsConstant_58 : decode cX2_bringsConstant 58 = .ok (.goto (-45), 3) := by decide +kernel
theorem dX2_bringsConstant_61 : decode cX2_bringsConstant 61 = .ok (.iload_n 3, 1) := by decide +kernel
theorem dX2_bringsConstant_62 : decode cX2_bringsConstant 62 = .ok (.iconst (-1), 1) := by decide +kernel
theorem dX2_bringsConstant_63 : decode cX2_bringsConstant 63 = .ok (.if_icmp .eq 26, 3) := by decide +kernel
theorem dX2_bringsConstant_66 : decode cX2_bringsConstant 66 = .ok (.aload_n 0, 1) := by decide +kernel
theorem dX2_bringsConstant_67 : decode cX2_bringsConstant 67 = .ok (.getfield 20, 3) := by decide +kernel
theorem dX2_bringsConstant_70 : decode cX2_bringsConstant 70 = .ok (.aload_n 0, 1) := by decide +kernel
theorem dX2_bringsConstant_71 : decode cX2_bringsConstant 71 = .ok (.getfield 50, 3) := by decide +kernel
theorem dX2_bringsConstant_74 : decode cX2_bringsConstant 74 = .ok (.iload_n 1, 1) := by decide +kernel
theorem dX2_bringsConstant_75 : decode cX2_bringsConstant 75 = .ok (.invokevirtual 100, 3) := by decide +kernel
theorem dX2_bringsConstant_78 : decode cX2_bringsConstant 78 = .ok (.iload_n 3, 1) := by decide +kernel
theorem dX2_bringsConstant_79 : decode cX2_bringsConstant 79 = .ok (.invokevirtual 183, 3) := by decide +kernel
theorem dX2_bringsConstant_82 : decode cX2_bringsConstant 82 = .ok (.ifCond .eq 7, 3) := by decide +kernel
theorem dX2_bringsConstant_85 : decode cX2_bringsConstant 85 = .ok (.iconst 1, 1) := by decide +kernel
theorem dX2_bringsConstant_86 : decode cX2_bringsConstant 86 = .ok (.goto 4, 3) := by decide +kernel
theorem dX2_bringsConstant_89 : decode cX2_bringsConstant 89 = .ok (.iconst 0, 1) := by decide +kernel
theorem dX2_bringsConstant_90 : decode cX2_bringsConstant 90 = .ok (.ireturn, 1) := by decide +kernel
set_option maxRecDepth 20000 in
theorem ggX2_nextConstantIn_X4_endOf : GoodIn wsX2_nextConstantIn wsX4_endOf := goodIn_sub (fm_c (List.mem_cons_of_mem _ (List.mem_append_left _ (List.mem_append_left _ (mg 5 rfl)))) (ms_a (fm_c (List.mem_cons_of_mem _ (List.mem_append_left _ (List.mem_append_left _ (mg 6 rfl)))) (fm_c (List.mem_cons_of_mem _ (List.mem_append_left _ (List.mem_append_left _ (mg 7 rfl)))) (fm_c (List.mem_cons_of_mem _ (List.mem_append_left _ (List.mem_append_left _ (mg 8 rfl)))) (fm_c (List.mem_cons_of_mem _ (List.mem_append_left _ (List.mem_append_left _ (mg 9 rfl)))) (fm_c (List.mem_cons_of_mem _ (List.mem_append_left _ (List.mem_append_left _ (mg 4 rfl)))) (fm_c (List.mem_cons_of_mem _ (List.mem_append_left _ (List.mem_append_left _ (mg 10 rfl)))) (fm_n))))))) (fun _ h => List.mem_cons_of_mem _ (List.mem_append_right _ (h))))) (by decide +kernel)
set_option maxRecDepth 20000 in
theorem gX2_nextConstantIn_X4_endOf : GoodIn wsX2_nextConstantIn (wsV RX2 186 RX4 yX4_endOf wsX4_endOf) := goodIn_app (goodIn_sub (fm_c (List.mem_cons_of_mem _ (List.mem_append_left _ (List.mem_append_left _ (mg 1 rfl)))) (fm_c (List.mem_cons_of_mem _ (List.mem_append_left _ (List.mem_append_left _ (mg 2 rfl)))) (fm_c (List.mem_cons_of_mem _ (List.mem_append_left _ (List.mem_append_left _ (mg 3 rfl)))) (fm_c (List.mem_cons_of_mem _ (List.mem_append_left _ (List.mem_append_left _ (mg 4 rfl)))) (fm_n))))) (by decide +kernel)) ggX2_nextConstantIn_X4_endOf
set_option maxRecDepth 20000 in
theorem ggX2_nextConstantIn_X5_fillTo : GoodIn wsX2_nextConstantIn wsX5_fillTo := goodIn_sub (fm_c (List.mem_cons_of_mem _ (List.mem_append_left _ (List.mem_append_left _ (mg 13 rfl)))) (fm_n)) (by decide +kernel)
set_option maxRecDepth 20000 in
theorem gX2_nextConstantIn_X5_fillTo_n114 : GoodIn wsX2_nextConstantIn (wsX5_fillTo) := ggX2_nextConstantIn_X5_fillTo
theorem dX2_nextConstantIn_0 : decode cX2_nextConstantIn 0 = .ok (.aload_n 0, 1) := by decide +kernel
theorem dX2_nextConstantIn_1 : decode cX2_nextConstantIn 1 = .ok (.getfield 20, 3) := by decide +kernel
theorem dX2_nextConstantIn_4 : decode cX2_nextConstantIn 4 = .ok (.iload_n 1, 1) := by decide +kernel
theorem dX2_nextConstantIn_5 : decode cX2_nextConstantIn 5 = .ok (.invokevirtual 186, 3) := by decide +kernel
theorem dX2_nextConstantIn_8 : decode cX2_nextConstantIn 8 = .ok (.istore_n 2, 1) := by decide +kernel
theorem dX2_nextConstantIn_9 : decode cX2_nextConstantIn 9 = .ok (.iload_n 2, 1) := by decide +kernel
theorem dX2_nextConstantIn_10 : decode cX2_nextConstantIn 10 = .ok (.iconst 4, 1) := by decide +kernel
theorem dX2_nextConstantIn_11 : decode cX2_nextConstantIn 11 = .ok (.iload_n 2, 1) := by decide +kernel
theorem dX2_nextConstantIn_12 : decode cX2_nextConstantIn 12 = .ok (.invokestatic 114, 3) := by decide +kernel
theorem dX2_nextConstantIn_15 : decode cX2_nextConstantIn 15 = .ok (.iadd, 1) := by decide +kernel
theorem dX2_nextConstantIn_16 : decode cX2_nextConstantIn 16 = .ok (.ireturn, 1) := by decide +kernel
theorem qX2_bringsIsland_r1 {w : Cond} (h : w ∈ wsX2_bringsIsland_r1) : w ∈ wsX2_bringsIsland := List.mem_cons_of_mem _ (List.mem_append_left _ (List.mem_append_left _ (List.mem_append_left _ (List.mem_append_left _ (h)))))
theorem qX2_bringsIsland_r2 {w : Cond} (h : w ∈ wsX2_bringsIsland_r2) : w ∈ wsX2_bringsIsland := List.mem_cons_of_mem _ (List.mem_append_left _ (List.mem_append_left _ (List.mem_append_left _ (List.mem_append_right _ (h)))))
set_option maxRecDepth 20000 in
theorem ggX2_bringsIsland_X2_labelAddress : GoodIn wsX2_bringsIsland wsX2_labelAddress := goodIn_sub (fm_c (qX2_bringsIsland_r1 (mg 7 rfl)) (ms_a (fm_c (qX2_bringsIsland_r1 (mg 8 rfl)) (fm_n)) (fun _ h => List.mem_cons_of_mem _ (List.mem_append_left _ (List.mem_append_left _ (List.mem_append_right _ (h))))))) (by decide +kernel)
set_option maxRecDepth 20000 in
theorem gX2_bringsIsland_X2_labelAddress : GoodIn wsX2_bringsIsland (wsV RX2 139 RX2 yX2_labelAddress wsX2_labelAddress) := goodIn_app (goodIn_sub (fm_c (qX2_bringsIsland_r1 (mg 3 rfl)) (fm_c (qX2_bringsIsland_r1 (mg 4 rfl)) (fm_c (qX2_bringsIsland_r1 (mg 5 rfl)) (fm_c (qX2_bringsIsland_r1 (mg 6 rfl)) (fm_n))))) (by decide +kernel)) ggX2_bringsIsland_X2_labelAddress
set_option maxRecDepth 20000 in
theorem ggX2_bringsIsland_X5_far : GoodIn wsX2_bringsIsland wsX5_far := goodIn_sub (fm_c (qX2_bringsIsland_r1 (mg 11 rfl)) (fm_n)) (by decide +kernel)
set_option maxRecDepth 20000 in
theorem gX2_bringsIsland_X5_far_n142 : GoodIn wsX2_bringsIsland (wsX5_far) := ggX2_bringsIsland_X5_far
set_option maxRecDepth 20000 in
theorem ggX2_bringsIsland_X0_size : GoodIn wsX2_bringsIsland wsX0_size := goodIn_sub (fm_c (qX2_bringsIsland_r1 (mg 16 rfl)) (ms_a (fm_c (qX2_bringsIsland_r1 (mg 17 rfl)) (fm_n)) (fun _ h => List.mem_cons_of_mem _ (List.mem_append_left _ (List.mem_append_right _ (h)))))) (by decide +kernel)
set_option maxRecDepth 20000 in
theorem gX2_bringsIsland_X0_size : GoodIn wsX2_bringsIsland (wsV RX2 60 RX0 yX0_size wsX0_size) := goodIn_app (goodIn_sub (fm_c (qX2_bringsIsland_r1 (mg 12 rfl)) (fm_c (qX2_bringsIsland_r1 (mg 13 rfl)) (fm_c (qX2_bringsIsland_r1 (mg 14 rfl)) (fm_c (qX2_bringsIsland_r1 (mg 15 rfl)) (fm_n))))) (by decide +kernel)) ggX2_bringsIsland_X0_size
set_option maxRecDepth 20000 in
theorem ggX2_bringsIsland_X4_endOf : GoodIn wsX2_bringsIsland wsX4_endOf := goodIn_sub (fm_c (qX2_bringsIsland_r1 (mg 22 rfl)) (ms_a (fm_c (qX2_bringsIsland_r1 (mg 23 rfl)) (fm_c (qX2_bringsIsland_r2 (mg 0 rfl)) (fm_c (qX2_bringsIsland_r2 (mg 1 rfl)) (fm_c (qX2_bringsIsland_r2 (mg 2 rfl)) (fm_c (qX2_bringsIsland_r1 (mg 21 rfl)) (fm_c (qX2_bringsIsland_r2 (mg 3 rfl)) (fm_n))))))) (fun _ h => List.mem_cons_of_mem _ (List.mem_append_right _ (h))))) (by decide +kernel)
set_option maxRecDepth 20000 in
theorem gX2_bringsIsland_X4_endOf : GoodIn wsX2_bringsIsland (wsV RX2 186 RX4 yX4_endOf wsX4_endOf) := goodIn_app (goodIn_sub (fm_c (qX2_bringsIsland_r1 (mg 18 rfl)) (fm_c (qX2_bringsIsland_r1 (mg 19 rfl)) (fm_c (qX2_bringsIsland_r1 (mg 20 rfl)) (fm_c (qX2_bringsIsland_r1 (mg 21 rfl)) (fm_n))))) (by decide +kernel)) ggX2_bringsIsland_X4_endOf
set_option maxRecDepth 20000 in
theorem ggX2_bringsIsland_X0_kindOf : GoodIn wsX2_bringsIsland wsX0_kindOf := goodIn_sub (fm_c (qX2_bringsIsland_r2 (mg 7 rfl)) (ms_a (fm_c (qX2_bringsIsland_r2 (mg 8 rfl)) (fm_c (qX2_bringsIsland_r2 (mg 9 rfl)) (fm_c (qX2_bringsIsland_r2 (mg 10 rfl)) (fm_c (qX2_bringsIsland_r2 (mg 11 rfl)) (fm_c (qX2_bringsIsland_r1 (mg 15 rfl)) (fm_c (qX2_bringsIsland_r2 (mg 12 rfl)) (fm_c (qX2_bringsIsland_r1 (mg 17 rfl)) (fm_c (qX2_bringsIsland_r2 (mg 13 rfl)) (fm_n))))))))) (fun _ h => List.mem_cons_of_mem _ (List.mem_append_left _ (List.mem_append_right _ (h)))))) (by decide +kernel)
set_option maxRecDepth 20000 in
theorem gX2_bringsIsland_X0_kindOf : GoodIn wsX2_bringsIsland (wsV RX2 92 RX0 yX0_kindOf wsX0_kindOf) := goodIn_app (goodIn_sub (fm_c (qX2_bringsIsland_r2 (mg 4 rfl)) (fm_c (qX2_bringsIsland_r2 (mg 5 rfl)) (fm_c (qX2_bringsIsland_r2 (mg 6 rfl)) (fm_c (qX2_bringsIsland_r1 (mg 15 rfl)) (fm_n))))) (by decide +kernel)) ggX2_bringsIsland_X0_kindOf
set_option maxRecDepth 20000 in
theorem ggX2_bringsIsland_X4_add : GoodIn wsX2_bringsIsland wsX4_add := goodIn_sub (fm_c (qX2_bringsIsland_r2 (mg 17 rfl)) (ms_a (fm_c (qX2_bringsIsland_r2 (mg 18 rfl)) (fm_c (qX2_bringsIsland_r2 (mg 19 rfl)) (fm_c (qX2_bringsIsland_r2 (mg 20 rfl)) (fm_c (qX2_bringsIsland_r2 (mg 21 rfl)) (fm_c (qX2_bringsIsland_r2 (mg 0 rfl)) (fm_c (qX2_bringsIsland_r2 (mg 1 rfl)) (fm_c (qX2_bringsIsland_r2 (mg 2 rfl)) (fm_c (qX2_bringsIsland_r1 (mg 21 rfl)) (fm_c (qX2_bringsIsland_r2 (mg 3 rfl)) (fm_n)))))))))) (fun _ h => List.mem_cons_of_mem _ (List.mem_append_right _ (h))))) (by decide +kernel)
set_option maxRecDepth 20000 in
theorem gX2_bringsIsland_X4_add : GoodIn wsX2_bringsIsland (wsV RX2 183 RX4 yX4_add wsX4_add) := goodIn_app (goodIn_sub (fm_c (qX2_bringsIsland_r2 (mg 14 rfl)) (fm_c (qX2_bringsIsland_r2 (mg 15 rfl)) (fm_c (qX2_bringsIsland_r2 (mg 16 rfl)) (fm_c (qX2_bringsIsland_r1 (mg 21 rfl)) (fm_n))))) (by decide +kernel)) ggX2_bringsIsland_X4_add
theorem dX2_bringsIsland_0 : decode cX2_bringsIsland 0 = .ok (.aload_n 0, 1) := by decide +kernel
theorem dX2_bringsIsland_1 : decode cX2_bringsIsland 1 = .ok (.iload_n 2, 1) := by decide +kernel
theorem dX2_bringsIsland_2 : decode cX2_bringsIsland 2 = .ok (.invokevirtual 139, 3) := by decide +kernel
theorem dX2_bringsIsland_5 : decode cX2_bringsIsland 5 = .ok (.istore_n 3, 1) := by decide +kernel
theorem dX2_bringsIsland_6 : decode cX2_bringsIsland 6 = .ok (.iconst (-1), 1) := by decide +kernel
theorem dX2_bringsIsland_7 : decode cX2_bringsIsland 7 = .ok (.istore 4, 2) := by decide +kernel
theorem dX2_bringsIsland_9 : decode cX2_bringsIsland 9 = .ok (.iload_n 1, 1) := by decide +kernel
theorem dX2_bringsIsland_10 : decode cX2_bringsIsland 10 = .ok (.iload_n 3, 1) := by decide +kernel
theorem dX2_bringsIsland_11 : decode cX2_bringsIsland 11 = .ok (.invokestatic 142, 3) := by decide +kernel
theorem dX2_bringsIsland_14 : decode cX2_bringsIsland 14 = .ok (.istore 5, 2) := by decide +kernel
theorem dX2_bringsIsland_16 : decode cX2_bringsIsland 16 = .ok (.iconst 0, 1) := by decide +kernel
theorem dX2_bringsIsland_17 : decode cX2_bringsIsland 17 = .ok (.istore 6, 2) := by decide +kernel
theorem dX2_bringsIsland_19 : decode cX2_bringsIsland 19 = .ok (.iload 6, 2) := by decide +kernel
theorem dX2_bringsIsland_21 : decode cX2_bringsIsland 21 = .ok (.aload_n 0, 1) := by decide +kernel
theorem dX2_bringsIsland_22 : decode cX2_bringsIsland 22 = .ok (.getfield 50, 3) := by decide +kernel
theorem dX2_bringsIsland_25 : decode cX2_bringsIsland 25 = .ok (.invokevirtual 60, 3) := by decide +kernel
theorem dX2_bringsIsland_28 : decode cX2_bringsIsland 28 = .ok (.if_icmp .ge 83, 3) := by decide +kernel
theorem dX2_bringsIsland_31 : decode cX2_bringsIsland 31 = .ok (.aload_n 0, 1) := by decide +kernel
theorem dX2_bringsIsland_32 : decode cX2_bringsIsland 32 = .ok (.getfield 14, 3) := by decide +kernel
theorem dX2_bringsIsland_35 : decode cX2_bringsIsland 35 = .ok (.iload 6, 2) := by decide +kernel
theorem dX2_bringsIsland_37 : decode cX2_bringsIsland 37 = .ok (.invokevirtual 186, 3) := by decide +kernel
theorem dX2_bringsIsland_40 : decode cX2_bringsIsland 40 = .ok (.istore 7, 2) := by decide +kernel
theorem dX2_bringsIsland_42 : decode cX2_bringsIsland 42 = .ok (.aload_n 0, 1) := by decide +kernel
theorem dX2_bringsIsland_43 : decode cX2_bringsIsland 43 = .ok (.getfield 50, 3) := by decide +kernel
theorem dX2_bringsIsland_46 : decode cX2_bringsIsland 46 = .ok (.iload 6, 2) := by decide +kernel
theorem dX2_bringsIsland_48 : decode cX2_bringsIsland 48 = .ok (.invokevirtual 92, 3) := by decide +kernel
theorem dX2_bringsIsland_51 : decode cX2_bringsIsland 51 = .ok (.iconst 5, 1) := by decide +kernel
theorem dX2_bringsIsland_52 : decode cX2_bringsIsland 52 = .ok (.if_icmp .ne 22, 3) := by decide +kernel
theorem dX2_bringsIsland_55 : decode cX2_bringsIsland 55 = .ok (.iload 7, 2) := by decide +kernel
theorem dX2_bringsIsland_57 : decode cX2_bringsIsland 57 = .ok (.iload_n 1, 1) := by decide +kernel
theorem dX2_bringsIsland_58 : decode cX2_bringsIsland 58 = .ok (.invokestatic 142, 3) := by decide +kernel
theorem dX2_bringsIsland_61 : decode cX2_bringsIsland 61 = .ok (.aload_n 0, 1) := by decide +kernel
theorem dX2_bringsIsland_62 : decode cX2_bringsIsland 62 = .ok (.getfield 54, 3) := by decide +kernel
theorem dX2_bringsIsland_65 : decode cX2_bringsIsland 65 = .ok (.iconst 1, 1) := by decide +kernel
theorem dX2_bringsIsland_66 : decode cX2_bringsIsland 66 = .ok (.iaload, 1) := by decide +kernel
theorem dX2_bringsIsland_67 : decode cX2_bringsIsland 67 = .ok (.if_icmp .gt 7, 3) := by decide +kernel
theorem dX2_bringsIsland_70 : decode cX2_bringsIsland 70 = .ok (.iconst 1, 1) := by decide +kernel
theorem dX2_bringsIsland_71 : decode cX2_bringsIsland 71 = .ok (.goto 4, 3) := by decide +kernel
theorem dX2_bringsIsland_74 : decode cX2_bringsIsland 74 = .ok (.iconst 0, 1) := by decide +kernel
theorem dX2_bringsIsland_75 : decode cX2_bringsIsland 75 = .ok (.istore 8, 2) := by decide +kernel
theorem dX2_bringsIsland_77 : decode cX2_bringsIsland 77 = .ok (.iload 8, 2) := by decide +kernel
theorem dX2_bringsIsland_79 : decode cX2_bringsIsland 79 = .ok (.ifCond .eq 26, 3) := by decide +kernel
theorem dX2_bringsIsland_82 : decode cX2_bringsIsland 82 = .ok (.iload 7, 2) := by decide +kernel
theorem dX2_bringsIsland_84 : decode cX2_bringsIsland 84 = .ok (.iload_n 3, 1) := by decide +kernel
theorem dX2_bringsIsland_85 : decode cX2_bringsIsland 85 = .ok (.invokestatic 142, 3) := by decide +kernel
theorem dX2_bringsIsland_88 : decode cX2_bringsIsland 88 = .ok (.iload 5, 2) := by decide +kernel
theorem dX2_bringsIsland_90 : decode cX2_bringsIsland 90 = .ok (.if_icmp .ge 15, 3) := by decide +kernel
theorem dX2_bringsIsland_93 : decode cX2_bringsIsland 93 = .ok (.iload 6, 2) := by decide +kernel
theorem dX2_bringsIsland_95 : decode cX2_bringsIsland 95 = .ok (.istore 4, 2) := by decide +kernel
theorem dX2_bringsIsland_97 : decode cX2_bringsIsland 97 = .ok (.iload 7, 2) := by decide +kernel
theorem dX2_bringsIsland_99 : decode cX2_bringsIsland 99 = .ok (.iload_n 3, 1) := by decide +kernel
theorem dX2_bringsIsland_100 : decode cX2_bringsIsland 100 = .ok (.invokestatic 142, 3) := by decide +kernel
theorem dX2_bringsIsland_103 : decode cX2_bringsIsland 103 = .ok (.istore 5, 2) := by decide +kernel
theorem dX2_bringsIsland_105 : decode cX2_bringsIsland 105 = .ok (.iinc 6 1, 3) := by decide +kernel
theorem dX2_bringsIsland_108 : decode cX2_bringsIsland 108 = .ok (.goto (-89), 3) := by decide +kernel
theorem dX2_bringsIsland_111 : decode cX2_bringsIsland 111 = .ok (.iload 4, 2) := by decide +kernel
theorem dX2_bringsIsland_113 : decode cX2_bringsIsland 113 = .ok (.iconst (-1), 1) := by decide +kernel
theorem dX2_bringsIsland_114 : decode cX2_bringsIsland 114 = .ok (.if_icmp .eq 20, 3) := by decide +kernel
theorem dX2_bringsIsland_117 : decode cX2_bringsIsland 117 = .ok (.aload_n 0, 1) := by decide +kernel
theorem dX2_bringsIsland_118 : decode cX2_bringsIsland 118 = .ok (.getfield 14, 3) := by decide +kernel
theorem dX2_bringsIsland_121 : decode cX2_bringsIsland 121 = .ok (.iload_n 2, 1) := by decide +kernel
theorem dX2_bringsIsland_122 : decode cX2_bringsIsland 122 = .ok (.iload 4, 2) := by decide +kernel
theorem dX2_bringsIsland_124 : decode cX2_bringsIsland 124 = .ok (.invokevirtual 183, 3) := by decide +kernel
theorem dX2_bringsIsland_127 : decode cX2_bringsIsland 127 = .ok (.ifCond .eq 7, 3) := by decide +kernel
theorem dX2_bringsIsland_130 : decode cX2_bringsIsland 130 = .ok (.iconst 1, 1) := by decide +kernel
theorem dX2_bringsIsland_131 : decode cX2_bringsIsland 131 = .ok (.goto 4, 3) := by decide +kernel
theorem dX2_bringsIsland_134 : decode cX2_bringsIsland 134 = .ok (.iconst 0, 1) := by decide +kernel
theorem dX2_bringsIsland_135 : decode cX2_bringsIsland 135 = .ok (.ireturn, 1) := by decide +kernel
set_option maxRecDepth 20000 in
theorem ggX3_init_X0_init : GoodIn wsX3_init wsX0_init := goodIn_sub (fm_c (List.mem_cons_of_mem _ (List.mem_append_left _ (List.mem_append_left _ (mg 8 rfl)))) (ms_a (fm_c (List.mem_cons_of_mem _ (List.mem_append_left _ (List.mem_append_left _ (mg 9 rfl)))) (fm_c (List.mem_cons_of_mem _ (List.mem_append_left _ (List.mem_append_left _ (mg 1 rfl)))) (fm_c (List.mem_cons_of_mem _ (List.mem_append_left _ (List.mem_append_left _ (mg 2 rfl)))) (fm_c (List.mem_cons_of_mem _ (List.mem_append_left _ (List.mem_append_left _ (mg 10 rfl)))) (fm_c (List.mem_cons_of_mem _ (List.mem_append_left _ (List.mem_append_left _ (mg 11 rfl)))) (fm_c (List.mem_cons_of_mem _ (List.mem_append_left _ (List.mem_append_left _ (mg 12 rfl)))) (fm_n))))))) (fun _ h => List.mem_cons_of_mem _ (List.mem_append_left _ (List.mem_append_right _ (h)))))) (by decide +kernel)
set_option maxRecDepth 20000 in
theorem gX3_init_X0_init_n11 : GoodIn wsX3_init (wsX0_init) := ggX3_init_X0_init
theorem dX3_init_0 : decode cX3_init 0 = .ok (.aload_n 0, 1) := by decide +kernel
theorem dX3_init_1 : decode cX3_init 1 = .ok (.invokespecial 3, 3) := by decide +kernel
theorem dX3_init_4 : decode cX3_init 4 = .ok (.aload_n 0, 1) := by decide +kernel
theorem dX3_init_5 : decode cX3_init 5 = .ok (.new 9, 3) := by decide +kernel
theorem dX3_init_8 : decode cX3_init 8 = .ok (.dup, 1) := by decide +kernel
theorem dX3_init_9 : decode cX3_init 9 = .ok (.invokespecial 11, 3) := by decide +kernel
theorem dX3_init_12 : decode cX3_init 12 = .ok (.putfield 12, 3) := by decide +kernel
theorem dX3_init_15 : decode cX3_init 15 = .ok (.return_, 1) := by decide +kernel
theorem qX3_read_r1 {w : Cond} (h : w ∈ wsX3_read_r1) : w ∈ wsX3_read := List.mem_cons_of_mem _ (List.mem_append_left _ (List.mem_append_left _ (List.mem_append_left _ (List.mem_append_left _ (h)))))
theorem qX3_read_r2 {w : Cond} (h : w ∈ wsX3_read_r2) : w ∈ wsX3_read := List.mem_cons_of_mem _ (List.mem_append_left _ (List.mem_append_left _ (List.mem_append_left _ (List.mem_append_right _ (h)))))
set_option maxRecDepth 20000 in
theorem ggX3_read_X0_clear : GoodIn wsX3_read wsX0_clear := goodIn_sub (fm_c (qX3_read_r1 (mg 8 rfl)) (ms_a (fm_c (qX3_read_r1 (mg 9 rfl)) (fm_c (qX3_read_r1 (mg 10 rfl)) (fm_n))) (fun _ h => List.mem_cons_of_mem _ (List.mem_append_left _ (List.mem_append_right _ (h)))))) (by decide +kernel)
set_option maxRecDepth 20000 in
theorem gX3_read_X0_clear : GoodIn wsX3_read (wsV RX3 18 RX0 yX0_clear wsX0_clear) := goodIn_app (goodIn_sub (fm_c (qX3_read_r1 (mg 4 rfl)) (fm_c (qX3_read_r1 (mg 5 rfl)) (fm_c (qX3_read_r1 (mg 6 rfl)) (fm_c (qX3_read_r1 (mg 7 rfl)) (fm_n))))) (by decide +kernel)) ggX3_read_X0_clear
set_option maxRecDepth 20000 in
theorem ggX3_read_X1_length : GoodIn wsX3_read wsX1_length := goodIn_sub (fm_c (qX3_read_r1 (mg 15 rfl)) (ms_a (fm_c (qX3_read_r1 (mg 16 rfl)) (fm_n)) (fun _ h => List.mem_cons_of_mem _ (List.mem_append_right _ (h))))) (by decide +kernel)
set_option maxRecDepth 20000 in
theorem gX3_read_X1_length : GoodIn wsX3_read (wsV RX3 31 RX1 yX1_length wsX1_length) := goodIn_app (goodIn_sub (fm_c (qX3_read_r1 (mg 11 rfl)) (fm_c (qX3_read_r1 (mg 12 rfl)) (fm_c (qX3_read_r1 (mg 13 rfl)) (fm_c (qX3_read_r1 (mg 14 rfl)) (fm_n))))) (by decide +kernel)) ggX3_read_X1_length
set_option maxRecDepth 20000 in
theorem ggX3_read_X1_letterAt : GoodIn wsX3_read wsX1_letterAt := goodIn_sub (fm_c (qX3_read_r1 (mg 20 rfl)) (ms_a (fm_c (qX3_read_r1 (mg 16 rfl)) (fm_c (qX3_read_r1 (mg 21 rfl)) (fm_n))) (fun _ h => List.mem_cons_of_mem _ (List.mem_append_right _ (h))))) (by decide +kernel)
set_option maxRecDepth 20000 in
theorem gX3_read_X1_letterAt : GoodIn wsX3_read (wsV RX3 37 RX1 yX1_letterAt wsX1_letterAt) := goodIn_app (goodIn_sub (fm_c (qX3_read_r1 (mg 17 rfl)) (fm_c (qX3_read_r1 (mg 18 rfl)) (fm_c (qX3_read_r1 (mg 19 rfl)) (fm_c (qX3_read_r1 (mg 14 rfl)) (fm_n))))) (by decide +kernel)) ggX3_read_X1_letterAt
set_option maxRecDepth 20000 in
theorem ggX3_read_X3_begins : GoodIn wsX3_read wsX3_begins := goodIn_sub (fm_c (qX3_read_r2 (mg 2 rfl)) (ms_a (ms_a (fm_c (qX3_read_r1 (mg 0 rfl)) (fm_c (qX3_read_r1 (mg 2 rfl)) (fm_c (qX3_read_r1 (mg 1 rfl)) (fm_c (qX3_read_r2 (mg 3 rfl)) (fm_c (qX3_read_r2 (mg 4 rfl)) (fm_c (qX3_read_r2 (mg 1 rfl)) (fm_c (qX3_read_r2 (mg 5 rfl)) (fm_c (qX3_read_r2 (mg 6 rfl)) (fm_c (qX3_read_r2 (mg 7 rfl)) (fm_c (qX3_read_r2 (mg 8 rfl)) (fm_c (qX3_read_r1 (mg 7 rfl)) (fm_c (qX3_read_r2 (mg 9 rfl)) (fm_c (qX3_read_r1 (mg 9 rfl)) (fm_c (qX3_read_r2 (mg 10 rfl)) (fm_c (qX3_read_r2 (mg 11 rfl)) (fm_c (qX3_read_r2 (mg 12 rfl)) (fm_c (qX3_read_r2 (mg 13 rfl)) (fm_c (qX3_read_r2 (mg 14 rfl)) (fm_c (qX3_read_r2 (mg 15 rfl)) (fm_c (qX3_read_r1 (mg 10 rfl)) (fm_n))))))))))))))))))))) (fun _ h => List.mem_cons_of_mem _ (List.mem_append_left _ (List.mem_append_left _ (List.mem_append_right _ (h)))))) (fun _ h => List.mem_cons_of_mem _ (List.mem_append_left _ (List.mem_append_right _ (h)))))) (by decide +kernel)
set_option maxRecDepth 20000 in
theorem gX3_read_X3_begins : GoodIn wsX3_read (wsV RX3 41 RX3 yX3_begins wsX3_begins) := goodIn_app (goodIn_sub (fm_c (qX3_read_r1 (mg 22 rfl)) (fm_c (qX3_read_r1 (mg 23 rfl)) (fm_c (qX3_read_r2 (mg 0 rfl)) (fm_c (qX3_read_r2 (mg 1 rfl)) (fm_n))))) (by decide +kernel)) ggX3_read_X3_begins
set_option maxRecDepth 20000 in
theorem ggX3_read_X3_ends : GoodIn wsX3_read wsX3_ends := goodIn_sub (fm_c (qX3_read_r2 (mg 19 rfl)) (ms_a (ms_a (fm_c (qX3_read_r1 (mg 1 rfl)) (fm_c (qX3_read_r1 (mg 0 rfl)) (fm_c (qX3_read_r2 (mg 10 rfl)) (fm_c (qX3_read_r2 (mg 11 rfl)) (fm_c (qX3_read_r2 (mg 12 rfl)) (fm_c (qX3_read_r1 (mg 7 rfl)) (fm_c (qX3_read_r2 (mg 13 rfl)) (fm_c (qX3_read_r1 (mg 9 rfl)) (fm_c (qX3_read_r2 (mg 14 rfl)) (fm_c (qX3_read_r2 (mg 15 rfl)) (fm_c (qX3_read_r1 (mg 10 rfl)) (fm_c (qX3_read_r2 (mg 20 rfl)) (fm_c (qX3_read_r2 (mg 21 rfl)) (fm_c (qX3_read_r2 (mg 22 rfl)) (fm_c (qX3_read_r2 (mg 1 rfl)) (fm_c (qX3_read_r2 (mg 23 rfl)) (fm_c (qX3_read_r1 (mg 3 rfl)) (fm_c (qX3_read_r1 (mg 2 rfl)) (fm_n))))))))))))))))))) (fun _ h => List.mem_cons_of_mem _ (List.mem_append_left _ (List.mem_append_left _ (List.mem_append_right _ (h)))))) (fun _ h => List.mem_cons_of_mem _ (List.mem_append_left _ (List.mem_append_right _ (h)))))) (by decide +kernel)
set_option maxRecDepth 20000 in
theorem gX3_read_X3_ends : GoodIn wsX3_read (wsV RX3 45 RX3 yX3_ends wsX3_ends) := goodIn_app (goodIn_sub (fm_c (qX3_read_r2 (mg 16 rfl)) (fm_c (qX3_read_r2 (mg 17 rfl)) (fm_c (qX3_read_r2 (mg 18 rfl)) (fm_c (qX3_read_r2 (mg 1 rfl)) (fm_n))))) (by decide +kernel)) ggX3_read_X3_ends
theorem dX3_read_0 : decode cX3_read 0 = .ok (.aload_n 0, 1) := by decide +kernel
theorem dX3_read_1 : decode cX3_read 1 = .ok (.getfield 12, 3) := by decide +kernel
theorem dX3_read_4 : decode cX3_read 4 = .ok (.invokevirtual 18, 3) := by decide +kernel
theorem dX3_read_7 : decode cX3_read 7 = .ok (.aload_n 0, 1) := by decide +kernel
theorem dX3_read_8 : decode cX3_read 8 = .ok (.iconst (-1), 1) := by decide +kernel
theorem dX3_read_9 : decode cX3_read 9 = .ok (.putfield 21, 3) := by decide +kernel
theorem dX3_read_12 : decode cX3_read 12 = .ok (.aload_n 0, 1) := by decide +kernel
theorem dX3_read_13 : decode cX3_read 13 = .ok (.iconst 0, 1) := by decide +kernel
theorem dX3_read_14 : decode cX3_read 14 = .ok (.putfield 25, 3) := by decide +kernel
theorem dX3_read_17 : decode cX3_read 17 = .ok (.aload_n 0, 1) := by decide +kernel
theorem dX3_read_18 : decode cX3_read 18 = .ok (.iconst 0, 1) := by decide +kernel
theorem dX3_read_19 : decode cX3_read 19 = .ok (.putfield 28, 3) := by decide +kernel
theorem dX3_read_22 : decode cX3_read 22 = .ok (.iconst 0, 1) := by decide +kernel
theorem dX3_read_23 : decode cX3_read 23 = .ok (.istore_n 2, 1) := by decide +kernel
theorem dX3_read_24 : decode cX3_read 24 = .ok (.iload_n 2, 1) := by decide +kernel
theorem dX3_read_25 : decode cX3_read 25 = .ok (.aload_n 1, 1) := by decide +kernel
theorem dX3_read_26 : decode cX3_read 26 = .ok (.invokevirtual 31, 3) := by decide +kernel
theorem dX3_read_29 : decode cX3_read 29 = .ok (.if_icmp .ge 45, 3) := by decide +kernel
theorem dX3_read_32 : decode cX3_read 32 = .ok (.aload_n 1, 1) := by decide +kernel
theorem dX3_read_33 : decode cX3_read 33 = .ok (.iload_n 2, 1) := by decide +kernel
theorem dX3_read_34 : decode cX3_read 34 = .ok (.invokevirtual 37, 3) := by decide +kernel
theorem dX3_read_37 : decode cX3_read 37 = .ok (.istore_n 3, 1) := by decide +kernel
theorem dX3_read_38 : decode cX3_read 38 = .ok (.aload_n 0, 1) := by decide +kernel
theorem dX3_read_39 : decode cX3_read 39 = .ok (.getfield 21, 3) := by decide +kernel
theorem dX3_read_42 : decode cX3_read 42 = .ok (.iconst (-1), 1) := by decide +kernel
theorem dX3_read_43 : decode cX3_read 43 = .ok (.if_icmp .ne 11, 3) := by decide +kernel
theorem dX3_read_46 : decode cX3_read 46 = .ok (.aload_n 0, 1) := by decide +kernel
theorem dX3_read_47 : decode cX3_read 47 = .ok (.iload_n 3, 1) := by decide +kernel
theorem dX3_read_48 : decode cX3_read 48 = .ok (.invokevirtual 41, 3) := by decide +kernel
theorem dX3_read_51 : decode cX3_read 51 = .ok (.goto 8, 3) := by decide +kernel
theorem dX3_read_54 : decode cX3_read 54 = .ok (.aload_n 0, 1) := by decide +kernel
theorem dX3_read_55 : decode cX3_read 55 = .ok (.iload_n 3, 1) := by decide +kernel
theorem dX3_read_56 : decode cX3_read 56 = .ok (.invokevirtual 45, 3) := by decide +kernel
theorem dX3_read_59 : decode cX3_read 59 = .ok (.istore 4, 2) := by decide +kernel
theorem dX3_read_61 : decode cX3_read 61 = .ok (.iload 4, 2) := by decide +kernel
theorem dX3_read_63 : decode cX3_read 63 = .ok (.ifCond .ne 5, 3) := by decide +kernel
theorem dX3_read_66 : decode cX3_read 66 = .ok (.iload_n 2, 1) := by decide +kernel
theorem dX3_read_67 : decode cX3_read 67 = .ok (.ireturn, 1) := by decide +kernel
theorem dX3_read_68 : decode cX3_read 68 = .ok (.iinc 2 1, 3) := by decide +kernel
theorem dX3_read_71 : decode cX3_read 71 = .ok (.goto (-47), 3) := by decide +kernel
theorem dX3_read_74 : decode cX3_read 74 = .ok (.aload_n 1, 1) := by decide +kernel
theorem dX3_read_75 : decode cX3_read 75 = .ok (.invokevirtual 31, 3) := by decide +kernel
theorem dX3_read_78 : decode cX3_read 78 = .ok (.ireturn, 1) := by decide +kernel
set_option maxRecDepth 20000 in
theorem ggX3_isWhole_X0_size : GoodIn wsX3_isWhole wsX0_size := goodIn_sub (fm_c (List.mem_cons_of_mem _ (List.mem_append_left _ (List.mem_append_left _ (mg 8 rfl)))) (ms_a (fm_c (List.mem_cons_of_mem _ (List.mem_append_left _ (List.mem_append_left _ (mg 9 rfl)))) (fm_n)) (fun _ h => List.mem_cons_of_mem _ (List.mem_append_right _ (h))))) (by decide +kernel)
set_option maxRecDepth 20000 in
theorem gX3_isWhole_X0_size : GoodIn wsX3_isWhole (wsV RX3 48 RX0 yX0_size wsX0_size) := goodIn_app (goodIn_sub (fm_c (List.mem_cons_of_mem _ (List.mem_append_left _ (List.mem_append_left _ (mg 4 rfl)))) (fm_c (List.mem_cons_of_mem _ (List.mem_append_left _ (List.mem_append_left _ (mg 5 rfl)))) (fm_c (List.mem_cons_of_mem _ (List.mem_append_left _ (List.mem_append_left _ (mg 6 rfl)))) (fm_c (List.mem_cons_of_mem _ (List.mem_append_left _ (List.mem_append_left _ (mg 7 rfl)))) (fm_n))))) (by decide +kernel)) ggX3_isWhole_X0_size
theorem dX3_isWhole_0 : decode cX3_isWhole 0 = .ok (.aload_n 0, 1) := by decide +kernel
theorem dX3_isWhole_1 : decode cX3_isWhole 1 = .ok (.getfield 12, 3) := by decide +kernel
theorem dX3_isWhole_4 : decode cX3_isWhole 4 = .ok (.invokevirtual 48, 3) := by decide +kernel
theorem dX3_isWhole_7 : decode cX3_isWhole 7 = .ok (.ifCond .le 29, 3) := by decide +kernel
theorem dX3_isWhole_10 : decode cX3_isWhole 10 = .ok (.aload_n 0, 1) := by decide +kernel
theorem dX3_isWhole_11 : decode cX3_isWhole 11 = .ok (.getfield 21, 3) := by decide +kernel
theorem dX3_isWhole_14 : decode cX3_isWhole 14 = .ok (.iconst (-1), 1) := by decide +kernel
theorem dX3_isWhole_15 : decode cX3_isWhole 15 = .ok (.if_icmp .ne 21, 3) := by decide +kernel
theorem dX3_isWhole_18 : decode cX3_isWhole 18 = .ok (.aload_n 0, 1) := by decide +kernel
theorem dX3_isWhole_19 : decode cX3_isWhole 19 = .ok (.getfield 28, 3) := by decide +kernel
theorem dX3_isWhole_22 : decode cX3_isWhole 22 = .ok (.aload_n 0, 1) := by decide +kernel
theorem dX3_isWhole_23 : decode cX3_isWhole 23 = .ok (.getfield 25, 3) := by decide +kernel
theorem dX3_isWhole_26 : decode cX3_isWhole 26 = .ok (.iconst (-1), 1) := by decide +kernel
theorem dX3_isWhole_27 : decode cX3_isWhole 27 = .ok (.ixor, 1) := by decide +kernel
theorem dX3_isWhole_28 : decode cX3_isWhole 28 = .ok (.iand, 1) := by decide +kernel
theorem dX3_isWhole_29 : decode cX3_isWhole 29 = .ok (.ifCond .ne 7, 3) := by decide +kernel
theorem dX3_isWhole_32 : decode cX3_isWhole 32 = .ok (.iconst 1, 1) := by decide +kernel
theorem dX3_isWhole_33 : decode cX3_isWhole 33 = .ok (.goto 4, 3) := by decide +kernel
theorem dX3_isWhole_36 : decode cX3_isWhole 36 = .ok (.iconst 0, 1) := by decide +kernel
theorem dX3_isWhole_37 : decode cX3_isWhole 37 = .ok (.ireturn, 1) := by decide +kernel
set_option maxRecDepth 20000 in
theorem ggX3_begins_X3_kindBegunBy : GoodIn wsX3_begins wsX3_kindBegunBy := goodIn_sub (fm_c (List.mem_cons_of_mem _ (List.mem_append_left _ (List.mem_append_left _ (mg 6 rfl)))) (fm_n)) (by decide +kernel)
set_option maxRecDepth 20000 in
theorem gX3_begins_X3_kindBegunBy : GoodIn wsX3_begins (va_wsS RX3 51 yX3_kindBegunBy wsX3_kindBegunBy) := goodIn_app (goodIn_sub (fm_c (List.mem_cons_of_mem _ (List.mem_append_left _ (List.mem_append_left _ (mg 3 rfl)))) (fm_c (List.mem_cons_of_mem _ (List.mem_append_left _ (List.mem_append_left _ (mg 4 rfl)))) (fm_c (List.mem_cons_of_mem _ (List.mem_append_left _ (List.mem_append_left _ (mg 5 rfl)))) (fm_n)))) (by decide +kernel)) ggX3_begins_X3_kindBegunBy
set_option maxRecDepth 20000 in
theorem ggX3_begins_X0_size : GoodIn wsX3_begins wsX0_size := goodIn_sub (fm_c (List.mem_cons_of_mem _ (List.mem_append_left _ (List.mem_append_left _ (mg 11 rfl)))) (ms_a (fm_c (List.mem_cons_of_mem _ (List.mem_append_left _ (List.mem_append_left _ (mg 12 rfl)))) (fm_n)) (fun _ h => List.mem_cons_of_mem _ (List.mem_append_right _ (h))))) (by decide +kernel)
set_option maxRecDepth 20000 in
theorem gX3_begins_X0_size : GoodIn wsX3_begins (wsV RX3 48 RX0 yX0_size wsX0_size) := goodIn_app (goodIn_sub (fm_c (List.mem_cons_of_mem _ (List.mem_append_left _ (List.mem_append_left _ (mg 7 rfl)))) (fm_c (List.mem_cons_of_mem _ (List.mem_append_left _ (List.mem_append_left _ (mg 8 rfl)))) (fm_c (List.mem_cons_of_mem _ (List.mem_append_left _ (List.mem_append_left _ (mg 9 rfl)))) (fm_c (List.mem_cons_of_mem _ (List.mem_append_left _ (List.mem_append_left _ (mg 10 rfl)))) (fm_n))))) (by decide +kernel)) ggX3_begins_X0_size
set_option maxRecDepth 20000 in
theorem ggX3_begins_X0_add : GoodIn wsX3_begins wsX0_add := goodIn_sub (fm_c (List.mem_cons_of_mem _ (List.mem_append_left _ (List.mem_append_left _ (mg 16 rfl)))) (ms_a (fm_c (List.mem_cons_of_mem _ (List.mem_append_left _ (List.mem_append_left _ (mg 12 rfl)))) (fm_c (List.mem_cons_of_mem _ (List.mem_append_left _ (List.mem_append_left _ (mg 17 rfl)))) (fm_c (List.mem_cons_of_mem _ (List.mem_append_left _ (List.mem_append_left _ (mg 18 rfl)))) (fm_c (List.mem_cons_of_mem _ (List.mem_append_left _ (List.mem_append_left _ (mg 19 rfl)))) (fm_n))))) (fun _ h => List.mem_cons_of_mem _ (List.mem_append_right _ (h))))) (by decide +kernel)
set_option maxRecDepth 20000 in
theorem gX3_begins_X0_add : GoodIn wsX3_begins (wsV RX3 54 RX0 yX0_add wsX0_add) := goodIn_app (goodIn_sub (fm_c (List.mem_cons_of_mem _ (List.mem_append_left _ (List.mem_append_left _ (mg 13 rfl)))) (fm_c (List.mem_cons_of_mem _ (List.mem_append_left _ (List.mem_append_left _ (mg 14 rfl)))) (fm_c (List.mem_cons_of_mem _ (List.mem_append_left _ (List.mem_append_left _ (mg 15 rfl)))) (fm_c (List.mem_cons_of_mem _ (List.mem_append_left _ (List.mem_append_left _ (mg 10 rfl)))) (fm_n))))) (by decide +kernel)) ggX3_begins_X0_add
theorem dX3_begins_0 : decode cX3_begins 0 = .ok (.iload_n 1, 1) := by decide +kernel
theorem dX3_begins_1 : decode cX3_begins 1 = .ok (.invokestatic 51, 3) := by decide +kernel
theorem dX3_begins_4 : decode cX3_begins 4 = .ok (.istore_n 2, 1) := by decide +kernel
theorem dX3_begins_5 : decode cX3_begins 5 = .ok (.iload_n 2, 1) := by decide +kernel
theorem dX3_begins_6 : decode cX3_begins 6 = .ok (.iconst (-1), 1) := by decide +kernel
theorem dX3_begins_7 : decode cX3_begins 7 = .ok (.if_icmp .eq 15, 3) := by decide +kernel
theorem dX3_begins_10 : decode cX3_begins 10 = .ok (.aload_n 0, 1) := by decide +kernel
theorem dX3_begins_11 : decode cX3_begins 11 = .ok (.getfield 12, 3) := by decide +kernel
theorem dX3_begins_14 : decode cX3_begins 14 = .ok (.invokevirtual 48, 3) := by decide +kernel
theorem dX3_begins_17 : decode cX3_begins 17 = .ok (.bipush 24, 2) := by decide +kernel
theorem dX3_begins_19 : decode cX3_begins 19 = .ok (.if_icmp .lt 5, 3) := by decide +kernel
theorem dX3_begins_22 : decode cX3_begins 22 = .ok (.iconst 0, 1) := by decide +kernel
theorem dX3_begins_23 : decode cX3_begins 23 = .ok (.ireturn, 1) := by decide +kernel
theorem dX3_begins_24 : decode cX3_begins 24 = .ok (.iload_n 2, 1) := by decide +kernel
theorem dX3_begins_25 : decode cX3_begins 25 = .ok (.iconst 5, 1) := by decide +kernel
theorem dX3_begins_26 : decode cX3_begins 26 = .ok (.if_icmp .ne 13, 3) := by decide +kernel
theorem dX3_begins_29 : decode cX3_begins 29 = .ok (.aload_n 0, 1) := by decide +kernel
theorem dX3_begins_30 : decode cX3_begins 30 = .ok (.getfield 12, 3) := by decide +kernel
theorem dX3_begins_33 : decode cX3_begins 33 = .ok (.iconst 5, 1) := by decide +kernel
theorem dX3_begins_34 : decode cX3_begins 34 = .ok (.iconst 0, 1) := by decide +kernel
theorem dX3_begins_35 : decode cX3_begins 35 = .ok (.invokevirtual 54, 3) := by decide +kernel
theorem dX3_begins_38 : decode cX3_begins 38 = .ok (.ireturn, 1) := by decide +kernel
theorem dX3_begins_39 : decode cX3_begins 39 = .ok (.iload_n 2, 1) := by decide +kernel
theorem dX3_begins_40 : decode cX3_begins 40 = .ok (.iconst 3, 1) := by decide +kernel
theorem dX3_begins_41 : decode cX3_begins 41 = .ok (.if_icmp .ne 15, 3) := by decide +kernel
theorem dX3_begins_44 : decode cX3_begins 44 = .ok (.aload_n 0, 1) := by decide +kernel
theorem dX3_begins_45 : decode cX3_begins 45 = .ok (.getfield 25, 3) := by decide +kernel
theorem dX3_begins_48 : decode cX3_begins 48 = .ok (.sipush 255, 3) := by decide +kernel
theorem dX3_begins_51 : decode cX3_begins 51 = .ok (.if_icmp .ne 5, 3) := by decide +kernel
theorem dX3_begins_54 : decode cX3_begins 54 = .ok (.iconst 0, 1) := by decide +kernel
theorem dX3_begins_55 : decode cX3_begins 55 = .ok (.ireturn, 1) := by decide +kernel
theorem dX3_begins_56 : decode cX3_begins 56 = .ok (.aload_n 0, 1) := by decide +kernel
theorem dX3_begins_57 : decode cX3_begins 57 = .ok (.iload_n 2, 1) := by decide +kernel
theorem dX3_begins_58 : decode cX3_begins 58 = .ok (.putfield 21, 3) := by decide +kernel
theorem dX3_begins_61 : decode cX3_begins 61 = .ok (.iconst 1, 1) := by decide +kernel
theorem dX3_begins_62 : decode cX3_begins 62 = .ok (.ireturn, 1) := by decide +kernel
set_option maxRecDepth 20000 in
theorem ggX3_ends_X0_add : GoodIn wsX3_ends wsX0_add := goodIn_sub (fm_c (List.mem_cons_of_mem _ (List.mem_append_left _ (List.mem_append_left _ (mg 6 rfl)))) (ms_a (fm_c (List.mem_cons_of_mem _ (List.mem_append_left _ (List.mem_append_left _ (mg 7 rfl)))) (fm_c (List.mem_cons_of_mem _ (List.mem_append_left _ (List.mem_append_left _ (mg 8 rfl)))) (fm_c (List.mem_cons_of_mem _ (List.mem_append_left _ (List.mem_append_left _ (mg 9 rfl)))) (fm_c (List.mem_cons_of_mem _ (List.mem_append_left _ (List.mem_append_left _ (mg 10 rfl)))) (fm_n))))) (fun _ h => List.mem_cons_of_mem _ (List.mem_append_right _ (h))))) (by decide +kernel)
set_option maxRecDepth 20000 in
theorem gX3_ends_X0_add : GoodIn wsX3_ends (wsV RX3 54 RX0 yX0_add wsX0_add) := goodIn_app (goodIn_sub (fm_c (List.mem_cons_of_mem _ (List.mem_append_left _ (List.mem_append_left _ (mg 2 rfl)))) (fm_c (List.mem_cons_of_mem _ (List.mem_append_left _ (List.mem_append_left _ (mg 3 rfl)))) (fm_c (List.mem_cons_of_mem _ (List.mem_append_left _ (List.mem_append_left _ (mg 4 rfl)))) (fm_c (List.mem_cons_of_mem _ (List.mem_append_left _ (List.mem_append_left _ (mg 5 rfl)))) (fm_n))))) (by decide +kernel)) ggX3_ends_X0_add
set_option maxRecDepth 20000 in
theorem ggX3_ends_X3_endsWithLabel : GoodIn wsX3_ends wsX3_endsWithLabel := goodIn_sub (fm_c (List.mem_cons_of_mem _ (List.mem_append_left _ (List.mem_append_left _ (mg 15 rfl)))) (ms_a (ms_a (fm_c (List.mem_cons_of_mem _ (List.mem_append_left _ (List.mem_append_left _ (mg 16 rfl)))) (fm_c (List.mem_cons_of_mem _ (List.mem_append_left _ (List.mem_append_left _ (mg 1 rfl)))) (fm_c (List.mem_cons_of_mem _ (List.mem_append_left _ (List.mem_append_left _ (mg 17 rfl)))) (fm_c (List.mem_cons_of_mem _ (List.mem_append_left _ (List.mem_append_left _ (mg 2 rfl)))) (fm_c (List.mem_cons_of_mem _ (List.mem_append_left _ (List.mem_append_left _ (mg 3 rfl)))) (fm_c (List.mem_cons_of_mem _ (List.mem_append_left _ (List.mem_append_left _ (mg 4 rfl)))) (fm_c (List.mem_cons_of_mem _ (List.mem_append_left _ (List.mem_append_left _ (mg 5 rfl)))) (fm_c (List.mem_cons_of_mem _ (List.mem_append_left _ (List.mem_append_left _ (mg 6 rfl)))) (fm_c (List.mem_cons_of_mem _ (List.mem_append_left _ (List.mem_append_left _ (mg 7 rfl)))) (fm_c (List.mem_cons_of_mem _ (List.mem_append_left _ (List.mem_append_left _ (mg 8 rfl)))) (fm_c (List.mem_cons_of_mem _ (List.mem_append_left _ (List.mem_append_left _ (mg 9 rfl)))) (fm_c (List.mem_cons_of_mem _ (List.mem_append_left _ (List.mem_append_left _ (mg 10 rfl)))) (fm_n))))))))))))) (fun _ h => List.mem_cons_of_mem _ (List.mem_append_left _ (List.mem_append_right _ (h))))) (fun _ h => List.mem_cons_of_mem _ (List.mem_append_right _ (h))))) (by decide +kernel)
set_option maxRecDepth 20000 in
theorem gX3_ends_X3_endsWithLabel : GoodIn wsX3_ends (wsV RX3 58 RX3 yX3_endsWithLabel wsX3_endsWithLabel) := goodIn_app (goodIn_sub (fm_c (List.mem_cons_of_mem _ (List.mem_append_left _ (List.mem_append_left _ (mg 11 rfl)))) (fm_c (List.mem_cons_of_mem _ (List.mem_append_left _ (List.mem_append_left _ (mg 12 rfl)))) (fm_c (List.mem_cons_of_mem _ (List.mem_append_left _ (List.mem_append_left _ (mg 13 rfl)))) (fm_c (List.mem_cons_of_mem _ (List.mem_append_left _ (List.mem_append_left _ (mg 14 rfl)))) (fm_n))))) (by decide +kernel)) ggX3_ends_X3_endsWithLabel
theorem dX3_ends_0 : decode cX3_ends 0 = .ok (.aload_n 0, 1) := by decide +kernel
theorem dX3_ends_1 : decode cX3_ends 1 = .ok (.getfield 21, 3) := by decide +kernel
theorem dX3_ends_4 : decode cX3_ends 4 = .ok (.istore_n 2, 1) := by decide +kernel
theorem dX3_ends_5 : decode cX3_ends 5 = .ok (.aload_n 0, 1) := by decide +kernel
theorem dX3_ends_6 : decode cX3_ends 6 = .ok (.iconst (-1), 1) := by decide +kernel
theorem dX3_ends_7 : decode cX3_ends 7 = .ok (.putfield 21, 3) := by decide +kernel
theorem dX3_ends_10 : decode cX3_ends 10 = .ok (.iload_n 2, 1) := by decide +kernel
theorem dX3_ends_11 : decode cX3_ends 11 = .ok (.tableswitch 134 0 4 #[33, 66, 134, 134, 99], 33) := by decide +kernel
theorem dX3_ends_44 : decode cX3_ends 44 = .ok (.iload_n 1, 1) := by decide +kernel
theorem dX3_ends_45 : decode cX3_ends 45 = .ok (.bipush 49, 2) := by decide +kernel
theorem dX3_ends_47 : decode cX3_ends 47 = .ok (.if_icmp .lt 28, 3) := by decide +kernel
theorem dX3_ends_50 : decode cX3_ends 50 = .ok (.iload_n 1, 1) := by decide +kernel
theorem dX3_ends_51 : decode cX3_ends 51 = .ok (.bipush 57, 2) := by decide +kernel
theorem dX3_ends_53 : decode cX3_ends 53 = .ok (.if_icmp .gt 22, 3) := by decide +kernel
theorem dX3_ends_56 : decode cX3_ends 56 = .ok (.aload_n 0, 1) := by decide +kernel
theorem dX3_ends_57 : decode cX3_ends 57 = .ok (.getfield 12, 3) := by decide +kernel
theorem dX3_ends_60 : decode cX3_ends 60 = .ok (.iconst 0, 1) := by decide +kernel
theorem dX3_ends_61 : decode cX3_ends 61 = .ok (.iload_n 1, 1) := by decide +kernel
theorem dX3_ends_62 : decode cX3_ends 62 = .ok (.bipush 48, 2) := by decide +kernel
theorem dX3_ends_64 : decode cX3_ends 64 = .ok (.isub, 1) := by decide +kernel
theorem dX3_ends_65 : decode cX3_ends 65 = .ok (.invokevirtual 54, 3) := by decide +kernel
theorem dX3_ends_68 : decode cX3_ends 68 = .ok (.ifCond .eq 7, 3) := by decide +kernel
theorem dX3_ends_71 : decode cX3_ends 71 = .ok (.iconst 1, 1) := by decide +kernel
theorem dX3_ends_72 : decode cX3_ends 72 = .ok (.goto 4, 3) := by decide +kernel
theorem dX3_ends_75 : decode cX3_ends 75 = .ok (.iconst 0, 1) := by decide +kernel
theorem dX3_ends_76 : decode cX3_ends 76 = .ok (.ireturn, 1) := by decide +kernel
theorem dX3_ends_77 : decode cX3_ends 77 = .ok (.iload_n 1, 1) := by decide +kernel
theorem dX3_ends_78 : decode cX3_ends 78 = .ok (.bipush 48, 2) := by decide +kernel
theorem dX3_ends_80 : decode cX3_ends 80 = .ok (.if_icmp .lt 28, 3) := by decide +kernel
theorem dX3_ends_83 : decode cX3_ends 83 = .ok (.iload_n 1, 1) := by decide +kernel
theorem dX3_ends_84 : decode cX3_ends 84 = .ok (.bipush 57, 2) := by decide +kernel
theorem dX3_ends_86 : decode cX3_ends 86 = .ok (.if_icmp .gt 22, 3) := by decide +kernel
theorem dX3_ends_89 : decode cX3_ends 89 = .ok (.aload_n 0, 1) := by decide +kernel
theorem dX3_ends_90 : decode cX3_ends 90 = .ok (.getfield 12, 3) := by decide +kernel
theorem dX3_ends_93 : decode cX3_ends 93 = .ok (.iconst 1, 1) := by decide +kernel
theorem dX3_ends_94 : decode cX3_ends 94 = .ok (.iload_n 1, 1) := by decide +kernel
theorem dX3_ends_95 : decode cX3_ends 95 = .ok (.bipush 48, 2) := by decide +kernel
theorem dX3_ends_97 : decode cX3_ends 97 = .ok (.isub, 1) := by decide +kernel
theorem dX3_ends_98 : decode cX3_ends 98 = .ok (.invokevirtual 54, 3) := by decide +kernel
theorem dX3_ends_101 : decode cX3_ends 101 = .ok (.ifCond .eq 7, 3) := by decide +kernel
theorem dX3_ends_104 : decode cX3_ends 104 = .ok (.iconst 1, 1) := by decide +kernel
theorem dX3_ends_105 : decode cX3_ends 105 = .ok (.goto 4, 3) := by decide +kernel
theorem dX3_ends_108 : decode cX3_ends 108 = .ok (.iconst 0, 1) := by decide +kernel
theorem dX3_ends_109 : decode cX3_ends 109 = .ok (.ireturn, 1) := by decide +kernel
theorem dX3_ends_110 : decode cX3_ends 110 = .ok (.iload_n 1, 1) := by decide +kernel
theorem dX3_ends_111 : decode cX3_ends 111 = .ok (.bipush 49, 2) := by decide +kernel
theorem dX3_ends_113 : decode cX3_ends 113 = .ok (.if_icmp .lt 30, 3) := by decide +kernel
theorem dX3_ends_116 : decode cX3_ends 116 = .ok (.iload_n 1, 1) := by decide +kernel
theorem dX3_ends_117 : decode cX3_ends 117 = .ok (.bipush 51, 2) := by decide +kernel
theorem dX3_ends_119 : decode cX3_ends 119 = .ok (.if_icmp .gt 24, 3) := by decide +kernel
theorem dX3_ends_122 : decode cX3_ends 122 = .ok (.aload_n 0, 1) := by decide +kernel
theorem dX3_ends_123 : decode cX3_ends 123 = .ok (.getfield 12, 3) := by decide +kernel
theorem dX3_ends_126 : decode cX3_ends 126 = .ok (.iconst 4, 1) := by decide +kernel
theorem dX3_ends_127 : decode cX3_ends 127 = .ok (.iconst 1, 1) := by decide +kernel
theorem dX3_ends_128 : decode cX3_ends 128 = .ok (.iload_n 1, 1) := by decide +kernel
theorem dX3_ends_129 : decode cX3_ends 129 = .ok (.bipush 48, 2) := by decide +kernel
theorem dX3_ends_131 : decode cX3_ends 131 = .ok (.isub, 1) := by decide +kernel
theorem dX3_ends_132 : decode cX3_ends 132 = .ok (.ishl, 1) := by decide +kernel
theorem dX3_ends_133 : decode cX3_ends 133 = .ok (.invokevirtual 54, 3) := by decide +kernel
theorem dX3_ends_136 : decode cX3_ends 136 = .ok (.ifCond .eq 7, 3) := by decide +kernel
theorem dX3_ends_139 : decode cX3_ends 139 = .ok (.iconst 1, 1) := by decide +kernel
theorem dX3_ends_140 : decode cX3_ends 140 = .ok (.goto 4, 3) := by decide +kernel
theorem dX3_ends_143 : decode cX3_ends 143 = .ok (.iconst 0, 1) := by decide +kernel
theorem dX3_ends_144 : decode cX3_ends 144 = .ok (.ireturn, 1) := by decide +kernel
theorem dX3_ends_145 : decode cX3_ends 145 = .ok (.iload_n 1, 1) := by decide +kernel
theorem dX3_ends_146 : decode cX3_ends 146 = .ok (.bipush 65, 2) := by decide +kernel
theorem dX3_ends_148 : decode cX3_ends 148 = .ok (.if_icmp .lt 25, 3) := by decide +kernel
theorem dX3_ends_151 : decode cX3_ends 151 = .ok (.iload_n 1, 1) := by decide +kernel
theorem dX3_ends_152 : decode cX3_ends 152 = .ok (.bipush 73, 2) := by decide +kernel
theorem dX3_ends_154 : decode cX3_ends 154 = .ok (.if_icmp .ge 19, 3) := by decide +kernel
theorem dX3_ends_157 : decode cX3_ends 157 = .ok (.aload_n 0, 1) := by decide +kernel
theorem dX3_ends_158 : decode cX3_ends 158 = .ok (.iload_n 2, 1) := by decide +kernel
theorem dX3_ends_159 : decode cX3_ends 159 = .ok (.iload_n 1, 1) := by decide +kernel
theorem dX3_ends_160 : decode cX3_ends 160 = .ok (.bipush 65, 2) := by decide +kernel
theorem dX3_ends_162 : decode cX3_ends 162 = .ok (.isub, 1) := by decide +kernel
theorem dX3_ends_163 : decode cX3_ends 163 = .ok (.invokevirtual 58, 3) := by decide +kernel
theorem dX3_ends_166 : decode cX3_ends 166 = .ok (.ifCond .eq 7, 3) := by decide +kernel
theorem dX3_ends_169 : decode cX3_ends 169 = .ok (.iconst 1, 1) := by decide +kernel
theorem dX3_ends_170 : decode cX3_ends 170 = .ok (.goto 4, 3) := by decide +kernel
theorem dX3_ends_173 : decode cX3_ends 173 = .ok (.iconst 0, 1) := by decide +kernel
theorem dX3_ends_174 : decode cX3_ends 174 = .ok (.ireturn, 1) := by decide +kernel
set_option maxRecDepth 20000 in
theorem ggX3_endsWithLabel_X0_add : GoodIn wsX3_endsWithLabel wsX0_add := goodIn_sub (fm_c (List.mem_cons_of_mem _ (List.mem_append_left _ (List.mem_append_left _ (mg 7 rfl)))) (ms_a (fm_c (List.mem_cons_of_mem _ (List.mem_append_left _ (List.mem_append_left _ (mg 8 rfl)))) (fm_c (List.mem_cons_of_mem _ (List.mem_append_left _ (List.mem_append_left _ (mg 9 rfl)))) (fm_c (List.mem_cons_of_mem _ (List.mem_append_left _ (List.mem_append_left _ (mg 10 rfl)))) (fm_c (List.mem_cons_of_mem _ (List.mem_append_left _ (List.mem_append_left _ (mg 11 rfl)))) (fm_n))))) (fun _ h => List.mem_cons_of_mem _ (List.mem_append_right _ (h))))) (by decide +kernel)
set_option maxRecDepth 20000 in
theorem gX3_endsWithLabel_X0_add : GoodIn wsX3_endsWithLabel (wsV RX3 54 RX0 yX0_add wsX0_add) := goodIn_app (goodIn_sub (fm_c (List.mem_cons_of_mem _ (List.mem_append_left _ (List.mem_append_left _ (mg 3 rfl)))) (fm_c (List.mem_cons_of_mem _ (List.mem_append_left _ (List.mem_append_left _ (mg 4 rfl)))) (fm_c (List.mem_cons_of_mem _ (List.mem_append_left _ (List.mem_append_left _ (mg 5 rfl)))) (fm_c (List.mem_cons_of_mem _ (List.mem_append_left _ (List.mem_append_left _ (mg 6 rfl)))) (fm_n))))) (by decide +kernel)) ggX3_endsWithLabel_X0_add
theorem dX3_endsWithLabel_0 : decode cX3_endsWithLabel 0 = .ok (.iconst 1, 1) := by decide +kernel
theorem dX3_endsWithLabel_1 : decode cX3_endsWithLabel 1 = .ok (.iload_n 2, 1) := by decide +kernel
theorem dX3_endsWithLabel_2 : decode cX3_endsWithLabel 2 = .ok (.ishl, 1) := by decide +kernel
theorem dX3_endsWithLabel_3 : decode cX3_endsWithLabel 3 = .ok (.istore_n 3, 1) := by decide +kernel
theorem dX3_endsWithLabel_4 : decode cX3_endsWithLabel 4 = .ok (.iload_n 1, 1) := by decide +kernel
theorem dX3_endsWithLabel_5 : decode cX3_endsWithLabel 5 = .ok (.iconst 2, 1) := by decide +kernel
theorem dX3_endsWithLabel_6 : decode cX3_endsWithLabel 6 = .ok (.if_icmp .ne 23, 3) := by decide +kernel
theorem dX3_endsWithLabel_9 : decode cX3_endsWithLabel 9 = .ok (.aload_n 0, 1) := by decide +kernel
theorem dX3_endsWithLabel_10 : decode cX3_endsWithLabel 10 = .ok (.dup, 1) := by decide +kernel
theorem dX3_endsWithLabel_11 : decode cX3_endsWithLabel 11 = .ok (.getfield 28, 3) := by decide +kernel
theorem dX3_endsWithLabel_14 : decode cX3_endsWithLabel 14 = .ok (.iload_n 3, 1) := by decide +kernel
theorem dX3_endsWithLabel_15 : decode cX3_endsWithLabel 15 = .ok (.ior, 1) := by decide +kernel
theorem dX3_endsWithLabel_16 : decode cX3_endsWithLabel 16 = .ok (.putfield 28, 3) := by decide +kernel
theorem dX3_endsWithLabel_19 : decode cX3_endsWithLabel 19 = .ok (.aload_n 0, 1) := by decide +kernel
theorem dX3_endsWithLabel_20 : decode cX3_endsWithLabel 20 = .ok (.getfield 12, 3) := by decide +kernel
theorem dX3_endsWithLabel_23 : decode cX3_endsWithLabel 23 = .ok (.iconst 2, 1) := by decide +kernel
theorem dX3_endsWithLabel_24 : decode cX3_endsWithLabel 24 = .ok (.iload_n 2, 1) := by decide +kernel
theorem dX3_endsWithLabel_25 : decode cX3_endsWithLabel 25 = .ok (.invokevirtual 54, 3) := by decide +kernel
theorem dX3_endsWithLabel_28 : decode cX3_endsWithLabel 28 = .ok (.ireturn, 1) := by decide +kernel
theorem dX3_endsWithLabel_29 : decode cX3_endsWithLabel 29 = .ok (.aload_n 0, 1) := by decide +kernel
theorem dX3_endsWithLabel_30 : decode cX3_endsWithLabel 30 = .ok (.getfield 25, 3) := by decide +kernel
theorem dX3_endsWithLabel_33 : decode cX3_endsWithLabel 33 = .ok (.iload_n 3, 1) := by decide +kernel
theorem dX3_endsWithLabel_34 : decode cX3_endsWithLabel 34 = .ok (.iand, 1) := by decide +kernel
theorem dX3_endsWithLabel_35 : decode cX3_endsWithLabel 35 = .ok (.ifCond .eq 5, 3) := by decide +kernel
theorem dX3_endsWithLabel_38 : decode cX3_endsWithLabel 38 = .ok (.iconst 0, 1) := by decide +kernel
theorem dX3_endsWithLabel_39 : decode cX3_endsWithLabel 39 = .ok (.ireturn, 1) := by decide +kernel
theorem dX3_endsWithLabel_40 : decode cX3_endsWithLabel 40 = .ok (.aload_n 0, 1) := by decide +kernel
theorem dX3_endsWithLabel_41 : decode cX3_endsWithLabel 41 = .ok (.dup, 1) := by decide +kernel
theorem dX3_endsWithLabel_42 : decode cX3_endsWithLabel 42 = .ok (.getfield 25, 3) := by decide +kernel
theorem dX3_endsWithLabel_45 : decode cX3_endsWithLabel 45 = .ok (.iload_n 3, 1) := by decide +kernel
theorem dX3_endsWithLabel_46 : decode cX3_endsWithLabel 46 = .ok (.ior, 1) := by decide +kernel
theorem dX3_endsWithLabel_47 : decode cX3_endsWithLabel 47 = .ok (.putfield 25, 3) := by decide +kernel
theorem dX3_endsWithLabel_50 : decode cX3_endsWithLabel 50 = .ok (.aload_n 0, 1) := by decide +kernel
theorem dX3_endsWithLabel_51 : decode cX3_endsWithLabel 51 = .ok (.getfield 12, 3) := by decide +kernel
theorem dX3_endsWithLabel_54 : decode cX3_endsWithLabel 54 = .ok (.iconst 3, 1) := by decide +kernel
theorem dX3_endsWithLabel_55 : decode cX3_endsWithLabel 55 = .ok (.iload_n 2, 1) := by decide +kernel
theorem dX3_endsWithLabel_56 : decode cX3_endsWithLabel 56 = .ok (.invokevirtual 54, 3) := by decide +kernel
theorem dX3_endsWithLabel_59 : decode cX3_endsWithLabel 59 = .ok (.ireturn, 1) := by decide +kernel
theorem dX3_kindBegunBy_0 : decode cX3_kindBegunBy 0 = .ok (.iload_n 0, 1) := by decide +kernel
theorem dX3_kindBegunBy_1 : decode cX3_kindBegunBy 1 = .ok (.lookupswitch 71 #[(58, 65), (97, 67), (98, 63), (108, 61), (110, 59), (114, 69)], 59) := by decide +kernel
theorem dX3_kindBegunBy_60 : decode cX3_kindBegunBy 60 = .ok (.iconst 0, 1) := by decide +kernel
theorem dX3_kindBegunBy_61 : decode cX3_kindBegunBy 61 = .ok (.ireturn, 1) := by decide +kernel
theorem dX3_kindBegunBy_62 : decode cX3_kindBegunBy 62 = .ok (.iconst 1, 1) := by decide +kernel
theorem dX3_kindBegunBy_63 : decode cX3_kindBegunBy 63 = .ok (.ireturn, 1) := by decide +kernel
theorem dX3_kindBegunBy_64 : decode cX3_kindBegunBy 64 = .ok (.iconst 2, 1) := by decide +kernel
theorem dX3_kindBegunBy_65 : decode cX3_kindBegunBy 65 = .ok (.ireturn, 1) := by decide +kernel
theorem dX3_kindBegunBy_66 : decode cX3_kindBegunBy 66 = .ok (.iconst 3, 1) := by decide +kernel
theorem dX3_kindBegunBy_67 : decode cX3_kindBegunBy 67 = .ok (.ireturn, 1) := by decide +kernel
theorem dX3_kindBegunBy_68 : decode cX3_kindBegunBy 68 = .ok (.iconst 4, 1) := by decide +kernel
theorem dX3_kindBegunBy_69 : decode cX3_kindBegunBy 69 = .ok (.ireturn, 1) := by decide +kernel
theorem dX3_kindBegunBy_70 : decode cX3_kindBegunBy 70 = .ok (.iconst 5, 1) := by decide +kernel
theorem dX3_kindBegunBy_71 : decode cX3_kindBegunBy 71 = .ok (.ireturn, 1) := by decide +kernel
theorem dX3_kindBegunBy_72 : decode cX3_kindBegunBy 72 = .ok (.iconst (-1), 1) := by decide +kernel
theorem dX3_kindBegunBy_73 : decode cX3_kindBegunBy 73 = .ok (.ireturn, 1) := by decide +kernel
theorem dX4_init_0 : decode cX4_init 0 = .ok (.aload_n 0, 1) := by decide +kernel
theorem dX4_init_1 : decode cX4_init 1 = .ok (.invokespecial 3, 3) := by decide +kernel
theorem dX4_init_4 : decode cX4_init 4 = .ok (.aload_n 0, 1) := by decide +kernel
theorem dX4_init_5 : decode cX4_init 5 = .ok (.bipush 24, 2) := by decide +kernel
theorem dX4_init_7 : decode cX4_init 7 = .ok (.newarray .int, 2) := by decide +kernel
theorem dX4_init_9 : decode cX4_init 9 = .ok (.putfield 9, 3) := by decide +kernel
theorem dX4_init_12 : decode cX4_init 12 = .ok (.aload_n 0, 1) := by decide +kernel
theorem dX4_init_13 : decode cX4_init 13 = .ok (.bipush 24, 2) := by decide +kernel
theorem dX4_init_15 : decode cX4_init 15 = .ok (.newarray .int, 2) := by decide +kernel
theorem dX4_init_17 : decode cX4_init 17 = .ok (.putfield 15, 3) := by decide +kernel
theorem dX4_init_20 : decode cX4_init 20 = .ok (.iconst 0, 1) := by decide +kernel
theorem dX4_init_21 : decode cX4_init 21 = .ok (.iload_n 1, 1) := by decide +kernel
theorem dX4_init_22 : decode cX4_init 22 = .ok (.invokestatic 18, 3) := by decide +kernel
theorem dX4_init_25 : decode cX4_init 25 = .ok (.istore_n 2, 1) := by decide +kernel
theorem dX4_init_26 : decode cX4_init 26 = .ok (.aload_n 0, 1) := by decide +kernel
theorem dX4_init_27 : decode cX4_init 27 = .ok (.iload_n 2, 1) := by decide +kernel
theorem dX4_init_28 : decode cX4_init 28 = .ok (.newarray .int, 2) := by decide +kernel
theorem dX4_init_30 : decode cX4_init 30 = .ok (.putfield 24, 3) := by decide +kernel
theorem dX4_init_33 : decode cX4_init 33 = .ok (.aload_n 0, 1) := by decide +kernel
theorem dX4_init_34 : decode cX4_init 34 = .ok (.iload_n 2, 1) := by decide +kernel
theorem dX4_init_35 : decode cX4_init 35 = .ok (.newarray .int, 2) := by decide +kernel
theorem dX4_init_37 : decode cX4_init 37 = .ok (.putfield 27, 3) := by decide +kernel
theorem dX4_init_40 : decode cX4_init 40 = .ok (.aload_n 0, 1) := by decide +kernel
theorem dX4_init_41 : decode cX4_init 41 = .ok (.iload_n 2, 1) := by decide +kernel
theorem dX4_init_42 : decode cX4_init 42 = .ok (.newarray .int, 2) := by decide +kernel
theorem dX4_init_44 : decode cX4_init 44 = .ok (.putfield 30, 3) := by decide +kernel
theorem dX4_init_47 : decode cX4_init 47 = .ok (.return_, 1) := by decide +kernel
theorem dX4_clear_0 : decode cX4_clear 0 = .ok (.aload_n 0, 1) := by decide +kernel
theorem dX4_clear_1 : decode cX4_clear 1 = .ok (.iconst 0, 1) := by decide +kernel
theorem dX4_clear_2 : decode cX4_clear 2 = .ok (.putfield 33, 3) := by decide +kernel
theorem dX4_clear_5 : decode cX4_clear 5 = .ok (.iconst 0, 1) := by decide +kernel
theorem dX4_clear_6 : decode cX4_clear 6 = .ok (.istore_n 1, 1) := by decide +kernel
theorem dX4_clear_7 : decode cX4_clear 7 = .ok (.iload_n 1, 1) := by decide +kernel
theorem dX4_clear_8 : decode cX4_clear 8 = .ok (.bipush 24, 2) := by decide +kernel
theorem dX4_clear_10 : decode cX4_clear 10 = .ok (.if_icmp .ge 23, 3) := by decide +kernel
theorem dX4_clear_13 : decode cX4_clear 13 = .ok (.aload_n 0, 1) := by decide +kernel
theorem dX4_clear_14 : decode cX4_clear 14 = .ok (.getfield 9, 3) := by decide +kernel
theorem dX4_clear_17 : decode cX4_clear 17 = .ok (.iload_n 1, 1) := by decide +kernel
theorem dX4_clear_18 : decode cX4_clear 18 = .ok (.iconst 0, 1) := by decide +kernel
theorem dX4_clear_19 : decode cX4_clear 19 = .ok (.iastore, 1) := by decide +kernel
theorem dX4_clear_20 : decode cX4_clear 20 = .ok (.aload_n 0, 1) := by decide +kernel
theorem dX4_clear_21 : decode cX4_clear 21 = .ok (.getfield 15, 3) := by decide +kernel
theorem dX4_clear_24 : decode cX4_clear 24 = .ok (.iload_n 1, 1) := by decide +kernel
theorem dX4_clear_25 : decode cX4_clear 25 = .ok (.iconst 0, 1) := by decide +kernel
theorem dX4_clear_26 : decode cX4_clear 26 = .ok (.iastore, 1) := by decide +kernel
theorem dX4_clear_27 : decode cX4_clear 27 = .ok (.iinc 1 1, 3) := by decide +kernel
theorem dX4_clear_30 : decode cX4_clear 30 = .ok (.goto (-23), 3) := by decide +kernel
theorem dX4_clear_33 : decode cX4_clear 33 = .ok (.return_, 1) := by decide +kernel
theorem dX4_size_0 : decode cX4_size 0 = .ok (.aload_n 0, 1) := by decide +kernel
theorem dX4_size_1 : decode cX4_size 1 = .ok (.getfield 33, 3) := by decide +kernel
theorem dX4_size_4 : decode cX4_size 4 = .ok (.ireturn, 1) := by decide +kernel
theorem dX4_has_0 : decode cX4_has 0 = .ok (.iload_n 1, 1) := by decide +kernel
theorem dX4_has_1 : decode cX4_has 1 = .ok (.ifCond .lt 24, 3) := by decide +kernel
theorem dX4_has_4 : decode cX4_has 4 = .ok (.iload_n 1, 1) := by decide +kernel
theorem dX4_has_5 : decode cX4_has 5 = .ok (.aload_n 0, 1) := by decide +kernel
theorem dX4_has_6 : decode cX4_has 6 = .ok (.getfield 33, 3) := by decide +kernel
theorem dX4_has_9 : decode cX4_has 9 = .ok (.if_icmp .ge 16, 3) := by decide +kernel
theorem dX4_has_12 : decode cX4_has 12 = .ok (.iload_n 1, 1) := by decide +kernel
theorem dX4_has_13 : decode cX4_has 13 = .ok (.aload_n 0, 1) := by decide +kernel
theorem dX4_has_14 : decode cX4_has 14 = .ok (.getfield 24, 3) := by decide +kernel
theorem dX4_has_17 : decode cX4_has 17 = .ok (.arraylength, 1) := by decide +kernel
theorem dX4_has_18 : decode cX4_has 18 = .ok (.if_icmp .ge 7, 3) := by decide +kernel
theorem dX4_has_21 : decode cX4_has 21 = .ok (.iconst 1, 1) := by decide +kernel
theorem dX4_has_22 : decode cX4_has 22 = .ok (.goto 4, 3) := by decide +kernel
theorem dX4_has_25 : decode cX4_has 25 = .ok (.iconst 0, 1) := by decide +kernel
theorem dX4_has_26 : decode cX4_has 26 = .ok (.ireturn, 1) := by decide +kernel
set_option maxRecDepth 20000 in
theorem ggX4_add_X4_isItem : GoodIn wsX4_add wsX4_isItem := goodIn_sub (fm_c (List.mem_cons_of_mem _ (List.mem_append_left _ (mg 8 rfl))) (fm_n)) (by decide +kernel)
set_option maxRecDepth 20000 in
theorem gX4_add_X4_isItem : GoodIn wsX4_add (va_wsS RX4 37 yX4_isItem wsX4_isItem) := goodIn_app (goodIn_sub (fm_c (List.mem_cons_of_mem _ (List.mem_append_left _ (mg 5 rfl))) (fm_c (List.mem_cons_of_mem _ (List.mem_append_left _ (mg 6 rfl))) (fm_c (List.mem_cons_of_mem _ (List.mem_append_left _ (mg 7 rfl))) (fm_n)))) (by decide +kernel)) ggX4_add_X4_isItem
theorem dX4_add_0 : decode cX4_add 0 = .ok (.aload_n 0, 1) := by decide +kernel
theorem dX4_add_1 : decode cX4_add 1 = .ok (.getfield 33, 3) := by decide +kernel
theorem dX4_add_4 : decode cX4_add 4 = .ok (.ifCond .lt 22, 3) := by decide +kernel
theorem dX4_add_7 : decode cX4_add 7 = .ok (.aload_n 0, 1) := by decide +kernel
theorem dX4_add_8 : decode cX4_add 8 = .ok (.getfield 33, 3) := by decide +kernel
theorem dX4_add_11 : decode cX4_add 11 = .ok (.aload_n 0, 1) := by decide +kernel
theorem dX4_add_12 : decode cX4_add 12 = .ok (.getfield 24, 3) := by decide +kernel
theorem dX4_add_15 : decode cX4_add 15 = .ok (.arraylength, 1) := by decide +kernel
theorem dX4_add_16 : decode cX4_add 16 = .ok (.if_icmp .ge 10, 3) := by decide +kernel
theorem dX4_add_19 : decode cX4_add 19 = .ok (.iload_n 2, 1) := by decide +kernel
theorem dX4_add_20 : decode cX4_add 20 = .ok (.invokestatic 37, 3) := by decide +kernel
theorem dX4_add_23 : decode cX4_add 23 = .ok (.ifCond .ne 5, 3) := by decide +kernel
theorem dX4_add_26 : decode cX4_add 26 = .ok (.iconst 0, 1) := by decide +kernel
theorem dX4_add_27 : decode cX4_add 27 = .ok (.ireturn, 1) := by decide +kernel
theorem dX4_add_28 : decode cX4_add 28 = .ok (.aload_n 0, 1) := by decide +kernel
theorem dX4_add_29 : decode cX4_add 29 = .ok (.getfield 24, 3) := by decide +kernel
theorem dX4_add_32 : decode cX4_add 32 = .ok (.aload_n 0, 1) := by decide +kernel
theorem dX4_add_33 : decode cX4_add 33 = .ok (.getfield 33, 3) := by decide +kernel
theorem dX4_add_36 : decode cX4_add 36 = .ok (.iload_n 1, 1) := by decide +kernel
theorem dX4_add_37 : decode cX4_add 37 = .ok (.iastore, 1) := by decide +kernel
theorem dX4_add_38 : decode cX4_add 38 = .ok (.aload_n 0, 1) := by decide +kernel
theorem dX4_add_39 : decode cX4_add 39 = .ok (.getfield 27, 3) := by decide +kernel
theorem dX4_add_42 : decode cX4_add 42 = .ok (.aload_n 0, 1) := by decide +kernel
theorem dX4_add_43 : decode cX4_add 43 = .ok (.getfield 33, 3) := by decide +kernel
theorem dX4_add_46 : decode cX4_add 46 = .ok (.iload_n 2, 1) := by decide +kernel
theorem dX4_add_47 : decode cX4_add 47 = .ok (.iastore, 1) := by decide +kernel
theorem dX4_add_48 : decode cX4_add 48 = .ok (.aload_n 0, 1) := by decide +kernel
theorem dX4_add_49 : decode cX4_add 49 = .ok (.getfield 30, 3) := by decide +kernel
theorem dX4_add_52 : decode cX4_add 52 = .ok (.aload_n 0, 1) := by decide +kernel
theorem dX4_add_53 : decode cX4_add 53 = .ok (.getfield 33, 3) := by decide +kernel
theorem dX4_add_56 : decode cX4_add 56 = .ok (.aload_n 0, 1) := by decide +kernel
theorem dX4_add_57 : decode cX4_add 57 = .ok (.getfield 9, 3) := by decide +kernel
theorem dX4_add_60 : decode cX4_add 60 = .ok (.iload_n 2, 1) := by decide +kernel
theorem dX4_add_61 : decode cX4_add 61 = .ok (.iaload, 1) := by decide +kernel
theorem dX4_add_62 : decode cX4_add 62 = .ok (.iastore, 1) := by decide +kernel
theorem dX4_add_63 : decode cX4_add 63 = .ok (.aload_n 0, 1) := by decide +kernel
theorem dX4_add_64 : decode cX4_add 64 = .ok (.getfield 9, 3) := by decide +kernel
theorem dX4_add_67 : decode cX4_add 67 = .ok (.iload_n 2, 1) := by decide +kernel
theorem dX4_add_68 : decode cX4_add 68 = .ok (.dup2, 1) := by decide +kernel
theorem dX4_add_69 : decode cX4_add 69 = .ok (.iaload, 1) := by decide +kernel
theorem dX4_add_70 : decode cX4_add 70 = .ok (.iconst 1, 1) := by decide +kernel
theorem dX4_add_71 : decode cX4_add 71 = .ok (.iadd, 1) := by decide +kernel
theorem dX4_add_72 : decode cX4_add 72 = .ok (.iastore, 1) := by decide +kernel
theorem dX4_add_73 : decode cX4_add 73 = .ok (.aload_n 0, 1) := by decide +kernel
theorem dX4_add_74 : decode cX4_add 74 = .ok (.dup, 1) := by decide +kernel
theorem dX4_add_75 : decode cX4_add 75 = .ok (.getfield 33, 3) := by decide +kernel
theorem dX4_add_78 : decode cX4_add 78 = .ok (.iconst 1, 1) := by decide +kernel
theorem dX4_add_79 : decode cX4_add 79 = .ok (.iadd, 1) := by decide +kernel
theorem dX4_add_80 : decode cX4_add 80 = .ok (.putfield 33, 3) := by decide +kernel
theorem dX4_add_83 : decode cX4_add 83 = .ok (.iconst 1, 1) := by decide +kernel
theorem dX4_add_84 : decode cX4_add 84 = .ok (.ireturn, 1) := by decide +kernel
set_option maxRecDepth 20000 in
theorem ggX4_lay_X4_isItem : GoodIn wsX4_lay wsX4_isItem := goodIn_sub (fm_c (List.mem_cons_of_mem _ (List.mem_append_left _ (mg 5 rfl))) (fm_n)) (by decide +kernel)
set_option maxRecDepth 20000 in
theorem gX4_lay_X4_isItem : GoodIn wsX4_lay (va_wsS RX4 37 yX4_isItem wsX4_isItem) := goodIn_app (goodIn_sub (fm_c (List.mem_cons_of_mem _ (List.mem_append_left _ (mg 2 rfl))) (fm_c (List.mem_cons_of_mem _ (List.mem_append_left _ (mg 3 rfl))) (fm_c (List.mem_cons_of_mem _ (List.mem_append_left _ (mg 4 rfl))) (fm_n)))) (by decide +kernel)) ggX4_lay_X4_isItem
theorem dX4_lay_0 : decode cX4_lay 0 = .ok (.iload_n 1, 1) := by decide +kernel
theorem dX4_lay_1 : decode cX4_lay 1 = .ok (.invokestatic 37, 3) := by decide +kernel
theorem dX4_lay_4 : decode cX4_lay 4 = .ok (.ifCond .ne 5, 3) := by decide +kernel
theorem dX4_lay_7 : decode cX4_lay 7 = .ok (.iload_n 2, 1) := by decide +kernel
theorem dX4_lay_8 : decode cX4_lay 8 = .ok (.ireturn, 1) := by decide +kernel
theorem dX4_lay_9 : decode cX4_lay 9 = .ok (.aload_n 0, 1) := by decide +kernel
theorem dX4_lay_10 : decode cX4_lay 10 = .ok (.getfield 15, 3) := by decide +kernel
theorem dX4_lay_13 : decode cX4_lay 13 = .ok (.iload_n 1, 1) := by decide +kernel
theorem dX4_lay_14 : decode cX4_lay 14 = .ok (.iload_n 2, 1) := by decide +kernel
theorem dX4_lay_15 : decode cX4_lay 15 = .ok (.iastore, 1) := by decide +kernel
theorem dX4_lay_16 : decode cX4_lay 16 = .ok (.iload_n 2, 1) := by decide +kernel
theorem dX4_lay_17 : decode cX4_lay 17 = .ok (.iconst 4, 1) := by decide +kernel
theorem dX4_lay_18 : decode cX4_lay 18 = .ok (.aload_n 0, 1) := by decide +kernel
theorem dX4_lay_19 : decode cX4_lay 19 = .ok (.getfield 9, 3) := by decide +kernel
theorem dX4_lay_22 : decode cX4_lay 22 = .ok (.iload_n 1, 1) := by decide +kernel
theorem dX4_lay_23 : decode cX4_lay 23 = .ok (.iaload, 1) := by decide +kernel
theorem dX4_lay_24 : decode cX4_lay 24 = .ok (.imul, 1) := by decide +kernel
theorem dX4_lay_25 : decode cX4_lay 25 = .ok (.iadd, 1) := by decide +kernel
theorem dX4_lay_26 : decode cX4_lay 26 = .ok (.ireturn, 1) := by decide +kernel
set_option maxRecDepth 20000 in
theorem ggX4_isIn_X4_isItem : GoodIn wsX4_isIn wsX4_isItem := goodIn_sub (fm_c (List.mem_cons_of_mem _ (List.mem_append_left _ (mg 4 rfl))) (fm_n)) (by decide +kernel)
set_option maxRecDepth 20000 in
theorem gX4_isIn_X4_isItem : GoodIn wsX4_isIn (va_wsS RX4 37 yX4_isItem wsX4_isItem) := goodIn_app (goodIn_sub (fm_c (List.mem_cons_of_mem _ (List.mem_append_left _ (mg 1 rfl))) (fm_c (List.mem_cons_of_mem _ (List.mem_append_left _ (mg 2 rfl))) (fm_c (List.mem_cons_of_mem _ (List.mem_append_left _ (mg 3 rfl))) (fm_n)))) (by decide +kernel)) ggX4_isIn_X4_isItem
theorem dX4_isIn_0 : decode cX4_isIn 0 = .ok (.iload_n 1, 1) := by decide +kernel
theorem dX4_isIn_1 : decode cX4_isIn 1 = .ok (.invokestatic 37, 3) := by decide +kernel
theorem dX4_isIn_4 : decode cX4_isIn 4 = .ok (.ifCond .eq 16, 3) := by decide +kernel
theorem dX4_isIn_7 : decode cX4_isIn 7 = .ok (.aload_n 0, 1) := by decide +kernel
theorem dX4_isIn_8 : decode cX4_isIn 8 = .ok (.getfield 9, 3) := by decide +kernel
theorem dX4_isIn_11 : decode cX4_isIn 11 = .ok (.iload_n 1, 1) := by decide +kernel
theorem dX4_isIn_12 : decode cX4_isIn 12 = .ok (.iaload, 1) := by decide +kernel
theorem dX4_isIn_13 : decode cX4_isIn 13 = .ok (.ifCond .le 7, 3) := by decide +kernel
theorem dX4_isIn_16 : decode cX4_isIn 16 = .ok (.iconst 1, 1) := by decide +kernel
theorem dX4_isIn_17 : decode cX4_isIn 17 = .ok (.goto 4, 3) := by decide +kernel
theorem dX4_isIn_20 : decode cX4_isIn 20 = .ok (.iconst 0, 1) := by decide +kernel
theorem dX4_isIn_21 : decode cX4_isIn 21 = .ok (.ireturn, 1) := by decide +kernel
set_option maxRecDepth 20000 in
theorem ggX4_endOf_X4_isItem : GoodIn wsX4_endOf wsX4_isItem := goodIn_sub (fm_c (List.mem_cons_of_mem _ (List.mem_append_left _ (mg 5 rfl))) (fm_n)) (by decide +kernel)
set_option maxRecDepth 20000 in
theorem gX4_endOf_X4_isItem : GoodIn wsX4_endOf (va_wsS RX4 37 yX4_isItem wsX4_isItem) := goodIn_app (goodIn_sub (fm_c (List.mem_cons_of_mem _ (List.mem_append_left _ (mg 2 rfl))) (fm_c (List.mem_cons_of_mem _ (List.mem_append_left _ (mg 3 rfl))) (fm_c (List.mem_cons_of_mem _ (List.mem_append_left _ (mg 4 rfl))) (fm_n)))) (by decide +kernel)) ggX4_endOf_X4_isItem
theorem dX4_endOf_0 : decode cX4_endOf 0 = .ok (.iload_n 1, 1) := by decide +kernel
theorem dX4_endOf_1 : decode cX4_endOf 1 = .ok (.invokestatic 37, 3) := by decide +kernel
theorem dX4_endOf_4 : decode cX4_endOf 4 = .ok (.ifCond .eq 21, 3) := by decide +kernel
theorem dX4_endOf_7 : decode cX4_endOf 7 = .ok (.aload_n 0, 1) := by decide +kernel
theorem dX4_endOf_8 : decode cX4_endOf 8 = .ok (.getfield 15, 3) := by decide +kernel
theorem dX4_endOf_11 : decode cX4_endOf 11 = .ok (.iload_n 1, 1) := by decide +kernel
theorem dX4_endOf_12 : decode cX4_endOf 12 = .ok (.iaload, 1) := by decide +kernel
theorem dX4_endOf_13 : decode cX4_endOf 13 = .ok (.iconst 4, 1) := by decide +kernel
theorem dX4_endOf_14 : decode cX4_endOf 14 = .ok (.aload_n 0, 1) := by decide +kernel
theorem dX4_endOf_15 : decode cX4_endOf 15 = .ok (.getfield 9, 3) := by decide +kernel
theorem dX4_endOf_18 : decode cX4_endOf 18 = .ok (.iload_n 1, 1) := by decide +kernel
theorem dX4_endOf_19 : decode cX4_endOf 19 = .ok (.iaload, 1) := by decide +kernel
theorem dX4_endOf_20 : decode cX4_endOf 20 = .ok (.imul, 1) := by decide +kernel
theorem dX4_endOf_21 : decode cX4_endOf 21 = .ok (.iadd, 1) := by decide +kernel
theorem dX4_endOf_22 : decode cX4_endOf 22 = .ok (.goto 4, 3) := by decide +kernel
theorem dX4_endOf_25 : decode cX4_endOf 25 = .ok (.iconst (-1), 1) := by decide +kernel
theorem dX4_endOf_26 : decode cX4_endOf 26 = .ok (.ireturn, 1) := by decide +kernel
set_option maxRecDepth 20000 in
theorem ggX4_nameOf_X4_has : GoodIn wsX4_nameOf wsX4_has := goodIn_sub (fm_c (List.mem_cons_of_mem _ (List.mem_append_left _ (mg 5 rfl))) (ms_a (fm_c (List.mem_cons_of_mem _ (List.mem_append_left _ (mg 6 rfl))) (fm_c (List.mem_cons_of_mem _ (List.mem_append_left _ (mg 0 rfl))) (fm_n))) (fun _ h => List.mem_cons_of_mem _ (List.mem_append_right _ (h))))) (by decide +kernel)
set_option maxRecDepth 20000 in
theorem gX4_nameOf_X4_has : GoodIn wsX4_nameOf (wsV RX4 41 RX4 yX4_has wsX4_has) := goodIn_app (goodIn_sub (fm_c (List.mem_cons_of_mem _ (List.mem_append_left _ (mg 1 rfl))) (fm_c (List.mem_cons_of_mem _ (List.mem_append_left _ (mg 2 rfl))) (fm_c (List.mem_cons_of_mem _ (List.mem_append_left _ (mg 3 rfl))) (fm_c (List.mem_cons_of_mem _ (List.mem_append_left _ (mg 4 rfl))) (fm_n))))) (by decide +kernel)) ggX4_nameOf_X4_has
theorem dX4_nameOf_0 : decode cX4_nameOf 0 = .ok (.aload_n 0, 1) := by decide +kernel
theorem dX4_nameOf_1 : decode cX4_nameOf 1 = .ok (.iload_n 1, 1) := by decide +kernel
theorem dX4_nameOf_2 : decode cX4_nameOf 2 = .ok (.invokevirtual 41, 3) := by decide +kernel
theorem dX4_nameOf_5 : decode cX4_nameOf 5 = .ok (.ifCond .eq 12, 3) := by decide +kernel
theorem dX4_nameOf_8 : decode cX4_nameOf 8 = .ok (.aload_n 0, 1) := by decide +kernel
theorem dX4_nameOf_9 : decode cX4_nameOf 9 = .ok (.getfield 24, 3) := by decide +kernel
theorem dX4_nameOf_12 : decode cX4_nameOf 12 = .ok (.iload_n 1, 1) := by decide +kernel
theorem dX4_nameOf_13 : decode cX4_nameOf 13 = .ok (.iaload, 1) := by decide +kernel
theorem dX4_nameOf_14 : decode cX4_nameOf 14 = .ok (.goto 4, 3) := by decide +kernel
theorem dX4_nameOf_17 : decode cX4_nameOf 17 = .ok (.iconst (-1), 1) := by decide +kernel
theorem dX4_nameOf_18 : decode cX4_nameOf 18 = .ok (.ireturn, 1) := by decide +kernel
set_option maxRecDepth 20000 in
theorem ggX4_returnOf_X4_has : GoodIn wsX4_returnOf wsX4_has := goodIn_sub (fm_c (List.mem_cons_of_mem _ (List.mem_append_left _ (mg 5 rfl))) (ms_a (fm_c (List.mem_cons_of_mem _ (List.mem_append_left _ (mg 6 rfl))) (fm_c (List.mem_cons_of_mem _ (List.mem_append_left _ (mg 7 rfl))) (fm_n))) (fun _ h => List.mem_cons_of_mem _ (List.mem_append_right _ (h))))) (by decide +kernel)
set_option maxRecDepth 20000 in
theorem gX4_returnOf_X4_has : GoodIn wsX4_returnOf (wsV RX4 41 RX4 yX4_has wsX4_has) := goodIn_app (goodIn_sub (fm_c (List.mem_cons_of_mem _ (List.mem_append_left _ (mg 1 rfl))) (fm_c (List.mem_cons_of_mem _ (List.mem_append_left _ (mg 2 rfl))) (fm_c (List.mem_cons_of_mem _ (List.mem_append_left _ (mg 3 rfl))) (fm_c (List.mem_cons_of_mem _ (List.mem_append_left _ (mg 4 rfl))) (fm_n))))) (by decide +kernel)) ggX4_returnOf_X4_has
theorem dX4_returnOf_0 : decode cX4_returnOf 0 = .ok (.aload_n 0, 1) := by decide +kernel
theorem dX4_returnOf_1 : decode cX4_returnOf 1 = .ok (.iload_n 1, 1) := by decide +kernel
theorem dX4_returnOf_2 : decode cX4_returnOf 2 = .ok (.invokevirtual 41, 3) := by decide +kernel
theorem dX4_returnOf_5 : decode cX4_returnOf 5 = .ok (.ifCond .eq 12, 3) := by decide +kernel
theorem dX4_returnOf_8 : decode cX4_returnOf 8 = .ok (.aload_n 0, 1) := by decide +kernel
theorem dX4_returnOf_9 : decode cX4_returnOf 9 = .ok (.getfield 27, 3) := by decide +kernel
theorem dX4_returnOf_12 : decode cX4_returnOf 12 = .ok (.iload_n 1, 1) := by decide +kernel
theorem dX4_returnOf_13 : decode cX4_returnOf 13 = .ok (.iaload, 1) := by decide +kernel
theorem dX4_returnOf_14 : decode cX4_returnOf 14 = .ok (.goto 4, 3) := by decide +kernel
theorem dX4_returnOf_17 : decode cX4_returnOf 17 = .ok (.iconst (-1), 1) := by decide +kernel
theorem dX4_returnOf_18 : decode cX4_returnOf 18 = .ok (.ireturn, 1) := by decide +kernel
set_option maxRecDepth 20000 in
theorem ggX4_addressOf_X4_has : GoodIn wsX4_addressOf wsX4_has := goodIn_sub (fm_c (List.mem_cons_of_mem _ (List.mem_append_left _ (mg 7 rfl))) (ms_a (fm_c (List.mem_cons_of_mem _ (List.mem_append_left _ (mg 8 rfl))) (fm_c (List.mem_cons_of_mem _ (List.mem_append_left _ (mg 9 rfl))) (fm_n))) (fun _ h => List.mem_cons_of_mem _ (List.mem_append_right _ (h))))) (by decide +kernel)
set_option maxRecDepth 20000 in
theorem gX4_addressOf_X4_has : GoodIn wsX4_addressOf (wsV RX4 41 RX4 yX4_has wsX4_has) := goodIn_app (goodIn_sub (fm_c (List.mem_cons_of_mem _ (List.mem_append_left _ (mg 3 rfl))) (fm_c (List.mem_cons_of_mem _ (List.mem_append_left _ (mg 4 rfl))) (fm_c (List.mem_cons_of_mem _ (List.mem_append_left _ (mg 5 rfl))) (fm_c (List.mem_cons_of_mem _ (List.mem_append_left _ (mg 6 rfl))) (fm_n))))) (by decide +kernel)) ggX4_addressOf_X4_has
set_option maxRecDepth 20000 in
theorem ggX4_addressOf_X4_isItem : GoodIn wsX4_addressOf wsX4_isItem := goodIn_sub (fm_c (List.mem_cons_of_mem _ (List.mem_append_left _ (mg 12 rfl))) (fm_n)) (by decide +kernel)
set_option maxRecDepth 20000 in
theorem gX4_addressOf_X4_isItem : GoodIn wsX4_addressOf (va_wsS RX4 37 yX4_isItem wsX4_isItem) := goodIn_app (goodIn_sub (fm_c (List.mem_cons_of_mem _ (List.mem_append_left _ (mg 10 rfl))) (fm_c (List.mem_cons_of_mem _ (List.mem_append_left _ (mg 11 rfl))) (fm_c (List.mem_cons_of_mem _ (List.mem_append_left _ (mg 6 rfl))) (fm_n)))) (by decide +kernel)) ggX4_addressOf_X4_isItem
theorem dX4_addressOf_0 : decode cX4_addressOf 0 = .ok (.aload_n 0, 1) := by decide +kernel
theorem dX4_addressOf_1 : decode cX4_addressOf 1 = .ok (.iload_n 1, 1) := by decide +kernel
theorem dX4_addressOf_2 : decode cX4_addressOf 2 = .ok (.invokevirtual 41, 3) := by decide +kernel
theorem dX4_addressOf_5 : decode cX4_addressOf 5 = .ok (.ifCond .ne 5, 3) := by decide +kernel
theorem dX4_addressOf_8 : decode cX4_addressOf 8 = .ok (.iconst (-1), 1) := by decide +kernel
theorem dX4_addressOf_9 : decode cX4_addressOf 9 = .ok (.ireturn, 1) := by decide +kernel
theorem dX4_addressOf_10 : decode cX4_addressOf 10 = .ok (.aload_n 0, 1) := by decide +kernel
theorem dX4_addressOf_11 : decode cX4_addressOf 11 = .ok (.getfield 27, 3) := by decide +kernel
theorem dX4_addressOf_14 : decode cX4_addressOf 14 = .ok (.iload_n 1, 1) := by decide +kernel
theorem dX4_addressOf_15 : decode cX4_addressOf 15 = .ok (.iaload, 1) := by decide +kernel
theorem dX4_addressOf_16 : decode cX4_addressOf 16 = .ok (.istore_n 2, 1) := by decide +kernel
theorem dX4_addressOf_17 : decode cX4_addressOf 17 = .ok (.iload_n 2, 1) := by decide +kernel
theorem dX4_addressOf_18 : decode cX4_addressOf 18 = .ok (.invokestatic 37, 3) := by decide +kernel
theorem dX4_addressOf_21 : decode cX4_addressOf 21 = .ok (.ifCond .eq 21, 3) := by decide +kernel
theorem dX4_addressOf_24 : decode cX4_addressOf 24 = .ok (.aload_n 0, 1) := by decide +kernel
theorem dX4_addressOf_25 : decode cX4_addressOf 25 = .ok (.getfield 15, 3) := by decide +kernel
theorem dX4_addressOf_28 : decode cX4_addressOf 28 = .ok (.iload_n 2, 1) := by decide +kernel
theorem dX4_addressOf_29 : decode cX4_addressOf 29 = .ok (.iaload, 1) := by decide +kernel
theorem dX4_addressOf_30 : decode cX4_addressOf 30 = .ok (.iconst 4, 1) := by decide +kernel
theorem dX4_addressOf_31 : decode cX4_addressOf 31 = .ok (.aload_n 0, 1) := by decide +kernel
theorem dX4_addressOf_32 : decode cX4_addressOf 32 = .ok (.getfield 30, 3) := by decide +kernel
theorem dX4_addressOf_35 : decode cX4_addressOf 35 = .ok (.iload_n 1, 1) := by decide +kernel
theorem dX4_addressOf_36 : decode cX4_addressOf 36 = .ok (.iaload, 1) := by decide +kernel
theorem dX4_addressOf_37 : decode cX4_addressOf 37 = .ok (.imul, 1) := by decide +kernel
theorem dX4_addressOf_38 : decode cX4_addressOf 38 = .ok (.iadd, 1) := by decide +kernel
theorem dX4_addressOf_39 : decode cX4_addressOf 39 = .ok (.goto 4, 3) := by decide +kernel
theorem dX4_addressOf_42 : decode cX4_addressOf 42 = .ok (.iconst (-1), 1) := by decide +kernel
theorem dX4_addressOf_43 : decode cX4_addressOf 43 = .ok (.ireturn, 1) := by decide +kernel
theorem dX4_isItem_0 : decode cX4_isItem 0 = .ok (.iload_n 0, 1) := by decide +kernel
theorem dX4_isItem_1 : decode cX4_isItem 1 = .ok (.ifCond .lt 13, 3) := by decide +kernel
theorem dX4_isItem_4 : decode cX4_isItem 4 = .ok (.iload_n 0, 1) := by decide +kernel
theorem dX4_isItem_5 : decode cX4_isItem 5 = .ok (.bipush 24, 2) := by decide +kernel
theorem dX4_isItem_7 : decode cX4_isItem 7 = .ok (.if_icmp .ge 7, 3) := by decide +kernel
theorem dX4_isItem_10 : decode cX4_isItem 10 = .ok (.iconst 1, 1) := by decide +kernel
theorem dX4_isItem_11 : decode cX4_isItem 11 = .ok (.goto 4, 3) := by decide +kernel
theorem dX4_isItem_14 : decode cX4_isItem 14 = .ok (.iconst 0, 1) := by decide +kernel
theorem dX4_isItem_15 : decode cX4_isItem 15 = .ok (.ireturn, 1) := by decide +kernel
theorem qX5_init_r1 {w : Cond} (h : w ∈ wsX5_init_r1) : w ∈ wsX5_init := List.mem_cons_of_mem _ (List.mem_append_left _ (List.mem_append_left _ (List.mem_append_left _ (List.mem_append_left _ (List.mem_append_left _ (List.mem_append_left _ (List.mem_append_left _ (h))))))))
theorem qX5_init_r2 {w : Cond} (h : w ∈ wsX5_init_r2) : w ∈ wsX5_init := List.mem_cons_of_mem _ (List.mem_append_left _ (List.mem_append_left _ (List.mem_append_left _ (List.mem_append_left _ (List.mem_append_left _ (List.mem_append_left _ (List.mem_append_right _ (List.mem_append_left _ (h)))))))))
theorem qX5_init_r3 {w : Cond} (h : w ∈ wsX5_init_r3) : w ∈ wsX5_init := List.mem_cons_of_mem _ (List.mem_append_left _ (List.mem_append_left _ (List.mem_append_left _ (List.mem_append_left _ (List.mem_append_left _ (List.mem_append_left _ (List.mem_append_right _ (List.mem_append_right _ (h)))))))))
set_option maxRecDepth 20000 in
theorem ggX5_init_X1_init : GoodIn wsX5_init wsX1_init := goodIn_sub (fm_c (qX5_init_r1 (mg 22 rfl)) (ms_a (fm_c (qX5_init_r1 (mg 23 rfl)) (fm_c (qX5_init_r1 (mg 1 rfl)) (fm_c (qX5_init_r1 (mg 2 rfl)) (fm_c (qX5_init_r1 (mg 15 rfl)) (fm_c (qX5_init_r2 (mg 0 rfl)) (fm_n)))))) (fun _ h => List.mem_cons_of_mem _ (List.mem_append_left _ (List.mem_append_left _ (List.mem_append_left _ (List.mem_append_left _ (List.mem_append_left _ (List.mem_append_right _ (h)))))))))) (by decide +kernel)
set_option maxRecDepth 20000 in
theorem gX5_init_X1_init_n11 : GoodIn wsX5_init (wsX1_init) := ggX5_init_X1_init
set_option maxRecDepth 20000 in
theorem ggX5_init_X3_init : GoodIn wsX5_init wsX3_init := goodIn_sub (fm_c (qX5_init_r2 (mg 2 rfl)) (ms_a (ms_a (fm_c (qX5_init_r2 (mg 3 rfl)) (fm_c (qX5_init_r1 (mg 1 rfl)) (fm_c (qX5_init_r1 (mg 2 rfl)) (fm_c (qX5_init_r2 (mg 4 rfl)) (fm_c (qX5_init_r1 (mg 12 rfl)) (fm_c (qX5_init_r1 (mg 13 rfl)) (fm_c (qX5_init_r2 (mg 5 rfl)) (fm_c (qX5_init_r2 (mg 6 rfl)) (fm_c (qX5_init_r2 (mg 7 rfl)) (fm_c (qX5_init_r2 (mg 8 rfl)) (fm_c (qX5_init_r1 (mg 15 rfl)) (fm_c (qX5_init_r2 (mg 9 rfl)) (fm_c (qX5_init_r2 (mg 10 rfl)) (fm_n)))))))))))))) (fun _ h => List.mem_cons_of_mem _ (List.mem_append_left _ (List.mem_append_left _ (List.mem_append_right _ (h)))))) (fun _ h => List.mem_cons_of_mem _ (List.mem_append_left _ (List.mem_append_left _ (List.mem_append_left _ (List.mem_append_right _ (h)))))))) (by decide +kernel)
set_option maxRecDepth 20000 in
theorem gX5_init_X3_init_n18 : GoodIn wsX5_init (wsX3_init) := ggX5_init_X3_init
set_option maxRecDepth 20000 in
theorem ggX5_init_X0_init : GoodIn wsX5_init wsX0_init := goodIn_sub (fm_c (qX5_init_r2 (mg 7 rfl)) (ms_a (fm_c (qX5_init_r2 (mg 8 rfl)) (fm_c (qX5_init_r1 (mg 1 rfl)) (fm_c (qX5_init_r1 (mg 2 rfl)) (fm_c (qX5_init_r1 (mg 15 rfl)) (fm_c (qX5_init_r2 (mg 9 rfl)) (fm_c (qX5_init_r2 (mg 10 rfl)) (fm_n))))))) (fun _ h => List.mem_cons_of_mem _ (List.mem_append_left _ (List.mem_append_left _ (List.mem_append_right _ (h))))))) (by decide +kernel)
set_option maxRecDepth 20000 in
theorem gX5_init_X0_init_n25 : GoodIn wsX5_init (wsX0_init) := ggX5_init_X0_init
set_option maxRecDepth 20000 in
theorem ggX5_init_X2_init : GoodIn wsX5_init wsX2_init := goodIn_sub (fm_c (qX5_init_r2 (mg 13 rfl)) (ms_a (ms_a (ms_a (fm_c (qX5_init_r2 (mg 14 rfl)) (fm_c (qX5_init_r1 (mg 1 rfl)) (fm_c (qX5_init_r1 (mg 2 rfl)) (fm_c (qX5_init_r2 (mg 15 rfl)) (fm_c (qX5_init_r2 (mg 16 rfl)) (fm_c (qX5_init_r2 (mg 17 rfl)) (fm_c (qX5_init_r2 (mg 18 rfl)) (fm_c (qX5_init_r2 (mg 19 rfl)) (fm_c (qX5_init_r2 (mg 20 rfl)) (fm_c (qX5_init_r2 (mg 21 rfl)) (fm_c (qX5_init_r1 (mg 15 rfl)) (fm_c (qX5_init_r2 (mg 22 rfl)) (fm_c (qX5_init_r2 (mg 23 rfl)) (fm_c (qX5_init_r3 (mg 0 rfl)) (fm_c (qX5_init_r3 (mg 1 rfl)) (fm_c (qX5_init_r3 (mg 2 rfl)) (fm_c (qX5_init_r3 (mg 3 rfl)) (fm_c (qX5_init_r3 (mg 4 rfl)) (fm_c (qX5_init_r3 (mg 5 rfl)) (fm_c (qX5_init_r3 (mg 6 rfl)) (fm_c (qX5_init_r3 (mg 7 rfl)) (fm_c (qX5_init_r3 (mg 8 rfl)) (fm_c (qX5_init_r3 (mg 9 rfl)) (fm_c (qX5_init_r3 (mg 10 rfl)) (fm_n))))))))))))))))))))))))) (fm_c (qX5_init_r3 (mg 11 rfl)) (fm_c (qX5_init_r3 (mg 12 rfl)) (fm_c (qX5_init_r3 (mg 13 rfl)) (fm_c (qX5_init_r3 (mg 14 rfl)) (fm_c (qX5_init_r3 (mg 15 rfl)) (fm_c (qX5_init_r3 (mg 16 rfl)) (fm_c (qX5_init_r3 (mg 17 rfl)) (fm_c (qX5_init_r3 (mg 18 rfl)) (fm_c (qX5_init_r3 (mg 19 rfl)) (fm_n))))))))))) (fun _ h => List.mem_cons_of_mem _ (List.mem_append_right _ (h)))) (fun _ h => List.mem_cons_of_mem _ (List.mem_append_left _ (List.mem_append_right _ (h)))))) (by decide +kernel)
set_option maxRecDepth 20000 in
theorem gX5_init_X2_init : GoodIn wsX5_init (wsX2_init) := ggX5_init_X2_init
theorem dX5_init_0 : decode cX5_init 0 = .ok (.aload_n 0, 1) := by decide +kernel
theorem dX5_init_1 : decode cX5_init 1 = .ok (.invokespecial 3, 3) := by decide +kernel
theorem dX5_init_4 : decode cX5_init 4 = .ok (.aload_n 0, 1) := by decide +kernel
theorem dX5_init_5 : decode cX5_init 5 = .ok (.new 9, 3) := by decide +kernel
theorem dX5_init_8 : decode cX5_init 8 = .ok (.dup, 1) := by decide +kernel
theorem dX5_init_9 : decode cX5_init 9 = .ok (.invokespecial 11, 3) := by decide +kernel
theorem dX5_init_12 : decode cX5_init 12 = .ok (.putfield 12, 3) := by decide +kernel
theorem dX5_init_15 : decode cX5_init 15 = .ok (.aload_n 0, 1) := by decide +kernel
theorem dX5_init_16 : decode cX5_init 16 = .ok (.new 16, 3) := by decide +kernel
theorem dX5_init_19 : decode cX5_init 19 = .ok (.dup, 1) := by decide +kernel
theorem dX5_init_20 : decode cX5_init 20 = .ok (.invokespecial 18, 3) := by decide +kernel
theorem dX5_init_23 : decode cX5_init 23 = .ok (.putfield 19, 3) := by decide +kernel
theorem dX5_init_26 : decode cX5_init 26 = .ok (.aload_n 0, 1) := by decide +kernel
theorem dX5_init_27 : decode cX5_init 27 = .ok (.new 23, 3) := by decide +kernel
theorem dX5_init_30 : decode cX5_init 30 = .ok (.dup, 1) := by decide +kernel
theorem dX5_init_31 : decode cX5_init 31 = .ok (.invokespecial 25, 3) := by decide +kernel
theorem dX5_init_34 : decode cX5_init 34 = .ok (.putfield 26, 3) := by decide +kernel
theorem dX5_init_37 : decode cX5_init 37 = .ok (.aload_n 0, 1) := by decide +kernel
theorem dX5_init_38 : decode cX5_init 38 = .ok (.iconst 3, 1) := by decide +kernel
theorem dX5_init_39 : decode cX5_init 39 = .ok (.newarray .int, 2) := by decide +kernel
theorem dX5_init_41 : decode cX5_init 41 = .ok (.dup, 1) := by decide +kernel
theorem dX5_init_42 : decode cX5_init 42 = .ok (.iconst 0, 1) := by decide +kernel
theorem dX5_init_43 : decode cX5_init 43 = .ok (.bipush 8, 2) := by decide +kernel
theorem dX5_init_45 : decode cX5_init 45 = .ok (.iastore, 1) := by decide +kernel
theorem dX5_init_46 : decode cX5_init 46 = .ok (.dup, 1) := by decide +kernel
theorem dX5_init_47 : decode cX5_init 47 = .ok (.iconst 1, 1) := by decide +kernel
theorem dX5_init_48 : decode cX5_init 48 = .ok (.bipush 32, 2) := by decide +kernel
theorem dX5_init_50 : decode cX5_init 50 = .ok (.iastore, 1) := by decide +kernel
theorem dX5_init_51 : decode cX5_init 51 = .ok (.dup, 1) := by decide +kernel
theorem dX5_init_52 : decode cX5_init 52 = .ok (.iconst 2, 1) := by decide +kernel
theorem dX5_init_53 : decode cX5_init 53 = .ok (.bipush 24, 2) := by decide +kernel
theorem dX5_init_55 : decode cX5_init 55 = .ok (.iastore, 1) := by decide +kernel
theorem dX5_init_56 : decode cX5_init 56 = .ok (.putfield 30, 3) := by decide +kernel
theorem dX5_init_59 : decode cX5_init 59 = .ok (.aload_n 0, 1) := by decide +kernel
theorem dX5_init_60 : decode cX5_init 60 = .ok (.new 34, 3) := by decide +kernel
theorem dX5_init_63 : decode cX5_init 63 = .ok (.dup, 1) := by decide +kernel
theorem dX5_init_64 : decode cX5_init 64 = .ok (.aload_n 0, 1) := by decide +kernel
theorem dX5_init_65 : decode cX5_init 65 = .ok (.getfield 26, 3) := by decide +kernel
theorem dX5_init_68 : decode cX5_init 68 = .ok (.aload_n 0, 1) := by decide +kernel
theorem dX5_init_69 : decode cX5_init 69 = .ok (.getfield 30, 3) := by decide +kernel
theorem dX5_init_72 : decode cX5_init 72 = .ok (.invokespecial 36, 3) := by decide +kernel
theorem dX5_init_75 : decode cX5_init 75 = .ok (.putfield 39, 3) := by decide +kernel
theorem dX5_init_78 : decode cX5_init 78 = .ok (.return_, 1) := by decide +kernel
set_option maxRecDepth 20000 in
theorem ggX5_letter_X1_append : GoodIn wsX5_letter wsX1_append := goodIn_sub (fm_c (List.mem_cons_of_mem _ (List.mem_append_left _ (List.mem_append_left _ (mg 5 rfl)))) (ms_a (fm_c (List.mem_cons_of_mem _ (List.mem_append_left _ (List.mem_append_left _ (mg 6 rfl)))) (fm_c (List.mem_cons_of_mem _ (List.mem_append_left _ (List.mem_append_left _ (mg 7 rfl)))) (fm_n))) (fun _ h => List.mem_cons_of_mem _ (List.mem_append_right _ (h))))) (by decide +kernel)
set_option maxRecDepth 20000 in
theorem gX5_letter_X1_append : GoodIn wsX5_letter (wsV RX5 43 RX1 yX1_append wsX1_append) := goodIn_app (goodIn_sub (fm_c (List.mem_cons_of_mem _ (List.mem_append_left _ (List.mem_append_left _ (mg 1 rfl)))) (fm_c (List.mem_cons_of_mem _ (List.mem_append_left _ (List.mem_append_left _ (mg 2 rfl)))) (fm_c (List.mem_cons_of_mem _ (List.mem_append_left _ (List.mem_append_left _ (mg 3 rfl)))) (fm_c (List.mem_cons_of_mem _ (List.mem_append_left _ (List.mem_append_left _ (mg 4 rfl)))) (fm_n))))) (by decide +kernel)) ggX5_letter_X1_append
set_option maxRecDepth 20000 in
theorem ggX5_letter_X1_length : GoodIn wsX5_letter wsX1_length := goodIn_sub (fm_c (List.mem_cons_of_mem _ (List.mem_append_left _ (List.mem_append_left _ (mg 11 rfl)))) (ms_a (fm_c (List.mem_cons_of_mem _ (List.mem_append_left _ (List.mem_append_left _ (mg 6 rfl)))) (fm_n)) (fun _ h => List.mem_cons_of_mem _ (List.mem_append_right _ (h))))) (by decide +kernel)
set_option maxRecDepth 20000 in
theorem gX5_letter_X1_length : GoodIn wsX5_letter (wsV RX5 47 RX1 yX1_length wsX1_length) := goodIn_app (goodIn_sub (fm_c (List.mem_cons_of_mem _ (List.mem_append_left _ (List.mem_append_left _ (mg 8 rfl)))) (fm_c (List.mem_cons_of_mem _ (List.mem_append_left _ (List.mem_append_left _ (mg 9 rfl)))) (fm_c (List.mem_cons_of_mem _ (List.mem_append_left _ (List.mem_append_left _ (mg 10 rfl)))) (fm_c (List.mem_cons_of_mem _ (List.mem_append_left _ (List.mem_append_left _ (mg 4 rfl)))) (fm_n))))) (by decide +kernel)) ggX5_letter_X1_length
theorem dX5_letter_0 : decode cX5_letter 0 = .ok (.iload_n 1, 1) := by decide +kernel
theorem dX5_letter_1 : decode cX5_letter 1 = .ok (.bipush 32, 2) := by decide +kernel
theorem dX5_letter_3 : decode cX5_letter 3 = .ok (.if_icmp .lt 9, 3) := by decide +kernel
theorem dX5_letter_6 : decode cX5_letter 6 = .ok (.iload_n 1, 1) := by decide +kernel
theorem dX5_letter_7 : decode cX5_letter 7 = .ok (.bipush 126, 2) := by decide +kernel
theorem dX5_letter_9 : decode cX5_letter 9 = .ok (.if_icmp .le 7, 3) := by decide +kernel
theorem dX5_letter_12 : decode cX5_letter 12 = .ok (.sipush (-1002), 3) := by decide +kernel
theorem dX5_letter_15 : decode cX5_letter 15 = .ok (.ireturn, 1) := by decide +kernel
theorem dX5_letter_16 : decode cX5_letter 16 = .ok (.aload_n 0, 1) := by decide +kernel
theorem dX5_letter_17 : decode cX5_letter 17 = .ok (.getfield 12, 3) := by decide +kernel
theorem dX5_letter_20 : decode cX5_letter 20 = .ok (.iload_n 1, 1) := by decide +kernel
theorem dX5_letter_21 : decode cX5_letter 21 = .ok (.invokevirtual 43, 3) := by decide +kernel
theorem dX5_letter_24 : decode cX5_letter 24 = .ok (.ifCond .eq 13, 3) := by decide +kernel
theorem dX5_letter_27 : decode cX5_letter 27 = .ok (.aload_n 0, 1) := by decide +kernel
theorem dX5_letter_28 : decode cX5_letter 28 = .ok (.getfield 12, 3) := by decide +kernel
theorem dX5_letter_31 : decode cX5_letter 31 = .ok (.invokevirtual 47, 3) := by decide +kernel
theorem dX5_letter_34 : decode cX5_letter 34 = .ok (.goto 6, 3) := by decide +kernel
theorem dX5_letter_37 : decode cX5_letter 37 = .ok (.sipush (-1004), 3) := by decide +kernel
theorem dX5_letter_40 : decode cX5_letter 40 = .ok (.ireturn, 1) := by decide +kernel
set_option maxRecDepth 20000 in
theorem ggX5_blank_X1_length : GoodIn wsX5_blank wsX1_length := goodIn_sub (fm_c (List.mem_cons_of_mem _ (List.mem_append_left _ (List.mem_append_left _ (mg 5 rfl)))) (ms_a (fm_c (List.mem_cons_of_mem _ (List.mem_append_left _ (List.mem_append_left _ (mg 6 rfl)))) (fm_n)) (fun _ h => List.mem_cons_of_mem _ (List.mem_append_right _ (h))))) (by decide +kernel)
set_option maxRecDepth 20000 in
theorem gX5_blank_X1_length : GoodIn wsX5_blank (wsV RX5 47 RX1 yX1_length wsX1_length) := goodIn_app (goodIn_sub (fm_c (List.mem_cons_of_mem _ (List.mem_append_left _ (List.mem_append_left _ (mg 1 rfl)))) (fm_c (List.mem_cons_of_mem _ (List.mem_append_left _ (List.mem_append_left _ (mg 2 rfl)))) (fm_c (List.mem_cons_of_mem _ (List.mem_append_left _ (List.mem_append_left _ (mg 3 rfl)))) (fm_c (List.mem_cons_of_mem _ (List.mem_append_left _ (List.mem_append_left _ (mg 4 rfl)))) (fm_n))))) (by decide +kernel)) ggX5_blank_X1_length
set_option maxRecDepth 20000 in
theorem ggX5_blank_X1_clear : GoodIn wsX5_blank wsX1_clear := goodIn_sub (fm_c (List.mem_cons_of_mem _ (List.mem_append_left _ (List.mem_append_left _ (mg 10 rfl)))) (ms_a (fm_c (List.mem_cons_of_mem _ (List.mem_append_left _ (List.mem_append_left _ (mg 6 rfl)))) (fm_n)) (fun _ h => List.mem_cons_of_mem _ (List.mem_append_right _ (h))))) (by decide +kernel)
set_option maxRecDepth 20000 in
theorem gX5_blank_X1_clear : GoodIn wsX5_blank (wsV RX5 51 RX1 yX1_clear wsX1_clear) := goodIn_app (goodIn_sub (fm_c (List.mem_cons_of_mem _ (List.mem_append_left _ (List.mem_append_left _ (mg 7 rfl)))) (fm_c (List.mem_cons_of_mem _ (List.mem_append_left _ (List.mem_append_left _ (mg 8 rfl)))) (fm_c (List.mem_cons_of_mem _ (List.mem_append_left _ (List.mem_append_left _ (mg 9 rfl)))) (fm_c (List.mem_cons_of_mem _ (List.mem_append_left _ (List.mem_append_left _ (mg 4 rfl)))) (fm_n))))) (by decide +kernel)) ggX5_blank_X1_clear
theorem dX5_blank_0 : decode cX5_blank 0 = .ok (.aload_n 0, 1) := by decide +kernel
theorem dX5_blank_1 : decode cX5_blank 1 = .ok (.getfield 12, 3) := by decide +kernel
theorem dX5_blank_4 : decode cX5_blank 4 = .ok (.invokevirtual 47, 3) := by decide +kernel
theorem dX5_blank_7 : decode cX5_blank 7 = .ok (.istore_n 1, 1) := by decide +kernel
theorem dX5_blank_8 : decode cX5_blank 8 = .ok (.aload_n 0, 1) := by decide +kernel
theorem dX5_blank_9 : decode cX5_blank 9 = .ok (.getfield 12, 3) := by decide +kernel
theorem dX5_blank_12 : decode cX5_blank 12 = .ok (.invokevirtual 51, 3) := by decide +kernel
theorem dX5_blank_15 : decode cX5_blank 15 = .ok (.iload_n 1, 1) := by decide +kernel
theorem dX5_blank_16 : decode cX5_blank 16 = .ok (.ireturn, 1) := by decide +kernel
theorem qX5_fault_r1 {w : Cond} (h : w ∈ wsX5_fault_r1) : w ∈ wsX5_fault := List.mem_cons_of_mem _ (List.mem_append_left _ (List.mem_append_left _ (List.mem_append_left _ (List.mem_append_left _ (List.mem_append_left _ (h))))))
theorem qX5_fault_r2 {w : Cond} (h : w ∈ wsX5_fault_r2) : w ∈ wsX5_fault := List.mem_cons_of_mem _ (List.mem_append_left _ (List.mem_append_left _ (List.mem_append_left _ (List.mem_append_left _ (List.mem_append_right _ (List.mem_append_left _ (h)))))))
theorem qX5_fault_r3 {w : Cond} (h : w ∈ wsX5_fault_r3) : w ∈ wsX5_fault := List.mem_cons_of_mem _ (List.mem_append_left _ (List.mem_append_left _ (List.mem_append_left _ (List.mem_append_left _ (List.mem_append_right _ (List.mem_append_right _ (h)))))))
set_option maxRecDepth 20000 in
theorem ggX5_fault_X3_read : GoodIn wsX5_fault wsX3_read := goodIn_sub (fm_c (qX5_fault_r1 (mg 6 rfl)) (ms_a (ms_a (ms_a (ms_a (fm_c (qX5_fault_r1 (mg 7 rfl)) (fm_c (qX5_fault_r1 (mg 8 rfl)) (fm_c (qX5_fault_r1 (mg 9 rfl)) (fm_c (qX5_fault_r1 (mg 10 rfl)) (fm_c (qX5_fault_r1 (mg 11 rfl)) (fm_c (qX5_fault_r1 (mg 12 rfl)) (fm_c (qX5_fault_r1 (mg 13 rfl)) (fm_c (qX5_fault_r1 (mg 14 rfl)) (fm_c (qX5_fault_r1 (mg 15 rfl)) (fm_c (qX5_fault_r1 (mg 16 rfl)) (fm_c (qX5_fault_r1 (mg 17 rfl)) (fm_c (qX5_fault_r1 (mg 18 rfl)) (fm_c (qX5_fault_r1 (mg 19 rfl)) (fm_c (qX5_fault_r1 (mg 20 rfl)) (fm_c (qX5_fault_r1 (mg 21 rfl)) (fm_c (qX5_fault_r1 (mg 22 rfl)) (fm_c (qX5_fault_r1 (mg 23 rfl)) (fm_c (qX5_fault_r2 (mg 0 rfl)) (fm_c (qX5_fault_r2 (mg 1 rfl)) (fm_c (qX5_fault_r2 (mg 2 rfl)) (fm_c (qX5_fault_r2 (mg 3 rfl)) (fm_c (qX5_fault_r2 (mg 4 rfl)) (fm_c (qX5_fault_r2 (mg 5 rfl)) (fm_c (qX5_fault_r2 (mg 6 rfl)) (fm_n))))))))))))))))))))))))) (fm_c (qX5_fault_r2 (mg 7 rfl)) (fm_c (qX5_fault_r1 (mg 5 rfl)) (fm_c (qX5_fault_r2 (mg 8 rfl)) (fm_c (qX5_fault_r2 (mg 9 rfl)) (fm_c (qX5_fault_r2 (mg 10 rfl)) (fm_c (qX5_fault_r2 (mg 11 rfl)) (fm_c (qX5_fault_r2 (mg 12 rfl)) (fm_c (qX5_fault_r2 (mg 13 rfl)) (fm_c (qX5_fault_r2 (mg 14 rfl)) (fm_c (qX5_fault_r2 (mg 15 rfl)) (fm_c (qX5_fault_r2 (mg 16 rfl)) (fm_c (qX5_fault_r2 (mg 17 rfl)) (fm_c (qX5_fault_r2 (mg 18 rfl)) (fm_c (qX5_fault_r2 (mg 19 rfl)) (fm_c (qX5_fault_r2 (mg 20 rfl)) (fm_c (qX5_fault_r2 (mg 21 rfl)) (fm_c (qX5_fault_r2 (mg 22 rfl)) (fm_c (qX5_fault_r2 (mg 23 rfl)) (fm_c (qX5_fault_r3 (mg 0 rfl)) (fm_c (qX5_fault_r3 (mg 1 rfl)) (fm_c (qX5_fault_r3 (mg 2 rfl)) (fm_c (qX5_fault_r3 (mg 3 rfl)) (fm_c (qX5_fault_r3 (mg 4 rfl)) (fm_c (qX5_fault_r3 (mg 5 rfl)) (fm_n)))))))))))))))))))))))))) (fun _ h => List.mem_cons_of_mem _ (List.mem_append_left _ (List.mem_append_left _ (List.mem_append_right _ (h)))))) (fun _ h => List.mem_cons_of_mem _ (List.mem_append_left _ (List.mem_append_right _ (h))))) (fun _ h => List.mem_cons_of_mem _ (List.mem_append_right _ (h))))) (by decide +kernel)
set_option maxRecDepth 20000 in
theorem gX5_fault_X3_read : GoodIn wsX5_fault (wsV RX5 54 RX3 yX3_read wsX3_read) := goodIn_app (goodIn_sub (fm_c (qX5_fault_r1 (mg 2 rfl)) (fm_c (qX5_fault_r1 (mg 3 rfl)) (fm_c (qX5_fault_r1 (mg 4 rfl)) (fm_c (qX5_fault_r1 (mg 5 rfl)) (fm_n))))) (by decide +kernel)) ggX5_fault_X3_read
theorem dX5_fault_0 : decode cX5_fault 0 = .ok (.aload_n 0, 1) := by decide +kernel
theorem dX5_fault_1 : decode cX5_fault 1 = .ok (.getfield 19, 3) := by decide +kernel
theorem dX5_fault_4 : decode cX5_fault 4 = .ok (.aload_n 0, 1) := by decide +kernel
theorem dX5_fault_5 : decode cX5_fault 5 = .ok (.getfield 12, 3) := by decide +kernel
theorem dX5_fault_8 : decode cX5_fault 8 = .ok (.invokevirtual 54, 3) := by decide +kernel
theorem dX5_fault_11 : decode cX5_fault 11 = .ok (.ireturn, 1) := by decide +kernel
theorem qX5_code_r1 {w : Cond} (h : w ∈ wsX5_code_r1) : w ∈ wsX5_code := List.mem_cons_of_mem _ (List.mem_append_left _ (List.mem_append_left _ (List.mem_append_left _ (List.mem_append_left _ (List.mem_append_left _ (List.mem_append_left _ (List.mem_append_left _ (h))))))))
theorem qX5_code_r2 {w : Cond} (h : w ∈ wsX5_code_r2) : w ∈ wsX5_code := List.mem_cons_of_mem _ (List.mem_append_left _ (List.mem_append_left _ (List.mem_append_left _ (List.mem_append_left _ (List.mem_append_left _ (List.mem_append_left _ (List.mem_append_right _ (List.mem_append_left _ (h)))))))))
theorem qX5_code_r3 {w : Cond} (h : w ∈ wsX5_code_r3) : w ∈ wsX5_code := List.mem_cons_of_mem _ (List.mem_append_left _ (List.mem_append_left _ (List.mem_append_left _ (List.mem_append_left _ (List.mem_append_left _ (List.mem_append_left _ (List.mem_append_right _ (List.mem_append_right _ (List.mem_append_left _ (h))))))))))
theorem qX5_code_r4 {w : Cond} (h : w ∈ wsX5_code_r4) : w ∈ wsX5_code := List.mem_cons_of_mem _ (List.mem_append_left _ (List.mem_append_left _ (List.mem_append_left _ (List.mem_append_left _ (List.mem_append_left _ (List.mem_append_left _ (List.mem_append_right _ (List.mem_append_right _ (List.mem_append_right _ (List.mem_append_left _ (h)))))))))))
theorem qX5_code_r5 {w : Cond} (h : w ∈ wsX5_code_r5) : w ∈ wsX5_code := List.mem_cons_of_mem _ (List.mem_append_left _ (List.mem_append_left _ (List.mem_append_left _ (List.mem_append_left _ (List.mem_append_left _ (List.mem_append_left _ (List.mem_append_right _ (List.mem_append_right _ (List.mem_append_right _ (List.mem_append_right _ (List.mem_append_left _ (h))))))))))))
theorem qX5_code_r6 {w : Cond} (h : w ∈ wsX5_code_r6) : w ∈ wsX5_code := List.mem_cons_of_mem _ (List.mem_append_left _ (List.mem_append_left _ (List.mem_append_left _ (List.mem_append_left _ (List.mem_append_left _ (List.mem_append_left _ (List.mem_append_right _ (List.mem_append_right _ (List.mem_append_right _ (List.mem_append_right _ (List.mem_append_right _ (List.mem_append_left _ (h)))))))))))))
theorem qX5_code_r7 {w : Cond} (h : w ∈ wsX5_code_r7) : w ∈ wsX5_code := List.mem_cons_of_mem _ (List.mem_append_left _ (List.mem_append_left _ (List.mem_append_left _ (List.mem_append_left _ (List.mem_append_left _ (List.mem_append_left _ (List.mem_append_right _ (List.mem_append_right _ (List.mem_append_right _ (List.mem_append_right _ (List.mem_append_right _ (List.mem_append_right _ (List.mem_append_left _ (h))))))))))))))
theorem qX5_code_r8 {w : Cond} (h : w ∈ wsX5_code_r8) : w ∈ wsX5_code := List.mem_cons_of_mem _ (List.mem_append_left _ (List.mem_append_left _ (List.mem_append_left _ (List.mem_append_left _ (List.mem_append_left _ (List.mem_append_left _ (List.mem_append_right _ (List.mem_append_right _ (List.mem_append_right _ (List.mem_append_right _ (List.mem_append_right _ (List.mem_append_right _ (List.mem_append_right _ (List.mem_append_left _ (h)))))))))))))))
theorem qX5_code_r9 {w : Cond} (h : w ∈ wsX5_code_r9) : w ∈ wsX5_code := List.mem_cons_of_mem _ (List.mem_append_left _ (List.mem_append_left _ (List.mem_append_left _ (List.mem_append_left _ (List.mem_append_left _ (List.mem_append_left _ (List.mem_append_right _ (List.mem_append_right _ (List.mem_append_right _ (List.mem_append_right _ (List.mem_append_right _ (List.mem_append_right _ (List.mem_append_right _ (List.mem_append_right _ (List.mem_append_left _ (h))))))))))))))))
theorem qX5_code_r10 {w : Cond} (h : w ∈ wsX5_code_r10) : w ∈ wsX5_code := List.mem_cons_of_mem _ (List.mem_append_left _ (List.mem_append_left _ (List.mem_append_left _ (List.mem_append_left _ (List.mem_append_left _ (List.mem_append_left _ (List.mem_append_right _ (List.mem_append_right _ (List.mem_append_right _ (List.mem_append_right _ (List.mem_append_right _ (List.mem_append_right _ (List.mem_append_right _ (List.mem_append_right _ (List.mem_append_right _ (List.mem_append_left _ (h)))))))))))))))))
theorem qX5_code_r11 {w : Cond} (h : w ∈ wsX5_code_r11) : w ∈ wsX5_code := List.mem_cons_of_mem _ (List.mem_append_left _ (List.mem_append_left _ (List.mem_append_left _ (List.mem_append_left _ (List.mem_append_left _ (List.mem_append_left _ (List.mem_append_right _ (List.mem_append_right _ (List.mem_append_right _ (List.mem_append_right _ (List.mem_append_right _ (List.mem_append_right _ (List.mem_append_right _ (List.mem_append_right _ (List.mem_append_right _ (List.mem_append_right _ (List.mem_append_left _ (h))))))))))))))))))
theorem qX5_code_r12 {w : Cond} (h : w ∈ wsX5_code_r12) : w ∈ wsX5_code := List.mem_cons_of_mem _ (List.mem_append_left _ (List.mem_append_left _ (List.mem_append_left _ (List.mem_append_left _ (List.mem_append_left _ (List.mem_append_left _ (List.mem_append_right _ (List.mem_append_right _ (List.mem_append_right _ (List.mem_append_right _ (List.mem_append_right _ (List.mem_append_right _ (List.mem_append_right _ (List.mem_append_right _ (List.mem_append_right _ (List.mem_append_right _ (List.mem_append_right _ (h))))))))))))))))))
set_option maxRecDepth 20000 in
theorem ggX5_code_X3_read : GoodIn wsX5_code wsX3_read := goodIn_sub (fm_c (qX5_code_r1 (mg 9 rfl)) (ms_a (ms_a (ms_a (ms_a (fm_c (qX5_code_r1 (mg 10 rfl)) (fm_c (qX5_code_r1 (mg 11 rfl)) (fm_c (qX5_code_r1 (mg 12 rfl)) (fm_c (qX5_code_r1 (mg 13 rfl)) (fm_c (qX5_code_r1 (mg 14 rfl)) (fm_c (qX5_code_r1 (mg 15 rfl)) (fm_c (qX5_code_r1 (mg 16 rfl)) (fm_c (qX5_code_r1 (mg 17 rfl)) (fm_c (qX5_code_r1 (mg 18 rfl)) (fm_c (qX5_code_r1 (mg 19 rfl)) (fm_c (qX5_code_r1 (mg 20 rfl)) (fm_c (qX5_code_r1 (mg 21 rfl)) (fm_c (qX5_code_r1 (mg 22 rfl)) (fm_c (qX5_code_r1 (mg 23 rfl)) (fm_c (qX5_code_r2 (mg 0 rfl)) (fm_c (qX5_code_r2 (mg 1 rfl)) (fm_c (qX5_code_r2 (mg 2 rfl)) (fm_c (qX5_code_r2 (mg 3 rfl)) (fm_c (qX5_code_r2 (mg 4 rfl)) (fm_c (qX5_code_r2 (mg 5 rfl)) (fm_c (qX5_code_r2 (mg 6 rfl)) (fm_c (qX5_code_r2 (mg 7 rfl)) (fm_c (qX5_code_r2 (mg 8 rfl)) (fm_c (qX5_code_r2 (mg 9 rfl)) (fm_n))))))))))))))))))))))))) (fm_c (qX5_code_r2 (mg 10 rfl)) (fm_c (qX5_code_r1 (mg 8 rfl)) (fm_c (qX5_code_r2 (mg 11 rfl)) (fm_c (qX5_code_r2 (mg 12 rfl)) (fm_c (qX5_code_r2 (mg 13 rfl)) (fm_c (qX5_code_r2 (mg 14 rfl)) (fm_c (qX5_code_r2 (mg 15 rfl)) (fm_c (qX5_code_r2 (mg 16 rfl)) (fm_c (qX5_code_r2 (mg 17 rfl)) (fm_c (qX5_code_r2 (mg 18 rfl)) (fm_c (qX5_code_r2 (mg 19 rfl)) (fm_c (qX5_code_r2 (mg 20 rfl)) (fm_c (qX5_code_r2 (mg 21 rfl)) (fm_c (qX5_code_r2 (mg 22 rfl)) (fm_c (qX5_code_r2 (mg 23 rfl)) (fm_c (qX5_code_r3 (mg 0 rfl)) (fm_c (qX5_code_r3 (mg 1 rfl)) (fm_c (qX5_code_r3 (mg 2 rfl)) (fm_c (qX5_code_r3 (mg 3 rfl)) (fm_c (qX5_code_r3 (mg 4 rfl)) (fm_c (qX5_code_r3 (mg 5 rfl)) (fm_c (qX5_code_r3 (mg 6 rfl)) (fm_c (qX5_code_r3 (mg 7 rfl)) (fm_c (qX5_code_r3 (mg 8 rfl)) (fm_n)))))))))))))))))))))))))) (fun _ h => List.mem_cons_of_mem _ (List.mem_append_left _ (List.mem_append_left _ (List.mem_append_left _ (List.mem_append_left _ (List.mem_append_right _ (h)))))))) (fun _ h => List.mem_cons_of_mem _ (List.mem_append_left _ (List.mem_append_left _ (List.mem_append_left _ (List.mem_append_right _ (h))))))) (fun _ h => List.mem_cons_of_mem _ (List.mem_append_left _ (List.mem_append_left _ (List.mem_append_right _ (h))))))) (by decide +kernel)
set_option maxRecDepth 20000 in
theorem gX5_code_X3_read : GoodIn wsX5_code (wsV RX5 54 RX3 yX3_read wsX3_read) := goodIn_app (goodIn_sub (fm_c (qX5_code_r1 (mg 5 rfl)) (fm_c (qX5_code_r1 (mg 6 rfl)) (fm_c (qX5_code_r1 (mg 7 rfl)) (fm_c (qX5_code_r1 (mg 8 rfl)) (fm_n))))) (by decide +kernel)) ggX5_code_X3_read
set_option maxRecDepth 20000 in
theorem ggX5_code_X1_length : GoodIn wsX5_code wsX1_length := goodIn_sub (fm_c (qX5_code_r2 (mg 1 rfl)) (ms_a (fm_c (qX5_code_r2 (mg 2 rfl)) (fm_n)) (fun _ h => List.mem_cons_of_mem _ (List.mem_append_left _ (List.mem_append_left _ (List.mem_append_right _ (h))))))) (by decide +kernel)
set_option maxRecDepth 20000 in
theorem gX5_code_X1_length : GoodIn wsX5_code (wsV RX5 47 RX1 yX1_length wsX1_length) := goodIn_app (goodIn_sub (fm_c (qX5_code_r3 (mg 9 rfl)) (fm_c (qX5_code_r1 (mg 22 rfl)) (fm_c (qX5_code_r1 (mg 23 rfl)) (fm_c (qX5_code_r2 (mg 0 rfl)) (fm_n))))) (by decide +kernel)) ggX5_code_X1_length
set_option maxRecDepth 20000 in
theorem ggX5_code_X3_isWhole : GoodIn wsX5_code wsX3_isWhole := goodIn_sub (fm_c (qX5_code_r3 (mg 13 rfl)) (ms_a (ms_a (fm_c (qX5_code_r1 (mg 10 rfl)) (fm_c (qX5_code_r1 (mg 11 rfl)) (fm_c (qX5_code_r1 (mg 13 rfl)) (fm_c (qX5_code_r1 (mg 12 rfl)) (fm_c (qX5_code_r2 (mg 15 rfl)) (fm_c (qX5_code_r2 (mg 16 rfl)) (fm_c (qX5_code_r2 (mg 17 rfl)) (fm_c (qX5_code_r1 (mg 17 rfl)) (fm_c (qX5_code_r2 (mg 18 rfl)) (fm_c (qX5_code_r1 (mg 19 rfl)) (fm_n))))))))))) (fun _ h => List.mem_cons_of_mem _ (List.mem_append_left _ (List.mem_append_left _ (List.mem_append_left _ (List.mem_append_left _ (List.mem_append_right _ (h)))))))) (fun _ h => List.mem_cons_of_mem _ (List.mem_append_left _ (List.mem_append_left _ (List.mem_append_left _ (List.mem_append_right _ (h)))))))) (by decide +kernel)
set_option maxRecDepth 20000 in
theorem gX5_code_X3_isWhole : GoodIn wsX5_code (wsV RX5 58 RX3 yX3_isWhole wsX3_isWhole) := goodIn_app (goodIn_sub (fm_c (qX5_code_r3 (mg 10 rfl)) (fm_c (qX5_code_r3 (mg 11 rfl)) (fm_c (qX5_code_r3 (mg 12 rfl)) (fm_c (qX5_code_r1 (mg 8 rfl)) (fm_n))))) (by decide +kernel)) ggX5_code_X3_isWhole
set_option maxRecDepth 20000 in
theorem ggX5_code_X0_takeFrom : GoodIn wsX5_code wsX0_takeFrom := goodIn_sub (fm_c (qX5_code_r3 (mg 17 rfl)) (ms_a (ms_a (fm_c (qX5_code_r3 (mg 18 rfl)) (fm_c (qX5_code_r1 (mg 15 rfl)) (fm_c (qX5_code_r1 (mg 16 rfl)) (fm_c (qX5_code_r1 (mg 17 rfl)) (fm_c (qX5_code_r1 (mg 18 rfl)) (fm_c (qX5_code_r1 (mg 19 rfl)) (fm_c (qX5_code_r1 (mg 20 rfl)) (fm_c (qX5_code_r3 (mg 19 rfl)) (fm_c (qX5_code_r2 (mg 16 rfl)) (fm_c (qX5_code_r2 (mg 17 rfl)) (fm_c (qX5_code_r2 (mg 18 rfl)) (fm_c (qX5_code_r3 (mg 20 rfl)) (fm_c (qX5_code_r3 (mg 21 rfl)) (fm_c (qX5_code_r3 (mg 22 rfl)) (fm_c (qX5_code_r3 (mg 23 rfl)) (fm_c (qX5_code_r2 (mg 23 rfl)) (fm_c (qX5_code_r4 (mg 0 rfl)) (fm_c (qX5_code_r4 (mg 1 rfl)) (fm_c (qX5_code_r4 (mg 2 rfl)) (fm_c (qX5_code_r4 (mg 3 rfl)) (fm_c (qX5_code_r3 (mg 0 rfl)) (fm_c (qX5_code_r4 (mg 4 rfl)) (fm_c (qX5_code_r4 (mg 5 rfl)) (fm_c (qX5_code_r4 (mg 6 rfl)) (fm_n))))))))))))))))))))))))) (fm_c (qX5_code_r4 (mg 7 rfl)) (fm_c (qX5_code_r4 (mg 8 rfl)) (fm_c (qX5_code_r2 (mg 20 rfl)) (fm_c (qX5_code_r2 (mg 21 rfl)) (fm_c (qX5_code_r2 (mg 22 rfl)) (fm_n))))))) (fun _ h => List.mem_cons_of_mem _ (List.mem_append_left _ (List.mem_append_left _ (List.mem_append_left _ (List.mem_append_right _ (h)))))))) (by decide +kernel)
set_option maxRecDepth 20000 in
theorem gX5_code_X0_takeFrom : GoodIn wsX5_code (wsV RX5 65 RX0 yX0_takeFrom wsX0_takeFrom) := goodIn_app (goodIn_sub (fm_c (qX5_code_r3 (mg 14 rfl)) (fm_c (qX5_code_r3 (mg 15 rfl)) (fm_c (qX5_code_r3 (mg 16 rfl)) (fm_c (qX5_code_r1 (mg 17 rfl)) (fm_n))))) (by decide +kernel)) ggX5_code_X0_takeFrom
set_option maxRecDepth 20000 in
theorem ggX5_code_X1_clear : GoodIn wsX5_code wsX1_clear := goodIn_sub (fm_c (qX5_code_r4 (mg 12 rfl)) (ms_a (fm_c (qX5_code_r2 (mg 2 rfl)) (fm_n)) (fun _ h => List.mem_cons_of_mem _ (List.mem_append_left _ (List.mem_append_left _ (List.mem_append_right _ (h))))))) (by decide +kernel)
set_option maxRecDepth 20000 in
theorem gX5_code_X1_clear : GoodIn wsX5_code (wsV RX5 51 RX1 yX1_clear wsX1_clear) := goodIn_app (goodIn_sub (fm_c (qX5_code_r4 (mg 9 rfl)) (fm_c (qX5_code_r4 (mg 10 rfl)) (fm_c (qX5_code_r4 (mg 11 rfl)) (fm_c (qX5_code_r2 (mg 0 rfl)) (fm_n))))) (by decide +kernel)) ggX5_code_X1_clear
set_option maxRecDepth 20000 in
theorem ggX5_code_X2_placeAll : GoodIn wsX5_code wsX2_placeAll := goodIn_sub (fm_c (qX5_code_r4 (mg 17 rfl)) (ms_a (ms_a (ms_a (ms_a (fm_c (qX5_code_r4 (mg 18 rfl)) (fm_c (qX5_code_r4 (mg 19 rfl)) (fm_c (qX5_code_r4 (mg 20 rfl)) (fm_c (qX5_code_r4 (mg 21 rfl)) (fm_c (qX5_code_r4 (mg 22 rfl)) (fm_c (qX5_code_r4 (mg 16 rfl)) (fm_c (qX5_code_r4 (mg 23 rfl)) (fm_c (qX5_code_r5 (mg 0 rfl)) (fm_c (qX5_code_r5 (mg 1 rfl)) (fm_c (qX5_code_r5 (mg 2 rfl)) (fm_c (qX5_code_r5 (mg 3 rfl)) (fm_c (qX5_code_r5 (mg 4 rfl)) (fm_c (qX5_code_r5 (mg 5 rfl)) (fm_c (qX5_code_r5 (mg 6 rfl)) (fm_c (qX5_code_r5 (mg 7 rfl)) (fm_c (qX5_code_r5 (mg 8 rfl)) (fm_c (qX5_code_r5 (mg 9 rfl)) (fm_c (qX5_code_r5 (mg 10 rfl)) (fm_c (qX5_code_r5 (mg 11 rfl)) (fm_c (qX5_code_r5 (mg 12 rfl)) (fm_c (qX5_code_r5 (mg 13 rfl)) (fm_c (qX5_code_r5 (mg 14 rfl)) (fm_c (qX5_code_r5 (mg 15 rfl)) (fm_c (qX5_code_r5 (mg 16 rfl)) (fm_n))))))))))))))))))))))))) (ms_a (fm_c (qX5_code_r2 (mg 16 rfl)) (fm_c (qX5_code_r2 (mg 17 rfl)) (fm_c (qX5_code_r1 (mg 17 rfl)) (fm_c (qX5_code_r2 (mg 18 rfl)) (fm_c (qX5_code_r1 (mg 19 rfl)) (fm_c (qX5_code_r5 (mg 17 rfl)) (fm_c (qX5_code_r5 (mg 18 rfl)) (fm_c (qX5_code_r5 (mg 19 rfl)) (fm_c (qX5_code_r5 (mg 20 rfl)) (fm_c (qX5_code_r5 (mg 21 rfl)) (fm_c (qX5_code_r5 (mg 22 rfl)) (fm_c (qX5_code_r5 (mg 23 rfl)) (fm_c (qX5_code_r3 (mg 21 rfl)) (fm_c (qX5_code_r3 (mg 22 rfl)) (fm_c (qX5_code_r3 (mg 23 rfl)) (fm_c (qX5_code_r2 (mg 23 rfl)) (fm_c (qX5_code_r4 (mg 0 rfl)) (fm_c (qX5_code_r4 (mg 1 rfl)) (fm_c (qX5_code_r4 (mg 2 rfl)) (fm_c (qX5_code_r4 (mg 3 rfl)) (fm_c (qX5_code_r3 (mg 0 rfl)) (fm_c (qX5_code_r6 (mg 0 rfl)) (fm_c (qX5_code_r6 (mg 1 rfl)) (fm_c (qX5_code_r6 (mg 2 rfl)) (fm_n))))))))))))))))))))))))) (ms_a (fm_c (qX5_code_r6 (mg 3 rfl)) (fm_c (qX5_code_r6 (mg 4 rfl)) (fm_c (qX5_code_r4 (mg 5 rfl)) (fm_c (qX5_code_r4 (mg 6 rfl)) (fm_c (qX5_code_r4 (mg 7 rfl)) (fm_c (qX5_code_r6 (mg 5 rfl)) (fm_c (qX5_code_r6 (mg 6 rfl)) (fm_c (qX5_code_r6 (mg 7 rfl)) (fm_c (qX5_code_r6 (mg 8 rfl)) (fm_c (qX5_code_r6 (mg 9 rfl)) (fm_c (qX5_code_r6 (mg 10 rfl)) (fm_c (qX5_code_r6 (mg 11 rfl)) (fm_c (qX5_code_r6 (mg 12 rfl)) (fm_c (qX5_code_r6 (mg 13 rfl)) (fm_c (qX5_code_r6 (mg 14 rfl)) (fm_c (qX5_code_r6 (mg 15 rfl)) (fm_c (qX5_code_r6 (mg 16 rfl)) (fm_c (qX5_code_r6 (mg 17 rfl)) (fm_c (qX5_code_r6 (mg 18 rfl)) (fm_c (qX5_code_r6 (mg 19 rfl)) (fm_c (qX5_code_r6 (mg 20 rfl)) (fm_c (qX5_code_r6 (mg 21 rfl)) (fm_c (qX5_code_r6 (mg 22 rfl)) (fm_c (qX5_code_r6 (mg 23 rfl)) (fm_n))))))))))))))))))))))))) (ms_a (fm_c (qX5_code_r7 (mg 0 rfl)) (fm_c (qX5_code_r7 (mg 1 rfl)) (fm_c (qX5_code_r7 (mg 2 rfl)) (fm_c (qX5_code_r7 (mg 3 rfl)) (fm_c (qX5_code_r7 (mg 4 rfl)) (fm_c (qX5_code_r7 (mg 5 rfl)) (fm_c (qX5_code_r7 (mg 6 rfl)) (fm_c (qX5_code_r7 (mg 7 rfl)) (fm_c (qX5_code_r7 (mg 8 rfl)) (fm_c (qX5_code_r7 (mg 9 rfl)) (fm_c (qX5_code_r7 (mg 10 rfl)) (fm_c (qX5_code_r7 (mg 11 rfl)) (fm_c (qX5_code_r7 (mg 12 rfl)) (fm_c (qX5_code_r7 (mg 13 rfl)) (fm_c (qX5_code_r7 (mg 14 rfl)) (fm_c (qX5_code_r7 (mg 15 rfl)) (fm_c (qX5_code_r7 (mg 16 rfl)) (fm_c (qX5_code_r7 (mg 17 rfl)) (fm_c (qX5_code_r7 (mg 18 rfl)) (fm_c (qX5_code_r7 (mg 19 rfl)) (fm_c (qX5_code_r7 (mg 20 rfl)) (fm_c (qX5_code_r7 (mg 21 rfl)) (fm_c (qX5_code_r7 (mg 22 rfl)) (fm_c (qX5_code_r7 (mg 23 rfl)) (fm_n))))))))))))))))))))))))) (ms_a (fm_c (qX5_code_r8 (mg 0 rfl)) (fm_c (qX5_code_r8 (mg 1 rfl)) (fm_c (qX5_code_r8 (mg 2 rfl)) (fm_c (qX5_code_r8 (mg 3 rfl)) (fm_c (qX5_code_r8 (mg 4 rfl)) (fm_c (qX5_code_r8 (mg 5 rfl)) (fm_c (qX5_code_r8 (mg 6 rfl)) (fm_c (qX5_code_r8 (mg 7 rfl)) (fm_c (qX5_code_r8 (mg 8 rfl)) (fm_c (qX5_code_r8 (mg 9 rfl)) (fm_c (qX5_code_r8 (mg 10 rfl)) (fm_c (qX5_code_r8 (mg 11 rfl)) (fm_c (qX5_code_r8 (mg 12 rfl)) (fm_c (qX5_code_r8 (mg 13 rfl)) (fm_c (qX5_code_r8 (mg 14 rfl)) (fm_c (qX5_code_r8 (mg 15 rfl)) (fm_c (qX5_code_r8 (mg 16 rfl)) (fm_c (qX5_code_r8 (mg 17 rfl)) (fm_c (qX5_code_r8 (mg 18 rfl)) (fm_c (qX5_code_r8 (mg 19 rfl)) (fm_c (qX5_code_r8 (mg 20 rfl)) (fm_c (qX5_code_r8 (mg 21 rfl)) (fm_c (qX5_code_r8 (mg 22 rfl)) (fm_c (qX5_code_r8 (mg 23 rfl)) (fm_n))))))))))))))))))))))))) (ms_a (fm_c (qX5_code_r9 (mg 0 rfl)) (fm_c (qX5_code_r9 (mg 1 rfl)) (fm_c (qX5_code_r9 (mg 2 rfl)) (fm_c (qX5_code_r9 (mg 3 rfl)) (fm_c (qX5_code_r9 (mg 4 rfl)) (fm_c (qX5_code_r9 (mg 5 rfl)) (fm_c (qX5_code_r9 (mg 6 rfl)) (fm_c (qX5_code_r9 (mg 7 rfl)) (fm_c (qX5_code_r9 (mg 8 rfl)) (fm_c (qX5_code_r9 (mg 9 rfl)) (fm_c (qX5_code_r9 (mg 10 rfl)) (fm_c (qX5_code_r9 (mg 11 rfl)) (fm_c (qX5_code_r9 (mg 12 rfl)) (fm_c (qX5_code_r9 (mg 13 rfl)) (fm_c (qX5_code_r9 (mg 14 rfl)) (fm_c (qX5_code_r9 (mg 15 rfl)) (fm_c (qX5_code_r9 (mg 16 rfl)) (fm_c (qX5_code_r9 (mg 17 rfl)) (fm_c (qX5_code_r9 (mg 18 rfl)) (fm_c (qX5_code_r9 (mg 19 rfl)) (fm_c (qX5_code_r9 (mg 20 rfl)) (fm_c (qX5_code_r9 (mg 21 rfl)) (fm_c (qX5_code_r9 (mg 22 rfl)) (fm_c (qX5_code_r9 (mg 23 rfl)) (fm_n))))))))))))))))))))))))) (ms_a (fm_c (qX5_code_r10 (mg 0 rfl)) (fm_c (qX5_code_r10 (mg 1 rfl)) (fm_c (qX5_code_r10 (mg 2 rfl)) (fm_c (qX5_code_r10 (mg 3 rfl)) (fm_c (qX5_code_r10 (mg 4 rfl)) (fm_c (qX5_code_r10 (mg 5 rfl)) (fm_c (qX5_code_r10 (mg 6 rfl)) (fm_c (qX5_code_r10 (mg 7 rfl)) (fm_c (qX5_code_r10 (mg 8 rfl)) (fm_c (qX5_code_r10 (mg 9 rfl)) (fm_c (qX5_code_r10 (mg 10 rfl)) (fm_c (qX5_code_r10 (mg 11 rfl)) (fm_c (qX5_code_r10 (mg 12 rfl)) (fm_c (qX5_code_r10 (mg 13 rfl)) (fm_c (qX5_code_r10 (mg 14 rfl)) (fm_c (qX5_code_r10 (mg 15 rfl)) (fm_c (qX5_code_r10 (mg 16 rfl)) (fm_c (qX5_code_r10 (mg 17 rfl)) (fm_c (qX5_code_r10 (mg 18 rfl)) (fm_c (qX5_code_r10 (mg 19 rfl)) (fm_c (qX5_code_r10 (mg 20 rfl)) (fm_c (qX5_code_r10 (mg 21 rfl)) (fm_c (qX5_code_r10 (mg 22 rfl)) (fm_c (qX5_code_r10 (mg 23 rfl)) (fm_n))))))))))))))))))))))))) (fm_c (qX5_code_r11 (mg 0 rfl)) (fm_c (qX5_code_r11 (mg 1 rfl)) (fm_c (qX5_code_r11 (mg 2 rfl)) (fm_c (qX5_code_r11 (mg 3 rfl)) (fm_c (qX5_code_r11 (mg 4 rfl)) (fm_c (qX5_code_r11 (mg 5 rfl)) (fm_c (qX5_code_r11 (mg 6 rfl)) (fm_c (qX5_code_r11 (mg 7 rfl)) (fm_c (qX5_code_r11 (mg 8 rfl)) (fm_c (qX5_code_r11 (mg 9 rfl)) (fm_c (qX5_code_r11 (mg 10 rfl)) (fm_c (qX5_code_r11 (mg 11 rfl)) (fm_c (qX5_code_r11 (mg 12 rfl)) (fm_c (qX5_code_r11 (mg 13 rfl)) (fm_c (qX5_code_r11 (mg 14 rfl)) (fm_c (qX5_code_r11 (mg 15 rfl)) (fm_c (qX5_code_r11 (mg 16 rfl)) (fm_c (qX5_code_r11 (mg 17 rfl)) (fm_c (qX5_code_r11 (mg 18 rfl)) (fm_c (qX5_code_r11 (mg 19 rfl)) (fm_c (qX5_code_r11 (mg 20 rfl)) (fm_c (qX5_code_r11 (mg 21 rfl)) (fm_c (qX5_code_r11 (mg 22 rfl)) (fm_c (qX5_code_r11 (mg 23 rfl)) (fm_n)))))))))))))))))))))))))))))))) (fun _ h => List.mem_cons_of_mem _ (List.mem_append_left _ (List.mem_append_right _ (h))))) (fun _ h => List.mem_cons_of_mem _ (List.mem_append_right _ (h)))) (fun _ h => List.mem_cons_of_mem _ (List.mem_append_left _ (List.mem_append_left _ (List.mem_append_left _ (List.mem_append_right _ (h)))))))) (by decide +kernel)
set_option maxRecDepth 20000 in
theorem gX5_code_X2_placeAll : GoodIn wsX5_code (wsV RX5 73 RX2 yX2_placeAll wsX2_placeAll) := goodIn_app (goodIn_sub (fm_c (qX5_code_r4 (mg 13 rfl)) (fm_c (qX5_code_r4 (mg 14 rfl)) (fm_c (qX5_code_r4 (mg 15 rfl)) (fm_c (qX5_code_r4 (mg 16 rfl)) (fm_n))))) (by decide +kernel)) ggX5_code_X2_placeAll
set_option maxRecDepth 20000 in
theorem ggX5_code_X0_size : GoodIn wsX5_code wsX0_size := goodIn_sub (fm_c (qX5_code_r2 (mg 18 rfl)) (ms_a (fm_c (qX5_code_r1 (mg 19 rfl)) (fm_n)) (fun _ h => List.mem_cons_of_mem _ (List.mem_append_left _ (List.mem_append_left _ (List.mem_append_left _ (List.mem_append_right _ (h)))))))) (by decide +kernel)
set_option maxRecDepth 20000 in
theorem gX5_code_X0_size : GoodIn wsX5_code (wsV RX5 76 RX0 yX0_size wsX0_size) := goodIn_app (goodIn_sub (fm_c (qX5_code_r12 (mg 0 rfl)) (fm_c (qX5_code_r2 (mg 16 rfl)) (fm_c (qX5_code_r2 (mg 17 rfl)) (fm_c (qX5_code_r1 (mg 17 rfl)) (fm_n))))) (by decide +kernel)) ggX5_code_X0_size
theorem dX5_code_0 : decode cX5_code 0 = .ok (.aload_n 0, 1) := by decide +kernel
theorem dX5_code_1 : decode cX5_code 1 = .ok (.getfield 19, 3) := by decide +kernel
theorem dX5_code_4 : decode cX5_code 4 = .ok (.aload_n 0, 1) := by decide +kernel
theorem dX5_code_5 : decode cX5_code 5 = .ok (.getfield 12, 3) := by decide +kernel
theorem dX5_code_8 : decode cX5_code 8 = .ok (.invokevirtual 54, 3) := by decide +kernel
theorem dX5_code_11 : decode cX5_code 11 = .ok (.aload_n 0, 1) := by decide +kernel
theorem dX5_code_12 : decode cX5_code 12 = .ok (.getfield 12, 3) := by decide +kernel
theorem dX5_code_15 : decode cX5_code 15 = .ok (.invokevirtual 47, 3) := by decide +kernel
theorem dX5_code_18 : decode cX5_code 18 = .ok (.if_icmp .lt 13, 3) := by decide +kernel
theorem dX5_code_21 : decode cX5_code 21 = .ok (.aload_n 0, 1) := by decide +kernel
theorem dX5_code_22 : decode cX5_code 22 = .ok (.getfield 19, 3) := by decide +kernel
theorem dX5_code_25 : decode cX5_code 25 = .ok (.invokevirtual 58, 3) := by decide +kernel
theorem dX5_code_28 : decode cX5_code 28 = .ok (.ifCond .ne 7, 3) := by decide +kernel
theorem dX5_code_31 : decode cX5_code 31 = .ok (.sipush (-1003), 3) := by decide +kernel
theorem dX5_code_34 : decode cX5_code 34 = .ok (.ireturn, 1) := by decide +kernel
theorem dX5_code_35 : decode cX5_code 35 = .ok (.aload_n 0, 1) := by decide +kernel
theorem dX5_code_36 : decode cX5_code 36 = .ok (.getfield 26, 3) := by decide +kernel
theorem dX5_code_39 : decode cX5_code 39 = .ok (.aload_n 0, 1) := by decide +kernel
theorem dX5_code_40 : decode cX5_code 40 = .ok (.getfield 19, 3) := by decide +kernel
theorem dX5_code_43 : decode cX5_code 43 = .ok (.getfield 62, 3) := by decide +kernel
theorem dX5_code_46 : decode cX5_code 46 = .ok (.invokevirtual 65, 3) := by decide +kernel
theorem dX5_code_49 : decode cX5_code 49 = .ok (.aload_n 0, 1) := by decide +kernel
theorem dX5_code_50 : decode cX5_code 50 = .ok (.getfield 12, 3) := by decide +kernel
theorem dX5_code_53 : decode cX5_code 53 = .ok (.invokevirtual 51, 3) := by decide +kernel
theorem dX5_code_56 : decode cX5_code 56 = .ok (.aload_n 0, 1) := by decide +kernel
theorem dX5_code_57 : decode cX5_code 57 = .ok (.dup, 1) := by decide +kernel
theorem dX5_code_58 : decode cX5_code 58 = .ok (.getfield 69, 3) := by decide +kernel
theorem dX5_code_61 : decode cX5_code 61 = .ok (.iconst 1, 1) := by decide +kernel
theorem dX5_code_62 : decode cX5_code 62 = .ok (.iadd, 1) := by decide +kernel
theorem dX5_code_63 : decode cX5_code 63 = .ok (.putfield 69, 3) := by decide +kernel
theorem dX5_code_66 : decode cX5_code 66 = .ok (.aload_n 0, 1) := by decide +kernel
theorem dX5_code_67 : decode cX5_code 67 = .ok (.getfield 39, 3) := by decide +kernel
theorem dX5_code_70 : decode cX5_code 70 = .ok (.invokevirtual 73, 3) := by decide +kernel
theorem dX5_code_73 : decode cX5_code 73 = .ok (.aload_n 0, 1) := by decide +kernel
theorem dX5_code_74 : decode cX5_code 74 = .ok (.getfield 26, 3) := by decide +kernel
theorem dX5_code_77 : decode cX5_code 77 = .ok (.invokevirtual 76, 3) := by decide +kernel
theorem dX5_code_80 : decode cX5_code 80 = .ok (.ireturn, 1) := by decide +kernel
theorem qX5_reach_r1 {w : Cond} (h : w ∈ wsX5_reach_r1) : w ∈ wsX5_reach := List.mem_cons_of_mem _ (List.mem_append_left _ (List.mem_append_left _ (List.mem_append_left _ (List.mem_append_left _ (List.mem_append_left _ (h))))))
theorem qX5_reach_r2 {w : Cond} (h : w ∈ wsX5_reach_r2) : w ∈ wsX5_reach := List.mem_cons_of_mem _ (List.mem_append_left _ (List.mem_append_left _ (List.mem_append_left _ (List.mem_append_left _ (List.mem_append_right _ (List.mem_append_left _ (h)))))))
theorem qX5_reach_r3 {w : Cond} (h : w ∈ wsX5_reach_r3) : w ∈ wsX5_reach := List.mem_cons_of_mem _ (List.mem_append_left _ (List.mem_append_left _ (List.mem_append_left _ (List.mem_append_left _ (List.mem_append_right _ (List.mem_append_right _ (List.mem_append_left _ (h))))))))
theorem qX5_reach_r4 {w : Cond} (h : w ∈ wsX5_reach_r4) : w ∈ wsX5_reach := List.mem_cons_of_mem _ (List.mem_append_left _ (List.mem_append_left _ (List.mem_append_left _ (List.mem_append_left _ (List.mem_append_right _ (List.mem_append_right _ (List.mem_append_right _ (List.mem_append_left _ (h)))))))))
theorem qX5_reach_r5 {w : Cond} (h : w ∈ wsX5_reach_r5) : w ∈ wsX5_reach := List.mem_cons_of_mem _ (List.mem_append_left _ (List.mem_append_left _ (List.mem_append_left _ (List.mem_append_left _ (List.mem_append_right _ (List.mem_append_right _ (List.mem_append_right _ (List.mem_append_right _ (List.mem_append_left _ (h))))))))))
theorem qX5_reach_r6 {w : Cond} (h : w ∈ wsX5_reach_r6) : w ∈ wsX5_reach := List.mem_cons_of_mem _ (List.mem_append_left _ (List.mem_append_left _ (List.mem_append_left _ (List.mem_append_left _ (List.mem_append_right _ (List.mem_append_right _ (List.mem_append_right _ (List.mem_append_right _ (List.mem_append_right _ (List.mem_append_left _ (h)))))))))))
theorem qX5_reach_r7 {w : Cond} (h : w ∈ wsX5_reach_r7) : w ∈ wsX5_reach := List.mem_cons_of_mem _ (List.mem_append_left _ (List.mem_append_left _ (List.mem_append_left _ (List.mem_append_left _ (List.mem_append_right _ (List.mem_append_right _ (List.mem_append_right _ (List.mem_append_right _ (List.mem_append_right _ (List.mem_append_right _ (List.mem_append_left _ (h))))))))))))
theorem qX5_reach_r8 {w : Cond} (h : w ∈ wsX5_reach_r8) : w ∈ wsX5_reach := List.mem_cons_of_mem _ (List.mem_append_left _ (List.mem_append_left _ (List.mem_append_left _ (List.mem_append_left _ (List.mem_append_right _ (List.mem_append_right _ (List.mem_append_right _ (List.mem_append_right _ (List.mem_append_right _ (List.mem_append_right _ (List.mem_append_right _ (List.mem_append_left _ (h)))))))))))))
theorem qX5_reach_r9 {w : Cond} (h : w ∈ wsX5_reach_r9) : w ∈ wsX5_reach := List.mem_cons_of_mem _ (List.mem_append_left _ (List.mem_append_left _ (List.mem_append_left _ (List.mem_append_left _ (List.mem_append_right _ (List.mem_append_right _ (List.mem_append_right _ (List.mem_append_right _ (List.mem_append_right _ (List.mem_append_right _ (List.mem_append_right _ (List.mem_append_right _ (h)))))))))))))
set_option maxRecDepth 20000 in
theorem ggX5_reach_X2_placeAll : GoodIn wsX5_reach wsX2_placeAll := goodIn_sub (fm_c (qX5_reach_r1 (mg 9 rfl)) (ms_a (ms_a (ms_a (ms_a (fm_c (qX5_reach_r1 (mg 10 rfl)) (fm_c (qX5_reach_r1 (mg 11 rfl)) (fm_c (qX5_reach_r1 (mg 12 rfl)) (fm_c (qX5_reach_r1 (mg 13 rfl)) (fm_c (qX5_reach_r1 (mg 14 rfl)) (fm_c (qX5_reach_r1 (mg 8 rfl)) (fm_c (qX5_reach_r1 (mg 15 rfl)) (fm_c (qX5_reach_r1 (mg 16 rfl)) (fm_c (qX5_reach_r1 (mg 17 rfl)) (fm_c (qX5_reach_r1 (mg 18 rfl)) (fm_c (qX5_reach_r1 (mg 19 rfl)) (fm_c (qX5_reach_r1 (mg 20 rfl)) (fm_c (qX5_reach_r1 (mg 21 rfl)) (fm_c (qX5_reach_r1 (mg 22 rfl)) (fm_c (qX5_reach_r1 (mg 23 rfl)) (fm_c (qX5_reach_r2 (mg 0 rfl)) (fm_c (qX5_reach_r2 (mg 1 rfl)) (fm_c (qX5_reach_r2 (mg 2 rfl)) (fm_c (qX5_reach_r2 (mg 3 rfl)) (fm_c (qX5_reach_r2 (mg 4 rfl)) (fm_c (qX5_reach_r2 (mg 5 rfl)) (fm_c (qX5_reach_r2 (mg 6 rfl)) (fm_c (qX5_reach_r2 (mg 7 rfl)) (fm_c (qX5_reach_r2 (mg 8 rfl)) (fm_n))))))))))))))))))))))))) (ms_a (fm_c (qX5_reach_r2 (mg 9 rfl)) (fm_c (qX5_reach_r2 (mg 10 rfl)) (fm_c (qX5_reach_r2 (mg 11 rfl)) (fm_c (qX5_reach_r2 (mg 12 rfl)) (fm_c (qX5_reach_r2 (mg 13 rfl)) (fm_c (qX5_reach_r2 (mg 14 rfl)) (fm_c (qX5_reach_r2 (mg 15 rfl)) (fm_c (qX5_reach_r2 (mg 16 rfl)) (fm_c (qX5_reach_r2 (mg 17 rfl)) (fm_c (qX5_reach_r2 (mg 18 rfl)) (fm_c (qX5_reach_r2 (mg 19 rfl)) (fm_c (qX5_reach_r2 (mg 20 rfl)) (fm_c (qX5_reach_r2 (mg 21 rfl)) (fm_c (qX5_reach_r2 (mg 22 rfl)) (fm_c (qX5_reach_r2 (mg 23 rfl)) (fm_c (qX5_reach_r3 (mg 0 rfl)) (fm_c (qX5_reach_r3 (mg 1 rfl)) (fm_c (qX5_reach_r3 (mg 2 rfl)) (fm_c (qX5_reach_r3 (mg 3 rfl)) (fm_c (qX5_reach_r3 (mg 4 rfl)) (fm_c (qX5_reach_r3 (mg 5 rfl)) (fm_c (qX5_reach_r3 (mg 6 rfl)) (fm_c (qX5_reach_r3 (mg 7 rfl)) (fm_c (qX5_reach_r3 (mg 8 rfl)) (fm_n))))))))))))))))))))))))) (ms_a (fm_c (qX5_reach_r3 (mg 9 rfl)) (fm_c (qX5_reach_r3 (mg 10 rfl)) (fm_c (qX5_reach_r3 (mg 11 rfl)) (fm_c (qX5_reach_r3 (mg 12 rfl)) (fm_c (qX5_reach_r3 (mg 13 rfl)) (fm_c (qX5_reach_r3 (mg 14 rfl)) (fm_c (qX5_reach_r3 (mg 15 rfl)) (fm_c (qX5_reach_r3 (mg 16 rfl)) (fm_c (qX5_reach_r3 (mg 17 rfl)) (fm_c (qX5_reach_r3 (mg 18 rfl)) (fm_c (qX5_reach_r3 (mg 19 rfl)) (fm_c (qX5_reach_r3 (mg 20 rfl)) (fm_c (qX5_reach_r3 (mg 21 rfl)) (fm_c (qX5_reach_r3 (mg 22 rfl)) (fm_c (qX5_reach_r3 (mg 23 rfl)) (fm_c (qX5_reach_r4 (mg 0 rfl)) (fm_c (qX5_reach_r4 (mg 1 rfl)) (fm_c (qX5_reach_r4 (mg 2 rfl)) (fm_c (qX5_reach_r4 (mg 3 rfl)) (fm_c (qX5_reach_r4 (mg 4 rfl)) (fm_c (qX5_reach_r4 (mg 5 rfl)) (fm_c (qX5_reach_r4 (mg 6 rfl)) (fm_c (qX5_reach_r4 (mg 7 rfl)) (fm_c (qX5_reach_r4 (mg 8 rfl)) (fm_n))))))))))))))))))))))))) (ms_a (fm_c (qX5_reach_r4 (mg 9 rfl)) (fm_c (qX5_reach_r4 (mg 10 rfl)) (fm_c (qX5_reach_r4 (mg 11 rfl)) (fm_c (qX5_reach_r4 (mg 12 rfl)) (fm_c (qX5_reach_r4 (mg 13 rfl)) (fm_c (qX5_reach_r4 (mg 14 rfl)) (fm_c (qX5_reach_r4 (mg 15 rfl)) (fm_c (qX5_reach_r4 (mg 16 rfl)) (fm_c (qX5_reach_r4 (mg 17 rfl)) (fm_c (qX5_reach_r4 (mg 18 rfl)) (fm_c (qX5_reach_r4 (mg 19 rfl)) (fm_c (qX5_reach_r4 (mg 20 rfl)) (fm_c (qX5_reach_r4 (mg 21 rfl)) (fm_c (qX5_reach_r4 (mg 22 rfl)) (fm_c (qX5_reach_r4 (mg 23 rfl)) (fm_c (qX5_reach_r5 (mg 0 rfl)) (fm_c (qX5_reach_r5 (mg 1 rfl)) (fm_c (qX5_reach_r5 (mg 2 rfl)) (fm_c (qX5_reach_r5 (mg 3 rfl)) (fm_c (qX5_reach_r5 (mg 4 rfl)) (fm_c (qX5_reach_r5 (mg 5 rfl)) (fm_c (qX5_reach_r5 (mg 6 rfl)) (fm_c (qX5_reach_r5 (mg 7 rfl)) (fm_c (qX5_reach_r5 (mg 8 rfl)) (fm_n))))))))))))))))))))))))) (ms_a (fm_c (qX5_reach_r5 (mg 9 rfl)) (fm_c (qX5_reach_r5 (mg 10 rfl)) (fm_c (qX5_reach_r5 (mg 11 rfl)) (fm_c (qX5_reach_r5 (mg 12 rfl)) (fm_c (qX5_reach_r5 (mg 13 rfl)) (fm_c (qX5_reach_r5 (mg 14 rfl)) (fm_c (qX5_reach_r5 (mg 15 rfl)) (fm_c (qX5_reach_r5 (mg 16 rfl)) (fm_c (qX5_reach_r5 (mg 17 rfl)) (fm_c (qX5_reach_r5 (mg 18 rfl)) (fm_c (qX5_reach_r5 (mg 19 rfl)) (fm_c (qX5_reach_r5 (mg 20 rfl)) (fm_c (qX5_reach_r5 (mg 21 rfl)) (fm_c (qX5_reach_r5 (mg 22 rfl)) (fm_c (qX5_reach_r5 (mg 23 rfl)) (fm_c (qX5_reach_r6 (mg 0 rfl)) (fm_c (qX5_reach_r6 (mg 1 rfl)) (fm_c (qX5_reach_r6 (mg 2 rfl)) (fm_c (qX5_reach_r6 (mg 3 rfl)) (fm_c (qX5_reach_r6 (mg 4 rfl)) (fm_c (qX5_reach_r6 (mg 5 rfl)) (fm_c (qX5_reach_r6 (mg 6 rfl)) (fm_c (qX5_reach_r6 (mg 7 rfl)) (fm_c (qX5_reach_r6 (mg 8 rfl)) (fm_n))))))))))))))))))))))))) (ms_a (fm_c (qX5_reach_r6 (mg 9 rfl)) (fm_c (qX5_reach_r6 (mg 10 rfl)) (fm_c (qX5_reach_r6 (mg 11 rfl)) (fm_c (qX5_reach_r6 (mg 12 rfl)) (fm_c (qX5_reach_r6 (mg 13 rfl)) (fm_c (qX5_reach_r6 (mg 14 rfl)) (fm_c (qX5_reach_r6 (mg 15 rfl)) (fm_c (qX5_reach_r6 (mg 16 rfl)) (fm_c (qX5_reach_r6 (mg 17 rfl)) (fm_c (qX5_reach_r6 (mg 18 rfl)) (fm_c (qX5_reach_r6 (mg 19 rfl)) (fm_c (qX5_reach_r6 (mg 20 rfl)) (fm_c (qX5_reach_r6 (mg 21 rfl)) (fm_c (qX5_reach_r6 (mg 22 rfl)) (fm_c (qX5_reach_r6 (mg 23 rfl)) (fm_c (qX5_reach_r7 (mg 0 rfl)) (fm_c (qX5_reach_r7 (mg 1 rfl)) (fm_c (qX5_reach_r7 (mg 2 rfl)) (fm_c (qX5_reach_r7 (mg 3 rfl)) (fm_c (qX5_reach_r7 (mg 4 rfl)) (fm_c (qX5_reach_r7 (mg 5 rfl)) (fm_c (qX5_reach_r7 (mg 6 rfl)) (fm_c (qX5_reach_r7 (mg 7 rfl)) (fm_c (qX5_reach_r7 (mg 8 rfl)) (fm_n))))))))))))))))))))))))) (ms_a (fm_c (qX5_reach_r7 (mg 9 rfl)) (fm_c (qX5_reach_r7 (mg 10 rfl)) (fm_c (qX5_reach_r7 (mg 11 rfl)) (fm_c (qX5_reach_r7 (mg 12 rfl)) (fm_c (qX5_reach_r7 (mg 13 rfl)) (fm_c (qX5_reach_r7 (mg 14 rfl)) (fm_c (qX5_reach_r7 (mg 15 rfl)) (fm_c (qX5_reach_r7 (mg 16 rfl)) (fm_c (qX5_reach_r7 (mg 17 rfl)) (fm_c (qX5_reach_r7 (mg 18 rfl)) (fm_c (qX5_reach_r7 (mg 19 rfl)) (fm_c (qX5_reach_r7 (mg 20 rfl)) (fm_c (qX5_reach_r7 (mg 21 rfl)) (fm_c (qX5_reach_r7 (mg 22 rfl)) (fm_c (qX5_reach_r7 (mg 23 rfl)) (fm_c (qX5_reach_r8 (mg 0 rfl)) (fm_c (qX5_reach_r8 (mg 1 rfl)) (fm_c (qX5_reach_r8 (mg 2 rfl)) (fm_c (qX5_reach_r8 (mg 3 rfl)) (fm_c (qX5_reach_r8 (mg 4 rfl)) (fm_c (qX5_reach_r8 (mg 5 rfl)) (fm_c (qX5_reach_r8 (mg 6 rfl)) (fm_c (qX5_reach_r8 (mg 7 rfl)) (fm_c (qX5_reach_r8 (mg 8 rfl)) (fm_n))))))))))))))))))))))))) (fm_c (qX5_reach_r8 (mg 9 rfl)) (fm_c (qX5_reach_r8 (mg 10 rfl)) (fm_c (qX5_reach_r8 (mg 11 rfl)) (fm_c (qX5_reach_r8 (mg 12 rfl)) (fm_c (qX5_reach_r8 (mg 13 rfl)) (fm_c (qX5_reach_r8 (mg 14 rfl)) (fm_c (qX5_reach_r8 (mg 15 rfl)) (fm_c (qX5_reach_r8 (mg 16 rfl)) (fm_c (qX5_reach_r8 (mg 17 rfl)) (fm_c (qX5_reach_r8 (mg 18 rfl)) (fm_c (qX5_reach_r8 (mg 19 rfl)) (fm_c (qX5_reach_r8 (mg 20 rfl)) (fm_c (qX5_reach_r8 (mg 21 rfl)) (fm_c (qX5_reach_r8 (mg 22 rfl)) (fm_c (qX5_reach_r8 (mg 23 rfl)) (fm_c (qX5_reach_r9 (mg 0 rfl)) (fm_c (qX5_reach_r9 (mg 1 rfl)) (fm_c (qX5_reach_r9 (mg 2 rfl)) (fm_c (qX5_reach_r9 (mg 3 rfl)) (fm_c (qX5_reach_r9 (mg 4 rfl)) (fm_c (qX5_reach_r9 (mg 5 rfl)) (fm_c (qX5_reach_r9 (mg 6 rfl)) (fm_c (qX5_reach_r9 (mg 7 rfl)) (fm_c (qX5_reach_r9 (mg 8 rfl)) (fm_n)))))))))))))))))))))))))))))))) (fun _ h => List.mem_cons_of_mem _ (List.mem_append_left _ (List.mem_append_left _ (List.mem_append_right _ (h)))))) (fun _ h => List.mem_cons_of_mem _ (List.mem_append_left _ (List.mem_append_right _ (h))))) (fun _ h => List.mem_cons_of_mem _ (List.mem_append_right _ (h))))) (by decide +kernel)
set_option maxRecDepth 20000 in
theorem gX5_reach_X2_placeAll : GoodIn wsX5_reach (wsV RX5 73 RX2 yX2_placeAll wsX2_placeAll) := goodIn_app (goodIn_sub (fm_c (qX5_reach_r1 (mg 5 rfl)) (fm_c (qX5_reach_r1 (mg 6 rfl)) (fm_c (qX5_reach_r1 (mg 7 rfl)) (fm_c (qX5_reach_r1 (mg 8 rfl)) (fm_n))))) (by decide +kernel)) ggX5_reach_X2_placeAll
theorem dX5_reach_0 : decode cX5_reach 0 = .ok (.iload_n 1, 1) := by decide +kernel
theorem dX5_reach_1 : decode cX5_reach 1 = .ok (.ifCond .lt 8, 3) := by decide +kernel
theorem dX5_reach_4 : decode cX5_reach 4 = .ok (.iload_n 1, 1) := by decide +kernel
theorem dX5_reach_5 : decode cX5_reach 5 = .ok (.iconst 2, 1) := by decide +kernel
theorem dX5_reach_6 : decode cX5_reach 6 = .ok (.if_icmp .le 7, 3) := by decide +kernel
theorem dX5_reach_9 : decode cX5_reach 9 = .ok (.sipush (-1002), 3) := by decide +kernel
theorem dX5_reach_12 : decode cX5_reach 12 = .ok (.ireturn, 1) := by decide +kernel
theorem dX5_reach_13 : decode cX5_reach 13 = .ok (.iload_n 2, 1) := by decide +kernel
theorem dX5_reach_14 : decode cX5_reach 14 = .ok (.getstatic 79, 3) := by decide +kernel
theorem dX5_reach_17 : decode cX5_reach 17 = .ok (.iload_n 1, 1) := by decide +kernel
theorem dX5_reach_18 : decode cX5_reach 18 = .ok (.iaload, 1) := by decide +kernel
theorem dX5_reach_19 : decode cX5_reach 19 = .ok (.if_icmp .lt 12, 3) := by decide +kernel
theorem dX5_reach_22 : decode cX5_reach 22 = .ok (.iload_n 2, 1) := by decide +kernel
theorem dX5_reach_23 : decode cX5_reach 23 = .ok (.getstatic 82, 3) := by decide +kernel
theorem dX5_reach_26 : decode cX5_reach 26 = .ok (.iload_n 1, 1) := by decide +kernel
theorem dX5_reach_27 : decode cX5_reach 27 = .ok (.iaload, 1) := by decide +kernel
theorem dX5_reach_28 : decode cX5_reach 28 = .ok (.if_icmp .le 7, 3) := by decide +kernel
theorem dX5_reach_31 : decode cX5_reach 31 = .ok (.sipush (-1002), 3) := by decide +kernel
theorem dX5_reach_34 : decode cX5_reach 34 = .ok (.ireturn, 1) := by decide +kernel
theorem dX5_reach_35 : decode cX5_reach 35 = .ok (.aload_n 0, 1) := by decide +kernel
theorem dX5_reach_36 : decode cX5_reach 36 = .ok (.getfield 30, 3) := by decide +kernel
theorem dX5_reach_39 : decode cX5_reach 39 = .ok (.iload_n 1, 1) := by decide +kernel
theorem dX5_reach_40 : decode cX5_reach 40 = .ok (.iaload, 1) := by decide +kernel
theorem dX5_reach_41 : decode cX5_reach 41 = .ok (.istore_n 3, 1) := by decide +kernel
theorem dX5_reach_42 : decode cX5_reach 42 = .ok (.aload_n 0, 1) := by decide +kernel
theorem dX5_reach_43 : decode cX5_reach 43 = .ok (.getfield 30, 3) := by decide +kernel
theorem dX5_reach_46 : decode cX5_reach 46 = .ok (.iload_n 1, 1) := by decide +kernel
theorem dX5_reach_47 : decode cX5_reach 47 = .ok (.iload_n 2, 1) := by decide +kernel
theorem dX5_reach_48 : decode cX5_reach 48 = .ok (.iastore, 1) := by decide +kernel
theorem dX5_reach_49 : decode cX5_reach 49 = .ok (.aload_n 0, 1) := by decide +kernel
theorem dX5_reach_50 : decode cX5_reach 50 = .ok (.dup, 1) := by decide +kernel
theorem dX5_reach_51 : decode cX5_reach 51 = .ok (.getfield 85, 3) := by decide +kernel
theorem dX5_reach_54 : decode cX5_reach 54 = .ok (.iconst 1, 1) := by decide +kernel
theorem dX5_reach_55 : decode cX5_reach 55 = .ok (.iadd, 1) := by decide +kernel
theorem dX5_reach_56 : decode cX5_reach 56 = .ok (.putfield 85, 3) := by decide +kernel
theorem dX5_reach_59 : decode cX5_reach 59 = .ok (.aload_n 0, 1) := by decide +kernel
theorem dX5_reach_60 : decode cX5_reach 60 = .ok (.getfield 39, 3) := by decide +kernel
theorem dX5_reach_63 : decode cX5_reach 63 = .ok (.invokevirtual 73, 3) := by decide +kernel
theorem dX5_reach_66 : decode cX5_reach 66 = .ok (.iload_n 3, 1) := by decide +kernel
theorem dX5_reach_67 : decode cX5_reach 67 = .ok (.ireturn, 1) := by decide +kernel
theorem qX5_grow_r1 {w : Cond} (h : w ∈ wsX5_grow_r1) : w ∈ wsX5_grow := List.mem_cons_of_mem _ (List.mem_append_left _ (List.mem_append_left _ (List.mem_append_left _ (List.mem_append_left _ (List.mem_append_left _ (h))))))
theorem qX5_grow_r2 {w : Cond} (h : w ∈ wsX5_grow_r2) : w ∈ wsX5_grow := List.mem_cons_of_mem _ (List.mem_append_left _ (List.mem_append_left _ (List.mem_append_left _ (List.mem_append_left _ (List.mem_append_right _ (List.mem_append_left _ (h)))))))
theorem qX5_grow_r3 {w : Cond} (h : w ∈ wsX5_grow_r3) : w ∈ wsX5_grow := List.mem_cons_of_mem _ (List.mem_append_left _ (List.mem_append_left _ (List.mem_append_left _ (List.mem_append_left _ (List.mem_append_right _ (List.mem_append_right _ (List.mem_append_left _ (h))))))))
theorem qX5_grow_r4 {w : Cond} (h : w ∈ wsX5_grow_r4) : w ∈ wsX5_grow := List.mem_cons_of_mem _ (List.mem_append_left _ (List.mem_append_left _ (List.mem_append_left _ (List.mem_append_left _ (List.mem_append_right _ (List.mem_append_right _ (List.mem_append_right _ (List.mem_append_left _ (h)))))))))
theorem qX5_grow_r5 {w : Cond} (h : w ∈ wsX5_grow_r5) : w ∈ wsX5_grow := List.mem_cons_of_mem _ (List.mem_append_left _ (List.mem_append_left _ (List.mem_append_left _ (List.mem_append_left _ (List.mem_append_right _ (List.mem_append_right _ (List.mem_append_right _ (List.mem_append_right _ (List.mem_append_left _ (h))))))))))
theorem qX5_grow_r6 {w : Cond} (h : w ∈ wsX5_grow_r6) : w ∈ wsX5_grow := List.mem_cons_of_mem _ (List.mem_append_left _ (List.mem_append_left _ (List.mem_append_left _ (List.mem_append_left _ (List.mem_append_right _ (List.mem_append_right _ (List.mem_append_right _ (List.mem_append_right _ (List.mem_append_right _ (List.mem_append_left _ (h)))))))))))
theorem qX5_grow_r7 {w : Cond} (h : w ∈ wsX5_grow_r7) : w ∈ wsX5_grow := List.mem_cons_of_mem _ (List.mem_append_left _ (List.mem_append_left _ (List.mem_append_left _ (List.mem_append_left _ (List.mem_append_right _ (List.mem_append_right _ (List.mem_append_right _ (List.mem_append_right _ (List.mem_append_right _ (List.mem_append_right _ (List.mem_append_left _ (h))))))))))))
theorem qX5_grow_r8 {w : Cond} (h : w ∈ wsX5_grow_r8) : w ∈ wsX5_grow := List.mem_cons_of_mem _ (List.mem_append_left _ (List.mem_append_left _ (List.mem_append_left _ (List.mem_append_left _ (List.mem_append_right _ (List.mem_append_right _ (List.mem_append_right _ (List.mem_append_right _ (List.mem_append_right _ (List.mem_append_right _ (List.mem_append_right _ (List.mem_append_left _ (h)))))))))))))
theorem qX5_grow_r9 {w : Cond} (h : w ∈ wsX5_grow_r9) : w ∈ wsX5_grow := List.mem_cons_of_mem _ (List.mem_append_left _ (List.mem_append_left _ (List.mem_append_left _ (List.mem_append_left _ (List.mem_append_right _ (List.mem_append_right _ (List.mem_append_right _ (List.mem_append_right _ (List.mem_append_right _ (List.mem_append_right _ (List.mem_append_right _ (List.mem_append_right _ (h)))))))))))))
set_option maxRecDepth 20000 in
theorem ggX5_grow_X0_has : GoodIn wsX5_grow wsX0_has := goodIn_sub (fm_c (qX5_grow_r1 (mg 7 rfl)) (ms_a (fm_c (qX5_grow_r1 (mg 8 rfl)) (fm_c (qX5_grow_r1 (mg 9 rfl)) (fm_c (qX5_grow_r1 (mg 10 rfl)) (fm_n)))) (fun _ h => List.mem_cons_of_mem _ (List.mem_append_left _ (List.mem_append_left _ (List.mem_append_right _ (h))))))) (by decide +kernel)
set_option maxRecDepth 20000 in
theorem gX5_grow_X0_has : GoodIn wsX5_grow (wsV RX5 88 RX0 yX0_has wsX0_has) := goodIn_app (goodIn_sub (fm_c (qX5_grow_r1 (mg 3 rfl)) (fm_c (qX5_grow_r1 (mg 4 rfl)) (fm_c (qX5_grow_r1 (mg 5 rfl)) (fm_c (qX5_grow_r1 (mg 6 rfl)) (fm_n))))) (by decide +kernel)) ggX5_grow_X0_has
set_option maxRecDepth 20000 in
theorem ggX5_grow_X0_kindOf : GoodIn wsX5_grow wsX0_kindOf := goodIn_sub (fm_c (qX5_grow_r1 (mg 14 rfl)) (ms_a (fm_c (qX5_grow_r1 (mg 9 rfl)) (fm_c (qX5_grow_r1 (mg 15 rfl)) (fm_c (qX5_grow_r1 (mg 4 rfl)) (fm_c (qX5_grow_r1 (mg 5 rfl)) (fm_c (qX5_grow_r1 (mg 6 rfl)) (fm_c (qX5_grow_r1 (mg 7 rfl)) (fm_c (qX5_grow_r1 (mg 8 rfl)) (fm_c (qX5_grow_r1 (mg 10 rfl)) (fm_n))))))))) (fun _ h => List.mem_cons_of_mem _ (List.mem_append_left _ (List.mem_append_left _ (List.mem_append_right _ (h))))))) (by decide +kernel)
set_option maxRecDepth 20000 in
theorem gX5_grow_X0_kindOf : GoodIn wsX5_grow (wsV RX5 91 RX0 yX0_kindOf wsX0_kindOf) := goodIn_app (goodIn_sub (fm_c (qX5_grow_r1 (mg 11 rfl)) (fm_c (qX5_grow_r1 (mg 12 rfl)) (fm_c (qX5_grow_r1 (mg 13 rfl)) (fm_c (qX5_grow_r1 (mg 6 rfl)) (fm_n))))) (by decide +kernel)) ggX5_grow_X0_kindOf
set_option maxRecDepth 20000 in
theorem ggX5_grow_X0_toldOf : GoodIn wsX5_grow wsX0_toldOf := goodIn_sub (fm_c (qX5_grow_r1 (mg 19 rfl)) (ms_a (fm_c (qX5_grow_r1 (mg 10 rfl)) (fm_c (qX5_grow_r1 (mg 15 rfl)) (fm_c (qX5_grow_r1 (mg 4 rfl)) (fm_c (qX5_grow_r1 (mg 5 rfl)) (fm_c (qX5_grow_r1 (mg 6 rfl)) (fm_c (qX5_grow_r1 (mg 7 rfl)) (fm_c (qX5_grow_r1 (mg 8 rfl)) (fm_c (qX5_grow_r1 (mg 9 rfl)) (fm_n))))))))) (fun _ h => List.mem_cons_of_mem _ (List.mem_append_left _ (List.mem_append_left _ (List.mem_append_right _ (h))))))) (by decide +kernel)
set_option maxRecDepth 20000 in
theorem gX5_grow_X0_toldOf : GoodIn wsX5_grow (wsV RX5 95 RX0 yX0_toldOf wsX0_toldOf) := goodIn_app (goodIn_sub (fm_c (qX5_grow_r1 (mg 16 rfl)) (fm_c (qX5_grow_r1 (mg 17 rfl)) (fm_c (qX5_grow_r1 (mg 18 rfl)) (fm_c (qX5_grow_r1 (mg 6 rfl)) (fm_n))))) (by decide +kernel)) ggX5_grow_X0_toldOf
set_option maxRecDepth 20000 in
theorem ggX5_grow_X0_tell : GoodIn wsX5_grow wsX0_tell := goodIn_sub (fm_c (qX5_grow_r1 (mg 23 rfl)) (ms_a (fm_c (qX5_grow_r1 (mg 10 rfl)) (fm_c (qX5_grow_r1 (mg 15 rfl)) (fm_c (qX5_grow_r1 (mg 4 rfl)) (fm_c (qX5_grow_r1 (mg 5 rfl)) (fm_c (qX5_grow_r1 (mg 6 rfl)) (fm_c (qX5_grow_r1 (mg 7 rfl)) (fm_c (qX5_grow_r1 (mg 8 rfl)) (fm_c (qX5_grow_r1 (mg 9 rfl)) (fm_n))))))))) (fun _ h => List.mem_cons_of_mem _ (List.mem_append_left _ (List.mem_append_left _ (List.mem_append_right _ (h))))))) (by decide +kernel)
set_option maxRecDepth 20000 in
theorem gX5_grow_X0_tell : GoodIn wsX5_grow (wsV RX5 98 RX0 yX0_tell wsX0_tell) := goodIn_app (goodIn_sub (fm_c (qX5_grow_r1 (mg 20 rfl)) (fm_c (qX5_grow_r1 (mg 21 rfl)) (fm_c (qX5_grow_r1 (mg 22 rfl)) (fm_c (qX5_grow_r1 (mg 6 rfl)) (fm_n))))) (by decide +kernel)) ggX5_grow_X0_tell
set_option maxRecDepth 20000 in
theorem ggX5_grow_X2_placeAll : GoodIn wsX5_grow wsX2_placeAll := goodIn_sub (fm_c (qX5_grow_r2 (mg 4 rfl)) (ms_a (ms_a (ms_a (ms_a (fm_c (qX5_grow_r2 (mg 5 rfl)) (fm_c (qX5_grow_r2 (mg 6 rfl)) (fm_c (qX5_grow_r2 (mg 7 rfl)) (fm_c (qX5_grow_r2 (mg 8 rfl)) (fm_c (qX5_grow_r2 (mg 9 rfl)) (fm_c (qX5_grow_r2 (mg 3 rfl)) (fm_c (qX5_grow_r2 (mg 10 rfl)) (fm_c (qX5_grow_r2 (mg 11 rfl)) (fm_c (qX5_grow_r2 (mg 12 rfl)) (fm_c (qX5_grow_r2 (mg 13 rfl)) (fm_c (qX5_grow_r2 (mg 14 rfl)) (fm_c (qX5_grow_r2 (mg 15 rfl)) (fm_c (qX5_grow_r2 (mg 16 rfl)) (fm_c (qX5_grow_r2 (mg 17 rfl)) (fm_c (qX5_grow_r2 (mg 18 rfl)) (fm_c (qX5_grow_r2 (mg 19 rfl)) (fm_c (qX5_grow_r2 (mg 20 rfl)) (fm_c (qX5_grow_r2 (mg 21 rfl)) (fm_c (qX5_grow_r2 (mg 22 rfl)) (fm_c (qX5_grow_r2 (mg 23 rfl)) (fm_c (qX5_grow_r3 (mg 0 rfl)) (fm_c (qX5_grow_r3 (mg 1 rfl)) (fm_c (qX5_grow_r3 (mg 2 rfl)) (fm_c (qX5_grow_r3 (mg 3 rfl)) (fm_n))))))))))))))))))))))))) (ms_a (fm_c (qX5_grow_r3 (mg 4 rfl)) (fm_c (qX5_grow_r3 (mg 5 rfl)) (fm_c (qX5_grow_r1 (mg 6 rfl)) (fm_c (qX5_grow_r3 (mg 6 rfl)) (fm_c (qX5_grow_r1 (mg 8 rfl)) (fm_c (qX5_grow_r3 (mg 7 rfl)) (fm_c (qX5_grow_r3 (mg 8 rfl)) (fm_c (qX5_grow_r3 (mg 9 rfl)) (fm_c (qX5_grow_r3 (mg 10 rfl)) (fm_c (qX5_grow_r3 (mg 11 rfl)) (fm_c (qX5_grow_r3 (mg 12 rfl)) (fm_c (qX5_grow_r3 (mg 13 rfl)) (fm_c (qX5_grow_r1 (mg 12 rfl)) (fm_c (qX5_grow_r1 (mg 13 rfl)) (fm_c (qX5_grow_r1 (mg 14 rfl)) (fm_c (qX5_grow_r1 (mg 9 rfl)) (fm_c (qX5_grow_r1 (mg 15 rfl)) (fm_c (qX5_grow_r1 (mg 4 rfl)) (fm_c (qX5_grow_r1 (mg 5 rfl)) (fm_c (qX5_grow_r1 (mg 7 rfl)) (fm_c (qX5_grow_r1 (mg 10 rfl)) (fm_c (qX5_grow_r3 (mg 14 rfl)) (fm_c (qX5_grow_r3 (mg 15 rfl)) (fm_c (qX5_grow_r3 (mg 16 rfl)) (fm_n))))))))))))))))))))))))) (ms_a (fm_c (qX5_grow_r3 (mg 17 rfl)) (fm_c (qX5_grow_r3 (mg 18 rfl)) (fm_c (qX5_grow_r1 (mg 17 rfl)) (fm_c (qX5_grow_r1 (mg 18 rfl)) (fm_c (qX5_grow_r1 (mg 19 rfl)) (fm_c (qX5_grow_r3 (mg 19 rfl)) (fm_c (qX5_grow_r3 (mg 20 rfl)) (fm_c (qX5_grow_r3 (mg 21 rfl)) (fm_c (qX5_grow_r3 (mg 22 rfl)) (fm_c (qX5_grow_r3 (mg 23 rfl)) (fm_c (qX5_grow_r4 (mg 0 rfl)) (fm_c (qX5_grow_r4 (mg 1 rfl)) (fm_c (qX5_grow_r4 (mg 2 rfl)) (fm_c (qX5_grow_r4 (mg 3 rfl)) (fm_c (qX5_grow_r4 (mg 4 rfl)) (fm_c (qX5_grow_r4 (mg 5 rfl)) (fm_c (qX5_grow_r4 (mg 6 rfl)) (fm_c (qX5_grow_r4 (mg 7 rfl)) (fm_c (qX5_grow_r4 (mg 8 rfl)) (fm_c (qX5_grow_r4 (mg 9 rfl)) (fm_c (qX5_grow_r4 (mg 10 rfl)) (fm_c (qX5_grow_r4 (mg 11 rfl)) (fm_c (qX5_grow_r4 (mg 12 rfl)) (fm_c (qX5_grow_r4 (mg 13 rfl)) (fm_n))))))))))))))))))))))))) (ms_a (fm_c (qX5_grow_r4 (mg 14 rfl)) (fm_c (qX5_grow_r4 (mg 15 rfl)) (fm_c (qX5_grow_r4 (mg 16 rfl)) (fm_c (qX5_grow_r4 (mg 17 rfl)) (fm_c (qX5_grow_r4 (mg 18 rfl)) (fm_c (qX5_grow_r4 (mg 19 rfl)) (fm_c (qX5_grow_r4 (mg 20 rfl)) (fm_c (qX5_grow_r4 (mg 21 rfl)) (fm_c (qX5_grow_r4 (mg 22 rfl)) (fm_c (qX5_grow_r4 (mg 23 rfl)) (fm_c (qX5_grow_r5 (mg 0 rfl)) (fm_c (qX5_grow_r5 (mg 1 rfl)) (fm_c (qX5_grow_r5 (mg 2 rfl)) (fm_c (qX5_grow_r5 (mg 3 rfl)) (fm_c (qX5_grow_r5 (mg 4 rfl)) (fm_c (qX5_grow_r5 (mg 5 rfl)) (fm_c (qX5_grow_r5 (mg 6 rfl)) (fm_c (qX5_grow_r5 (mg 7 rfl)) (fm_c (qX5_grow_r5 (mg 8 rfl)) (fm_c (qX5_grow_r5 (mg 9 rfl)) (fm_c (qX5_grow_r5 (mg 10 rfl)) (fm_c (qX5_grow_r5 (mg 11 rfl)) (fm_c (qX5_grow_r5 (mg 12 rfl)) (fm_c (qX5_grow_r5 (mg 13 rfl)) (fm_n))))))))))))))))))))))))) (ms_a (fm_c (qX5_grow_r5 (mg 14 rfl)) (fm_c (qX5_grow_r5 (mg 15 rfl)) (fm_c (qX5_grow_r5 (mg 16 rfl)) (fm_c (qX5_grow_r5 (mg 17 rfl)) (fm_c (qX5_grow_r5 (mg 18 rfl)) (fm_c (qX5_grow_r5 (mg 19 rfl)) (fm_c (qX5_grow_r5 (mg 20 rfl)) (fm_c (qX5_grow_r5 (mg 21 rfl)) (fm_c (qX5_grow_r5 (mg 22 rfl)) (fm_c (qX5_grow_r5 (mg 23 rfl)) (fm_c (qX5_grow_r6 (mg 0 rfl)) (fm_c (qX5_grow_r6 (mg 1 rfl)) (fm_c (qX5_grow_r6 (mg 2 rfl)) (fm_c (qX5_grow_r6 (mg 3 rfl)) (fm_c (qX5_grow_r6 (mg 4 rfl)) (fm_c (qX5_grow_r6 (mg 5 rfl)) (fm_c (qX5_grow_r6 (mg 6 rfl)) (fm_c (qX5_grow_r6 (mg 7 rfl)) (fm_c (qX5_grow_r6 (mg 8 rfl)) (fm_c (qX5_grow_r6 (mg 9 rfl)) (fm_c (qX5_grow_r6 (mg 10 rfl)) (fm_c (qX5_grow_r6 (mg 11 rfl)) (fm_c (qX5_grow_r6 (mg 12 rfl)) (fm_c (qX5_grow_r6 (mg 13 rfl)) (fm_n))))))))))))))))))))))))) (ms_a (fm_c (qX5_grow_r6 (mg 14 rfl)) (fm_c (qX5_grow_r6 (mg 15 rfl)) (fm_c (qX5_grow_r6 (mg 16 rfl)) (fm_c (qX5_grow_r6 (mg 17 rfl)) (fm_c (qX5_grow_r6 (mg 18 rfl)) (fm_c (qX5_grow_r6 (mg 19 rfl)) (fm_c (qX5_grow_r6 (mg 20 rfl)) (fm_c (qX5_grow_r6 (mg 21 rfl)) (fm_c (qX5_grow_r6 (mg 22 rfl)) (fm_c (qX5_grow_r6 (mg 23 rfl)) (fm_c (qX5_grow_r7 (mg 0 rfl)) (fm_c (qX5_grow_r7 (mg 1 rfl)) (fm_c (qX5_grow_r7 (mg 2 rfl)) (fm_c (qX5_grow_r7 (mg 3 rfl)) (fm_c (qX5_grow_r7 (mg 4 rfl)) (fm_c (qX5_grow_r7 (mg 5 rfl)) (fm_c (qX5_grow_r7 (mg 6 rfl)) (fm_c (qX5_grow_r7 (mg 7 rfl)) (fm_c (qX5_grow_r7 (mg 8 rfl)) (fm_c (qX5_grow_r7 (mg 9 rfl)) (fm_c (qX5_grow_r7 (mg 10 rfl)) (fm_c (qX5_grow_r7 (mg 11 rfl)) (fm_c (qX5_grow_r7 (mg 12 rfl)) (fm_c (qX5_grow_r7 (mg 13 rfl)) (fm_n))))))))))))))))))))))))) (ms_a (fm_c (qX5_grow_r7 (mg 14 rfl)) (fm_c (qX5_grow_r7 (mg 15 rfl)) (fm_c (qX5_grow_r7 (mg 16 rfl)) (fm_c (qX5_grow_r7 (mg 17 rfl)) (fm_c (qX5_grow_r7 (mg 18 rfl)) (fm_c (qX5_grow_r7 (mg 19 rfl)) (fm_c (qX5_grow_r7 (mg 20 rfl)) (fm_c (qX5_grow_r7 (mg 21 rfl)) (fm_c (qX5_grow_r7 (mg 22 rfl)) (fm_c (qX5_grow_r7 (mg 23 rfl)) (fm_c (qX5_grow_r8 (mg 0 rfl)) (fm_c (qX5_grow_r8 (mg 1 rfl)) (fm_c (qX5_grow_r8 (mg 2 rfl)) (fm_c (qX5_grow_r8 (mg 3 rfl)) (fm_c (qX5_grow_r8 (mg 4 rfl)) (fm_c (qX5_grow_r8 (mg 5 rfl)) (fm_c (qX5_grow_r8 (mg 6 rfl)) (fm_c (qX5_grow_r8 (mg 7 rfl)) (fm_c (qX5_grow_r8 (mg 8 rfl)) (fm_c (qX5_grow_r8 (mg 9 rfl)) (fm_c (qX5_grow_r8 (mg 10 rfl)) (fm_c (qX5_grow_r8 (mg 11 rfl)) (fm_c (qX5_grow_r8 (mg 12 rfl)) (fm_c (qX5_grow_r8 (mg 13 rfl)) (fm_n))))))))))))))))))))))))) (fm_c (qX5_grow_r8 (mg 14 rfl)) (fm_c (qX5_grow_r8 (mg 15 rfl)) (fm_c (qX5_grow_r8 (mg 16 rfl)) (fm_c (qX5_grow_r8 (mg 17 rfl)) (fm_c (qX5_grow_r8 (mg 18 rfl)) (fm_c (qX5_grow_r8 (mg 19 rfl)) (fm_c (qX5_grow_r8 (mg 20 rfl)) (fm_c (qX5_grow_r8 (mg 21 rfl)) (fm_c (qX5_grow_r8 (mg 22 rfl)) (fm_c (qX5_grow_r8 (mg 23 rfl)) (fm_c (qX5_grow_r9 (mg 0 rfl)) (fm_c (qX5_grow_r9 (mg 1 rfl)) (fm_c (qX5_grow_r9 (mg 2 rfl)) (fm_c (qX5_grow_r9 (mg 3 rfl)) (fm_c (qX5_grow_r9 (mg 4 rfl)) (fm_c (qX5_grow_r9 (mg 5 rfl)) (fm_c (qX5_grow_r9 (mg 6 rfl)) (fm_c (qX5_grow_r9 (mg 7 rfl)) (fm_c (qX5_grow_r9 (mg 8 rfl)) (fm_c (qX5_grow_r9 (mg 9 rfl)) (fm_c (qX5_grow_r9 (mg 10 rfl)) (fm_c (qX5_grow_r9 (mg 11 rfl)) (fm_c (qX5_grow_r9 (mg 12 rfl)) (fm_c (qX5_grow_r9 (mg 13 rfl)) (fm_n)))))))))))))))))))))))))))))))) (fun _ h => List.mem_cons_of_mem _ (List.mem_append_left _ (List.mem_append_right _ (h))))) (fun _ h => List.mem_cons_of_mem _ (List.mem_append_right _ (h)))) (fun _ h => List.mem_cons_of_mem _ (List.mem_append_left _ (List.mem_append_left _ (List.mem_append_right _ (h))))))) (by decide +kernel)
set_option maxRecDepth 20000 in
theorem gX5_grow_X2_placeAll : GoodIn wsX5_grow (wsV RX5 73 RX2 yX2_placeAll wsX2_placeAll) := goodIn_app (goodIn_sub (fm_c (qX5_grow_r2 (mg 0 rfl)) (fm_c (qX5_grow_r2 (mg 1 rfl)) (fm_c (qX5_grow_r2 (mg 2 rfl)) (fm_c (qX5_grow_r2 (mg 3 rfl)) (fm_n))))) (by decide +kernel)) ggX5_grow_X2_placeAll
theorem dX5_grow_0 : decode cX5_grow 0 = .ok (.aload_n 0, 1) := by decide +kernel
theorem dX5_grow_1 : decode cX5_grow 1 = .ok (.getfield 26, 3) := by decide +kernel
theorem dX5_grow_4 : decode cX5_grow 4 = .ok (.iload_n 1, 1) := by decide +kernel
theorem dX5_grow_5 : decode cX5_grow 5 = .ok (.invokevirtual 88, 3) := by decide +kernel
theorem dX5_grow_8 : decode cX5_grow 8 = .ok (.ifCond .ne 7, 3) := by decide +kernel
theorem dX5_grow_11 : decode cX5_grow 11 = .ok (.sipush (-1001), 3) := by decide +kernel
theorem dX5_grow_14 : decode cX5_grow 14 = .ok (.ireturn, 1) := by decide +kernel
theorem dX5_grow_15 : decode cX5_grow 15 = .ok (.iload_n 2, 1) := by decide +kernel
theorem dX5_grow_16 : decode cX5_grow 16 = .ok (.iconst 1, 1) := by decide +kernel
theorem dX5_grow_17 : decode cX5_grow 17 = .ok (.if_icmp .lt 9, 3) := by decide +kernel
theorem dX5_grow_20 : decode cX5_grow 20 = .ok (.iload_n 2, 1) := by decide +kernel
theorem dX5_grow_21 : decode cX5_grow 21 = .ok (.bipush 40, 2) := by decide +kernel
theorem dX5_grow_23 : decode cX5_grow 23 = .ok (.if_icmp .le 7, 3) := by decide +kernel
theorem dX5_grow_26 : decode cX5_grow 26 = .ok (.sipush (-1002), 3) := by decide +kernel
theorem dX5_grow_29 : decode cX5_grow 29 = .ok (.ireturn, 1) := by decide +kernel
theorem dX5_grow_30 : decode cX5_grow 30 = .ok (.aload_n 0, 1) := by decide +kernel
theorem dX5_grow_31 : decode cX5_grow 31 = .ok (.getfield 26, 3) := by decide +kernel
theorem dX5_grow_34 : decode cX5_grow 34 = .ok (.iload_n 1, 1) := by decide +kernel
theorem dX5_grow_35 : decode cX5_grow 35 = .ok (.invokevirtual 91, 3) := by decide +kernel
theorem dX5_grow_38 : decode cX5_grow 38 = .ok (.ifCond .eq 7, 3) := by decide +kernel
theorem dX5_grow_41 : decode cX5_grow 41 = .ok (.sipush (-1003), 3) := by decide +kernel
theorem dX5_grow_44 : decode cX5_grow 44 = .ok (.ireturn, 1) := by decide +kernel
theorem dX5_grow_45 : decode cX5_grow 45 = .ok (.aload_n 0, 1) := by decide +kernel
theorem dX5_grow_46 : decode cX5_grow 46 = .ok (.getfield 26, 3) := by decide +kernel
theorem dX5_grow_49 : decode cX5_grow 49 = .ok (.iload_n 1, 1) := by decide +kernel
theorem dX5_grow_50 : decode cX5_grow 50 = .ok (.invokevirtual 95, 3) := by decide +kernel
theorem dX5_grow_53 : decode cX5_grow 53 = .ok (.istore_n 3, 1) := by decide +kernel
theorem dX5_grow_54 : decode cX5_grow 54 = .ok (.aload_n 0, 1) := by decide +kernel
theorem dX5_grow_55 : decode cX5_grow 55 = .ok (.getfield 26, 3) := by decide +kernel
theorem dX5_grow_58 : decode cX5_grow 58 = .ok (.iload_n 1, 1) := by decide +kernel
theorem dX5_grow_59 : decode cX5_grow 59 = .ok (.iload_n 2, 1) := by decide +kernel
theorem dX5_grow_60 : decode cX5_grow 60 = .ok (.invokevirtual 98, 3) := by decide +kernel
theorem dX5_grow_63 : decode cX5_grow 63 = .ok (.aload_n 0, 1) := by decide +kernel
theorem dX5_grow_64 : decode cX5_grow 64 = .ok (.dup, 1) := by decide +kernel
theorem dX5_grow_65 : decode cX5_grow 65 = .ok (.getfield 85, 3) := by decide +kernel
theorem dX5_grow_68 : decode cX5_grow 68 = .ok (.iconst 1, 1) := by decide +kernel
theorem dX5_grow_69 : decode cX5_grow 69 = .ok (.iadd, 1) := by decide +kernel
theorem dX5_grow_70 : decode cX5_grow 70 = .ok (.putfield 85, 3) := by decide +kernel
theorem dX5_grow_73 : decode cX5_grow 73 = .ok (.aload_n 0, 1) := by decide +kernel
theorem dX5_grow_74 : decode cX5_grow 74 = .ok (.getfield 39, 3) := by decide +kernel
theorem dX5_grow_77 : decode cX5_grow 77 = .ok (.invokevirtual 73, 3) := by decide +kernel
theorem dX5_grow_80 : decode cX5_grow 80 = .ok (.iload_n 3, 1) := by decide +kernel
theorem dX5_grow_81 : decode cX5_grow 81 = .ok (.ireturn, 1) := by decide +kernel
theorem qX5_item_r1 {w : Cond} (h : w ∈ wsX5_item_r1) : w ∈ wsX5_item := List.mem_cons_of_mem _ (List.mem_append_left _ (List.mem_append_left _ (List.mem_append_left _ (List.mem_append_left _ (h)))))
theorem qX5_item_r2 {w : Cond} (h : w ∈ wsX5_item_r2) : w ∈ wsX5_item := List.mem_cons_of_mem _ (List.mem_append_left _ (List.mem_append_left _ (List.mem_append_left _ (List.mem_append_right _ (h)))))
set_option maxRecDepth 20000 in
theorem ggX5_item_X0_has : GoodIn wsX5_item wsX0_has := goodIn_sub (fm_c (qX5_item_r1 (mg 6 rfl)) (ms_a (fm_c (qX5_item_r1 (mg 7 rfl)) (fm_c (qX5_item_r1 (mg 8 rfl)) (fm_c (qX5_item_r1 (mg 9 rfl)) (fm_n)))) (fun _ h => List.mem_cons_of_mem _ (List.mem_append_left _ (List.mem_append_right _ (h)))))) (by decide +kernel)
set_option maxRecDepth 20000 in
theorem gX5_item_X0_has : GoodIn wsX5_item (wsV RX5 88 RX0 yX0_has wsX0_has) := goodIn_app (goodIn_sub (fm_c (qX5_item_r1 (mg 2 rfl)) (fm_c (qX5_item_r1 (mg 3 rfl)) (fm_c (qX5_item_r1 (mg 4 rfl)) (fm_c (qX5_item_r1 (mg 5 rfl)) (fm_n))))) (by decide +kernel)) ggX5_item_X0_has
set_option maxRecDepth 20000 in
theorem ggX5_item_X0_kindOf : GoodIn wsX5_item wsX0_kindOf := goodIn_sub (fm_c (qX5_item_r1 (mg 13 rfl)) (ms_a (fm_c (qX5_item_r1 (mg 8 rfl)) (fm_c (qX5_item_r1 (mg 14 rfl)) (fm_c (qX5_item_r1 (mg 3 rfl)) (fm_c (qX5_item_r1 (mg 4 rfl)) (fm_c (qX5_item_r1 (mg 5 rfl)) (fm_c (qX5_item_r1 (mg 6 rfl)) (fm_c (qX5_item_r1 (mg 7 rfl)) (fm_c (qX5_item_r1 (mg 9 rfl)) (fm_n))))))))) (fun _ h => List.mem_cons_of_mem _ (List.mem_append_left _ (List.mem_append_right _ (h)))))) (by decide +kernel)
set_option maxRecDepth 20000 in
theorem gX5_item_X0_kindOf : GoodIn wsX5_item (wsV RX5 91 RX0 yX0_kindOf wsX0_kindOf) := goodIn_app (goodIn_sub (fm_c (qX5_item_r1 (mg 10 rfl)) (fm_c (qX5_item_r1 (mg 11 rfl)) (fm_c (qX5_item_r1 (mg 12 rfl)) (fm_c (qX5_item_r1 (mg 5 rfl)) (fm_n))))) (by decide +kernel)) ggX5_item_X0_kindOf
set_option maxRecDepth 20000 in
theorem ggX5_item_X0_toldOf : GoodIn wsX5_item wsX0_toldOf := goodIn_sub (fm_c (qX5_item_r1 (mg 18 rfl)) (ms_a (fm_c (qX5_item_r1 (mg 9 rfl)) (fm_c (qX5_item_r1 (mg 14 rfl)) (fm_c (qX5_item_r1 (mg 3 rfl)) (fm_c (qX5_item_r1 (mg 4 rfl)) (fm_c (qX5_item_r1 (mg 5 rfl)) (fm_c (qX5_item_r1 (mg 6 rfl)) (fm_c (qX5_item_r1 (mg 7 rfl)) (fm_c (qX5_item_r1 (mg 8 rfl)) (fm_n))))))))) (fun _ h => List.mem_cons_of_mem _ (List.mem_append_left _ (List.mem_append_right _ (h)))))) (by decide +kernel)
set_option maxRecDepth 20000 in
theorem gX5_item_X0_toldOf : GoodIn wsX5_item (wsV RX5 95 RX0 yX0_toldOf wsX0_toldOf) := goodIn_app (goodIn_sub (fm_c (qX5_item_r1 (mg 15 rfl)) (fm_c (qX5_item_r1 (mg 16 rfl)) (fm_c (qX5_item_r1 (mg 17 rfl)) (fm_c (qX5_item_r1 (mg 5 rfl)) (fm_n))))) (by decide +kernel)) ggX5_item_X0_toldOf
set_option maxRecDepth 20000 in
theorem ggX5_item_X2_addressOf : GoodIn wsX5_item wsX2_addressOf := goodIn_sub (fm_c (qX5_item_r1 (mg 23 rfl)) (ms_a (fm_c (qX5_item_r2 (mg 0 rfl)) (fm_n)) (fun _ h => List.mem_cons_of_mem _ (List.mem_append_right _ (h))))) (by decide +kernel)
set_option maxRecDepth 20000 in
theorem gX5_item_X2_addressOf : GoodIn wsX5_item (wsV RX5 102 RX2 yX2_addressOf wsX2_addressOf) := goodIn_app (goodIn_sub (fm_c (qX5_item_r1 (mg 19 rfl)) (fm_c (qX5_item_r1 (mg 20 rfl)) (fm_c (qX5_item_r1 (mg 21 rfl)) (fm_c (qX5_item_r1 (mg 22 rfl)) (fm_n))))) (by decide +kernel)) ggX5_item_X2_addressOf
set_option maxRecDepth 20000 in
theorem ggX5_item_X2_sizeOf : GoodIn wsX5_item wsX2_sizeOf := goodIn_sub (fm_c (qX5_item_r2 (mg 4 rfl)) (ms_a (fm_c (qX5_item_r2 (mg 5 rfl)) (fm_n)) (fun _ h => List.mem_cons_of_mem _ (List.mem_append_right _ (h))))) (by decide +kernel)
set_option maxRecDepth 20000 in
theorem gX5_item_X2_sizeOf : GoodIn wsX5_item (wsV RX5 105 RX2 yX2_sizeOf wsX2_sizeOf) := goodIn_app (goodIn_sub (fm_c (qX5_item_r2 (mg 1 rfl)) (fm_c (qX5_item_r2 (mg 2 rfl)) (fm_c (qX5_item_r2 (mg 3 rfl)) (fm_c (qX5_item_r1 (mg 22 rfl)) (fm_n))))) (by decide +kernel)) ggX5_item_X2_sizeOf
set_option maxRecDepth 20000 in
theorem ggX5_item_X2_isLong : GoodIn wsX5_item wsX2_isLong := goodIn_sub (fm_c (qX5_item_r2 (mg 9 rfl)) (ms_a (fm_c (qX5_item_r2 (mg 10 rfl)) (fm_n)) (fun _ h => List.mem_cons_of_mem _ (List.mem_append_right _ (h))))) (by decide +kernel)
set_option maxRecDepth 20000 in
theorem gX5_item_X2_isLong : GoodIn wsX5_item (wsV RX5 108 RX2 yX2_isLong wsX2_isLong) := goodIn_app (goodIn_sub (fm_c (qX5_item_r2 (mg 6 rfl)) (fm_c (qX5_item_r2 (mg 7 rfl)) (fm_c (qX5_item_r2 (mg 8 rfl)) (fm_c (qX5_item_r1 (mg 22 rfl)) (fm_n))))) (by decide +kernel)) ggX5_item_X2_isLong
set_option maxRecDepth 20000 in
theorem ggX5_item_X2_aimOf : GoodIn wsX5_item wsX2_aimOf := goodIn_sub (fm_c (qX5_item_r2 (mg 14 rfl)) (ms_a (fm_c (qX5_item_r2 (mg 15 rfl)) (fm_n)) (fun _ h => List.mem_cons_of_mem _ (List.mem_append_right _ (h))))) (by decide +kernel)
set_option maxRecDepth 20000 in
theorem gX5_item_X2_aimOf : GoodIn wsX5_item (wsV RX5 111 RX2 yX2_aimOf wsX2_aimOf) := goodIn_app (goodIn_sub (fm_c (qX5_item_r2 (mg 11 rfl)) (fm_c (qX5_item_r2 (mg 12 rfl)) (fm_c (qX5_item_r2 (mg 13 rfl)) (fm_c (qX5_item_r1 (mg 22 rfl)) (fm_n))))) (by decide +kernel)) ggX5_item_X2_aimOf
theorem dX5_item_0 : decode cX5_item 0 = .ok (.aload_n 0, 1) := by decide +kernel
theorem dX5_item_1 : decode cX5_item 1 = .ok (.getfield 26, 3) := by decide +kernel
theorem dX5_item_4 : decode cX5_item 4 = .ok (.iload_n 1, 1) := by decide +kernel
theorem dX5_item_5 : decode cX5_item 5 = .ok (.invokevirtual 88, 3) := by decide +kernel
theorem dX5_item_8 : decode cX5_item 8 = .ok (.ifCond .ne 7, 3) := by decide +kernel
theorem dX5_item_11 : decode cX5_item 11 = .ok (.sipush (-1001), 3) := by decide +kernel
theorem dX5_item_14 : decode cX5_item 14 = .ok (.ireturn, 1) := by decide +kernel
theorem dX5_item_15 : decode cX5_item 15 = .ok (.iload_n 2, 1) := by decide +kernel
theorem dX5_item_16 : decode cX5_item 16 = .ok (.tableswitch 102 0 5 #[40, 49, 58, 67, 76, 93], 40) := by decide +kernel
theorem dX5_item_56 : decode cX5_item 56 = .ok (.aload_n 0, 1) := by decide +kernel
theorem dX5_item_57 : decode cX5_item 57 = .ok (.getfield 26, 3) := by decide +kernel
theorem dX5_item_60 : decode cX5_item 60 = .ok (.iload_n 1, 1) := by decide +kernel
theorem dX5_item_61 : decode cX5_item 61 = .ok (.invokevirtual 91, 3) := by decide +kernel
theorem dX5_item_64 : decode cX5_item 64 = .ok (.ireturn, 1) := by decide +kernel
theorem dX5_item_65 : decode cX5_item 65 = .ok (.aload_n 0, 1) := by decide +kernel
theorem dX5_item_66 : decode cX5_item 66 = .ok (.getfield 26, 3) := by decide +kernel
theorem dX5_item_69 : decode cX5_item 69 = .ok (.iload_n 1, 1) := by decide +kernel
theorem dX5_item_70 : decode cX5_item 70 = .ok (.invokevirtual 95, 3) := by decide +kernel
theorem dX5_item_73 : decode cX5_item 73 = .ok (.ireturn, 1) := by decide +kernel
theorem dX5_item_74 : decode cX5_item 74 = .ok (.aload_n 0, 1) := by decide +kernel
theorem dX5_item_75 : decode cX5_item 75 = .ok (.getfield 39, 3) := by decide +kernel
theorem dX5_item_78 : decode cX5_item 78 = .ok (.iload_n 1, 1) := by decide +kernel
theorem dX5_item_79 : decode cX5_item 79 = .ok (.invokevirtual 102, 3) := by decide +kernel
theorem dX5_item_82 : decode cX5_item 82 = .ok (.ireturn, 1) := by decide +kernel
theorem dX5_item_83 : decode cX5_item 83 = .ok (.aload_n 0, 1) := by decide +kernel
theorem dX5_item_84 : decode cX5_item 84 = .ok (.getfield 39, 3) := by decide +kernel
theorem dX5_item_87 : decode cX5_item 87 = .ok (.iload_n 1, 1) := by decide +kernel
theorem dX5_item_88 : decode cX5_item 88 = .ok (.invokevirtual 105, 3) := by decide +kernel
theorem dX5_item_91 : decode cX5_item 91 = .ok (.ireturn, 1) := by decide +kernel
theorem dX5_item_92 : decode cX5_item 92 = .ok (.aload_n 0, 1) := by decide +kernel
theorem dX5_item_93 : decode cX5_item 93 = .ok (.getfield 39, 3) := by decide +kernel
theorem dX5_item_96 : decode cX5_item 96 = .ok (.iload_n 1, 1) := by decide +kernel
theorem dX5_item_97 : decode cX5_item 97 = .ok (.invokevirtual 108, 3) := by decide +kernel
theorem dX5_item_100 : decode cX5_item 100 = .ok (.ifCond .eq 7, 3) := by decide +kernel
theorem dX5_item_103 : decode cX5_item 103 = .ok (.iconst 1, 1) := by decide +kernel
theorem dX5_item_104 : decode cX5_item 104 = .ok (.goto 4, 3) := by decide +kernel
theorem dX5_item_107 : decode cX5_item 107 = .ok (.iconst 0, 1) := by decide +kernel
theorem dX5_item_108 : decode cX5_item 108 = .ok (.ireturn, 1) := by decide +kernel
theorem dX5_item_109 : decode cX5_item 109 = .ok (.aload_n 0, 1) := by decide +kernel
theorem dX5_item_110 : decode cX5_item 110 = .ok (.getfield 39, 3) := by decide +kernel
theorem dX5_item_113 : decode cX5_item 113 = .ok (.iload_n 1, 1) := by decide +kernel
theorem dX5_item_114 : decode cX5_item 114 = .ok (.invokevirtual 111, 3) := by decide +kernel
theorem dX5_item_117 : decode cX5_item 117 = .ok (.ireturn, 1) := by decide +kernel
theorem dX5_item_118 : decode cX5_item 118 = .ok (.sipush (-1002), 3) := by decide +kernel
theorem dX5_item_121 : decode cX5_item 121 = .ok (.ireturn, 1) := by decide +kernel
theorem qX5_island_r1 {w : Cond} (h : w ∈ wsX5_island_r1) : w ∈ wsX5_island := List.mem_cons_of_mem _ (List.mem_append_left _ (List.mem_append_left _ (List.mem_append_left _ (List.mem_append_left _ (h)))))
theorem qX5_island_r2 {w : Cond} (h : w ∈ wsX5_island_r2) : w ∈ wsX5_island := List.mem_cons_of_mem _ (List.mem_append_left _ (List.mem_append_left _ (List.mem_append_left _ (List.mem_append_right _ (h)))))
set_option maxRecDepth 20000 in
theorem ggX5_island_X4_has : GoodIn wsX5_island wsX4_has := goodIn_sub (fm_c (qX5_island_r1 (mg 5 rfl)) (ms_a (fm_c (qX5_island_r1 (mg 6 rfl)) (fm_c (qX5_island_r1 (mg 7 rfl)) (fm_n))) (fun _ h => List.mem_cons_of_mem _ (List.mem_append_right _ (h))))) (by decide +kernel)
set_option maxRecDepth 20000 in
theorem gX5_island_X4_has : GoodIn wsX5_island (wsV RX5 118 RX4 yX4_has wsX4_has) := goodIn_app (goodIn_sub (fm_c (qX5_island_r1 (mg 1 rfl)) (fm_c (qX5_island_r1 (mg 2 rfl)) (fm_c (qX5_island_r1 (mg 3 rfl)) (fm_c (qX5_island_r1 (mg 4 rfl)) (fm_n))))) (by decide +kernel)) ggX5_island_X4_has
set_option maxRecDepth 20000 in
theorem ggX5_island_X4_nameOf : GoodIn wsX5_island wsX4_nameOf := goodIn_sub (fm_c (qX5_island_r1 (mg 11 rfl)) (ms_a (fm_c (qX5_island_r1 (mg 7 rfl)) (fm_c (qX5_island_r1 (mg 12 rfl)) (fm_c (qX5_island_r1 (mg 2 rfl)) (fm_c (qX5_island_r1 (mg 3 rfl)) (fm_c (qX5_island_r1 (mg 4 rfl)) (fm_c (qX5_island_r1 (mg 5 rfl)) (fm_c (qX5_island_r1 (mg 6 rfl)) (fm_n)))))))) (fun _ h => List.mem_cons_of_mem _ (List.mem_append_right _ (h))))) (by decide +kernel)
set_option maxRecDepth 20000 in
theorem gX5_island_X4_nameOf : GoodIn wsX5_island (wsV RX5 121 RX4 yX4_nameOf wsX4_nameOf) := goodIn_app (goodIn_sub (fm_c (qX5_island_r1 (mg 8 rfl)) (fm_c (qX5_island_r1 (mg 9 rfl)) (fm_c (qX5_island_r1 (mg 10 rfl)) (fm_c (qX5_island_r1 (mg 4 rfl)) (fm_n))))) (by decide +kernel)) ggX5_island_X4_nameOf
set_option maxRecDepth 20000 in
theorem ggX5_island_X4_returnOf : GoodIn wsX5_island wsX4_returnOf := goodIn_sub (fm_c (qX5_island_r1 (mg 16 rfl)) (ms_a (fm_c (qX5_island_r1 (mg 17 rfl)) (fm_c (qX5_island_r1 (mg 12 rfl)) (fm_c (qX5_island_r1 (mg 2 rfl)) (fm_c (qX5_island_r1 (mg 3 rfl)) (fm_c (qX5_island_r1 (mg 4 rfl)) (fm_c (qX5_island_r1 (mg 5 rfl)) (fm_c (qX5_island_r1 (mg 6 rfl)) (fm_c (qX5_island_r1 (mg 7 rfl)) (fm_n))))))))) (fun _ h => List.mem_cons_of_mem _ (List.mem_append_right _ (h))))) (by decide +kernel)
set_option maxRecDepth 20000 in
theorem gX5_island_X4_returnOf : GoodIn wsX5_island (wsV RX5 124 RX4 yX4_returnOf wsX4_returnOf) := goodIn_app (goodIn_sub (fm_c (qX5_island_r1 (mg 13 rfl)) (fm_c (qX5_island_r1 (mg 14 rfl)) (fm_c (qX5_island_r1 (mg 15 rfl)) (fm_c (qX5_island_r1 (mg 4 rfl)) (fm_n))))) (by decide +kernel)) ggX5_island_X4_returnOf
set_option maxRecDepth 20000 in
theorem ggX5_island_X4_addressOf : GoodIn wsX5_island wsX4_addressOf := goodIn_sub (fm_c (qX5_island_r1 (mg 21 rfl)) (ms_a (fm_c (qX5_island_r1 (mg 17 rfl)) (fm_c (qX5_island_r1 (mg 22 rfl)) (fm_c (qX5_island_r1 (mg 23 rfl)) (fm_c (qX5_island_r1 (mg 12 rfl)) (fm_c (qX5_island_r1 (mg 2 rfl)) (fm_c (qX5_island_r1 (mg 3 rfl)) (fm_c (qX5_island_r1 (mg 4 rfl)) (fm_c (qX5_island_r1 (mg 5 rfl)) (fm_c (qX5_island_r1 (mg 6 rfl)) (fm_c (qX5_island_r1 (mg 7 rfl)) (fm_c (qX5_island_r2 (mg 0 rfl)) (fm_c (qX5_island_r2 (mg 1 rfl)) (fm_c (qX5_island_r2 (mg 2 rfl)) (fm_n)))))))))))))) (fun _ h => List.mem_cons_of_mem _ (List.mem_append_right _ (h))))) (by decide +kernel)
set_option maxRecDepth 20000 in
theorem gX5_island_X4_addressOf : GoodIn wsX5_island (wsV RX5 127 RX4 yX4_addressOf wsX4_addressOf) := goodIn_app (goodIn_sub (fm_c (qX5_island_r1 (mg 18 rfl)) (fm_c (qX5_island_r1 (mg 19 rfl)) (fm_c (qX5_island_r1 (mg 20 rfl)) (fm_c (qX5_island_r1 (mg 4 rfl)) (fm_n))))) (by decide +kernel)) ggX5_island_X4_addressOf
set_option maxRecDepth 20000 in
theorem ggX5_island_X2_islandAimOf : GoodIn wsX5_island wsX2_islandAimOf := goodIn_sub (fm_c (qX5_island_r2 (mg 7 rfl)) (ms_a (fm_c (qX5_island_r2 (mg 8 rfl)) (fm_n)) (fun _ h => List.mem_cons_of_mem _ (List.mem_append_left _ (List.mem_append_right _ (h)))))) (by decide +kernel)
set_option maxRecDepth 20000 in
theorem gX5_island_X2_islandAimOf : GoodIn wsX5_island (wsV RX5 128 RX2 yX2_islandAimOf wsX2_islandAimOf) := goodIn_app (goodIn_sub (fm_c (qX5_island_r2 (mg 3 rfl)) (fm_c (qX5_island_r2 (mg 4 rfl)) (fm_c (qX5_island_r2 (mg 5 rfl)) (fm_c (qX5_island_r2 (mg 6 rfl)) (fm_n))))) (by decide +kernel)) ggX5_island_X2_islandAimOf
theorem dX5_island_0 : decode cX5_island 0 = .ok (.aload_n 0, 1) := by decide +kernel
theorem dX5_island_1 : decode cX5_island 1 = .ok (.getfield 39, 3) := by decide +kernel
theorem dX5_island_4 : decode cX5_island 4 = .ok (.getfield 114, 3) := by decide +kernel
theorem dX5_island_7 : decode cX5_island 7 = .ok (.astore_n 3, 1) := by decide +kernel
theorem dX5_island_8 : decode cX5_island 8 = .ok (.aload_n 3, 1) := by decide +kernel
theorem dX5_island_9 : decode cX5_island 9 = .ok (.iload_n 1, 1) := by decide +kernel
theorem dX5_island_10 : decode cX5_island 10 = .ok (.invokevirtual 118, 3) := by decide +kernel
theorem dX5_island_13 : decode cX5_island 13 = .ok (.ifCond .ne 7, 3) := by decide +kernel
theorem dX5_island_16 : decode cX5_island 16 = .ok (.sipush (-1001), 3) := by decide +kernel
theorem dX5_island_19 : decode cX5_island 19 = .ok (.ireturn, 1) := by decide +kernel
theorem dX5_island_20 : decode cX5_island 20 = .ok (.iload_n 2, 1) := by decide +kernel
theorem dX5_island_21 : decode cX5_island 21 = .ok (.tableswitch 58 0 3 #[31, 37, 43, 49], 31) := by decide +kernel
