theorem dX6_constantFor_66 : decode cX6_constantFor 66 = .ok (.getfield 50, 3) := by decide +kernel
theorem dX6_constantFor_69 : decode cX6_constantFor 69 = .ok (.iload_n 2, 1) := by decide +kernel
theorem dX6_constantFor_70 : decode cX6_constantFor 70 = .ok (.iaload, 1) := by decide +kernel
theorem dX6_constantFor_71 : decode cX6_constantFor 71 = .ok (.aload_n 0, 1) := by decide +kernel
theorem dX6_constantFor_72 : decode cX6_constantFor 72 = .ok (.getfield 44, 3) := by decide +kernel
theorem dX6_constantFor_75 : decode cX6_constantFor 75 = .ok (.iload_n 1, 1) := by decide +kernel
theorem dX6_constantFor_76 : decode cX6_constantFor 76 = .ok (.iaload, 1) := by decide +kernel
theorem dX6_constantFor_77 : decode cX6_constantFor 77 = .ok (.isub, 1) := by decide +kernel
theorem dX6_constantFor_78 : decode cX6_constantFor 78 = .ok (.if_icmp .ge 7, 3) := by decide +kernel
theorem dX6_constantFor_81 : decode cX6_constantFor 81 = .ok (.iload_n 3, 1) := by decide +kernel
theorem dX6_constantFor_82 : decode cX6_constantFor 82 = .ok (.goto 4, 3) := by decide +kernel
theorem dX6_constantFor_85 : decode cX6_constantFor 85 = .ok (.iload_n 2, 1) := by decide +kernel
theorem dX6_constantFor_86 : decode cX6_constantFor 86 = .ok (.istore_n 2, 1) := by decide +kernel
theorem dX6_constantFor_87 : decode cX6_constantFor 87 = .ok (.iinc 3 1, 3) := by decide +kernel
theorem dX6_constantFor_90 : decode cX6_constantFor 90 = .ok (.goto (-86), 3) := by decide +kernel
theorem dX6_constantFor_93 : decode cX6_constantFor 93 = .ok (.iload_n 2, 1) := by decide +kernel
theorem dX6_constantFor_94 : decode cX6_constantFor 94 = .ok (.ireturn, 1) := by decide +kernel
set_option maxRecDepth 20000 in
theorem ggX6_islandFor_X6_apart : GoodIn wsX6_islandFor wsX6_apart := goodIn_sub (fm_c (List.mem_cons_of_mem _ (List.mem_append_left _ (mg 9 rfl))) (fm_n)) (by decide +kernel)
set_option maxRecDepth 20000 in
theorem gX6_islandFor_X6_apart : GoodIn wsX6_islandFor (va_wsS RX6 151 yX6_apart wsX6_apart) := goodIn_app (goodIn_sub (fm_c (List.mem_cons_of_mem _ (List.mem_append_left _ (mg 6 rfl))) (fm_c (List.mem_cons_of_mem _ (List.mem_append_left _ (mg 7 rfl))) (fm_c (List.mem_cons_of_mem _ (List.mem_append_left _ (mg 8 rfl))) (fm_n)))) (by decide +kernel)) ggX6_islandFor_X6_apart
theorem dX6_islandFor_0 : decode cX6_islandFor 0 = .ok (.iconst (-1), 1) := by decide +kernel
theorem dX6_islandFor_1 : decode cX6_islandFor 1 = .ok (.istore_n 3, 1) := by decide +kernel
theorem dX6_islandFor_2 : decode cX6_islandFor 2 = .ok (.iconst 0, 1) := by decide +kernel
theorem dX6_islandFor_3 : decode cX6_islandFor 3 = .ok (.istore 4, 2) := by decide +kernel
theorem dX6_islandFor_5 : decode cX6_islandFor 5 = .ok (.iload 4, 2) := by decide +kernel
theorem dX6_islandFor_7 : decode cX6_islandFor 7 = .ok (.aload_n 0, 1) := by decide +kernel
theorem dX6_islandFor_8 : decode cX6_islandFor 8 = .ok (.getfield 133, 3) := by decide +kernel
theorem dX6_islandFor_11 : decode cX6_islandFor 11 = .ok (.if_icmp .ge 137, 3) := by decide +kernel
theorem dX6_islandFor_14 : decode cX6_islandFor 14 = .ok (.aload_n 0, 1) := by decide +kernel
theorem dX6_islandFor_15 : decode cX6_islandFor 15 = .ok (.getfield 47, 3) := by decide +kernel
theorem dX6_islandFor_18 : decode cX6_islandFor 18 = .ok (.iload 4, 2) := by decide +kernel
theorem dX6_islandFor_20 : decode cX6_islandFor 20 = .ok (.iaload, 1) := by decide +kernel
theorem dX6_islandFor_21 : decode cX6_islandFor 21 = .ok (.aload_n 0, 1) := by decide +kernel
theorem dX6_islandFor_22 : decode cX6_islandFor 22 = .ok (.getfield 59, 3) := by decide +kernel
theorem dX6_islandFor_25 : decode cX6_islandFor 25 = .ok (.iload_n 2, 1) := by decide +kernel
theorem dX6_islandFor_26 : decode cX6_islandFor 26 = .ok (.iaload, 1) := by decide +kernel
theorem dX6_islandFor_27 : decode cX6_islandFor 27 = .ok (.invokestatic 151, 3) := by decide +kernel
theorem dX6_islandFor_30 : decode cX6_islandFor 30 = .ok (.istore 5, 2) := by decide +kernel
theorem dX6_islandFor_32 : decode cX6_islandFor 32 = .ok (.aload_n 0, 1) := by decide +kernel
theorem dX6_islandFor_33 : decode cX6_islandFor 33 = .ok (.getfield 32, 3) := by decide +kernel
theorem dX6_islandFor_36 : decode cX6_islandFor 36 = .ok (.iload 4, 2) := by decide +kernel
theorem dX6_islandFor_38 : decode cX6_islandFor 38 = .ok (.iaload, 1) := by decide +kernel
theorem dX6_islandFor_39 : decode cX6_islandFor 39 = .ok (.iload_n 2, 1) := by decide +kernel
theorem dX6_islandFor_40 : decode cX6_islandFor 40 = .ok (.if_icmp .ne 102, 3) := by decide +kernel
theorem dX6_islandFor_43 : decode cX6_islandFor 43 = .ok (.aload_n 0, 1) := by decide +kernel
theorem dX6_islandFor_44 : decode cX6_islandFor 44 = .ok (.getfield 47, 3) := by decide +kernel
theorem dX6_islandFor_47 : decode cX6_islandFor 47 = .ok (.iload 4, 2) := by decide +kernel
theorem dX6_islandFor_49 : decode cX6_islandFor 49 = .ok (.iaload, 1) := by decide +kernel
theorem dX6_islandFor_50 : decode cX6_islandFor 50 = .ok (.iload_n 1, 1) := by decide +kernel
theorem dX6_islandFor_51 : decode cX6_islandFor 51 = .ok (.invokestatic 151, 3) := by decide +kernel
theorem dX6_islandFor_54 : decode cX6_islandFor 54 = .ok (.aload_n 0, 1) := by decide +kernel
theorem dX6_islandFor_55 : decode cX6_islandFor 55 = .ok (.getfield 19, 3) := by decide +kernel
theorem dX6_islandFor_58 : decode cX6_islandFor 58 = .ok (.iconst 1, 1) := by decide +kernel
theorem dX6_islandFor_59 : decode cX6_islandFor 59 = .ok (.iaload, 1) := by decide +kernel
theorem dX6_islandFor_60 : decode cX6_islandFor 60 = .ok (.if_icmp .gt 82, 3) := by decide +kernel
theorem dX6_islandFor_63 : decode cX6_islandFor 63 = .ok (.iload 5, 2) := by decide +kernel
theorem dX6_islandFor_65 : decode cX6_islandFor 65 = .ok (.iload_n 1, 1) := by decide +kernel
theorem dX6_islandFor_66 : decode cX6_islandFor 66 = .ok (.aload_n 0, 1) := by decide +kernel
theorem dX6_islandFor_67 : decode cX6_islandFor 67 = .ok (.getfield 59, 3) := by decide +kernel
theorem dX6_islandFor_70 : decode cX6_islandFor 70 = .ok (.iload_n 2, 1) := by decide +kernel
theorem dX6_islandFor_71 : decode cX6_islandFor 71 = .ok (.iaload, 1) := by decide +kernel
theorem dX6_islandFor_72 : decode cX6_islandFor 72 = .ok (.invokestatic 151, 3) := by decide +kernel
theorem dX6_islandFor_75 : decode cX6_islandFor 75 = .ok (.if_icmp .ge 67, 3) := by decide +kernel
theorem dX6_islandFor_78 : decode cX6_islandFor 78 = .ok (.iload_n 3, 1) := by decide +kernel
theorem dX6_islandFor_79 : decode cX6_islandFor 79 = .ok (.iconst (-1), 1) := by decide +kernel
theorem dX6_islandFor_80 : decode cX6_islandFor 80 = .ok (.if_icmp .ne 8, 3) := by decide +kernel
theorem dX6_islandFor_83 : decode cX6_islandFor 83 = .ok (.ldc 154, 2) := by decide +kernel
theorem dX6_islandFor_85 : decode cX6_islandFor 85 = .ok (.goto 18, 3) := by decide +kernel
theorem dX6_islandFor_88 : decode cX6_islandFor 88 = .ok (.aload_n 0, 1) := by decide +kernel
theorem dX6_islandFor_89 : decode cX6_islandFor 89 = .ok (.getfield 47, 3) := by decide +kernel
theorem dX6_islandFor_92 : decode cX6_islandFor 92 = .ok (.iload_n 3, 1) := by decide +kernel
theorem dX6_islandFor_93 : decode cX6_islandFor 93 = .ok (.iaload, 1) := by decide +kernel
theorem dX6_islandFor_94 : decode cX6_islandFor 94 = .ok (.aload_n 0, 1) := by decide +kernel
theorem dX6_islandFor_95 : decode cX6_islandFor 95 = .ok (.getfield 59, 3) := by decide +kernel
theorem dX6_islandFor_98 : decode cX6_islandFor 98 = .ok (.iload_n 2, 1) := by decide +kernel
theorem dX6_islandFor_99 : decode cX6_islandFor 99 = .ok (.iaload, 1) := by decide +kernel
theorem dX6_islandFor_100 : decode cX6_islandFor 100 = .ok (.invokestatic 151, 3) := by decide +kernel
theorem dX6_islandFor_103 : decode cX6_islandFor 103 = .ok (.istore 6, 2) := by decide +kernel
theorem dX6_islandFor_105 : decode cX6_islandFor 105 = .ok (.iload 5, 2) := by decide +kernel
theorem dX6_islandFor_107 : decode cX6_islandFor 107 = .ok (.iload 6, 2) := by decide +kernel
theorem dX6_islandFor_109 : decode cX6_islandFor 109 = .ok (.if_icmp .lt 26, 3) := by decide +kernel
theorem dX6_islandFor_112 : decode cX6_islandFor 112 = .ok (.iload 5, 2) := by decide +kernel
theorem dX6_islandFor_114 : decode cX6_islandFor 114 = .ok (.iload 6, 2) := by decide +kernel
theorem dX6_islandFor_116 : decode cX6_islandFor 116 = .ok (.if_icmp .ne 24, 3) := by decide +kernel
theorem dX6_islandFor_119 : decode cX6_islandFor 119 = .ok (.aload_n 0, 1) := by decide +kernel
theorem dX6_islandFor_120 : decode cX6_islandFor 120 = .ok (.getfield 47, 3) := by decide +kernel
theorem dX6_islandFor_123 : decode cX6_islandFor 123 = .ok (.iload 4, 2) := by decide +kernel
theorem dX6_islandFor_125 : decode cX6_islandFor 125 = .ok (.iaload, 1) := by decide +kernel
theorem dX6_islandFor_126 : decode cX6_islandFor 126 = .ok (.aload_n 0, 1) := by decide +kernel
theorem dX6_islandFor_127 : decode cX6_islandFor 127 = .ok (.getfield 47, 3) := by decide +kernel
theorem dX6_islandFor_130 : decode cX6_islandFor 130 = .ok (.iload_n 3, 1) := by decide +kernel
theorem dX6_islandFor_131 : decode cX6_islandFor 131 = .ok (.iaload, 1) := by decide +kernel
theorem dX6_islandFor_132 : decode cX6_islandFor 132 = .ok (.if_icmp .ge 8, 3) := by decide +kernel
theorem dX6_islandFor_135 : decode cX6_islandFor 135 = .ok (.iload 4, 2) := by decide +kernel
theorem dX6_islandFor_137 : decode cX6_islandFor 137 = .ok (.goto 4, 3) := by decide +kernel
theorem dX6_islandFor_140 : decode cX6_islandFor 140 = .ok (.iload_n 3, 1) := by decide +kernel
theorem dX6_islandFor_141 : decode cX6_islandFor 141 = .ok (.istore_n 3, 1) := by decide +kernel
theorem dX6_islandFor_142 : decode cX6_islandFor 142 = .ok (.iinc 4 1, 3) := by decide +kernel
theorem dX6_islandFor_145 : decode cX6_islandFor 145 = .ok (.goto (-140), 3) := by decide +kernel
theorem dX6_islandFor_148 : decode cX6_islandFor 148 = .ok (.iload_n 3, 1) := by decide +kernel
theorem dX6_islandFor_149 : decode cX6_islandFor 149 = .ok (.ireturn, 1) := by decide +kernel
set_option maxRecDepth 20000 in
theorem ggX6_reachesLabel_X6_apart : GoodIn wsX6_reachesLabel wsX6_apart := goodIn_sub (fm_c (List.mem_cons_of_mem _ (List.mem_append_left _ (mg 5 rfl))) (fm_n)) (by decide +kernel)
set_option maxRecDepth 20000 in
theorem gX6_reachesLabel_X6_apart : GoodIn wsX6_reachesLabel (va_wsS RX6 151 yX6_apart wsX6_apart) := goodIn_app (goodIn_sub (fm_c (List.mem_cons_of_mem _ (List.mem_append_left _ (mg 2 rfl))) (fm_c (List.mem_cons_of_mem _ (List.mem_append_left _ (mg 3 rfl))) (fm_c (List.mem_cons_of_mem _ (List.mem_append_left _ (mg 4 rfl))) (fm_n)))) (by decide +kernel)) ggX6_reachesLabel_X6_apart
theorem dX6_reachesLabel_0 : decode cX6_reachesLabel 0 = .ok (.iload_n 1, 1) := by decide +kernel
theorem dX6_reachesLabel_1 : decode cX6_reachesLabel 1 = .ok (.aload_n 0, 1) := by decide +kernel
theorem dX6_reachesLabel_2 : decode cX6_reachesLabel 2 = .ok (.getfield 59, 3) := by decide +kernel
theorem dX6_reachesLabel_5 : decode cX6_reachesLabel 5 = .ok (.iload_n 2, 1) := by decide +kernel
theorem dX6_reachesLabel_6 : decode cX6_reachesLabel 6 = .ok (.iaload, 1) := by decide +kernel
theorem dX6_reachesLabel_7 : decode cX6_reachesLabel 7 = .ok (.invokestatic 151, 3) := by decide +kernel
theorem dX6_reachesLabel_10 : decode cX6_reachesLabel 10 = .ok (.aload_n 0, 1) := by decide +kernel
theorem dX6_reachesLabel_11 : decode cX6_reachesLabel 11 = .ok (.getfield 19, 3) := by decide +kernel
theorem dX6_reachesLabel_14 : decode cX6_reachesLabel 14 = .ok (.iconst 1, 1) := by decide +kernel
theorem dX6_reachesLabel_15 : decode cX6_reachesLabel 15 = .ok (.iaload, 1) := by decide +kernel
theorem dX6_reachesLabel_16 : decode cX6_reachesLabel 16 = .ok (.if_icmp .gt 7, 3) := by decide +kernel
theorem dX6_reachesLabel_19 : decode cX6_reachesLabel 19 = .ok (.iconst 1, 1) := by decide +kernel
theorem dX6_reachesLabel_20 : decode cX6_reachesLabel 20 = .ok (.goto 4, 3) := by decide +kernel
theorem dX6_reachesLabel_23 : decode cX6_reachesLabel 23 = .ok (.iconst 0, 1) := by decide +kernel
theorem dX6_reachesLabel_24 : decode cX6_reachesLabel 24 = .ok (.ireturn, 1) := by decide +kernel
set_option maxRecDepth 20000 in
theorem ggX6_goesFrom_X6_reachesLabel : GoodIn wsX6_goesFrom wsX6_reachesLabel := goodIn_sub (fm_c (List.mem_cons_of_mem _ (List.mem_append_left _ (mg 6 rfl))) (ms_a (fm_c (List.mem_cons_of_mem _ (List.mem_append_left _ (mg 0 rfl))) (fm_c (List.mem_cons_of_mem _ (List.mem_append_left _ (mg 7 rfl))) (fm_c (List.mem_cons_of_mem _ (List.mem_append_left _ (mg 8 rfl))) (fm_c (List.mem_cons_of_mem _ (List.mem_append_left _ (mg 9 rfl))) (fm_c (List.mem_cons_of_mem _ (List.mem_append_left _ (mg 5 rfl))) (fm_c (List.mem_cons_of_mem _ (List.mem_append_left _ (mg 10 rfl))) (fm_n))))))) (fun _ h => List.mem_cons_of_mem _ (List.mem_append_right _ (h))))) (by decide +kernel)
set_option maxRecDepth 20000 in
theorem gX6_goesFrom_X6_reachesLabel : GoodIn wsX6_goesFrom (wsV RX6 155 RX6 yX6_reachesLabel wsX6_reachesLabel) := goodIn_app (goodIn_sub (fm_c (List.mem_cons_of_mem _ (List.mem_append_left _ (mg 2 rfl))) (fm_c (List.mem_cons_of_mem _ (List.mem_append_left _ (mg 3 rfl))) (fm_c (List.mem_cons_of_mem _ (List.mem_append_left _ (mg 4 rfl))) (fm_c (List.mem_cons_of_mem _ (List.mem_append_left _ (mg 5 rfl))) (fm_n))))) (by decide +kernel)) ggX6_goesFrom_X6_reachesLabel
set_option maxRecDepth 20000 in
theorem ggX6_goesFrom_X6_islandFor : GoodIn wsX6_goesFrom wsX6_islandFor := goodIn_sub (fm_c (List.mem_cons_of_mem _ (List.mem_append_left _ (mg 14 rfl))) (ms_a (fm_c (List.mem_cons_of_mem _ (List.mem_append_left _ (mg 15 rfl))) (fm_c (List.mem_cons_of_mem _ (List.mem_append_left _ (mg 1 rfl))) (fm_c (List.mem_cons_of_mem _ (List.mem_append_left _ (mg 0 rfl))) (fm_c (List.mem_cons_of_mem _ (List.mem_append_left _ (mg 16 rfl))) (fm_c (List.mem_cons_of_mem _ (List.mem_append_left _ (mg 7 rfl))) (fm_c (List.mem_cons_of_mem _ (List.mem_append_left _ (mg 17 rfl))) (fm_c (List.mem_cons_of_mem _ (List.mem_append_left _ (mg 8 rfl))) (fm_c (List.mem_cons_of_mem _ (List.mem_append_left _ (mg 9 rfl))) (fm_c (List.mem_cons_of_mem _ (List.mem_append_left _ (mg 5 rfl))) (fm_c (List.mem_cons_of_mem _ (List.mem_append_left _ (mg 10 rfl))) (fm_n))))))))))) (fun _ h => List.mem_cons_of_mem _ (List.mem_append_right _ (h))))) (by decide +kernel)
set_option maxRecDepth 20000 in
theorem gX6_goesFrom_X6_islandFor : GoodIn wsX6_goesFrom (wsV RX6 159 RX6 yX6_islandFor wsX6_islandFor) := goodIn_app (goodIn_sub (fm_c (List.mem_cons_of_mem _ (List.mem_append_left _ (mg 11 rfl))) (fm_c (List.mem_cons_of_mem _ (List.mem_append_left _ (mg 12 rfl))) (fm_c (List.mem_cons_of_mem _ (List.mem_append_left _ (mg 13 rfl))) (fm_c (List.mem_cons_of_mem _ (List.mem_append_left _ (mg 5 rfl))) (fm_n))))) (by decide +kernel)) ggX6_goesFrom_X6_islandFor
theorem dX6_goesFrom_0 : decode cX6_goesFrom 0 = .ok (.aload_n 0, 1) := by decide +kernel
theorem dX6_goesFrom_1 : decode cX6_goesFrom 1 = .ok (.iload_n 1, 1) := by decide +kernel
theorem dX6_goesFrom_2 : decode cX6_goesFrom 2 = .ok (.iload_n 2, 1) := by decide +kernel
theorem dX6_goesFrom_3 : decode cX6_goesFrom 3 = .ok (.invokevirtual 155, 3) := by decide +kernel
theorem dX6_goesFrom_6 : decode cX6_goesFrom 6 = .ok (.ifCond .eq 10, 3) := by decide +kernel
theorem dX6_goesFrom_9 : decode cX6_goesFrom 9 = .ok (.aload_n 0, 1) := by decide +kernel
theorem dX6_goesFrom_10 : decode cX6_goesFrom 10 = .ok (.getfield 59, 3) := by decide +kernel
theorem dX6_goesFrom_13 : decode cX6_goesFrom 13 = .ok (.iload_n 2, 1) := by decide +kernel
theorem dX6_goesFrom_14 : decode cX6_goesFrom 14 = .ok (.iaload, 1) := by decide +kernel
theorem dX6_goesFrom_15 : decode cX6_goesFrom 15 = .ok (.ireturn, 1) := by decide +kernel
theorem dX6_goesFrom_16 : decode cX6_goesFrom 16 = .ok (.aload_n 0, 1) := by decide +kernel
theorem dX6_goesFrom_17 : decode cX6_goesFrom 17 = .ok (.iload_n 1, 1) := by decide +kernel
theorem dX6_goesFrom_18 : decode cX6_goesFrom 18 = .ok (.iload_n 2, 1) := by decide +kernel
theorem dX6_goesFrom_19 : decode cX6_goesFrom 19 = .ok (.invokevirtual 159, 3) := by decide +kernel
theorem dX6_goesFrom_22 : decode cX6_goesFrom 22 = .ok (.istore_n 3, 1) := by decide +kernel
theorem dX6_goesFrom_23 : decode cX6_goesFrom 23 = .ok (.iload_n 3, 1) := by decide +kernel
theorem dX6_goesFrom_24 : decode cX6_goesFrom 24 = .ok (.iconst (-1), 1) := by decide +kernel
theorem dX6_goesFrom_25 : decode cX6_goesFrom 25 = .ok (.if_icmp .ne 7, 3) := by decide +kernel
theorem dX6_goesFrom_28 : decode cX6_goesFrom 28 = .ok (.iconst (-1), 1) := by decide +kernel
theorem dX6_goesFrom_29 : decode cX6_goesFrom 29 = .ok (.goto 9, 3) := by decide +kernel
theorem dX6_goesFrom_32 : decode cX6_goesFrom 32 = .ok (.aload_n 0, 1) := by decide +kernel
theorem dX6_goesFrom_33 : decode cX6_goesFrom 33 = .ok (.getfield 47, 3) := by decide +kernel
theorem dX6_goesFrom_36 : decode cX6_goesFrom 36 = .ok (.iload_n 3, 1) := by decide +kernel
theorem dX6_goesFrom_37 : decode cX6_goesFrom 37 = .ok (.iaload, 1) := by decide +kernel
theorem dX6_goesFrom_38 : decode cX6_goesFrom 38 = .ok (.ireturn, 1) := by decide +kernel
set_option maxRecDepth 20000 in
theorem ggX6_shortGoes_X6_apart : GoodIn wsX6_shortGoes wsX6_apart := goodIn_sub (fm_c (List.mem_cons_of_mem _ (List.mem_append_left _ (mg 7 rfl))) (fm_n)) (by decide +kernel)
set_option maxRecDepth 20000 in
theorem gX6_shortGoes_X6_apart : GoodIn wsX6_shortGoes (va_wsS RX6 151 yX6_apart wsX6_apart) := goodIn_app (goodIn_sub (fm_c (List.mem_cons_of_mem _ (List.mem_append_left _ (mg 4 rfl))) (fm_c (List.mem_cons_of_mem _ (List.mem_append_left _ (mg 5 rfl))) (fm_c (List.mem_cons_of_mem _ (List.mem_append_left _ (mg 6 rfl))) (fm_n)))) (by decide +kernel)) ggX6_shortGoes_X6_apart
theorem dX6_shortGoes_0 : decode cX6_shortGoes 0 = .ok (.aload_n 0, 1) := by decide +kernel
theorem dX6_shortGoes_1 : decode cX6_shortGoes 1 = .ok (.getfield 59, 3) := by decide +kernel
theorem dX6_shortGoes_4 : decode cX6_shortGoes 4 = .ok (.aload_n 0, 1) := by decide +kernel
theorem dX6_shortGoes_5 : decode cX6_shortGoes 5 = .ok (.getfield 16, 3) := by decide +kernel
theorem dX6_shortGoes_8 : decode cX6_shortGoes 8 = .ok (.iload_n 1, 1) := by decide +kernel
theorem dX6_shortGoes_9 : decode cX6_shortGoes 9 = .ok (.iaload, 1) := by decide +kernel
theorem dX6_shortGoes_10 : decode cX6_shortGoes 10 = .ok (.iaload, 1) := by decide +kernel
theorem dX6_shortGoes_11 : decode cX6_shortGoes 11 = .ok (.istore_n 2, 1) := by decide +kernel
theorem dX6_shortGoes_12 : decode cX6_shortGoes 12 = .ok (.aload_n 0, 1) := by decide +kernel
theorem dX6_shortGoes_13 : decode cX6_shortGoes 13 = .ok (.getfield 44, 3) := by decide +kernel
theorem dX6_shortGoes_16 : decode cX6_shortGoes 16 = .ok (.iload_n 1, 1) := by decide +kernel
theorem dX6_shortGoes_17 : decode cX6_shortGoes 17 = .ok (.iaload, 1) := by decide +kernel
theorem dX6_shortGoes_18 : decode cX6_shortGoes 18 = .ok (.iload_n 2, 1) := by decide +kernel
theorem dX6_shortGoes_19 : decode cX6_shortGoes 19 = .ok (.invokestatic 151, 3) := by decide +kernel
theorem dX6_shortGoes_22 : decode cX6_shortGoes 22 = .ok (.aload_n 0, 1) := by decide +kernel
theorem dX6_shortGoes_23 : decode cX6_shortGoes 23 = .ok (.getfield 19, 3) := by decide +kernel
theorem dX6_shortGoes_26 : decode cX6_shortGoes 26 = .ok (.iconst 0, 1) := by decide +kernel
theorem dX6_shortGoes_27 : decode cX6_shortGoes 27 = .ok (.iaload, 1) := by decide +kernel
theorem dX6_shortGoes_28 : decode cX6_shortGoes 28 = .ok (.if_icmp .gt 7, 3) := by decide +kernel
theorem dX6_shortGoes_31 : decode cX6_shortGoes 31 = .ok (.iload_n 2, 1) := by decide +kernel
theorem dX6_shortGoes_32 : decode cX6_shortGoes 32 = .ok (.goto 4, 3) := by decide +kernel
theorem dX6_shortGoes_35 : decode cX6_shortGoes 35 = .ok (.iconst (-1), 1) := by decide +kernel
theorem dX6_shortGoes_36 : decode cX6_shortGoes 36 = .ok (.ireturn, 1) := by decide +kernel
theorem qX6_goesTo_r1 {w : Cond} (h : w ∈ wsX6_goesTo_r1) : w ∈ wsX6_goesTo := List.mem_cons_of_mem _ (List.mem_append_left _ (List.mem_append_left _ (h)))
theorem qX6_goesTo_r2 {w : Cond} (h : w ∈ wsX6_goesTo_r2) : w ∈ wsX6_goesTo := List.mem_cons_of_mem _ (List.mem_append_left _ (List.mem_append_right _ (h)))
set_option maxRecDepth 20000 in
theorem ggX6_goesTo_X6_constantFor : GoodIn wsX6_goesTo wsX6_constantFor := goodIn_sub (fm_c (qX6_goesTo_r1 (mg 9 rfl)) (ms_a (fm_c (qX6_goesTo_r1 (mg 10 rfl)) (fm_c (qX6_goesTo_r1 (mg 1 rfl)) (fm_c (qX6_goesTo_r1 (mg 3 rfl)) (fm_c (qX6_goesTo_r1 (mg 11 rfl)) (fm_c (qX6_goesTo_r1 (mg 4 rfl)) (fm_c (qX6_goesTo_r1 (mg 12 rfl)) (fm_n))))))) (fun _ h => List.mem_cons_of_mem _ (List.mem_append_right _ (h))))) (by decide +kernel)
set_option maxRecDepth 20000 in
theorem gX6_goesTo_X6_constantFor : GoodIn wsX6_goesTo (wsV RX6 162 RX6 yX6_constantFor wsX6_constantFor) := goodIn_app (goodIn_sub (fm_c (qX6_goesTo_r1 (mg 5 rfl)) (fm_c (qX6_goesTo_r1 (mg 6 rfl)) (fm_c (qX6_goesTo_r1 (mg 7 rfl)) (fm_c (qX6_goesTo_r1 (mg 8 rfl)) (fm_n))))) (by decide +kernel)) ggX6_goesTo_X6_constantFor
set_option maxRecDepth 20000 in
theorem ggX6_goesTo_X6_goesFrom : GoodIn wsX6_goesTo wsX6_goesFrom := goodIn_sub (fm_c (qX6_goesTo_r1 (mg 16 rfl)) (ms_a (fm_c (qX6_goesTo_r1 (mg 17 rfl)) (fm_c (qX6_goesTo_r1 (mg 18 rfl)) (fm_c (qX6_goesTo_r1 (mg 19 rfl)) (fm_c (qX6_goesTo_r1 (mg 20 rfl)) (fm_c (qX6_goesTo_r1 (mg 21 rfl)) (fm_c (qX6_goesTo_r1 (mg 8 rfl)) (fm_c (qX6_goesTo_r1 (mg 22 rfl)) (fm_c (qX6_goesTo_r1 (mg 12 rfl)) (fm_c (qX6_goesTo_r1 (mg 23 rfl)) (fm_c (qX6_goesTo_r2 (mg 0 rfl)) (fm_c (qX6_goesTo_r2 (mg 1 rfl)) (fm_c (qX6_goesTo_r2 (mg 2 rfl)) (fm_c (qX6_goesTo_r2 (mg 3 rfl)) (fm_c (qX6_goesTo_r2 (mg 4 rfl)) (fm_c (qX6_goesTo_r2 (mg 5 rfl)) (fm_c (qX6_goesTo_r2 (mg 6 rfl)) (fm_c (qX6_goesTo_r2 (mg 7 rfl)) (fm_c (qX6_goesTo_r2 (mg 8 rfl)) (fm_n))))))))))))))))))) (fun _ h => List.mem_cons_of_mem _ (List.mem_append_right _ (h))))) (by decide +kernel)
set_option maxRecDepth 20000 in
theorem gX6_goesTo_X6_goesFrom : GoodIn wsX6_goesTo (wsV RX6 165 RX6 yX6_goesFrom wsX6_goesFrom) := goodIn_app (goodIn_sub (fm_c (qX6_goesTo_r1 (mg 13 rfl)) (fm_c (qX6_goesTo_r1 (mg 14 rfl)) (fm_c (qX6_goesTo_r1 (mg 15 rfl)) (fm_c (qX6_goesTo_r1 (mg 8 rfl)) (fm_n))))) (by decide +kernel)) ggX6_goesTo_X6_goesFrom
set_option maxRecDepth 20000 in
theorem ggX6_goesTo_X6_shortGoes : GoodIn wsX6_goesTo wsX6_shortGoes := goodIn_sub (fm_c (qX6_goesTo_r2 (mg 12 rfl)) (ms_a (fm_c (qX6_goesTo_r1 (mg 17 rfl)) (fm_c (qX6_goesTo_r1 (mg 4 rfl)) (fm_c (qX6_goesTo_r1 (mg 3 rfl)) (fm_c (qX6_goesTo_r1 (mg 12 rfl)) (fm_c (qX6_goesTo_r1 (mg 23 rfl)) (fm_c (qX6_goesTo_r2 (mg 0 rfl)) (fm_c (qX6_goesTo_r1 (mg 8 rfl)) (fm_c (qX6_goesTo_r2 (mg 1 rfl)) (fm_n))))))))) (fun _ h => List.mem_cons_of_mem _ (List.mem_append_right _ (h))))) (by decide +kernel)
set_option maxRecDepth 20000 in
theorem gX6_goesTo_X6_shortGoes : GoodIn wsX6_goesTo (wsV RX6 168 RX6 yX6_shortGoes wsX6_shortGoes) := goodIn_app (goodIn_sub (fm_c (qX6_goesTo_r2 (mg 9 rfl)) (fm_c (qX6_goesTo_r2 (mg 10 rfl)) (fm_c (qX6_goesTo_r2 (mg 11 rfl)) (fm_c (qX6_goesTo_r1 (mg 8 rfl)) (fm_n))))) (by decide +kernel)) ggX6_goesTo_X6_shortGoes
theorem dX6_goesTo_0 : decode cX6_goesTo 0 = .ok (.aload_n 0, 1) := by decide +kernel
theorem dX6_goesTo_1 : decode cX6_goesTo 1 = .ok (.getfield 13, 3) := by decide +kernel
theorem dX6_goesTo_4 : decode cX6_goesTo 4 = .ok (.iload_n 1, 1) := by decide +kernel
theorem dX6_goesTo_5 : decode cX6_goesTo 5 = .ok (.iaload, 1) := by decide +kernel
theorem dX6_goesTo_6 : decode cX6_goesTo 6 = .ok (.iconst 1, 1) := by decide +kernel
theorem dX6_goesTo_7 : decode cX6_goesTo 7 = .ok (.if_icmp .ne 25, 3) := by decide +kernel
theorem dX6_goesTo_10 : decode cX6_goesTo 10 = .ok (.aload_n 0, 1) := by decide +kernel
theorem dX6_goesTo_11 : decode cX6_goesTo 11 = .ok (.iload_n 1, 1) := by decide +kernel
theorem dX6_goesTo_12 : decode cX6_goesTo 12 = .ok (.invokevirtual 162, 3) := by decide +kernel
theorem dX6_goesTo_15 : decode cX6_goesTo 15 = .ok (.istore_n 2, 1) := by decide +kernel
theorem dX6_goesTo_16 : decode cX6_goesTo 16 = .ok (.iload_n 2, 1) := by decide +kernel
theorem dX6_goesTo_17 : decode cX6_goesTo 17 = .ok (.iconst (-1), 1) := by decide +kernel
theorem dX6_goesTo_18 : decode cX6_goesTo 18 = .ok (.if_icmp .ne 7, 3) := by decide +kernel
theorem dX6_goesTo_21 : decode cX6_goesTo 21 = .ok (.iconst (-1), 1) := by decide +kernel
theorem dX6_goesTo_22 : decode cX6_goesTo 22 = .ok (.goto 9, 3) := by decide +kernel
theorem dX6_goesTo_25 : decode cX6_goesTo 25 = .ok (.aload_n 0, 1) := by decide +kernel
theorem dX6_goesTo_26 : decode cX6_goesTo 26 = .ok (.getfield 50, 3) := by decide +kernel
theorem dX6_goesTo_29 : decode cX6_goesTo 29 = .ok (.iload_n 2, 1) := by decide +kernel
theorem dX6_goesTo_30 : decode cX6_goesTo 30 = .ok (.iaload, 1) := by decide +kernel
theorem dX6_goesTo_31 : decode cX6_goesTo 31 = .ok (.ireturn, 1) := by decide +kernel
theorem dX6_goesTo_32 : decode cX6_goesTo 32 = .ok (.aload_n 0, 1) := by decide +kernel
theorem dX6_goesTo_33 : decode cX6_goesTo 33 = .ok (.getfield 13, 3) := by decide +kernel
theorem dX6_goesTo_36 : decode cX6_goesTo 36 = .ok (.iload_n 1, 1) := by decide +kernel
theorem dX6_goesTo_37 : decode cX6_goesTo 37 = .ok (.iaload, 1) := by decide +kernel
theorem dX6_goesTo_38 : decode cX6_goesTo 38 = .ok (.iconst 2, 1) := by decide +kernel
theorem dX6_goesTo_39 : decode cX6_goesTo 39 = .ok (.if_icmp .eq 5, 3) := by decide +kernel
theorem dX6_goesTo_42 : decode cX6_goesTo 42 = .ok (.iconst (-1), 1) := by decide +kernel
theorem dX6_goesTo_43 : decode cX6_goesTo 43 = .ok (.ireturn, 1) := by decide +kernel
theorem dX6_goesTo_44 : decode cX6_goesTo 44 = .ok (.aload_n 0, 1) := by decide +kernel
theorem dX6_goesTo_45 : decode cX6_goesTo 45 = .ok (.getfield 28, 3) := by decide +kernel
theorem dX6_goesTo_48 : decode cX6_goesTo 48 = .ok (.iload_n 1, 1) := by decide +kernel
theorem dX6_goesTo_49 : decode cX6_goesTo 49 = .ok (.baload, 1) := by decide +kernel
theorem dX6_goesTo_50 : decode cX6_goesTo 50 = .ok (.ifCond .eq 22, 3) := by decide +kernel
theorem dX6_goesTo_53 : decode cX6_goesTo 53 = .ok (.aload_n 0, 1) := by decide +kernel
theorem dX6_goesTo_54 : decode cX6_goesTo 54 = .ok (.aload_n 0, 1) := by decide +kernel
theorem dX6_goesTo_55 : decode cX6_goesTo 55 = .ok (.getfield 44, 3) := by decide +kernel
theorem dX6_goesTo_58 : decode cX6_goesTo 58 = .ok (.iload_n 1, 1) := by decide +kernel
theorem dX6_goesTo_59 : decode cX6_goesTo 59 = .ok (.iaload, 1) := by decide +kernel
theorem dX6_goesTo_60 : decode cX6_goesTo 60 = .ok (.aload_n 0, 1) := by decide +kernel
theorem dX6_goesTo_61 : decode cX6_goesTo 61 = .ok (.getfield 16, 3) := by decide +kernel
theorem dX6_goesTo_64 : decode cX6_goesTo 64 = .ok (.iload_n 1, 1) := by decide +kernel
theorem dX6_goesTo_65 : decode cX6_goesTo 65 = .ok (.iaload, 1) := by decide +kernel
theorem dX6_goesTo_66 : decode cX6_goesTo 66 = .ok (.invokevirtual 165, 3) := by decide +kernel
theorem dX6_goesTo_69 : decode cX6_goesTo 69 = .ok (.goto 8, 3) := by decide +kernel
theorem dX6_goesTo_72 : decode cX6_goesTo 72 = .ok (.aload_n 0, 1) := by decide +kernel
theorem dX6_goesTo_73 : decode cX6_goesTo 73 = .ok (.iload_n 1, 1) := by decide +kernel
theorem dX6_goesTo_74 : decode cX6_goesTo 74 = .ok (.invokevirtual 168, 3) := by decide +kernel
theorem dX6_goesTo_77 : decode cX6_goesTo 77 = .ok (.ireturn, 1) := by decide +kernel
theorem dX6_fails_0 : decode cX6_fails 0 = .ok (.aload_n 0, 1) := by decide +kernel
theorem dX6_fails_1 : decode cX6_fails 1 = .ok (.iconst 0, 1) := by decide +kernel
theorem dX6_fails_2 : decode cX6_fails 2 = .ok (.putfield 62, 3) := by decide +kernel
theorem dX6_fails_5 : decode cX6_fails 5 = .ok (.aload_n 0, 1) := by decide +kernel
theorem dX6_fails_6 : decode cX6_fails 6 = .ok (.iload_n 1, 1) := by decide +kernel
theorem dX6_fails_7 : decode cX6_fails 7 = .ok (.putfield 171, 3) := by decide +kernel
theorem dX6_fails_10 : decode cX6_fails 10 = .ok (.aload_n 0, 1) := by decide +kernel
theorem dX6_fails_11 : decode cX6_fails 11 = .ok (.iload_n 2, 1) := by decide +kernel
theorem dX6_fails_12 : decode cX6_fails 12 = .ok (.putfield 66, 3) := by decide +kernel
theorem dX6_fails_15 : decode cX6_fails 15 = .ok (.iconst 0, 1) := by decide +kernel
theorem dX6_fails_16 : decode cX6_fails 16 = .ok (.ireturn, 1) := by decide +kernel
theorem qX6_firstStuck_r1 {w : Cond} (h : w ∈ wsX6_firstStuck_r1) : w ∈ wsX6_firstStuck := List.mem_cons_of_mem _ (List.mem_append_left _ (List.mem_append_left _ (h)))
theorem qX6_firstStuck_r2 {w : Cond} (h : w ∈ wsX6_firstStuck_r2) : w ∈ wsX6_firstStuck := List.mem_cons_of_mem _ (List.mem_append_left _ (List.mem_append_right _ (h)))
set_option maxRecDepth 20000 in
theorem ggX6_firstStuck_X6_goesTo : GoodIn wsX6_firstStuck wsX6_goesTo := goodIn_sub (fm_c (qX6_firstStuck_r1 (mg 7 rfl)) (ms_a (ms_a (fm_c (qX6_firstStuck_r1 (mg 1 rfl)) (fm_c (qX6_firstStuck_r1 (mg 8 rfl)) (fm_c (qX6_firstStuck_r1 (mg 2 rfl)) (fm_c (qX6_firstStuck_r1 (mg 9 rfl)) (fm_c (qX6_firstStuck_r1 (mg 10 rfl)) (fm_c (qX6_firstStuck_r1 (mg 11 rfl)) (fm_c (qX6_firstStuck_r1 (mg 12 rfl)) (fm_c (qX6_firstStuck_r1 (mg 13 rfl)) (fm_c (qX6_firstStuck_r1 (mg 6 rfl)) (fm_c (qX6_firstStuck_r1 (mg 14 rfl)) (fm_c (qX6_firstStuck_r1 (mg 15 rfl)) (fm_c (qX6_firstStuck_r1 (mg 16 rfl)) (fm_c (qX6_firstStuck_r1 (mg 17 rfl)) (fm_c (qX6_firstStuck_r1 (mg 18 rfl)) (fm_c (qX6_firstStuck_r1 (mg 19 rfl)) (fm_c (qX6_firstStuck_r1 (mg 20 rfl)) (fm_c (qX6_firstStuck_r1 (mg 21 rfl)) (fm_c (qX6_firstStuck_r1 (mg 22 rfl)) (fm_c (qX6_firstStuck_r1 (mg 23 rfl)) (fm_c (qX6_firstStuck_r2 (mg 0 rfl)) (fm_c (qX6_firstStuck_r2 (mg 1 rfl)) (fm_c (qX6_firstStuck_r2 (mg 2 rfl)) (fm_c (qX6_firstStuck_r2 (mg 3 rfl)) (fm_c (qX6_firstStuck_r2 (mg 4 rfl)) (fm_n))))))))))))))))))))))))) (fm_c (qX6_firstStuck_r2 (mg 5 rfl)) (fm_c (qX6_firstStuck_r2 (mg 6 rfl)) (fm_c (qX6_firstStuck_r2 (mg 7 rfl)) (fm_c (qX6_firstStuck_r2 (mg 8 rfl)) (fm_c (qX6_firstStuck_r2 (mg 9 rfl)) (fm_c (qX6_firstStuck_r2 (mg 10 rfl)) (fm_c (qX6_firstStuck_r2 (mg 11 rfl)) (fm_c (qX6_firstStuck_r2 (mg 12 rfl)) (fm_c (qX6_firstStuck_r2 (mg 13 rfl)) (fm_c (qX6_firstStuck_r2 (mg 14 rfl)) (fm_c (qX6_firstStuck_r2 (mg 15 rfl)) (fm_c (qX6_firstStuck_r2 (mg 16 rfl)) (fm_c (qX6_firstStuck_r2 (mg 17 rfl)) (fm_n))))))))))))))) (fun _ h => List.mem_cons_of_mem _ (List.mem_append_right _ (h))))) (by decide +kernel)
set_option maxRecDepth 20000 in
theorem gX6_firstStuck_X6_goesTo : GoodIn wsX6_firstStuck (wsV RX6 174 RX6 yX6_goesTo wsX6_goesTo) := goodIn_app (goodIn_sub (fm_c (qX6_firstStuck_r1 (mg 3 rfl)) (fm_c (qX6_firstStuck_r1 (mg 4 rfl)) (fm_c (qX6_firstStuck_r1 (mg 5 rfl)) (fm_c (qX6_firstStuck_r1 (mg 6 rfl)) (fm_n))))) (by decide +kernel)) ggX6_firstStuck_X6_goesTo
theorem dX6_firstStuck_0 : decode cX6_firstStuck 0 = .ok (.iconst (-1), 1) := by decide +kernel
theorem dX6_firstStuck_1 : decode cX6_firstStuck 1 = .ok (.istore_n 3, 1) := by decide +kernel
theorem dX6_firstStuck_2 : decode cX6_firstStuck 2 = .ok (.aload_n 0, 1) := by decide +kernel
theorem dX6_firstStuck_3 : decode cX6_firstStuck 3 = .ok (.getfield 114, 3) := by decide +kernel
theorem dX6_firstStuck_6 : decode cX6_firstStuck 6 = .ok (.iconst 1, 1) := by decide +kernel
theorem dX6_firstStuck_7 : decode cX6_firstStuck 7 = .ok (.isub, 1) := by decide +kernel
theorem dX6_firstStuck_8 : decode cX6_firstStuck 8 = .ok (.istore 4, 2) := by decide +kernel
theorem dX6_firstStuck_10 : decode cX6_firstStuck 10 = .ok (.iload 4, 2) := by decide +kernel
theorem dX6_firstStuck_12 : decode cX6_firstStuck 12 = .ok (.ifCond .lt 60, 3) := by decide +kernel
theorem dX6_firstStuck_15 : decode cX6_firstStuck 15 = .ok (.aload_n 0, 1) := by decide +kernel
theorem dX6_firstStuck_16 : decode cX6_firstStuck 16 = .ok (.getfield 13, 3) := by decide +kernel
theorem dX6_firstStuck_19 : decode cX6_firstStuck 19 = .ok (.iload 4, 2) := by decide +kernel
theorem dX6_firstStuck_21 : decode cX6_firstStuck 21 = .ok (.iaload, 1) := by decide +kernel
theorem dX6_firstStuck_22 : decode cX6_firstStuck 22 = .ok (.iload_n 1, 1) := by decide +kernel
theorem dX6_firstStuck_23 : decode cX6_firstStuck 23 = .ok (.if_icmp .ne 28, 3) := by decide +kernel
theorem dX6_firstStuck_26 : decode cX6_firstStuck 26 = .ok (.aload_n 0, 1) := by decide +kernel
theorem dX6_firstStuck_27 : decode cX6_firstStuck 27 = .ok (.getfield 28, 3) := by decide +kernel
theorem dX6_firstStuck_30 : decode cX6_firstStuck 30 = .ok (.iload 4, 2) := by decide +kernel
theorem dX6_firstStuck_32 : decode cX6_firstStuck 32 = .ok (.baload, 1) := by decide +kernel
theorem dX6_firstStuck_33 : decode cX6_firstStuck 33 = .ok (.iload_n 2, 1) := by decide +kernel
theorem dX6_firstStuck_34 : decode cX6_firstStuck 34 = .ok (.if_icmp .ne 17, 3) := by decide +kernel
theorem dX6_firstStuck_37 : decode cX6_firstStuck 37 = .ok (.aload_n 0, 1) := by decide +kernel
theorem dX6_firstStuck_38 : decode cX6_firstStuck 38 = .ok (.iload 4, 2) := by decide +kernel
theorem dX6_firstStuck_40 : decode cX6_firstStuck 40 = .ok (.invokevirtual 174, 3) := by decide +kernel
theorem dX6_firstStuck_43 : decode cX6_firstStuck 43 = .ok (.iconst (-1), 1) := by decide +kernel
theorem dX6_firstStuck_44 : decode cX6_firstStuck 44 = .ok (.if_icmp .ne 7, 3) := by decide +kernel
theorem dX6_firstStuck_47 : decode cX6_firstStuck 47 = .ok (.iconst 1, 1) := by decide +kernel
theorem dX6_firstStuck_48 : decode cX6_firstStuck 48 = .ok (.goto 4, 3) := by decide +kernel
theorem dX6_firstStuck_51 : decode cX6_firstStuck 51 = .ok (.iconst 0, 1) := by decide +kernel
theorem dX6_firstStuck_52 : decode cX6_firstStuck 52 = .ok (.istore 5, 2) := by decide +kernel
theorem dX6_firstStuck_54 : decode cX6_firstStuck 54 = .ok (.iload 5, 2) := by decide +kernel
theorem dX6_firstStuck_56 : decode cX6_firstStuck 56 = .ok (.ifCond .eq 8, 3) := by decide +kernel
theorem dX6_firstStuck_59 : decode cX6_firstStuck 59 = .ok (.iload 4, 2) := by decide +kernel
theorem dX6_firstStuck_61 : decode cX6_firstStuck 61 = .ok (.goto 4, 3) := by decide +kernel
theorem dX6_firstStuck_64 : decode cX6_firstStuck 64 = .ok (.iload_n 3, 1) := by decide +kernel
theorem dX6_firstStuck_65 : decode cX6_firstStuck 65 = .ok (.istore_n 3, 1) := by decide +kernel
theorem dX6_firstStuck_66 : decode cX6_firstStuck 66 = .ok (.iinc 4 (-1), 3) := by decide +kernel
theorem dX6_firstStuck_69 : decode cX6_firstStuck 69 = .ok (.goto (-59), 3) := by decide +kernel
theorem dX6_firstStuck_72 : decode cX6_firstStuck 72 = .ok (.iload_n 3, 1) := by decide +kernel
theorem dX6_firstStuck_73 : decode cX6_firstStuck 73 = .ok (.ireturn, 1) := by decide +kernel
set_option maxRecDepth 20000 in
theorem ggX6_firstStuckIsland_X6_goesFrom : GoodIn wsX6_firstStuckIsland wsX6_goesFrom := goodIn_sub (fm_c (List.mem_cons_of_mem _ (List.mem_append_left _ (mg 7 rfl))) (ms_a (fm_c (List.mem_cons_of_mem _ (List.mem_append_left _ (mg 8 rfl))) (fm_c (List.mem_cons_of_mem _ (List.mem_append_left _ (mg 1 rfl))) (fm_c (List.mem_cons_of_mem _ (List.mem_append_left _ (mg 9 rfl))) (fm_c (List.mem_cons_of_mem _ (List.mem_append_left _ (mg 10 rfl))) (fm_c (List.mem_cons_of_mem _ (List.mem_append_left _ (mg 11 rfl))) (fm_c (List.mem_cons_of_mem _ (List.mem_append_left _ (mg 6 rfl))) (fm_c (List.mem_cons_of_mem _ (List.mem_append_left _ (mg 12 rfl))) (fm_c (List.mem_cons_of_mem _ (List.mem_append_left _ (mg 13 rfl))) (fm_c (List.mem_cons_of_mem _ (List.mem_append_left _ (mg 14 rfl))) (fm_c (List.mem_cons_of_mem _ (List.mem_append_left _ (mg 15 rfl))) (fm_c (List.mem_cons_of_mem _ (List.mem_append_left _ (mg 16 rfl))) (fm_c (List.mem_cons_of_mem _ (List.mem_append_left _ (mg 17 rfl))) (fm_c (List.mem_cons_of_mem _ (List.mem_append_left _ (mg 18 rfl))) (fm_c (List.mem_cons_of_mem _ (List.mem_append_left _ (mg 19 rfl))) (fm_c (List.mem_cons_of_mem _ (List.mem_append_left _ (mg 20 rfl))) (fm_c (List.mem_cons_of_mem _ (List.mem_append_left _ (mg 0 rfl))) (fm_c (List.mem_cons_of_mem _ (List.mem_append_left _ (mg 2 rfl))) (fm_c (List.mem_cons_of_mem _ (List.mem_append_left _ (mg 21 rfl))) (fm_n))))))))))))))))))) (fun _ h => List.mem_cons_of_mem _ (List.mem_append_right _ (h))))) (by decide +kernel)
set_option maxRecDepth 20000 in
theorem gX6_firstStuckIsland_X6_goesFrom : GoodIn wsX6_firstStuckIsland (wsV RX6 165 RX6 yX6_goesFrom wsX6_goesFrom) := goodIn_app (goodIn_sub (fm_c (List.mem_cons_of_mem _ (List.mem_append_left _ (mg 3 rfl))) (fm_c (List.mem_cons_of_mem _ (List.mem_append_left _ (mg 4 rfl))) (fm_c (List.mem_cons_of_mem _ (List.mem_append_left _ (mg 5 rfl))) (fm_c (List.mem_cons_of_mem _ (List.mem_append_left _ (mg 6 rfl))) (fm_n))))) (by decide +kernel)) ggX6_firstStuckIsland_X6_goesFrom
theorem dX6_firstStuckIsland_0 : decode cX6_firstStuckIsland 0 = .ok (.iconst (-1), 1) := by decide +kernel
theorem dX6_firstStuckIsland_1 : decode cX6_firstStuckIsland 1 = .ok (.istore_n 1, 1) := by decide +kernel
theorem dX6_firstStuckIsland_2 : decode cX6_firstStuckIsland 2 = .ok (.aload_n 0, 1) := by decide +kernel
theorem dX6_firstStuckIsland_3 : decode cX6_firstStuckIsland 3 = .ok (.getfield 133, 3) := by decide +kernel
theorem dX6_firstStuckIsland_6 : decode cX6_firstStuckIsland 6 = .ok (.iconst 1, 1) := by decide +kernel
theorem dX6_firstStuckIsland_7 : decode cX6_firstStuckIsland 7 = .ok (.isub, 1) := by decide +kernel
theorem dX6_firstStuckIsland_8 : decode cX6_firstStuckIsland 8 = .ok (.istore_n 2, 1) := by decide +kernel
theorem dX6_firstStuckIsland_9 : decode cX6_firstStuckIsland 9 = .ok (.iload_n 2, 1) := by decide +kernel
theorem dX6_firstStuckIsland_10 : decode cX6_firstStuckIsland 10 = .ok (.ifCond .lt 35, 3) := by decide +kernel
theorem dX6_firstStuckIsland_13 : decode cX6_firstStuckIsland 13 = .ok (.aload_n 0, 1) := by decide +kernel
theorem dX6_firstStuckIsland_14 : decode cX6_firstStuckIsland 14 = .ok (.aload_n 0, 1) := by decide +kernel
theorem dX6_firstStuckIsland_15 : decode cX6_firstStuckIsland 15 = .ok (.getfield 47, 3) := by decide +kernel
theorem dX6_firstStuckIsland_18 : decode cX6_firstStuckIsland 18 = .ok (.iload_n 2, 1) := by decide +kernel
theorem dX6_firstStuckIsland_19 : decode cX6_firstStuckIsland 19 = .ok (.iaload, 1) := by decide +kernel
theorem dX6_firstStuckIsland_20 : decode cX6_firstStuckIsland 20 = .ok (.aload_n 0, 1) := by decide +kernel
theorem dX6_firstStuckIsland_21 : decode cX6_firstStuckIsland 21 = .ok (.getfield 32, 3) := by decide +kernel
theorem dX6_firstStuckIsland_24 : decode cX6_firstStuckIsland 24 = .ok (.iload_n 2, 1) := by decide +kernel
theorem dX6_firstStuckIsland_25 : decode cX6_firstStuckIsland 25 = .ok (.iaload, 1) := by decide +kernel
theorem dX6_firstStuckIsland_26 : decode cX6_firstStuckIsland 26 = .ok (.invokevirtual 165, 3) := by decide +kernel
theorem dX6_firstStuckIsland_29 : decode cX6_firstStuckIsland 29 = .ok (.iconst (-1), 1) := by decide +kernel
theorem dX6_firstStuckIsland_30 : decode cX6_firstStuckIsland 30 = .ok (.if_icmp .ne 7, 3) := by decide +kernel
theorem dX6_firstStuckIsland_33 : decode cX6_firstStuckIsland 33 = .ok (.iload_n 2, 1) := by decide +kernel
theorem dX6_firstStuckIsland_34 : decode cX6_firstStuckIsland 34 = .ok (.goto 4, 3) := by decide +kernel
theorem dX6_firstStuckIsland_37 : decode cX6_firstStuckIsland 37 = .ok (.iload_n 1, 1) := by decide +kernel
theorem dX6_firstStuckIsland_38 : decode cX6_firstStuckIsland 38 = .ok (.istore_n 1, 1) := by decide +kernel
theorem dX6_firstStuckIsland_39 : decode cX6_firstStuckIsland 39 = .ok (.iinc 2 (-1), 3) := by decide +kernel
theorem dX6_firstStuckIsland_42 : decode cX6_firstStuckIsland 42 = .ok (.goto (-33), 3) := by decide +kernel
theorem dX6_firstStuckIsland_45 : decode cX6_firstStuckIsland 45 = .ok (.iload_n 1, 1) := by decide +kernel
theorem dX6_firstStuckIsland_46 : decode cX6_firstStuckIsland 46 = .ok (.ireturn, 1) := by decide +kernel
set_option maxRecDepth 20000 in
theorem ggX6_putConstant_X6_fails : GoodIn wsX6_putConstant wsX6_fails := goodIn_sub (fm_c (List.mem_cons_of_mem _ (List.mem_append_left _ (mg 13 rfl))) (ms_a (fm_c (List.mem_cons_of_mem _ (List.mem_append_left _ (mg 14 rfl))) (fm_c (List.mem_cons_of_mem _ (List.mem_append_left _ (mg 15 rfl))) (fm_c (List.mem_cons_of_mem _ (List.mem_append_left _ (mg 16 rfl))) (fm_n)))) (fun _ h => List.mem_cons_of_mem _ (List.mem_append_right _ (h))))) (by decide +kernel)
set_option maxRecDepth 20000 in
theorem gX6_putConstant_X6_fails : GoodIn wsX6_putConstant (wsV RX6 177 RX6 yX6_fails wsX6_fails) := goodIn_app (goodIn_sub (fm_c (List.mem_cons_of_mem _ (List.mem_append_left _ (mg 9 rfl))) (fm_c (List.mem_cons_of_mem _ (List.mem_append_left _ (mg 10 rfl))) (fm_c (List.mem_cons_of_mem _ (List.mem_append_left _ (mg 11 rfl))) (fm_c (List.mem_cons_of_mem _ (List.mem_append_left _ (mg 12 rfl))) (fm_n))))) (by decide +kernel)) ggX6_putConstant_X6_fails
theorem dX6_putConstant_0 : decode cX6_putConstant 0 = .ok (.iconst (-1), 1) := by decide +kernel
theorem dX6_putConstant_1 : decode cX6_putConstant 1 = .ok (.istore_n 2, 1) := by decide +kernel
theorem dX6_putConstant_2 : decode cX6_putConstant 2 = .ok (.iload_n 1, 1) := by decide +kernel
theorem dX6_putConstant_3 : decode cX6_putConstant 3 = .ok (.iconst 1, 1) := by decide +kernel
theorem dX6_putConstant_4 : decode cX6_putConstant 4 = .ok (.iadd, 1) := by decide +kernel
theorem dX6_putConstant_5 : decode cX6_putConstant 5 = .ok (.istore_n 3, 1) := by decide +kernel
theorem dX6_putConstant_6 : decode cX6_putConstant 6 = .ok (.iload_n 3, 1) := by decide +kernel
theorem dX6_putConstant_7 : decode cX6_putConstant 7 = .ok (.aload_n 0, 1) := by decide +kernel
theorem dX6_putConstant_8 : decode cX6_putConstant 8 = .ok (.getfield 114, 3) := by decide +kernel
theorem dX6_putConstant_11 : decode cX6_putConstant 11 = .ok (.if_icmp .ge 47, 3) := by decide +kernel
theorem dX6_putConstant_14 : decode cX6_putConstant 14 = .ok (.aload_n 0, 1) := by decide +kernel
theorem dX6_putConstant_15 : decode cX6_putConstant 15 = .ok (.getfield 13, 3) := by decide +kernel
theorem dX6_putConstant_18 : decode cX6_putConstant 18 = .ok (.iload_n 3, 1) := by decide +kernel
theorem dX6_putConstant_19 : decode cX6_putConstant 19 = .ok (.iaload, 1) := by decide +kernel
theorem dX6_putConstant_20 : decode cX6_putConstant 20 = .ok (.iconst 5, 1) := by decide +kernel
theorem dX6_putConstant_21 : decode cX6_putConstant 21 = .ok (.if_icmp .ne 29, 3) := by decide +kernel
theorem dX6_putConstant_24 : decode cX6_putConstant 24 = .ok (.aload_n 0, 1) := by decide +kernel
theorem dX6_putConstant_25 : decode cX6_putConstant 25 = .ok (.getfield 56, 3) := by decide +kernel
theorem dX6_putConstant_28 : decode cX6_putConstant 28 = .ok (.iload_n 3, 1) := by decide +kernel
theorem dX6_putConstant_29 : decode cX6_putConstant 29 = .ok (.iaload, 1) := by decide +kernel
theorem dX6_putConstant_30 : decode cX6_putConstant 30 = .ok (.aload_n 0, 1) := by decide +kernel
theorem dX6_putConstant_31 : decode cX6_putConstant 31 = .ok (.getfield 44, 3) := by decide +kernel
theorem dX6_putConstant_34 : decode cX6_putConstant 34 = .ok (.iload_n 1, 1) := by decide +kernel
theorem dX6_putConstant_35 : decode cX6_putConstant 35 = .ok (.iaload, 1) := by decide +kernel
theorem dX6_putConstant_36 : decode cX6_putConstant 36 = .ok (.isub, 1) := by decide +kernel
theorem dX6_putConstant_37 : decode cX6_putConstant 37 = .ok (.aload_n 0, 1) := by decide +kernel
theorem dX6_putConstant_38 : decode cX6_putConstant 38 = .ok (.getfield 19, 3) := by decide +kernel
theorem dX6_putConstant_41 : decode cX6_putConstant 41 = .ok (.iconst 2, 1) := by decide +kernel
theorem dX6_putConstant_42 : decode cX6_putConstant 42 = .ok (.iaload, 1) := by decide +kernel
theorem dX6_putConstant_43 : decode cX6_putConstant 43 = .ok (.if_icmp .gt 7, 3) := by decide +kernel
theorem dX6_putConstant_46 : decode cX6_putConstant 46 = .ok (.iload_n 3, 1) := by decide +kernel
theorem dX6_putConstant_47 : decode cX6_putConstant 47 = .ok (.goto 4, 3) := by decide +kernel
theorem dX6_putConstant_50 : decode cX6_putConstant 50 = .ok (.iload_n 2, 1) := by decide +kernel
theorem dX6_putConstant_51 : decode cX6_putConstant 51 = .ok (.istore_n 2, 1) := by decide +kernel
theorem dX6_putConstant_52 : decode cX6_putConstant 52 = .ok (.iinc 3 1, 3) := by decide +kernel
theorem dX6_putConstant_55 : decode cX6_putConstant 55 = .ok (.goto (-49), 3) := by decide +kernel
theorem dX6_putConstant_58 : decode cX6_putConstant 58 = .ok (.iload_n 2, 1) := by decide +kernel
theorem dX6_putConstant_59 : decode cX6_putConstant 59 = .ok (.iconst (-1), 1) := by decide +kernel
theorem dX6_putConstant_60 : decode cX6_putConstant 60 = .ok (.if_icmp .eq 12, 3) := by decide +kernel
theorem dX6_putConstant_63 : decode cX6_putConstant 63 = .ok (.aload_n 0, 1) := by decide +kernel
theorem dX6_putConstant_64 : decode cX6_putConstant 64 = .ok (.getfield 136, 3) := by decide +kernel
theorem dX6_putConstant_67 : decode cX6_putConstant 67 = .ok (.bipush 16, 2) := by decide +kernel
theorem dX6_putConstant_69 : decode cX6_putConstant 69 = .ok (.if_icmp .ne 10, 3) := by decide +kernel
theorem dX6_putConstant_72 : decode cX6_putConstant 72 = .ok (.aload_n 0, 1) := by decide +kernel
theorem dX6_putConstant_73 : decode cX6_putConstant 73 = .ok (.iconst 1, 1) := by decide +kernel
theorem dX6_putConstant_74 : decode cX6_putConstant 74 = .ok (.iload_n 1, 1) := by decide +kernel
theorem dX6_putConstant_75 : decode cX6_putConstant 75 = .ok (.invokevirtual 177, 3) := by decide +kernel
theorem dX6_putConstant_78 : decode cX6_putConstant 78 = .ok (.ireturn, 1) := by decide +kernel
theorem dX6_putConstant_79 : decode cX6_putConstant 79 = .ok (.aload_n 0, 1) := by decide +kernel
theorem dX6_putConstant_80 : decode cX6_putConstant 80 = .ok (.getfield 38, 3) := by decide +kernel
theorem dX6_putConstant_83 : decode cX6_putConstant 83 = .ok (.aload_n 0, 1) := by decide +kernel
theorem dX6_putConstant_84 : decode cX6_putConstant 84 = .ok (.getfield 136, 3) := by decide +kernel
theorem dX6_putConstant_87 : decode cX6_putConstant 87 = .ok (.aload_n 0, 1) := by decide +kernel
theorem dX6_putConstant_88 : decode cX6_putConstant 88 = .ok (.getfield 16, 3) := by decide +kernel
theorem dX6_putConstant_91 : decode cX6_putConstant 91 = .ok (.iload_n 1, 1) := by decide +kernel
theorem dX6_putConstant_92 : decode cX6_putConstant 92 = .ok (.iaload, 1) := by decide +kernel
theorem dX6_putConstant_93 : decode cX6_putConstant 93 = .ok (.iastore, 1) := by decide +kernel
theorem dX6_putConstant_94 : decode cX6_putConstant 94 = .ok (.aload_n 0, 1) := by decide +kernel
theorem dX6_putConstant_95 : decode cX6_putConstant 95 = .ok (.getfield 41, 3) := by decide +kernel
theorem dX6_putConstant_98 : decode cX6_putConstant 98 = .ok (.aload_n 0, 1) := by decide +kernel
theorem dX6_putConstant_99 : decode cX6_putConstant 99 = .ok (.getfield 136, 3) := by decide +kernel
theorem dX6_putConstant_102 : decode cX6_putConstant 102 = .ok (.iload_n 2, 1) := by decide +kernel
theorem dX6_putConstant_103 : decode cX6_putConstant 103 = .ok (.iastore, 1) := by decide +kernel
theorem dX6_putConstant_104 : decode cX6_putConstant 104 = .ok (.aload_n 0, 1) := by decide +kernel
theorem dX6_putConstant_105 : decode cX6_putConstant 105 = .ok (.dup, 1) := by decide +kernel
theorem dX6_putConstant_106 : decode cX6_putConstant 106 = .ok (.getfield 136, 3) := by decide +kernel
theorem dX6_putConstant_109 : decode cX6_putConstant 109 = .ok (.iconst 1, 1) := by decide +kernel
theorem dX6_putConstant_110 : decode cX6_putConstant 110 = .ok (.iadd, 1) := by decide +kernel
theorem dX6_putConstant_111 : decode cX6_putConstant 111 = .ok (.putfield 136, 3) := by decide +kernel
theorem dX6_putConstant_114 : decode cX6_putConstant 114 = .ok (.iconst 1, 1) := by decide +kernel
theorem dX6_putConstant_115 : decode cX6_putConstant 115 = .ok (.ireturn, 1) := by decide +kernel
set_option maxRecDepth 20000 in
theorem ggX6_gapFor_X6_apart : GoodIn wsX6_gapFor wsX6_apart := goodIn_sub (fm_c (List.mem_cons_of_mem _ (List.mem_append_left _ (mg 8 rfl))) (fm_n)) (by decide +kernel)
set_option maxRecDepth 20000 in
theorem gX6_gapFor_X6_apart : GoodIn wsX6_gapFor (va_wsS RX6 151 yX6_apart wsX6_apart) := goodIn_app (goodIn_sub (fm_c (List.mem_cons_of_mem _ (List.mem_append_left _ (mg 5 rfl))) (fm_c (List.mem_cons_of_mem _ (List.mem_append_left _ (mg 6 rfl))) (fm_c (List.mem_cons_of_mem _ (List.mem_append_left _ (mg 7 rfl))) (fm_n)))) (by decide +kernel)) ggX6_gapFor_X6_apart
theorem dX6_gapFor_0 : decode cX6_gapFor 0 = .ok (.iconst (-1), 1) := by decide +kernel
theorem dX6_gapFor_1 : decode cX6_gapFor 1 = .ok (.istore_n 3, 1) := by decide +kernel
theorem dX6_gapFor_2 : decode cX6_gapFor 2 = .ok (.iload_n 1, 1) := by decide +kernel
theorem dX6_gapFor_3 : decode cX6_gapFor 3 = .ok (.aload_n 0, 1) := by decide +kernel
theorem dX6_gapFor_4 : decode cX6_gapFor 4 = .ok (.getfield 59, 3) := by decide +kernel
theorem dX6_gapFor_7 : decode cX6_gapFor 7 = .ok (.iload_n 2, 1) := by decide +kernel
theorem dX6_gapFor_8 : decode cX6_gapFor 8 = .ok (.iaload, 1) := by decide +kernel
theorem dX6_gapFor_9 : decode cX6_gapFor 9 = .ok (.invokestatic 151, 3) := by decide +kernel
theorem dX6_gapFor_12 : decode cX6_gapFor 12 = .ok (.istore 4, 2) := by decide +kernel
theorem dX6_gapFor_14 : decode cX6_gapFor 14 = .ok (.iconst 0, 1) := by decide +kernel
theorem dX6_gapFor_15 : decode cX6_gapFor 15 = .ok (.istore 5, 2) := by decide +kernel
theorem dX6_gapFor_17 : decode cX6_gapFor 17 = .ok (.iload 5, 2) := by decide +kernel
theorem dX6_gapFor_19 : decode cX6_gapFor 19 = .ok (.aload_n 0, 1) := by decide +kernel
theorem dX6_gapFor_20 : decode cX6_gapFor 20 = .ok (.getfield 114, 3) := by decide +kernel
theorem dX6_gapFor_23 : decode cX6_gapFor 23 = .ok (.if_icmp .ge 82, 3) := by decide +kernel
theorem dX6_gapFor_26 : decode cX6_gapFor 26 = .ok (.aload_n 0, 1) := by decide +kernel
theorem dX6_gapFor_27 : decode cX6_gapFor 27 = .ok (.getfield 13, 3) := by decide +kernel
theorem dX6_gapFor_30 : decode cX6_gapFor 30 = .ok (.iload 5, 2) := by decide +kernel
theorem dX6_gapFor_32 : decode cX6_gapFor 32 = .ok (.iaload, 1) := by decide +kernel
theorem dX6_gapFor_33 : decode cX6_gapFor 33 = .ok (.iconst 5, 1) := by decide +kernel
theorem dX6_gapFor_34 : decode cX6_gapFor 34 = .ok (.if_icmp .ne 65, 3) := by decide +kernel
theorem dX6_gapFor_37 : decode cX6_gapFor 37 = .ok (.aload_n 0, 1) := by decide +kernel
theorem dX6_gapFor_38 : decode cX6_gapFor 38 = .ok (.getfield 53, 3) := by decide +kernel
theorem dX6_gapFor_41 : decode cX6_gapFor 41 = .ok (.iload 5, 2) := by decide +kernel
theorem dX6_gapFor_43 : decode cX6_gapFor 43 = .ok (.iaload, 1) := by decide +kernel
theorem dX6_gapFor_44 : decode cX6_gapFor 44 = .ok (.iload_n 1, 1) := by decide +kernel
theorem dX6_gapFor_45 : decode cX6_gapFor 45 = .ok (.invokestatic 151, 3) := by decide +kernel
theorem dX6_gapFor_48 : decode cX6_gapFor 48 = .ok (.aload_n 0, 1) := by decide +kernel
theorem dX6_gapFor_49 : decode cX6_gapFor 49 = .ok (.getfield 19, 3) := by decide +kernel
theorem dX6_gapFor_52 : decode cX6_gapFor 52 = .ok (.iconst 1, 1) := by decide +kernel
theorem dX6_gapFor_53 : decode cX6_gapFor 53 = .ok (.iaload, 1) := by decide +kernel
theorem dX6_gapFor_54 : decode cX6_gapFor 54 = .ok (.if_icmp .gt 45, 3) := by decide +kernel
theorem dX6_gapFor_57 : decode cX6_gapFor 57 = .ok (.aload_n 0, 1) := by decide +kernel
theorem dX6_gapFor_58 : decode cX6_gapFor 58 = .ok (.getfield 53, 3) := by decide +kernel
theorem dX6_gapFor_61 : decode cX6_gapFor 61 = .ok (.iload 5, 2) := by decide +kernel
theorem dX6_gapFor_63 : decode cX6_gapFor 63 = .ok (.iaload, 1) := by decide +kernel
theorem dX6_gapFor_64 : decode cX6_gapFor 64 = .ok (.aload_n 0, 1) := by decide +kernel
theorem dX6_gapFor_65 : decode cX6_gapFor 65 = .ok (.getfield 59, 3) := by decide +kernel
theorem dX6_gapFor_68 : decode cX6_gapFor 68 = .ok (.iload_n 2, 1) := by decide +kernel
theorem dX6_gapFor_69 : decode cX6_gapFor 69 = .ok (.iaload, 1) := by decide +kernel
theorem dX6_gapFor_70 : decode cX6_gapFor 70 = .ok (.invokestatic 151, 3) := by decide +kernel
theorem dX6_gapFor_73 : decode cX6_gapFor 73 = .ok (.iload 4, 2) := by decide +kernel
theorem dX6_gapFor_75 : decode cX6_gapFor 75 = .ok (.if_icmp .ge 24, 3) := by decide +kernel
theorem dX6_gapFor_78 : decode cX6_gapFor 78 = .ok (.iload 5, 2) := by decide +kernel
theorem dX6_gapFor_80 : decode cX6_gapFor 80 = .ok (.istore_n 3, 1) := by decide +kernel
theorem dX6_gapFor_81 : decode cX6_gapFor 81 = .ok (.aload_n 0, 1) := by decide +kernel
theorem dX6_gapFor_82 : decode cX6_gapFor 82 = .ok (.getfield 53, 3) := by decide +kernel
theorem dX6_gapFor_85 : decode cX6_gapFor 85 = .ok (.iload 5, 2) := by decide +kernel
theorem dX6_gapFor_87 : decode cX6_gapFor 87 = .ok (.iaload, 1) := by decide +kernel
theorem dX6_gapFor_88 : decode cX6_gapFor 88 = .ok (.aload_n 0, 1) := by decide +kernel
theorem dX6_gapFor_89 : decode cX6_gapFor 89 = .ok (.getfield 59, 3) := by decide +kernel
theorem dX6_gapFor_92 : decode cX6_gapFor 92 = .ok (.iload_n 2, 1) := by decide +kernel
theorem dX6_gapFor_93 : decode cX6_gapFor 93 = .ok (.iaload, 1) := by decide +kernel
theorem dX6_gapFor_94 : decode cX6_gapFor 94 = .ok (.invokestatic 151, 3) := by decide +kernel
theorem dX6_gapFor_97 : decode cX6_gapFor 97 = .ok (.istore 4, 2) := by decide +kernel
theorem dX6_gapFor_99 : decode cX6_gapFor 99 = .ok (.iinc 5 1, 3) := by decide +kernel
theorem dX6_gapFor_102 : decode cX6_gapFor 102 = .ok (.goto (-85), 3) := by decide +kernel
theorem dX6_gapFor_105 : decode cX6_gapFor 105 = .ok (.iload_n 3, 1) := by decide +kernel
theorem dX6_gapFor_106 : decode cX6_gapFor 106 = .ok (.ireturn, 1) := by decide +kernel
set_option maxRecDepth 20000 in
theorem ggX6_putIsland_X6_gapFor : GoodIn wsX6_putIsland wsX6_gapFor := goodIn_sub (fm_c (List.mem_cons_of_mem _ (List.mem_append_left _ (mg 7 rfl))) (ms_a (fm_c (List.mem_cons_of_mem _ (List.mem_append_left _ (mg 8 rfl))) (fm_c (List.mem_cons_of_mem _ (List.mem_append_left _ (mg 9 rfl))) (fm_c (List.mem_cons_of_mem _ (List.mem_append_left _ (mg 10 rfl))) (fm_c (List.mem_cons_of_mem _ (List.mem_append_left _ (mg 11 rfl))) (fm_c (List.mem_cons_of_mem _ (List.mem_append_left _ (mg 12 rfl))) (fm_c (List.mem_cons_of_mem _ (List.mem_append_left _ (mg 13 rfl))) (fm_c (List.mem_cons_of_mem _ (List.mem_append_left _ (mg 14 rfl))) (fm_c (List.mem_cons_of_mem _ (List.mem_append_left _ (mg 6 rfl))) (fm_c (List.mem_cons_of_mem _ (List.mem_append_left _ (mg 15 rfl))) (fm_n)))))))))) (fun _ h => List.mem_cons_of_mem _ (List.mem_append_right _ (h))))) (by decide +kernel)
set_option maxRecDepth 20000 in
theorem gX6_putIsland_X6_gapFor : GoodIn wsX6_putIsland (wsV RX6 180 RX6 yX6_gapFor wsX6_gapFor) := goodIn_app (goodIn_sub (fm_c (List.mem_cons_of_mem _ (List.mem_append_left _ (mg 3 rfl))) (fm_c (List.mem_cons_of_mem _ (List.mem_append_left _ (mg 4 rfl))) (fm_c (List.mem_cons_of_mem _ (List.mem_append_left _ (mg 5 rfl))) (fm_c (List.mem_cons_of_mem _ (List.mem_append_left _ (mg 6 rfl))) (fm_n))))) (by decide +kernel)) ggX6_putIsland_X6_gapFor
set_option maxRecDepth 20000 in
theorem ggX6_putIsland_X6_fails : GoodIn wsX6_putIsland wsX6_fails := goodIn_sub (fm_c (List.mem_cons_of_mem _ (List.mem_append_left _ (mg 19 rfl))) (ms_a (fm_c (List.mem_cons_of_mem _ (List.mem_append_left _ (mg 20 rfl))) (fm_c (List.mem_cons_of_mem _ (List.mem_append_left _ (mg 21 rfl))) (fm_c (List.mem_cons_of_mem _ (List.mem_append_left _ (mg 22 rfl))) (fm_n)))) (fun _ h => List.mem_cons_of_mem _ (List.mem_append_right _ (h))))) (by decide +kernel)
set_option maxRecDepth 20000 in
theorem gX6_putIsland_X6_fails : GoodIn wsX6_putIsland (wsV RX6 177 RX6 yX6_fails wsX6_fails) := goodIn_app (goodIn_sub (fm_c (List.mem_cons_of_mem _ (List.mem_append_left _ (mg 16 rfl))) (fm_c (List.mem_cons_of_mem _ (List.mem_append_left _ (mg 17 rfl))) (fm_c (List.mem_cons_of_mem _ (List.mem_append_left _ (mg 18 rfl))) (fm_c (List.mem_cons_of_mem _ (List.mem_append_left _ (mg 6 rfl))) (fm_n))))) (by decide +kernel)) ggX6_putIsland_X6_fails
theorem dX6_putIsland_0 : decode cX6_putIsland 0 = .ok (.aload_n 0, 1) := by decide +kernel
theorem dX6_putIsland_1 : decode cX6_putIsland 1 = .ok (.iload_n 1, 1) := by decide +kernel
theorem dX6_putIsland_2 : decode cX6_putIsland 2 = .ok (.iload_n 2, 1) := by decide +kernel
theorem dX6_putIsland_3 : decode cX6_putIsland 3 = .ok (.invokevirtual 180, 3) := by decide +kernel
theorem dX6_putIsland_6 : decode cX6_putIsland 6 = .ok (.istore 5, 2) := by decide +kernel
theorem dX6_putIsland_8 : decode cX6_putIsland 8 = .ok (.iload 5, 2) := by decide +kernel
theorem dX6_putIsland_10 : decode cX6_putIsland 10 = .ok (.iconst (-1), 1) := by decide +kernel
theorem dX6_putIsland_11 : decode cX6_putIsland 11 = .ok (.if_icmp .eq 12, 3) := by decide +kernel
theorem dX6_putIsland_14 : decode cX6_putIsland 14 = .ok (.aload_n 0, 1) := by decide +kernel
theorem dX6_putIsland_15 : decode cX6_putIsland 15 = .ok (.getfield 133, 3) := by decide +kernel
theorem dX6_putIsland_18 : decode cX6_putIsland 18 = .ok (.bipush 12, 2) := by decide +kernel
theorem dX6_putIsland_20 : decode cX6_putIsland 20 = .ok (.if_icmp .ne 11, 3) := by decide +kernel
theorem dX6_putIsland_23 : decode cX6_putIsland 23 = .ok (.aload_n 0, 1) := by decide +kernel
theorem dX6_putIsland_24 : decode cX6_putIsland 24 = .ok (.iload_n 3, 1) := by decide +kernel
theorem dX6_putIsland_25 : decode cX6_putIsland 25 = .ok (.iload 4, 2) := by decide +kernel
theorem dX6_putIsland_27 : decode cX6_putIsland 27 = .ok (.invokevirtual 177, 3) := by decide +kernel
theorem dX6_putIsland_30 : decode cX6_putIsland 30 = .ok (.ireturn, 1) := by decide +kernel
theorem dX6_putIsland_31 : decode cX6_putIsland 31 = .ok (.aload_n 0, 1) := by decide +kernel
theorem dX6_putIsland_32 : decode cX6_putIsland 32 = .ok (.getfield 32, 3) := by decide +kernel
theorem dX6_putIsland_35 : decode cX6_putIsland 35 = .ok (.aload_n 0, 1) := by decide +kernel
theorem dX6_putIsland_36 : decode cX6_putIsland 36 = .ok (.getfield 133, 3) := by decide +kernel
theorem dX6_putIsland_39 : decode cX6_putIsland 39 = .ok (.iload_n 2, 1) := by decide +kernel
theorem dX6_putIsland_40 : decode cX6_putIsland 40 = .ok (.iastore, 1) := by decide +kernel
theorem dX6_putIsland_41 : decode cX6_putIsland 41 = .ok (.aload_n 0, 1) := by decide +kernel
theorem dX6_putIsland_42 : decode cX6_putIsland 42 = .ok (.getfield 35, 3) := by decide +kernel
theorem dX6_putIsland_45 : decode cX6_putIsland 45 = .ok (.aload_n 0, 1) := by decide +kernel
theorem dX6_putIsland_46 : decode cX6_putIsland 46 = .ok (.getfield 133, 3) := by decide +kernel
theorem dX6_putIsland_49 : decode cX6_putIsland 49 = .ok (.iload 5, 2) := by decide +kernel
theorem dX6_putIsland_51 : decode cX6_putIsland 51 = .ok (.iastore, 1) := by decide +kernel
theorem dX6_putIsland_52 : decode cX6_putIsland 52 = .ok (.aload_n 0, 1) := by decide +kernel
theorem dX6_putIsland_53 : decode cX6_putIsland 53 = .ok (.dup, 1) := by decide +kernel
theorem dX6_putIsland_54 : decode cX6_putIsland 54 = .ok (.getfield 133, 3) := by decide +kernel
theorem dX6_putIsland_57 : decode cX6_putIsland 57 = .ok (.iconst 1, 1) := by decide +kernel
theorem dX6_putIsland_58 : decode cX6_putIsland 58 = .ok (.iadd, 1) := by decide +kernel
theorem dX6_putIsland_59 : decode cX6_putIsland 59 = .ok (.putfield 133, 3) := by decide +kernel
theorem dX6_putIsland_62 : decode cX6_putIsland 62 = .ok (.iconst 1, 1) := by decide +kernel
theorem dX6_putIsland_63 : decode cX6_putIsland 63 = .ok (.ireturn, 1) := by decide +kernel
theorem qX6_mends_r1 {w : Cond} (h : w ∈ wsX6_mends_r1) : w ∈ wsX6_mends := List.mem_cons_of_mem _ (List.mem_append_left _ (List.mem_append_left _ (h)))
theorem qX6_mends_r2 {w : Cond} (h : w ∈ wsX6_mends_r2) : w ∈ wsX6_mends := List.mem_cons_of_mem _ (List.mem_append_left _ (List.mem_append_right _ (List.mem_append_left _ (h))))
theorem qX6_mends_r3 {w : Cond} (h : w ∈ wsX6_mends_r3) : w ∈ wsX6_mends := List.mem_cons_of_mem _ (List.mem_append_left _ (List.mem_append_right _ (List.mem_append_right _ (List.mem_append_left _ (h)))))
theorem qX6_mends_r4 {w : Cond} (h : w ∈ wsX6_mends_r4) : w ∈ wsX6_mends := List.mem_cons_of_mem _ (List.mem_append_left _ (List.mem_append_right _ (List.mem_append_right _ (List.mem_append_right _ (h)))))
set_option maxRecDepth 20000 in
theorem ggX6_mends_X6_firstStuck : GoodIn wsX6_mends wsX6_firstStuck := goodIn_sub (fm_c (qX6_mends_r1 (mg 9 rfl)) (ms_a (ms_a (fm_c (qX6_mends_r1 (mg 10 rfl)) (fm_c (qX6_mends_r1 (mg 11 rfl)) (fm_c (qX6_mends_r1 (mg 0 rfl)) (fm_c (qX6_mends_r1 (mg 12 rfl)) (fm_c (qX6_mends_r1 (mg 13 rfl)) (fm_c (qX6_mends_r1 (mg 14 rfl)) (fm_c (qX6_mends_r1 (mg 8 rfl)) (fm_c (qX6_mends_r1 (mg 15 rfl)) (fm_c (qX6_mends_r1 (mg 16 rfl)) (fm_c (qX6_mends_r1 (mg 1 rfl)) (fm_c (qX6_mends_r1 (mg 2 rfl)) (fm_c (qX6_mends_r1 (mg 17 rfl)) (fm_c (qX6_mends_r1 (mg 18 rfl)) (fm_c (qX6_mends_r1 (mg 19 rfl)) (fm_c (qX6_mends_r1 (mg 20 rfl)) (fm_c (qX6_mends_r1 (mg 21 rfl)) (fm_c (qX6_mends_r1 (mg 22 rfl)) (fm_c (qX6_mends_r1 (mg 23 rfl)) (fm_c (qX6_mends_r2 (mg 0 rfl)) (fm_c (qX6_mends_r2 (mg 1 rfl)) (fm_c (qX6_mends_r2 (mg 2 rfl)) (fm_c (qX6_mends_r2 (mg 3 rfl)) (fm_c (qX6_mends_r2 (mg 4 rfl)) (fm_c (qX6_mends_r1 (mg 3 rfl)) (fm_n))))))))))))))))))))))))) (fm_c (qX6_mends_r2 (mg 5 rfl)) (fm_c (qX6_mends_r2 (mg 6 rfl)) (fm_c (qX6_mends_r2 (mg 7 rfl)) (fm_c (qX6_mends_r2 (mg 8 rfl)) (fm_c (qX6_mends_r2 (mg 9 rfl)) (fm_c (qX6_mends_r2 (mg 10 rfl)) (fm_c (qX6_mends_r2 (mg 11 rfl)) (fm_c (qX6_mends_r2 (mg 12 rfl)) (fm_c (qX6_mends_r2 (mg 13 rfl)) (fm_c (qX6_mends_r2 (mg 14 rfl)) (fm_c (qX6_mends_r2 (mg 15 rfl)) (fm_c (qX6_mends_r2 (mg 16 rfl)) (fm_c (qX6_mends_r1 (mg 4 rfl)) (fm_c (qX6_mends_r2 (mg 17 rfl)) (fm_c (qX6_mends_r2 (mg 18 rfl)) (fm_c (qX6_mends_r2 (mg 19 rfl)) (fm_c (qX6_mends_r2 (mg 20 rfl)) (fm_c (qX6_mends_r2 (mg 21 rfl)) (fm_n)))))))))))))))))))) (fun _ h => List.mem_cons_of_mem _ (List.mem_append_right _ (h))))) (by decide +kernel)
set_option maxRecDepth 20000 in
theorem gX6_mends_X6_firstStuck : GoodIn wsX6_mends (wsV RX6 183 RX6 yX6_firstStuck wsX6_firstStuck) := goodIn_app (goodIn_sub (fm_c (qX6_mends_r1 (mg 5 rfl)) (fm_c (qX6_mends_r1 (mg 6 rfl)) (fm_c (qX6_mends_r1 (mg 7 rfl)) (fm_c (qX6_mends_r1 (mg 8 rfl)) (fm_n))))) (by decide +kernel)) ggX6_mends_X6_firstStuck
set_option maxRecDepth 20000 in
theorem ggX6_mends_X6_putConstant : GoodIn wsX6_mends wsX6_putConstant := goodIn_sub (fm_c (qX6_mends_r3 (mg 1 rfl)) (ms_a (fm_c (qX6_mends_r1 (mg 10 rfl)) (fm_c (qX6_mends_r1 (mg 11 rfl)) (fm_c (qX6_mends_r3 (mg 2 rfl)) (fm_c (qX6_mends_r1 (mg 1 rfl)) (fm_c (qX6_mends_r1 (mg 23 rfl)) (fm_c (qX6_mends_r1 (mg 21 rfl)) (fm_c (qX6_mends_r1 (mg 22 rfl)) (fm_c (qX6_mends_r1 (mg 2 rfl)) (fm_c (qX6_mends_r3 (mg 3 rfl)) (fm_c (qX6_mends_r3 (mg 4 rfl)) (fm_c (qX6_mends_r3 (mg 5 rfl)) (fm_c (qX6_mends_r3 (mg 6 rfl)) (fm_c (qX6_mends_r1 (mg 8 rfl)) (fm_c (qX6_mends_r3 (mg 7 rfl)) (fm_c (qX6_mends_r3 (mg 8 rfl)) (fm_c (qX6_mends_r3 (mg 9 rfl)) (fm_c (qX6_mends_r3 (mg 10 rfl)) (fm_n)))))))))))))))))) (fun _ h => List.mem_cons_of_mem _ (List.mem_append_right _ (h))))) (by decide +kernel)
set_option maxRecDepth 20000 in
theorem gX6_mends_X6_putConstant : GoodIn wsX6_mends (wsV RX6 187 RX6 yX6_putConstant wsX6_putConstant) := goodIn_app (goodIn_sub (fm_c (qX6_mends_r2 (mg 22 rfl)) (fm_c (qX6_mends_r2 (mg 23 rfl)) (fm_c (qX6_mends_r3 (mg 0 rfl)) (fm_c (qX6_mends_r1 (mg 8 rfl)) (fm_n))))) (by decide +kernel)) ggX6_mends_X6_putConstant
set_option maxRecDepth 20000 in
theorem ggX6_mends_X6_putIsland : GoodIn wsX6_mends wsX6_putIsland := goodIn_sub (fm_c (qX6_mends_r3 (mg 14 rfl)) (ms_a (fm_c (qX6_mends_r2 (mg 16 rfl)) (fm_c (qX6_mends_r1 (mg 4 rfl)) (fm_c (qX6_mends_r3 (mg 15 rfl)) (fm_c (qX6_mends_r3 (mg 16 rfl)) (fm_c (qX6_mends_r3 (mg 17 rfl)) (fm_c (qX6_mends_r3 (mg 18 rfl)) (fm_c (qX6_mends_r1 (mg 8 rfl)) (fm_c (qX6_mends_r3 (mg 19 rfl)) (fm_c (qX6_mends_r2 (mg 4 rfl)) (fm_c (qX6_mends_r1 (mg 10 rfl)) (fm_c (qX6_mends_r1 (mg 11 rfl)) (fm_c (qX6_mends_r3 (mg 20 rfl)) (fm_c (qX6_mends_r1 (mg 23 rfl)) (fm_c (qX6_mends_r2 (mg 9 rfl)) (fm_c (qX6_mends_r2 (mg 10 rfl)) (fm_c (qX6_mends_r2 (mg 11 rfl)) (fm_c (qX6_mends_r3 (mg 4 rfl)) (fm_c (qX6_mends_r3 (mg 5 rfl)) (fm_c (qX6_mends_r3 (mg 6 rfl)) (fm_c (qX6_mends_r3 (mg 7 rfl)) (fm_c (qX6_mends_r3 (mg 8 rfl)) (fm_c (qX6_mends_r3 (mg 9 rfl)) (fm_c (qX6_mends_r3 (mg 10 rfl)) (fm_n)))))))))))))))))))))))) (fun _ h => List.mem_cons_of_mem _ (List.mem_append_right _ (h))))) (by decide +kernel)
set_option maxRecDepth 20000 in
theorem gX6_mends_X6_putIsland : GoodIn wsX6_mends (wsV RX6 190 RX6 yX6_putIsland wsX6_putIsland) := goodIn_app (goodIn_sub (fm_c (qX6_mends_r3 (mg 11 rfl)) (fm_c (qX6_mends_r3 (mg 12 rfl)) (fm_c (qX6_mends_r3 (mg 13 rfl)) (fm_c (qX6_mends_r1 (mg 8 rfl)) (fm_n))))) (by decide +kernel)) ggX6_mends_X6_putIsland
set_option maxRecDepth 20000 in
theorem ggX6_mends_X6_firstStuckIsland : GoodIn wsX6_mends wsX6_firstStuckIsland := goodIn_sub (fm_c (qX6_mends_r4 (mg 0 rfl)) (ms_a (fm_c (qX6_mends_r2 (mg 16 rfl)) (fm_c (qX6_mends_r1 (mg 3 rfl)) (fm_c (qX6_mends_r1 (mg 4 rfl)) (fm_c (qX6_mends_r2 (mg 0 rfl)) (fm_c (qX6_mends_r2 (mg 1 rfl)) (fm_c (qX6_mends_r2 (mg 2 rfl)) (fm_c (qX6_mends_r1 (mg 8 rfl)) (fm_c (qX6_mends_r2 (mg 3 rfl)) (fm_c (qX6_mends_r2 (mg 4 rfl)) (fm_c (qX6_mends_r2 (mg 5 rfl)) (fm_c (qX6_mends_r2 (mg 6 rfl)) (fm_c (qX6_mends_r2 (mg 7 rfl)) (fm_c (qX6_mends_r2 (mg 8 rfl)) (fm_c (qX6_mends_r1 (mg 23 rfl)) (fm_c (qX6_mends_r2 (mg 9 rfl)) (fm_c (qX6_mends_r2 (mg 10 rfl)) (fm_c (qX6_mends_r2 (mg 11 rfl)) (fm_c (qX6_mends_r2 (mg 12 rfl)) (fm_c (qX6_mends_r2 (mg 13 rfl)) (fm_c (qX6_mends_r2 (mg 14 rfl)) (fm_c (qX6_mends_r2 (mg 15 rfl)) (fm_c (qX6_mends_r2 (mg 17 rfl)) (fm_n))))))))))))))))))))))) (fun _ h => List.mem_cons_of_mem _ (List.mem_append_right _ (h))))) (by decide +kernel)
set_option maxRecDepth 20000 in
theorem gX6_mends_X6_firstStuckIsland : GoodIn wsX6_mends (wsV RX6 194 RX6 yX6_firstStuckIsland wsX6_firstStuckIsland) := goodIn_app (goodIn_sub (fm_c (qX6_mends_r3 (mg 21 rfl)) (fm_c (qX6_mends_r3 (mg 22 rfl)) (fm_c (qX6_mends_r3 (mg 23 rfl)) (fm_c (qX6_mends_r1 (mg 8 rfl)) (fm_n))))) (by decide +kernel)) ggX6_mends_X6_firstStuckIsland
theorem dX6_mends_0 : decode cX6_mends 0 = .ok (.aload_n 0, 1) := by decide +kernel
theorem dX6_mends_1 : decode cX6_mends 1 = .ok (.iconst 2, 1) := by decide +kernel
theorem dX6_mends_2 : decode cX6_mends 2 = .ok (.iconst 0, 1) := by decide +kernel
theorem dX6_mends_3 : decode cX6_mends 3 = .ok (.invokevirtual 183, 3) := by decide +kernel
theorem dX6_mends_6 : decode cX6_mends 6 = .ok (.istore_n 1, 1) := by decide +kernel
theorem dX6_mends_7 : decode cX6_mends 7 = .ok (.iload_n 1, 1) := by decide +kernel
theorem dX6_mends_8 : decode cX6_mends 8 = .ok (.iconst (-1), 1) := by decide +kernel
theorem dX6_mends_9 : decode cX6_mends 9 = .ok (.if_icmp .eq 12, 3) := by decide +kernel
theorem dX6_mends_12 : decode cX6_mends 12 = .ok (.aload_n 0, 1) := by decide +kernel
theorem dX6_mends_13 : decode cX6_mends 13 = .ok (.getfield 28, 3) := by decide +kernel
theorem dX6_mends_16 : decode cX6_mends 16 = .ok (.iload_n 1, 1) := by decide +kernel
theorem dX6_mends_17 : decode cX6_mends 17 = .ok (.iconst 1, 1) := by decide +kernel
theorem dX6_mends_18 : decode cX6_mends 18 = .ok (.bastore, 1) := by decide +kernel
theorem dX6_mends_19 : decode cX6_mends 19 = .ok (.iconst 1, 1) := by decide +kernel
theorem dX6_mends_20 : decode cX6_mends 20 = .ok (.ireturn, 1) := by decide +kernel
theorem dX6_mends_21 : decode cX6_mends 21 = .ok (.aload_n 0, 1) := by decide +kernel
theorem dX6_mends_22 : decode cX6_mends 22 = .ok (.iconst 1, 1) := by decide +kernel
theorem dX6_mends_23 : decode cX6_mends 23 = .ok (.iconst 0, 1) := by decide +kernel
theorem dX6_mends_24 : decode cX6_mends 24 = .ok (.invokevirtual 183, 3) := by decide +kernel
theorem dX6_mends_27 : decode cX6_mends 27 = .ok (.istore_n 1, 1) := by decide +kernel
theorem dX6_mends_28 : decode cX6_mends 28 = .ok (.iload_n 1, 1) := by decide +kernel
theorem dX6_mends_29 : decode cX6_mends 29 = .ok (.iconst (-1), 1) := by decide +kernel
theorem dX6_mends_30 : decode cX6_mends 30 = .ok (.if_icmp .eq 9, 3) := by decide +kernel
theorem dX6_mends_33 : decode cX6_mends 33 = .ok (.aload_n 0, 1) := by decide +kernel
theorem dX6_mends_34 : decode cX6_mends 34 = .ok (.iload_n 1, 1) := by decide +kernel
theorem dX6_mends_35 : decode cX6_mends 35 = .ok (.invokevirtual 187, 3) := by decide +kernel
theorem dX6_mends_38 : decode cX6_mends 38 = .ok (.ireturn, 1) := by decide +kernel
theorem dX6_mends_39 : decode cX6_mends 39 = .ok (.aload_n 0, 1) := by decide +kernel
theorem dX6_mends_40 : decode cX6_mends 40 = .ok (.iconst 2, 1) := by decide +kernel
theorem dX6_mends_41 : decode cX6_mends 41 = .ok (.iconst 1, 1) := by decide +kernel
theorem dX6_mends_42 : decode cX6_mends 42 = .ok (.invokevirtual 183, 3) := by decide +kernel
theorem dX6_mends_45 : decode cX6_mends 45 = .ok (.istore_n 1, 1) := by decide +kernel
theorem dX6_mends_46 : decode cX6_mends 46 = .ok (.iload_n 1, 1) := by decide +kernel
theorem dX6_mends_47 : decode cX6_mends 47 = .ok (.iconst (-1), 1) := by decide +kernel
theorem dX6_mends_48 : decode cX6_mends 48 = .ok (.if_icmp .eq 22, 3) := by decide +kernel
theorem dX6_mends_51 : decode cX6_mends 51 = .ok (.aload_n 0, 1) := by decide +kernel
theorem dX6_mends_52 : decode cX6_mends 52 = .ok (.aload_n 0, 1) := by decide +kernel
theorem dX6_mends_53 : decode cX6_mends 53 = .ok (.getfield 44, 3) := by decide +kernel
theorem dX6_mends_56 : decode cX6_mends 56 = .ok (.iload_n 1, 1) := by decide +kernel
theorem dX6_mends_57 : decode cX6_mends 57 = .ok (.iaload, 1) := by decide +kernel
theorem dX6_mends_58 : decode cX6_mends 58 = .ok (.aload_n 0, 1) := by decide +kernel
theorem dX6_mends_59 : decode cX6_mends 59 = .ok (.getfield 16, 3) := by decide +kernel
theorem dX6_mends_62 : decode cX6_mends 62 = .ok (.iload_n 1, 1) := by decide +kernel
theorem dX6_mends_63 : decode cX6_mends 63 = .ok (.iaload, 1) := by decide +kernel
theorem dX6_mends_64 : decode cX6_mends 64 = .ok (.iconst 2, 1) := by decide +kernel
theorem dX6_mends_65 : decode cX6_mends 65 = .ok (.iload_n 1, 1) := by decide +kernel
theorem dX6_mends_66 : decode cX6_mends 66 = .ok (.invokevirtual 190, 3) := by decide +kernel
theorem dX6_mends_69 : decode cX6_mends 69 = .ok (.ireturn, 1) := by decide +kernel
theorem dX6_mends_70 : decode cX6_mends 70 = .ok (.aload_n 0, 1) := by decide +kernel
theorem dX6_mends_71 : decode cX6_mends 71 = .ok (.invokevirtual 194, 3) := by decide +kernel
theorem dX6_mends_74 : decode cX6_mends 74 = .ok (.istore_n 1, 1) := by decide +kernel
theorem dX6_mends_75 : decode cX6_mends 75 = .ok (.iload_n 1, 1) := by decide +kernel
theorem dX6_mends_76 : decode cX6_mends 76 = .ok (.iconst (-1), 1) := by decide +kernel
theorem dX6_mends_77 : decode cX6_mends 77 = .ok (.if_icmp .eq 28, 3) := by decide +kernel
theorem dX6_mends_80 : decode cX6_mends 80 = .ok (.aload_n 0, 1) := by decide +kernel
theorem dX6_mends_81 : decode cX6_mends 81 = .ok (.aload_n 0, 1) := by decide +kernel
theorem dX6_mends_82 : decode cX6_mends 82 = .ok (.getfield 47, 3) := by decide +kernel
theorem dX6_mends_85 : decode cX6_mends 85 = .ok (.iload_n 1, 1) := by decide +kernel
theorem dX6_mends_86 : decode cX6_mends 86 = .ok (.iaload, 1) := by decide +kernel
theorem dX6_mends_87 : decode cX6_mends 87 = .ok (.aload_n 0, 1) := by decide +kernel
theorem dX6_mends_88 : decode cX6_mends 88 = .ok (.getfield 32, 3) := by decide +kernel
theorem dX6_mends_91 : decode cX6_mends 91 = .ok (.iload_n 1, 1) := by decide +kernel
theorem dX6_mends_92 : decode cX6_mends 92 = .ok (.iaload, 1) := by decide +kernel
theorem dX6_mends_93 : decode cX6_mends 93 = .ok (.iconst 3, 1) := by decide +kernel
theorem dX6_mends_94 : decode cX6_mends 94 = .ok (.iload_n 1, 1) := by decide +kernel
theorem dX6_mends_95 : decode cX6_mends 95 = .ok (.invokevirtual 190, 3) := by decide +kernel
theorem dX6_mends_98 : decode cX6_mends 98 = .ok (.ifCond .eq 7, 3) := by decide +kernel
theorem dX6_mends_101 : decode cX6_mends 101 = .ok (.iconst 1, 1) := by decide +kernel
theorem dX6_mends_102 : decode cX6_mends 102 = .ok (.goto 4, 3) := by decide +kernel
theorem dX6_mends_105 : decode cX6_mends 105 = .ok (.iconst 0, 1) := by decide +kernel
theorem dX6_mends_106 : decode cX6_mends 106 = .ok (.ireturn, 1) := by decide +kernel
theorem qX6_placeAll_r1 {w : Cond} (h : w ∈ wsX6_placeAll_r1) : w ∈ wsX6_placeAll := List.mem_cons_of_mem _ (List.mem_append_left _ (List.mem_append_left _ (h)))
theorem qX6_placeAll_r2 {w : Cond} (h : w ∈ wsX6_placeAll_r2) : w ∈ wsX6_placeAll := List.mem_cons_of_mem _ (List.mem_append_left _ (List.mem_append_right _ (List.mem_append_left _ (h))))
theorem qX6_placeAll_r3 {w : Cond} (h : w ∈ wsX6_placeAll_r3) : w ∈ wsX6_placeAll := List.mem_cons_of_mem _ (List.mem_append_left _ (List.mem_append_right _ (List.mem_append_right _ (List.mem_append_left _ (h)))))
theorem qX6_placeAll_r4 {w : Cond} (h : w ∈ wsX6_placeAll_r4) : w ∈ wsX6_placeAll := List.mem_cons_of_mem _ (List.mem_append_left _ (List.mem_append_right _ (List.mem_append_right _ (List.mem_append_right _ (h)))))
set_option maxRecDepth 20000 in
theorem ggX6_placeAll_X6_layAll : GoodIn wsX6_placeAll wsX6_layAll := goodIn_sub (fm_c (qX6_placeAll_r1 (mg 12 rfl)) (ms_a (ms_a (fm_c (qX6_placeAll_r1 (mg 13 rfl)) (fm_c (qX6_placeAll_r1 (mg 6 rfl)) (fm_c (qX6_placeAll_r1 (mg 14 rfl)) (fm_c (qX6_placeAll_r1 (mg 15 rfl)) (fm_c (qX6_placeAll_r1 (mg 16 rfl)) (fm_c (qX6_placeAll_r1 (mg 17 rfl)) (fm_c (qX6_placeAll_r1 (mg 18 rfl)) (fm_c (qX6_placeAll_r1 (mg 19 rfl)) (fm_c (qX6_placeAll_r1 (mg 20 rfl)) (fm_c (qX6_placeAll_r1 (mg 21 rfl)) (fm_c (qX6_placeAll_r1 (mg 11 rfl)) (fm_c (qX6_placeAll_r1 (mg 22 rfl)) (fm_c (qX6_placeAll_r1 (mg 7 rfl)) (fm_c (qX6_placeAll_r1 (mg 23 rfl)) (fm_c (qX6_placeAll_r2 (mg 0 rfl)) (fm_c (qX6_placeAll_r2 (mg 1 rfl)) (fm_c (qX6_placeAll_r2 (mg 2 rfl)) (fm_c (qX6_placeAll_r2 (mg 3 rfl)) (fm_c (qX6_placeAll_r2 (mg 4 rfl)) (fm_c (qX6_placeAll_r2 (mg 5 rfl)) (fm_c (qX6_placeAll_r1 (mg 0 rfl)) (fm_c (qX6_placeAll_r2 (mg 6 rfl)) (fm_c (qX6_placeAll_r2 (mg 7 rfl)) (fm_c (qX6_placeAll_r2 (mg 8 rfl)) (fm_n))))))))))))))))))))))))) (fm_c (qX6_placeAll_r1 (mg 1 rfl)) (fm_c (qX6_placeAll_r2 (mg 9 rfl)) (fm_c (qX6_placeAll_r2 (mg 10 rfl)) (fm_c (qX6_placeAll_r2 (mg 11 rfl)) (fm_n)))))) (fun _ h => List.mem_cons_of_mem _ (List.mem_append_right _ (h))))) (by decide +kernel)
set_option maxRecDepth 20000 in
theorem gX6_placeAll_X6_layAll : GoodIn wsX6_placeAll (wsV RX6 200 RX6 yX6_layAll wsX6_layAll) := goodIn_app (goodIn_sub (fm_c (qX6_placeAll_r1 (mg 8 rfl)) (fm_c (qX6_placeAll_r1 (mg 9 rfl)) (fm_c (qX6_placeAll_r1 (mg 10 rfl)) (fm_c (qX6_placeAll_r1 (mg 11 rfl)) (fm_n))))) (by decide +kernel)) ggX6_placeAll_X6_layAll
set_option maxRecDepth 20000 in
theorem ggX6_placeAll_X6_mends : GoodIn wsX6_placeAll wsX6_mends := goodIn_sub (fm_c (qX6_placeAll_r2 (mg 15 rfl)) (ms_a (ms_a (fm_c (qX6_placeAll_r1 (mg 7 rfl)) (fm_c (qX6_placeAll_r1 (mg 14 rfl)) (fm_c (qX6_placeAll_r1 (mg 17 rfl)) (fm_c (qX6_placeAll_r2 (mg 7 rfl)) (fm_c (qX6_placeAll_r2 (mg 16 rfl)) (fm_c (qX6_placeAll_r2 (mg 17 rfl)) (fm_c (qX6_placeAll_r2 (mg 18 rfl)) (fm_c (qX6_placeAll_r2 (mg 19 rfl)) (fm_c (qX6_placeAll_r1 (mg 11 rfl)) (fm_c (qX6_placeAll_r2 (mg 20 rfl)) (fm_c (qX6_placeAll_r1 (mg 6 rfl)) (fm_c (qX6_placeAll_r1 (mg 15 rfl)) (fm_c (qX6_placeAll_r2 (mg 21 rfl)) (fm_c (qX6_placeAll_r2 (mg 22 rfl)) (fm_c (qX6_placeAll_r2 (mg 23 rfl)) (fm_c (qX6_placeAll_r3 (mg 0 rfl)) (fm_c (qX6_placeAll_r2 (mg 10 rfl)) (fm_c (qX6_placeAll_r3 (mg 1 rfl)) (fm_c (qX6_placeAll_r3 (mg 2 rfl)) (fm_c (qX6_placeAll_r3 (mg 3 rfl)) (fm_c (qX6_placeAll_r3 (mg 4 rfl)) (fm_c (qX6_placeAll_r1 (mg 1 rfl)) (fm_c (qX6_placeAll_r3 (mg 5 rfl)) (fm_c (qX6_placeAll_r3 (mg 6 rfl)) (fm_n))))))))))))))))))))))))) (ms_a (fm_c (qX6_placeAll_r3 (mg 7 rfl)) (fm_c (qX6_placeAll_r3 (mg 8 rfl)) (fm_c (qX6_placeAll_r3 (mg 9 rfl)) (fm_c (qX6_placeAll_r3 (mg 10 rfl)) (fm_c (qX6_placeAll_r1 (mg 16 rfl)) (fm_c (qX6_placeAll_r3 (mg 11 rfl)) (fm_c (qX6_placeAll_r3 (mg 12 rfl)) (fm_c (qX6_placeAll_r3 (mg 13 rfl)) (fm_c (qX6_placeAll_r3 (mg 14 rfl)) (fm_c (qX6_placeAll_r3 (mg 15 rfl)) (fm_c (qX6_placeAll_r3 (mg 16 rfl)) (fm_c (qX6_placeAll_r3 (mg 17 rfl)) (fm_c (qX6_placeAll_r3 (mg 18 rfl)) (fm_c (qX6_placeAll_r3 (mg 19 rfl)) (fm_c (qX6_placeAll_r3 (mg 20 rfl)) (fm_c (qX6_placeAll_r3 (mg 21 rfl)) (fm_c (qX6_placeAll_r1 (mg 0 rfl)) (fm_c (qX6_placeAll_r3 (mg 22 rfl)) (fm_c (qX6_placeAll_r3 (mg 23 rfl)) (fm_c (qX6_placeAll_r4 (mg 0 rfl)) (fm_c (qX6_placeAll_r4 (mg 1 rfl)) (fm_c (qX6_placeAll_r4 (mg 2 rfl)) (fm_c (qX6_placeAll_r4 (mg 3 rfl)) (fm_c (qX6_placeAll_r4 (mg 4 rfl)) (fm_n))))))))))))))))))))))))) (ms_a (fm_c (qX6_placeAll_r4 (mg 5 rfl)) (fm_c (qX6_placeAll_r4 (mg 6 rfl)) (fm_c (qX6_placeAll_r2 (mg 11 rfl)) (fm_c (qX6_placeAll_r2 (mg 9 rfl)) (fm_c (qX6_placeAll_r4 (mg 7 rfl)) (fm_c (qX6_placeAll_r4 (mg 8 rfl)) (fm_c (qX6_placeAll_r4 (mg 9 rfl)) (fm_c (qX6_placeAll_r4 (mg 10 rfl)) (fm_c (qX6_placeAll_r1 (mg 3 rfl)) (fm_c (qX6_placeAll_r1 (mg 4 rfl)) (fm_c (qX6_placeAll_r1 (mg 5 rfl)) (fm_c (qX6_placeAll_r4 (mg 11 rfl)) (fm_c (qX6_placeAll_r4 (mg 12 rfl)) (fm_c (qX6_placeAll_r4 (mg 13 rfl)) (fm_c (qX6_placeAll_r4 (mg 14 rfl)) (fm_c (qX6_placeAll_r2 (mg 6 rfl)) (fm_c (qX6_placeAll_r4 (mg 15 rfl)) (fm_c (qX6_placeAll_r4 (mg 16 rfl)) (fm_c (qX6_placeAll_r4 (mg 17 rfl)) (fm_c (qX6_placeAll_r4 (mg 18 rfl)) (fm_c (qX6_placeAll_r2 (mg 8 rfl)) (fm_c (qX6_placeAll_r4 (mg 19 rfl)) (fm_c (qX6_placeAll_r4 (mg 20 rfl)) (fm_c (qX6_placeAll_r4 (mg 21 rfl)) (fm_n))))))))))))))))))))))))) (fm_c (qX6_placeAll_r4 (mg 22 rfl)) (fm_n))))) (fun _ h => List.mem_cons_of_mem _ (List.mem_append_right _ (h))))) (by decide +kernel)
set_option maxRecDepth 20000 in
theorem gX6_placeAll_X6_mends : GoodIn wsX6_placeAll (wsV RX6 203 RX6 yX6_mends wsX6_mends) := goodIn_app (goodIn_sub (fm_c (qX6_placeAll_r2 (mg 12 rfl)) (fm_c (qX6_placeAll_r2 (mg 13 rfl)) (fm_c (qX6_placeAll_r2 (mg 14 rfl)) (fm_c (qX6_placeAll_r1 (mg 11 rfl)) (fm_n))))) (by decide +kernel)) ggX6_placeAll_X6_mends
theorem dX6_placeAll_0 : decode cX6_placeAll 0 = .ok (.aload_n 0, 1) := by decide +kernel
theorem dX6_placeAll_1 : decode cX6_placeAll 1 = .ok (.iconst 0, 1) := by decide +kernel
theorem dX6_placeAll_2 : decode cX6_placeAll 2 = .ok (.putfield 133, 3) := by decide +kernel
theorem dX6_placeAll_5 : decode cX6_placeAll 5 = .ok (.aload_n 0, 1) := by decide +kernel
theorem dX6_placeAll_6 : decode cX6_placeAll 6 = .ok (.iconst 0, 1) := by decide +kernel
theorem dX6_placeAll_7 : decode cX6_placeAll 7 = .ok (.putfield 136, 3) := by decide +kernel
theorem dX6_placeAll_10 : decode cX6_placeAll 10 = .ok (.aload_n 0, 1) := by decide +kernel
theorem dX6_placeAll_11 : decode cX6_placeAll 11 = .ok (.iconst 0, 1) := by decide +kernel
theorem dX6_placeAll_12 : decode cX6_placeAll 12 = .ok (.putfield 197, 3) := by decide +kernel
theorem dX6_placeAll_15 : decode cX6_placeAll 15 = .ok (.aload_n 0, 1) := by decide +kernel
theorem dX6_placeAll_16 : decode cX6_placeAll 16 = .ok (.iconst 1, 1) := by decide +kernel
theorem dX6_placeAll_17 : decode cX6_placeAll 17 = .ok (.putfield 62, 3) := by decide +kernel
theorem dX6_placeAll_20 : decode cX6_placeAll 20 = .ok (.aload_n 0, 1) := by decide +kernel
theorem dX6_placeAll_21 : decode cX6_placeAll 21 = .ok (.iconst 0, 1) := by decide +kernel
theorem dX6_placeAll_22 : decode cX6_placeAll 22 = .ok (.putfield 171, 3) := by decide +kernel
theorem dX6_placeAll_25 : decode cX6_placeAll 25 = .ok (.aload_n 0, 1) := by decide +kernel
theorem dX6_placeAll_26 : decode cX6_placeAll 26 = .ok (.iconst (-1), 1) := by decide +kernel
theorem dX6_placeAll_27 : decode cX6_placeAll 27 = .ok (.putfield 66, 3) := by decide +kernel
theorem dX6_placeAll_30 : decode cX6_placeAll 30 = .ok (.iconst 0, 1) := by decide +kernel
theorem dX6_placeAll_31 : decode cX6_placeAll 31 = .ok (.istore_n 1, 1) := by decide +kernel
theorem dX6_placeAll_32 : decode cX6_placeAll 32 = .ok (.iload_n 1, 1) := by decide +kernel
theorem dX6_placeAll_33 : decode cX6_placeAll 33 = .ok (.aload_n 0, 1) := by decide +kernel
theorem dX6_placeAll_34 : decode cX6_placeAll 34 = .ok (.getfield 114, 3) := by decide +kernel
theorem dX6_placeAll_37 : decode cX6_placeAll 37 = .ok (.if_icmp .ge 16, 3) := by decide +kernel
theorem dX6_placeAll_40 : decode cX6_placeAll 40 = .ok (.aload_n 0, 1) := by decide +kernel
theorem dX6_placeAll_41 : decode cX6_placeAll 41 = .ok (.getfield 28, 3) := by decide +kernel
theorem dX6_placeAll_44 : decode cX6_placeAll 44 = .ok (.iload_n 1, 1) := by decide +kernel
theorem dX6_placeAll_45 : decode cX6_placeAll 45 = .ok (.iconst 0, 1) := by decide +kernel
theorem dX6_placeAll_46 : decode cX6_placeAll 46 = .ok (.bastore, 1) := by decide +kernel
theorem dX6_placeAll_47 : decode cX6_placeAll 47 = .ok (.iinc 1 1, 3) := by decide +kernel
theorem dX6_placeAll_50 : decode cX6_placeAll 50 = .ok (.goto (-18), 3) := by decide +kernel
theorem dX6_placeAll_53 : decode cX6_placeAll 53 = .ok (.aload_n 0, 1) := by decide +kernel
theorem dX6_placeAll_54 : decode cX6_placeAll 54 = .ok (.getfield 114, 3) := by decide +kernel
theorem dX6_placeAll_57 : decode cX6_placeAll 57 = .ok (.ifCond .le 7, 3) := by decide +kernel
theorem dX6_placeAll_60 : decode cX6_placeAll 60 = .ok (.iconst 1, 1) := by decide +kernel
theorem dX6_placeAll_61 : decode cX6_placeAll 61 = .ok (.goto 4, 3) := by decide +kernel
theorem dX6_placeAll_64 : decode cX6_placeAll 64 = .ok (.iconst 0, 1) := by decide +kernel
theorem dX6_placeAll_65 : decode cX6_placeAll 65 = .ok (.istore_n 1, 1) := by decide +kernel
theorem dX6_placeAll_66 : decode cX6_placeAll 66 = .ok (.iload_n 1, 1) := by decide +kernel
theorem dX6_placeAll_67 : decode cX6_placeAll 67 = .ok (.ifCond .eq 25, 3) := by decide +kernel
theorem dX6_placeAll_70 : decode cX6_placeAll 70 = .ok (.aload_n 0, 1) := by decide +kernel
theorem dX6_placeAll_71 : decode cX6_placeAll 71 = .ok (.dup, 1) := by decide +kernel
theorem dX6_placeAll_72 : decode cX6_placeAll 72 = .ok (.getfield 197, 3) := by decide +kernel
theorem dX6_placeAll_75 : decode cX6_placeAll 75 = .ok (.iconst 1, 1) := by decide +kernel
theorem dX6_placeAll_76 : decode cX6_placeAll 76 = .ok (.iadd, 1) := by decide +kernel
theorem dX6_placeAll_77 : decode cX6_placeAll 77 = .ok (.putfield 197, 3) := by decide +kernel
theorem dX6_placeAll_80 : decode cX6_placeAll 80 = .ok (.aload_n 0, 1) := by decide +kernel
theorem dX6_placeAll_81 : decode cX6_placeAll 81 = .ok (.invokevirtual 200, 3) := by decide +kernel
theorem dX6_placeAll_84 : decode cX6_placeAll 84 = .ok (.aload_n 0, 1) := by decide +kernel
theorem dX6_placeAll_85 : decode cX6_placeAll 85 = .ok (.invokevirtual 203, 3) := by decide +kernel
theorem dX6_placeAll_88 : decode cX6_placeAll 88 = .ok (.istore_n 1, 1) := by decide +kernel
theorem dX6_placeAll_89 : decode cX6_placeAll 89 = .ok (.goto (-23), 3) := by decide +kernel
theorem dX6_placeAll_92 : decode cX6_placeAll 92 = .ok (.return_, 1) := by decide +kernel
theorem qX6_itemNow_r1 {w : Cond} (h : w ∈ wsX6_itemNow_r1) : w ∈ wsX6_itemNow := List.mem_cons_of_mem _ (List.mem_append_left _ (List.mem_append_left _ (h)))
theorem qX6_itemNow_r2 {w : Cond} (h : w ∈ wsX6_itemNow_r2) : w ∈ wsX6_itemNow := List.mem_cons_of_mem _ (List.mem_append_left _ (List.mem_append_right _ (h)))
set_option maxRecDepth 20000 in
theorem ggX6_itemNow_X6_sizeOf : GoodIn wsX6_itemNow wsX6_sizeOf := goodIn_sub (fm_c (qX6_itemNow_r1 (mg 8 rfl)) (ms_a (fm_c (qX6_itemNow_r1 (mg 0 rfl)) (fm_c (qX6_itemNow_r1 (mg 1 rfl)) (fm_c (qX6_itemNow_r1 (mg 3 rfl)) (fm_c (qX6_itemNow_r1 (mg 9 rfl)) (fm_c (qX6_itemNow_r1 (mg 10 rfl)) (fm_c (qX6_itemNow_r1 (mg 7 rfl)) (fm_c (qX6_itemNow_r1 (mg 11 rfl)) (fm_n)))))))) (fun _ h => List.mem_cons_of_mem _ (List.mem_append_right _ (h))))) (by decide +kernel)
set_option maxRecDepth 20000 in
theorem gX6_itemNow_X6_sizeOf : GoodIn wsX6_itemNow (wsV RX6 142 RX6 yX6_sizeOf wsX6_sizeOf) := goodIn_app (goodIn_sub (fm_c (qX6_itemNow_r1 (mg 4 rfl)) (fm_c (qX6_itemNow_r1 (mg 5 rfl)) (fm_c (qX6_itemNow_r1 (mg 6 rfl)) (fm_c (qX6_itemNow_r1 (mg 7 rfl)) (fm_n))))) (by decide +kernel)) ggX6_itemNow_X6_sizeOf
set_option maxRecDepth 20000 in
theorem ggX6_itemNow_X6_goesTo : GoodIn wsX6_itemNow wsX6_goesTo := goodIn_sub (fm_c (qX6_itemNow_r1 (mg 15 rfl)) (ms_a (ms_a (fm_c (qX6_itemNow_r1 (mg 0 rfl)) (fm_c (qX6_itemNow_r1 (mg 16 rfl)) (fm_c (qX6_itemNow_r1 (mg 3 rfl)) (fm_c (qX6_itemNow_r1 (mg 2 rfl)) (fm_c (qX6_itemNow_r1 (mg 1 rfl)) (fm_c (qX6_itemNow_r1 (mg 17 rfl)) (fm_c (qX6_itemNow_r1 (mg 18 rfl)) (fm_c (qX6_itemNow_r1 (mg 19 rfl)) (fm_c (qX6_itemNow_r1 (mg 7 rfl)) (fm_c (qX6_itemNow_r1 (mg 20 rfl)) (fm_c (qX6_itemNow_r1 (mg 21 rfl)) (fm_c (qX6_itemNow_r1 (mg 22 rfl)) (fm_c (qX6_itemNow_r1 (mg 23 rfl)) (fm_c (qX6_itemNow_r2 (mg 0 rfl)) (fm_c (qX6_itemNow_r2 (mg 1 rfl)) (fm_c (qX6_itemNow_r2 (mg 2 rfl)) (fm_c (qX6_itemNow_r2 (mg 3 rfl)) (fm_c (qX6_itemNow_r2 (mg 4 rfl)) (fm_c (qX6_itemNow_r2 (mg 5 rfl)) (fm_c (qX6_itemNow_r2 (mg 6 rfl)) (fm_c (qX6_itemNow_r2 (mg 7 rfl)) (fm_c (qX6_itemNow_r2 (mg 8 rfl)) (fm_c (qX6_itemNow_r2 (mg 9 rfl)) (fm_c (qX6_itemNow_r2 (mg 10 rfl)) (fm_n))))))))))))))))))))))))) (fm_c (qX6_itemNow_r2 (mg 11 rfl)) (fm_c (qX6_itemNow_r2 (mg 12 rfl)) (fm_c (qX6_itemNow_r2 (mg 13 rfl)) (fm_c (qX6_itemNow_r2 (mg 14 rfl)) (fm_c (qX6_itemNow_r2 (mg 15 rfl)) (fm_c (qX6_itemNow_r2 (mg 16 rfl)) (fm_c (qX6_itemNow_r2 (mg 17 rfl)) (fm_c (qX6_itemNow_r2 (mg 18 rfl)) (fm_c (qX6_itemNow_r2 (mg 19 rfl)) (fm_c (qX6_itemNow_r2 (mg 20 rfl)) (fm_c (qX6_itemNow_r2 (mg 21 rfl)) (fm_c (qX6_itemNow_r2 (mg 22 rfl)) (fm_c (qX6_itemNow_r2 (mg 23 rfl)) (fm_n))))))))))))))) (fun _ h => List.mem_cons_of_mem _ (List.mem_append_right _ (h))))) (by decide +kernel)
set_option maxRecDepth 20000 in
theorem gX6_itemNow_X6_goesTo : GoodIn wsX6_itemNow (wsV RX6 174 RX6 yX6_goesTo wsX6_goesTo) := goodIn_app (goodIn_sub (fm_c (qX6_itemNow_r1 (mg 12 rfl)) (fm_c (qX6_itemNow_r1 (mg 13 rfl)) (fm_c (qX6_itemNow_r1 (mg 14 rfl)) (fm_c (qX6_itemNow_r1 (mg 7 rfl)) (fm_n))))) (by decide +kernel)) ggX6_itemNow_X6_goesTo
theorem dX6_itemNow_0 : decode cX6_itemNow 0 = .ok (.iload_n 2, 1) := by decide +kernel
theorem dX6_itemNow_1 : decode cX6_itemNow 1 = .ok (.tableswitch 83 0 4 #[35, 42, 49, 56, 68], 35) := by decide +kernel
theorem dX6_itemNow_36 : decode cX6_itemNow 36 = .ok (.aload_n 0, 1) := by decide +kernel
theorem dX6_itemNow_37 : decode cX6_itemNow 37 = .ok (.getfield 13, 3) := by decide +kernel
theorem dX6_itemNow_40 : decode cX6_itemNow 40 = .ok (.iload_n 1, 1) := by decide +kernel
theorem dX6_itemNow_41 : decode cX6_itemNow 41 = .ok (.iaload, 1) := by decide +kernel
theorem dX6_itemNow_42 : decode cX6_itemNow 42 = .ok (.ireturn, 1) := by decide +kernel
theorem dX6_itemNow_43 : decode cX6_itemNow 43 = .ok (.aload_n 0, 1) := by decide +kernel
theorem dX6_itemNow_44 : decode cX6_itemNow 44 = .ok (.getfield 16, 3) := by decide +kernel
theorem dX6_itemNow_47 : decode cX6_itemNow 47 = .ok (.iload_n 1, 1) := by decide +kernel
theorem dX6_itemNow_48 : decode cX6_itemNow 48 = .ok (.iaload, 1) := by decide +kernel
theorem dX6_itemNow_49 : decode cX6_itemNow 49 = .ok (.ireturn, 1) := by decide +kernel
theorem dX6_itemNow_50 : decode cX6_itemNow 50 = .ok (.aload_n 0, 1) := by decide +kernel
theorem dX6_itemNow_51 : decode cX6_itemNow 51 = .ok (.getfield 44, 3) := by decide +kernel
theorem dX6_itemNow_54 : decode cX6_itemNow 54 = .ok (.iload_n 1, 1) := by decide +kernel
theorem dX6_itemNow_55 : decode cX6_itemNow 55 = .ok (.iaload, 1) := by decide +kernel
theorem dX6_itemNow_56 : decode cX6_itemNow 56 = .ok (.ireturn, 1) := by decide +kernel
theorem dX6_itemNow_57 : decode cX6_itemNow 57 = .ok (.aload_n 0, 1) := by decide +kernel
theorem dX6_itemNow_58 : decode cX6_itemNow 58 = .ok (.iload_n 1, 1) := by decide +kernel
theorem dX6_itemNow_59 : decode cX6_itemNow 59 = .ok (.aload_n 0, 1) := by decide +kernel
theorem dX6_itemNow_60 : decode cX6_itemNow 60 = .ok (.getfield 44, 3) := by decide +kernel
theorem dX6_itemNow_63 : decode cX6_itemNow 63 = .ok (.iload_n 1, 1) := by decide +kernel
theorem dX6_itemNow_64 : decode cX6_itemNow 64 = .ok (.iaload, 1) := by decide +kernel
theorem dX6_itemNow_65 : decode cX6_itemNow 65 = .ok (.invokevirtual 142, 3) := by decide +kernel
theorem dX6_itemNow_68 : decode cX6_itemNow 68 = .ok (.ireturn, 1) := by decide +kernel
theorem dX6_itemNow_69 : decode cX6_itemNow 69 = .ok (.aload_n 0, 1) := by decide +kernel
theorem dX6_itemNow_70 : decode cX6_itemNow 70 = .ok (.getfield 28, 3) := by decide +kernel
theorem dX6_itemNow_73 : decode cX6_itemNow 73 = .ok (.iload_n 1, 1) := by decide +kernel
theorem dX6_itemNow_74 : decode cX6_itemNow 74 = .ok (.baload, 1) := by decide +kernel
theorem dX6_itemNow_75 : decode cX6_itemNow 75 = .ok (.ifCond .eq 7, 3) := by decide +kernel
theorem dX6_itemNow_78 : decode cX6_itemNow 78 = .ok (.iconst 1, 1) := by decide +kernel
theorem dX6_itemNow_79 : decode cX6_itemNow 79 = .ok (.goto 4, 3) := by decide +kernel
theorem dX6_itemNow_82 : decode cX6_itemNow 82 = .ok (.iconst 0, 1) := by decide +kernel
theorem dX6_itemNow_83 : decode cX6_itemNow 83 = .ok (.ireturn, 1) := by decide +kernel
theorem dX6_itemNow_84 : decode cX6_itemNow 84 = .ok (.aload_n 0, 1) := by decide +kernel
theorem dX6_itemNow_85 : decode cX6_itemNow 85 = .ok (.iload_n 1, 1) := by decide +kernel
theorem dX6_itemNow_86 : decode cX6_itemNow 86 = .ok (.invokevirtual 174, 3) := by decide +kernel
theorem dX6_itemNow_89 : decode cX6_itemNow 89 = .ok (.ireturn, 1) := by decide +kernel
theorem qX6_item_r1 {w : Cond} (h : w ∈ wsX6_item_r1) : w ∈ wsX6_item := List.mem_cons_of_mem _ (List.mem_append_left _ (List.mem_append_left _ (h)))
theorem qX6_item_r2 {w : Cond} (h : w ∈ wsX6_item_r2) : w ∈ wsX6_item := List.mem_cons_of_mem _ (List.mem_append_left _ (List.mem_append_right _ (List.mem_append_left _ (h))))
theorem qX6_item_r3 {w : Cond} (h : w ∈ wsX6_item_r3) : w ∈ wsX6_item := List.mem_cons_of_mem _ (List.mem_append_left _ (List.mem_append_right _ (List.mem_append_right _ (h))))
set_option maxRecDepth 20000 in
theorem ggX6_item_X6_isItem : GoodIn wsX6_item wsX6_isItem := goodIn_sub (fm_c (qX6_item_r1 (mg 4 rfl)) (ms_a (fm_c (qX6_item_r1 (mg 5 rfl)) (fm_c (qX6_item_r1 (mg 6 rfl)) (fm_c (qX6_item_r1 (mg 7 rfl)) (fm_c (qX6_item_r1 (mg 3 rfl)) (fm_c (qX6_item_r1 (mg 8 rfl)) (fm_n)))))) (fun _ h => List.mem_cons_of_mem _ (List.mem_append_right _ (h))))) (by decide +kernel)
set_option maxRecDepth 20000 in
theorem gX6_item_X6_isItem : GoodIn wsX6_item (wsV RX6 126 RX6 yX6_isItem wsX6_isItem) := goodIn_app (goodIn_sub (fm_c (qX6_item_r1 (mg 0 rfl)) (fm_c (qX6_item_r1 (mg 1 rfl)) (fm_c (qX6_item_r1 (mg 2 rfl)) (fm_c (qX6_item_r1 (mg 3 rfl)) (fm_n))))) (by decide +kernel)) ggX6_item_X6_isItem
set_option maxRecDepth 20000 in
theorem ggX6_item_X6_within : GoodIn wsX6_item wsX6_within := goodIn_sub (fm_c (qX6_item_r1 (mg 8 rfl)) (fm_n)) (by decide +kernel)
set_option maxRecDepth 20000 in
theorem gX6_item_X6_within : GoodIn wsX6_item (va_wsS RX6 70 yX6_within wsX6_within) := goodIn_app (goodIn_sub (fm_c (qX6_item_r1 (mg 6 rfl)) (fm_c (qX6_item_r1 (mg 7 rfl)) (fm_c (qX6_item_r1 (mg 3 rfl)) (fm_n)))) (by decide +kernel)) ggX6_item_X6_within
set_option maxRecDepth 20000 in
theorem ggX6_item_X6_itemNow : GoodIn wsX6_item wsX6_itemNow := goodIn_sub (fm_c (qX6_item_r1 (mg 12 rfl)) (ms_a (ms_a (fm_c (qX6_item_r1 (mg 13 rfl)) (fm_c (qX6_item_r1 (mg 14 rfl)) (fm_c (qX6_item_r1 (mg 15 rfl)) (fm_c (qX6_item_r1 (mg 16 rfl)) (fm_c (qX6_item_r1 (mg 17 rfl)) (fm_c (qX6_item_r1 (mg 18 rfl)) (fm_c (qX6_item_r1 (mg 19 rfl)) (fm_c (qX6_item_r1 (mg 3 rfl)) (fm_c (qX6_item_r1 (mg 20 rfl)) (fm_c (qX6_item_r1 (mg 21 rfl)) (fm_c (qX6_item_r1 (mg 22 rfl)) (fm_c (qX6_item_r1 (mg 23 rfl)) (fm_c (qX6_item_r2 (mg 0 rfl)) (fm_c (qX6_item_r2 (mg 1 rfl)) (fm_c (qX6_item_r2 (mg 2 rfl)) (fm_c (qX6_item_r2 (mg 3 rfl)) (fm_c (qX6_item_r2 (mg 4 rfl)) (fm_c (qX6_item_r2 (mg 5 rfl)) (fm_c (qX6_item_r2 (mg 6 rfl)) (fm_c (qX6_item_r2 (mg 7 rfl)) (fm_c (qX6_item_r2 (mg 8 rfl)) (fm_c (qX6_item_r2 (mg 9 rfl)) (fm_c (qX6_item_r2 (mg 10 rfl)) (fm_c (qX6_item_r2 (mg 11 rfl)) (fm_n))))))))))))))))))))))))) (fm_c (qX6_item_r2 (mg 12 rfl)) (fm_c (qX6_item_r2 (mg 13 rfl)) (fm_c (qX6_item_r2 (mg 14 rfl)) (fm_c (qX6_item_r2 (mg 15 rfl)) (fm_c (qX6_item_r2 (mg 16 rfl)) (fm_c (qX6_item_r2 (mg 17 rfl)) (fm_c (qX6_item_r2 (mg 18 rfl)) (fm_c (qX6_item_r2 (mg 19 rfl)) (fm_c (qX6_item_r2 (mg 20 rfl)) (fm_c (qX6_item_r2 (mg 21 rfl)) (fm_c (qX6_item_r2 (mg 22 rfl)) (fm_c (qX6_item_r2 (mg 23 rfl)) (fm_c (qX6_item_r3 (mg 0 rfl)) (fm_c (qX6_item_r3 (mg 1 rfl)) (fm_c (qX6_item_r3 (mg 2 rfl)) (fm_c (qX6_item_r3 (mg 3 rfl)) (fm_c (qX6_item_r3 (mg 4 rfl)) (fm_c (qX6_item_r3 (mg 5 rfl)) (fm_c (qX6_item_r3 (mg 6 rfl)) (fm_c (qX6_item_r3 (mg 7 rfl)) (fm_c (qX6_item_r3 (mg 8 rfl)) (fm_c (qX6_item_r3 (mg 9 rfl)) (fm_c (qX6_item_r3 (mg 10 rfl)) (fm_c (qX6_item_r3 (mg 11 rfl)) (fm_n)))))))))))))))))))))))))) (fun _ h => List.mem_cons_of_mem _ (List.mem_append_right _ (h))))) (by decide +kernel)
set_option maxRecDepth 20000 in
theorem gX6_item_X6_itemNow : GoodIn wsX6_item (wsV RX6 207 RX6 yX6_itemNow wsX6_itemNow) := goodIn_app (goodIn_sub (fm_c (qX6_item_r1 (mg 9 rfl)) (fm_c (qX6_item_r1 (mg 10 rfl)) (fm_c (qX6_item_r1 (mg 11 rfl)) (fm_c (qX6_item_r1 (mg 3 rfl)) (fm_n))))) (by decide +kernel)) ggX6_item_X6_itemNow
theorem dX6_item_0 : decode cX6_item 0 = .ok (.aload_n 0, 1) := by decide +kernel
theorem dX6_item_1 : decode cX6_item 1 = .ok (.iload_n 1, 1) := by decide +kernel
theorem dX6_item_2 : decode cX6_item 2 = .ok (.invokevirtual 126, 3) := by decide +kernel
theorem dX6_item_5 : decode cX6_item 5 = .ok (.ifCond .ne 7, 3) := by decide +kernel
theorem dX6_item_8 : decode cX6_item 8 = .ok (.sipush (-1001), 3) := by decide +kernel
theorem dX6_item_11 : decode cX6_item 11 = .ok (.ireturn, 1) := by decide +kernel
theorem dX6_item_12 : decode cX6_item 12 = .ok (.iload_n 2, 1) := by decide +kernel
theorem dX6_item_13 : decode cX6_item 13 = .ok (.iconst 0, 1) := by decide +kernel
theorem dX6_item_14 : decode cX6_item 14 = .ok (.iconst 5, 1) := by decide +kernel
theorem dX6_item_15 : decode cX6_item 15 = .ok (.invokestatic 70, 3) := by decide +kernel
theorem dX6_item_18 : decode cX6_item 18 = .ok (.ifCond .eq 12, 3) := by decide +kernel
theorem dX6_item_21 : decode cX6_item 21 = .ok (.aload_n 0, 1) := by decide +kernel
theorem dX6_item_22 : decode cX6_item 22 = .ok (.iload_n 1, 1) := by decide +kernel
theorem dX6_item_23 : decode cX6_item 23 = .ok (.iload_n 2, 1) := by decide +kernel
theorem dX6_item_24 : decode cX6_item 24 = .ok (.invokevirtual 207, 3) := by decide +kernel
theorem dX6_item_27 : decode cX6_item 27 = .ok (.goto 6, 3) := by decide +kernel
theorem dX6_item_30 : decode cX6_item 30 = .ok (.sipush (-1002), 3) := by decide +kernel
theorem dX6_item_33 : decode cX6_item 33 = .ok (.ireturn, 1) := by decide +kernel
set_option maxRecDepth 20000 in
theorem ggX6_islandNow_X6_goesFrom : GoodIn wsX6_islandNow wsX6_goesFrom := goodIn_sub (fm_c (List.mem_cons_of_mem _ (List.mem_append_left _ (mg 7 rfl))) (ms_a (fm_c (List.mem_cons_of_mem _ (List.mem_append_left _ (mg 8 rfl))) (fm_c (List.mem_cons_of_mem _ (List.mem_append_left _ (mg 2 rfl))) (fm_c (List.mem_cons_of_mem _ (List.mem_append_left _ (mg 9 rfl))) (fm_c (List.mem_cons_of_mem _ (List.mem_append_left _ (mg 10 rfl))) (fm_c (List.mem_cons_of_mem _ (List.mem_append_left _ (mg 11 rfl))) (fm_c (List.mem_cons_of_mem _ (List.mem_append_left _ (mg 6 rfl))) (fm_c (List.mem_cons_of_mem _ (List.mem_append_left _ (mg 12 rfl))) (fm_c (List.mem_cons_of_mem _ (List.mem_append_left _ (mg 13 rfl))) (fm_c (List.mem_cons_of_mem _ (List.mem_append_left _ (mg 14 rfl))) (fm_c (List.mem_cons_of_mem _ (List.mem_append_left _ (mg 15 rfl))) (fm_c (List.mem_cons_of_mem _ (List.mem_append_left _ (mg 16 rfl))) (fm_c (List.mem_cons_of_mem _ (List.mem_append_left _ (mg 17 rfl))) (fm_c (List.mem_cons_of_mem _ (List.mem_append_left _ (mg 18 rfl))) (fm_c (List.mem_cons_of_mem _ (List.mem_append_left _ (mg 19 rfl))) (fm_c (List.mem_cons_of_mem _ (List.mem_append_left _ (mg 20 rfl))) (fm_c (List.mem_cons_of_mem _ (List.mem_append_left _ (mg 21 rfl))) (fm_c (List.mem_cons_of_mem _ (List.mem_append_left _ (mg 0 rfl))) (fm_c (List.mem_cons_of_mem _ (List.mem_append_left _ (mg 22 rfl))) (fm_n))))))))))))))))))) (fun _ h => List.mem_cons_of_mem _ (List.mem_append_right _ (h))))) (by decide +kernel)
set_option maxRecDepth 20000 in
theorem gX6_islandNow_X6_goesFrom : GoodIn wsX6_islandNow (wsV RX6 165 RX6 yX6_goesFrom wsX6_goesFrom) := goodIn_app (goodIn_sub (fm_c (List.mem_cons_of_mem _ (List.mem_append_left _ (mg 3 rfl))) (fm_c (List.mem_cons_of_mem _ (List.mem_append_left _ (mg 4 rfl))) (fm_c (List.mem_cons_of_mem _ (List.mem_append_left _ (mg 5 rfl))) (fm_c (List.mem_cons_of_mem _ (List.mem_append_left _ (mg 6 rfl))) (fm_n))))) (by decide +kernel)) ggX6_islandNow_X6_goesFrom
theorem dX6_islandNow_0 : decode cX6_islandNow 0 = .ok (.iload_n 2, 1) := by decide +kernel
theorem dX6_islandNow_1 : decode cX6_islandNow 1 = .ok (.ifCond .ne 12, 3) := by decide +kernel
theorem dX6_islandNow_4 : decode cX6_islandNow 4 = .ok (.aload_n 0, 1) := by decide +kernel
theorem dX6_islandNow_5 : decode cX6_islandNow 5 = .ok (.getfield 32, 3) := by decide +kernel
theorem dX6_islandNow_8 : decode cX6_islandNow 8 = .ok (.iload_n 1, 1) := by decide +kernel
theorem dX6_islandNow_9 : decode cX6_islandNow 9 = .ok (.iaload, 1) := by decide +kernel
theorem dX6_islandNow_10 : decode cX6_islandNow 10 = .ok (.goto 47, 3) := by decide +kernel
theorem dX6_islandNow_13 : decode cX6_islandNow 13 = .ok (.iload_n 2, 1) := by decide +kernel
theorem dX6_islandNow_14 : decode cX6_islandNow 14 = .ok (.iconst 1, 1) := by decide +kernel
theorem dX6_islandNow_15 : decode cX6_islandNow 15 = .ok (.if_icmp .ne 12, 3) := by decide +kernel
theorem dX6_islandNow_18 : decode cX6_islandNow 18 = .ok (.aload_n 0, 1) := by decide +kernel
theorem dX6_islandNow_19 : decode cX6_islandNow 19 = .ok (.getfield 35, 3) := by decide +kernel
theorem dX6_islandNow_22 : decode cX6_islandNow 22 = .ok (.iload_n 1, 1) := by decide +kernel
theorem dX6_islandNow_23 : decode cX6_islandNow 23 = .ok (.iaload, 1) := by decide +kernel
theorem dX6_islandNow_24 : decode cX6_islandNow 24 = .ok (.goto 33, 3) := by decide +kernel
theorem dX6_islandNow_27 : decode cX6_islandNow 27 = .ok (.iload_n 2, 1) := by decide +kernel
theorem dX6_islandNow_28 : decode cX6_islandNow 28 = .ok (.iconst 2, 1) := by decide +kernel
theorem dX6_islandNow_29 : decode cX6_islandNow 29 = .ok (.if_icmp .ne 12, 3) := by decide +kernel
theorem dX6_islandNow_32 : decode cX6_islandNow 32 = .ok (.aload_n 0, 1) := by decide +kernel
theorem dX6_islandNow_33 : decode cX6_islandNow 33 = .ok (.getfield 47, 3) := by decide +kernel
theorem dX6_islandNow_36 : decode cX6_islandNow 36 = .ok (.iload_n 1, 1) := by decide +kernel
theorem dX6_islandNow_37 : decode cX6_islandNow 37 = .ok (.iaload, 1) := by decide +kernel
theorem dX6_islandNow_38 : decode cX6_islandNow 38 = .ok (.goto 19, 3) := by decide +kernel
theorem dX6_islandNow_41 : decode cX6_islandNow 41 = .ok (.aload_n 0, 1) := by decide +kernel
theorem dX6_islandNow_42 : decode cX6_islandNow 42 = .ok (.aload_n 0, 1) := by decide +kernel
theorem dX6_islandNow_43 : decode cX6_islandNow 43 = .ok (.getfield 47, 3) := by decide +kernel
theorem dX6_islandNow_46 : decode cX6_islandNow 46 = .ok (.iload_n 1, 1) := by decide +kernel
theorem dX6_islandNow_47 : decode cX6_islandNow 47 = .ok (.iaload, 1) := by decide +kernel
theorem dX6_islandNow_48 : decode cX6_islandNow 48 = .ok (.aload_n 0, 1) := by decide +kernel
theorem dX6_islandNow_49 : decode cX6_islandNow 49 = .ok (.getfield 32, 3) := by decide +kernel
theorem dX6_islandNow_52 : decode cX6_islandNow 52 = .ok (.iload_n 1, 1) := by decide +kernel
theorem dX6_islandNow_53 : decode cX6_islandNow 53 = .ok (.iaload, 1) := by decide +kernel
theorem dX6_islandNow_54 : decode cX6_islandNow 54 = .ok (.invokevirtual 165, 3) := by decide +kernel
theorem dX6_islandNow_57 : decode cX6_islandNow 57 = .ok (.ireturn, 1) := by decide +kernel
theorem qX6_island_r1 {w : Cond} (h : w ∈ wsX6_island_r1) : w ∈ wsX6_island := List.mem_cons_of_mem _ (List.mem_append_left _ (List.mem_append_left _ (h)))
theorem qX6_island_r2 {w : Cond} (h : w ∈ wsX6_island_r2) : w ∈ wsX6_island := List.mem_cons_of_mem _ (List.mem_append_left _ (List.mem_append_right _ (h)))
set_option maxRecDepth 20000 in
theorem ggX6_island_X6_within : GoodIn wsX6_island wsX6_within := goodIn_sub (fm_c (qX6_island_r1 (mg 4 rfl)) (fm_n)) (by decide +kernel)
set_option maxRecDepth 20000 in
theorem gX6_island_X6_within : GoodIn wsX6_island (va_wsS RX6 70 yX6_within wsX6_within) := goodIn_app (goodIn_sub (fm_c (qX6_island_r1 (mg 1 rfl)) (fm_c (qX6_island_r1 (mg 2 rfl)) (fm_c (qX6_island_r1 (mg 3 rfl)) (fm_n)))) (by decide +kernel)) ggX6_island_X6_within
set_option maxRecDepth 20000 in
theorem ggX6_island_X6_islandNow : GoodIn wsX6_island wsX6_islandNow := goodIn_sub (fm_c (qX6_island_r1 (mg 8 rfl)) (ms_a (fm_c (qX6_island_r1 (mg 9 rfl)) (fm_c (qX6_island_r1 (mg 10 rfl)) (fm_c (qX6_island_r1 (mg 11 rfl)) (fm_c (qX6_island_r1 (mg 12 rfl)) (fm_c (qX6_island_r1 (mg 13 rfl)) (fm_c (qX6_island_r1 (mg 14 rfl)) (fm_c (qX6_island_r1 (mg 3 rfl)) (fm_c (qX6_island_r1 (mg 15 rfl)) (fm_c (qX6_island_r1 (mg 16 rfl)) (fm_c (qX6_island_r1 (mg 17 rfl)) (fm_c (qX6_island_r1 (mg 18 rfl)) (fm_c (qX6_island_r1 (mg 19 rfl)) (fm_c (qX6_island_r1 (mg 20 rfl)) (fm_c (qX6_island_r1 (mg 21 rfl)) (fm_c (qX6_island_r1 (mg 22 rfl)) (fm_c (qX6_island_r1 (mg 23 rfl)) (fm_c (qX6_island_r2 (mg 0 rfl)) (fm_c (qX6_island_r2 (mg 1 rfl)) (fm_c (qX6_island_r2 (mg 2 rfl)) (fm_c (qX6_island_r2 (mg 3 rfl)) (fm_c (qX6_island_r2 (mg 4 rfl)) (fm_c (qX6_island_r1 (mg 0 rfl)) (fm_c (qX6_island_r2 (mg 5 rfl)) (fm_n)))))))))))))))))))))))) (fun _ h => List.mem_cons_of_mem _ (List.mem_append_right _ (h))))) (by decide +kernel)
set_option maxRecDepth 20000 in
theorem gX6_island_X6_islandNow : GoodIn wsX6_island (wsV RX6 210 RX6 yX6_islandNow wsX6_islandNow) := goodIn_app (goodIn_sub (fm_c (qX6_island_r1 (mg 5 rfl)) (fm_c (qX6_island_r1 (mg 6 rfl)) (fm_c (qX6_island_r1 (mg 7 rfl)) (fm_c (qX6_island_r1 (mg 3 rfl)) (fm_n))))) (by decide +kernel)) ggX6_island_X6_islandNow
theorem dX6_island_0 : decode cX6_island 0 = .ok (.iload_n 1, 1) := by decide +kernel
theorem dX6_island_1 : decode cX6_island 1 = .ok (.iconst 0, 1) := by decide +kernel
theorem dX6_island_2 : decode cX6_island 2 = .ok (.aload_n 0, 1) := by decide +kernel
theorem dX6_island_3 : decode cX6_island 3 = .ok (.getfield 133, 3) := by decide +kernel
theorem dX6_island_6 : decode cX6_island 6 = .ok (.iconst 1, 1) := by decide +kernel
theorem dX6_island_7 : decode cX6_island 7 = .ok (.isub, 1) := by decide +kernel
theorem dX6_island_8 : decode cX6_island 8 = .ok (.invokestatic 70, 3) := by decide +kernel
theorem dX6_island_11 : decode cX6_island 11 = .ok (.ifCond .ne 7, 3) := by decide +kernel
theorem dX6_island_14 : decode cX6_island 14 = .ok (.sipush (-1001), 3) := by decide +kernel
theorem dX6_island_17 : decode cX6_island 17 = .ok (.ireturn, 1) := by decide +kernel
theorem dX6_island_18 : decode cX6_island 18 = .ok (.iload_n 2, 1) := by decide +kernel
theorem dX6_island_19 : decode cX6_island 19 = .ok (.iconst 0, 1) := by decide +kernel
theorem dX6_island_20 : decode cX6_island 20 = .ok (.iconst 3, 1) := by decide +kernel
theorem dX6_island_21 : decode cX6_island 21 = .ok (.invokestatic 70, 3) := by decide +kernel
theorem dX6_island_24 : decode cX6_island 24 = .ok (.ifCond .eq 12, 3) := by decide +kernel
theorem dX6_island_27 : decode cX6_island 27 = .ok (.aload_n 0, 1) := by decide +kernel
theorem dX6_island_28 : decode cX6_island 28 = .ok (.iload_n 1, 1) := by decide +kernel
theorem dX6_island_29 : decode cX6_island 29 = .ok (.iload_n 2, 1) := by decide +kernel
theorem dX6_island_30 : decode cX6_island 30 = .ok (.invokevirtual 210, 3) := by decide +kernel
theorem dX6_island_33 : decode cX6_island 33 = .ok (.goto 6, 3) := by decide +kernel
theorem dX6_island_36 : decode cX6_island 36 = .ok (.sipush (-1002), 3) := by decide +kernel
theorem dX6_island_39 : decode cX6_island 39 = .ok (.ireturn, 1) := by decide +kernel
set_option maxRecDepth 20000 in
theorem ggX6_loadsOf_X6_constantFor : GoodIn wsX6_loadsOf wsX6_constantFor := goodIn_sub (fm_c (List.mem_cons_of_mem _ (List.mem_append_left _ (mg 6 rfl))) (ms_a (fm_c (List.mem_cons_of_mem _ (List.mem_append_left _ (mg 7 rfl))) (fm_c (List.mem_cons_of_mem _ (List.mem_append_left _ (mg 8 rfl))) (fm_c (List.mem_cons_of_mem _ (List.mem_append_left _ (mg 9 rfl))) (fm_c (List.mem_cons_of_mem _ (List.mem_append_left _ (mg 10 rfl))) (fm_c (List.mem_cons_of_mem _ (List.mem_append_left _ (mg 11 rfl))) (fm_c (List.mem_cons_of_mem _ (List.mem_append_left _ (mg 12 rfl))) (fm_n))))))) (fun _ h => List.mem_cons_of_mem _ (List.mem_append_right _ (h))))) (by decide +kernel)
set_option maxRecDepth 20000 in
theorem gX6_loadsOf_X6_constantFor : GoodIn wsX6_loadsOf (wsV RX6 162 RX6 yX6_constantFor wsX6_constantFor) := goodIn_app (goodIn_sub (fm_c (List.mem_cons_of_mem _ (List.mem_append_left _ (mg 2 rfl))) (fm_c (List.mem_cons_of_mem _ (List.mem_append_left _ (mg 3 rfl))) (fm_c (List.mem_cons_of_mem _ (List.mem_append_left _ (mg 4 rfl))) (fm_c (List.mem_cons_of_mem _ (List.mem_append_left _ (mg 5 rfl))) (fm_n))))) (by decide +kernel)) ggX6_loadsOf_X6_constantFor
theorem dX6_loadsOf_0 : decode cX6_loadsOf 0 = .ok (.iconst 0, 1) := by decide +kernel
theorem dX6_loadsOf_1 : decode cX6_loadsOf 1 = .ok (.istore_n 2, 1) := by decide +kernel
theorem dX6_loadsOf_2 : decode cX6_loadsOf 2 = .ok (.iconst 0, 1) := by decide +kernel
theorem dX6_loadsOf_3 : decode cX6_loadsOf 3 = .ok (.istore_n 3, 1) := by decide +kernel
theorem dX6_loadsOf_4 : decode cX6_loadsOf 4 = .ok (.iload_n 3, 1) := by decide +kernel
theorem dX6_loadsOf_5 : decode cX6_loadsOf 5 = .ok (.aload_n 0, 1) := by decide +kernel
theorem dX6_loadsOf_6 : decode cX6_loadsOf 6 = .ok (.getfield 114, 3) := by decide +kernel
theorem dX6_loadsOf_9 : decode cX6_loadsOf 9 = .ok (.if_icmp .ge 36, 3) := by decide +kernel
theorem dX6_loadsOf_12 : decode cX6_loadsOf 12 = .ok (.iload_n 2, 1) := by decide +kernel
theorem dX6_loadsOf_13 : decode cX6_loadsOf 13 = .ok (.aload_n 0, 1) := by decide +kernel
theorem dX6_loadsOf_14 : decode cX6_loadsOf 14 = .ok (.getfield 13, 3) := by decide +kernel
theorem dX6_loadsOf_17 : decode cX6_loadsOf 17 = .ok (.iload_n 3, 1) := by decide +kernel
theorem dX6_loadsOf_18 : decode cX6_loadsOf 18 = .ok (.iaload, 1) := by decide +kernel
theorem dX6_loadsOf_19 : decode cX6_loadsOf 19 = .ok (.iconst 1, 1) := by decide +kernel
theorem dX6_loadsOf_20 : decode cX6_loadsOf 20 = .ok (.if_icmp .ne 16, 3) := by decide +kernel
theorem dX6_loadsOf_23 : decode cX6_loadsOf 23 = .ok (.aload_n 0, 1) := by decide +kernel
theorem dX6_loadsOf_24 : decode cX6_loadsOf 24 = .ok (.iload_n 3, 1) := by decide +kernel
theorem dX6_loadsOf_25 : decode cX6_loadsOf 25 = .ok (.invokevirtual 162, 3) := by decide +kernel
theorem dX6_loadsOf_28 : decode cX6_loadsOf 28 = .ok (.iload_n 1, 1) := by decide +kernel
theorem dX6_loadsOf_29 : decode cX6_loadsOf 29 = .ok (.if_icmp .ne 7, 3) := by decide +kernel
theorem dX6_loadsOf_32 : decode cX6_loadsOf 32 = .ok (.iconst 1, 1) := by decide +kernel
theorem dX6_loadsOf_33 : decode cX6_loadsOf 33 = .ok (.goto 4, 3) := by decide +kernel
theorem dX6_loadsOf_36 : decode cX6_loadsOf 36 = .ok (.iconst 0, 1) := by decide +kernel
theorem dX6_loadsOf_37 : decode cX6_loadsOf 37 = .ok (.iadd, 1) := by decide +kernel
theorem dX6_loadsOf_38 : decode cX6_loadsOf 38 = .ok (.istore_n 2, 1) := by decide +kernel
theorem dX6_loadsOf_39 : decode cX6_loadsOf 39 = .ok (.iinc 3 1, 3) := by decide +kernel
theorem dX6_loadsOf_42 : decode cX6_loadsOf 42 = .ok (.goto (-38), 3) := by decide +kernel
theorem dX6_loadsOf_45 : decode cX6_loadsOf 45 = .ok (.iload_n 2, 1) := by decide +kernel
theorem dX6_loadsOf_46 : decode cX6_loadsOf 46 = .ok (.ireturn, 1) := by decide +kernel
set_option maxRecDepth 20000 in
theorem ggX6_constantNow_X6_loadsOf : GoodIn wsX6_constantNow wsX6_loadsOf := goodIn_sub (fm_c (List.mem_cons_of_mem _ (List.mem_append_left _ (mg 7 rfl))) (ms_a (fm_c (List.mem_cons_of_mem _ (List.mem_append_left _ (mg 8 rfl))) (fm_c (List.mem_cons_of_mem _ (List.mem_append_left _ (mg 9 rfl))) (fm_c (List.mem_cons_of_mem _ (List.mem_append_left _ (mg 10 rfl))) (fm_c (List.mem_cons_of_mem _ (List.mem_append_left _ (mg 11 rfl))) (fm_c (List.mem_cons_of_mem _ (List.mem_append_left _ (mg 12 rfl))) (fm_c (List.mem_cons_of_mem _ (List.mem_append_left _ (mg 6 rfl))) (fm_c (List.mem_cons_of_mem _ (List.mem_append_left _ (mg 13 rfl))) (fm_c (List.mem_cons_of_mem _ (List.mem_append_left _ (mg 14 rfl))) (fm_c (List.mem_cons_of_mem _ (List.mem_append_left _ (mg 2 rfl))) (fm_c (List.mem_cons_of_mem _ (List.mem_append_left _ (mg 15 rfl))) (fm_c (List.mem_cons_of_mem _ (List.mem_append_left _ (mg 0 rfl))) (fm_c (List.mem_cons_of_mem _ (List.mem_append_left _ (mg 16 rfl))) (fm_c (List.mem_cons_of_mem _ (List.mem_append_left _ (mg 17 rfl))) (fm_n)))))))))))))) (fun _ h => List.mem_cons_of_mem _ (List.mem_append_right _ (h))))) (by decide +kernel)
set_option maxRecDepth 20000 in
theorem gX6_constantNow_X6_loadsOf : GoodIn wsX6_constantNow (wsV RX6 213 RX6 yX6_loadsOf wsX6_loadsOf) := goodIn_app (goodIn_sub (fm_c (List.mem_cons_of_mem _ (List.mem_append_left _ (mg 3 rfl))) (fm_c (List.mem_cons_of_mem _ (List.mem_append_left _ (mg 4 rfl))) (fm_c (List.mem_cons_of_mem _ (List.mem_append_left _ (mg 5 rfl))) (fm_c (List.mem_cons_of_mem _ (List.mem_append_left _ (mg 6 rfl))) (fm_n))))) (by decide +kernel)) ggX6_constantNow_X6_loadsOf
theorem dX6_constantNow_0 : decode cX6_constantNow 0 = .ok (.iload_n 2, 1) := by decide +kernel
theorem dX6_constantNow_1 : decode cX6_constantNow 1 = .ok (.ifCond .ne 12, 3) := by decide +kernel
theorem dX6_constantNow_4 : decode cX6_constantNow 4 = .ok (.aload_n 0, 1) := by decide +kernel
theorem dX6_constantNow_5 : decode cX6_constantNow 5 = .ok (.getfield 38, 3) := by decide +kernel
theorem dX6_constantNow_8 : decode cX6_constantNow 8 = .ok (.iload_n 1, 1) := by decide +kernel
theorem dX6_constantNow_9 : decode cX6_constantNow 9 = .ok (.iaload, 1) := by decide +kernel
theorem dX6_constantNow_10 : decode cX6_constantNow 10 = .ok (.goto 36, 3) := by decide +kernel
theorem dX6_constantNow_13 : decode cX6_constantNow 13 = .ok (.iload_n 2, 1) := by decide +kernel
theorem dX6_constantNow_14 : decode cX6_constantNow 14 = .ok (.iconst 1, 1) := by decide +kernel
theorem dX6_constantNow_15 : decode cX6_constantNow 15 = .ok (.if_icmp .ne 12, 3) := by decide +kernel
theorem dX6_constantNow_18 : decode cX6_constantNow 18 = .ok (.aload_n 0, 1) := by decide +kernel
theorem dX6_constantNow_19 : decode cX6_constantNow 19 = .ok (.getfield 41, 3) := by decide +kernel
theorem dX6_constantNow_22 : decode cX6_constantNow 22 = .ok (.iload_n 1, 1) := by decide +kernel
theorem dX6_constantNow_23 : decode cX6_constantNow 23 = .ok (.iaload, 1) := by decide +kernel
theorem dX6_constantNow_24 : decode cX6_constantNow 24 = .ok (.goto 22, 3) := by decide +kernel
theorem dX6_constantNow_27 : decode cX6_constantNow 27 = .ok (.iload_n 2, 1) := by decide +kernel
theorem dX6_constantNow_28 : decode cX6_constantNow 28 = .ok (.iconst 2, 1) := by decide +kernel
theorem dX6_constantNow_29 : decode cX6_constantNow 29 = .ok (.if_icmp .ne 12, 3) := by decide +kernel
theorem dX6_constantNow_32 : decode cX6_constantNow 32 = .ok (.aload_n 0, 1) := by decide +kernel
theorem dX6_constantNow_33 : decode cX6_constantNow 33 = .ok (.getfield 50, 3) := by decide +kernel
theorem dX6_constantNow_36 : decode cX6_constantNow 36 = .ok (.iload_n 1, 1) := by decide +kernel
theorem dX6_constantNow_37 : decode cX6_constantNow 37 = .ok (.iaload, 1) := by decide +kernel
theorem dX6_constantNow_38 : decode cX6_constantNow 38 = .ok (.goto 8, 3) := by decide +kernel
theorem dX6_constantNow_41 : decode cX6_constantNow 41 = .ok (.aload_n 0, 1) := by decide +kernel
theorem dX6_constantNow_42 : decode cX6_constantNow 42 = .ok (.iload_n 1, 1) := by decide +kernel
theorem dX6_constantNow_43 : decode cX6_constantNow 43 = .ok (.invokevirtual 213, 3) := by decide +kernel
theorem dX6_constantNow_46 : decode cX6_constantNow 46 = .ok (.ireturn, 1) := by decide +kernel
theorem qX6_constant_r1 {w : Cond} (h : w ∈ wsX6_constant_r1) : w ∈ wsX6_constant := List.mem_cons_of_mem _ (List.mem_append_left _ (List.mem_append_left _ (h)))
theorem qX6_constant_r2 {w : Cond} (h : w ∈ wsX6_constant_r2) : w ∈ wsX6_constant := List.mem_cons_of_mem _ (List.mem_append_left _ (List.mem_append_right _ (h)))
set_option maxRecDepth 20000 in
theorem ggX6_constant_X6_within : GoodIn wsX6_constant wsX6_within := goodIn_sub (fm_c (qX6_constant_r1 (mg 4 rfl)) (fm_n)) (by decide +kernel)
set_option maxRecDepth 20000 in
theorem gX6_constant_X6_within : GoodIn wsX6_constant (va_wsS RX6 70 yX6_within wsX6_within) := goodIn_app (goodIn_sub (fm_c (qX6_constant_r1 (mg 1 rfl)) (fm_c (qX6_constant_r1 (mg 2 rfl)) (fm_c (qX6_constant_r1 (mg 3 rfl)) (fm_n)))) (by decide +kernel)) ggX6_constant_X6_within
set_option maxRecDepth 20000 in
theorem ggX6_constant_X6_constantNow : GoodIn wsX6_constant wsX6_constantNow := goodIn_sub (fm_c (qX6_constant_r1 (mg 8 rfl)) (ms_a (fm_c (qX6_constant_r1 (mg 9 rfl)) (fm_c (qX6_constant_r1 (mg 10 rfl)) (fm_c (qX6_constant_r1 (mg 11 rfl)) (fm_c (qX6_constant_r1 (mg 12 rfl)) (fm_c (qX6_constant_r1 (mg 13 rfl)) (fm_c (qX6_constant_r1 (mg 14 rfl)) (fm_c (qX6_constant_r1 (mg 3 rfl)) (fm_c (qX6_constant_r1 (mg 15 rfl)) (fm_c (qX6_constant_r1 (mg 16 rfl)) (fm_c (qX6_constant_r1 (mg 17 rfl)) (fm_c (qX6_constant_r1 (mg 18 rfl)) (fm_c (qX6_constant_r1 (mg 19 rfl)) (fm_c (qX6_constant_r1 (mg 20 rfl)) (fm_c (qX6_constant_r1 (mg 21 rfl)) (fm_c (qX6_constant_r1 (mg 0 rfl)) (fm_c (qX6_constant_r1 (mg 22 rfl)) (fm_c (qX6_constant_r1 (mg 23 rfl)) (fm_c (qX6_constant_r2 (mg 0 rfl)) (fm_n))))))))))))))))))) (fun _ h => List.mem_cons_of_mem _ (List.mem_append_right _ (h))))) (by decide +kernel)
set_option maxRecDepth 20000 in
theorem gX6_constant_X6_constantNow : GoodIn wsX6_constant (wsV RX6 216 RX6 yX6_constantNow wsX6_constantNow) := goodIn_app (goodIn_sub (fm_c (qX6_constant_r1 (mg 5 rfl)) (fm_c (qX6_constant_r1 (mg 6 rfl)) (fm_c (qX6_constant_r1 (mg 7 rfl)) (fm_c (qX6_constant_r1 (mg 3 rfl)) (fm_n))))) (by decide +kernel)) ggX6_constant_X6_constantNow
theorem dX6_constant_0 : decode cX6_constant 0 = .ok (.iload_n 1, 1) := by decide +kernel
theorem dX6_constant_1 : decode cX6_constant 1 = .ok (.iconst 0, 1) := by decide +kernel
theorem dX6_constant_2 : decode cX6_constant 2 = .ok (.aload_n 0, 1) := by decide +kernel
theorem dX6_constant_3 : decode cX6_constant 3 = .ok (.getfield 136, 3) := by decide +kernel
theorem dX6_constant_6 : decode cX6_constant 6 = .ok (.iconst 1, 1) := by decide +kernel
theorem dX6_constant_7 : decode cX6_constant 7 = .ok (.isub, 1) := by decide +kernel
theorem dX6_constant_8 : decode cX6_constant 8 = .ok (.invokestatic 70, 3) := by decide +kernel
theorem dX6_constant_11 : decode cX6_constant 11 = .ok (.ifCond .ne 7, 3) := by decide +kernel
theorem dX6_constant_14 : decode cX6_constant 14 = .ok (.sipush (-1001), 3) := by decide +kernel
theorem dX6_constant_17 : decode cX6_constant 17 = .ok (.ireturn, 1) := by decide +kernel
theorem dX6_constant_18 : decode cX6_constant 18 = .ok (.iload_n 2, 1) := by decide +kernel
theorem dX6_constant_19 : decode cX6_constant 19 = .ok (.iconst 0, 1) := by decide +kernel
theorem dX6_constant_20 : decode cX6_constant 20 = .ok (.iconst 3, 1) := by decide +kernel
theorem dX6_constant_21 : decode cX6_constant 21 = .ok (.invokestatic 70, 3) := by decide +kernel
theorem dX6_constant_24 : decode cX6_constant 24 = .ok (.ifCond .eq 12, 3) := by decide +kernel
theorem dX6_constant_27 : decode cX6_constant 27 = .ok (.aload_n 0, 1) := by decide +kernel
theorem dX6_constant_28 : decode cX6_constant 28 = .ok (.iload_n 1, 1) := by decide +kernel
theorem dX6_constant_29 : decode cX6_constant 29 = .ok (.iload_n 2, 1) := by decide +kernel
theorem dX6_constant_30 : decode cX6_constant 30 = .ok (.invokevirtual 216, 3) := by decide +kernel
theorem dX6_constant_33 : decode cX6_constant 33 = .ok (.goto 6, 3) := by decide +kernel
theorem dX6_constant_36 : decode cX6_constant 36 = .ok (.sipush (-1002), 3) := by decide +kernel
theorem dX6_constant_39 : decode cX6_constant 39 = .ok (.ireturn, 1) := by decide +kernel
theorem qX6_hopsNow_r1 {w : Cond} (h : w ∈ wsX6_hopsNow_r1) : w ∈ wsX6_hopsNow := List.mem_cons_of_mem _ (List.mem_append_left _ (List.mem_append_left _ (h)))
theorem qX6_hopsNow_r2 {w : Cond} (h : w ∈ wsX6_hopsNow_r2) : w ∈ wsX6_hopsNow := List.mem_cons_of_mem _ (List.mem_append_left _ (List.mem_append_right _ (h)))
set_option maxRecDepth 20000 in
theorem ggX6_hopsNow_X6_shortGoes : GoodIn wsX6_hopsNow wsX6_shortGoes := goodIn_sub (fm_c (qX6_hopsNow_r1 (mg 8 rfl)) (ms_a (fm_c (qX6_hopsNow_r1 (mg 9 rfl)) (fm_c (qX6_hopsNow_r1 (mg 0 rfl)) (fm_c (qX6_hopsNow_r1 (mg 2 rfl)) (fm_c (qX6_hopsNow_r1 (mg 10 rfl)) (fm_c (qX6_hopsNow_r1 (mg 11 rfl)) (fm_c (qX6_hopsNow_r1 (mg 12 rfl)) (fm_c (qX6_hopsNow_r1 (mg 7 rfl)) (fm_c (qX6_hopsNow_r1 (mg 13 rfl)) (fm_n))))))))) (fun _ h => List.mem_cons_of_mem _ (List.mem_append_right _ (h))))) (by decide +kernel)
set_option maxRecDepth 20000 in
theorem gX6_hopsNow_X6_shortGoes : GoodIn wsX6_hopsNow (wsV RX6 168 RX6 yX6_shortGoes wsX6_shortGoes) := goodIn_app (goodIn_sub (fm_c (qX6_hopsNow_r1 (mg 4 rfl)) (fm_c (qX6_hopsNow_r1 (mg 5 rfl)) (fm_c (qX6_hopsNow_r1 (mg 6 rfl)) (fm_c (qX6_hopsNow_r1 (mg 7 rfl)) (fm_n))))) (by decide +kernel)) ggX6_hopsNow_X6_shortGoes
set_option maxRecDepth 20000 in
theorem ggX6_hopsNow_X6_reachesLabel : GoodIn wsX6_hopsNow wsX6_reachesLabel := goodIn_sub (fm_c (qX6_hopsNow_r1 (mg 17 rfl)) (ms_a (fm_c (qX6_hopsNow_r1 (mg 9 rfl)) (fm_c (qX6_hopsNow_r1 (mg 10 rfl)) (fm_c (qX6_hopsNow_r1 (mg 11 rfl)) (fm_c (qX6_hopsNow_r1 (mg 12 rfl)) (fm_c (qX6_hopsNow_r1 (mg 7 rfl)) (fm_c (qX6_hopsNow_r1 (mg 13 rfl)) (fm_n))))))) (fun _ h => List.mem_cons_of_mem _ (List.mem_append_right _ (h))))) (by decide +kernel)
set_option maxRecDepth 20000 in
theorem gX6_hopsNow_X6_reachesLabel : GoodIn wsX6_hopsNow (wsV RX6 155 RX6 yX6_reachesLabel wsX6_reachesLabel) := goodIn_app (goodIn_sub (fm_c (qX6_hopsNow_r1 (mg 14 rfl)) (fm_c (qX6_hopsNow_r1 (mg 15 rfl)) (fm_c (qX6_hopsNow_r1 (mg 16 rfl)) (fm_c (qX6_hopsNow_r1 (mg 7 rfl)) (fm_n))))) (by decide +kernel)) ggX6_hopsNow_X6_reachesLabel
set_option maxRecDepth 20000 in
theorem ggX6_hopsNow_X6_islandFor : GoodIn wsX6_hopsNow wsX6_islandFor := goodIn_sub (fm_c (qX6_hopsNow_r1 (mg 21 rfl)) (ms_a (fm_c (qX6_hopsNow_r1 (mg 22 rfl)) (fm_c (qX6_hopsNow_r1 (mg 3 rfl)) (fm_c (qX6_hopsNow_r1 (mg 9 rfl)) (fm_c (qX6_hopsNow_r1 (mg 23 rfl)) (fm_c (qX6_hopsNow_r1 (mg 10 rfl)) (fm_c (qX6_hopsNow_r2 (mg 0 rfl)) (fm_c (qX6_hopsNow_r1 (mg 11 rfl)) (fm_c (qX6_hopsNow_r1 (mg 12 rfl)) (fm_c (qX6_hopsNow_r1 (mg 7 rfl)) (fm_c (qX6_hopsNow_r1 (mg 13 rfl)) (fm_n))))))))))) (fun _ h => List.mem_cons_of_mem _ (List.mem_append_right _ (h))))) (by decide +kernel)
set_option maxRecDepth 20000 in
theorem gX6_hopsNow_X6_islandFor : GoodIn wsX6_hopsNow (wsV RX6 159 RX6 yX6_islandFor wsX6_islandFor) := goodIn_app (goodIn_sub (fm_c (qX6_hopsNow_r1 (mg 18 rfl)) (fm_c (qX6_hopsNow_r1 (mg 19 rfl)) (fm_c (qX6_hopsNow_r1 (mg 20 rfl)) (fm_c (qX6_hopsNow_r1 (mg 7 rfl)) (fm_n))))) (by decide +kernel)) ggX6_hopsNow_X6_islandFor
theorem dX6_hopsNow_0 : decode cX6_hopsNow 0 = .ok (.aload_n 0, 1) := by decide +kernel
theorem dX6_hopsNow_1 : decode cX6_hopsNow 1 = .ok (.getfield 16, 3) := by decide +kernel
theorem dX6_hopsNow_4 : decode cX6_hopsNow 4 = .ok (.iload_n 1, 1) := by decide +kernel
theorem dX6_hopsNow_5 : decode cX6_hopsNow 5 = .ok (.iaload, 1) := by decide +kernel
theorem dX6_hopsNow_6 : decode cX6_hopsNow 6 = .ok (.istore_n 2, 1) := by decide +kernel
theorem dX6_hopsNow_7 : decode cX6_hopsNow 7 = .ok (.aload_n 0, 1) := by decide +kernel
theorem dX6_hopsNow_8 : decode cX6_hopsNow 8 = .ok (.getfield 28, 3) := by decide +kernel
theorem dX6_hopsNow_11 : decode cX6_hopsNow 11 = .ok (.iload_n 1, 1) := by decide +kernel
theorem dX6_hopsNow_12 : decode cX6_hopsNow 12 = .ok (.baload, 1) := by decide +kernel
theorem dX6_hopsNow_13 : decode cX6_hopsNow 13 = .ok (.ifCond .ne 18, 3) := by decide +kernel
theorem dX6_hopsNow_16 : decode cX6_hopsNow 16 = .ok (.aload_n 0, 1) := by decide +kernel
theorem dX6_hopsNow_17 : decode cX6_hopsNow 17 = .ok (.iload_n 1, 1) := by decide +kernel
theorem dX6_hopsNow_18 : decode cX6_hopsNow 18 = .ok (.invokevirtual 168, 3) := by decide +kernel
theorem dX6_hopsNow_21 : decode cX6_hopsNow 21 = .ok (.iconst (-1), 1) := by decide +kernel
theorem dX6_hopsNow_22 : decode cX6_hopsNow 22 = .ok (.if_icmp .ne 7, 3) := by decide +kernel
theorem dX6_hopsNow_25 : decode cX6_hopsNow 25 = .ok (.iconst (-1), 1) := by decide +kernel
theorem dX6_hopsNow_26 : decode cX6_hopsNow 26 = .ok (.goto 4, 3) := by decide +kernel
theorem dX6_hopsNow_29 : decode cX6_hopsNow 29 = .ok (.iconst 0, 1) := by decide +kernel
theorem dX6_hopsNow_30 : decode cX6_hopsNow 30 = .ok (.ireturn, 1) := by decide +kernel
theorem dX6_hopsNow_31 : decode cX6_hopsNow 31 = .ok (.aload_n 0, 1) := by decide +kernel
theorem dX6_hopsNow_32 : decode cX6_hopsNow 32 = .ok (.getfield 44, 3) := by decide +kernel
theorem dX6_hopsNow_35 : decode cX6_hopsNow 35 = .ok (.iload_n 1, 1) := by decide +kernel
theorem dX6_hopsNow_36 : decode cX6_hopsNow 36 = .ok (.iaload, 1) := by decide +kernel
theorem dX6_hopsNow_37 : decode cX6_hopsNow 37 = .ok (.istore_n 3, 1) := by decide +kernel
theorem dX6_hopsNow_38 : decode cX6_hopsNow 38 = .ok (.iconst 0, 1) := by decide +kernel
theorem dX6_hopsNow_39 : decode cX6_hopsNow 39 = .ok (.istore 4, 2) := by decide +kernel
theorem dX6_hopsNow_41 : decode cX6_hopsNow 41 = .ok (.aload_n 0, 1) := by decide +kernel
theorem dX6_hopsNow_42 : decode cX6_hopsNow 42 = .ok (.iload_n 3, 1) := by decide +kernel
theorem dX6_hopsNow_43 : decode cX6_hopsNow 43 = .ok (.iload_n 2, 1) := by decide +kernel
theorem dX6_hopsNow_44 : decode cX6_hopsNow 44 = .ok (.invokevirtual 155, 3) := by decide +kernel
theorem dX6_hopsNow_47 : decode cX6_hopsNow 47 = .ok (.ifCond .ne 33, 3) := by decide +kernel
theorem dX6_hopsNow_50 : decode cX6_hopsNow 50 = .ok (.aload_n 0, 1) := by decide +kernel
theorem dX6_hopsNow_51 : decode cX6_hopsNow 51 = .ok (.iload_n 3, 1) := by decide +kernel
theorem dX6_hopsNow_52 : decode cX6_hopsNow 52 = .ok (.iload_n 2, 1) := by decide +kernel
theorem dX6_hopsNow_53 : decode cX6_hopsNow 53 = .ok (.invokevirtual 159, 3) := by decide +kernel
theorem dX6_hopsNow_56 : decode cX6_hopsNow 56 = .ok (.istore 5, 2) := by decide +kernel
theorem dX6_hopsNow_58 : decode cX6_hopsNow 58 = .ok (.iload 5, 2) := by decide +kernel
theorem dX6_hopsNow_60 : decode cX6_hopsNow 60 = .ok (.iconst (-1), 1) := by decide +kernel
theorem dX6_hopsNow_61 : decode cX6_hopsNow 61 = .ok (.if_icmp .ne 5, 3) := by decide +kernel
theorem dX6_hopsNow_64 : decode cX6_hopsNow 64 = .ok (.iconst (-1), 1) := by decide +kernel
theorem dX6_hopsNow_65 : decode cX6_hopsNow 65 = .ok (.ireturn, 1) := by decide +kernel
theorem dX6_hopsNow_66 : decode cX6_hopsNow 66 = .ok (.aload_n 0, 1) := by decide +kernel
theorem dX6_hopsNow_67 : decode cX6_hopsNow 67 = .ok (.getfield 47, 3) := by decide +kernel
theorem dX6_hopsNow_70 : decode cX6_hopsNow 70 = .ok (.iload 5, 2) := by decide +kernel
theorem dX6_hopsNow_72 : decode cX6_hopsNow 72 = .ok (.iaload, 1) := by decide +kernel
theorem dX6_hopsNow_73 : decode cX6_hopsNow 73 = .ok (.istore_n 3, 1) := by decide +kernel
theorem dX6_hopsNow_74 : decode cX6_hopsNow 74 = .ok (.iinc 4 1, 3) := by decide +kernel
theorem dX6_hopsNow_77 : decode cX6_hopsNow 77 = .ok (.goto (-36), 3) := by decide +kernel
theorem dX6_hopsNow_80 : decode cX6_hopsNow 80 = .ok (.iload 4, 2) := by decide +kernel
theorem dX6_hopsNow_82 : decode cX6_hopsNow 82 = .ok (.ireturn, 1) := by decide +kernel
theorem qX6_hops_r1 {w : Cond} (h : w ∈ wsX6_hops_r1) : w ∈ wsX6_hops := List.mem_cons_of_mem _ (List.mem_append_left _ (List.mem_append_left _ (h)))
theorem qX6_hops_r2 {w : Cond} (h : w ∈ wsX6_hops_r2) : w ∈ wsX6_hops := List.mem_cons_of_mem _ (List.mem_append_left _ (List.mem_append_right _ (h)))
set_option maxRecDepth 20000 in
theorem ggX6_hops_X6_isItem : GoodIn wsX6_hops wsX6_isItem := goodIn_sub (fm_c (qX6_hops_r1 (mg 5 rfl)) (ms_a (fm_c (qX6_hops_r1 (mg 6 rfl)) (fm_c (qX6_hops_r1 (mg 7 rfl)) (fm_c (qX6_hops_r1 (mg 8 rfl)) (fm_c (qX6_hops_r1 (mg 4 rfl)) (fm_c (qX6_hops_r1 (mg 9 rfl)) (fm_n)))))) (fun _ h => List.mem_cons_of_mem _ (List.mem_append_right _ (h))))) (by decide +kernel)
set_option maxRecDepth 20000 in
theorem gX6_hops_X6_isItem : GoodIn wsX6_hops (wsV RX6 126 RX6 yX6_isItem wsX6_isItem) := goodIn_app (goodIn_sub (fm_c (qX6_hops_r1 (mg 1 rfl)) (fm_c (qX6_hops_r1 (mg 2 rfl)) (fm_c (qX6_hops_r1 (mg 3 rfl)) (fm_c (qX6_hops_r1 (mg 4 rfl)) (fm_n))))) (by decide +kernel)) ggX6_hops_X6_isItem
set_option maxRecDepth 20000 in
theorem ggX6_hops_X6_hopsNow : GoodIn wsX6_hops wsX6_hopsNow := goodIn_sub (fm_c (qX6_hops_r1 (mg 13 rfl)) (ms_a (ms_a (fm_c (qX6_hops_r1 (mg 14 rfl)) (fm_c (qX6_hops_r1 (mg 15 rfl)) (fm_c (qX6_hops_r1 (mg 16 rfl)) (fm_c (qX6_hops_r1 (mg 17 rfl)) (fm_c (qX6_hops_r1 (mg 18 rfl)) (fm_c (qX6_hops_r1 (mg 19 rfl)) (fm_c (qX6_hops_r1 (mg 20 rfl)) (fm_c (qX6_hops_r1 (mg 4 rfl)) (fm_c (qX6_hops_r1 (mg 21 rfl)) (fm_c (qX6_hops_r1 (mg 22 rfl)) (fm_c (qX6_hops_r1 (mg 23 rfl)) (fm_c (qX6_hops_r2 (mg 0 rfl)) (fm_c (qX6_hops_r2 (mg 1 rfl)) (fm_c (qX6_hops_r2 (mg 2 rfl)) (fm_c (qX6_hops_r2 (mg 3 rfl)) (fm_c (qX6_hops_r2 (mg 4 rfl)) (fm_c (qX6_hops_r2 (mg 5 rfl)) (fm_c (qX6_hops_r2 (mg 6 rfl)) (fm_c (qX6_hops_r2 (mg 7 rfl)) (fm_c (qX6_hops_r2 (mg 8 rfl)) (fm_c (qX6_hops_r2 (mg 9 rfl)) (fm_c (qX6_hops_r2 (mg 10 rfl)) (fm_c (qX6_hops_r2 (mg 11 rfl)) (fm_c (qX6_hops_r2 (mg 12 rfl)) (fm_n))))))))))))))))))))))))) (fm_c (qX6_hops_r2 (mg 13 rfl)) (fm_n))) (fun _ h => List.mem_cons_of_mem _ (List.mem_append_right _ (h))))) (by decide +kernel)
set_option maxRecDepth 20000 in
theorem gX6_hops_X6_hopsNow : GoodIn wsX6_hops (wsV RX6 219 RX6 yX6_hopsNow wsX6_hopsNow) := goodIn_app (goodIn_sub (fm_c (qX6_hops_r1 (mg 10 rfl)) (fm_c (qX6_hops_r1 (mg 11 rfl)) (fm_c (qX6_hops_r1 (mg 12 rfl)) (fm_c (qX6_hops_r1 (mg 4 rfl)) (fm_n))))) (by decide +kernel)) ggX6_hops_X6_hopsNow
theorem dX6_hops_0 : decode cX6_hops 0 = .ok (.aload_n 0, 1) := by decide +kernel
theorem dX6_hops_1 : decode cX6_hops 1 = .ok (.iload_n 1, 1) := by decide +kernel
theorem dX6_hops_2 : decode cX6_hops 2 = .ok (.invokevirtual 126, 3) := by decide +kernel
theorem dX6_hops_5 : decode cX6_hops 5 = .ok (.ifCond .ne 7, 3) := by decide +kernel
theorem dX6_hops_8 : decode cX6_hops 8 = .ok (.sipush (-1001), 3) := by decide +kernel
theorem dX6_hops_11 : decode cX6_hops 11 = .ok (.ireturn, 1) := by decide +kernel
theorem dX6_hops_12 : decode cX6_hops 12 = .ok (.aload_n 0, 1) := by decide +kernel
theorem dX6_hops_13 : decode cX6_hops 13 = .ok (.getfield 13, 3) := by decide +kernel
theorem dX6_hops_16 : decode cX6_hops 16 = .ok (.iload_n 1, 1) := by decide +kernel
theorem dX6_hops_17 : decode cX6_hops 17 = .ok (.iaload, 1) := by decide +kernel
theorem dX6_hops_18 : decode cX6_hops 18 = .ok (.iconst 2, 1) := by decide +kernel
theorem dX6_hops_19 : decode cX6_hops 19 = .ok (.if_icmp .ne 11, 3) := by decide +kernel
theorem dX6_hops_22 : decode cX6_hops 22 = .ok (.aload_n 0, 1) := by decide +kernel
theorem dX6_hops_23 : decode cX6_hops 23 = .ok (.iload_n 1, 1) := by decide +kernel
theorem dX6_hops_24 : decode cX6_hops 24 = .ok (.invokevirtual 219, 3) := by decide +kernel
theorem dX6_hops_27 : decode cX6_hops 27 = .ok (.goto 6, 3) := by decide +kernel
theorem dX6_hops_30 : decode cX6_hops 30 = .ok (.sipush (-1003), 3) := by decide +kernel
theorem dX6_hops_33 : decode cX6_hops 33 = .ok (.ireturn, 1) := by decide +kernel
theorem dX6_longMany_0 : decode cX6_longMany 0 = .ok (.iconst 0, 1) := by decide +kernel
theorem dX6_longMany_1 : decode cX6_longMany 1 = .ok (.istore_n 1, 1) := by decide +kernel
theorem dX6_longMany_2 : decode cX6_longMany 2 = .ok (.iconst 0, 1) := by decide +kernel
theorem dX6_longMany_3 : decode cX6_longMany 3 = .ok (.istore_n 2, 1) := by decide +kernel
theorem dX6_longMany_4 : decode cX6_longMany 4 = .ok (.iload_n 2, 1) := by decide +kernel
theorem dX6_longMany_5 : decode cX6_longMany 5 = .ok (.aload_n 0, 1) := by decide +kernel
theorem dX6_longMany_6 : decode cX6_longMany 6 = .ok (.getfield 114, 3) := by decide +kernel
theorem dX6_longMany_9 : decode cX6_longMany 9 = .ok (.if_icmp .ge 26, 3) := by decide +kernel
theorem dX6_longMany_12 : decode cX6_longMany 12 = .ok (.iload_n 1, 1) := by decide +kernel
theorem dX6_longMany_13 : decode cX6_longMany 13 = .ok (.aload_n 0, 1) := by decide +kernel
theorem dX6_longMany_14 : decode cX6_longMany 14 = .ok (.getfield 28, 3) := by decide +kernel
theorem dX6_longMany_17 : decode cX6_longMany 17 = .ok (.iload_n 2, 1) := by decide +kernel
theorem dX6_longMany_18 : decode cX6_longMany 18 = .ok (.baload, 1) := by decide +kernel
theorem dX6_longMany_19 : decode cX6_longMany 19 = .ok (.ifCond .eq 7, 3) := by decide +kernel
theorem dX6_longMany_22 : decode cX6_longMany 22 = .ok (.iconst 1, 1) := by decide +kernel
theorem dX6_longMany_23 : decode cX6_longMany 23 = .ok (.goto 4, 3) := by decide +kernel
theorem dX6_longMany_26 : decode cX6_longMany 26 = .ok (.iconst 0, 1) := by decide +kernel
theorem dX6_longMany_27 : decode cX6_longMany 27 = .ok (.iadd, 1) := by decide +kernel
theorem dX6_longMany_28 : decode cX6_longMany 28 = .ok (.istore_n 1, 1) := by decide +kernel
theorem dX6_longMany_29 : decode cX6_longMany 29 = .ok (.iinc 2 1, 3) := by decide +kernel
theorem dX6_longMany_32 : decode cX6_longMany 32 = .ok (.goto (-28), 3) := by decide +kernel
theorem dX6_longMany_35 : decode cX6_longMany 35 = .ok (.iload_n 1, 1) := by decide +kernel
theorem dX6_longMany_36 : decode cX6_longMany 36 = .ok (.ireturn, 1) := by decide +kernel
set_option maxRecDepth 20000 in
theorem ggX6_placedNow_X6_longMany : GoodIn wsX6_placedNow wsX6_longMany := goodIn_sub (fm_c (List.mem_cons_of_mem _ (List.mem_append_left _ (mg 13 rfl))) (ms_a (fm_c (List.mem_cons_of_mem _ (List.mem_append_left _ (mg 2 rfl))) (fm_c (List.mem_cons_of_mem _ (List.mem_append_left _ (mg 14 rfl))) (fm_n))) (fun _ h => List.mem_cons_of_mem _ (List.mem_append_right _ (h))))) (by decide +kernel)
set_option maxRecDepth 20000 in
theorem gX6_placedNow_X6_longMany : GoodIn wsX6_placedNow (wsV RX6 222 RX6 yX6_longMany wsX6_longMany) := goodIn_app (goodIn_sub (fm_c (List.mem_cons_of_mem _ (List.mem_append_left _ (mg 9 rfl))) (fm_c (List.mem_cons_of_mem _ (List.mem_append_left _ (mg 10 rfl))) (fm_c (List.mem_cons_of_mem _ (List.mem_append_left _ (mg 11 rfl))) (fm_c (List.mem_cons_of_mem _ (List.mem_append_left _ (mg 12 rfl))) (fm_n))))) (by decide +kernel)) ggX6_placedNow_X6_longMany
theorem dX6_placedNow_0 : decode cX6_placedNow 0 = .ok (.iload_n 1, 1) := by decide +kernel
theorem dX6_placedNow_1 : decode cX6_placedNow 1 = .ok (.tableswitch 117 0 7 #[47, 60, 65, 81, 97, 102, 107, 112], 47) := by decide +kernel
theorem dX6_placedNow_48 : decode cX6_placedNow 48 = .ok (.aload_n 0, 1) := by decide +kernel
theorem dX6_placedNow_49 : decode cX6_placedNow 49 = .ok (.getfield 62, 3) := by decide +kernel
theorem dX6_placedNow_52 : decode cX6_placedNow 52 = .ok (.ifCond .eq 7, 3) := by decide +kernel
theorem dX6_placedNow_55 : decode cX6_placedNow 55 = .ok (.iconst 1, 1) := by decide +kernel
theorem dX6_placedNow_56 : decode cX6_placedNow 56 = .ok (.goto 4, 3) := by decide +kernel
theorem dX6_placedNow_59 : decode cX6_placedNow 59 = .ok (.iconst 0, 1) := by decide +kernel
theorem dX6_placedNow_60 : decode cX6_placedNow 60 = .ok (.ireturn, 1) := by decide +kernel
theorem dX6_placedNow_61 : decode cX6_placedNow 61 = .ok (.aload_n 0, 1) := by decide +kernel
theorem dX6_placedNow_62 : decode cX6_placedNow 62 = .ok (.getfield 197, 3) := by decide +kernel
theorem dX6_placedNow_65 : decode cX6_placedNow 65 = .ok (.ireturn, 1) := by decide +kernel
theorem dX6_placedNow_66 : decode cX6_placedNow 66 = .ok (.aload_n 0, 1) := by decide +kernel
theorem dX6_placedNow_67 : decode cX6_placedNow 67 = .ok (.getfield 114, 3) := by decide +kernel
theorem dX6_placedNow_70 : decode cX6_placedNow 70 = .ok (.ifCond .le 10, 3) := by decide +kernel
theorem dX6_placedNow_73 : decode cX6_placedNow 73 = .ok (.aload_n 0, 1) := by decide +kernel
theorem dX6_placedNow_74 : decode cX6_placedNow 74 = .ok (.getfield 148, 3) := by decide +kernel
theorem dX6_placedNow_77 : decode cX6_placedNow 77 = .ok (.goto 4, 3) := by decide +kernel
theorem dX6_placedNow_80 : decode cX6_placedNow 80 = .ok (.iconst 0, 1) := by decide +kernel
theorem dX6_placedNow_81 : decode cX6_placedNow 81 = .ok (.ireturn, 1) := by decide +kernel
theorem dX6_placedNow_82 : decode cX6_placedNow 82 = .ok (.aload_n 0, 1) := by decide +kernel
theorem dX6_placedNow_83 : decode cX6_placedNow 83 = .ok (.getfield 114, 3) := by decide +kernel
theorem dX6_placedNow_86 : decode cX6_placedNow 86 = .ok (.ifCond .le 10, 3) := by decide +kernel
theorem dX6_placedNow_89 : decode cX6_placedNow 89 = .ok (.aload_n 0, 1) := by decide +kernel
theorem dX6_placedNow_90 : decode cX6_placedNow 90 = .ok (.getfield 139, 3) := by decide +kernel
theorem dX6_placedNow_93 : decode cX6_placedNow 93 = .ok (.goto 4, 3) := by decide +kernel
theorem dX6_placedNow_96 : decode cX6_placedNow 96 = .ok (.iconst 0, 1) := by decide +kernel
theorem dX6_placedNow_97 : decode cX6_placedNow 97 = .ok (.ireturn, 1) := by decide +kernel
theorem dX6_placedNow_98 : decode cX6_placedNow 98 = .ok (.aload_n 0, 1) := by decide +kernel
theorem dX6_placedNow_99 : decode cX6_placedNow 99 = .ok (.getfield 171, 3) := by decide +kernel
theorem dX6_placedNow_102 : decode cX6_placedNow 102 = .ok (.ireturn, 1) := by decide +kernel
theorem dX6_placedNow_103 : decode cX6_placedNow 103 = .ok (.aload_n 0, 1) := by decide +kernel
theorem dX6_placedNow_104 : decode cX6_placedNow 104 = .ok (.getfield 66, 3) := by decide +kernel
theorem dX6_placedNow_107 : decode cX6_placedNow 107 = .ok (.ireturn, 1) := by decide +kernel
theorem dX6_placedNow_108 : decode cX6_placedNow 108 = .ok (.aload_n 0, 1) := by decide +kernel
theorem dX6_placedNow_109 : decode cX6_placedNow 109 = .ok (.getfield 133, 3) := by decide +kernel
theorem dX6_placedNow_112 : decode cX6_placedNow 112 = .ok (.ireturn, 1) := by decide +kernel
theorem dX6_placedNow_113 : decode cX6_placedNow 113 = .ok (.aload_n 0, 1) := by decide +kernel
theorem dX6_placedNow_114 : decode cX6_placedNow 114 = .ok (.getfield 136, 3) := by decide +kernel
theorem dX6_placedNow_117 : decode cX6_placedNow 117 = .ok (.ireturn, 1) := by decide +kernel
theorem dX6_placedNow_118 : decode cX6_placedNow 118 = .ok (.aload_n 0, 1) := by decide +kernel
theorem dX6_placedNow_119 : decode cX6_placedNow 119 = .ok (.invokevirtual 222, 3) := by decide +kernel
theorem dX6_placedNow_122 : decode cX6_placedNow 122 = .ok (.ireturn, 1) := by decide +kernel
set_option maxRecDepth 20000 in
theorem ggX6_placed_X6_within : GoodIn wsX6_placed wsX6_within := goodIn_sub (fm_c (List.mem_cons_of_mem _ (List.mem_append_left _ (mg 3 rfl))) (fm_n)) (by decide +kernel)
set_option maxRecDepth 20000 in
theorem gX6_placed_X6_within : GoodIn wsX6_placed (va_wsS RX6 70 yX6_within wsX6_within) := goodIn_app (goodIn_sub (fm_c (List.mem_cons_of_mem _ (List.mem_append_left _ (mg 0 rfl))) (fm_c (List.mem_cons_of_mem _ (List.mem_append_left _ (mg 1 rfl))) (fm_c (List.mem_cons_of_mem _ (List.mem_append_left _ (mg 2 rfl))) (fm_n)))) (by decide +kernel)) ggX6_placed_X6_within
set_option maxRecDepth 20000 in
theorem ggX6_placed_X6_placedNow : GoodIn wsX6_placed wsX6_placedNow := goodIn_sub (fm_c (List.mem_cons_of_mem _ (List.mem_append_left _ (mg 7 rfl))) (ms_a (fm_c (List.mem_cons_of_mem _ (List.mem_append_left _ (mg 8 rfl))) (fm_c (List.mem_cons_of_mem _ (List.mem_append_left _ (mg 9 rfl))) (fm_c (List.mem_cons_of_mem _ (List.mem_append_left _ (mg 10 rfl))) (fm_c (List.mem_cons_of_mem _ (List.mem_append_left _ (mg 11 rfl))) (fm_c (List.mem_cons_of_mem _ (List.mem_append_left _ (mg 12 rfl))) (fm_c (List.mem_cons_of_mem _ (List.mem_append_left _ (mg 13 rfl))) (fm_c (List.mem_cons_of_mem _ (List.mem_append_left _ (mg 14 rfl))) (fm_c (List.mem_cons_of_mem _ (List.mem_append_left _ (mg 15 rfl))) (fm_c (List.mem_cons_of_mem _ (List.mem_append_left _ (mg 16 rfl))) (fm_c (List.mem_cons_of_mem _ (List.mem_append_left _ (mg 17 rfl))) (fm_c (List.mem_cons_of_mem _ (List.mem_append_left _ (mg 18 rfl))) (fm_c (List.mem_cons_of_mem _ (List.mem_append_left _ (mg 19 rfl))) (fm_c (List.mem_cons_of_mem _ (List.mem_append_left _ (mg 2 rfl))) (fm_c (List.mem_cons_of_mem _ (List.mem_append_left _ (mg 20 rfl))) (fm_c (List.mem_cons_of_mem _ (List.mem_append_left _ (mg 21 rfl))) (fm_n)))))))))))))))) (fun _ h => List.mem_cons_of_mem _ (List.mem_append_right _ (h))))) (by decide +kernel)
set_option maxRecDepth 20000 in
theorem gX6_placed_X6_placedNow : GoodIn wsX6_placed (wsV RX6 225 RX6 yX6_placedNow wsX6_placedNow) := goodIn_app (goodIn_sub (fm_c (List.mem_cons_of_mem _ (List.mem_append_left _ (mg 4 rfl))) (fm_c (List.mem_cons_of_mem _ (List.mem_append_left _ (mg 5 rfl))) (fm_c (List.mem_cons_of_mem _ (List.mem_append_left _ (mg 6 rfl))) (fm_c (List.mem_cons_of_mem _ (List.mem_append_left _ (mg 2 rfl))) (fm_n))))) (by decide +kernel)) ggX6_placed_X6_placedNow
theorem dX6_placed_0 : decode cX6_placed 0 = .ok (.iload_n 1, 1) := by decide +kernel
theorem dX6_placed_1 : decode cX6_placed 1 = .ok (.iconst 0, 1) := by decide +kernel
theorem dX6_placed_2 : decode cX6_placed 2 = .ok (.bipush 8, 2) := by decide +kernel
theorem dX6_placed_4 : decode cX6_placed 4 = .ok (.invokestatic 70, 3) := by decide +kernel
theorem dX6_placed_7 : decode cX6_placed 7 = .ok (.ifCond .eq 11, 3) := by decide +kernel
theorem dX6_placed_10 : decode cX6_placed 10 = .ok (.aload_n 0, 1) := by decide +kernel
theorem dX6_placed_11 : decode cX6_placed 11 = .ok (.iload_n 1, 1) := by decide +kernel
theorem dX6_placed_12 : decode cX6_placed 12 = .ok (.invokevirtual 225, 3) := by decide +kernel
theorem dX6_placed_15 : decode cX6_placed 15 = .ok (.goto 6, 3) := by decide +kernel
theorem dX6_placed_18 : decode cX6_placed 18 = .ok (.sipush (-1002), 3) := by decide +kernel
theorem dX6_placed_21 : decode cX6_placed 21 = .ok (.ireturn, 1) := by decide +kernel
theorem dX6_gaps_0 : decode cX6_gaps 0 = .ok (.iconst 0, 1) := by decide +kernel
theorem dX6_gaps_1 : decode cX6_gaps 1 = .ok (.istore_n 1, 1) := by decide +kernel
theorem dX6_gaps_2 : decode cX6_gaps 2 = .ok (.iconst 0, 1) := by decide +kernel
theorem dX6_gaps_3 : decode cX6_gaps 3 = .ok (.istore_n 2, 1) := by decide +kernel
theorem dX6_gaps_4 : decode cX6_gaps 4 = .ok (.iload_n 2, 1) := by decide +kernel
theorem dX6_gaps_5 : decode cX6_gaps 5 = .ok (.aload_n 0, 1) := by decide +kernel
theorem dX6_gaps_6 : decode cX6_gaps 6 = .ok (.getfield 114, 3) := by decide +kernel
theorem dX6_gaps_9 : decode cX6_gaps 9 = .ok (.if_icmp .ge 27, 3) := by decide +kernel
theorem dX6_gaps_12 : decode cX6_gaps 12 = .ok (.iload_n 1, 1) := by decide +kernel
theorem dX6_gaps_13 : decode cX6_gaps 13 = .ok (.aload_n 0, 1) := by decide +kernel
theorem dX6_gaps_14 : decode cX6_gaps 14 = .ok (.getfield 13, 3) := by decide +kernel
theorem dX6_gaps_17 : decode cX6_gaps 17 = .ok (.iload_n 2, 1) := by decide +kernel
theorem dX6_gaps_18 : decode cX6_gaps 18 = .ok (.iaload, 1) := by decide +kernel
theorem dX6_gaps_19 : decode cX6_gaps 19 = .ok (.iconst 5, 1) := by decide +kernel
theorem dX6_gaps_20 : decode cX6_gaps 20 = .ok (.if_icmp .ne 7, 3) := by decide +kernel
theorem dX6_gaps_23 : decode cX6_gaps 23 = .ok (.iconst 1, 1) := by decide +kernel
theorem dX6_gaps_24 : decode cX6_gaps 24 = .ok (.goto 4, 3) := by decide +kernel
theorem dX6_gaps_27 : decode cX6_gaps 27 = .ok (.iconst 0, 1) := by decide +kernel
theorem dX6_gaps_28 : decode cX6_gaps 28 = .ok (.iadd, 1) := by decide +kernel
theorem dX6_gaps_29 : decode cX6_gaps 29 = .ok (.istore_n 1, 1) := by decide +kernel
theorem dX6_gaps_30 : decode cX6_gaps 30 = .ok (.iinc 2 1, 3) := by decide +kernel
theorem dX6_gaps_33 : decode cX6_gaps 33 = .ok (.goto (-29), 3) := by decide +kernel
theorem dX6_gaps_36 : decode cX6_gaps 36 = .ok (.iload_n 1, 1) := by decide +kernel
theorem dX6_gaps_37 : decode cX6_gaps 37 = .ok (.ireturn, 1) := by decide +kernel
set_option maxRecDepth 20000 in
theorem ggX6_howMany_X6_gaps : GoodIn wsX6_howMany wsX6_gaps := goodIn_sub (fm_c (List.mem_cons_of_mem _ (List.mem_append_left _ (mg 9 rfl))) (ms_a (fm_c (List.mem_cons_of_mem _ (List.mem_append_left _ (mg 0 rfl))) (fm_c (List.mem_cons_of_mem _ (List.mem_append_left _ (mg 10 rfl))) (fm_n))) (fun _ h => List.mem_cons_of_mem _ (List.mem_append_right _ (h))))) (by decide +kernel)
set_option maxRecDepth 20000 in
theorem gX6_howMany_X6_gaps : GoodIn wsX6_howMany (wsV RX6 228 RX6 yX6_gaps wsX6_gaps) := goodIn_app (goodIn_sub (fm_c (List.mem_cons_of_mem _ (List.mem_append_left _ (mg 5 rfl))) (fm_c (List.mem_cons_of_mem _ (List.mem_append_left _ (mg 6 rfl))) (fm_c (List.mem_cons_of_mem _ (List.mem_append_left _ (mg 7 rfl))) (fm_c (List.mem_cons_of_mem _ (List.mem_append_left _ (mg 8 rfl))) (fm_n))))) (by decide +kernel)) ggX6_howMany_X6_gaps
theorem dX6_howMany_0 : decode cX6_howMany 0 = .ok (.iload_n 1, 1) := by decide +kernel
theorem dX6_howMany_1 : decode cX6_howMany 1 = .ok (.tableswitch 81 0 7 #[47, 52, 57, 62, 62, 62, 71, 76], 47) := by decide +kernel
theorem dX6_howMany_48 : decode cX6_howMany 48 = .ok (.aload_n 0, 1) := by decide +kernel
theorem dX6_howMany_49 : decode cX6_howMany 49 = .ok (.getfield 114, 3) := by decide +kernel
theorem dX6_howMany_52 : decode cX6_howMany 52 = .ok (.ireturn, 1) := by decide +kernel
theorem dX6_howMany_53 : decode cX6_howMany 53 = .ok (.aload_n 0, 1) := by decide +kernel
theorem dX6_howMany_54 : decode cX6_howMany 54 = .ok (.getfield 74, 3) := by decide +kernel
theorem dX6_howMany_57 : decode cX6_howMany 57 = .ok (.ireturn, 1) := by decide +kernel
theorem dX6_howMany_58 : decode cX6_howMany 58 = .ok (.aload_n 0, 1) := by decide +kernel
theorem dX6_howMany_59 : decode cX6_howMany 59 = .ok (.invokevirtual 228, 3) := by decide +kernel
theorem dX6_howMany_62 : decode cX6_howMany 62 = .ok (.ireturn, 1) := by decide +kernel
theorem dX6_howMany_63 : decode cX6_howMany 63 = .ok (.aload_n 0, 1) := by decide +kernel
theorem dX6_howMany_64 : decode cX6_howMany 64 = .ok (.getfield 19, 3) := by decide +kernel
theorem dX6_howMany_67 : decode cX6_howMany 67 = .ok (.iload_n 1, 1) := by decide +kernel
theorem dX6_howMany_68 : decode cX6_howMany 68 = .ok (.iconst 3, 1) := by decide +kernel
theorem dX6_howMany_69 : decode cX6_howMany 69 = .ok (.isub, 1) := by decide +kernel
theorem dX6_howMany_70 : decode cX6_howMany 70 = .ok (.iaload, 1) := by decide +kernel
theorem dX6_howMany_71 : decode cX6_howMany 71 = .ok (.ireturn, 1) := by decide +kernel
theorem dX6_howMany_72 : decode cX6_howMany 72 = .ok (.aload_n 0, 1) := by decide +kernel
theorem dX6_howMany_73 : decode cX6_howMany 73 = .ok (.getfield 117, 3) := by decide +kernel
theorem dX6_howMany_76 : decode cX6_howMany 76 = .ok (.ireturn, 1) := by decide +kernel
theorem dX6_howMany_77 : decode cX6_howMany 77 = .ok (.aload_n 0, 1) := by decide +kernel
theorem dX6_howMany_78 : decode cX6_howMany 78 = .ok (.getfield 123, 3) := by decide +kernel
theorem dX6_howMany_81 : decode cX6_howMany 81 = .ok (.ireturn, 1) := by decide +kernel
theorem dX6_howMany_82 : decode cX6_howMany 82 = .ok (.sipush (-1002), 3) := by decide +kernel
theorem dX6_howMany_85 : decode cX6_howMany 85 = .ok (.ireturn, 1) := by decide +kernel
set_option maxRecDepth 20000 in
theorem ggX6_count_X6_howMany : GoodIn wsX6_count wsX6_howMany := goodIn_sub (fm_c (List.mem_cons_of_mem _ (List.mem_append_left _ (mg 4 rfl))) (ms_a (fm_c (List.mem_cons_of_mem _ (List.mem_append_left _ (mg 5 rfl))) (fm_c (List.mem_cons_of_mem _ (List.mem_append_left _ (mg 6 rfl))) (fm_c (List.mem_cons_of_mem _ (List.mem_append_left _ (mg 7 rfl))) (fm_c (List.mem_cons_of_mem _ (List.mem_append_left _ (mg 8 rfl))) (fm_c (List.mem_cons_of_mem _ (List.mem_append_left _ (mg 9 rfl))) (fm_c (List.mem_cons_of_mem _ (List.mem_append_left _ (mg 10 rfl))) (fm_c (List.mem_cons_of_mem _ (List.mem_append_left _ (mg 11 rfl))) (fm_c (List.mem_cons_of_mem _ (List.mem_append_left _ (mg 12 rfl))) (fm_c (List.mem_cons_of_mem _ (List.mem_append_left _ (mg 3 rfl))) (fm_c (List.mem_cons_of_mem _ (List.mem_append_left _ (mg 13 rfl))) (fm_c (List.mem_cons_of_mem _ (List.mem_append_left _ (mg 14 rfl))) (fm_n)))))))))))) (fun _ h => List.mem_cons_of_mem _ (List.mem_append_right _ (h))))) (by decide +kernel)
set_option maxRecDepth 20000 in
theorem gX6_count_X6_howMany : GoodIn wsX6_count (wsV RX6 231 RX6 yX6_howMany wsX6_howMany) := goodIn_app (goodIn_sub (fm_c (List.mem_cons_of_mem _ (List.mem_append_left _ (mg 0 rfl))) (fm_c (List.mem_cons_of_mem _ (List.mem_append_left _ (mg 1 rfl))) (fm_c (List.mem_cons_of_mem _ (List.mem_append_left _ (mg 2 rfl))) (fm_c (List.mem_cons_of_mem _ (List.mem_append_left _ (mg 3 rfl))) (fm_n))))) (by decide +kernel)) ggX6_count_X6_howMany
theorem dX6_count_0 : decode cX6_count 0 = .ok (.aload_n 0, 1) := by decide +kernel
theorem dX6_count_1 : decode cX6_count 1 = .ok (.iload_n 1, 1) := by decide +kernel
theorem dX6_count_2 : decode cX6_count 2 = .ok (.invokevirtual 231, 3) := by decide +kernel
theorem dX6_count_5 : decode cX6_count 5 = .ok (.ireturn, 1) := by decide +kernel
theorem dX6_mix_0 : decode cX6_mix 0 = .ok (.aload_n 0, 1) := by decide +kernel
theorem dX6_mix_1 : decode cX6_mix 1 = .ok (.ldc2_w 234, 3) := by decide +kernel
theorem dX6_mix_4 : decode cX6_mix 4 = .ok (.aload_n 0, 1) := by decide +kernel
theorem dX6_mix_5 : decode cX6_mix 5 = .ok (.getfield 236, 3) := by decide +kernel
theorem dX6_mix_8 : decode cX6_mix 8 = .ok (.lmul, 1) := by decide +kernel
theorem dX6_mix_9 : decode cX6_mix 9 = .ok (.lload_n 1, 1) := by decide +kernel
theorem dX6_mix_10 : decode cX6_mix 10 = .ok (.ladd, 1) := by decide +kernel
theorem dX6_mix_11 : decode cX6_mix 11 = .ok (.putfield 236, 3) := by decide +kernel
theorem dX6_mix_14 : decode cX6_mix 14 = .ok (.return_, 1) := by decide +kernel
theorem qX6_digest_r1 {w : Cond} (h : w ∈ wsX6_digest_r1) : w ∈ wsX6_digest := List.mem_cons_of_mem _ (List.mem_append_left _ (List.mem_append_left _ (h)))
theorem qX6_digest_r2 {w : Cond} (h : w ∈ wsX6_digest_r2) : w ∈ wsX6_digest := List.mem_cons_of_mem _ (List.mem_append_left _ (List.mem_append_right _ (List.mem_append_left _ (h))))
theorem qX6_digest_r3 {w : Cond} (h : w ∈ wsX6_digest_r3) : w ∈ wsX6_digest := List.mem_cons_of_mem _ (List.mem_append_left _ (List.mem_append_right _ (List.mem_append_right _ (List.mem_append_left _ (h)))))
theorem qX6_digest_r4 {w : Cond} (h : w ∈ wsX6_digest_r4) : w ∈ wsX6_digest := List.mem_cons_of_mem _ (List.mem_append_left _ (List.mem_append_right _ (List.mem_append_right _ (List.mem_append_right _ (List.mem_append_left _ (h))))))
theorem qX6_digest_r5 {w : Cond} (h : w ∈ wsX6_digest_r5) : w ∈ wsX6_digest := List.mem_cons_of_mem _ (List.mem_append_left _ (List.mem_append_right _ (List.mem_append_right _ (List.mem_append_right _ (List.mem_append_right _ (h))))))
set_option maxRecDepth 20000 in
theorem ggX6_digest_X6_itemNow : GoodIn wsX6_digest wsX6_itemNow := goodIn_sub (fm_c (qX6_digest_r1 (mg 11 rfl)) (ms_a (ms_a (fm_c (qX6_digest_r1 (mg 12 rfl)) (fm_c (qX6_digest_r1 (mg 13 rfl)) (fm_c (qX6_digest_r1 (mg 14 rfl)) (fm_c (qX6_digest_r1 (mg 15 rfl)) (fm_c (qX6_digest_r1 (mg 16 rfl)) (fm_c (qX6_digest_r1 (mg 17 rfl)) (fm_c (qX6_digest_r1 (mg 18 rfl)) (fm_c (qX6_digest_r1 (mg 10 rfl)) (fm_c (qX6_digest_r1 (mg 19 rfl)) (fm_c (qX6_digest_r1 (mg 20 rfl)) (fm_c (qX6_digest_r1 (mg 21 rfl)) (fm_c (qX6_digest_r1 (mg 22 rfl)) (fm_c (qX6_digest_r1 (mg 23 rfl)) (fm_c (qX6_digest_r2 (mg 0 rfl)) (fm_c (qX6_digest_r2 (mg 1 rfl)) (fm_c (qX6_digest_r2 (mg 2 rfl)) (fm_c (qX6_digest_r2 (mg 3 rfl)) (fm_c (qX6_digest_r2 (mg 4 rfl)) (fm_c (qX6_digest_r2 (mg 5 rfl)) (fm_c (qX6_digest_r2 (mg 6 rfl)) (fm_c (qX6_digest_r2 (mg 7 rfl)) (fm_c (qX6_digest_r1 (mg 4 rfl)) (fm_c (qX6_digest_r2 (mg 8 rfl)) (fm_c (qX6_digest_r2 (mg 9 rfl)) (fm_n))))))))))))))))))))))))) (fm_c (qX6_digest_r2 (mg 10 rfl)) (fm_c (qX6_digest_r2 (mg 11 rfl)) (fm_c (qX6_digest_r2 (mg 12 rfl)) (fm_c (qX6_digest_r2 (mg 13 rfl)) (fm_c (qX6_digest_r2 (mg 14 rfl)) (fm_c (qX6_digest_r2 (mg 15 rfl)) (fm_c (qX6_digest_r2 (mg 16 rfl)) (fm_c (qX6_digest_r2 (mg 17 rfl)) (fm_c (qX6_digest_r2 (mg 18 rfl)) (fm_c (qX6_digest_r2 (mg 19 rfl)) (fm_c (qX6_digest_r2 (mg 20 rfl)) (fm_c (qX6_digest_r2 (mg 21 rfl)) (fm_c (qX6_digest_r2 (mg 22 rfl)) (fm_c (qX6_digest_r2 (mg 23 rfl)) (fm_c (qX6_digest_r3 (mg 0 rfl)) (fm_c (qX6_digest_r3 (mg 1 rfl)) (fm_c (qX6_digest_r3 (mg 2 rfl)) (fm_c (qX6_digest_r1 (mg 3 rfl)) (fm_c (qX6_digest_r3 (mg 3 rfl)) (fm_c (qX6_digest_r3 (mg 4 rfl)) (fm_c (qX6_digest_r3 (mg 5 rfl)) (fm_c (qX6_digest_r3 (mg 6 rfl)) (fm_c (qX6_digest_r3 (mg 7 rfl)) (fm_c (qX6_digest_r3 (mg 8 rfl)) (fm_n)))))))))))))))))))))))))) (fun _ h => List.mem_cons_of_mem _ (List.mem_append_right _ (h))))) (by decide +kernel)
set_option maxRecDepth 20000 in
theorem gX6_digest_X6_itemNow : GoodIn wsX6_digest (wsV RX6 207 RX6 yX6_itemNow wsX6_itemNow) := goodIn_app (goodIn_sub (fm_c (qX6_digest_r1 (mg 7 rfl)) (fm_c (qX6_digest_r1 (mg 8 rfl)) (fm_c (qX6_digest_r1 (mg 9 rfl)) (fm_c (qX6_digest_r1 (mg 10 rfl)) (fm_n))))) (by decide +kernel)) ggX6_digest_X6_itemNow
set_option maxRecDepth 20000 in
theorem ggX6_digest_X6_mix : GoodIn wsX6_digest wsX6_mix := goodIn_sub (fm_c (qX6_digest_r3 (mg 12 rfl)) (ms_a (fm_c (qX6_digest_r3 (mg 13 rfl)) (fm_c (qX6_digest_r1 (mg 1 rfl)) (fm_n))) (fun _ h => List.mem_cons_of_mem _ (List.mem_append_right _ (h))))) (by decide +kernel)
set_option maxRecDepth 20000 in
theorem gX6_digest_X6_mix : GoodIn wsX6_digest (wsV RX6 242 RX6 yX6_mix wsX6_mix) := goodIn_app (goodIn_sub (fm_c (qX6_digest_r3 (mg 9 rfl)) (fm_c (qX6_digest_r3 (mg 10 rfl)) (fm_c (qX6_digest_r3 (mg 11 rfl)) (fm_c (qX6_digest_r1 (mg 10 rfl)) (fm_n))))) (by decide +kernel)) ggX6_digest_X6_mix
set_option maxRecDepth 20000 in
theorem ggX6_digest_X6_islandNow : GoodIn wsX6_digest wsX6_islandNow := goodIn_sub (fm_c (qX6_digest_r3 (mg 17 rfl)) (ms_a (fm_c (qX6_digest_r3 (mg 3 rfl)) (fm_c (qX6_digest_r3 (mg 18 rfl)) (fm_c (qX6_digest_r2 (mg 15 rfl)) (fm_c (qX6_digest_r2 (mg 10 rfl)) (fm_c (qX6_digest_r2 (mg 11 rfl)) (fm_c (qX6_digest_r2 (mg 12 rfl)) (fm_c (qX6_digest_r1 (mg 10 rfl)) (fm_c (qX6_digest_r2 (mg 13 rfl)) (fm_c (qX6_digest_r2 (mg 14 rfl)) (fm_c (qX6_digest_r2 (mg 16 rfl)) (fm_c (qX6_digest_r2 (mg 17 rfl)) (fm_c (qX6_digest_r2 (mg 18 rfl)) (fm_c (qX6_digest_r2 (mg 19 rfl)) (fm_c (qX6_digest_r2 (mg 9 rfl)) (fm_c (qX6_digest_r2 (mg 20 rfl)) (fm_c (qX6_digest_r2 (mg 21 rfl)) (fm_c (qX6_digest_r2 (mg 22 rfl)) (fm_c (qX6_digest_r2 (mg 23 rfl)) (fm_c (qX6_digest_r3 (mg 0 rfl)) (fm_c (qX6_digest_r3 (mg 1 rfl)) (fm_c (qX6_digest_r3 (mg 2 rfl)) (fm_c (qX6_digest_r1 (mg 3 rfl)) (fm_c (qX6_digest_r3 (mg 4 rfl)) (fm_n)))))))))))))))))))))))) (fun _ h => List.mem_cons_of_mem _ (List.mem_append_right _ (h))))) (by decide +kernel)
set_option maxRecDepth 20000 in
theorem gX6_digest_X6_islandNow : GoodIn wsX6_digest (wsV RX6 210 RX6 yX6_islandNow wsX6_islandNow) := goodIn_app (goodIn_sub (fm_c (qX6_digest_r3 (mg 14 rfl)) (fm_c (qX6_digest_r3 (mg 15 rfl)) (fm_c (qX6_digest_r3 (mg 16 rfl)) (fm_c (qX6_digest_r1 (mg 10 rfl)) (fm_n))))) (by decide +kernel)) ggX6_digest_X6_islandNow
set_option maxRecDepth 20000 in
theorem ggX6_digest_X6_constantNow : GoodIn wsX6_digest wsX6_constantNow := goodIn_sub (fm_c (qX6_digest_r3 (mg 22 rfl)) (ms_a (fm_c (qX6_digest_r2 (mg 8 rfl)) (fm_c (qX6_digest_r3 (mg 23 rfl)) (fm_c (qX6_digest_r2 (mg 3 rfl)) (fm_c (qX6_digest_r4 (mg 0 rfl)) (fm_c (qX6_digest_r4 (mg 1 rfl)) (fm_c (qX6_digest_r4 (mg 2 rfl)) (fm_c (qX6_digest_r1 (mg 10 rfl)) (fm_c (qX6_digest_r4 (mg 3 rfl)) (fm_c (qX6_digest_r1 (mg 2 rfl)) (fm_c (qX6_digest_r1 (mg 12 rfl)) (fm_c (qX6_digest_r2 (mg 4 rfl)) (fm_c (qX6_digest_r2 (mg 5 rfl)) (fm_c (qX6_digest_r2 (mg 6 rfl)) (fm_c (qX6_digest_r2 (mg 7 rfl)) (fm_c (qX6_digest_r1 (mg 4 rfl)) (fm_c (qX6_digest_r1 (mg 14 rfl)) (fm_c (qX6_digest_r1 (mg 13 rfl)) (fm_c (qX6_digest_r2 (mg 9 rfl)) (fm_n))))))))))))))))))) (fun _ h => List.mem_cons_of_mem _ (List.mem_append_right _ (h))))) (by decide +kernel)
set_option maxRecDepth 20000 in
theorem gX6_digest_X6_constantNow : GoodIn wsX6_digest (wsV RX6 216 RX6 yX6_constantNow wsX6_constantNow) := goodIn_app (goodIn_sub (fm_c (qX6_digest_r3 (mg 19 rfl)) (fm_c (qX6_digest_r3 (mg 20 rfl)) (fm_c (qX6_digest_r3 (mg 21 rfl)) (fm_c (qX6_digest_r1 (mg 10 rfl)) (fm_n))))) (by decide +kernel)) ggX6_digest_X6_constantNow
set_option maxRecDepth 20000 in
theorem ggX6_digest_X6_placedNow : GoodIn wsX6_digest wsX6_placedNow := goodIn_sub (fm_c (qX6_digest_r4 (mg 7 rfl)) (ms_a (fm_c (qX6_digest_r4 (mg 8 rfl)) (fm_c (qX6_digest_r4 (mg 9 rfl)) (fm_c (qX6_digest_r1 (mg 2 rfl)) (fm_c (qX6_digest_r4 (mg 10 rfl)) (fm_c (qX6_digest_r4 (mg 11 rfl)) (fm_c (qX6_digest_r4 (mg 12 rfl)) (fm_c (qX6_digest_r4 (mg 13 rfl)) (fm_c (qX6_digest_r1 (mg 3 rfl)) (fm_c (qX6_digest_r1 (mg 4 rfl)) (fm_c (qX6_digest_r4 (mg 14 rfl)) (fm_c (qX6_digest_r4 (mg 15 rfl)) (fm_c (qX6_digest_r4 (mg 16 rfl)) (fm_c (qX6_digest_r1 (mg 10 rfl)) (fm_c (qX6_digest_r4 (mg 17 rfl)) (fm_c (qX6_digest_r1 (mg 15 rfl)) (fm_n)))))))))))))))) (fun _ h => List.mem_cons_of_mem _ (List.mem_append_right _ (h))))) (by decide +kernel)
set_option maxRecDepth 20000 in
theorem gX6_digest_X6_placedNow : GoodIn wsX6_digest (wsV RX6 225 RX6 yX6_placedNow wsX6_placedNow) := goodIn_app (goodIn_sub (fm_c (qX6_digest_r4 (mg 4 rfl)) (fm_c (qX6_digest_r4 (mg 5 rfl)) (fm_c (qX6_digest_r4 (mg 6 rfl)) (fm_c (qX6_digest_r1 (mg 10 rfl)) (fm_n))))) (by decide +kernel)) ggX6_digest_X6_placedNow
set_option maxRecDepth 20000 in
theorem ggX6_digest_X6_howMany : GoodIn wsX6_digest wsX6_howMany := goodIn_sub (fm_c (qX6_digest_r4 (mg 21 rfl)) (ms_a (fm_c (qX6_digest_r1 (mg 2 rfl)) (fm_c (qX6_digest_r1 (mg 5 rfl)) (fm_c (qX6_digest_r2 (mg 9 rfl)) (fm_c (qX6_digest_r4 (mg 22 rfl)) (fm_c (qX6_digest_r4 (mg 23 rfl)) (fm_c (qX6_digest_r5 (mg 0 rfl)) (fm_c (qX6_digest_r5 (mg 1 rfl)) (fm_c (qX6_digest_r5 (mg 2 rfl)) (fm_c (qX6_digest_r1 (mg 10 rfl)) (fm_c (qX6_digest_r5 (mg 3 rfl)) (fm_c (qX6_digest_r1 (mg 12 rfl)) (fm_n)))))))))))) (fun _ h => List.mem_cons_of_mem _ (List.mem_append_right _ (h))))) (by decide +kernel)
set_option maxRecDepth 20000 in
theorem gX6_digest_X6_howMany : GoodIn wsX6_digest (wsV RX6 231 RX6 yX6_howMany wsX6_howMany) := goodIn_app (goodIn_sub (fm_c (qX6_digest_r4 (mg 18 rfl)) (fm_c (qX6_digest_r4 (mg 19 rfl)) (fm_c (qX6_digest_r4 (mg 20 rfl)) (fm_c (qX6_digest_r1 (mg 10 rfl)) (fm_n))))) (by decide +kernel)) ggX6_digest_X6_howMany
theorem dX6_digest_0 : decode cX6_digest 0 = .ok (.aload_n 0, 1) := by decide +kernel
theorem dX6_digest_1 : decode cX6_digest 1 = .ok (.ldc2_w 240, 3) := by decide +kernel
theorem dX6_digest_4 : decode cX6_digest 4 = .ok (.putfield 236, 3) := by decide +kernel
theorem dX6_digest_7 : decode cX6_digest 7 = .ok (.iconst 0, 1) := by decide +kernel
theorem dX6_digest_8 : decode cX6_digest 8 = .ok (.istore_n 1, 1) := by decide +kernel
theorem dX6_digest_9 : decode cX6_digest 9 = .ok (.iload_n 1, 1) := by decide +kernel
theorem dX6_digest_10 : decode cX6_digest 10 = .ok (.bipush 6, 2) := by decide +kernel
theorem dX6_digest_12 : decode cX6_digest 12 = .ok (.aload_n 0, 1) := by decide +kernel
theorem dX6_digest_13 : decode cX6_digest 13 = .ok (.getfield 114, 3) := by decide +kernel
theorem dX6_digest_16 : decode cX6_digest 16 = .ok (.imul, 1) := by decide +kernel
theorem dX6_digest_17 : decode cX6_digest 17 = .ok (.if_icmp .ge 26, 3) := by decide +kernel
theorem dX6_digest_20 : decode cX6_digest 20 = .ok (.aload_n 0, 1) := by decide +kernel
theorem dX6_digest_21 : decode cX6_digest 21 = .ok (.aload_n 0, 1) := by decide +kernel
theorem dX6_digest_22 : decode cX6_digest 22 = .ok (.iload_n 1, 1) := by decide +kernel
theorem dX6_digest_23 : decode cX6_digest 23 = .ok (.bipush 6, 2) := by decide +kernel
theorem dX6_digest_25 : decode cX6_digest 25 = .ok (.idiv, 1) := by decide +kernel
theorem dX6_digest_26 : decode cX6_digest 26 = .ok (.iload_n 1, 1) := by decide +kernel
theorem dX6_digest_27 : decode cX6_digest 27 = .ok (.bipush 6, 2) := by decide +kernel
theorem dX6_digest_29 : decode cX6_digest 29 = .ok (.irem, 1) := by decide +kernel
theorem dX6_digest_30 : decode cX6_digest 30 = .ok (.invokevirtual 207, 3) := by decide +kernel
theorem dX6_digest_33 : decode cX6_digest 33 = .ok (.i2l, 1) := by decide +kernel
theorem dX6_digest_34 : decode cX6_digest 34 = .ok (.invokevirtual 242, 3) := by decide +kernel
theorem dX6_digest_37 : decode cX6_digest 37 = .ok (.iinc 1 1, 3) := by decide +kernel
theorem dX6_digest_40 : decode cX6_digest 40 = .ok (.goto (-31), 3) := by decide +kernel
theorem dX6_digest_43 : decode cX6_digest 43 = .ok (.iconst 0, 1) := by decide +kernel
theorem dX6_digest_44 : decode cX6_digest 44 = .ok (.istore_n 1, 1) := by decide +kernel
theorem dX6_digest_45 : decode cX6_digest 45 = .ok (.iload_n 1, 1) := by decide +kernel
theorem dX6_digest_46 : decode cX6_digest 46 = .ok (.iconst 4, 1) := by decide +kernel
theorem dX6_digest_47 : decode cX6_digest 47 = .ok (.aload_n 0, 1) := by decide +kernel
theorem dX6_digest_48 : decode cX6_digest 48 = .ok (.getfield 133, 3) := by decide +kernel
theorem dX6_digest_51 : decode cX6_digest 51 = .ok (.imul, 1) := by decide +kernel
theorem dX6_digest_52 : decode cX6_digest 52 = .ok (.if_icmp .ge 24, 3) := by decide +kernel
theorem dX6_digest_55 : decode cX6_digest 55 = .ok (.aload_n 0, 1) := by decide +kernel
theorem dX6_digest_56 : decode cX6_digest 56 = .ok (.aload_n 0, 1) := by decide +kernel
theorem dX6_digest_57 : decode cX6_digest 57 = .ok (.iload_n 1, 1) := by decide +kernel
theorem dX6_digest_58 : decode cX6_digest 58 = .ok (.iconst 4, 1) := by decide +kernel
theorem dX6_digest_59 : decode cX6_digest 59 = .ok (.idiv, 1) := by decide +kernel
theorem dX6_digest_60 : decode cX6_digest 60 = .ok (.iload_n 1, 1) := by decide +kernel
theorem dX6_digest_61 : decode cX6_digest 61 = .ok (.iconst 4, 1) := by decide +kernel
theorem dX6_digest_62 : decode cX6_digest 62 = .ok (.irem, 1) := by decide +kernel
theorem dX6_digest_63 : decode cX6_digest 63 = .ok (.invokevirtual 210, 3) := by decide +kernel
theorem dX6_digest_66 : decode cX6_digest 66 = .ok (.i2l, 1) := by decide +kernel
theorem dX6_digest_67 : decode cX6_digest 67 = .ok (.invokevirtual 242, 3) := by decide +kernel
theorem dX6_digest_70 : decode cX6_digest 70 = .ok (.iinc 1 1, 3) := by decide +kernel
theorem dX6_digest_73 : decode cX6_digest 73 = .ok (.goto (-28), 3) := by decide +kernel
theorem dX6_digest_76 : decode cX6_digest 76 = .ok (.iconst 0, 1) := by decide +kernel
theorem dX6_digest_77 : decode cX6_digest 77 = .ok (.istore_n 1, 1) := by decide +kernel
theorem dX6_digest_78 : decode cX6_digest 78 = .ok (.iload_n 1, 1) := by decide +kernel
theorem dX6_digest_79 : decode cX6_digest 79 = .ok (.iconst 4, 1) := by decide +kernel
theorem dX6_digest_80 : decode cX6_digest 80 = .ok (.aload_n 0, 1) := by decide +kernel
theorem dX6_digest_81 : decode cX6_digest 81 = .ok (.getfield 136, 3) := by decide +kernel
theorem dX6_digest_84 : decode cX6_digest 84 = .ok (.imul, 1) := by decide +kernel
theorem dX6_digest_85 : decode cX6_digest 85 = .ok (.if_icmp .ge 24, 3) := by decide +kernel
theorem dX6_digest_88 : decode cX6_digest 88 = .ok (.aload_n 0, 1) := by decide +kernel
theorem dX6_digest_89 : decode cX6_digest 89 = .ok (.aload_n 0, 1) := by decide +kernel
theorem dX6_digest_90 : decode cX6_digest 90 = .ok (.iload_n 1, 1) := by decide +kernel
theorem dX6_digest_91 : decode cX6_digest 91 = .ok (.iconst 4, 1) := by decide +kernel
theorem dX6_digest_92 : decode cX6_digest 92 = .ok (.idiv, 1) := by decide +kernel
theorem dX6_digest_93 : decode cX6_digest 93 = .ok (.iload_n 1, 1) := by decide +kernel
theorem dX6_digest_94 : decode cX6_digest 94 = .ok (.iconst 4, 1) := by decide +kernel
theorem dX6_digest_95 : decode cX6_digest 95 = .ok (.irem, 1) := by decide +kernel
theorem dX6_digest_96 : decode cX6_digest 96 = .ok (.invokevirtual 216, 3) := by decide +kernel
theorem dX6_digest_99 : decode cX6_digest 99 = .ok (.i2l, 1) := by decide +kernel
theorem dX6_digest_100 : decode cX6_digest 100 = .ok (.invokevirtual 242, 3) := by decide +kernel
theorem dX6_digest_103 : decode cX6_digest 103 = .ok (.iinc 1 1, 3) := by decide +kernel
theorem dX6_digest_106 : decode cX6_digest 106 = .ok (.goto (-28), 3) := by decide +kernel
theorem dX6_digest_109 : decode cX6_digest 109 = .ok (.iconst 0, 1) := by decide +kernel
theorem dX6_digest_110 : decode cX6_digest 110 = .ok (.istore_n 1, 1) := by decide +kernel
theorem dX6_digest_111 : decode cX6_digest 111 = .ok (.iload_n 1, 1) := by decide +kernel
theorem dX6_digest_112 : decode cX6_digest 112 = .ok (.bipush 9, 2) := by decide +kernel
theorem dX6_digest_114 : decode cX6_digest 114 = .ok (.if_icmp .ge 19, 3) := by decide +kernel
theorem dX6_digest_117 : decode cX6_digest 117 = .ok (.aload_n 0, 1) := by decide +kernel
theorem dX6_digest_118 : decode cX6_digest 118 = .ok (.aload_n 0, 1) := by decide +kernel
theorem dX6_digest_119 : decode cX6_digest 119 = .ok (.iload_n 1, 1) := by decide +kernel
theorem dX6_digest_120 : decode cX6_digest 120 = .ok (.invokevirtual 225, 3) := by decide +kernel
theorem dX6_digest_123 : decode cX6_digest 123 = .ok (.i2l, 1) := by decide +kernel
theorem dX6_digest_124 : decode cX6_digest 124 = .ok (.invokevirtual 242, 3) := by decide +kernel
theorem dX6_digest_127 : decode cX6_digest 127 = .ok (.iinc 1 1, 3) := by decide +kernel
theorem dX6_digest_130 : decode cX6_digest 130 = .ok (.goto (-19), 3) := by decide +kernel
theorem dX6_digest_133 : decode cX6_digest 133 = .ok (.iconst 0, 1) := by decide +kernel
theorem dX6_digest_134 : decode cX6_digest 134 = .ok (.istore_n 1, 1) := by decide +kernel
theorem dX6_digest_135 : decode cX6_digest 135 = .ok (.iload_n 1, 1) := by decide +kernel
theorem dX6_digest_136 : decode cX6_digest 136 = .ok (.aload_n 0, 1) := by decide +kernel
theorem dX6_digest_137 : decode cX6_digest 137 = .ok (.getfield 74, 3) := by decide +kernel
theorem dX6_digest_140 : decode cX6_digest 140 = .ok (.if_icmp .ge 20, 3) := by decide +kernel
theorem dX6_digest_143 : decode cX6_digest 143 = .ok (.aload_n 0, 1) := by decide +kernel
theorem dX6_digest_144 : decode cX6_digest 144 = .ok (.aload_n 0, 1) := by decide +kernel
theorem dX6_digest_145 : decode cX6_digest 145 = .ok (.getfield 7, 3) := by decide +kernel
theorem dX6_digest_148 : decode cX6_digest 148 = .ok (.iload_n 1, 1) := by decide +kernel
theorem dX6_digest_149 : decode cX6_digest 149 = .ok (.iaload, 1) := by decide +kernel
theorem dX6_digest_150 : decode cX6_digest 150 = .ok (.i2l, 1) := by decide +kernel
theorem dX6_digest_151 : decode cX6_digest 151 = .ok (.invokevirtual 242, 3) := by decide +kernel
theorem dX6_digest_154 : decode cX6_digest 154 = .ok (.iinc 1 1, 3) := by decide +kernel
theorem dX6_digest_157 : decode cX6_digest 157 = .ok (.goto (-22), 3) := by decide +kernel
theorem dX6_digest_160 : decode cX6_digest 160 = .ok (.iconst 0, 1) := by decide +kernel
theorem dX6_digest_161 : decode cX6_digest 161 = .ok (.istore_n 1, 1) := by decide +kernel
theorem dX6_digest_162 : decode cX6_digest 162 = .ok (.iload_n 1, 1) := by decide +kernel
theorem dX6_digest_163 : decode cX6_digest 163 = .ok (.bipush 8, 2) := by decide +kernel
theorem dX6_digest_165 : decode cX6_digest 165 = .ok (.if_icmp .ge 19, 3) := by decide +kernel
theorem dX6_digest_168 : decode cX6_digest 168 = .ok (.aload_n 0, 1) := by decide +kernel
theorem dX6_digest_169 : decode cX6_digest 169 = .ok (.aload_n 0, 1) := by decide +kernel
theorem dX6_digest_170 : decode cX6_digest 170 = .ok (.iload_n 1, 1) := by decide +kernel
theorem dX6_digest_171 : decode cX6_digest 171 = .ok (.invokevirtual 231, 3) := by decide +kernel
theorem dX6_digest_174 : decode cX6_digest 174 = .ok (.i2l, 1) := by decide +kernel
theorem dX6_digest_175 : decode cX6_digest 175 = .ok (.invokevirtual 242, 3) := by decide +kernel
theorem dX6_digest_178 : decode cX6_digest 178 = .ok (.iinc 1 1, 3) := by decide +kernel
theorem dX6_digest_181 : decode cX6_digest 181 = .ok (.goto (-19), 3) := by decide +kernel
theorem dX6_digest_184 : decode cX6_digest 184 = .ok (.aload_n 0, 1) := by decide +kernel
theorem dX6_digest_185 : decode cX6_digest 185 = .ok (.getfield 236, 3) := by decide +kernel
theorem dX6_digest_188 : decode cX6_digest 188 = .ok (.lreturn, 1) := by decide +kernel
theorem dJ9_max_7cf53_0 : decode cJ9_max_7cf53 0 = .ok (.iload_n 0, 1) := by decide +kernel
theorem dJ9_max_7cf53_1 : decode cJ9_max_7cf53 1 = .ok (.iload_n 1, 1) := by decide +kernel
theorem dJ9_max_7cf53_2 : decode cJ9_max_7cf53 2 = .ok (.if_icmp .lt 7, 3) := by decide +kernel
theorem dJ9_max_7cf53_5 : decode cJ9_max_7cf53 5 = .ok (.iload_n 0, 1) := by decide +kernel
theorem dJ9_max_7cf53_6 : decode cJ9_max_7cf53 6 = .ok (.goto 4, 3) := by decide +kernel
theorem dJ9_max_7cf53_9 : decode cJ9_max_7cf53 9 = .ok (.iload_n 1, 1) := by decide +kernel
theorem dJ9_max_7cf53_10 : decode cJ9_max_7cf53 10 = .ok (.ireturn, 1) := by decide +kernel
abbrev vwCl : List vw_C := [(RX0, TX0, 4), (RX1, TX1, 2), (RX2, TX2, 16), (RX3, TX3, 4), (RX4, TX4, 6), (RX5, TX5, 7), (RX6, TX6, 34)]
