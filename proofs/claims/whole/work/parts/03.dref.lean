theorem dX3_init_0 : decode cX3_init 0 = .ok (.aload_n 0, 1) := by decide +kernel
theorem dX3_init_1 : decode cX3_init 1 = .ok (.invokespecial 1, 3) := by decide +kernel
theorem dX3_init_4 : decode cX3_init 4 = .ok (.aload_n 0, 1) := by decide +kernel
theorem dX3_init_5 : decode cX3_init 5 = .ok (.bipush 41, 2) := by decide +kernel
theorem dX3_init_7 : decode cX3_init 7 = .ok (.newarray .int, 2) := by decide +kernel
theorem dX3_init_9 : decode cX3_init 9 = .ok (.putfield 7, 3) := by decide +kernel
theorem dX3_init_12 : decode cX3_init 12 = .ok (.aload_n 0, 1) := by decide +kernel
theorem dX3_init_13 : decode cX3_init 13 = .ok (.bipush 41, 2) := by decide +kernel
theorem dX3_init_15 : decode cX3_init 15 = .ok (.newarray .int, 2) := by decide +kernel
theorem dX3_init_17 : decode cX3_init 17 = .ok (.putfield 13, 3) := by decide +kernel
theorem dX3_init_20 : decode cX3_init 20 = .ok (.aload_n 0, 1) := by decide +kernel
theorem dX3_init_21 : decode cX3_init 21 = .ok (.bipush 41, 2) := by decide +kernel
theorem dX3_init_23 : decode cX3_init 23 = .ok (.newarray .int, 2) := by decide +kernel
theorem dX3_init_25 : decode cX3_init 25 = .ok (.putfield 16, 3) := by decide +kernel
theorem dX3_init_28 : decode cX3_init 28 = .ok (.aload_n 0, 1) := by decide +kernel
theorem dX3_init_29 : decode cX3_init 29 = .ok (.bipush 41, 2) := by decide +kernel
theorem dX3_init_31 : decode cX3_init 31 = .ok (.newarray .int, 2) := by decide +kernel
theorem dX3_init_33 : decode cX3_init 33 = .ok (.putfield 19, 3) := by decide +kernel
theorem dX3_init_36 : decode cX3_init 36 = .ok (.aload_n 0, 1) := by decide +kernel
theorem dX3_init_37 : decode cX3_init 37 = .ok (.bipush 41, 2) := by decide +kernel
theorem dX3_init_39 : decode cX3_init 39 = .ok (.newarray .int, 2) := by decide +kernel
theorem dX3_init_41 : decode cX3_init 41 = .ok (.putfield 22, 3) := by decide +kernel
theorem dX3_init_44 : decode cX3_init 44 = .ok (.aload_n 0, 1) := by decide +kernel
theorem dX3_init_45 : decode cX3_init 45 = .ok (.iconst 4, 1) := by decide +kernel
theorem dX3_init_46 : decode cX3_init 46 = .ok (.newarray .int, 2) := by decide +kernel
theorem dX3_init_48 : decode cX3_init 48 = .ok (.putfield 25, 3) := by decide +kernel
theorem dX3_init_51 : decode cX3_init 51 = .ok (.aload_n 0, 1) := by decide +kernel
theorem dX3_init_52 : decode cX3_init 52 = .ok (.bipush 32, 2) := by decide +kernel
theorem dX3_init_54 : decode cX3_init 54 = .ok (.newarray .int, 2) := by decide +kernel
theorem dX3_init_56 : decode cX3_init 56 = .ok (.putfield 28, 3) := by decide +kernel
theorem dX3_init_59 : decode cX3_init 59 = .ok (.aload_n 0, 1) := by decide +kernel
theorem dX3_init_60 : decode cX3_init 60 = .ok (.bipush 32, 2) := by decide +kernel
theorem dX3_init_62 : decode cX3_init 62 = .ok (.newarray .int, 2) := by decide +kernel
theorem dX3_init_64 : decode cX3_init 64 = .ok (.putfield 31, 3) := by decide +kernel
theorem dX3_init_67 : decode cX3_init 67 = .ok (.aload_n 0, 1) := by decide +kernel
theorem dX3_init_68 : decode cX3_init 68 = .ok (.iconst 4, 1) := by decide +kernel
theorem dX3_init_69 : decode cX3_init 69 = .ok (.newarray .int, 2) := by decide +kernel
theorem dX3_init_71 : decode cX3_init 71 = .ok (.putfield 34, 3) := by decide +kernel
theorem dX3_init_74 : decode cX3_init 74 = .ok (.aload_n 0, 1) := by decide +kernel
theorem dX3_init_75 : decode cX3_init 75 = .ok (.iconst 4, 1) := by decide +kernel
theorem dX3_init_76 : decode cX3_init 76 = .ok (.newarray .int, 2) := by decide +kernel
theorem dX3_init_78 : decode cX3_init 78 = .ok (.putfield 37, 3) := by decide +kernel
theorem dX3_init_81 : decode cX3_init 81 = .ok (.return_, 1) := by decide +kernel
theorem dX3_thrown_0 : decode cX3_thrown 0 = .ok (.aload_n 0, 1) := by decide +kernel
theorem dX3_thrown_1 : decode cX3_thrown 1 = .ok (.getfield 40, 3) := by decide +kernel
theorem dX3_thrown_4 : decode cX3_thrown 4 = .ok (.ireturn, 1) := by decide +kernel
theorem dX3_within_0 : decode cX3_within 0 = .ok (.iload_n 0, 1) := by decide +kernel
theorem dX3_within_1 : decode cX3_within 1 = .ok (.iload_n 1, 1) := by decide +kernel
theorem dX3_within_2 : decode cX3_within 2 = .ok (.if_icmp .lt 12, 3) := by decide +kernel
theorem dX3_within_5 : decode cX3_within 5 = .ok (.iload_n 0, 1) := by decide +kernel
theorem dX3_within_6 : decode cX3_within 6 = .ok (.iload_n 2, 1) := by decide +kernel
theorem dX3_within_7 : decode cX3_within 7 = .ok (.if_icmp .gt 7, 3) := by decide +kernel
theorem dX3_within_10 : decode cX3_within 10 = .ok (.iconst 1, 1) := by decide +kernel
theorem dX3_within_11 : decode cX3_within 11 = .ok (.goto 4, 3) := by decide +kernel
theorem dX3_within_14 : decode cX3_within 14 = .ok (.iconst 0, 1) := by decide +kernel
theorem dX3_within_15 : decode cX3_within 15 = .ok (.ireturn, 1) := by decide +kernel
theorem dX3_isFibre_0 : decode cX3_isFibre 0 = .ok (.iload_n 1, 1) := by decide +kernel
theorem dX3_isFibre_1 : decode cX3_isFibre 1 = .ok (.ifCond .lt 15, 3) := by decide +kernel
theorem dX3_isFibre_4 : decode cX3_isFibre 4 = .ok (.iload_n 1, 1) := by decide +kernel
theorem dX3_isFibre_5 : decode cX3_isFibre 5 = .ok (.aload_n 0, 1) := by decide +kernel
theorem dX3_isFibre_6 : decode cX3_isFibre 6 = .ok (.getfield 44, 3) := by decide +kernel
theorem dX3_isFibre_9 : decode cX3_isFibre 9 = .ok (.if_icmp .ge 7, 3) := by decide +kernel
theorem dX3_isFibre_12 : decode cX3_isFibre 12 = .ok (.iconst 1, 1) := by decide +kernel
theorem dX3_isFibre_13 : decode cX3_isFibre 13 = .ok (.goto 4, 3) := by decide +kernel
theorem dX3_isFibre_16 : decode cX3_isFibre 16 = .ok (.iconst 0, 1) := by decide +kernel
theorem dX3_isFibre_17 : decode cX3_isFibre 17 = .ok (.ireturn, 1) := by decide +kernel
theorem dX3_isKind_0 : decode cX3_isKind 0 = .ok (.iload_n 0, 1) := by decide +kernel
theorem dX3_isKind_1 : decode cX3_isKind 1 = .ok (.ifCond .lt 12, 3) := by decide +kernel
theorem dX3_isKind_4 : decode cX3_isKind 4 = .ok (.iload_n 0, 1) := by decide +kernel
theorem dX3_isKind_5 : decode cX3_isKind 5 = .ok (.iconst 4, 1) := by decide +kernel
theorem dX3_isKind_6 : decode cX3_isKind 6 = .ok (.if_icmp .ge 7, 3) := by decide +kernel
theorem dX3_isKind_9 : decode cX3_isKind 9 = .ok (.iconst 1, 1) := by decide +kernel
theorem dX3_isKind_10 : decode cX3_isKind 10 = .ok (.goto 4, 3) := by decide +kernel
theorem dX3_isKind_13 : decode cX3_isKind 13 = .ok (.iconst 0, 1) := by decide +kernel
theorem dX3_isKind_14 : decode cX3_isKind 14 = .ok (.ireturn, 1) := by decide +kernel
theorem dX3_lay_0 : decode cX3_lay 0 = .ok (.aload_n 0, 1) := by decide +kernel
theorem dX3_lay_1 : decode cX3_lay 1 = .ok (.getfield 7, 3) := by decide +kernel
theorem dX3_lay_4 : decode cX3_lay 4 = .ok (.iload_n 1, 1) := by decide +kernel
theorem dX3_lay_5 : decode cX3_lay 5 = .ok (.iload_n 2, 1) := by decide +kernel
theorem dX3_lay_6 : decode cX3_lay 6 = .ok (.iastore, 1) := by decide +kernel
theorem dX3_lay_7 : decode cX3_lay 7 = .ok (.aload_n 0, 1) := by decide +kernel
theorem dX3_lay_8 : decode cX3_lay 8 = .ok (.getfield 13, 3) := by decide +kernel
theorem dX3_lay_11 : decode cX3_lay 11 = .ok (.iload_n 1, 1) := by decide +kernel
theorem dX3_lay_12 : decode cX3_lay 12 = .ok (.iload_n 3, 1) := by decide +kernel
theorem dX3_lay_13 : decode cX3_lay 13 = .ok (.iastore, 1) := by decide +kernel
theorem dX3_lay_14 : decode cX3_lay 14 = .ok (.aload_n 0, 1) := by decide +kernel
theorem dX3_lay_15 : decode cX3_lay 15 = .ok (.getfield 16, 3) := by decide +kernel
theorem dX3_lay_18 : decode cX3_lay 18 = .ok (.iload_n 1, 1) := by decide +kernel
theorem dX3_lay_19 : decode cX3_lay 19 = .ok (.iload 4, 2) := by decide +kernel
theorem dX3_lay_21 : decode cX3_lay 21 = .ok (.iastore, 1) := by decide +kernel
theorem dX3_lay_22 : decode cX3_lay 22 = .ok (.aload_n 0, 1) := by decide +kernel
theorem dX3_lay_23 : decode cX3_lay 23 = .ok (.getfield 19, 3) := by decide +kernel
theorem dX3_lay_26 : decode cX3_lay 26 = .ok (.iload_n 1, 1) := by decide +kernel
theorem dX3_lay_27 : decode cX3_lay 27 = .ok (.iconst 0, 1) := by decide +kernel
theorem dX3_lay_28 : decode cX3_lay 28 = .ok (.iastore, 1) := by decide +kernel
theorem dX3_lay_29 : decode cX3_lay 29 = .ok (.aload_n 0, 1) := by decide +kernel
theorem dX3_lay_30 : decode cX3_lay 30 = .ok (.getfield 22, 3) := by decide +kernel
theorem dX3_lay_33 : decode cX3_lay 33 = .ok (.iload_n 1, 1) := by decide +kernel
theorem dX3_lay_34 : decode cX3_lay 34 = .ok (.bipush 100, 2) := by decide +kernel
theorem dX3_lay_36 : decode cX3_lay 36 = .ok (.iastore, 1) := by decide +kernel
theorem dX3_lay_37 : decode cX3_lay 37 = .ok (.return_, 1) := by decide +kernel
set_option maxRecDepth 20000 in
theorem ggX3_fibre_X3_within : GoodIn wsX3_fibre wsX3_within := goodIn_r _ [8] (by decide +kernel) (by decide +kernel)
set_option maxRecDepth 20000 in
theorem gX3_fibre_X3_within : GoodIn wsX3_fibre (va_wsS RX3 48 yX3_within wsX3_within) := goodIn_app (goodIn_of _ (by decide +kernel)) ggX3_fibre_X3_within
set_option maxRecDepth 20000 in
theorem ggX3_fibre_X3_isKind : GoodIn wsX3_fibre wsX3_isKind := goodIn_r _ [11] (by decide +kernel) (by decide +kernel)
set_option maxRecDepth 20000 in
theorem gX3_fibre_X3_isKind : GoodIn wsX3_fibre (va_wsS RX3 52 yX3_isKind wsX3_isKind) := goodIn_app (goodIn_of _ (by decide +kernel)) ggX3_fibre_X3_isKind
set_option maxRecDepth 20000 in
theorem ggX3_fibre_X3_lay : GoodIn wsX3_fibre wsX3_lay := goodIn_r _ [15, 16, 17, 18, 19, 20, 21, 22, 23, 24, 25, 26, 27, 28, 29, 30, 31, 32, 33, 34, 35, 36, 37, 38, 39] (by decide +kernel) (by decide +kernel)
set_option maxRecDepth 20000 in
theorem gX3_fibre_X3_lay : GoodIn wsX3_fibre (wsV RX3 56 RX3 yX3_lay wsX3_lay) := goodIn_app (goodIn_of _ (by decide +kernel)) ggX3_fibre_X3_lay
theorem dX3_fibre_0 : decode cX3_fibre 0 = .ok (.aload_n 0, 1) := by decide +kernel
theorem dX3_fibre_1 : decode cX3_fibre 1 = .ok (.iconst 0, 1) := by decide +kernel
theorem dX3_fibre_2 : decode cX3_fibre 2 = .ok (.putfield 40, 3) := by decide +kernel
theorem dX3_fibre_5 : decode cX3_fibre 5 = .ok (.iload_n 1, 1) := by decide +kernel
theorem dX3_fibre_6 : decode cX3_fibre 6 = .ok (.iconst 0, 1) := by decide +kernel
theorem dX3_fibre_7 : decode cX3_fibre 7 = .ok (.ldc 47, 2) := by decide +kernel
theorem dX3_fibre_9 : decode cX3_fibre 9 = .ok (.invokestatic 48, 3) := by decide +kernel
theorem dX3_fibre_12 : decode cX3_fibre 12 = .ok (.ifCond .eq 32, 3) := by decide +kernel
theorem dX3_fibre_15 : decode cX3_fibre 15 = .ok (.iload_n 2, 1) := by decide +kernel
theorem dX3_fibre_16 : decode cX3_fibre 16 = .ok (.sipush (-2000), 3) := by decide +kernel
theorem dX3_fibre_19 : decode cX3_fibre 19 = .ok (.sipush 2000, 3) := by decide +kernel
theorem dX3_fibre_22 : decode cX3_fibre 22 = .ok (.invokestatic 48, 3) := by decide +kernel
theorem dX3_fibre_25 : decode cX3_fibre 25 = .ok (.ifCond .eq 19, 3) := by decide +kernel
theorem dX3_fibre_28 : decode cX3_fibre 28 = .ok (.iload_n 3, 1) := by decide +kernel
theorem dX3_fibre_29 : decode cX3_fibre 29 = .ok (.invokestatic 52, 3) := by decide +kernel
theorem dX3_fibre_32 : decode cX3_fibre 32 = .ok (.ifCond .eq 12, 3) := by decide +kernel
theorem dX3_fibre_35 : decode cX3_fibre 35 = .ok (.aload_n 0, 1) := by decide +kernel
theorem dX3_fibre_36 : decode cX3_fibre 36 = .ok (.getfield 44, 3) := by decide +kernel
theorem dX3_fibre_39 : decode cX3_fibre 39 = .ok (.bipush 40, 2) := by decide +kernel
theorem dX3_fibre_41 : decode cX3_fibre 41 = .ok (.if_icmp .ne 5, 3) := by decide +kernel
theorem dX3_fibre_44 : decode cX3_fibre 44 = .ok (.iconst (-1), 1) := by decide +kernel
theorem dX3_fibre_45 : decode cX3_fibre 45 = .ok (.ireturn, 1) := by decide +kernel
theorem dX3_fibre_46 : decode cX3_fibre 46 = .ok (.aload_n 0, 1) := by decide +kernel
theorem dX3_fibre_47 : decode cX3_fibre 47 = .ok (.aload_n 0, 1) := by decide +kernel
theorem dX3_fibre_48 : decode cX3_fibre 48 = .ok (.getfield 44, 3) := by decide +kernel
theorem dX3_fibre_51 : decode cX3_fibre 51 = .ok (.iload_n 1, 1) := by decide +kernel
theorem dX3_fibre_52 : decode cX3_fibre 52 = .ok (.iload_n 2, 1) := by decide +kernel
theorem dX3_fibre_53 : decode cX3_fibre 53 = .ok (.iload_n 3, 1) := by decide +kernel
theorem dX3_fibre_54 : decode cX3_fibre 54 = .ok (.invokevirtual 56, 3) := by decide +kernel
theorem dX3_fibre_57 : decode cX3_fibre 57 = .ok (.aload_n 0, 1) := by decide +kernel
theorem dX3_fibre_58 : decode cX3_fibre 58 = .ok (.dup, 1) := by decide +kernel
theorem dX3_fibre_59 : decode cX3_fibre 59 = .ok (.getfield 44, 3) := by decide +kernel
theorem dX3_fibre_62 : decode cX3_fibre 62 = .ok (.iconst 1, 1) := by decide +kernel
theorem dX3_fibre_63 : decode cX3_fibre 63 = .ok (.iadd, 1) := by decide +kernel
theorem dX3_fibre_64 : decode cX3_fibre 64 = .ok (.putfield 44, 3) := by decide +kernel
theorem dX3_fibre_67 : decode cX3_fibre 67 = .ok (.aload_n 0, 1) := by decide +kernel
theorem dX3_fibre_68 : decode cX3_fibre 68 = .ok (.iconst 0, 1) := by decide +kernel
theorem dX3_fibre_69 : decode cX3_fibre 69 = .ok (.putfield 60, 3) := by decide +kernel
theorem dX3_fibre_72 : decode cX3_fibre 72 = .ok (.aload_n 0, 1) := by decide +kernel
theorem dX3_fibre_73 : decode cX3_fibre 73 = .ok (.getfield 44, 3) := by decide +kernel
theorem dX3_fibre_76 : decode cX3_fibre 76 = .ok (.iconst 1, 1) := by decide +kernel
theorem dX3_fibre_77 : decode cX3_fibre 77 = .ok (.isub, 1) := by decide +kernel
theorem dX3_fibre_78 : decode cX3_fibre 78 = .ok (.ireturn, 1) := by decide +kernel
set_option maxRecDepth 20000 in
theorem ggX3_point_X3_isKind : GoodIn wsX3_point wsX3_isKind := goodIn_r _ [11] (by decide +kernel) (by decide +kernel)
set_option maxRecDepth 20000 in
theorem gX3_point_X3_isKind : GoodIn wsX3_point (va_wsS RX3 52 yX3_isKind wsX3_isKind) := goodIn_app (goodIn_of _ (by decide +kernel)) ggX3_point_X3_isKind
set_option maxRecDepth 20000 in
theorem ggX3_point_X3_within : GoodIn wsX3_point wsX3_within := goodIn_r _ [14] (by decide +kernel) (by decide +kernel)
set_option maxRecDepth 20000 in
theorem gX3_point_X3_within : GoodIn wsX3_point (va_wsS RX3 48 yX3_within wsX3_within) := goodIn_app (goodIn_of _ (by decide +kernel)) ggX3_point_X3_within
theorem dX3_point_0 : decode cX3_point 0 = .ok (.aload_n 0, 1) := by decide +kernel
theorem dX3_point_1 : decode cX3_point 1 = .ok (.iconst 0, 1) := by decide +kernel
theorem dX3_point_2 : decode cX3_point 2 = .ok (.putfield 40, 3) := by decide +kernel
theorem dX3_point_5 : decode cX3_point 5 = .ok (.iload_n 1, 1) := by decide +kernel
theorem dX3_point_6 : decode cX3_point 6 = .ok (.invokestatic 52, 3) := by decide +kernel
theorem dX3_point_9 : decode cX3_point 9 = .ok (.ifCond .eq 38, 3) := by decide +kernel
theorem dX3_point_12 : decode cX3_point 12 = .ok (.iload_n 2, 1) := by decide +kernel
theorem dX3_point_13 : decode cX3_point 13 = .ok (.sipush (-30000), 3) := by decide +kernel
theorem dX3_point_16 : decode cX3_point 16 = .ok (.sipush 30000, 3) := by decide +kernel
theorem dX3_point_19 : decode cX3_point 19 = .ok (.invokestatic 48, 3) := by decide +kernel
theorem dX3_point_22 : decode cX3_point 22 = .ok (.ifCond .eq 25, 3) := by decide +kernel
theorem dX3_point_25 : decode cX3_point 25 = .ok (.iload_n 3, 1) := by decide +kernel
theorem dX3_point_26 : decode cX3_point 26 = .ok (.ldc 64, 2) := by decide +kernel
theorem dX3_point_28 : decode cX3_point 28 = .ok (.ldc 65, 2) := by decide +kernel
theorem dX3_point_30 : decode cX3_point 30 = .ok (.invokestatic 48, 3) := by decide +kernel
theorem dX3_point_33 : decode cX3_point 33 = .ok (.ifCond .eq 14, 3) := by decide +kernel
theorem dX3_point_36 : decode cX3_point 36 = .ok (.aload_n 0, 1) := by decide +kernel
theorem dX3_point_37 : decode cX3_point 37 = .ok (.getfield 25, 3) := by decide +kernel
theorem dX3_point_40 : decode cX3_point 40 = .ok (.iload_n 1, 1) := by decide +kernel
theorem dX3_point_41 : decode cX3_point 41 = .ok (.iaload, 1) := by decide +kernel
theorem dX3_point_42 : decode cX3_point 42 = .ok (.bipush 8, 2) := by decide +kernel
theorem dX3_point_44 : decode cX3_point 44 = .ok (.if_icmp .ne 5, 3) := by decide +kernel
theorem dX3_point_47 : decode cX3_point 47 = .ok (.iconst 0, 1) := by decide +kernel
theorem dX3_point_48 : decode cX3_point 48 = .ok (.ireturn, 1) := by decide +kernel
theorem dX3_point_49 : decode cX3_point 49 = .ok (.bipush 8, 2) := by decide +kernel
theorem dX3_point_51 : decode cX3_point 51 = .ok (.iload_n 1, 1) := by decide +kernel
theorem dX3_point_52 : decode cX3_point 52 = .ok (.imul, 1) := by decide +kernel
theorem dX3_point_53 : decode cX3_point 53 = .ok (.aload_n 0, 1) := by decide +kernel
theorem dX3_point_54 : decode cX3_point 54 = .ok (.getfield 25, 3) := by decide +kernel
theorem dX3_point_57 : decode cX3_point 57 = .ok (.iload_n 1, 1) := by decide +kernel
theorem dX3_point_58 : decode cX3_point 58 = .ok (.iaload, 1) := by decide +kernel
theorem dX3_point_59 : decode cX3_point 59 = .ok (.iadd, 1) := by decide +kernel
theorem dX3_point_60 : decode cX3_point 60 = .ok (.istore 4, 2) := by decide +kernel
theorem dX3_point_62 : decode cX3_point 62 = .ok (.aload_n 0, 1) := by decide +kernel
theorem dX3_point_63 : decode cX3_point 63 = .ok (.getfield 25, 3) := by decide +kernel
theorem dX3_point_66 : decode cX3_point 66 = .ok (.iload_n 1, 1) := by decide +kernel
theorem dX3_point_67 : decode cX3_point 67 = .ok (.iaload, 1) := by decide +kernel
theorem dX3_point_68 : decode cX3_point 68 = .ok (.ifCond .le 31, 3) := by decide +kernel
theorem dX3_point_71 : decode cX3_point 71 = .ok (.iload_n 2, 1) := by decide +kernel
theorem dX3_point_72 : decode cX3_point 72 = .ok (.aload_n 0, 1) := by decide +kernel
theorem dX3_point_73 : decode cX3_point 73 = .ok (.getfield 28, 3) := by decide +kernel
theorem dX3_point_76 : decode cX3_point 76 = .ok (.iload 4, 2) := by decide +kernel
theorem dX3_point_78 : decode cX3_point 78 = .ok (.iconst 1, 1) := by decide +kernel
theorem dX3_point_79 : decode cX3_point 79 = .ok (.isub, 1) := by decide +kernel
theorem dX3_point_80 : decode cX3_point 80 = .ok (.iaload, 1) := by decide +kernel
theorem dX3_point_81 : decode cX3_point 81 = .ok (.if_icmp .le 16, 3) := by decide +kernel
theorem dX3_point_84 : decode cX3_point 84 = .ok (.iload_n 3, 1) := by decide +kernel
theorem dX3_point_85 : decode cX3_point 85 = .ok (.aload_n 0, 1) := by decide +kernel
theorem dX3_point_86 : decode cX3_point 86 = .ok (.getfield 31, 3) := by decide +kernel
theorem dX3_point_89 : decode cX3_point 89 = .ok (.iload 4, 2) := by decide +kernel
theorem dX3_point_91 : decode cX3_point 91 = .ok (.iconst 1, 1) := by decide +kernel
theorem dX3_point_92 : decode cX3_point 92 = .ok (.isub, 1) := by decide +kernel
theorem dX3_point_93 : decode cX3_point 93 = .ok (.iaload, 1) := by decide +kernel
theorem dX3_point_94 : decode cX3_point 94 = .ok (.if_icmp .ge 5, 3) := by decide +kernel
theorem dX3_point_97 : decode cX3_point 97 = .ok (.iconst 0, 1) := by decide +kernel
theorem dX3_point_98 : decode cX3_point 98 = .ok (.ireturn, 1) := by decide +kernel
theorem dX3_point_99 : decode cX3_point 99 = .ok (.aload_n 0, 1) := by decide +kernel
theorem dX3_point_100 : decode cX3_point 100 = .ok (.getfield 28, 3) := by decide +kernel
theorem dX3_point_103 : decode cX3_point 103 = .ok (.iload 4, 2) := by decide +kernel
theorem dX3_point_105 : decode cX3_point 105 = .ok (.iload_n 2, 1) := by decide +kernel
theorem dX3_point_106 : decode cX3_point 106 = .ok (.iastore, 1) := by decide +kernel
theorem dX3_point_107 : decode cX3_point 107 = .ok (.aload_n 0, 1) := by decide +kernel
theorem dX3_point_108 : decode cX3_point 108 = .ok (.getfield 31, 3) := by decide +kernel
theorem dX3_point_111 : decode cX3_point 111 = .ok (.iload 4, 2) := by decide +kernel
theorem dX3_point_113 : decode cX3_point 113 = .ok (.iload_n 3, 1) := by decide +kernel
theorem dX3_point_114 : decode cX3_point 114 = .ok (.iastore, 1) := by decide +kernel
theorem dX3_point_115 : decode cX3_point 115 = .ok (.aload_n 0, 1) := by decide +kernel
theorem dX3_point_116 : decode cX3_point 116 = .ok (.getfield 25, 3) := by decide +kernel
theorem dX3_point_119 : decode cX3_point 119 = .ok (.iload_n 1, 1) := by decide +kernel
theorem dX3_point_120 : decode cX3_point 120 = .ok (.dup2, 1) := by decide +kernel
theorem dX3_point_121 : decode cX3_point 121 = .ok (.iaload, 1) := by decide +kernel
theorem dX3_point_122 : decode cX3_point 122 = .ok (.iconst 1, 1) := by decide +kernel
theorem dX3_point_123 : decode cX3_point 123 = .ok (.iadd, 1) := by decide +kernel
theorem dX3_point_124 : decode cX3_point 124 = .ok (.iastore, 1) := by decide +kernel
theorem dX3_point_125 : decode cX3_point 125 = .ok (.aload_n 0, 1) := by decide +kernel
theorem dX3_point_126 : decode cX3_point 126 = .ok (.iconst 0, 1) := by decide +kernel
theorem dX3_point_127 : decode cX3_point 127 = .ok (.putfield 60, 3) := by decide +kernel
theorem dX3_point_130 : decode cX3_point 130 = .ok (.iconst 1, 1) := by decide +kernel
theorem dX3_point_131 : decode cX3_point 131 = .ok (.ireturn, 1) := by decide +kernel
set_option maxRecDepth 20000 in
theorem ggX3_born_X3_isFibre : GoodIn wsX3_born wsX3_isFibre := goodIn_r _ [8, 9, 13, 14, 15, 16, 17, 18, 19, 20, 21, 22, 23, 24, 25, 26, 27, 28, 29, 30, 31] (by decide +kernel) (by decide +kernel)
set_option maxRecDepth 20000 in
theorem gX3_born_X3_isFibre : GoodIn wsX3_born (wsV RX3 66 RX3 yX3_isFibre wsX3_isFibre) := goodIn_app (goodIn_of _ (by decide +kernel)) ggX3_born_X3_isFibre
set_option maxRecDepth 20000 in
theorem ggX3_born_X3_within : GoodIn wsX3_born wsX3_within := goodIn_r _ [12] (by decide +kernel) (by decide +kernel)
set_option maxRecDepth 20000 in
theorem gX3_born_X3_within : GoodIn wsX3_born (va_wsS RX3 48 yX3_within wsX3_within) := goodIn_app (goodIn_of _ (by decide +kernel)) ggX3_born_X3_within
theorem dX3_born_0 : decode cX3_born 0 = .ok (.aload_n 0, 1) := by decide +kernel
theorem dX3_born_1 : decode cX3_born 1 = .ok (.iconst 0, 1) := by decide +kernel
theorem dX3_born_2 : decode cX3_born 2 = .ok (.putfield 40, 3) := by decide +kernel
theorem dX3_born_5 : decode cX3_born 5 = .ok (.aload_n 0, 1) := by decide +kernel
theorem dX3_born_6 : decode cX3_born 6 = .ok (.iload_n 1, 1) := by decide +kernel
theorem dX3_born_7 : decode cX3_born 7 = .ok (.invokevirtual 66, 3) := by decide +kernel
theorem dX3_born_10 : decode cX3_born 10 = .ok (.ifCond .eq 16, 3) := by decide +kernel
theorem dX3_born_13 : decode cX3_born 13 = .ok (.iload_n 2, 1) := by decide +kernel
theorem dX3_born_14 : decode cX3_born 14 = .ok (.sipush (-30000), 3) := by decide +kernel
theorem dX3_born_17 : decode cX3_born 17 = .ok (.sipush 30000, 3) := by decide +kernel
theorem dX3_born_20 : decode cX3_born 20 = .ok (.invokestatic 48, 3) := by decide +kernel
theorem dX3_born_23 : decode cX3_born 23 = .ok (.ifCond .ne 5, 3) := by decide +kernel
theorem dX3_born_26 : decode cX3_born 26 = .ok (.iconst 0, 1) := by decide +kernel
theorem dX3_born_27 : decode cX3_born 27 = .ok (.ireturn, 1) := by decide +kernel
theorem dX3_born_28 : decode cX3_born 28 = .ok (.aload_n 0, 1) := by decide +kernel
theorem dX3_born_29 : decode cX3_born 29 = .ok (.getfield 19, 3) := by decide +kernel
theorem dX3_born_32 : decode cX3_born 32 = .ok (.iload_n 1, 1) := by decide +kernel
theorem dX3_born_33 : decode cX3_born 33 = .ok (.iload_n 2, 1) := by decide +kernel
theorem dX3_born_34 : decode cX3_born 34 = .ok (.iastore, 1) := by decide +kernel
theorem dX3_born_35 : decode cX3_born 35 = .ok (.aload_n 0, 1) := by decide +kernel
theorem dX3_born_36 : decode cX3_born 36 = .ok (.iconst 0, 1) := by decide +kernel
theorem dX3_born_37 : decode cX3_born 37 = .ok (.putfield 60, 3) := by decide +kernel
theorem dX3_born_40 : decode cX3_born 40 = .ok (.iconst 1, 1) := by decide +kernel
theorem dX3_born_41 : decode cX3_born 41 = .ok (.ireturn, 1) := by decide +kernel
set_option maxRecDepth 20000 in
theorem ggX3_creeps_X3_isKind : GoodIn wsX3_creeps wsX3_isKind := goodIn_r _ [7] (by decide +kernel) (by decide +kernel)
set_option maxRecDepth 20000 in
theorem gX3_creeps_X3_isKind : GoodIn wsX3_creeps (va_wsS RX3 52 yX3_isKind wsX3_isKind) := goodIn_app (goodIn_of _ (by decide +kernel)) ggX3_creeps_X3_isKind
set_option maxRecDepth 20000 in
theorem ggX3_creeps_X3_within : GoodIn wsX3_creeps wsX3_within := goodIn_r _ [10] (by decide +kernel) (by decide +kernel)
set_option maxRecDepth 20000 in
theorem gX3_creeps_X3_within : GoodIn wsX3_creeps (va_wsS RX3 48 yX3_within wsX3_within) := goodIn_app (goodIn_of _ (by decide +kernel)) ggX3_creeps_X3_within
theorem dX3_creeps_0 : decode cX3_creeps 0 = .ok (.aload_n 0, 1) := by decide +kernel
theorem dX3_creeps_1 : decode cX3_creeps 1 = .ok (.iconst 0, 1) := by decide +kernel
theorem dX3_creeps_2 : decode cX3_creeps 2 = .ok (.putfield 40, 3) := by decide +kernel
theorem dX3_creeps_5 : decode cX3_creeps 5 = .ok (.iload_n 1, 1) := by decide +kernel
theorem dX3_creeps_6 : decode cX3_creeps 6 = .ok (.invokestatic 52, 3) := by decide +kernel
theorem dX3_creeps_9 : decode cX3_creeps 9 = .ok (.ifCond .eq 14, 3) := by decide +kernel
theorem dX3_creeps_12 : decode cX3_creeps 12 = .ok (.iload_n 2, 1) := by decide +kernel
theorem dX3_creeps_13 : decode cX3_creeps 13 = .ok (.iconst 0, 1) := by decide +kernel
theorem dX3_creeps_14 : decode cX3_creeps 14 = .ok (.sipush 500, 3) := by decide +kernel
theorem dX3_creeps_17 : decode cX3_creeps 17 = .ok (.invokestatic 48, 3) := by decide +kernel
theorem dX3_creeps_20 : decode cX3_creeps 20 = .ok (.ifCond .ne 5, 3) := by decide +kernel
theorem dX3_creeps_23 : decode cX3_creeps 23 = .ok (.iconst 0, 1) := by decide +kernel
theorem dX3_creeps_24 : decode cX3_creeps 24 = .ok (.ireturn, 1) := by decide +kernel
theorem dX3_creeps_25 : decode cX3_creeps 25 = .ok (.aload_n 0, 1) := by decide +kernel
theorem dX3_creeps_26 : decode cX3_creeps 26 = .ok (.getfield 34, 3) := by decide +kernel
theorem dX3_creeps_29 : decode cX3_creeps 29 = .ok (.iload_n 1, 1) := by decide +kernel
theorem dX3_creeps_30 : decode cX3_creeps 30 = .ok (.iload_n 2, 1) := by decide +kernel
theorem dX3_creeps_31 : decode cX3_creeps 31 = .ok (.iastore, 1) := by decide +kernel
theorem dX3_creeps_32 : decode cX3_creeps 32 = .ok (.aload_n 0, 1) := by decide +kernel
theorem dX3_creeps_33 : decode cX3_creeps 33 = .ok (.iconst 0, 1) := by decide +kernel
theorem dX3_creeps_34 : decode cX3_creeps 34 = .ok (.putfield 60, 3) := by decide +kernel
theorem dX3_creeps_37 : decode cX3_creeps 37 = .ok (.iconst 1, 1) := by decide +kernel
theorem dX3_creeps_38 : decode cX3_creeps 38 = .ok (.ireturn, 1) := by decide +kernel
set_option maxRecDepth 20000 in
theorem ggX3_shrinks_X3_isKind : GoodIn wsX3_shrinks wsX3_isKind := goodIn_r _ [7] (by decide +kernel) (by decide +kernel)
set_option maxRecDepth 20000 in
theorem gX3_shrinks_X3_isKind : GoodIn wsX3_shrinks (va_wsS RX3 52 yX3_isKind wsX3_isKind) := goodIn_app (goodIn_of _ (by decide +kernel)) ggX3_shrinks_X3_isKind
set_option maxRecDepth 20000 in
theorem ggX3_shrinks_X3_within : GoodIn wsX3_shrinks wsX3_within := goodIn_r _ [10] (by decide +kernel) (by decide +kernel)
set_option maxRecDepth 20000 in
theorem gX3_shrinks_X3_within : GoodIn wsX3_shrinks (va_wsS RX3 48 yX3_within wsX3_within) := goodIn_app (goodIn_of _ (by decide +kernel)) ggX3_shrinks_X3_within
theorem dX3_shrinks_0 : decode cX3_shrinks 0 = .ok (.aload_n 0, 1) := by decide +kernel
theorem dX3_shrinks_1 : decode cX3_shrinks 1 = .ok (.iconst 0, 1) := by decide +kernel
theorem dX3_shrinks_2 : decode cX3_shrinks 2 = .ok (.putfield 40, 3) := by decide +kernel
theorem dX3_shrinks_5 : decode cX3_shrinks 5 = .ok (.iload_n 1, 1) := by decide +kernel
theorem dX3_shrinks_6 : decode cX3_shrinks 6 = .ok (.invokestatic 52, 3) := by decide +kernel
theorem dX3_shrinks_9 : decode cX3_shrinks 9 = .ok (.ifCond .eq 16, 3) := by decide +kernel
theorem dX3_shrinks_12 : decode cX3_shrinks 12 = .ok (.iload_n 2, 1) := by decide +kernel
theorem dX3_shrinks_13 : decode cX3_shrinks 13 = .ok (.sipush (-5000), 3) := by decide +kernel
theorem dX3_shrinks_16 : decode cX3_shrinks 16 = .ok (.sipush 5000, 3) := by decide +kernel
theorem dX3_shrinks_19 : decode cX3_shrinks 19 = .ok (.invokestatic 48, 3) := by decide +kernel
theorem dX3_shrinks_22 : decode cX3_shrinks 22 = .ok (.ifCond .ne 5, 3) := by decide +kernel
theorem dX3_shrinks_25 : decode cX3_shrinks 25 = .ok (.iconst 0, 1) := by decide +kernel
theorem dX3_shrinks_26 : decode cX3_shrinks 26 = .ok (.ireturn, 1) := by decide +kernel
theorem dX3_shrinks_27 : decode cX3_shrinks 27 = .ok (.aload_n 0, 1) := by decide +kernel
theorem dX3_shrinks_28 : decode cX3_shrinks 28 = .ok (.getfield 37, 3) := by decide +kernel
theorem dX3_shrinks_31 : decode cX3_shrinks 31 = .ok (.iload_n 1, 1) := by decide +kernel
theorem dX3_shrinks_32 : decode cX3_shrinks 32 = .ok (.iload_n 2, 1) := by decide +kernel
theorem dX3_shrinks_33 : decode cX3_shrinks 33 = .ok (.iastore, 1) := by decide +kernel
theorem dX3_shrinks_34 : decode cX3_shrinks 34 = .ok (.aload_n 0, 1) := by decide +kernel
theorem dX3_shrinks_35 : decode cX3_shrinks 35 = .ok (.iconst 0, 1) := by decide +kernel
theorem dX3_shrinks_36 : decode cX3_shrinks 36 = .ok (.putfield 60, 3) := by decide +kernel
theorem dX3_shrinks_39 : decode cX3_shrinks 39 = .ok (.iconst 1, 1) := by decide +kernel
theorem dX3_shrinks_40 : decode cX3_shrinks 40 = .ok (.ireturn, 1) := by decide +kernel
set_option maxRecDepth 20000 in
theorem ggX3_keeps_X3_isFibre : GoodIn wsX3_keeps wsX3_isFibre := goodIn_r _ [8, 9, 13, 14, 15, 16, 17, 18, 19, 20, 21, 22, 23, 24, 25, 26, 27, 28, 29, 30, 31] (by decide +kernel) (by decide +kernel)
set_option maxRecDepth 20000 in
theorem gX3_keeps_X3_isFibre : GoodIn wsX3_keeps (wsV RX3 66 RX3 yX3_isFibre wsX3_isFibre) := goodIn_app (goodIn_of _ (by decide +kernel)) ggX3_keeps_X3_isFibre
set_option maxRecDepth 20000 in
theorem ggX3_keeps_X3_within : GoodIn wsX3_keeps wsX3_within := goodIn_r _ [12] (by decide +kernel) (by decide +kernel)
set_option maxRecDepth 20000 in
theorem gX3_keeps_X3_within : GoodIn wsX3_keeps (va_wsS RX3 48 yX3_within wsX3_within) := goodIn_app (goodIn_of _ (by decide +kernel)) ggX3_keeps_X3_within
theorem dX3_keeps_0 : decode cX3_keeps 0 = .ok (.aload_n 0, 1) := by decide +kernel
theorem dX3_keeps_1 : decode cX3_keeps 1 = .ok (.iconst 0, 1) := by decide +kernel
theorem dX3_keeps_2 : decode cX3_keeps 2 = .ok (.putfield 40, 3) := by decide +kernel
theorem dX3_keeps_5 : decode cX3_keeps 5 = .ok (.aload_n 0, 1) := by decide +kernel
theorem dX3_keeps_6 : decode cX3_keeps 6 = .ok (.iload_n 1, 1) := by decide +kernel
theorem dX3_keeps_7 : decode cX3_keeps 7 = .ok (.invokevirtual 66, 3) := by decide +kernel
theorem dX3_keeps_10 : decode cX3_keeps 10 = .ok (.ifCond .eq 13, 3) := by decide +kernel
theorem dX3_keeps_13 : decode cX3_keeps 13 = .ok (.iload_n 2, 1) := by decide +kernel
theorem dX3_keeps_14 : decode cX3_keeps 14 = .ok (.iconst 0, 1) := by decide +kernel
theorem dX3_keeps_15 : decode cX3_keeps 15 = .ok (.bipush 100, 2) := by decide +kernel
theorem dX3_keeps_17 : decode cX3_keeps 17 = .ok (.invokestatic 48, 3) := by decide +kernel
theorem dX3_keeps_20 : decode cX3_keeps 20 = .ok (.ifCond .ne 5, 3) := by decide +kernel
theorem dX3_keeps_23 : decode cX3_keeps 23 = .ok (.iconst 0, 1) := by decide +kernel
theorem dX3_keeps_24 : decode cX3_keeps 24 = .ok (.ireturn, 1) := by decide +kernel
theorem dX3_keeps_25 : decode cX3_keeps 25 = .ok (.aload_n 0, 1) := by decide +kernel
theorem dX3_keeps_26 : decode cX3_keeps 26 = .ok (.getfield 22, 3) := by decide +kernel
theorem dX3_keeps_29 : decode cX3_keeps 29 = .ok (.iload_n 1, 1) := by decide +kernel
theorem dX3_keeps_30 : decode cX3_keeps 30 = .ok (.iload_n 2, 1) := by decide +kernel
theorem dX3_keeps_31 : decode cX3_keeps 31 = .ok (.iastore, 1) := by decide +kernel
theorem dX3_keeps_32 : decode cX3_keeps 32 = .ok (.aload_n 0, 1) := by decide +kernel
theorem dX3_keeps_33 : decode cX3_keeps 33 = .ok (.iconst 0, 1) := by decide +kernel
theorem dX3_keeps_34 : decode cX3_keeps 34 = .ok (.putfield 60, 3) := by decide +kernel
theorem dX3_keeps_37 : decode cX3_keeps 37 = .ok (.iconst 1, 1) := by decide +kernel
theorem dX3_keeps_38 : decode cX3_keeps 38 = .ok (.ireturn, 1) := by decide +kernel
theorem dX3_stressAt_0 : decode cX3_stressAt 0 = .ok (.bipush 8, 2) := by decide +kernel
theorem dX3_stressAt_2 : decode cX3_stressAt 2 = .ok (.iload_n 1, 1) := by decide +kernel
theorem dX3_stressAt_3 : decode cX3_stressAt 3 = .ok (.imul, 1) := by decide +kernel
theorem dX3_stressAt_4 : decode cX3_stressAt 4 = .ok (.istore_n 3, 1) := by decide +kernel
theorem dX3_stressAt_5 : decode cX3_stressAt 5 = .ok (.aload_n 0, 1) := by decide +kernel
theorem dX3_stressAt_6 : decode cX3_stressAt 6 = .ok (.getfield 25, 3) := by decide +kernel
theorem dX3_stressAt_9 : decode cX3_stressAt 9 = .ok (.iload_n 1, 1) := by decide +kernel
theorem dX3_stressAt_10 : decode cX3_stressAt 10 = .ok (.iaload, 1) := by decide +kernel
theorem dX3_stressAt_11 : decode cX3_stressAt 11 = .ok (.istore 4, 2) := by decide +kernel
theorem dX3_stressAt_13 : decode cX3_stressAt 13 = .ok (.iload 4, 2) := by decide +kernel
theorem dX3_stressAt_15 : decode cX3_stressAt 15 = .ok (.ifCond .ne 5, 3) := by decide +kernel
theorem dX3_stressAt_18 : decode cX3_stressAt 18 = .ok (.iconst 0, 1) := by decide +kernel
theorem dX3_stressAt_19 : decode cX3_stressAt 19 = .ok (.ireturn, 1) := by decide +kernel
theorem dX3_stressAt_20 : decode cX3_stressAt 20 = .ok (.iload_n 2, 1) := by decide +kernel
theorem dX3_stressAt_21 : decode cX3_stressAt 21 = .ok (.aload_n 0, 1) := by decide +kernel
theorem dX3_stressAt_22 : decode cX3_stressAt 22 = .ok (.getfield 28, 3) := by decide +kernel
theorem dX3_stressAt_25 : decode cX3_stressAt 25 = .ok (.iload_n 3, 1) := by decide +kernel
theorem dX3_stressAt_26 : decode cX3_stressAt 26 = .ok (.iaload, 1) := by decide +kernel
theorem dX3_stressAt_27 : decode cX3_stressAt 27 = .ok (.if_icmp .gt 10, 3) := by decide +kernel
theorem dX3_stressAt_30 : decode cX3_stressAt 30 = .ok (.aload_n 0, 1) := by decide +kernel
theorem dX3_stressAt_31 : decode cX3_stressAt 31 = .ok (.getfield 31, 3) := by decide +kernel
theorem dX3_stressAt_34 : decode cX3_stressAt 34 = .ok (.iload_n 3, 1) := by decide +kernel
theorem dX3_stressAt_35 : decode cX3_stressAt 35 = .ok (.iaload, 1) := by decide +kernel
theorem dX3_stressAt_36 : decode cX3_stressAt 36 = .ok (.ireturn, 1) := by decide +kernel
theorem dX3_stressAt_37 : decode cX3_stressAt 37 = .ok (.iload_n 3, 1) := by decide +kernel
theorem dX3_stressAt_38 : decode cX3_stressAt 38 = .ok (.iconst 1, 1) := by decide +kernel
theorem dX3_stressAt_39 : decode cX3_stressAt 39 = .ok (.iadd, 1) := by decide +kernel
theorem dX3_stressAt_40 : decode cX3_stressAt 40 = .ok (.istore 5, 2) := by decide +kernel
theorem dX3_stressAt_42 : decode cX3_stressAt 42 = .ok (.iload 5, 2) := by decide +kernel
theorem dX3_stressAt_44 : decode cX3_stressAt 44 = .ok (.iload_n 3, 1) := by decide +kernel
theorem dX3_stressAt_45 : decode cX3_stressAt 45 = .ok (.iload 4, 2) := by decide +kernel
theorem dX3_stressAt_47 : decode cX3_stressAt 47 = .ok (.iadd, 1) := by decide +kernel
theorem dX3_stressAt_48 : decode cX3_stressAt 48 = .ok (.if_icmp .ge 20, 3) := by decide +kernel
theorem dX3_stressAt_51 : decode cX3_stressAt 51 = .ok (.aload_n 0, 1) := by decide +kernel
theorem dX3_stressAt_52 : decode cX3_stressAt 52 = .ok (.getfield 28, 3) := by decide +kernel
theorem dX3_stressAt_55 : decode cX3_stressAt 55 = .ok (.iload 5, 2) := by decide +kernel
theorem dX3_stressAt_57 : decode cX3_stressAt 57 = .ok (.iaload, 1) := by decide +kernel
theorem dX3_stressAt_58 : decode cX3_stressAt 58 = .ok (.iload_n 2, 1) := by decide +kernel
theorem dX3_stressAt_59 : decode cX3_stressAt 59 = .ok (.if_icmp .ge 9, 3) := by decide +kernel
theorem dX3_stressAt_62 : decode cX3_stressAt 62 = .ok (.iinc 5 1, 3) := by decide +kernel
theorem dX3_stressAt_65 : decode cX3_stressAt 65 = .ok (.goto (-23), 3) := by decide +kernel
theorem dX3_stressAt_68 : decode cX3_stressAt 68 = .ok (.iload 5, 2) := by decide +kernel
theorem dX3_stressAt_70 : decode cX3_stressAt 70 = .ok (.iload_n 3, 1) := by decide +kernel
theorem dX3_stressAt_71 : decode cX3_stressAt 71 = .ok (.iload 4, 2) := by decide +kernel
theorem dX3_stressAt_73 : decode cX3_stressAt 73 = .ok (.iadd, 1) := by decide +kernel
theorem dX3_stressAt_74 : decode cX3_stressAt 74 = .ok (.if_icmp .ne 13, 3) := by decide +kernel
theorem dX3_stressAt_77 : decode cX3_stressAt 77 = .ok (.aload_n 0, 1) := by decide +kernel
theorem dX3_stressAt_78 : decode cX3_stressAt 78 = .ok (.getfield 31, 3) := by decide +kernel
theorem dX3_stressAt_81 : decode cX3_stressAt 81 = .ok (.iload 5, 2) := by decide +kernel
theorem dX3_stressAt_83 : decode cX3_stressAt 83 = .ok (.iconst 1, 1) := by decide +kernel
theorem dX3_stressAt_84 : decode cX3_stressAt 84 = .ok (.isub, 1) := by decide +kernel
theorem dX3_stressAt_85 : decode cX3_stressAt 85 = .ok (.iaload, 1) := by decide +kernel
theorem dX3_stressAt_86 : decode cX3_stressAt 86 = .ok (.ireturn, 1) := by decide +kernel
theorem dX3_stressAt_87 : decode cX3_stressAt 87 = .ok (.aload_n 0, 1) := by decide +kernel
theorem dX3_stressAt_88 : decode cX3_stressAt 88 = .ok (.getfield 31, 3) := by decide +kernel
theorem dX3_stressAt_91 : decode cX3_stressAt 91 = .ok (.iload 5, 2) := by decide +kernel
theorem dX3_stressAt_93 : decode cX3_stressAt 93 = .ok (.iaload, 1) := by decide +kernel
theorem dX3_stressAt_94 : decode cX3_stressAt 94 = .ok (.aload_n 0, 1) := by decide +kernel
theorem dX3_stressAt_95 : decode cX3_stressAt 95 = .ok (.getfield 31, 3) := by decide +kernel
theorem dX3_stressAt_98 : decode cX3_stressAt 98 = .ok (.iload 5, 2) := by decide +kernel
theorem dX3_stressAt_100 : decode cX3_stressAt 100 = .ok (.iconst 1, 1) := by decide +kernel
theorem dX3_stressAt_101 : decode cX3_stressAt 101 = .ok (.isub, 1) := by decide +kernel
theorem dX3_stressAt_102 : decode cX3_stressAt 102 = .ok (.iaload, 1) := by decide +kernel
theorem dX3_stressAt_103 : decode cX3_stressAt 103 = .ok (.isub, 1) := by decide +kernel
theorem dX3_stressAt_104 : decode cX3_stressAt 104 = .ok (.i2l, 1) := by decide +kernel
theorem dX3_stressAt_105 : decode cX3_stressAt 105 = .ok (.iload_n 2, 1) := by decide +kernel
theorem dX3_stressAt_106 : decode cX3_stressAt 106 = .ok (.aload_n 0, 1) := by decide +kernel
theorem dX3_stressAt_107 : decode cX3_stressAt 107 = .ok (.getfield 28, 3) := by decide +kernel
theorem dX3_stressAt_110 : decode cX3_stressAt 110 = .ok (.iload 5, 2) := by decide +kernel
theorem dX3_stressAt_112 : decode cX3_stressAt 112 = .ok (.iconst 1, 1) := by decide +kernel
theorem dX3_stressAt_113 : decode cX3_stressAt 113 = .ok (.isub, 1) := by decide +kernel
theorem dX3_stressAt_114 : decode cX3_stressAt 114 = .ok (.iaload, 1) := by decide +kernel
theorem dX3_stressAt_115 : decode cX3_stressAt 115 = .ok (.isub, 1) := by decide +kernel
theorem dX3_stressAt_116 : decode cX3_stressAt 116 = .ok (.i2l, 1) := by decide +kernel
theorem dX3_stressAt_117 : decode cX3_stressAt 117 = .ok (.lmul, 1) := by decide +kernel
theorem dX3_stressAt_118 : decode cX3_stressAt 118 = .ok (.aload_n 0, 1) := by decide +kernel
theorem dX3_stressAt_119 : decode cX3_stressAt 119 = .ok (.getfield 28, 3) := by decide +kernel
theorem dX3_stressAt_122 : decode cX3_stressAt 122 = .ok (.iload 5, 2) := by decide +kernel
theorem dX3_stressAt_124 : decode cX3_stressAt 124 = .ok (.iaload, 1) := by decide +kernel
theorem dX3_stressAt_125 : decode cX3_stressAt 125 = .ok (.aload_n 0, 1) := by decide +kernel
theorem dX3_stressAt_126 : decode cX3_stressAt 126 = .ok (.getfield 28, 3) := by decide +kernel
theorem dX3_stressAt_129 : decode cX3_stressAt 129 = .ok (.iload 5, 2) := by decide +kernel
theorem dX3_stressAt_131 : decode cX3_stressAt 131 = .ok (.iconst 1, 1) := by decide +kernel
theorem dX3_stressAt_132 : decode cX3_stressAt 132 = .ok (.isub, 1) := by decide +kernel
theorem dX3_stressAt_133 : decode cX3_stressAt 133 = .ok (.iaload, 1) := by decide +kernel
theorem dX3_stressAt_134 : decode cX3_stressAt 134 = .ok (.isub, 1) := by decide +kernel
theorem dX3_stressAt_135 : decode cX3_stressAt 135 = .ok (.i2l, 1) := by decide +kernel
theorem dX3_stressAt_136 : decode cX3_stressAt 136 = .ok (.ldiv, 1) := by decide +kernel
theorem dX3_stressAt_137 : decode cX3_stressAt 137 = .ok (.lstore 6, 2) := by decide +kernel
theorem dX3_stressAt_139 : decode cX3_stressAt 139 = .ok (.aload_n 0, 1) := by decide +kernel
theorem dX3_stressAt_140 : decode cX3_stressAt 140 = .ok (.getfield 31, 3) := by decide +kernel
theorem dX3_stressAt_143 : decode cX3_stressAt 143 = .ok (.iload 5, 2) := by decide +kernel
theorem dX3_stressAt_145 : decode cX3_stressAt 145 = .ok (.iconst 1, 1) := by decide +kernel
theorem dX3_stressAt_146 : decode cX3_stressAt 146 = .ok (.isub, 1) := by decide +kernel
theorem dX3_stressAt_147 : decode cX3_stressAt 147 = .ok (.iaload, 1) := by decide +kernel
theorem dX3_stressAt_148 : decode cX3_stressAt 148 = .ok (.lload 6, 2) := by decide +kernel
theorem dX3_stressAt_150 : decode cX3_stressAt 150 = .ok (.l2i, 1) := by decide +kernel
theorem dX3_stressAt_151 : decode cX3_stressAt 151 = .ok (.iadd, 1) := by decide +kernel
theorem dX3_stressAt_152 : decode cX3_stressAt 152 = .ok (.ireturn, 1) := by decide +kernel
set_option maxRecDepth 20000 in
theorem ggX3_row_X3_isKind : GoodIn wsX3_row wsX3_isKind := goodIn_r _ [5] (by decide +kernel) (by decide +kernel)
set_option maxRecDepth 20000 in
theorem gX3_row_X3_isKind : GoodIn wsX3_row (va_wsS RX3 52 yX3_isKind wsX3_isKind) := goodIn_app (goodIn_of _ (by decide +kernel)) ggX3_row_X3_isKind
set_option maxRecDepth 20000 in
theorem ggX3_row_X3_stressAt : GoodIn wsX3_row wsX3_stressAt := goodIn_r _ [9, 10, 11, 12, 13, 14, 15, 16, 17, 18, 19, 20, 21, 22, 23, 24, 25, 26, 27, 28, 29, 30, 31] (by decide +kernel) (by decide +kernel)
set_option maxRecDepth 20000 in
theorem gX3_row_X3_stressAt : GoodIn wsX3_row (wsV RX3 69 RX3 yX3_stressAt wsX3_stressAt) := goodIn_app (goodIn_of _ (by decide +kernel)) ggX3_row_X3_stressAt
theorem dX3_row_0 : decode cX3_row 0 = .ok (.aload_n 0, 1) := by decide +kernel
theorem dX3_row_1 : decode cX3_row 1 = .ok (.iload_n 1, 1) := by decide +kernel
theorem dX3_row_2 : decode cX3_row 2 = .ok (.invokestatic 52, 3) := by decide +kernel
theorem dX3_row_5 : decode cX3_row 5 = .ok (.ifCond .eq 7, 3) := by decide +kernel
theorem dX3_row_8 : decode cX3_row 8 = .ok (.iconst 0, 1) := by decide +kernel
theorem dX3_row_9 : decode cX3_row 9 = .ok (.goto 4, 3) := by decide +kernel
theorem dX3_row_12 : decode cX3_row 12 = .ok (.iconst 1, 1) := by decide +kernel
theorem dX3_row_13 : decode cX3_row 13 = .ok (.putfield 40, 3) := by decide +kernel
theorem dX3_row_16 : decode cX3_row 16 = .ok (.aload_n 0, 1) := by decide +kernel
theorem dX3_row_17 : decode cX3_row 17 = .ok (.getfield 40, 3) := by decide +kernel
theorem dX3_row_20 : decode cX3_row 20 = .ok (.ifCond .le 7, 3) := by decide +kernel
theorem dX3_row_23 : decode cX3_row 23 = .ok (.iconst 0, 1) := by decide +kernel
theorem dX3_row_24 : decode cX3_row 24 = .ok (.goto 9, 3) := by decide +kernel
theorem dX3_row_27 : decode cX3_row 27 = .ok (.aload_n 0, 1) := by decide +kernel
theorem dX3_row_28 : decode cX3_row 28 = .ok (.iload_n 1, 1) := by decide +kernel
theorem dX3_row_29 : decode cX3_row 29 = .ok (.iload_n 2, 1) := by decide +kernel
theorem dX3_row_30 : decode cX3_row 30 = .ok (.invokevirtual 69, 3) := by decide +kernel
theorem dX3_row_33 : decode cX3_row 33 = .ok (.ireturn, 1) := by decide +kernel
theorem dX3_works_0 : decode cX3_works 0 = .ok (.iload_n 3, 1) := by decide +kernel
theorem dX3_works_1 : decode cX3_works 1 = .ok (.aload_n 0, 1) := by decide +kernel
theorem dX3_works_2 : decode cX3_works 2 = .ok (.getfield 13, 3) := by decide +kernel
theorem dX3_works_5 : decode cX3_works 5 = .ok (.iload_n 1, 1) := by decide +kernel
theorem dX3_works_6 : decode cX3_works 6 = .ok (.iaload, 1) := by decide +kernel
theorem dX3_works_7 : decode cX3_works 7 = .ok (.imul, 1) := by decide +kernel
theorem dX3_works_8 : decode cX3_works 8 = .ok (.istore 4, 2) := by decide +kernel
theorem dX3_works_10 : decode cX3_works 10 = .ok (.iload 4, 2) := by decide +kernel
theorem dX3_works_12 : decode cX3_works 12 = .ok (.ifCond .lt 12, 3) := by decide +kernel
theorem dX3_works_15 : decode cX3_works 15 = .ok (.iload 4, 2) := by decide +kernel
theorem dX3_works_17 : decode cX3_works 17 = .ok (.sipush 1000, 3) := by decide +kernel
theorem dX3_works_20 : decode cX3_works 20 = .ok (.idiv, 1) := by decide +kernel
theorem dX3_works_21 : decode cX3_works 21 = .ok (.goto 14, 3) := by decide +kernel
theorem dX3_works_24 : decode cX3_works 24 = .ok (.sipush 999, 3) := by decide +kernel
theorem dX3_works_27 : decode cX3_works 27 = .ok (.iload 4, 2) := by decide +kernel
theorem dX3_works_29 : decode cX3_works 29 = .ok (.isub, 1) := by decide +kernel
theorem dX3_works_30 : decode cX3_works 30 = .ok (.sipush 1000, 3) := by decide +kernel
theorem dX3_works_33 : decode cX3_works 33 = .ok (.idiv, 1) := by decide +kernel
theorem dX3_works_34 : decode cX3_works 34 = .ok (.ineg, 1) := by decide +kernel
theorem dX3_works_35 : decode cX3_works 35 = .ok (.istore 5, 2) := by decide +kernel
theorem dX3_works_37 : decode cX3_works 37 = .ok (.iload_n 2, 1) := by decide +kernel
theorem dX3_works_38 : decode cX3_works 38 = .ok (.iload 5, 2) := by decide +kernel
theorem dX3_works_40 : decode cX3_works 40 = .ok (.iadd, 1) := by decide +kernel
theorem dX3_works_41 : decode cX3_works 41 = .ok (.aload_n 0, 1) := by decide +kernel
theorem dX3_works_42 : decode cX3_works 42 = .ok (.getfield 19, 3) := by decide +kernel
theorem dX3_works_45 : decode cX3_works 45 = .ok (.iload_n 1, 1) := by decide +kernel
theorem dX3_works_46 : decode cX3_works 46 = .ok (.iaload, 1) := by decide +kernel
theorem dX3_works_47 : decode cX3_works 47 = .ok (.isub, 1) := by decide +kernel
theorem dX3_works_48 : decode cX3_works 48 = .ok (.aload_n 0, 1) := by decide +kernel
theorem dX3_works_49 : decode cX3_works 49 = .ok (.getfield 37, 3) := by decide +kernel
theorem dX3_works_52 : decode cX3_works 52 = .ok (.aload_n 0, 1) := by decide +kernel
theorem dX3_works_53 : decode cX3_works 53 = .ok (.getfield 16, 3) := by decide +kernel
theorem dX3_works_56 : decode cX3_works 56 = .ok (.iload_n 1, 1) := by decide +kernel
theorem dX3_works_57 : decode cX3_works 57 = .ok (.iaload, 1) := by decide +kernel
theorem dX3_works_58 : decode cX3_works 58 = .ok (.iaload, 1) := by decide +kernel
theorem dX3_works_59 : decode cX3_works 59 = .ok (.isub, 1) := by decide +kernel
theorem dX3_works_60 : decode cX3_works 60 = .ok (.istore 6, 2) := by decide +kernel
theorem dX3_works_62 : decode cX3_works 62 = .ok (.iload 6, 2) := by decide +kernel
theorem dX3_works_64 : decode cX3_works 64 = .ok (.bipush 100, 2) := by decide +kernel
theorem dX3_works_66 : decode cX3_works 66 = .ok (.imul, 1) := by decide +kernel
theorem dX3_works_67 : decode cX3_works 67 = .ok (.bipush 100, 2) := by decide +kernel
theorem dX3_works_69 : decode cX3_works 69 = .ok (.aload_n 0, 1) := by decide +kernel
theorem dX3_works_70 : decode cX3_works 70 = .ok (.getfield 34, 3) := by decide +kernel
theorem dX3_works_73 : decode cX3_works 73 = .ok (.aload_n 0, 1) := by decide +kernel
theorem dX3_works_74 : decode cX3_works 74 = .ok (.getfield 16, 3) := by decide +kernel
theorem dX3_works_77 : decode cX3_works 77 = .ok (.iload_n 1, 1) := by decide +kernel
theorem dX3_works_78 : decode cX3_works 78 = .ok (.iaload, 1) := by decide +kernel
theorem dX3_works_79 : decode cX3_works 79 = .ok (.iaload, 1) := by decide +kernel
theorem dX3_works_80 : decode cX3_works 80 = .ok (.iadd, 1) := by decide +kernel
theorem dX3_works_81 : decode cX3_works 81 = .ok (.idiv, 1) := by decide +kernel
theorem dX3_works_82 : decode cX3_works 82 = .ok (.ireturn, 1) := by decide +kernel
set_option maxRecDepth 20000 in
theorem ggX3_stressOf_X3_works : GoodIn wsX3_stressOf wsX3_works := goodIn_r _ [8, 9, 10, 11, 1, 12, 20, 21, 22, 23, 24, 25, 26, 27, 28, 29, 30, 31, 32, 33, 34, 35, 36, 37, 38] (by decide +kernel) (by decide +kernel)
set_option maxRecDepth 20000 in
theorem gX3_stressOf_X3_works : GoodIn wsX3_stressOf (wsV RX3 73 RX3 yX3_works wsX3_works) := goodIn_app (goodIn_of _ (by decide +kernel)) ggX3_stressOf_X3_works
set_option maxRecDepth 20000 in
theorem ggX3_stressOf_X3_stressAt : GoodIn wsX3_stressOf wsX3_stressAt := goodIn_r _ [16, 17, 18, 19, 20, 21, 22, 23, 24, 25, 26, 27, 28, 29, 30, 31, 32, 33, 34, 35, 36, 37, 38] (by decide +kernel) (by decide +kernel)
set_option maxRecDepth 20000 in
theorem gX3_stressOf_X3_stressAt : GoodIn wsX3_stressOf (wsV RX3 69 RX3 yX3_stressAt wsX3_stressAt) := goodIn_app (goodIn_of _ (by decide +kernel)) ggX3_stressOf_X3_stressAt
theorem dX3_stressOf_0 : decode cX3_stressOf 0 = .ok (.aload_n 0, 1) := by decide +kernel
theorem dX3_stressOf_1 : decode cX3_stressOf 1 = .ok (.aload_n 0, 1) := by decide +kernel
theorem dX3_stressOf_2 : decode cX3_stressOf 2 = .ok (.getfield 16, 3) := by decide +kernel
theorem dX3_stressOf_5 : decode cX3_stressOf 5 = .ok (.iload_n 1, 1) := by decide +kernel
theorem dX3_stressOf_6 : decode cX3_stressOf 6 = .ok (.iaload, 1) := by decide +kernel
theorem dX3_stressOf_7 : decode cX3_stressOf 7 = .ok (.aload_n 0, 1) := by decide +kernel
theorem dX3_stressOf_8 : decode cX3_stressOf 8 = .ok (.iload_n 1, 1) := by decide +kernel
theorem dX3_stressOf_9 : decode cX3_stressOf 9 = .ok (.iload_n 2, 1) := by decide +kernel
theorem dX3_stressOf_10 : decode cX3_stressOf 10 = .ok (.iload_n 3, 1) := by decide +kernel
theorem dX3_stressOf_11 : decode cX3_stressOf 11 = .ok (.invokevirtual 73, 3) := by decide +kernel
theorem dX3_stressOf_14 : decode cX3_stressOf 14 = .ok (.invokevirtual 69, 3) := by decide +kernel
theorem dX3_stressOf_17 : decode cX3_stressOf 17 = .ok (.i2l, 1) := by decide +kernel
theorem dX3_stressOf_18 : decode cX3_stressOf 18 = .ok (.aload_n 0, 1) := by decide +kernel
theorem dX3_stressOf_19 : decode cX3_stressOf 19 = .ok (.getfield 22, 3) := by decide +kernel
theorem dX3_stressOf_22 : decode cX3_stressOf 22 = .ok (.iload_n 1, 1) := by decide +kernel
theorem dX3_stressOf_23 : decode cX3_stressOf 23 = .ok (.iaload, 1) := by decide +kernel
theorem dX3_stressOf_24 : decode cX3_stressOf 24 = .ok (.i2l, 1) := by decide +kernel
theorem dX3_stressOf_25 : decode cX3_stressOf 25 = .ok (.lmul, 1) := by decide +kernel
theorem dX3_stressOf_26 : decode cX3_stressOf 26 = .ok (.ldc2_w 77, 3) := by decide +kernel
theorem dX3_stressOf_29 : decode cX3_stressOf 29 = .ok (.ldiv, 1) := by decide +kernel
theorem dX3_stressOf_30 : decode cX3_stressOf 30 = .ok (.l2i, 1) := by decide +kernel
theorem dX3_stressOf_31 : decode cX3_stressOf 31 = .ok (.ireturn, 1) := by decide +kernel
set_option maxRecDepth 20000 in
theorem ggX3_isBeyond_X3_works : GoodIn wsX3_isBeyond wsX3_works := goodIn_r _ [8, 9, 10, 11, 1, 12, 13, 14, 15, 16, 17, 18, 19, 20, 21, 22, 23, 24, 25, 26, 27, 28, 29, 30, 31] (by decide +kernel) (by decide +kernel)
set_option maxRecDepth 20000 in
theorem gX3_isBeyond_X3_works : GoodIn wsX3_isBeyond (wsV RX3 73 RX3 yX3_works wsX3_works) := goodIn_app (goodIn_of _ (by decide +kernel)) ggX3_isBeyond_X3_works
theorem dX3_isBeyond_0 : decode cX3_isBeyond 0 = .ok (.aload_n 0, 1) := by decide +kernel
theorem dX3_isBeyond_1 : decode cX3_isBeyond 1 = .ok (.iload_n 1, 1) := by decide +kernel
theorem dX3_isBeyond_2 : decode cX3_isBeyond 2 = .ok (.iload_n 2, 1) := by decide +kernel
theorem dX3_isBeyond_3 : decode cX3_isBeyond 3 = .ok (.iload_n 3, 1) := by decide +kernel
theorem dX3_isBeyond_4 : decode cX3_isBeyond 4 = .ok (.invokevirtual 73, 3) := by decide +kernel
theorem dX3_isBeyond_7 : decode cX3_isBeyond 7 = .ok (.istore 4, 2) := by decide +kernel
theorem dX3_isBeyond_9 : decode cX3_isBeyond 9 = .ok (.bipush 8, 2) := by decide +kernel
theorem dX3_isBeyond_11 : decode cX3_isBeyond 11 = .ok (.aload_n 0, 1) := by decide +kernel
theorem dX3_isBeyond_12 : decode cX3_isBeyond 12 = .ok (.getfield 16, 3) := by decide +kernel
theorem dX3_isBeyond_15 : decode cX3_isBeyond 15 = .ok (.iload_n 1, 1) := by decide +kernel
theorem dX3_isBeyond_16 : decode cX3_isBeyond 16 = .ok (.iaload, 1) := by decide +kernel
theorem dX3_isBeyond_17 : decode cX3_isBeyond 17 = .ok (.imul, 1) := by decide +kernel
theorem dX3_isBeyond_18 : decode cX3_isBeyond 18 = .ok (.istore 5, 2) := by decide +kernel
theorem dX3_isBeyond_20 : decode cX3_isBeyond 20 = .ok (.aload_n 0, 1) := by decide +kernel
theorem dX3_isBeyond_21 : decode cX3_isBeyond 21 = .ok (.getfield 25, 3) := by decide +kernel
theorem dX3_isBeyond_24 : decode cX3_isBeyond 24 = .ok (.aload_n 0, 1) := by decide +kernel
theorem dX3_isBeyond_25 : decode cX3_isBeyond 25 = .ok (.getfield 16, 3) := by decide +kernel
theorem dX3_isBeyond_28 : decode cX3_isBeyond 28 = .ok (.iload_n 1, 1) := by decide +kernel
theorem dX3_isBeyond_29 : decode cX3_isBeyond 29 = .ok (.iaload, 1) := by decide +kernel
theorem dX3_isBeyond_30 : decode cX3_isBeyond 30 = .ok (.iaload, 1) := by decide +kernel
theorem dX3_isBeyond_31 : decode cX3_isBeyond 31 = .ok (.istore 6, 2) := by decide +kernel
theorem dX3_isBeyond_33 : decode cX3_isBeyond 33 = .ok (.iload 6, 2) := by decide +kernel
theorem dX3_isBeyond_35 : decode cX3_isBeyond 35 = .ok (.ifCond .le 36, 3) := by decide +kernel
theorem dX3_isBeyond_38 : decode cX3_isBeyond 38 = .ok (.iload 4, 2) := by decide +kernel
theorem dX3_isBeyond_40 : decode cX3_isBeyond 40 = .ok (.aload_n 0, 1) := by decide +kernel
theorem dX3_isBeyond_41 : decode cX3_isBeyond 41 = .ok (.getfield 28, 3) := by decide +kernel
theorem dX3_isBeyond_44 : decode cX3_isBeyond 44 = .ok (.iload 5, 2) := by decide +kernel
theorem dX3_isBeyond_46 : decode cX3_isBeyond 46 = .ok (.iaload, 1) := by decide +kernel
theorem dX3_isBeyond_47 : decode cX3_isBeyond 47 = .ok (.if_icmp .lt 20, 3) := by decide +kernel
theorem dX3_isBeyond_50 : decode cX3_isBeyond 50 = .ok (.iload 4, 2) := by decide +kernel
theorem dX3_isBeyond_52 : decode cX3_isBeyond 52 = .ok (.aload_n 0, 1) := by decide +kernel
theorem dX3_isBeyond_53 : decode cX3_isBeyond 53 = .ok (.getfield 28, 3) := by decide +kernel
theorem dX3_isBeyond_56 : decode cX3_isBeyond 56 = .ok (.iload 5, 2) := by decide +kernel
theorem dX3_isBeyond_58 : decode cX3_isBeyond 58 = .ok (.iload 6, 2) := by decide +kernel
theorem dX3_isBeyond_60 : decode cX3_isBeyond 60 = .ok (.iadd, 1) := by decide +kernel
theorem dX3_isBeyond_61 : decode cX3_isBeyond 61 = .ok (.iconst 1, 1) := by decide +kernel
theorem dX3_isBeyond_62 : decode cX3_isBeyond 62 = .ok (.isub, 1) := by decide +kernel
theorem dX3_isBeyond_63 : decode cX3_isBeyond 63 = .ok (.iaload, 1) := by decide +kernel
theorem dX3_isBeyond_64 : decode cX3_isBeyond 64 = .ok (.if_icmp .le 7, 3) := by decide +kernel
theorem dX3_isBeyond_67 : decode cX3_isBeyond 67 = .ok (.iconst 1, 1) := by decide +kernel
theorem dX3_isBeyond_68 : decode cX3_isBeyond 68 = .ok (.goto 4, 3) := by decide +kernel
theorem dX3_isBeyond_71 : decode cX3_isBeyond 71 = .ok (.iconst 0, 1) := by decide +kernel
theorem dX3_isBeyond_72 : decode cX3_isBeyond 72 = .ok (.ireturn, 1) := by decide +kernel
set_option maxRecDepth 20000 in
theorem ggX3_firstBeyond_X3_isBeyond : GoodIn wsX3_firstBeyond wsX3_isBeyond := goodIn_r _ [6, 7, 8, 9, 10, 11, 12, 5, 13, 14, 15, 16, 17, 18, 19, 20, 21, 22, 23, 24, 25, 26, 27, 28, 29, 30, 31, 32, 33, 34, 35, 36] (by decide +kernel) (by decide +kernel)
set_option maxRecDepth 20000 in
theorem gX3_firstBeyond_X3_isBeyond : GoodIn wsX3_firstBeyond (wsV RX3 79 RX3 yX3_isBeyond wsX3_isBeyond) := goodIn_app (goodIn_of _ (by decide +kernel)) ggX3_firstBeyond_X3_isBeyond
theorem dX3_firstBeyond_0 : decode cX3_firstBeyond 0 = .ok (.iconst 0, 1) := by decide +kernel
theorem dX3_firstBeyond_1 : decode cX3_firstBeyond 1 = .ok (.istore_n 3, 1) := by decide +kernel
theorem dX3_firstBeyond_2 : decode cX3_firstBeyond 2 = .ok (.iload_n 3, 1) := by decide +kernel
theorem dX3_firstBeyond_3 : decode cX3_firstBeyond 3 = .ok (.aload_n 0, 1) := by decide +kernel
theorem dX3_firstBeyond_4 : decode cX3_firstBeyond 4 = .ok (.getfield 44, 3) := by decide +kernel
theorem dX3_firstBeyond_7 : decode cX3_firstBeyond 7 = .ok (.if_icmp .ge 21, 3) := by decide +kernel
theorem dX3_firstBeyond_10 : decode cX3_firstBeyond 10 = .ok (.aload_n 0, 1) := by decide +kernel
theorem dX3_firstBeyond_11 : decode cX3_firstBeyond 11 = .ok (.iload_n 3, 1) := by decide +kernel
theorem dX3_firstBeyond_12 : decode cX3_firstBeyond 12 = .ok (.iload_n 1, 1) := by decide +kernel
theorem dX3_firstBeyond_13 : decode cX3_firstBeyond 13 = .ok (.iload_n 2, 1) := by decide +kernel
theorem dX3_firstBeyond_14 : decode cX3_firstBeyond 14 = .ok (.invokevirtual 79, 3) := by decide +kernel
theorem dX3_firstBeyond_17 : decode cX3_firstBeyond 17 = .ok (.ifCond .eq 5, 3) := by decide +kernel
theorem dX3_firstBeyond_20 : decode cX3_firstBeyond 20 = .ok (.iload_n 3, 1) := by decide +kernel
theorem dX3_firstBeyond_21 : decode cX3_firstBeyond 21 = .ok (.ireturn, 1) := by decide +kernel
theorem dX3_firstBeyond_22 : decode cX3_firstBeyond 22 = .ok (.iinc 3 1, 3) := by decide +kernel
theorem dX3_firstBeyond_25 : decode cX3_firstBeyond 25 = .ok (.goto (-23), 3) := by decide +kernel
theorem dX3_firstBeyond_28 : decode cX3_firstBeyond 28 = .ok (.iconst (-1), 1) := by decide +kernel
theorem dX3_firstBeyond_29 : decode cX3_firstBeyond 29 = .ok (.ireturn, 1) := by decide +kernel
set_option maxRecDepth 20000 in
theorem ggX3_sum_X3_stressOf : GoodIn wsX3_sum wsX3_stressOf := goodIn_r _ [8, 9, 10, 11, 12, 13, 14, 7, 15, 3, 16, 17, 18, 19, 20, 21, 22, 23, 24, 25, 26, 27, 28, 29, 30, 31, 32, 33, 34, 35, 36, 37, 38, 39, 40, 41, 42, 43, 44] (by decide +kernel) (by decide +kernel)
set_option maxRecDepth 20000 in
theorem gX3_sum_X3_stressOf : GoodIn wsX3_sum (wsV RX3 82 RX3 yX3_stressOf wsX3_stressOf) := goodIn_app (goodIn_of _ (by decide +kernel)) ggX3_sum_X3_stressOf
theorem dX3_sum_0 : decode cX3_sum 0 = .ok (.lconst 0, 1) := by decide +kernel
theorem dX3_sum_1 : decode cX3_sum 1 = .ok (.lstore 4, 2) := by decide +kernel
theorem dX3_sum_3 : decode cX3_sum 3 = .ok (.iconst 0, 1) := by decide +kernel
theorem dX3_sum_4 : decode cX3_sum 4 = .ok (.istore 6, 2) := by decide +kernel
theorem dX3_sum_6 : decode cX3_sum 6 = .ok (.iload 6, 2) := by decide +kernel
theorem dX3_sum_8 : decode cX3_sum 8 = .ok (.aload_n 0, 1) := by decide +kernel
theorem dX3_sum_9 : decode cX3_sum 9 = .ok (.getfield 44, 3) := by decide +kernel
theorem dX3_sum_12 : decode cX3_sum 12 = .ok (.if_icmp .ge 49, 3) := by decide +kernel
theorem dX3_sum_15 : decode cX3_sum 15 = .ok (.lload 4, 2) := by decide +kernel
theorem dX3_sum_17 : decode cX3_sum 17 = .ok (.aload_n 0, 1) := by decide +kernel
theorem dX3_sum_18 : decode cX3_sum 18 = .ok (.getfield 7, 3) := by decide +kernel
theorem dX3_sum_21 : decode cX3_sum 21 = .ok (.iload 6, 2) := by decide +kernel
theorem dX3_sum_23 : decode cX3_sum 23 = .ok (.iaload, 1) := by decide +kernel
theorem dX3_sum_24 : decode cX3_sum 24 = .ok (.i2l, 1) := by decide +kernel
theorem dX3_sum_25 : decode cX3_sum 25 = .ok (.aload_n 0, 1) := by decide +kernel
theorem dX3_sum_26 : decode cX3_sum 26 = .ok (.iload 6, 2) := by decide +kernel
theorem dX3_sum_28 : decode cX3_sum 28 = .ok (.iload_n 1, 1) := by decide +kernel
theorem dX3_sum_29 : decode cX3_sum 29 = .ok (.iload_n 2, 1) := by decide +kernel
theorem dX3_sum_30 : decode cX3_sum 30 = .ok (.invokevirtual 82, 3) := by decide +kernel
theorem dX3_sum_33 : decode cX3_sum 33 = .ok (.i2l, 1) := by decide +kernel
theorem dX3_sum_34 : decode cX3_sum 34 = .ok (.lmul, 1) := by decide +kernel
theorem dX3_sum_35 : decode cX3_sum 35 = .ok (.iload_n 3, 1) := by decide +kernel
theorem dX3_sum_36 : decode cX3_sum 36 = .ok (.ifCond .eq 13, 3) := by decide +kernel
theorem dX3_sum_39 : decode cX3_sum 39 = .ok (.aload_n 0, 1) := by decide +kernel
theorem dX3_sum_40 : decode cX3_sum 40 = .ok (.getfield 13, 3) := by decide +kernel
theorem dX3_sum_43 : decode cX3_sum 43 = .ok (.iload 6, 2) := by decide +kernel
theorem dX3_sum_45 : decode cX3_sum 45 = .ok (.iaload, 1) := by decide +kernel
theorem dX3_sum_46 : decode cX3_sum 46 = .ok (.goto 4, 3) := by decide +kernel
theorem dX3_sum_49 : decode cX3_sum 49 = .ok (.iconst 1, 1) := by decide +kernel
theorem dX3_sum_50 : decode cX3_sum 50 = .ok (.i2l, 1) := by decide +kernel
theorem dX3_sum_51 : decode cX3_sum 51 = .ok (.lmul, 1) := by decide +kernel
theorem dX3_sum_52 : decode cX3_sum 52 = .ok (.ladd, 1) := by decide +kernel
theorem dX3_sum_53 : decode cX3_sum 53 = .ok (.lstore 4, 2) := by decide +kernel
theorem dX3_sum_55 : decode cX3_sum 55 = .ok (.iinc 6 1, 3) := by decide +kernel
theorem dX3_sum_58 : decode cX3_sum 58 = .ok (.goto (-52), 3) := by decide +kernel
theorem dX3_sum_61 : decode cX3_sum 61 = .ok (.lload 4, 2) := by decide +kernel
theorem dX3_sum_63 : decode cX3_sum 63 = .ok (.lreturn, 1) := by decide +kernel
set_option maxRecDepth 20000 in
theorem ggX3_of_X3_within : GoodIn wsX3_of wsX3_within := goodIn_r _ [6] (by decide +kernel) (by decide +kernel)
set_option maxRecDepth 20000 in
theorem gX3_of_X3_within : GoodIn wsX3_of (va_wsS RX3 48 yX3_within wsX3_within) := goodIn_app (goodIn_of _ (by decide +kernel)) ggX3_of_X3_within
set_option maxRecDepth 20000 in
theorem ggX3_of_X3_sum : GoodIn wsX3_of wsX3_sum := goodIn_r _ [10, 11, 12, 13, 14, 15, 16, 5, 17, 18, 19, 20, 21, 22, 23, 24, 25, 26, 27, 28, 29, 30, 31, 32, 33, 34, 35, 36, 37, 38, 39, 40, 41, 42, 43, 44, 45, 46, 47, 48, 49, 50, 51, 52, 53] (by decide +kernel) (by decide +kernel)
set_option maxRecDepth 20000 in
theorem gX3_of_X3_sum : GoodIn wsX3_of (wsV RX3 85 RX3 yX3_sum wsX3_sum) := goodIn_app (goodIn_of _ (by decide +kernel)) ggX3_of_X3_sum
theorem dX3_of_0 : decode cX3_of 0 = .ok (.aload_n 0, 1) := by decide +kernel
theorem dX3_of_1 : decode cX3_of 1 = .ok (.iconst 0, 1) := by decide +kernel
theorem dX3_of_2 : decode cX3_of 2 = .ok (.putfield 40, 3) := by decide +kernel
theorem dX3_of_5 : decode cX3_of 5 = .ok (.iload_n 1, 1) := by decide +kernel
theorem dX3_of_6 : decode cX3_of 6 = .ok (.sipush (-20000), 3) := by decide +kernel
theorem dX3_of_9 : decode cX3_of 9 = .ok (.sipush 20000, 3) := by decide +kernel
theorem dX3_of_12 : decode cX3_of 12 = .ok (.invokestatic 48, 3) := by decide +kernel
theorem dX3_of_15 : decode cX3_of 15 = .ok (.ifCond .eq 29, 3) := by decide +kernel
theorem dX3_of_18 : decode cX3_of 18 = .ok (.iload_n 2, 1) := by decide +kernel
theorem dX3_of_19 : decode cX3_of 19 = .ok (.sipush (-20000), 3) := by decide +kernel
theorem dX3_of_22 : decode cX3_of 22 = .ok (.sipush 20000, 3) := by decide +kernel
theorem dX3_of_25 : decode cX3_of 25 = .ok (.invokestatic 48, 3) := by decide +kernel
theorem dX3_of_28 : decode cX3_of 28 = .ok (.ifCond .eq 16, 3) := by decide +kernel
theorem dX3_of_31 : decode cX3_of 31 = .ok (.iload_n 3, 1) := by decide +kernel
theorem dX3_of_32 : decode cX3_of 32 = .ok (.iconst 0, 1) := by decide +kernel
theorem dX3_of_33 : decode cX3_of 33 = .ok (.iconst 1, 1) := by decide +kernel
theorem dX3_of_34 : decode cX3_of 34 = .ok (.invokestatic 48, 3) := by decide +kernel
theorem dX3_of_37 : decode cX3_of 37 = .ok (.ifCond .eq 7, 3) := by decide +kernel
theorem dX3_of_40 : decode cX3_of 40 = .ok (.iconst 1, 1) := by decide +kernel
theorem dX3_of_41 : decode cX3_of 41 = .ok (.goto 4, 3) := by decide +kernel
theorem dX3_of_44 : decode cX3_of 44 = .ok (.iconst 0, 1) := by decide +kernel
theorem dX3_of_45 : decode cX3_of 45 = .ok (.istore 4, 2) := by decide +kernel
theorem dX3_of_47 : decode cX3_of 47 = .ok (.iload 4, 2) := by decide +kernel
theorem dX3_of_49 : decode cX3_of 49 = .ok (.ifCond .eq 22, 3) := by decide +kernel
theorem dX3_of_52 : decode cX3_of 52 = .ok (.aload_n 0, 1) := by decide +kernel
theorem dX3_of_53 : decode cX3_of 53 = .ok (.iload_n 1, 1) := by decide +kernel
theorem dX3_of_54 : decode cX3_of 54 = .ok (.iload_n 2, 1) := by decide +kernel
theorem dX3_of_55 : decode cX3_of 55 = .ok (.iload_n 3, 1) := by decide +kernel
theorem dX3_of_56 : decode cX3_of 56 = .ok (.iconst 1, 1) := by decide +kernel
theorem dX3_of_57 : decode cX3_of 57 = .ok (.if_icmp .ne 7, 3) := by decide +kernel
theorem dX3_of_60 : decode cX3_of 60 = .ok (.iconst 1, 1) := by decide +kernel
theorem dX3_of_61 : decode cX3_of 61 = .ok (.goto 4, 3) := by decide +kernel
theorem dX3_of_64 : decode cX3_of 64 = .ok (.iconst 0, 1) := by decide +kernel
theorem dX3_of_65 : decode cX3_of 65 = .ok (.invokevirtual 85, 3) := by decide +kernel
theorem dX3_of_68 : decode cX3_of 68 = .ok (.goto 6, 3) := by decide +kernel
theorem dX3_of_71 : decode cX3_of 71 = .ok (.ldc2_w 89, 3) := by decide +kernel
theorem dX3_of_74 : decode cX3_of 74 = .ok (.lreturn, 1) := by decide +kernel
set_option maxRecDepth 20000 in
theorem ggX3_balanceOf_X3_sum : GoodIn wsX3_balanceOf wsX3_sum := goodIn_r _ [6, 7, 8, 9, 10, 11, 12, 5, 13, 14, 15, 16, 17, 18, 19, 20, 21, 22, 23, 24, 25, 26, 27, 28, 29, 30, 31, 32, 33, 34, 35, 36, 37, 38, 39, 40, 41, 42, 43, 44, 45, 46, 47, 48, 49] (by decide +kernel) (by decide +kernel)
set_option maxRecDepth 20000 in
theorem gX3_balanceOf_X3_sum : GoodIn wsX3_balanceOf (wsV RX3 85 RX3 yX3_sum wsX3_sum) := goodIn_app (goodIn_of _ (by decide +kernel)) ggX3_balanceOf_X3_sum
theorem dX3_balanceOf_0 : decode cX3_balanceOf 0 = .ok (.aload_n 0, 1) := by decide +kernel
theorem dX3_balanceOf_1 : decode cX3_balanceOf 1 = .ok (.sipush 20000, 3) := by decide +kernel
theorem dX3_balanceOf_4 : decode cX3_balanceOf 4 = .ok (.iload_n 3, 1) := by decide +kernel
theorem dX3_balanceOf_5 : decode cX3_balanceOf 5 = .ok (.iconst 0, 1) := by decide +kernel
theorem dX3_balanceOf_6 : decode cX3_balanceOf 6 = .ok (.invokevirtual 85, 3) := by decide +kernel
theorem dX3_balanceOf_9 : decode cX3_balanceOf 9 = .ok (.lload_n 1, 1) := by decide +kernel
theorem dX3_balanceOf_10 : decode cX3_balanceOf 10 = .ok (.lcmp, 1) := by decide +kernel
theorem dX3_balanceOf_11 : decode cX3_balanceOf 11 = .ok (.ifCond .ge 6, 3) := by decide +kernel
theorem dX3_balanceOf_14 : decode cX3_balanceOf 14 = .ok (.ldc 64, 2) := by decide +kernel
theorem dX3_balanceOf_16 : decode cX3_balanceOf 16 = .ok (.ireturn, 1) := by decide +kernel
theorem dX3_balanceOf_17 : decode cX3_balanceOf 17 = .ok (.sipush (-20000), 3) := by decide +kernel
theorem dX3_balanceOf_20 : decode cX3_balanceOf 20 = .ok (.istore 4, 2) := by decide +kernel
theorem dX3_balanceOf_22 : decode cX3_balanceOf 22 = .ok (.sipush 20000, 3) := by decide +kernel
theorem dX3_balanceOf_25 : decode cX3_balanceOf 25 = .ok (.istore 5, 2) := by decide +kernel
theorem dX3_balanceOf_27 : decode cX3_balanceOf 27 = .ok (.iload 4, 2) := by decide +kernel
theorem dX3_balanceOf_29 : decode cX3_balanceOf 29 = .ok (.iload 5, 2) := by decide +kernel
theorem dX3_balanceOf_31 : decode cX3_balanceOf 31 = .ok (.if_icmp .ge 44, 3) := by decide +kernel
theorem dX3_balanceOf_34 : decode cX3_balanceOf 34 = .ok (.iload 4, 2) := by decide +kernel
theorem dX3_balanceOf_36 : decode cX3_balanceOf 36 = .ok (.iload 5, 2) := by decide +kernel
theorem dX3_balanceOf_38 : decode cX3_balanceOf 38 = .ok (.iload 4, 2) := by decide +kernel
theorem dX3_balanceOf_40 : decode cX3_balanceOf 40 = .ok (.isub, 1) := by decide +kernel
theorem dX3_balanceOf_41 : decode cX3_balanceOf 41 = .ok (.iconst 2, 1) := by decide +kernel
theorem dX3_balanceOf_42 : decode cX3_balanceOf 42 = .ok (.idiv, 1) := by decide +kernel
theorem dX3_balanceOf_43 : decode cX3_balanceOf 43 = .ok (.iadd, 1) := by decide +kernel
theorem dX3_balanceOf_44 : decode cX3_balanceOf 44 = .ok (.istore 6, 2) := by decide +kernel
theorem dX3_balanceOf_46 : decode cX3_balanceOf 46 = .ok (.aload_n 0, 1) := by decide +kernel
theorem dX3_balanceOf_47 : decode cX3_balanceOf 47 = .ok (.iload 6, 2) := by decide +kernel
theorem dX3_balanceOf_49 : decode cX3_balanceOf 49 = .ok (.iload_n 3, 1) := by decide +kernel
theorem dX3_balanceOf_50 : decode cX3_balanceOf 50 = .ok (.iconst 0, 1) := by decide +kernel
theorem dX3_balanceOf_51 : decode cX3_balanceOf 51 = .ok (.invokevirtual 85, 3) := by decide +kernel
theorem dX3_balanceOf_54 : decode cX3_balanceOf 54 = .ok (.lload_n 1, 1) := by decide +kernel
theorem dX3_balanceOf_55 : decode cX3_balanceOf 55 = .ok (.lcmp, 1) := by decide +kernel
theorem dX3_balanceOf_56 : decode cX3_balanceOf 56 = .ok (.ifCond .lt 10, 3) := by decide +kernel
theorem dX3_balanceOf_59 : decode cX3_balanceOf 59 = .ok (.iload 6, 2) := by decide +kernel
theorem dX3_balanceOf_61 : decode cX3_balanceOf 61 = .ok (.istore 5, 2) := by decide +kernel
theorem dX3_balanceOf_63 : decode cX3_balanceOf 63 = .ok (.goto 9, 3) := by decide +kernel
theorem dX3_balanceOf_66 : decode cX3_balanceOf 66 = .ok (.iload 6, 2) := by decide +kernel
theorem dX3_balanceOf_68 : decode cX3_balanceOf 68 = .ok (.iconst 1, 1) := by decide +kernel
theorem dX3_balanceOf_69 : decode cX3_balanceOf 69 = .ok (.iadd, 1) := by decide +kernel
theorem dX3_balanceOf_70 : decode cX3_balanceOf 70 = .ok (.istore 4, 2) := by decide +kernel
theorem dX3_balanceOf_72 : decode cX3_balanceOf 72 = .ok (.goto (-45), 3) := by decide +kernel
theorem dX3_balanceOf_75 : decode cX3_balanceOf 75 = .ok (.iload 4, 2) := by decide +kernel
theorem dX3_balanceOf_77 : decode cX3_balanceOf 77 = .ok (.ireturn, 1) := by decide +kernel
set_option maxRecDepth 20000 in
theorem ggX3_balance_X3_within : GoodIn wsX3_balance wsX3_within := goodIn_r _ [6] (by decide +kernel) (by decide +kernel)
set_option maxRecDepth 20000 in
theorem gX3_balance_X3_within : GoodIn wsX3_balance (va_wsS RX3 48 yX3_within wsX3_within) := goodIn_app (goodIn_of _ (by decide +kernel)) ggX3_balance_X3_within
set_option maxRecDepth 20000 in
theorem ggX3_balance_X3_balanceOf : GoodIn wsX3_balance wsX3_balanceOf := goodIn_r _ [10, 2, 11, 12, 13, 5, 14, 15, 16, 17, 18, 19, 20, 21, 22, 23, 24, 25, 26, 27, 28, 29, 30, 31, 32, 33, 34, 35, 36, 37, 38, 39, 40, 41, 42, 43, 44, 45, 46, 47, 48, 49, 50, 51, 52, 53, 54, 55, 56, 57] (by decide +kernel) (by decide +kernel)
set_option maxRecDepth 20000 in
theorem gX3_balance_X3_balanceOf : GoodIn wsX3_balance (wsV RX3 91 RX3 yX3_balanceOf wsX3_balanceOf) := goodIn_app (goodIn_of _ (by decide +kernel)) ggX3_balance_X3_balanceOf
theorem dX3_balance_0 : decode cX3_balance 0 = .ok (.aload_n 0, 1) := by decide +kernel
theorem dX3_balance_1 : decode cX3_balance 1 = .ok (.iconst 0, 1) := by decide +kernel
theorem dX3_balance_2 : decode cX3_balance 2 = .ok (.putfield 40, 3) := by decide +kernel
theorem dX3_balance_5 : decode cX3_balance 5 = .ok (.iload_n 3, 1) := by decide +kernel
theorem dX3_balance_6 : decode cX3_balance 6 = .ok (.sipush (-20000), 3) := by decide +kernel
theorem dX3_balance_9 : decode cX3_balance 9 = .ok (.sipush 20000, 3) := by decide +kernel
theorem dX3_balance_12 : decode cX3_balance 12 = .ok (.invokestatic 48, 3) := by decide +kernel
theorem dX3_balance_15 : decode cX3_balance 15 = .ok (.ifCond .eq 12, 3) := by decide +kernel
theorem dX3_balance_18 : decode cX3_balance 18 = .ok (.aload_n 0, 1) := by decide +kernel
theorem dX3_balance_19 : decode cX3_balance 19 = .ok (.lload_n 1, 1) := by decide +kernel
theorem dX3_balance_20 : decode cX3_balance 20 = .ok (.iload_n 3, 1) := by decide +kernel
theorem dX3_balance_21 : decode cX3_balance 21 = .ok (.invokevirtual 91, 3) := by decide +kernel
theorem dX3_balance_24 : decode cX3_balance 24 = .ok (.goto 5, 3) := by decide +kernel
theorem dX3_balance_27 : decode cX3_balance 27 = .ok (.ldc 64, 2) := by decide +kernel
theorem dX3_balance_29 : decode cX3_balance 29 = .ok (.ireturn, 1) := by decide +kernel
set_option maxRecDepth 20000 in
theorem ggX3_solve_X3_balanceOf : GoodIn wsX3_solve wsX3_balanceOf := goodIn_r _ [8, 1, 9, 10, 11, 7, 12, 13, 14, 15, 16, 17, 18, 19, 20, 21, 22, 23, 24, 25, 26, 27, 28, 29, 30, 31, 32, 33, 34, 35, 36, 37, 38, 39, 40, 41, 42, 43, 44, 45, 46, 47, 48, 49, 50, 51, 52, 53, 54, 55] (by decide +kernel) (by decide +kernel)
set_option maxRecDepth 20000 in
theorem gX3_solve_X3_balanceOf : GoodIn wsX3_solve (wsV RX3 91 RX3 yX3_balanceOf wsX3_balanceOf) := goodIn_app (goodIn_of _ (by decide +kernel)) ggX3_solve_X3_balanceOf
set_option maxRecDepth 20000 in
theorem ggX3_solve_X3_sum : GoodIn wsX3_solve wsX3_sum := goodIn_r _ [12, 13, 14, 15, 16, 17, 18, 7, 19, 20, 21, 22, 23, 24, 25, 26, 27, 28, 29, 30, 31, 32, 33, 34, 35, 36, 37, 38, 39, 40, 41, 42, 43, 44, 45, 46, 47, 48, 49, 50, 51, 52, 53, 54, 55] (by decide +kernel) (by decide +kernel)
set_option maxRecDepth 20000 in
theorem gX3_solve_X3_sum : GoodIn wsX3_solve (wsV RX3 85 RX3 yX3_sum wsX3_sum) := goodIn_app (goodIn_of _ (by decide +kernel)) ggX3_solve_X3_sum
theorem dX3_solve_0 : decode cX3_solve 0 = .ok (.sipush (-20000), 3) := by decide +kernel
theorem dX3_solve_3 : decode cX3_solve 3 = .ok (.istore 5, 2) := by decide +kernel
theorem dX3_solve_5 : decode cX3_solve 5 = .ok (.sipush 20000, 3) := by decide +kernel
theorem dX3_solve_8 : decode cX3_solve 8 = .ok (.istore 6, 2) := by decide +kernel
theorem dX3_solve_10 : decode cX3_solve 10 = .ok (.iload 5, 2) := by decide +kernel
theorem dX3_solve_12 : decode cX3_solve 12 = .ok (.iload 6, 2) := by decide +kernel
theorem dX3_solve_14 : decode cX3_solve 14 = .ok (.if_icmp .ge 63, 3) := by decide +kernel
theorem dX3_solve_17 : decode cX3_solve 17 = .ok (.iload 5, 2) := by decide +kernel
theorem dX3_solve_19 : decode cX3_solve 19 = .ok (.iload 6, 2) := by decide +kernel
theorem dX3_solve_21 : decode cX3_solve 21 = .ok (.iload 5, 2) := by decide +kernel
theorem dX3_solve_23 : decode cX3_solve 23 = .ok (.isub, 1) := by decide +kernel
theorem dX3_solve_24 : decode cX3_solve 24 = .ok (.iconst 2, 1) := by decide +kernel
theorem dX3_solve_25 : decode cX3_solve 25 = .ok (.idiv, 1) := by decide +kernel
theorem dX3_solve_26 : decode cX3_solve 26 = .ok (.iadd, 1) := by decide +kernel
theorem dX3_solve_27 : decode cX3_solve 27 = .ok (.istore 7, 2) := by decide +kernel
theorem dX3_solve_29 : decode cX3_solve 29 = .ok (.aload_n 0, 1) := by decide +kernel
theorem dX3_solve_30 : decode cX3_solve 30 = .ok (.lload_n 1, 1) := by decide +kernel
theorem dX3_solve_31 : decode cX3_solve 31 = .ok (.iload 7, 2) := by decide +kernel
theorem dX3_solve_33 : decode cX3_solve 33 = .ok (.invokevirtual 91, 3) := by decide +kernel
theorem dX3_solve_36 : decode cX3_solve 36 = .ok (.istore 8, 2) := by decide +kernel
theorem dX3_solve_38 : decode cX3_solve 38 = .ok (.iload 8, 2) := by decide +kernel
theorem dX3_solve_40 : decode cX3_solve 40 = .ok (.ldc 64, 2) := by decide +kernel
theorem dX3_solve_42 : decode cX3_solve 42 = .ok (.if_icmp .ne 5, 3) := by decide +kernel
theorem dX3_solve_45 : decode cX3_solve 45 = .ok (.iconst 1, 1) := by decide +kernel
theorem dX3_solve_46 : decode cX3_solve 46 = .ok (.ireturn, 1) := by decide +kernel
theorem dX3_solve_47 : decode cX3_solve 47 = .ok (.aload_n 0, 1) := by decide +kernel
theorem dX3_solve_48 : decode cX3_solve 48 = .ok (.iload 8, 2) := by decide +kernel
theorem dX3_solve_50 : decode cX3_solve 50 = .ok (.iload 7, 2) := by decide +kernel
theorem dX3_solve_52 : decode cX3_solve 52 = .ok (.iconst 1, 1) := by decide +kernel
theorem dX3_solve_53 : decode cX3_solve 53 = .ok (.invokevirtual 85, 3) := by decide +kernel
theorem dX3_solve_56 : decode cX3_solve 56 = .ok (.lload_n 3, 1) := by decide +kernel
theorem dX3_solve_57 : decode cX3_solve 57 = .ok (.lcmp, 1) := by decide +kernel
theorem dX3_solve_58 : decode cX3_solve 58 = .ok (.ifCond .lt 10, 3) := by decide +kernel
theorem dX3_solve_61 : decode cX3_solve 61 = .ok (.iload 7, 2) := by decide +kernel
theorem dX3_solve_63 : decode cX3_solve 63 = .ok (.istore 6, 2) := by decide +kernel
theorem dX3_solve_65 : decode cX3_solve 65 = .ok (.goto 9, 3) := by decide +kernel
theorem dX3_solve_68 : decode cX3_solve 68 = .ok (.iload 7, 2) := by decide +kernel
theorem dX3_solve_70 : decode cX3_solve 70 = .ok (.iconst 1, 1) := by decide +kernel
theorem dX3_solve_71 : decode cX3_solve 71 = .ok (.iadd, 1) := by decide +kernel
theorem dX3_solve_72 : decode cX3_solve 72 = .ok (.istore 5, 2) := by decide +kernel
theorem dX3_solve_74 : decode cX3_solve 74 = .ok (.goto (-64), 3) := by decide +kernel
theorem dX3_solve_77 : decode cX3_solve 77 = .ok (.aload_n 0, 1) := by decide +kernel
theorem dX3_solve_78 : decode cX3_solve 78 = .ok (.iload 5, 2) := by decide +kernel
theorem dX3_solve_80 : decode cX3_solve 80 = .ok (.putfield 95, 3) := by decide +kernel
theorem dX3_solve_83 : decode cX3_solve 83 = .ok (.aload_n 0, 1) := by decide +kernel
theorem dX3_solve_84 : decode cX3_solve 84 = .ok (.aload_n 0, 1) := by decide +kernel
theorem dX3_solve_85 : decode cX3_solve 85 = .ok (.lload_n 1, 1) := by decide +kernel
theorem dX3_solve_86 : decode cX3_solve 86 = .ok (.iload 5, 2) := by decide +kernel
theorem dX3_solve_88 : decode cX3_solve 88 = .ok (.invokevirtual 91, 3) := by decide +kernel
theorem dX3_solve_91 : decode cX3_solve 91 = .ok (.putfield 98, 3) := by decide +kernel
theorem dX3_solve_94 : decode cX3_solve 94 = .ok (.aload_n 0, 1) := by decide +kernel
theorem dX3_solve_95 : decode cX3_solve 95 = .ok (.getfield 98, 3) := by decide +kernel
theorem dX3_solve_98 : decode cX3_solve 98 = .ok (.ldc 64, 2) := by decide +kernel
theorem dX3_solve_100 : decode cX3_solve 100 = .ok (.if_icmp .ne 7, 3) := by decide +kernel
theorem dX3_solve_103 : decode cX3_solve 103 = .ok (.iconst 1, 1) := by decide +kernel
theorem dX3_solve_104 : decode cX3_solve 104 = .ok (.goto 26, 3) := by decide +kernel
theorem dX3_solve_107 : decode cX3_solve 107 = .ok (.aload_n 0, 1) := by decide +kernel
theorem dX3_solve_108 : decode cX3_solve 108 = .ok (.aload_n 0, 1) := by decide +kernel
theorem dX3_solve_109 : decode cX3_solve 109 = .ok (.getfield 98, 3) := by decide +kernel
theorem dX3_solve_112 : decode cX3_solve 112 = .ok (.aload_n 0, 1) := by decide +kernel
theorem dX3_solve_113 : decode cX3_solve 113 = .ok (.getfield 95, 3) := by decide +kernel
theorem dX3_solve_116 : decode cX3_solve 116 = .ok (.iconst 1, 1) := by decide +kernel
theorem dX3_solve_117 : decode cX3_solve 117 = .ok (.invokevirtual 85, 3) := by decide +kernel
theorem dX3_solve_120 : decode cX3_solve 120 = .ok (.lload_n 3, 1) := by decide +kernel
theorem dX3_solve_121 : decode cX3_solve 121 = .ok (.lcmp, 1) := by decide +kernel
theorem dX3_solve_122 : decode cX3_solve 122 = .ok (.ifCond .ge 7, 3) := by decide +kernel
theorem dX3_solve_125 : decode cX3_solve 125 = .ok (.iconst 2, 1) := by decide +kernel
theorem dX3_solve_126 : decode cX3_solve 126 = .ok (.goto 4, 3) := by decide +kernel
theorem dX3_solve_129 : decode cX3_solve 129 = .ok (.iconst 0, 1) := by decide +kernel
theorem dX3_solve_130 : decode cX3_solve 130 = .ok (.ireturn, 1) := by decide +kernel
set_option maxRecDepth 20000 in
theorem ggX3_run_X3_solve : GoodIn wsX3_run wsX3_solve := goodIn_r _ [13, 14, 5, 3, 15, 16, 17, 12, 18, 19, 20, 21, 22, 23, 24, 25, 26, 27, 28, 29, 30, 31, 32, 33, 34, 35, 36, 37, 38, 39, 40, 41, 42, 43, 44, 45, 46, 47, 48, 49, 50, 51, 52, 53, 54, 55, 56, 57, 58, 59, 60, 61, 62, 63, 64, 65] (by decide +kernel) (by decide +kernel)
set_option maxRecDepth 20000 in
theorem gX3_run_X3_solve : GoodIn wsX3_run (wsV RX3 101 RX3 yX3_solve wsX3_solve) := goodIn_app (goodIn_of _ (by decide +kernel)) ggX3_run_X3_solve
theorem dX3_run_0 : decode cX3_run 0 = .ok (.aload_n 0, 1) := by decide +kernel
theorem dX3_run_1 : decode cX3_run 1 = .ok (.iconst 0, 1) := by decide +kernel
theorem dX3_run_2 : decode cX3_run 2 = .ok (.putfield 40, 3) := by decide +kernel
theorem dX3_run_5 : decode cX3_run 5 = .ok (.aload_n 0, 1) := by decide +kernel
theorem dX3_run_6 : decode cX3_run 6 = .ok (.lload_n 1, 1) := by decide +kernel
theorem dX3_run_7 : decode cX3_run 7 = .ok (.lload_n 3, 1) := by decide +kernel
theorem dX3_run_8 : decode cX3_run 8 = .ok (.invokevirtual 101, 3) := by decide +kernel
theorem dX3_run_11 : decode cX3_run 11 = .ok (.istore 5, 2) := by decide +kernel
theorem dX3_run_13 : decode cX3_run 13 = .ok (.iload 5, 2) := by decide +kernel
theorem dX3_run_15 : decode cX3_run 15 = .ok (.ifCond .ne 34, 3) := by decide +kernel
theorem dX3_run_18 : decode cX3_run 18 = .ok (.aload_n 0, 1) := by decide +kernel
theorem dX3_run_19 : decode cX3_run 19 = .ok (.iconst 1, 1) := by decide +kernel
theorem dX3_run_20 : decode cX3_run 20 = .ok (.putfield 60, 3) := by decide +kernel
theorem dX3_run_23 : decode cX3_run 23 = .ok (.aload_n 0, 1) := by decide +kernel
theorem dX3_run_24 : decode cX3_run 24 = .ok (.aload_n 0, 1) := by decide +kernel
theorem dX3_run_25 : decode cX3_run 25 = .ok (.getfield 98, 3) := by decide +kernel
theorem dX3_run_28 : decode cX3_run 28 = .ok (.putfield 105, 3) := by decide +kernel
theorem dX3_run_31 : decode cX3_run 31 = .ok (.aload_n 0, 1) := by decide +kernel
theorem dX3_run_32 : decode cX3_run 32 = .ok (.aload_n 0, 1) := by decide +kernel
theorem dX3_run_33 : decode cX3_run 33 = .ok (.getfield 95, 3) := by decide +kernel
theorem dX3_run_36 : decode cX3_run 36 = .ok (.putfield 108, 3) := by decide +kernel
theorem dX3_run_39 : decode cX3_run 39 = .ok (.aload_n 0, 1) := by decide +kernel
theorem dX3_run_40 : decode cX3_run 40 = .ok (.lload_n 1, 1) := by decide +kernel
theorem dX3_run_41 : decode cX3_run 41 = .ok (.putfield 111, 3) := by decide +kernel
theorem dX3_run_44 : decode cX3_run 44 = .ok (.aload_n 0, 1) := by decide +kernel
theorem dX3_run_45 : decode cX3_run 45 = .ok (.lload_n 3, 1) := by decide +kernel
theorem dX3_run_46 : decode cX3_run 46 = .ok (.putfield 115, 3) := by decide +kernel
theorem dX3_run_49 : decode cX3_run 49 = .ok (.iload 5, 2) := by decide +kernel
theorem dX3_run_51 : decode cX3_run 51 = .ok (.ireturn, 1) := by decide +kernel
set_option maxRecDepth 20000 in
theorem ggX3_told_X3_within : GoodIn wsX3_told wsX3_within := goodIn_r _ [8] (by decide +kernel) (by decide +kernel)
set_option maxRecDepth 20000 in
theorem gX3_told_X3_within : GoodIn wsX3_told (va_wsS RX3 48 yX3_within wsX3_within) := goodIn_app (goodIn_of _ (by decide +kernel)) ggX3_told_X3_within
set_option maxRecDepth 20000 in
theorem ggX3_told_X3_firstBeyond : GoodIn wsX3_told wsX3_firstBeyond := goodIn_r _ [12, 13, 14, 15, 16, 7, 17, 18, 19, 20, 21, 22, 23, 24, 25, 26, 27, 28, 29, 30, 31, 32, 33, 34, 35, 36, 37, 38, 39, 40, 41, 42, 43, 44, 45, 46, 47] (by decide +kernel) (by decide +kernel)
set_option maxRecDepth 20000 in
theorem gX3_told_X3_firstBeyond : GoodIn wsX3_told (wsV RX3 118 RX3 yX3_firstBeyond wsX3_firstBeyond) := goodIn_app (goodIn_of _ (by decide +kernel)) ggX3_told_X3_firstBeyond
theorem dX3_told_0 : decode cX3_told 0 = .ok (.aload_n 0, 1) := by decide +kernel
theorem dX3_told_1 : decode cX3_told 1 = .ok (.iconst 0, 1) := by decide +kernel
theorem dX3_told_2 : decode cX3_told 2 = .ok (.putfield 40, 3) := by decide +kernel
theorem dX3_told_5 : decode cX3_told 5 = .ok (.aload_n 0, 1) := by decide +kernel
theorem dX3_told_6 : decode cX3_told 6 = .ok (.getfield 60, 3) := by decide +kernel
theorem dX3_told_9 : decode cX3_told 9 = .ok (.ifCond .eq 12, 3) := by decide +kernel
theorem dX3_told_12 : decode cX3_told 12 = .ok (.iload_n 1, 1) := by decide +kernel
theorem dX3_told_13 : decode cX3_told 13 = .ok (.iconst 0, 1) := by decide +kernel
theorem dX3_told_14 : decode cX3_told 14 = .ok (.iconst 2, 1) := by decide +kernel
theorem dX3_told_15 : decode cX3_told 15 = .ok (.invokestatic 48, 3) := by decide +kernel
theorem dX3_told_18 : decode cX3_told 18 = .ok (.ifCond .ne 5, 3) := by decide +kernel
theorem dX3_told_21 : decode cX3_told 21 = .ok (.iconst (-1), 1) := by decide +kernel
theorem dX3_told_22 : decode cX3_told 22 = .ok (.ireturn, 1) := by decide +kernel
theorem dX3_told_23 : decode cX3_told 23 = .ok (.iload_n 1, 1) := by decide +kernel
theorem dX3_told_24 : decode cX3_told 24 = .ok (.ifCond .ne 10, 3) := by decide +kernel
theorem dX3_told_27 : decode cX3_told 27 = .ok (.aload_n 0, 1) := by decide +kernel
theorem dX3_told_28 : decode cX3_told 28 = .ok (.getfield 105, 3) := by decide +kernel
theorem dX3_told_31 : decode cX3_told 31 = .ok (.goto 27, 3) := by decide +kernel
theorem dX3_told_34 : decode cX3_told 34 = .ok (.iload_n 1, 1) := by decide +kernel
theorem dX3_told_35 : decode cX3_told 35 = .ok (.iconst 1, 1) := by decide +kernel
theorem dX3_told_36 : decode cX3_told 36 = .ok (.if_icmp .ne 10, 3) := by decide +kernel
theorem dX3_told_39 : decode cX3_told 39 = .ok (.aload_n 0, 1) := by decide +kernel
theorem dX3_told_40 : decode cX3_told 40 = .ok (.getfield 108, 3) := by decide +kernel
theorem dX3_told_43 : decode cX3_told 43 = .ok (.goto 15, 3) := by decide +kernel
theorem dX3_told_46 : decode cX3_told 46 = .ok (.aload_n 0, 1) := by decide +kernel
theorem dX3_told_47 : decode cX3_told 47 = .ok (.aload_n 0, 1) := by decide +kernel
theorem dX3_told_48 : decode cX3_told 48 = .ok (.getfield 105, 3) := by decide +kernel
theorem dX3_told_51 : decode cX3_told 51 = .ok (.aload_n 0, 1) := by decide +kernel
theorem dX3_told_52 : decode cX3_told 52 = .ok (.getfield 108, 3) := by decide +kernel
theorem dX3_told_55 : decode cX3_told 55 = .ok (.invokevirtual 118, 3) := by decide +kernel
theorem dX3_told_58 : decode cX3_told 58 = .ok (.ireturn, 1) := by decide +kernel
set_option maxRecDepth 20000 in
theorem ggX3_residual_X3_within : GoodIn wsX3_residual wsX3_within := goodIn_r _ [11] (by decide +kernel) (by decide +kernel)
set_option maxRecDepth 20000 in
theorem gX3_residual_X3_within : GoodIn wsX3_residual (va_wsS RX3 48 yX3_within wsX3_within) := goodIn_app (goodIn_of _ (by decide +kernel)) ggX3_residual_X3_within
set_option maxRecDepth 20000 in
theorem ggX3_residual_X3_sum : GoodIn wsX3_residual wsX3_sum := goodIn_r _ [15, 16, 17, 18, 19, 20, 21, 10, 22, 23, 24, 25, 26, 27, 28, 29, 30, 31, 32, 33, 34, 35, 36, 37, 38, 39, 40, 41, 42, 43, 44, 45, 46, 47, 48, 49, 50, 51, 52, 53, 54, 55, 56, 57, 58] (by decide +kernel) (by decide +kernel)
set_option maxRecDepth 20000 in
theorem gX3_residual_X3_sum : GoodIn wsX3_residual (wsV RX3 85 RX3 yX3_sum wsX3_sum) := goodIn_app (goodIn_of _ (by decide +kernel)) ggX3_residual_X3_sum
theorem dX3_residual_0 : decode cX3_residual 0 = .ok (.aload_n 0, 1) := by decide +kernel
theorem dX3_residual_1 : decode cX3_residual 1 = .ok (.iconst 0, 1) := by decide +kernel
theorem dX3_residual_2 : decode cX3_residual 2 = .ok (.putfield 40, 3) := by decide +kernel
theorem dX3_residual_5 : decode cX3_residual 5 = .ok (.aload_n 0, 1) := by decide +kernel
theorem dX3_residual_6 : decode cX3_residual 6 = .ok (.getfield 60, 3) := by decide +kernel
theorem dX3_residual_9 : decode cX3_residual 9 = .ok (.ifCond .eq 12, 3) := by decide +kernel
theorem dX3_residual_12 : decode cX3_residual 12 = .ok (.iload_n 1, 1) := by decide +kernel
theorem dX3_residual_13 : decode cX3_residual 13 = .ok (.iconst 0, 1) := by decide +kernel
theorem dX3_residual_14 : decode cX3_residual 14 = .ok (.iconst 1, 1) := by decide +kernel
theorem dX3_residual_15 : decode cX3_residual 15 = .ok (.invokestatic 48, 3) := by decide +kernel
theorem dX3_residual_18 : decode cX3_residual 18 = .ok (.ifCond .ne 7, 3) := by decide +kernel
theorem dX3_residual_21 : decode cX3_residual 21 = .ok (.ldc2_w 89, 3) := by decide +kernel
theorem dX3_residual_24 : decode cX3_residual 24 = .ok (.lreturn, 1) := by decide +kernel
theorem dX3_residual_25 : decode cX3_residual 25 = .ok (.iload_n 1, 1) := by decide +kernel
theorem dX3_residual_26 : decode cX3_residual 26 = .ok (.ifCond .ne 24, 3) := by decide +kernel
theorem dX3_residual_29 : decode cX3_residual 29 = .ok (.aload_n 0, 1) := by decide +kernel
theorem dX3_residual_30 : decode cX3_residual 30 = .ok (.aload_n 0, 1) := by decide +kernel
theorem dX3_residual_31 : decode cX3_residual 31 = .ok (.getfield 105, 3) := by decide +kernel
theorem dX3_residual_34 : decode cX3_residual 34 = .ok (.aload_n 0, 1) := by decide +kernel
theorem dX3_residual_35 : decode cX3_residual 35 = .ok (.getfield 108, 3) := by decide +kernel
theorem dX3_residual_38 : decode cX3_residual 38 = .ok (.iconst 0, 1) := by decide +kernel
theorem dX3_residual_39 : decode cX3_residual 39 = .ok (.invokevirtual 85, 3) := by decide +kernel
theorem dX3_residual_42 : decode cX3_residual 42 = .ok (.aload_n 0, 1) := by decide +kernel
theorem dX3_residual_43 : decode cX3_residual 43 = .ok (.getfield 111, 3) := by decide +kernel
theorem dX3_residual_46 : decode cX3_residual 46 = .ok (.lsub, 1) := by decide +kernel
theorem dX3_residual_47 : decode cX3_residual 47 = .ok (.goto 21, 3) := by decide +kernel
theorem dX3_residual_50 : decode cX3_residual 50 = .ok (.aload_n 0, 1) := by decide +kernel
theorem dX3_residual_51 : decode cX3_residual 51 = .ok (.aload_n 0, 1) := by decide +kernel
theorem dX3_residual_52 : decode cX3_residual 52 = .ok (.getfield 105, 3) := by decide +kernel
theorem dX3_residual_55 : decode cX3_residual 55 = .ok (.aload_n 0, 1) := by decide +kernel
theorem dX3_residual_56 : decode cX3_residual 56 = .ok (.getfield 108, 3) := by decide +kernel
theorem dX3_residual_59 : decode cX3_residual 59 = .ok (.iconst 1, 1) := by decide +kernel
theorem dX3_residual_60 : decode cX3_residual 60 = .ok (.invokevirtual 85, 3) := by decide +kernel
theorem dX3_residual_63 : decode cX3_residual 63 = .ok (.aload_n 0, 1) := by decide +kernel
theorem dX3_residual_64 : decode cX3_residual 64 = .ok (.getfield 115, 3) := by decide +kernel
theorem dX3_residual_67 : decode cX3_residual 67 = .ok (.lsub, 1) := by decide +kernel
theorem dX3_residual_68 : decode cX3_residual 68 = .ok (.lreturn, 1) := by decide +kernel
set_option maxRecDepth 20000 in
theorem ggX3_in_X3_isFibre : GoodIn wsX3_in wsX3_isFibre := goodIn_r _ [10, 11, 37, 38, 39, 40, 41, 42, 43, 44, 45, 46, 47, 48, 49, 50, 51, 52, 53, 54, 55] (by decide +kernel) (by decide +kernel)
set_option maxRecDepth 20000 in
theorem gX3_in_X3_isFibre : GoodIn wsX3_in (wsV RX3 66 RX3 yX3_isFibre wsX3_isFibre) := goodIn_app (goodIn_of _ (by decide +kernel)) ggX3_in_X3_isFibre
set_option maxRecDepth 20000 in
theorem ggX3_in_X3_within : GoodIn wsX3_in wsX3_within := goodIn_r _ [14] (by decide +kernel) (by decide +kernel)
set_option maxRecDepth 20000 in
theorem gX3_in_X3_within : GoodIn wsX3_in (va_wsS RX3 48 yX3_within wsX3_within) := goodIn_app (goodIn_of _ (by decide +kernel)) ggX3_in_X3_within
set_option maxRecDepth 20000 in
theorem ggX3_in_X3_works : GoodIn wsX3_in wsX3_works := goodIn_r _ [18, 19, 20, 21, 22, 23, 37, 38, 39, 40, 41, 42, 43, 44, 45, 46, 47, 48, 49, 50, 51, 52, 53, 54, 55] (by decide +kernel) (by decide +kernel)
set_option maxRecDepth 20000 in
theorem gX3_in_X3_works : GoodIn wsX3_in (wsV RX3 73 RX3 yX3_works wsX3_works) := goodIn_app (goodIn_of _ (by decide +kernel)) ggX3_in_X3_works
set_option maxRecDepth 20000 in
theorem ggX3_in_X3_stressOf : GoodIn wsX3_in wsX3_stressOf := goodIn_r _ [27, 22, 28, 29, 15, 16, 17, 9, 18, 19, 20, 21, 23, 30, 31, 32, 33, 34, 35, 36, 37, 38, 39, 40, 41, 42, 43, 44, 45, 46, 47, 48, 49, 50, 51, 52, 53, 54, 55] (by decide +kernel) (by decide +kernel)
set_option maxRecDepth 20000 in
theorem gX3_in_X3_stressOf : GoodIn wsX3_in (wsV RX3 82 RX3 yX3_stressOf wsX3_stressOf) := goodIn_app (goodIn_of _ (by decide +kernel)) ggX3_in_X3_stressOf
theorem dX3_in_0 : decode cX3_in 0 = .ok (.aload_n 0, 1) := by decide +kernel
theorem dX3_in_1 : decode cX3_in 1 = .ok (.aload_n 0, 1) := by decide +kernel
theorem dX3_in_2 : decode cX3_in 2 = .ok (.iload_n 1, 1) := by decide +kernel
theorem dX3_in_3 : decode cX3_in 3 = .ok (.invokevirtual 66, 3) := by decide +kernel
theorem dX3_in_6 : decode cX3_in 6 = .ok (.ifCond .eq 7, 3) := by decide +kernel
theorem dX3_in_9 : decode cX3_in 9 = .ok (.iconst 0, 1) := by decide +kernel
theorem dX3_in_10 : decode cX3_in 10 = .ok (.goto 4, 3) := by decide +kernel
theorem dX3_in_13 : decode cX3_in 13 = .ok (.iconst 1, 1) := by decide +kernel
theorem dX3_in_14 : decode cX3_in 14 = .ok (.putfield 40, 3) := by decide +kernel
theorem dX3_in_17 : decode cX3_in 17 = .ok (.aload_n 0, 1) := by decide +kernel
theorem dX3_in_18 : decode cX3_in 18 = .ok (.getfield 40, 3) := by decide +kernel
theorem dX3_in_21 : decode cX3_in 21 = .ok (.ifCond .le 5, 3) := by decide +kernel
theorem dX3_in_24 : decode cX3_in 24 = .ok (.iconst 0, 1) := by decide +kernel
theorem dX3_in_25 : decode cX3_in 25 = .ok (.ireturn, 1) := by decide +kernel
theorem dX3_in_26 : decode cX3_in 26 = .ok (.aload_n 0, 1) := by decide +kernel
theorem dX3_in_27 : decode cX3_in 27 = .ok (.getfield 60, 3) := by decide +kernel
theorem dX3_in_30 : decode cX3_in 30 = .ok (.ifCond .eq 12, 3) := by decide +kernel
theorem dX3_in_33 : decode cX3_in 33 = .ok (.iload_n 2, 1) := by decide +kernel
theorem dX3_in_34 : decode cX3_in 34 = .ok (.iconst 0, 1) := by decide +kernel
theorem dX3_in_35 : decode cX3_in 35 = .ok (.iconst 1, 1) := by decide +kernel
theorem dX3_in_36 : decode cX3_in 36 = .ok (.invokestatic 48, 3) := by decide +kernel
theorem dX3_in_39 : decode cX3_in 39 = .ok (.ifCond .ne 6, 3) := by decide +kernel
theorem dX3_in_42 : decode cX3_in 42 = .ok (.ldc 64, 2) := by decide +kernel
theorem dX3_in_44 : decode cX3_in 44 = .ok (.ireturn, 1) := by decide +kernel
theorem dX3_in_45 : decode cX3_in 45 = .ok (.iload_n 2, 1) := by decide +kernel
theorem dX3_in_46 : decode cX3_in 46 = .ok (.ifCond .ne 19, 3) := by decide +kernel
theorem dX3_in_49 : decode cX3_in 49 = .ok (.aload_n 0, 1) := by decide +kernel
theorem dX3_in_50 : decode cX3_in 50 = .ok (.iload_n 1, 1) := by decide +kernel
theorem dX3_in_51 : decode cX3_in 51 = .ok (.aload_n 0, 1) := by decide +kernel
theorem dX3_in_52 : decode cX3_in 52 = .ok (.getfield 105, 3) := by decide +kernel
theorem dX3_in_55 : decode cX3_in 55 = .ok (.aload_n 0, 1) := by decide +kernel
theorem dX3_in_56 : decode cX3_in 56 = .ok (.getfield 108, 3) := by decide +kernel
theorem dX3_in_59 : decode cX3_in 59 = .ok (.invokevirtual 73, 3) := by decide +kernel
theorem dX3_in_62 : decode cX3_in 62 = .ok (.goto 16, 3) := by decide +kernel
theorem dX3_in_65 : decode cX3_in 65 = .ok (.aload_n 0, 1) := by decide +kernel
theorem dX3_in_66 : decode cX3_in 66 = .ok (.iload_n 1, 1) := by decide +kernel
theorem dX3_in_67 : decode cX3_in 67 = .ok (.aload_n 0, 1) := by decide +kernel
theorem dX3_in_68 : decode cX3_in 68 = .ok (.getfield 105, 3) := by decide +kernel
theorem dX3_in_71 : decode cX3_in 71 = .ok (.aload_n 0, 1) := by decide +kernel
theorem dX3_in_72 : decode cX3_in 72 = .ok (.getfield 108, 3) := by decide +kernel
theorem dX3_in_75 : decode cX3_in 75 = .ok (.invokevirtual 82, 3) := by decide +kernel
theorem dX3_in_78 : decode cX3_in 78 = .ok (.ireturn, 1) := by decide +kernel
set_option maxRecDepth 20000 in
theorem ggX3_curve_X3_within : GoodIn wsX3_curve wsX3_within := goodIn_r _ [7] (by decide +kernel) (by decide +kernel)
set_option maxRecDepth 20000 in
theorem gX3_curve_X3_within : GoodIn wsX3_curve (va_wsS RX3 48 yX3_within wsX3_within) := goodIn_app (goodIn_of _ (by decide +kernel)) ggX3_curve_X3_within
set_option maxRecDepth 20000 in
theorem ggX3_curve_X3_balanceOf : GoodIn wsX3_curve wsX3_balanceOf := goodIn_r _ [11, 3, 12, 13, 14, 6, 15, 16, 17, 18, 19, 20, 21, 22, 23, 24, 25, 26, 27, 28, 29, 30, 31, 32, 33, 34, 35, 36, 37, 38, 39, 40, 41, 42, 43, 44, 45, 46, 47, 48, 49, 50, 51, 52, 53, 54, 55, 56, 57, 58] (by decide +kernel) (by decide +kernel)
set_option maxRecDepth 20000 in
theorem gX3_curve_X3_balanceOf : GoodIn wsX3_curve (wsV RX3 91 RX3 yX3_balanceOf wsX3_balanceOf) := goodIn_app (goodIn_of _ (by decide +kernel)) ggX3_curve_X3_balanceOf
set_option maxRecDepth 20000 in
theorem ggX3_curve_X3_sum : GoodIn wsX3_curve wsX3_sum := goodIn_r _ [15, 16, 17, 18, 19, 20, 21, 6, 22, 23, 24, 25, 26, 27, 28, 29, 30, 31, 32, 33, 34, 35, 36, 37, 38, 39, 40, 41, 42, 43, 44, 45, 46, 47, 48, 49, 50, 51, 52, 53, 54, 55, 56, 57, 58] (by decide +kernel) (by decide +kernel)
set_option maxRecDepth 20000 in
theorem gX3_curve_X3_sum : GoodIn wsX3_curve (wsV RX3 85 RX3 yX3_sum wsX3_sum) := goodIn_app (goodIn_of _ (by decide +kernel)) ggX3_curve_X3_sum
theorem dX3_curve_0 : decode cX3_curve 0 = .ok (.aload_n 0, 1) := by decide +kernel
theorem dX3_curve_1 : decode cX3_curve 1 = .ok (.iconst 0, 1) := by decide +kernel
theorem dX3_curve_2 : decode cX3_curve 2 = .ok (.putfield 40, 3) := by decide +kernel
theorem dX3_curve_5 : decode cX3_curve 5 = .ok (.iload_n 3, 1) := by decide +kernel
theorem dX3_curve_6 : decode cX3_curve 6 = .ok (.iconst 1, 1) := by decide +kernel
theorem dX3_curve_7 : decode cX3_curve 7 = .ok (.sipush 1000, 3) := by decide +kernel
theorem dX3_curve_10 : decode cX3_curve 10 = .ok (.invokestatic 48, 3) := by decide +kernel
theorem dX3_curve_13 : decode cX3_curve 13 = .ok (.ifCond .eq 14, 3) := by decide +kernel
theorem dX3_curve_16 : decode cX3_curve 16 = .ok (.iload 4, 2) := by decide +kernel
theorem dX3_curve_18 : decode cX3_curve 18 = .ok (.iconst 0, 1) := by decide +kernel
theorem dX3_curve_19 : decode cX3_curve 19 = .ok (.bipush 20, 2) := by decide +kernel
theorem dX3_curve_21 : decode cX3_curve 21 = .ok (.invokestatic 48, 3) := by decide +kernel
theorem dX3_curve_24 : decode cX3_curve 24 = .ok (.ifCond .ne 7, 3) := by decide +kernel
theorem dX3_curve_27 : decode cX3_curve 27 = .ok (.ldc2_w 89, 3) := by decide +kernel
theorem dX3_curve_30 : decode cX3_curve 30 = .ok (.lreturn, 1) := by decide +kernel
theorem dX3_curve_31 : decode cX3_curve 31 = .ok (.aload_n 0, 1) := by decide +kernel
theorem dX3_curve_32 : decode cX3_curve 32 = .ok (.lload_n 1, 1) := by decide +kernel
theorem dX3_curve_33 : decode cX3_curve 33 = .ok (.iload 4, 2) := by decide +kernel
theorem dX3_curve_35 : decode cX3_curve 35 = .ok (.iload_n 3, 1) := by decide +kernel
theorem dX3_curve_36 : decode cX3_curve 36 = .ok (.imul, 1) := by decide +kernel
theorem dX3_curve_37 : decode cX3_curve 37 = .ok (.invokevirtual 91, 3) := by decide +kernel
theorem dX3_curve_40 : decode cX3_curve 40 = .ok (.istore 5, 2) := by decide +kernel
theorem dX3_curve_42 : decode cX3_curve 42 = .ok (.iload 5, 2) := by decide +kernel
theorem dX3_curve_44 : decode cX3_curve 44 = .ok (.ldc 64, 2) := by decide +kernel
theorem dX3_curve_46 : decode cX3_curve 46 = .ok (.if_icmp .ne 9, 3) := by decide +kernel
theorem dX3_curve_49 : decode cX3_curve 49 = .ok (.ldc2_w 89, 3) := by decide +kernel
theorem dX3_curve_52 : decode cX3_curve 52 = .ok (.goto 14, 3) := by decide +kernel
theorem dX3_curve_55 : decode cX3_curve 55 = .ok (.aload_n 0, 1) := by decide +kernel
theorem dX3_curve_56 : decode cX3_curve 56 = .ok (.iload 5, 2) := by decide +kernel
theorem dX3_curve_58 : decode cX3_curve 58 = .ok (.iload 4, 2) := by decide +kernel
theorem dX3_curve_60 : decode cX3_curve 60 = .ok (.iload_n 3, 1) := by decide +kernel
theorem dX3_curve_61 : decode cX3_curve 61 = .ok (.imul, 1) := by decide +kernel
theorem dX3_curve_62 : decode cX3_curve 62 = .ok (.iconst 1, 1) := by decide +kernel
theorem dX3_curve_63 : decode cX3_curve 63 = .ok (.invokevirtual 85, 3) := by decide +kernel
theorem dX3_curve_66 : decode cX3_curve 66 = .ok (.lreturn, 1) := by decide +kernel
set_option maxRecDepth 20000 in
theorem ggX3_last_X3_within : GoodIn wsX3_last wsX3_within := goodIn_r _ [6] (by decide +kernel) (by decide +kernel)
set_option maxRecDepth 20000 in
theorem gX3_last_X3_within : GoodIn wsX3_last (va_wsS RX3 48 yX3_within wsX3_within) := goodIn_app (goodIn_of _ (by decide +kernel)) ggX3_last_X3_within
set_option maxRecDepth 20000 in
theorem ggX3_last_X3_balanceOf : GoodIn wsX3_last wsX3_balanceOf := goodIn_r _ [10, 2, 11, 12, 13, 5, 14, 15, 16, 17, 18, 19, 20, 21, 22, 23, 24, 25, 26, 27, 28, 29, 30, 31, 32, 33, 34, 35, 36, 37, 38, 47, 48, 49, 50, 51, 52, 53, 54, 55, 56, 57, 58, 59, 60, 61, 62, 63, 64, 65] (by decide +kernel) (by decide +kernel)
set_option maxRecDepth 20000 in
theorem gX3_last_X3_balanceOf : GoodIn wsX3_last (wsV RX3 91 RX3 yX3_balanceOf wsX3_balanceOf) := goodIn_app (goodIn_of _ (by decide +kernel)) ggX3_last_X3_balanceOf
set_option maxRecDepth 20000 in
theorem ggX3_last_X3_firstBeyond : GoodIn wsX3_last wsX3_firstBeyond := goodIn_r _ [42, 15, 43, 44, 45, 5, 46, 22, 36, 37, 25, 26, 27, 28, 17, 29, 30, 31, 47, 48, 49, 50, 51, 52, 53, 54, 55, 56, 57, 58, 59, 60, 61, 62, 63, 64, 65] (by decide +kernel) (by decide +kernel)
set_option maxRecDepth 20000 in
theorem gX3_last_X3_firstBeyond : GoodIn wsX3_last (wsV RX3 118 RX3 yX3_firstBeyond wsX3_firstBeyond) := goodIn_app (goodIn_of _ (by decide +kernel)) ggX3_last_X3_firstBeyond
theorem dX3_last_0 : decode cX3_last 0 = .ok (.aload_n 0, 1) := by decide +kernel
theorem dX3_last_1 : decode cX3_last 1 = .ok (.iconst 0, 1) := by decide +kernel
theorem dX3_last_2 : decode cX3_last 2 = .ok (.putfield 40, 3) := by decide +kernel
theorem dX3_last_5 : decode cX3_last 5 = .ok (.iconst 0, 1) := by decide +kernel
theorem dX3_last_6 : decode cX3_last 6 = .ok (.istore 4, 2) := by decide +kernel
theorem dX3_last_8 : decode cX3_last 8 = .ok (.iload 4, 2) := by decide +kernel
theorem dX3_last_10 : decode cX3_last 10 = .ok (.bipush 21, 2) := by decide +kernel
theorem dX3_last_12 : decode cX3_last 12 = .ok (.if_icmp .ge 56, 3) := by decide +kernel
theorem dX3_last_15 : decode cX3_last 15 = .ok (.iload_n 3, 1) := by decide +kernel
theorem dX3_last_16 : decode cX3_last 16 = .ok (.iconst 1, 1) := by decide +kernel
theorem dX3_last_17 : decode cX3_last 17 = .ok (.sipush 1000, 3) := by decide +kernel
theorem dX3_last_20 : decode cX3_last 20 = .ok (.invokestatic 48, 3) := by decide +kernel
theorem dX3_last_23 : decode cX3_last 23 = .ok (.ifCond .eq 45, 3) := by decide +kernel
theorem dX3_last_26 : decode cX3_last 26 = .ok (.aload_n 0, 1) := by decide +kernel
theorem dX3_last_27 : decode cX3_last 27 = .ok (.lload_n 1, 1) := by decide +kernel
theorem dX3_last_28 : decode cX3_last 28 = .ok (.iload 4, 2) := by decide +kernel
theorem dX3_last_30 : decode cX3_last 30 = .ok (.iload_n 3, 1) := by decide +kernel
theorem dX3_last_31 : decode cX3_last 31 = .ok (.imul, 1) := by decide +kernel
theorem dX3_last_32 : decode cX3_last 32 = .ok (.invokevirtual 91, 3) := by decide +kernel
theorem dX3_last_35 : decode cX3_last 35 = .ok (.istore 5, 2) := by decide +kernel
theorem dX3_last_37 : decode cX3_last 37 = .ok (.iload 5, 2) := by decide +kernel
theorem dX3_last_39 : decode cX3_last 39 = .ok (.ldc 64, 2) := by decide +kernel
theorem dX3_last_41 : decode cX3_last 41 = .ok (.if_icmp .ne 5, 3) := by decide +kernel
theorem dX3_last_44 : decode cX3_last 44 = .ok (.iconst (-1), 1) := by decide +kernel
theorem dX3_last_45 : decode cX3_last 45 = .ok (.ireturn, 1) := by decide +kernel
theorem dX3_last_46 : decode cX3_last 46 = .ok (.aload_n 0, 1) := by decide +kernel
theorem dX3_last_47 : decode cX3_last 47 = .ok (.iload 5, 2) := by decide +kernel
theorem dX3_last_49 : decode cX3_last 49 = .ok (.iload 4, 2) := by decide +kernel
theorem dX3_last_51 : decode cX3_last 51 = .ok (.iload_n 3, 1) := by decide +kernel
theorem dX3_last_52 : decode cX3_last 52 = .ok (.imul, 1) := by decide +kernel
theorem dX3_last_53 : decode cX3_last 53 = .ok (.invokevirtual 118, 3) := by decide +kernel
theorem dX3_last_56 : decode cX3_last 56 = .ok (.ifCond .lt 6, 3) := by decide +kernel
theorem dX3_last_59 : decode cX3_last 59 = .ok (.iload 4, 2) := by decide +kernel
theorem dX3_last_61 : decode cX3_last 61 = .ok (.ireturn, 1) := by decide +kernel
theorem dX3_last_62 : decode cX3_last 62 = .ok (.iinc 4 1, 3) := by decide +kernel
theorem dX3_last_65 : decode cX3_last 65 = .ok (.goto (-57), 3) := by decide +kernel
theorem dX3_last_68 : decode cX3_last 68 = .ok (.iconst (-1), 1) := by decide +kernel
theorem dX3_last_69 : decode cX3_last 69 = .ok (.ireturn, 1) := by decide +kernel
set_option maxRecDepth 20000 in
theorem ggX3_needed_X3_within : GoodIn wsX3_needed wsX3_within := goodIn_r _ [6] (by decide +kernel) (by decide +kernel)
set_option maxRecDepth 20000 in
theorem gX3_needed_X3_within : GoodIn wsX3_needed (va_wsS RX3 48 yX3_within wsX3_within) := goodIn_app (goodIn_of _ (by decide +kernel)) ggX3_needed_X3_within
set_option maxRecDepth 20000 in
theorem ggX3_needed_X3_isKind : GoodIn wsX3_needed wsX3_isKind := goodIn_r _ [9] (by decide +kernel) (by decide +kernel)
set_option maxRecDepth 20000 in
theorem gX3_needed_X3_isKind : GoodIn wsX3_needed (va_wsS RX3 52 yX3_isKind wsX3_isKind) := goodIn_app (goodIn_of _ (by decide +kernel)) ggX3_needed_X3_isKind
set_option maxRecDepth 20000 in
theorem ggX3_needed_X3_lay : GoodIn wsX3_needed wsX3_lay := goodIn_r _ [13, 14, 15, 16, 17, 18, 52, 53, 54, 55, 56, 57, 58, 59, 60, 61, 62, 63, 64, 65, 66, 67, 68, 69, 70] (by decide +kernel) (by decide +kernel)
set_option maxRecDepth 20000 in
theorem gX3_needed_X3_lay : GoodIn wsX3_needed (wsV RX3 56 RX3 yX3_lay wsX3_lay) := goodIn_app (goodIn_of _ (by decide +kernel)) ggX3_needed_X3_lay
set_option maxRecDepth 20000 in
theorem ggX3_needed_X3_solve : GoodIn wsX3_needed wsX3_solve := goodIn_r _ [22, 23, 24, 25, 26, 27, 28, 5, 29, 30, 31, 32, 33, 2, 14, 15, 34, 35, 36, 37, 16, 18, 38, 39, 40, 41, 42, 17, 43, 44, 45, 46, 47, 48, 49, 50, 51, 52, 53, 54, 55, 56, 57, 58, 59, 60, 61, 62, 63, 64, 65, 66, 67, 68, 69, 70] (by decide +kernel) (by decide +kernel)
set_option maxRecDepth 20000 in
theorem gX3_needed_X3_solve : GoodIn wsX3_needed (wsV RX3 101 RX3 yX3_solve wsX3_solve) := goodIn_app (goodIn_of _ (by decide +kernel)) ggX3_needed_X3_solve
theorem dX3_needed_0 : decode cX3_needed 0 = .ok (.aload_n 0, 1) := by decide +kernel
theorem dX3_needed_1 : decode cX3_needed 1 = .ok (.iconst 0, 1) := by decide +kernel
theorem dX3_needed_2 : decode cX3_needed 2 = .ok (.putfield 40, 3) := by decide +kernel
theorem dX3_needed_5 : decode cX3_needed 5 = .ok (.iload_n 1, 1) := by decide +kernel
theorem dX3_needed_6 : decode cX3_needed 6 = .ok (.sipush (-2000), 3) := by decide +kernel
theorem dX3_needed_9 : decode cX3_needed 9 = .ok (.sipush 2000, 3) := by decide +kernel
theorem dX3_needed_12 : decode cX3_needed 12 = .ok (.invokestatic 48, 3) := by decide +kernel
theorem dX3_needed_15 : decode cX3_needed 15 = .ok (.ifCond .eq 21, 3) := by decide +kernel
theorem dX3_needed_18 : decode cX3_needed 18 = .ok (.iload_n 2, 1) := by decide +kernel
theorem dX3_needed_19 : decode cX3_needed 19 = .ok (.invokestatic 52, 3) := by decide +kernel
theorem dX3_needed_22 : decode cX3_needed 22 = .ok (.ifCond .eq 14, 3) := by decide +kernel
theorem dX3_needed_25 : decode cX3_needed 25 = .ok (.iload_n 3, 1) := by decide +kernel
theorem dX3_needed_26 : decode cX3_needed 26 = .ok (.iconst 1, 1) := by decide +kernel
theorem dX3_needed_27 : decode cX3_needed 27 = .ok (.sipush 5000, 3) := by decide +kernel
theorem dX3_needed_30 : decode cX3_needed 30 = .ok (.invokestatic 48, 3) := by decide +kernel
theorem dX3_needed_33 : decode cX3_needed 33 = .ok (.ifCond .ne 5, 3) := by decide +kernel
theorem dX3_needed_36 : decode cX3_needed 36 = .ok (.iconst (-1), 1) := by decide +kernel
theorem dX3_needed_37 : decode cX3_needed 37 = .ok (.ireturn, 1) := by decide +kernel
theorem dX3_needed_38 : decode cX3_needed 38 = .ok (.iconst (-1), 1) := by decide +kernel
theorem dX3_needed_39 : decode cX3_needed 39 = .ok (.istore 8, 2) := by decide +kernel
theorem dX3_needed_41 : decode cX3_needed 41 = .ok (.aload_n 0, 1) := by decide +kernel
theorem dX3_needed_42 : decode cX3_needed 42 = .ok (.dup, 1) := by decide +kernel
theorem dX3_needed_43 : decode cX3_needed 43 = .ok (.getfield 44, 3) := by decide +kernel
theorem dX3_needed_46 : decode cX3_needed 46 = .ok (.iconst 1, 1) := by decide +kernel
theorem dX3_needed_47 : decode cX3_needed 47 = .ok (.iadd, 1) := by decide +kernel
theorem dX3_needed_48 : decode cX3_needed 48 = .ok (.putfield 44, 3) := by decide +kernel
theorem dX3_needed_51 : decode cX3_needed 51 = .ok (.iconst 0, 1) := by decide +kernel
theorem dX3_needed_52 : decode cX3_needed 52 = .ok (.istore 9, 2) := by decide +kernel
theorem dX3_needed_54 : decode cX3_needed 54 = .ok (.iload 9, 2) := by decide +kernel
theorem dX3_needed_56 : decode cX3_needed 56 = .ok (.bipush 21, 2) := by decide +kernel
theorem dX3_needed_58 : decode cX3_needed 58 = .ok (.if_icmp .ge 51, 3) := by decide +kernel
theorem dX3_needed_61 : decode cX3_needed 61 = .ok (.iload 8, 2) := by decide +kernel
theorem dX3_needed_63 : decode cX3_needed 63 = .ok (.ifCond .ge 46, 3) := by decide +kernel
theorem dX3_needed_66 : decode cX3_needed 66 = .ok (.aload_n 0, 1) := by decide +kernel
theorem dX3_needed_67 : decode cX3_needed 67 = .ok (.aload_n 0, 1) := by decide +kernel
theorem dX3_needed_68 : decode cX3_needed 68 = .ok (.getfield 44, 3) := by decide +kernel
theorem dX3_needed_71 : decode cX3_needed 71 = .ok (.iconst 1, 1) := by decide +kernel
theorem dX3_needed_72 : decode cX3_needed 72 = .ok (.isub, 1) := by decide +kernel
theorem dX3_needed_73 : decode cX3_needed 73 = .ok (.iload 9, 2) := by decide +kernel
theorem dX3_needed_75 : decode cX3_needed 75 = .ok (.iload_n 3, 1) := by decide +kernel
theorem dX3_needed_76 : decode cX3_needed 76 = .ok (.imul, 1) := by decide +kernel
theorem dX3_needed_77 : decode cX3_needed 77 = .ok (.iload_n 1, 1) := by decide +kernel
theorem dX3_needed_78 : decode cX3_needed 78 = .ok (.iload_n 2, 1) := by decide +kernel
theorem dX3_needed_79 : decode cX3_needed 79 = .ok (.invokevirtual 56, 3) := by decide +kernel
theorem dX3_needed_82 : decode cX3_needed 82 = .ok (.aload_n 0, 1) := by decide +kernel
theorem dX3_needed_83 : decode cX3_needed 83 = .ok (.lload 4, 2) := by decide +kernel
theorem dX3_needed_85 : decode cX3_needed 85 = .ok (.lload 6, 2) := by decide +kernel
theorem dX3_needed_87 : decode cX3_needed 87 = .ok (.invokevirtual 101, 3) := by decide +kernel
theorem dX3_needed_90 : decode cX3_needed 90 = .ok (.ifCond .ne 10, 3) := by decide +kernel
theorem dX3_needed_93 : decode cX3_needed 93 = .ok (.iload 9, 2) := by decide +kernel
theorem dX3_needed_95 : decode cX3_needed 95 = .ok (.iload_n 3, 1) := by decide +kernel
theorem dX3_needed_96 : decode cX3_needed 96 = .ok (.imul, 1) := by decide +kernel
theorem dX3_needed_97 : decode cX3_needed 97 = .ok (.goto 4, 3) := by decide +kernel
theorem dX3_needed_100 : decode cX3_needed 100 = .ok (.iconst (-1), 1) := by decide +kernel
theorem dX3_needed_101 : decode cX3_needed 101 = .ok (.istore 8, 2) := by decide +kernel
theorem dX3_needed_103 : decode cX3_needed 103 = .ok (.iinc 9 1, 3) := by decide +kernel
theorem dX3_needed_106 : decode cX3_needed 106 = .ok (.goto (-52), 3) := by decide +kernel
theorem dX3_needed_109 : decode cX3_needed 109 = .ok (.aload_n 0, 1) := by decide +kernel
theorem dX3_needed_110 : decode cX3_needed 110 = .ok (.dup, 1) := by decide +kernel
theorem dX3_needed_111 : decode cX3_needed 111 = .ok (.getfield 44, 3) := by decide +kernel
theorem dX3_needed_114 : decode cX3_needed 114 = .ok (.iconst 1, 1) := by decide +kernel
theorem dX3_needed_115 : decode cX3_needed 115 = .ok (.isub, 1) := by decide +kernel
theorem dX3_needed_116 : decode cX3_needed 116 = .ok (.putfield 44, 3) := by decide +kernel
theorem dX3_needed_119 : decode cX3_needed 119 = .ok (.iload 8, 2) := by decide +kernel
theorem dX3_needed_121 : decode cX3_needed 121 = .ok (.ireturn, 1) := by decide +kernel
set_option maxRecDepth 20000 in
theorem ggX3_count_X3_within : GoodIn wsX3_count wsX3_within := goodIn_r _ [8] (by decide +kernel) (by decide +kernel)
set_option maxRecDepth 20000 in
theorem gX3_count_X3_within : GoodIn wsX3_count (va_wsS RX3 48 yX3_within wsX3_within) := goodIn_app (goodIn_of _ (by decide +kernel)) ggX3_count_X3_within
theorem dX3_count_0 : decode cX3_count 0 = .ok (.aload_n 0, 1) := by decide +kernel
theorem dX3_count_1 : decode cX3_count 1 = .ok (.iconst 0, 1) := by decide +kernel
theorem dX3_count_2 : decode cX3_count 2 = .ok (.putfield 40, 3) := by decide +kernel
theorem dX3_count_5 : decode cX3_count 5 = .ok (.iload_n 1, 1) := by decide +kernel
theorem dX3_count_6 : decode cX3_count 6 = .ok (.iconst 0, 1) := by decide +kernel
theorem dX3_count_7 : decode cX3_count 7 = .ok (.iconst 5, 1) := by decide +kernel
theorem dX3_count_8 : decode cX3_count 8 = .ok (.invokestatic 48, 3) := by decide +kernel
theorem dX3_count_11 : decode cX3_count 11 = .ok (.ifCond .ne 5, 3) := by decide +kernel
theorem dX3_count_14 : decode cX3_count 14 = .ok (.iconst (-1), 1) := by decide +kernel
theorem dX3_count_15 : decode cX3_count 15 = .ok (.ireturn, 1) := by decide +kernel
theorem dX3_count_16 : decode cX3_count 16 = .ok (.iconst 0, 1) := by decide +kernel
theorem dX3_count_17 : decode cX3_count 17 = .ok (.istore_n 2, 1) := by decide +kernel
theorem dX3_count_18 : decode cX3_count 18 = .ok (.iconst 0, 1) := by decide +kernel
theorem dX3_count_19 : decode cX3_count 19 = .ok (.istore_n 3, 1) := by decide +kernel
theorem dX3_count_20 : decode cX3_count 20 = .ok (.iload_n 3, 1) := by decide +kernel
theorem dX3_count_21 : decode cX3_count 21 = .ok (.aload_n 0, 1) := by decide +kernel
theorem dX3_count_22 : decode cX3_count 22 = .ok (.getfield 44, 3) := by decide +kernel
theorem dX3_count_25 : decode cX3_count 25 = .ok (.if_icmp .ge 18, 3) := by decide +kernel
theorem dX3_count_28 : decode cX3_count 28 = .ok (.iload_n 2, 1) := by decide +kernel
theorem dX3_count_29 : decode cX3_count 29 = .ok (.aload_n 0, 1) := by decide +kernel
theorem dX3_count_30 : decode cX3_count 30 = .ok (.getfield 7, 3) := by decide +kernel
theorem dX3_count_33 : decode cX3_count 33 = .ok (.iload_n 3, 1) := by decide +kernel
theorem dX3_count_34 : decode cX3_count 34 = .ok (.iaload, 1) := by decide +kernel
theorem dX3_count_35 : decode cX3_count 35 = .ok (.iadd, 1) := by decide +kernel
theorem dX3_count_36 : decode cX3_count 36 = .ok (.istore_n 2, 1) := by decide +kernel
theorem dX3_count_37 : decode cX3_count 37 = .ok (.iinc 3 1, 3) := by decide +kernel
theorem dX3_count_40 : decode cX3_count 40 = .ok (.goto (-20), 3) := by decide +kernel
theorem dX3_count_43 : decode cX3_count 43 = .ok (.iload_n 1, 1) := by decide +kernel
theorem dX3_count_44 : decode cX3_count 44 = .ok (.ifCond .ne 10, 3) := by decide +kernel
theorem dX3_count_47 : decode cX3_count 47 = .ok (.aload_n 0, 1) := by decide +kernel
theorem dX3_count_48 : decode cX3_count 48 = .ok (.getfield 44, 3) := by decide +kernel
theorem dX3_count_51 : decode cX3_count 51 = .ok (.goto 20, 3) := by decide +kernel
theorem dX3_count_54 : decode cX3_count 54 = .ok (.iload_n 1, 1) := by decide +kernel
theorem dX3_count_55 : decode cX3_count 55 = .ok (.iconst 1, 1) := by decide +kernel
theorem dX3_count_56 : decode cX3_count 56 = .ok (.if_icmp .ne 7, 3) := by decide +kernel
theorem dX3_count_59 : decode cX3_count 59 = .ok (.iload_n 2, 1) := by decide +kernel
theorem dX3_count_60 : decode cX3_count 60 = .ok (.goto 11, 3) := by decide +kernel
theorem dX3_count_63 : decode cX3_count 63 = .ok (.aload_n 0, 1) := by decide +kernel
theorem dX3_count_64 : decode cX3_count 64 = .ok (.getfield 25, 3) := by decide +kernel
theorem dX3_count_67 : decode cX3_count 67 = .ok (.iload_n 1, 1) := by decide +kernel
theorem dX3_count_68 : decode cX3_count 68 = .ok (.iconst 2, 1) := by decide +kernel
theorem dX3_count_69 : decode cX3_count 69 = .ok (.isub, 1) := by decide +kernel
theorem dX3_count_70 : decode cX3_count 70 = .ok (.iaload, 1) := by decide +kernel
theorem dX3_count_71 : decode cX3_count 71 = .ok (.ireturn, 1) := by decide +kernel
theorem dJx00060_init_a7421_0 : decode cJx00060_init_a7421 0 = .ok (.aload_n 0, 1) := by decide +kernel
theorem dJx00060_init_a7421_1 : decode cJx00060_init_a7421 1 = .ok (.aload_n 1, 1) := by decide +kernel
theorem dJx00060_init_a7421_2 : decode cJx00060_init_a7421 2 = .ok (.invokespecial 7, 3) := by decide +kernel
theorem dJx00060_init_a7421_5 : decode cJx00060_init_a7421 5 = .ok (.return_, 1) := by decide +kernel
theorem dJ9_floorDiv_7cf53_0 : decode cJ9_floorDiv_7cf53 0 = .ok (.iload_n 0, 1) := by decide +kernel
theorem dJ9_floorDiv_7cf53_1 : decode cJ9_floorDiv_7cf53 1 = .ok (.iload_n 1, 1) := by decide +kernel
theorem dJ9_floorDiv_7cf53_2 : decode cJ9_floorDiv_7cf53 2 = .ok (.idiv, 1) := by decide +kernel
theorem dJ9_floorDiv_7cf53_3 : decode cJ9_floorDiv_7cf53 3 = .ok (.istore_n 2, 1) := by decide +kernel
theorem dJ9_floorDiv_7cf53_4 : decode cJ9_floorDiv_7cf53 4 = .ok (.iload_n 0, 1) := by decide +kernel
theorem dJ9_floorDiv_7cf53_5 : decode cJ9_floorDiv_7cf53 5 = .ok (.iload_n 1, 1) := by decide +kernel
theorem dJ9_floorDiv_7cf53_6 : decode cJ9_floorDiv_7cf53 6 = .ok (.ixor, 1) := by decide +kernel
theorem dJ9_floorDiv_7cf53_7 : decode cJ9_floorDiv_7cf53 7 = .ok (.ifCond .ge 14, 3) := by decide +kernel
theorem dJ9_floorDiv_7cf53_10 : decode cJ9_floorDiv_7cf53 10 = .ok (.iload_n 2, 1) := by decide +kernel
theorem dJ9_floorDiv_7cf53_11 : decode cJ9_floorDiv_7cf53 11 = .ok (.iload_n 1, 1) := by decide +kernel
theorem dJ9_floorDiv_7cf53_12 : decode cJ9_floorDiv_7cf53 12 = .ok (.imul, 1) := by decide +kernel
theorem dJ9_floorDiv_7cf53_13 : decode cJ9_floorDiv_7cf53 13 = .ok (.iload_n 0, 1) := by decide +kernel
theorem dJ9_floorDiv_7cf53_14 : decode cJ9_floorDiv_7cf53 14 = .ok (.if_icmp .eq 7, 3) := by decide +kernel
theorem dJ9_floorDiv_7cf53_17 : decode cJ9_floorDiv_7cf53 17 = .ok (.iload_n 2, 1) := by decide +kernel
theorem dJ9_floorDiv_7cf53_18 : decode cJ9_floorDiv_7cf53 18 = .ok (.iconst 1, 1) := by decide +kernel
theorem dJ9_floorDiv_7cf53_19 : decode cJ9_floorDiv_7cf53 19 = .ok (.isub, 1) := by decide +kernel
theorem dJ9_floorDiv_7cf53_20 : decode cJ9_floorDiv_7cf53 20 = .ok (.ireturn, 1) := by decide +kernel
theorem dJ9_floorDiv_7cf53_21 : decode cJ9_floorDiv_7cf53 21 = .ok (.iload_n 2, 1) := by decide +kernel
theorem dJ9_floorDiv_7cf53_22 : decode cJ9_floorDiv_7cf53 22 = .ok (.ireturn, 1) := by decide +kernel
set_option maxRecDepth 20000 in
theorem ggL_row_X2_row : GoodIn wsL_row wsX2_row := goodIn_r _ [5, 6, 7, 8, 9, 10, 11, 4, 12, 13, 14, 15, 16, 17, 18, 19, 20, 21, 22, 23, 24, 25, 26, 27, 28, 29, 30, 31, 32, 33, 34, 35, 36, 37, 38, 39, 40, 41, 42, 43, 44, 45, 46, 47, 48] (by decide +kernel) (by decide +kernel)
set_option maxRecDepth 20000 in
theorem gL_row_X2_row : GoodIn wsL_row (wsV RL 7 RX2 yX2_row wsX2_row) := goodIn_app (goodIn_of _ (by decide +kernel)) ggL_row_X2_row
theorem dL_row_0 : decode cL_row 0 = .ok (.aload_n 3, 1) := by decide +kernel
theorem dL_row_1 : decode cL_row 1 = .ok (.iconst 0, 1) := by decide +kernel
theorem dL_row_2 : decode cL_row 2 = .ok (.aload_n 0, 1) := by decide +kernel
theorem dL_row_3 : decode cL_row 3 = .ok (.iload_n 1, 1) := by decide +kernel
theorem dL_row_4 : decode cL_row 4 = .ok (.iload_n 2, 1) := by decide +kernel
theorem dL_row_5 : decode cL_row 5 = .ok (.invokevirtual 7, 3) := by decide +kernel
theorem dL_row_8 : decode cL_row 8 = .ok (.i2l, 1) := by decide +kernel
theorem dL_row_9 : decode cL_row 9 = .ok (.lastore, 1) := by decide +kernel
theorem dL_row_10 : decode cL_row 10 = .ok (.goto 7, 3) := by decide +kernel
theorem dL_row_13 : decode cL_row 13 = .ok (.astore 4, 2) := by decide +kernel
theorem dL_row_15 : decode cL_row 15 = .ok (.iconst 1, 1) := by decide +kernel
theorem dL_row_16 : decode cL_row 16 = .ok (.ireturn, 1) := by decide +kernel
theorem dL_row_17 : decode cL_row 17 = .ok (.iconst 0, 1) := by decide +kernel
theorem dL_row_18 : decode cL_row 18 = .ok (.ireturn, 1) := by decide +kernel
set_option maxRecDepth 20000 in
theorem ggL_in_X2_in : GoodIn wsL_in wsX2_in := goodIn_r _ [5, 6, 7, 8, 9, 10, 11, 12, 13, 14, 15, 16, 17, 18, 19, 4, 20, 21, 22, 23, 24, 25, 26, 27, 28, 29, 30, 31, 32, 33, 34, 35, 36, 37, 38, 39, 40, 41, 42, 43, 44, 45, 46, 47, 48, 49, 50, 51, 52, 53, 54, 55, 56, 57, 58, 59, 60, 61, 62, 63, 64, 65, 66, 67, 68, 69, 70] (by decide +kernel) (by decide +kernel)
set_option maxRecDepth 20000 in
theorem gL_in_X2_in : GoodIn wsL_in (wsV RL 15 RX2 yX2_in wsX2_in) := goodIn_app (goodIn_of _ (by decide +kernel)) ggL_in_X2_in
theorem dL_in_0 : decode cL_in 0 = .ok (.aload_n 3, 1) := by decide +kernel
theorem dL_in_1 : decode cL_in 1 = .ok (.iconst 0, 1) := by decide +kernel
theorem dL_in_2 : decode cL_in 2 = .ok (.aload_n 0, 1) := by decide +kernel
theorem dL_in_3 : decode cL_in 3 = .ok (.iload_n 1, 1) := by decide +kernel
theorem dL_in_4 : decode cL_in 4 = .ok (.iload_n 2, 1) := by decide +kernel
theorem dL_in_5 : decode cL_in 5 = .ok (.invokevirtual 15, 3) := by decide +kernel
theorem dL_in_8 : decode cL_in 8 = .ok (.i2l, 1) := by decide +kernel
theorem dL_in_9 : decode cL_in 9 = .ok (.lastore, 1) := by decide +kernel
theorem dL_in_10 : decode cL_in 10 = .ok (.goto 7, 3) := by decide +kernel
theorem dL_in_13 : decode cL_in 13 = .ok (.astore 4, 2) := by decide +kernel
theorem dL_in_15 : decode cL_in 15 = .ok (.iconst 1, 1) := by decide +kernel
theorem dL_in_16 : decode cL_in 16 = .ok (.ireturn, 1) := by decide +kernel
theorem dL_in_17 : decode cL_in 17 = .ok (.iconst 0, 1) := by decide +kernel
theorem dL_in_18 : decode cL_in 18 = .ok (.ireturn, 1) := by decide +kernel
