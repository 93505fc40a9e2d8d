theorem dX0_init_0 : decode cX0_init 0 = .ok (.aload_n 0, 1) := by decide +kernel
theorem dX0_init_1 : decode cX0_init 1 = .ok (.invokespecial 3, 3) := by decide +kernel
theorem dX0_init_4 : decode cX0_init 4 = .ok (.aload_n 0, 1) := by decide +kernel
theorem dX0_init_5 : decode cX0_init 5 = .ok (.bipush 32, 2) := by decide +kernel
theorem dX0_init_7 : decode cX0_init 7 = .ok (.newarray .int, 2) := by decide +kernel
theorem dX0_init_9 : decode cX0_init 9 = .ok (.putfield 9, 3) := by decide +kernel
theorem dX0_init_12 : decode cX0_init 12 = .ok (.aload_n 0, 1) := by decide +kernel
theorem dX0_init_13 : decode cX0_init 13 = .ok (.bipush 32, 2) := by decide +kernel
theorem dX0_init_15 : decode cX0_init 15 = .ok (.newarray .int, 2) := by decide +kernel
theorem dX0_init_17 : decode cX0_init 17 = .ok (.putfield 15, 3) := by decide +kernel
theorem dX0_init_20 : decode cX0_init 20 = .ok (.aload_n 0, 1) := by decide +kernel
theorem dX0_init_21 : decode cX0_init 21 = .ok (.iconst 4, 1) := by decide +kernel
theorem dX0_init_22 : decode cX0_init 22 = .ok (.newarray .int, 2) := by decide +kernel
theorem dX0_init_24 : decode cX0_init 24 = .ok (.putfield 18, 3) := by decide +kernel
theorem dX0_init_27 : decode cX0_init 27 = .ok (.aload_n 0, 1) := by decide +kernel
theorem dX0_init_28 : decode cX0_init 28 = .ok (.iconst 4, 1) := by decide +kernel
theorem dX0_init_29 : decode cX0_init 29 = .ok (.newarray .int, 2) := by decide +kernel
theorem dX0_init_31 : decode cX0_init 31 = .ok (.putfield 21, 3) := by decide +kernel
theorem dX0_init_34 : decode cX0_init 34 = .ok (.aload_n 0, 1) := by decide +kernel
theorem dX0_init_35 : decode cX0_init 35 = .ok (.iconst 4, 1) := by decide +kernel
theorem dX0_init_36 : decode cX0_init 36 = .ok (.newarray .int, 2) := by decide +kernel
theorem dX0_init_38 : decode cX0_init 38 = .ok (.putfield 24, 3) := by decide +kernel
theorem dX0_init_41 : decode cX0_init 41 = .ok (.return_, 1) := by decide +kernel
theorem dX0_addPoint_0 : decode cX0_addPoint 0 = .ok (.aload_n 0, 1) := by decide +kernel
theorem dX0_addPoint_1 : decode cX0_addPoint 1 = .ok (.getfield 18, 3) := by decide +kernel
theorem dX0_addPoint_4 : decode cX0_addPoint 4 = .ok (.iload_n 1, 1) := by decide +kernel
theorem dX0_addPoint_5 : decode cX0_addPoint 5 = .ok (.iaload, 1) := by decide +kernel
theorem dX0_addPoint_6 : decode cX0_addPoint 6 = .ok (.istore 4, 2) := by decide +kernel
theorem dX0_addPoint_8 : decode cX0_addPoint 8 = .ok (.iload 4, 2) := by decide +kernel
theorem dX0_addPoint_10 : decode cX0_addPoint 10 = .ok (.bipush 8, 2) := by decide +kernel
theorem dX0_addPoint_12 : decode cX0_addPoint 12 = .ok (.if_icmp .lt 5, 3) := by decide +kernel
theorem dX0_addPoint_15 : decode cX0_addPoint 15 = .ok (.iconst 0, 1) := by decide +kernel
theorem dX0_addPoint_16 : decode cX0_addPoint 16 = .ok (.ireturn, 1) := by decide +kernel
theorem dX0_addPoint_17 : decode cX0_addPoint 17 = .ok (.iload_n 1, 1) := by decide +kernel
theorem dX0_addPoint_18 : decode cX0_addPoint 18 = .ok (.bipush 8, 2) := by decide +kernel
theorem dX0_addPoint_20 : decode cX0_addPoint 20 = .ok (.imul, 1) := by decide +kernel
theorem dX0_addPoint_21 : decode cX0_addPoint 21 = .ok (.iload 4, 2) := by decide +kernel
theorem dX0_addPoint_23 : decode cX0_addPoint 23 = .ok (.iadd, 1) := by decide +kernel
theorem dX0_addPoint_24 : decode cX0_addPoint 24 = .ok (.istore 5, 2) := by decide +kernel
theorem dX0_addPoint_26 : decode cX0_addPoint 26 = .ok (.iload 4, 2) := by decide +kernel
theorem dX0_addPoint_28 : decode cX0_addPoint 28 = .ok (.ifCond .le 31, 3) := by decide +kernel
theorem dX0_addPoint_31 : decode cX0_addPoint 31 = .ok (.iload_n 2, 1) := by decide +kernel
theorem dX0_addPoint_32 : decode cX0_addPoint 32 = .ok (.aload_n 0, 1) := by decide +kernel
theorem dX0_addPoint_33 : decode cX0_addPoint 33 = .ok (.getfield 9, 3) := by decide +kernel
theorem dX0_addPoint_36 : decode cX0_addPoint 36 = .ok (.iload 5, 2) := by decide +kernel
theorem dX0_addPoint_38 : decode cX0_addPoint 38 = .ok (.iconst 1, 1) := by decide +kernel
theorem dX0_addPoint_39 : decode cX0_addPoint 39 = .ok (.isub, 1) := by decide +kernel
theorem dX0_addPoint_40 : decode cX0_addPoint 40 = .ok (.iaload, 1) := by decide +kernel
theorem dX0_addPoint_41 : decode cX0_addPoint 41 = .ok (.if_icmp .le 16, 3) := by decide +kernel
theorem dX0_addPoint_44 : decode cX0_addPoint 44 = .ok (.iload_n 3, 1) := by decide +kernel
theorem dX0_addPoint_45 : decode cX0_addPoint 45 = .ok (.aload_n 0, 1) := by decide +kernel
theorem dX0_addPoint_46 : decode cX0_addPoint 46 = .ok (.getfield 15, 3) := by decide +kernel
theorem dX0_addPoint_49 : decode cX0_addPoint 49 = .ok (.iload 5, 2) := by decide +kernel
theorem dX0_addPoint_51 : decode cX0_addPoint 51 = .ok (.iconst 1, 1) := by decide +kernel
theorem dX0_addPoint_52 : decode cX0_addPoint 52 = .ok (.isub, 1) := by decide +kernel
theorem dX0_addPoint_53 : decode cX0_addPoint 53 = .ok (.iaload, 1) := by decide +kernel
theorem dX0_addPoint_54 : decode cX0_addPoint 54 = .ok (.if_icmp .ge 5, 3) := by decide +kernel
theorem dX0_addPoint_57 : decode cX0_addPoint 57 = .ok (.iconst 0, 1) := by decide +kernel
theorem dX0_addPoint_58 : decode cX0_addPoint 58 = .ok (.ireturn, 1) := by decide +kernel
theorem dX0_addPoint_59 : decode cX0_addPoint 59 = .ok (.aload_n 0, 1) := by decide +kernel
theorem dX0_addPoint_60 : decode cX0_addPoint 60 = .ok (.getfield 9, 3) := by decide +kernel
theorem dX0_addPoint_63 : decode cX0_addPoint 63 = .ok (.iload 5, 2) := by decide +kernel
theorem dX0_addPoint_65 : decode cX0_addPoint 65 = .ok (.iload_n 2, 1) := by decide +kernel
theorem dX0_addPoint_66 : decode cX0_addPoint 66 = .ok (.iastore, 1) := by decide +kernel
theorem dX0_addPoint_67 : decode cX0_addPoint 67 = .ok (.aload_n 0, 1) := by decide +kernel
theorem dX0_addPoint_68 : decode cX0_addPoint 68 = .ok (.getfield 15, 3) := by decide +kernel
theorem dX0_addPoint_71 : decode cX0_addPoint 71 = .ok (.iload 5, 2) := by decide +kernel
theorem dX0_addPoint_73 : decode cX0_addPoint 73 = .ok (.iload_n 3, 1) := by decide +kernel
theorem dX0_addPoint_74 : decode cX0_addPoint 74 = .ok (.iastore, 1) := by decide +kernel
theorem dX0_addPoint_75 : decode cX0_addPoint 75 = .ok (.aload_n 0, 1) := by decide +kernel
theorem dX0_addPoint_76 : decode cX0_addPoint 76 = .ok (.getfield 18, 3) := by decide +kernel
theorem dX0_addPoint_79 : decode cX0_addPoint 79 = .ok (.iload_n 1, 1) := by decide +kernel
theorem dX0_addPoint_80 : decode cX0_addPoint 80 = .ok (.iload 4, 2) := by decide +kernel
theorem dX0_addPoint_82 : decode cX0_addPoint 82 = .ok (.iconst 1, 1) := by decide +kernel
theorem dX0_addPoint_83 : decode cX0_addPoint 83 = .ok (.iadd, 1) := by decide +kernel
theorem dX0_addPoint_84 : decode cX0_addPoint 84 = .ok (.iastore, 1) := by decide +kernel
theorem dX0_addPoint_85 : decode cX0_addPoint 85 = .ok (.iconst 1, 1) := by decide +kernel
theorem dX0_addPoint_86 : decode cX0_addPoint 86 = .ok (.ireturn, 1) := by decide +kernel
set_option maxRecDepth 20000 in
theorem ggX0_stressAt_X2_share : GoodIn wsX0_stressAt wsX2_share := goodIn_r _ [6] (by decide +kernel) (by decide +kernel)
set_option maxRecDepth 20000 in
theorem gX0_stressAt_X2_share_n27 : GoodIn wsX0_stressAt (wsX2_share) := ggX0_stressAt_X2_share
theorem dX0_stressAt_0 : decode cX0_stressAt 0 = .ok (.aload_n 0, 1) := by decide +kernel
theorem dX0_stressAt_1 : decode cX0_stressAt 1 = .ok (.getfield 18, 3) := by decide +kernel
theorem dX0_stressAt_4 : decode cX0_stressAt 4 = .ok (.iload_n 1, 1) := by decide +kernel
theorem dX0_stressAt_5 : decode cX0_stressAt 5 = .ok (.iaload, 1) := by decide +kernel
theorem dX0_stressAt_6 : decode cX0_stressAt 6 = .ok (.ifCond .ne 5, 3) := by decide +kernel
theorem dX0_stressAt_9 : decode cX0_stressAt 9 = .ok (.iconst 0, 1) := by decide +kernel
theorem dX0_stressAt_10 : decode cX0_stressAt 10 = .ok (.ireturn, 1) := by decide +kernel
theorem dX0_stressAt_11 : decode cX0_stressAt 11 = .ok (.iload_n 1, 1) := by decide +kernel
theorem dX0_stressAt_12 : decode cX0_stressAt 12 = .ok (.bipush 8, 2) := by decide +kernel
theorem dX0_stressAt_14 : decode cX0_stressAt 14 = .ok (.imul, 1) := by decide +kernel
theorem dX0_stressAt_15 : decode cX0_stressAt 15 = .ok (.istore_n 3, 1) := by decide +kernel
theorem dX0_stressAt_16 : decode cX0_stressAt 16 = .ok (.iload_n 3, 1) := by decide +kernel
theorem dX0_stressAt_17 : decode cX0_stressAt 17 = .ok (.aload_n 0, 1) := by decide +kernel
theorem dX0_stressAt_18 : decode cX0_stressAt 18 = .ok (.getfield 18, 3) := by decide +kernel
theorem dX0_stressAt_21 : decode cX0_stressAt 21 = .ok (.iload_n 1, 1) := by decide +kernel
theorem dX0_stressAt_22 : decode cX0_stressAt 22 = .ok (.iaload, 1) := by decide +kernel
theorem dX0_stressAt_23 : decode cX0_stressAt 23 = .ok (.iadd, 1) := by decide +kernel
theorem dX0_stressAt_24 : decode cX0_stressAt 24 = .ok (.iconst 1, 1) := by decide +kernel
theorem dX0_stressAt_25 : decode cX0_stressAt 25 = .ok (.isub, 1) := by decide +kernel
theorem dX0_stressAt_26 : decode cX0_stressAt 26 = .ok (.istore 4, 2) := by decide +kernel
theorem dX0_stressAt_28 : decode cX0_stressAt 28 = .ok (.iload_n 2, 1) := by decide +kernel
theorem dX0_stressAt_29 : decode cX0_stressAt 29 = .ok (.aload_n 0, 1) := by decide +kernel
theorem dX0_stressAt_30 : decode cX0_stressAt 30 = .ok (.getfield 9, 3) := by decide +kernel
theorem dX0_stressAt_33 : decode cX0_stressAt 33 = .ok (.iload_n 3, 1) := by decide +kernel
theorem dX0_stressAt_34 : decode cX0_stressAt 34 = .ok (.iaload, 1) := by decide +kernel
theorem dX0_stressAt_35 : decode cX0_stressAt 35 = .ok (.if_icmp .gt 10, 3) := by decide +kernel
theorem dX0_stressAt_38 : decode cX0_stressAt 38 = .ok (.aload_n 0, 1) := by decide +kernel
theorem dX0_stressAt_39 : decode cX0_stressAt 39 = .ok (.getfield 15, 3) := by decide +kernel
theorem dX0_stressAt_42 : decode cX0_stressAt 42 = .ok (.iload_n 3, 1) := by decide +kernel
theorem dX0_stressAt_43 : decode cX0_stressAt 43 = .ok (.iaload, 1) := by decide +kernel
theorem dX0_stressAt_44 : decode cX0_stressAt 44 = .ok (.ireturn, 1) := by decide +kernel
theorem dX0_stressAt_45 : decode cX0_stressAt 45 = .ok (.iload_n 3, 1) := by decide +kernel
theorem dX0_stressAt_46 : decode cX0_stressAt 46 = .ok (.istore 5, 2) := by decide +kernel
theorem dX0_stressAt_48 : decode cX0_stressAt 48 = .ok (.iload 5, 2) := by decide +kernel
theorem dX0_stressAt_50 : decode cX0_stressAt 50 = .ok (.iload 4, 2) := by decide +kernel
theorem dX0_stressAt_52 : decode cX0_stressAt 52 = .ok (.if_icmp .ge 84, 3) := by decide +kernel
theorem dX0_stressAt_55 : decode cX0_stressAt 55 = .ok (.iload_n 2, 1) := by decide +kernel
theorem dX0_stressAt_56 : decode cX0_stressAt 56 = .ok (.aload_n 0, 1) := by decide +kernel
theorem dX0_stressAt_57 : decode cX0_stressAt 57 = .ok (.getfield 9, 3) := by decide +kernel
theorem dX0_stressAt_60 : decode cX0_stressAt 60 = .ok (.iload 5, 2) := by decide +kernel
theorem dX0_stressAt_62 : decode cX0_stressAt 62 = .ok (.iconst 1, 1) := by decide +kernel
theorem dX0_stressAt_63 : decode cX0_stressAt 63 = .ok (.iadd, 1) := by decide +kernel
theorem dX0_stressAt_64 : decode cX0_stressAt 64 = .ok (.iaload, 1) := by decide +kernel
theorem dX0_stressAt_65 : decode cX0_stressAt 65 = .ok (.if_icmp .ge 65, 3) := by decide +kernel
theorem dX0_stressAt_68 : decode cX0_stressAt 68 = .ok (.aload_n 0, 1) := by decide +kernel
theorem dX0_stressAt_69 : decode cX0_stressAt 69 = .ok (.getfield 15, 3) := by decide +kernel
theorem dX0_stressAt_72 : decode cX0_stressAt 72 = .ok (.iload 5, 2) := by decide +kernel
theorem dX0_stressAt_74 : decode cX0_stressAt 74 = .ok (.iconst 1, 1) := by decide +kernel
theorem dX0_stressAt_75 : decode cX0_stressAt 75 = .ok (.iadd, 1) := by decide +kernel
theorem dX0_stressAt_76 : decode cX0_stressAt 76 = .ok (.iaload, 1) := by decide +kernel
theorem dX0_stressAt_77 : decode cX0_stressAt 77 = .ok (.aload_n 0, 1) := by decide +kernel
theorem dX0_stressAt_78 : decode cX0_stressAt 78 = .ok (.getfield 15, 3) := by decide +kernel
theorem dX0_stressAt_81 : decode cX0_stressAt 81 = .ok (.iload 5, 2) := by decide +kernel
theorem dX0_stressAt_83 : decode cX0_stressAt 83 = .ok (.iaload, 1) := by decide +kernel
theorem dX0_stressAt_84 : decode cX0_stressAt 84 = .ok (.isub, 1) := by decide +kernel
theorem dX0_stressAt_85 : decode cX0_stressAt 85 = .ok (.istore 6, 2) := by decide +kernel
theorem dX0_stressAt_87 : decode cX0_stressAt 87 = .ok (.aload_n 0, 1) := by decide +kernel
theorem dX0_stressAt_88 : decode cX0_stressAt 88 = .ok (.getfield 15, 3) := by decide +kernel
theorem dX0_stressAt_91 : decode cX0_stressAt 91 = .ok (.iload 5, 2) := by decide +kernel
theorem dX0_stressAt_93 : decode cX0_stressAt 93 = .ok (.iaload, 1) := by decide +kernel
theorem dX0_stressAt_94 : decode cX0_stressAt 94 = .ok (.iload 6, 2) := by decide +kernel
theorem dX0_stressAt_96 : decode cX0_stressAt 96 = .ok (.i2l, 1) := by decide +kernel
theorem dX0_stressAt_97 : decode cX0_stressAt 97 = .ok (.iload_n 2, 1) := by decide +kernel
theorem dX0_stressAt_98 : decode cX0_stressAt 98 = .ok (.aload_n 0, 1) := by decide +kernel
theorem dX0_stressAt_99 : decode cX0_stressAt 99 = .ok (.getfield 9, 3) := by decide +kernel
theorem dX0_stressAt_102 : decode cX0_stressAt 102 = .ok (.iload 5, 2) := by decide +kernel
theorem dX0_stressAt_104 : decode cX0_stressAt 104 = .ok (.iaload, 1) := by decide +kernel
theorem dX0_stressAt_105 : decode cX0_stressAt 105 = .ok (.isub, 1) := by decide +kernel
theorem dX0_stressAt_106 : decode cX0_stressAt 106 = .ok (.i2l, 1) := by decide +kernel
theorem dX0_stressAt_107 : decode cX0_stressAt 107 = .ok (.aload_n 0, 1) := by decide +kernel
theorem dX0_stressAt_108 : decode cX0_stressAt 108 = .ok (.getfield 9, 3) := by decide +kernel
theorem dX0_stressAt_111 : decode cX0_stressAt 111 = .ok (.iload 5, 2) := by decide +kernel
theorem dX0_stressAt_113 : decode cX0_stressAt 113 = .ok (.iconst 1, 1) := by decide +kernel
theorem dX0_stressAt_114 : decode cX0_stressAt 114 = .ok (.iadd, 1) := by decide +kernel
theorem dX0_stressAt_115 : decode cX0_stressAt 115 = .ok (.iaload, 1) := by decide +kernel
theorem dX0_stressAt_116 : decode cX0_stressAt 116 = .ok (.aload_n 0, 1) := by decide +kernel
theorem dX0_stressAt_117 : decode cX0_stressAt 117 = .ok (.getfield 9, 3) := by decide +kernel
theorem dX0_stressAt_120 : decode cX0_stressAt 120 = .ok (.iload 5, 2) := by decide +kernel
theorem dX0_stressAt_122 : decode cX0_stressAt 122 = .ok (.iaload, 1) := by decide +kernel
theorem dX0_stressAt_123 : decode cX0_stressAt 123 = .ok (.isub, 1) := by decide +kernel
theorem dX0_stressAt_124 : decode cX0_stressAt 124 = .ok (.i2l, 1) := by decide +kernel
theorem dX0_stressAt_125 : decode cX0_stressAt 125 = .ok (.invokestatic 27, 3) := by decide +kernel
theorem dX0_stressAt_128 : decode cX0_stressAt 128 = .ok (.iadd, 1) := by decide +kernel
theorem dX0_stressAt_129 : decode cX0_stressAt 129 = .ok (.ireturn, 1) := by decide +kernel
theorem dX0_stressAt_130 : decode cX0_stressAt 130 = .ok (.iinc 5 1, 3) := by decide +kernel
theorem dX0_stressAt_133 : decode cX0_stressAt 133 = .ok (.goto (-85), 3) := by decide +kernel
theorem dX0_stressAt_136 : decode cX0_stressAt 136 = .ok (.aload_n 0, 1) := by decide +kernel
theorem dX0_stressAt_137 : decode cX0_stressAt 137 = .ok (.getfield 15, 3) := by decide +kernel
theorem dX0_stressAt_140 : decode cX0_stressAt 140 = .ok (.iload 4, 2) := by decide +kernel
theorem dX0_stressAt_142 : decode cX0_stressAt 142 = .ok (.iaload, 1) := by decide +kernel
theorem dX0_stressAt_143 : decode cX0_stressAt 143 = .ok (.ireturn, 1) := by decide +kernel
theorem dX0_isBeyond_0 : decode cX0_isBeyond 0 = .ok (.aload_n 0, 1) := by decide +kernel
theorem dX0_isBeyond_1 : decode cX0_isBeyond 1 = .ok (.getfield 18, 3) := by decide +kernel
theorem dX0_isBeyond_4 : decode cX0_isBeyond 4 = .ok (.iload_n 1, 1) := by decide +kernel
theorem dX0_isBeyond_5 : decode cX0_isBeyond 5 = .ok (.iaload, 1) := by decide +kernel
theorem dX0_isBeyond_6 : decode cX0_isBeyond 6 = .ok (.ifCond .ne 5, 3) := by decide +kernel
theorem dX0_isBeyond_9 : decode cX0_isBeyond 9 = .ok (.iconst 0, 1) := by decide +kernel
theorem dX0_isBeyond_10 : decode cX0_isBeyond 10 = .ok (.ireturn, 1) := by decide +kernel
theorem dX0_isBeyond_11 : decode cX0_isBeyond 11 = .ok (.iload_n 1, 1) := by decide +kernel
theorem dX0_isBeyond_12 : decode cX0_isBeyond 12 = .ok (.bipush 8, 2) := by decide +kernel
theorem dX0_isBeyond_14 : decode cX0_isBeyond 14 = .ok (.imul, 1) := by decide +kernel
theorem dX0_isBeyond_15 : decode cX0_isBeyond 15 = .ok (.istore_n 3, 1) := by decide +kernel
theorem dX0_isBeyond_16 : decode cX0_isBeyond 16 = .ok (.iload_n 2, 1) := by decide +kernel
theorem dX0_isBeyond_17 : decode cX0_isBeyond 17 = .ok (.aload_n 0, 1) := by decide +kernel
theorem dX0_isBeyond_18 : decode cX0_isBeyond 18 = .ok (.getfield 9, 3) := by decide +kernel
theorem dX0_isBeyond_21 : decode cX0_isBeyond 21 = .ok (.iload_n 3, 1) := by decide +kernel
theorem dX0_isBeyond_22 : decode cX0_isBeyond 22 = .ok (.iaload, 1) := by decide +kernel
theorem dX0_isBeyond_23 : decode cX0_isBeyond 23 = .ok (.if_icmp .lt 22, 3) := by decide +kernel
theorem dX0_isBeyond_26 : decode cX0_isBeyond 26 = .ok (.iload_n 2, 1) := by decide +kernel
theorem dX0_isBeyond_27 : decode cX0_isBeyond 27 = .ok (.aload_n 0, 1) := by decide +kernel
theorem dX0_isBeyond_28 : decode cX0_isBeyond 28 = .ok (.getfield 9, 3) := by decide +kernel
theorem dX0_isBeyond_31 : decode cX0_isBeyond 31 = .ok (.iload_n 3, 1) := by decide +kernel
theorem dX0_isBeyond_32 : decode cX0_isBeyond 32 = .ok (.aload_n 0, 1) := by decide +kernel
theorem dX0_isBeyond_33 : decode cX0_isBeyond 33 = .ok (.getfield 18, 3) := by decide +kernel
theorem dX0_isBeyond_36 : decode cX0_isBeyond 36 = .ok (.iload_n 1, 1) := by decide +kernel
theorem dX0_isBeyond_37 : decode cX0_isBeyond 37 = .ok (.iaload, 1) := by decide +kernel
theorem dX0_isBeyond_38 : decode cX0_isBeyond 38 = .ok (.iadd, 1) := by decide +kernel
theorem dX0_isBeyond_39 : decode cX0_isBeyond 39 = .ok (.iconst 1, 1) := by decide +kernel
theorem dX0_isBeyond_40 : decode cX0_isBeyond 40 = .ok (.isub, 1) := by decide +kernel
theorem dX0_isBeyond_41 : decode cX0_isBeyond 41 = .ok (.iaload, 1) := by decide +kernel
theorem dX0_isBeyond_42 : decode cX0_isBeyond 42 = .ok (.if_icmp .le 7, 3) := by decide +kernel
theorem dX0_isBeyond_45 : decode cX0_isBeyond 45 = .ok (.iconst 1, 1) := by decide +kernel
theorem dX0_isBeyond_46 : decode cX0_isBeyond 46 = .ok (.goto 4, 3) := by decide +kernel
theorem dX0_isBeyond_49 : decode cX0_isBeyond 49 = .ok (.iconst 0, 1) := by decide +kernel
theorem dX0_isBeyond_50 : decode cX0_isBeyond 50 = .ok (.ireturn, 1) := by decide +kernel
set_option maxRecDepth 20000 in
theorem ggX1_init_X0_init : GoodIn wsX1_init wsX0_init := goodIn_r _ [15, 16, 2, 3, 8, 17, 18, 19, 20, 21, 22, 23, 24, 25, 26] (by decide +kernel) (by decide +kernel)
set_option maxRecDepth 20000 in
theorem gX1_init_X0_init_n11 : GoodIn wsX1_init (wsX0_init) := ggX1_init_X0_init
theorem dX1_init_0 : decode cX1_init 0 = .ok (.aload_n 0, 1) := by decide +kernel
theorem dX1_init_1 : decode cX1_init 1 = .ok (.invokespecial 3, 3) := by decide +kernel
theorem dX1_init_4 : decode cX1_init 4 = .ok (.aload_n 0, 1) := by decide +kernel
theorem dX1_init_5 : decode cX1_init 5 = .ok (.new 9, 3) := by decide +kernel
theorem dX1_init_8 : decode cX1_init 8 = .ok (.dup, 1) := by decide +kernel
theorem dX1_init_9 : decode cX1_init 9 = .ok (.invokespecial 11, 3) := by decide +kernel
theorem dX1_init_12 : decode cX1_init 12 = .ok (.putfield 12, 3) := by decide +kernel
theorem dX1_init_15 : decode cX1_init 15 = .ok (.aload_n 0, 1) := by decide +kernel
theorem dX1_init_16 : decode cX1_init 16 = .ok (.bipush 41, 2) := by decide +kernel
theorem dX1_init_18 : decode cX1_init 18 = .ok (.newarray .int, 2) := by decide +kernel
theorem dX1_init_20 : decode cX1_init 20 = .ok (.putfield 18, 3) := by decide +kernel
theorem dX1_init_23 : decode cX1_init 23 = .ok (.aload_n 0, 1) := by decide +kernel
theorem dX1_init_24 : decode cX1_init 24 = .ok (.bipush 41, 2) := by decide +kernel
theorem dX1_init_26 : decode cX1_init 26 = .ok (.newarray .int, 2) := by decide +kernel
theorem dX1_init_28 : decode cX1_init 28 = .ok (.putfield 22, 3) := by decide +kernel
theorem dX1_init_31 : decode cX1_init 31 = .ok (.aload_n 0, 1) := by decide +kernel
theorem dX1_init_32 : decode cX1_init 32 = .ok (.bipush 41, 2) := by decide +kernel
theorem dX1_init_34 : decode cX1_init 34 = .ok (.newarray .int, 2) := by decide +kernel
theorem dX1_init_36 : decode cX1_init 36 = .ok (.putfield 25, 3) := by decide +kernel
theorem dX1_init_39 : decode cX1_init 39 = .ok (.aload_n 0, 1) := by decide +kernel
theorem dX1_init_40 : decode cX1_init 40 = .ok (.bipush 41, 2) := by decide +kernel
theorem dX1_init_42 : decode cX1_init 42 = .ok (.newarray .int, 2) := by decide +kernel
theorem dX1_init_44 : decode cX1_init 44 = .ok (.putfield 28, 3) := by decide +kernel
theorem dX1_init_47 : decode cX1_init 47 = .ok (.aload_n 0, 1) := by decide +kernel
theorem dX1_init_48 : decode cX1_init 48 = .ok (.bipush 41, 2) := by decide +kernel
theorem dX1_init_50 : decode cX1_init 50 = .ok (.newarray .int, 2) := by decide +kernel
theorem dX1_init_52 : decode cX1_init 52 = .ok (.putfield 31, 3) := by decide +kernel
theorem dX1_init_55 : decode cX1_init 55 = .ok (.return_, 1) := by decide +kernel
set_option maxRecDepth 20000 in
theorem ggX1_has_X2_within : GoodIn wsX1_has wsX2_within := goodIn_r _ [4] (by decide +kernel) (by decide +kernel)
set_option maxRecDepth 20000 in
theorem gX1_has_X2_within_n38 : GoodIn wsX1_has (wsX2_within) := ggX1_has_X2_within
theorem dX1_has_0 : decode cX1_has 0 = .ok (.iload_n 1, 1) := by decide +kernel
theorem dX1_has_1 : decode cX1_has 1 = .ok (.iconst 0, 1) := by decide +kernel
theorem dX1_has_2 : decode cX1_has 2 = .ok (.aload_n 0, 1) := by decide +kernel
theorem dX1_has_3 : decode cX1_has 3 = .ok (.getfield 34, 3) := by decide +kernel
theorem dX1_has_6 : decode cX1_has 6 = .ok (.iconst 1, 1) := by decide +kernel
theorem dX1_has_7 : decode cX1_has 7 = .ok (.isub, 1) := by decide +kernel
theorem dX1_has_8 : decode cX1_has 8 = .ok (.invokestatic 38, 3) := by decide +kernel
theorem dX1_has_11 : decode cX1_has 11 = .ok (.ireturn, 1) := by decide +kernel
theorem dX1_add_0 : decode cX1_add 0 = .ok (.aload_n 0, 1) := by decide +kernel
theorem dX1_add_1 : decode cX1_add 1 = .ok (.getfield 34, 3) := by decide +kernel
theorem dX1_add_4 : decode cX1_add 4 = .ok (.bipush 41, 2) := by decide +kernel
theorem dX1_add_6 : decode cX1_add 6 = .ok (.if_icmp .lt 4, 3) := by decide +kernel
theorem dX1_add_9 : decode cX1_add 9 = .ok (.return_, 1) := by decide +kernel
theorem dX1_add_10 : decode cX1_add 10 = .ok (.aload_n 0, 1) := by decide +kernel
theorem dX1_add_11 : decode cX1_add 11 = .ok (.getfield 18, 3) := by decide +kernel
theorem dX1_add_14 : decode cX1_add 14 = .ok (.aload_n 0, 1) := by decide +kernel
theorem dX1_add_15 : decode cX1_add 15 = .ok (.getfield 34, 3) := by decide +kernel
theorem dX1_add_18 : decode cX1_add 18 = .ok (.iload_n 1, 1) := by decide +kernel
theorem dX1_add_19 : decode cX1_add 19 = .ok (.iastore, 1) := by decide +kernel
theorem dX1_add_20 : decode cX1_add 20 = .ok (.aload_n 0, 1) := by decide +kernel
theorem dX1_add_21 : decode cX1_add 21 = .ok (.getfield 22, 3) := by decide +kernel
theorem dX1_add_24 : decode cX1_add 24 = .ok (.aload_n 0, 1) := by decide +kernel
theorem dX1_add_25 : decode cX1_add 25 = .ok (.getfield 34, 3) := by decide +kernel
theorem dX1_add_28 : decode cX1_add 28 = .ok (.iload_n 2, 1) := by decide +kernel
theorem dX1_add_29 : decode cX1_add 29 = .ok (.iastore, 1) := by decide +kernel
theorem dX1_add_30 : decode cX1_add 30 = .ok (.aload_n 0, 1) := by decide +kernel
theorem dX1_add_31 : decode cX1_add 31 = .ok (.getfield 25, 3) := by decide +kernel
theorem dX1_add_34 : decode cX1_add 34 = .ok (.aload_n 0, 1) := by decide +kernel
theorem dX1_add_35 : decode cX1_add 35 = .ok (.getfield 34, 3) := by decide +kernel
theorem dX1_add_38 : decode cX1_add 38 = .ok (.iload_n 3, 1) := by decide +kernel
theorem dX1_add_39 : decode cX1_add 39 = .ok (.iastore, 1) := by decide +kernel
theorem dX1_add_40 : decode cX1_add 40 = .ok (.aload_n 0, 1) := by decide +kernel
theorem dX1_add_41 : decode cX1_add 41 = .ok (.getfield 28, 3) := by decide +kernel
theorem dX1_add_44 : decode cX1_add 44 = .ok (.aload_n 0, 1) := by decide +kernel
theorem dX1_add_45 : decode cX1_add 45 = .ok (.getfield 34, 3) := by decide +kernel
theorem dX1_add_48 : decode cX1_add 48 = .ok (.iconst 0, 1) := by decide +kernel
theorem dX1_add_49 : decode cX1_add 49 = .ok (.iastore, 1) := by decide +kernel
theorem dX1_add_50 : decode cX1_add 50 = .ok (.aload_n 0, 1) := by decide +kernel
theorem dX1_add_51 : decode cX1_add 51 = .ok (.getfield 31, 3) := by decide +kernel
theorem dX1_add_54 : decode cX1_add 54 = .ok (.aload_n 0, 1) := by decide +kernel
theorem dX1_add_55 : decode cX1_add 55 = .ok (.getfield 34, 3) := by decide +kernel
theorem dX1_add_58 : decode cX1_add 58 = .ok (.bipush 100, 2) := by decide +kernel
theorem dX1_add_60 : decode cX1_add 60 = .ok (.iastore, 1) := by decide +kernel
theorem dX1_add_61 : decode cX1_add 61 = .ok (.aload_n 0, 1) := by decide +kernel
theorem dX1_add_62 : decode cX1_add 62 = .ok (.dup, 1) := by decide +kernel
theorem dX1_add_63 : decode cX1_add 63 = .ok (.getfield 34, 3) := by decide +kernel
theorem dX1_add_66 : decode cX1_add 66 = .ok (.iconst 1, 1) := by decide +kernel
theorem dX1_add_67 : decode cX1_add 67 = .ok (.iadd, 1) := by decide +kernel
theorem dX1_add_68 : decode cX1_add 68 = .ok (.putfield 34, 3) := by decide +kernel
theorem dX1_add_71 : decode cX1_add 71 = .ok (.return_, 1) := by decide +kernel
theorem dX1_setLastArea_0 : decode cX1_setLastArea 0 = .ok (.aload_n 0, 1) := by decide +kernel
theorem dX1_setLastArea_1 : decode cX1_setLastArea 1 = .ok (.getfield 34, 3) := by decide +kernel
theorem dX1_setLastArea_4 : decode cX1_setLastArea 4 = .ok (.ifCond .le 15, 3) := by decide +kernel
theorem dX1_setLastArea_7 : decode cX1_setLastArea 7 = .ok (.aload_n 0, 1) := by decide +kernel
theorem dX1_setLastArea_8 : decode cX1_setLastArea 8 = .ok (.getfield 18, 3) := by decide +kernel
theorem dX1_setLastArea_11 : decode cX1_setLastArea 11 = .ok (.aload_n 0, 1) := by decide +kernel
theorem dX1_setLastArea_12 : decode cX1_setLastArea 12 = .ok (.getfield 34, 3) := by decide +kernel
theorem dX1_setLastArea_15 : decode cX1_setLastArea 15 = .ok (.iconst 1, 1) := by decide +kernel
theorem dX1_setLastArea_16 : decode cX1_setLastArea 16 = .ok (.isub, 1) := by decide +kernel
theorem dX1_setLastArea_17 : decode cX1_setLastArea 17 = .ok (.iload_n 1, 1) := by decide +kernel
theorem dX1_setLastArea_18 : decode cX1_setLastArea 18 = .ok (.iastore, 1) := by decide +kernel
theorem dX1_setLastArea_19 : decode cX1_setLastArea 19 = .ok (.return_, 1) := by decide +kernel
theorem dX1_dropLast_0 : decode cX1_dropLast 0 = .ok (.aload_n 0, 1) := by decide +kernel
theorem dX1_dropLast_1 : decode cX1_dropLast 1 = .ok (.getfield 34, 3) := by decide +kernel
theorem dX1_dropLast_4 : decode cX1_dropLast 4 = .ok (.ifCond .le 13, 3) := by decide +kernel
theorem dX1_dropLast_7 : decode cX1_dropLast 7 = .ok (.aload_n 0, 1) := by decide +kernel
theorem dX1_dropLast_8 : decode cX1_dropLast 8 = .ok (.dup, 1) := by decide +kernel
theorem dX1_dropLast_9 : decode cX1_dropLast 9 = .ok (.getfield 34, 3) := by decide +kernel
theorem dX1_dropLast_12 : decode cX1_dropLast 12 = .ok (.iconst 1, 1) := by decide +kernel
theorem dX1_dropLast_13 : decode cX1_dropLast 13 = .ok (.isub, 1) := by decide +kernel
theorem dX1_dropLast_14 : decode cX1_dropLast 14 = .ok (.putfield 34, 3) := by decide +kernel
theorem dX1_dropLast_17 : decode cX1_dropLast 17 = .ok (.return_, 1) := by decide +kernel
theorem dX1_allAreas_0 : decode cX1_allAreas 0 = .ok (.iconst 0, 1) := by decide +kernel
theorem dX1_allAreas_1 : decode cX1_allAreas 1 = .ok (.istore_n 1, 1) := by decide +kernel
theorem dX1_allAreas_2 : decode cX1_allAreas 2 = .ok (.iconst 0, 1) := by decide +kernel
theorem dX1_allAreas_3 : decode cX1_allAreas 3 = .ok (.istore_n 2, 1) := by decide +kernel
theorem dX1_allAreas_4 : decode cX1_allAreas 4 = .ok (.iload_n 2, 1) := by decide +kernel
theorem dX1_allAreas_5 : decode cX1_allAreas 5 = .ok (.aload_n 0, 1) := by decide +kernel
theorem dX1_allAreas_6 : decode cX1_allAreas 6 = .ok (.getfield 34, 3) := by decide +kernel
theorem dX1_allAreas_9 : decode cX1_allAreas 9 = .ok (.if_icmp .ge 18, 3) := by decide +kernel
theorem dX1_allAreas_12 : decode cX1_allAreas 12 = .ok (.iload_n 1, 1) := by decide +kernel
theorem dX1_allAreas_13 : decode cX1_allAreas 13 = .ok (.aload_n 0, 1) := by decide +kernel
theorem dX1_allAreas_14 : decode cX1_allAreas 14 = .ok (.getfield 18, 3) := by decide +kernel
theorem dX1_allAreas_17 : decode cX1_allAreas 17 = .ok (.iload_n 2, 1) := by decide +kernel
theorem dX1_allAreas_18 : decode cX1_allAreas 18 = .ok (.iaload, 1) := by decide +kernel
theorem dX1_allAreas_19 : decode cX1_allAreas 19 = .ok (.iadd, 1) := by decide +kernel
theorem dX1_allAreas_20 : decode cX1_allAreas 20 = .ok (.istore_n 1, 1) := by decide +kernel
theorem dX1_allAreas_21 : decode cX1_allAreas 21 = .ok (.iinc 2 1, 3) := by decide +kernel
theorem dX1_allAreas_24 : decode cX1_allAreas 24 = .ok (.goto (-20), 3) := by decide +kernel
theorem dX1_allAreas_27 : decode cX1_allAreas 27 = .ok (.iload_n 1, 1) := by decide +kernel
theorem dX1_allAreas_28 : decode cX1_allAreas 28 = .ok (.ireturn, 1) := by decide +kernel
set_option maxRecDepth 20000 in
theorem ggX1_worksOn_J9_floorDiv_7cf53 : GoodIn wsX1_worksOn wsJ9_floorDiv_7cf53 := goodIn_r _ [9] (by decide +kernel) (by decide +kernel)
set_option maxRecDepth 20000 in
theorem gX1_worksOn_J9_floorDiv_7cf53 : GoodIn wsX1_worksOn (va_wsS RX1 42 yJ9_floorDiv_7cf53 wsJ9_floorDiv_7cf53) := goodIn_app (goodIn_of _ (by decide +kernel)) ggX1_worksOn_J9_floorDiv_7cf53
set_option maxRecDepth 20000 in
theorem ggX1_worksOn_X2_share : GoodIn wsX1_worksOn wsX2_share := goodIn_r _ [12] (by decide +kernel) (by decide +kernel)
set_option maxRecDepth 20000 in
theorem gX1_worksOn_X2_share_n56 : GoodIn wsX1_worksOn (wsX2_share) := ggX1_worksOn_X2_share
theorem dX1_worksOn_0 : decode cX1_worksOn 0 = .ok (.aload_n 0, 1) := by decide +kernel
theorem dX1_worksOn_1 : decode cX1_worksOn 1 = .ok (.getfield 25, 3) := by decide +kernel
theorem dX1_worksOn_4 : decode cX1_worksOn 4 = .ok (.iload_n 1, 1) := by decide +kernel
theorem dX1_worksOn_5 : decode cX1_worksOn 5 = .ok (.iaload, 1) := by decide +kernel
theorem dX1_worksOn_6 : decode cX1_worksOn 6 = .ok (.istore 4, 2) := by decide +kernel
theorem dX1_worksOn_8 : decode cX1_worksOn 8 = .ok (.iload_n 2, 1) := by decide +kernel
theorem dX1_worksOn_9 : decode cX1_worksOn 9 = .ok (.iload_n 3, 1) := by decide +kernel
theorem dX1_worksOn_10 : decode cX1_worksOn 10 = .ok (.aload_n 0, 1) := by decide +kernel
theorem dX1_worksOn_11 : decode cX1_worksOn 11 = .ok (.getfield 22, 3) := by decide +kernel
theorem dX1_worksOn_14 : decode cX1_worksOn 14 = .ok (.iload_n 1, 1) := by decide +kernel
theorem dX1_worksOn_15 : decode cX1_worksOn 15 = .ok (.iaload, 1) := by decide +kernel
theorem dX1_worksOn_16 : decode cX1_worksOn 16 = .ok (.imul, 1) := by decide +kernel
theorem dX1_worksOn_17 : decode cX1_worksOn 17 = .ok (.sipush 1000, 3) := by decide +kernel
theorem dX1_worksOn_20 : decode cX1_worksOn 20 = .ok (.invokestatic 42, 3) := by decide +kernel
theorem dX1_worksOn_23 : decode cX1_worksOn 23 = .ok (.iadd, 1) := by decide +kernel
theorem dX1_worksOn_24 : decode cX1_worksOn 24 = .ok (.istore 5, 2) := by decide +kernel
theorem dX1_worksOn_26 : decode cX1_worksOn 26 = .ok (.iload 5, 2) := by decide +kernel
theorem dX1_worksOn_28 : decode cX1_worksOn 28 = .ok (.aload_n 0, 1) := by decide +kernel
theorem dX1_worksOn_29 : decode cX1_worksOn 29 = .ok (.getfield 28, 3) := by decide +kernel
theorem dX1_worksOn_32 : decode cX1_worksOn 32 = .ok (.iload_n 1, 1) := by decide +kernel
theorem dX1_worksOn_33 : decode cX1_worksOn 33 = .ok (.iaload, 1) := by decide +kernel
theorem dX1_worksOn_34 : decode cX1_worksOn 34 = .ok (.isub, 1) := by decide +kernel
theorem dX1_worksOn_35 : decode cX1_worksOn 35 = .ok (.aload_n 0, 1) := by decide +kernel
theorem dX1_worksOn_36 : decode cX1_worksOn 36 = .ok (.getfield 12, 3) := by decide +kernel
theorem dX1_worksOn_39 : decode cX1_worksOn 39 = .ok (.getfield 48, 3) := by decide +kernel
theorem dX1_worksOn_42 : decode cX1_worksOn 42 = .ok (.iload 4, 2) := by decide +kernel
theorem dX1_worksOn_44 : decode cX1_worksOn 44 = .ok (.iaload, 1) := by decide +kernel
theorem dX1_worksOn_45 : decode cX1_worksOn 45 = .ok (.isub, 1) := by decide +kernel
theorem dX1_worksOn_46 : decode cX1_worksOn 46 = .ok (.i2l, 1) := by decide +kernel
theorem dX1_worksOn_47 : decode cX1_worksOn 47 = .ok (.ldc2_w 51, 3) := by decide +kernel
theorem dX1_worksOn_50 : decode cX1_worksOn 50 = .ok (.bipush 100, 2) := by decide +kernel
theorem dX1_worksOn_52 : decode cX1_worksOn 52 = .ok (.aload_n 0, 1) := by decide +kernel
theorem dX1_worksOn_53 : decode cX1_worksOn 53 = .ok (.getfield 12, 3) := by decide +kernel
theorem dX1_worksOn_56 : decode cX1_worksOn 56 = .ok (.getfield 53, 3) := by decide +kernel
theorem dX1_worksOn_59 : decode cX1_worksOn 59 = .ok (.iload 4, 2) := by decide +kernel
theorem dX1_worksOn_61 : decode cX1_worksOn 61 = .ok (.iaload, 1) := by decide +kernel
theorem dX1_worksOn_62 : decode cX1_worksOn 62 = .ok (.iadd, 1) := by decide +kernel
theorem dX1_worksOn_63 : decode cX1_worksOn 63 = .ok (.i2l, 1) := by decide +kernel
theorem dX1_worksOn_64 : decode cX1_worksOn 64 = .ok (.invokestatic 56, 3) := by decide +kernel
theorem dX1_worksOn_67 : decode cX1_worksOn 67 = .ok (.ireturn, 1) := by decide +kernel
set_option maxRecDepth 20000 in
theorem ggX1_stressOn_X1_worksOn : GoodIn wsX1_stressOn wsX1_worksOn := goodIn_r _ [9, 2, 10, 11, 1, 4, 12, 13, 14, 15, 16, 17, 18, 26, 27, 28, 29, 30, 31, 32, 33, 34, 35, 36, 37] (by decide +kernel) (by decide +kernel)
set_option maxRecDepth 20000 in
theorem gX1_stressOn_X1_worksOn : GoodIn wsX1_stressOn (wsV RX1 60 RX1 yX1_worksOn wsX1_worksOn) := goodIn_app (goodIn_of _ (by decide +kernel)) ggX1_stressOn_X1_worksOn
set_option maxRecDepth 20000 in
theorem ggX1_stressOn_X0_stressAt : GoodIn wsX1_stressOn wsX0_stressAt := goodIn_r _ [22, 23, 24, 25, 16, 17, 18, 33, 34, 35, 36, 37] (by decide +kernel) (by decide +kernel)
set_option maxRecDepth 20000 in
theorem gX1_stressOn_X0_stressAt_n64 : GoodIn wsX1_stressOn (wsX0_stressAt) := ggX1_stressOn_X0_stressAt
set_option maxRecDepth 20000 in
theorem ggX1_stressOn_X2_share : GoodIn wsX1_stressOn wsX2_share := goodIn_r _ [18] (by decide +kernel) (by decide +kernel)
set_option maxRecDepth 20000 in
theorem gX1_stressOn_X2_share_n56 : GoodIn wsX1_stressOn (wsX2_share) := ggX1_stressOn_X2_share
theorem dX1_stressOn_0 : decode cX1_stressOn 0 = .ok (.aload_n 0, 1) := by decide +kernel
theorem dX1_stressOn_1 : decode cX1_stressOn 1 = .ok (.getfield 12, 3) := by decide +kernel
theorem dX1_stressOn_4 : decode cX1_stressOn 4 = .ok (.aload_n 0, 1) := by decide +kernel
theorem dX1_stressOn_5 : decode cX1_stressOn 5 = .ok (.getfield 25, 3) := by decide +kernel
theorem dX1_stressOn_8 : decode cX1_stressOn 8 = .ok (.iload_n 1, 1) := by decide +kernel
theorem dX1_stressOn_9 : decode cX1_stressOn 9 = .ok (.iaload, 1) := by decide +kernel
theorem dX1_stressOn_10 : decode cX1_stressOn 10 = .ok (.aload_n 0, 1) := by decide +kernel
theorem dX1_stressOn_11 : decode cX1_stressOn 11 = .ok (.iload_n 1, 1) := by decide +kernel
theorem dX1_stressOn_12 : decode cX1_stressOn 12 = .ok (.iload_n 2, 1) := by decide +kernel
theorem dX1_stressOn_13 : decode cX1_stressOn 13 = .ok (.iload_n 3, 1) := by decide +kernel
theorem dX1_stressOn_14 : decode cX1_stressOn 14 = .ok (.invokevirtual 60, 3) := by decide +kernel
theorem dX1_stressOn_17 : decode cX1_stressOn 17 = .ok (.invokevirtual 64, 3) := by decide +kernel
theorem dX1_stressOn_20 : decode cX1_stressOn 20 = .ok (.i2l, 1) := by decide +kernel
theorem dX1_stressOn_21 : decode cX1_stressOn 21 = .ok (.aload_n 0, 1) := by decide +kernel
theorem dX1_stressOn_22 : decode cX1_stressOn 22 = .ok (.getfield 31, 3) := by decide +kernel
theorem dX1_stressOn_25 : decode cX1_stressOn 25 = .ok (.iload_n 1, 1) := by decide +kernel
theorem dX1_stressOn_26 : decode cX1_stressOn 26 = .ok (.iaload, 1) := by decide +kernel
theorem dX1_stressOn_27 : decode cX1_stressOn 27 = .ok (.i2l, 1) := by decide +kernel
theorem dX1_stressOn_28 : decode cX1_stressOn 28 = .ok (.ldc2_w 51, 3) := by decide +kernel
theorem dX1_stressOn_31 : decode cX1_stressOn 31 = .ok (.invokestatic 56, 3) := by decide +kernel
theorem dX1_stressOn_34 : decode cX1_stressOn 34 = .ok (.ireturn, 1) := by decide +kernel
set_option maxRecDepth 20000 in
theorem ggX1_sumOf_X1_stressOn : GoodIn wsX1_sumOf wsX1_stressOn := goodIn_r _ [8, 9, 10, 11, 12, 13, 14, 15, 7, 16, 3, 17, 18, 19, 20, 21, 22, 23, 24, 25, 26, 27, 28, 29, 30, 31, 32, 33, 34, 35, 36, 37, 38, 39, 40, 41, 42, 43] (by decide +kernel) (by decide +kernel)
set_option maxRecDepth 20000 in
theorem gX1_sumOf_X1_stressOn : GoodIn wsX1_sumOf (wsV RX1 67 RX1 yX1_stressOn wsX1_stressOn) := goodIn_app (goodIn_of _ (by decide +kernel)) ggX1_sumOf_X1_stressOn
theorem dX1_sumOf_0 : decode cX1_sumOf 0 = .ok (.lconst 0, 1) := by decide +kernel
theorem dX1_sumOf_1 : decode cX1_sumOf 1 = .ok (.lstore 4, 2) := by decide +kernel
theorem dX1_sumOf_3 : decode cX1_sumOf 3 = .ok (.iconst 0, 1) := by decide +kernel
theorem dX1_sumOf_4 : decode cX1_sumOf 4 = .ok (.istore 6, 2) := by decide +kernel
theorem dX1_sumOf_6 : decode cX1_sumOf 6 = .ok (.iload 6, 2) := by decide +kernel
theorem dX1_sumOf_8 : decode cX1_sumOf 8 = .ok (.aload_n 0, 1) := by decide +kernel
theorem dX1_sumOf_9 : decode cX1_sumOf 9 = .ok (.getfield 34, 3) := by decide +kernel
theorem dX1_sumOf_12 : decode cX1_sumOf 12 = .ok (.if_icmp .ge 55, 3) := by decide +kernel
theorem dX1_sumOf_15 : decode cX1_sumOf 15 = .ok (.aload_n 0, 1) := by decide +kernel
theorem dX1_sumOf_16 : decode cX1_sumOf 16 = .ok (.getfield 18, 3) := by decide +kernel
theorem dX1_sumOf_19 : decode cX1_sumOf 19 = .ok (.iload 6, 2) := by decide +kernel
theorem dX1_sumOf_21 : decode cX1_sumOf 21 = .ok (.iaload, 1) := by decide +kernel
theorem dX1_sumOf_22 : decode cX1_sumOf 22 = .ok (.i2l, 1) := by decide +kernel
theorem dX1_sumOf_23 : decode cX1_sumOf 23 = .ok (.aload_n 0, 1) := by decide +kernel
theorem dX1_sumOf_24 : decode cX1_sumOf 24 = .ok (.iload 6, 2) := by decide +kernel
theorem dX1_sumOf_26 : decode cX1_sumOf 26 = .ok (.iload_n 2, 1) := by decide +kernel
theorem dX1_sumOf_27 : decode cX1_sumOf 27 = .ok (.iload_n 3, 1) := by decide +kernel
theorem dX1_sumOf_28 : decode cX1_sumOf 28 = .ok (.invokevirtual 67, 3) := by decide +kernel
theorem dX1_sumOf_31 : decode cX1_sumOf 31 = .ok (.i2l, 1) := by decide +kernel
theorem dX1_sumOf_32 : decode cX1_sumOf 32 = .ok (.lmul, 1) := by decide +kernel
theorem dX1_sumOf_33 : decode cX1_sumOf 33 = .ok (.lstore 7, 2) := by decide +kernel
theorem dX1_sumOf_35 : decode cX1_sumOf 35 = .ok (.lload 4, 2) := by decide +kernel
theorem dX1_sumOf_37 : decode cX1_sumOf 37 = .ok (.iload_n 1, 1) := by decide +kernel
theorem dX1_sumOf_38 : decode cX1_sumOf 38 = .ok (.iconst 1, 1) := by decide +kernel
theorem dX1_sumOf_39 : decode cX1_sumOf 39 = .ok (.if_icmp .ne 17, 3) := by decide +kernel
theorem dX1_sumOf_42 : decode cX1_sumOf 42 = .ok (.lload 7, 2) := by decide +kernel
theorem dX1_sumOf_44 : decode cX1_sumOf 44 = .ok (.aload_n 0, 1) := by decide +kernel
theorem dX1_sumOf_45 : decode cX1_sumOf 45 = .ok (.getfield 22, 3) := by decide +kernel
theorem dX1_sumOf_48 : decode cX1_sumOf 48 = .ok (.iload 6, 2) := by decide +kernel
theorem dX1_sumOf_50 : decode cX1_sumOf 50 = .ok (.iaload, 1) := by decide +kernel
theorem dX1_sumOf_51 : decode cX1_sumOf 51 = .ok (.i2l, 1) := by decide +kernel
theorem dX1_sumOf_52 : decode cX1_sumOf 52 = .ok (.lmul, 1) := by decide +kernel
theorem dX1_sumOf_53 : decode cX1_sumOf 53 = .ok (.goto 5, 3) := by decide +kernel
theorem dX1_sumOf_56 : decode cX1_sumOf 56 = .ok (.lload 7, 2) := by decide +kernel
theorem dX1_sumOf_58 : decode cX1_sumOf 58 = .ok (.ladd, 1) := by decide +kernel
theorem dX1_sumOf_59 : decode cX1_sumOf 59 = .ok (.lstore 4, 2) := by decide +kernel
theorem dX1_sumOf_61 : decode cX1_sumOf 61 = .ok (.iinc 6 1, 3) := by decide +kernel
theorem dX1_sumOf_64 : decode cX1_sumOf 64 = .ok (.goto (-58), 3) := by decide +kernel
theorem dX1_sumOf_67 : decode cX1_sumOf 67 = .ok (.lload 4, 2) := by decide +kernel
theorem dX1_sumOf_69 : decode cX1_sumOf 69 = .ok (.lreturn, 1) := by decide +kernel
set_option maxRecDepth 20000 in
theorem ggX1_firstBeyond_X1_worksOn : GoodIn wsX1_firstBeyond wsX1_worksOn := goodIn_r _ [8, 3, 9, 10, 2, 11, 12, 13, 14, 15, 16, 17, 18, 25, 26, 27, 28, 29, 30, 31, 32, 33, 34, 35, 36] (by decide +kernel) (by decide +kernel)
set_option maxRecDepth 20000 in
theorem gX1_firstBeyond_X1_worksOn : GoodIn wsX1_firstBeyond (wsV RX1 60 RX1 yX1_worksOn wsX1_worksOn) := goodIn_app (goodIn_of _ (by decide +kernel)) ggX1_firstBeyond_X1_worksOn
set_option maxRecDepth 20000 in
theorem ggX1_firstBeyond_X0_isBeyond : GoodIn wsX1_firstBeyond wsX0_isBeyond := goodIn_r _ [22, 23, 24, 32, 33, 34, 35, 36] (by decide +kernel) (by decide +kernel)
set_option maxRecDepth 20000 in
theorem gX1_firstBeyond_X0_isBeyond_n70 : GoodIn wsX1_firstBeyond (wsX0_isBeyond) := ggX1_firstBeyond_X0_isBeyond
theorem dX1_firstBeyond_0 : decode cX1_firstBeyond 0 = .ok (.iconst 0, 1) := by decide +kernel
theorem dX1_firstBeyond_1 : decode cX1_firstBeyond 1 = .ok (.istore_n 3, 1) := by decide +kernel
theorem dX1_firstBeyond_2 : decode cX1_firstBeyond 2 = .ok (.iload_n 3, 1) := by decide +kernel
theorem dX1_firstBeyond_3 : decode cX1_firstBeyond 3 = .ok (.aload_n 0, 1) := by decide +kernel
theorem dX1_firstBeyond_4 : decode cX1_firstBeyond 4 = .ok (.getfield 34, 3) := by decide +kernel
theorem dX1_firstBeyond_7 : decode cX1_firstBeyond 7 = .ok (.if_icmp .ge 34, 3) := by decide +kernel
theorem dX1_firstBeyond_10 : decode cX1_firstBeyond 10 = .ok (.aload_n 0, 1) := by decide +kernel
theorem dX1_firstBeyond_11 : decode cX1_firstBeyond 11 = .ok (.getfield 12, 3) := by decide +kernel
theorem dX1_firstBeyond_14 : decode cX1_firstBeyond 14 = .ok (.aload_n 0, 1) := by decide +kernel
theorem dX1_firstBeyond_15 : decode cX1_firstBeyond 15 = .ok (.getfield 25, 3) := by decide +kernel
theorem dX1_firstBeyond_18 : decode cX1_firstBeyond 18 = .ok (.iload_n 3, 1) := by decide +kernel
theorem dX1_firstBeyond_19 : decode cX1_firstBeyond 19 = .ok (.iaload, 1) := by decide +kernel
theorem dX1_firstBeyond_20 : decode cX1_firstBeyond 20 = .ok (.aload_n 0, 1) := by decide +kernel
theorem dX1_firstBeyond_21 : decode cX1_firstBeyond 21 = .ok (.iload_n 3, 1) := by decide +kernel
theorem dX1_firstBeyond_22 : decode cX1_firstBeyond 22 = .ok (.iload_n 1, 1) := by decide +kernel
theorem dX1_firstBeyond_23 : decode cX1_firstBeyond 23 = .ok (.iload_n 2, 1) := by decide +kernel
theorem dX1_firstBeyond_24 : decode cX1_firstBeyond 24 = .ok (.invokevirtual 60, 3) := by decide +kernel
theorem dX1_firstBeyond_27 : decode cX1_firstBeyond 27 = .ok (.invokevirtual 70, 3) := by decide +kernel
theorem dX1_firstBeyond_30 : decode cX1_firstBeyond 30 = .ok (.ifCond .eq 5, 3) := by decide +kernel
theorem dX1_firstBeyond_33 : decode cX1_firstBeyond 33 = .ok (.iload_n 3, 1) := by decide +kernel
theorem dX1_firstBeyond_34 : decode cX1_firstBeyond 34 = .ok (.ireturn, 1) := by decide +kernel
theorem dX1_firstBeyond_35 : decode cX1_firstBeyond 35 = .ok (.iinc 3 1, 3) := by decide +kernel
theorem dX1_firstBeyond_38 : decode cX1_firstBeyond 38 = .ok (.goto (-36), 3) := by decide +kernel
theorem dX1_firstBeyond_41 : decode cX1_firstBeyond 41 = .ok (.iconst (-1), 1) := by decide +kernel
theorem dX1_firstBeyond_42 : decode cX1_firstBeyond 42 = .ok (.ireturn, 1) := by decide +kernel
set_option maxRecDepth 20000 in
theorem ggX1_balanceOf_X1_sumOf : GoodIn wsX1_balanceOf wsX1_sumOf := goodIn_r _ [6, 7, 8, 9, 10, 11, 12, 5, 13, 14, 15, 16, 17, 18, 19, 20, 21, 22, 23, 24, 25, 26, 27, 28, 29, 30, 31, 32, 33, 34, 35, 36, 37, 38, 39, 40, 41, 42, 43, 44, 45, 46, 47, 48] (by decide +kernel) (by decide +kernel)
set_option maxRecDepth 20000 in
theorem gX1_balanceOf_X1_sumOf : GoodIn wsX1_balanceOf (wsV RX1 74 RX1 yX1_sumOf wsX1_sumOf) := goodIn_app (goodIn_of _ (by decide +kernel)) ggX1_balanceOf_X1_sumOf
set_option maxRecDepth 20000 in
theorem ggX1_balanceOf_J9_floorDiv_7cf53 : GoodIn wsX1_balanceOf wsJ9_floorDiv_7cf53 := goodIn_r _ [26] (by decide +kernel) (by decide +kernel)
set_option maxRecDepth 20000 in
theorem gX1_balanceOf_J9_floorDiv_7cf53 : GoodIn wsX1_balanceOf (va_wsS RX1 42 yJ9_floorDiv_7cf53 wsJ9_floorDiv_7cf53) := goodIn_app (goodIn_of _ (by decide +kernel)) ggX1_balanceOf_J9_floorDiv_7cf53
theorem dX1_balanceOf_0 : decode cX1_balanceOf 0 = .ok (.sipush (-20000), 3) := by decide +kernel
theorem dX1_balanceOf_3 : decode cX1_balanceOf 3 = .ok (.istore 4, 2) := by decide +kernel
theorem dX1_balanceOf_5 : decode cX1_balanceOf 5 = .ok (.sipush 20000, 3) := by decide +kernel
theorem dX1_balanceOf_8 : decode cX1_balanceOf 8 = .ok (.istore 5, 2) := by decide +kernel
theorem dX1_balanceOf_10 : decode cX1_balanceOf 10 = .ok (.aload_n 0, 1) := by decide +kernel
theorem dX1_balanceOf_11 : decode cX1_balanceOf 11 = .ok (.iconst 0, 1) := by decide +kernel
theorem dX1_balanceOf_12 : decode cX1_balanceOf 12 = .ok (.iload 5, 2) := by decide +kernel
theorem dX1_balanceOf_14 : decode cX1_balanceOf 14 = .ok (.iload_n 3, 1) := by decide +kernel
theorem dX1_balanceOf_15 : decode cX1_balanceOf 15 = .ok (.invokevirtual 74, 3) := by decide +kernel
theorem dX1_balanceOf_18 : decode cX1_balanceOf 18 = .ok (.lload_n 1, 1) := by decide +kernel
theorem dX1_balanceOf_19 : decode cX1_balanceOf 19 = .ok (.lcmp, 1) := by decide +kernel
theorem dX1_balanceOf_20 : decode cX1_balanceOf 20 = .ok (.ifCond .ge 6, 3) := by decide +kernel
theorem dX1_balanceOf_23 : decode cX1_balanceOf 23 = .ok (.ldc 78, 2) := by decide +kernel
theorem dX1_balanceOf_25 : decode cX1_balanceOf 25 = .ok (.ireturn, 1) := by decide +kernel
theorem dX1_balanceOf_26 : decode cX1_balanceOf 26 = .ok (.iconst 0, 1) := by decide +kernel
theorem dX1_balanceOf_27 : decode cX1_balanceOf 27 = .ok (.istore 6, 2) := by decide +kernel
theorem dX1_balanceOf_29 : decode cX1_balanceOf 29 = .ok (.iload 6, 2) := by decide +kernel
theorem dX1_balanceOf_31 : decode cX1_balanceOf 31 = .ok (.bipush 32, 2) := by decide +kernel
theorem dX1_balanceOf_33 : decode cX1_balanceOf 33 = .ok (.if_icmp .ge 53, 3) := by decide +kernel
theorem dX1_balanceOf_36 : decode cX1_balanceOf 36 = .ok (.iload 4, 2) := by decide +kernel
theorem dX1_balanceOf_38 : decode cX1_balanceOf 38 = .ok (.iload 5, 2) := by decide +kernel
theorem dX1_balanceOf_40 : decode cX1_balanceOf 40 = .ok (.if_icmp .ge 46, 3) := by decide +kernel
theorem dX1_balanceOf_43 : decode cX1_balanceOf 43 = .ok (.iload 4, 2) := by decide +kernel
theorem dX1_balanceOf_45 : decode cX1_balanceOf 45 = .ok (.iload 5, 2) := by decide +kernel
theorem dX1_balanceOf_47 : decode cX1_balanceOf 47 = .ok (.iadd, 1) := by decide +kernel
theorem dX1_balanceOf_48 : decode cX1_balanceOf 48 = .ok (.iconst 2, 1) := by decide +kernel
theorem dX1_balanceOf_49 : decode cX1_balanceOf 49 = .ok (.invokestatic 42, 3) := by decide +kernel
theorem dX1_balanceOf_52 : decode cX1_balanceOf 52 = .ok (.istore 7, 2) := by decide +kernel
theorem dX1_balanceOf_54 : decode cX1_balanceOf 54 = .ok (.aload_n 0, 1) := by decide +kernel
theorem dX1_balanceOf_55 : decode cX1_balanceOf 55 = .ok (.iconst 0, 1) := by decide +kernel
theorem dX1_balanceOf_56 : decode cX1_balanceOf 56 = .ok (.iload 7, 2) := by decide +kernel
theorem dX1_balanceOf_58 : decode cX1_balanceOf 58 = .ok (.iload_n 3, 1) := by decide +kernel
theorem dX1_balanceOf_59 : decode cX1_balanceOf 59 = .ok (.invokevirtual 74, 3) := by decide +kernel
theorem dX1_balanceOf_62 : decode cX1_balanceOf 62 = .ok (.lload_n 1, 1) := by decide +kernel
theorem dX1_balanceOf_63 : decode cX1_balanceOf 63 = .ok (.lcmp, 1) := by decide +kernel
theorem dX1_balanceOf_64 : decode cX1_balanceOf 64 = .ok (.ifCond .lt 10, 3) := by decide +kernel
theorem dX1_balanceOf_67 : decode cX1_balanceOf 67 = .ok (.iload 7, 2) := by decide +kernel
theorem dX1_balanceOf_69 : decode cX1_balanceOf 69 = .ok (.istore 5, 2) := by decide +kernel
theorem dX1_balanceOf_71 : decode cX1_balanceOf 71 = .ok (.goto 9, 3) := by decide +kernel
theorem dX1_balanceOf_74 : decode cX1_balanceOf 74 = .ok (.iload 7, 2) := by decide +kernel
theorem dX1_balanceOf_76 : decode cX1_balanceOf 76 = .ok (.iconst 1, 1) := by decide +kernel
theorem dX1_balanceOf_77 : decode cX1_balanceOf 77 = .ok (.iadd, 1) := by decide +kernel
theorem dX1_balanceOf_78 : decode cX1_balanceOf 78 = .ok (.istore 4, 2) := by decide +kernel
theorem dX1_balanceOf_80 : decode cX1_balanceOf 80 = .ok (.iinc 6 1, 3) := by decide +kernel
theorem dX1_balanceOf_83 : decode cX1_balanceOf 83 = .ok (.goto (-54), 3) := by decide +kernel
theorem dX1_balanceOf_86 : decode cX1_balanceOf 86 = .ok (.iload 4, 2) := by decide +kernel
theorem dX1_balanceOf_88 : decode cX1_balanceOf 88 = .ok (.ireturn, 1) := by decide +kernel
set_option maxRecDepth 20000 in
theorem ggX1_bendFor_J9_floorDiv_7cf53 : GoodIn wsX1_bendFor wsJ9_floorDiv_7cf53 := goodIn_r _ [7] (by decide +kernel) (by decide +kernel)
set_option maxRecDepth 20000 in
theorem gX1_bendFor_J9_floorDiv_7cf53 : GoodIn wsX1_bendFor (va_wsS RX1 42 yJ9_floorDiv_7cf53 wsJ9_floorDiv_7cf53) := goodIn_app (goodIn_of _ (by decide +kernel)) ggX1_bendFor_J9_floorDiv_7cf53
set_option maxRecDepth 20000 in
theorem ggX1_bendFor_X1_balanceOf : GoodIn wsX1_bendFor wsX1_balanceOf := goodIn_r _ [12, 1, 13, 14, 15, 11, 16, 17, 18, 19, 20, 21, 22, 23, 24, 25, 26, 27, 28, 29, 30, 31, 32, 4, 5, 6, 7, 33, 34, 35, 36, 37, 38, 39, 40, 41, 42, 43, 44, 45, 46, 47, 48, 49, 50, 51, 52, 53, 54] (by decide +kernel) (by decide +kernel)
set_option maxRecDepth 20000 in
theorem gX1_bendFor_X1_balanceOf : GoodIn wsX1_bendFor (wsV RX1 79 RX1 yX1_balanceOf wsX1_balanceOf) := goodIn_app (goodIn_of _ (by decide +kernel)) ggX1_bendFor_X1_balanceOf
set_option maxRecDepth 20000 in
theorem ggX1_bendFor_X1_sumOf : GoodIn wsX1_bendFor wsX1_sumOf := goodIn_r _ [16, 17, 18, 19, 20, 21, 22, 11, 23, 24, 25, 26, 27, 28, 29, 30, 31, 32, 4, 5, 6, 7, 33, 34, 35, 36, 37, 38, 39, 40, 41, 42, 43, 44, 45, 46, 47, 48, 49, 50, 51, 52, 53, 54] (by decide +kernel) (by decide +kernel)
set_option maxRecDepth 20000 in
theorem gX1_bendFor_X1_sumOf : GoodIn wsX1_bendFor (wsV RX1 74 RX1 yX1_sumOf wsX1_sumOf) := goodIn_app (goodIn_of _ (by decide +kernel)) ggX1_bendFor_X1_sumOf
theorem dX1_bendFor_0 : decode cX1_bendFor 0 = .ok (.sipush (-20000), 3) := by decide +kernel
theorem dX1_bendFor_3 : decode cX1_bendFor 3 = .ok (.istore 5, 2) := by decide +kernel
theorem dX1_bendFor_5 : decode cX1_bendFor 5 = .ok (.sipush 20000, 3) := by decide +kernel
theorem dX1_bendFor_8 : decode cX1_bendFor 8 = .ok (.istore 6, 2) := by decide +kernel
theorem dX1_bendFor_10 : decode cX1_bendFor 10 = .ok (.iconst 0, 1) := by decide +kernel
theorem dX1_bendFor_11 : decode cX1_bendFor 11 = .ok (.istore 7, 2) := by decide +kernel
theorem dX1_bendFor_13 : decode cX1_bendFor 13 = .ok (.iload 7, 2) := by decide +kernel
theorem dX1_bendFor_15 : decode cX1_bendFor 15 = .ok (.bipush 32, 2) := by decide +kernel
theorem dX1_bendFor_17 : decode cX1_bendFor 17 = .ok (.if_icmp .ge 73, 3) := by decide +kernel
theorem dX1_bendFor_20 : decode cX1_bendFor 20 = .ok (.iload 5, 2) := by decide +kernel
theorem dX1_bendFor_22 : decode cX1_bendFor 22 = .ok (.iload 6, 2) := by decide +kernel
theorem dX1_bendFor_24 : decode cX1_bendFor 24 = .ok (.if_icmp .ge 66, 3) := by decide +kernel
theorem dX1_bendFor_27 : decode cX1_bendFor 27 = .ok (.iload 5, 2) := by decide +kernel
theorem dX1_bendFor_29 : decode cX1_bendFor 29 = .ok (.iload 6, 2) := by decide +kernel
theorem dX1_bendFor_31 : decode cX1_bendFor 31 = .ok (.iadd, 1) := by decide +kernel
theorem dX1_bendFor_32 : decode cX1_bendFor 32 = .ok (.iconst 2, 1) := by decide +kernel
theorem dX1_bendFor_33 : decode cX1_bendFor 33 = .ok (.invokestatic 42, 3) := by decide +kernel
theorem dX1_bendFor_36 : decode cX1_bendFor 36 = .ok (.istore 8, 2) := by decide +kernel
theorem dX1_bendFor_38 : decode cX1_bendFor 38 = .ok (.aload_n 0, 1) := by decide +kernel
theorem dX1_bendFor_39 : decode cX1_bendFor 39 = .ok (.lload_n 1, 1) := by decide +kernel
theorem dX1_bendFor_40 : decode cX1_bendFor 40 = .ok (.iload 8, 2) := by decide +kernel
theorem dX1_bendFor_42 : decode cX1_bendFor 42 = .ok (.invokevirtual 79, 3) := by decide +kernel
theorem dX1_bendFor_45 : decode cX1_bendFor 45 = .ok (.istore 9, 2) := by decide +kernel
theorem dX1_bendFor_47 : decode cX1_bendFor 47 = .ok (.iload 9, 2) := by decide +kernel
theorem dX1_bendFor_49 : decode cX1_bendFor 49 = .ok (.ldc 78, 2) := by decide +kernel
theorem dX1_bendFor_51 : decode cX1_bendFor 51 = .ok (.if_icmp .ne 6, 3) := by decide +kernel
theorem dX1_bendFor_54 : decode cX1_bendFor 54 = .ok (.ldc 83, 2) := by decide +kernel
theorem dX1_bendFor_56 : decode cX1_bendFor 56 = .ok (.ireturn, 1) := by decide +kernel
theorem dX1_bendFor_57 : decode cX1_bendFor 57 = .ok (.aload_n 0, 1) := by decide +kernel
theorem dX1_bendFor_58 : decode cX1_bendFor 58 = .ok (.iconst 1, 1) := by decide +kernel
theorem dX1_bendFor_59 : decode cX1_bendFor 59 = .ok (.iload 9, 2) := by decide +kernel
theorem dX1_bendFor_61 : decode cX1_bendFor 61 = .ok (.iload 8, 2) := by decide +kernel
theorem dX1_bendFor_63 : decode cX1_bendFor 63 = .ok (.invokevirtual 74, 3) := by decide +kernel
theorem dX1_bendFor_66 : decode cX1_bendFor 66 = .ok (.lload_n 3, 1) := by decide +kernel
theorem dX1_bendFor_67 : decode cX1_bendFor 67 = .ok (.lcmp, 1) := by decide +kernel
theorem dX1_bendFor_68 : decode cX1_bendFor 68 = .ok (.ifCond .lt 10, 3) := by decide +kernel
theorem dX1_bendFor_71 : decode cX1_bendFor 71 = .ok (.iload 8, 2) := by decide +kernel
theorem dX1_bendFor_73 : decode cX1_bendFor 73 = .ok (.istore 6, 2) := by decide +kernel
theorem dX1_bendFor_75 : decode cX1_bendFor 75 = .ok (.goto 9, 3) := by decide +kernel
theorem dX1_bendFor_78 : decode cX1_bendFor 78 = .ok (.iload 8, 2) := by decide +kernel
theorem dX1_bendFor_80 : decode cX1_bendFor 80 = .ok (.iconst 1, 1) := by decide +kernel
theorem dX1_bendFor_81 : decode cX1_bendFor 81 = .ok (.iadd, 1) := by decide +kernel
theorem dX1_bendFor_82 : decode cX1_bendFor 82 = .ok (.istore 5, 2) := by decide +kernel
theorem dX1_bendFor_84 : decode cX1_bendFor 84 = .ok (.iinc 7 1, 3) := by decide +kernel
theorem dX1_bendFor_87 : decode cX1_bendFor 87 = .ok (.goto (-74), 3) := by decide +kernel
theorem dX1_bendFor_90 : decode cX1_bendFor 90 = .ok (.aload_n 0, 1) := by decide +kernel
theorem dX1_bendFor_91 : decode cX1_bendFor 91 = .ok (.lload_n 1, 1) := by decide +kernel
theorem dX1_bendFor_92 : decode cX1_bendFor 92 = .ok (.iload 5, 2) := by decide +kernel
theorem dX1_bendFor_94 : decode cX1_bendFor 94 = .ok (.invokevirtual 79, 3) := by decide +kernel
theorem dX1_bendFor_97 : decode cX1_bendFor 97 = .ok (.istore 7, 2) := by decide +kernel
theorem dX1_bendFor_99 : decode cX1_bendFor 99 = .ok (.iload 7, 2) := by decide +kernel
theorem dX1_bendFor_101 : decode cX1_bendFor 101 = .ok (.ldc 78, 2) := by decide +kernel
theorem dX1_bendFor_103 : decode cX1_bendFor 103 = .ok (.if_icmp .ne 6, 3) := by decide +kernel
theorem dX1_bendFor_106 : decode cX1_bendFor 106 = .ok (.ldc 83, 2) := by decide +kernel
theorem dX1_bendFor_108 : decode cX1_bendFor 108 = .ok (.ireturn, 1) := by decide +kernel
theorem dX1_bendFor_109 : decode cX1_bendFor 109 = .ok (.aload_n 0, 1) := by decide +kernel
theorem dX1_bendFor_110 : decode cX1_bendFor 110 = .ok (.iconst 1, 1) := by decide +kernel
theorem dX1_bendFor_111 : decode cX1_bendFor 111 = .ok (.iload 7, 2) := by decide +kernel
theorem dX1_bendFor_113 : decode cX1_bendFor 113 = .ok (.iload 5, 2) := by decide +kernel
theorem dX1_bendFor_115 : decode cX1_bendFor 115 = .ok (.invokevirtual 74, 3) := by decide +kernel
theorem dX1_bendFor_118 : decode cX1_bendFor 118 = .ok (.lload_n 3, 1) := by decide +kernel
theorem dX1_bendFor_119 : decode cX1_bendFor 119 = .ok (.lcmp, 1) := by decide +kernel
theorem dX1_bendFor_120 : decode cX1_bendFor 120 = .ok (.ifCond .ge 8, 3) := by decide +kernel
theorem dX1_bendFor_123 : decode cX1_bendFor 123 = .ok (.ldc 84, 2) := by decide +kernel
theorem dX1_bendFor_125 : decode cX1_bendFor 125 = .ok (.goto 5, 3) := by decide +kernel
theorem dX1_bendFor_128 : decode cX1_bendFor 128 = .ok (.iload 5, 2) := by decide +kernel
theorem dX1_bendFor_130 : decode cX1_bendFor 130 = .ok (.ireturn, 1) := by decide +kernel
set_option maxRecDepth 20000 in
theorem ggX2_init_X1_init : GoodIn wsX2_init wsX1_init := goodIn_r _ [9, 10, 2, 3, 11, 12, 13, 14, 15, 16, 17, 18, 19, 20, 21, 22, 23, 24, 25, 26, 27, 28, 42, 43, 44, 45, 46, 29, 30, 31, 32, 33, 34, 35] (by decide +kernel) (by decide +kernel)
set_option maxRecDepth 20000 in
theorem gX2_init_X1_init_n9 : GoodIn wsX2_init (wsX1_init) := ggX2_init_X1_init
theorem dX2_init_0 : decode cX2_init 0 = .ok (.aload_n 0, 1) := by decide +kernel
theorem dX2_init_1 : decode cX2_init 1 = .ok (.invokespecial 1, 3) := by decide +kernel
theorem dX2_init_4 : decode cX2_init 4 = .ok (.aload_n 0, 1) := by decide +kernel
theorem dX2_init_5 : decode cX2_init 5 = .ok (.new 7, 3) := by decide +kernel
theorem dX2_init_8 : decode cX2_init 8 = .ok (.dup, 1) := by decide +kernel
theorem dX2_init_9 : decode cX2_init 9 = .ok (.invokespecial 9, 3) := by decide +kernel
theorem dX2_init_12 : decode cX2_init 12 = .ok (.putfield 10, 3) := by decide +kernel
theorem dX2_init_15 : decode cX2_init 15 = .ok (.return_, 1) := by decide +kernel
set_option maxRecDepth 20000 in
theorem ggX2_fibre_X2_within : GoodIn wsX2_fibre wsX2_within := goodIn_r _ [7] (by decide +kernel) (by decide +kernel)
set_option maxRecDepth 20000 in
theorem gX2_fibre_X2_within : GoodIn wsX2_fibre (va_wsS RX2 17 yX2_within wsX2_within) := goodIn_app (goodIn_of _ (by decide +kernel)) ggX2_fibre_X2_within
set_option maxRecDepth 20000 in
theorem ggX2_fibre_X2_isPlace : GoodIn wsX2_fibre wsX2_isPlace := goodIn_r _ [10, 4, 5, 6, 7] (by decide +kernel) (by decide +kernel)
set_option maxRecDepth 20000 in
theorem gX2_fibre_X2_isPlace : GoodIn wsX2_fibre (va_wsS RX2 21 yX2_isPlace wsX2_isPlace) := goodIn_app (goodIn_of _ (by decide +kernel)) ggX2_fibre_X2_isPlace
set_option maxRecDepth 20000 in
theorem ggX2_fibre_X2_isKind : GoodIn wsX2_fibre wsX2_isKind := goodIn_r _ [13, 4, 5, 6, 7] (by decide +kernel) (by decide +kernel)
set_option maxRecDepth 20000 in
theorem gX2_fibre_X2_isKind : GoodIn wsX2_fibre (va_wsS RX2 25 yX2_isKind wsX2_isKind) := goodIn_app (goodIn_of _ (by decide +kernel)) ggX2_fibre_X2_isKind
set_option maxRecDepth 20000 in
theorem ggX2_fibre_X1_add : GoodIn wsX2_fibre wsX1_add := goodIn_r _ [17, 18, 19, 20, 21, 22, 23, 30, 31, 32, 33, 34, 35, 36] (by decide +kernel) (by decide +kernel)
set_option maxRecDepth 20000 in
theorem gX2_fibre_X1_add_n32 : GoodIn wsX2_fibre (wsX1_add) := ggX2_fibre_X1_add
theorem dX2_fibre_0 : decode cX2_fibre 0 = .ok (.iload_n 1, 1) := by decide +kernel
theorem dX2_fibre_1 : decode cX2_fibre 1 = .ok (.iconst 0, 1) := by decide +kernel
theorem dX2_fibre_2 : decode cX2_fibre 2 = .ok (.ldc 16, 2) := by decide +kernel
theorem dX2_fibre_4 : decode cX2_fibre 4 = .ok (.invokestatic 17, 3) := by decide +kernel
theorem dX2_fibre_7 : decode cX2_fibre 7 = .ok (.ifCond .eq 17, 3) := by decide +kernel
theorem dX2_fibre_10 : decode cX2_fibre 10 = .ok (.iload_n 2, 1) := by decide +kernel
theorem dX2_fibre_11 : decode cX2_fibre 11 = .ok (.invokestatic 21, 3) := by decide +kernel
theorem dX2_fibre_14 : decode cX2_fibre 14 = .ok (.ifCond .eq 10, 3) := by decide +kernel
theorem dX2_fibre_17 : decode cX2_fibre 17 = .ok (.iload_n 3, 1) := by decide +kernel
theorem dX2_fibre_18 : decode cX2_fibre 18 = .ok (.invokestatic 25, 3) := by decide +kernel
theorem dX2_fibre_21 : decode cX2_fibre 21 = .ok (.ifCond .ne 5, 3) := by decide +kernel
theorem dX2_fibre_24 : decode cX2_fibre 24 = .ok (.iconst (-1), 1) := by decide +kernel
theorem dX2_fibre_25 : decode cX2_fibre 25 = .ok (.ireturn, 1) := by decide +kernel
theorem dX2_fibre_26 : decode cX2_fibre 26 = .ok (.aload_n 0, 1) := by decide +kernel
theorem dX2_fibre_27 : decode cX2_fibre 27 = .ok (.getfield 10, 3) := by decide +kernel
theorem dX2_fibre_30 : decode cX2_fibre 30 = .ok (.getfield 28, 3) := by decide +kernel
theorem dX2_fibre_33 : decode cX2_fibre 33 = .ok (.bipush 40, 2) := by decide +kernel
theorem dX2_fibre_35 : decode cX2_fibre 35 = .ok (.if_icmp .lt 5, 3) := by decide +kernel
theorem dX2_fibre_38 : decode cX2_fibre 38 = .ok (.iconst (-1), 1) := by decide +kernel
theorem dX2_fibre_39 : decode cX2_fibre 39 = .ok (.ireturn, 1) := by decide +kernel
theorem dX2_fibre_40 : decode cX2_fibre 40 = .ok (.aload_n 0, 1) := by decide +kernel
theorem dX2_fibre_41 : decode cX2_fibre 41 = .ok (.getfield 10, 3) := by decide +kernel
theorem dX2_fibre_44 : decode cX2_fibre 44 = .ok (.iload_n 1, 1) := by decide +kernel
theorem dX2_fibre_45 : decode cX2_fibre 45 = .ok (.iload_n 2, 1) := by decide +kernel
theorem dX2_fibre_46 : decode cX2_fibre 46 = .ok (.iload_n 3, 1) := by decide +kernel
theorem dX2_fibre_47 : decode cX2_fibre 47 = .ok (.invokevirtual 32, 3) := by decide +kernel
theorem dX2_fibre_50 : decode cX2_fibre 50 = .ok (.aload_n 0, 1) := by decide +kernel
theorem dX2_fibre_51 : decode cX2_fibre 51 = .ok (.iconst 0, 1) := by decide +kernel
theorem dX2_fibre_52 : decode cX2_fibre 52 = .ok (.putfield 36, 3) := by decide +kernel
theorem dX2_fibre_55 : decode cX2_fibre 55 = .ok (.aload_n 0, 1) := by decide +kernel
theorem dX2_fibre_56 : decode cX2_fibre 56 = .ok (.getfield 10, 3) := by decide +kernel
theorem dX2_fibre_59 : decode cX2_fibre 59 = .ok (.getfield 28, 3) := by decide +kernel
theorem dX2_fibre_62 : decode cX2_fibre 62 = .ok (.iconst 1, 1) := by decide +kernel
theorem dX2_fibre_63 : decode cX2_fibre 63 = .ok (.isub, 1) := by decide +kernel
theorem dX2_fibre_64 : decode cX2_fibre 64 = .ok (.ireturn, 1) := by decide +kernel
set_option maxRecDepth 20000 in
theorem ggX2_point_X2_isKind : GoodIn wsX2_point wsX2_isKind := goodIn_r _ [8, 9, 10, 7, 11] (by decide +kernel) (by decide +kernel)
set_option maxRecDepth 20000 in
theorem gX2_point_X2_isKind : GoodIn wsX2_point (va_wsS RX2 25 yX2_isKind wsX2_isKind) := goodIn_app (goodIn_of _ (by decide +kernel)) ggX2_point_X2_isKind
set_option maxRecDepth 20000 in
theorem ggX2_point_X2_isToldStrain : GoodIn wsX2_point wsX2_isToldStrain := goodIn_r _ [14, 9, 10, 7, 11] (by decide +kernel) (by decide +kernel)
set_option maxRecDepth 20000 in
theorem gX2_point_X2_isToldStrain : GoodIn wsX2_point (va_wsS RX2 40 yX2_isToldStrain wsX2_isToldStrain) := goodIn_app (goodIn_of _ (by decide +kernel)) ggX2_point_X2_isToldStrain
set_option maxRecDepth 20000 in
theorem ggX2_point_X2_within : GoodIn wsX2_point wsX2_within := goodIn_r _ [11] (by decide +kernel) (by decide +kernel)
set_option maxRecDepth 20000 in
theorem gX2_point_X2_within : GoodIn wsX2_point (va_wsS RX2 17 yX2_within wsX2_within) := goodIn_app (goodIn_of _ (by decide +kernel)) ggX2_point_X2_within
set_option maxRecDepth 20000 in
theorem ggX2_point_X0_addPoint : GoodIn wsX2_point wsX0_addPoint := goodIn_r _ [18, 19, 20, 21, 35, 36, 37, 38, 39] (by decide +kernel) (by decide +kernel)
set_option maxRecDepth 20000 in
theorem gX2_point_X0_addPoint_n49 : GoodIn wsX2_point (wsX0_addPoint) := ggX2_point_X0_addPoint
theorem dX2_point_0 : decode cX2_point 0 = .ok (.iload_n 1, 1) := by decide +kernel
theorem dX2_point_1 : decode cX2_point 1 = .ok (.invokestatic 25, 3) := by decide +kernel
theorem dX2_point_4 : decode cX2_point 4 = .ok (.ifCond .eq 21, 3) := by decide +kernel
theorem dX2_point_7 : decode cX2_point 7 = .ok (.iload_n 2, 1) := by decide +kernel
theorem dX2_point_8 : decode cX2_point 8 = .ok (.invokestatic 40, 3) := by decide +kernel
theorem dX2_point_11 : decode cX2_point 11 = .ok (.ifCond .eq 14, 3) := by decide +kernel
theorem dX2_point_14 : decode cX2_point 14 = .ok (.iload_n 3, 1) := by decide +kernel
theorem dX2_point_15 : decode cX2_point 15 = .ok (.ldc 43, 2) := by decide +kernel
theorem dX2_point_17 : decode cX2_point 17 = .ok (.ldc 44, 2) := by decide +kernel
theorem dX2_point_19 : decode cX2_point 19 = .ok (.invokestatic 17, 3) := by decide +kernel
theorem dX2_point_22 : decode cX2_point 22 = .ok (.ifCond .ne 5, 3) := by decide +kernel
theorem dX2_point_25 : decode cX2_point 25 = .ok (.iconst 0, 1) := by decide +kernel
theorem dX2_point_26 : decode cX2_point 26 = .ok (.ireturn, 1) := by decide +kernel
theorem dX2_point_27 : decode cX2_point 27 = .ok (.aload_n 0, 1) := by decide +kernel
theorem dX2_point_28 : decode cX2_point 28 = .ok (.getfield 10, 3) := by decide +kernel
theorem dX2_point_31 : decode cX2_point 31 = .ok (.getfield 45, 3) := by decide +kernel
theorem dX2_point_34 : decode cX2_point 34 = .ok (.iload_n 1, 1) := by decide +kernel
theorem dX2_point_35 : decode cX2_point 35 = .ok (.iload_n 2, 1) := by decide +kernel
theorem dX2_point_36 : decode cX2_point 36 = .ok (.iload_n 3, 1) := by decide +kernel
theorem dX2_point_37 : decode cX2_point 37 = .ok (.invokevirtual 49, 3) := by decide +kernel
theorem dX2_point_40 : decode cX2_point 40 = .ok (.ifCond .ne 5, 3) := by decide +kernel
theorem dX2_point_43 : decode cX2_point 43 = .ok (.iconst 0, 1) := by decide +kernel
theorem dX2_point_44 : decode cX2_point 44 = .ok (.ireturn, 1) := by decide +kernel
theorem dX2_point_45 : decode cX2_point 45 = .ok (.aload_n 0, 1) := by decide +kernel
theorem dX2_point_46 : decode cX2_point 46 = .ok (.iconst 0, 1) := by decide +kernel
theorem dX2_point_47 : decode cX2_point 47 = .ok (.putfield 36, 3) := by decide +kernel
theorem dX2_point_50 : decode cX2_point 50 = .ok (.iconst 1, 1) := by decide +kernel
theorem dX2_point_51 : decode cX2_point 51 = .ok (.ireturn, 1) := by decide +kernel
set_option maxRecDepth 20000 in
theorem ggX2_born_X1_has : GoodIn wsX2_born wsX1_has := goodIn_r _ [6, 7, 8, 9, 10, 21, 22, 23, 24, 25, 26, 27] (by decide +kernel) (by decide +kernel)
set_option maxRecDepth 20000 in
theorem gX2_born_X1_has_n54 : GoodIn wsX2_born (wsX1_has) := ggX2_born_X1_has
set_option maxRecDepth 20000 in
theorem ggX2_born_X2_isToldStrain : GoodIn wsX2_born wsX2_isToldStrain := goodIn_r _ [13, 14, 8, 9, 10] (by decide +kernel) (by decide +kernel)
set_option maxRecDepth 20000 in
theorem gX2_born_X2_isToldStrain : GoodIn wsX2_born (va_wsS RX2 40 yX2_isToldStrain wsX2_isToldStrain) := goodIn_app (goodIn_of _ (by decide +kernel)) ggX2_born_X2_isToldStrain
theorem dX2_born_0 : decode cX2_born 0 = .ok (.aload_n 0, 1) := by decide +kernel
theorem dX2_born_1 : decode cX2_born 1 = .ok (.getfield 10, 3) := by decide +kernel
theorem dX2_born_4 : decode cX2_born 4 = .ok (.iload_n 1, 1) := by decide +kernel
theorem dX2_born_5 : decode cX2_born 5 = .ok (.invokevirtual 54, 3) := by decide +kernel
theorem dX2_born_8 : decode cX2_born 8 = .ok (.ifCond .eq 10, 3) := by decide +kernel
theorem dX2_born_11 : decode cX2_born 11 = .ok (.iload_n 2, 1) := by decide +kernel
theorem dX2_born_12 : decode cX2_born 12 = .ok (.invokestatic 40, 3) := by decide +kernel
theorem dX2_born_15 : decode cX2_born 15 = .ok (.ifCond .ne 5, 3) := by decide +kernel
theorem dX2_born_18 : decode cX2_born 18 = .ok (.iconst 0, 1) := by decide +kernel
theorem dX2_born_19 : decode cX2_born 19 = .ok (.ireturn, 1) := by decide +kernel
theorem dX2_born_20 : decode cX2_born 20 = .ok (.aload_n 0, 1) := by decide +kernel
theorem dX2_born_21 : decode cX2_born 21 = .ok (.getfield 10, 3) := by decide +kernel
theorem dX2_born_24 : decode cX2_born 24 = .ok (.getfield 57, 3) := by decide +kernel
theorem dX2_born_27 : decode cX2_born 27 = .ok (.iload_n 1, 1) := by decide +kernel
theorem dX2_born_28 : decode cX2_born 28 = .ok (.iload_n 2, 1) := by decide +kernel
theorem dX2_born_29 : decode cX2_born 29 = .ok (.iastore, 1) := by decide +kernel
theorem dX2_born_30 : decode cX2_born 30 = .ok (.aload_n 0, 1) := by decide +kernel
theorem dX2_born_31 : decode cX2_born 31 = .ok (.iconst 0, 1) := by decide +kernel
theorem dX2_born_32 : decode cX2_born 32 = .ok (.putfield 36, 3) := by decide +kernel
theorem dX2_born_35 : decode cX2_born 35 = .ok (.iconst 1, 1) := by decide +kernel
theorem dX2_born_36 : decode cX2_born 36 = .ok (.ireturn, 1) := by decide +kernel
set_option maxRecDepth 20000 in
theorem ggX2_creeps_X2_isKind : GoodIn wsX2_creeps wsX2_isKind := goodIn_r _ [6, 7, 8, 5, 9] (by decide +kernel) (by decide +kernel)
set_option maxRecDepth 20000 in
theorem gX2_creeps_X2_isKind : GoodIn wsX2_creeps (va_wsS RX2 25 yX2_isKind wsX2_isKind) := goodIn_app (goodIn_of _ (by decide +kernel)) ggX2_creeps_X2_isKind
set_option maxRecDepth 20000 in
theorem ggX2_creeps_X2_within : GoodIn wsX2_creeps wsX2_within := goodIn_r _ [9] (by decide +kernel) (by decide +kernel)
set_option maxRecDepth 20000 in
theorem gX2_creeps_X2_within : GoodIn wsX2_creeps (va_wsS RX2 17 yX2_within wsX2_within) := goodIn_app (goodIn_of _ (by decide +kernel)) ggX2_creeps_X2_within
theorem dX2_creeps_0 : decode cX2_creeps 0 = .ok (.iload_n 1, 1) := by decide +kernel
theorem dX2_creeps_1 : decode cX2_creeps 1 = .ok (.invokestatic 25, 3) := by decide +kernel
theorem dX2_creeps_4 : decode cX2_creeps 4 = .ok (.ifCond .eq 14, 3) := by decide +kernel
theorem dX2_creeps_7 : decode cX2_creeps 7 = .ok (.iload_n 2, 1) := by decide +kernel
theorem dX2_creeps_8 : decode cX2_creeps 8 = .ok (.iconst 0, 1) := by decide +kernel
theorem dX2_creeps_9 : decode cX2_creeps 9 = .ok (.sipush 500, 3) := by decide +kernel
theorem dX2_creeps_12 : decode cX2_creeps 12 = .ok (.invokestatic 17, 3) := by decide +kernel
theorem dX2_creeps_15 : decode cX2_creeps 15 = .ok (.ifCond .ne 5, 3) := by decide +kernel
theorem dX2_creeps_18 : decode cX2_creeps 18 = .ok (.iconst 0, 1) := by decide +kernel
theorem dX2_creeps_19 : decode cX2_creeps 19 = .ok (.ireturn, 1) := by decide +kernel
theorem dX2_creeps_20 : decode cX2_creeps 20 = .ok (.aload_n 0, 1) := by decide +kernel
theorem dX2_creeps_21 : decode cX2_creeps 21 = .ok (.getfield 10, 3) := by decide +kernel
theorem dX2_creeps_24 : decode cX2_creeps 24 = .ok (.getfield 45, 3) := by decide +kernel
theorem dX2_creeps_27 : decode cX2_creeps 27 = .ok (.getfield 61, 3) := by decide +kernel
theorem dX2_creeps_30 : decode cX2_creeps 30 = .ok (.iload_n 1, 1) := by decide +kernel
theorem dX2_creeps_31 : decode cX2_creeps 31 = .ok (.iload_n 2, 1) := by decide +kernel
theorem dX2_creeps_32 : decode cX2_creeps 32 = .ok (.iastore, 1) := by decide +kernel
theorem dX2_creeps_33 : decode cX2_creeps 33 = .ok (.aload_n 0, 1) := by decide +kernel
theorem dX2_creeps_34 : decode cX2_creeps 34 = .ok (.iconst 0, 1) := by decide +kernel
theorem dX2_creeps_35 : decode cX2_creeps 35 = .ok (.putfield 36, 3) := by decide +kernel
theorem dX2_creeps_38 : decode cX2_creeps 38 = .ok (.iconst 1, 1) := by decide +kernel
theorem dX2_creeps_39 : decode cX2_creeps 39 = .ok (.ireturn, 1) := by decide +kernel
set_option maxRecDepth 20000 in
theorem ggX2_shrinks_X2_isKind : GoodIn wsX2_shrinks wsX2_isKind := goodIn_r _ [6, 7, 8, 5, 9] (by decide +kernel) (by decide +kernel)
set_option maxRecDepth 20000 in
theorem gX2_shrinks_X2_isKind : GoodIn wsX2_shrinks (va_wsS RX2 25 yX2_isKind wsX2_isKind) := goodIn_app (goodIn_of _ (by decide +kernel)) ggX2_shrinks_X2_isKind
set_option maxRecDepth 20000 in
theorem ggX2_shrinks_X2_within : GoodIn wsX2_shrinks wsX2_within := goodIn_r _ [9] (by decide +kernel) (by decide +kernel)
set_option maxRecDepth 20000 in
theorem gX2_shrinks_X2_within : GoodIn wsX2_shrinks (va_wsS RX2 17 yX2_within wsX2_within) := goodIn_app (goodIn_of _ (by decide +kernel)) ggX2_shrinks_X2_within
theorem dX2_shrinks_0 : decode cX2_shrinks 0 = .ok (.iload_n 1, 1) := by decide +kernel
theorem dX2_shrinks_1 : decode cX2_shrinks 1 = .ok (.invokestatic 25, 3) := by decide +kernel
theorem dX2_shrinks_4 : decode cX2_shrinks 4 = .ok (.ifCond .eq 16, 3) := by decide +kernel
theorem dX2_shrinks_7 : decode cX2_shrinks 7 = .ok (.iload_n 2, 1) := by decide +kernel
theorem dX2_shrinks_8 : decode cX2_shrinks 8 = .ok (.sipush (-5000), 3) := by decide +kernel
theorem dX2_shrinks_11 : decode cX2_shrinks 11 = .ok (.sipush 5000, 3) := by decide +kernel
theorem dX2_shrinks_14 : decode cX2_shrinks 14 = .ok (.invokestatic 17, 3) := by decide +kernel
theorem dX2_shrinks_17 : decode cX2_shrinks 17 = .ok (.ifCond .ne 5, 3) := by decide +kernel
theorem dX2_shrinks_20 : decode cX2_shrinks 20 = .ok (.iconst 0, 1) := by decide +kernel
theorem dX2_shrinks_21 : decode cX2_shrinks 21 = .ok (.ireturn, 1) := by decide +kernel
theorem dX2_shrinks_22 : decode cX2_shrinks 22 = .ok (.aload_n 0, 1) := by decide +kernel
theorem dX2_shrinks_23 : decode cX2_shrinks 23 = .ok (.getfield 10, 3) := by decide +kernel
theorem dX2_shrinks_26 : decode cX2_shrinks 26 = .ok (.getfield 45, 3) := by decide +kernel
theorem dX2_shrinks_29 : decode cX2_shrinks 29 = .ok (.getfield 64, 3) := by decide +kernel
theorem dX2_shrinks_32 : decode cX2_shrinks 32 = .ok (.iload_n 1, 1) := by decide +kernel
theorem dX2_shrinks_33 : decode cX2_shrinks 33 = .ok (.iload_n 2, 1) := by decide +kernel
theorem dX2_shrinks_34 : decode cX2_shrinks 34 = .ok (.iastore, 1) := by decide +kernel
theorem dX2_shrinks_35 : decode cX2_shrinks 35 = .ok (.aload_n 0, 1) := by decide +kernel
theorem dX2_shrinks_36 : decode cX2_shrinks 36 = .ok (.iconst 0, 1) := by decide +kernel
theorem dX2_shrinks_37 : decode cX2_shrinks 37 = .ok (.putfield 36, 3) := by decide +kernel
theorem dX2_shrinks_40 : decode cX2_shrinks 40 = .ok (.iconst 1, 1) := by decide +kernel
theorem dX2_shrinks_41 : decode cX2_shrinks 41 = .ok (.ireturn, 1) := by decide +kernel
set_option maxRecDepth 20000 in
theorem ggX2_keeps_X1_has : GoodIn wsX2_keeps wsX1_has := goodIn_r _ [6, 7, 8, 9, 10, 18, 19, 20, 21, 22, 23, 24] (by decide +kernel) (by decide +kernel)
set_option maxRecDepth 20000 in
theorem gX2_keeps_X1_has_n54 : GoodIn wsX2_keeps (wsX1_has) := ggX2_keeps_X1_has
set_option maxRecDepth 20000 in
theorem ggX2_keeps_X2_within : GoodIn wsX2_keeps wsX2_within := goodIn_r _ [10] (by decide +kernel) (by decide +kernel)
set_option maxRecDepth 20000 in
theorem gX2_keeps_X2_within : GoodIn wsX2_keeps (va_wsS RX2 17 yX2_within wsX2_within) := goodIn_app (goodIn_of _ (by decide +kernel)) ggX2_keeps_X2_within
theorem dX2_keeps_0 : decode cX2_keeps 0 = .ok (.aload_n 0, 1) := by decide +kernel
theorem dX2_keeps_1 : decode cX2_keeps 1 = .ok (.getfield 10, 3) := by decide +kernel
theorem dX2_keeps_4 : decode cX2_keeps 4 = .ok (.iload_n 1, 1) := by decide +kernel
theorem dX2_keeps_5 : decode cX2_keeps 5 = .ok (.invokevirtual 54, 3) := by decide +kernel
theorem dX2_keeps_8 : decode cX2_keeps 8 = .ok (.ifCond .eq 13, 3) := by decide +kernel
theorem dX2_keeps_11 : decode cX2_keeps 11 = .ok (.iload_n 2, 1) := by decide +kernel
theorem dX2_keeps_12 : decode cX2_keeps 12 = .ok (.iconst 0, 1) := by decide +kernel
theorem dX2_keeps_13 : decode cX2_keeps 13 = .ok (.bipush 100, 2) := by decide +kernel
theorem dX2_keeps_15 : decode cX2_keeps 15 = .ok (.invokestatic 17, 3) := by decide +kernel
theorem dX2_keeps_18 : decode cX2_keeps 18 = .ok (.ifCond .ne 5, 3) := by decide +kernel
theorem dX2_keeps_21 : decode cX2_keeps 21 = .ok (.iconst 0, 1) := by decide +kernel
theorem dX2_keeps_22 : decode cX2_keeps 22 = .ok (.ireturn, 1) := by decide +kernel
theorem dX2_keeps_23 : decode cX2_keeps 23 = .ok (.aload_n 0, 1) := by decide +kernel
theorem dX2_keeps_24 : decode cX2_keeps 24 = .ok (.getfield 10, 3) := by decide +kernel
theorem dX2_keeps_27 : decode cX2_keeps 27 = .ok (.getfield 67, 3) := by decide +kernel
theorem dX2_keeps_30 : decode cX2_keeps 30 = .ok (.iload_n 1, 1) := by decide +kernel
theorem dX2_keeps_31 : decode cX2_keeps 31 = .ok (.iload_n 2, 1) := by decide +kernel
theorem dX2_keeps_32 : decode cX2_keeps 32 = .ok (.iastore, 1) := by decide +kernel
theorem dX2_keeps_33 : decode cX2_keeps 33 = .ok (.aload_n 0, 1) := by decide +kernel
theorem dX2_keeps_34 : decode cX2_keeps 34 = .ok (.iconst 0, 1) := by decide +kernel
theorem dX2_keeps_35 : decode cX2_keeps 35 = .ok (.putfield 36, 3) := by decide +kernel
theorem dX2_keeps_38 : decode cX2_keeps 38 = .ok (.iconst 1, 1) := by decide +kernel
theorem dX2_keeps_39 : decode cX2_keeps 39 = .ok (.ireturn, 1) := by decide +kernel
set_option maxRecDepth 20000 in
theorem ggX2_row_X2_isKind : GoodIn wsX2_row wsX2_isKind := goodIn_r _ [8, 9, 10, 7, 11] (by decide +kernel) (by decide +kernel)
set_option maxRecDepth 20000 in
theorem gX2_row_X2_isKind : GoodIn wsX2_row (va_wsS RX2 25 yX2_isKind wsX2_isKind) := goodIn_app (goodIn_of _ (by decide +kernel)) ggX2_row_X2_isKind
set_option maxRecDepth 20000 in
theorem ggX2_row_X0_stressAt : GoodIn wsX2_row wsX0_stressAt := goodIn_r _ [15, 16, 17, 18, 19, 7, 20, 40, 41, 42, 43, 44] (by decide +kernel) (by decide +kernel)
set_option maxRecDepth 20000 in
theorem gX2_row_X0_stressAt_n77 : GoodIn wsX2_row (wsX0_stressAt) := ggX2_row_X0_stressAt
theorem dX2_row_0 : decode cX2_row 0 = .ok (.iload_n 1, 1) := by decide +kernel
theorem dX2_row_1 : decode cX2_row 1 = .ok (.invokestatic 25, 3) := by decide +kernel
theorem dX2_row_4 : decode cX2_row 4 = .ok (.ifCond .ne 13, 3) := by decide +kernel
theorem dX2_row_7 : decode cX2_row 7 = .ok (.new 70, 3) := by decide +kernel
theorem dX2_row_10 : decode cX2_row 10 = .ok (.dup, 1) := by decide +kernel
theorem dX2_row_11 : decode cX2_row 11 = .ok (.ldc 72, 2) := by decide +kernel
theorem dX2_row_13 : decode cX2_row 13 = .ok (.invokespecial 74, 3) := by decide +kernel
theorem dX2_row_16 : decode cX2_row 16 = .ok (.athrow, 1) := by decide +kernel
theorem dX2_row_17 : decode cX2_row 17 = .ok (.aload_n 0, 1) := by decide +kernel
theorem dX2_row_18 : decode cX2_row 18 = .ok (.getfield 10, 3) := by decide +kernel
theorem dX2_row_21 : decode cX2_row 21 = .ok (.getfield 45, 3) := by decide +kernel
theorem dX2_row_24 : decode cX2_row 24 = .ok (.iload_n 1, 1) := by decide +kernel
theorem dX2_row_25 : decode cX2_row 25 = .ok (.iload_n 2, 1) := by decide +kernel
theorem dX2_row_26 : decode cX2_row 26 = .ok (.invokevirtual 77, 3) := by decide +kernel
theorem dX2_row_29 : decode cX2_row 29 = .ok (.ireturn, 1) := by decide +kernel
set_option maxRecDepth 20000 in
theorem ggX2_of_X2_isOfPlane : GoodIn wsX2_of wsX2_isOfPlane := goodIn_r _ [6, 7, 8, 5, 9] (by decide +kernel) (by decide +kernel)
set_option maxRecDepth 20000 in
theorem gX2_of_X2_isOfPlane : GoodIn wsX2_of (va_wsS RX2 81 yX2_isOfPlane wsX2_isOfPlane) := goodIn_app (goodIn_of _ (by decide +kernel)) ggX2_of_X2_isOfPlane
set_option maxRecDepth 20000 in
theorem ggX2_of_X2_isSum : GoodIn wsX2_of wsX2_isSum := goodIn_r _ [12] (by decide +kernel) (by decide +kernel)
set_option maxRecDepth 20000 in
theorem gX2_of_X2_isSum : GoodIn wsX2_of (va_wsS RX2 84 yX2_isSum wsX2_isSum) := goodIn_app (goodIn_of _ (by decide +kernel)) ggX2_of_X2_isSum
set_option maxRecDepth 20000 in
theorem ggX2_of_X1_sumOf : GoodIn wsX2_of wsX1_sumOf := goodIn_r _ [16, 17, 18, 19, 20, 21, 22, 14, 23, 24, 25, 26, 27, 28, 29, 30, 31, 32, 33, 34, 35, 36, 37, 5, 38, 39, 40, 41, 42, 43, 44, 45, 52, 53, 54, 55, 56, 57, 58, 59, 60, 61, 62, 63] (by decide +kernel) (by decide +kernel)
set_option maxRecDepth 20000 in
theorem gX2_of_X1_sumOf_n89 : GoodIn wsX2_of (wsX1_sumOf) := ggX2_of_X1_sumOf
theorem dX2_of_0 : decode cX2_of 0 = .ok (.iload_n 1, 1) := by decide +kernel
theorem dX2_of_1 : decode cX2_of 1 = .ok (.invokestatic 81, 3) := by decide +kernel
theorem dX2_of_4 : decode cX2_of 4 = .ok (.ifCond .eq 17, 3) := by decide +kernel
theorem dX2_of_7 : decode cX2_of 7 = .ok (.iload_n 2, 1) := by decide +kernel
theorem dX2_of_8 : decode cX2_of 8 = .ok (.invokestatic 81, 3) := by decide +kernel
theorem dX2_of_11 : decode cX2_of 11 = .ok (.ifCond .eq 10, 3) := by decide +kernel
theorem dX2_of_14 : decode cX2_of 14 = .ok (.iload_n 3, 1) := by decide +kernel
theorem dX2_of_15 : decode cX2_of 15 = .ok (.invokestatic 84, 3) := by decide +kernel
theorem dX2_of_18 : decode cX2_of 18 = .ok (.ifCond .ne 7, 3) := by decide +kernel
theorem dX2_of_21 : decode cX2_of 21 = .ok (.ldc2_w 87, 3) := by decide +kernel
theorem dX2_of_24 : decode cX2_of 24 = .ok (.lreturn, 1) := by decide +kernel
theorem dX2_of_25 : decode cX2_of 25 = .ok (.aload_n 0, 1) := by decide +kernel
theorem dX2_of_26 : decode cX2_of 26 = .ok (.getfield 10, 3) := by decide +kernel
theorem dX2_of_29 : decode cX2_of 29 = .ok (.iload_n 3, 1) := by decide +kernel
theorem dX2_of_30 : decode cX2_of 30 = .ok (.iload_n 1, 1) := by decide +kernel
theorem dX2_of_31 : decode cX2_of 31 = .ok (.iload_n 2, 1) := by decide +kernel
theorem dX2_of_32 : decode cX2_of 32 = .ok (.invokevirtual 89, 3) := by decide +kernel
theorem dX2_of_35 : decode cX2_of 35 = .ok (.lreturn, 1) := by decide +kernel
set_option maxRecDepth 20000 in
theorem ggX2_balance_X2_isOfPlane : GoodIn wsX2_balance wsX2_isOfPlane := goodIn_r _ [6, 7, 8, 5, 9] (by decide +kernel) (by decide +kernel)
set_option maxRecDepth 20000 in
theorem gX2_balance_X2_isOfPlane : GoodIn wsX2_balance (va_wsS RX2 81 yX2_isOfPlane wsX2_isOfPlane) := goodIn_app (goodIn_of _ (by decide +kernel)) ggX2_balance_X2_isOfPlane
set_option maxRecDepth 20000 in
theorem ggX2_balance_X1_balanceOf : GoodIn wsX2_balance wsX1_balanceOf := goodIn_r _ [13, 14, 15, 16, 17, 11, 18, 19, 20, 21, 22, 23, 24, 25, 26, 27, 28, 29, 30, 31, 32, 33, 34, 35, 36, 37, 38, 39, 5, 40, 41, 42, 43, 44, 45, 46, 47, 54, 55, 56, 57, 58, 59, 60, 61, 62, 63, 64, 65] (by decide +kernel) (by decide +kernel)
set_option maxRecDepth 20000 in
theorem gX2_balance_X1_balanceOf_n93 : GoodIn wsX2_balance (wsX1_balanceOf) := ggX2_balance_X1_balanceOf
theorem dX2_balance_0 : decode cX2_balance 0 = .ok (.iload_n 3, 1) := by decide +kernel
theorem dX2_balance_1 : decode cX2_balance 1 = .ok (.invokestatic 81, 3) := by decide +kernel
theorem dX2_balance_4 : decode cX2_balance 4 = .ok (.ifCond .ne 6, 3) := by decide +kernel
theorem dX2_balance_7 : decode cX2_balance 7 = .ok (.ldc 43, 2) := by decide +kernel
theorem dX2_balance_9 : decode cX2_balance 9 = .ok (.ireturn, 1) := by decide +kernel
theorem dX2_balance_10 : decode cX2_balance 10 = .ok (.aload_n 0, 1) := by decide +kernel
theorem dX2_balance_11 : decode cX2_balance 11 = .ok (.getfield 10, 3) := by decide +kernel
theorem dX2_balance_14 : decode cX2_balance 14 = .ok (.lload_n 1, 1) := by decide +kernel
theorem dX2_balance_15 : decode cX2_balance 15 = .ok (.iload_n 3, 1) := by decide +kernel
theorem dX2_balance_16 : decode cX2_balance 16 = .ok (.invokevirtual 93, 3) := by decide +kernel
theorem dX2_balance_19 : decode cX2_balance 19 = .ok (.ireturn, 1) := by decide +kernel
set_option maxRecDepth 20000 in
theorem ggX2_run_X1_bendFor : GoodIn wsX2_run wsX1_bendFor := goodIn_r _ [12, 13, 14, 15, 16, 17, 18, 19, 20, 21, 22, 10, 23, 24, 25, 26, 27, 28, 29, 30, 31, 32, 33, 34, 35, 36, 37, 38, 39, 40, 41, 42, 43, 44, 45, 46, 47, 48, 49, 50, 51, 52, 53, 60, 61, 62, 63, 64, 65, 66, 67, 68, 69, 70, 71] (by decide +kernel) (by decide +kernel)
set_option maxRecDepth 20000 in
theorem gX2_run_X1_bendFor_n97 : GoodIn wsX2_run (wsX1_bendFor) := ggX2_run_X1_bendFor
set_option maxRecDepth 20000 in
theorem ggX2_run_X1_balanceOf : GoodIn wsX2_run wsX1_balanceOf := goodIn_r _ [23, 13, 24, 25, 26, 10, 27, 28, 29, 30, 31, 32, 33, 34, 35, 36, 37, 38, 39, 40, 41, 42, 43, 16, 17, 18, 19, 44, 45, 46, 47, 48, 49, 50, 51, 52, 53, 60, 61, 62, 63, 64, 65, 66, 67, 68, 69, 70, 71] (by decide +kernel) (by decide +kernel)
set_option maxRecDepth 20000 in
theorem gX2_run_X1_balanceOf_n93 : GoodIn wsX2_run (wsX1_balanceOf) := ggX2_run_X1_balanceOf
theorem dX2_run_0 : decode cX2_run 0 = .ok (.aload_n 0, 1) := by decide +kernel
theorem dX2_run_1 : decode cX2_run 1 = .ok (.getfield 10, 3) := by decide +kernel
theorem dX2_run_4 : decode cX2_run 4 = .ok (.lload_n 1, 1) := by decide +kernel
theorem dX2_run_5 : decode cX2_run 5 = .ok (.lload_n 3, 1) := by decide +kernel
theorem dX2_run_6 : decode cX2_run 6 = .ok (.invokevirtual 97, 3) := by decide +kernel
theorem dX2_run_9 : decode cX2_run 9 = .ok (.istore 5, 2) := by decide +kernel
theorem dX2_run_11 : decode cX2_run 11 = .ok (.iload 5, 2) := by decide +kernel
theorem dX2_run_13 : decode cX2_run 13 = .ok (.ldc 101, 2) := by decide +kernel
theorem dX2_run_15 : decode cX2_run 15 = .ok (.if_icmp .ne 5, 3) := by decide +kernel
theorem dX2_run_18 : decode cX2_run 18 = .ok (.iconst 1, 1) := by decide +kernel
theorem dX2_run_19 : decode cX2_run 19 = .ok (.ireturn, 1) := by decide +kernel
theorem dX2_run_20 : decode cX2_run 20 = .ok (.iload 5, 2) := by decide +kernel
theorem dX2_run_22 : decode cX2_run 22 = .ok (.ldc 102, 2) := by decide +kernel
theorem dX2_run_24 : decode cX2_run 24 = .ok (.if_icmp .ne 5, 3) := by decide +kernel
theorem dX2_run_27 : decode cX2_run 27 = .ok (.iconst 2, 1) := by decide +kernel
theorem dX2_run_28 : decode cX2_run 28 = .ok (.ireturn, 1) := by decide +kernel
theorem dX2_run_29 : decode cX2_run 29 = .ok (.aload_n 0, 1) := by decide +kernel
theorem dX2_run_30 : decode cX2_run 30 = .ok (.iconst 1, 1) := by decide +kernel
theorem dX2_run_31 : decode cX2_run 31 = .ok (.putfield 36, 3) := by decide +kernel
theorem dX2_run_34 : decode cX2_run 34 = .ok (.aload_n 0, 1) := by decide +kernel
theorem dX2_run_35 : decode cX2_run 35 = .ok (.aload_n 0, 1) := by decide +kernel
theorem dX2_run_36 : decode cX2_run 36 = .ok (.getfield 10, 3) := by decide +kernel
theorem dX2_run_39 : decode cX2_run 39 = .ok (.lload_n 1, 1) := by decide +kernel
theorem dX2_run_40 : decode cX2_run 40 = .ok (.iload 5, 2) := by decide +kernel
theorem dX2_run_42 : decode cX2_run 42 = .ok (.invokevirtual 93, 3) := by decide +kernel
theorem dX2_run_45 : decode cX2_run 45 = .ok (.putfield 103, 3) := by decide +kernel
theorem dX2_run_48 : decode cX2_run 48 = .ok (.aload_n 0, 1) := by decide +kernel
theorem dX2_run_49 : decode cX2_run 49 = .ok (.iload 5, 2) := by decide +kernel
theorem dX2_run_51 : decode cX2_run 51 = .ok (.putfield 106, 3) := by decide +kernel
theorem dX2_run_54 : decode cX2_run 54 = .ok (.aload_n 0, 1) := by decide +kernel
theorem dX2_run_55 : decode cX2_run 55 = .ok (.lload_n 1, 1) := by decide +kernel
theorem dX2_run_56 : decode cX2_run 56 = .ok (.putfield 109, 3) := by decide +kernel
theorem dX2_run_59 : decode cX2_run 59 = .ok (.aload_n 0, 1) := by decide +kernel
theorem dX2_run_60 : decode cX2_run 60 = .ok (.lload_n 3, 1) := by decide +kernel
theorem dX2_run_61 : decode cX2_run 61 = .ok (.putfield 113, 3) := by decide +kernel
theorem dX2_run_64 : decode cX2_run 64 = .ok (.iconst 0, 1) := by decide +kernel
theorem dX2_run_65 : decode cX2_run 65 = .ok (.ireturn, 1) := by decide +kernel
set_option maxRecDepth 20000 in
theorem ggX2_told_X1_firstBeyond : GoodIn wsX2_told wsX1_firstBeyond := goodIn_r _ [8, 9, 10, 11, 12, 13, 14, 6, 15, 16, 17, 18, 19, 20, 21, 22, 23, 24, 25, 26, 27, 28, 29, 30, 31, 38, 39, 40, 41, 42, 43, 44, 45, 46, 47, 48, 49] (by decide +kernel) (by decide +kernel)
set_option maxRecDepth 20000 in
theorem gX2_told_X1_firstBeyond_n116 : GoodIn wsX2_told (wsX1_firstBeyond) := ggX2_told_X1_firstBeyond
theorem dX2_told_0 : decode cX2_told 0 = .ok (.aload_n 0, 1) := by decide +kernel
theorem dX2_told_1 : decode cX2_told 1 = .ok (.getfield 36, 3) := by decide +kernel
theorem dX2_told_4 : decode cX2_told 4 = .ok (.ifCond .ne 5, 3) := by decide +kernel
theorem dX2_told_7 : decode cX2_told 7 = .ok (.iconst (-1), 1) := by decide +kernel
theorem dX2_told_8 : decode cX2_told 8 = .ok (.ireturn, 1) := by decide +kernel
theorem dX2_told_9 : decode cX2_told 9 = .ok (.iload_n 1, 1) := by decide +kernel
theorem dX2_told_10 : decode cX2_told 10 = .ok (.tableswitch 52 0 2 #[26, 31, 36], 26) := by decide +kernel
theorem dX2_told_36 : decode cX2_told 36 = .ok (.aload_n 0, 1) := by decide +kernel
theorem dX2_told_37 : decode cX2_told 37 = .ok (.getfield 103, 3) := by decide +kernel
theorem dX2_told_40 : decode cX2_told 40 = .ok (.ireturn, 1) := by decide +kernel
theorem dX2_told_41 : decode cX2_told 41 = .ok (.aload_n 0, 1) := by decide +kernel
theorem dX2_told_42 : decode cX2_told 42 = .ok (.getfield 106, 3) := by decide +kernel
theorem dX2_told_45 : decode cX2_told 45 = .ok (.ireturn, 1) := by decide +kernel
theorem dX2_told_46 : decode cX2_told 46 = .ok (.aload_n 0, 1) := by decide +kernel
theorem dX2_told_47 : decode cX2_told 47 = .ok (.getfield 10, 3) := by decide +kernel
theorem dX2_told_50 : decode cX2_told 50 = .ok (.aload_n 0, 1) := by decide +kernel
theorem dX2_told_51 : decode cX2_told 51 = .ok (.getfield 103, 3) := by decide +kernel
theorem dX2_told_54 : decode cX2_told 54 = .ok (.aload_n 0, 1) := by decide +kernel
theorem dX2_told_55 : decode cX2_told 55 = .ok (.getfield 106, 3) := by decide +kernel
theorem dX2_told_58 : decode cX2_told 58 = .ok (.invokevirtual 116, 3) := by decide +kernel
theorem dX2_told_61 : decode cX2_told 61 = .ok (.ireturn, 1) := by decide +kernel
theorem dX2_told_62 : decode cX2_told 62 = .ok (.iconst (-1), 1) := by decide +kernel
theorem dX2_told_63 : decode cX2_told 63 = .ok (.ireturn, 1) := by decide +kernel
set_option maxRecDepth 20000 in
theorem ggX2_residual_X2_isSum : GoodIn wsX2_residual wsX2_isSum := goodIn_r _ [11] (by decide +kernel) (by decide +kernel)
set_option maxRecDepth 20000 in
theorem gX2_residual_X2_isSum : GoodIn wsX2_residual (va_wsS RX2 84 yX2_isSum wsX2_isSum) := goodIn_app (goodIn_of _ (by decide +kernel)) ggX2_residual_X2_isSum
set_option maxRecDepth 20000 in
theorem ggX2_residual_X1_sumOf : GoodIn wsX2_residual wsX1_sumOf := goodIn_r _ [15, 16, 17, 18, 19, 20, 21, 13, 22, 23, 24, 25, 26, 27, 28, 29, 30, 31, 32, 33, 34, 35, 36, 10, 37, 38, 39, 40, 41, 42, 43, 44, 51, 52, 53, 54, 55, 56, 57, 58, 59, 60, 61, 62] (by decide +kernel) (by decide +kernel)
set_option maxRecDepth 20000 in
theorem gX2_residual_X1_sumOf_n89 : GoodIn wsX2_residual (wsX1_sumOf) := ggX2_residual_X1_sumOf
theorem dX2_residual_0 : decode cX2_residual 0 = .ok (.aload_n 0, 1) := by decide +kernel
theorem dX2_residual_1 : decode cX2_residual 1 = .ok (.getfield 36, 3) := by decide +kernel
theorem dX2_residual_4 : decode cX2_residual 4 = .ok (.ifCond .eq 10, 3) := by decide +kernel
theorem dX2_residual_7 : decode cX2_residual 7 = .ok (.iload_n 1, 1) := by decide +kernel
theorem dX2_residual_8 : decode cX2_residual 8 = .ok (.invokestatic 84, 3) := by decide +kernel
theorem dX2_residual_11 : decode cX2_residual 11 = .ok (.ifCond .ne 7, 3) := by decide +kernel
theorem dX2_residual_14 : decode cX2_residual 14 = .ok (.ldc2_w 87, 3) := by decide +kernel
theorem dX2_residual_17 : decode cX2_residual 17 = .ok (.lreturn, 1) := by decide +kernel
theorem dX2_residual_18 : decode cX2_residual 18 = .ok (.aload_n 0, 1) := by decide +kernel
theorem dX2_residual_19 : decode cX2_residual 19 = .ok (.getfield 10, 3) := by decide +kernel
theorem dX2_residual_22 : decode cX2_residual 22 = .ok (.iload_n 1, 1) := by decide +kernel
theorem dX2_residual_23 : decode cX2_residual 23 = .ok (.aload_n 0, 1) := by decide +kernel
theorem dX2_residual_24 : decode cX2_residual 24 = .ok (.getfield 103, 3) := by decide +kernel
theorem dX2_residual_27 : decode cX2_residual 27 = .ok (.aload_n 0, 1) := by decide +kernel
theorem dX2_residual_28 : decode cX2_residual 28 = .ok (.getfield 106, 3) := by decide +kernel
theorem dX2_residual_31 : decode cX2_residual 31 = .ok (.invokevirtual 89, 3) := by decide +kernel
theorem dX2_residual_34 : decode cX2_residual 34 = .ok (.iload_n 1, 1) := by decide +kernel
theorem dX2_residual_35 : decode cX2_residual 35 = .ok (.ifCond .ne 10, 3) := by decide +kernel
theorem dX2_residual_38 : decode cX2_residual 38 = .ok (.aload_n 0, 1) := by decide +kernel
theorem dX2_residual_39 : decode cX2_residual 39 = .ok (.getfield 109, 3) := by decide +kernel
theorem dX2_residual_42 : decode cX2_residual 42 = .ok (.goto 7, 3) := by decide +kernel
theorem dX2_residual_45 : decode cX2_residual 45 = .ok (.aload_n 0, 1) := by decide +kernel
theorem dX2_residual_46 : decode cX2_residual 46 = .ok (.getfield 113, 3) := by decide +kernel
theorem dX2_residual_49 : decode cX2_residual 49 = .ok (.lsub, 1) := by decide +kernel
theorem dX2_residual_50 : decode cX2_residual 50 = .ok (.lreturn, 1) := by decide +kernel
set_option maxRecDepth 20000 in
theorem ggX2_in_X1_has : GoodIn wsX2_in wsX1_has := goodIn_r _ [12, 13, 14, 15, 16, 55, 56, 57, 58, 59, 60, 61] (by decide +kernel) (by decide +kernel)
set_option maxRecDepth 20000 in
theorem gX2_in_X1_has_n54 : GoodIn wsX2_in (wsX1_has) := ggX2_in_X1_has
set_option maxRecDepth 20000 in
theorem ggX2_in_X1_worksOn : GoodIn wsX2_in wsX1_worksOn := goodIn_r _ [19, 20, 21, 22, 23, 24, 25, 26, 27, 28, 29, 15, 30, 55, 56, 57, 58, 59, 60, 61, 62, 63, 64, 65, 66] (by decide +kernel) (by decide +kernel)
set_option maxRecDepth 20000 in
theorem gX2_in_X1_worksOn_n121 : GoodIn wsX2_in (wsX1_worksOn) := ggX2_in_X1_worksOn
set_option maxRecDepth 20000 in
theorem ggX2_in_X1_stressOn : GoodIn wsX2_in wsX1_stressOn := goodIn_r _ [33, 23, 20, 34, 24, 35, 17, 18, 10, 19, 21, 22, 25, 26, 27, 28, 29, 15, 30, 36, 37, 38, 39, 40, 41, 42, 55, 56, 57, 58, 59, 60, 61, 62, 63, 64, 65, 66] (by decide +kernel) (by decide +kernel)
set_option maxRecDepth 20000 in
theorem gX2_in_X1_stressOn_n125 : GoodIn wsX2_in (wsX1_stressOn) := ggX2_in_X1_stressOn
theorem dX2_in_0 : decode cX2_in 0 = .ok (.aload_n 0, 1) := by decide +kernel
theorem dX2_in_1 : decode cX2_in 1 = .ok (.getfield 10, 3) := by decide +kernel
theorem dX2_in_4 : decode cX2_in 4 = .ok (.iload_n 1, 1) := by decide +kernel
theorem dX2_in_5 : decode cX2_in 5 = .ok (.invokevirtual 54, 3) := by decide +kernel
theorem dX2_in_8 : decode cX2_in 8 = .ok (.ifCond .ne 13, 3) := by decide +kernel
theorem dX2_in_11 : decode cX2_in 11 = .ok (.new 70, 3) := by decide +kernel
theorem dX2_in_14 : decode cX2_in 14 = .ok (.dup, 1) := by decide +kernel
theorem dX2_in_15 : decode cX2_in 15 = .ok (.ldc 119, 2) := by decide +kernel
theorem dX2_in_17 : decode cX2_in 17 = .ok (.invokespecial 74, 3) := by decide +kernel
theorem dX2_in_20 : decode cX2_in 20 = .ok (.athrow, 1) := by decide +kernel
theorem dX2_in_21 : decode cX2_in 21 = .ok (.aload_n 0, 1) := by decide +kernel
theorem dX2_in_22 : decode cX2_in 22 = .ok (.getfield 36, 3) := by decide +kernel
theorem dX2_in_25 : decode cX2_in 25 = .ok (.ifCond .ne 6, 3) := by decide +kernel
theorem dX2_in_28 : decode cX2_in 28 = .ok (.ldc 43, 2) := by decide +kernel
theorem dX2_in_30 : decode cX2_in 30 = .ok (.ireturn, 1) := by decide +kernel
theorem dX2_in_31 : decode cX2_in 31 = .ok (.iload_n 2, 1) := by decide +kernel
theorem dX2_in_32 : decode cX2_in 32 = .ok (.lookupswitch 62 #[(0, 28), (1, 45)], 28) := by decide +kernel
theorem dX2_in_60 : decode cX2_in 60 = .ok (.aload_n 0, 1) := by decide +kernel
theorem dX2_in_61 : decode cX2_in 61 = .ok (.getfield 10, 3) := by decide +kernel
theorem dX2_in_64 : decode cX2_in 64 = .ok (.iload_n 1, 1) := by decide +kernel
theorem dX2_in_65 : decode cX2_in 65 = .ok (.aload_n 0, 1) := by decide +kernel
theorem dX2_in_66 : decode cX2_in 66 = .ok (.getfield 103, 3) := by decide +kernel
theorem dX2_in_69 : decode cX2_in 69 = .ok (.aload_n 0, 1) := by decide +kernel
theorem dX2_in_70 : decode cX2_in 70 = .ok (.getfield 106, 3) := by decide +kernel
theorem dX2_in_73 : decode cX2_in 73 = .ok (.invokevirtual 121, 3) := by decide +kernel
theorem dX2_in_76 : decode cX2_in 76 = .ok (.ireturn, 1) := by decide +kernel
theorem dX2_in_77 : decode cX2_in 77 = .ok (.aload_n 0, 1) := by decide +kernel
theorem dX2_in_78 : decode cX2_in 78 = .ok (.getfield 10, 3) := by decide +kernel
theorem dX2_in_81 : decode cX2_in 81 = .ok (.iload_n 1, 1) := by decide +kernel
theorem dX2_in_82 : decode cX2_in 82 = .ok (.aload_n 0, 1) := by decide +kernel
theorem dX2_in_83 : decode cX2_in 83 = .ok (.getfield 103, 3) := by decide +kernel
theorem dX2_in_86 : decode cX2_in 86 = .ok (.aload_n 0, 1) := by decide +kernel
theorem dX2_in_87 : decode cX2_in 87 = .ok (.getfield 106, 3) := by decide +kernel
theorem dX2_in_90 : decode cX2_in 90 = .ok (.invokevirtual 125, 3) := by decide +kernel
theorem dX2_in_93 : decode cX2_in 93 = .ok (.ireturn, 1) := by decide +kernel
theorem dX2_in_94 : decode cX2_in 94 = .ok (.ldc 43, 2) := by decide +kernel
theorem dX2_in_96 : decode cX2_in 96 = .ok (.ireturn, 1) := by decide +kernel
set_option maxRecDepth 20000 in
theorem ggX2_curve_X2_isBendStep : GoodIn wsX2_curve wsX2_isBendStep := goodIn_r _ [7, 8, 9, 6, 10] (by decide +kernel) (by decide +kernel)
set_option maxRecDepth 20000 in
theorem gX2_curve_X2_isBendStep : GoodIn wsX2_curve (va_wsS RX2 128 yX2_isBendStep wsX2_isBendStep) := goodIn_app (goodIn_of _ (by decide +kernel)) ggX2_curve_X2_isBendStep
set_option maxRecDepth 20000 in
theorem ggX2_curve_X2_within : GoodIn wsX2_curve wsX2_within := goodIn_r _ [10] (by decide +kernel) (by decide +kernel)
set_option maxRecDepth 20000 in
theorem gX2_curve_X2_within : GoodIn wsX2_curve (va_wsS RX2 17 yX2_within wsX2_within) := goodIn_app (goodIn_of _ (by decide +kernel)) ggX2_curve_X2_within
set_option maxRecDepth 20000 in
theorem ggX2_curve_X1_balanceOf : GoodIn wsX2_curve wsX1_balanceOf := goodIn_r _ [14, 15, 16, 17, 18, 12, 19, 20, 21, 22, 23, 24, 25, 26, 27, 28, 29, 30, 31, 32, 33, 34, 35, 36, 37, 38, 39, 40, 6, 41, 42, 43, 44, 45, 46, 47, 48, 55, 56, 57, 58, 59, 60, 61, 62, 63, 64, 65, 66] (by decide +kernel) (by decide +kernel)
set_option maxRecDepth 20000 in
theorem gX2_curve_X1_balanceOf_n93 : GoodIn wsX2_curve (wsX1_balanceOf) := ggX2_curve_X1_balanceOf
set_option maxRecDepth 20000 in
theorem ggX2_curve_X1_sumOf : GoodIn wsX2_curve wsX1_sumOf := goodIn_r _ [19, 20, 21, 22, 23, 24, 25, 12, 26, 27, 28, 29, 30, 31, 32, 33, 34, 35, 36, 37, 38, 39, 40, 6, 41, 42, 43, 44, 45, 46, 47, 48, 55, 56, 57, 58, 59, 60, 61, 62, 63, 64, 65, 66] (by decide +kernel) (by decide +kernel)
set_option maxRecDepth 20000 in
theorem gX2_curve_X1_sumOf_n89 : GoodIn wsX2_curve (wsX1_sumOf) := ggX2_curve_X1_sumOf
theorem dX2_curve_0 : decode cX2_curve 0 = .ok (.iload_n 3, 1) := by decide +kernel
theorem dX2_curve_1 : decode cX2_curve 1 = .ok (.invokestatic 128, 3) := by decide +kernel
theorem dX2_curve_4 : decode cX2_curve 4 = .ok (.ifCond .eq 14, 3) := by decide +kernel
theorem dX2_curve_7 : decode cX2_curve 7 = .ok (.iload 4, 2) := by decide +kernel
theorem dX2_curve_9 : decode cX2_curve 9 = .ok (.iconst 0, 1) := by decide +kernel
theorem dX2_curve_10 : decode cX2_curve 10 = .ok (.bipush 20, 2) := by decide +kernel
theorem dX2_curve_12 : decode cX2_curve 12 = .ok (.invokestatic 17, 3) := by decide +kernel
theorem dX2_curve_15 : decode cX2_curve 15 = .ok (.ifCond .ne 7, 3) := by decide +kernel
theorem dX2_curve_18 : decode cX2_curve 18 = .ok (.ldc2_w 87, 3) := by decide +kernel
theorem dX2_curve_21 : decode cX2_curve 21 = .ok (.lreturn, 1) := by decide +kernel
theorem dX2_curve_22 : decode cX2_curve 22 = .ok (.aload_n 0, 1) := by decide +kernel
theorem dX2_curve_23 : decode cX2_curve 23 = .ok (.getfield 10, 3) := by decide +kernel
theorem dX2_curve_26 : decode cX2_curve 26 = .ok (.lload_n 1, 1) := by decide +kernel
theorem dX2_curve_27 : decode cX2_curve 27 = .ok (.iload 4, 2) := by decide +kernel
theorem dX2_curve_29 : decode cX2_curve 29 = .ok (.iload_n 3, 1) := by decide +kernel
theorem dX2_curve_30 : decode cX2_curve 30 = .ok (.imul, 1) := by decide +kernel
theorem dX2_curve_31 : decode cX2_curve 31 = .ok (.invokevirtual 93, 3) := by decide +kernel
theorem dX2_curve_34 : decode cX2_curve 34 = .ok (.istore 5, 2) := by decide +kernel
theorem dX2_curve_36 : decode cX2_curve 36 = .ok (.iload 5, 2) := by decide +kernel
theorem dX2_curve_38 : decode cX2_curve 38 = .ok (.ldc 43, 2) := by decide +kernel
theorem dX2_curve_40 : decode cX2_curve 40 = .ok (.if_icmp .ne 9, 3) := by decide +kernel
theorem dX2_curve_43 : decode cX2_curve 43 = .ok (.ldc2_w 87, 3) := by decide +kernel
theorem dX2_curve_46 : decode cX2_curve 46 = .ok (.goto 17, 3) := by decide +kernel
theorem dX2_curve_49 : decode cX2_curve 49 = .ok (.aload_n 0, 1) := by decide +kernel
theorem dX2_curve_50 : decode cX2_curve 50 = .ok (.getfield 10, 3) := by decide +kernel
theorem dX2_curve_53 : decode cX2_curve 53 = .ok (.iconst 1, 1) := by decide +kernel
theorem dX2_curve_54 : decode cX2_curve 54 = .ok (.iload 5, 2) := by decide +kernel
theorem dX2_curve_56 : decode cX2_curve 56 = .ok (.iload 4, 2) := by decide +kernel
theorem dX2_curve_58 : decode cX2_curve 58 = .ok (.iload_n 3, 1) := by decide +kernel
theorem dX2_curve_59 : decode cX2_curve 59 = .ok (.imul, 1) := by decide +kernel
theorem dX2_curve_60 : decode cX2_curve 60 = .ok (.invokevirtual 89, 3) := by decide +kernel
theorem dX2_curve_63 : decode cX2_curve 63 = .ok (.lreturn, 1) := by decide +kernel
set_option maxRecDepth 20000 in
theorem ggX2_last_X2_isBendStep : GoodIn wsX2_last wsX2_isBendStep := goodIn_r _ [6, 7, 8, 5, 9] (by decide +kernel) (by decide +kernel)
set_option maxRecDepth 20000 in
theorem gX2_last_X2_isBendStep : GoodIn wsX2_last (va_wsS RX2 128 yX2_isBendStep wsX2_isBendStep) := goodIn_app (goodIn_of _ (by decide +kernel)) ggX2_last_X2_isBendStep
set_option maxRecDepth 20000 in
theorem ggX2_last_X1_balanceOf : GoodIn wsX2_last wsX1_balanceOf := goodIn_r _ [13, 14, 15, 16, 17, 11, 18, 19, 20, 21, 22, 23, 24, 25, 26, 27, 28, 29, 30, 31, 32, 33, 34, 35, 36, 37, 38, 39, 5, 40, 41, 42, 43, 44, 45, 46, 47, 60, 61, 62, 63, 64, 65, 66, 67, 68, 69, 70, 71] (by decide +kernel) (by decide +kernel)
set_option maxRecDepth 20000 in
theorem gX2_last_X1_balanceOf_n93 : GoodIn wsX2_last (wsX1_balanceOf) := ggX2_last_X1_balanceOf
set_option maxRecDepth 20000 in
theorem ggX2_last_X1_firstBeyond : GoodIn wsX2_last wsX1_firstBeyond := goodIn_r _ [50, 19, 26, 27, 30, 31, 32, 11, 33, 21, 34, 29, 35, 36, 37, 38, 39, 5, 40, 51, 42, 52, 53, 45, 46, 60, 61, 62, 63, 64, 65, 66, 67, 68, 69, 70, 71] (by decide +kernel) (by decide +kernel)
set_option maxRecDepth 20000 in
theorem gX2_last_X1_firstBeyond_n116 : GoodIn wsX2_last (wsX1_firstBeyond) := ggX2_last_X1_firstBeyond
theorem dX2_last_0 : decode cX2_last 0 = .ok (.iload_n 3, 1) := by decide +kernel
theorem dX2_last_1 : decode cX2_last 1 = .ok (.invokestatic 128, 3) := by decide +kernel
theorem dX2_last_4 : decode cX2_last 4 = .ok (.ifCond .ne 5, 3) := by decide +kernel
theorem dX2_last_7 : decode cX2_last 7 = .ok (.iconst (-1), 1) := by decide +kernel
theorem dX2_last_8 : decode cX2_last 8 = .ok (.ireturn, 1) := by decide +kernel
theorem dX2_last_9 : decode cX2_last 9 = .ok (.iconst 0, 1) := by decide +kernel
theorem dX2_last_10 : decode cX2_last 10 = .ok (.istore 4, 2) := by decide +kernel
theorem dX2_last_12 : decode cX2_last 12 = .ok (.iload 4, 2) := by decide +kernel
theorem dX2_last_14 : decode cX2_last 14 = .ok (.bipush 20, 2) := by decide +kernel
theorem dX2_last_16 : decode cX2_last 16 = .ok (.if_icmp .gt 52, 3) := by decide +kernel
theorem dX2_last_19 : decode cX2_last 19 = .ok (.aload_n 0, 1) := by decide +kernel
theorem dX2_last_20 : decode cX2_last 20 = .ok (.getfield 10, 3) := by decide +kernel
theorem dX2_last_23 : decode cX2_last 23 = .ok (.lload_n 1, 1) := by decide +kernel
theorem dX2_last_24 : decode cX2_last 24 = .ok (.iload 4, 2) := by decide +kernel
theorem dX2_last_26 : decode cX2_last 26 = .ok (.iload_n 3, 1) := by decide +kernel
theorem dX2_last_27 : decode cX2_last 27 = .ok (.imul, 1) := by decide +kernel
theorem dX2_last_28 : decode cX2_last 28 = .ok (.invokevirtual 93, 3) := by decide +kernel
theorem dX2_last_31 : decode cX2_last 31 = .ok (.istore 5, 2) := by decide +kernel
theorem dX2_last_33 : decode cX2_last 33 = .ok (.iload 5, 2) := by decide +kernel
theorem dX2_last_35 : decode cX2_last 35 = .ok (.ldc 43, 2) := by decide +kernel
theorem dX2_last_37 : decode cX2_last 37 = .ok (.if_icmp .ne 5, 3) := by decide +kernel
theorem dX2_last_40 : decode cX2_last 40 = .ok (.iconst (-1), 1) := by decide +kernel
theorem dX2_last_41 : decode cX2_last 41 = .ok (.ireturn, 1) := by decide +kernel
theorem dX2_last_42 : decode cX2_last 42 = .ok (.aload_n 0, 1) := by decide +kernel
theorem dX2_last_43 : decode cX2_last 43 = .ok (.getfield 10, 3) := by decide +kernel
theorem dX2_last_46 : decode cX2_last 46 = .ok (.iload 5, 2) := by decide +kernel
theorem dX2_last_48 : decode cX2_last 48 = .ok (.iload 4, 2) := by decide +kernel
theorem dX2_last_50 : decode cX2_last 50 = .ok (.iload_n 3, 1) := by decide +kernel
theorem dX2_last_51 : decode cX2_last 51 = .ok (.imul, 1) := by decide +kernel
theorem dX2_last_52 : decode cX2_last 52 = .ok (.invokevirtual 116, 3) := by decide +kernel
theorem dX2_last_55 : decode cX2_last 55 = .ok (.iconst (-1), 1) := by decide +kernel
theorem dX2_last_56 : decode cX2_last 56 = .ok (.if_icmp .eq 6, 3) := by decide +kernel
theorem dX2_last_59 : decode cX2_last 59 = .ok (.iload 4, 2) := by decide +kernel
theorem dX2_last_61 : decode cX2_last 61 = .ok (.ireturn, 1) := by decide +kernel
theorem dX2_last_62 : decode cX2_last 62 = .ok (.iinc 4 1, 3) := by decide +kernel
theorem dX2_last_65 : decode cX2_last 65 = .ok (.goto (-53), 3) := by decide +kernel
theorem dX2_last_68 : decode cX2_last 68 = .ok (.iconst (-1), 1) := by decide +kernel
theorem dX2_last_69 : decode cX2_last 69 = .ok (.ireturn, 1) := by decide +kernel
set_option maxRecDepth 20000 in
theorem ggX2_needed_X2_isPlace : GoodIn wsX2_needed wsX2_isPlace := goodIn_r _ [5, 6, 7, 4, 8] (by decide +kernel) (by decide +kernel)
set_option maxRecDepth 20000 in
theorem gX2_needed_X2_isPlace : GoodIn wsX2_needed (va_wsS RX2 21 yX2_isPlace wsX2_isPlace) := goodIn_app (goodIn_of _ (by decide +kernel)) ggX2_needed_X2_isPlace
set_option maxRecDepth 20000 in
theorem ggX2_needed_X2_isKind : GoodIn wsX2_needed wsX2_isKind := goodIn_r _ [11, 6, 7, 4, 8] (by decide +kernel) (by decide +kernel)
set_option maxRecDepth 20000 in
theorem gX2_needed_X2_isKind : GoodIn wsX2_needed (va_wsS RX2 25 yX2_isKind wsX2_isKind) := goodIn_app (goodIn_of _ (by decide +kernel)) ggX2_needed_X2_isKind
set_option maxRecDepth 20000 in
theorem ggX2_needed_X2_within : GoodIn wsX2_needed wsX2_within := goodIn_r _ [8] (by decide +kernel) (by decide +kernel)
set_option maxRecDepth 20000 in
theorem gX2_needed_X2_within : GoodIn wsX2_needed (va_wsS RX2 17 yX2_within wsX2_within) := goodIn_app (goodIn_of _ (by decide +kernel)) ggX2_needed_X2_within
set_option maxRecDepth 20000 in
theorem ggX2_needed_X1_add : GoodIn wsX2_needed wsX1_add := goodIn_r _ [15, 16, 17, 18, 19, 20, 21, 74, 75, 76, 77, 78, 79, 80] (by decide +kernel) (by decide +kernel)
set_option maxRecDepth 20000 in
theorem gX2_needed_X1_add_n32 : GoodIn wsX2_needed (wsX1_add) := ggX2_needed_X1_add
set_option maxRecDepth 20000 in
theorem ggX2_needed_X1_setLastArea : GoodIn wsX2_needed wsX1_setLastArea := goodIn_r _ [24, 16, 17, 74, 75, 76, 77, 78, 79, 80] (by decide +kernel) (by decide +kernel)
set_option maxRecDepth 20000 in
theorem gX2_needed_X1_setLastArea_n131 : GoodIn wsX2_needed (wsX1_setLastArea) := ggX2_needed_X1_setLastArea
set_option maxRecDepth 20000 in
theorem ggX2_needed_X1_bendFor : GoodIn wsX2_needed wsX1_bendFor := goodIn_r _ [27, 28, 29, 30, 31, 32, 33, 34, 35, 36, 37, 13, 38, 39, 40, 41, 42, 16, 17, 18, 43, 44, 45, 46, 47, 19, 21, 48, 49, 50, 51, 52, 20, 53, 4, 54, 55, 56, 57, 58, 59, 60, 61, 74, 75, 76, 77, 78, 79, 80, 81, 82, 83, 84, 85] (by decide +kernel) (by decide +kernel)
set_option maxRecDepth 20000 in
theorem gX2_needed_X1_bendFor_n97 : GoodIn wsX2_needed (wsX1_bendFor) := ggX2_needed_X1_bendFor
set_option maxRecDepth 20000 in
theorem ggX2_needed_X2_isOfPlane : GoodIn wsX2_needed wsX2_isOfPlane := goodIn_r _ [64, 6, 7, 4, 8] (by decide +kernel) (by decide +kernel)
set_option maxRecDepth 20000 in
theorem gX2_needed_X2_isOfPlane : GoodIn wsX2_needed (va_wsS RX2 81 yX2_isOfPlane wsX2_isOfPlane) := goodIn_app (goodIn_of _ (by decide +kernel)) ggX2_needed_X2_isOfPlane
set_option maxRecDepth 20000 in
theorem ggX2_needed_X1_dropLast : GoodIn wsX2_needed wsX1_dropLast := goodIn_r _ [67, 16, 74, 75, 76, 77, 78, 79, 80] (by decide +kernel) (by decide +kernel)
set_option maxRecDepth 20000 in
theorem gX2_needed_X1_dropLast_n135 : GoodIn wsX2_needed (wsX1_dropLast) := ggX2_needed_X1_dropLast
theorem dX2_needed_0 : decode cX2_needed 0 = .ok (.iload_n 1, 1) := by decide +kernel
theorem dX2_needed_1 : decode cX2_needed 1 = .ok (.invokestatic 21, 3) := by decide +kernel
theorem dX2_needed_4 : decode cX2_needed 4 = .ok (.ifCond .eq 21, 3) := by decide +kernel
theorem dX2_needed_7 : decode cX2_needed 7 = .ok (.iload_n 2, 1) := by decide +kernel
theorem dX2_needed_8 : decode cX2_needed 8 = .ok (.invokestatic 25, 3) := by decide +kernel
theorem dX2_needed_11 : decode cX2_needed 11 = .ok (.ifCond .eq 14, 3) := by decide +kernel
theorem dX2_needed_14 : decode cX2_needed 14 = .ok (.iload_n 3, 1) := by decide +kernel
theorem dX2_needed_15 : decode cX2_needed 15 = .ok (.iconst 1, 1) := by decide +kernel
theorem dX2_needed_16 : decode cX2_needed 16 = .ok (.sipush 5000, 3) := by decide +kernel
theorem dX2_needed_19 : decode cX2_needed 19 = .ok (.invokestatic 17, 3) := by decide +kernel
theorem dX2_needed_22 : decode cX2_needed 22 = .ok (.ifCond .ne 5, 3) := by decide +kernel
theorem dX2_needed_25 : decode cX2_needed 25 = .ok (.iconst (-1), 1) := by decide +kernel
theorem dX2_needed_26 : decode cX2_needed 26 = .ok (.ireturn, 1) := by decide +kernel
theorem dX2_needed_27 : decode cX2_needed 27 = .ok (.iconst (-1), 1) := by decide +kernel
theorem dX2_needed_28 : decode cX2_needed 28 = .ok (.istore 8, 2) := by decide +kernel
theorem dX2_needed_30 : decode cX2_needed 30 = .ok (.aload_n 0, 1) := by decide +kernel
theorem dX2_needed_31 : decode cX2_needed 31 = .ok (.getfield 10, 3) := by decide +kernel
theorem dX2_needed_34 : decode cX2_needed 34 = .ok (.iconst 0, 1) := by decide +kernel
theorem dX2_needed_35 : decode cX2_needed 35 = .ok (.iload_n 1, 1) := by decide +kernel
theorem dX2_needed_36 : decode cX2_needed 36 = .ok (.iload_n 2, 1) := by decide +kernel
theorem dX2_needed_37 : decode cX2_needed 37 = .ok (.invokevirtual 32, 3) := by decide +kernel
theorem dX2_needed_40 : decode cX2_needed 40 = .ok (.iconst 0, 1) := by decide +kernel
theorem dX2_needed_41 : decode cX2_needed 41 = .ok (.istore 9, 2) := by decide +kernel
theorem dX2_needed_43 : decode cX2_needed 43 = .ok (.iload 9, 2) := by decide +kernel
theorem dX2_needed_45 : decode cX2_needed 45 = .ok (.bipush 20, 2) := by decide +kernel
theorem dX2_needed_47 : decode cX2_needed 47 = .ok (.if_icmp .gt 49, 3) := by decide +kernel
theorem dX2_needed_50 : decode cX2_needed 50 = .ok (.iload 8, 2) := by decide +kernel
theorem dX2_needed_52 : decode cX2_needed 52 = .ok (.iconst (-1), 1) := by decide +kernel
theorem dX2_needed_53 : decode cX2_needed 53 = .ok (.if_icmp .ne 43, 3) := by decide +kernel
theorem dX2_needed_56 : decode cX2_needed 56 = .ok (.aload_n 0, 1) := by decide +kernel
theorem dX2_needed_57 : decode cX2_needed 57 = .ok (.getfield 10, 3) := by decide +kernel
theorem dX2_needed_60 : decode cX2_needed 60 = .ok (.iload 9, 2) := by decide +kernel
theorem dX2_needed_62 : decode cX2_needed 62 = .ok (.iload_n 3, 1) := by decide +kernel
theorem dX2_needed_63 : decode cX2_needed 63 = .ok (.imul, 1) := by decide +kernel
theorem dX2_needed_64 : decode cX2_needed 64 = .ok (.invokevirtual 131, 3) := by decide +kernel
theorem dX2_needed_67 : decode cX2_needed 67 = .ok (.aload_n 0, 1) := by decide +kernel
theorem dX2_needed_68 : decode cX2_needed 68 = .ok (.getfield 10, 3) := by decide +kernel
theorem dX2_needed_71 : decode cX2_needed 71 = .ok (.lload 4, 2) := by decide +kernel
theorem dX2_needed_73 : decode cX2_needed 73 = .ok (.lload 6, 2) := by decide +kernel
theorem dX2_needed_75 : decode cX2_needed 75 = .ok (.invokevirtual 97, 3) := by decide +kernel
theorem dX2_needed_78 : decode cX2_needed 78 = .ok (.invokestatic 81, 3) := by decide +kernel
theorem dX2_needed_81 : decode cX2_needed 81 = .ok (.ifCond .eq 9, 3) := by decide +kernel
theorem dX2_needed_84 : decode cX2_needed 84 = .ok (.iload 9, 2) := by decide +kernel
theorem dX2_needed_86 : decode cX2_needed 86 = .ok (.iload_n 3, 1) := by decide +kernel
theorem dX2_needed_87 : decode cX2_needed 87 = .ok (.imul, 1) := by decide +kernel
theorem dX2_needed_88 : decode cX2_needed 88 = .ok (.istore 8, 2) := by decide +kernel
theorem dX2_needed_90 : decode cX2_needed 90 = .ok (.iinc 9 1, 3) := by decide +kernel
theorem dX2_needed_93 : decode cX2_needed 93 = .ok (.goto (-50), 3) := by decide +kernel
theorem dX2_needed_96 : decode cX2_needed 96 = .ok (.aload_n 0, 1) := by decide +kernel
theorem dX2_needed_97 : decode cX2_needed 97 = .ok (.getfield 10, 3) := by decide +kernel
theorem dX2_needed_100 : decode cX2_needed 100 = .ok (.invokevirtual 135, 3) := by decide +kernel
theorem dX2_needed_103 : decode cX2_needed 103 = .ok (.iload 8, 2) := by decide +kernel
theorem dX2_needed_105 : decode cX2_needed 105 = .ok (.ireturn, 1) := by decide +kernel
set_option maxRecDepth 20000 in
theorem ggX2_count_X1_allAreas : GoodIn wsX2_count wsX1_allAreas := goodIn_r _ [5, 6, 7, 18, 19, 20, 21, 22, 23, 24] (by decide +kernel) (by decide +kernel)
set_option maxRecDepth 20000 in
theorem gX2_count_X1_allAreas_n138 : GoodIn wsX2_count (wsX1_allAreas) := ggX2_count_X1_allAreas
set_option maxRecDepth 20000 in
theorem ggX2_count_X2_within : GoodIn wsX2_count wsX2_within := goodIn_r _ [11] (by decide +kernel) (by decide +kernel)
set_option maxRecDepth 20000 in
theorem gX2_count_X2_within : GoodIn wsX2_count (va_wsS RX2 17 yX2_within wsX2_within) := goodIn_app (goodIn_of _ (by decide +kernel)) ggX2_count_X2_within
theorem dX2_count_0 : decode cX2_count 0 = .ok (.iload_n 1, 1) := by decide +kernel
theorem dX2_count_1 : decode cX2_count 1 = .ok (.ifCond .ne 11, 3) := by decide +kernel
theorem dX2_count_4 : decode cX2_count 4 = .ok (.aload_n 0, 1) := by decide +kernel
theorem dX2_count_5 : decode cX2_count 5 = .ok (.getfield 10, 3) := by decide +kernel
theorem dX2_count_8 : decode cX2_count 8 = .ok (.getfield 28, 3) := by decide +kernel
theorem dX2_count_11 : decode cX2_count 11 = .ok (.ireturn, 1) := by decide +kernel
theorem dX2_count_12 : decode cX2_count 12 = .ok (.iload_n 1, 1) := by decide +kernel
theorem dX2_count_13 : decode cX2_count 13 = .ok (.iconst 1, 1) := by decide +kernel
theorem dX2_count_14 : decode cX2_count 14 = .ok (.if_icmp .ne 11, 3) := by decide +kernel
theorem dX2_count_17 : decode cX2_count 17 = .ok (.aload_n 0, 1) := by decide +kernel
theorem dX2_count_18 : decode cX2_count 18 = .ok (.getfield 10, 3) := by decide +kernel
theorem dX2_count_21 : decode cX2_count 21 = .ok (.invokevirtual 138, 3) := by decide +kernel
theorem dX2_count_24 : decode cX2_count 24 = .ok (.ireturn, 1) := by decide +kernel
theorem dX2_count_25 : decode cX2_count 25 = .ok (.iload_n 1, 1) := by decide +kernel
theorem dX2_count_26 : decode cX2_count 26 = .ok (.iconst 2, 1) := by decide +kernel
theorem dX2_count_27 : decode cX2_count 27 = .ok (.iconst 5, 1) := by decide +kernel
theorem dX2_count_28 : decode cX2_count 28 = .ok (.invokestatic 17, 3) := by decide +kernel
theorem dX2_count_31 : decode cX2_count 31 = .ok (.ifCond .eq 20, 3) := by decide +kernel
theorem dX2_count_34 : decode cX2_count 34 = .ok (.aload_n 0, 1) := by decide +kernel
theorem dX2_count_35 : decode cX2_count 35 = .ok (.getfield 10, 3) := by decide +kernel
theorem dX2_count_38 : decode cX2_count 38 = .ok (.getfield 45, 3) := by decide +kernel
theorem dX2_count_41 : decode cX2_count 41 = .ok (.getfield 142, 3) := by decide +kernel
theorem dX2_count_44 : decode cX2_count 44 = .ok (.iload_n 1, 1) := by decide +kernel
theorem dX2_count_45 : decode cX2_count 45 = .ok (.iconst 2, 1) := by decide +kernel
theorem dX2_count_46 : decode cX2_count 46 = .ok (.isub, 1) := by decide +kernel
theorem dX2_count_47 : decode cX2_count 47 = .ok (.iaload, 1) := by decide +kernel
theorem dX2_count_48 : decode cX2_count 48 = .ok (.goto 4, 3) := by decide +kernel
theorem dX2_count_51 : decode cX2_count 51 = .ok (.iconst (-1), 1) := by decide +kernel
theorem dX2_count_52 : decode cX2_count 52 = .ok (.ireturn, 1) := by decide +kernel
theorem dX2_within_0 : decode cX2_within 0 = .ok (.iload_n 0, 1) := by decide +kernel
theorem dX2_within_1 : decode cX2_within 1 = .ok (.iload_n 1, 1) := by decide +kernel
theorem dX2_within_2 : decode cX2_within 2 = .ok (.if_icmp .lt 12, 3) := by decide +kernel
theorem dX2_within_5 : decode cX2_within 5 = .ok (.iload_n 0, 1) := by decide +kernel
theorem dX2_within_6 : decode cX2_within 6 = .ok (.iload_n 2, 1) := by decide +kernel
theorem dX2_within_7 : decode cX2_within 7 = .ok (.if_icmp .gt 7, 3) := by decide +kernel
theorem dX2_within_10 : decode cX2_within 10 = .ok (.iconst 1, 1) := by decide +kernel
theorem dX2_within_11 : decode cX2_within 11 = .ok (.goto 4, 3) := by decide +kernel
theorem dX2_within_14 : decode cX2_within 14 = .ok (.iconst 0, 1) := by decide +kernel
theorem dX2_within_15 : decode cX2_within 15 = .ok (.ireturn, 1) := by decide +kernel
set_option maxRecDepth 20000 in
theorem ggX2_isKind_X2_within : GoodIn wsX2_isKind wsX2_within := goodIn_r _ [4] (by decide +kernel) (by decide +kernel)
set_option maxRecDepth 20000 in
theorem gX2_isKind_X2_within : GoodIn wsX2_isKind (va_wsS RX2 17 yX2_within wsX2_within) := goodIn_app (goodIn_of _ (by decide +kernel)) ggX2_isKind_X2_within
theorem dX2_isKind_0 : decode cX2_isKind 0 = .ok (.iload_n 0, 1) := by decide +kernel
theorem dX2_isKind_1 : decode cX2_isKind 1 = .ok (.iconst 0, 1) := by decide +kernel
theorem dX2_isKind_2 : decode cX2_isKind 2 = .ok (.iconst 3, 1) := by decide +kernel
theorem dX2_isKind_3 : decode cX2_isKind 3 = .ok (.invokestatic 17, 3) := by decide +kernel
theorem dX2_isKind_6 : decode cX2_isKind 6 = .ok (.ireturn, 1) := by decide +kernel
set_option maxRecDepth 20000 in
theorem ggX2_isPlace_X2_within : GoodIn wsX2_isPlace wsX2_within := goodIn_r _ [4] (by decide +kernel) (by decide +kernel)
set_option maxRecDepth 20000 in
theorem gX2_isPlace_X2_within : GoodIn wsX2_isPlace (va_wsS RX2 17 yX2_within wsX2_within) := goodIn_app (goodIn_of _ (by decide +kernel)) ggX2_isPlace_X2_within
theorem dX2_isPlace_0 : decode cX2_isPlace 0 = .ok (.iload_n 0, 1) := by decide +kernel
theorem dX2_isPlace_1 : decode cX2_isPlace 1 = .ok (.sipush (-2000), 3) := by decide +kernel
theorem dX2_isPlace_4 : decode cX2_isPlace 4 = .ok (.sipush 2000, 3) := by decide +kernel
theorem dX2_isPlace_7 : decode cX2_isPlace 7 = .ok (.invokestatic 17, 3) := by decide +kernel
theorem dX2_isPlace_10 : decode cX2_isPlace 10 = .ok (.ireturn, 1) := by decide +kernel
set_option maxRecDepth 20000 in
theorem ggX2_isToldStrain_X2_within : GoodIn wsX2_isToldStrain wsX2_within := goodIn_r _ [4] (by decide +kernel) (by decide +kernel)
set_option maxRecDepth 20000 in
theorem gX2_isToldStrain_X2_within : GoodIn wsX2_isToldStrain (va_wsS RX2 17 yX2_within wsX2_within) := goodIn_app (goodIn_of _ (by decide +kernel)) ggX2_isToldStrain_X2_within
theorem dX2_isToldStrain_0 : decode cX2_isToldStrain 0 = .ok (.iload_n 0, 1) := by decide +kernel
theorem dX2_isToldStrain_1 : decode cX2_isToldStrain 1 = .ok (.sipush (-30000), 3) := by decide +kernel
theorem dX2_isToldStrain_4 : decode cX2_isToldStrain 4 = .ok (.sipush 30000, 3) := by decide +kernel
theorem dX2_isToldStrain_7 : decode cX2_isToldStrain 7 = .ok (.invokestatic 17, 3) := by decide +kernel
theorem dX2_isToldStrain_10 : decode cX2_isToldStrain 10 = .ok (.ireturn, 1) := by decide +kernel
set_option maxRecDepth 20000 in
theorem ggX2_isOfPlane_X2_within : GoodIn wsX2_isOfPlane wsX2_within := goodIn_r _ [4] (by decide +kernel) (by decide +kernel)
set_option maxRecDepth 20000 in
theorem gX2_isOfPlane_X2_within : GoodIn wsX2_isOfPlane (va_wsS RX2 17 yX2_within wsX2_within) := goodIn_app (goodIn_of _ (by decide +kernel)) ggX2_isOfPlane_X2_within
theorem dX2_isOfPlane_0 : decode cX2_isOfPlane 0 = .ok (.iload_n 0, 1) := by decide +kernel
theorem dX2_isOfPlane_1 : decode cX2_isOfPlane 1 = .ok (.sipush (-20000), 3) := by decide +kernel
theorem dX2_isOfPlane_4 : decode cX2_isOfPlane 4 = .ok (.sipush 20000, 3) := by decide +kernel
theorem dX2_isOfPlane_7 : decode cX2_isOfPlane 7 = .ok (.invokestatic 17, 3) := by decide +kernel
theorem dX2_isOfPlane_10 : decode cX2_isOfPlane 10 = .ok (.ireturn, 1) := by decide +kernel
theorem dX2_isSum_0 : decode cX2_isSum 0 = .ok (.iload_n 0, 1) := by decide +kernel
theorem dX2_isSum_1 : decode cX2_isSum 1 = .ok (.ifCond .eq 8, 3) := by decide +kernel
theorem dX2_isSum_4 : decode cX2_isSum 4 = .ok (.iload_n 0, 1) := by decide +kernel
theorem dX2_isSum_5 : decode cX2_isSum 5 = .ok (.iconst 1, 1) := by decide +kernel
theorem dX2_isSum_6 : decode cX2_isSum 6 = .ok (.if_icmp .ne 7, 3) := by decide +kernel
theorem dX2_isSum_9 : decode cX2_isSum 9 = .ok (.iconst 1, 1) := by decide +kernel
theorem dX2_isSum_10 : decode cX2_isSum 10 = .ok (.goto 4, 3) := by decide +kernel
theorem dX2_isSum_13 : decode cX2_isSum 13 = .ok (.iconst 0, 1) := by decide +kernel
theorem dX2_isSum_14 : decode cX2_isSum 14 = .ok (.ireturn, 1) := by decide +kernel
set_option maxRecDepth 20000 in
theorem ggX2_isBendStep_X2_within : GoodIn wsX2_isBendStep wsX2_within := goodIn_r _ [4] (by decide +kernel) (by decide +kernel)
set_option maxRecDepth 20000 in
theorem gX2_isBendStep_X2_within : GoodIn wsX2_isBendStep (va_wsS RX2 17 yX2_within wsX2_within) := goodIn_app (goodIn_of _ (by decide +kernel)) ggX2_isBendStep_X2_within
theorem dX2_isBendStep_0 : decode cX2_isBendStep 0 = .ok (.iload_n 0, 1) := by decide +kernel
theorem dX2_isBendStep_1 : decode cX2_isBendStep 1 = .ok (.iconst 1, 1) := by decide +kernel
theorem dX2_isBendStep_2 : decode cX2_isBendStep 2 = .ok (.sipush 1000, 3) := by decide +kernel
theorem dX2_isBendStep_5 : decode cX2_isBendStep 5 = .ok (.invokestatic 17, 3) := by decide +kernel
theorem dX2_isBendStep_8 : decode cX2_isBendStep 8 = .ok (.ireturn, 1) := by decide +kernel
theorem dX2_share_0 : decode cX2_share 0 = .ok (.lload 4, 2) := by decide +kernel
theorem dX2_share_2 : decode cX2_share 2 = .ok (.lconst 0, 1) := by decide +kernel
theorem dX2_share_3 : decode cX2_share 3 = .ok (.lcmp, 1) := by decide +kernel
theorem dX2_share_4 : decode cX2_share 4 = .ok (.ifCond .ne 7, 3) := by decide +kernel
theorem dX2_share_7 : decode cX2_share 7 = .ok (.iconst 0, 1) := by decide +kernel
theorem dX2_share_8 : decode cX2_share 8 = .ok (.goto 10, 3) := by decide +kernel
theorem dX2_share_11 : decode cX2_share 11 = .ok (.lload_n 0, 1) := by decide +kernel
theorem dX2_share_12 : decode cX2_share 12 = .ok (.lload_n 2, 1) := by decide +kernel
theorem dX2_share_13 : decode cX2_share 13 = .ok (.lmul, 1) := by decide +kernel
theorem dX2_share_14 : decode cX2_share 14 = .ok (.lload 4, 2) := by decide +kernel
theorem dX2_share_16 : decode cX2_share 16 = .ok (.ldiv, 1) := by decide +kernel
theorem dX2_share_17 : decode cX2_share 17 = .ok (.l2i, 1) := by decide +kernel
theorem dX2_share_18 : decode cX2_share 18 = .ok (.ireturn, 1) := by decide +kernel
