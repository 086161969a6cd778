theorem dX4_init_0 : decode cX4_init 0 = .ok (.aload_n 0, 1) := by decide +kernel
theorem dX4_init_1 : decode cX4_init 1 = .ok (.invokespecial 1, 3) := by decide +kernel
theorem dX4_init_4 : decode cX4_init 4 = .ok (.aload_n 0, 1) := by decide +kernel
theorem dX4_init_5 : decode cX4_init 5 = .ok (.sipush 288, 3) := by decide +kernel
theorem dX4_init_8 : decode cX4_init 8 = .ok (.newarray .int, 2) := by decide +kernel
theorem dX4_init_10 : decode cX4_init 10 = .ok (.putfield 7, 3) := by decide +kernel
theorem dX4_init_13 : decode cX4_init 13 = .ok (.aload_n 0, 1) := by decide +kernel
theorem dX4_init_14 : decode cX4_init 14 = .ok (.bipush 48, 2) := by decide +kernel
theorem dX4_init_16 : decode cX4_init 16 = .ok (.newarray .int, 2) := by decide +kernel
theorem dX4_init_18 : decode cX4_init 18 = .ok (.putfield 13, 3) := by decide +kernel
theorem dX4_init_21 : decode cX4_init 21 = .ok (.aload_n 0, 1) := by decide +kernel
theorem dX4_init_22 : decode cX4_init 22 = .ok (.bipush 48, 2) := by decide +kernel
theorem dX4_init_24 : decode cX4_init 24 = .ok (.newarray .int, 2) := by decide +kernel
theorem dX4_init_26 : decode cX4_init 26 = .ok (.putfield 16, 3) := by decide +kernel
theorem dX4_init_29 : decode cX4_init 29 = .ok (.aload_n 0, 1) := by decide +kernel
theorem dX4_init_30 : decode cX4_init 30 = .ok (.bipush 24, 2) := by decide +kernel
theorem dX4_init_32 : decode cX4_init 32 = .ok (.newarray .int, 2) := by decide +kernel
theorem dX4_init_34 : decode cX4_init 34 = .ok (.putfield 19, 3) := by decide +kernel
theorem dX4_init_37 : decode cX4_init 37 = .ok (.aload_n 0, 1) := by decide +kernel
theorem dX4_init_38 : decode cX4_init 38 = .ok (.bipush 24, 2) := by decide +kernel
theorem dX4_init_40 : decode cX4_init 40 = .ok (.newarray .int, 2) := by decide +kernel
theorem dX4_init_42 : decode cX4_init 42 = .ok (.putfield 22, 3) := by decide +kernel
theorem dX4_init_45 : decode cX4_init 45 = .ok (.aload_n 0, 1) := by decide +kernel
theorem dX4_init_46 : decode cX4_init 46 = .ok (.bipush 24, 2) := by decide +kernel
theorem dX4_init_48 : decode cX4_init 48 = .ok (.newarray .int, 2) := by decide +kernel
theorem dX4_init_50 : decode cX4_init 50 = .ok (.putfield 25, 3) := by decide +kernel
theorem dX4_init_53 : decode cX4_init 53 = .ok (.aload_n 0, 1) := by decide +kernel
theorem dX4_init_54 : decode cX4_init 54 = .ok (.iconst 4, 1) := by decide +kernel
theorem dX4_init_55 : decode cX4_init 55 = .ok (.newarray .int, 2) := by decide +kernel
theorem dX4_init_57 : decode cX4_init 57 = .ok (.putfield 28, 3) := by decide +kernel
theorem dX4_init_60 : decode cX4_init 60 = .ok (.aload_n 0, 1) := by decide +kernel
theorem dX4_init_61 : decode cX4_init 61 = .ok (.bipush 16, 2) := by decide +kernel
theorem dX4_init_63 : decode cX4_init 63 = .ok (.newarray .int, 2) := by decide +kernel
theorem dX4_init_65 : decode cX4_init 65 = .ok (.putfield 31, 3) := by decide +kernel
theorem dX4_init_68 : decode cX4_init 68 = .ok (.aload_n 0, 1) := by decide +kernel
theorem dX4_init_69 : decode cX4_init 69 = .ok (.bipush 8, 2) := by decide +kernel
theorem dX4_init_71 : decode cX4_init 71 = .ok (.newarray .int, 2) := by decide +kernel
theorem dX4_init_73 : decode cX4_init 73 = .ok (.putfield 34, 3) := by decide +kernel
theorem dX4_init_76 : decode cX4_init 76 = .ok (.aload_n 0, 1) := by decide +kernel
theorem dX4_init_77 : decode cX4_init 77 = .ok (.iconst (-1), 1) := by decide +kernel
theorem dX4_init_78 : decode cX4_init 78 = .ok (.putfield 37, 3) := by decide +kernel
theorem dX4_init_81 : decode cX4_init 81 = .ok (.return_, 1) := by decide +kernel
theorem dX4_within_0 : decode cX4_within 0 = .ok (.iload_n 0, 1) := by decide +kernel
theorem dX4_within_1 : decode cX4_within 1 = .ok (.ifCond .lt 12, 3) := by decide +kernel
theorem dX4_within_4 : decode cX4_within 4 = .ok (.iload_n 0, 1) := by decide +kernel
theorem dX4_within_5 : decode cX4_within 5 = .ok (.iload_n 1, 1) := by decide +kernel
theorem dX4_within_6 : decode cX4_within 6 = .ok (.if_icmp .gt 7, 3) := by decide +kernel
theorem dX4_within_9 : decode cX4_within 9 = .ok (.iconst 1, 1) := by decide +kernel
theorem dX4_within_10 : decode cX4_within 10 = .ok (.goto 4, 3) := by decide +kernel
theorem dX4_within_13 : decode cX4_within 13 = .ok (.iconst 0, 1) := by decide +kernel
theorem dX4_within_14 : decode cX4_within 14 = .ok (.ireturn, 1) := by decide +kernel
set_option maxRecDepth 20000 in
theorem ggX4_fits_X4_within : GoodIn wsX4_fits wsX4_within := goodIn_r _ [4] (by decide +kernel) (by decide +kernel)
set_option maxRecDepth 20000 in
theorem gX4_fits_X4_within : GoodIn wsX4_fits (va_wsS RX4 41 yX4_within wsX4_within) := goodIn_app (goodIn_of _ (by decide +kernel)) ggX4_fits_X4_within
theorem dX4_fits_0 : decode cX4_fits 0 = .ok (.iload_n 0, 1) := by decide +kernel
theorem dX4_fits_1 : decode cX4_fits 1 = .ok (.bipush 9, 2) := by decide +kernel
theorem dX4_fits_3 : decode cX4_fits 3 = .ok (.invokestatic 41, 3) := by decide +kernel
theorem dX4_fits_6 : decode cX4_fits 6 = .ok (.ifCond .ne 5, 3) := by decide +kernel
theorem dX4_fits_9 : decode cX4_fits 9 = .ok (.iconst 0, 1) := by decide +kernel
theorem dX4_fits_10 : decode cX4_fits 10 = .ok (.ireturn, 1) := by decide +kernel
theorem dX4_fits_11 : decode cX4_fits 11 = .ok (.iload_n 0, 1) := by decide +kernel
theorem dX4_fits_12 : decode cX4_fits 12 = .ok (.ifCond .eq 19, 3) := by decide +kernel
theorem dX4_fits_15 : decode cX4_fits 15 = .ok (.iload_n 0, 1) := by decide +kernel
theorem dX4_fits_16 : decode cX4_fits 16 = .ok (.bipush 6, 2) := by decide +kernel
theorem dX4_fits_18 : decode cX4_fits 18 = .ok (.if_icmp .eq 13, 3) := by decide +kernel
theorem dX4_fits_21 : decode cX4_fits 21 = .ok (.iload_n 1, 1) := by decide +kernel
theorem dX4_fits_22 : decode cX4_fits 22 = .ok (.iconst 3, 1) := by decide +kernel
theorem dX4_fits_23 : decode cX4_fits 23 = .ok (.invokestatic 41, 3) := by decide +kernel
theorem dX4_fits_26 : decode cX4_fits 26 = .ok (.ifCond .ne 5, 3) := by decide +kernel
theorem dX4_fits_29 : decode cX4_fits 29 = .ok (.iconst 0, 1) := by decide +kernel
theorem dX4_fits_30 : decode cX4_fits 30 = .ok (.ireturn, 1) := by decide +kernel
theorem dX4_fits_31 : decode cX4_fits 31 = .ok (.iload_n 0, 1) := by decide +kernel
theorem dX4_fits_32 : decode cX4_fits 32 = .ok (.iconst 4, 1) := by decide +kernel
theorem dX4_fits_33 : decode cX4_fits 33 = .ok (.if_icmp .ne 11, 3) := by decide +kernel
theorem dX4_fits_36 : decode cX4_fits 36 = .ok (.iload_n 2, 1) := by decide +kernel
theorem dX4_fits_37 : decode cX4_fits 37 = .ok (.iconst 3, 1) := by decide +kernel
theorem dX4_fits_38 : decode cX4_fits 38 = .ok (.invokestatic 41, 3) := by decide +kernel
theorem dX4_fits_41 : decode cX4_fits 41 = .ok (.ifCond .eq 22, 3) := by decide +kernel
theorem dX4_fits_44 : decode cX4_fits 44 = .ok (.iload_n 0, 1) := by decide +kernel
theorem dX4_fits_45 : decode cX4_fits 45 = .ok (.iconst 2, 1) := by decide +kernel
theorem dX4_fits_46 : decode cX4_fits 46 = .ok (.if_icmp .eq 8, 3) := by decide +kernel
theorem dX4_fits_49 : decode cX4_fits 49 = .ok (.iload_n 0, 1) := by decide +kernel
theorem dX4_fits_50 : decode cX4_fits 50 = .ok (.iconst 3, 1) := by decide +kernel
theorem dX4_fits_51 : decode cX4_fits 51 = .ok (.if_icmp .ne 14, 3) := by decide +kernel
theorem dX4_fits_54 : decode cX4_fits 54 = .ok (.iload_n 2, 1) := by decide +kernel
theorem dX4_fits_55 : decode cX4_fits 55 = .ok (.bipush 15, 2) := by decide +kernel
theorem dX4_fits_57 : decode cX4_fits 57 = .ok (.invokestatic 41, 3) := by decide +kernel
theorem dX4_fits_60 : decode cX4_fits 60 = .ok (.ifCond .ne 5, 3) := by decide +kernel
theorem dX4_fits_63 : decode cX4_fits 63 = .ok (.iconst 0, 1) := by decide +kernel
theorem dX4_fits_64 : decode cX4_fits 64 = .ok (.ireturn, 1) := by decide +kernel
theorem dX4_fits_65 : decode cX4_fits 65 = .ok (.iload_n 0, 1) := by decide +kernel
theorem dX4_fits_66 : decode cX4_fits 66 = .ok (.bipush 6, 2) := by decide +kernel
theorem dX4_fits_68 : decode cX4_fits 68 = .ok (.if_icmp .ne 14, 3) := by decide +kernel
theorem dX4_fits_71 : decode cX4_fits 71 = .ok (.iload_n 1, 1) := by decide +kernel
theorem dX4_fits_72 : decode cX4_fits 72 = .ok (.bipush 23, 2) := by decide +kernel
theorem dX4_fits_74 : decode cX4_fits 74 = .ok (.invokestatic 41, 3) := by decide +kernel
theorem dX4_fits_77 : decode cX4_fits 77 = .ok (.ifCond .ne 5, 3) := by decide +kernel
theorem dX4_fits_80 : decode cX4_fits 80 = .ok (.iconst 0, 1) := by decide +kernel
theorem dX4_fits_81 : decode cX4_fits 81 = .ok (.ireturn, 1) := by decide +kernel
theorem dX4_fits_82 : decode cX4_fits 82 = .ok (.iload_n 0, 1) := by decide +kernel
theorem dX4_fits_83 : decode cX4_fits 83 = .ok (.bipush 7, 2) := by decide +kernel
theorem dX4_fits_85 : decode cX4_fits 85 = .ok (.if_icmp .eq 9, 3) := by decide +kernel
theorem dX4_fits_88 : decode cX4_fits 88 = .ok (.iload_n 0, 1) := by decide +kernel
theorem dX4_fits_89 : decode cX4_fits 89 = .ok (.bipush 9, 2) := by decide +kernel
theorem dX4_fits_91 : decode cX4_fits 91 = .ok (.if_icmp .ne 12, 3) := by decide +kernel
theorem dX4_fits_94 : decode cX4_fits 94 = .ok (.iload_n 2, 1) := by decide +kernel
theorem dX4_fits_95 : decode cX4_fits 95 = .ok (.bipush 23, 2) := by decide +kernel
theorem dX4_fits_97 : decode cX4_fits 97 = .ok (.invokestatic 41, 3) := by decide +kernel
theorem dX4_fits_100 : decode cX4_fits 100 = .ok (.ifCond .eq 7, 3) := by decide +kernel
theorem dX4_fits_103 : decode cX4_fits 103 = .ok (.iconst 1, 1) := by decide +kernel
theorem dX4_fits_104 : decode cX4_fits 104 = .ok (.goto 4, 3) := by decide +kernel
theorem dX4_fits_107 : decode cX4_fits 107 = .ok (.iconst 0, 1) := by decide +kernel
theorem dX4_fits_108 : decode cX4_fits 108 = .ok (.ireturn, 1) := by decide +kernel
theorem dX4_undo_0 : decode cX4_undo 0 = .ok (.aload_n 0, 1) := by decide +kernel
theorem dX4_undo_1 : decode cX4_undo 1 = .ok (.iconst 0, 1) := by decide +kernel
theorem dX4_undo_2 : decode cX4_undo 2 = .ok (.putfield 45, 3) := by decide +kernel
theorem dX4_undo_5 : decode cX4_undo 5 = .ok (.aload_n 0, 1) := by decide +kernel
theorem dX4_undo_6 : decode cX4_undo 6 = .ok (.iconst (-1), 1) := by decide +kernel
theorem dX4_undo_7 : decode cX4_undo 7 = .ok (.putfield 37, 3) := by decide +kernel
theorem dX4_undo_10 : decode cX4_undo 10 = .ok (.return_, 1) := by decide +kernel
set_option maxRecDepth 20000 in
theorem ggX4_add_X4_fits : GoodIn wsX4_add wsX4_fits := goodIn_r _ [6, 7, 8, 5, 9] (by decide +kernel) (by decide +kernel)
set_option maxRecDepth 20000 in
theorem gX4_add_X4_fits : GoodIn wsX4_add (va_wsS RX4 48 yX4_fits wsX4_fits) := goodIn_app (goodIn_of _ (by decide +kernel)) ggX4_add_X4_fits
set_option maxRecDepth 20000 in
theorem ggX4_add_X4_undo : GoodIn wsX4_add wsX4_undo := goodIn_r _ [13, 14, 15, 16, 17, 18, 19, 20, 21, 22, 23, 24, 25, 26, 27, 28, 29, 30, 31, 32] (by decide +kernel) (by decide +kernel)
set_option maxRecDepth 20000 in
theorem gX4_add_X4_undo : GoodIn wsX4_add (wsV RX4 55 RX4 yX4_undo wsX4_undo) := goodIn_app (goodIn_of _ (by decide +kernel)) ggX4_add_X4_undo
theorem dX4_add_0 : decode cX4_add 0 = .ok (.iload_n 1, 1) := by decide +kernel
theorem dX4_add_1 : decode cX4_add 1 = .ok (.iload_n 2, 1) := by decide +kernel
theorem dX4_add_2 : decode cX4_add 2 = .ok (.iload_n 3, 1) := by decide +kernel
theorem dX4_add_3 : decode cX4_add 3 = .ok (.invokestatic 48, 3) := by decide +kernel
theorem dX4_add_6 : decode cX4_add 6 = .ok (.ifCond .ne 5, 3) := by decide +kernel
theorem dX4_add_9 : decode cX4_add 9 = .ok (.iconst (-1), 1) := by decide +kernel
theorem dX4_add_10 : decode cX4_add 10 = .ok (.ireturn, 1) := by decide +kernel
theorem dX4_add_11 : decode cX4_add 11 = .ok (.aload_n 0, 1) := by decide +kernel
theorem dX4_add_12 : decode cX4_add 12 = .ok (.getfield 52, 3) := by decide +kernel
theorem dX4_add_15 : decode cX4_add 15 = .ok (.bipush 24, 2) := by decide +kernel
theorem dX4_add_17 : decode cX4_add 17 = .ok (.if_icmp .ne 6, 3) := by decide +kernel
theorem dX4_add_20 : decode cX4_add 20 = .ok (.bipush (-2), 2) := by decide +kernel
theorem dX4_add_22 : decode cX4_add 22 = .ok (.ireturn, 1) := by decide +kernel
theorem dX4_add_23 : decode cX4_add 23 = .ok (.aload_n 0, 1) := by decide +kernel
theorem dX4_add_24 : decode cX4_add 24 = .ok (.getfield 7, 3) := by decide +kernel
theorem dX4_add_27 : decode cX4_add 27 = .ok (.iconst 3, 1) := by decide +kernel
theorem dX4_add_28 : decode cX4_add 28 = .ok (.aload_n 0, 1) := by decide +kernel
theorem dX4_add_29 : decode cX4_add 29 = .ok (.getfield 52, 3) := by decide +kernel
theorem dX4_add_32 : decode cX4_add 32 = .ok (.imul, 1) := by decide +kernel
theorem dX4_add_33 : decode cX4_add 33 = .ok (.iload_n 1, 1) := by decide +kernel
theorem dX4_add_34 : decode cX4_add 34 = .ok (.iastore, 1) := by decide +kernel
theorem dX4_add_35 : decode cX4_add 35 = .ok (.aload_n 0, 1) := by decide +kernel
theorem dX4_add_36 : decode cX4_add 36 = .ok (.getfield 7, 3) := by decide +kernel
theorem dX4_add_39 : decode cX4_add 39 = .ok (.iconst 3, 1) := by decide +kernel
theorem dX4_add_40 : decode cX4_add 40 = .ok (.aload_n 0, 1) := by decide +kernel
theorem dX4_add_41 : decode cX4_add 41 = .ok (.getfield 52, 3) := by decide +kernel
theorem dX4_add_44 : decode cX4_add 44 = .ok (.imul, 1) := by decide +kernel
theorem dX4_add_45 : decode cX4_add 45 = .ok (.iconst 1, 1) := by decide +kernel
theorem dX4_add_46 : decode cX4_add 46 = .ok (.iadd, 1) := by decide +kernel
theorem dX4_add_47 : decode cX4_add 47 = .ok (.iload_n 2, 1) := by decide +kernel
theorem dX4_add_48 : decode cX4_add 48 = .ok (.iastore, 1) := by decide +kernel
theorem dX4_add_49 : decode cX4_add 49 = .ok (.aload_n 0, 1) := by decide +kernel
theorem dX4_add_50 : decode cX4_add 50 = .ok (.getfield 7, 3) := by decide +kernel
theorem dX4_add_53 : decode cX4_add 53 = .ok (.iconst 3, 1) := by decide +kernel
theorem dX4_add_54 : decode cX4_add 54 = .ok (.aload_n 0, 1) := by decide +kernel
theorem dX4_add_55 : decode cX4_add 55 = .ok (.getfield 52, 3) := by decide +kernel
theorem dX4_add_58 : decode cX4_add 58 = .ok (.imul, 1) := by decide +kernel
theorem dX4_add_59 : decode cX4_add 59 = .ok (.iconst 2, 1) := by decide +kernel
theorem dX4_add_60 : decode cX4_add 60 = .ok (.iadd, 1) := by decide +kernel
theorem dX4_add_61 : decode cX4_add 61 = .ok (.iload_n 3, 1) := by decide +kernel
theorem dX4_add_62 : decode cX4_add 62 = .ok (.iastore, 1) := by decide +kernel
theorem dX4_add_63 : decode cX4_add 63 = .ok (.aload_n 0, 1) := by decide +kernel
theorem dX4_add_64 : decode cX4_add 64 = .ok (.aload_n 0, 1) := by decide +kernel
theorem dX4_add_65 : decode cX4_add 65 = .ok (.getfield 52, 3) := by decide +kernel
theorem dX4_add_68 : decode cX4_add 68 = .ok (.iconst 1, 1) := by decide +kernel
theorem dX4_add_69 : decode cX4_add 69 = .ok (.iadd, 1) := by decide +kernel
theorem dX4_add_70 : decode cX4_add 70 = .ok (.putfield 52, 3) := by decide +kernel
theorem dX4_add_73 : decode cX4_add 73 = .ok (.aload_n 0, 1) := by decide +kernel
theorem dX4_add_74 : decode cX4_add 74 = .ok (.invokevirtual 55, 3) := by decide +kernel
theorem dX4_add_77 : decode cX4_add 77 = .ok (.aload_n 0, 1) := by decide +kernel
theorem dX4_add_78 : decode cX4_add 78 = .ok (.getfield 52, 3) := by decide +kernel
theorem dX4_add_81 : decode cX4_add 81 = .ok (.iconst 1, 1) := by decide +kernel
theorem dX4_add_82 : decode cX4_add 82 = .ok (.isub, 1) := by decide +kernel
theorem dX4_add_83 : decode cX4_add 83 = .ok (.ireturn, 1) := by decide +kernel
set_option maxRecDepth 20000 in
theorem ggX4_allow_X4_within : GoodIn wsX4_allow wsX4_within := goodIn_r _ [9] (by decide +kernel) (by decide +kernel)
set_option maxRecDepth 20000 in
theorem gX4_allow_X4_within : GoodIn wsX4_allow (va_wsS RX4 41 yX4_within wsX4_within) := goodIn_app (goodIn_of _ (by decide +kernel)) ggX4_allow_X4_within
set_option maxRecDepth 20000 in
theorem ggX4_allow_X4_undo : GoodIn wsX4_allow wsX4_undo := goodIn_r _ [13, 14, 15, 16, 17, 18, 19, 20, 21, 22, 23, 24, 25, 26, 27, 28, 29, 30, 31, 32] (by decide +kernel) (by decide +kernel)
set_option maxRecDepth 20000 in
theorem gX4_allow_X4_undo : GoodIn wsX4_allow (wsV RX4 55 RX4 yX4_undo wsX4_undo) := goodIn_app (goodIn_of _ (by decide +kernel)) ggX4_allow_X4_undo
theorem dX4_allow_0 : decode cX4_allow 0 = .ok (.iload_n 1, 1) := by decide +kernel
theorem dX4_allow_1 : decode cX4_allow 1 = .ok (.aload_n 0, 1) := by decide +kernel
theorem dX4_allow_2 : decode cX4_allow 2 = .ok (.getfield 52, 3) := by decide +kernel
theorem dX4_allow_5 : decode cX4_allow 5 = .ok (.iconst 1, 1) := by decide +kernel
theorem dX4_allow_6 : decode cX4_allow 6 = .ok (.isub, 1) := by decide +kernel
theorem dX4_allow_7 : decode cX4_allow 7 = .ok (.invokestatic 41, 3) := by decide +kernel
theorem dX4_allow_10 : decode cX4_allow 10 = .ok (.ifCond .eq 38, 3) := by decide +kernel
theorem dX4_allow_13 : decode cX4_allow 13 = .ok (.iload_n 2, 1) := by decide +kernel
theorem dX4_allow_14 : decode cX4_allow 14 = .ok (.aload_n 0, 1) := by decide +kernel
theorem dX4_allow_15 : decode cX4_allow 15 = .ok (.getfield 52, 3) := by decide +kernel
theorem dX4_allow_18 : decode cX4_allow 18 = .ok (.iconst 1, 1) := by decide +kernel
theorem dX4_allow_19 : decode cX4_allow 19 = .ok (.isub, 1) := by decide +kernel
theorem dX4_allow_20 : decode cX4_allow 20 = .ok (.invokestatic 41, 3) := by decide +kernel
theorem dX4_allow_23 : decode cX4_allow 23 = .ok (.ifCond .eq 25, 3) := by decide +kernel
theorem dX4_allow_26 : decode cX4_allow 26 = .ok (.aload_n 0, 1) := by decide +kernel
theorem dX4_allow_27 : decode cX4_allow 27 = .ok (.getfield 7, 3) := by decide +kernel
theorem dX4_allow_30 : decode cX4_allow 30 = .ok (.iconst 3, 1) := by decide +kernel
theorem dX4_allow_31 : decode cX4_allow 31 = .ok (.iload_n 1, 1) := by decide +kernel
theorem dX4_allow_32 : decode cX4_allow 32 = .ok (.imul, 1) := by decide +kernel
theorem dX4_allow_33 : decode cX4_allow 33 = .ok (.iaload, 1) := by decide +kernel
theorem dX4_allow_34 : decode cX4_allow 34 = .ok (.bipush 8, 2) := by decide +kernel
theorem dX4_allow_36 : decode cX4_allow 36 = .ok (.if_icmp .ne 12, 3) := by decide +kernel
theorem dX4_allow_39 : decode cX4_allow 39 = .ok (.aload_n 0, 1) := by decide +kernel
theorem dX4_allow_40 : decode cX4_allow 40 = .ok (.getfield 58, 3) := by decide +kernel
theorem dX4_allow_43 : decode cX4_allow 43 = .ok (.bipush 48, 2) := by decide +kernel
theorem dX4_allow_45 : decode cX4_allow 45 = .ok (.if_icmp .ne 5, 3) := by decide +kernel
theorem dX4_allow_48 : decode cX4_allow 48 = .ok (.iconst 0, 1) := by decide +kernel
theorem dX4_allow_49 : decode cX4_allow 49 = .ok (.ireturn, 1) := by decide +kernel
theorem dX4_allow_50 : decode cX4_allow 50 = .ok (.iconst 0, 1) := by decide +kernel
theorem dX4_allow_51 : decode cX4_allow 51 = .ok (.istore_n 3, 1) := by decide +kernel
theorem dX4_allow_52 : decode cX4_allow 52 = .ok (.iload_n 3, 1) := by decide +kernel
theorem dX4_allow_53 : decode cX4_allow 53 = .ok (.aload_n 0, 1) := by decide +kernel
theorem dX4_allow_54 : decode cX4_allow 54 = .ok (.getfield 58, 3) := by decide +kernel
theorem dX4_allow_57 : decode cX4_allow 57 = .ok (.if_icmp .ge 31, 3) := by decide +kernel
theorem dX4_allow_60 : decode cX4_allow 60 = .ok (.aload_n 0, 1) := by decide +kernel
theorem dX4_allow_61 : decode cX4_allow 61 = .ok (.getfield 13, 3) := by decide +kernel
theorem dX4_allow_64 : decode cX4_allow 64 = .ok (.iload_n 3, 1) := by decide +kernel
theorem dX4_allow_65 : decode cX4_allow 65 = .ok (.iaload, 1) := by decide +kernel
theorem dX4_allow_66 : decode cX4_allow 66 = .ok (.iload_n 1, 1) := by decide +kernel
theorem dX4_allow_67 : decode cX4_allow 67 = .ok (.if_icmp .ne 15, 3) := by decide +kernel
theorem dX4_allow_70 : decode cX4_allow 70 = .ok (.aload_n 0, 1) := by decide +kernel
theorem dX4_allow_71 : decode cX4_allow 71 = .ok (.getfield 16, 3) := by decide +kernel
theorem dX4_allow_74 : decode cX4_allow 74 = .ok (.iload_n 3, 1) := by decide +kernel
theorem dX4_allow_75 : decode cX4_allow 75 = .ok (.iaload, 1) := by decide +kernel
theorem dX4_allow_76 : decode cX4_allow 76 = .ok (.iload_n 2, 1) := by decide +kernel
theorem dX4_allow_77 : decode cX4_allow 77 = .ok (.if_icmp .ne 5, 3) := by decide +kernel
theorem dX4_allow_80 : decode cX4_allow 80 = .ok (.iconst 0, 1) := by decide +kernel
theorem dX4_allow_81 : decode cX4_allow 81 = .ok (.ireturn, 1) := by decide +kernel
theorem dX4_allow_82 : decode cX4_allow 82 = .ok (.iinc 3 1, 3) := by decide +kernel
theorem dX4_allow_85 : decode cX4_allow 85 = .ok (.goto (-33), 3) := by decide +kernel
theorem dX4_allow_88 : decode cX4_allow 88 = .ok (.aload_n 0, 1) := by decide +kernel
theorem dX4_allow_89 : decode cX4_allow 89 = .ok (.getfield 13, 3) := by decide +kernel
theorem dX4_allow_92 : decode cX4_allow 92 = .ok (.aload_n 0, 1) := by decide +kernel
theorem dX4_allow_93 : decode cX4_allow 93 = .ok (.getfield 58, 3) := by decide +kernel
theorem dX4_allow_96 : decode cX4_allow 96 = .ok (.iload_n 1, 1) := by decide +kernel
theorem dX4_allow_97 : decode cX4_allow 97 = .ok (.iastore, 1) := by decide +kernel
theorem dX4_allow_98 : decode cX4_allow 98 = .ok (.aload_n 0, 1) := by decide +kernel
theorem dX4_allow_99 : decode cX4_allow 99 = .ok (.getfield 16, 3) := by decide +kernel
theorem dX4_allow_102 : decode cX4_allow 102 = .ok (.aload_n 0, 1) := by decide +kernel
theorem dX4_allow_103 : decode cX4_allow 103 = .ok (.getfield 58, 3) := by decide +kernel
theorem dX4_allow_106 : decode cX4_allow 106 = .ok (.iload_n 2, 1) := by decide +kernel
theorem dX4_allow_107 : decode cX4_allow 107 = .ok (.iastore, 1) := by decide +kernel
theorem dX4_allow_108 : decode cX4_allow 108 = .ok (.aload_n 0, 1) := by decide +kernel
theorem dX4_allow_109 : decode cX4_allow 109 = .ok (.aload_n 0, 1) := by decide +kernel
theorem dX4_allow_110 : decode cX4_allow 110 = .ok (.getfield 58, 3) := by decide +kernel
theorem dX4_allow_113 : decode cX4_allow 113 = .ok (.iconst 1, 1) := by decide +kernel
theorem dX4_allow_114 : decode cX4_allow 114 = .ok (.iadd, 1) := by decide +kernel
theorem dX4_allow_115 : decode cX4_allow 115 = .ok (.putfield 58, 3) := by decide +kernel
theorem dX4_allow_118 : decode cX4_allow 118 = .ok (.aload_n 0, 1) := by decide +kernel
theorem dX4_allow_119 : decode cX4_allow 119 = .ok (.invokevirtual 55, 3) := by decide +kernel
theorem dX4_allow_122 : decode cX4_allow 122 = .ok (.iconst 1, 1) := by decide +kernel
theorem dX4_allow_123 : decode cX4_allow 123 = .ok (.ireturn, 1) := by decide +kernel
theorem dX4_classes_0 : decode cX4_classes 0 = .ok (.iconst 0, 1) := by decide +kernel
theorem dX4_classes_1 : decode cX4_classes 1 = .ok (.istore_n 1, 1) := by decide +kernel
theorem dX4_classes_2 : decode cX4_classes 2 = .ok (.iload_n 1, 1) := by decide +kernel
theorem dX4_classes_3 : decode cX4_classes 3 = .ok (.bipush 24, 2) := by decide +kernel
theorem dX4_classes_5 : decode cX4_classes 5 = .ok (.if_icmp .ge 23, 3) := by decide +kernel
theorem dX4_classes_8 : decode cX4_classes 8 = .ok (.aload_n 0, 1) := by decide +kernel
theorem dX4_classes_9 : decode cX4_classes 9 = .ok (.getfield 19, 3) := by decide +kernel
theorem dX4_classes_12 : decode cX4_classes 12 = .ok (.iload_n 1, 1) := by decide +kernel
theorem dX4_classes_13 : decode cX4_classes 13 = .ok (.iconst 0, 1) := by decide +kernel
theorem dX4_classes_14 : decode cX4_classes 14 = .ok (.iastore, 1) := by decide +kernel
theorem dX4_classes_15 : decode cX4_classes 15 = .ok (.aload_n 0, 1) := by decide +kernel
theorem dX4_classes_16 : decode cX4_classes 16 = .ok (.getfield 22, 3) := by decide +kernel
theorem dX4_classes_19 : decode cX4_classes 19 = .ok (.iload_n 1, 1) := by decide +kernel
theorem dX4_classes_20 : decode cX4_classes 20 = .ok (.iconst 0, 1) := by decide +kernel
theorem dX4_classes_21 : decode cX4_classes 21 = .ok (.iastore, 1) := by decide +kernel
theorem dX4_classes_22 : decode cX4_classes 22 = .ok (.iinc 1 1, 3) := by decide +kernel
theorem dX4_classes_25 : decode cX4_classes 25 = .ok (.goto (-23), 3) := by decide +kernel
theorem dX4_classes_28 : decode cX4_classes 28 = .ok (.iconst 0, 1) := by decide +kernel
theorem dX4_classes_29 : decode cX4_classes 29 = .ok (.istore_n 1, 1) := by decide +kernel
theorem dX4_classes_30 : decode cX4_classes 30 = .ok (.iload_n 1, 1) := by decide +kernel
theorem dX4_classes_31 : decode cX4_classes 31 = .ok (.aload_n 0, 1) := by decide +kernel
theorem dX4_classes_32 : decode cX4_classes 32 = .ok (.getfield 58, 3) := by decide +kernel
theorem dX4_classes_35 : decode cX4_classes 35 = .ok (.if_icmp .ge 41, 3) := by decide +kernel
theorem dX4_classes_38 : decode cX4_classes 38 = .ok (.aload_n 0, 1) := by decide +kernel
theorem dX4_classes_39 : decode cX4_classes 39 = .ok (.getfield 19, 3) := by decide +kernel
theorem dX4_classes_42 : decode cX4_classes 42 = .ok (.aload_n 0, 1) := by decide +kernel
theorem dX4_classes_43 : decode cX4_classes 43 = .ok (.getfield 16, 3) := by decide +kernel
theorem dX4_classes_46 : decode cX4_classes 46 = .ok (.iload_n 1, 1) := by decide +kernel
theorem dX4_classes_47 : decode cX4_classes 47 = .ok (.iaload, 1) := by decide +kernel
theorem dX4_classes_48 : decode cX4_classes 48 = .ok (.aload_n 0, 1) := by decide +kernel
theorem dX4_classes_49 : decode cX4_classes 49 = .ok (.getfield 16, 3) := by decide +kernel
theorem dX4_classes_52 : decode cX4_classes 52 = .ok (.iload_n 1, 1) := by decide +kernel
theorem dX4_classes_53 : decode cX4_classes 53 = .ok (.iaload, 1) := by decide +kernel
theorem dX4_classes_54 : decode cX4_classes 54 = .ok (.iconst 1, 1) := by decide +kernel
theorem dX4_classes_55 : decode cX4_classes 55 = .ok (.iadd, 1) := by decide +kernel
theorem dX4_classes_56 : decode cX4_classes 56 = .ok (.iastore, 1) := by decide +kernel
theorem dX4_classes_57 : decode cX4_classes 57 = .ok (.aload_n 0, 1) := by decide +kernel
theorem dX4_classes_58 : decode cX4_classes 58 = .ok (.getfield 22, 3) := by decide +kernel
theorem dX4_classes_61 : decode cX4_classes 61 = .ok (.aload_n 0, 1) := by decide +kernel
theorem dX4_classes_62 : decode cX4_classes 62 = .ok (.getfield 13, 3) := by decide +kernel
theorem dX4_classes_65 : decode cX4_classes 65 = .ok (.iload_n 1, 1) := by decide +kernel
theorem dX4_classes_66 : decode cX4_classes 66 = .ok (.iaload, 1) := by decide +kernel
theorem dX4_classes_67 : decode cX4_classes 67 = .ok (.bipush 99, 2) := by decide +kernel
theorem dX4_classes_69 : decode cX4_classes 69 = .ok (.iastore, 1) := by decide +kernel
theorem dX4_classes_70 : decode cX4_classes 70 = .ok (.iinc 1 1, 3) := by decide +kernel
theorem dX4_classes_73 : decode cX4_classes 73 = .ok (.goto (-43), 3) := by decide +kernel
theorem dX4_classes_76 : decode cX4_classes 76 = .ok (.iconst 0, 1) := by decide +kernel
theorem dX4_classes_77 : decode cX4_classes 77 = .ok (.istore_n 1, 1) := by decide +kernel
theorem dX4_classes_78 : decode cX4_classes 78 = .ok (.iload_n 1, 1) := by decide +kernel
theorem dX4_classes_79 : decode cX4_classes 79 = .ok (.bipush 100, 2) := by decide +kernel
theorem dX4_classes_81 : decode cX4_classes 81 = .ok (.if_icmp .ge 96, 3) := by decide +kernel
theorem dX4_classes_84 : decode cX4_classes 84 = .ok (.iconst 0, 1) := by decide +kernel
theorem dX4_classes_85 : decode cX4_classes 85 = .ok (.istore_n 2, 1) := by decide +kernel
theorem dX4_classes_86 : decode cX4_classes 86 = .ok (.iload_n 2, 1) := by decide +kernel
theorem dX4_classes_87 : decode cX4_classes 87 = .ok (.aload_n 0, 1) := by decide +kernel
theorem dX4_classes_88 : decode cX4_classes 88 = .ok (.getfield 58, 3) := by decide +kernel
theorem dX4_classes_91 : decode cX4_classes 91 = .ok (.if_icmp .ge 80, 3) := by decide +kernel
theorem dX4_classes_94 : decode cX4_classes 94 = .ok (.aload_n 0, 1) := by decide +kernel
theorem dX4_classes_95 : decode cX4_classes 95 = .ok (.getfield 22, 3) := by decide +kernel
theorem dX4_classes_98 : decode cX4_classes 98 = .ok (.aload_n 0, 1) := by decide +kernel
theorem dX4_classes_99 : decode cX4_classes 99 = .ok (.getfield 13, 3) := by decide +kernel
theorem dX4_classes_102 : decode cX4_classes 102 = .ok (.iload_n 2, 1) := by decide +kernel
theorem dX4_classes_103 : decode cX4_classes 103 = .ok (.iaload, 1) := by decide +kernel
theorem dX4_classes_104 : decode cX4_classes 104 = .ok (.iaload, 1) := by decide +kernel
theorem dX4_classes_105 : decode cX4_classes 105 = .ok (.istore_n 3, 1) := by decide +kernel
theorem dX4_classes_106 : decode cX4_classes 106 = .ok (.aload_n 0, 1) := by decide +kernel
theorem dX4_classes_107 : decode cX4_classes 107 = .ok (.getfield 19, 3) := by decide +kernel
theorem dX4_classes_110 : decode cX4_classes 110 = .ok (.aload_n 0, 1) := by decide +kernel
theorem dX4_classes_111 : decode cX4_classes 111 = .ok (.getfield 16, 3) := by decide +kernel
theorem dX4_classes_114 : decode cX4_classes 114 = .ok (.iload_n 2, 1) := by decide +kernel
theorem dX4_classes_115 : decode cX4_classes 115 = .ok (.iaload, 1) := by decide +kernel
theorem dX4_classes_116 : decode cX4_classes 116 = .ok (.iaload, 1) := by decide +kernel
theorem dX4_classes_117 : decode cX4_classes 117 = .ok (.istore 4, 2) := by decide +kernel
theorem dX4_classes_119 : decode cX4_classes 119 = .ok (.aload_n 0, 1) := by decide +kernel
theorem dX4_classes_120 : decode cX4_classes 120 = .ok (.getfield 22, 3) := by decide +kernel
theorem dX4_classes_123 : decode cX4_classes 123 = .ok (.aload_n 0, 1) := by decide +kernel
theorem dX4_classes_124 : decode cX4_classes 124 = .ok (.getfield 13, 3) := by decide +kernel
theorem dX4_classes_127 : decode cX4_classes 127 = .ok (.iload_n 2, 1) := by decide +kernel
theorem dX4_classes_128 : decode cX4_classes 128 = .ok (.iaload, 1) := by decide +kernel
theorem dX4_classes_129 : decode cX4_classes 129 = .ok (.iload_n 3, 1) := by decide +kernel
theorem dX4_classes_130 : decode cX4_classes 130 = .ok (.iload 4, 2) := by decide +kernel
theorem dX4_classes_132 : decode cX4_classes 132 = .ok (.if_icmp .ge 7, 3) := by decide +kernel
theorem dX4_classes_135 : decode cX4_classes 135 = .ok (.iload_n 3, 1) := by decide +kernel
theorem dX4_classes_136 : decode cX4_classes 136 = .ok (.goto 5, 3) := by decide +kernel
theorem dX4_classes_139 : decode cX4_classes 139 = .ok (.iload 4, 2) := by decide +kernel
theorem dX4_classes_141 : decode cX4_classes 141 = .ok (.iastore, 1) := by decide +kernel
theorem dX4_classes_142 : decode cX4_classes 142 = .ok (.aload_n 0, 1) := by decide +kernel
theorem dX4_classes_143 : decode cX4_classes 143 = .ok (.getfield 19, 3) := by decide +kernel
theorem dX4_classes_146 : decode cX4_classes 146 = .ok (.aload_n 0, 1) := by decide +kernel
theorem dX4_classes_147 : decode cX4_classes 147 = .ok (.getfield 16, 3) := by decide +kernel
theorem dX4_classes_150 : decode cX4_classes 150 = .ok (.iload_n 2, 1) := by decide +kernel
theorem dX4_classes_151 : decode cX4_classes 151 = .ok (.iaload, 1) := by decide +kernel
theorem dX4_classes_152 : decode cX4_classes 152 = .ok (.iload_n 3, 1) := by decide +kernel
theorem dX4_classes_153 : decode cX4_classes 153 = .ok (.iload 4, 2) := by decide +kernel
theorem dX4_classes_155 : decode cX4_classes 155 = .ok (.if_icmp .ge 7, 3) := by decide +kernel
theorem dX4_classes_158 : decode cX4_classes 158 = .ok (.iload_n 3, 1) := by decide +kernel
theorem dX4_classes_159 : decode cX4_classes 159 = .ok (.goto 5, 3) := by decide +kernel
theorem dX4_classes_162 : decode cX4_classes 162 = .ok (.iload 4, 2) := by decide +kernel
theorem dX4_classes_164 : decode cX4_classes 164 = .ok (.iastore, 1) := by decide +kernel
theorem dX4_classes_165 : decode cX4_classes 165 = .ok (.iinc 2 1, 3) := by decide +kernel
theorem dX4_classes_168 : decode cX4_classes 168 = .ok (.goto (-82), 3) := by decide +kernel
theorem dX4_classes_171 : decode cX4_classes 171 = .ok (.iinc 1 1, 3) := by decide +kernel
theorem dX4_classes_174 : decode cX4_classes 174 = .ok (.goto (-96), 3) := by decide +kernel
theorem dX4_classes_177 : decode cX4_classes 177 = .ok (.return_, 1) := by decide +kernel
theorem dX4_whole_0 : decode cX4_whole 0 = .ok (.aload_n 0, 1) := by decide +kernel
theorem dX4_whole_1 : decode cX4_whole 1 = .ok (.getfield 52, 3) := by decide +kernel
theorem dX4_whole_4 : decode cX4_whole 4 = .ok (.ifCond .ne 5, 3) := by decide +kernel
theorem dX4_whole_7 : decode cX4_whole 7 = .ok (.iconst 0, 1) := by decide +kernel
theorem dX4_whole_8 : decode cX4_whole 8 = .ok (.ireturn, 1) := by decide +kernel
theorem dX4_whole_9 : decode cX4_whole 9 = .ok (.aload_n 0, 1) := by decide +kernel
theorem dX4_whole_10 : decode cX4_whole 10 = .ok (.getfield 7, 3) := by decide +kernel
theorem dX4_whole_13 : decode cX4_whole 13 = .ok (.iconst 3, 1) := by decide +kernel
theorem dX4_whole_14 : decode cX4_whole 14 = .ok (.aload_n 0, 1) := by decide +kernel
theorem dX4_whole_15 : decode cX4_whole 15 = .ok (.getfield 52, 3) := by decide +kernel
theorem dX4_whole_18 : decode cX4_whole 18 = .ok (.imul, 1) := by decide +kernel
theorem dX4_whole_19 : decode cX4_whole 19 = .ok (.iconst 3, 1) := by decide +kernel
theorem dX4_whole_20 : decode cX4_whole 20 = .ok (.isub, 1) := by decide +kernel
theorem dX4_whole_21 : decode cX4_whole 21 = .ok (.iaload, 1) := by decide +kernel
theorem dX4_whole_22 : decode cX4_whole 22 = .ok (.istore_n 1, 1) := by decide +kernel
theorem dX4_whole_23 : decode cX4_whole 23 = .ok (.iload_n 1, 1) := by decide +kernel
theorem dX4_whole_24 : decode cX4_whole 24 = .ok (.ifCond .eq 17, 3) := by decide +kernel
theorem dX4_whole_27 : decode cX4_whole 27 = .ok (.iload_n 1, 1) := by decide +kernel
theorem dX4_whole_28 : decode cX4_whole 28 = .ok (.bipush 6, 2) := by decide +kernel
theorem dX4_whole_30 : decode cX4_whole 30 = .ok (.if_icmp .eq 11, 3) := by decide +kernel
theorem dX4_whole_33 : decode cX4_whole 33 = .ok (.iload_n 1, 1) := by decide +kernel
theorem dX4_whole_34 : decode cX4_whole 34 = .ok (.bipush 8, 2) := by decide +kernel
theorem dX4_whole_36 : decode cX4_whole 36 = .ok (.if_icmp .eq 5, 3) := by decide +kernel
theorem dX4_whole_39 : decode cX4_whole 39 = .ok (.iconst 0, 1) := by decide +kernel
theorem dX4_whole_40 : decode cX4_whole 40 = .ok (.ireturn, 1) := by decide +kernel
theorem dX4_whole_41 : decode cX4_whole 41 = .ok (.iconst 0, 1) := by decide +kernel
theorem dX4_whole_42 : decode cX4_whole 42 = .ok (.istore_n 2, 1) := by decide +kernel
theorem dX4_whole_43 : decode cX4_whole 43 = .ok (.iload_n 2, 1) := by decide +kernel
theorem dX4_whole_44 : decode cX4_whole 44 = .ok (.aload_n 0, 1) := by decide +kernel
theorem dX4_whole_45 : decode cX4_whole 45 = .ok (.getfield 52, 3) := by decide +kernel
theorem dX4_whole_48 : decode cX4_whole 48 = .ok (.if_icmp .ge 72, 3) := by decide +kernel
theorem dX4_whole_51 : decode cX4_whole 51 = .ok (.aload_n 0, 1) := by decide +kernel
theorem dX4_whole_52 : decode cX4_whole 52 = .ok (.getfield 7, 3) := by decide +kernel
theorem dX4_whole_55 : decode cX4_whole 55 = .ok (.iconst 3, 1) := by decide +kernel
theorem dX4_whole_56 : decode cX4_whole 56 = .ok (.iload_n 2, 1) := by decide +kernel
theorem dX4_whole_57 : decode cX4_whole 57 = .ok (.imul, 1) := by decide +kernel
theorem dX4_whole_58 : decode cX4_whole 58 = .ok (.iaload, 1) := by decide +kernel
theorem dX4_whole_59 : decode cX4_whole 59 = .ok (.istore_n 3, 1) := by decide +kernel
theorem dX4_whole_60 : decode cX4_whole 60 = .ok (.iload_n 3, 1) := by decide +kernel
theorem dX4_whole_61 : decode cX4_whole 61 = .ok (.bipush 6, 2) := by decide +kernel
theorem dX4_whole_63 : decode cX4_whole 63 = .ok (.if_icmp .ne 20, 3) := by decide +kernel
theorem dX4_whole_66 : decode cX4_whole 66 = .ok (.aload_n 0, 1) := by decide +kernel
theorem dX4_whole_67 : decode cX4_whole 67 = .ok (.getfield 7, 3) := by decide +kernel
theorem dX4_whole_70 : decode cX4_whole 70 = .ok (.iconst 3, 1) := by decide +kernel
theorem dX4_whole_71 : decode cX4_whole 71 = .ok (.iload_n 2, 1) := by decide +kernel
theorem dX4_whole_72 : decode cX4_whole 72 = .ok (.imul, 1) := by decide +kernel
theorem dX4_whole_73 : decode cX4_whole 73 = .ok (.iconst 1, 1) := by decide +kernel
theorem dX4_whole_74 : decode cX4_whole 74 = .ok (.iadd, 1) := by decide +kernel
theorem dX4_whole_75 : decode cX4_whole 75 = .ok (.iaload, 1) := by decide +kernel
theorem dX4_whole_76 : decode cX4_whole 76 = .ok (.aload_n 0, 1) := by decide +kernel
theorem dX4_whole_77 : decode cX4_whole 77 = .ok (.getfield 52, 3) := by decide +kernel
theorem dX4_whole_80 : decode cX4_whole 80 = .ok (.if_icmp .ge 32, 3) := by decide +kernel
theorem dX4_whole_83 : decode cX4_whole 83 = .ok (.iload_n 3, 1) := by decide +kernel
theorem dX4_whole_84 : decode cX4_whole 84 = .ok (.bipush 7, 2) := by decide +kernel
theorem dX4_whole_86 : decode cX4_whole 86 = .ok (.if_icmp .eq 9, 3) := by decide +kernel
theorem dX4_whole_89 : decode cX4_whole 89 = .ok (.iload_n 3, 1) := by decide +kernel
theorem dX4_whole_90 : decode cX4_whole 90 = .ok (.bipush 9, 2) := by decide +kernel
theorem dX4_whole_92 : decode cX4_whole 92 = .ok (.if_icmp .ne 22, 3) := by decide +kernel
theorem dX4_whole_95 : decode cX4_whole 95 = .ok (.aload_n 0, 1) := by decide +kernel
theorem dX4_whole_96 : decode cX4_whole 96 = .ok (.getfield 7, 3) := by decide +kernel
theorem dX4_whole_99 : decode cX4_whole 99 = .ok (.iconst 3, 1) := by decide +kernel
theorem dX4_whole_100 : decode cX4_whole 100 = .ok (.iload_n 2, 1) := by decide +kernel
theorem dX4_whole_101 : decode cX4_whole 101 = .ok (.imul, 1) := by decide +kernel
theorem dX4_whole_102 : decode cX4_whole 102 = .ok (.iconst 2, 1) := by decide +kernel
theorem dX4_whole_103 : decode cX4_whole 103 = .ok (.iadd, 1) := by decide +kernel
theorem dX4_whole_104 : decode cX4_whole 104 = .ok (.iaload, 1) := by decide +kernel
theorem dX4_whole_105 : decode cX4_whole 105 = .ok (.aload_n 0, 1) := by decide +kernel
theorem dX4_whole_106 : decode cX4_whole 106 = .ok (.getfield 52, 3) := by decide +kernel
theorem dX4_whole_109 : decode cX4_whole 109 = .ok (.if_icmp .lt 5, 3) := by decide +kernel
theorem dX4_whole_112 : decode cX4_whole 112 = .ok (.iconst 0, 1) := by decide +kernel
theorem dX4_whole_113 : decode cX4_whole 113 = .ok (.ireturn, 1) := by decide +kernel
theorem dX4_whole_114 : decode cX4_whole 114 = .ok (.iinc 2 1, 3) := by decide +kernel
theorem dX4_whole_117 : decode cX4_whole 117 = .ok (.goto (-74), 3) := by decide +kernel
theorem dX4_whole_120 : decode cX4_whole 120 = .ok (.iconst 1, 1) := by decide +kernel
theorem dX4_whole_121 : decode cX4_whole 121 = .ok (.ireturn, 1) := by decide +kernel
theorem dX4_put_0 : decode cX4_put 0 = .ok (.aload_n 0, 1) := by decide +kernel
theorem dX4_put_1 : decode cX4_put 1 = .ok (.getfield 7, 3) := by decide +kernel
theorem dX4_put_4 : decode cX4_put 4 = .ok (.bipush 72, 2) := by decide +kernel
theorem dX4_put_6 : decode cX4_put 6 = .ok (.iconst 3, 1) := by decide +kernel
theorem dX4_put_7 : decode cX4_put 7 = .ok (.aload_n 0, 1) := by decide +kernel
theorem dX4_put_8 : decode cX4_put 8 = .ok (.getfield 45, 3) := by decide +kernel
theorem dX4_put_11 : decode cX4_put 11 = .ok (.imul, 1) := by decide +kernel
theorem dX4_put_12 : decode cX4_put 12 = .ok (.iadd, 1) := by decide +kernel
theorem dX4_put_13 : decode cX4_put 13 = .ok (.iload_n 1, 1) := by decide +kernel
theorem dX4_put_14 : decode cX4_put 14 = .ok (.iastore, 1) := by decide +kernel
theorem dX4_put_15 : decode cX4_put 15 = .ok (.aload_n 0, 1) := by decide +kernel
theorem dX4_put_16 : decode cX4_put 16 = .ok (.getfield 7, 3) := by decide +kernel
theorem dX4_put_19 : decode cX4_put 19 = .ok (.bipush 73, 2) := by decide +kernel
theorem dX4_put_21 : decode cX4_put 21 = .ok (.iconst 3, 1) := by decide +kernel
theorem dX4_put_22 : decode cX4_put 22 = .ok (.aload_n 0, 1) := by decide +kernel
theorem dX4_put_23 : decode cX4_put 23 = .ok (.getfield 45, 3) := by decide +kernel
theorem dX4_put_26 : decode cX4_put 26 = .ok (.imul, 1) := by decide +kernel
theorem dX4_put_27 : decode cX4_put 27 = .ok (.iadd, 1) := by decide +kernel
theorem dX4_put_28 : decode cX4_put 28 = .ok (.iload_n 2, 1) := by decide +kernel
theorem dX4_put_29 : decode cX4_put 29 = .ok (.iastore, 1) := by decide +kernel
theorem dX4_put_30 : decode cX4_put 30 = .ok (.aload_n 0, 1) := by decide +kernel
theorem dX4_put_31 : decode cX4_put 31 = .ok (.getfield 7, 3) := by decide +kernel
theorem dX4_put_34 : decode cX4_put 34 = .ok (.bipush 74, 2) := by decide +kernel
theorem dX4_put_36 : decode cX4_put 36 = .ok (.iconst 3, 1) := by decide +kernel
theorem dX4_put_37 : decode cX4_put 37 = .ok (.aload_n 0, 1) := by decide +kernel
theorem dX4_put_38 : decode cX4_put 38 = .ok (.getfield 45, 3) := by decide +kernel
theorem dX4_put_41 : decode cX4_put 41 = .ok (.imul, 1) := by decide +kernel
theorem dX4_put_42 : decode cX4_put 42 = .ok (.iadd, 1) := by decide +kernel
theorem dX4_put_43 : decode cX4_put 43 = .ok (.iload_n 3, 1) := by decide +kernel
theorem dX4_put_44 : decode cX4_put 44 = .ok (.iastore, 1) := by decide +kernel
theorem dX4_put_45 : decode cX4_put 45 = .ok (.aload_n 0, 1) := by decide +kernel
theorem dX4_put_46 : decode cX4_put 46 = .ok (.aload_n 0, 1) := by decide +kernel
theorem dX4_put_47 : decode cX4_put 47 = .ok (.getfield 45, 3) := by decide +kernel
theorem dX4_put_50 : decode cX4_put 50 = .ok (.iconst 1, 1) := by decide +kernel
theorem dX4_put_51 : decode cX4_put 51 = .ok (.iadd, 1) := by decide +kernel
theorem dX4_put_52 : decode cX4_put 52 = .ok (.putfield 45, 3) := by decide +kernel
theorem dX4_put_55 : decode cX4_put 55 = .ok (.return_, 1) := by decide +kernel
