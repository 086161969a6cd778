theorem dX0_init_0 : decode cX0_init 0 = .ok (.aload_n 0, 1) := by decide +kernel
theorem dX0_init_1 : decode cX0_init 1 = .ok (.invokespecial 3, 3) := by decide +kernel
theorem dX0_init_4 : decode cX0_init 4 = .ok (.aload_n 0, 1) := by decide +kernel
theorem dX0_init_5 : decode cX0_init 5 = .ok (.bipush 24, 2) := by decide +kernel
theorem dX0_init_7 : decode cX0_init 7 = .ok (.newarray .int, 2) := by decide +kernel
theorem dX0_init_9 : decode cX0_init 9 = .ok (.putfield 9, 3) := by decide +kernel
theorem dX0_init_12 : decode cX0_init 12 = .ok (.aload_n 0, 1) := by decide +kernel
theorem dX0_init_13 : decode cX0_init 13 = .ok (.bipush 24, 2) := by decide +kernel
theorem dX0_init_15 : decode cX0_init 15 = .ok (.newarray .int, 2) := by decide +kernel
theorem dX0_init_17 : decode cX0_init 17 = .ok (.putfield 15, 3) := by decide +kernel
theorem dX0_init_20 : decode cX0_init 20 = .ok (.aload_n 0, 1) := by decide +kernel
theorem dX0_init_21 : decode cX0_init 21 = .ok (.bipush 24, 2) := by decide +kernel
theorem dX0_init_23 : decode cX0_init 23 = .ok (.newarray .int, 2) := by decide +kernel
theorem dX0_init_25 : decode cX0_init 25 = .ok (.putfield 18, 3) := by decide +kernel
theorem dX0_init_28 : decode cX0_init 28 = .ok (.return_, 1) := by decide +kernel
set_option maxRecDepth 20000 in
theorem ggX0_connect_X3_isAddress : GoodIn wsX0_connect wsX3_isAddress := goodIn_r _ [6] (by decide +kernel) (by decide +kernel)
set_option maxRecDepth 20000 in
theorem gX0_connect_X3_isAddress_n21 : GoodIn wsX0_connect (wsX3_isAddress) := ggX0_connect_X3_isAddress
set_option maxRecDepth 20000 in
theorem ggX0_connect_X0_joinClasses : GoodIn wsX0_connect wsX0_joinClasses := goodIn_r _ [11, 12, 13, 14, 15, 16, 17, 18, 19, 3, 20, 21, 22, 10, 23, 4, 5, 6, 24, 25, 26, 27, 28, 29, 30, 31, 32, 33, 34] (by decide +kernel) (by decide +kernel)
set_option maxRecDepth 20000 in
theorem gX0_connect_X0_joinClasses : GoodIn wsX0_connect (wsV RX0 29 RX0 yX0_joinClasses wsX0_joinClasses) := goodIn_app (goodIn_of _ (by decide +kernel)) ggX0_connect_X0_joinClasses
theorem dX0_connect_0 : decode cX0_connect 0 = .ok (.iload_n 1, 1) := by decide +kernel
theorem dX0_connect_1 : decode cX0_connect 1 = .ok (.invokestatic 21, 3) := by decide +kernel
theorem dX0_connect_4 : decode cX0_connect 4 = .ok (.ifCond .eq 19, 3) := by decide +kernel
theorem dX0_connect_7 : decode cX0_connect 7 = .ok (.iload_n 2, 1) := by decide +kernel
theorem dX0_connect_8 : decode cX0_connect 8 = .ok (.invokestatic 21, 3) := by decide +kernel
theorem dX0_connect_11 : decode cX0_connect 11 = .ok (.ifCond .eq 12, 3) := by decide +kernel
theorem dX0_connect_14 : decode cX0_connect 14 = .ok (.aload_n 0, 1) := by decide +kernel
theorem dX0_connect_15 : decode cX0_connect 15 = .ok (.getfield 25, 3) := by decide +kernel
theorem dX0_connect_18 : decode cX0_connect 18 = .ok (.bipush 48, 2) := by decide +kernel
theorem dX0_connect_20 : decode cX0_connect 20 = .ok (.if_icmp .lt 5, 3) := by decide +kernel
theorem dX0_connect_23 : decode cX0_connect 23 = .ok (.iconst 0, 1) := by decide +kernel
theorem dX0_connect_24 : decode cX0_connect 24 = .ok (.ireturn, 1) := by decide +kernel
theorem dX0_connect_25 : decode cX0_connect 25 = .ok (.iconst 1, 1) := by decide +kernel
theorem dX0_connect_26 : decode cX0_connect 26 = .ok (.iload_n 2, 1) := by decide +kernel
theorem dX0_connect_27 : decode cX0_connect 27 = .ok (.ishl, 1) := by decide +kernel
theorem dX0_connect_28 : decode cX0_connect 28 = .ok (.istore_n 3, 1) := by decide +kernel
theorem dX0_connect_29 : decode cX0_connect 29 = .ok (.aload_n 0, 1) := by decide +kernel
theorem dX0_connect_30 : decode cX0_connect 30 = .ok (.getfield 9, 3) := by decide +kernel
theorem dX0_connect_33 : decode cX0_connect 33 = .ok (.iload_n 1, 1) := by decide +kernel
theorem dX0_connect_34 : decode cX0_connect 34 = .ok (.iaload, 1) := by decide +kernel
theorem dX0_connect_35 : decode cX0_connect 35 = .ok (.iload_n 3, 1) := by decide +kernel
theorem dX0_connect_36 : decode cX0_connect 36 = .ok (.iand, 1) := by decide +kernel
theorem dX0_connect_37 : decode cX0_connect 37 = .ok (.ifCond .eq 5, 3) := by decide +kernel
theorem dX0_connect_40 : decode cX0_connect 40 = .ok (.iconst 0, 1) := by decide +kernel
theorem dX0_connect_41 : decode cX0_connect 41 = .ok (.ireturn, 1) := by decide +kernel
theorem dX0_connect_42 : decode cX0_connect 42 = .ok (.aload_n 0, 1) := by decide +kernel
theorem dX0_connect_43 : decode cX0_connect 43 = .ok (.getfield 9, 3) := by decide +kernel
theorem dX0_connect_46 : decode cX0_connect 46 = .ok (.iload_n 1, 1) := by decide +kernel
theorem dX0_connect_47 : decode cX0_connect 47 = .ok (.dup2, 1) := by decide +kernel
theorem dX0_connect_48 : decode cX0_connect 48 = .ok (.iaload, 1) := by decide +kernel
theorem dX0_connect_49 : decode cX0_connect 49 = .ok (.iload_n 3, 1) := by decide +kernel
theorem dX0_connect_50 : decode cX0_connect 50 = .ok (.ior, 1) := by decide +kernel
theorem dX0_connect_51 : decode cX0_connect 51 = .ok (.iastore, 1) := by decide +kernel
theorem dX0_connect_52 : decode cX0_connect 52 = .ok (.aload_n 0, 1) := by decide +kernel
theorem dX0_connect_53 : decode cX0_connect 53 = .ok (.dup, 1) := by decide +kernel
theorem dX0_connect_54 : decode cX0_connect 54 = .ok (.getfield 25, 3) := by decide +kernel
theorem dX0_connect_57 : decode cX0_connect 57 = .ok (.iconst 1, 1) := by decide +kernel
theorem dX0_connect_58 : decode cX0_connect 58 = .ok (.iadd, 1) := by decide +kernel
theorem dX0_connect_59 : decode cX0_connect 59 = .ok (.putfield 25, 3) := by decide +kernel
theorem dX0_connect_62 : decode cX0_connect 62 = .ok (.aload_n 0, 1) := by decide +kernel
theorem dX0_connect_63 : decode cX0_connect 63 = .ok (.getfield 15, 3) := by decide +kernel
theorem dX0_connect_66 : decode cX0_connect 66 = .ok (.iload_n 2, 1) := by decide +kernel
theorem dX0_connect_67 : decode cX0_connect 67 = .ok (.iaload, 1) := by decide +kernel
theorem dX0_connect_68 : decode cX0_connect 68 = .ok (.ifCond .ne 12, 3) := by decide +kernel
theorem dX0_connect_71 : decode cX0_connect 71 = .ok (.aload_n 0, 1) := by decide +kernel
theorem dX0_connect_72 : decode cX0_connect 72 = .ok (.getfield 15, 3) := by decide +kernel
theorem dX0_connect_75 : decode cX0_connect 75 = .ok (.iload_n 2, 1) := by decide +kernel
theorem dX0_connect_76 : decode cX0_connect 76 = .ok (.iload_n 2, 1) := by decide +kernel
theorem dX0_connect_77 : decode cX0_connect 77 = .ok (.iconst 1, 1) := by decide +kernel
theorem dX0_connect_78 : decode cX0_connect 78 = .ok (.iadd, 1) := by decide +kernel
theorem dX0_connect_79 : decode cX0_connect 79 = .ok (.iastore, 1) := by decide +kernel
theorem dX0_connect_80 : decode cX0_connect 80 = .ok (.aload_n 0, 1) := by decide +kernel
theorem dX0_connect_81 : decode cX0_connect 81 = .ok (.iload_n 1, 1) := by decide +kernel
theorem dX0_connect_82 : decode cX0_connect 82 = .ok (.iload_n 2, 1) := by decide +kernel
theorem dX0_connect_83 : decode cX0_connect 83 = .ok (.invokevirtual 29, 3) := by decide +kernel
theorem dX0_connect_86 : decode cX0_connect 86 = .ok (.iconst 1, 1) := by decide +kernel
theorem dX0_connect_87 : decode cX0_connect 87 = .ok (.ireturn, 1) := by decide +kernel
set_option maxRecDepth 20000 in
theorem ggX0_numberOfTarget_X3_isAddress : GoodIn wsX0_numberOfTarget wsX3_isAddress := goodIn_r _ [4] (by decide +kernel) (by decide +kernel)
set_option maxRecDepth 20000 in
theorem gX0_numberOfTarget_X3_isAddress_n21 : GoodIn wsX0_numberOfTarget (wsX3_isAddress) := ggX0_numberOfTarget_X3_isAddress
theorem dX0_numberOfTarget_0 : decode cX0_numberOfTarget 0 = .ok (.iload_n 1, 1) := by decide +kernel
theorem dX0_numberOfTarget_1 : decode cX0_numberOfTarget 1 = .ok (.invokestatic 21, 3) := by decide +kernel
theorem dX0_numberOfTarget_4 : decode cX0_numberOfTarget 4 = .ok (.ifCond .eq 12, 3) := by decide +kernel
theorem dX0_numberOfTarget_7 : decode cX0_numberOfTarget 7 = .ok (.aload_n 0, 1) := by decide +kernel
theorem dX0_numberOfTarget_8 : decode cX0_numberOfTarget 8 = .ok (.getfield 15, 3) := by decide +kernel
theorem dX0_numberOfTarget_11 : decode cX0_numberOfTarget 11 = .ok (.iload_n 1, 1) := by decide +kernel
theorem dX0_numberOfTarget_12 : decode cX0_numberOfTarget 12 = .ok (.iaload, 1) := by decide +kernel
theorem dX0_numberOfTarget_13 : decode cX0_numberOfTarget 13 = .ok (.goto 4, 3) := by decide +kernel
theorem dX0_numberOfTarget_16 : decode cX0_numberOfTarget 16 = .ok (.iconst 0, 1) := by decide +kernel
theorem dX0_numberOfTarget_17 : decode cX0_numberOfTarget 17 = .ok (.ireturn, 1) := by decide +kernel
set_option maxRecDepth 20000 in
theorem ggX0_numberOfJump_X3_isAddress : GoodIn wsX0_numberOfJump wsX3_isAddress := goodIn_r _ [4] (by decide +kernel) (by decide +kernel)
set_option maxRecDepth 20000 in
theorem gX0_numberOfJump_X3_isAddress_n21 : GoodIn wsX0_numberOfJump (wsX3_isAddress) := ggX0_numberOfJump_X3_isAddress
theorem dX0_numberOfJump_0 : decode cX0_numberOfJump 0 = .ok (.iload_n 1, 1) := by decide +kernel
theorem dX0_numberOfJump_1 : decode cX0_numberOfJump 1 = .ok (.invokestatic 21, 3) := by decide +kernel
theorem dX0_numberOfJump_4 : decode cX0_numberOfJump 4 = .ok (.ifCond .eq 12, 3) := by decide +kernel
theorem dX0_numberOfJump_7 : decode cX0_numberOfJump 7 = .ok (.aload_n 0, 1) := by decide +kernel
theorem dX0_numberOfJump_8 : decode cX0_numberOfJump 8 = .ok (.getfield 18, 3) := by decide +kernel
theorem dX0_numberOfJump_11 : decode cX0_numberOfJump 11 = .ok (.iload_n 1, 1) := by decide +kernel
theorem dX0_numberOfJump_12 : decode cX0_numberOfJump 12 = .ok (.iaload, 1) := by decide +kernel
theorem dX0_numberOfJump_13 : decode cX0_numberOfJump 13 = .ok (.goto 4, 3) := by decide +kernel
theorem dX0_numberOfJump_16 : decode cX0_numberOfJump 16 = .ok (.iconst 0, 1) := by decide +kernel
theorem dX0_numberOfJump_17 : decode cX0_numberOfJump 17 = .ok (.ireturn, 1) := by decide +kernel
set_option maxRecDepth 20000 in
theorem ggX0_joinClasses_X0_numberOfJump : GoodIn wsX0_joinClasses wsX0_numberOfJump := goodIn_r _ [14, 1, 15, 16, 17, 25, 26, 27, 28] (by decide +kernel) (by decide +kernel)
set_option maxRecDepth 20000 in
theorem gX0_joinClasses_X0_numberOfJump : GoodIn wsX0_joinClasses (wsV RX0 33 RX0 yX0_numberOfJump wsX0_numberOfJump) := goodIn_app (goodIn_of _ (by decide +kernel)) ggX0_joinClasses_X0_numberOfJump
set_option maxRecDepth 20000 in
theorem ggX0_joinClasses_X0_numberOfTarget : GoodIn wsX0_joinClasses wsX0_numberOfTarget := goodIn_r _ [21, 9, 15, 16, 17, 25, 26, 27, 28] (by decide +kernel) (by decide +kernel)
set_option maxRecDepth 20000 in
theorem gX0_joinClasses_X0_numberOfTarget : GoodIn wsX0_joinClasses (wsV RX0 37 RX0 yX0_numberOfTarget wsX0_numberOfTarget) := goodIn_app (goodIn_of _ (by decide +kernel)) ggX0_joinClasses_X0_numberOfTarget
set_option maxRecDepth 20000 in
theorem ggX0_joinClasses_X0_renumber : GoodIn wsX0_joinClasses wsX0_renumber := goodIn_r _ [24] (by decide +kernel) (by decide +kernel)
set_option maxRecDepth 20000 in
theorem gX0_joinClasses_X0_renumber : GoodIn wsX0_joinClasses (va_wsS RX0 49 yX0_renumber wsX0_renumber) := goodIn_app (goodIn_of _ (by decide +kernel)) ggX0_joinClasses_X0_renumber
theorem dX0_joinClasses_0 : decode cX0_joinClasses 0 = .ok (.aload_n 0, 1) := by decide +kernel
theorem dX0_joinClasses_1 : decode cX0_joinClasses 1 = .ok (.iload_n 1, 1) := by decide +kernel
theorem dX0_joinClasses_2 : decode cX0_joinClasses 2 = .ok (.invokevirtual 33, 3) := by decide +kernel
theorem dX0_joinClasses_5 : decode cX0_joinClasses 5 = .ok (.istore_n 3, 1) := by decide +kernel
theorem dX0_joinClasses_6 : decode cX0_joinClasses 6 = .ok (.aload_n 0, 1) := by decide +kernel
theorem dX0_joinClasses_7 : decode cX0_joinClasses 7 = .ok (.iload_n 2, 1) := by decide +kernel
theorem dX0_joinClasses_8 : decode cX0_joinClasses 8 = .ok (.invokevirtual 37, 3) := by decide +kernel
theorem dX0_joinClasses_11 : decode cX0_joinClasses 11 = .ok (.istore 4, 2) := by decide +kernel
theorem dX0_joinClasses_13 : decode cX0_joinClasses 13 = .ok (.iload_n 3, 1) := by decide +kernel
theorem dX0_joinClasses_14 : decode cX0_joinClasses 14 = .ok (.ifCond .ne 12, 3) := by decide +kernel
theorem dX0_joinClasses_17 : decode cX0_joinClasses 17 = .ok (.aload_n 0, 1) := by decide +kernel
theorem dX0_joinClasses_18 : decode cX0_joinClasses 18 = .ok (.getfield 18, 3) := by decide +kernel
theorem dX0_joinClasses_21 : decode cX0_joinClasses 21 = .ok (.iload_n 1, 1) := by decide +kernel
theorem dX0_joinClasses_22 : decode cX0_joinClasses 22 = .ok (.iload 4, 2) := by decide +kernel
theorem dX0_joinClasses_24 : decode cX0_joinClasses 24 = .ok (.iastore, 1) := by decide +kernel
theorem dX0_joinClasses_25 : decode cX0_joinClasses 25 = .ok (.return_, 1) := by decide +kernel
theorem dX0_joinClasses_26 : decode cX0_joinClasses 26 = .ok (.iload_n 3, 1) := by decide +kernel
theorem dX0_joinClasses_27 : decode cX0_joinClasses 27 = .ok (.iload 4, 2) := by decide +kernel
theorem dX0_joinClasses_29 : decode cX0_joinClasses 29 = .ok (.invokestatic 40, 3) := by decide +kernel
theorem dX0_joinClasses_32 : decode cX0_joinClasses 32 = .ok (.istore 5, 2) := by decide +kernel
theorem dX0_joinClasses_34 : decode cX0_joinClasses 34 = .ok (.iload_n 3, 1) := by decide +kernel
theorem dX0_joinClasses_35 : decode cX0_joinClasses 35 = .ok (.iload 4, 2) := by decide +kernel
theorem dX0_joinClasses_37 : decode cX0_joinClasses 37 = .ok (.invokestatic 46, 3) := by decide +kernel
theorem dX0_joinClasses_40 : decode cX0_joinClasses 40 = .ok (.istore 6, 2) := by decide +kernel
theorem dX0_joinClasses_42 : decode cX0_joinClasses 42 = .ok (.aload_n 0, 1) := by decide +kernel
theorem dX0_joinClasses_43 : decode cX0_joinClasses 43 = .ok (.getfield 15, 3) := by decide +kernel
theorem dX0_joinClasses_46 : decode cX0_joinClasses 46 = .ok (.iload 6, 2) := by decide +kernel
theorem dX0_joinClasses_48 : decode cX0_joinClasses 48 = .ok (.iload 5, 2) := by decide +kernel
theorem dX0_joinClasses_50 : decode cX0_joinClasses 50 = .ok (.invokestatic 49, 3) := by decide +kernel
theorem dX0_joinClasses_53 : decode cX0_joinClasses 53 = .ok (.aload_n 0, 1) := by decide +kernel
theorem dX0_joinClasses_54 : decode cX0_joinClasses 54 = .ok (.getfield 18, 3) := by decide +kernel
theorem dX0_joinClasses_57 : decode cX0_joinClasses 57 = .ok (.iload 6, 2) := by decide +kernel
theorem dX0_joinClasses_59 : decode cX0_joinClasses 59 = .ok (.iload 5, 2) := by decide +kernel
theorem dX0_joinClasses_61 : decode cX0_joinClasses 61 = .ok (.invokestatic 49, 3) := by decide +kernel
theorem dX0_joinClasses_64 : decode cX0_joinClasses 64 = .ok (.return_, 1) := by decide +kernel
theorem dX0_renumber_0 : decode cX0_renumber 0 = .ok (.iconst 0, 1) := by decide +kernel
theorem dX0_renumber_1 : decode cX0_renumber 1 = .ok (.istore_n 3, 1) := by decide +kernel
theorem dX0_renumber_2 : decode cX0_renumber 2 = .ok (.iload_n 3, 1) := by decide +kernel
theorem dX0_renumber_3 : decode cX0_renumber 3 = .ok (.aload_n 0, 1) := by decide +kernel
theorem dX0_renumber_4 : decode cX0_renumber 4 = .ok (.arraylength, 1) := by decide +kernel
theorem dX0_renumber_5 : decode cX0_renumber 5 = .ok (.if_icmp .ge 20, 3) := by decide +kernel
theorem dX0_renumber_8 : decode cX0_renumber 8 = .ok (.aload_n 0, 1) := by decide +kernel
theorem dX0_renumber_9 : decode cX0_renumber 9 = .ok (.iload_n 3, 1) := by decide +kernel
theorem dX0_renumber_10 : decode cX0_renumber 10 = .ok (.iaload, 1) := by decide +kernel
theorem dX0_renumber_11 : decode cX0_renumber 11 = .ok (.iload_n 1, 1) := by decide +kernel
theorem dX0_renumber_12 : decode cX0_renumber 12 = .ok (.if_icmp .ne 7, 3) := by decide +kernel
theorem dX0_renumber_15 : decode cX0_renumber 15 = .ok (.aload_n 0, 1) := by decide +kernel
theorem dX0_renumber_16 : decode cX0_renumber 16 = .ok (.iload_n 3, 1) := by decide +kernel
theorem dX0_renumber_17 : decode cX0_renumber 17 = .ok (.iload_n 2, 1) := by decide +kernel
theorem dX0_renumber_18 : decode cX0_renumber 18 = .ok (.iastore, 1) := by decide +kernel
theorem dX0_renumber_19 : decode cX0_renumber 19 = .ok (.iinc 3 1, 3) := by decide +kernel
theorem dX0_renumber_22 : decode cX0_renumber 22 = .ok (.goto (-20), 3) := by decide +kernel
theorem dX0_renumber_25 : decode cX0_renumber 25 = .ok (.return_, 1) := by decide +kernel
set_option maxRecDepth 20000 in
theorem ggX1_init_X2_init : GoodIn wsX1_init wsX2_init := goodIn_r _ [15, 16, 2, 3, 17, 18, 19, 20, 21, 22, 23, 24, 4, 25, 33, 34, 35] (by decide +kernel) (by decide +kernel)
set_option maxRecDepth 20000 in
theorem gX1_init_X2_init : GoodIn wsX1_init (wsX2_init) := ggX1_init_X2_init
theorem dX1_init_0 : decode cX1_init 0 = .ok (.aload_n 0, 1) := by decide +kernel
theorem dX1_init_1 : decode cX1_init 1 = .ok (.invokespecial 3, 3) := by decide +kernel
theorem dX1_init_4 : decode cX1_init 4 = .ok (.aload_n 0, 1) := by decide +kernel
theorem dX1_init_5 : decode cX1_init 5 = .ok (.iconst 4, 1) := by decide +kernel
theorem dX1_init_6 : decode cX1_init 6 = .ok (.newarray .int, 2) := by decide +kernel
theorem dX1_init_8 : decode cX1_init 8 = .ok (.putfield 9, 3) := by decide +kernel
theorem dX1_init_11 : decode cX1_init 11 = .ok (.aload_n 0, 1) := by decide +kernel
theorem dX1_init_12 : decode cX1_init 12 = .ok (.bipush 16, 2) := by decide +kernel
theorem dX1_init_14 : decode cX1_init 14 = .ok (.newarray .int, 2) := by decide +kernel
theorem dX1_init_16 : decode cX1_init 16 = .ok (.putfield 15, 3) := by decide +kernel
theorem dX1_init_19 : decode cX1_init 19 = .ok (.aload_n 0, 1) := by decide +kernel
theorem dX1_init_20 : decode cX1_init 20 = .ok (.bipush 8, 2) := by decide +kernel
theorem dX1_init_22 : decode cX1_init 22 = .ok (.newarray .int, 2) := by decide +kernel
theorem dX1_init_24 : decode cX1_init 24 = .ok (.putfield 18, 3) := by decide +kernel
theorem dX1_init_27 : decode cX1_init 27 = .ok (.aload_n 0, 1) := by decide +kernel
theorem dX1_init_28 : decode cX1_init 28 = .ok (.new 21, 3) := by decide +kernel
theorem dX1_init_31 : decode cX1_init 31 = .ok (.dup, 1) := by decide +kernel
theorem dX1_init_32 : decode cX1_init 32 = .ok (.iconst 0, 1) := by decide +kernel
theorem dX1_init_33 : decode cX1_init 33 = .ok (.invokespecial 23, 3) := by decide +kernel
theorem dX1_init_36 : decode cX1_init 36 = .ok (.putfield 26, 3) := by decide +kernel
theorem dX1_init_39 : decode cX1_init 39 = .ok (.aload_n 0, 1) := by decide +kernel
theorem dX1_init_40 : decode cX1_init 40 = .ok (.iconst (-1), 1) := by decide +kernel
theorem dX1_init_41 : decode cX1_init 41 = .ok (.putfield 30, 3) := by decide +kernel
theorem dX1_init_44 : decode cX1_init 44 = .ok (.return_, 1) := by decide +kernel
set_option maxRecDepth 20000 in
theorem ggX1_begin_J7_fill_53178 : GoodIn wsX1_begin wsJ7_fill_53178 := goodIn_r _ [10] (by decide +kernel) (by decide +kernel)
set_option maxRecDepth 20000 in
theorem gX1_begin_J7_fill_53178 : GoodIn wsX1_begin (va_wsS RX1 34 yJ7_fill_53178 wsJ7_fill_53178) := goodIn_app (goodIn_of _ (by decide +kernel)) ggX1_begin_J7_fill_53178
theorem dX1_begin_0 : decode cX1_begin 0 = .ok (.aload_n 0, 1) := by decide +kernel
theorem dX1_begin_1 : decode cX1_begin 1 = .ok (.aload_n 1, 1) := by decide +kernel
theorem dX1_begin_2 : decode cX1_begin 2 = .ok (.putfield 26, 3) := by decide +kernel
theorem dX1_begin_5 : decode cX1_begin 5 = .ok (.aload_n 0, 1) := by decide +kernel
theorem dX1_begin_6 : decode cX1_begin 6 = .ok (.getfield 9, 3) := by decide +kernel
theorem dX1_begin_9 : decode cX1_begin 9 = .ok (.iconst 0, 1) := by decide +kernel
theorem dX1_begin_10 : decode cX1_begin 10 = .ok (.invokestatic 34, 3) := by decide +kernel
theorem dX1_begin_13 : decode cX1_begin 13 = .ok (.aload_n 0, 1) := by decide +kernel
theorem dX1_begin_14 : decode cX1_begin 14 = .ok (.getfield 15, 3) := by decide +kernel
theorem dX1_begin_17 : decode cX1_begin 17 = .ok (.iconst 0, 1) := by decide +kernel
theorem dX1_begin_18 : decode cX1_begin 18 = .ok (.invokestatic 34, 3) := by decide +kernel
theorem dX1_begin_21 : decode cX1_begin 21 = .ok (.aload_n 0, 1) := by decide +kernel
theorem dX1_begin_22 : decode cX1_begin 22 = .ok (.iconst 0, 1) := by decide +kernel
theorem dX1_begin_23 : decode cX1_begin 23 = .ok (.putfield 40, 3) := by decide +kernel
theorem dX1_begin_26 : decode cX1_begin 26 = .ok (.aload_n 0, 1) := by decide +kernel
theorem dX1_begin_27 : decode cX1_begin 27 = .ok (.iconst 0, 1) := by decide +kernel
theorem dX1_begin_28 : decode cX1_begin 28 = .ok (.putfield 43, 3) := by decide +kernel
theorem dX1_begin_31 : decode cX1_begin 31 = .ok (.aload_n 0, 1) := by decide +kernel
theorem dX1_begin_32 : decode cX1_begin 32 = .ok (.iconst 0, 1) := by decide +kernel
theorem dX1_begin_33 : decode cX1_begin 33 = .ok (.putfield 30, 3) := by decide +kernel
theorem dX1_begin_36 : decode cX1_begin 36 = .ok (.return_, 1) := by decide +kernel
theorem dX1_stop_0 : decode cX1_stop 0 = .ok (.aload_n 0, 1) := by decide +kernel
theorem dX1_stop_1 : decode cX1_stop 1 = .ok (.iconst (-1), 1) := by decide +kernel
theorem dX1_stop_2 : decode cX1_stop 2 = .ok (.putfield 30, 3) := by decide +kernel
theorem dX1_stop_5 : decode cX1_stop 5 = .ok (.return_, 1) := by decide +kernel
theorem dX1_isIdle_0 : decode cX1_isIdle 0 = .ok (.aload_n 0, 1) := by decide +kernel
theorem dX1_isIdle_1 : decode cX1_isIdle 1 = .ok (.getfield 30, 3) := by decide +kernel
theorem dX1_isIdle_4 : decode cX1_isIdle 4 = .ok (.iconst (-1), 1) := by decide +kernel
theorem dX1_isIdle_5 : decode cX1_isIdle 5 = .ok (.if_icmp .ne 7, 3) := by decide +kernel
theorem dX1_isIdle_8 : decode cX1_isIdle 8 = .ok (.iconst 1, 1) := by decide +kernel
theorem dX1_isIdle_9 : decode cX1_isIdle 9 = .ok (.goto 4, 3) := by decide +kernel
theorem dX1_isIdle_12 : decode cX1_isIdle 12 = .ok (.iconst 0, 1) := by decide +kernel
theorem dX1_isIdle_13 : decode cX1_isIdle 13 = .ok (.ireturn, 1) := by decide +kernel
set_option maxRecDepth 20000 in
theorem ggX1_makeSteps_X1_makeStep : GoodIn wsX1_makeSteps wsX1_makeStep := goodIn_r _ [6, 7, 8, 1, 9, 10, 11, 12, 13, 14, 15, 16, 17, 18, 19, 20, 21, 22, 5, 23, 24, 25, 26, 27, 28, 29, 30, 31, 32, 33, 34, 35, 36, 37, 38, 39, 40, 41, 42, 43, 44, 45, 46, 47, 48, 49, 50, 51, 52, 53, 54, 55, 56, 57, 58, 59, 60, 61, 62, 63, 64, 65, 66, 67, 68, 69, 70, 71] (by decide +kernel) (by decide +kernel)
set_option maxRecDepth 20000 in
theorem gX1_makeSteps_X1_makeStep : GoodIn wsX1_makeSteps (wsV RX1 46 RX1 yX1_makeStep wsX1_makeStep) := goodIn_app (goodIn_of _ (by decide +kernel)) ggX1_makeSteps_X1_makeStep
theorem dX1_makeSteps_0 : decode cX1_makeSteps 0 = .ok (.iconst 0, 1) := by decide +kernel
theorem dX1_makeSteps_1 : decode cX1_makeSteps 1 = .ok (.istore_n 2, 1) := by decide +kernel
theorem dX1_makeSteps_2 : decode cX1_makeSteps 2 = .ok (.iload_n 2, 1) := by decide +kernel
theorem dX1_makeSteps_3 : decode cX1_makeSteps 3 = .ok (.iload_n 1, 1) := by decide +kernel
theorem dX1_makeSteps_4 : decode cX1_makeSteps 4 = .ok (.if_icmp .ge 20, 3) := by decide +kernel
theorem dX1_makeSteps_7 : decode cX1_makeSteps 7 = .ok (.aload_n 0, 1) := by decide +kernel
theorem dX1_makeSteps_8 : decode cX1_makeSteps 8 = .ok (.getfield 30, 3) := by decide +kernel
theorem dX1_makeSteps_11 : decode cX1_makeSteps 11 = .ok (.ifCond .ne 13, 3) := by decide +kernel
theorem dX1_makeSteps_14 : decode cX1_makeSteps 14 = .ok (.aload_n 0, 1) := by decide +kernel
theorem dX1_makeSteps_15 : decode cX1_makeSteps 15 = .ok (.invokevirtual 46, 3) := by decide +kernel
theorem dX1_makeSteps_18 : decode cX1_makeSteps 18 = .ok (.iinc 2 1, 3) := by decide +kernel
theorem dX1_makeSteps_21 : decode cX1_makeSteps 21 = .ok (.goto (-19), 3) := by decide +kernel
theorem dX1_makeSteps_24 : decode cX1_makeSteps 24 = .ok (.iload_n 2, 1) := by decide +kernel
theorem dX1_makeSteps_25 : decode cX1_makeSteps 25 = .ok (.ireturn, 1) := by decide +kernel
set_option maxRecDepth 20000 in
theorem ggX1_registerValue_X3_isRegister : GoodIn wsX1_registerValue wsX3_isRegister := goodIn_r _ [4] (by decide +kernel) (by decide +kernel)
set_option maxRecDepth 20000 in
theorem gX1_registerValue_X3_isRegister_n49 : GoodIn wsX1_registerValue (wsX3_isRegister) := ggX1_registerValue_X3_isRegister
theorem dX1_registerValue_0 : decode cX1_registerValue 0 = .ok (.iload_n 1, 1) := by decide +kernel
theorem dX1_registerValue_1 : decode cX1_registerValue 1 = .ok (.invokestatic 49, 3) := by decide +kernel
theorem dX1_registerValue_4 : decode cX1_registerValue 4 = .ok (.ifCond .eq 12, 3) := by decide +kernel
theorem dX1_registerValue_7 : decode cX1_registerValue 7 = .ok (.aload_n 0, 1) := by decide +kernel
theorem dX1_registerValue_8 : decode cX1_registerValue 8 = .ok (.getfield 9, 3) := by decide +kernel
theorem dX1_registerValue_11 : decode cX1_registerValue 11 = .ok (.iload_n 1, 1) := by decide +kernel
theorem dX1_registerValue_12 : decode cX1_registerValue 12 = .ok (.iaload, 1) := by decide +kernel
theorem dX1_registerValue_13 : decode cX1_registerValue 13 = .ok (.goto 4, 3) := by decide +kernel
theorem dX1_registerValue_16 : decode cX1_registerValue 16 = .ok (.iconst 0, 1) := by decide +kernel
theorem dX1_registerValue_17 : decode cX1_registerValue 17 = .ok (.ireturn, 1) := by decide +kernel
set_option maxRecDepth 20000 in
theorem ggX1_cellValue_X3_isCell : GoodIn wsX1_cellValue wsX3_isCell := goodIn_r _ [4] (by decide +kernel) (by decide +kernel)
set_option maxRecDepth 20000 in
theorem gX1_cellValue_X3_isCell_n53 : GoodIn wsX1_cellValue (wsX3_isCell) := ggX1_cellValue_X3_isCell
theorem dX1_cellValue_0 : decode cX1_cellValue 0 = .ok (.iload_n 1, 1) := by decide +kernel
theorem dX1_cellValue_1 : decode cX1_cellValue 1 = .ok (.invokestatic 53, 3) := by decide +kernel
theorem dX1_cellValue_4 : decode cX1_cellValue 4 = .ok (.ifCond .eq 12, 3) := by decide +kernel
theorem dX1_cellValue_7 : decode cX1_cellValue 7 = .ok (.aload_n 0, 1) := by decide +kernel
theorem dX1_cellValue_8 : decode cX1_cellValue 8 = .ok (.getfield 15, 3) := by decide +kernel
theorem dX1_cellValue_11 : decode cX1_cellValue 11 = .ok (.iload_n 1, 1) := by decide +kernel
theorem dX1_cellValue_12 : decode cX1_cellValue 12 = .ok (.iaload, 1) := by decide +kernel
theorem dX1_cellValue_13 : decode cX1_cellValue 13 = .ok (.goto 4, 3) := by decide +kernel
theorem dX1_cellValue_16 : decode cX1_cellValue 16 = .ok (.iconst 0, 1) := by decide +kernel
theorem dX1_cellValue_17 : decode cX1_cellValue 17 = .ok (.ireturn, 1) := by decide +kernel
set_option maxRecDepth 20000 in
theorem ggX1_setCell_X3_isCell : GoodIn wsX1_setCell wsX3_isCell := goodIn_r _ [4] (by decide +kernel) (by decide +kernel)
set_option maxRecDepth 20000 in
theorem gX1_setCell_X3_isCell_n53 : GoodIn wsX1_setCell (wsX3_isCell) := ggX1_setCell_X3_isCell
theorem dX1_setCell_0 : decode cX1_setCell 0 = .ok (.iload_n 1, 1) := by decide +kernel
theorem dX1_setCell_1 : decode cX1_setCell 1 = .ok (.invokestatic 53, 3) := by decide +kernel
theorem dX1_setCell_4 : decode cX1_setCell 4 = .ok (.ifCond .eq 10, 3) := by decide +kernel
theorem dX1_setCell_7 : decode cX1_setCell 7 = .ok (.aload_n 0, 1) := by decide +kernel
theorem dX1_setCell_8 : decode cX1_setCell 8 = .ok (.getfield 15, 3) := by decide +kernel
theorem dX1_setCell_11 : decode cX1_setCell 11 = .ok (.iload_n 1, 1) := by decide +kernel
theorem dX1_setCell_12 : decode cX1_setCell 12 = .ok (.iload_n 2, 1) := by decide +kernel
theorem dX1_setCell_13 : decode cX1_setCell 13 = .ok (.iastore, 1) := by decide +kernel
theorem dX1_setCell_14 : decode cX1_setCell 14 = .ok (.return_, 1) := by decide +kernel
theorem dX1_shownBefore_0 : decode cX1_shownBefore 0 = .ok (.iload_n 1, 1) := by decide +kernel
theorem dX1_shownBefore_1 : decode cX1_shownBefore 1 = .ok (.ifCond .lt 17, 3) := by decide +kernel
theorem dX1_shownBefore_4 : decode cX1_shownBefore 4 = .ok (.iload_n 1, 1) := by decide +kernel
theorem dX1_shownBefore_5 : decode cX1_shownBefore 5 = .ok (.bipush 8, 2) := by decide +kernel
theorem dX1_shownBefore_7 : decode cX1_shownBefore 7 = .ok (.if_icmp .ge 11, 3) := by decide +kernel
theorem dX1_shownBefore_10 : decode cX1_shownBefore 10 = .ok (.iload_n 1, 1) := by decide +kernel
theorem dX1_shownBefore_11 : decode cX1_shownBefore 11 = .ok (.aload_n 0, 1) := by decide +kernel
theorem dX1_shownBefore_12 : decode cX1_shownBefore 12 = .ok (.getfield 43, 3) := by decide +kernel
theorem dX1_shownBefore_15 : decode cX1_shownBefore 15 = .ok (.if_icmp .lt 5, 3) := by decide +kernel
theorem dX1_shownBefore_18 : decode cX1_shownBefore 18 = .ok (.iconst 0, 1) := by decide +kernel
theorem dX1_shownBefore_19 : decode cX1_shownBefore 19 = .ok (.ireturn, 1) := by decide +kernel
theorem dX1_shownBefore_20 : decode cX1_shownBefore 20 = .ok (.aload_n 0, 1) := by decide +kernel
theorem dX1_shownBefore_21 : decode cX1_shownBefore 21 = .ok (.getfield 18, 3) := by decide +kernel
theorem dX1_shownBefore_24 : decode cX1_shownBefore 24 = .ok (.aload_n 0, 1) := by decide +kernel
theorem dX1_shownBefore_25 : decode cX1_shownBefore 25 = .ok (.getfield 43, 3) := by decide +kernel
theorem dX1_shownBefore_28 : decode cX1_shownBefore 28 = .ok (.iconst 1, 1) := by decide +kernel
theorem dX1_shownBefore_29 : decode cX1_shownBefore 29 = .ok (.isub, 1) := by decide +kernel
theorem dX1_shownBefore_30 : decode cX1_shownBefore 30 = .ok (.iload_n 1, 1) := by decide +kernel
theorem dX1_shownBefore_31 : decode cX1_shownBefore 31 = .ok (.isub, 1) := by decide +kernel
theorem dX1_shownBefore_32 : decode cX1_shownBefore 32 = .ok (.bipush 7, 2) := by decide +kernel
theorem dX1_shownBefore_34 : decode cX1_shownBefore 34 = .ok (.iand, 1) := by decide +kernel
theorem dX1_shownBefore_35 : decode cX1_shownBefore 35 = .ok (.iaload, 1) := by decide +kernel
theorem dX1_shownBefore_36 : decode cX1_shownBefore 36 = .ok (.ireturn, 1) := by decide +kernel
set_option maxRecDepth 20000 in
theorem ggX1_makeStep_X2_get : GoodIn wsX1_makeStep wsX2_get := goodIn_r _ [8, 9, 10, 11, 12, 7, 13, 14, 65, 66, 67] (by decide +kernel) (by decide +kernel)
set_option maxRecDepth 20000 in
theorem gX1_makeStep_X2_get : GoodIn wsX1_makeStep (wsV RX1 56 RX2 yX2_get wsX2_get) := goodIn_app (goodIn_of _ (by decide +kernel)) ggX1_makeStep_X2_get
set_option maxRecDepth 20000 in
theorem ggX1_makeStep_X1_carryOut : GoodIn wsX1_makeStep wsX1_carryOut := goodIn_r _ [19, 2, 3, 20, 21, 22, 18, 23, 24, 25, 26, 27, 28, 29, 30, 31, 32, 33, 34, 35, 36, 37, 38, 39, 40, 41, 42, 43, 44, 45, 46, 47, 48, 49, 50, 51, 52, 1, 53, 11, 12, 7, 13, 14, 54, 55, 56, 57, 4, 5, 6, 8, 9, 10, 58, 59, 60, 61, 62, 63, 64, 65, 66, 67] (by decide +kernel) (by decide +kernel)
set_option maxRecDepth 20000 in
theorem gX1_makeStep_X1_carryOut : GoodIn wsX1_makeStep (wsV RX1 60 RX1 yX1_carryOut wsX1_carryOut) := goodIn_app (goodIn_of _ (by decide +kernel)) ggX1_makeStep_X1_carryOut
theorem dX1_makeStep_0 : decode cX1_makeStep 0 = .ok (.aload_n 0, 1) := by decide +kernel
theorem dX1_makeStep_1 : decode cX1_makeStep 1 = .ok (.aload_n 0, 1) := by decide +kernel
theorem dX1_makeStep_2 : decode cX1_makeStep 2 = .ok (.getfield 26, 3) := by decide +kernel
theorem dX1_makeStep_5 : decode cX1_makeStep 5 = .ok (.aload_n 0, 1) := by decide +kernel
theorem dX1_makeStep_6 : decode cX1_makeStep 6 = .ok (.getfield 40, 3) := by decide +kernel
theorem dX1_makeStep_9 : decode cX1_makeStep 9 = .ok (.iconst 0, 1) := by decide +kernel
theorem dX1_makeStep_10 : decode cX1_makeStep 10 = .ok (.invokevirtual 56, 3) := by decide +kernel
theorem dX1_makeStep_13 : decode cX1_makeStep 13 = .ok (.aload_n 0, 1) := by decide +kernel
theorem dX1_makeStep_14 : decode cX1_makeStep 14 = .ok (.getfield 26, 3) := by decide +kernel
theorem dX1_makeStep_17 : decode cX1_makeStep 17 = .ok (.aload_n 0, 1) := by decide +kernel
theorem dX1_makeStep_18 : decode cX1_makeStep 18 = .ok (.getfield 40, 3) := by decide +kernel
theorem dX1_makeStep_21 : decode cX1_makeStep 21 = .ok (.iconst 1, 1) := by decide +kernel
theorem dX1_makeStep_22 : decode cX1_makeStep 22 = .ok (.invokevirtual 56, 3) := by decide +kernel
theorem dX1_makeStep_25 : decode cX1_makeStep 25 = .ok (.aload_n 0, 1) := by decide +kernel
theorem dX1_makeStep_26 : decode cX1_makeStep 26 = .ok (.getfield 26, 3) := by decide +kernel
theorem dX1_makeStep_29 : decode cX1_makeStep 29 = .ok (.aload_n 0, 1) := by decide +kernel
theorem dX1_makeStep_30 : decode cX1_makeStep 30 = .ok (.getfield 40, 3) := by decide +kernel
theorem dX1_makeStep_33 : decode cX1_makeStep 33 = .ok (.iconst 2, 1) := by decide +kernel
theorem dX1_makeStep_34 : decode cX1_makeStep 34 = .ok (.invokevirtual 56, 3) := by decide +kernel
theorem dX1_makeStep_37 : decode cX1_makeStep 37 = .ok (.invokevirtual 60, 3) := by decide +kernel
theorem dX1_makeStep_40 : decode cX1_makeStep 40 = .ok (.istore_n 1, 1) := by decide +kernel
theorem dX1_makeStep_41 : decode cX1_makeStep 41 = .ok (.aload_n 0, 1) := by decide +kernel
theorem dX1_makeStep_42 : decode cX1_makeStep 42 = .ok (.getfield 30, 3) := by decide +kernel
theorem dX1_makeStep_45 : decode cX1_makeStep 45 = .ok (.ifCond .ne 8, 3) := by decide +kernel
theorem dX1_makeStep_48 : decode cX1_makeStep 48 = .ok (.aload_n 0, 1) := by decide +kernel
theorem dX1_makeStep_49 : decode cX1_makeStep 49 = .ok (.iload_n 1, 1) := by decide +kernel
theorem dX1_makeStep_50 : decode cX1_makeStep 50 = .ok (.putfield 40, 3) := by decide +kernel
theorem dX1_makeStep_53 : decode cX1_makeStep 53 = .ok (.return_, 1) := by decide +kernel
set_option maxRecDepth 20000 in
theorem ggX1_carryOut_X1_setRegister : GoodIn wsX1_carryOut wsX1_setRegister := goodIn_r _ [7, 8, 9, 10, 11, 54, 55, 56, 57, 58, 59, 60] (by decide +kernel) (by decide +kernel)
set_option maxRecDepth 20000 in
theorem gX1_carryOut_X1_setRegister : GoodIn wsX1_carryOut (wsV RX1 64 RX1 yX1_setRegister wsX1_setRegister) := goodIn_app (goodIn_of _ (by decide +kernel)) ggX1_carryOut_X1_setRegister
set_option maxRecDepth 20000 in
theorem ggX1_carryOut_X1_cellValue : GoodIn wsX1_carryOut wsX1_cellValue := goodIn_r _ [15, 16, 17, 10, 18, 54, 55, 56, 57, 58, 59, 60] (by decide +kernel) (by decide +kernel)
set_option maxRecDepth 20000 in
theorem gX1_carryOut_X1_cellValue : GoodIn wsX1_carryOut (wsV RX1 68 RX1 yX1_cellValue wsX1_cellValue) := goodIn_app (goodIn_of _ (by decide +kernel)) ggX1_carryOut_X1_cellValue
set_option maxRecDepth 20000 in
theorem ggX1_carryOut_X1_registerValue : GoodIn wsX1_carryOut wsX1_registerValue := goodIn_r _ [22, 8, 9, 10, 11, 54, 55, 56, 57, 58, 59, 60] (by decide +kernel) (by decide +kernel)
set_option maxRecDepth 20000 in
theorem gX1_carryOut_X1_registerValue : GoodIn wsX1_carryOut (wsV RX1 72 RX1 yX1_registerValue wsX1_registerValue) := goodIn_app (goodIn_of _ (by decide +kernel)) ggX1_carryOut_X1_registerValue
set_option maxRecDepth 20000 in
theorem ggX1_carryOut_X1_setCell : GoodIn wsX1_carryOut wsX1_setCell := goodIn_r _ [26, 16, 17, 10, 18, 54, 55, 56, 57, 58, 59, 60] (by decide +kernel) (by decide +kernel)
set_option maxRecDepth 20000 in
theorem gX1_carryOut_X1_setCell : GoodIn wsX1_carryOut (wsV RX1 75 RX1 yX1_setCell wsX1_setCell) := goodIn_app (goodIn_of _ (by decide +kernel)) ggX1_carryOut_X1_setCell
set_option maxRecDepth 20000 in
theorem ggX1_carryOut_X1_keepShown : GoodIn wsX1_carryOut wsX1_keepShown := goodIn_r _ [30, 31, 32, 54, 55, 56, 57, 58, 59, 60] (by decide +kernel) (by decide +kernel)
set_option maxRecDepth 20000 in
theorem gX1_carryOut_X1_keepShown : GoodIn wsX1_carryOut (wsV RX1 78 RX1 yX1_keepShown wsX1_keepShown) := goodIn_app (goodIn_of _ (by decide +kernel)) ggX1_carryOut_X1_keepShown
set_option maxRecDepth 20000 in
theorem ggX1_carryOut_X1_jumpTo : GoodIn wsX1_carryOut wsX1_jumpTo := goodIn_r _ [36, 37, 2, 38, 39, 40, 41, 42, 43, 54, 55, 56, 57, 58, 59, 60, 61, 62, 63] (by decide +kernel) (by decide +kernel)
set_option maxRecDepth 20000 in
theorem gX1_carryOut_X1_jumpTo : GoodIn wsX1_carryOut (wsV RX1 81 RX1 yX1_jumpTo wsX1_jumpTo) := goodIn_app (goodIn_of _ (by decide +kernel)) ggX1_carryOut_X1_jumpTo
set_option maxRecDepth 20000 in
theorem ggX1_carryOut_X1_checkLabel : GoodIn wsX1_carryOut wsX1_checkLabel := goodIn_r _ [47, 37, 2, 48, 49, 50, 41, 51, 52, 53, 39, 40, 42, 43, 54, 55, 56, 57, 58, 59, 60, 61, 62, 63] (by decide +kernel) (by decide +kernel)
set_option maxRecDepth 20000 in
theorem gX1_carryOut_X1_checkLabel : GoodIn wsX1_carryOut (wsV RX1 84 RX1 yX1_checkLabel wsX1_checkLabel) := goodIn_app (goodIn_of _ (by decide +kernel)) ggX1_carryOut_X1_checkLabel
theorem dX1_carryOut_0 : decode cX1_carryOut 0 = .ok (.aload_n 0, 1) := by decide +kernel
theorem dX1_carryOut_1 : decode cX1_carryOut 1 = .ok (.getfield 40, 3) := by decide +kernel
theorem dX1_carryOut_4 : decode cX1_carryOut 4 = .ok (.iconst 1, 1) := by decide +kernel
theorem dX1_carryOut_5 : decode cX1_carryOut 5 = .ok (.iadd, 1) := by decide +kernel
theorem dX1_carryOut_6 : decode cX1_carryOut 6 = .ok (.istore 4, 2) := by decide +kernel
theorem dX1_carryOut_8 : decode cX1_carryOut 8 = .ok (.iload_n 1, 1) := by decide +kernel
theorem dX1_carryOut_9 : decode cX1_carryOut 9 = .ok (.tableswitch 177 0 11 #[63, 71, 80, 93, 106, 125, 137, 139, 154, 71, 177, 164], 63) := by decide +kernel
theorem dX1_carryOut_72 : decode cX1_carryOut 72 = .ok (.aload_n 0, 1) := by decide +kernel
theorem dX1_carryOut_73 : decode cX1_carryOut 73 = .ok (.iconst 1, 1) := by decide +kernel
theorem dX1_carryOut_74 : decode cX1_carryOut 74 = .ok (.putfield 30, 3) := by decide +kernel
theorem dX1_carryOut_77 : decode cX1_carryOut 77 = .ok (.iload 4, 2) := by decide +kernel
theorem dX1_carryOut_79 : decode cX1_carryOut 79 = .ok (.ireturn, 1) := by decide +kernel
theorem dX1_carryOut_80 : decode cX1_carryOut 80 = .ok (.aload_n 0, 1) := by decide +kernel
theorem dX1_carryOut_81 : decode cX1_carryOut 81 = .ok (.iload_n 2, 1) := by decide +kernel
theorem dX1_carryOut_82 : decode cX1_carryOut 82 = .ok (.iload_n 3, 1) := by decide +kernel
theorem dX1_carryOut_83 : decode cX1_carryOut 83 = .ok (.invokevirtual 64, 3) := by decide +kernel
theorem dX1_carryOut_86 : decode cX1_carryOut 86 = .ok (.iload 4, 2) := by decide +kernel
theorem dX1_carryOut_88 : decode cX1_carryOut 88 = .ok (.ireturn, 1) := by decide +kernel
theorem dX1_carryOut_89 : decode cX1_carryOut 89 = .ok (.aload_n 0, 1) := by decide +kernel
theorem dX1_carryOut_90 : decode cX1_carryOut 90 = .ok (.iload_n 2, 1) := by decide +kernel
theorem dX1_carryOut_91 : decode cX1_carryOut 91 = .ok (.aload_n 0, 1) := by decide +kernel
theorem dX1_carryOut_92 : decode cX1_carryOut 92 = .ok (.iload_n 3, 1) := by decide +kernel
theorem dX1_carryOut_93 : decode cX1_carryOut 93 = .ok (.invokevirtual 68, 3) := by decide +kernel
theorem dX1_carryOut_96 : decode cX1_carryOut 96 = .ok (.invokevirtual 64, 3) := by decide +kernel
theorem dX1_carryOut_99 : decode cX1_carryOut 99 = .ok (.iload 4, 2) := by decide +kernel
theorem dX1_carryOut_101 : decode cX1_carryOut 101 = .ok (.ireturn, 1) := by decide +kernel
theorem dX1_carryOut_102 : decode cX1_carryOut 102 = .ok (.aload_n 0, 1) := by decide +kernel
theorem dX1_carryOut_103 : decode cX1_carryOut 103 = .ok (.iload_n 3, 1) := by decide +kernel
theorem dX1_carryOut_104 : decode cX1_carryOut 104 = .ok (.aload_n 0, 1) := by decide +kernel
theorem dX1_carryOut_105 : decode cX1_carryOut 105 = .ok (.iload_n 2, 1) := by decide +kernel
theorem dX1_carryOut_106 : decode cX1_carryOut 106 = .ok (.invokevirtual 72, 3) := by decide +kernel
theorem dX1_carryOut_109 : decode cX1_carryOut 109 = .ok (.invokevirtual 75, 3) := by decide +kernel
theorem dX1_carryOut_112 : decode cX1_carryOut 112 = .ok (.iload 4, 2) := by decide +kernel
theorem dX1_carryOut_114 : decode cX1_carryOut 114 = .ok (.ireturn, 1) := by decide +kernel
theorem dX1_carryOut_115 : decode cX1_carryOut 115 = .ok (.aload_n 0, 1) := by decide +kernel
theorem dX1_carryOut_116 : decode cX1_carryOut 116 = .ok (.iload_n 2, 1) := by decide +kernel
theorem dX1_carryOut_117 : decode cX1_carryOut 117 = .ok (.aload_n 0, 1) := by decide +kernel
theorem dX1_carryOut_118 : decode cX1_carryOut 118 = .ok (.iload_n 2, 1) := by decide +kernel
theorem dX1_carryOut_119 : decode cX1_carryOut 119 = .ok (.invokevirtual 72, 3) := by decide +kernel
theorem dX1_carryOut_122 : decode cX1_carryOut 122 = .ok (.aload_n 0, 1) := by decide +kernel
theorem dX1_carryOut_123 : decode cX1_carryOut 123 = .ok (.iload_n 3, 1) := by decide +kernel
theorem dX1_carryOut_124 : decode cX1_carryOut 124 = .ok (.invokevirtual 72, 3) := by decide +kernel
theorem dX1_carryOut_127 : decode cX1_carryOut 127 = .ok (.iadd, 1) := by decide +kernel
theorem dX1_carryOut_128 : decode cX1_carryOut 128 = .ok (.invokevirtual 64, 3) := by decide +kernel
theorem dX1_carryOut_131 : decode cX1_carryOut 131 = .ok (.iload 4, 2) := by decide +kernel
theorem dX1_carryOut_133 : decode cX1_carryOut 133 = .ok (.ireturn, 1) := by decide +kernel
theorem dX1_carryOut_134 : decode cX1_carryOut 134 = .ok (.aload_n 0, 1) := by decide +kernel
theorem dX1_carryOut_135 : decode cX1_carryOut 135 = .ok (.aload_n 0, 1) := by decide +kernel
theorem dX1_carryOut_136 : decode cX1_carryOut 136 = .ok (.iload_n 2, 1) := by decide +kernel
theorem dX1_carryOut_137 : decode cX1_carryOut 137 = .ok (.invokevirtual 72, 3) := by decide +kernel
theorem dX1_carryOut_140 : decode cX1_carryOut 140 = .ok (.invokevirtual 78, 3) := by decide +kernel
theorem dX1_carryOut_143 : decode cX1_carryOut 143 = .ok (.iload 4, 2) := by decide +kernel
theorem dX1_carryOut_145 : decode cX1_carryOut 145 = .ok (.ireturn, 1) := by decide +kernel
theorem dX1_carryOut_146 : decode cX1_carryOut 146 = .ok (.iload_n 2, 1) := by decide +kernel
theorem dX1_carryOut_147 : decode cX1_carryOut 147 = .ok (.ireturn, 1) := by decide +kernel
theorem dX1_carryOut_148 : decode cX1_carryOut 148 = .ok (.aload_n 0, 1) := by decide +kernel
theorem dX1_carryOut_149 : decode cX1_carryOut 149 = .ok (.iload_n 2, 1) := by decide +kernel
theorem dX1_carryOut_150 : decode cX1_carryOut 150 = .ok (.invokevirtual 72, 3) := by decide +kernel
theorem dX1_carryOut_153 : decode cX1_carryOut 153 = .ok (.ifCond .ne 7, 3) := by decide +kernel
theorem dX1_carryOut_156 : decode cX1_carryOut 156 = .ok (.iload_n 3, 1) := by decide +kernel
theorem dX1_carryOut_157 : decode cX1_carryOut 157 = .ok (.goto 5, 3) := by decide +kernel
theorem dX1_carryOut_160 : decode cX1_carryOut 160 = .ok (.iload 4, 2) := by decide +kernel
theorem dX1_carryOut_162 : decode cX1_carryOut 162 = .ok (.ireturn, 1) := by decide +kernel
theorem dX1_carryOut_163 : decode cX1_carryOut 163 = .ok (.aload_n 0, 1) := by decide +kernel
theorem dX1_carryOut_164 : decode cX1_carryOut 164 = .ok (.aload_n 0, 1) := by decide +kernel
theorem dX1_carryOut_165 : decode cX1_carryOut 165 = .ok (.iload_n 2, 1) := by decide +kernel
theorem dX1_carryOut_166 : decode cX1_carryOut 166 = .ok (.invokevirtual 72, 3) := by decide +kernel
theorem dX1_carryOut_169 : decode cX1_carryOut 169 = .ok (.invokevirtual 81, 3) := by decide +kernel
theorem dX1_carryOut_172 : decode cX1_carryOut 172 = .ok (.ireturn, 1) := by decide +kernel
theorem dX1_carryOut_173 : decode cX1_carryOut 173 = .ok (.aload_n 0, 1) := by decide +kernel
theorem dX1_carryOut_174 : decode cX1_carryOut 174 = .ok (.aload_n 0, 1) := by decide +kernel
theorem dX1_carryOut_175 : decode cX1_carryOut 175 = .ok (.iload_n 2, 1) := by decide +kernel
theorem dX1_carryOut_176 : decode cX1_carryOut 176 = .ok (.invokevirtual 72, 3) := by decide +kernel
theorem dX1_carryOut_179 : decode cX1_carryOut 179 = .ok (.iload_n 3, 1) := by decide +kernel
theorem dX1_carryOut_180 : decode cX1_carryOut 180 = .ok (.invokevirtual 84, 3) := by decide +kernel
theorem dX1_carryOut_183 : decode cX1_carryOut 183 = .ok (.iload 4, 2) := by decide +kernel
theorem dX1_carryOut_185 : decode cX1_carryOut 185 = .ok (.ireturn, 1) := by decide +kernel
theorem dX1_carryOut_186 : decode cX1_carryOut 186 = .ok (.iload 4, 2) := by decide +kernel
theorem dX1_carryOut_188 : decode cX1_carryOut 188 = .ok (.ireturn, 1) := by decide +kernel
set_option maxRecDepth 20000 in
theorem ggX1_setRegister_X3_isRegister : GoodIn wsX1_setRegister wsX3_isRegister := goodIn_r _ [4] (by decide +kernel) (by decide +kernel)
set_option maxRecDepth 20000 in
theorem gX1_setRegister_X3_isRegister_n49 : GoodIn wsX1_setRegister (wsX3_isRegister) := ggX1_setRegister_X3_isRegister
theorem dX1_setRegister_0 : decode cX1_setRegister 0 = .ok (.iload_n 1, 1) := by decide +kernel
theorem dX1_setRegister_1 : decode cX1_setRegister 1 = .ok (.invokestatic 49, 3) := by decide +kernel
theorem dX1_setRegister_4 : decode cX1_setRegister 4 = .ok (.ifCond .eq 10, 3) := by decide +kernel
theorem dX1_setRegister_7 : decode cX1_setRegister 7 = .ok (.aload_n 0, 1) := by decide +kernel
theorem dX1_setRegister_8 : decode cX1_setRegister 8 = .ok (.getfield 9, 3) := by decide +kernel
theorem dX1_setRegister_11 : decode cX1_setRegister 11 = .ok (.iload_n 1, 1) := by decide +kernel
theorem dX1_setRegister_12 : decode cX1_setRegister 12 = .ok (.iload_n 2, 1) := by decide +kernel
theorem dX1_setRegister_13 : decode cX1_setRegister 13 = .ok (.iastore, 1) := by decide +kernel
theorem dX1_setRegister_14 : decode cX1_setRegister 14 = .ok (.return_, 1) := by decide +kernel
theorem dX1_keepShown_0 : decode cX1_keepShown 0 = .ok (.aload_n 0, 1) := by decide +kernel
theorem dX1_keepShown_1 : decode cX1_keepShown 1 = .ok (.getfield 18, 3) := by decide +kernel
theorem dX1_keepShown_4 : decode cX1_keepShown 4 = .ok (.aload_n 0, 1) := by decide +kernel
theorem dX1_keepShown_5 : decode cX1_keepShown 5 = .ok (.getfield 43, 3) := by decide +kernel
theorem dX1_keepShown_8 : decode cX1_keepShown 8 = .ok (.bipush 7, 2) := by decide +kernel
theorem dX1_keepShown_10 : decode cX1_keepShown 10 = .ok (.iand, 1) := by decide +kernel
theorem dX1_keepShown_11 : decode cX1_keepShown 11 = .ok (.iload_n 1, 1) := by decide +kernel
theorem dX1_keepShown_12 : decode cX1_keepShown 12 = .ok (.iastore, 1) := by decide +kernel
theorem dX1_keepShown_13 : decode cX1_keepShown 13 = .ok (.aload_n 0, 1) := by decide +kernel
theorem dX1_keepShown_14 : decode cX1_keepShown 14 = .ok (.dup, 1) := by decide +kernel
theorem dX1_keepShown_15 : decode cX1_keepShown 15 = .ok (.getfield 43, 3) := by decide +kernel
theorem dX1_keepShown_18 : decode cX1_keepShown 18 = .ok (.iconst 1, 1) := by decide +kernel
theorem dX1_keepShown_19 : decode cX1_keepShown 19 = .ok (.iadd, 1) := by decide +kernel
theorem dX1_keepShown_20 : decode cX1_keepShown 20 = .ok (.putfield 43, 3) := by decide +kernel
theorem dX1_keepShown_23 : decode cX1_keepShown 23 = .ok (.return_, 1) := by decide +kernel
set_option maxRecDepth 20000 in
theorem ggX1_jumpTo_X2_has : GoodIn wsX1_jumpTo wsX2_has := goodIn_r _ [7, 8, 16, 17, 18] (by decide +kernel) (by decide +kernel)
set_option maxRecDepth 20000 in
theorem gX1_jumpTo_X2_has : GoodIn wsX1_jumpTo (wsV RX1 87 RX2 yX2_has wsX2_has) := goodIn_app (goodIn_of _ (by decide +kernel)) ggX1_jumpTo_X2_has
theorem dX1_jumpTo_0 : decode cX1_jumpTo 0 = .ok (.aload_n 0, 1) := by decide +kernel
theorem dX1_jumpTo_1 : decode cX1_jumpTo 1 = .ok (.getfield 26, 3) := by decide +kernel
theorem dX1_jumpTo_4 : decode cX1_jumpTo 4 = .ok (.iload_n 1, 1) := by decide +kernel
theorem dX1_jumpTo_5 : decode cX1_jumpTo 5 = .ok (.invokevirtual 87, 3) := by decide +kernel
theorem dX1_jumpTo_8 : decode cX1_jumpTo 8 = .ok (.ifCond .ne 8, 3) := by decide +kernel
theorem dX1_jumpTo_11 : decode cX1_jumpTo 11 = .ok (.aload_n 0, 1) := by decide +kernel
theorem dX1_jumpTo_12 : decode cX1_jumpTo 12 = .ok (.iconst 3, 1) := by decide +kernel
theorem dX1_jumpTo_13 : decode cX1_jumpTo 13 = .ok (.putfield 30, 3) := by decide +kernel
theorem dX1_jumpTo_16 : decode cX1_jumpTo 16 = .ok (.iload_n 1, 1) := by decide +kernel
theorem dX1_jumpTo_17 : decode cX1_jumpTo 17 = .ok (.ireturn, 1) := by decide +kernel
set_option maxRecDepth 20000 in
theorem ggX1_checkLabel_X2_get : GoodIn wsX1_checkLabel wsX2_get := goodIn_r _ [7, 8, 9, 10, 11, 6, 12, 13, 21, 22, 23] (by decide +kernel) (by decide +kernel)
set_option maxRecDepth 20000 in
theorem gX1_checkLabel_X2_get : GoodIn wsX1_checkLabel (wsV RX1 56 RX2 yX2_get wsX2_get) := goodIn_app (goodIn_of _ (by decide +kernel)) ggX1_checkLabel_X2_get
theorem dX1_checkLabel_0 : decode cX1_checkLabel 0 = .ok (.aload_n 0, 1) := by decide +kernel
theorem dX1_checkLabel_1 : decode cX1_checkLabel 1 = .ok (.getfield 26, 3) := by decide +kernel
theorem dX1_checkLabel_4 : decode cX1_checkLabel 4 = .ok (.iload_n 1, 1) := by decide +kernel
theorem dX1_checkLabel_5 : decode cX1_checkLabel 5 = .ok (.iconst 0, 1) := by decide +kernel
theorem dX1_checkLabel_6 : decode cX1_checkLabel 6 = .ok (.invokevirtual 56, 3) := by decide +kernel
theorem dX1_checkLabel_9 : decode cX1_checkLabel 9 = .ok (.bipush 10, 2) := by decide +kernel
theorem dX1_checkLabel_11 : decode cX1_checkLabel 11 = .ok (.if_icmp .ne 16, 3) := by decide +kernel
theorem dX1_checkLabel_14 : decode cX1_checkLabel 14 = .ok (.aload_n 0, 1) := by decide +kernel
theorem dX1_checkLabel_15 : decode cX1_checkLabel 15 = .ok (.getfield 26, 3) := by decide +kernel
theorem dX1_checkLabel_18 : decode cX1_checkLabel 18 = .ok (.iload_n 1, 1) := by decide +kernel
theorem dX1_checkLabel_19 : decode cX1_checkLabel 19 = .ok (.iconst 1, 1) := by decide +kernel
theorem dX1_checkLabel_20 : decode cX1_checkLabel 20 = .ok (.invokevirtual 56, 3) := by decide +kernel
theorem dX1_checkLabel_23 : decode cX1_checkLabel 23 = .ok (.iload_n 2, 1) := by decide +kernel
theorem dX1_checkLabel_24 : decode cX1_checkLabel 24 = .ok (.if_icmp .eq 8, 3) := by decide +kernel
theorem dX1_checkLabel_27 : decode cX1_checkLabel 27 = .ok (.aload_n 0, 1) := by decide +kernel
theorem dX1_checkLabel_28 : decode cX1_checkLabel 28 = .ok (.iconst 2, 1) := by decide +kernel
theorem dX1_checkLabel_29 : decode cX1_checkLabel 29 = .ok (.putfield 30, 3) := by decide +kernel
theorem dX1_checkLabel_32 : decode cX1_checkLabel 32 = .ok (.return_, 1) := by decide +kernel
theorem dX2_init_0 : decode cX2_init 0 = .ok (.aload_n 0, 1) := by decide +kernel
theorem dX2_init_1 : decode cX2_init 1 = .ok (.invokespecial 3, 3) := by decide +kernel
theorem dX2_init_4 : decode cX2_init 4 = .ok (.aload_n 0, 1) := by decide +kernel
theorem dX2_init_5 : decode cX2_init 5 = .ok (.iconst 0, 1) := by decide +kernel
theorem dX2_init_6 : decode cX2_init 6 = .ok (.iload_n 1, 1) := by decide +kernel
theorem dX2_init_7 : decode cX2_init 7 = .ok (.bipush 72, 2) := by decide +kernel
theorem dX2_init_9 : decode cX2_init 9 = .ok (.invokestatic 9, 3) := by decide +kernel
theorem dX2_init_12 : decode cX2_init 12 = .ok (.invokestatic 15, 3) := by decide +kernel
theorem dX2_init_15 : decode cX2_init 15 = .ok (.putfield 18, 3) := by decide +kernel
theorem dX2_init_18 : decode cX2_init 18 = .ok (.aload_n 0, 1) := by decide +kernel
theorem dX2_init_19 : decode cX2_init 19 = .ok (.aload_n 0, 1) := by decide +kernel
theorem dX2_init_20 : decode cX2_init 20 = .ok (.getfield 18, 3) := by decide +kernel
theorem dX2_init_23 : decode cX2_init 23 = .ok (.iconst 3, 1) := by decide +kernel
theorem dX2_init_24 : decode cX2_init 24 = .ok (.imul, 1) := by decide +kernel
theorem dX2_init_25 : decode cX2_init 25 = .ok (.newarray .int, 2) := by decide +kernel
theorem dX2_init_27 : decode cX2_init 27 = .ok (.putfield 24, 3) := by decide +kernel
theorem dX2_init_30 : decode cX2_init 30 = .ok (.return_, 1) := by decide +kernel
theorem dX2_length_0 : decode cX2_length 0 = .ok (.aload_n 0, 1) := by decide +kernel
theorem dX2_length_1 : decode cX2_length 1 = .ok (.getfield 28, 3) := by decide +kernel
theorem dX2_length_4 : decode cX2_length 4 = .ok (.ireturn, 1) := by decide +kernel
theorem dX2_isFull_0 : decode cX2_isFull 0 = .ok (.aload_n 0, 1) := by decide +kernel
theorem dX2_isFull_1 : decode cX2_isFull 1 = .ok (.getfield 28, 3) := by decide +kernel
theorem dX2_isFull_4 : decode cX2_isFull 4 = .ok (.aload_n 0, 1) := by decide +kernel
theorem dX2_isFull_5 : decode cX2_isFull 5 = .ok (.getfield 18, 3) := by decide +kernel
theorem dX2_isFull_8 : decode cX2_isFull 8 = .ok (.if_icmp .lt 7, 3) := by decide +kernel
theorem dX2_isFull_11 : decode cX2_isFull 11 = .ok (.iconst 1, 1) := by decide +kernel
theorem dX2_isFull_12 : decode cX2_isFull 12 = .ok (.goto 4, 3) := by decide +kernel
theorem dX2_isFull_15 : decode cX2_isFull 15 = .ok (.iconst 0, 1) := by decide +kernel
theorem dX2_isFull_16 : decode cX2_isFull 16 = .ok (.ireturn, 1) := by decide +kernel
theorem dX2_has_0 : decode cX2_has 0 = .ok (.iload_n 1, 1) := by decide +kernel
theorem dX2_has_1 : decode cX2_has 1 = .ok (.ifCond .lt 15, 3) := by decide +kernel
theorem dX2_has_4 : decode cX2_has 4 = .ok (.iload_n 1, 1) := by decide +kernel
theorem dX2_has_5 : decode cX2_has 5 = .ok (.aload_n 0, 1) := by decide +kernel
theorem dX2_has_6 : decode cX2_has 6 = .ok (.getfield 28, 3) := by decide +kernel
theorem dX2_has_9 : decode cX2_has 9 = .ok (.if_icmp .ge 7, 3) := by decide +kernel
theorem dX2_has_12 : decode cX2_has 12 = .ok (.iconst 1, 1) := by decide +kernel
theorem dX2_has_13 : decode cX2_has 13 = .ok (.goto 4, 3) := by decide +kernel
theorem dX2_has_16 : decode cX2_has 16 = .ok (.iconst 0, 1) := by decide +kernel
theorem dX2_has_17 : decode cX2_has 17 = .ok (.ireturn, 1) := by decide +kernel
set_option maxRecDepth 20000 in
theorem ggX2_get_X2_has : GoodIn wsX2_get wsX2_has := goodIn_r _ [6, 7, 8, 9, 10] (by decide +kernel) (by decide +kernel)
set_option maxRecDepth 20000 in
theorem gX2_get_X2_has : GoodIn wsX2_get (wsV RX2 31 RX2 yX2_has wsX2_has) := goodIn_app (goodIn_of _ (by decide +kernel)) ggX2_get_X2_has
theorem dX2_get_0 : decode cX2_get 0 = .ok (.aload_n 0, 1) := by decide +kernel
theorem dX2_get_1 : decode cX2_get 1 = .ok (.iload_n 1, 1) := by decide +kernel
theorem dX2_get_2 : decode cX2_get 2 = .ok (.invokevirtual 31, 3) := by decide +kernel
theorem dX2_get_5 : decode cX2_get 5 = .ok (.ifCond .eq 12, 3) := by decide +kernel
theorem dX2_get_8 : decode cX2_get 8 = .ok (.iload_n 2, 1) := by decide +kernel
theorem dX2_get_9 : decode cX2_get 9 = .ok (.ifCond .lt 8, 3) := by decide +kernel
theorem dX2_get_12 : decode cX2_get 12 = .ok (.iload_n 2, 1) := by decide +kernel
theorem dX2_get_13 : decode cX2_get 13 = .ok (.iconst 3, 1) := by decide +kernel
theorem dX2_get_14 : decode cX2_get 14 = .ok (.if_icmp .lt 6, 3) := by decide +kernel
theorem dX2_get_17 : decode cX2_get 17 = .ok (.bipush (-9), 2) := by decide +kernel
theorem dX2_get_19 : decode cX2_get 19 = .ok (.ireturn, 1) := by decide +kernel
theorem dX2_get_20 : decode cX2_get 20 = .ok (.aload_n 0, 1) := by decide +kernel
theorem dX2_get_21 : decode cX2_get 21 = .ok (.getfield 24, 3) := by decide +kernel
theorem dX2_get_24 : decode cX2_get 24 = .ok (.iload_n 1, 1) := by decide +kernel
theorem dX2_get_25 : decode cX2_get 25 = .ok (.iconst 3, 1) := by decide +kernel
theorem dX2_get_26 : decode cX2_get 26 = .ok (.imul, 1) := by decide +kernel
theorem dX2_get_27 : decode cX2_get 27 = .ok (.iload_n 2, 1) := by decide +kernel
theorem dX2_get_28 : decode cX2_get 28 = .ok (.iadd, 1) := by decide +kernel
theorem dX2_get_29 : decode cX2_get 29 = .ok (.iaload, 1) := by decide +kernel
theorem dX2_get_30 : decode cX2_get 30 = .ok (.ireturn, 1) := by decide +kernel
set_option maxRecDepth 20000 in
theorem ggX2_append_X2_isFull : GoodIn wsX2_append wsX2_isFull := goodIn_r _ [7, 2, 8, 9, 10, 11] (by decide +kernel) (by decide +kernel)
set_option maxRecDepth 20000 in
theorem gX2_append_X2_isFull : GoodIn wsX2_append (wsV RX2 35 RX2 yX2_isFull wsX2_isFull) := goodIn_app (goodIn_of _ (by decide +kernel)) ggX2_append_X2_isFull
theorem dX2_append_0 : decode cX2_append 0 = .ok (.aload_n 0, 1) := by decide +kernel
theorem dX2_append_1 : decode cX2_append 1 = .ok (.invokevirtual 35, 3) := by decide +kernel
theorem dX2_append_4 : decode cX2_append 4 = .ok (.ifCond .eq 4, 3) := by decide +kernel
theorem dX2_append_7 : decode cX2_append 7 = .ok (.return_, 1) := by decide +kernel
theorem dX2_append_8 : decode cX2_append 8 = .ok (.aload_n 0, 1) := by decide +kernel
theorem dX2_append_9 : decode cX2_append 9 = .ok (.getfield 24, 3) := by decide +kernel
theorem dX2_append_12 : decode cX2_append 12 = .ok (.aload_n 0, 1) := by decide +kernel
theorem dX2_append_13 : decode cX2_append 13 = .ok (.getfield 28, 3) := by decide +kernel
theorem dX2_append_16 : decode cX2_append 16 = .ok (.iconst 3, 1) := by decide +kernel
theorem dX2_append_17 : decode cX2_append 17 = .ok (.imul, 1) := by decide +kernel
theorem dX2_append_18 : decode cX2_append 18 = .ok (.iconst 0, 1) := by decide +kernel
theorem dX2_append_19 : decode cX2_append 19 = .ok (.iadd, 1) := by decide +kernel
theorem dX2_append_20 : decode cX2_append 20 = .ok (.iload_n 1, 1) := by decide +kernel
theorem dX2_append_21 : decode cX2_append 21 = .ok (.iastore, 1) := by decide +kernel
theorem dX2_append_22 : decode cX2_append 22 = .ok (.aload_n 0, 1) := by decide +kernel
theorem dX2_append_23 : decode cX2_append 23 = .ok (.getfield 24, 3) := by decide +kernel
theorem dX2_append_26 : decode cX2_append 26 = .ok (.aload_n 0, 1) := by decide +kernel
theorem dX2_append_27 : decode cX2_append 27 = .ok (.getfield 28, 3) := by decide +kernel
theorem dX2_append_30 : decode cX2_append 30 = .ok (.iconst 3, 1) := by decide +kernel
theorem dX2_append_31 : decode cX2_append 31 = .ok (.imul, 1) := by decide +kernel
theorem dX2_append_32 : decode cX2_append 32 = .ok (.iconst 1, 1) := by decide +kernel
theorem dX2_append_33 : decode cX2_append 33 = .ok (.iadd, 1) := by decide +kernel
theorem dX2_append_34 : decode cX2_append 34 = .ok (.iload_n 2, 1) := by decide +kernel
theorem dX2_append_35 : decode cX2_append 35 = .ok (.iastore, 1) := by decide +kernel
theorem dX2_append_36 : decode cX2_append 36 = .ok (.aload_n 0, 1) := by decide +kernel
theorem dX2_append_37 : decode cX2_append 37 = .ok (.getfield 24, 3) := by decide +kernel
theorem dX2_append_40 : decode cX2_append 40 = .ok (.aload_n 0, 1) := by decide +kernel
theorem dX2_append_41 : decode cX2_append 41 = .ok (.getfield 28, 3) := by decide +kernel
theorem dX2_append_44 : decode cX2_append 44 = .ok (.iconst 3, 1) := by decide +kernel
theorem dX2_append_45 : decode cX2_append 45 = .ok (.imul, 1) := by decide +kernel
theorem dX2_append_46 : decode cX2_append 46 = .ok (.iconst 2, 1) := by decide +kernel
theorem dX2_append_47 : decode cX2_append 47 = .ok (.iadd, 1) := by decide +kernel
theorem dX2_append_48 : decode cX2_append 48 = .ok (.iload_n 3, 1) := by decide +kernel
theorem dX2_append_49 : decode cX2_append 49 = .ok (.iastore, 1) := by decide +kernel
theorem dX2_append_50 : decode cX2_append 50 = .ok (.aload_n 0, 1) := by decide +kernel
theorem dX2_append_51 : decode cX2_append 51 = .ok (.dup, 1) := by decide +kernel
theorem dX2_append_52 : decode cX2_append 52 = .ok (.getfield 28, 3) := by decide +kernel
theorem dX2_append_55 : decode cX2_append 55 = .ok (.iconst 1, 1) := by decide +kernel
theorem dX2_append_56 : decode cX2_append 56 = .ok (.iadd, 1) := by decide +kernel
theorem dX2_append_57 : decode cX2_append 57 = .ok (.putfield 28, 3) := by decide +kernel
theorem dX2_append_60 : decode cX2_append 60 = .ok (.return_, 1) := by decide +kernel
theorem dX2_clear_0 : decode cX2_clear 0 = .ok (.aload_n 0, 1) := by decide +kernel
theorem dX2_clear_1 : decode cX2_clear 1 = .ok (.iconst 0, 1) := by decide +kernel
theorem dX2_clear_2 : decode cX2_clear 2 = .ok (.putfield 28, 3) := by decide +kernel
theorem dX2_clear_5 : decode cX2_clear 5 = .ok (.return_, 1) := by decide +kernel
