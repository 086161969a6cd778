set_option maxRecDepth 20000 in
theorem ggX3_init_X2_init : GoodIn wsX3_init wsX2_init := goodIn_r _ [21, 22, 2, 3, 23, 24, 25, 26, 27, 28, 29, 30, 13, 31, 48, 49, 50] (by decide +kernel) (by decide +kernel)
set_option maxRecDepth 20000 in
theorem gX3_init_X2_init : GoodIn wsX3_init (wsX2_init) := ggX3_init_X2_init
set_option maxRecDepth 20000 in
theorem ggX3_init_X0_init : GoodIn wsX3_init wsX0_init := goodIn_r _ [33, 34, 2, 3, 13, 35, 36, 37, 56, 57, 58, 59] (by decide +kernel) (by decide +kernel)
set_option maxRecDepth 20000 in
theorem gX3_init_X0_init_n23 : GoodIn wsX3_init (wsX0_init) := ggX3_init_X0_init
set_option maxRecDepth 20000 in
theorem ggX3_init_X1_init : GoodIn wsX3_init wsX1_init := goodIn_r _ [39, 40, 2, 3, 13, 41, 42, 43, 44, 5, 6, 45, 46, 47, 20, 21, 22, 23, 24, 25, 26, 27, 28, 29, 30, 31, 60, 61, 62, 63, 64, 65, 66, 48, 49, 50] (by decide +kernel) (by decide +kernel)
set_option maxRecDepth 20000 in
theorem gX3_init_X1_init_n34 : GoodIn wsX3_init (wsX1_init) := ggX3_init_X1_init
theorem dX3_init_0 : decode cX3_init 0 = .ok (.aload_n 0, 1) := by decide +kernel
theorem dX3_init_1 : decode cX3_init 1 = .ok (.invokespecial 1, 3) := by decide +kernel
theorem dX3_init_4 : decode cX3_init 4 = .ok (.aload_n 0, 1) := by decide +kernel
theorem dX3_init_5 : decode cX3_init 5 = .ok (.new 7, 3) := by decide +kernel
theorem dX3_init_8 : decode cX3_init 8 = .ok (.dup, 1) := by decide +kernel
theorem dX3_init_9 : decode cX3_init 9 = .ok (.bipush 24, 2) := by decide +kernel
theorem dX3_init_11 : decode cX3_init 11 = .ok (.invokespecial 11, 3) := by decide +kernel
theorem dX3_init_14 : decode cX3_init 14 = .ok (.putfield 14, 3) := by decide +kernel
theorem dX3_init_17 : decode cX3_init 17 = .ok (.aload_n 0, 1) := by decide +kernel
theorem dX3_init_18 : decode cX3_init 18 = .ok (.new 7, 3) := by decide +kernel
theorem dX3_init_21 : decode cX3_init 21 = .ok (.dup, 1) := by decide +kernel
theorem dX3_init_22 : decode cX3_init 22 = .ok (.bipush 72, 2) := by decide +kernel
theorem dX3_init_24 : decode cX3_init 24 = .ok (.invokespecial 11, 3) := by decide +kernel
theorem dX3_init_27 : decode cX3_init 27 = .ok (.putfield 18, 3) := by decide +kernel
theorem dX3_init_30 : decode cX3_init 30 = .ok (.aload_n 0, 1) := by decide +kernel
theorem dX3_init_31 : decode cX3_init 31 = .ok (.new 21, 3) := by decide +kernel
theorem dX3_init_34 : decode cX3_init 34 = .ok (.dup, 1) := by decide +kernel
theorem dX3_init_35 : decode cX3_init 35 = .ok (.invokespecial 23, 3) := by decide +kernel
theorem dX3_init_38 : decode cX3_init 38 = .ok (.putfield 24, 3) := by decide +kernel
theorem dX3_init_41 : decode cX3_init 41 = .ok (.aload_n 0, 1) := by decide +kernel
theorem dX3_init_42 : decode cX3_init 42 = .ok (.bipush 24, 2) := by decide +kernel
theorem dX3_init_44 : decode cX3_init 44 = .ok (.newarray .int, 2) := by decide +kernel
theorem dX3_init_46 : decode cX3_init 46 = .ok (.putfield 28, 3) := by decide +kernel
theorem dX3_init_49 : decode cX3_init 49 = .ok (.aload_n 0, 1) := by decide +kernel
theorem dX3_init_50 : decode cX3_init 50 = .ok (.new 32, 3) := by decide +kernel
theorem dX3_init_53 : decode cX3_init 53 = .ok (.dup, 1) := by decide +kernel
theorem dX3_init_54 : decode cX3_init 54 = .ok (.invokespecial 34, 3) := by decide +kernel
theorem dX3_init_57 : decode cX3_init 57 = .ok (.putfield 35, 3) := by decide +kernel
theorem dX3_init_60 : decode cX3_init 60 = .ok (.return_, 1) := by decide +kernel
set_option maxRecDepth 20000 in
theorem ggX3_add_X3_isSourceInstruction : GoodIn wsX3_add wsX3_isSourceInstruction := goodIn_r _ [5, 6, 7, 4, 8, 9, 10, 11, 12, 13, 14] (by decide +kernel) (by decide +kernel)
set_option maxRecDepth 20000 in
theorem gX3_add_X3_isSourceInstruction : GoodIn wsX3_add (va_wsS RX3 39 yX3_isSourceInstruction wsX3_isSourceInstruction) := goodIn_app (goodIn_of _ (by decide +kernel)) ggX3_add_X3_isSourceInstruction
set_option maxRecDepth 20000 in
theorem ggX3_add_X2_isFull : GoodIn wsX3_add wsX2_isFull := goodIn_r _ [19, 20, 21, 53, 54, 55] (by decide +kernel) (by decide +kernel)
set_option maxRecDepth 20000 in
theorem gX3_add_X2_isFull : GoodIn wsX3_add (wsV RX3 43 RX2 yX2_isFull wsX2_isFull) := goodIn_app (goodIn_of _ (by decide +kernel)) ggX3_add_X2_isFull
set_option maxRecDepth 20000 in
theorem ggX3_add_X2_length : GoodIn wsX3_add wsX2_length := goodIn_r _ [25, 20, 53, 54, 55] (by decide +kernel) (by decide +kernel)
set_option maxRecDepth 20000 in
theorem gX3_add_X2_length : GoodIn wsX3_add (wsV RX3 47 RX2 yX2_length wsX2_length) := goodIn_app (goodIn_of _ (by decide +kernel)) ggX3_add_X2_length
set_option maxRecDepth 20000 in
theorem ggX3_add_X2_append : GoodIn wsX3_add wsX2_append := goodIn_r _ [29, 30, 20, 31, 16, 17, 18, 19, 21, 53, 54, 55] (by decide +kernel) (by decide +kernel)
set_option maxRecDepth 20000 in
theorem gX3_add_X2_append : GoodIn wsX3_add (wsV RX3 51 RX2 yX2_append wsX2_append) := goodIn_app (goodIn_of _ (by decide +kernel)) ggX3_add_X2_append
set_option maxRecDepth 20000 in
theorem ggX3_add_X3_dropGuarded : GoodIn wsX3_add wsX3_dropGuarded := goodIn_r _ [35, 36, 37, 38, 39, 40, 18, 41, 20, 42, 43, 44, 45, 46, 47, 48, 49, 50, 51, 52, 53, 54, 55, 56, 57, 58, 59, 60, 61, 62] (by decide +kernel) (by decide +kernel)
set_option maxRecDepth 20000 in
theorem gX3_add_X3_dropGuarded : GoodIn wsX3_add (wsV RX3 55 RX3 yX3_dropGuarded wsX3_dropGuarded) := goodIn_app (goodIn_of _ (by decide +kernel)) ggX3_add_X3_dropGuarded
theorem dX3_add_0 : decode cX3_add 0 = .ok (.iload_n 1, 1) := by decide +kernel
theorem dX3_add_1 : decode cX3_add 1 = .ok (.iload_n 2, 1) := by decide +kernel
theorem dX3_add_2 : decode cX3_add 2 = .ok (.iload_n 3, 1) := by decide +kernel
theorem dX3_add_3 : decode cX3_add 3 = .ok (.invokestatic 39, 3) := by decide +kernel
theorem dX3_add_6 : decode cX3_add 6 = .ok (.ifCond .ne 5, 3) := by decide +kernel
theorem dX3_add_9 : decode cX3_add 9 = .ok (.iconst (-1), 1) := by decide +kernel
theorem dX3_add_10 : decode cX3_add 10 = .ok (.ireturn, 1) := by decide +kernel
theorem dX3_add_11 : decode cX3_add 11 = .ok (.aload_n 0, 1) := by decide +kernel
theorem dX3_add_12 : decode cX3_add 12 = .ok (.getfield 14, 3) := by decide +kernel
theorem dX3_add_15 : decode cX3_add 15 = .ok (.invokevirtual 43, 3) := by decide +kernel
theorem dX3_add_18 : decode cX3_add 18 = .ok (.ifCond .eq 6, 3) := by decide +kernel
theorem dX3_add_21 : decode cX3_add 21 = .ok (.bipush (-2), 2) := by decide +kernel
theorem dX3_add_23 : decode cX3_add 23 = .ok (.ireturn, 1) := by decide +kernel
theorem dX3_add_24 : decode cX3_add 24 = .ok (.aload_n 0, 1) := by decide +kernel
theorem dX3_add_25 : decode cX3_add 25 = .ok (.getfield 14, 3) := by decide +kernel
theorem dX3_add_28 : decode cX3_add 28 = .ok (.invokevirtual 47, 3) := by decide +kernel
theorem dX3_add_31 : decode cX3_add 31 = .ok (.istore 4, 2) := by decide +kernel
theorem dX3_add_33 : decode cX3_add 33 = .ok (.aload_n 0, 1) := by decide +kernel
theorem dX3_add_34 : decode cX3_add 34 = .ok (.getfield 14, 3) := by decide +kernel
theorem dX3_add_37 : decode cX3_add 37 = .ok (.iload_n 1, 1) := by decide +kernel
theorem dX3_add_38 : decode cX3_add 38 = .ok (.iload_n 2, 1) := by decide +kernel
theorem dX3_add_39 : decode cX3_add 39 = .ok (.iload_n 3, 1) := by decide +kernel
theorem dX3_add_40 : decode cX3_add 40 = .ok (.invokevirtual 51, 3) := by decide +kernel
theorem dX3_add_43 : decode cX3_add 43 = .ok (.aload_n 0, 1) := by decide +kernel
theorem dX3_add_44 : decode cX3_add 44 = .ok (.invokevirtual 55, 3) := by decide +kernel
theorem dX3_add_47 : decode cX3_add 47 = .ok (.iload 4, 2) := by decide +kernel
theorem dX3_add_49 : decode cX3_add 49 = .ok (.ireturn, 1) := by decide +kernel
set_option maxRecDepth 20000 in
theorem ggX3_allow_X2_get : GoodIn wsX3_allow wsX2_get := goodIn_r _ [7, 8, 9, 10, 11, 6, 12, 13, 70, 71, 72] (by decide +kernel) (by decide +kernel)
set_option maxRecDepth 20000 in
theorem gX3_allow_X2_get : GoodIn wsX3_allow (wsV RX3 58 RX2 yX2_get wsX2_get) := goodIn_app (goodIn_of _ (by decide +kernel)) ggX3_allow_X2_get
set_option maxRecDepth 20000 in
theorem ggX3_allow_X2_has : GoodIn wsX3_allow wsX2_has := goodIn_r _ [12, 13, 70, 71, 72] (by decide +kernel) (by decide +kernel)
set_option maxRecDepth 20000 in
theorem gX3_allow_X2_has : GoodIn wsX3_allow (wsV RX3 62 RX2 yX2_has wsX2_has) := goodIn_app (goodIn_of _ (by decide +kernel)) ggX3_allow_X2_has
set_option maxRecDepth 20000 in
theorem ggX3_allow_X0_connect : GoodIn wsX3_allow wsX0_connect := goodIn_r _ [19, 20, 21, 22, 23, 24, 25, 26, 27, 28, 18, 29, 30, 31, 32, 33, 34, 35, 36, 37, 38, 39, 40, 41, 42, 43, 44, 45, 46, 47, 48, 73, 74, 75, 76] (by decide +kernel) (by decide +kernel)
set_option maxRecDepth 20000 in
theorem gX3_allow_X0_connect : GoodIn wsX3_allow (wsV RX3 66 RX0 yX0_connect wsX0_connect) := goodIn_app (goodIn_of _ (by decide +kernel)) ggX3_allow_X0_connect
set_option maxRecDepth 20000 in
theorem ggX3_allow_X3_dropGuarded : GoodIn wsX3_allow wsX3_dropGuarded := goodIn_r _ [52, 53, 54, 55, 56, 57, 6, 58, 13, 59, 60, 61, 62, 63, 64, 65, 66, 67, 68, 69, 70, 71, 72, 77, 78, 79, 80, 81, 82, 83] (by decide +kernel) (by decide +kernel)
set_option maxRecDepth 20000 in
theorem gX3_allow_X3_dropGuarded : GoodIn wsX3_allow (wsV RX3 55 RX3 yX3_dropGuarded wsX3_dropGuarded) := goodIn_app (goodIn_of _ (by decide +kernel)) ggX3_allow_X3_dropGuarded
theorem dX3_allow_0 : decode cX3_allow 0 = .ok (.aload_n 0, 1) := by decide +kernel
theorem dX3_allow_1 : decode cX3_allow 1 = .ok (.getfield 14, 3) := by decide +kernel
theorem dX3_allow_4 : decode cX3_allow 4 = .ok (.iload_n 1, 1) := by decide +kernel
theorem dX3_allow_5 : decode cX3_allow 5 = .ok (.iconst 0, 1) := by decide +kernel
theorem dX3_allow_6 : decode cX3_allow 6 = .ok (.invokevirtual 58, 3) := by decide +kernel
theorem dX3_allow_9 : decode cX3_allow 9 = .ok (.bipush 8, 2) := by decide +kernel
theorem dX3_allow_11 : decode cX3_allow 11 = .ok (.if_icmp .ne 14, 3) := by decide +kernel
theorem dX3_allow_14 : decode cX3_allow 14 = .ok (.aload_n 0, 1) := by decide +kernel
theorem dX3_allow_15 : decode cX3_allow 15 = .ok (.getfield 14, 3) := by decide +kernel
theorem dX3_allow_18 : decode cX3_allow 18 = .ok (.iload_n 2, 1) := by decide +kernel
theorem dX3_allow_19 : decode cX3_allow 19 = .ok (.invokevirtual 62, 3) := by decide +kernel
theorem dX3_allow_22 : decode cX3_allow 22 = .ok (.ifCond .ne 5, 3) := by decide +kernel
theorem dX3_allow_25 : decode cX3_allow 25 = .ok (.iconst 0, 1) := by decide +kernel
theorem dX3_allow_26 : decode cX3_allow 26 = .ok (.ireturn, 1) := by decide +kernel
theorem dX3_allow_27 : decode cX3_allow 27 = .ok (.aload_n 0, 1) := by decide +kernel
theorem dX3_allow_28 : decode cX3_allow 28 = .ok (.getfield 24, 3) := by decide +kernel
theorem dX3_allow_31 : decode cX3_allow 31 = .ok (.iload_n 1, 1) := by decide +kernel
theorem dX3_allow_32 : decode cX3_allow 32 = .ok (.iload_n 2, 1) := by decide +kernel
theorem dX3_allow_33 : decode cX3_allow 33 = .ok (.invokevirtual 66, 3) := by decide +kernel
theorem dX3_allow_36 : decode cX3_allow 36 = .ok (.ifCond .ne 5, 3) := by decide +kernel
theorem dX3_allow_39 : decode cX3_allow 39 = .ok (.iconst 0, 1) := by decide +kernel
theorem dX3_allow_40 : decode cX3_allow 40 = .ok (.ireturn, 1) := by decide +kernel
theorem dX3_allow_41 : decode cX3_allow 41 = .ok (.aload_n 0, 1) := by decide +kernel
theorem dX3_allow_42 : decode cX3_allow 42 = .ok (.invokevirtual 55, 3) := by decide +kernel
theorem dX3_allow_45 : decode cX3_allow 45 = .ok (.iconst 1, 1) := by decide +kernel
theorem dX3_allow_46 : decode cX3_allow 46 = .ok (.ireturn, 1) := by decide +kernel
set_option maxRecDepth 20000 in
theorem ggX3_protect_X3_dropGuarded : GoodIn wsX3_protect wsX3_dropGuarded := goodIn_r _ [7, 2, 8, 9, 10, 11, 12, 13, 14, 15, 16, 17, 18, 19, 20, 83, 84, 85, 86, 87, 88, 89, 90, 91, 92, 93, 94, 95, 96, 97] (by decide +kernel) (by decide +kernel)
set_option maxRecDepth 20000 in
theorem gX3_protect_X3_dropGuarded : GoodIn wsX3_protect (wsV RX3 55 RX3 yX3_dropGuarded wsX3_dropGuarded) := goodIn_app (goodIn_of _ (by decide +kernel)) ggX3_protect_X3_dropGuarded
set_option maxRecDepth 20000 in
theorem ggX3_protect_X3_isClosed : GoodIn wsX3_protect wsX3_isClosed := goodIn_r _ [24, 1, 25, 26, 27, 12, 28, 14, 29, 30, 31, 32, 33, 34, 35, 36, 37, 38, 39, 40, 6, 41, 42, 43, 44, 45, 83, 84, 85, 86, 87, 88, 89, 90] (by decide +kernel) (by decide +kernel)
set_option maxRecDepth 20000 in
theorem gX3_protect_X3_isClosed : GoodIn wsX3_protect (wsV RX3 70 RX3 yX3_isClosed wsX3_isClosed) := goodIn_app (goodIn_of _ (by decide +kernel)) ggX3_protect_X3_isClosed
set_option maxRecDepth 20000 in
theorem ggX3_protect_X3_setPlaces : GoodIn wsX3_protect wsX3_setPlaces := goodIn_r _ [49, 1, 50, 51, 25, 26, 27, 12, 28, 14, 52, 53, 54, 55, 56, 57, 58, 6, 59, 29, 30, 31, 32, 33, 34, 35, 36, 37, 83, 84, 85, 86, 87, 88, 89, 90, 98, 99, 100, 101] (by decide +kernel) (by decide +kernel)
set_option maxRecDepth 20000 in
theorem gX3_protect_X3_setPlaces : GoodIn wsX3_protect (wsV RX3 73 RX3 yX3_setPlaces wsX3_setPlaces) := goodIn_app (goodIn_of _ (by decide +kernel)) ggX3_protect_X3_setPlaces
set_option maxRecDepth 20000 in
theorem ggX3_protect_X2_length : GoodIn wsX3_protect wsX2_length := goodIn_r _ [28, 14, 88, 89, 90] (by decide +kernel) (by decide +kernel)
set_option maxRecDepth 20000 in
theorem gX3_protect_X2_length : GoodIn wsX3_protect (wsV RX3 47 RX2 yX2_length wsX2_length) := goodIn_app (goodIn_of _ (by decide +kernel)) ggX3_protect_X2_length
set_option maxRecDepth 20000 in
theorem ggX3_protect_X3_appendGuarded : GoodIn wsX3_protect wsX3_appendGuarded := goodIn_r _ [63, 1, 51, 2, 29, 30, 31, 12, 32, 33, 34, 35, 36, 37, 14, 52, 53, 54, 55, 56, 57, 58, 6, 59, 64, 65, 66, 67, 68, 69, 70, 71, 72, 73, 74, 75, 76, 77, 78, 79, 80, 81, 50, 82, 43, 44, 45, 83, 84, 85, 86, 87, 88, 89, 90, 98, 99, 100, 101] (by decide +kernel) (by decide +kernel)
set_option maxRecDepth 20000 in
theorem gX3_protect_X3_appendGuarded : GoodIn wsX3_protect (wsV RX3 76 RX3 yX3_appendGuarded wsX3_appendGuarded) := goodIn_app (goodIn_of _ (by decide +kernel)) ggX3_protect_X3_appendGuarded
theorem dX3_protect_0 : decode cX3_protect 0 = .ok (.aload_n 0, 1) := by decide +kernel
theorem dX3_protect_1 : decode cX3_protect 1 = .ok (.invokevirtual 55, 3) := by decide +kernel
theorem dX3_protect_4 : decode cX3_protect 4 = .ok (.aload_n 0, 1) := by decide +kernel
theorem dX3_protect_5 : decode cX3_protect 5 = .ok (.invokevirtual 70, 3) := by decide +kernel
theorem dX3_protect_8 : decode cX3_protect 8 = .ok (.ifCond .ne 5, 3) := by decide +kernel
theorem dX3_protect_11 : decode cX3_protect 11 = .ok (.iconst (-1), 1) := by decide +kernel
theorem dX3_protect_12 : decode cX3_protect 12 = .ok (.ireturn, 1) := by decide +kernel
theorem dX3_protect_13 : decode cX3_protect 13 = .ok (.aload_n 0, 1) := by decide +kernel
theorem dX3_protect_14 : decode cX3_protect 14 = .ok (.invokevirtual 73, 3) := by decide +kernel
theorem dX3_protect_17 : decode cX3_protect 17 = .ok (.iconst 0, 1) := by decide +kernel
theorem dX3_protect_18 : decode cX3_protect 18 = .ok (.istore_n 1, 1) := by decide +kernel
theorem dX3_protect_19 : decode cX3_protect 19 = .ok (.iload_n 1, 1) := by decide +kernel
theorem dX3_protect_20 : decode cX3_protect 20 = .ok (.aload_n 0, 1) := by decide +kernel
theorem dX3_protect_21 : decode cX3_protect 21 = .ok (.getfield 14, 3) := by decide +kernel
theorem dX3_protect_24 : decode cX3_protect 24 = .ok (.invokevirtual 47, 3) := by decide +kernel
theorem dX3_protect_27 : decode cX3_protect 27 = .ok (.if_icmp .ge 14, 3) := by decide +kernel
theorem dX3_protect_30 : decode cX3_protect 30 = .ok (.aload_n 0, 1) := by decide +kernel
theorem dX3_protect_31 : decode cX3_protect 31 = .ok (.iload_n 1, 1) := by decide +kernel
theorem dX3_protect_32 : decode cX3_protect 32 = .ok (.invokevirtual 76, 3) := by decide +kernel
theorem dX3_protect_35 : decode cX3_protect 35 = .ok (.iinc 1 1, 3) := by decide +kernel
theorem dX3_protect_38 : decode cX3_protect 38 = .ok (.goto (-19), 3) := by decide +kernel
theorem dX3_protect_41 : decode cX3_protect 41 = .ok (.aload_n 0, 1) := by decide +kernel
theorem dX3_protect_42 : decode cX3_protect 42 = .ok (.getfield 18, 3) := by decide +kernel
theorem dX3_protect_45 : decode cX3_protect 45 = .ok (.invokevirtual 47, 3) := by decide +kernel
theorem dX3_protect_48 : decode cX3_protect 48 = .ok (.ireturn, 1) := by decide +kernel
set_option maxRecDepth 20000 in
theorem ggX3_source_X2_get : GoodIn wsX3_source wsX2_get := goodIn_r _ [6, 7, 8, 9, 10, 5, 11, 12, 18, 19, 20] (by decide +kernel) (by decide +kernel)
set_option maxRecDepth 20000 in
theorem gX3_source_X2_get : GoodIn wsX3_source (wsV RX3 58 RX2 yX2_get wsX2_get) := goodIn_app (goodIn_of _ (by decide +kernel)) ggX3_source_X2_get
theorem dX3_source_0 : decode cX3_source 0 = .ok (.aload_n 0, 1) := by decide +kernel
theorem dX3_source_1 : decode cX3_source 1 = .ok (.getfield 14, 3) := by decide +kernel
theorem dX3_source_4 : decode cX3_source 4 = .ok (.iload_n 1, 1) := by decide +kernel
theorem dX3_source_5 : decode cX3_source 5 = .ok (.iload_n 2, 1) := by decide +kernel
theorem dX3_source_6 : decode cX3_source 6 = .ok (.invokevirtual 58, 3) := by decide +kernel
theorem dX3_source_9 : decode cX3_source 9 = .ok (.ireturn, 1) := by decide +kernel
set_option maxRecDepth 20000 in
theorem ggX3_guarded_X2_get : GoodIn wsX3_guarded wsX2_get := goodIn_r _ [6, 7, 8, 9, 10, 5, 11, 12, 18, 19, 20] (by decide +kernel) (by decide +kernel)
set_option maxRecDepth 20000 in
theorem gX3_guarded_X2_get : GoodIn wsX3_guarded (wsV RX3 58 RX2 yX2_get wsX2_get) := goodIn_app (goodIn_of _ (by decide +kernel)) ggX3_guarded_X2_get
theorem dX3_guarded_0 : decode cX3_guarded 0 = .ok (.aload_n 0, 1) := by decide +kernel
theorem dX3_guarded_1 : decode cX3_guarded 1 = .ok (.getfield 18, 3) := by decide +kernel
theorem dX3_guarded_4 : decode cX3_guarded 4 = .ok (.iload_n 1, 1) := by decide +kernel
theorem dX3_guarded_5 : decode cX3_guarded 5 = .ok (.iload_n 2, 1) := by decide +kernel
theorem dX3_guarded_6 : decode cX3_guarded 6 = .ok (.invokevirtual 58, 3) := by decide +kernel
theorem dX3_guarded_9 : decode cX3_guarded 9 = .ok (.ireturn, 1) := by decide +kernel
set_option maxRecDepth 20000 in
theorem ggX3_place_X3_isGuarded : GoodIn wsX3_place wsX3_isGuarded := goodIn_r _ [6, 7, 8, 9, 10, 11, 12, 13, 26, 27, 28, 29, 30, 31, 32, 33] (by decide +kernel) (by decide +kernel)
set_option maxRecDepth 20000 in
theorem gX3_place_X3_isGuarded : GoodIn wsX3_place (wsV RX3 79 RX3 yX3_isGuarded wsX3_isGuarded) := goodIn_app (goodIn_of _ (by decide +kernel)) ggX3_place_X3_isGuarded
set_option maxRecDepth 20000 in
theorem ggX3_place_X2_has : GoodIn wsX3_place wsX2_has := goodIn_r _ [17, 13, 31, 32, 33] (by decide +kernel) (by decide +kernel)
set_option maxRecDepth 20000 in
theorem gX3_place_X2_has : GoodIn wsX3_place (wsV RX3 62 RX2 yX2_has wsX2_has) := goodIn_app (goodIn_of _ (by decide +kernel)) ggX3_place_X2_has
set_option maxRecDepth 20000 in
theorem ggX3_place_X3_placeOf : GoodIn wsX3_place wsX3_placeOf := goodIn_r _ [21, 22, 23, 24, 5, 25, 26, 27, 28, 29, 30] (by decide +kernel) (by decide +kernel)
set_option maxRecDepth 20000 in
theorem gX3_place_X3_placeOf : GoodIn wsX3_place (wsV RX3 82 RX3 yX3_placeOf wsX3_placeOf) := goodIn_app (goodIn_of _ (by decide +kernel)) ggX3_place_X3_placeOf
theorem dX3_place_0 : decode cX3_place 0 = .ok (.aload_n 0, 1) := by decide +kernel
theorem dX3_place_1 : decode cX3_place 1 = .ok (.invokevirtual 79, 3) := by decide +kernel
theorem dX3_place_4 : decode cX3_place 4 = .ok (.ifCond .eq 14, 3) := by decide +kernel
theorem dX3_place_7 : decode cX3_place 7 = .ok (.aload_n 0, 1) := by decide +kernel
theorem dX3_place_8 : decode cX3_place 8 = .ok (.getfield 14, 3) := by decide +kernel
theorem dX3_place_11 : decode cX3_place 11 = .ok (.iload_n 1, 1) := by decide +kernel
theorem dX3_place_12 : decode cX3_place 12 = .ok (.invokevirtual 62, 3) := by decide +kernel
theorem dX3_place_15 : decode cX3_place 15 = .ok (.ifCond .ne 5, 3) := by decide +kernel
theorem dX3_place_18 : decode cX3_place 18 = .ok (.iconst (-1), 1) := by decide +kernel
theorem dX3_place_19 : decode cX3_place 19 = .ok (.ireturn, 1) := by decide +kernel
theorem dX3_place_20 : decode cX3_place 20 = .ok (.aload_n 0, 1) := by decide +kernel
theorem dX3_place_21 : decode cX3_place 21 = .ok (.iload_n 1, 1) := by decide +kernel
theorem dX3_place_22 : decode cX3_place 22 = .ok (.invokevirtual 82, 3) := by decide +kernel
theorem dX3_place_25 : decode cX3_place 25 = .ok (.ireturn, 1) := by decide +kernel
set_option maxRecDepth 20000 in
theorem ggX3_label_X2_has : GoodIn wsX3_label wsX2_has := goodIn_r _ [7, 8, 23, 24, 25] (by decide +kernel) (by decide +kernel)
set_option maxRecDepth 20000 in
theorem gX3_label_X2_has : GoodIn wsX3_label (wsV RX3 62 RX2 yX2_has wsX2_has) := goodIn_app (goodIn_of _ (by decide +kernel)) ggX3_label_X2_has
set_option maxRecDepth 20000 in
theorem ggX3_label_X0_numberOfTarget : GoodIn wsX3_label wsX0_numberOfTarget := goodIn_r _ [13, 14, 15, 16, 17, 26, 27, 28, 29] (by decide +kernel) (by decide +kernel)
set_option maxRecDepth 20000 in
theorem gX3_label_X0_numberOfTarget : GoodIn wsX3_label (wsV RX3 86 RX0 yX0_numberOfTarget wsX0_numberOfTarget) := goodIn_app (goodIn_of _ (by decide +kernel)) ggX3_label_X0_numberOfTarget
theorem dX3_label_0 : decode cX3_label 0 = .ok (.aload_n 0, 1) := by decide +kernel
theorem dX3_label_1 : decode cX3_label 1 = .ok (.getfield 14, 3) := by decide +kernel
theorem dX3_label_4 : decode cX3_label 4 = .ok (.iload_n 1, 1) := by decide +kernel
theorem dX3_label_5 : decode cX3_label 5 = .ok (.invokevirtual 62, 3) := by decide +kernel
theorem dX3_label_8 : decode cX3_label 8 = .ok (.ifCond .eq 14, 3) := by decide +kernel
theorem dX3_label_11 : decode cX3_label 11 = .ok (.aload_n 0, 1) := by decide +kernel
theorem dX3_label_12 : decode cX3_label 12 = .ok (.getfield 24, 3) := by decide +kernel
theorem dX3_label_15 : decode cX3_label 15 = .ok (.iload_n 1, 1) := by decide +kernel
theorem dX3_label_16 : decode cX3_label 16 = .ok (.invokevirtual 86, 3) := by decide +kernel
theorem dX3_label_19 : decode cX3_label 19 = .ok (.goto 4, 3) := by decide +kernel
theorem dX3_label_22 : decode cX3_label 22 = .ok (.iconst (-1), 1) := by decide +kernel
theorem dX3_label_23 : decode cX3_label 23 = .ok (.ireturn, 1) := by decide +kernel
set_option maxRecDepth 20000 in
theorem ggX3_start_X3_isGuarded : GoodIn wsX3_start wsX3_isGuarded := goodIn_r _ [8, 2, 9, 10, 11, 12, 13, 14, 30, 31, 32, 33, 34, 35, 36, 37] (by decide +kernel) (by decide +kernel)
set_option maxRecDepth 20000 in
theorem gX3_start_X3_isGuarded : GoodIn wsX3_start (wsV RX3 79 RX3 yX3_isGuarded wsX3_isGuarded) := goodIn_app (goodIn_of _ (by decide +kernel)) ggX3_start_X3_isGuarded
set_option maxRecDepth 20000 in
theorem ggX3_start_X1_begin : GoodIn wsX3_start wsX1_begin := goodIn_r _ [19, 20, 21, 22, 23, 24, 25, 26, 27, 28, 29, 38, 39, 40, 41, 42, 43, 44] (by decide +kernel) (by decide +kernel)
set_option maxRecDepth 20000 in
theorem gX3_start_X1_begin : GoodIn wsX3_start (wsV RX3 89 RX1 yX1_begin wsX1_begin) := goodIn_app (goodIn_of _ (by decide +kernel)) ggX3_start_X1_begin
theorem dX3_start_0 : decode cX3_start 0 = .ok (.aload_n 0, 1) := by decide +kernel
theorem dX3_start_1 : decode cX3_start 1 = .ok (.invokevirtual 79, 3) := by decide +kernel
theorem dX3_start_4 : decode cX3_start 4 = .ok (.ifCond .ne 5, 3) := by decide +kernel
theorem dX3_start_7 : decode cX3_start 7 = .ok (.iconst 0, 1) := by decide +kernel
theorem dX3_start_8 : decode cX3_start 8 = .ok (.ireturn, 1) := by decide +kernel
theorem dX3_start_9 : decode cX3_start 9 = .ok (.aload_n 0, 1) := by decide +kernel
theorem dX3_start_10 : decode cX3_start 10 = .ok (.getfield 35, 3) := by decide +kernel
theorem dX3_start_13 : decode cX3_start 13 = .ok (.iload_n 1, 1) := by decide +kernel
theorem dX3_start_14 : decode cX3_start 14 = .ok (.ifCond .eq 10, 3) := by decide +kernel
theorem dX3_start_17 : decode cX3_start 17 = .ok (.aload_n 0, 1) := by decide +kernel
theorem dX3_start_18 : decode cX3_start 18 = .ok (.getfield 18, 3) := by decide +kernel
theorem dX3_start_21 : decode cX3_start 21 = .ok (.goto 7, 3) := by decide +kernel
theorem dX3_start_24 : decode cX3_start 24 = .ok (.aload_n 0, 1) := by decide +kernel
theorem dX3_start_25 : decode cX3_start 25 = .ok (.getfield 14, 3) := by decide +kernel
theorem dX3_start_28 : decode cX3_start 28 = .ok (.invokevirtual 89, 3) := by decide +kernel
theorem dX3_start_31 : decode cX3_start 31 = .ok (.iconst 1, 1) := by decide +kernel
theorem dX3_start_32 : decode cX3_start 32 = .ok (.ireturn, 1) := by decide +kernel
set_option maxRecDepth 20000 in
theorem ggX3_run_X1_makeSteps : GoodIn wsX3_run wsX1_makeSteps := goodIn_r _ [6, 7, 8, 9, 10, 5, 11, 12, 13, 14, 15, 16, 17, 18, 19, 20, 21, 22, 23, 24, 25, 26, 27, 28, 29, 30, 31, 32, 33, 34, 35, 36, 37, 38, 39, 40, 41, 42, 43, 44, 45, 46, 47, 48, 49, 50, 51, 52, 53, 54, 55, 56, 57, 58, 59, 60, 61, 62, 63, 64, 65, 66, 72, 73, 74, 75, 76, 77, 78, 79, 80, 81] (by decide +kernel) (by decide +kernel)
set_option maxRecDepth 20000 in
theorem gX3_run_X1_makeSteps : GoodIn wsX3_run (wsV RX3 93 RX1 yX1_makeSteps wsX1_makeSteps) := goodIn_app (goodIn_of _ (by decide +kernel)) ggX3_run_X1_makeSteps
theorem dX3_run_0 : decode cX3_run 0 = .ok (.iload_n 1, 1) := by decide +kernel
theorem dX3_run_1 : decode cX3_run 1 = .ok (.ifCond .lt 21, 3) := by decide +kernel
theorem dX3_run_4 : decode cX3_run 4 = .ok (.iload_n 1, 1) := by decide +kernel
theorem dX3_run_5 : decode cX3_run 5 = .ok (.sipush 1000, 3) := by decide +kernel
theorem dX3_run_8 : decode cX3_run 8 = .ok (.if_icmp .gt 14, 3) := by decide +kernel
theorem dX3_run_11 : decode cX3_run 11 = .ok (.aload_n 0, 1) := by decide +kernel
theorem dX3_run_12 : decode cX3_run 12 = .ok (.getfield 35, 3) := by decide +kernel
theorem dX3_run_15 : decode cX3_run 15 = .ok (.iload_n 1, 1) := by decide +kernel
theorem dX3_run_16 : decode cX3_run 16 = .ok (.invokevirtual 93, 3) := by decide +kernel
theorem dX3_run_19 : decode cX3_run 19 = .ok (.goto 4, 3) := by decide +kernel
theorem dX3_run_22 : decode cX3_run 22 = .ok (.iconst 0, 1) := by decide +kernel
theorem dX3_run_23 : decode cX3_run 23 = .ok (.ireturn, 1) := by decide +kernel
theorem dX3_state_0 : decode cX3_state 0 = .ok (.aload_n 0, 1) := by decide +kernel
theorem dX3_state_1 : decode cX3_state 1 = .ok (.getfield 35, 3) := by decide +kernel
theorem dX3_state_4 : decode cX3_state 4 = .ok (.getfield 96, 3) := by decide +kernel
theorem dX3_state_7 : decode cX3_state 7 = .ok (.ireturn, 1) := by decide +kernel
set_option maxRecDepth 20000 in
theorem ggX3_overwrite_X1_isIdle : GoodIn wsX3_overwrite wsX1_isIdle := goodIn_r _ [6, 7, 22, 23, 24, 25, 26, 27, 28] (by decide +kernel) (by decide +kernel)
set_option maxRecDepth 20000 in
theorem gX3_overwrite_X1_isIdle : GoodIn wsX3_overwrite (wsV RX3 100 RX1 yX1_isIdle wsX1_isIdle) := goodIn_app (goodIn_of _ (by decide +kernel)) ggX3_overwrite_X1_isIdle
set_option maxRecDepth 20000 in
theorem ggX3_overwrite_X3_isCell : GoodIn wsX3_overwrite wsX3_isCell := goodIn_r _ [11] (by decide +kernel) (by decide +kernel)
set_option maxRecDepth 20000 in
theorem gX3_overwrite_X3_isCell : GoodIn wsX3_overwrite (va_wsS RX3 103 yX3_isCell wsX3_isCell) := goodIn_app (goodIn_of _ (by decide +kernel)) ggX3_overwrite_X3_isCell
set_option maxRecDepth 20000 in
theorem ggX3_overwrite_X1_setCell : GoodIn wsX3_overwrite wsX1_setCell := goodIn_r _ [15, 16, 9, 10, 11, 22, 23, 24, 25, 26, 27, 28] (by decide +kernel) (by decide +kernel)
set_option maxRecDepth 20000 in
theorem gX3_overwrite_X1_setCell : GoodIn wsX3_overwrite (wsV RX3 106 RX1 yX1_setCell wsX1_setCell) := goodIn_app (goodIn_of _ (by decide +kernel)) ggX3_overwrite_X1_setCell
theorem dX3_overwrite_0 : decode cX3_overwrite 0 = .ok (.aload_n 0, 1) := by decide +kernel
theorem dX3_overwrite_1 : decode cX3_overwrite 1 = .ok (.getfield 35, 3) := by decide +kernel
theorem dX3_overwrite_4 : decode cX3_overwrite 4 = .ok (.invokevirtual 100, 3) := by decide +kernel
theorem dX3_overwrite_7 : decode cX3_overwrite 7 = .ok (.ifCond .ne 10, 3) := by decide +kernel
theorem dX3_overwrite_10 : decode cX3_overwrite 10 = .ok (.iload_n 1, 1) := by decide +kernel
theorem dX3_overwrite_11 : decode cX3_overwrite 11 = .ok (.invokestatic 103, 3) := by decide +kernel
theorem dX3_overwrite_14 : decode cX3_overwrite 14 = .ok (.ifCond .ne 5, 3) := by decide +kernel
theorem dX3_overwrite_17 : decode cX3_overwrite 17 = .ok (.iconst 0, 1) := by decide +kernel
theorem dX3_overwrite_18 : decode cX3_overwrite 18 = .ok (.ireturn, 1) := by decide +kernel
theorem dX3_overwrite_19 : decode cX3_overwrite 19 = .ok (.aload_n 0, 1) := by decide +kernel
theorem dX3_overwrite_20 : decode cX3_overwrite 20 = .ok (.getfield 35, 3) := by decide +kernel
theorem dX3_overwrite_23 : decode cX3_overwrite 23 = .ok (.iload_n 1, 1) := by decide +kernel
theorem dX3_overwrite_24 : decode cX3_overwrite 24 = .ok (.iload_n 2, 1) := by decide +kernel
theorem dX3_overwrite_25 : decode cX3_overwrite 25 = .ok (.invokevirtual 106, 3) := by decide +kernel
theorem dX3_overwrite_28 : decode cX3_overwrite 28 = .ok (.iconst 1, 1) := by decide +kernel
theorem dX3_overwrite_29 : decode cX3_overwrite 29 = .ok (.ireturn, 1) := by decide +kernel
set_option maxRecDepth 20000 in
theorem ggX3_memory_X1_isIdle : GoodIn wsX3_memory wsX1_isIdle := goodIn_r _ [6, 7, 21, 22, 23, 24, 25, 26, 27] (by decide +kernel) (by decide +kernel)
set_option maxRecDepth 20000 in
theorem gX3_memory_X1_isIdle : GoodIn wsX3_memory (wsV RX3 100 RX1 yX1_isIdle wsX1_isIdle) := goodIn_app (goodIn_of _ (by decide +kernel)) ggX3_memory_X1_isIdle
set_option maxRecDepth 20000 in
theorem ggX3_memory_X1_cellValue : GoodIn wsX3_memory wsX1_cellValue := goodIn_r _ [11, 12, 13, 14, 15, 21, 22, 23, 24, 25, 26, 27] (by decide +kernel) (by decide +kernel)
set_option maxRecDepth 20000 in
theorem gX3_memory_X1_cellValue : GoodIn wsX3_memory (wsV RX3 110 RX1 yX1_cellValue wsX1_cellValue) := goodIn_app (goodIn_of _ (by decide +kernel)) ggX3_memory_X1_cellValue
theorem dX3_memory_0 : decode cX3_memory 0 = .ok (.aload_n 0, 1) := by decide +kernel
theorem dX3_memory_1 : decode cX3_memory 1 = .ok (.getfield 35, 3) := by decide +kernel
theorem dX3_memory_4 : decode cX3_memory 4 = .ok (.invokevirtual 100, 3) := by decide +kernel
theorem dX3_memory_7 : decode cX3_memory 7 = .ok (.ifCond .eq 7, 3) := by decide +kernel
theorem dX3_memory_10 : decode cX3_memory 10 = .ok (.iconst 0, 1) := by decide +kernel
theorem dX3_memory_11 : decode cX3_memory 11 = .ok (.goto 11, 3) := by decide +kernel
theorem dX3_memory_14 : decode cX3_memory 14 = .ok (.aload_n 0, 1) := by decide +kernel
theorem dX3_memory_15 : decode cX3_memory 15 = .ok (.getfield 35, 3) := by decide +kernel
theorem dX3_memory_18 : decode cX3_memory 18 = .ok (.iload_n 1, 1) := by decide +kernel
theorem dX3_memory_19 : decode cX3_memory 19 = .ok (.invokevirtual 110, 3) := by decide +kernel
theorem dX3_memory_22 : decode cX3_memory 22 = .ok (.ireturn, 1) := by decide +kernel
set_option maxRecDepth 20000 in
theorem ggX3_register_X1_isIdle : GoodIn wsX3_register wsX1_isIdle := goodIn_r _ [6, 7, 21, 22, 23, 24, 25, 26, 27] (by decide +kernel) (by decide +kernel)
set_option maxRecDepth 20000 in
theorem gX3_register_X1_isIdle : GoodIn wsX3_register (wsV RX3 100 RX1 yX1_isIdle wsX1_isIdle) := goodIn_app (goodIn_of _ (by decide +kernel)) ggX3_register_X1_isIdle
set_option maxRecDepth 20000 in
theorem ggX3_register_X1_registerValue : GoodIn wsX3_register wsX1_registerValue := goodIn_r _ [11, 12, 13, 14, 15, 21, 22, 23, 24, 25, 26, 27] (by decide +kernel) (by decide +kernel)
set_option maxRecDepth 20000 in
theorem gX3_register_X1_registerValue : GoodIn wsX3_register (wsV RX3 113 RX1 yX1_registerValue wsX1_registerValue) := goodIn_app (goodIn_of _ (by decide +kernel)) ggX3_register_X1_registerValue
theorem dX3_register_0 : decode cX3_register 0 = .ok (.aload_n 0, 1) := by decide +kernel
theorem dX3_register_1 : decode cX3_register 1 = .ok (.getfield 35, 3) := by decide +kernel
theorem dX3_register_4 : decode cX3_register 4 = .ok (.invokevirtual 100, 3) := by decide +kernel
theorem dX3_register_7 : decode cX3_register 7 = .ok (.ifCond .eq 7, 3) := by decide +kernel
theorem dX3_register_10 : decode cX3_register 10 = .ok (.iconst 0, 1) := by decide +kernel
theorem dX3_register_11 : decode cX3_register 11 = .ok (.goto 11, 3) := by decide +kernel
theorem dX3_register_14 : decode cX3_register 14 = .ok (.aload_n 0, 1) := by decide +kernel
theorem dX3_register_15 : decode cX3_register 15 = .ok (.getfield 35, 3) := by decide +kernel
theorem dX3_register_18 : decode cX3_register 18 = .ok (.iload_n 1, 1) := by decide +kernel
theorem dX3_register_19 : decode cX3_register 19 = .ok (.invokevirtual 113, 3) := by decide +kernel
theorem dX3_register_22 : decode cX3_register 22 = .ok (.ireturn, 1) := by decide +kernel
set_option maxRecDepth 20000 in
theorem ggX3_pc_X1_isIdle : GoodIn wsX3_pc wsX1_isIdle := goodIn_r _ [6, 7, 13, 14, 15, 16, 17, 18, 19] (by decide +kernel) (by decide +kernel)
set_option maxRecDepth 20000 in
theorem gX3_pc_X1_isIdle : GoodIn wsX3_pc (wsV RX3 100 RX1 yX1_isIdle wsX1_isIdle) := goodIn_app (goodIn_of _ (by decide +kernel)) ggX3_pc_X1_isIdle
theorem dX3_pc_0 : decode cX3_pc 0 = .ok (.aload_n 0, 1) := by decide +kernel
theorem dX3_pc_1 : decode cX3_pc 1 = .ok (.getfield 35, 3) := by decide +kernel
theorem dX3_pc_4 : decode cX3_pc 4 = .ok (.invokevirtual 100, 3) := by decide +kernel
theorem dX3_pc_7 : decode cX3_pc 7 = .ok (.ifCond .eq 7, 3) := by decide +kernel
theorem dX3_pc_10 : decode cX3_pc 10 = .ok (.iconst (-1), 1) := by decide +kernel
theorem dX3_pc_11 : decode cX3_pc 11 = .ok (.goto 10, 3) := by decide +kernel
theorem dX3_pc_14 : decode cX3_pc 14 = .ok (.aload_n 0, 1) := by decide +kernel
theorem dX3_pc_15 : decode cX3_pc 15 = .ok (.getfield 35, 3) := by decide +kernel
theorem dX3_pc_18 : decode cX3_pc 18 = .ok (.getfield 116, 3) := by decide +kernel
theorem dX3_pc_21 : decode cX3_pc 21 = .ok (.ireturn, 1) := by decide +kernel
set_option maxRecDepth 20000 in
theorem ggX3_shows_X1_isIdle : GoodIn wsX3_shows wsX1_isIdle := goodIn_r _ [6, 7, 13, 14, 15, 16, 17, 18, 19] (by decide +kernel) (by decide +kernel)
set_option maxRecDepth 20000 in
theorem gX3_shows_X1_isIdle : GoodIn wsX3_shows (wsV RX3 100 RX1 yX1_isIdle wsX1_isIdle) := goodIn_app (goodIn_of _ (by decide +kernel)) ggX3_shows_X1_isIdle
theorem dX3_shows_0 : decode cX3_shows 0 = .ok (.aload_n 0, 1) := by decide +kernel
theorem dX3_shows_1 : decode cX3_shows 1 = .ok (.getfield 35, 3) := by decide +kernel
theorem dX3_shows_4 : decode cX3_shows 4 = .ok (.invokevirtual 100, 3) := by decide +kernel
theorem dX3_shows_7 : decode cX3_shows 7 = .ok (.ifCond .eq 7, 3) := by decide +kernel
theorem dX3_shows_10 : decode cX3_shows 10 = .ok (.iconst 0, 1) := by decide +kernel
theorem dX3_shows_11 : decode cX3_shows 11 = .ok (.goto 10, 3) := by decide +kernel
theorem dX3_shows_14 : decode cX3_shows 14 = .ok (.aload_n 0, 1) := by decide +kernel
theorem dX3_shows_15 : decode cX3_shows 15 = .ok (.getfield 35, 3) := by decide +kernel
theorem dX3_shows_18 : decode cX3_shows 18 = .ok (.getfield 119, 3) := by decide +kernel
theorem dX3_shows_21 : decode cX3_shows 21 = .ok (.ireturn, 1) := by decide +kernel
set_option maxRecDepth 20000 in
theorem ggX3_shown_X1_isIdle : GoodIn wsX3_shown wsX1_isIdle := goodIn_r _ [6, 7, 19, 20, 21, 22, 23, 24, 25] (by decide +kernel) (by decide +kernel)
set_option maxRecDepth 20000 in
theorem gX3_shown_X1_isIdle : GoodIn wsX3_shown (wsV RX3 100 RX1 yX1_isIdle wsX1_isIdle) := goodIn_app (goodIn_of _ (by decide +kernel)) ggX3_shown_X1_isIdle
set_option maxRecDepth 20000 in
theorem ggX3_shown_X1_shownBefore : GoodIn wsX3_shown wsX1_shownBefore := goodIn_r _ [11, 12, 13, 19, 20, 21, 22, 23, 24, 25] (by decide +kernel) (by decide +kernel)
set_option maxRecDepth 20000 in
theorem gX3_shown_X1_shownBefore : GoodIn wsX3_shown (wsV RX3 122 RX1 yX1_shownBefore wsX1_shownBefore) := goodIn_app (goodIn_of _ (by decide +kernel)) ggX3_shown_X1_shownBefore
theorem dX3_shown_0 : decode cX3_shown 0 = .ok (.aload_n 0, 1) := by decide +kernel
theorem dX3_shown_1 : decode cX3_shown 1 = .ok (.getfield 35, 3) := by decide +kernel
theorem dX3_shown_4 : decode cX3_shown 4 = .ok (.invokevirtual 100, 3) := by decide +kernel
theorem dX3_shown_7 : decode cX3_shown 7 = .ok (.ifCond .eq 7, 3) := by decide +kernel
theorem dX3_shown_10 : decode cX3_shown 10 = .ok (.iconst 0, 1) := by decide +kernel
theorem dX3_shown_11 : decode cX3_shown 11 = .ok (.goto 11, 3) := by decide +kernel
theorem dX3_shown_14 : decode cX3_shown 14 = .ok (.aload_n 0, 1) := by decide +kernel
theorem dX3_shown_15 : decode cX3_shown 15 = .ok (.getfield 35, 3) := by decide +kernel
theorem dX3_shown_18 : decode cX3_shown 18 = .ok (.iload_n 1, 1) := by decide +kernel
theorem dX3_shown_19 : decode cX3_shown 19 = .ok (.invokevirtual 122, 3) := by decide +kernel
theorem dX3_shown_22 : decode cX3_shown 22 = .ok (.ireturn, 1) := by decide +kernel
set_option maxRecDepth 20000 in
theorem ggX3_isSourceInstruction_X3_isRegister : GoodIn wsX3_isSourceInstruction wsX3_isRegister := goodIn_r _ [4] (by decide +kernel) (by decide +kernel)
set_option maxRecDepth 20000 in
theorem gX3_isSourceInstruction_X3_isRegister : GoodIn wsX3_isSourceInstruction (va_wsS RX3 125 yX3_isRegister wsX3_isRegister) := goodIn_app (goodIn_of _ (by decide +kernel)) ggX3_isSourceInstruction_X3_isRegister
set_option maxRecDepth 20000 in
theorem ggX3_isSourceInstruction_X3_isCell : GoodIn wsX3_isSourceInstruction wsX3_isCell := goodIn_r _ [7] (by decide +kernel) (by decide +kernel)
set_option maxRecDepth 20000 in
theorem gX3_isSourceInstruction_X3_isCell : GoodIn wsX3_isSourceInstruction (va_wsS RX3 103 yX3_isCell wsX3_isCell) := goodIn_app (goodIn_of _ (by decide +kernel)) ggX3_isSourceInstruction_X3_isCell
set_option maxRecDepth 20000 in
theorem ggX3_isSourceInstruction_X3_isAddress : GoodIn wsX3_isSourceInstruction wsX3_isAddress := goodIn_r _ [10] (by decide +kernel) (by decide +kernel)
set_option maxRecDepth 20000 in
theorem gX3_isSourceInstruction_X3_isAddress : GoodIn wsX3_isSourceInstruction (va_wsS RX3 128 yX3_isAddress wsX3_isAddress) := goodIn_app (goodIn_of _ (by decide +kernel)) ggX3_isSourceInstruction_X3_isAddress
theorem dX3_isSourceInstruction_0 : decode cX3_isSourceInstruction 0 = .ok (.iload_n 0, 1) := by decide +kernel
theorem dX3_isSourceInstruction_1 : decode cX3_isSourceInstruction 1 = .ok (.tableswitch 127 0 9 #[55, 57, 62, 62, 82, 57, 102, 107, 57, 107], 55) := by decide +kernel
theorem dX3_isSourceInstruction_56 : decode cX3_isSourceInstruction 56 = .ok (.iconst 1, 1) := by decide +kernel
theorem dX3_isSourceInstruction_57 : decode cX3_isSourceInstruction 57 = .ok (.ireturn, 1) := by decide +kernel
theorem dX3_isSourceInstruction_58 : decode cX3_isSourceInstruction 58 = .ok (.iload_n 1, 1) := by decide +kernel
theorem dX3_isSourceInstruction_59 : decode cX3_isSourceInstruction 59 = .ok (.invokestatic 125, 3) := by decide +kernel
theorem dX3_isSourceInstruction_62 : decode cX3_isSourceInstruction 62 = .ok (.ireturn, 1) := by decide +kernel
theorem dX3_isSourceInstruction_63 : decode cX3_isSourceInstruction 63 = .ok (.iload_n 1, 1) := by decide +kernel
theorem dX3_isSourceInstruction_64 : decode cX3_isSourceInstruction 64 = .ok (.invokestatic 125, 3) := by decide +kernel
theorem dX3_isSourceInstruction_67 : decode cX3_isSourceInstruction 67 = .ok (.ifCond .eq 14, 3) := by decide +kernel
theorem dX3_isSourceInstruction_70 : decode cX3_isSourceInstruction 70 = .ok (.iload_n 2, 1) := by decide +kernel
theorem dX3_isSourceInstruction_71 : decode cX3_isSourceInstruction 71 = .ok (.invokestatic 103, 3) := by decide +kernel
theorem dX3_isSourceInstruction_74 : decode cX3_isSourceInstruction 74 = .ok (.ifCond .eq 7, 3) := by decide +kernel
theorem dX3_isSourceInstruction_77 : decode cX3_isSourceInstruction 77 = .ok (.iconst 1, 1) := by decide +kernel
theorem dX3_isSourceInstruction_78 : decode cX3_isSourceInstruction 78 = .ok (.goto 4, 3) := by decide +kernel
theorem dX3_isSourceInstruction_81 : decode cX3_isSourceInstruction 81 = .ok (.iconst 0, 1) := by decide +kernel
theorem dX3_isSourceInstruction_82 : decode cX3_isSourceInstruction 82 = .ok (.ireturn, 1) := by decide +kernel
theorem dX3_isSourceInstruction_83 : decode cX3_isSourceInstruction 83 = .ok (.iload_n 1, 1) := by decide +kernel
theorem dX3_isSourceInstruction_84 : decode cX3_isSourceInstruction 84 = .ok (.invokestatic 125, 3) := by decide +kernel
theorem dX3_isSourceInstruction_87 : decode cX3_isSourceInstruction 87 = .ok (.ifCond .eq 14, 3) := by decide +kernel
theorem dX3_isSourceInstruction_90 : decode cX3_isSourceInstruction 90 = .ok (.iload_n 2, 1) := by decide +kernel
theorem dX3_isSourceInstruction_91 : decode cX3_isSourceInstruction 91 = .ok (.invokestatic 125, 3) := by decide +kernel
theorem dX3_isSourceInstruction_94 : decode cX3_isSourceInstruction 94 = .ok (.ifCond .eq 7, 3) := by decide +kernel
theorem dX3_isSourceInstruction_97 : decode cX3_isSourceInstruction 97 = .ok (.iconst 1, 1) := by decide +kernel
theorem dX3_isSourceInstruction_98 : decode cX3_isSourceInstruction 98 = .ok (.goto 4, 3) := by decide +kernel
theorem dX3_isSourceInstruction_101 : decode cX3_isSourceInstruction 101 = .ok (.iconst 0, 1) := by decide +kernel
theorem dX3_isSourceInstruction_102 : decode cX3_isSourceInstruction 102 = .ok (.ireturn, 1) := by decide +kernel
theorem dX3_isSourceInstruction_103 : decode cX3_isSourceInstruction 103 = .ok (.iload_n 1, 1) := by decide +kernel
theorem dX3_isSourceInstruction_104 : decode cX3_isSourceInstruction 104 = .ok (.invokestatic 128, 3) := by decide +kernel
theorem dX3_isSourceInstruction_107 : decode cX3_isSourceInstruction 107 = .ok (.ireturn, 1) := by decide +kernel
theorem dX3_isSourceInstruction_108 : decode cX3_isSourceInstruction 108 = .ok (.iload_n 1, 1) := by decide +kernel
theorem dX3_isSourceInstruction_109 : decode cX3_isSourceInstruction 109 = .ok (.invokestatic 125, 3) := by decide +kernel
theorem dX3_isSourceInstruction_112 : decode cX3_isSourceInstruction 112 = .ok (.ifCond .eq 14, 3) := by decide +kernel
theorem dX3_isSourceInstruction_115 : decode cX3_isSourceInstruction 115 = .ok (.iload_n 2, 1) := by decide +kernel
theorem dX3_isSourceInstruction_116 : decode cX3_isSourceInstruction 116 = .ok (.invokestatic 128, 3) := by decide +kernel
theorem dX3_isSourceInstruction_119 : decode cX3_isSourceInstruction 119 = .ok (.ifCond .eq 7, 3) := by decide +kernel
theorem dX3_isSourceInstruction_122 : decode cX3_isSourceInstruction 122 = .ok (.iconst 1, 1) := by decide +kernel
theorem dX3_isSourceInstruction_123 : decode cX3_isSourceInstruction 123 = .ok (.goto 4, 3) := by decide +kernel
theorem dX3_isSourceInstruction_126 : decode cX3_isSourceInstruction 126 = .ok (.iconst 0, 1) := by decide +kernel
theorem dX3_isSourceInstruction_127 : decode cX3_isSourceInstruction 127 = .ok (.ireturn, 1) := by decide +kernel
theorem dX3_isSourceInstruction_128 : decode cX3_isSourceInstruction 128 = .ok (.iconst 0, 1) := by decide +kernel
theorem dX3_isSourceInstruction_129 : decode cX3_isSourceInstruction 129 = .ok (.ireturn, 1) := by decide +kernel
theorem dX3_isRegister_0 : decode cX3_isRegister 0 = .ok (.iload_n 0, 1) := by decide +kernel
theorem dX3_isRegister_1 : decode cX3_isRegister 1 = .ok (.ifCond .lt 12, 3) := by decide +kernel
theorem dX3_isRegister_4 : decode cX3_isRegister 4 = .ok (.iload_n 0, 1) := by decide +kernel
theorem dX3_isRegister_5 : decode cX3_isRegister 5 = .ok (.iconst 4, 1) := by decide +kernel
theorem dX3_isRegister_6 : decode cX3_isRegister 6 = .ok (.if_icmp .ge 7, 3) := by decide +kernel
theorem dX3_isRegister_9 : decode cX3_isRegister 9 = .ok (.iconst 1, 1) := by decide +kernel
theorem dX3_isRegister_10 : decode cX3_isRegister 10 = .ok (.goto 4, 3) := by decide +kernel
theorem dX3_isRegister_13 : decode cX3_isRegister 13 = .ok (.iconst 0, 1) := by decide +kernel
theorem dX3_isRegister_14 : decode cX3_isRegister 14 = .ok (.ireturn, 1) := by decide +kernel
theorem dX3_isCell_0 : decode cX3_isCell 0 = .ok (.iload_n 0, 1) := by decide +kernel
theorem dX3_isCell_1 : decode cX3_isCell 1 = .ok (.ifCond .lt 13, 3) := by decide +kernel
theorem dX3_isCell_4 : decode cX3_isCell 4 = .ok (.iload_n 0, 1) := by decide +kernel
theorem dX3_isCell_5 : decode cX3_isCell 5 = .ok (.bipush 16, 2) := by decide +kernel
theorem dX3_isCell_7 : decode cX3_isCell 7 = .ok (.if_icmp .ge 7, 3) := by decide +kernel
theorem dX3_isCell_10 : decode cX3_isCell 10 = .ok (.iconst 1, 1) := by decide +kernel
theorem dX3_isCell_11 : decode cX3_isCell 11 = .ok (.goto 4, 3) := by decide +kernel
theorem dX3_isCell_14 : decode cX3_isCell 14 = .ok (.iconst 0, 1) := by decide +kernel
theorem dX3_isCell_15 : decode cX3_isCell 15 = .ok (.ireturn, 1) := by decide +kernel
theorem dX3_isAddress_0 : decode cX3_isAddress 0 = .ok (.iload_n 0, 1) := by decide +kernel
theorem dX3_isAddress_1 : decode cX3_isAddress 1 = .ok (.ifCond .lt 13, 3) := by decide +kernel
theorem dX3_isAddress_4 : decode cX3_isAddress 4 = .ok (.iload_n 0, 1) := by decide +kernel
theorem dX3_isAddress_5 : decode cX3_isAddress 5 = .ok (.bipush 24, 2) := by decide +kernel
theorem dX3_isAddress_7 : decode cX3_isAddress 7 = .ok (.if_icmp .ge 7, 3) := by decide +kernel
theorem dX3_isAddress_10 : decode cX3_isAddress 10 = .ok (.iconst 1, 1) := by decide +kernel
theorem dX3_isAddress_11 : decode cX3_isAddress 11 = .ok (.goto 4, 3) := by decide +kernel
theorem dX3_isAddress_14 : decode cX3_isAddress 14 = .ok (.iconst 0, 1) := by decide +kernel
theorem dX3_isAddress_15 : decode cX3_isAddress 15 = .ok (.ireturn, 1) := by decide +kernel
theorem dX3_holdsAddressInB_0 : decode cX3_holdsAddressInB 0 = .ok (.iload_n 0, 1) := by decide +kernel
theorem dX3_holdsAddressInB_1 : decode cX3_holdsAddressInB 1 = .ok (.bipush 7, 2) := by decide +kernel
theorem dX3_holdsAddressInB_3 : decode cX3_holdsAddressInB 3 = .ok (.if_icmp .eq 9, 3) := by decide +kernel
theorem dX3_holdsAddressInB_6 : decode cX3_holdsAddressInB 6 = .ok (.iload_n 0, 1) := by decide +kernel
theorem dX3_holdsAddressInB_7 : decode cX3_holdsAddressInB 7 = .ok (.bipush 9, 2) := by decide +kernel
theorem dX3_holdsAddressInB_9 : decode cX3_holdsAddressInB 9 = .ok (.if_icmp .ne 7, 3) := by decide +kernel
theorem dX3_holdsAddressInB_12 : decode cX3_holdsAddressInB 12 = .ok (.iconst 1, 1) := by decide +kernel
theorem dX3_holdsAddressInB_13 : decode cX3_holdsAddressInB 13 = .ok (.goto 4, 3) := by decide +kernel
theorem dX3_holdsAddressInB_16 : decode cX3_holdsAddressInB 16 = .ok (.iconst 0, 1) := by decide +kernel
theorem dX3_holdsAddressInB_17 : decode cX3_holdsAddressInB 17 = .ok (.ireturn, 1) := by decide +kernel
set_option maxRecDepth 20000 in
theorem ggX3_isGuarded_X2_length : GoodIn wsX3_isGuarded wsX2_length := goodIn_r _ [6, 7, 13, 14, 15] (by decide +kernel) (by decide +kernel)
set_option maxRecDepth 20000 in
theorem gX3_isGuarded_X2_length : GoodIn wsX3_isGuarded (wsV RX3 47 RX2 yX2_length wsX2_length) := goodIn_app (goodIn_of _ (by decide +kernel)) ggX3_isGuarded_X2_length
theorem dX3_isGuarded_0 : decode cX3_isGuarded 0 = .ok (.aload_n 0, 1) := by decide +kernel
theorem dX3_isGuarded_1 : decode cX3_isGuarded 1 = .ok (.getfield 18, 3) := by decide +kernel
theorem dX3_isGuarded_4 : decode cX3_isGuarded 4 = .ok (.invokevirtual 47, 3) := by decide +kernel
theorem dX3_isGuarded_7 : decode cX3_isGuarded 7 = .ok (.ifCond .le 7, 3) := by decide +kernel
theorem dX3_isGuarded_10 : decode cX3_isGuarded 10 = .ok (.iconst 1, 1) := by decide +kernel
theorem dX3_isGuarded_11 : decode cX3_isGuarded 11 = .ok (.goto 4, 3) := by decide +kernel
theorem dX3_isGuarded_14 : decode cX3_isGuarded 14 = .ok (.iconst 0, 1) := by decide +kernel
theorem dX3_isGuarded_15 : decode cX3_isGuarded 15 = .ok (.ireturn, 1) := by decide +kernel
set_option maxRecDepth 20000 in
theorem ggX3_dropGuarded_X2_clear : GoodIn wsX3_dropGuarded wsX2_clear := goodIn_r _ [7, 8, 20, 21, 22] (by decide +kernel) (by decide +kernel)
set_option maxRecDepth 20000 in
theorem gX3_dropGuarded_X2_clear : GoodIn wsX3_dropGuarded (wsV RX3 131 RX2 yX2_clear wsX2_clear) := goodIn_app (goodIn_of _ (by decide +kernel)) ggX3_dropGuarded_X2_clear
set_option maxRecDepth 20000 in
theorem ggX3_dropGuarded_X1_stop : GoodIn wsX3_dropGuarded wsX1_stop := goodIn_r _ [13, 14, 23, 24, 25, 26, 27, 28, 29] (by decide +kernel) (by decide +kernel)
set_option maxRecDepth 20000 in
theorem gX3_dropGuarded_X1_stop : GoodIn wsX3_dropGuarded (wsV RX3 134 RX1 yX1_stop wsX1_stop) := goodIn_app (goodIn_of _ (by decide +kernel)) ggX3_dropGuarded_X1_stop
theorem dX3_dropGuarded_0 : decode cX3_dropGuarded 0 = .ok (.aload_n 0, 1) := by decide +kernel
theorem dX3_dropGuarded_1 : decode cX3_dropGuarded 1 = .ok (.getfield 18, 3) := by decide +kernel
theorem dX3_dropGuarded_4 : decode cX3_dropGuarded 4 = .ok (.invokevirtual 131, 3) := by decide +kernel
theorem dX3_dropGuarded_7 : decode cX3_dropGuarded 7 = .ok (.aload_n 0, 1) := by decide +kernel
theorem dX3_dropGuarded_8 : decode cX3_dropGuarded 8 = .ok (.getfield 35, 3) := by decide +kernel
theorem dX3_dropGuarded_11 : decode cX3_dropGuarded 11 = .ok (.invokevirtual 134, 3) := by decide +kernel
theorem dX3_dropGuarded_14 : decode cX3_dropGuarded 14 = .ok (.return_, 1) := by decide +kernel
set_option maxRecDepth 20000 in
theorem ggX3_isClosed_X2_length : GoodIn wsX3_isClosed wsX2_length := goodIn_r _ [6, 7, 31, 32, 33] (by decide +kernel) (by decide +kernel)
set_option maxRecDepth 20000 in
theorem gX3_isClosed_X2_length : GoodIn wsX3_isClosed (wsV RX3 47 RX2 yX2_length wsX2_length) := goodIn_app (goodIn_of _ (by decide +kernel)) ggX3_isClosed_X2_length
set_option maxRecDepth 20000 in
theorem ggX3_isClosed_X2_get : GoodIn wsX3_isClosed wsX2_get := goodIn_r _ [11, 12, 13, 14, 15, 5, 16, 7, 31, 32, 33] (by decide +kernel) (by decide +kernel)
set_option maxRecDepth 20000 in
theorem gX3_isClosed_X2_get : GoodIn wsX3_isClosed (wsV RX3 58 RX2 yX2_get wsX2_get) := goodIn_app (goodIn_of _ (by decide +kernel)) ggX3_isClosed_X2_get
set_option maxRecDepth 20000 in
theorem ggX3_isClosed_X3_hasItsAddress : GoodIn wsX3_isClosed wsX3_hasItsAddress := goodIn_r _ [21, 1, 8, 9, 10, 5, 11, 12, 13, 14, 15, 16, 7, 22, 23, 24, 20, 25, 26, 27, 28, 29, 30, 31, 32, 33] (by decide +kernel) (by decide +kernel)
set_option maxRecDepth 20000 in
theorem gX3_isClosed_X3_hasItsAddress : GoodIn wsX3_isClosed (wsV RX3 137 RX3 yX3_hasItsAddress wsX3_hasItsAddress) := goodIn_app (goodIn_of _ (by decide +kernel)) ggX3_isClosed_X3_hasItsAddress
theorem dX3_isClosed_0 : decode cX3_isClosed 0 = .ok (.aload_n 0, 1) := by decide +kernel
theorem dX3_isClosed_1 : decode cX3_isClosed 1 = .ok (.getfield 14, 3) := by decide +kernel
theorem dX3_isClosed_4 : decode cX3_isClosed 4 = .ok (.aload_n 0, 1) := by decide +kernel
theorem dX3_isClosed_5 : decode cX3_isClosed 5 = .ok (.getfield 14, 3) := by decide +kernel
theorem dX3_isClosed_8 : decode cX3_isClosed 8 = .ok (.invokevirtual 47, 3) := by decide +kernel
theorem dX3_isClosed_11 : decode cX3_isClosed 11 = .ok (.iconst 1, 1) := by decide +kernel
theorem dX3_isClosed_12 : decode cX3_isClosed 12 = .ok (.isub, 1) := by decide +kernel
theorem dX3_isClosed_13 : decode cX3_isClosed 13 = .ok (.iconst 0, 1) := by decide +kernel
theorem dX3_isClosed_14 : decode cX3_isClosed 14 = .ok (.invokevirtual 58, 3) := by decide +kernel
theorem dX3_isClosed_17 : decode cX3_isClosed 17 = .ok (.istore_n 1, 1) := by decide +kernel
theorem dX3_isClosed_18 : decode cX3_isClosed 18 = .ok (.iload_n 1, 1) := by decide +kernel
theorem dX3_isClosed_19 : decode cX3_isClosed 19 = .ok (.ifCond .eq 17, 3) := by decide +kernel
theorem dX3_isClosed_22 : decode cX3_isClosed 22 = .ok (.iload_n 1, 1) := by decide +kernel
theorem dX3_isClosed_23 : decode cX3_isClosed 23 = .ok (.bipush 6, 2) := by decide +kernel
theorem dX3_isClosed_25 : decode cX3_isClosed 25 = .ok (.if_icmp .eq 11, 3) := by decide +kernel
theorem dX3_isClosed_28 : decode cX3_isClosed 28 = .ok (.iload_n 1, 1) := by decide +kernel
theorem dX3_isClosed_29 : decode cX3_isClosed 29 = .ok (.bipush 8, 2) := by decide +kernel
theorem dX3_isClosed_31 : decode cX3_isClosed 31 = .ok (.if_icmp .eq 5, 3) := by decide +kernel
theorem dX3_isClosed_34 : decode cX3_isClosed 34 = .ok (.iconst 0, 1) := by decide +kernel
theorem dX3_isClosed_35 : decode cX3_isClosed 35 = .ok (.ireturn, 1) := by decide +kernel
theorem dX3_isClosed_36 : decode cX3_isClosed 36 = .ok (.iconst 0, 1) := by decide +kernel
theorem dX3_isClosed_37 : decode cX3_isClosed 37 = .ok (.istore_n 2, 1) := by decide +kernel
theorem dX3_isClosed_38 : decode cX3_isClosed 38 = .ok (.iload_n 2, 1) := by decide +kernel
theorem dX3_isClosed_39 : decode cX3_isClosed 39 = .ok (.aload_n 0, 1) := by decide +kernel
theorem dX3_isClosed_40 : decode cX3_isClosed 40 = .ok (.getfield 14, 3) := by decide +kernel
theorem dX3_isClosed_43 : decode cX3_isClosed 43 = .ok (.invokevirtual 47, 3) := by decide +kernel
theorem dX3_isClosed_46 : decode cX3_isClosed 46 = .ok (.if_icmp .ge 19, 3) := by decide +kernel
theorem dX3_isClosed_49 : decode cX3_isClosed 49 = .ok (.aload_n 0, 1) := by decide +kernel
theorem dX3_isClosed_50 : decode cX3_isClosed 50 = .ok (.iload_n 2, 1) := by decide +kernel
theorem dX3_isClosed_51 : decode cX3_isClosed 51 = .ok (.invokevirtual 137, 3) := by decide +kernel
theorem dX3_isClosed_54 : decode cX3_isClosed 54 = .ok (.ifCond .ne 5, 3) := by decide +kernel
theorem dX3_isClosed_57 : decode cX3_isClosed 57 = .ok (.iconst 0, 1) := by decide +kernel
theorem dX3_isClosed_58 : decode cX3_isClosed 58 = .ok (.ireturn, 1) := by decide +kernel
theorem dX3_isClosed_59 : decode cX3_isClosed 59 = .ok (.iinc 2 1, 3) := by decide +kernel
theorem dX3_isClosed_62 : decode cX3_isClosed 62 = .ok (.goto (-24), 3) := by decide +kernel
theorem dX3_isClosed_65 : decode cX3_isClosed 65 = .ok (.iconst 1, 1) := by decide +kernel
theorem dX3_isClosed_66 : decode cX3_isClosed 66 = .ok (.ireturn, 1) := by decide +kernel
set_option maxRecDepth 20000 in
theorem ggX3_hasItsAddress_X2_get : GoodIn wsX3_hasItsAddress wsX2_get := goodIn_r _ [6, 7, 8, 9, 10, 5, 11, 12, 23, 24, 25] (by decide +kernel) (by decide +kernel)
set_option maxRecDepth 20000 in
theorem gX3_hasItsAddress_X2_get : GoodIn wsX3_hasItsAddress (wsV RX3 58 RX2 yX2_get wsX2_get) := goodIn_app (goodIn_of _ (by decide +kernel)) ggX3_hasItsAddress_X2_get
set_option maxRecDepth 20000 in
theorem ggX3_hasItsAddress_X2_has : GoodIn wsX3_hasItsAddress wsX2_has := goodIn_r _ [11, 12, 23, 24, 25] (by decide +kernel) (by decide +kernel)
set_option maxRecDepth 20000 in
theorem gX3_hasItsAddress_X2_has : GoodIn wsX3_hasItsAddress (wsV RX3 62 RX2 yX2_has wsX2_has) := goodIn_app (goodIn_of _ (by decide +kernel)) ggX3_hasItsAddress_X2_has
set_option maxRecDepth 20000 in
theorem ggX3_hasItsAddress_X3_holdsAddressInB : GoodIn wsX3_hasItsAddress wsX3_holdsAddressInB := goodIn_r _ [17] (by decide +kernel) (by decide +kernel)
set_option maxRecDepth 20000 in
theorem gX3_hasItsAddress_X3_holdsAddressInB : GoodIn wsX3_hasItsAddress (va_wsS RX3 140 yX3_holdsAddressInB wsX3_holdsAddressInB) := goodIn_app (goodIn_of _ (by decide +kernel)) ggX3_hasItsAddress_X3_holdsAddressInB
theorem dX3_hasItsAddress_0 : decode cX3_hasItsAddress 0 = .ok (.aload_n 0, 1) := by decide +kernel
theorem dX3_hasItsAddress_1 : decode cX3_hasItsAddress 1 = .ok (.getfield 14, 3) := by decide +kernel
theorem dX3_hasItsAddress_4 : decode cX3_hasItsAddress 4 = .ok (.iload_n 1, 1) := by decide +kernel
theorem dX3_hasItsAddress_5 : decode cX3_hasItsAddress 5 = .ok (.iconst 0, 1) := by decide +kernel
theorem dX3_hasItsAddress_6 : decode cX3_hasItsAddress 6 = .ok (.invokevirtual 58, 3) := by decide +kernel
theorem dX3_hasItsAddress_9 : decode cX3_hasItsAddress 9 = .ok (.istore_n 2, 1) := by decide +kernel
theorem dX3_hasItsAddress_10 : decode cX3_hasItsAddress 10 = .ok (.iload_n 2, 1) := by decide +kernel
theorem dX3_hasItsAddress_11 : decode cX3_hasItsAddress 11 = .ok (.bipush 6, 2) := by decide +kernel
theorem dX3_hasItsAddress_13 : decode cX3_hasItsAddress 13 = .ok (.if_icmp .ne 20, 3) := by decide +kernel
theorem dX3_hasItsAddress_16 : decode cX3_hasItsAddress 16 = .ok (.aload_n 0, 1) := by decide +kernel
theorem dX3_hasItsAddress_17 : decode cX3_hasItsAddress 17 = .ok (.getfield 14, 3) := by decide +kernel
theorem dX3_hasItsAddress_20 : decode cX3_hasItsAddress 20 = .ok (.aload_n 0, 1) := by decide +kernel
theorem dX3_hasItsAddress_21 : decode cX3_hasItsAddress 21 = .ok (.getfield 14, 3) := by decide +kernel
theorem dX3_hasItsAddress_24 : decode cX3_hasItsAddress 24 = .ok (.iload_n 1, 1) := by decide +kernel
theorem dX3_hasItsAddress_25 : decode cX3_hasItsAddress 25 = .ok (.iconst 1, 1) := by decide +kernel
theorem dX3_hasItsAddress_26 : decode cX3_hasItsAddress 26 = .ok (.invokevirtual 58, 3) := by decide +kernel
theorem dX3_hasItsAddress_29 : decode cX3_hasItsAddress 29 = .ok (.invokevirtual 62, 3) := by decide +kernel
theorem dX3_hasItsAddress_32 : decode cX3_hasItsAddress 32 = .ok (.ireturn, 1) := by decide +kernel
theorem dX3_hasItsAddress_33 : decode cX3_hasItsAddress 33 = .ok (.iload_n 2, 1) := by decide +kernel
theorem dX3_hasItsAddress_34 : decode cX3_hasItsAddress 34 = .ok (.invokestatic 140, 3) := by decide +kernel
theorem dX3_hasItsAddress_37 : decode cX3_hasItsAddress 37 = .ok (.ifCond .eq 22, 3) := by decide +kernel
theorem dX3_hasItsAddress_40 : decode cX3_hasItsAddress 40 = .ok (.aload_n 0, 1) := by decide +kernel
theorem dX3_hasItsAddress_41 : decode cX3_hasItsAddress 41 = .ok (.getfield 14, 3) := by decide +kernel
theorem dX3_hasItsAddress_44 : decode cX3_hasItsAddress 44 = .ok (.aload_n 0, 1) := by decide +kernel
theorem dX3_hasItsAddress_45 : decode cX3_hasItsAddress 45 = .ok (.getfield 14, 3) := by decide +kernel
theorem dX3_hasItsAddress_48 : decode cX3_hasItsAddress 48 = .ok (.iload_n 1, 1) := by decide +kernel
theorem dX3_hasItsAddress_49 : decode cX3_hasItsAddress 49 = .ok (.iconst 2, 1) := by decide +kernel
theorem dX3_hasItsAddress_50 : decode cX3_hasItsAddress 50 = .ok (.invokevirtual 58, 3) := by decide +kernel
theorem dX3_hasItsAddress_53 : decode cX3_hasItsAddress 53 = .ok (.invokevirtual 62, 3) := by decide +kernel
theorem dX3_hasItsAddress_56 : decode cX3_hasItsAddress 56 = .ok (.ifCond .eq 7, 3) := by decide +kernel
theorem dX3_hasItsAddress_59 : decode cX3_hasItsAddress 59 = .ok (.iconst 1, 1) := by decide +kernel
theorem dX3_hasItsAddress_60 : decode cX3_hasItsAddress 60 = .ok (.goto 4, 3) := by decide +kernel
theorem dX3_hasItsAddress_63 : decode cX3_hasItsAddress 63 = .ok (.iconst 0, 1) := by decide +kernel
theorem dX3_hasItsAddress_64 : decode cX3_hasItsAddress 64 = .ok (.ireturn, 1) := by decide +kernel
set_option maxRecDepth 20000 in
theorem ggX3_setPlaces_X2_length : GoodIn wsX3_setPlaces wsX2_length := goodIn_r _ [8, 9, 33, 34, 35] (by decide +kernel) (by decide +kernel)
set_option maxRecDepth 20000 in
theorem gX3_setPlaces_X2_length : GoodIn wsX3_setPlaces (wsV RX3 47 RX2 yX2_length wsX2_length) := goodIn_app (goodIn_of _ (by decide +kernel)) ggX3_setPlaces_X2_length
set_option maxRecDepth 20000 in
theorem ggX3_setPlaces_X0_numberOfTarget : GoodIn wsX3_setPlaces wsX0_numberOfTarget := goodIn_r _ [14, 15, 16, 17, 18, 36, 37, 38, 39] (by decide +kernel) (by decide +kernel)
set_option maxRecDepth 20000 in
theorem gX3_setPlaces_X0_numberOfTarget : GoodIn wsX3_setPlaces (wsV RX3 86 RX0 yX0_numberOfTarget wsX0_numberOfTarget) := goodIn_app (goodIn_of _ (by decide +kernel)) ggX3_setPlaces_X0_numberOfTarget
set_option maxRecDepth 20000 in
theorem ggX3_setPlaces_X2_get : GoodIn wsX3_setPlaces wsX2_get := goodIn_r _ [22, 23, 24, 25, 26, 7, 27, 9, 33, 34, 35] (by decide +kernel) (by decide +kernel)
set_option maxRecDepth 20000 in
theorem gX3_setPlaces_X2_get : GoodIn wsX3_setPlaces (wsV RX3 58 RX2 yX2_get wsX2_get) := goodIn_app (goodIn_of _ (by decide +kernel)) ggX3_setPlaces_X2_get
theorem dX3_setPlaces_0 : decode cX3_setPlaces 0 = .ok (.iconst 0, 1) := by decide +kernel
theorem dX3_setPlaces_1 : decode cX3_setPlaces 1 = .ok (.istore_n 1, 1) := by decide +kernel
theorem dX3_setPlaces_2 : decode cX3_setPlaces 2 = .ok (.iconst 0, 1) := by decide +kernel
theorem dX3_setPlaces_3 : decode cX3_setPlaces 3 = .ok (.istore_n 2, 1) := by decide +kernel
theorem dX3_setPlaces_4 : decode cX3_setPlaces 4 = .ok (.iload_n 2, 1) := by decide +kernel
theorem dX3_setPlaces_5 : decode cX3_setPlaces 5 = .ok (.aload_n 0, 1) := by decide +kernel
theorem dX3_setPlaces_6 : decode cX3_setPlaces 6 = .ok (.getfield 14, 3) := by decide +kernel
theorem dX3_setPlaces_9 : decode cX3_setPlaces 9 = .ok (.invokevirtual 47, 3) := by decide +kernel
theorem dX3_setPlaces_12 : decode cX3_setPlaces 12 = .ok (.if_icmp .ge 59, 3) := by decide +kernel
theorem dX3_setPlaces_15 : decode cX3_setPlaces 15 = .ok (.iload_n 2, 1) := by decide +kernel
theorem dX3_setPlaces_16 : decode cX3_setPlaces 16 = .ok (.aload_n 0, 1) := by decide +kernel
theorem dX3_setPlaces_17 : decode cX3_setPlaces 17 = .ok (.getfield 28, 3) := by decide +kernel
theorem dX3_setPlaces_20 : decode cX3_setPlaces 20 = .ok (.arraylength, 1) := by decide +kernel
theorem dX3_setPlaces_21 : decode cX3_setPlaces 21 = .ok (.if_icmp .ge 50, 3) := by decide +kernel
theorem dX3_setPlaces_24 : decode cX3_setPlaces 24 = .ok (.aload_n 0, 1) := by decide +kernel
theorem dX3_setPlaces_25 : decode cX3_setPlaces 25 = .ok (.getfield 28, 3) := by decide +kernel
theorem dX3_setPlaces_28 : decode cX3_setPlaces 28 = .ok (.iload_n 2, 1) := by decide +kernel
theorem dX3_setPlaces_29 : decode cX3_setPlaces 29 = .ok (.iload_n 1, 1) := by decide +kernel
theorem dX3_setPlaces_30 : decode cX3_setPlaces 30 = .ok (.iastore, 1) := by decide +kernel
theorem dX3_setPlaces_31 : decode cX3_setPlaces 31 = .ok (.iinc 1 1, 3) := by decide +kernel
theorem dX3_setPlaces_34 : decode cX3_setPlaces 34 = .ok (.aload_n 0, 1) := by decide +kernel
theorem dX3_setPlaces_35 : decode cX3_setPlaces 35 = .ok (.getfield 24, 3) := by decide +kernel
theorem dX3_setPlaces_38 : decode cX3_setPlaces 38 = .ok (.iload_n 2, 1) := by decide +kernel
theorem dX3_setPlaces_39 : decode cX3_setPlaces 39 = .ok (.invokevirtual 86, 3) := by decide +kernel
theorem dX3_setPlaces_42 : decode cX3_setPlaces 42 = .ok (.ifCond .eq 6, 3) := by decide +kernel
theorem dX3_setPlaces_45 : decode cX3_setPlaces 45 = .ok (.iinc 1 1, 3) := by decide +kernel
theorem dX3_setPlaces_48 : decode cX3_setPlaces 48 = .ok (.aload_n 0, 1) := by decide +kernel
theorem dX3_setPlaces_49 : decode cX3_setPlaces 49 = .ok (.getfield 14, 3) := by decide +kernel
theorem dX3_setPlaces_52 : decode cX3_setPlaces 52 = .ok (.iload_n 2, 1) := by decide +kernel
theorem dX3_setPlaces_53 : decode cX3_setPlaces 53 = .ok (.iconst 0, 1) := by decide +kernel
theorem dX3_setPlaces_54 : decode cX3_setPlaces 54 = .ok (.invokevirtual 58, 3) := by decide +kernel
theorem dX3_setPlaces_57 : decode cX3_setPlaces 57 = .ok (.bipush 8, 2) := by decide +kernel
theorem dX3_setPlaces_59 : decode cX3_setPlaces 59 = .ok (.if_icmp .ne 6, 3) := by decide +kernel
theorem dX3_setPlaces_62 : decode cX3_setPlaces 62 = .ok (.iinc 1 1, 3) := by decide +kernel
theorem dX3_setPlaces_65 : decode cX3_setPlaces 65 = .ok (.iinc 2 1, 3) := by decide +kernel
theorem dX3_setPlaces_68 : decode cX3_setPlaces 68 = .ok (.goto (-64), 3) := by decide +kernel
theorem dX3_setPlaces_71 : decode cX3_setPlaces 71 = .ok (.return_, 1) := by decide +kernel
set_option maxRecDepth 20000 in
theorem ggX3_placeOf_X3_isAddress : GoodIn wsX3_placeOf wsX3_isAddress := goodIn_r _ [5] (by decide +kernel) (by decide +kernel)
set_option maxRecDepth 20000 in
theorem gX3_placeOf_X3_isAddress : GoodIn wsX3_placeOf (va_wsS RX3 128 yX3_isAddress wsX3_isAddress) := goodIn_app (goodIn_of _ (by decide +kernel)) ggX3_placeOf_X3_isAddress
theorem dX3_placeOf_0 : decode cX3_placeOf 0 = .ok (.iload_n 1, 1) := by decide +kernel
theorem dX3_placeOf_1 : decode cX3_placeOf 1 = .ok (.invokestatic 128, 3) := by decide +kernel
theorem dX3_placeOf_4 : decode cX3_placeOf 4 = .ok (.ifCond .eq 12, 3) := by decide +kernel
theorem dX3_placeOf_7 : decode cX3_placeOf 7 = .ok (.aload_n 0, 1) := by decide +kernel
theorem dX3_placeOf_8 : decode cX3_placeOf 8 = .ok (.getfield 28, 3) := by decide +kernel
theorem dX3_placeOf_11 : decode cX3_placeOf 11 = .ok (.iload_n 1, 1) := by decide +kernel
theorem dX3_placeOf_12 : decode cX3_placeOf 12 = .ok (.iaload, 1) := by decide +kernel
theorem dX3_placeOf_13 : decode cX3_placeOf 13 = .ok (.goto 4, 3) := by decide +kernel
theorem dX3_placeOf_16 : decode cX3_placeOf 16 = .ok (.iconst (-1), 1) := by decide +kernel
theorem dX3_placeOf_17 : decode cX3_placeOf 17 = .ok (.ireturn, 1) := by decide +kernel
set_option maxRecDepth 20000 in
theorem ggX3_appendGuarded_X2_get : GoodIn wsX3_appendGuarded wsX2_get := goodIn_r _ [8, 9, 10, 11, 12, 7, 13, 14, 52, 53, 54] (by decide +kernel) (by decide +kernel)
set_option maxRecDepth 20000 in
theorem gX3_appendGuarded_X2_get : GoodIn wsX3_appendGuarded (wsV RX3 58 RX2 yX2_get wsX2_get) := goodIn_app (goodIn_of _ (by decide +kernel)) ggX3_appendGuarded_X2_get
set_option maxRecDepth 20000 in
theorem ggX3_appendGuarded_X0_numberOfTarget : GoodIn wsX3_appendGuarded wsX0_numberOfTarget := goodIn_r _ [19, 20, 21, 22, 23, 55, 56, 57, 58] (by decide +kernel) (by decide +kernel)
set_option maxRecDepth 20000 in
theorem gX3_appendGuarded_X0_numberOfTarget : GoodIn wsX3_appendGuarded (wsV RX3 86 RX0 yX0_numberOfTarget wsX0_numberOfTarget) := goodIn_app (goodIn_of _ (by decide +kernel)) ggX3_appendGuarded_X0_numberOfTarget
set_option maxRecDepth 20000 in
theorem ggX3_appendGuarded_X2_append : GoodIn wsX3_appendGuarded wsX2_append := goodIn_r _ [27, 9, 14, 28, 29, 30, 7, 31, 32, 52, 53, 54] (by decide +kernel) (by decide +kernel)
set_option maxRecDepth 20000 in
theorem gX3_appendGuarded_X2_append : GoodIn wsX3_appendGuarded (wsV RX3 51 RX2 yX2_append wsX2_append) := goodIn_app (goodIn_of _ (by decide +kernel)) ggX3_appendGuarded_X2_append
set_option maxRecDepth 20000 in
theorem ggX3_appendGuarded_X0_numberOfJump : GoodIn wsX3_appendGuarded wsX0_numberOfJump := goodIn_r _ [36, 37, 21, 22, 23, 55, 56, 57, 58] (by decide +kernel) (by decide +kernel)
set_option maxRecDepth 20000 in
theorem gX3_appendGuarded_X0_numberOfJump : GoodIn wsX3_appendGuarded (wsV RX3 143 RX0 yX0_numberOfJump wsX0_numberOfJump) := goodIn_app (goodIn_of _ (by decide +kernel)) ggX3_appendGuarded_X0_numberOfJump
set_option maxRecDepth 20000 in
theorem ggX3_appendGuarded_X3_placeOf : GoodIn wsX3_appendGuarded wsX3_placeOf := goodIn_r _ [41, 42, 43, 21, 22, 23, 47, 48, 49, 50, 51] (by decide +kernel) (by decide +kernel)
set_option maxRecDepth 20000 in
theorem gX3_appendGuarded_X3_placeOf : GoodIn wsX3_appendGuarded (wsV RX3 82 RX3 yX3_placeOf wsX3_placeOf) := goodIn_app (goodIn_of _ (by decide +kernel)) ggX3_appendGuarded_X3_placeOf
set_option maxRecDepth 20000 in
theorem ggX3_appendGuarded_X3_holdsAddressInB : GoodIn wsX3_appendGuarded wsX3_holdsAddressInB := goodIn_r _ [46] (by decide +kernel) (by decide +kernel)
set_option maxRecDepth 20000 in
theorem gX3_appendGuarded_X3_holdsAddressInB : GoodIn wsX3_appendGuarded (va_wsS RX3 140 yX3_holdsAddressInB wsX3_holdsAddressInB) := goodIn_app (goodIn_of _ (by decide +kernel)) ggX3_appendGuarded_X3_holdsAddressInB
theorem dX3_appendGuarded_0 : decode cX3_appendGuarded 0 = .ok (.aload_n 0, 1) := by decide +kernel
theorem dX3_appendGuarded_1 : decode cX3_appendGuarded 1 = .ok (.getfield 14, 3) := by decide +kernel
theorem dX3_appendGuarded_4 : decode cX3_appendGuarded 4 = .ok (.iload_n 1, 1) := by decide +kernel
theorem dX3_appendGuarded_5 : decode cX3_appendGuarded 5 = .ok (.iconst 0, 1) := by decide +kernel
theorem dX3_appendGuarded_6 : decode cX3_appendGuarded 6 = .ok (.invokevirtual 58, 3) := by decide +kernel
theorem dX3_appendGuarded_9 : decode cX3_appendGuarded 9 = .ok (.istore_n 2, 1) := by decide +kernel
theorem dX3_appendGuarded_10 : decode cX3_appendGuarded 10 = .ok (.aload_n 0, 1) := by decide +kernel
theorem dX3_appendGuarded_11 : decode cX3_appendGuarded 11 = .ok (.getfield 14, 3) := by decide +kernel
theorem dX3_appendGuarded_14 : decode cX3_appendGuarded 14 = .ok (.iload_n 1, 1) := by decide +kernel
theorem dX3_appendGuarded_15 : decode cX3_appendGuarded 15 = .ok (.iconst 1, 1) := by decide +kernel
theorem dX3_appendGuarded_16 : decode cX3_appendGuarded 16 = .ok (.invokevirtual 58, 3) := by decide +kernel
theorem dX3_appendGuarded_19 : decode cX3_appendGuarded 19 = .ok (.istore_n 3, 1) := by decide +kernel
theorem dX3_appendGuarded_20 : decode cX3_appendGuarded 20 = .ok (.aload_n 0, 1) := by decide +kernel
theorem dX3_appendGuarded_21 : decode cX3_appendGuarded 21 = .ok (.getfield 14, 3) := by decide +kernel
theorem dX3_appendGuarded_24 : decode cX3_appendGuarded 24 = .ok (.iload_n 1, 1) := by decide +kernel
theorem dX3_appendGuarded_25 : decode cX3_appendGuarded 25 = .ok (.iconst 2, 1) := by decide +kernel
theorem dX3_appendGuarded_26 : decode cX3_appendGuarded 26 = .ok (.invokevirtual 58, 3) := by decide +kernel
theorem dX3_appendGuarded_29 : decode cX3_appendGuarded 29 = .ok (.istore 4, 2) := by decide +kernel
theorem dX3_appendGuarded_31 : decode cX3_appendGuarded 31 = .ok (.aload_n 0, 1) := by decide +kernel
theorem dX3_appendGuarded_32 : decode cX3_appendGuarded 32 = .ok (.getfield 24, 3) := by decide +kernel
theorem dX3_appendGuarded_35 : decode cX3_appendGuarded 35 = .ok (.iload_n 1, 1) := by decide +kernel
theorem dX3_appendGuarded_36 : decode cX3_appendGuarded 36 = .ok (.invokevirtual 86, 3) := by decide +kernel
theorem dX3_appendGuarded_39 : decode cX3_appendGuarded 39 = .ok (.istore 5, 2) := by decide +kernel
theorem dX3_appendGuarded_41 : decode cX3_appendGuarded 41 = .ok (.iload 5, 2) := by decide +kernel
theorem dX3_appendGuarded_43 : decode cX3_appendGuarded 43 = .ok (.ifCond .eq 15, 3) := by decide +kernel
theorem dX3_appendGuarded_46 : decode cX3_appendGuarded 46 = .ok (.aload_n 0, 1) := by decide +kernel
theorem dX3_appendGuarded_47 : decode cX3_appendGuarded 47 = .ok (.getfield 18, 3) := by decide +kernel
theorem dX3_appendGuarded_50 : decode cX3_appendGuarded 50 = .ok (.bipush 10, 2) := by decide +kernel
theorem dX3_appendGuarded_52 : decode cX3_appendGuarded 52 = .ok (.iload 5, 2) := by decide +kernel
theorem dX3_appendGuarded_54 : decode cX3_appendGuarded 54 = .ok (.iconst 0, 1) := by decide +kernel
theorem dX3_appendGuarded_55 : decode cX3_appendGuarded 55 = .ok (.invokevirtual 51, 3) := by decide +kernel
theorem dX3_appendGuarded_58 : decode cX3_appendGuarded 58 = .ok (.iload_n 2, 1) := by decide +kernel
theorem dX3_appendGuarded_59 : decode cX3_appendGuarded 59 = .ok (.bipush 8, 2) := by decide +kernel
theorem dX3_appendGuarded_61 : decode cX3_appendGuarded 61 = .ok (.if_icmp .ne 21, 3) := by decide +kernel
theorem dX3_appendGuarded_64 : decode cX3_appendGuarded 64 = .ok (.aload_n 0, 1) := by decide +kernel
theorem dX3_appendGuarded_65 : decode cX3_appendGuarded 65 = .ok (.getfield 18, 3) := by decide +kernel
theorem dX3_appendGuarded_68 : decode cX3_appendGuarded 68 = .ok (.bipush 11, 2) := by decide +kernel
theorem dX3_appendGuarded_70 : decode cX3_appendGuarded 70 = .ok (.iload_n 3, 1) := by decide +kernel
theorem dX3_appendGuarded_71 : decode cX3_appendGuarded 71 = .ok (.aload_n 0, 1) := by decide +kernel
theorem dX3_appendGuarded_72 : decode cX3_appendGuarded 72 = .ok (.getfield 24, 3) := by decide +kernel
theorem dX3_appendGuarded_75 : decode cX3_appendGuarded 75 = .ok (.iload_n 1, 1) := by decide +kernel
theorem dX3_appendGuarded_76 : decode cX3_appendGuarded 76 = .ok (.invokevirtual 143, 3) := by decide +kernel
theorem dX3_appendGuarded_79 : decode cX3_appendGuarded 79 = .ok (.invokevirtual 51, 3) := by decide +kernel
theorem dX3_appendGuarded_82 : decode cX3_appendGuarded 82 = .ok (.aload_n 0, 1) := by decide +kernel
theorem dX3_appendGuarded_83 : decode cX3_appendGuarded 83 = .ok (.getfield 18, 3) := by decide +kernel
theorem dX3_appendGuarded_86 : decode cX3_appendGuarded 86 = .ok (.iload_n 2, 1) := by decide +kernel
theorem dX3_appendGuarded_87 : decode cX3_appendGuarded 87 = .ok (.iload_n 2, 1) := by decide +kernel
theorem dX3_appendGuarded_88 : decode cX3_appendGuarded 88 = .ok (.bipush 6, 2) := by decide +kernel
theorem dX3_appendGuarded_90 : decode cX3_appendGuarded 90 = .ok (.if_icmp .ne 11, 3) := by decide +kernel
theorem dX3_appendGuarded_93 : decode cX3_appendGuarded 93 = .ok (.aload_n 0, 1) := by decide +kernel
theorem dX3_appendGuarded_94 : decode cX3_appendGuarded 94 = .ok (.iload_n 3, 1) := by decide +kernel
theorem dX3_appendGuarded_95 : decode cX3_appendGuarded 95 = .ok (.invokevirtual 82, 3) := by decide +kernel
theorem dX3_appendGuarded_98 : decode cX3_appendGuarded 98 = .ok (.goto 4, 3) := by decide +kernel
theorem dX3_appendGuarded_101 : decode cX3_appendGuarded 101 = .ok (.iload_n 3, 1) := by decide +kernel
theorem dX3_appendGuarded_102 : decode cX3_appendGuarded 102 = .ok (.iload_n 2, 1) := by decide +kernel
theorem dX3_appendGuarded_103 : decode cX3_appendGuarded 103 = .ok (.invokestatic 140, 3) := by decide +kernel
theorem dX3_appendGuarded_106 : decode cX3_appendGuarded 106 = .ok (.ifCond .eq 12, 3) := by decide +kernel
theorem dX3_appendGuarded_109 : decode cX3_appendGuarded 109 = .ok (.aload_n 0, 1) := by decide +kernel
theorem dX3_appendGuarded_110 : decode cX3_appendGuarded 110 = .ok (.iload 4, 2) := by decide +kernel
theorem dX3_appendGuarded_112 : decode cX3_appendGuarded 112 = .ok (.invokevirtual 82, 3) := by decide +kernel
theorem dX3_appendGuarded_115 : decode cX3_appendGuarded 115 = .ok (.goto 5, 3) := by decide +kernel
theorem dX3_appendGuarded_118 : decode cX3_appendGuarded 118 = .ok (.iload 4, 2) := by decide +kernel
theorem dX3_appendGuarded_120 : decode cX3_appendGuarded 120 = .ok (.invokevirtual 51, 3) := by decide +kernel
theorem dX3_appendGuarded_123 : decode cX3_appendGuarded 123 = .ok (.return_, 1) := by decide +kernel
