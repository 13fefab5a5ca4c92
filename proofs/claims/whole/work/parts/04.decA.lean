theorem dX0_init_0 : decode cX0_init 0 = .ok (.aload_n 0, 1) := by decide +kernel
theorem dX0_init_1 : decode cX0_init 1 = .ok (.invokespecial 3, 3) := by decide +kernel
theorem dX0_init_4 : decode cX0_init 4 = .ok (.aload_n 0, 1) := by decide +kernel
theorem dX0_init_5 : decode cX0_init 5 = .ok (.bipush 6, 2) := by decide +kernel
theorem dX0_init_7 : decode cX0_init 7 = .ok (.newarray .int, 2) := by decide +kernel
theorem dX0_init_9 : decode cX0_init 9 = .ok (.putfield 9, 3) := by decide +kernel
theorem dX0_init_12 : decode cX0_init 12 = .ok (.aload_n 0, 1) := by decide +kernel
theorem dX0_init_13 : decode cX0_init 13 = .ok (.bipush 6, 2) := by decide +kernel
theorem dX0_init_15 : decode cX0_init 15 = .ok (.newarray .int, 2) := by decide +kernel
theorem dX0_init_17 : decode cX0_init 17 = .ok (.putfield 15, 3) := by decide +kernel
theorem dX0_init_20 : decode cX0_init 20 = .ok (.return_, 1) := by decide +kernel
theorem dX0_isFull_0 : decode cX0_isFull 0 = .ok (.aload_n 0, 1) := by decide +kernel
theorem dX0_isFull_1 : decode cX0_isFull 1 = .ok (.getfield 18, 3) := by decide +kernel
theorem dX0_isFull_4 : decode cX0_isFull 4 = .ok (.bipush 6, 2) := by decide +kernel
theorem dX0_isFull_6 : decode cX0_isFull 6 = .ok (.if_icmp .lt 7, 3) := by decide +kernel
theorem dX0_isFull_9 : decode cX0_isFull 9 = .ok (.iconst 1, 1) := by decide +kernel
theorem dX0_isFull_10 : decode cX0_isFull 10 = .ok (.goto 4, 3) := by decide +kernel
theorem dX0_isFull_13 : decode cX0_isFull 13 = .ok (.iconst 0, 1) := by decide +kernel
theorem dX0_isFull_14 : decode cX0_isFull 14 = .ok (.ireturn, 1) := by decide +kernel
theorem dX0_add_0 : decode cX0_add 0 = .ok (.aload_n 0, 1) := by decide +kernel
theorem dX0_add_1 : decode cX0_add 1 = .ok (.invokevirtual 22, 3) := by decide +kernel
theorem dX0_add_4 : decode cX0_add 4 = .ok (.ifCond .ne 33, 3) := by decide +kernel
theorem dX0_add_7 : decode cX0_add 7 = .ok (.aload_n 0, 1) := by decide +kernel
theorem dX0_add_8 : decode cX0_add 8 = .ok (.getfield 9, 3) := by decide +kernel
theorem dX0_add_11 : decode cX0_add 11 = .ok (.aload_n 0, 1) := by decide +kernel
theorem dX0_add_12 : decode cX0_add 12 = .ok (.getfield 18, 3) := by decide +kernel
theorem dX0_add_15 : decode cX0_add 15 = .ok (.iload_n 1, 1) := by decide +kernel
theorem dX0_add_16 : decode cX0_add 16 = .ok (.iastore, 1) := by decide +kernel
theorem dX0_add_17 : decode cX0_add 17 = .ok (.aload_n 0, 1) := by decide +kernel
theorem dX0_add_18 : decode cX0_add 18 = .ok (.getfield 15, 3) := by decide +kernel
theorem dX0_add_21 : decode cX0_add 21 = .ok (.aload_n 0, 1) := by decide +kernel
theorem dX0_add_22 : decode cX0_add 22 = .ok (.getfield 18, 3) := by decide +kernel
theorem dX0_add_25 : decode cX0_add 25 = .ok (.iload_n 2, 1) := by decide +kernel
theorem dX0_add_26 : decode cX0_add 26 = .ok (.iastore, 1) := by decide +kernel
theorem dX0_add_27 : decode cX0_add 27 = .ok (.aload_n 0, 1) := by decide +kernel
theorem dX0_add_28 : decode cX0_add 28 = .ok (.dup, 1) := by decide +kernel
theorem dX0_add_29 : decode cX0_add 29 = .ok (.getfield 18, 3) := by decide +kernel
theorem dX0_add_32 : decode cX0_add 32 = .ok (.iconst 1, 1) := by decide +kernel
theorem dX0_add_33 : decode cX0_add 33 = .ok (.iadd, 1) := by decide +kernel
theorem dX0_add_34 : decode cX0_add 34 = .ok (.putfield 18, 3) := by decide +kernel
theorem dX0_add_37 : decode cX0_add 37 = .ok (.aload_n 0, 1) := by decide +kernel
theorem dX0_add_38 : decode cX0_add 38 = .ok (.getfield 18, 3) := by decide +kernel
theorem dX0_add_41 : decode cX0_add 41 = .ok (.ireturn, 1) := by decide +kernel
theorem dX0_markOn_0 : decode cX0_markOn 0 = .ok (.iconst (-1), 1) := by decide +kernel
theorem dX0_markOn_1 : decode cX0_markOn 1 = .ok (.istore_n 2, 1) := by decide +kernel
theorem dX0_markOn_2 : decode cX0_markOn 2 = .ok (.iconst 0, 1) := by decide +kernel
theorem dX0_markOn_3 : decode cX0_markOn 3 = .ok (.istore_n 3, 1) := by decide +kernel
theorem dX0_markOn_4 : decode cX0_markOn 4 = .ok (.iconst 0, 1) := by decide +kernel
theorem dX0_markOn_5 : decode cX0_markOn 5 = .ok (.istore 4, 2) := by decide +kernel
theorem dX0_markOn_7 : decode cX0_markOn 7 = .ok (.iload 4, 2) := by decide +kernel
theorem dX0_markOn_9 : decode cX0_markOn 9 = .ok (.aload_n 0, 1) := by decide +kernel
theorem dX0_markOn_10 : decode cX0_markOn 10 = .ok (.getfield 18, 3) := by decide +kernel
theorem dX0_markOn_13 : decode cX0_markOn 13 = .ok (.if_icmp .ge 47, 3) := by decide +kernel
theorem dX0_markOn_16 : decode cX0_markOn 16 = .ok (.aload_n 0, 1) := by decide +kernel
theorem dX0_markOn_17 : decode cX0_markOn 17 = .ok (.getfield 9, 3) := by decide +kernel
theorem dX0_markOn_20 : decode cX0_markOn 20 = .ok (.iload 4, 2) := by decide +kernel
theorem dX0_markOn_22 : decode cX0_markOn 22 = .ok (.iaload, 1) := by decide +kernel
theorem dX0_markOn_23 : decode cX0_markOn 23 = .ok (.iload_n 1, 1) := by decide +kernel
theorem dX0_markOn_24 : decode cX0_markOn 24 = .ok (.if_icmp .gt 30, 3) := by decide +kernel
theorem dX0_markOn_27 : decode cX0_markOn 27 = .ok (.aload_n 0, 1) := by decide +kernel
theorem dX0_markOn_28 : decode cX0_markOn 28 = .ok (.getfield 9, 3) := by decide +kernel
theorem dX0_markOn_31 : decode cX0_markOn 31 = .ok (.iload 4, 2) := by decide +kernel
theorem dX0_markOn_33 : decode cX0_markOn 33 = .ok (.iaload, 1) := by decide +kernel
theorem dX0_markOn_34 : decode cX0_markOn 34 = .ok (.iload_n 3, 1) := by decide +kernel
theorem dX0_markOn_35 : decode cX0_markOn 35 = .ok (.if_icmp .lt 19, 3) := by decide +kernel
theorem dX0_markOn_38 : decode cX0_markOn 38 = .ok (.aload_n 0, 1) := by decide +kernel
theorem dX0_markOn_39 : decode cX0_markOn 39 = .ok (.getfield 9, 3) := by decide +kernel
theorem dX0_markOn_42 : decode cX0_markOn 42 = .ok (.iload 4, 2) := by decide +kernel
theorem dX0_markOn_44 : decode cX0_markOn 44 = .ok (.iaload, 1) := by decide +kernel
theorem dX0_markOn_45 : decode cX0_markOn 45 = .ok (.istore_n 3, 1) := by decide +kernel
theorem dX0_markOn_46 : decode cX0_markOn 46 = .ok (.aload_n 0, 1) := by decide +kernel
theorem dX0_markOn_47 : decode cX0_markOn 47 = .ok (.getfield 15, 3) := by decide +kernel
theorem dX0_markOn_50 : decode cX0_markOn 50 = .ok (.iload 4, 2) := by decide +kernel
theorem dX0_markOn_52 : decode cX0_markOn 52 = .ok (.iaload, 1) := by decide +kernel
theorem dX0_markOn_53 : decode cX0_markOn 53 = .ok (.istore_n 2, 1) := by decide +kernel
theorem dX0_markOn_54 : decode cX0_markOn 54 = .ok (.iinc 4 1, 3) := by decide +kernel
theorem dX0_markOn_57 : decode cX0_markOn 57 = .ok (.goto (-50), 3) := by decide +kernel
theorem dX0_markOn_60 : decode cX0_markOn 60 = .ok (.iload_n 2, 1) := by decide +kernel
theorem dX0_markOn_61 : decode cX0_markOn 61 = .ok (.ireturn, 1) := by decide +kernel
theorem dX0_changes_0 : decode cX0_changes 0 = .ok (.iconst 0, 1) := by decide +kernel
theorem dX0_changes_1 : decode cX0_changes 1 = .ok (.istore_n 3, 1) := by decide +kernel
theorem dX0_changes_2 : decode cX0_changes 2 = .ok (.iconst 0, 1) := by decide +kernel
theorem dX0_changes_3 : decode cX0_changes 3 = .ok (.istore 4, 2) := by decide +kernel
theorem dX0_changes_5 : decode cX0_changes 5 = .ok (.iload 4, 2) := by decide +kernel
theorem dX0_changes_7 : decode cX0_changes 7 = .ok (.aload_n 0, 1) := by decide +kernel
theorem dX0_changes_8 : decode cX0_changes 8 = .ok (.getfield 18, 3) := by decide +kernel
theorem dX0_changes_11 : decode cX0_changes 11 = .ok (.if_icmp .ge 71, 3) := by decide +kernel
theorem dX0_changes_14 : decode cX0_changes 14 = .ok (.aload_n 0, 1) := by decide +kernel
theorem dX0_changes_15 : decode cX0_changes 15 = .ok (.getfield 9, 3) := by decide +kernel
theorem dX0_changes_18 : decode cX0_changes 18 = .ok (.iload 4, 2) := by decide +kernel
theorem dX0_changes_20 : decode cX0_changes 20 = .ok (.iaload, 1) := by decide +kernel
theorem dX0_changes_21 : decode cX0_changes 21 = .ok (.istore 5, 2) := by decide +kernel
theorem dX0_changes_23 : decode cX0_changes 23 = .ok (.iload 5, 2) := by decide +kernel
theorem dX0_changes_25 : decode cX0_changes 25 = .ok (.iload_n 1, 1) := by decide +kernel
theorem dX0_changes_26 : decode cX0_changes 26 = .ok (.if_icmp .le 13, 3) := by decide +kernel
theorem dX0_changes_29 : decode cX0_changes 29 = .ok (.iload 5, 2) := by decide +kernel
theorem dX0_changes_31 : decode cX0_changes 31 = .ok (.iload_n 2, 1) := by decide +kernel
theorem dX0_changes_32 : decode cX0_changes 32 = .ok (.if_icmp .gt 7, 3) := by decide +kernel
theorem dX0_changes_35 : decode cX0_changes 35 = .ok (.iconst 1, 1) := by decide +kernel
theorem dX0_changes_36 : decode cX0_changes 36 = .ok (.goto 4, 3) := by decide +kernel
theorem dX0_changes_39 : decode cX0_changes 39 = .ok (.iconst 0, 1) := by decide +kernel
theorem dX0_changes_40 : decode cX0_changes 40 = .ok (.istore 6, 2) := by decide +kernel
theorem dX0_changes_42 : decode cX0_changes 42 = .ok (.iload 6, 2) := by decide +kernel
theorem dX0_changes_44 : decode cX0_changes 44 = .ok (.ifCond .eq 32, 3) := by decide +kernel
theorem dX0_changes_47 : decode cX0_changes 47 = .ok (.aload_n 0, 1) := by decide +kernel
theorem dX0_changes_48 : decode cX0_changes 48 = .ok (.iload 4, 2) := by decide +kernel
theorem dX0_changes_50 : decode cX0_changes 50 = .ok (.invokevirtual 26, 3) := by decide +kernel
theorem dX0_changes_53 : decode cX0_changes 53 = .ok (.ifCond .eq 23, 3) := by decide +kernel
theorem dX0_changes_56 : decode cX0_changes 56 = .ok (.aload_n 0, 1) := by decide +kernel
theorem dX0_changes_57 : decode cX0_changes 57 = .ok (.iload 5, 2) := by decide +kernel
theorem dX0_changes_59 : decode cX0_changes 59 = .ok (.invokevirtual 30, 3) := by decide +kernel
theorem dX0_changes_62 : decode cX0_changes 62 = .ok (.aload_n 0, 1) := by decide +kernel
theorem dX0_changes_63 : decode cX0_changes 63 = .ok (.iload 5, 2) := by decide +kernel
theorem dX0_changes_65 : decode cX0_changes 65 = .ok (.iconst 1, 1) := by decide +kernel
theorem dX0_changes_66 : decode cX0_changes 66 = .ok (.isub, 1) := by decide +kernel
theorem dX0_changes_67 : decode cX0_changes 67 = .ok (.invokevirtual 30, 3) := by decide +kernel
theorem dX0_changes_70 : decode cX0_changes 70 = .ok (.if_icmp .eq 6, 3) := by decide +kernel
theorem dX0_changes_73 : decode cX0_changes 73 = .ok (.iinc 3 1, 3) := by decide +kernel
theorem dX0_changes_76 : decode cX0_changes 76 = .ok (.iinc 4 1, 3) := by decide +kernel
theorem dX0_changes_79 : decode cX0_changes 79 = .ok (.goto (-74), 3) := by decide +kernel
theorem dX0_changes_82 : decode cX0_changes 82 = .ok (.iload_n 3, 1) := by decide +kernel
theorem dX0_changes_83 : decode cX0_changes 83 = .ok (.ireturn, 1) := by decide +kernel
theorem dX0_isLastOfItsDay_0 : decode cX0_isLastOfItsDay 0 = .ok (.iload_n 1, 1) := by decide +kernel
theorem dX0_isLastOfItsDay_1 : decode cX0_isLastOfItsDay 1 = .ok (.iconst 1, 1) := by decide +kernel
theorem dX0_isLastOfItsDay_2 : decode cX0_isLastOfItsDay 2 = .ok (.iadd, 1) := by decide +kernel
theorem dX0_isLastOfItsDay_3 : decode cX0_isLastOfItsDay 3 = .ok (.istore_n 2, 1) := by decide +kernel
theorem dX0_isLastOfItsDay_4 : decode cX0_isLastOfItsDay 4 = .ok (.iload_n 2, 1) := by decide +kernel
theorem dX0_isLastOfItsDay_5 : decode cX0_isLastOfItsDay 5 = .ok (.aload_n 0, 1) := by decide +kernel
theorem dX0_isLastOfItsDay_6 : decode cX0_isLastOfItsDay 6 = .ok (.getfield 18, 3) := by decide +kernel
theorem dX0_isLastOfItsDay_9 : decode cX0_isLastOfItsDay 9 = .ok (.if_icmp .ge 26, 3) := by decide +kernel
theorem dX0_isLastOfItsDay_12 : decode cX0_isLastOfItsDay 12 = .ok (.aload_n 0, 1) := by decide +kernel
theorem dX0_isLastOfItsDay_13 : decode cX0_isLastOfItsDay 13 = .ok (.getfield 9, 3) := by decide +kernel
theorem dX0_isLastOfItsDay_16 : decode cX0_isLastOfItsDay 16 = .ok (.iload_n 2, 1) := by decide +kernel
theorem dX0_isLastOfItsDay_17 : decode cX0_isLastOfItsDay 17 = .ok (.iaload, 1) := by decide +kernel
theorem dX0_isLastOfItsDay_18 : decode cX0_isLastOfItsDay 18 = .ok (.aload_n 0, 1) := by decide +kernel
theorem dX0_isLastOfItsDay_19 : decode cX0_isLastOfItsDay 19 = .ok (.getfield 9, 3) := by decide +kernel
theorem dX0_isLastOfItsDay_22 : decode cX0_isLastOfItsDay 22 = .ok (.iload_n 1, 1) := by decide +kernel
theorem dX0_isLastOfItsDay_23 : decode cX0_isLastOfItsDay 23 = .ok (.iaload, 1) := by decide +kernel
theorem dX0_isLastOfItsDay_24 : decode cX0_isLastOfItsDay 24 = .ok (.if_icmp .ne 5, 3) := by decide +kernel
theorem dX0_isLastOfItsDay_27 : decode cX0_isLastOfItsDay 27 = .ok (.iconst 0, 1) := by decide +kernel
theorem dX0_isLastOfItsDay_28 : decode cX0_isLastOfItsDay 28 = .ok (.ireturn, 1) := by decide +kernel
theorem dX0_isLastOfItsDay_29 : decode cX0_isLastOfItsDay 29 = .ok (.iinc 2 1, 3) := by decide +kernel
theorem dX0_isLastOfItsDay_32 : decode cX0_isLastOfItsDay 32 = .ok (.goto (-28), 3) := by decide +kernel
theorem dX0_isLastOfItsDay_35 : decode cX0_isLastOfItsDay 35 = .ok (.iconst 1, 1) := by decide +kernel
theorem dX0_isLastOfItsDay_36 : decode cX0_isLastOfItsDay 36 = .ok (.ireturn, 1) := by decide +kernel
theorem dX1_init_0 : decode cX1_init 0 = .ok (.aload_n 0, 1) := by decide +kernel
theorem dX1_init_1 : decode cX1_init 1 = .ok (.invokespecial 3, 3) := by decide +kernel
theorem dX1_init_4 : decode cX1_init 4 = .ok (.aload_n 0, 1) := by decide +kernel
theorem dX1_init_5 : decode cX1_init 5 = .ok (.sipush 200, 3) := by decide +kernel
theorem dX1_init_8 : decode cX1_init 8 = .ok (.newarray .int, 2) := by decide +kernel
theorem dX1_init_10 : decode cX1_init 10 = .ok (.putfield 9, 3) := by decide +kernel
theorem dX1_init_13 : decode cX1_init 13 = .ok (.aload_n 0, 1) := by decide +kernel
theorem dX1_init_14 : decode cX1_init 14 = .ok (.sipush 200, 3) := by decide +kernel
theorem dX1_init_17 : decode cX1_init 17 = .ok (.newarray .int, 2) := by decide +kernel
theorem dX1_init_19 : decode cX1_init 19 = .ok (.putfield 15, 3) := by decide +kernel
theorem dX1_init_22 : decode cX1_init 22 = .ok (.aload_n 0, 1) := by decide +kernel
theorem dX1_init_23 : decode cX1_init 23 = .ok (.sipush 200, 3) := by decide +kernel
theorem dX1_init_26 : decode cX1_init 26 = .ok (.newarray .int, 2) := by decide +kernel
theorem dX1_init_28 : decode cX1_init 28 = .ok (.putfield 18, 3) := by decide +kernel
theorem dX1_init_31 : decode cX1_init 31 = .ok (.aload_n 0, 1) := by decide +kernel
theorem dX1_init_32 : decode cX1_init 32 = .ok (.sipush 200, 3) := by decide +kernel
theorem dX1_init_35 : decode cX1_init 35 = .ok (.newarray .int, 2) := by decide +kernel
theorem dX1_init_37 : decode cX1_init 37 = .ok (.putfield 21, 3) := by decide +kernel
theorem dX1_init_40 : decode cX1_init 40 = .ok (.aload_n 0, 1) := by decide +kernel
theorem dX1_init_41 : decode cX1_init 41 = .ok (.sipush 200, 3) := by decide +kernel
theorem dX1_init_44 : decode cX1_init 44 = .ok (.newarray .int, 2) := by decide +kernel
theorem dX1_init_46 : decode cX1_init 46 = .ok (.putfield 24, 3) := by decide +kernel
theorem dX1_init_49 : decode cX1_init 49 = .ok (.aload_n 0, 1) := by decide +kernel
theorem dX1_init_50 : decode cX1_init 50 = .ok (.sipush 200, 3) := by decide +kernel
theorem dX1_init_53 : decode cX1_init 53 = .ok (.newarray .int, 2) := by decide +kernel
theorem dX1_init_55 : decode cX1_init 55 = .ok (.putfield 27, 3) := by decide +kernel
theorem dX1_init_58 : decode cX1_init 58 = .ok (.aload_n 0, 1) := by decide +kernel
theorem dX1_init_59 : decode cX1_init 59 = .ok (.sipush 200, 3) := by decide +kernel
theorem dX1_init_62 : decode cX1_init 62 = .ok (.newarray .int, 2) := by decide +kernel
theorem dX1_init_64 : decode cX1_init 64 = .ok (.putfield 30, 3) := by decide +kernel
theorem dX1_init_67 : decode cX1_init 67 = .ok (.aload_n 0, 1) := by decide +kernel
theorem dX1_init_68 : decode cX1_init 68 = .ok (.sipush 200, 3) := by decide +kernel
theorem dX1_init_71 : decode cX1_init 71 = .ok (.newarray .int, 2) := by decide +kernel
theorem dX1_init_73 : decode cX1_init 73 = .ok (.putfield 33, 3) := by decide +kernel
theorem dX1_init_76 : decode cX1_init 76 = .ok (.aload_n 0, 1) := by decide +kernel
theorem dX1_init_77 : decode cX1_init 77 = .ok (.sipush 200, 3) := by decide +kernel
theorem dX1_init_80 : decode cX1_init 80 = .ok (.newarray .int, 2) := by decide +kernel
theorem dX1_init_82 : decode cX1_init 82 = .ok (.putfield 36, 3) := by decide +kernel
theorem dX1_init_85 : decode cX1_init 85 = .ok (.return_, 1) := by decide +kernel
theorem dX1_size_0 : decode cX1_size 0 = .ok (.aload_n 0, 1) := by decide +kernel
theorem dX1_size_1 : decode cX1_size 1 = .ok (.getfield 39, 3) := by decide +kernel
theorem dX1_size_4 : decode cX1_size 4 = .ok (.ireturn, 1) := by decide +kernel
theorem dX1_isFull_0 : decode cX1_isFull 0 = .ok (.aload_n 0, 1) := by decide +kernel
theorem dX1_isFull_1 : decode cX1_isFull 1 = .ok (.getfield 39, 3) := by decide +kernel
theorem dX1_isFull_4 : decode cX1_isFull 4 = .ok (.sipush 200, 3) := by decide +kernel
theorem dX1_isFull_7 : decode cX1_isFull 7 = .ok (.if_icmp .lt 7, 3) := by decide +kernel
theorem dX1_isFull_10 : decode cX1_isFull 10 = .ok (.iconst 1, 1) := by decide +kernel
theorem dX1_isFull_11 : decode cX1_isFull 11 = .ok (.goto 4, 3) := by decide +kernel
theorem dX1_isFull_14 : decode cX1_isFull 14 = .ok (.iconst 0, 1) := by decide +kernel
theorem dX1_isFull_15 : decode cX1_isFull 15 = .ok (.ireturn, 1) := by decide +kernel
theorem dX1_add_0 : decode cX1_add 0 = .ok (.aload_n 0, 1) := by decide +kernel
theorem dX1_add_1 : decode cX1_add 1 = .ok (.invokevirtual 43, 3) := by decide +kernel
theorem dX1_add_4 : decode cX1_add 4 = .ok (.ifCond .eq 8, 3) := by decide +kernel
theorem dX1_add_7 : decode cX1_add 7 = .ok (.aload_n 0, 1) := by decide +kernel
theorem dX1_add_8 : decode cX1_add 8 = .ok (.getfield 39, 3) := by decide +kernel
theorem dX1_add_11 : decode cX1_add 11 = .ok (.ireturn, 1) := by decide +kernel
theorem dX1_add_12 : decode cX1_add 12 = .ok (.aload_n 0, 1) := by decide +kernel
theorem dX1_add_13 : decode cX1_add 13 = .ok (.getfield 39, 3) := by decide +kernel
theorem dX1_add_16 : decode cX1_add 16 = .ok (.istore 7, 2) := by decide +kernel
theorem dX1_add_18 : decode cX1_add 18 = .ok (.aload_n 0, 1) := by decide +kernel
theorem dX1_add_19 : decode cX1_add 19 = .ok (.getfield 9, 3) := by decide +kernel
theorem dX1_add_22 : decode cX1_add 22 = .ok (.iload 7, 2) := by decide +kernel
theorem dX1_add_24 : decode cX1_add 24 = .ok (.iload_n 1, 1) := by decide +kernel
theorem dX1_add_25 : decode cX1_add 25 = .ok (.iastore, 1) := by decide +kernel
theorem dX1_add_26 : decode cX1_add 26 = .ok (.aload_n 0, 1) := by decide +kernel
theorem dX1_add_27 : decode cX1_add 27 = .ok (.getfield 15, 3) := by decide +kernel
theorem dX1_add_30 : decode cX1_add 30 = .ok (.iload 7, 2) := by decide +kernel
theorem dX1_add_32 : decode cX1_add 32 = .ok (.iload_n 2, 1) := by decide +kernel
theorem dX1_add_33 : decode cX1_add 33 = .ok (.iastore, 1) := by decide +kernel
theorem dX1_add_34 : decode cX1_add 34 = .ok (.aload_n 0, 1) := by decide +kernel
theorem dX1_add_35 : decode cX1_add 35 = .ok (.getfield 18, 3) := by decide +kernel
theorem dX1_add_38 : decode cX1_add 38 = .ok (.iload 7, 2) := by decide +kernel
theorem dX1_add_40 : decode cX1_add 40 = .ok (.iload_n 3, 1) := by decide +kernel
theorem dX1_add_41 : decode cX1_add 41 = .ok (.iastore, 1) := by decide +kernel
theorem dX1_add_42 : decode cX1_add 42 = .ok (.aload_n 0, 1) := by decide +kernel
theorem dX1_add_43 : decode cX1_add 43 = .ok (.getfield 21, 3) := by decide +kernel
theorem dX1_add_46 : decode cX1_add 46 = .ok (.iload 7, 2) := by decide +kernel
theorem dX1_add_48 : decode cX1_add 48 = .ok (.iload 4, 2) := by decide +kernel
theorem dX1_add_50 : decode cX1_add 50 = .ok (.iastore, 1) := by decide +kernel
theorem dX1_add_51 : decode cX1_add 51 = .ok (.aload_n 0, 1) := by decide +kernel
theorem dX1_add_52 : decode cX1_add 52 = .ok (.getfield 24, 3) := by decide +kernel
theorem dX1_add_55 : decode cX1_add 55 = .ok (.iload 7, 2) := by decide +kernel
theorem dX1_add_57 : decode cX1_add 57 = .ok (.iload 5, 2) := by decide +kernel
theorem dX1_add_59 : decode cX1_add 59 = .ok (.iastore, 1) := by decide +kernel
theorem dX1_add_60 : decode cX1_add 60 = .ok (.aload_n 0, 1) := by decide +kernel
theorem dX1_add_61 : decode cX1_add 61 = .ok (.getfield 27, 3) := by decide +kernel
theorem dX1_add_64 : decode cX1_add 64 = .ok (.iload 7, 2) := by decide +kernel
theorem dX1_add_66 : decode cX1_add 66 = .ok (.iload 6, 2) := by decide +kernel
theorem dX1_add_68 : decode cX1_add 68 = .ok (.iastore, 1) := by decide +kernel
theorem dX1_add_69 : decode cX1_add 69 = .ok (.aload_n 0, 1) := by decide +kernel
theorem dX1_add_70 : decode cX1_add 70 = .ok (.getfield 30, 3) := by decide +kernel
theorem dX1_add_73 : decode cX1_add 73 = .ok (.iload 7, 2) := by decide +kernel
theorem dX1_add_75 : decode cX1_add 75 = .ok (.iconst (-1), 1) := by decide +kernel
theorem dX1_add_76 : decode cX1_add 76 = .ok (.iastore, 1) := by decide +kernel
theorem dX1_add_77 : decode cX1_add 77 = .ok (.aload_n 0, 1) := by decide +kernel
theorem dX1_add_78 : decode cX1_add 78 = .ok (.getfield 33, 3) := by decide +kernel
theorem dX1_add_81 : decode cX1_add 81 = .ok (.iload 7, 2) := by decide +kernel
theorem dX1_add_83 : decode cX1_add 83 = .ok (.iconst (-1), 1) := by decide +kernel
theorem dX1_add_84 : decode cX1_add 84 = .ok (.iastore, 1) := by decide +kernel
theorem dX1_add_85 : decode cX1_add 85 = .ok (.aload_n 0, 1) := by decide +kernel
theorem dX1_add_86 : decode cX1_add 86 = .ok (.dup, 1) := by decide +kernel
theorem dX1_add_87 : decode cX1_add 87 = .ok (.getfield 39, 3) := by decide +kernel
theorem dX1_add_90 : decode cX1_add 90 = .ok (.iconst 1, 1) := by decide +kernel
theorem dX1_add_91 : decode cX1_add 91 = .ok (.iadd, 1) := by decide +kernel
theorem dX1_add_92 : decode cX1_add 92 = .ok (.putfield 39, 3) := by decide +kernel
theorem dX1_add_95 : decode cX1_add 95 = .ok (.iload 7, 2) := by decide +kernel
theorem dX1_add_97 : decode cX1_add 97 = .ok (.ireturn, 1) := by decide +kernel
theorem dX1_setSeconds_0 : decode cX1_setSeconds 0 = .ok (.iload_n 1, 1) := by decide +kernel
theorem dX1_setSeconds_1 : decode cX1_setSeconds 1 = .ok (.ifCond .lt 25, 3) := by decide +kernel
theorem dX1_setSeconds_4 : decode cX1_setSeconds 4 = .ok (.iload_n 1, 1) := by decide +kernel
theorem dX1_setSeconds_5 : decode cX1_setSeconds 5 = .ok (.aload_n 0, 1) := by decide +kernel
theorem dX1_setSeconds_6 : decode cX1_setSeconds 6 = .ok (.getfield 39, 3) := by decide +kernel
theorem dX1_setSeconds_9 : decode cX1_setSeconds 9 = .ok (.if_icmp .ge 17, 3) := by decide +kernel
theorem dX1_setSeconds_12 : decode cX1_setSeconds 12 = .ok (.aload_n 0, 1) := by decide +kernel
theorem dX1_setSeconds_13 : decode cX1_setSeconds 13 = .ok (.getfield 30, 3) := by decide +kernel
theorem dX1_setSeconds_16 : decode cX1_setSeconds 16 = .ok (.iload_n 1, 1) := by decide +kernel
theorem dX1_setSeconds_17 : decode cX1_setSeconds 17 = .ok (.iload_n 2, 1) := by decide +kernel
theorem dX1_setSeconds_18 : decode cX1_setSeconds 18 = .ok (.iastore, 1) := by decide +kernel
theorem dX1_setSeconds_19 : decode cX1_setSeconds 19 = .ok (.aload_n 0, 1) := by decide +kernel
theorem dX1_setSeconds_20 : decode cX1_setSeconds 20 = .ok (.getfield 33, 3) := by decide +kernel
theorem dX1_setSeconds_23 : decode cX1_setSeconds 23 = .ok (.iload_n 1, 1) := by decide +kernel
theorem dX1_setSeconds_24 : decode cX1_setSeconds 24 = .ok (.iload_n 3, 1) := by decide +kernel
theorem dX1_setSeconds_25 : decode cX1_setSeconds 25 = .ok (.iastore, 1) := by decide +kernel
theorem dX1_setSeconds_26 : decode cX1_setSeconds 26 = .ok (.return_, 1) := by decide +kernel
theorem dX1_number_0 : decode cX1_number 0 = .ok (.iconst 0, 1) := by decide +kernel
theorem dX1_number_1 : decode cX1_number 1 = .ok (.istore 5, 2) := by decide +kernel
theorem dX1_number_3 : decode cX1_number 3 = .ok (.iconst 0, 1) := by decide +kernel
theorem dX1_number_4 : decode cX1_number 4 = .ok (.istore 6, 2) := by decide +kernel
theorem dX1_number_6 : decode cX1_number 6 = .ok (.iload 6, 2) := by decide +kernel
theorem dX1_number_8 : decode cX1_number 8 = .ok (.aload_n 0, 1) := by decide +kernel
theorem dX1_number_9 : decode cX1_number 9 = .ok (.getfield 39, 3) := by decide +kernel
theorem dX1_number_12 : decode cX1_number 12 = .ok (.if_icmp .ge 26, 3) := by decide +kernel
theorem dX1_number_15 : decode cX1_number 15 = .ok (.aload_n 0, 1) := by decide +kernel
theorem dX1_number_16 : decode cX1_number 16 = .ok (.iload 6, 2) := by decide +kernel
theorem dX1_number_18 : decode cX1_number 18 = .ok (.iload_n 1, 1) := by decide +kernel
theorem dX1_number_19 : decode cX1_number 19 = .ok (.iload_n 2, 1) := by decide +kernel
theorem dX1_number_20 : decode cX1_number 20 = .ok (.iload_n 3, 1) := by decide +kernel
theorem dX1_number_21 : decode cX1_number 21 = .ok (.iload 4, 2) := by decide +kernel
theorem dX1_number_23 : decode cX1_number 23 = .ok (.invokevirtual 47, 3) := by decide +kernel
theorem dX1_number_26 : decode cX1_number 26 = .ok (.ifCond .eq 6, 3) := by decide +kernel
theorem dX1_number_29 : decode cX1_number 29 = .ok (.iinc 5 1, 3) := by decide +kernel
theorem dX1_number_32 : decode cX1_number 32 = .ok (.iinc 6 1, 3) := by decide +kernel
theorem dX1_number_35 : decode cX1_number 35 = .ok (.goto (-29), 3) := by decide +kernel
theorem dX1_number_38 : decode cX1_number 38 = .ok (.iload 5, 2) := by decide +kernel
theorem dX1_number_40 : decode cX1_number 40 = .ok (.ireturn, 1) := by decide +kernel
theorem dX1_total_0 : decode cX1_total 0 = .ok (.iconst 0, 1) := by decide +kernel
theorem dX1_total_1 : decode cX1_total 1 = .ok (.istore 7, 2) := by decide +kernel
theorem dX1_total_3 : decode cX1_total 3 = .ok (.iconst 0, 1) := by decide +kernel
theorem dX1_total_4 : decode cX1_total 4 = .ok (.istore 8, 2) := by decide +kernel
theorem dX1_total_6 : decode cX1_total 6 = .ok (.iload 8, 2) := by decide +kernel
theorem dX1_total_8 : decode cX1_total 8 = .ok (.aload_n 0, 1) := by decide +kernel
theorem dX1_total_9 : decode cX1_total 9 = .ok (.getfield 39, 3) := by decide +kernel
theorem dX1_total_12 : decode cX1_total 12 = .ok (.if_icmp .ge 48, 3) := by decide +kernel
theorem dX1_total_15 : decode cX1_total 15 = .ok (.aload_n 0, 1) := by decide +kernel
theorem dX1_total_16 : decode cX1_total 16 = .ok (.iload 8, 2) := by decide +kernel
theorem dX1_total_18 : decode cX1_total 18 = .ok (.iload_n 3, 1) := by decide +kernel
theorem dX1_total_19 : decode cX1_total 19 = .ok (.iload 4, 2) := by decide +kernel
theorem dX1_total_21 : decode cX1_total 21 = .ok (.iload 5, 2) := by decide +kernel
theorem dX1_total_23 : decode cX1_total 23 = .ok (.iload 6, 2) := by decide +kernel
theorem dX1_total_25 : decode cX1_total 25 = .ok (.invokevirtual 47, 3) := by decide +kernel
theorem dX1_total_28 : decode cX1_total 28 = .ok (.ifCond .eq 26, 3) := by decide +kernel
theorem dX1_total_31 : decode cX1_total 31 = .ok (.iload 7, 2) := by decide +kernel
theorem dX1_total_33 : decode cX1_total 33 = .ok (.aload_n 0, 1) := by decide +kernel
theorem dX1_total_34 : decode cX1_total 34 = .ok (.iload 8, 2) := by decide +kernel
theorem dX1_total_36 : decode cX1_total 36 = .ok (.iload_n 1, 1) := by decide +kernel
theorem dX1_total_37 : decode cX1_total 37 = .ok (.aload_n 2, 1) := by decide +kernel
theorem dX1_total_38 : decode cX1_total 38 = .ok (.aload_n 0, 1) := by decide +kernel
theorem dX1_total_39 : decode cX1_total 39 = .ok (.getfield 9, 3) := by decide +kernel
theorem dX1_total_42 : decode cX1_total 42 = .ok (.iload 8, 2) := by decide +kernel
theorem dX1_total_44 : decode cX1_total 44 = .ok (.iaload, 1) := by decide +kernel
theorem dX1_total_45 : decode cX1_total 45 = .ok (.invokevirtual 51, 3) := by decide +kernel
theorem dX1_total_48 : decode cX1_total 48 = .ok (.invokevirtual 57, 3) := by decide +kernel
theorem dX1_total_51 : decode cX1_total 51 = .ok (.iadd, 1) := by decide +kernel
theorem dX1_total_52 : decode cX1_total 52 = .ok (.istore 7, 2) := by decide +kernel
theorem dX1_total_54 : decode cX1_total 54 = .ok (.iinc 8 1, 3) := by decide +kernel
theorem dX1_total_57 : decode cX1_total 57 = .ok (.goto (-51), 3) := by decide +kernel
theorem dX1_total_60 : decode cX1_total 60 = .ok (.iload 7, 2) := by decide +kernel
theorem dX1_total_62 : decode cX1_total 62 = .ok (.ireturn, 1) := by decide +kernel
theorem dX1_inHour_0 : decode cX1_inHour 0 = .ok (.iconst 0, 1) := by decide +kernel
theorem dX1_inHour_1 : decode cX1_inHour 1 = .ok (.istore 6, 2) := by decide +kernel
theorem dX1_inHour_3 : decode cX1_inHour 3 = .ok (.iconst 0, 1) := by decide +kernel
theorem dX1_inHour_4 : decode cX1_inHour 4 = .ok (.istore 7, 2) := by decide +kernel
theorem dX1_inHour_6 : decode cX1_inHour 6 = .ok (.iload 7, 2) := by decide +kernel
theorem dX1_inHour_8 : decode cX1_inHour 8 = .ok (.aload_n 0, 1) := by decide +kernel
theorem dX1_inHour_9 : decode cX1_inHour 9 = .ok (.getfield 39, 3) := by decide +kernel
theorem dX1_inHour_12 : decode cX1_inHour 12 = .ok (.if_icmp .ge 38, 3) := by decide +kernel
theorem dX1_inHour_15 : decode cX1_inHour 15 = .ok (.aload_n 0, 1) := by decide +kernel
theorem dX1_inHour_16 : decode cX1_inHour 16 = .ok (.iload 7, 2) := by decide +kernel
theorem dX1_inHour_18 : decode cX1_inHour 18 = .ok (.iload_n 2, 1) := by decide +kernel
theorem dX1_inHour_19 : decode cX1_inHour 19 = .ok (.iload_n 3, 1) := by decide +kernel
theorem dX1_inHour_20 : decode cX1_inHour 20 = .ok (.iload 4, 2) := by decide +kernel
theorem dX1_inHour_22 : decode cX1_inHour 22 = .ok (.iload 5, 2) := by decide +kernel
theorem dX1_inHour_24 : decode cX1_inHour 24 = .ok (.invokevirtual 47, 3) := by decide +kernel
theorem dX1_inHour_27 : decode cX1_inHour 27 = .ok (.ifCond .eq 17, 3) := by decide +kernel
theorem dX1_inHour_30 : decode cX1_inHour 30 = .ok (.aload_n 0, 1) := by decide +kernel
theorem dX1_inHour_31 : decode cX1_inHour 31 = .ok (.getfield 15, 3) := by decide +kernel
theorem dX1_inHour_34 : decode cX1_inHour 34 = .ok (.iload 7, 2) := by decide +kernel
theorem dX1_inHour_36 : decode cX1_inHour 36 = .ok (.iaload, 1) := by decide +kernel
theorem dX1_inHour_37 : decode cX1_inHour 37 = .ok (.iload_n 1, 1) := by decide +kernel
theorem dX1_inHour_38 : decode cX1_inHour 38 = .ok (.if_icmp .ne 6, 3) := by decide +kernel
theorem dX1_inHour_41 : decode cX1_inHour 41 = .ok (.iinc 6 1, 3) := by decide +kernel
theorem dX1_inHour_44 : decode cX1_inHour 44 = .ok (.iinc 7 1, 3) := by decide +kernel
theorem dX1_inHour_47 : decode cX1_inHour 47 = .ok (.goto (-41), 3) := by decide +kernel
theorem dX1_inHour_50 : decode cX1_inHour 50 = .ok (.iload 6, 2) := by decide +kernel
theorem dX1_inHour_52 : decode cX1_inHour 52 = .ok (.ireturn, 1) := by decide +kernel
theorem dX1_sumAtPlace_0 : decode cX1_sumAtPlace 0 = .ok (.iconst 0, 1) := by decide +kernel
theorem dX1_sumAtPlace_1 : decode cX1_sumAtPlace 1 = .ok (.istore 6, 2) := by decide +kernel
theorem dX1_sumAtPlace_3 : decode cX1_sumAtPlace 3 = .ok (.iconst 0, 1) := by decide +kernel
theorem dX1_sumAtPlace_4 : decode cX1_sumAtPlace 4 = .ok (.istore 7, 2) := by decide +kernel
theorem dX1_sumAtPlace_6 : decode cX1_sumAtPlace 6 = .ok (.iload 7, 2) := by decide +kernel
theorem dX1_sumAtPlace_8 : decode cX1_sumAtPlace 8 = .ok (.aload_n 0, 1) := by decide +kernel
theorem dX1_sumAtPlace_9 : decode cX1_sumAtPlace 9 = .ok (.getfield 39, 3) := by decide +kernel
theorem dX1_sumAtPlace_12 : decode cX1_sumAtPlace 12 = .ok (.if_icmp .ge 57, 3) := by decide +kernel
theorem dX1_sumAtPlace_15 : decode cX1_sumAtPlace 15 = .ok (.aload_n 0, 1) := by decide +kernel
theorem dX1_sumAtPlace_16 : decode cX1_sumAtPlace 16 = .ok (.iload 7, 2) := by decide +kernel
theorem dX1_sumAtPlace_18 : decode cX1_sumAtPlace 18 = .ok (.iload_n 2, 1) := by decide +kernel
theorem dX1_sumAtPlace_19 : decode cX1_sumAtPlace 19 = .ok (.iload_n 3, 1) := by decide +kernel
theorem dX1_sumAtPlace_20 : decode cX1_sumAtPlace 20 = .ok (.iload 4, 2) := by decide +kernel
theorem dX1_sumAtPlace_22 : decode cX1_sumAtPlace 22 = .ok (.iload 5, 2) := by decide +kernel
theorem dX1_sumAtPlace_24 : decode cX1_sumAtPlace 24 = .ok (.invokevirtual 47, 3) := by decide +kernel
theorem dX1_sumAtPlace_27 : decode cX1_sumAtPlace 27 = .ok (.ifCond .eq 36, 3) := by decide +kernel
theorem dX1_sumAtPlace_30 : decode cX1_sumAtPlace 30 = .ok (.aload_n 0, 1) := by decide +kernel
theorem dX1_sumAtPlace_31 : decode cX1_sumAtPlace 31 = .ok (.iload 7, 2) := by decide +kernel
theorem dX1_sumAtPlace_33 : decode cX1_sumAtPlace 33 = .ok (.invokevirtual 61, 3) := by decide +kernel
theorem dX1_sumAtPlace_36 : decode cX1_sumAtPlace 36 = .ok (.ifCond .eq 27, 3) := by decide +kernel
theorem dX1_sumAtPlace_39 : decode cX1_sumAtPlace 39 = .ok (.aload_n 0, 1) := by decide +kernel
theorem dX1_sumAtPlace_40 : decode cX1_sumAtPlace 40 = .ok (.aload_n 0, 1) := by decide +kernel
theorem dX1_sumAtPlace_41 : decode cX1_sumAtPlace 41 = .ok (.getfield 30, 3) := by decide +kernel
theorem dX1_sumAtPlace_44 : decode cX1_sumAtPlace 44 = .ok (.iload 7, 2) := by decide +kernel
theorem dX1_sumAtPlace_46 : decode cX1_sumAtPlace 46 = .ok (.iaload, 1) := by decide +kernel
theorem dX1_sumAtPlace_47 : decode cX1_sumAtPlace 47 = .ok (.aload_n 0, 1) := by decide +kernel
theorem dX1_sumAtPlace_48 : decode cX1_sumAtPlace 48 = .ok (.getfield 33, 3) := by decide +kernel
theorem dX1_sumAtPlace_51 : decode cX1_sumAtPlace 51 = .ok (.iload 7, 2) := by decide +kernel
theorem dX1_sumAtPlace_53 : decode cX1_sumAtPlace 53 = .ok (.iaload, 1) := by decide +kernel
theorem dX1_sumAtPlace_54 : decode cX1_sumAtPlace 54 = .ok (.iadd, 1) := by decide +kernel
theorem dX1_sumAtPlace_55 : decode cX1_sumAtPlace 55 = .ok (.iload 6, 2) := by decide +kernel
theorem dX1_sumAtPlace_57 : decode cX1_sumAtPlace 57 = .ok (.invokevirtual 65, 3) := by decide +kernel
theorem dX1_sumAtPlace_60 : decode cX1_sumAtPlace 60 = .ok (.iinc 6 1, 3) := by decide +kernel
theorem dX1_sumAtPlace_63 : decode cX1_sumAtPlace 63 = .ok (.iinc 7 1, 3) := by decide +kernel
theorem dX1_sumAtPlace_66 : decode cX1_sumAtPlace 66 = .ok (.goto (-60), 3) := by decide +kernel
theorem dX1_sumAtPlace_69 : decode cX1_sumAtPlace 69 = .ok (.iload_n 1, 1) := by decide +kernel
theorem dX1_sumAtPlace_70 : decode cX1_sumAtPlace 70 = .ok (.iload 6, 2) := by decide +kernel
theorem dX1_sumAtPlace_72 : decode cX1_sumAtPlace 72 = .ok (.imul, 1) := by decide +kernel
theorem dX1_sumAtPlace_73 : decode cX1_sumAtPlace 73 = .ok (.bipush 100, 2) := by decide +kernel
theorem dX1_sumAtPlace_75 : decode cX1_sumAtPlace 75 = .ok (.iadd, 1) := by decide +kernel
theorem dX1_sumAtPlace_76 : decode cX1_sumAtPlace 76 = .ok (.iconst 1, 1) := by decide +kernel
theorem dX1_sumAtPlace_77 : decode cX1_sumAtPlace 77 = .ok (.isub, 1) := by decide +kernel
theorem dX1_sumAtPlace_78 : decode cX1_sumAtPlace 78 = .ok (.bipush 100, 2) := by decide +kernel
theorem dX1_sumAtPlace_80 : decode cX1_sumAtPlace 80 = .ok (.idiv, 1) := by decide +kernel
theorem dX1_sumAtPlace_81 : decode cX1_sumAtPlace 81 = .ok (.istore 7, 2) := by decide +kernel
theorem dX1_sumAtPlace_83 : decode cX1_sumAtPlace 83 = .ok (.iload 7, 2) := by decide +kernel
theorem dX1_sumAtPlace_85 : decode cX1_sumAtPlace 85 = .ok (.iconst 1, 1) := by decide +kernel
theorem dX1_sumAtPlace_86 : decode cX1_sumAtPlace 86 = .ok (.if_icmp .lt 22, 3) := by decide +kernel
theorem dX1_sumAtPlace_89 : decode cX1_sumAtPlace 89 = .ok (.iload 7, 2) := by decide +kernel
theorem dX1_sumAtPlace_91 : decode cX1_sumAtPlace 91 = .ok (.iload 6, 2) := by decide +kernel
theorem dX1_sumAtPlace_93 : decode cX1_sumAtPlace 93 = .ok (.if_icmp .gt 15, 3) := by decide +kernel
theorem dX1_sumAtPlace_96 : decode cX1_sumAtPlace 96 = .ok (.aload_n 0, 1) := by decide +kernel
theorem dX1_sumAtPlace_97 : decode cX1_sumAtPlace 97 = .ok (.getfield 36, 3) := by decide +kernel
theorem dX1_sumAtPlace_100 : decode cX1_sumAtPlace 100 = .ok (.iload 7, 2) := by decide +kernel
theorem dX1_sumAtPlace_102 : decode cX1_sumAtPlace 102 = .ok (.iconst 1, 1) := by decide +kernel
theorem dX1_sumAtPlace_103 : decode cX1_sumAtPlace 103 = .ok (.isub, 1) := by decide +kernel
theorem dX1_sumAtPlace_104 : decode cX1_sumAtPlace 104 = .ok (.iaload, 1) := by decide +kernel
theorem dX1_sumAtPlace_105 : decode cX1_sumAtPlace 105 = .ok (.goto 4, 3) := by decide +kernel
theorem dX1_sumAtPlace_108 : decode cX1_sumAtPlace 108 = .ok (.iconst (-1), 1) := by decide +kernel
theorem dX1_sumAtPlace_109 : decode cX1_sumAtPlace 109 = .ok (.ireturn, 1) := by decide +kernel
theorem dX1_hidden_0 : decode cX1_hidden 0 = .ok (.iconst 0, 1) := by decide +kernel
theorem dX1_hidden_1 : decode cX1_hidden 1 = .ok (.istore_n 3, 1) := by decide +kernel
theorem dX1_hidden_2 : decode cX1_hidden 2 = .ok (.iconst 0, 1) := by decide +kernel
theorem dX1_hidden_3 : decode cX1_hidden 3 = .ok (.istore 4, 2) := by decide +kernel
theorem dX1_hidden_5 : decode cX1_hidden 5 = .ok (.iload 4, 2) := by decide +kernel
theorem dX1_hidden_7 : decode cX1_hidden 7 = .ok (.aload_n 0, 1) := by decide +kernel
theorem dX1_hidden_8 : decode cX1_hidden 8 = .ok (.getfield 39, 3) := by decide +kernel
theorem dX1_hidden_11 : decode cX1_hidden 11 = .ok (.if_icmp .ge 32, 3) := by decide +kernel
theorem dX1_hidden_14 : decode cX1_hidden 14 = .ok (.aload_n 0, 1) := by decide +kernel
theorem dX1_hidden_15 : decode cX1_hidden 15 = .ok (.iload 4, 2) := by decide +kernel
theorem dX1_hidden_17 : decode cX1_hidden 17 = .ok (.invokevirtual 69, 3) := by decide +kernel
theorem dX1_hidden_20 : decode cX1_hidden 20 = .ok (.ifCond .eq 17, 3) := by decide +kernel
theorem dX1_hidden_23 : decode cX1_hidden 23 = .ok (.aload_n 0, 1) := by decide +kernel
theorem dX1_hidden_24 : decode cX1_hidden 24 = .ok (.iload 4, 2) := by decide +kernel
theorem dX1_hidden_26 : decode cX1_hidden 26 = .ok (.iload_n 1, 1) := by decide +kernel
theorem dX1_hidden_27 : decode cX1_hidden 27 = .ok (.iload_n 2, 1) := by decide +kernel
theorem dX1_hidden_28 : decode cX1_hidden 28 = .ok (.invokevirtual 72, 3) := by decide +kernel
theorem dX1_hidden_31 : decode cX1_hidden 31 = .ok (.ifCond .eq 6, 3) := by decide +kernel
theorem dX1_hidden_34 : decode cX1_hidden 34 = .ok (.iinc 3 1, 3) := by decide +kernel
theorem dX1_hidden_37 : decode cX1_hidden 37 = .ok (.iinc 4 1, 3) := by decide +kernel
theorem dX1_hidden_40 : decode cX1_hidden 40 = .ok (.goto (-35), 3) := by decide +kernel
theorem dX1_hidden_43 : decode cX1_hidden 43 = .ok (.iload_n 3, 1) := by decide +kernel
theorem dX1_hidden_44 : decode cX1_hidden 44 = .ok (.ireturn, 1) := by decide +kernel
theorem dX1_ofStation_0 : decode cX1_ofStation 0 = .ok (.iconst 0, 1) := by decide +kernel
theorem dX1_ofStation_1 : decode cX1_ofStation 1 = .ok (.istore 4, 2) := by decide +kernel
theorem dX1_ofStation_3 : decode cX1_ofStation 3 = .ok (.iconst 0, 1) := by decide +kernel
theorem dX1_ofStation_4 : decode cX1_ofStation 4 = .ok (.istore 5, 2) := by decide +kernel
theorem dX1_ofStation_6 : decode cX1_ofStation 6 = .ok (.iload 5, 2) := by decide +kernel
theorem dX1_ofStation_8 : decode cX1_ofStation 8 = .ok (.aload_n 0, 1) := by decide +kernel
theorem dX1_ofStation_9 : decode cX1_ofStation 9 = .ok (.getfield 39, 3) := by decide +kernel
theorem dX1_ofStation_12 : decode cX1_ofStation 12 = .ok (.if_icmp .ge 24, 3) := by decide +kernel
theorem dX1_ofStation_15 : decode cX1_ofStation 15 = .ok (.aload_n 0, 1) := by decide +kernel
theorem dX1_ofStation_16 : decode cX1_ofStation 16 = .ok (.iload 5, 2) := by decide +kernel
theorem dX1_ofStation_18 : decode cX1_ofStation 18 = .ok (.iload_n 1, 1) := by decide +kernel
theorem dX1_ofStation_19 : decode cX1_ofStation 19 = .ok (.iload_n 2, 1) := by decide +kernel
theorem dX1_ofStation_20 : decode cX1_ofStation 20 = .ok (.iload_n 3, 1) := by decide +kernel
theorem dX1_ofStation_21 : decode cX1_ofStation 21 = .ok (.invokevirtual 76, 3) := by decide +kernel
theorem dX1_ofStation_24 : decode cX1_ofStation 24 = .ok (.ifCond .eq 6, 3) := by decide +kernel
theorem dX1_ofStation_27 : decode cX1_ofStation 27 = .ok (.iinc 4 1, 3) := by decide +kernel
theorem dX1_ofStation_30 : decode cX1_ofStation 30 = .ok (.iinc 5 1, 3) := by decide +kernel
theorem dX1_ofStation_33 : decode cX1_ofStation 33 = .ok (.goto (-27), 3) := by decide +kernel
theorem dX1_ofStation_36 : decode cX1_ofStation 36 = .ok (.iload 4, 2) := by decide +kernel
theorem dX1_ofStation_38 : decode cX1_ofStation 38 = .ok (.ireturn, 1) := by decide +kernel
theorem dX1_secondsOfStation_0 : decode cX1_secondsOfStation 0 = .ok (.iconst 0, 1) := by decide +kernel
theorem dX1_secondsOfStation_1 : decode cX1_secondsOfStation 1 = .ok (.istore 4, 2) := by decide +kernel
theorem dX1_secondsOfStation_3 : decode cX1_secondsOfStation 3 = .ok (.iconst 0, 1) := by decide +kernel
theorem dX1_secondsOfStation_4 : decode cX1_secondsOfStation 4 = .ok (.istore 5, 2) := by decide +kernel
theorem dX1_secondsOfStation_6 : decode cX1_secondsOfStation 6 = .ok (.iload 5, 2) := by decide +kernel
theorem dX1_secondsOfStation_8 : decode cX1_secondsOfStation 8 = .ok (.aload_n 0, 1) := by decide +kernel
theorem dX1_secondsOfStation_9 : decode cX1_secondsOfStation 9 = .ok (.getfield 39, 3) := by decide +kernel
theorem dX1_secondsOfStation_12 : decode cX1_secondsOfStation 12 = .ok (.if_icmp .ge 47, 3) := by decide +kernel
theorem dX1_secondsOfStation_15 : decode cX1_secondsOfStation 15 = .ok (.aload_n 0, 1) := by decide +kernel
theorem dX1_secondsOfStation_16 : decode cX1_secondsOfStation 16 = .ok (.iload 5, 2) := by decide +kernel
theorem dX1_secondsOfStation_18 : decode cX1_secondsOfStation 18 = .ok (.iload_n 1, 1) := by decide +kernel
theorem dX1_secondsOfStation_19 : decode cX1_secondsOfStation 19 = .ok (.iload_n 2, 1) := by decide +kernel
theorem dX1_secondsOfStation_20 : decode cX1_secondsOfStation 20 = .ok (.iload_n 3, 1) := by decide +kernel
theorem dX1_secondsOfStation_21 : decode cX1_secondsOfStation 21 = .ok (.invokevirtual 76, 3) := by decide +kernel
theorem dX1_secondsOfStation_24 : decode cX1_secondsOfStation 24 = .ok (.ifCond .eq 29, 3) := by decide +kernel
theorem dX1_secondsOfStation_27 : decode cX1_secondsOfStation 27 = .ok (.iload 4, 2) := by decide +kernel
theorem dX1_secondsOfStation_29 : decode cX1_secondsOfStation 29 = .ok (.aload_n 0, 1) := by decide +kernel
theorem dX1_secondsOfStation_30 : decode cX1_secondsOfStation 30 = .ok (.getfield 30, 3) := by decide +kernel
theorem dX1_secondsOfStation_33 : decode cX1_secondsOfStation 33 = .ok (.iload 5, 2) := by decide +kernel
theorem dX1_secondsOfStation_35 : decode cX1_secondsOfStation 35 = .ok (.iaload, 1) := by decide +kernel
theorem dX1_secondsOfStation_36 : decode cX1_secondsOfStation 36 = .ok (.invokestatic 80, 3) := by decide +kernel
theorem dX1_secondsOfStation_39 : decode cX1_secondsOfStation 39 = .ok (.aload_n 0, 1) := by decide +kernel
theorem dX1_secondsOfStation_40 : decode cX1_secondsOfStation 40 = .ok (.getfield 33, 3) := by decide +kernel
theorem dX1_secondsOfStation_43 : decode cX1_secondsOfStation 43 = .ok (.iload 5, 2) := by decide +kernel
theorem dX1_secondsOfStation_45 : decode cX1_secondsOfStation 45 = .ok (.iaload, 1) := by decide +kernel
theorem dX1_secondsOfStation_46 : decode cX1_secondsOfStation 46 = .ok (.invokestatic 80, 3) := by decide +kernel
theorem dX1_secondsOfStation_49 : decode cX1_secondsOfStation 49 = .ok (.iadd, 1) := by decide +kernel
theorem dX1_secondsOfStation_50 : decode cX1_secondsOfStation 50 = .ok (.iadd, 1) := by decide +kernel
theorem dX1_secondsOfStation_51 : decode cX1_secondsOfStation 51 = .ok (.istore 4, 2) := by decide +kernel
theorem dX1_secondsOfStation_53 : decode cX1_secondsOfStation 53 = .ok (.iinc 5 1, 3) := by decide +kernel
theorem dX1_secondsOfStation_56 : decode cX1_secondsOfStation 56 = .ok (.goto (-50), 3) := by decide +kernel
theorem dX1_secondsOfStation_59 : decode cX1_secondsOfStation 59 = .ok (.iload 4, 2) := by decide +kernel
theorem dX1_secondsOfStation_61 : decode cX1_secondsOfStation 61 = .ok (.ireturn, 1) := by decide +kernel
theorem dX1_amount_0 : decode cX1_amount 0 = .ok (.iload_n 2, 1) := by decide +kernel
theorem dX1_amount_1 : decode cX1_amount 1 = .ok (.tableswitch 94 0 4 #[35, 37, 54, 69, 84], 35) := by decide +kernel
theorem dX1_amount_36 : decode cX1_amount 36 = .ok (.iconst 1, 1) := by decide +kernel
theorem dX1_amount_37 : decode cX1_amount 37 = .ok (.ireturn, 1) := by decide +kernel
theorem dX1_amount_38 : decode cX1_amount 38 = .ok (.aload_n 0, 1) := by decide +kernel
theorem dX1_amount_39 : decode cX1_amount 39 = .ok (.getfield 27, 3) := by decide +kernel
theorem dX1_amount_42 : decode cX1_amount 42 = .ok (.iload_n 1, 1) := by decide +kernel
theorem dX1_amount_43 : decode cX1_amount 43 = .ok (.iaload, 1) := by decide +kernel
theorem dX1_amount_44 : decode cX1_amount 44 = .ok (.iconst 1, 1) := by decide +kernel
theorem dX1_amount_45 : decode cX1_amount 45 = .ok (.iand, 1) := by decide +kernel
theorem dX1_amount_46 : decode cX1_amount 46 = .ok (.ifCond .eq 7, 3) := by decide +kernel
theorem dX1_amount_49 : decode cX1_amount 49 = .ok (.iconst 1, 1) := by decide +kernel
theorem dX1_amount_50 : decode cX1_amount 50 = .ok (.goto 4, 3) := by decide +kernel
theorem dX1_amount_53 : decode cX1_amount 53 = .ok (.iconst 0, 1) := by decide +kernel
theorem dX1_amount_54 : decode cX1_amount 54 = .ok (.ireturn, 1) := by decide +kernel
theorem dX1_amount_55 : decode cX1_amount 55 = .ok (.aload_n 0, 1) := by decide +kernel
theorem dX1_amount_56 : decode cX1_amount 56 = .ok (.iload_n 1, 1) := by decide +kernel
theorem dX1_amount_57 : decode cX1_amount 57 = .ok (.iload_n 3, 1) := by decide +kernel
theorem dX1_amount_58 : decode cX1_amount 58 = .ok (.invokevirtual 83, 3) := by decide +kernel
theorem dX1_amount_61 : decode cX1_amount 61 = .ok (.ifCond .eq 7, 3) := by decide +kernel
theorem dX1_amount_64 : decode cX1_amount 64 = .ok (.iconst 1, 1) := by decide +kernel
theorem dX1_amount_65 : decode cX1_amount 65 = .ok (.goto 4, 3) := by decide +kernel
theorem dX1_amount_68 : decode cX1_amount 68 = .ok (.iconst 0, 1) := by decide +kernel
theorem dX1_amount_69 : decode cX1_amount 69 = .ok (.ireturn, 1) := by decide +kernel
theorem dX1_amount_70 : decode cX1_amount 70 = .ok (.aload_n 0, 1) := by decide +kernel
theorem dX1_amount_71 : decode cX1_amount 71 = .ok (.iload_n 1, 1) := by decide +kernel
theorem dX1_amount_72 : decode cX1_amount 72 = .ok (.iload_n 3, 1) := by decide +kernel
theorem dX1_amount_73 : decode cX1_amount 73 = .ok (.invokevirtual 87, 3) := by decide +kernel
theorem dX1_amount_76 : decode cX1_amount 76 = .ok (.ifCond .eq 7, 3) := by decide +kernel
theorem dX1_amount_79 : decode cX1_amount 79 = .ok (.iconst 1, 1) := by decide +kernel
theorem dX1_amount_80 : decode cX1_amount 80 = .ok (.goto 4, 3) := by decide +kernel
theorem dX1_amount_83 : decode cX1_amount 83 = .ok (.iconst 0, 1) := by decide +kernel
theorem dX1_amount_84 : decode cX1_amount 84 = .ok (.ireturn, 1) := by decide +kernel
theorem dX1_amount_85 : decode cX1_amount 85 = .ok (.aload_n 0, 1) := by decide +kernel
theorem dX1_amount_86 : decode cX1_amount 86 = .ok (.getfield 30, 3) := by decide +kernel
theorem dX1_amount_89 : decode cX1_amount 89 = .ok (.iload_n 1, 1) := by decide +kernel
theorem dX1_amount_90 : decode cX1_amount 90 = .ok (.iaload, 1) := by decide +kernel
theorem dX1_amount_91 : decode cX1_amount 91 = .ok (.invokestatic 80, 3) := by decide +kernel
theorem dX1_amount_94 : decode cX1_amount 94 = .ok (.ireturn, 1) := by decide +kernel
theorem dX1_amount_95 : decode cX1_amount 95 = .ok (.iconst 0, 1) := by decide +kernel
theorem dX1_amount_96 : decode cX1_amount 96 = .ok (.ireturn, 1) := by decide +kernel
theorem dX1_isWork_0 : decode cX1_isWork 0 = .ok (.aload_n 0, 1) := by decide +kernel
theorem dX1_isWork_1 : decode cX1_isWork 1 = .ok (.getfield 24, 3) := by decide +kernel
theorem dX1_isWork_4 : decode cX1_isWork 4 = .ok (.iload_n 1, 1) := by decide +kernel
theorem dX1_isWork_5 : decode cX1_isWork 5 = .ok (.iaload, 1) := by decide +kernel
theorem dX1_isWork_6 : decode cX1_isWork 6 = .ok (.iload_n 2, 1) := by decide +kernel
theorem dX1_isWork_7 : decode cX1_isWork 7 = .ok (.if_icmp .ne 20, 3) := by decide +kernel
theorem dX1_isWork_10 : decode cX1_isWork 10 = .ok (.aload_n 0, 1) := by decide +kernel
theorem dX1_isWork_11 : decode cX1_isWork 11 = .ok (.iload_n 1, 1) := by decide +kernel
theorem dX1_isWork_12 : decode cX1_isWork 12 = .ok (.iload_n 3, 1) := by decide +kernel
theorem dX1_isWork_13 : decode cX1_isWork 13 = .ok (.iload 4, 2) := by decide +kernel
theorem dX1_isWork_15 : decode cX1_isWork 15 = .ok (.iconst (-1), 1) := by decide +kernel
theorem dX1_isWork_16 : decode cX1_isWork 16 = .ok (.iconst (-1), 1) := by decide +kernel
theorem dX1_isWork_17 : decode cX1_isWork 17 = .ok (.invokevirtual 47, 3) := by decide +kernel
theorem dX1_isWork_20 : decode cX1_isWork 20 = .ok (.ifCond .eq 7, 3) := by decide +kernel
theorem dX1_isWork_23 : decode cX1_isWork 23 = .ok (.iconst 1, 1) := by decide +kernel
theorem dX1_isWork_24 : decode cX1_isWork 24 = .ok (.goto 4, 3) := by decide +kernel
theorem dX1_isWork_27 : decode cX1_isWork 27 = .ok (.iconst 0, 1) := by decide +kernel
theorem dX1_isWork_28 : decode cX1_isWork 28 = .ok (.ireturn, 1) := by decide +kernel
theorem dX1_isAsked_0 : decode cX1_isAsked 0 = .ok (.aload_n 0, 1) := by decide +kernel
theorem dX1_isAsked_1 : decode cX1_isAsked 1 = .ok (.iload_n 1, 1) := by decide +kernel
theorem dX1_isAsked_2 : decode cX1_isAsked 2 = .ok (.invokevirtual 69, 3) := by decide +kernel
theorem dX1_isAsked_5 : decode cX1_isAsked 5 = .ok (.ifCond .ne 51, 3) := by decide +kernel
theorem dX1_isAsked_8 : decode cX1_isAsked 8 = .ok (.aload_n 0, 1) := by decide +kernel
theorem dX1_isAsked_9 : decode cX1_isAsked 9 = .ok (.iload_n 1, 1) := by decide +kernel
theorem dX1_isAsked_10 : decode cX1_isAsked 10 = .ok (.iload_n 2, 1) := by decide +kernel
theorem dX1_isAsked_11 : decode cX1_isAsked 11 = .ok (.iload_n 3, 1) := by decide +kernel
theorem dX1_isAsked_12 : decode cX1_isAsked 12 = .ok (.invokevirtual 72, 3) := by decide +kernel
theorem dX1_isAsked_15 : decode cX1_isAsked 15 = .ok (.ifCond .eq 41, 3) := by decide +kernel
theorem dX1_isAsked_18 : decode cX1_isAsked 18 = .ok (.iload 4, 2) := by decide +kernel
theorem dX1_isAsked_20 : decode cX1_isAsked 20 = .ok (.iconst (-1), 1) := by decide +kernel
theorem dX1_isAsked_21 : decode cX1_isAsked 21 = .ok (.if_icmp .eq 14, 3) := by decide +kernel
theorem dX1_isAsked_24 : decode cX1_isAsked 24 = .ok (.aload_n 0, 1) := by decide +kernel
theorem dX1_isAsked_25 : decode cX1_isAsked 25 = .ok (.getfield 18, 3) := by decide +kernel
theorem dX1_isAsked_28 : decode cX1_isAsked 28 = .ok (.iload_n 1, 1) := by decide +kernel
theorem dX1_isAsked_29 : decode cX1_isAsked 29 = .ok (.iaload, 1) := by decide +kernel
theorem dX1_isAsked_30 : decode cX1_isAsked 30 = .ok (.iload 4, 2) := by decide +kernel
theorem dX1_isAsked_32 : decode cX1_isAsked 32 = .ok (.if_icmp .ne 24, 3) := by decide +kernel
theorem dX1_isAsked_35 : decode cX1_isAsked 35 = .ok (.iload 5, 2) := by decide +kernel
theorem dX1_isAsked_37 : decode cX1_isAsked 37 = .ok (.iconst (-1), 1) := by decide +kernel
theorem dX1_isAsked_38 : decode cX1_isAsked 38 = .ok (.if_icmp .eq 14, 3) := by decide +kernel
theorem dX1_isAsked_41 : decode cX1_isAsked 41 = .ok (.aload_n 0, 1) := by decide +kernel
theorem dX1_isAsked_42 : decode cX1_isAsked 42 = .ok (.getfield 21, 3) := by decide +kernel
theorem dX1_isAsked_45 : decode cX1_isAsked 45 = .ok (.iload_n 1, 1) := by decide +kernel
theorem dX1_isAsked_46 : decode cX1_isAsked 46 = .ok (.iaload, 1) := by decide +kernel
theorem dX1_isAsked_47 : decode cX1_isAsked 47 = .ok (.iload 5, 2) := by decide +kernel
theorem dX1_isAsked_49 : decode cX1_isAsked 49 = .ok (.if_icmp .ne 7, 3) := by decide +kernel
theorem dX1_isAsked_52 : decode cX1_isAsked 52 = .ok (.iconst 1, 1) := by decide +kernel
theorem dX1_isAsked_53 : decode cX1_isAsked 53 = .ok (.goto 4, 3) := by decide +kernel
theorem dX1_isAsked_56 : decode cX1_isAsked 56 = .ok (.iconst 0, 1) := by decide +kernel
theorem dX1_isAsked_57 : decode cX1_isAsked 57 = .ok (.ireturn, 1) := by decide +kernel
theorem dX1_isHidden_0 : decode cX1_isHidden 0 = .ok (.aload_n 0, 1) := by decide +kernel
theorem dX1_isHidden_1 : decode cX1_isHidden 1 = .ok (.getfield 27, 3) := by decide +kernel
theorem dX1_isHidden_4 : decode cX1_isHidden 4 = .ok (.iload_n 1, 1) := by decide +kernel
theorem dX1_isHidden_5 : decode cX1_isHidden 5 = .ok (.iaload, 1) := by decide +kernel
theorem dX1_isHidden_6 : decode cX1_isHidden 6 = .ok (.iconst 2, 1) := by decide +kernel
theorem dX1_isHidden_7 : decode cX1_isHidden 7 = .ok (.iand, 1) := by decide +kernel
theorem dX1_isHidden_8 : decode cX1_isHidden 8 = .ok (.ifCond .eq 7, 3) := by decide +kernel
theorem dX1_isHidden_11 : decode cX1_isHidden 11 = .ok (.iconst 1, 1) := by decide +kernel
theorem dX1_isHidden_12 : decode cX1_isHidden 12 = .ok (.goto 4, 3) := by decide +kernel
theorem dX1_isHidden_15 : decode cX1_isHidden 15 = .ok (.iconst 0, 1) := by decide +kernel
theorem dX1_isHidden_16 : decode cX1_isHidden 16 = .ok (.ireturn, 1) := by decide +kernel
theorem dX1_isInSpan_0 : decode cX1_isInSpan 0 = .ok (.aload_n 0, 1) := by decide +kernel
theorem dX1_isInSpan_1 : decode cX1_isInSpan 1 = .ok (.getfield 9, 3) := by decide +kernel
theorem dX1_isInSpan_4 : decode cX1_isInSpan 4 = .ok (.iload_n 1, 1) := by decide +kernel
theorem dX1_isInSpan_5 : decode cX1_isInSpan 5 = .ok (.iaload, 1) := by decide +kernel
theorem dX1_isInSpan_6 : decode cX1_isInSpan 6 = .ok (.iload_n 2, 1) := by decide +kernel
theorem dX1_isInSpan_7 : decode cX1_isInSpan 7 = .ok (.if_icmp .lt 17, 3) := by decide +kernel
theorem dX1_isInSpan_10 : decode cX1_isInSpan 10 = .ok (.aload_n 0, 1) := by decide +kernel
theorem dX1_isInSpan_11 : decode cX1_isInSpan 11 = .ok (.getfield 9, 3) := by decide +kernel
theorem dX1_isInSpan_14 : decode cX1_isInSpan 14 = .ok (.iload_n 1, 1) := by decide +kernel
theorem dX1_isInSpan_15 : decode cX1_isInSpan 15 = .ok (.iaload, 1) := by decide +kernel
theorem dX1_isInSpan_16 : decode cX1_isInSpan 16 = .ok (.iload_n 3, 1) := by decide +kernel
theorem dX1_isInSpan_17 : decode cX1_isInSpan 17 = .ok (.if_icmp .gt 7, 3) := by decide +kernel
theorem dX1_isInSpan_20 : decode cX1_isInSpan 20 = .ok (.iconst 1, 1) := by decide +kernel
theorem dX1_isInSpan_21 : decode cX1_isInSpan 21 = .ok (.goto 4, 3) := by decide +kernel
theorem dX1_isInSpan_24 : decode cX1_isInSpan 24 = .ok (.iconst 0, 1) := by decide +kernel
theorem dX1_isInSpan_25 : decode cX1_isInSpan 25 = .ok (.ireturn, 1) := by decide +kernel
theorem dX1_hasBothValues_0 : decode cX1_hasBothValues 0 = .ok (.aload_n 0, 1) := by decide +kernel
theorem dX1_hasBothValues_1 : decode cX1_hasBothValues 1 = .ok (.getfield 30, 3) := by decide +kernel
theorem dX1_hasBothValues_4 : decode cX1_hasBothValues 4 = .ok (.iload_n 1, 1) := by decide +kernel
theorem dX1_hasBothValues_5 : decode cX1_hasBothValues 5 = .ok (.iaload, 1) := by decide +kernel
theorem dX1_hasBothValues_6 : decode cX1_hasBothValues 6 = .ok (.iconst (-1), 1) := by decide +kernel
theorem dX1_hasBothValues_7 : decode cX1_hasBothValues 7 = .ok (.if_icmp .eq 17, 3) := by decide +kernel
theorem dX1_hasBothValues_10 : decode cX1_hasBothValues 10 = .ok (.aload_n 0, 1) := by decide +kernel
theorem dX1_hasBothValues_11 : decode cX1_hasBothValues 11 = .ok (.getfield 33, 3) := by decide +kernel
theorem dX1_hasBothValues_14 : decode cX1_hasBothValues 14 = .ok (.iload_n 1, 1) := by decide +kernel
theorem dX1_hasBothValues_15 : decode cX1_hasBothValues 15 = .ok (.iaload, 1) := by decide +kernel
theorem dX1_hasBothValues_16 : decode cX1_hasBothValues 16 = .ok (.iconst (-1), 1) := by decide +kernel
theorem dX1_hasBothValues_17 : decode cX1_hasBothValues 17 = .ok (.if_icmp .eq 7, 3) := by decide +kernel
theorem dX1_hasBothValues_20 : decode cX1_hasBothValues 20 = .ok (.iconst 1, 1) := by decide +kernel
theorem dX1_hasBothValues_21 : decode cX1_hasBothValues 21 = .ok (.goto 4, 3) := by decide +kernel
theorem dX1_hasBothValues_24 : decode cX1_hasBothValues 24 = .ok (.iconst 0, 1) := by decide +kernel
theorem dX1_hasBothValues_25 : decode cX1_hasBothValues 25 = .ok (.ireturn, 1) := by decide +kernel
theorem dX1_isWithout_0 : decode cX1_isWithout 0 = .ok (.iload_n 2, 1) := by decide +kernel
theorem dX1_isWithout_1 : decode cX1_isWithout 1 = .ok (.iconst (-1), 1) := by decide +kernel
theorem dX1_isWithout_2 : decode cX1_isWithout 2 = .ok (.if_icmp .eq 11, 3) := by decide +kernel
theorem dX1_isWithout_5 : decode cX1_isWithout 5 = .ok (.aload_n 0, 1) := by decide +kernel
theorem dX1_isWithout_6 : decode cX1_isWithout 6 = .ok (.iload_n 1, 1) := by decide +kernel
theorem dX1_isWithout_7 : decode cX1_isWithout 7 = .ok (.invokevirtual 61, 3) := by decide +kernel
theorem dX1_isWithout_10 : decode cX1_isWithout 10 = .ok (.ifCond .ne 7, 3) := by decide +kernel
theorem dX1_isWithout_13 : decode cX1_isWithout 13 = .ok (.iconst 1, 1) := by decide +kernel
theorem dX1_isWithout_14 : decode cX1_isWithout 14 = .ok (.goto 4, 3) := by decide +kernel
theorem dX1_isWithout_17 : decode cX1_isWithout 17 = .ok (.iconst 0, 1) := by decide +kernel
theorem dX1_isWithout_18 : decode cX1_isWithout 18 = .ok (.ireturn, 1) := by decide +kernel
theorem dX1_isWithin_0 : decode cX1_isWithin 0 = .ok (.aload_n 0, 1) := by decide +kernel
theorem dX1_isWithin_1 : decode cX1_isWithin 1 = .ok (.iload_n 1, 1) := by decide +kernel
theorem dX1_isWithin_2 : decode cX1_isWithin 2 = .ok (.iload_n 2, 1) := by decide +kernel
theorem dX1_isWithin_3 : decode cX1_isWithin 3 = .ok (.invokevirtual 87, 3) := by decide +kernel
theorem dX1_isWithin_6 : decode cX1_isWithin 6 = .ok (.ifCond .ne 24, 3) := by decide +kernel
theorem dX1_isWithin_9 : decode cX1_isWithin 9 = .ok (.aload_n 0, 1) := by decide +kernel
theorem dX1_isWithin_10 : decode cX1_isWithin 10 = .ok (.getfield 30, 3) := by decide +kernel
theorem dX1_isWithin_13 : decode cX1_isWithin 13 = .ok (.iload_n 1, 1) := by decide +kernel
theorem dX1_isWithin_14 : decode cX1_isWithin 14 = .ok (.iaload, 1) := by decide +kernel
theorem dX1_isWithin_15 : decode cX1_isWithin 15 = .ok (.aload_n 0, 1) := by decide +kernel
theorem dX1_isWithin_16 : decode cX1_isWithin 16 = .ok (.getfield 33, 3) := by decide +kernel
theorem dX1_isWithin_19 : decode cX1_isWithin 19 = .ok (.iload_n 1, 1) := by decide +kernel
theorem dX1_isWithin_20 : decode cX1_isWithin 20 = .ok (.iaload, 1) := by decide +kernel
theorem dX1_isWithin_21 : decode cX1_isWithin 21 = .ok (.iadd, 1) := by decide +kernel
theorem dX1_isWithin_22 : decode cX1_isWithin 22 = .ok (.iload_n 2, 1) := by decide +kernel
theorem dX1_isWithin_23 : decode cX1_isWithin 23 = .ok (.if_icmp .gt 7, 3) := by decide +kernel
theorem dX1_isWithin_26 : decode cX1_isWithin 26 = .ok (.iconst 1, 1) := by decide +kernel
theorem dX1_isWithin_27 : decode cX1_isWithin 27 = .ok (.goto 4, 3) := by decide +kernel
theorem dX1_isWithin_30 : decode cX1_isWithin 30 = .ok (.iconst 0, 1) := by decide +kernel
theorem dX1_isWithin_31 : decode cX1_isWithin 31 = .ok (.ireturn, 1) := by decide +kernel
theorem dX1_secondsOf_0 : decode cX1_secondsOf 0 = .ok (.iload_n 0, 1) := by decide +kernel
theorem dX1_secondsOf_1 : decode cX1_secondsOf 1 = .ok (.iconst (-1), 1) := by decide +kernel
theorem dX1_secondsOf_2 : decode cX1_secondsOf 2 = .ok (.if_icmp .ne 7, 3) := by decide +kernel
theorem dX1_secondsOf_5 : decode cX1_secondsOf 5 = .ok (.iconst 0, 1) := by decide +kernel
theorem dX1_secondsOf_6 : decode cX1_secondsOf 6 = .ok (.goto 4, 3) := by decide +kernel
theorem dX1_secondsOf_9 : decode cX1_secondsOf 9 = .ok (.iload_n 0, 1) := by decide +kernel
theorem dX1_secondsOf_10 : decode cX1_secondsOf 10 = .ok (.ireturn, 1) := by decide +kernel
theorem dX1_sortIn_0 : decode cX1_sortIn 0 = .ok (.iload_n 2, 1) := by decide +kernel
theorem dX1_sortIn_1 : decode cX1_sortIn 1 = .ok (.ifCond .lt 10, 3) := by decide +kernel
theorem dX1_sortIn_4 : decode cX1_sortIn 4 = .ok (.iload_n 2, 1) := by decide +kernel
theorem dX1_sortIn_5 : decode cX1_sortIn 5 = .ok (.sipush 200, 3) := by decide +kernel
theorem dX1_sortIn_8 : decode cX1_sortIn 8 = .ok (.if_icmp .lt 4, 3) := by decide +kernel
theorem dX1_sortIn_11 : decode cX1_sortIn 11 = .ok (.return_, 1) := by decide +kernel
theorem dX1_sortIn_12 : decode cX1_sortIn 12 = .ok (.iload_n 2, 1) := by decide +kernel
theorem dX1_sortIn_13 : decode cX1_sortIn 13 = .ok (.istore_n 3, 1) := by decide +kernel
theorem dX1_sortIn_14 : decode cX1_sortIn 14 = .ok (.iload_n 3, 1) := by decide +kernel
theorem dX1_sortIn_15 : decode cX1_sortIn 15 = .ok (.ifCond .le 35, 3) := by decide +kernel
theorem dX1_sortIn_18 : decode cX1_sortIn 18 = .ok (.aload_n 0, 1) := by decide +kernel
theorem dX1_sortIn_19 : decode cX1_sortIn 19 = .ok (.getfield 36, 3) := by decide +kernel
theorem dX1_sortIn_22 : decode cX1_sortIn 22 = .ok (.iload_n 3, 1) := by decide +kernel
theorem dX1_sortIn_23 : decode cX1_sortIn 23 = .ok (.iconst 1, 1) := by decide +kernel
theorem dX1_sortIn_24 : decode cX1_sortIn 24 = .ok (.isub, 1) := by decide +kernel
theorem dX1_sortIn_25 : decode cX1_sortIn 25 = .ok (.iaload, 1) := by decide +kernel
theorem dX1_sortIn_26 : decode cX1_sortIn 26 = .ok (.iload_n 1, 1) := by decide +kernel
theorem dX1_sortIn_27 : decode cX1_sortIn 27 = .ok (.if_icmp .le 23, 3) := by decide +kernel
theorem dX1_sortIn_30 : decode cX1_sortIn 30 = .ok (.aload_n 0, 1) := by decide +kernel
theorem dX1_sortIn_31 : decode cX1_sortIn 31 = .ok (.getfield 36, 3) := by decide +kernel
theorem dX1_sortIn_34 : decode cX1_sortIn 34 = .ok (.iload_n 3, 1) := by decide +kernel
theorem dX1_sortIn_35 : decode cX1_sortIn 35 = .ok (.aload_n 0, 1) := by decide +kernel
theorem dX1_sortIn_36 : decode cX1_sortIn 36 = .ok (.getfield 36, 3) := by decide +kernel
theorem dX1_sortIn_39 : decode cX1_sortIn 39 = .ok (.iload_n 3, 1) := by decide +kernel
theorem dX1_sortIn_40 : decode cX1_sortIn 40 = .ok (.iconst 1, 1) := by decide +kernel
theorem dX1_sortIn_41 : decode cX1_sortIn 41 = .ok (.isub, 1) := by decide +kernel
theorem dX1_sortIn_42 : decode cX1_sortIn 42 = .ok (.iaload, 1) := by decide +kernel
theorem dX1_sortIn_43 : decode cX1_sortIn 43 = .ok (.iastore, 1) := by decide +kernel
theorem dX1_sortIn_44 : decode cX1_sortIn 44 = .ok (.iinc 3 (-1), 3) := by decide +kernel
theorem dX1_sortIn_47 : decode cX1_sortIn 47 = .ok (.goto (-33), 3) := by decide +kernel
theorem dX1_sortIn_50 : decode cX1_sortIn 50 = .ok (.aload_n 0, 1) := by decide +kernel
theorem dX1_sortIn_51 : decode cX1_sortIn 51 = .ok (.getfield 36, 3) := by decide +kernel
theorem dX1_sortIn_54 : decode cX1_sortIn 54 = .ok (.iload_n 3, 1) := by decide +kernel
theorem dX1_sortIn_55 : decode cX1_sortIn 55 = .ok (.iload_n 1, 1) := by decide +kernel
theorem dX1_sortIn_56 : decode cX1_sortIn 56 = .ok (.iastore, 1) := by decide +kernel
theorem dX1_sortIn_57 : decode cX1_sortIn 57 = .ok (.return_, 1) := by decide +kernel
theorem dX2_init_0 : decode cX2_init 0 = .ok (.aload_n 0, 1) := by decide +kernel
theorem dX2_init_1 : decode cX2_init 1 = .ok (.invokespecial 3, 3) := by decide +kernel
theorem dX2_init_4 : decode cX2_init 4 = .ok (.aload_n 0, 1) := by decide +kernel
theorem dX2_init_5 : decode cX2_init 5 = .ok (.bipush 10, 2) := by decide +kernel
theorem dX2_init_7 : decode cX2_init 7 = .ok (.newarray .int, 2) := by decide +kernel
theorem dX2_init_9 : decode cX2_init 9 = .ok (.putfield 9, 3) := by decide +kernel
theorem dX2_init_12 : decode cX2_init 12 = .ok (.aload_n 0, 1) := by decide +kernel
theorem dX2_init_13 : decode cX2_init 13 = .ok (.bipush 10, 2) := by decide +kernel
theorem dX2_init_15 : decode cX2_init 15 = .ok (.newarray .boolean, 2) := by decide +kernel
theorem dX2_init_17 : decode cX2_init 17 = .ok (.putfield 15, 3) := by decide +kernel
theorem dX2_init_20 : decode cX2_init 20 = .ok (.aload_n 0, 1) := by decide +kernel
theorem dX2_init_21 : decode cX2_init 21 = .ok (.iconst 3, 1) := by decide +kernel
theorem dX2_init_22 : decode cX2_init 22 = .ok (.putfield 19, 3) := by decide +kernel
theorem dX2_init_25 : decode cX2_init 25 = .ok (.return_, 1) := by decide +kernel
theorem dX2_setLeast_0 : decode cX2_setLeast 0 = .ok (.aload_n 0, 1) := by decide +kernel
theorem dX2_setLeast_1 : decode cX2_setLeast 1 = .ok (.iload_n 1, 1) := by decide +kernel
theorem dX2_setLeast_2 : decode cX2_setLeast 2 = .ok (.putfield 19, 3) := by decide +kernel
theorem dX2_setLeast_5 : decode cX2_setLeast 5 = .ok (.return_, 1) := by decide +kernel
theorem dX2_join_0 : decode cX2_join 0 = .ok (.aload_n 0, 1) := by decide +kernel
theorem dX2_join_1 : decode cX2_join 1 = .ok (.iconst 0, 1) := by decide +kernel
theorem dX2_join_2 : decode cX2_join 2 = .ok (.putfield 23, 3) := by decide +kernel
theorem dX2_join_5 : decode cX2_join 5 = .ok (.iconst 0, 1) := by decide +kernel
theorem dX2_join_6 : decode cX2_join 6 = .ok (.istore 4, 2) := by decide +kernel
theorem dX2_join_8 : decode cX2_join 8 = .ok (.iload 4, 2) := by decide +kernel
theorem dX2_join_10 : decode cX2_join 10 = .ok (.bipush 10, 2) := by decide +kernel
theorem dX2_join_12 : decode cX2_join 12 = .ok (.if_icmp .ge 81, 3) := by decide +kernel
theorem dX2_join_15 : decode cX2_join 15 = .ok (.aload_n 1, 1) := by decide +kernel
theorem dX2_join_16 : decode cX2_join 16 = .ok (.iload_n 2, 1) := by decide +kernel
theorem dX2_join_17 : decode cX2_join 17 = .ok (.iload_n 3, 1) := by decide +kernel
theorem dX2_join_18 : decode cX2_join 18 = .ok (.iconst (-1), 1) := by decide +kernel
theorem dX2_join_19 : decode cX2_join 19 = .ok (.iload 4, 2) := by decide +kernel
theorem dX2_join_21 : decode cX2_join 21 = .ok (.invokevirtual 26, 3) := by decide +kernel
theorem dX2_join_24 : decode cX2_join 24 = .ok (.istore 5, 2) := by decide +kernel
theorem dX2_join_26 : decode cX2_join 26 = .ok (.aload_n 0, 1) := by decide +kernel
theorem dX2_join_27 : decode cX2_join 27 = .ok (.getfield 9, 3) := by decide +kernel
theorem dX2_join_30 : decode cX2_join 30 = .ok (.iload 4, 2) := by decide +kernel
theorem dX2_join_32 : decode cX2_join 32 = .ok (.iload 5, 2) := by decide +kernel
theorem dX2_join_34 : decode cX2_join 34 = .ok (.iastore, 1) := by decide +kernel
theorem dX2_join_35 : decode cX2_join 35 = .ok (.aload_n 0, 1) := by decide +kernel
theorem dX2_join_36 : decode cX2_join 36 = .ok (.getfield 15, 3) := by decide +kernel
theorem dX2_join_39 : decode cX2_join 39 = .ok (.iload 4, 2) := by decide +kernel
theorem dX2_join_41 : decode cX2_join 41 = .ok (.iload 5, 2) := by decide +kernel
theorem dX2_join_43 : decode cX2_join 43 = .ok (.iconst 1, 1) := by decide +kernel
theorem dX2_join_44 : decode cX2_join 44 = .ok (.if_icmp .lt 16, 3) := by decide +kernel
theorem dX2_join_47 : decode cX2_join 47 = .ok (.iload 5, 2) := by decide +kernel
theorem dX2_join_49 : decode cX2_join 49 = .ok (.aload_n 0, 1) := by decide +kernel
theorem dX2_join_50 : decode cX2_join 50 = .ok (.getfield 19, 3) := by decide +kernel
theorem dX2_join_53 : decode cX2_join 53 = .ok (.if_icmp .ge 7, 3) := by decide +kernel
theorem dX2_join_56 : decode cX2_join 56 = .ok (.iconst 1, 1) := by decide +kernel
theorem dX2_join_57 : decode cX2_join 57 = .ok (.goto 4, 3) := by decide +kernel
theorem dX2_join_60 : decode cX2_join 60 = .ok (.iconst 0, 1) := by decide +kernel
theorem dX2_join_61 : decode cX2_join 61 = .ok (.bastore, 1) := by decide +kernel
theorem dX2_join_62 : decode cX2_join 62 = .ok (.aload_n 0, 1) := by decide +kernel
theorem dX2_join_63 : decode cX2_join 63 = .ok (.dup, 1) := by decide +kernel
theorem dX2_join_64 : decode cX2_join 64 = .ok (.getfield 23, 3) := by decide +kernel
theorem dX2_join_67 : decode cX2_join 67 = .ok (.aload_n 0, 1) := by decide +kernel
theorem dX2_join_68 : decode cX2_join 68 = .ok (.getfield 15, 3) := by decide +kernel
theorem dX2_join_71 : decode cX2_join 71 = .ok (.iload 4, 2) := by decide +kernel
theorem dX2_join_73 : decode cX2_join 73 = .ok (.baload, 1) := by decide +kernel
theorem dX2_join_74 : decode cX2_join 74 = .ok (.ifCond .eq 8, 3) := by decide +kernel
theorem dX2_join_77 : decode cX2_join 77 = .ok (.iload 5, 2) := by decide +kernel
theorem dX2_join_79 : decode cX2_join 79 = .ok (.goto 4, 3) := by decide +kernel
theorem dX2_join_82 : decode cX2_join 82 = .ok (.iconst 0, 1) := by decide +kernel
theorem dX2_join_83 : decode cX2_join 83 = .ok (.iadd, 1) := by decide +kernel
theorem dX2_join_84 : decode cX2_join 84 = .ok (.putfield 23, 3) := by decide +kernel
theorem dX2_join_87 : decode cX2_join 87 = .ok (.iinc 4 1, 3) := by decide +kernel
theorem dX2_join_90 : decode cX2_join 90 = .ok (.goto (-82), 3) := by decide +kernel
theorem dX2_join_93 : decode cX2_join 93 = .ok (.aload_n 0, 1) := by decide +kernel
theorem dX2_join_94 : decode cX2_join 94 = .ok (.getfield 23, 3) := by decide +kernel
theorem dX2_join_97 : decode cX2_join 97 = .ok (.ifCond .le 22, 3) := by decide +kernel
theorem dX2_join_100 : decode cX2_join 100 = .ok (.aload_n 0, 1) := by decide +kernel
theorem dX2_join_101 : decode cX2_join 101 = .ok (.dup, 1) := by decide +kernel
theorem dX2_join_102 : decode cX2_join 102 = .ok (.getfield 23, 3) := by decide +kernel
theorem dX2_join_105 : decode cX2_join 105 = .ok (.aload_n 1, 1) := by decide +kernel
theorem dX2_join_106 : decode cX2_join 106 = .ok (.iload_n 2, 1) := by decide +kernel
theorem dX2_join_107 : decode cX2_join 107 = .ok (.iload_n 3, 1) := by decide +kernel
theorem dX2_join_108 : decode cX2_join 108 = .ok (.invokevirtual 32, 3) := by decide +kernel
theorem dX2_join_111 : decode cX2_join 111 = .ok (.iadd, 1) := by decide +kernel
theorem dX2_join_112 : decode cX2_join 112 = .ok (.putfield 23, 3) := by decide +kernel
theorem dX2_join_115 : decode cX2_join 115 = .ok (.aload_n 0, 1) := by decide +kernel
theorem dX2_join_116 : decode cX2_join 116 = .ok (.invokevirtual 36, 3) := by decide +kernel
theorem dX2_join_119 : decode cX2_join 119 = .ok (.return_, 1) := by decide +kernel
theorem dX2_rowsShown_0 : decode cX2_rowsShown 0 = .ok (.iload_n 1, 1) := by decide +kernel
theorem dX2_rowsShown_1 : decode cX2_rowsShown 1 = .ok (.ifCond .lt 18, 3) := by decide +kernel
theorem dX2_rowsShown_4 : decode cX2_rowsShown 4 = .ok (.iload_n 1, 1) := by decide +kernel
theorem dX2_rowsShown_5 : decode cX2_rowsShown 5 = .ok (.bipush 10, 2) := by decide +kernel
theorem dX2_rowsShown_7 : decode cX2_rowsShown 7 = .ok (.if_icmp .ge 12, 3) := by decide +kernel
theorem dX2_rowsShown_10 : decode cX2_rowsShown 10 = .ok (.aload_n 0, 1) := by decide +kernel
theorem dX2_rowsShown_11 : decode cX2_rowsShown 11 = .ok (.getfield 15, 3) := by decide +kernel
theorem dX2_rowsShown_14 : decode cX2_rowsShown 14 = .ok (.iload_n 1, 1) := by decide +kernel
theorem dX2_rowsShown_15 : decode cX2_rowsShown 15 = .ok (.baload, 1) := by decide +kernel
theorem dX2_rowsShown_16 : decode cX2_rowsShown 16 = .ok (.ifCond .eq 5, 3) := by decide +kernel
theorem dX2_rowsShown_19 : decode cX2_rowsShown 19 = .ok (.iconst (-1), 1) := by decide +kernel
theorem dX2_rowsShown_20 : decode cX2_rowsShown 20 = .ok (.ireturn, 1) := by decide +kernel
theorem dX2_rowsShown_21 : decode cX2_rowsShown 21 = .ok (.aload_n 0, 1) := by decide +kernel
theorem dX2_rowsShown_22 : decode cX2_rowsShown 22 = .ok (.getfield 9, 3) := by decide +kernel
theorem dX2_rowsShown_25 : decode cX2_rowsShown 25 = .ok (.iload_n 1, 1) := by decide +kernel
theorem dX2_rowsShown_26 : decode cX2_rowsShown 26 = .ok (.iaload, 1) := by decide +kernel
theorem dX2_rowsShown_27 : decode cX2_rowsShown 27 = .ok (.ireturn, 1) := by decide +kernel
theorem dX2_rowsTogether_0 : decode cX2_rowsTogether 0 = .ok (.aload_n 0, 1) := by decide +kernel
theorem dX2_rowsTogether_1 : decode cX2_rowsTogether 1 = .ok (.getfield 23, 3) := by decide +kernel
theorem dX2_rowsTogether_4 : decode cX2_rowsTogether 4 = .ok (.ireturn, 1) := by decide +kernel
theorem dX2_joinMore_0 : decode cX2_joinMore 0 = .ok (.iconst 0, 1) := by decide +kernel
theorem dX2_joinMore_1 : decode cX2_joinMore 1 = .ok (.istore_n 1, 1) := by decide +kernel
theorem dX2_joinMore_2 : decode cX2_joinMore 2 = .ok (.iload_n 1, 1) := by decide +kernel
theorem dX2_joinMore_3 : decode cX2_joinMore 3 = .ok (.bipush 10, 2) := by decide +kernel
theorem dX2_joinMore_5 : decode cX2_joinMore 5 = .ok (.if_icmp .ge 52, 3) := by decide +kernel
theorem dX2_joinMore_8 : decode cX2_joinMore 8 = .ok (.aload_n 0, 1) := by decide +kernel
theorem dX2_joinMore_9 : decode cX2_joinMore 9 = .ok (.getfield 23, 3) := by decide +kernel
theorem dX2_joinMore_12 : decode cX2_joinMore 12 = .ok (.aload_n 0, 1) := by decide +kernel
theorem dX2_joinMore_13 : decode cX2_joinMore 13 = .ok (.getfield 19, 3) := by decide +kernel
theorem dX2_joinMore_16 : decode cX2_joinMore 16 = .ok (.if_icmp .ge 41, 3) := by decide +kernel
theorem dX2_joinMore_19 : decode cX2_joinMore 19 = .ok (.aload_n 0, 1) := by decide +kernel
theorem dX2_joinMore_20 : decode cX2_joinMore 20 = .ok (.invokevirtual 39, 3) := by decide +kernel
theorem dX2_joinMore_23 : decode cX2_joinMore 23 = .ok (.istore_n 2, 1) := by decide +kernel
theorem dX2_joinMore_24 : decode cX2_joinMore 24 = .ok (.iload_n 2, 1) := by decide +kernel
theorem dX2_joinMore_25 : decode cX2_joinMore 25 = .ok (.ifCond .ge 4, 3) := by decide +kernel
theorem dX2_joinMore_28 : decode cX2_joinMore 28 = .ok (.return_, 1) := by decide +kernel
theorem dX2_joinMore_29 : decode cX2_joinMore 29 = .ok (.aload_n 0, 1) := by decide +kernel
theorem dX2_joinMore_30 : decode cX2_joinMore 30 = .ok (.getfield 15, 3) := by decide +kernel
theorem dX2_joinMore_33 : decode cX2_joinMore 33 = .ok (.iload_n 2, 1) := by decide +kernel
theorem dX2_joinMore_34 : decode cX2_joinMore 34 = .ok (.iconst 1, 1) := by decide +kernel
theorem dX2_joinMore_35 : decode cX2_joinMore 35 = .ok (.bastore, 1) := by decide +kernel
theorem dX2_joinMore_36 : decode cX2_joinMore 36 = .ok (.aload_n 0, 1) := by decide +kernel
theorem dX2_joinMore_37 : decode cX2_joinMore 37 = .ok (.dup, 1) := by decide +kernel
theorem dX2_joinMore_38 : decode cX2_joinMore 38 = .ok (.getfield 23, 3) := by decide +kernel
theorem dX2_joinMore_41 : decode cX2_joinMore 41 = .ok (.aload_n 0, 1) := by decide +kernel
theorem dX2_joinMore_42 : decode cX2_joinMore 42 = .ok (.getfield 9, 3) := by decide +kernel
theorem dX2_joinMore_45 : decode cX2_joinMore 45 = .ok (.iload_n 2, 1) := by decide +kernel
theorem dX2_joinMore_46 : decode cX2_joinMore 46 = .ok (.iaload, 1) := by decide +kernel
theorem dX2_joinMore_47 : decode cX2_joinMore 47 = .ok (.iadd, 1) := by decide +kernel
theorem dX2_joinMore_48 : decode cX2_joinMore 48 = .ok (.putfield 23, 3) := by decide +kernel
theorem dX2_joinMore_51 : decode cX2_joinMore 51 = .ok (.iinc 1 1, 3) := by decide +kernel
theorem dX2_joinMore_54 : decode cX2_joinMore 54 = .ok (.goto (-52), 3) := by decide +kernel
theorem dX2_joinMore_57 : decode cX2_joinMore 57 = .ok (.return_, 1) := by decide +kernel
theorem dX2_areaOfFewest_0 : decode cX2_areaOfFewest 0 = .ok (.iconst (-1), 1) := by decide +kernel
theorem dX2_areaOfFewest_1 : decode cX2_areaOfFewest 1 = .ok (.istore_n 1, 1) := by decide +kernel
theorem dX2_areaOfFewest_2 : decode cX2_areaOfFewest 2 = .ok (.iconst 0, 1) := by decide +kernel
theorem dX2_areaOfFewest_3 : decode cX2_areaOfFewest 3 = .ok (.istore_n 2, 1) := by decide +kernel
theorem dX2_areaOfFewest_4 : decode cX2_areaOfFewest 4 = .ok (.iload_n 2, 1) := by decide +kernel
theorem dX2_areaOfFewest_5 : decode cX2_areaOfFewest 5 = .ok (.bipush 10, 2) := by decide +kernel
theorem dX2_areaOfFewest_7 : decode cX2_areaOfFewest 7 = .ok (.if_icmp .ge 58, 3) := by decide +kernel
theorem dX2_areaOfFewest_10 : decode cX2_areaOfFewest 10 = .ok (.aload_n 0, 1) := by decide +kernel
theorem dX2_areaOfFewest_11 : decode cX2_areaOfFewest 11 = .ok (.getfield 15, 3) := by decide +kernel
theorem dX2_areaOfFewest_14 : decode cX2_areaOfFewest 14 = .ok (.iload_n 2, 1) := by decide +kernel
theorem dX2_areaOfFewest_15 : decode cX2_areaOfFewest 15 = .ok (.baload, 1) := by decide +kernel
theorem dX2_areaOfFewest_16 : decode cX2_areaOfFewest 16 = .ok (.ifCond .ne 16, 3) := by decide +kernel
theorem dX2_areaOfFewest_19 : decode cX2_areaOfFewest 19 = .ok (.aload_n 0, 1) := by decide +kernel
theorem dX2_areaOfFewest_20 : decode cX2_areaOfFewest 20 = .ok (.getfield 9, 3) := by decide +kernel
theorem dX2_areaOfFewest_23 : decode cX2_areaOfFewest 23 = .ok (.iload_n 2, 1) := by decide +kernel
theorem dX2_areaOfFewest_24 : decode cX2_areaOfFewest 24 = .ok (.iaload, 1) := by decide +kernel
theorem dX2_areaOfFewest_25 : decode cX2_areaOfFewest 25 = .ok (.ifCond .le 7, 3) := by decide +kernel
theorem dX2_areaOfFewest_28 : decode cX2_areaOfFewest 28 = .ok (.iconst 1, 1) := by decide +kernel
theorem dX2_areaOfFewest_29 : decode cX2_areaOfFewest 29 = .ok (.goto 4, 3) := by decide +kernel
theorem dX2_areaOfFewest_32 : decode cX2_areaOfFewest 32 = .ok (.iconst 0, 1) := by decide +kernel
theorem dX2_areaOfFewest_33 : decode cX2_areaOfFewest 33 = .ok (.istore_n 3, 1) := by decide +kernel
theorem dX2_areaOfFewest_34 : decode cX2_areaOfFewest 34 = .ok (.iload_n 3, 1) := by decide +kernel
theorem dX2_areaOfFewest_35 : decode cX2_areaOfFewest 35 = .ok (.ifCond .eq 24, 3) := by decide +kernel
theorem dX2_areaOfFewest_38 : decode cX2_areaOfFewest 38 = .ok (.iload_n 1, 1) := by decide +kernel
theorem dX2_areaOfFewest_39 : decode cX2_areaOfFewest 39 = .ok (.ifCond .lt 18, 3) := by decide +kernel
theorem dX2_areaOfFewest_42 : decode cX2_areaOfFewest 42 = .ok (.aload_n 0, 1) := by decide +kernel
theorem dX2_areaOfFewest_43 : decode cX2_areaOfFewest 43 = .ok (.getfield 9, 3) := by decide +kernel
theorem dX2_areaOfFewest_46 : decode cX2_areaOfFewest 46 = .ok (.iload_n 2, 1) := by decide +kernel
theorem dX2_areaOfFewest_47 : decode cX2_areaOfFewest 47 = .ok (.iaload, 1) := by decide +kernel
theorem dX2_areaOfFewest_48 : decode cX2_areaOfFewest 48 = .ok (.aload_n 0, 1) := by decide +kernel
theorem dX2_areaOfFewest_49 : decode cX2_areaOfFewest 49 = .ok (.getfield 9, 3) := by decide +kernel
theorem dX2_areaOfFewest_52 : decode cX2_areaOfFewest 52 = .ok (.iload_n 1, 1) := by decide +kernel
theorem dX2_areaOfFewest_53 : decode cX2_areaOfFewest 53 = .ok (.iaload, 1) := by decide +kernel
theorem dX2_areaOfFewest_54 : decode cX2_areaOfFewest 54 = .ok (.if_icmp .ge 5, 3) := by decide +kernel
theorem dX2_areaOfFewest_57 : decode cX2_areaOfFewest 57 = .ok (.iload_n 2, 1) := by decide +kernel
theorem dX2_areaOfFewest_58 : decode cX2_areaOfFewest 58 = .ok (.istore_n 1, 1) := by decide +kernel
theorem dX2_areaOfFewest_59 : decode cX2_areaOfFewest 59 = .ok (.iinc 2 1, 3) := by decide +kernel
theorem dX2_areaOfFewest_62 : decode cX2_areaOfFewest 62 = .ok (.goto (-58), 3) := by decide +kernel
theorem dX2_areaOfFewest_65 : decode cX2_areaOfFewest 65 = .ok (.iload_n 1, 1) := by decide +kernel
theorem dX2_areaOfFewest_66 : decode cX2_areaOfFewest 66 = .ok (.ireturn, 1) := by decide +kernel
theorem dX3_init_0 : decode cX3_init 0 = .ok (.aload_n 0, 1) := by decide +kernel
theorem dX3_init_1 : decode cX3_init 1 = .ok (.invokespecial 3, 3) := by decide +kernel
theorem dX3_init_4 : decode cX3_init 4 = .ok (.aload_n 0, 1) := by decide +kernel
theorem dX3_init_5 : decode cX3_init 5 = .ok (.bipush 6, 2) := by decide +kernel
theorem dX3_init_7 : decode cX3_init 7 = .ok (.newarray .int, 2) := by decide +kernel
theorem dX3_init_9 : decode cX3_init 9 = .ok (.putfield 9, 3) := by decide +kernel
theorem dX3_init_12 : decode cX3_init 12 = .ok (.return_, 1) := by decide +kernel
theorem dX3_start_0 : decode cX3_start 0 = .ok (.aload_n 0, 1) := by decide +kernel
theorem dX3_start_1 : decode cX3_start 1 = .ok (.iload_n 1, 1) := by decide +kernel
theorem dX3_start_2 : decode cX3_start 2 = .ok (.bipush 6, 2) := by decide +kernel
theorem dX3_start_4 : decode cX3_start 4 = .ok (.invokestatic 15, 3) := by decide +kernel
theorem dX3_start_7 : decode cX3_start 7 = .ok (.putfield 21, 3) := by decide +kernel
theorem dX3_start_10 : decode cX3_start 10 = .ok (.return_, 1) := by decide +kernel
theorem dX3_setCount_0 : decode cX3_setCount 0 = .ok (.iload_n 1, 1) := by decide +kernel
theorem dX3_setCount_1 : decode cX3_setCount 1 = .ok (.ifCond .lt 18, 3) := by decide +kernel
theorem dX3_setCount_4 : decode cX3_setCount 4 = .ok (.iload_n 1, 1) := by decide +kernel
theorem dX3_setCount_5 : decode cX3_setCount 5 = .ok (.aload_n 0, 1) := by decide +kernel
theorem dX3_setCount_6 : decode cX3_setCount 6 = .ok (.getfield 21, 3) := by decide +kernel
theorem dX3_setCount_9 : decode cX3_setCount 9 = .ok (.if_icmp .ge 10, 3) := by decide +kernel
theorem dX3_setCount_12 : decode cX3_setCount 12 = .ok (.aload_n 0, 1) := by decide +kernel
theorem dX3_setCount_13 : decode cX3_setCount 13 = .ok (.getfield 9, 3) := by decide +kernel
theorem dX3_setCount_16 : decode cX3_setCount 16 = .ok (.iload_n 1, 1) := by decide +kernel
theorem dX3_setCount_17 : decode cX3_setCount 17 = .ok (.iload_n 2, 1) := by decide +kernel
theorem dX3_setCount_18 : decode cX3_setCount 18 = .ok (.iastore, 1) := by decide +kernel
theorem dX3_setCount_19 : decode cX3_setCount 19 = .ok (.return_, 1) := by decide +kernel
theorem dX3_sum_0 : decode cX3_sum 0 = .ok (.iconst 0, 1) := by decide +kernel
theorem dX3_sum_1 : decode cX3_sum 1 = .ok (.istore_n 1, 1) := by decide +kernel
theorem dX3_sum_2 : decode cX3_sum 2 = .ok (.iconst 0, 1) := by decide +kernel
theorem dX3_sum_3 : decode cX3_sum 3 = .ok (.istore_n 2, 1) := by decide +kernel
theorem dX3_sum_4 : decode cX3_sum 4 = .ok (.iconst 0, 1) := by decide +kernel
theorem dX3_sum_5 : decode cX3_sum 5 = .ok (.istore_n 3, 1) := by decide +kernel
theorem dX3_sum_6 : decode cX3_sum 6 = .ok (.iload_n 3, 1) := by decide +kernel
theorem dX3_sum_7 : decode cX3_sum 7 = .ok (.aload_n 0, 1) := by decide +kernel
theorem dX3_sum_8 : decode cX3_sum 8 = .ok (.getfield 21, 3) := by decide +kernel
theorem dX3_sum_11 : decode cX3_sum 11 = .ok (.if_icmp .ge 31, 3) := by decide +kernel
theorem dX3_sum_14 : decode cX3_sum 14 = .ok (.iload_n 1, 1) := by decide +kernel
theorem dX3_sum_15 : decode cX3_sum 15 = .ok (.aload_n 0, 1) := by decide +kernel
theorem dX3_sum_16 : decode cX3_sum 16 = .ok (.getfield 9, 3) := by decide +kernel
theorem dX3_sum_19 : decode cX3_sum 19 = .ok (.aload_n 0, 1) := by decide +kernel
theorem dX3_sum_20 : decode cX3_sum 20 = .ok (.getfield 21, 3) := by decide +kernel
theorem dX3_sum_23 : decode cX3_sum 23 = .ok (.iload_n 3, 1) := by decide +kernel
theorem dX3_sum_24 : decode cX3_sum 24 = .ok (.iload_n 2, 1) := by decide +kernel
theorem dX3_sum_25 : decode cX3_sum 25 = .ok (.invokestatic 25, 3) := by decide +kernel
theorem dX3_sum_28 : decode cX3_sum 28 = .ok (.iadd, 1) := by decide +kernel
theorem dX3_sum_29 : decode cX3_sum 29 = .ok (.istore_n 1, 1) := by decide +kernel
theorem dX3_sum_30 : decode cX3_sum 30 = .ok (.iload_n 2, 1) := by decide +kernel
theorem dX3_sum_31 : decode cX3_sum 31 = .ok (.iconst 1, 1) := by decide +kernel
theorem dX3_sum_32 : decode cX3_sum 32 = .ok (.iload_n 3, 1) := by decide +kernel
theorem dX3_sum_33 : decode cX3_sum 33 = .ok (.ishl, 1) := by decide +kernel
theorem dX3_sum_34 : decode cX3_sum 34 = .ok (.ior, 1) := by decide +kernel
theorem dX3_sum_35 : decode cX3_sum 35 = .ok (.istore_n 2, 1) := by decide +kernel
theorem dX3_sum_36 : decode cX3_sum 36 = .ok (.iinc 3 1, 3) := by decide +kernel
theorem dX3_sum_39 : decode cX3_sum 39 = .ok (.goto (-33), 3) := by decide +kernel
theorem dX3_sum_42 : decode cX3_sum 42 = .ok (.iload_n 1, 1) := by decide +kernel
theorem dX3_sum_43 : decode cX3_sum 43 = .ok (.ireturn, 1) := by decide +kernel
theorem dX3_orders_0 : decode cX3_orders 0 = .ok (.iconst 1, 1) := by decide +kernel
theorem dX3_orders_1 : decode cX3_orders 1 = .ok (.istore_n 1, 1) := by decide +kernel
theorem dX3_orders_2 : decode cX3_orders 2 = .ok (.iconst 2, 1) := by decide +kernel
theorem dX3_orders_3 : decode cX3_orders 3 = .ok (.istore_n 2, 1) := by decide +kernel
theorem dX3_orders_4 : decode cX3_orders 4 = .ok (.iload_n 2, 1) := by decide +kernel
theorem dX3_orders_5 : decode cX3_orders 5 = .ok (.aload_n 0, 1) := by decide +kernel
theorem dX3_orders_6 : decode cX3_orders 6 = .ok (.getfield 21, 3) := by decide +kernel
theorem dX3_orders_9 : decode cX3_orders 9 = .ok (.if_icmp .gt 13, 3) := by decide +kernel
theorem dX3_orders_12 : decode cX3_orders 12 = .ok (.iload_n 1, 1) := by decide +kernel
theorem dX3_orders_13 : decode cX3_orders 13 = .ok (.iload_n 2, 1) := by decide +kernel
theorem dX3_orders_14 : decode cX3_orders 14 = .ok (.imul, 1) := by decide +kernel
theorem dX3_orders_15 : decode cX3_orders 15 = .ok (.istore_n 1, 1) := by decide +kernel
theorem dX3_orders_16 : decode cX3_orders 16 = .ok (.iinc 2 1, 3) := by decide +kernel
theorem dX3_orders_19 : decode cX3_orders 19 = .ok (.goto (-15), 3) := by decide +kernel
theorem dX3_orders_22 : decode cX3_orders 22 = .ok (.iload_n 1, 1) := by decide +kernel
theorem dX3_orders_23 : decode cX3_orders 23 = .ok (.ireturn, 1) := by decide +kernel
theorem dX3_ordersNotBelow_0 : decode cX3_ordersNotBelow 0 = .ok (.aload_n 0, 1) := by decide +kernel
theorem dX3_ordersNotBelow_1 : decode cX3_ordersNotBelow 1 = .ok (.getfield 9, 3) := by decide +kernel
theorem dX3_ordersNotBelow_4 : decode cX3_ordersNotBelow 4 = .ok (.aload_n 0, 1) := by decide +kernel
theorem dX3_ordersNotBelow_5 : decode cX3_ordersNotBelow 5 = .ok (.getfield 21, 3) := by decide +kernel
theorem dX3_ordersNotBelow_8 : decode cX3_ordersNotBelow 8 = .ok (.iconst 0, 1) := by decide +kernel
theorem dX3_ordersNotBelow_9 : decode cX3_ordersNotBelow 9 = .ok (.aload_n 0, 1) := by decide +kernel
theorem dX3_ordersNotBelow_10 : decode cX3_ordersNotBelow 10 = .ok (.getfield 21, 3) := by decide +kernel
theorem dX3_ordersNotBelow_13 : decode cX3_ordersNotBelow 13 = .ok (.iconst 0, 1) := by decide +kernel
theorem dX3_ordersNotBelow_14 : decode cX3_ordersNotBelow 14 = .ok (.iload_n 1, 1) := by decide +kernel
theorem dX3_ordersNotBelow_15 : decode cX3_ordersNotBelow 15 = .ok (.invokestatic 29, 3) := by decide +kernel
theorem dX3_ordersNotBelow_18 : decode cX3_ordersNotBelow 18 = .ok (.ireturn, 1) := by decide +kernel
theorem dX3_ordersBehind_0 : decode cX3_ordersBehind 0 = .ok (.iload_n 3, 1) := by decide +kernel
theorem dX3_ordersBehind_1 : decode cX3_ordersBehind 1 = .ok (.ifCond .gt 16, 3) := by decide +kernel
theorem dX3_ordersBehind_4 : decode cX3_ordersBehind 4 = .ok (.iload 4, 2) := by decide +kernel
theorem dX3_ordersBehind_6 : decode cX3_ordersBehind 6 = .ok (.iload 5, 2) := by decide +kernel
theorem dX3_ordersBehind_8 : decode cX3_ordersBehind 8 = .ok (.if_icmp .lt 7, 3) := by decide +kernel
theorem dX3_ordersBehind_11 : decode cX3_ordersBehind 11 = .ok (.iconst 1, 1) := by decide +kernel
theorem dX3_ordersBehind_12 : decode cX3_ordersBehind 12 = .ok (.goto 4, 3) := by decide +kernel
theorem dX3_ordersBehind_15 : decode cX3_ordersBehind 15 = .ok (.iconst 0, 1) := by decide +kernel
theorem dX3_ordersBehind_16 : decode cX3_ordersBehind 16 = .ok (.ireturn, 1) := by decide +kernel
theorem dX3_ordersBehind_17 : decode cX3_ordersBehind 17 = .ok (.iconst 0, 1) := by decide +kernel
theorem dX3_ordersBehind_18 : decode cX3_ordersBehind 18 = .ok (.istore 6, 2) := by decide +kernel
theorem dX3_ordersBehind_20 : decode cX3_ordersBehind 20 = .ok (.iconst 0, 1) := by decide +kernel
theorem dX3_ordersBehind_21 : decode cX3_ordersBehind 21 = .ok (.istore 7, 2) := by decide +kernel
theorem dX3_ordersBehind_23 : decode cX3_ordersBehind 23 = .ok (.iload 7, 2) := by decide +kernel
theorem dX3_ordersBehind_25 : decode cX3_ordersBehind 25 = .ok (.iload_n 1, 1) := by decide +kernel
theorem dX3_ordersBehind_26 : decode cX3_ordersBehind 26 = .ok (.if_icmp .ge 54, 3) := by decide +kernel
theorem dX3_ordersBehind_29 : decode cX3_ordersBehind 29 = .ok (.iload 7, 2) := by decide +kernel
theorem dX3_ordersBehind_31 : decode cX3_ordersBehind 31 = .ok (.iload_n 2, 1) := by decide +kernel
theorem dX3_ordersBehind_32 : decode cX3_ordersBehind 32 = .ok (.invokestatic 33, 3) := by decide +kernel
theorem dX3_ordersBehind_35 : decode cX3_ordersBehind 35 = .ok (.ifCond .ne 39, 3) := by decide +kernel
theorem dX3_ordersBehind_38 : decode cX3_ordersBehind 38 = .ok (.iload 4, 2) := by decide +kernel
theorem dX3_ordersBehind_40 : decode cX3_ordersBehind 40 = .ok (.aload_n 0, 1) := by decide +kernel
theorem dX3_ordersBehind_41 : decode cX3_ordersBehind 41 = .ok (.iload_n 1, 1) := by decide +kernel
theorem dX3_ordersBehind_42 : decode cX3_ordersBehind 42 = .ok (.iload 7, 2) := by decide +kernel
theorem dX3_ordersBehind_44 : decode cX3_ordersBehind 44 = .ok (.iload_n 2, 1) := by decide +kernel
theorem dX3_ordersBehind_45 : decode cX3_ordersBehind 45 = .ok (.invokestatic 25, 3) := by decide +kernel
theorem dX3_ordersBehind_48 : decode cX3_ordersBehind 48 = .ok (.iadd, 1) := by decide +kernel
theorem dX3_ordersBehind_49 : decode cX3_ordersBehind 49 = .ok (.istore 8, 2) := by decide +kernel
theorem dX3_ordersBehind_51 : decode cX3_ordersBehind 51 = .ok (.iload 6, 2) := by decide +kernel
theorem dX3_ordersBehind_53 : decode cX3_ordersBehind 53 = .ok (.aload_n 0, 1) := by decide +kernel
theorem dX3_ordersBehind_54 : decode cX3_ordersBehind 54 = .ok (.iload_n 1, 1) := by decide +kernel
theorem dX3_ordersBehind_55 : decode cX3_ordersBehind 55 = .ok (.iload_n 2, 1) := by decide +kernel
theorem dX3_ordersBehind_56 : decode cX3_ordersBehind 56 = .ok (.iconst 1, 1) := by decide +kernel
theorem dX3_ordersBehind_57 : decode cX3_ordersBehind 57 = .ok (.iload 7, 2) := by decide +kernel
theorem dX3_ordersBehind_59 : decode cX3_ordersBehind 59 = .ok (.ishl, 1) := by decide +kernel
theorem dX3_ordersBehind_60 : decode cX3_ordersBehind 60 = .ok (.ior, 1) := by decide +kernel
theorem dX3_ordersBehind_61 : decode cX3_ordersBehind 61 = .ok (.iload_n 3, 1) := by decide +kernel
theorem dX3_ordersBehind_62 : decode cX3_ordersBehind 62 = .ok (.iconst 1, 1) := by decide +kernel
theorem dX3_ordersBehind_63 : decode cX3_ordersBehind 63 = .ok (.isub, 1) := by decide +kernel
theorem dX3_ordersBehind_64 : decode cX3_ordersBehind 64 = .ok (.iload 8, 2) := by decide +kernel
theorem dX3_ordersBehind_66 : decode cX3_ordersBehind 66 = .ok (.iload 5, 2) := by decide +kernel
theorem dX3_ordersBehind_68 : decode cX3_ordersBehind 68 = .ok (.invokestatic 29, 3) := by decide +kernel
theorem dX3_ordersBehind_71 : decode cX3_ordersBehind 71 = .ok (.iadd, 1) := by decide +kernel
theorem dX3_ordersBehind_72 : decode cX3_ordersBehind 72 = .ok (.istore 6, 2) := by decide +kernel
theorem dX3_ordersBehind_74 : decode cX3_ordersBehind 74 = .ok (.iinc 7 1, 3) := by decide +kernel
theorem dX3_ordersBehind_77 : decode cX3_ordersBehind 77 = .ok (.goto (-54), 3) := by decide +kernel
theorem dX3_ordersBehind_80 : decode cX3_ordersBehind 80 = .ok (.iload 6, 2) := by decide +kernel
theorem dX3_ordersBehind_82 : decode cX3_ordersBehind 82 = .ok (.ireturn, 1) := by decide +kernel
theorem dX3_gain_0 : decode cX3_gain 0 = .ok (.iconst 0, 1) := by decide +kernel
theorem dX3_gain_1 : decode cX3_gain 1 = .ok (.istore 4, 2) := by decide +kernel
theorem dX3_gain_3 : decode cX3_gain 3 = .ok (.iconst 0, 1) := by decide +kernel
theorem dX3_gain_4 : decode cX3_gain 4 = .ok (.istore 5, 2) := by decide +kernel
theorem dX3_gain_6 : decode cX3_gain 6 = .ok (.iload 5, 2) := by decide +kernel
theorem dX3_gain_8 : decode cX3_gain 8 = .ok (.iload_n 1, 1) := by decide +kernel
theorem dX3_gain_9 : decode cX3_gain 9 = .ok (.if_icmp .ge 33, 3) := by decide +kernel
theorem dX3_gain_12 : decode cX3_gain 12 = .ok (.iload 5, 2) := by decide +kernel
theorem dX3_gain_14 : decode cX3_gain 14 = .ok (.iload_n 3, 1) := by decide +kernel
theorem dX3_gain_15 : decode cX3_gain 15 = .ok (.invokestatic 33, 3) := by decide +kernel
theorem dX3_gain_18 : decode cX3_gain 18 = .ok (.ifCond .eq 18, 3) := by decide +kernel
theorem dX3_gain_21 : decode cX3_gain 21 = .ok (.iload 4, 2) := by decide +kernel
theorem dX3_gain_23 : decode cX3_gain 23 = .ok (.aload_n 0, 1) := by decide +kernel
theorem dX3_gain_24 : decode cX3_gain 24 = .ok (.iload_n 2, 1) := by decide +kernel
theorem dX3_gain_25 : decode cX3_gain 25 = .ok (.iaload, 1) := by decide +kernel
theorem dX3_gain_26 : decode cX3_gain 26 = .ok (.aload_n 0, 1) := by decide +kernel
theorem dX3_gain_27 : decode cX3_gain 27 = .ok (.iload 5, 2) := by decide +kernel
theorem dX3_gain_29 : decode cX3_gain 29 = .ok (.iaload, 1) := by decide +kernel
theorem dX3_gain_30 : decode cX3_gain 30 = .ok (.invokestatic 37, 3) := by decide +kernel
theorem dX3_gain_33 : decode cX3_gain 33 = .ok (.iadd, 1) := by decide +kernel
theorem dX3_gain_34 : decode cX3_gain 34 = .ok (.istore 4, 2) := by decide +kernel
theorem dX3_gain_36 : decode cX3_gain 36 = .ok (.iinc 5 1, 3) := by decide +kernel
theorem dX3_gain_39 : decode cX3_gain 39 = .ok (.goto (-33), 3) := by decide +kernel
theorem dX3_gain_42 : decode cX3_gain 42 = .ok (.iload 4, 2) := by decide +kernel
theorem dX3_gain_44 : decode cX3_gain 44 = .ok (.ireturn, 1) := by decide +kernel
theorem dX3_isTaken_0 : decode cX3_isTaken 0 = .ok (.iload_n 1, 1) := by decide +kernel
theorem dX3_isTaken_1 : decode cX3_isTaken 1 = .ok (.iload_n 0, 1) := by decide +kernel
theorem dX3_isTaken_2 : decode cX3_isTaken 2 = .ok (.ishr, 1) := by decide +kernel
theorem dX3_isTaken_3 : decode cX3_isTaken 3 = .ok (.iconst 1, 1) := by decide +kernel
theorem dX3_isTaken_4 : decode cX3_isTaken 4 = .ok (.iand, 1) := by decide +kernel
theorem dX3_isTaken_5 : decode cX3_isTaken 5 = .ok (.ifCond .eq 7, 3) := by decide +kernel
theorem dX3_isTaken_8 : decode cX3_isTaken 8 = .ok (.iconst 1, 1) := by decide +kernel
theorem dX3_isTaken_9 : decode cX3_isTaken 9 = .ok (.goto 4, 3) := by decide +kernel
theorem dX3_isTaken_12 : decode cX3_isTaken 12 = .ok (.iconst 0, 1) := by decide +kernel
theorem dX3_isTaken_13 : decode cX3_isTaken 13 = .ok (.ireturn, 1) := by decide +kernel
