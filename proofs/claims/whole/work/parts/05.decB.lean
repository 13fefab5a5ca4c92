theorem dX4_init_0 : decode cX4_init 0 = .ok (.aload_n 0, 1) := by decide +kernel
theorem dX4_init_1 : decode cX4_init 1 = .ok (.invokespecial 1, 3) := by decide +kernel
theorem dX4_init_4 : decode cX4_init 4 = .ok (.aload_n 0, 1) := by decide +kernel
theorem dX4_init_5 : decode cX4_init 5 = .ok (.new 7, 3) := by decide +kernel
theorem dX4_init_8 : decode cX4_init 8 = .ok (.dup, 1) := by decide +kernel
theorem dX4_init_9 : decode cX4_init 9 = .ok (.invokespecial 9, 3) := by decide +kernel
theorem dX4_init_12 : decode cX4_init 12 = .ok (.putfield 10, 3) := by decide +kernel
theorem dX4_init_15 : decode cX4_init 15 = .ok (.aload_n 0, 1) := by decide +kernel
theorem dX4_init_16 : decode cX4_init 16 = .ok (.new 16, 3) := by decide +kernel
theorem dX4_init_19 : decode cX4_init 19 = .ok (.dup, 1) := by decide +kernel
theorem dX4_init_20 : decode cX4_init 20 = .ok (.invokespecial 18, 3) := by decide +kernel
theorem dX4_init_23 : decode cX4_init 23 = .ok (.putfield 19, 3) := by decide +kernel
theorem dX4_init_26 : decode cX4_init 26 = .ok (.aload_n 0, 1) := by decide +kernel
theorem dX4_init_27 : decode cX4_init 27 = .ok (.new 23, 3) := by decide +kernel
theorem dX4_init_30 : decode cX4_init 30 = .ok (.dup, 1) := by decide +kernel
theorem dX4_init_31 : decode cX4_init 31 = .ok (.invokespecial 25, 3) := by decide +kernel
theorem dX4_init_34 : decode cX4_init 34 = .ok (.putfield 26, 3) := by decide +kernel
theorem dX4_init_37 : decode cX4_init 37 = .ok (.aload_n 0, 1) := by decide +kernel
theorem dX4_init_38 : decode cX4_init 38 = .ok (.new 30, 3) := by decide +kernel
theorem dX4_init_41 : decode cX4_init 41 = .ok (.dup, 1) := by decide +kernel
theorem dX4_init_42 : decode cX4_init 42 = .ok (.invokespecial 32, 3) := by decide +kernel
theorem dX4_init_45 : decode cX4_init 45 = .ok (.putfield 33, 3) := by decide +kernel
theorem dX4_init_48 : decode cX4_init 48 = .ok (.aload_n 0, 1) := by decide +kernel
theorem dX4_init_49 : decode cX4_init 49 = .ok (.bipush 10, 2) := by decide +kernel
theorem dX4_init_51 : decode cX4_init 51 = .ok (.newarray .int, 2) := by decide +kernel
theorem dX4_init_53 : decode cX4_init 53 = .ok (.putfield 37, 3) := by decide +kernel
theorem dX4_init_56 : decode cX4_init 56 = .ok (.aload_n 0, 1) := by decide +kernel
theorem dX4_init_57 : decode cX4_init 57 = .ok (.iconst 0, 1) := by decide +kernel
theorem dX4_init_58 : decode cX4_init 58 = .ok (.putfield 41, 3) := by decide +kernel
theorem dX4_init_61 : decode cX4_init 61 = .ok (.aload_n 0, 1) := by decide +kernel
theorem dX4_init_62 : decode cX4_init 62 = .ok (.sipush 9999, 3) := by decide +kernel
theorem dX4_init_65 : decode cX4_init 65 = .ok (.putfield 45, 3) := by decide +kernel
theorem dX4_init_68 : decode cX4_init 68 = .ok (.aload_n 0, 1) := by decide +kernel
theorem dX4_init_69 : decode cX4_init 69 = .ok (.iconst (-1), 1) := by decide +kernel
theorem dX4_init_70 : decode cX4_init 70 = .ok (.putfield 48, 3) := by decide +kernel
theorem dX4_init_73 : decode cX4_init 73 = .ok (.aload_n 0, 1) := by decide +kernel
theorem dX4_init_74 : decode cX4_init 74 = .ok (.iconst (-1), 1) := by decide +kernel
theorem dX4_init_75 : decode cX4_init 75 = .ok (.putfield 51, 3) := by decide +kernel
theorem dX4_init_78 : decode cX4_init 78 = .ok (.return_, 1) := by decide +kernel
theorem dX4_row_0 : decode cX4_row 0 = .ok (.iload_n 3, 1) := by decide +kernel
theorem dX4_row_1 : decode cX4_row 1 = .ok (.iconst 5, 1) := by decide +kernel
theorem dX4_row_2 : decode cX4_row 2 = .ok (.invokestatic 54, 3) := by decide +kernel
theorem dX4_row_5 : decode cX4_row 5 = .ok (.iload 4, 2) := by decide +kernel
theorem dX4_row_7 : decode cX4_row 7 = .ok (.bipush 10, 2) := by decide +kernel
theorem dX4_row_9 : decode cX4_row 9 = .ok (.invokestatic 54, 3) := by decide +kernel
theorem dX4_row_12 : decode cX4_row 12 = .ok (.iload 5, 2) := by decide +kernel
theorem dX4_row_14 : decode cX4_row 14 = .ok (.bipush 6, 2) := by decide +kernel
theorem dX4_row_16 : decode cX4_row 16 = .ok (.invokestatic 54, 3) := by decide +kernel
theorem dX4_row_19 : decode cX4_row 19 = .ok (.iload_n 1, 1) := by decide +kernel
theorem dX4_row_20 : decode cX4_row 20 = .ok (.iconst 0, 1) := by decide +kernel
theorem dX4_row_21 : decode cX4_row 21 = .ok (.sipush 9999, 3) := by decide +kernel
theorem dX4_row_24 : decode cX4_row 24 = .ok (.invokestatic 58, 3) := by decide +kernel
theorem dX4_row_27 : decode cX4_row 27 = .ok (.iload_n 2, 1) := by decide +kernel
theorem dX4_row_28 : decode cX4_row 28 = .ok (.iconst 0, 1) := by decide +kernel
theorem dX4_row_29 : decode cX4_row 29 = .ok (.bipush 23, 2) := by decide +kernel
theorem dX4_row_31 : decode cX4_row 31 = .ok (.invokestatic 58, 3) := by decide +kernel
theorem dX4_row_34 : decode cX4_row 34 = .ok (.iload 6, 2) := by decide +kernel
theorem dX4_row_36 : decode cX4_row 36 = .ok (.iconst 0, 1) := by decide +kernel
theorem dX4_row_37 : decode cX4_row 37 = .ok (.iconst 3, 1) := by decide +kernel
theorem dX4_row_38 : decode cX4_row 38 = .ok (.invokestatic 58, 3) := by decide +kernel
theorem dX4_row_41 : decode cX4_row 41 = .ok (.aload_n 0, 1) := by decide +kernel
theorem dX4_row_42 : decode cX4_row 42 = .ok (.getfield 19, 3) := by decide +kernel
theorem dX4_row_45 : decode cX4_row 45 = .ok (.invokevirtual 62, 3) := by decide +kernel
theorem dX4_row_48 : decode cX4_row 48 = .ok (.ifCond .eq 13, 3) := by decide +kernel
theorem dX4_row_51 : decode cX4_row 51 = .ok (.new 66, 3) := by decide +kernel
theorem dX4_row_54 : decode cX4_row 54 = .ok (.dup, 1) := by decide +kernel
theorem dX4_row_55 : decode cX4_row 55 = .ok (.ldc 68, 2) := by decide +kernel
theorem dX4_row_57 : decode cX4_row 57 = .ok (.invokespecial 70, 3) := by decide +kernel
theorem dX4_row_60 : decode cX4_row 60 = .ok (.athrow, 1) := by decide +kernel
theorem dX4_row_61 : decode cX4_row 61 = .ok (.aload_n 0, 1) := by decide +kernel
theorem dX4_row_62 : decode cX4_row 62 = .ok (.getfield 19, 3) := by decide +kernel
theorem dX4_row_65 : decode cX4_row 65 = .ok (.iload_n 1, 1) := by decide +kernel
theorem dX4_row_66 : decode cX4_row 66 = .ok (.iload_n 2, 1) := by decide +kernel
theorem dX4_row_67 : decode cX4_row 67 = .ok (.iload_n 3, 1) := by decide +kernel
theorem dX4_row_68 : decode cX4_row 68 = .ok (.iload 4, 2) := by decide +kernel
theorem dX4_row_70 : decode cX4_row 70 = .ok (.iload 5, 2) := by decide +kernel
theorem dX4_row_72 : decode cX4_row 72 = .ok (.iload 6, 2) := by decide +kernel
theorem dX4_row_74 : decode cX4_row 74 = .ok (.invokevirtual 73, 3) := by decide +kernel
theorem dX4_row_77 : decode cX4_row 77 = .ok (.ireturn, 1) := by decide +kernel
theorem dX4_values_0 : decode cX4_values 0 = .ok (.iload_n 1, 1) := by decide +kernel
theorem dX4_values_1 : decode cX4_values 1 = .ok (.aload_n 0, 1) := by decide +kernel
theorem dX4_values_2 : decode cX4_values 2 = .ok (.getfield 19, 3) := by decide +kernel
theorem dX4_values_5 : decode cX4_values 5 = .ok (.invokevirtual 77, 3) := by decide +kernel
theorem dX4_values_8 : decode cX4_values 8 = .ok (.invokestatic 54, 3) := by decide +kernel
theorem dX4_values_11 : decode cX4_values 11 = .ok (.iload_n 2, 1) := by decide +kernel
theorem dX4_values_12 : decode cX4_values 12 = .ok (.iconst (-1), 1) := by decide +kernel
theorem dX4_values_13 : decode cX4_values 13 = .ok (.sipush 9999, 3) := by decide +kernel
theorem dX4_values_16 : decode cX4_values 16 = .ok (.invokestatic 58, 3) := by decide +kernel
theorem dX4_values_19 : decode cX4_values 19 = .ok (.iload_n 3, 1) := by decide +kernel
theorem dX4_values_20 : decode cX4_values 20 = .ok (.iconst (-1), 1) := by decide +kernel
theorem dX4_values_21 : decode cX4_values 21 = .ok (.sipush 9999, 3) := by decide +kernel
theorem dX4_values_24 : decode cX4_values 24 = .ok (.invokestatic 58, 3) := by decide +kernel
theorem dX4_values_27 : decode cX4_values 27 = .ok (.aload_n 0, 1) := by decide +kernel
theorem dX4_values_28 : decode cX4_values 28 = .ok (.getfield 19, 3) := by decide +kernel
theorem dX4_values_31 : decode cX4_values 31 = .ok (.iload_n 1, 1) := by decide +kernel
theorem dX4_values_32 : decode cX4_values 32 = .ok (.iload_n 2, 1) := by decide +kernel
theorem dX4_values_33 : decode cX4_values 33 = .ok (.iload_n 3, 1) := by decide +kernel
theorem dX4_values_34 : decode cX4_values 34 = .ok (.invokevirtual 81, 3) := by decide +kernel
theorem dX4_values_37 : decode cX4_values 37 = .ok (.return_, 1) := by decide +kernel
theorem dX4_define_0 : decode cX4_define 0 = .ok (.iload_n 1, 1) := by decide +kernel
theorem dX4_define_1 : decode cX4_define 1 = .ok (.iconst 0, 1) := by decide +kernel
theorem dX4_define_2 : decode cX4_define 2 = .ok (.sipush 9999, 3) := by decide +kernel
theorem dX4_define_5 : decode cX4_define 5 = .ok (.invokestatic 58, 3) := by decide +kernel
theorem dX4_define_8 : decode cX4_define 8 = .ok (.iload_n 2, 1) := by decide +kernel
theorem dX4_define_9 : decode cX4_define 9 = .ok (.iconst 0, 1) := by decide +kernel
theorem dX4_define_10 : decode cX4_define 10 = .ok (.sipush 20000, 3) := by decide +kernel
theorem dX4_define_13 : decode cX4_define 13 = .ok (.invokestatic 58, 3) := by decide +kernel
theorem dX4_define_16 : decode cX4_define 16 = .ok (.aload_n 0, 1) := by decide +kernel
theorem dX4_define_17 : decode cX4_define 17 = .ok (.getfield 10, 3) := by decide +kernel
theorem dX4_define_20 : decode cX4_define 20 = .ok (.invokevirtual 84, 3) := by decide +kernel
theorem dX4_define_23 : decode cX4_define 23 = .ok (.ifCond .eq 13, 3) := by decide +kernel
theorem dX4_define_26 : decode cX4_define 26 = .ok (.new 66, 3) := by decide +kernel
theorem dX4_define_29 : decode cX4_define 29 = .ok (.dup, 1) := by decide +kernel
theorem dX4_define_30 : decode cX4_define 30 = .ok (.ldc 85, 2) := by decide +kernel
theorem dX4_define_32 : decode cX4_define 32 = .ok (.invokespecial 70, 3) := by decide +kernel
theorem dX4_define_35 : decode cX4_define 35 = .ok (.athrow, 1) := by decide +kernel
theorem dX4_define_36 : decode cX4_define 36 = .ok (.aload_n 0, 1) := by decide +kernel
theorem dX4_define_37 : decode cX4_define 37 = .ok (.getfield 10, 3) := by decide +kernel
theorem dX4_define_40 : decode cX4_define 40 = .ok (.iload_n 1, 1) := by decide +kernel
theorem dX4_define_41 : decode cX4_define 41 = .ok (.iload_n 2, 1) := by decide +kernel
theorem dX4_define_42 : decode cX4_define 42 = .ok (.invokevirtual 87, 3) := by decide +kernel
theorem dX4_define_45 : decode cX4_define 45 = .ok (.ireturn, 1) := by decide +kernel
theorem dX4_ask_0 : decode cX4_ask 0 = .ok (.iload_n 3, 1) := by decide +kernel
theorem dX4_ask_1 : decode cX4_ask 1 = .ok (.iconst (-1), 1) := by decide +kernel
theorem dX4_ask_2 : decode cX4_ask 2 = .ok (.if_icmp .eq 8, 3) := by decide +kernel
theorem dX4_ask_5 : decode cX4_ask 5 = .ok (.iload_n 3, 1) := by decide +kernel
theorem dX4_ask_6 : decode cX4_ask 6 = .ok (.iconst 5, 1) := by decide +kernel
theorem dX4_ask_7 : decode cX4_ask 7 = .ok (.invokestatic 54, 3) := by decide +kernel
theorem dX4_ask_10 : decode cX4_ask 10 = .ok (.iload 4, 2) := by decide +kernel
theorem dX4_ask_12 : decode cX4_ask 12 = .ok (.iconst (-1), 1) := by decide +kernel
theorem dX4_ask_13 : decode cX4_ask 13 = .ok (.if_icmp .eq 10, 3) := by decide +kernel
theorem dX4_ask_16 : decode cX4_ask 16 = .ok (.iload 4, 2) := by decide +kernel
theorem dX4_ask_18 : decode cX4_ask 18 = .ok (.bipush 10, 2) := by decide +kernel
theorem dX4_ask_20 : decode cX4_ask 20 = .ok (.invokestatic 54, 3) := by decide +kernel
theorem dX4_ask_23 : decode cX4_ask 23 = .ok (.iload_n 1, 1) := by decide +kernel
theorem dX4_ask_24 : decode cX4_ask 24 = .ok (.iload_n 2, 1) := by decide +kernel
theorem dX4_ask_25 : decode cX4_ask 25 = .ok (.invokestatic 90, 3) := by decide +kernel
theorem dX4_ask_28 : decode cX4_ask 28 = .ok (.aload_n 0, 1) := by decide +kernel
theorem dX4_ask_29 : decode cX4_ask 29 = .ok (.iload_n 1, 1) := by decide +kernel
theorem dX4_ask_30 : decode cX4_ask 30 = .ok (.putfield 41, 3) := by decide +kernel
theorem dX4_ask_33 : decode cX4_ask 33 = .ok (.aload_n 0, 1) := by decide +kernel
theorem dX4_ask_34 : decode cX4_ask 34 = .ok (.iload_n 2, 1) := by decide +kernel
theorem dX4_ask_35 : decode cX4_ask 35 = .ok (.putfield 45, 3) := by decide +kernel
theorem dX4_ask_38 : decode cX4_ask 38 = .ok (.aload_n 0, 1) := by decide +kernel
theorem dX4_ask_39 : decode cX4_ask 39 = .ok (.iload_n 3, 1) := by decide +kernel
theorem dX4_ask_40 : decode cX4_ask 40 = .ok (.putfield 48, 3) := by decide +kernel
theorem dX4_ask_43 : decode cX4_ask 43 = .ok (.aload_n 0, 1) := by decide +kernel
theorem dX4_ask_44 : decode cX4_ask 44 = .ok (.iload 4, 2) := by decide +kernel
theorem dX4_ask_46 : decode cX4_ask 46 = .ok (.putfield 51, 3) := by decide +kernel
theorem dX4_ask_49 : decode cX4_ask 49 = .ok (.return_, 1) := by decide +kernel
theorem dX4_count_0 : decode cX4_count 0 = .ok (.iload_n 1, 1) := by decide +kernel
theorem dX4_count_1 : decode cX4_count 1 = .ok (.iconst 5, 1) := by decide +kernel
theorem dX4_count_2 : decode cX4_count 2 = .ok (.invokestatic 54, 3) := by decide +kernel
theorem dX4_count_5 : decode cX4_count 5 = .ok (.aload_n 0, 1) := by decide +kernel
theorem dX4_count_6 : decode cX4_count 6 = .ok (.iload_n 1, 1) := by decide +kernel
theorem dX4_count_7 : decode cX4_count 7 = .ok (.aload_n 0, 1) := by decide +kernel
theorem dX4_count_8 : decode cX4_count 8 = .ok (.getfield 41, 3) := by decide +kernel
theorem dX4_count_11 : decode cX4_count 11 = .ok (.aload_n 0, 1) := by decide +kernel
theorem dX4_count_12 : decode cX4_count 12 = .ok (.getfield 45, 3) := by decide +kernel
theorem dX4_count_15 : decode cX4_count 15 = .ok (.invokevirtual 93, 3) := by decide +kernel
theorem dX4_count_18 : decode cX4_count 18 = .ok (.ireturn, 1) := by decide +kernel
theorem dX4_hour_0 : decode cX4_hour 0 = .ok (.iload_n 1, 1) := by decide +kernel
theorem dX4_hour_1 : decode cX4_hour 1 = .ok (.iconst 0, 1) := by decide +kernel
theorem dX4_hour_2 : decode cX4_hour 2 = .ok (.bipush 23, 2) := by decide +kernel
theorem dX4_hour_4 : decode cX4_hour 4 = .ok (.invokestatic 58, 3) := by decide +kernel
theorem dX4_hour_7 : decode cX4_hour 7 = .ok (.aload_n 0, 1) := by decide +kernel
theorem dX4_hour_8 : decode cX4_hour 8 = .ok (.getfield 19, 3) := by decide +kernel
theorem dX4_hour_11 : decode cX4_hour 11 = .ok (.iload_n 1, 1) := by decide +kernel
theorem dX4_hour_12 : decode cX4_hour 12 = .ok (.aload_n 0, 1) := by decide +kernel
theorem dX4_hour_13 : decode cX4_hour 13 = .ok (.getfield 41, 3) := by decide +kernel
theorem dX4_hour_16 : decode cX4_hour 16 = .ok (.aload_n 0, 1) := by decide +kernel
theorem dX4_hour_17 : decode cX4_hour 17 = .ok (.getfield 45, 3) := by decide +kernel
theorem dX4_hour_20 : decode cX4_hour 20 = .ok (.aload_n 0, 1) := by decide +kernel
theorem dX4_hour_21 : decode cX4_hour 21 = .ok (.getfield 48, 3) := by decide +kernel
theorem dX4_hour_24 : decode cX4_hour 24 = .ok (.aload_n 0, 1) := by decide +kernel
theorem dX4_hour_25 : decode cX4_hour 25 = .ok (.getfield 51, 3) := by decide +kernel
theorem dX4_hour_28 : decode cX4_hour 28 = .ok (.invokevirtual 97, 3) := by decide +kernel
theorem dX4_hour_31 : decode cX4_hour 31 = .ok (.ireturn, 1) := by decide +kernel
theorem dX4_share_0 : decode cX4_share 0 = .ok (.iload_n 1, 1) := by decide +kernel
theorem dX4_share_1 : decode cX4_share 1 = .ok (.iconst 2, 1) := by decide +kernel
theorem dX4_share_2 : decode cX4_share 2 = .ok (.invokestatic 54, 3) := by decide +kernel
theorem dX4_share_5 : decode cX4_share 5 = .ok (.aload_n 0, 1) := by decide +kernel
theorem dX4_share_6 : decode cX4_share 6 = .ok (.aload_n 0, 1) := by decide +kernel
theorem dX4_share_7 : decode cX4_share 7 = .ok (.getfield 41, 3) := by decide +kernel
theorem dX4_share_10 : decode cX4_share 10 = .ok (.aload_n 0, 1) := by decide +kernel
theorem dX4_share_11 : decode cX4_share 11 = .ok (.getfield 45, 3) := by decide +kernel
theorem dX4_share_14 : decode cX4_share 14 = .ok (.invokevirtual 101, 3) := by decide +kernel
theorem dX4_share_17 : decode cX4_share 17 = .ok (.istore_n 2, 1) := by decide +kernel
theorem dX4_share_18 : decode cX4_share 18 = .ok (.aload_n 0, 1) := by decide +kernel
theorem dX4_share_19 : decode cX4_share 19 = .ok (.aload_n 0, 1) := by decide +kernel
theorem dX4_share_20 : decode cX4_share 20 = .ok (.getfield 41, 3) := by decide +kernel
theorem dX4_share_23 : decode cX4_share 23 = .ok (.aload_n 0, 1) := by decide +kernel
theorem dX4_share_24 : decode cX4_share 24 = .ok (.getfield 45, 3) := by decide +kernel
theorem dX4_share_27 : decode cX4_share 27 = .ok (.invokevirtual 104, 3) := by decide +kernel
theorem dX4_share_30 : decode cX4_share 30 = .ok (.istore_n 3, 1) := by decide +kernel
theorem dX4_share_31 : decode cX4_share 31 = .ok (.iload_n 3, 1) := by decide +kernel
theorem dX4_share_32 : decode cX4_share 32 = .ok (.invokestatic 107, 3) := by decide +kernel
theorem dX4_share_35 : decode cX4_share 35 = .ok (.iload_n 1, 1) := by decide +kernel
theorem dX4_share_36 : decode cX4_share 36 = .ok (.ifCond .ne 7, 3) := by decide +kernel
theorem dX4_share_39 : decode cX4_share 39 = .ok (.iload_n 2, 1) := by decide +kernel
theorem dX4_share_40 : decode cX4_share 40 = .ok (.goto 4, 3) := by decide +kernel
theorem dX4_share_43 : decode cX4_share 43 = .ok (.iload_n 3, 1) := by decide +kernel
theorem dX4_share_44 : decode cX4_share 44 = .ok (.iload_n 2, 1) := by decide +kernel
theorem dX4_share_45 : decode cX4_share 45 = .ok (.iload_n 3, 1) := by decide +kernel
theorem dX4_share_46 : decode cX4_share 46 = .ok (.invokestatic 111, 3) := by decide +kernel
theorem dX4_share_49 : decode cX4_share 49 = .ok (.ireturn, 1) := by decide +kernel
theorem dX4_placed_0 : decode cX4_placed 0 = .ok (.iload_n 1, 1) := by decide +kernel
theorem dX4_placed_1 : decode cX4_placed 1 = .ok (.iconst 1, 1) := by decide +kernel
theorem dX4_placed_2 : decode cX4_placed 2 = .ok (.bipush 100, 2) := by decide +kernel
theorem dX4_placed_4 : decode cX4_placed 4 = .ok (.invokestatic 58, 3) := by decide +kernel
theorem dX4_placed_7 : decode cX4_placed 7 = .ok (.aload_n 0, 1) := by decide +kernel
theorem dX4_placed_8 : decode cX4_placed 8 = .ok (.getfield 19, 3) := by decide +kernel
theorem dX4_placed_11 : decode cX4_placed 11 = .ok (.iload_n 1, 1) := by decide +kernel
theorem dX4_placed_12 : decode cX4_placed 12 = .ok (.aload_n 0, 1) := by decide +kernel
theorem dX4_placed_13 : decode cX4_placed 13 = .ok (.getfield 41, 3) := by decide +kernel
theorem dX4_placed_16 : decode cX4_placed 16 = .ok (.aload_n 0, 1) := by decide +kernel
theorem dX4_placed_17 : decode cX4_placed 17 = .ok (.getfield 45, 3) := by decide +kernel
theorem dX4_placed_20 : decode cX4_placed 20 = .ok (.aload_n 0, 1) := by decide +kernel
theorem dX4_placed_21 : decode cX4_placed 21 = .ok (.getfield 48, 3) := by decide +kernel
theorem dX4_placed_24 : decode cX4_placed 24 = .ok (.aload_n 0, 1) := by decide +kernel
theorem dX4_placed_25 : decode cX4_placed 25 = .ok (.getfield 51, 3) := by decide +kernel
theorem dX4_placed_28 : decode cX4_placed 28 = .ok (.invokevirtual 114, 3) := by decide +kernel
theorem dX4_placed_31 : decode cX4_placed 31 = .ok (.ireturn, 1) := by decide +kernel
theorem dX4_splits_0 : decode cX4_splits 0 = .ok (.aload_n 0, 1) := by decide +kernel
theorem dX4_splits_1 : decode cX4_splits 1 = .ok (.getfield 10, 3) := by decide +kernel
theorem dX4_splits_4 : decode cX4_splits 4 = .ok (.aload_n 0, 1) := by decide +kernel
theorem dX4_splits_5 : decode cX4_splits 5 = .ok (.getfield 41, 3) := by decide +kernel
theorem dX4_splits_8 : decode cX4_splits 8 = .ok (.aload_n 0, 1) := by decide +kernel
theorem dX4_splits_9 : decode cX4_splits 9 = .ok (.getfield 45, 3) := by decide +kernel
theorem dX4_splits_12 : decode cX4_splits 12 = .ok (.invokevirtual 117, 3) := by decide +kernel
theorem dX4_splits_15 : decode cX4_splits 15 = .ok (.ireturn, 1) := by decide +kernel
theorem dX4_compare_0 : decode cX4_compare 0 = .ok (.iload_n 1, 1) := by decide +kernel
theorem dX4_compare_1 : decode cX4_compare 1 = .ok (.iload_n 2, 1) := by decide +kernel
theorem dX4_compare_2 : decode cX4_compare 2 = .ok (.invokestatic 90, 3) := by decide +kernel
theorem dX4_compare_5 : decode cX4_compare 5 = .ok (.aload_n 0, 1) := by decide +kernel
theorem dX4_compare_6 : decode cX4_compare 6 = .ok (.aload_n 0, 1) := by decide +kernel
theorem dX4_compare_7 : decode cX4_compare 7 = .ok (.getfield 41, 3) := by decide +kernel
theorem dX4_compare_10 : decode cX4_compare 10 = .ok (.aload_n 0, 1) := by decide +kernel
theorem dX4_compare_11 : decode cX4_compare 11 = .ok (.getfield 45, 3) := by decide +kernel
theorem dX4_compare_14 : decode cX4_compare 14 = .ok (.invokevirtual 104, 3) := by decide +kernel
theorem dX4_compare_17 : decode cX4_compare 17 = .ok (.istore_n 3, 1) := by decide +kernel
theorem dX4_compare_18 : decode cX4_compare 18 = .ok (.aload_n 0, 1) := by decide +kernel
theorem dX4_compare_19 : decode cX4_compare 19 = .ok (.iload_n 1, 1) := by decide +kernel
theorem dX4_compare_20 : decode cX4_compare 20 = .ok (.iload_n 2, 1) := by decide +kernel
theorem dX4_compare_21 : decode cX4_compare 21 = .ok (.invokevirtual 104, 3) := by decide +kernel
theorem dX4_compare_24 : decode cX4_compare 24 = .ok (.istore 4, 2) := by decide +kernel
theorem dX4_compare_26 : decode cX4_compare 26 = .ok (.iload_n 3, 1) := by decide +kernel
theorem dX4_compare_27 : decode cX4_compare 27 = .ok (.invokestatic 107, 3) := by decide +kernel
theorem dX4_compare_30 : decode cX4_compare 30 = .ok (.iload 4, 2) := by decide +kernel
theorem dX4_compare_32 : decode cX4_compare 32 = .ok (.invokestatic 107, 3) := by decide +kernel
theorem dX4_compare_35 : decode cX4_compare 35 = .ok (.aload_n 0, 1) := by decide +kernel
theorem dX4_compare_36 : decode cX4_compare 36 = .ok (.aload_n 0, 1) := by decide +kernel
theorem dX4_compare_37 : decode cX4_compare 37 = .ok (.getfield 41, 3) := by decide +kernel
theorem dX4_compare_40 : decode cX4_compare 40 = .ok (.aload_n 0, 1) := by decide +kernel
theorem dX4_compare_41 : decode cX4_compare 41 = .ok (.getfield 45, 3) := by decide +kernel
theorem dX4_compare_44 : decode cX4_compare 44 = .ok (.invokevirtual 101, 3) := by decide +kernel
theorem dX4_compare_47 : decode cX4_compare 47 = .ok (.iload 4, 2) := by decide +kernel
theorem dX4_compare_49 : decode cX4_compare 49 = .ok (.imul, 1) := by decide +kernel
theorem dX4_compare_50 : decode cX4_compare 50 = .ok (.aload_n 0, 1) := by decide +kernel
theorem dX4_compare_51 : decode cX4_compare 51 = .ok (.iload_n 1, 1) := by decide +kernel
theorem dX4_compare_52 : decode cX4_compare 52 = .ok (.iload_n 2, 1) := by decide +kernel
theorem dX4_compare_53 : decode cX4_compare 53 = .ok (.invokevirtual 101, 3) := by decide +kernel
theorem dX4_compare_56 : decode cX4_compare 56 = .ok (.iload_n 3, 1) := by decide +kernel
theorem dX4_compare_57 : decode cX4_compare 57 = .ok (.imul, 1) := by decide +kernel
theorem dX4_compare_58 : decode cX4_compare 58 = .ok (.invokestatic 120, 3) := by decide +kernel
theorem dX4_compare_61 : decode cX4_compare 61 = .ok (.ireturn, 1) := by decide +kernel
theorem dX4_trend_0 : decode cX4_trend 0 = .ok (.iload 4, 2) := by decide +kernel
theorem dX4_trend_2 : decode cX4_trend 2 = .ok (.iconst 3, 1) := by decide +kernel
theorem dX4_trend_3 : decode cX4_trend 3 = .ok (.invokestatic 54, 3) := by decide +kernel
theorem dX4_trend_6 : decode cX4_trend 6 = .ok (.iload_n 3, 1) := by decide +kernel
theorem dX4_trend_7 : decode cX4_trend 7 = .ok (.iconst 2, 1) := by decide +kernel
theorem dX4_trend_8 : decode cX4_trend 8 = .ok (.bipush 6, 2) := by decide +kernel
theorem dX4_trend_10 : decode cX4_trend 10 = .ok (.invokestatic 58, 3) := by decide +kernel
theorem dX4_trend_13 : decode cX4_trend 13 = .ok (.iload_n 2, 1) := by decide +kernel
theorem dX4_trend_14 : decode cX4_trend 14 = .ok (.iconst 1, 1) := by decide +kernel
theorem dX4_trend_15 : decode cX4_trend 15 = .ok (.sipush 1000, 3) := by decide +kernel
theorem dX4_trend_18 : decode cX4_trend 18 = .ok (.invokestatic 58, 3) := by decide +kernel
theorem dX4_trend_21 : decode cX4_trend 21 = .ok (.iload_n 1, 1) := by decide +kernel
theorem dX4_trend_22 : decode cX4_trend 22 = .ok (.iconst 0, 1) := by decide +kernel
theorem dX4_trend_23 : decode cX4_trend 23 = .ok (.sipush 10000, 3) := by decide +kernel
theorem dX4_trend_26 : decode cX4_trend 26 = .ok (.iload_n 2, 1) := by decide +kernel
theorem dX4_trend_27 : decode cX4_trend 27 = .ok (.iload_n 3, 1) := by decide +kernel
theorem dX4_trend_28 : decode cX4_trend 28 = .ok (.imul, 1) := by decide +kernel
theorem dX4_trend_29 : decode cX4_trend 29 = .ok (.isub, 1) := by decide +kernel
theorem dX4_trend_30 : decode cX4_trend 30 = .ok (.invokestatic 58, 3) := by decide +kernel
theorem dX4_trend_33 : decode cX4_trend 33 = .ok (.aload_n 0, 1) := by decide +kernel
theorem dX4_trend_34 : decode cX4_trend 34 = .ok (.getfield 26, 3) := by decide +kernel
theorem dX4_trend_37 : decode cX4_trend 37 = .ok (.iload_n 3, 1) := by decide +kernel
theorem dX4_trend_38 : decode cX4_trend 38 = .ok (.invokevirtual 125, 3) := by decide +kernel
theorem dX4_trend_41 : decode cX4_trend 41 = .ok (.iconst 0, 1) := by decide +kernel
theorem dX4_trend_42 : decode cX4_trend 42 = .ok (.istore 5, 2) := by decide +kernel
theorem dX4_trend_44 : decode cX4_trend 44 = .ok (.iload 5, 2) := by decide +kernel
theorem dX4_trend_46 : decode cX4_trend 46 = .ok (.iload_n 3, 1) := by decide +kernel
theorem dX4_trend_47 : decode cX4_trend 47 = .ok (.if_icmp .ge 49, 3) := by decide +kernel
theorem dX4_trend_50 : decode cX4_trend 50 = .ok (.iload_n 1, 1) := by decide +kernel
theorem dX4_trend_51 : decode cX4_trend 51 = .ok (.iload 5, 2) := by decide +kernel
theorem dX4_trend_53 : decode cX4_trend 53 = .ok (.iload_n 2, 1) := by decide +kernel
theorem dX4_trend_54 : decode cX4_trend 54 = .ok (.imul, 1) := by decide +kernel
theorem dX4_trend_55 : decode cX4_trend 55 = .ok (.iadd, 1) := by decide +kernel
theorem dX4_trend_56 : decode cX4_trend 56 = .ok (.istore 6, 2) := by decide +kernel
theorem dX4_trend_58 : decode cX4_trend 58 = .ok (.aload_n 0, 1) := by decide +kernel
theorem dX4_trend_59 : decode cX4_trend 59 = .ok (.getfield 26, 3) := by decide +kernel
theorem dX4_trend_62 : decode cX4_trend 62 = .ok (.iload 5, 2) := by decide +kernel
theorem dX4_trend_64 : decode cX4_trend 64 = .ok (.aload_n 0, 1) := by decide +kernel
theorem dX4_trend_65 : decode cX4_trend 65 = .ok (.getfield 19, 3) := by decide +kernel
theorem dX4_trend_68 : decode cX4_trend 68 = .ok (.iload 6, 2) := by decide +kernel
theorem dX4_trend_70 : decode cX4_trend 70 = .ok (.iload 6, 2) := by decide +kernel
theorem dX4_trend_72 : decode cX4_trend 72 = .ok (.iload_n 2, 1) := by decide +kernel
theorem dX4_trend_73 : decode cX4_trend 73 = .ok (.iadd, 1) := by decide +kernel
theorem dX4_trend_74 : decode cX4_trend 74 = .ok (.iconst 1, 1) := by decide +kernel
theorem dX4_trend_75 : decode cX4_trend 75 = .ok (.isub, 1) := by decide +kernel
theorem dX4_trend_76 : decode cX4_trend 76 = .ok (.aload_n 0, 1) := by decide +kernel
theorem dX4_trend_77 : decode cX4_trend 77 = .ok (.getfield 48, 3) := by decide +kernel
theorem dX4_trend_80 : decode cX4_trend 80 = .ok (.aload_n 0, 1) := by decide +kernel
theorem dX4_trend_81 : decode cX4_trend 81 = .ok (.getfield 51, 3) := by decide +kernel
theorem dX4_trend_84 : decode cX4_trend 84 = .ok (.invokevirtual 128, 3) := by decide +kernel
theorem dX4_trend_87 : decode cX4_trend 87 = .ok (.invokevirtual 132, 3) := by decide +kernel
theorem dX4_trend_90 : decode cX4_trend 90 = .ok (.iinc 5 1, 3) := by decide +kernel
theorem dX4_trend_93 : decode cX4_trend 93 = .ok (.goto (-49), 3) := by decide +kernel
theorem dX4_trend_96 : decode cX4_trend 96 = .ok (.iload 4, 2) := by decide +kernel
theorem dX4_trend_98 : decode cX4_trend 98 = .ok (.ifCond .ne 11, 3) := by decide +kernel
theorem dX4_trend_101 : decode cX4_trend 101 = .ok (.aload_n 0, 1) := by decide +kernel
theorem dX4_trend_102 : decode cX4_trend 102 = .ok (.getfield 26, 3) := by decide +kernel
theorem dX4_trend_105 : decode cX4_trend 105 = .ok (.invokevirtual 135, 3) := by decide +kernel
theorem dX4_trend_108 : decode cX4_trend 108 = .ok (.ireturn, 1) := by decide +kernel
theorem dX4_trend_109 : decode cX4_trend 109 = .ok (.aload_n 0, 1) := by decide +kernel
theorem dX4_trend_110 : decode cX4_trend 110 = .ok (.getfield 26, 3) := by decide +kernel
theorem dX4_trend_113 : decode cX4_trend 113 = .ok (.aload_n 0, 1) := by decide +kernel
theorem dX4_trend_114 : decode cX4_trend 114 = .ok (.getfield 26, 3) := by decide +kernel
theorem dX4_trend_117 : decode cX4_trend 117 = .ok (.invokevirtual 135, 3) := by decide +kernel
theorem dX4_trend_120 : decode cX4_trend 120 = .ok (.invokevirtual 138, 3) := by decide +kernel
theorem dX4_trend_123 : decode cX4_trend 123 = .ok (.istore 5, 2) := by decide +kernel
theorem dX4_trend_125 : decode cX4_trend 125 = .ok (.aload_n 0, 1) := by decide +kernel
theorem dX4_trend_126 : decode cX4_trend 126 = .ok (.getfield 26, 3) := by decide +kernel
theorem dX4_trend_129 : decode cX4_trend 129 = .ok (.invokevirtual 142, 3) := by decide +kernel
theorem dX4_trend_132 : decode cX4_trend 132 = .ok (.istore 6, 2) := by decide +kernel
theorem dX4_trend_134 : decode cX4_trend 134 = .ok (.iload 4, 2) := by decide +kernel
theorem dX4_trend_136 : decode cX4_trend 136 = .ok (.iconst 1, 1) := by decide +kernel
theorem dX4_trend_137 : decode cX4_trend 137 = .ok (.if_icmp .ne 8, 3) := by decide +kernel
theorem dX4_trend_140 : decode cX4_trend 140 = .ok (.iload 5, 2) := by decide +kernel
theorem dX4_trend_142 : decode cX4_trend 142 = .ok (.goto 5, 3) := by decide +kernel
theorem dX4_trend_145 : decode cX4_trend 145 = .ok (.iload 6, 2) := by decide +kernel
theorem dX4_trend_147 : decode cX4_trend 147 = .ok (.iload 5, 2) := by decide +kernel
theorem dX4_trend_149 : decode cX4_trend 149 = .ok (.iload 6, 2) := by decide +kernel
theorem dX4_trend_151 : decode cX4_trend 151 = .ok (.invokestatic 111, 3) := by decide +kernel
theorem dX4_trend_154 : decode cX4_trend 154 = .ok (.ireturn, 1) := by decide +kernel
theorem dX4_people_0 : decode cX4_people 0 = .ok (.iload_n 1, 1) := by decide +kernel
theorem dX4_people_1 : decode cX4_people 1 = .ok (.bipush 10, 2) := by decide +kernel
theorem dX4_people_3 : decode cX4_people 3 = .ok (.invokestatic 54, 3) := by decide +kernel
theorem dX4_people_6 : decode cX4_people 6 = .ok (.iload_n 2, 1) := by decide +kernel
theorem dX4_people_7 : decode cX4_people 7 = .ok (.iconst 0, 1) := by decide +kernel
theorem dX4_people_8 : decode cX4_people 8 = .ok (.ldc 145, 2) := by decide +kernel
theorem dX4_people_10 : decode cX4_people 10 = .ok (.invokestatic 58, 3) := by decide +kernel
theorem dX4_people_13 : decode cX4_people 13 = .ok (.aload_n 0, 1) := by decide +kernel
theorem dX4_people_14 : decode cX4_people 14 = .ok (.getfield 37, 3) := by decide +kernel
theorem dX4_people_17 : decode cX4_people 17 = .ok (.iload_n 1, 1) := by decide +kernel
theorem dX4_people_18 : decode cX4_people 18 = .ok (.iload_n 2, 1) := by decide +kernel
theorem dX4_people_19 : decode cX4_people 19 = .ok (.iastore, 1) := by decide +kernel
theorem dX4_people_20 : decode cX4_people 20 = .ok (.return_, 1) := by decide +kernel
theorem dX4_perThousand_0 : decode cX4_perThousand 0 = .ok (.iload_n 1, 1) := by decide +kernel
theorem dX4_perThousand_1 : decode cX4_perThousand 1 = .ok (.bipush 10, 2) := by decide +kernel
theorem dX4_perThousand_3 : decode cX4_perThousand 3 = .ok (.invokestatic 54, 3) := by decide +kernel
theorem dX4_perThousand_6 : decode cX4_perThousand 6 = .ok (.aload_n 0, 1) := by decide +kernel
theorem dX4_perThousand_7 : decode cX4_perThousand 7 = .ok (.getfield 37, 3) := by decide +kernel
theorem dX4_perThousand_10 : decode cX4_perThousand 10 = .ok (.iload_n 1, 1) := by decide +kernel
theorem dX4_perThousand_11 : decode cX4_perThousand 11 = .ok (.iaload, 1) := by decide +kernel
theorem dX4_perThousand_12 : decode cX4_perThousand 12 = .ok (.istore_n 2, 1) := by decide +kernel
theorem dX4_perThousand_13 : decode cX4_perThousand 13 = .ok (.iload_n 2, 1) := by decide +kernel
theorem dX4_perThousand_14 : decode cX4_perThousand 14 = .ok (.ifCond .gt 13, 3) := by decide +kernel
theorem dX4_perThousand_17 : decode cX4_perThousand 17 = .ok (.new 146, 3) := by decide +kernel
theorem dX4_perThousand_20 : decode cX4_perThousand 20 = .ok (.dup, 1) := by decide +kernel
theorem dX4_perThousand_21 : decode cX4_perThousand 21 = .ok (.ldc 148, 2) := by decide +kernel
theorem dX4_perThousand_23 : decode cX4_perThousand 23 = .ok (.invokespecial 150, 3) := by decide +kernel
theorem dX4_perThousand_26 : decode cX4_perThousand 26 = .ok (.athrow, 1) := by decide +kernel
theorem dX4_perThousand_27 : decode cX4_perThousand 27 = .ok (.sipush 1000, 3) := by decide +kernel
theorem dX4_perThousand_30 : decode cX4_perThousand 30 = .ok (.aload_n 0, 1) := by decide +kernel
theorem dX4_perThousand_31 : decode cX4_perThousand 31 = .ok (.iload_n 1, 1) := by decide +kernel
theorem dX4_perThousand_32 : decode cX4_perThousand 32 = .ok (.invokevirtual 151, 3) := by decide +kernel
theorem dX4_perThousand_35 : decode cX4_perThousand 35 = .ok (.imul, 1) := by decide +kernel
theorem dX4_perThousand_36 : decode cX4_perThousand 36 = .ok (.iload_n 2, 1) := by decide +kernel
theorem dX4_perThousand_37 : decode cX4_perThousand 37 = .ok (.idiv, 1) := by decide +kernel
theorem dX4_perThousand_38 : decode cX4_perThousand 38 = .ok (.ireturn, 1) := by decide +kernel
theorem dX4_rank_0 : decode cX4_rank 0 = .ok (.iload_n 1, 1) := by decide +kernel
theorem dX4_rank_1 : decode cX4_rank 1 = .ok (.bipush 10, 2) := by decide +kernel
theorem dX4_rank_3 : decode cX4_rank 3 = .ok (.invokestatic 54, 3) := by decide +kernel
theorem dX4_rank_6 : decode cX4_rank 6 = .ok (.aload_n 0, 1) := by decide +kernel
theorem dX4_rank_7 : decode cX4_rank 7 = .ok (.iload_n 1, 1) := by decide +kernel
theorem dX4_rank_8 : decode cX4_rank 8 = .ok (.invokevirtual 151, 3) := by decide +kernel
theorem dX4_rank_11 : decode cX4_rank 11 = .ok (.istore_n 2, 1) := by decide +kernel
theorem dX4_rank_12 : decode cX4_rank 12 = .ok (.iconst 1, 1) := by decide +kernel
theorem dX4_rank_13 : decode cX4_rank 13 = .ok (.istore_n 3, 1) := by decide +kernel
theorem dX4_rank_14 : decode cX4_rank 14 = .ok (.iconst 0, 1) := by decide +kernel
theorem dX4_rank_15 : decode cX4_rank 15 = .ok (.istore 4, 2) := by decide +kernel
theorem dX4_rank_17 : decode cX4_rank 17 = .ok (.iload 4, 2) := by decide +kernel
theorem dX4_rank_19 : decode cX4_rank 19 = .ok (.bipush 10, 2) := by decide +kernel
theorem dX4_rank_21 : decode cX4_rank 21 = .ok (.if_icmp .ge 22, 3) := by decide +kernel
theorem dX4_rank_24 : decode cX4_rank 24 = .ok (.aload_n 0, 1) := by decide +kernel
theorem dX4_rank_25 : decode cX4_rank 25 = .ok (.iload 4, 2) := by decide +kernel
theorem dX4_rank_27 : decode cX4_rank 27 = .ok (.invokevirtual 151, 3) := by decide +kernel
theorem dX4_rank_30 : decode cX4_rank 30 = .ok (.iload_n 2, 1) := by decide +kernel
theorem dX4_rank_31 : decode cX4_rank 31 = .ok (.if_icmp .le 6, 3) := by decide +kernel
theorem dX4_rank_34 : decode cX4_rank 34 = .ok (.iinc 3 1, 3) := by decide +kernel
theorem dX4_rank_37 : decode cX4_rank 37 = .ok (.iinc 4 1, 3) := by decide +kernel
theorem dX4_rank_40 : decode cX4_rank 40 = .ok (.goto (-23), 3) := by decide +kernel
theorem dX4_rank_43 : decode cX4_rank 43 = .ok (.iload_n 3, 1) := by decide +kernel
theorem dX4_rank_44 : decode cX4_rank 44 = .ok (.ireturn, 1) := by decide +kernel
theorem dX4_least_0 : decode cX4_least 0 = .ok (.iload_n 1, 1) := by decide +kernel
theorem dX4_least_1 : decode cX4_least 1 = .ok (.iconst 1, 1) := by decide +kernel
theorem dX4_least_2 : decode cX4_least 2 = .ok (.bipush 100, 2) := by decide +kernel
theorem dX4_least_4 : decode cX4_least 4 = .ok (.invokestatic 58, 3) := by decide +kernel
theorem dX4_least_7 : decode cX4_least 7 = .ok (.aload_n 0, 1) := by decide +kernel
theorem dX4_least_8 : decode cX4_least 8 = .ok (.getfield 33, 3) := by decide +kernel
theorem dX4_least_11 : decode cX4_least 11 = .ok (.iload_n 1, 1) := by decide +kernel
theorem dX4_least_12 : decode cX4_least 12 = .ok (.invokevirtual 154, 3) := by decide +kernel
theorem dX4_least_15 : decode cX4_least 15 = .ok (.return_, 1) := by decide +kernel
theorem dX4_shown_0 : decode cX4_shown 0 = .ok (.iload_n 1, 1) := by decide +kernel
theorem dX4_shown_1 : decode cX4_shown 1 = .ok (.bipush 10, 2) := by decide +kernel
theorem dX4_shown_3 : decode cX4_shown 3 = .ok (.invokestatic 54, 3) := by decide +kernel
theorem dX4_shown_6 : decode cX4_shown 6 = .ok (.aload_n 0, 1) := by decide +kernel
theorem dX4_shown_7 : decode cX4_shown 7 = .ok (.getfield 33, 3) := by decide +kernel
theorem dX4_shown_10 : decode cX4_shown 10 = .ok (.aload_n 0, 1) := by decide +kernel
theorem dX4_shown_11 : decode cX4_shown 11 = .ok (.getfield 19, 3) := by decide +kernel
theorem dX4_shown_14 : decode cX4_shown 14 = .ok (.aload_n 0, 1) := by decide +kernel
theorem dX4_shown_15 : decode cX4_shown 15 = .ok (.getfield 41, 3) := by decide +kernel
theorem dX4_shown_18 : decode cX4_shown 18 = .ok (.aload_n 0, 1) := by decide +kernel
theorem dX4_shown_19 : decode cX4_shown 19 = .ok (.getfield 45, 3) := by decide +kernel
theorem dX4_shown_22 : decode cX4_shown 22 = .ok (.invokevirtual 157, 3) := by decide +kernel
theorem dX4_shown_25 : decode cX4_shown 25 = .ok (.aload_n 0, 1) := by decide +kernel
theorem dX4_shown_26 : decode cX4_shown 26 = .ok (.getfield 33, 3) := by decide +kernel
theorem dX4_shown_29 : decode cX4_shown 29 = .ok (.iload_n 1, 1) := by decide +kernel
theorem dX4_shown_30 : decode cX4_shown 30 = .ok (.invokevirtual 161, 3) := by decide +kernel
theorem dX4_shown_33 : decode cX4_shown 33 = .ok (.ireturn, 1) := by decide +kernel
theorem dX4_joined_0 : decode cX4_joined 0 = .ok (.aload_n 0, 1) := by decide +kernel
theorem dX4_joined_1 : decode cX4_joined 1 = .ok (.getfield 33, 3) := by decide +kernel
theorem dX4_joined_4 : decode cX4_joined 4 = .ok (.aload_n 0, 1) := by decide +kernel
theorem dX4_joined_5 : decode cX4_joined 5 = .ok (.getfield 19, 3) := by decide +kernel
theorem dX4_joined_8 : decode cX4_joined 8 = .ok (.aload_n 0, 1) := by decide +kernel
theorem dX4_joined_9 : decode cX4_joined 9 = .ok (.getfield 41, 3) := by decide +kernel
theorem dX4_joined_12 : decode cX4_joined 12 = .ok (.aload_n 0, 1) := by decide +kernel
theorem dX4_joined_13 : decode cX4_joined 13 = .ok (.getfield 45, 3) := by decide +kernel
theorem dX4_joined_16 : decode cX4_joined 16 = .ok (.invokevirtual 157, 3) := by decide +kernel
theorem dX4_joined_19 : decode cX4_joined 19 = .ok (.aload_n 0, 1) := by decide +kernel
theorem dX4_joined_20 : decode cX4_joined 20 = .ok (.getfield 33, 3) := by decide +kernel
theorem dX4_joined_23 : decode cX4_joined 23 = .ok (.invokevirtual 164, 3) := by decide +kernel
theorem dX4_joined_26 : decode cX4_joined 26 = .ok (.ireturn, 1) := by decide +kernel
theorem dX4_work_0 : decode cX4_work 0 = .ok (.iload_n 1, 1) := by decide +kernel
theorem dX4_work_1 : decode cX4_work 1 = .ok (.bipush 6, 2) := by decide +kernel
theorem dX4_work_3 : decode cX4_work 3 = .ok (.invokestatic 54, 3) := by decide +kernel
theorem dX4_work_6 : decode cX4_work 6 = .ok (.iload_n 2, 1) := by decide +kernel
theorem dX4_work_7 : decode cX4_work 7 = .ok (.iconst 2, 1) := by decide +kernel
theorem dX4_work_8 : decode cX4_work 8 = .ok (.invokestatic 54, 3) := by decide +kernel
theorem dX4_work_11 : decode cX4_work 11 = .ok (.iload_n 2, 1) := by decide +kernel
theorem dX4_work_12 : decode cX4_work 12 = .ok (.ifCond .ne 22, 3) := by decide +kernel
theorem dX4_work_15 : decode cX4_work 15 = .ok (.aload_n 0, 1) := by decide +kernel
theorem dX4_work_16 : decode cX4_work 16 = .ok (.getfield 19, 3) := by decide +kernel
theorem dX4_work_19 : decode cX4_work 19 = .ok (.iload_n 1, 1) := by decide +kernel
theorem dX4_work_20 : decode cX4_work 20 = .ok (.aload_n 0, 1) := by decide +kernel
theorem dX4_work_21 : decode cX4_work 21 = .ok (.getfield 41, 3) := by decide +kernel
theorem dX4_work_24 : decode cX4_work 24 = .ok (.aload_n 0, 1) := by decide +kernel
theorem dX4_work_25 : decode cX4_work 25 = .ok (.getfield 45, 3) := by decide +kernel
theorem dX4_work_28 : decode cX4_work 28 = .ok (.invokevirtual 167, 3) := by decide +kernel
theorem dX4_work_31 : decode cX4_work 31 = .ok (.goto 19, 3) := by decide +kernel
theorem dX4_work_34 : decode cX4_work 34 = .ok (.aload_n 0, 1) := by decide +kernel
theorem dX4_work_35 : decode cX4_work 35 = .ok (.getfield 19, 3) := by decide +kernel
theorem dX4_work_38 : decode cX4_work 38 = .ok (.iload_n 1, 1) := by decide +kernel
theorem dX4_work_39 : decode cX4_work 39 = .ok (.aload_n 0, 1) := by decide +kernel
theorem dX4_work_40 : decode cX4_work 40 = .ok (.getfield 41, 3) := by decide +kernel
theorem dX4_work_43 : decode cX4_work 43 = .ok (.aload_n 0, 1) := by decide +kernel
theorem dX4_work_44 : decode cX4_work 44 = .ok (.getfield 45, 3) := by decide +kernel
theorem dX4_work_47 : decode cX4_work 47 = .ok (.invokevirtual 170, 3) := by decide +kernel
theorem dX4_work_50 : decode cX4_work 50 = .ok (.ireturn, 1) := by decide +kernel
theorem dX4_askedTotal_0 : decode cX4_askedTotal 0 = .ok (.aload_n 0, 1) := by decide +kernel
theorem dX4_askedTotal_1 : decode cX4_askedTotal 1 = .ok (.getfield 19, 3) := by decide +kernel
theorem dX4_askedTotal_4 : decode cX4_askedTotal 4 = .ok (.iload_n 1, 1) := by decide +kernel
theorem dX4_askedTotal_5 : decode cX4_askedTotal 5 = .ok (.aload_n 0, 1) := by decide +kernel
theorem dX4_askedTotal_6 : decode cX4_askedTotal 6 = .ok (.getfield 10, 3) := by decide +kernel
theorem dX4_askedTotal_9 : decode cX4_askedTotal 9 = .ok (.iload_n 2, 1) := by decide +kernel
theorem dX4_askedTotal_10 : decode cX4_askedTotal 10 = .ok (.iload_n 3, 1) := by decide +kernel
theorem dX4_askedTotal_11 : decode cX4_askedTotal 11 = .ok (.aload_n 0, 1) := by decide +kernel
theorem dX4_askedTotal_12 : decode cX4_askedTotal 12 = .ok (.getfield 48, 3) := by decide +kernel
theorem dX4_askedTotal_15 : decode cX4_askedTotal 15 = .ok (.aload_n 0, 1) := by decide +kernel
theorem dX4_askedTotal_16 : decode cX4_askedTotal 16 = .ok (.getfield 51, 3) := by decide +kernel
theorem dX4_askedTotal_19 : decode cX4_askedTotal 19 = .ok (.invokevirtual 173, 3) := by decide +kernel
theorem dX4_askedTotal_22 : decode cX4_askedTotal 22 = .ok (.ireturn, 1) := by decide +kernel
theorem dX4_rowsWithin_0 : decode cX4_rowsWithin 0 = .ok (.aload_n 0, 1) := by decide +kernel
theorem dX4_rowsWithin_1 : decode cX4_rowsWithin 1 = .ok (.iconst 2, 1) := by decide +kernel
theorem dX4_rowsWithin_2 : decode cX4_rowsWithin 2 = .ok (.iload_n 1, 1) := by decide +kernel
theorem dX4_rowsWithin_3 : decode cX4_rowsWithin 3 = .ok (.iload_n 2, 1) := by decide +kernel
theorem dX4_rowsWithin_4 : decode cX4_rowsWithin 4 = .ok (.invokevirtual 93, 3) := by decide +kernel
theorem dX4_rowsWithin_7 : decode cX4_rowsWithin 7 = .ok (.ireturn, 1) := by decide +kernel
theorem dX4_rowsNotWithout_0 : decode cX4_rowsNotWithout 0 = .ok (.aload_n 0, 1) := by decide +kernel
theorem dX4_rowsNotWithout_1 : decode cX4_rowsNotWithout 1 = .ok (.iconst 0, 1) := by decide +kernel
theorem dX4_rowsNotWithout_2 : decode cX4_rowsNotWithout 2 = .ok (.iload_n 1, 1) := by decide +kernel
theorem dX4_rowsNotWithout_3 : decode cX4_rowsNotWithout 3 = .ok (.iload_n 2, 1) := by decide +kernel
theorem dX4_rowsNotWithout_4 : decode cX4_rowsNotWithout 4 = .ok (.invokevirtual 93, 3) := by decide +kernel
theorem dX4_rowsNotWithout_7 : decode cX4_rowsNotWithout 7 = .ok (.aload_n 0, 1) := by decide +kernel
theorem dX4_rowsNotWithout_8 : decode cX4_rowsNotWithout 8 = .ok (.iconst 3, 1) := by decide +kernel
theorem dX4_rowsNotWithout_9 : decode cX4_rowsNotWithout 9 = .ok (.iload_n 1, 1) := by decide +kernel
theorem dX4_rowsNotWithout_10 : decode cX4_rowsNotWithout 10 = .ok (.iload_n 2, 1) := by decide +kernel
theorem dX4_rowsNotWithout_11 : decode cX4_rowsNotWithout 11 = .ok (.invokevirtual 93, 3) := by decide +kernel
theorem dX4_rowsNotWithout_14 : decode cX4_rowsNotWithout 14 = .ok (.isub, 1) := by decide +kernel
theorem dX4_rowsNotWithout_15 : decode cX4_rowsNotWithout 15 = .ok (.ireturn, 1) := by decide +kernel
theorem dX4_rowsOfArea_0 : decode cX4_rowsOfArea 0 = .ok (.aload_n 0, 1) := by decide +kernel
theorem dX4_rowsOfArea_1 : decode cX4_rowsOfArea 1 = .ok (.getfield 19, 3) := by decide +kernel
theorem dX4_rowsOfArea_4 : decode cX4_rowsOfArea 4 = .ok (.aload_n 0, 1) := by decide +kernel
theorem dX4_rowsOfArea_5 : decode cX4_rowsOfArea 5 = .ok (.getfield 41, 3) := by decide +kernel
theorem dX4_rowsOfArea_8 : decode cX4_rowsOfArea 8 = .ok (.aload_n 0, 1) := by decide +kernel
theorem dX4_rowsOfArea_9 : decode cX4_rowsOfArea 9 = .ok (.getfield 45, 3) := by decide +kernel
theorem dX4_rowsOfArea_12 : decode cX4_rowsOfArea 12 = .ok (.aload_n 0, 1) := by decide +kernel
theorem dX4_rowsOfArea_13 : decode cX4_rowsOfArea 13 = .ok (.getfield 48, 3) := by decide +kernel
theorem dX4_rowsOfArea_16 : decode cX4_rowsOfArea 16 = .ok (.iload_n 1, 1) := by decide +kernel
theorem dX4_rowsOfArea_17 : decode cX4_rowsOfArea 17 = .ok (.invokevirtual 128, 3) := by decide +kernel
theorem dX4_rowsOfArea_20 : decode cX4_rowsOfArea 20 = .ok (.ireturn, 1) := by decide +kernel
theorem dX4_refuseUnknown_0 : decode cX4_refuseUnknown 0 = .ok (.iload_n 0, 1) := by decide +kernel
theorem dX4_refuseUnknown_1 : decode cX4_refuseUnknown 1 = .ok (.ifCond .lt 8, 3) := by decide +kernel
theorem dX4_refuseUnknown_4 : decode cX4_refuseUnknown 4 = .ok (.iload_n 0, 1) := by decide +kernel
theorem dX4_refuseUnknown_5 : decode cX4_refuseUnknown 5 = .ok (.iload_n 1, 1) := by decide +kernel
theorem dX4_refuseUnknown_6 : decode cX4_refuseUnknown 6 = .ok (.if_icmp .lt 13, 3) := by decide +kernel
theorem dX4_refuseUnknown_9 : decode cX4_refuseUnknown 9 = .ok (.new 177, 3) := by decide +kernel
theorem dX4_refuseUnknown_12 : decode cX4_refuseUnknown 12 = .ok (.dup, 1) := by decide +kernel
theorem dX4_refuseUnknown_13 : decode cX4_refuseUnknown 13 = .ok (.ldc 179, 2) := by decide +kernel
theorem dX4_refuseUnknown_15 : decode cX4_refuseUnknown 15 = .ok (.invokespecial 181, 3) := by decide +kernel
theorem dX4_refuseUnknown_18 : decode cX4_refuseUnknown 18 = .ok (.athrow, 1) := by decide +kernel
theorem dX4_refuseUnknown_19 : decode cX4_refuseUnknown 19 = .ok (.return_, 1) := by decide +kernel
theorem dX4_refuseOutside_0 : decode cX4_refuseOutside 0 = .ok (.iload_n 0, 1) := by decide +kernel
theorem dX4_refuseOutside_1 : decode cX4_refuseOutside 1 = .ok (.iload_n 1, 1) := by decide +kernel
theorem dX4_refuseOutside_2 : decode cX4_refuseOutside 2 = .ok (.if_icmp .lt 8, 3) := by decide +kernel
theorem dX4_refuseOutside_5 : decode cX4_refuseOutside 5 = .ok (.iload_n 0, 1) := by decide +kernel
theorem dX4_refuseOutside_6 : decode cX4_refuseOutside 6 = .ok (.iload_n 2, 1) := by decide +kernel
theorem dX4_refuseOutside_7 : decode cX4_refuseOutside 7 = .ok (.if_icmp .le 13, 3) := by decide +kernel
theorem dX4_refuseOutside_10 : decode cX4_refuseOutside 10 = .ok (.new 182, 3) := by decide +kernel
theorem dX4_refuseOutside_13 : decode cX4_refuseOutside 13 = .ok (.dup, 1) := by decide +kernel
theorem dX4_refuseOutside_14 : decode cX4_refuseOutside 14 = .ok (.ldc 184, 2) := by decide +kernel
theorem dX4_refuseOutside_16 : decode cX4_refuseOutside 16 = .ok (.invokespecial 186, 3) := by decide +kernel
theorem dX4_refuseOutside_19 : decode cX4_refuseOutside 19 = .ok (.athrow, 1) := by decide +kernel
theorem dX4_refuseOutside_20 : decode cX4_refuseOutside 20 = .ok (.return_, 1) := by decide +kernel
theorem dX4_refuseNoSpan_0 : decode cX4_refuseNoSpan 0 = .ok (.iload_n 0, 1) := by decide +kernel
theorem dX4_refuseNoSpan_1 : decode cX4_refuseNoSpan 1 = .ok (.iconst 0, 1) := by decide +kernel
theorem dX4_refuseNoSpan_2 : decode cX4_refuseNoSpan 2 = .ok (.sipush 9999, 3) := by decide +kernel
theorem dX4_refuseNoSpan_5 : decode cX4_refuseNoSpan 5 = .ok (.invokestatic 58, 3) := by decide +kernel
theorem dX4_refuseNoSpan_8 : decode cX4_refuseNoSpan 8 = .ok (.iload_n 1, 1) := by decide +kernel
theorem dX4_refuseNoSpan_9 : decode cX4_refuseNoSpan 9 = .ok (.iload_n 0, 1) := by decide +kernel
theorem dX4_refuseNoSpan_10 : decode cX4_refuseNoSpan 10 = .ok (.sipush 9999, 3) := by decide +kernel
theorem dX4_refuseNoSpan_13 : decode cX4_refuseNoSpan 13 = .ok (.invokestatic 58, 3) := by decide +kernel
theorem dX4_refuseNoSpan_16 : decode cX4_refuseNoSpan 16 = .ok (.return_, 1) := by decide +kernel
theorem dX4_refuseNoShare_0 : decode cX4_refuseNoShare 0 = .ok (.iload_n 0, 1) := by decide +kernel
theorem dX4_refuseNoShare_1 : decode cX4_refuseNoShare 1 = .ok (.ifCond .gt 13, 3) := by decide +kernel
theorem dX4_refuseNoShare_4 : decode cX4_refuseNoShare 4 = .ok (.new 146, 3) := by decide +kernel
theorem dX4_refuseNoShare_7 : decode cX4_refuseNoShare 7 = .ok (.dup, 1) := by decide +kernel
theorem dX4_refuseNoShare_8 : decode cX4_refuseNoShare 8 = .ok (.ldc 187, 2) := by decide +kernel
theorem dX4_refuseNoShare_10 : decode cX4_refuseNoShare 10 = .ok (.invokespecial 150, 3) := by decide +kernel
theorem dX4_refuseNoShare_13 : decode cX4_refuseNoShare 13 = .ok (.athrow, 1) := by decide +kernel
theorem dX4_refuseNoShare_14 : decode cX4_refuseNoShare 14 = .ok (.return_, 1) := by decide +kernel
theorem dX4_inLowestTerms_0 : decode cX4_inLowestTerms 0 = .ok (.iload_n 1, 1) := by decide +kernel
theorem dX4_inLowestTerms_1 : decode cX4_inLowestTerms 1 = .ok (.iload_n 2, 1) := by decide +kernel
theorem dX4_inLowestTerms_2 : decode cX4_inLowestTerms 2 = .ok (.invokestatic 189, 3) := by decide +kernel
theorem dX4_inLowestTerms_5 : decode cX4_inLowestTerms 5 = .ok (.istore_n 3, 1) := by decide +kernel
theorem dX4_inLowestTerms_6 : decode cX4_inLowestTerms 6 = .ok (.iload_n 3, 1) := by decide +kernel
theorem dX4_inLowestTerms_7 : decode cX4_inLowestTerms 7 = .ok (.ifCond .le 9, 3) := by decide +kernel
theorem dX4_inLowestTerms_10 : decode cX4_inLowestTerms 10 = .ok (.iload_n 0, 1) := by decide +kernel
theorem dX4_inLowestTerms_11 : decode cX4_inLowestTerms 11 = .ok (.iload_n 3, 1) := by decide +kernel
theorem dX4_inLowestTerms_12 : decode cX4_inLowestTerms 12 = .ok (.idiv, 1) := by decide +kernel
theorem dX4_inLowestTerms_13 : decode cX4_inLowestTerms 13 = .ok (.goto 4, 3) := by decide +kernel
theorem dX4_inLowestTerms_16 : decode cX4_inLowestTerms 16 = .ok (.iload_n 0, 1) := by decide +kernel
theorem dX4_inLowestTerms_17 : decode cX4_inLowestTerms 17 = .ok (.ireturn, 1) := by decide +kernel
theorem dX4_commonDivisor_0 : decode cX4_commonDivisor 0 = .ok (.iload_n 0, 1) := by decide +kernel
theorem dX4_commonDivisor_1 : decode cX4_commonDivisor 1 = .ok (.istore_n 2, 1) := by decide +kernel
theorem dX4_commonDivisor_2 : decode cX4_commonDivisor 2 = .ok (.iload_n 1, 1) := by decide +kernel
theorem dX4_commonDivisor_3 : decode cX4_commonDivisor 3 = .ok (.istore_n 3, 1) := by decide +kernel
theorem dX4_commonDivisor_4 : decode cX4_commonDivisor 4 = .ok (.iconst 0, 1) := by decide +kernel
theorem dX4_commonDivisor_5 : decode cX4_commonDivisor 5 = .ok (.istore 4, 2) := by decide +kernel
theorem dX4_commonDivisor_7 : decode cX4_commonDivisor 7 = .ok (.iload 4, 2) := by decide +kernel
theorem dX4_commonDivisor_9 : decode cX4_commonDivisor 9 = .ok (.bipush 64, 2) := by decide +kernel
theorem dX4_commonDivisor_11 : decode cX4_commonDivisor 11 = .ok (.if_icmp .ge 23, 3) := by decide +kernel
theorem dX4_commonDivisor_14 : decode cX4_commonDivisor 14 = .ok (.iload_n 3, 1) := by decide +kernel
theorem dX4_commonDivisor_15 : decode cX4_commonDivisor 15 = .ok (.ifCond .eq 19, 3) := by decide +kernel
theorem dX4_commonDivisor_18 : decode cX4_commonDivisor 18 = .ok (.iload_n 2, 1) := by decide +kernel
theorem dX4_commonDivisor_19 : decode cX4_commonDivisor 19 = .ok (.iload_n 3, 1) := by decide +kernel
theorem dX4_commonDivisor_20 : decode cX4_commonDivisor 20 = .ok (.irem, 1) := by decide +kernel
theorem dX4_commonDivisor_21 : decode cX4_commonDivisor 21 = .ok (.istore 5, 2) := by decide +kernel
theorem dX4_commonDivisor_23 : decode cX4_commonDivisor 23 = .ok (.iload_n 3, 1) := by decide +kernel
theorem dX4_commonDivisor_24 : decode cX4_commonDivisor 24 = .ok (.istore_n 2, 1) := by decide +kernel
theorem dX4_commonDivisor_25 : decode cX4_commonDivisor 25 = .ok (.iload 5, 2) := by decide +kernel
theorem dX4_commonDivisor_27 : decode cX4_commonDivisor 27 = .ok (.istore_n 3, 1) := by decide +kernel
theorem dX4_commonDivisor_28 : decode cX4_commonDivisor 28 = .ok (.iinc 4 1, 3) := by decide +kernel
theorem dX4_commonDivisor_31 : decode cX4_commonDivisor 31 = .ok (.goto (-24), 3) := by decide +kernel
theorem dX4_commonDivisor_34 : decode cX4_commonDivisor 34 = .ok (.iload_n 2, 1) := by decide +kernel
theorem dX4_commonDivisor_35 : decode cX4_commonDivisor 35 = .ok (.ireturn, 1) := by decide +kernel
