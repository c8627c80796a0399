theorem d_G_init_0 : decode c_G_init 0 = .ok (.aload_n 0, 1) := by decide +kernel
theorem d_G_init_1 : decode c_G_init 1 = .ok (.invokespecial 3, 3) := by decide +kernel
theorem d_G_init_4 : decode c_G_init 4 = .ok (.aload_n 0, 1) := by decide +kernel
theorem d_G_init_5 : decode c_G_init 5 = .ok (.new 9, 3) := by decide +kernel
theorem d_G_init_8 : decode c_G_init 8 = .ok (.dup, 1) := by decide +kernel
theorem d_G_init_9 : decode c_G_init 9 = .ok (.invokespecial 11, 3) := by decide +kernel
theorem d_G_init_12 : decode c_G_init 12 = .ok (.putfield 12, 3) := by decide +kernel
theorem d_G_init_15 : decode c_G_init 15 = .ok (.aload_n 0, 1) := by decide +kernel
theorem d_G_init_16 : decode c_G_init 16 = .ok (.new 16, 3) := by decide +kernel
theorem d_G_init_19 : decode c_G_init 19 = .ok (.dup, 1) := by decide +kernel
theorem d_G_init_20 : decode c_G_init 20 = .ok (.invokespecial 18, 3) := by decide +kernel
theorem d_G_init_23 : decode c_G_init 23 = .ok (.putfield 19, 3) := by decide +kernel
theorem d_G_init_26 : decode c_G_init 26 = .ok (.aload_n 0, 1) := by decide +kernel
theorem d_G_init_27 : decode c_G_init 27 = .ok (.new 23, 3) := by decide +kernel
theorem d_G_init_30 : decode c_G_init 30 = .ok (.dup, 1) := by decide +kernel
theorem d_G_init_31 : decode c_G_init 31 = .ok (.invokespecial 25, 3) := by decide +kernel
theorem d_G_init_34 : decode c_G_init 34 = .ok (.putfield 26, 3) := by decide +kernel
theorem d_G_init_37 : decode c_G_init 37 = .ok (.aload_n 0, 1) := by decide +kernel
theorem d_G_init_38 : decode c_G_init 38 = .ok (.iconst 4, 1) := by decide +kernel
theorem d_G_init_39 : decode c_G_init 39 = .ok (.newarray .int, 2) := by decide +kernel
theorem d_G_init_41 : decode c_G_init 41 = .ok (.putfield 30, 3) := by decide +kernel
theorem d_G_init_44 : decode c_G_init 44 = .ok (.aload_n 0, 1) := by decide +kernel
theorem d_G_init_45 : decode c_G_init 45 = .ok (.new 34, 3) := by decide +kernel
theorem d_G_init_48 : decode c_G_init 48 = .ok (.dup, 1) := by decide +kernel
theorem d_G_init_49 : decode c_G_init 49 = .ok (.aload_n 0, 1) := by decide +kernel
theorem d_G_init_50 : decode c_G_init 50 = .ok (.getfield 12, 3) := by decide +kernel
theorem d_G_init_53 : decode c_G_init 53 = .ok (.aload_n 0, 1) := by decide +kernel
theorem d_G_init_54 : decode c_G_init 54 = .ok (.getfield 26, 3) := by decide +kernel
theorem d_G_init_57 : decode c_G_init 57 = .ok (.invokespecial 36, 3) := by decide +kernel
theorem d_G_init_60 : decode c_G_init 60 = .ok (.putfield 39, 3) := by decide +kernel
theorem d_G_init_63 : decode c_G_init 63 = .ok (.aload_n 0, 1) := by decide +kernel
theorem d_G_init_64 : decode c_G_init 64 = .ok (.new 43, 3) := by decide +kernel
theorem d_G_init_67 : decode c_G_init 67 = .ok (.dup, 1) := by decide +kernel
theorem d_G_init_68 : decode c_G_init 68 = .ok (.aload_n 0, 1) := by decide +kernel
theorem d_G_init_69 : decode c_G_init 69 = .ok (.getfield 19, 3) := by decide +kernel
theorem d_G_init_72 : decode c_G_init 72 = .ok (.new 45, 3) := by decide +kernel
theorem d_G_init_75 : decode c_G_init 75 = .ok (.dup, 1) := by decide +kernel
theorem d_G_init_76 : decode c_G_init 76 = .ok (.aload_n 0, 1) := by decide +kernel
theorem d_G_init_77 : decode c_G_init 77 = .ok (.getfield 39, 3) := by decide +kernel
theorem d_G_init_80 : decode c_G_init 80 = .ok (.aload_n 0, 1) := by decide +kernel
theorem d_G_init_81 : decode c_G_init 81 = .ok (.getfield 30, 3) := by decide +kernel
theorem d_G_init_84 : decode c_G_init 84 = .ok (.invokespecial 47, 3) := by decide +kernel
theorem d_G_init_87 : decode c_G_init 87 = .ok (.invokespecial 50, 3) := by decide +kernel
theorem d_G_init_90 : decode c_G_init 90 = .ok (.putfield 53, 3) := by decide +kernel
theorem d_G_init_93 : decode c_G_init 93 = .ok (.return_, 1) := by decide +kernel
theorem d_G_type_0 : decode c_G_type 0 = .ok (.aload_n 0, 1) := by decide +kernel
theorem d_G_type_1 : decode c_G_type 1 = .ok (.getfield 12, 3) := by decide +kernel
theorem d_G_type_4 : decode c_G_type 4 = .ok (.getfield 57, 3) := by decide +kernel
theorem d_G_type_7 : decode c_G_type 7 = .ok (.iconst 5, 1) := by decide +kernel
theorem d_G_type_8 : decode c_G_type 8 = .ok (.if_icmp .ge 13, 3) := by decide +kernel
theorem d_G_type_11 : decode c_G_type 11 = .ok (.aload_n 0, 1) := by decide +kernel
theorem d_G_type_12 : decode c_G_type 12 = .ok (.getfield 19, 3) := by decide +kernel
theorem d_G_type_15 : decode c_G_type 15 = .ok (.getfield 61, 3) := by decide +kernel
theorem d_G_type_18 : decode c_G_type 18 = .ok (.ifCond .le 6, 3) := by decide +kernel
theorem d_G_type_21 : decode c_G_type 21 = .ok (.bipush (-2), 2) := by decide +kernel
theorem d_G_type_23 : decode c_G_type 23 = .ok (.ireturn, 1) := by decide +kernel
theorem d_G_type_24 : decode c_G_type 24 = .ok (.aload_n 0, 1) := by decide +kernel
theorem d_G_type_25 : decode c_G_type 25 = .ok (.getfield 12, 3) := by decide +kernel
theorem d_G_type_28 : decode c_G_type 28 = .ok (.invokevirtual 64, 3) := by decide +kernel
theorem d_G_type_31 : decode c_G_type 31 = .ok (.ireturn, 1) := by decide +kernel
theorem d_G_field_0 : decode c_G_field 0 = .ok (.aload_n 0, 1) := by decide +kernel
theorem d_G_field_1 : decode c_G_field 1 = .ok (.getfield 12, 3) := by decide +kernel
theorem d_G_field_4 : decode c_G_field 4 = .ok (.iload_n 1, 1) := by decide +kernel
theorem d_G_field_5 : decode c_G_field 5 = .ok (.invokevirtual 68, 3) := by decide +kernel
theorem d_G_field_8 : decode c_G_field 8 = .ok (.ifCond .eq 21, 3) := by decide +kernel
theorem d_G_field_11 : decode c_G_field 11 = .ok (.iload_n 2, 1) := by decide +kernel
theorem d_G_field_12 : decode c_G_field 12 = .ok (.iconst 0, 1) := by decide +kernel
theorem d_G_field_13 : decode c_G_field 13 = .ok (.iconst 2, 1) := by decide +kernel
theorem d_G_field_14 : decode c_G_field 14 = .ok (.invokestatic 72, 3) := by decide +kernel
theorem d_G_field_17 : decode c_G_field 17 = .ok (.ifCond .eq 12, 3) := by decide +kernel
theorem d_G_field_20 : decode c_G_field 20 = .ok (.iload_n 3, 1) := by decide +kernel
theorem d_G_field_21 : decode c_G_field 21 = .ok (.iconst 0, 1) := by decide +kernel
theorem d_G_field_22 : decode c_G_field 22 = .ok (.iconst 5, 1) := by decide +kernel
theorem d_G_field_23 : decode c_G_field 23 = .ok (.invokestatic 72, 3) := by decide +kernel
theorem d_G_field_26 : decode c_G_field 26 = .ok (.ifCond .ne 5, 3) := by decide +kernel
theorem d_G_field_29 : decode c_G_field 29 = .ok (.iconst (-1), 1) := by decide +kernel
theorem d_G_field_30 : decode c_G_field 30 = .ok (.ireturn, 1) := by decide +kernel
theorem d_G_field_31 : decode c_G_field 31 = .ok (.iload_n 2, 1) := by decide +kernel
theorem d_G_field_32 : decode c_G_field 32 = .ok (.ifCond .eq 21, 3) := by decide +kernel
theorem d_G_field_35 : decode c_G_field 35 = .ok (.iload_n 3, 1) := by decide +kernel
theorem d_G_field_36 : decode c_G_field 36 = .ok (.iconst 5, 1) := by decide +kernel
theorem d_G_field_37 : decode c_G_field 37 = .ok (.if_icmp .eq 16, 3) := by decide +kernel
theorem d_G_field_40 : decode c_G_field 40 = .ok (.aload_n 0, 1) := by decide +kernel
theorem d_G_field_41 : decode c_G_field 41 = .ok (.getfield 12, 3) := by decide +kernel
theorem d_G_field_44 : decode c_G_field 44 = .ok (.iload_n 3, 1) := by decide +kernel
theorem d_G_field_45 : decode c_G_field 45 = .ok (.invokevirtual 68, 3) := by decide +kernel
theorem d_G_field_48 : decode c_G_field 48 = .ok (.ifCond .ne 5, 3) := by decide +kernel
theorem d_G_field_51 : decode c_G_field 51 = .ok (.iconst (-1), 1) := by decide +kernel
theorem d_G_field_52 : decode c_G_field 52 = .ok (.ireturn, 1) := by decide +kernel
theorem d_G_field_53 : decode c_G_field 53 = .ok (.aload_n 0, 1) := by decide +kernel
theorem d_G_field_54 : decode c_G_field 54 = .ok (.getfield 19, 3) := by decide +kernel
theorem d_G_field_57 : decode c_G_field 57 = .ok (.getfield 61, 3) := by decide +kernel
theorem d_G_field_60 : decode c_G_field 60 = .ok (.ifCond .gt 16, 3) := by decide +kernel
theorem d_G_field_63 : decode c_G_field 63 = .ok (.aload_n 0, 1) := by decide +kernel
theorem d_G_field_64 : decode c_G_field 64 = .ok (.getfield 12, 3) := by decide +kernel
theorem d_G_field_67 : decode c_G_field 67 = .ok (.getfield 76, 3) := by decide +kernel
theorem d_G_field_70 : decode c_G_field 70 = .ok (.iload_n 1, 1) := by decide +kernel
theorem d_G_field_71 : decode c_G_field 71 = .ok (.iaload, 1) := by decide +kernel
theorem d_G_field_72 : decode c_G_field 72 = .ok (.iconst 4, 1) := by decide +kernel
theorem d_G_field_73 : decode c_G_field 73 = .ok (.if_icmp .lt 6, 3) := by decide +kernel
theorem d_G_field_76 : decode c_G_field 76 = .ok (.bipush (-2), 2) := by decide +kernel
theorem d_G_field_78 : decode c_G_field 78 = .ok (.ireturn, 1) := by decide +kernel
theorem d_G_field_79 : decode c_G_field 79 = .ok (.aload_n 0, 1) := by decide +kernel
theorem d_G_field_80 : decode c_G_field 80 = .ok (.getfield 12, 3) := by decide +kernel
theorem d_G_field_83 : decode c_G_field 83 = .ok (.iload_n 1, 1) := by decide +kernel
theorem d_G_field_84 : decode c_G_field 84 = .ok (.iload_n 2, 1) := by decide +kernel
theorem d_G_field_85 : decode c_G_field 85 = .ok (.iload_n 3, 1) := by decide +kernel
theorem d_G_field_86 : decode c_G_field 86 = .ok (.iload 4, 2) := by decide +kernel
theorem d_G_field_88 : decode c_G_field 88 = .ok (.invokevirtual 79, 3) := by decide +kernel
theorem d_G_field_91 : decode c_G_field 91 = .ok (.ireturn, 1) := by decide +kernel
theorem d_G_row_0 : decode c_G_row 0 = .ok (.aload_n 0, 1) := by decide +kernel
theorem d_G_row_1 : decode c_G_row 1 = .ok (.getfield 12, 3) := by decide +kernel
theorem d_G_row_4 : decode c_G_row 4 = .ok (.iload_n 1, 1) := by decide +kernel
theorem d_G_row_5 : decode c_G_row 5 = .ok (.invokevirtual 68, 3) := by decide +kernel
theorem d_G_row_8 : decode c_G_row 8 = .ok (.ifCond .ne 5, 3) := by decide +kernel
theorem d_G_row_11 : decode c_G_row 11 = .ok (.iconst (-1), 1) := by decide +kernel
theorem d_G_row_12 : decode c_G_row 12 = .ok (.ireturn, 1) := by decide +kernel
theorem d_G_row_13 : decode c_G_row 13 = .ok (.aload_n 0, 1) := by decide +kernel
theorem d_G_row_14 : decode c_G_row 14 = .ok (.getfield 19, 3) := by decide +kernel
theorem d_G_row_17 : decode c_G_row 17 = .ok (.getfield 61, 3) := by decide +kernel
theorem d_G_row_20 : decode c_G_row 20 = .ok (.bipush 12, 2) := by decide +kernel
theorem d_G_row_22 : decode c_G_row 22 = .ok (.if_icmp .lt 6, 3) := by decide +kernel
theorem d_G_row_25 : decode c_G_row 25 = .ok (.bipush (-2), 2) := by decide +kernel
theorem d_G_row_27 : decode c_G_row 27 = .ok (.ireturn, 1) := by decide +kernel
theorem d_G_row_28 : decode c_G_row 28 = .ok (.aload_n 0, 1) := by decide +kernel
theorem d_G_row_29 : decode c_G_row 29 = .ok (.getfield 19, 3) := by decide +kernel
theorem d_G_row_32 : decode c_G_row 32 = .ok (.iload_n 1, 1) := by decide +kernel
theorem d_G_row_33 : decode c_G_row 33 = .ok (.invokevirtual 83, 3) := by decide +kernel
theorem d_G_row_36 : decode c_G_row 36 = .ok (.ireturn, 1) := by decide +kernel
theorem d_G_put_0 : decode c_G_put 0 = .ok (.aload_n 0, 1) := by decide +kernel
theorem d_G_put_1 : decode c_G_put 1 = .ok (.iload_n 1, 1) := by decide +kernel
theorem d_G_put_2 : decode c_G_put 2 = .ok (.iload_n 2, 1) := by decide +kernel
theorem d_G_put_3 : decode c_G_put 3 = .ok (.invokevirtual 87, 3) := by decide +kernel
theorem d_G_put_6 : decode c_G_put 6 = .ok (.ifCond .ne 14, 3) := by decide +kernel
theorem d_G_put_9 : decode c_G_put 9 = .ok (.iload_n 3, 1) := by decide +kernel
theorem d_G_put_10 : decode c_G_put 10 = .ok (.iconst 0, 1) := by decide +kernel
theorem d_G_put_11 : decode c_G_put 11 = .ok (.sipush 999, 3) := by decide +kernel
theorem d_G_put_14 : decode c_G_put 14 = .ok (.invokestatic 72, 3) := by decide +kernel
theorem d_G_put_17 : decode c_G_put 17 = .ok (.ifCond .ne 5, 3) := by decide +kernel
theorem d_G_put_20 : decode c_G_put 20 = .ok (.iconst (-1), 1) := by decide +kernel
theorem d_G_put_21 : decode c_G_put 21 = .ok (.ireturn, 1) := by decide +kernel
theorem d_G_put_22 : decode c_G_put 22 = .ok (.aload_n 0, 1) := by decide +kernel
theorem d_G_put_23 : decode c_G_put 23 = .ok (.getfield 19, 3) := by decide +kernel
theorem d_G_put_26 : decode c_G_put 26 = .ok (.iload_n 1, 1) := by decide +kernel
theorem d_G_put_27 : decode c_G_put 27 = .ok (.iload_n 2, 1) := by decide +kernel
theorem d_G_put_28 : decode c_G_put 28 = .ok (.iload_n 3, 1) := by decide +kernel
theorem d_G_put_29 : decode c_G_put 29 = .ok (.invokevirtual 91, 3) := by decide +kernel
theorem d_G_put_32 : decode c_G_put 32 = .ok (.iconst 0, 1) := by decide +kernel
theorem d_G_put_33 : decode c_G_put 33 = .ok (.ireturn, 1) := by decide +kernel
theorem d_G_link_0 : decode c_G_link 0 = .ok (.aload_n 0, 1) := by decide +kernel
theorem d_G_link_1 : decode c_G_link 1 = .ok (.iload_n 1, 1) := by decide +kernel
theorem d_G_link_2 : decode c_G_link 2 = .ok (.iload_n 2, 1) := by decide +kernel
theorem d_G_link_3 : decode c_G_link 3 = .ok (.invokevirtual 87, 3) := by decide +kernel
theorem d_G_link_6 : decode c_G_link 6 = .ok (.istore 4, 2) := by decide +kernel
theorem d_G_link_8 : decode c_G_link 8 = .ok (.iload 4, 2) := by decide +kernel
theorem d_G_link_10 : decode c_G_link 10 = .ok (.iconst 1, 1) := by decide +kernel
theorem d_G_link_11 : decode c_G_link 11 = .ok (.if_icmp .eq 9, 3) := by decide +kernel
theorem d_G_link_14 : decode c_G_link 14 = .ok (.iload 4, 2) := by decide +kernel
theorem d_G_link_16 : decode c_G_link 16 = .ok (.iconst 2, 1) := by decide +kernel
theorem d_G_link_17 : decode c_G_link 17 = .ok (.if_icmp .ne 14, 3) := by decide +kernel
theorem d_G_link_20 : decode c_G_link 20 = .ok (.aload_n 0, 1) := by decide +kernel
theorem d_G_link_21 : decode c_G_link 21 = .ok (.getfield 19, 3) := by decide +kernel
theorem d_G_link_24 : decode c_G_link 24 = .ok (.iload_n 3, 1) := by decide +kernel
theorem d_G_link_25 : decode c_G_link 25 = .ok (.invokevirtual 95, 3) := by decide +kernel
theorem d_G_link_28 : decode c_G_link 28 = .ok (.ifCond .ne 5, 3) := by decide +kernel
theorem d_G_link_31 : decode c_G_link 31 = .ok (.iconst (-1), 1) := by decide +kernel
theorem d_G_link_32 : decode c_G_link 32 = .ok (.ireturn, 1) := by decide +kernel
theorem d_G_link_33 : decode c_G_link 33 = .ok (.aload_n 0, 1) := by decide +kernel
theorem d_G_link_34 : decode c_G_link 34 = .ok (.getfield 12, 3) := by decide +kernel
theorem d_G_link_37 : decode c_G_link 37 = .ok (.aload_n 0, 1) := by decide +kernel
theorem d_G_link_38 : decode c_G_link 38 = .ok (.getfield 19, 3) := by decide +kernel
theorem d_G_link_41 : decode c_G_link 41 = .ok (.iload_n 1, 1) := by decide +kernel
theorem d_G_link_42 : decode c_G_link 42 = .ok (.invokevirtual 98, 3) := by decide +kernel
theorem d_G_link_45 : decode c_G_link 45 = .ok (.iload_n 2, 1) := by decide +kernel
theorem d_G_link_46 : decode c_G_link 46 = .ok (.invokevirtual 101, 3) := by decide +kernel
theorem d_G_link_49 : decode c_G_link 49 = .ok (.istore 5, 2) := by decide +kernel
theorem d_G_link_51 : decode c_G_link 51 = .ok (.iload 5, 2) := by decide +kernel
theorem d_G_link_53 : decode c_G_link 53 = .ok (.iconst 5, 1) := by decide +kernel
theorem d_G_link_54 : decode c_G_link 54 = .ok (.if_icmp .eq 18, 3) := by decide +kernel
theorem d_G_link_57 : decode c_G_link 57 = .ok (.iload 5, 2) := by decide +kernel
theorem d_G_link_59 : decode c_G_link 59 = .ok (.aload_n 0, 1) := by decide +kernel
theorem d_G_link_60 : decode c_G_link 60 = .ok (.getfield 19, 3) := by decide +kernel
theorem d_G_link_63 : decode c_G_link 63 = .ok (.iload_n 3, 1) := by decide +kernel
theorem d_G_link_64 : decode c_G_link 64 = .ok (.invokevirtual 98, 3) := by decide +kernel
theorem d_G_link_67 : decode c_G_link 67 = .ok (.if_icmp .eq 5, 3) := by decide +kernel
theorem d_G_link_70 : decode c_G_link 70 = .ok (.iconst (-1), 1) := by decide +kernel
theorem d_G_link_71 : decode c_G_link 71 = .ok (.ireturn, 1) := by decide +kernel
theorem d_G_link_72 : decode c_G_link 72 = .ok (.iload 4, 2) := by decide +kernel
theorem d_G_link_74 : decode c_G_link 74 = .ok (.iconst 1, 1) := by decide +kernel
theorem d_G_link_75 : decode c_G_link 75 = .ok (.if_icmp .ne 12, 3) := by decide +kernel
theorem d_G_link_78 : decode c_G_link 78 = .ok (.aload_n 0, 1) := by decide +kernel
theorem d_G_link_79 : decode c_G_link 79 = .ok (.getfield 19, 3) := by decide +kernel
theorem d_G_link_82 : decode c_G_link 82 = .ok (.iload_n 1, 1) := by decide +kernel
theorem d_G_link_83 : decode c_G_link 83 = .ok (.iload_n 2, 1) := by decide +kernel
theorem d_G_link_84 : decode c_G_link 84 = .ok (.invokevirtual 104, 3) := by decide +kernel
theorem d_G_link_87 : decode c_G_link 87 = .ok (.aload_n 0, 1) := by decide +kernel
theorem d_G_link_88 : decode c_G_link 88 = .ok (.getfield 19, 3) := by decide +kernel
theorem d_G_link_91 : decode c_G_link 91 = .ok (.iload_n 1, 1) := by decide +kernel
theorem d_G_link_92 : decode c_G_link 92 = .ok (.iload_n 2, 1) := by decide +kernel
theorem d_G_link_93 : decode c_G_link 93 = .ok (.invokevirtual 108, 3) := by decide +kernel
theorem d_G_link_96 : decode c_G_link 96 = .ok (.iconst 4, 1) := by decide +kernel
theorem d_G_link_97 : decode c_G_link 97 = .ok (.if_icmp .lt 6, 3) := by decide +kernel
theorem d_G_link_100 : decode c_G_link 100 = .ok (.bipush (-2), 2) := by decide +kernel
theorem d_G_link_102 : decode c_G_link 102 = .ok (.ireturn, 1) := by decide +kernel
theorem d_G_link_103 : decode c_G_link 103 = .ok (.aload_n 0, 1) := by decide +kernel
theorem d_G_link_104 : decode c_G_link 104 = .ok (.getfield 19, 3) := by decide +kernel
theorem d_G_link_107 : decode c_G_link 107 = .ok (.iload_n 1, 1) := by decide +kernel
theorem d_G_link_108 : decode c_G_link 108 = .ok (.iload_n 2, 1) := by decide +kernel
theorem d_G_link_109 : decode c_G_link 109 = .ok (.iload_n 3, 1) := by decide +kernel
theorem d_G_link_110 : decode c_G_link 110 = .ok (.invokevirtual 111, 3) := by decide +kernel
theorem d_G_link_113 : decode c_G_link 113 = .ok (.ireturn, 1) := by decide +kernel
theorem d_G_clear_0 : decode c_G_clear 0 = .ok (.aload_n 0, 1) := by decide +kernel
theorem d_G_clear_1 : decode c_G_clear 1 = .ok (.iload_n 1, 1) := by decide +kernel
theorem d_G_clear_2 : decode c_G_clear 2 = .ok (.iload_n 2, 1) := by decide +kernel
theorem d_G_clear_3 : decode c_G_clear 3 = .ok (.invokevirtual 87, 3) := by decide +kernel
theorem d_G_clear_6 : decode c_G_clear 6 = .ok (.iconst (-1), 1) := by decide +kernel
theorem d_G_clear_7 : decode c_G_clear 7 = .ok (.if_icmp .ne 5, 3) := by decide +kernel
theorem d_G_clear_10 : decode c_G_clear 10 = .ok (.iconst (-1), 1) := by decide +kernel
theorem d_G_clear_11 : decode c_G_clear 11 = .ok (.ireturn, 1) := by decide +kernel
theorem d_G_clear_12 : decode c_G_clear 12 = .ok (.aload_n 0, 1) := by decide +kernel
theorem d_G_clear_13 : decode c_G_clear 13 = .ok (.getfield 19, 3) := by decide +kernel
theorem d_G_clear_16 : decode c_G_clear 16 = .ok (.iload_n 1, 1) := by decide +kernel
theorem d_G_clear_17 : decode c_G_clear 17 = .ok (.iload_n 2, 1) := by decide +kernel
theorem d_G_clear_18 : decode c_G_clear 18 = .ok (.invokevirtual 104, 3) := by decide +kernel
theorem d_G_clear_21 : decode c_G_clear 21 = .ok (.iconst 0, 1) := by decide +kernel
theorem d_G_clear_22 : decode c_G_clear 22 = .ok (.ireturn, 1) := by decide +kernel
theorem d_G_set_0 : decode c_G_set 0 = .ok (.iload_n 1, 1) := by decide +kernel
theorem d_G_set_1 : decode c_G_set 1 = .ok (.iconst 0, 1) := by decide +kernel
theorem d_G_set_2 : decode c_G_set 2 = .ok (.iconst 3, 1) := by decide +kernel
theorem d_G_set_3 : decode c_G_set 3 = .ok (.invokestatic 72, 3) := by decide +kernel
theorem d_G_set_6 : decode c_G_set 6 = .ok (.ifCond .eq 12, 3) := by decide +kernel
theorem d_G_set_9 : decode c_G_set 9 = .ok (.iload_n 2, 1) := by decide +kernel
theorem d_G_set_10 : decode c_G_set 10 = .ok (.iconst 0, 1) := by decide +kernel
theorem d_G_set_11 : decode c_G_set 11 = .ok (.iconst 1, 1) := by decide +kernel
theorem d_G_set_12 : decode c_G_set 12 = .ok (.invokestatic 72, 3) := by decide +kernel
theorem d_G_set_15 : decode c_G_set 15 = .ok (.ifCond .ne 5, 3) := by decide +kernel
theorem d_G_set_18 : decode c_G_set 18 = .ok (.iconst (-1), 1) := by decide +kernel
theorem d_G_set_19 : decode c_G_set 19 = .ok (.ireturn, 1) := by decide +kernel
theorem d_G_set_20 : decode c_G_set 20 = .ok (.aload_n 0, 1) := by decide +kernel
theorem d_G_set_21 : decode c_G_set 21 = .ok (.getfield 30, 3) := by decide +kernel
theorem d_G_set_24 : decode c_G_set 24 = .ok (.iload_n 1, 1) := by decide +kernel
theorem d_G_set_25 : decode c_G_set 25 = .ok (.iload_n 2, 1) := by decide +kernel
theorem d_G_set_26 : decode c_G_set 26 = .ok (.iastore, 1) := by decide +kernel
theorem d_G_set_27 : decode c_G_set 27 = .ok (.iconst 0, 1) := by decide +kernel
theorem d_G_set_28 : decode c_G_set 28 = .ok (.ireturn, 1) := by decide +kernel
theorem d_G_token_0 : decode c_G_token 0 = .ok (.iload_n 1, 1) := by decide +kernel
theorem d_G_token_1 : decode c_G_token 1 = .ok (.iconst 0, 1) := by decide +kernel
theorem d_G_token_2 : decode c_G_token 2 = .ok (.iconst 3, 1) := by decide +kernel
theorem d_G_token_3 : decode c_G_token 3 = .ok (.invokestatic 72, 3) := by decide +kernel
theorem d_G_token_6 : decode c_G_token 6 = .ok (.ifCond .eq 13, 3) := by decide +kernel
theorem d_G_token_9 : decode c_G_token 9 = .ok (.iload_n 2, 1) := by decide +kernel
theorem d_G_token_10 : decode c_G_token 10 = .ok (.iload_n 3, 1) := by decide +kernel
theorem d_G_token_11 : decode c_G_token 11 = .ok (.iload 4, 2) := by decide +kernel
theorem d_G_token_13 : decode c_G_token 13 = .ok (.invokestatic 115, 3) := by decide +kernel
theorem d_G_token_16 : decode c_G_token 16 = .ok (.ifCond .ne 5, 3) := by decide +kernel
theorem d_G_token_19 : decode c_G_token 19 = .ok (.iconst (-1), 1) := by decide +kernel
theorem d_G_token_20 : decode c_G_token 20 = .ok (.ireturn, 1) := by decide +kernel
theorem d_G_token_21 : decode c_G_token 21 = .ok (.aload_n 0, 1) := by decide +kernel
theorem d_G_token_22 : decode c_G_token 22 = .ok (.getfield 26, 3) := by decide +kernel
theorem d_G_token_25 : decode c_G_token 25 = .ok (.getfield 118, 3) := by decide +kernel
theorem d_G_token_28 : decode c_G_token 28 = .ok (.iload_n 1, 1) := by decide +kernel
theorem d_G_token_29 : decode c_G_token 29 = .ok (.iaload, 1) := by decide +kernel
theorem d_G_token_30 : decode c_G_token 30 = .ok (.bipush 16, 2) := by decide +kernel
theorem d_G_token_32 : decode c_G_token 32 = .ok (.if_icmp .lt 6, 3) := by decide +kernel
theorem d_G_token_35 : decode c_G_token 35 = .ok (.bipush (-2), 2) := by decide +kernel
theorem d_G_token_37 : decode c_G_token 37 = .ok (.ireturn, 1) := by decide +kernel
theorem d_G_token_38 : decode c_G_token 38 = .ok (.aload_n 0, 1) := by decide +kernel
theorem d_G_token_39 : decode c_G_token 39 = .ok (.getfield 26, 3) := by decide +kernel
theorem d_G_token_42 : decode c_G_token 42 = .ok (.iload_n 1, 1) := by decide +kernel
theorem d_G_token_43 : decode c_G_token 43 = .ok (.iload_n 2, 1) := by decide +kernel
theorem d_G_token_44 : decode c_G_token 44 = .ok (.iload_n 3, 1) := by decide +kernel
theorem d_G_token_45 : decode c_G_token 45 = .ok (.iload 4, 2) := by decide +kernel
theorem d_G_token_47 : decode c_G_token 47 = .ok (.invokevirtual 121, 3) := by decide +kernel
theorem d_G_token_50 : decode c_G_token 50 = .ok (.ireturn, 1) := by decide +kernel
theorem d_G_wipe_0 : decode c_G_wipe 0 = .ok (.iload_n 1, 1) := by decide +kernel
theorem d_G_wipe_1 : decode c_G_wipe 1 = .ok (.iconst 0, 1) := by decide +kernel
theorem d_G_wipe_2 : decode c_G_wipe 2 = .ok (.iconst 3, 1) := by decide +kernel
theorem d_G_wipe_3 : decode c_G_wipe 3 = .ok (.invokestatic 72, 3) := by decide +kernel
theorem d_G_wipe_6 : decode c_G_wipe 6 = .ok (.ifCond .ne 5, 3) := by decide +kernel
theorem d_G_wipe_9 : decode c_G_wipe 9 = .ok (.iconst (-1), 1) := by decide +kernel
theorem d_G_wipe_10 : decode c_G_wipe 10 = .ok (.ireturn, 1) := by decide +kernel
theorem d_G_wipe_11 : decode c_G_wipe 11 = .ok (.aload_n 0, 1) := by decide +kernel
theorem d_G_wipe_12 : decode c_G_wipe 12 = .ok (.getfield 26, 3) := by decide +kernel
theorem d_G_wipe_15 : decode c_G_wipe 15 = .ok (.getfield 118, 3) := by decide +kernel
theorem d_G_wipe_18 : decode c_G_wipe 18 = .ok (.iload_n 1, 1) := by decide +kernel
theorem d_G_wipe_19 : decode c_G_wipe 19 = .ok (.iaload, 1) := by decide +kernel
theorem d_G_wipe_20 : decode c_G_wipe 20 = .ok (.istore_n 2, 1) := by decide +kernel
theorem d_G_wipe_21 : decode c_G_wipe 21 = .ok (.aload_n 0, 1) := by decide +kernel
theorem d_G_wipe_22 : decode c_G_wipe 22 = .ok (.getfield 26, 3) := by decide +kernel
theorem d_G_wipe_25 : decode c_G_wipe 25 = .ok (.getfield 118, 3) := by decide +kernel
theorem d_G_wipe_28 : decode c_G_wipe 28 = .ok (.iload_n 1, 1) := by decide +kernel
theorem d_G_wipe_29 : decode c_G_wipe 29 = .ok (.iconst 0, 1) := by decide +kernel
theorem d_G_wipe_30 : decode c_G_wipe 30 = .ok (.iastore, 1) := by decide +kernel
theorem d_G_wipe_31 : decode c_G_wipe 31 = .ok (.iload_n 2, 1) := by decide +kernel
theorem d_G_wipe_32 : decode c_G_wipe 32 = .ok (.ireturn, 1) := by decide +kernel
theorem d_G_check_0 : decode c_G_check 0 = .ok (.aload_n 0, 1) := by decide +kernel
theorem d_G_check_1 : decode c_G_check 1 = .ok (.getfield 12, 3) := by decide +kernel
theorem d_G_check_4 : decode c_G_check 4 = .ok (.iload_n 1, 1) := by decide +kernel
theorem d_G_check_5 : decode c_G_check 5 = .ok (.invokevirtual 68, 3) := by decide +kernel
theorem d_G_check_8 : decode c_G_check 8 = .ok (.ifCond .ne 5, 3) := by decide +kernel
theorem d_G_check_11 : decode c_G_check 11 = .ok (.iconst (-1), 1) := by decide +kernel
theorem d_G_check_12 : decode c_G_check 12 = .ok (.ireturn, 1) := by decide +kernel
theorem d_G_check_13 : decode c_G_check 13 = .ok (.aload_n 0, 1) := by decide +kernel
theorem d_G_check_14 : decode c_G_check 14 = .ok (.getfield 39, 3) := by decide +kernel
theorem d_G_check_17 : decode c_G_check 17 = .ok (.iload_n 1, 1) := by decide +kernel
theorem d_G_check_18 : decode c_G_check 18 = .ok (.invokevirtual 125, 3) := by decide +kernel
theorem d_G_check_21 : decode c_G_check 21 = .ok (.ifCond .eq 7, 3) := by decide +kernel
theorem d_G_check_24 : decode c_G_check 24 = .ok (.iconst 0, 1) := by decide +kernel
theorem d_G_check_25 : decode c_G_check 25 = .ok (.goto 5, 3) := by decide +kernel
theorem d_G_check_28 : decode c_G_check 28 = .ok (.bipush (-3), 2) := by decide +kernel
theorem d_G_check_30 : decode c_G_check 30 = .ok (.ireturn, 1) := by decide +kernel
theorem d_G_place_0 : decode c_G_place 0 = .ok (.aload_n 0, 1) := by decide +kernel
theorem d_G_place_1 : decode c_G_place 1 = .ok (.getfield 39, 3) := by decide +kernel
theorem d_G_place_4 : decode c_G_place 4 = .ok (.getfield 128, 3) := by decide +kernel
theorem d_G_place_7 : decode c_G_place 7 = .ok (.iconst (-1), 1) := by decide +kernel
theorem d_G_place_8 : decode c_G_place 8 = .ok (.if_icmp .ne 7, 3) := by decide +kernel
theorem d_G_place_11 : decode c_G_place 11 = .ok (.iconst (-1), 1) := by decide +kernel
theorem d_G_place_12 : decode c_G_place 12 = .ok (.goto 10, 3) := by decide +kernel
theorem d_G_place_15 : decode c_G_place 15 = .ok (.aload_n 0, 1) := by decide +kernel
theorem d_G_place_16 : decode c_G_place 16 = .ok (.getfield 39, 3) := by decide +kernel
theorem d_G_place_19 : decode c_G_place 19 = .ok (.getfield 128, 3) := by decide +kernel
theorem d_G_place_22 : decode c_G_place 22 = .ok (.ireturn, 1) := by decide +kernel
theorem d_G_ask_0 : decode c_G_ask 0 = .ok (.aload_n 0, 1) := by decide +kernel
theorem d_G_ask_1 : decode c_G_ask 1 = .ok (.getfield 19, 3) := by decide +kernel
theorem d_G_ask_4 : decode c_G_ask 4 = .ok (.iload_n 1, 1) := by decide +kernel
theorem d_G_ask_5 : decode c_G_ask 5 = .ok (.invokevirtual 95, 3) := by decide +kernel
theorem d_G_ask_8 : decode c_G_ask 8 = .ok (.ifCond .ne 5, 3) := by decide +kernel
theorem d_G_ask_11 : decode c_G_ask 11 = .ok (.iconst (-1), 1) := by decide +kernel
theorem d_G_ask_12 : decode c_G_ask 12 = .ok (.ireturn, 1) := by decide +kernel
theorem d_G_ask_13 : decode c_G_ask 13 = .ok (.aload_n 0, 1) := by decide +kernel
theorem d_G_ask_14 : decode c_G_ask 14 = .ok (.getfield 39, 3) := by decide +kernel
theorem d_G_ask_17 : decode c_G_ask 17 = .ok (.aload_n 0, 1) := by decide +kernel
theorem d_G_ask_18 : decode c_G_ask 18 = .ok (.getfield 19, 3) := by decide +kernel
theorem d_G_ask_21 : decode c_G_ask 21 = .ok (.iload_n 1, 1) := by decide +kernel
theorem d_G_ask_22 : decode c_G_ask 22 = .ok (.invokevirtual 98, 3) := by decide +kernel
theorem d_G_ask_25 : decode c_G_ask 25 = .ok (.invokevirtual 125, 3) := by decide +kernel
theorem d_G_ask_28 : decode c_G_ask 28 = .ok (.ifCond .ne 13, 3) := by decide +kernel
theorem d_G_ask_31 : decode c_G_ask 31 = .ok (.aload_n 0, 1) := by decide +kernel
theorem d_G_ask_32 : decode c_G_ask 32 = .ok (.getfield 53, 3) := by decide +kernel
theorem d_G_ask_35 : decode c_G_ask 35 = .ok (.invokevirtual 131, 3) := by decide +kernel
theorem d_G_ask_38 : decode c_G_ask 38 = .ok (.bipush (-3), 2) := by decide +kernel
theorem d_G_ask_40 : decode c_G_ask 40 = .ok (.ireturn, 1) := by decide +kernel
theorem d_G_ask_41 : decode c_G_ask 41 = .ok (.aload_n 0, 1) := by decide +kernel
theorem d_G_ask_42 : decode c_G_ask 42 = .ok (.getfield 53, 3) := by decide +kernel
theorem d_G_ask_45 : decode c_G_ask 45 = .ok (.iload_n 1, 1) := by decide +kernel
theorem d_G_ask_46 : decode c_G_ask 46 = .ok (.aload_n 0, 1) := by decide +kernel
theorem d_G_ask_47 : decode c_G_ask 47 = .ok (.getfield 39, 3) := by decide +kernel
theorem d_G_ask_50 : decode c_G_ask 50 = .ok (.invokevirtual 134, 3) := by decide +kernel
theorem d_G_ask_53 : decode c_G_ask 53 = .ok (.invokevirtual 138, 3) := by decide +kernel
theorem d_G_ask_56 : decode c_G_ask 56 = .ok (.ireturn, 1) := by decide +kernel
theorem d_G_code_0 : decode c_G_code 0 = .ok (.iload_n 1, 1) := by decide +kernel
theorem d_G_code_1 : decode c_G_code 1 = .ok (.iconst 0, 1) := by decide +kernel
theorem d_G_code_2 : decode c_G_code 2 = .ok (.aload_n 0, 1) := by decide +kernel
theorem d_G_code_3 : decode c_G_code 3 = .ok (.getfield 53, 3) := by decide +kernel
theorem d_G_code_6 : decode c_G_code 6 = .ok (.getfield 142, 3) := by decide +kernel
theorem d_G_code_9 : decode c_G_code 9 = .ok (.iconst 1, 1) := by decide +kernel
theorem d_G_code_10 : decode c_G_code 10 = .ok (.isub, 1) := by decide +kernel
theorem d_G_code_11 : decode c_G_code 11 = .ok (.invokestatic 72, 3) := by decide +kernel
theorem d_G_code_14 : decode c_G_code 14 = .ok (.ifCond .eq 15, 3) := by decide +kernel
theorem d_G_code_17 : decode c_G_code 17 = .ok (.aload_n 0, 1) := by decide +kernel
theorem d_G_code_18 : decode c_G_code 18 = .ok (.getfield 53, 3) := by decide +kernel
theorem d_G_code_21 : decode c_G_code 21 = .ok (.getfield 145, 3) := by decide +kernel
theorem d_G_code_24 : decode c_G_code 24 = .ok (.iload_n 1, 1) := by decide +kernel
theorem d_G_code_25 : decode c_G_code 25 = .ok (.iaload, 1) := by decide +kernel
theorem d_G_code_26 : decode c_G_code 26 = .ok (.goto 4, 3) := by decide +kernel
theorem d_G_code_29 : decode c_G_code 29 = .ok (.iconst (-1), 1) := by decide +kernel
theorem d_G_code_30 : decode c_G_code 30 = .ok (.ireturn, 1) := by decide +kernel
theorem d_G_missing_0 : decode c_G_missing 0 = .ok (.aload_n 0, 1) := by decide +kernel
theorem d_G_missing_1 : decode c_G_missing 1 = .ok (.getfield 53, 3) := by decide +kernel
theorem d_G_missing_4 : decode c_G_missing 4 = .ok (.getfield 148, 3) := by decide +kernel
theorem d_G_missing_7 : decode c_G_missing 7 = .ok (.iload_n 1, 1) := by decide +kernel
theorem d_G_missing_8 : decode c_G_missing 8 = .ok (.iload_n 2, 1) := by decide +kernel
theorem d_G_missing_9 : decode c_G_missing 9 = .ok (.invokevirtual 152, 3) := by decide +kernel
theorem d_G_missing_12 : decode c_G_missing 12 = .ok (.ireturn, 1) := by decide +kernel
theorem d_G_count_0 : decode c_G_count 0 = .ok (.iload_n 1, 1) := by decide +kernel
theorem d_G_count_1 : decode c_G_count 1 = .ok (.tableswitch 66 0 3 #[31, 39, 47, 55], 31) := by decide +kernel
theorem d_G_count_32 : decode c_G_count 32 = .ok (.aload_n 0, 1) := by decide +kernel
theorem d_G_count_33 : decode c_G_count 33 = .ok (.getfield 12, 3) := by decide +kernel
theorem d_G_count_36 : decode c_G_count 36 = .ok (.getfield 57, 3) := by decide +kernel
theorem d_G_count_39 : decode c_G_count 39 = .ok (.ireturn, 1) := by decide +kernel
theorem d_G_count_40 : decode c_G_count 40 = .ok (.aload_n 0, 1) := by decide +kernel
theorem d_G_count_41 : decode c_G_count 41 = .ok (.getfield 19, 3) := by decide +kernel
theorem d_G_count_44 : decode c_G_count 44 = .ok (.getfield 61, 3) := by decide +kernel
theorem d_G_count_47 : decode c_G_count 47 = .ok (.ireturn, 1) := by decide +kernel
theorem d_G_count_48 : decode c_G_count 48 = .ok (.aload_n 0, 1) := by decide +kernel
theorem d_G_count_49 : decode c_G_count 49 = .ok (.getfield 53, 3) := by decide +kernel
theorem d_G_count_52 : decode c_G_count 52 = .ok (.getfield 142, 3) := by decide +kernel
theorem d_G_count_55 : decode c_G_count 55 = .ok (.ireturn, 1) := by decide +kernel
theorem d_G_count_56 : decode c_G_count 56 = .ok (.aload_n 0, 1) := by decide +kernel
theorem d_G_count_57 : decode c_G_count 57 = .ok (.getfield 53, 3) := by decide +kernel
theorem d_G_count_60 : decode c_G_count 60 = .ok (.getfield 148, 3) := by decide +kernel
theorem d_G_count_63 : decode c_G_count 63 = .ok (.getfield 157, 3) := by decide +kernel
theorem d_G_count_66 : decode c_G_count 66 = .ok (.ireturn, 1) := by decide +kernel
theorem d_G_count_67 : decode c_G_count 67 = .ok (.iload_n 1, 1) := by decide +kernel
theorem d_G_count_68 : decode c_G_count 68 = .ok (.iconst 4, 1) := by decide +kernel
theorem d_G_count_69 : decode c_G_count 69 = .ok (.bipush 7, 2) := by decide +kernel
theorem d_G_count_71 : decode c_G_count 71 = .ok (.invokestatic 72, 3) := by decide +kernel
theorem d_G_count_74 : decode c_G_count 74 = .ok (.ifCond .eq 17, 3) := by decide +kernel
theorem d_G_count_77 : decode c_G_count 77 = .ok (.aload_n 0, 1) := by decide +kernel
theorem d_G_count_78 : decode c_G_count 78 = .ok (.getfield 26, 3) := by decide +kernel
theorem d_G_count_81 : decode c_G_count 81 = .ok (.getfield 118, 3) := by decide +kernel
theorem d_G_count_84 : decode c_G_count 84 = .ok (.iload_n 1, 1) := by decide +kernel
theorem d_G_count_85 : decode c_G_count 85 = .ok (.iconst 4, 1) := by decide +kernel
theorem d_G_count_86 : decode c_G_count 86 = .ok (.isub, 1) := by decide +kernel
theorem d_G_count_87 : decode c_G_count 87 = .ok (.iaload, 1) := by decide +kernel
theorem d_G_count_88 : decode c_G_count 88 = .ok (.goto 4, 3) := by decide +kernel
theorem d_G_count_91 : decode c_G_count 91 = .ok (.iconst (-1), 1) := by decide +kernel
theorem d_G_count_92 : decode c_G_count 92 = .ok (.ireturn, 1) := by decide +kernel
theorem d_G_isWithin_0 : decode c_G_isWithin 0 = .ok (.iload_n 0, 1) := by decide +kernel
theorem d_G_isWithin_1 : decode c_G_isWithin 1 = .ok (.iload_n 1, 1) := by decide +kernel
theorem d_G_isWithin_2 : decode c_G_isWithin 2 = .ok (.if_icmp .lt 12, 3) := by decide +kernel
theorem d_G_isWithin_5 : decode c_G_isWithin 5 = .ok (.iload_n 0, 1) := by decide +kernel
theorem d_G_isWithin_6 : decode c_G_isWithin 6 = .ok (.iload_n 2, 1) := by decide +kernel
theorem d_G_isWithin_7 : decode c_G_isWithin 7 = .ok (.if_icmp .gt 7, 3) := by decide +kernel
theorem d_G_isWithin_10 : decode c_G_isWithin 10 = .ok (.iconst 1, 1) := by decide +kernel
theorem d_G_isWithin_11 : decode c_G_isWithin 11 = .ok (.goto 4, 3) := by decide +kernel
theorem d_G_isWithin_14 : decode c_G_isWithin 14 = .ok (.iconst 0, 1) := by decide +kernel
theorem d_G_isWithin_15 : decode c_G_isWithin 15 = .ok (.ireturn, 1) := by decide +kernel
theorem d_G_isTokenInRange_0 : decode c_G_isTokenInRange 0 = .ok (.iload_n 0, 1) := by decide +kernel
theorem d_G_isTokenInRange_1 : decode c_G_isTokenInRange 1 = .ok (.tableswitch 110 0 5 #[39, 39, 64, 72, 79, 103], 39) := by decide +kernel
theorem d_G_isTokenInRange_40 : decode c_G_isTokenInRange 40 = .ok (.iload_n 1, 1) := by decide +kernel
theorem d_G_isTokenInRange_41 : decode c_G_isTokenInRange 41 = .ok (.iconst 0, 1) := by decide +kernel
theorem d_G_isTokenInRange_42 : decode c_G_isTokenInRange 42 = .ok (.bipush 9, 2) := by decide +kernel
theorem d_G_isTokenInRange_44 : decode c_G_isTokenInRange 44 = .ok (.invokestatic 72, 3) := by decide +kernel
theorem d_G_isTokenInRange_47 : decode c_G_isTokenInRange 47 = .ok (.ifCond .eq 16, 3) := by decide +kernel
theorem d_G_isTokenInRange_50 : decode c_G_isTokenInRange 50 = .ok (.iload_n 2, 1) := by decide +kernel
theorem d_G_isTokenInRange_51 : decode c_G_isTokenInRange 51 = .ok (.iconst 0, 1) := by decide +kernel
theorem d_G_isTokenInRange_52 : decode c_G_isTokenInRange 52 = .ok (.iconst 3, 1) := by decide +kernel
theorem d_G_isTokenInRange_53 : decode c_G_isTokenInRange 53 = .ok (.invokestatic 72, 3) := by decide +kernel
theorem d_G_isTokenInRange_56 : decode c_G_isTokenInRange 56 = .ok (.ifCond .eq 7, 3) := by decide +kernel
theorem d_G_isTokenInRange_59 : decode c_G_isTokenInRange 59 = .ok (.iconst 1, 1) := by decide +kernel
theorem d_G_isTokenInRange_60 : decode c_G_isTokenInRange 60 = .ok (.goto 4, 3) := by decide +kernel
theorem d_G_isTokenInRange_63 : decode c_G_isTokenInRange 63 = .ok (.iconst 0, 1) := by decide +kernel
theorem d_G_isTokenInRange_64 : decode c_G_isTokenInRange 64 = .ok (.ireturn, 1) := by decide +kernel
theorem d_G_isTokenInRange_65 : decode c_G_isTokenInRange 65 = .ok (.iload_n 1, 1) := by decide +kernel
theorem d_G_isTokenInRange_66 : decode c_G_isTokenInRange 66 = .ok (.iconst 0, 1) := by decide +kernel
theorem d_G_isTokenInRange_67 : decode c_G_isTokenInRange 67 = .ok (.bipush 9, 2) := by decide +kernel
theorem d_G_isTokenInRange_69 : decode c_G_isTokenInRange 69 = .ok (.invokestatic 72, 3) := by decide +kernel
theorem d_G_isTokenInRange_72 : decode c_G_isTokenInRange 72 = .ok (.ireturn, 1) := by decide +kernel
theorem d_G_isTokenInRange_73 : decode c_G_isTokenInRange 73 = .ok (.iload_n 1, 1) := by decide +kernel
theorem d_G_isTokenInRange_74 : decode c_G_isTokenInRange 74 = .ok (.iconst 0, 1) := by decide +kernel
theorem d_G_isTokenInRange_75 : decode c_G_isTokenInRange 75 = .ok (.iconst 4, 1) := by decide +kernel
theorem d_G_isTokenInRange_76 : decode c_G_isTokenInRange 76 = .ok (.invokestatic 72, 3) := by decide +kernel
theorem d_G_isTokenInRange_79 : decode c_G_isTokenInRange 79 = .ok (.ireturn, 1) := by decide +kernel
theorem d_G_isTokenInRange_80 : decode c_G_isTokenInRange 80 = .ok (.iload_n 1, 1) := by decide +kernel
theorem d_G_isTokenInRange_81 : decode c_G_isTokenInRange 81 = .ok (.iconst 0, 1) := by decide +kernel
theorem d_G_isTokenInRange_82 : decode c_G_isTokenInRange 82 = .ok (.iconst 3, 1) := by decide +kernel
theorem d_G_isTokenInRange_83 : decode c_G_isTokenInRange 83 = .ok (.invokestatic 72, 3) := by decide +kernel
theorem d_G_isTokenInRange_86 : decode c_G_isTokenInRange 86 = .ok (.ifCond .eq 16, 3) := by decide +kernel
theorem d_G_isTokenInRange_89 : decode c_G_isTokenInRange 89 = .ok (.iload_n 2, 1) := by decide +kernel
theorem d_G_isTokenInRange_90 : decode c_G_isTokenInRange 90 = .ok (.iconst 0, 1) := by decide +kernel
theorem d_G_isTokenInRange_91 : decode c_G_isTokenInRange 91 = .ok (.iconst 1, 1) := by decide +kernel
theorem d_G_isTokenInRange_92 : decode c_G_isTokenInRange 92 = .ok (.invokestatic 72, 3) := by decide +kernel
theorem d_G_isTokenInRange_95 : decode c_G_isTokenInRange 95 = .ok (.ifCond .eq 7, 3) := by decide +kernel
theorem d_G_isTokenInRange_98 : decode c_G_isTokenInRange 98 = .ok (.iconst 1, 1) := by decide +kernel
theorem d_G_isTokenInRange_99 : decode c_G_isTokenInRange 99 = .ok (.goto 4, 3) := by decide +kernel
theorem d_G_isTokenInRange_102 : decode c_G_isTokenInRange 102 = .ok (.iconst 0, 1) := by decide +kernel
theorem d_G_isTokenInRange_103 : decode c_G_isTokenInRange 103 = .ok (.ireturn, 1) := by decide +kernel
theorem d_G_isTokenInRange_104 : decode c_G_isTokenInRange 104 = .ok (.iload_n 1, 1) := by decide +kernel
theorem d_G_isTokenInRange_105 : decode c_G_isTokenInRange 105 = .ok (.iconst 1, 1) := by decide +kernel
theorem d_G_isTokenInRange_106 : decode c_G_isTokenInRange 106 = .ok (.iconst 3, 1) := by decide +kernel
theorem d_G_isTokenInRange_107 : decode c_G_isTokenInRange 107 = .ok (.invokestatic 72, 3) := by decide +kernel
theorem d_G_isTokenInRange_110 : decode c_G_isTokenInRange 110 = .ok (.ireturn, 1) := by decide +kernel
theorem d_G_isTokenInRange_111 : decode c_G_isTokenInRange 111 = .ok (.iload_n 0, 1) := by decide +kernel
theorem d_G_isTokenInRange_112 : decode c_G_isTokenInRange 112 = .ok (.bipush 6, 2) := by decide +kernel
theorem d_G_isTokenInRange_114 : decode c_G_isTokenInRange 114 = .ok (.if_icmp .ne 7, 3) := by decide +kernel
theorem d_G_isTokenInRange_117 : decode c_G_isTokenInRange 117 = .ok (.iconst 1, 1) := by decide +kernel
theorem d_G_isTokenInRange_118 : decode c_G_isTokenInRange 118 = .ok (.goto 4, 3) := by decide +kernel
theorem d_G_isTokenInRange_121 : decode c_G_isTokenInRange 121 = .ok (.iconst 0, 1) := by decide +kernel
theorem d_G_isTokenInRange_122 : decode c_G_isTokenInRange 122 = .ok (.ireturn, 1) := by decide +kernel
theorem d_G_hasSetBehind_0 : decode c_G_hasSetBehind 0 = .ok (.iload_n 0, 1) := by decide +kernel
theorem d_G_hasSetBehind_1 : decode c_G_hasSetBehind 1 = .ok (.iconst 1, 1) := by decide +kernel
theorem d_G_hasSetBehind_2 : decode c_G_hasSetBehind 2 = .ok (.if_icmp .eq 13, 3) := by decide +kernel
theorem d_G_hasSetBehind_5 : decode c_G_hasSetBehind 5 = .ok (.iload_n 0, 1) := by decide +kernel
theorem d_G_hasSetBehind_6 : decode c_G_hasSetBehind 6 = .ok (.iconst 3, 1) := by decide +kernel
theorem d_G_hasSetBehind_7 : decode c_G_hasSetBehind 7 = .ok (.if_icmp .eq 8, 3) := by decide +kernel
theorem d_G_hasSetBehind_10 : decode c_G_hasSetBehind 10 = .ok (.iload_n 0, 1) := by decide +kernel
theorem d_G_hasSetBehind_11 : decode c_G_hasSetBehind 11 = .ok (.iconst 4, 1) := by decide +kernel
theorem d_G_hasSetBehind_12 : decode c_G_hasSetBehind 12 = .ok (.if_icmp .ne 7, 3) := by decide +kernel
theorem d_G_hasSetBehind_15 : decode c_G_hasSetBehind 15 = .ok (.iconst 1, 1) := by decide +kernel
theorem d_G_hasSetBehind_16 : decode c_G_hasSetBehind 16 = .ok (.goto 4, 3) := by decide +kernel
theorem d_G_hasSetBehind_19 : decode c_G_hasSetBehind 19 = .ok (.iconst 0, 1) := by decide +kernel
theorem d_G_hasSetBehind_20 : decode c_G_hasSetBehind 20 = .ok (.ireturn, 1) := by decide +kernel
theorem d_G_kindIn_0 : decode c_G_kindIn 0 = .ok (.aload_n 0, 1) := by decide +kernel
theorem d_G_kindIn_1 : decode c_G_kindIn 1 = .ok (.getfield 19, 3) := by decide +kernel
theorem d_G_kindIn_4 : decode c_G_kindIn 4 = .ok (.iload_n 1, 1) := by decide +kernel
theorem d_G_kindIn_5 : decode c_G_kindIn 5 = .ok (.invokevirtual 95, 3) := by decide +kernel
theorem d_G_kindIn_8 : decode c_G_kindIn 8 = .ok (.ifCond .eq 22, 3) := by decide +kernel
theorem d_G_kindIn_11 : decode c_G_kindIn 11 = .ok (.aload_n 0, 1) := by decide +kernel
theorem d_G_kindIn_12 : decode c_G_kindIn 12 = .ok (.getfield 12, 3) := by decide +kernel
theorem d_G_kindIn_15 : decode c_G_kindIn 15 = .ok (.aload_n 0, 1) := by decide +kernel
theorem d_G_kindIn_16 : decode c_G_kindIn 16 = .ok (.getfield 19, 3) := by decide +kernel
theorem d_G_kindIn_19 : decode c_G_kindIn 19 = .ok (.iload_n 1, 1) := by decide +kernel
theorem d_G_kindIn_20 : decode c_G_kindIn 20 = .ok (.invokevirtual 98, 3) := by decide +kernel
theorem d_G_kindIn_23 : decode c_G_kindIn 23 = .ok (.iload_n 2, 1) := by decide +kernel
theorem d_G_kindIn_24 : decode c_G_kindIn 24 = .ok (.invokevirtual 160, 3) := by decide +kernel
theorem d_G_kindIn_27 : decode c_G_kindIn 27 = .ok (.goto 4, 3) := by decide +kernel
theorem d_G_kindIn_30 : decode c_G_kindIn 30 = .ok (.iconst (-1), 1) := by decide +kernel
theorem d_G_kindIn_31 : decode c_G_kindIn 31 = .ok (.ireturn, 1) := by decide +kernel
theorem d_Mo_init_0 : decode c_Mo_init 0 = .ok (.aload_n 0, 1) := by decide +kernel
theorem d_Mo_init_1 : decode c_Mo_init 1 = .ok (.invokespecial 1, 3) := by decide +kernel
theorem d_Mo_init_4 : decode c_Mo_init 4 = .ok (.aload_n 0, 1) := by decide +kernel
theorem d_Mo_init_5 : decode c_Mo_init 5 = .ok (.iconst 5, 1) := by decide +kernel
theorem d_Mo_init_6 : decode c_Mo_init 6 = .ok (.newarray .int, 2) := by decide +kernel
theorem d_Mo_init_8 : decode c_Mo_init 8 = .ok (.putfield 7, 3) := by decide +kernel
theorem d_Mo_init_11 : decode c_Mo_init 11 = .ok (.aload_n 0, 1) := by decide +kernel
theorem d_Mo_init_12 : decode c_Mo_init 12 = .ok (.bipush 60, 2) := by decide +kernel
theorem d_Mo_init_14 : decode c_Mo_init 14 = .ok (.newarray .int, 2) := by decide +kernel
theorem d_Mo_init_16 : decode c_Mo_init 16 = .ok (.putfield 13, 3) := by decide +kernel
theorem d_Mo_init_19 : decode c_Mo_init 19 = .ok (.aload_n 0, 1) := by decide +kernel
theorem d_Mo_init_20 : decode c_Mo_init 20 = .ok (.bipush 13, 2) := by decide +kernel
theorem d_Mo_init_22 : decode c_Mo_init 22 = .ok (.newarray .int, 2) := by decide +kernel
theorem d_Mo_init_24 : decode c_Mo_init 24 = .ok (.putfield 16, 3) := by decide +kernel
theorem d_Mo_init_27 : decode c_Mo_init 27 = .ok (.aload_n 0, 1) := by decide +kernel
theorem d_Mo_init_28 : decode c_Mo_init 28 = .ok (.bipush 52, 2) := by decide +kernel
theorem d_Mo_init_30 : decode c_Mo_init 30 = .ok (.newarray .int, 2) := by decide +kernel
theorem d_Mo_init_32 : decode c_Mo_init 32 = .ok (.putfield 19, 3) := by decide +kernel
theorem d_Mo_init_35 : decode c_Mo_init 35 = .ok (.aload_n 0, 1) := by decide +kernel
theorem d_Mo_init_36 : decode c_Mo_init 36 = .ok (.sipush 208, 3) := by decide +kernel
theorem d_Mo_init_39 : decode c_Mo_init 39 = .ok (.newarray .int, 2) := by decide +kernel
theorem d_Mo_init_41 : decode c_Mo_init 41 = .ok (.putfield 22, 3) := by decide +kernel
theorem d_Mo_init_44 : decode c_Mo_init 44 = .ok (.aload_n 0, 1) := by decide +kernel
theorem d_Mo_init_45 : decode c_Mo_init 45 = .ok (.iconst 4, 1) := by decide +kernel
theorem d_Mo_init_46 : decode c_Mo_init 46 = .ok (.newarray .int, 2) := by decide +kernel
theorem d_Mo_init_48 : decode c_Mo_init 48 = .ok (.putfield 25, 3) := by decide +kernel
theorem d_Mo_init_51 : decode c_Mo_init 51 = .ok (.aload_n 0, 1) := by decide +kernel
theorem d_Mo_init_52 : decode c_Mo_init 52 = .ok (.iconst 4, 1) := by decide +kernel
theorem d_Mo_init_53 : decode c_Mo_init 53 = .ok (.newarray .int, 2) := by decide +kernel
theorem d_Mo_init_55 : decode c_Mo_init 55 = .ok (.putfield 28, 3) := by decide +kernel
theorem d_Mo_init_58 : decode c_Mo_init 58 = .ok (.aload_n 0, 1) := by decide +kernel
theorem d_Mo_init_59 : decode c_Mo_init 59 = .ok (.bipush 64, 2) := by decide +kernel
theorem d_Mo_init_61 : decode c_Mo_init 61 = .ok (.newarray .int, 2) := by decide +kernel
theorem d_Mo_init_63 : decode c_Mo_init 63 = .ok (.putfield 31, 3) := by decide +kernel
theorem d_Mo_init_66 : decode c_Mo_init 66 = .ok (.aload_n 0, 1) := by decide +kernel
theorem d_Mo_init_67 : decode c_Mo_init 67 = .ok (.bipush 64, 2) := by decide +kernel
theorem d_Mo_init_69 : decode c_Mo_init 69 = .ok (.newarray .int, 2) := by decide +kernel
theorem d_Mo_init_71 : decode c_Mo_init 71 = .ok (.putfield 34, 3) := by decide +kernel
theorem d_Mo_init_74 : decode c_Mo_init 74 = .ok (.aload_n 0, 1) := by decide +kernel
theorem d_Mo_init_75 : decode c_Mo_init 75 = .ok (.bipush 64, 2) := by decide +kernel
theorem d_Mo_init_77 : decode c_Mo_init 77 = .ok (.newarray .int, 2) := by decide +kernel
theorem d_Mo_init_79 : decode c_Mo_init 79 = .ok (.putfield 37, 3) := by decide +kernel
theorem d_Mo_init_82 : decode c_Mo_init 82 = .ok (.aload_n 0, 1) := by decide +kernel
theorem d_Mo_init_83 : decode c_Mo_init 83 = .ok (.iconst (-1), 1) := by decide +kernel
theorem d_Mo_init_84 : decode c_Mo_init 84 = .ok (.putfield 40, 3) := by decide +kernel
theorem d_Mo_init_87 : decode c_Mo_init 87 = .ok (.aload_n 0, 1) := by decide +kernel
theorem d_Mo_init_88 : decode c_Mo_init 88 = .ok (.bipush 70, 2) := by decide +kernel
theorem d_Mo_init_90 : decode c_Mo_init 90 = .ok (.newarray .int, 2) := by decide +kernel
theorem d_Mo_init_92 : decode c_Mo_init 92 = .ok (.putfield 44, 3) := by decide +kernel
theorem d_Mo_init_95 : decode c_Mo_init 95 = .ok (.aload_n 0, 1) := by decide +kernel
theorem d_Mo_init_96 : decode c_Mo_init 96 = .ok (.bipush 70, 2) := by decide +kernel
theorem d_Mo_init_98 : decode c_Mo_init 98 = .ok (.newarray .int, 2) := by decide +kernel
theorem d_Mo_init_100 : decode c_Mo_init 100 = .ok (.putfield 47, 3) := by decide +kernel
theorem d_Mo_init_103 : decode c_Mo_init 103 = .ok (.aload_n 0, 1) := by decide +kernel
theorem d_Mo_init_104 : decode c_Mo_init 104 = .ok (.iconst 4, 1) := by decide +kernel
theorem d_Mo_init_105 : decode c_Mo_init 105 = .ok (.newarray .boolean, 2) := by decide +kernel
theorem d_Mo_init_107 : decode c_Mo_init 107 = .ok (.putfield 50, 3) := by decide +kernel
theorem d_Mo_init_110 : decode c_Mo_init 110 = .ok (.aload_n 0, 1) := by decide +kernel
theorem d_Mo_init_111 : decode c_Mo_init 111 = .ok (.bipush 40, 2) := by decide +kernel
theorem d_Mo_init_113 : decode c_Mo_init 113 = .ok (.newarray .int, 2) := by decide +kernel
theorem d_Mo_init_115 : decode c_Mo_init 115 = .ok (.putfield 54, 3) := by decide +kernel
theorem d_Mo_init_118 : decode c_Mo_init 118 = .ok (.aload_n 0, 1) := by decide +kernel
theorem d_Mo_init_119 : decode c_Mo_init 119 = .ok (.bipush 40, 2) := by decide +kernel
theorem d_Mo_init_121 : decode c_Mo_init 121 = .ok (.newarray .int, 2) := by decide +kernel
theorem d_Mo_init_123 : decode c_Mo_init 123 = .ok (.putfield 57, 3) := by decide +kernel
theorem d_Mo_init_126 : decode c_Mo_init 126 = .ok (.aload_n 0, 1) := by decide +kernel
theorem d_Mo_init_127 : decode c_Mo_init 127 = .ok (.sipush 400, 3) := by decide +kernel
theorem d_Mo_init_130 : decode c_Mo_init 130 = .ok (.newarray .int, 2) := by decide +kernel
theorem d_Mo_init_132 : decode c_Mo_init 132 = .ok (.putfield 60, 3) := by decide +kernel
theorem d_Mo_init_135 : decode c_Mo_init 135 = .ok (.aload_n 0, 1) := by decide +kernel
theorem d_Mo_init_136 : decode c_Mo_init 136 = .ok (.sipush 400, 3) := by decide +kernel
theorem d_Mo_init_139 : decode c_Mo_init 139 = .ok (.newarray .int, 2) := by decide +kernel
theorem d_Mo_init_141 : decode c_Mo_init 141 = .ok (.putfield 63, 3) := by decide +kernel
theorem d_Mo_init_144 : decode c_Mo_init 144 = .ok (.aload_n 0, 1) := by decide +kernel
theorem d_Mo_init_145 : decode c_Mo_init 145 = .ok (.sipush 400, 3) := by decide +kernel
theorem d_Mo_init_148 : decode c_Mo_init 148 = .ok (.newarray .int, 2) := by decide +kernel
theorem d_Mo_init_150 : decode c_Mo_init 150 = .ok (.putfield 66, 3) := by decide +kernel
theorem d_Mo_init_153 : decode c_Mo_init 153 = .ok (.aload_n 0, 1) := by decide +kernel
theorem d_Mo_init_154 : decode c_Mo_init 154 = .ok (.bipush 40, 2) := by decide +kernel
theorem d_Mo_init_156 : decode c_Mo_init 156 = .ok (.newarray .int, 2) := by decide +kernel
theorem d_Mo_init_158 : decode c_Mo_init 158 = .ok (.putfield 69, 3) := by decide +kernel
theorem d_Mo_init_161 : decode c_Mo_init 161 = .ok (.aload_n 0, 1) := by decide +kernel
theorem d_Mo_init_162 : decode c_Mo_init 162 = .ok (.sipush 2600, 3) := by decide +kernel
theorem d_Mo_init_165 : decode c_Mo_init 165 = .ok (.newarray .int, 2) := by decide +kernel
theorem d_Mo_init_167 : decode c_Mo_init 167 = .ok (.putfield 72, 3) := by decide +kernel
theorem d_Mo_init_170 : decode c_Mo_init 170 = .ok (.aload_n 0, 1) := by decide +kernel
theorem d_Mo_init_171 : decode c_Mo_init 171 = .ok (.sipush 2600, 3) := by decide +kernel
theorem d_Mo_init_174 : decode c_Mo_init 174 = .ok (.newarray .int, 2) := by decide +kernel
theorem d_Mo_init_176 : decode c_Mo_init 176 = .ok (.putfield 75, 3) := by decide +kernel
theorem d_Mo_init_179 : decode c_Mo_init 179 = .ok (.aload_n 0, 1) := by decide +kernel
theorem d_Mo_init_180 : decode c_Mo_init 180 = .ok (.bipush 40, 2) := by decide +kernel
theorem d_Mo_init_182 : decode c_Mo_init 182 = .ok (.newarray .int, 2) := by decide +kernel
theorem d_Mo_init_184 : decode c_Mo_init 184 = .ok (.putfield 78, 3) := by decide +kernel
theorem d_Mo_init_187 : decode c_Mo_init 187 = .ok (.aload_n 0, 1) := by decide +kernel
theorem d_Mo_init_188 : decode c_Mo_init 188 = .ok (.bipush 40, 2) := by decide +kernel
theorem d_Mo_init_190 : decode c_Mo_init 190 = .ok (.newarray .int, 2) := by decide +kernel
theorem d_Mo_init_192 : decode c_Mo_init 192 = .ok (.putfield 81, 3) := by decide +kernel
theorem d_Mo_init_195 : decode c_Mo_init 195 = .ok (.aload_n 0, 1) := by decide +kernel
theorem d_Mo_init_196 : decode c_Mo_init 196 = .ok (.bipush 40, 2) := by decide +kernel
theorem d_Mo_init_198 : decode c_Mo_init 198 = .ok (.newarray .int, 2) := by decide +kernel
theorem d_Mo_init_200 : decode c_Mo_init 200 = .ok (.putfield 84, 3) := by decide +kernel
theorem d_Mo_init_203 : decode c_Mo_init 203 = .ok (.aload_n 0, 1) := by decide +kernel
theorem d_Mo_init_204 : decode c_Mo_init 204 = .ok (.bipush 40, 2) := by decide +kernel
theorem d_Mo_init_206 : decode c_Mo_init 206 = .ok (.newarray .boolean, 2) := by decide +kernel
theorem d_Mo_init_208 : decode c_Mo_init 208 = .ok (.putfield 87, 3) := by decide +kernel
theorem d_Mo_init_211 : decode c_Mo_init 211 = .ok (.aload_n 0, 1) := by decide +kernel
theorem d_Mo_init_212 : decode c_Mo_init 212 = .ok (.sipush 130, 3) := by decide +kernel
theorem d_Mo_init_215 : decode c_Mo_init 215 = .ok (.newarray .int, 2) := by decide +kernel
theorem d_Mo_init_217 : decode c_Mo_init 217 = .ok (.putfield 90, 3) := by decide +kernel
theorem d_Mo_init_220 : decode c_Mo_init 220 = .ok (.aload_n 0, 1) := by decide +kernel
theorem d_Mo_init_221 : decode c_Mo_init 221 = .ok (.sipush 130, 3) := by decide +kernel
theorem d_Mo_init_224 : decode c_Mo_init 224 = .ok (.newarray .int, 2) := by decide +kernel
theorem d_Mo_init_226 : decode c_Mo_init 226 = .ok (.putfield 93, 3) := by decide +kernel
theorem d_Mo_init_229 : decode c_Mo_init 229 = .ok (.aload_n 0, 1) := by decide +kernel
theorem d_Mo_init_230 : decode c_Mo_init 230 = .ok (.sipush 6000, 3) := by decide +kernel
theorem d_Mo_init_233 : decode c_Mo_init 233 = .ok (.newarray .int, 2) := by decide +kernel
theorem d_Mo_init_235 : decode c_Mo_init 235 = .ok (.putfield 96, 3) := by decide +kernel
theorem d_Mo_init_238 : decode c_Mo_init 238 = .ok (.return_, 1) := by decide +kernel
theorem d_Mo_in_0 : decode c_Mo_in 0 = .ok (.iload_n 0, 1) := by decide +kernel
theorem d_Mo_in_1 : decode c_Mo_in 1 = .ok (.iload_n 1, 1) := by decide +kernel
theorem d_Mo_in_2 : decode c_Mo_in 2 = .ok (.if_icmp .lt 12, 3) := by decide +kernel
theorem d_Mo_in_5 : decode c_Mo_in 5 = .ok (.iload_n 0, 1) := by decide +kernel
theorem d_Mo_in_6 : decode c_Mo_in 6 = .ok (.iload_n 2, 1) := by decide +kernel
theorem d_Mo_in_7 : decode c_Mo_in 7 = .ok (.if_icmp .gt 7, 3) := by decide +kernel
theorem d_Mo_in_10 : decode c_Mo_in 10 = .ok (.iconst 1, 1) := by decide +kernel
theorem d_Mo_in_11 : decode c_Mo_in 11 = .ok (.goto 4, 3) := by decide +kernel
theorem d_Mo_in_14 : decode c_Mo_in 14 = .ok (.iconst 0, 1) := by decide +kernel
theorem d_Mo_in_15 : decode c_Mo_in 15 = .ok (.ireturn, 1) := by decide +kernel
theorem d_Mo_type_0 : decode c_Mo_type 0 = .ok (.aload_n 0, 1) := by decide +kernel
theorem d_Mo_type_1 : decode c_Mo_type 1 = .ok (.getfield 99, 3) := by decide +kernel
theorem d_Mo_type_4 : decode c_Mo_type 4 = .ok (.iconst 5, 1) := by decide +kernel
theorem d_Mo_type_5 : decode c_Mo_type 5 = .ok (.if_icmp .eq 10, 3) := by decide +kernel
theorem d_Mo_type_8 : decode c_Mo_type 8 = .ok (.aload_n 0, 1) := by decide +kernel
theorem d_Mo_type_9 : decode c_Mo_type 9 = .ok (.getfield 102, 3) := by decide +kernel
theorem d_Mo_type_12 : decode c_Mo_type 12 = .ok (.ifCond .le 6, 3) := by decide +kernel
theorem d_Mo_type_15 : decode c_Mo_type 15 = .ok (.bipush (-2), 2) := by decide +kernel
theorem d_Mo_type_17 : decode c_Mo_type 17 = .ok (.ireturn, 1) := by decide +kernel
theorem d_Mo_type_18 : decode c_Mo_type 18 = .ok (.aload_n 0, 1) := by decide +kernel
theorem d_Mo_type_19 : decode c_Mo_type 19 = .ok (.dup, 1) := by decide +kernel
theorem d_Mo_type_20 : decode c_Mo_type 20 = .ok (.getfield 99, 3) := by decide +kernel
theorem d_Mo_type_23 : decode c_Mo_type 23 = .ok (.iconst 1, 1) := by decide +kernel
theorem d_Mo_type_24 : decode c_Mo_type 24 = .ok (.iadd, 1) := by decide +kernel
theorem d_Mo_type_25 : decode c_Mo_type 25 = .ok (.putfield 99, 3) := by decide +kernel
theorem d_Mo_type_28 : decode c_Mo_type 28 = .ok (.aload_n 0, 1) := by decide +kernel
theorem d_Mo_type_29 : decode c_Mo_type 29 = .ok (.getfield 99, 3) := by decide +kernel
theorem d_Mo_type_32 : decode c_Mo_type 32 = .ok (.iconst 1, 1) := by decide +kernel
theorem d_Mo_type_33 : decode c_Mo_type 33 = .ok (.isub, 1) := by decide +kernel
theorem d_Mo_type_34 : decode c_Mo_type 34 = .ok (.ireturn, 1) := by decide +kernel
theorem d_Mo_field_0 : decode c_Mo_field 0 = .ok (.iload_n 1, 1) := by decide +kernel
theorem d_Mo_field_1 : decode c_Mo_field 1 = .ok (.iconst 0, 1) := by decide +kernel
theorem d_Mo_field_2 : decode c_Mo_field 2 = .ok (.aload_n 0, 1) := by decide +kernel
theorem d_Mo_field_3 : decode c_Mo_field 3 = .ok (.getfield 99, 3) := by decide +kernel
theorem d_Mo_field_6 : decode c_Mo_field 6 = .ok (.iconst 1, 1) := by decide +kernel
theorem d_Mo_field_7 : decode c_Mo_field 7 = .ok (.isub, 1) := by decide +kernel
theorem d_Mo_field_8 : decode c_Mo_field 8 = .ok (.invokestatic 105, 3) := by decide +kernel
theorem d_Mo_field_11 : decode c_Mo_field 11 = .ok (.ifCond .eq 21, 3) := by decide +kernel
theorem d_Mo_field_14 : decode c_Mo_field 14 = .ok (.iload_n 2, 1) := by decide +kernel
theorem d_Mo_field_15 : decode c_Mo_field 15 = .ok (.iconst 0, 1) := by decide +kernel
theorem d_Mo_field_16 : decode c_Mo_field 16 = .ok (.iconst 2, 1) := by decide +kernel
theorem d_Mo_field_17 : decode c_Mo_field 17 = .ok (.invokestatic 105, 3) := by decide +kernel
theorem d_Mo_field_20 : decode c_Mo_field 20 = .ok (.ifCond .eq 12, 3) := by decide +kernel
theorem d_Mo_field_23 : decode c_Mo_field 23 = .ok (.iload_n 3, 1) := by decide +kernel
theorem d_Mo_field_24 : decode c_Mo_field 24 = .ok (.iconst 0, 1) := by decide +kernel
theorem d_Mo_field_25 : decode c_Mo_field 25 = .ok (.iconst 5, 1) := by decide +kernel
theorem d_Mo_field_26 : decode c_Mo_field 26 = .ok (.invokestatic 105, 3) := by decide +kernel
theorem d_Mo_field_29 : decode c_Mo_field 29 = .ok (.ifCond .ne 5, 3) := by decide +kernel
theorem d_Mo_field_32 : decode c_Mo_field 32 = .ok (.iconst (-1), 1) := by decide +kernel
theorem d_Mo_field_33 : decode c_Mo_field 33 = .ok (.ireturn, 1) := by decide +kernel
theorem d_Mo_field_34 : decode c_Mo_field 34 = .ok (.iload_n 2, 1) := by decide +kernel
theorem d_Mo_field_35 : decode c_Mo_field 35 = .ok (.ifCond .le 18, 3) := by decide +kernel
theorem d_Mo_field_38 : decode c_Mo_field 38 = .ok (.iload_n 3, 1) := by decide +kernel
theorem d_Mo_field_39 : decode c_Mo_field 39 = .ok (.iconst 5, 1) := by decide +kernel
theorem d_Mo_field_40 : decode c_Mo_field 40 = .ok (.if_icmp .ge 13, 3) := by decide +kernel
theorem d_Mo_field_43 : decode c_Mo_field 43 = .ok (.iload_n 3, 1) := by decide +kernel
theorem d_Mo_field_44 : decode c_Mo_field 44 = .ok (.aload_n 0, 1) := by decide +kernel
theorem d_Mo_field_45 : decode c_Mo_field 45 = .ok (.getfield 99, 3) := by decide +kernel
theorem d_Mo_field_48 : decode c_Mo_field 48 = .ok (.if_icmp .lt 5, 3) := by decide +kernel
theorem d_Mo_field_51 : decode c_Mo_field 51 = .ok (.iconst (-1), 1) := by decide +kernel
theorem d_Mo_field_52 : decode c_Mo_field 52 = .ok (.ireturn, 1) := by decide +kernel
theorem d_Mo_field_53 : decode c_Mo_field 53 = .ok (.aload_n 0, 1) := by decide +kernel
theorem d_Mo_field_54 : decode c_Mo_field 54 = .ok (.getfield 102, 3) := by decide +kernel
theorem d_Mo_field_57 : decode c_Mo_field 57 = .ok (.ifCond .gt 13, 3) := by decide +kernel
theorem d_Mo_field_60 : decode c_Mo_field 60 = .ok (.aload_n 0, 1) := by decide +kernel
theorem d_Mo_field_61 : decode c_Mo_field 61 = .ok (.getfield 7, 3) := by decide +kernel
theorem d_Mo_field_64 : decode c_Mo_field 64 = .ok (.iload_n 1, 1) := by decide +kernel
theorem d_Mo_field_65 : decode c_Mo_field 65 = .ok (.iaload, 1) := by decide +kernel
theorem d_Mo_field_66 : decode c_Mo_field 66 = .ok (.iconst 4, 1) := by decide +kernel
theorem d_Mo_field_67 : decode c_Mo_field 67 = .ok (.if_icmp .ne 6, 3) := by decide +kernel
theorem d_Mo_field_70 : decode c_Mo_field 70 = .ok (.bipush (-2), 2) := by decide +kernel
theorem d_Mo_field_72 : decode c_Mo_field 72 = .ok (.ireturn, 1) := by decide +kernel
theorem d_Mo_field_73 : decode c_Mo_field 73 = .ok (.bipush 12, 2) := by decide +kernel
theorem d_Mo_field_75 : decode c_Mo_field 75 = .ok (.iload_n 1, 1) := by decide +kernel
theorem d_Mo_field_76 : decode c_Mo_field 76 = .ok (.imul, 1) := by decide +kernel
theorem d_Mo_field_77 : decode c_Mo_field 77 = .ok (.iconst 3, 1) := by decide +kernel
theorem d_Mo_field_78 : decode c_Mo_field 78 = .ok (.aload_n 0, 1) := by decide +kernel
theorem d_Mo_field_79 : decode c_Mo_field 79 = .ok (.getfield 7, 3) := by decide +kernel
theorem d_Mo_field_82 : decode c_Mo_field 82 = .ok (.iload_n 1, 1) := by decide +kernel
theorem d_Mo_field_83 : decode c_Mo_field 83 = .ok (.iaload, 1) := by decide +kernel
theorem d_Mo_field_84 : decode c_Mo_field 84 = .ok (.imul, 1) := by decide +kernel
theorem d_Mo_field_85 : decode c_Mo_field 85 = .ok (.iadd, 1) := by decide +kernel
theorem d_Mo_field_86 : decode c_Mo_field 86 = .ok (.istore 5, 2) := by decide +kernel
