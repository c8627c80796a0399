theorem d_Co_init_1 : decode c_Co_init 1 = .ok (.invokespecial 3, 3) := by decide +kernel
theorem d_Co_init_4 : decode c_Co_init 4 = .ok (.aload_n 0, 1) := by decide +kernel
theorem d_Co_init_5 : decode c_Co_init 5 = .ok (.aload_n 1, 1) := by decide +kernel
theorem d_Co_init_6 : decode c_Co_init 6 = .ok (.putfield 9, 3) := by decide +kernel
theorem d_Co_init_9 : decode c_Co_init 9 = .ok (.aload_n 0, 1) := by decide +kernel
theorem d_Co_init_10 : decode c_Co_init 10 = .ok (.aload_n 2, 1) := by decide +kernel
theorem d_Co_init_11 : decode c_Co_init 11 = .ok (.putfield 15, 3) := by decide +kernel
theorem d_Co_init_14 : decode c_Co_init 14 = .ok (.return_, 1) := by decide +kernel
theorem d_Co_collect_0 : decode c_Co_collect 0 = .ok (.aload_n 0, 1) := by decide +kernel
theorem d_Co_collect_1 : decode c_Co_collect 1 = .ok (.aconst_null, 1) := by decide +kernel
theorem d_Co_collect_2 : decode c_Co_collect 2 = .ok (.putfield 19, 3) := by decide +kernel
theorem d_Co_collect_5 : decode c_Co_collect 5 = .ok (.aload_n 0, 1) := by decide +kernel
theorem d_Co_collect_6 : decode c_Co_collect 6 = .ok (.aconst_null, 1) := by decide +kernel
theorem d_Co_collect_7 : decode c_Co_collect 7 = .ok (.putfield 23, 3) := by decide +kernel
theorem d_Co_collect_10 : decode c_Co_collect 10 = .ok (.aload_n 0, 1) := by decide +kernel
theorem d_Co_collect_11 : decode c_Co_collect 11 = .ok (.iconst 0, 1) := by decide +kernel
theorem d_Co_collect_12 : decode c_Co_collect 12 = .ok (.putfield 26, 3) := by decide +kernel
theorem d_Co_collect_15 : decode c_Co_collect 15 = .ok (.aload_n 2, 1) := by decide +kernel
theorem d_Co_collect_16 : decode c_Co_collect 16 = .ok (.astore_n 3, 1) := by decide +kernel
theorem d_Co_collect_17 : decode c_Co_collect 17 = .ok (.aload_n 3, 1) := by decide +kernel
theorem d_Co_collect_18 : decode c_Co_collect 18 = .ok (.ifnull 96, 3) := by decide +kernel
theorem d_Co_collect_21 : decode c_Co_collect 21 = .ok (.aload_n 0, 1) := by decide +kernel
theorem d_Co_collect_22 : decode c_Co_collect 22 = .ok (.getfield 26, 3) := by decide +kernel
theorem d_Co_collect_25 : decode c_Co_collect 25 = .ok (.ifCond .ne 89, 3) := by decide +kernel
theorem d_Co_collect_28 : decode c_Co_collect 28 = .ok (.aload_n 3, 1) := by decide +kernel
theorem d_Co_collect_29 : decode c_Co_collect 29 = .ok (.getfield 30, 3) := by decide +kernel
theorem d_Co_collect_32 : decode c_Co_collect 32 = .ok (.iconst 1, 1) := by decide +kernel
theorem d_Co_collect_33 : decode c_Co_collect 33 = .ok (.iadd, 1) := by decide +kernel
theorem d_Co_collect_34 : decode c_Co_collect 34 = .ok (.istore 4, 2) := by decide +kernel
theorem d_Co_collect_36 : decode c_Co_collect 36 = .ok (.iload 4, 2) := by decide +kernel
theorem d_Co_collect_38 : decode c_Co_collect 38 = .ok (.aload_n 3, 1) := by decide +kernel
theorem d_Co_collect_39 : decode c_Co_collect 39 = .ok (.getfield 36, 3) := by decide +kernel
theorem d_Co_collect_42 : decode c_Co_collect 42 = .ok (.if_icmp .ge 64, 3) := by decide +kernel
theorem d_Co_collect_45 : decode c_Co_collect 45 = .ok (.aload_n 0, 1) := by decide +kernel
theorem d_Co_collect_46 : decode c_Co_collect 46 = .ok (.getfield 26, 3) := by decide +kernel
theorem d_Co_collect_49 : decode c_Co_collect 49 = .ok (.ifCond .ne 57, 3) := by decide +kernel
theorem d_Co_collect_52 : decode c_Co_collect 52 = .ok (.aload_n 0, 1) := by decide +kernel
theorem d_Co_collect_53 : decode c_Co_collect 53 = .ok (.getfield 9, 3) := by decide +kernel
theorem d_Co_collect_56 : decode c_Co_collect 56 = .ok (.getfield 39, 3) := by decide +kernel
theorem d_Co_collect_59 : decode c_Co_collect 59 = .ok (.iload 4, 2) := by decide +kernel
theorem d_Co_collect_61 : decode c_Co_collect 61 = .ok (.aaload, 1) := by decide +kernel
theorem d_Co_collect_62 : decode c_Co_collect 62 = .ok (.astore 5, 2) := by decide +kernel
theorem d_Co_collect_64 : decode c_Co_collect 64 = .ok (.aload 5, 2) := by decide +kernel
theorem d_Co_collect_66 : decode c_Co_collect 66 = .ok (.invokevirtual 45, 3) := by decide +kernel
theorem d_Co_collect_69 : decode c_Co_collect 69 = .ok (.ifCond .eq 9, 3) := by decide +kernel
theorem d_Co_collect_72 : decode c_Co_collect 72 = .ok (.aload_n 0, 1) := by decide +kernel
theorem d_Co_collect_73 : decode c_Co_collect 73 = .ok (.aload 5, 2) := by decide +kernel
theorem d_Co_collect_75 : decode c_Co_collect 75 = .ok (.invokevirtual 49, 3) := by decide +kernel
theorem d_Co_collect_78 : decode c_Co_collect 78 = .ok (.aload_n 0, 1) := by decide +kernel
theorem d_Co_collect_79 : decode c_Co_collect 79 = .ok (.aload 5, 2) := by decide +kernel
theorem d_Co_collect_81 : decode c_Co_collect 81 = .ok (.iload_n 1, 1) := by decide +kernel
theorem d_Co_collect_82 : decode c_Co_collect 82 = .ok (.invokevirtual 53, 3) := by decide +kernel
theorem d_Co_collect_85 : decode c_Co_collect 85 = .ok (.ifCond .eq 15, 3) := by decide +kernel
theorem d_Co_collect_88 : decode c_Co_collect 88 = .ok (.iload 4, 2) := by decide +kernel
theorem d_Co_collect_90 : decode c_Co_collect 90 = .ok (.aload 5, 2) := by decide +kernel
theorem d_Co_collect_92 : decode c_Co_collect 92 = .ok (.getfield 36, 3) := by decide +kernel
theorem d_Co_collect_95 : decode c_Co_collect 95 = .ok (.invokestatic 57, 3) := by decide +kernel
theorem d_Co_collect_98 : decode c_Co_collect 98 = .ok (.istore 4, 2) := by decide +kernel
theorem d_Co_collect_100 : decode c_Co_collect 100 = .ok (.iinc 4 1, 3) := by decide +kernel
theorem d_Co_collect_103 : decode c_Co_collect 103 = .ok (.goto (-67), 3) := by decide +kernel
theorem d_Co_collect_106 : decode c_Co_collect 106 = .ok (.aload_n 3, 1) := by decide +kernel
theorem d_Co_collect_107 : decode c_Co_collect 107 = .ok (.getfield 63, 3) := by decide +kernel
theorem d_Co_collect_110 : decode c_Co_collect 110 = .ok (.astore_n 3, 1) := by decide +kernel
theorem d_Co_collect_111 : decode c_Co_collect 111 = .ok (.goto (-94), 3) := by decide +kernel
theorem d_Co_collect_114 : decode c_Co_collect 114 = .ok (.aload_n 0, 1) := by decide +kernel
theorem d_Co_collect_115 : decode c_Co_collect 115 = .ok (.getfield 19, 3) := by decide +kernel
theorem d_Co_collect_118 : decode c_Co_collect 118 = .ok (.areturn, 1) := by decide +kernel
theorem d_Co_isPassedOver_0 : decode c_Co_isPassedOver 0 = .ok (.aload_n 1, 1) := by decide +kernel
theorem d_Co_isPassedOver_1 : decode c_Co_isPassedOver 1 = .ok (.getfield 66, 3) := by decide +kernel
theorem d_Co_isPassedOver_4 : decode c_Co_isPassedOver 4 = .ok (.tableswitch 70 1 4 #[32, 70, 34, 48], 32) := by decide +kernel
theorem d_Co_isPassedOver_36 : decode c_Co_isPassedOver 36 = .ok (.iconst 1, 1) := by decide +kernel
theorem d_Co_isPassedOver_37 : decode c_Co_isPassedOver 37 = .ok (.ireturn, 1) := by decide +kernel
theorem d_Co_isPassedOver_38 : decode c_Co_isPassedOver 38 = .ok (.aload_n 1, 1) := by decide +kernel
theorem d_Co_isPassedOver_39 : decode c_Co_isPassedOver 39 = .ok (.getfield 69, 3) := by decide +kernel
theorem d_Co_isPassedOver_42 : decode c_Co_isPassedOver 42 = .ok (.iload_n 2, 1) := by decide +kernel
theorem d_Co_isPassedOver_43 : decode c_Co_isPassedOver 43 = .ok (.if_icmp .eq 7, 3) := by decide +kernel
theorem d_Co_isPassedOver_46 : decode c_Co_isPassedOver 46 = .ok (.iconst 1, 1) := by decide +kernel
theorem d_Co_isPassedOver_47 : decode c_Co_isPassedOver 47 = .ok (.goto 4, 3) := by decide +kernel
theorem d_Co_isPassedOver_50 : decode c_Co_isPassedOver 50 = .ok (.iconst 0, 1) := by decide +kernel
theorem d_Co_isPassedOver_51 : decode c_Co_isPassedOver 51 = .ok (.ireturn, 1) := by decide +kernel
theorem d_Co_isPassedOver_52 : decode c_Co_isPassedOver 52 = .ok (.aload_n 0, 1) := by decide +kernel
theorem d_Co_isPassedOver_53 : decode c_Co_isPassedOver 53 = .ok (.getfield 15, 3) := by decide +kernel
theorem d_Co_isPassedOver_56 : decode c_Co_isPassedOver 56 = .ok (.aload_n 1, 1) := by decide +kernel
theorem d_Co_isPassedOver_57 : decode c_Co_isPassedOver 57 = .ok (.getfield 69, 3) := by decide +kernel
theorem d_Co_isPassedOver_60 : decode c_Co_isPassedOver 60 = .ok (.iaload, 1) := by decide +kernel
theorem d_Co_isPassedOver_61 : decode c_Co_isPassedOver 61 = .ok (.aload_n 1, 1) := by decide +kernel
theorem d_Co_isPassedOver_62 : decode c_Co_isPassedOver 62 = .ok (.getfield 72, 3) := by decide +kernel
theorem d_Co_isPassedOver_65 : decode c_Co_isPassedOver 65 = .ok (.if_icmp .eq 7, 3) := by decide +kernel
theorem d_Co_isPassedOver_68 : decode c_Co_isPassedOver 68 = .ok (.iconst 1, 1) := by decide +kernel
theorem d_Co_isPassedOver_69 : decode c_Co_isPassedOver 69 = .ok (.goto 4, 3) := by decide +kernel
theorem d_Co_isPassedOver_72 : decode c_Co_isPassedOver 72 = .ok (.iconst 0, 1) := by decide +kernel
theorem d_Co_isPassedOver_73 : decode c_Co_isPassedOver 73 = .ok (.ireturn, 1) := by decide +kernel
theorem d_Co_isPassedOver_74 : decode c_Co_isPassedOver 74 = .ok (.iconst 0, 1) := by decide +kernel
theorem d_Co_isPassedOver_75 : decode c_Co_isPassedOver 75 = .ok (.ireturn, 1) := by decide +kernel
theorem d_Co_enter_0 : decode c_Co_enter 0 = .ok (.aload_n 1, 1) := by decide +kernel
theorem d_Co_enter_1 : decode c_Co_enter 1 = .ok (.aconst_null, 1) := by decide +kernel
theorem d_Co_enter_2 : decode c_Co_enter 2 = .ok (.putfield 63, 3) := by decide +kernel
theorem d_Co_enter_5 : decode c_Co_enter 5 = .ok (.aload_n 0, 1) := by decide +kernel
theorem d_Co_enter_6 : decode c_Co_enter 6 = .ok (.aload_n 1, 1) := by decide +kernel
theorem d_Co_enter_7 : decode c_Co_enter 7 = .ok (.getfield 69, 3) := by decide +kernel
theorem d_Co_enter_10 : decode c_Co_enter 10 = .ok (.invokevirtual 75, 3) := by decide +kernel
theorem d_Co_enter_13 : decode c_Co_enter 13 = .ok (.astore_n 2, 1) := by decide +kernel
theorem d_Co_enter_14 : decode c_Co_enter 14 = .ok (.aload_n 2, 1) := by decide +kernel
theorem d_Co_enter_15 : decode c_Co_enter 15 = .ok (.ifnonnull 11, 3) := by decide +kernel
theorem d_Co_enter_18 : decode c_Co_enter 18 = .ok (.aload_n 0, 1) := by decide +kernel
theorem d_Co_enter_19 : decode c_Co_enter 19 = .ok (.aload_n 1, 1) := by decide +kernel
theorem d_Co_enter_20 : decode c_Co_enter 20 = .ok (.invokevirtual 79, 3) := by decide +kernel
theorem d_Co_enter_23 : decode c_Co_enter 23 = .ok (.goto 46, 3) := by decide +kernel
theorem d_Co_enter_26 : decode c_Co_enter 26 = .ok (.aload_n 2, 1) := by decide +kernel
theorem d_Co_enter_27 : decode c_Co_enter 27 = .ok (.getfield 66, 3) := by decide +kernel
theorem d_Co_enter_30 : decode c_Co_enter 30 = .ok (.aload_n 1, 1) := by decide +kernel
theorem d_Co_enter_31 : decode c_Co_enter 31 = .ok (.getfield 66, 3) := by decide +kernel
theorem d_Co_enter_34 : decode c_Co_enter 34 = .ok (.if_icmp .ne 22, 3) := by decide +kernel
theorem d_Co_enter_37 : decode c_Co_enter 37 = .ok (.aload_n 1, 1) := by decide +kernel
theorem d_Co_enter_38 : decode c_Co_enter 38 = .ok (.getfield 66, 3) := by decide +kernel
theorem d_Co_enter_41 : decode c_Co_enter 41 = .ok (.iconst 2, 1) := by decide +kernel
theorem d_Co_enter_42 : decode c_Co_enter 42 = .ok (.if_icmp .eq 22, 3) := by decide +kernel
theorem d_Co_enter_45 : decode c_Co_enter 45 = .ok (.aload_n 2, 1) := by decide +kernel
theorem d_Co_enter_46 : decode c_Co_enter 46 = .ok (.getfield 72, 3) := by decide +kernel
theorem d_Co_enter_49 : decode c_Co_enter 49 = .ok (.aload_n 1, 1) := by decide +kernel
theorem d_Co_enter_50 : decode c_Co_enter 50 = .ok (.getfield 72, 3) := by decide +kernel
theorem d_Co_enter_53 : decode c_Co_enter 53 = .ok (.if_icmp .eq 11, 3) := by decide +kernel
theorem d_Co_enter_56 : decode c_Co_enter 56 = .ok (.aload_n 0, 1) := by decide +kernel
theorem d_Co_enter_57 : decode c_Co_enter 57 = .ok (.iconst 1, 1) := by decide +kernel
theorem d_Co_enter_58 : decode c_Co_enter 58 = .ok (.putfield 26, 3) := by decide +kernel
theorem d_Co_enter_61 : decode c_Co_enter 61 = .ok (.goto 8, 3) := by decide +kernel
theorem d_Co_enter_64 : decode c_Co_enter 64 = .ok (.aload_n 2, 1) := by decide +kernel
theorem d_Co_enter_65 : decode c_Co_enter 65 = .ok (.aload_n 1, 1) := by decide +kernel
theorem d_Co_enter_66 : decode c_Co_enter 66 = .ok (.invokestatic 82, 3) := by decide +kernel
theorem d_Co_enter_69 : decode c_Co_enter 69 = .ok (.return_, 1) := by decide +kernel
theorem d_Co_putBehind_0 : decode c_Co_putBehind 0 = .ok (.aload_n 0, 1) := by decide +kernel
theorem d_Co_putBehind_1 : decode c_Co_putBehind 1 = .ok (.astore_n 2, 1) := by decide +kernel
theorem d_Co_putBehind_2 : decode c_Co_putBehind 2 = .ok (.aload_n 2, 1) := by decide +kernel
theorem d_Co_putBehind_3 : decode c_Co_putBehind 3 = .ok (.getfield 63, 3) := by decide +kernel
theorem d_Co_putBehind_6 : decode c_Co_putBehind 6 = .ok (.ifnull 11, 3) := by decide +kernel
theorem d_Co_putBehind_9 : decode c_Co_putBehind 9 = .ok (.aload_n 2, 1) := by decide +kernel
theorem d_Co_putBehind_10 : decode c_Co_putBehind 10 = .ok (.getfield 63, 3) := by decide +kernel
theorem d_Co_putBehind_13 : decode c_Co_putBehind 13 = .ok (.astore_n 2, 1) := by decide +kernel
theorem d_Co_putBehind_14 : decode c_Co_putBehind 14 = .ok (.goto (-12), 3) := by decide +kernel
theorem d_Co_putBehind_17 : decode c_Co_putBehind 17 = .ok (.aload_n 2, 1) := by decide +kernel
theorem d_Co_putBehind_18 : decode c_Co_putBehind 18 = .ok (.aload_n 1, 1) := by decide +kernel
theorem d_Co_putBehind_19 : decode c_Co_putBehind 19 = .ok (.putfield 63, 3) := by decide +kernel
theorem d_Co_putBehind_22 : decode c_Co_putBehind 22 = .ok (.return_, 1) := by decide +kernel
theorem d_Co_entryNamed_0 : decode c_Co_entryNamed 0 = .ok (.aload_n 0, 1) := by decide +kernel
theorem d_Co_entryNamed_1 : decode c_Co_entryNamed 1 = .ok (.getfield 19, 3) := by decide +kernel
theorem d_Co_entryNamed_4 : decode c_Co_entryNamed 4 = .ok (.astore_n 2, 1) := by decide +kernel
theorem d_Co_entryNamed_5 : decode c_Co_entryNamed 5 = .ok (.aload_n 2, 1) := by decide +kernel
theorem d_Co_entryNamed_6 : decode c_Co_entryNamed 6 = .ok (.ifnull 21, 3) := by decide +kernel
theorem d_Co_entryNamed_9 : decode c_Co_entryNamed 9 = .ok (.aload_n 2, 1) := by decide +kernel
theorem d_Co_entryNamed_10 : decode c_Co_entryNamed 10 = .ok (.getfield 69, 3) := by decide +kernel
theorem d_Co_entryNamed_13 : decode c_Co_entryNamed 13 = .ok (.iload_n 1, 1) := by decide +kernel
theorem d_Co_entryNamed_14 : decode c_Co_entryNamed 14 = .ok (.if_icmp .ne 5, 3) := by decide +kernel
theorem d_Co_entryNamed_17 : decode c_Co_entryNamed 17 = .ok (.aload_n 2, 1) := by decide +kernel
theorem d_Co_entryNamed_18 : decode c_Co_entryNamed 18 = .ok (.areturn, 1) := by decide +kernel
theorem d_Co_entryNamed_19 : decode c_Co_entryNamed 19 = .ok (.aload_n 2, 1) := by decide +kernel
theorem d_Co_entryNamed_20 : decode c_Co_entryNamed 20 = .ok (.getfield 86, 3) := by decide +kernel
theorem d_Co_entryNamed_23 : decode c_Co_entryNamed 23 = .ok (.astore_n 2, 1) := by decide +kernel
theorem d_Co_entryNamed_24 : decode c_Co_entryNamed 24 = .ok (.goto (-19), 3) := by decide +kernel
theorem d_Co_entryNamed_27 : decode c_Co_entryNamed 27 = .ok (.aconst_null, 1) := by decide +kernel
theorem d_Co_entryNamed_28 : decode c_Co_entryNamed 28 = .ok (.areturn, 1) := by decide +kernel
theorem d_Co_addEntry_0 : decode c_Co_addEntry 0 = .ok (.aload_n 1, 1) := by decide +kernel
theorem d_Co_addEntry_1 : decode c_Co_addEntry 1 = .ok (.aconst_null, 1) := by decide +kernel
theorem d_Co_addEntry_2 : decode c_Co_addEntry 2 = .ok (.putfield 86, 3) := by decide +kernel
theorem d_Co_addEntry_5 : decode c_Co_addEntry 5 = .ok (.aload_n 0, 1) := by decide +kernel
theorem d_Co_addEntry_6 : decode c_Co_addEntry 6 = .ok (.getfield 23, 3) := by decide +kernel
theorem d_Co_addEntry_9 : decode c_Co_addEntry 9 = .ok (.ifnonnull 11, 3) := by decide +kernel
theorem d_Co_addEntry_12 : decode c_Co_addEntry 12 = .ok (.aload_n 0, 1) := by decide +kernel
theorem d_Co_addEntry_13 : decode c_Co_addEntry 13 = .ok (.aload_n 1, 1) := by decide +kernel
theorem d_Co_addEntry_14 : decode c_Co_addEntry 14 = .ok (.putfield 19, 3) := by decide +kernel
theorem d_Co_addEntry_17 : decode c_Co_addEntry 17 = .ok (.goto 11, 3) := by decide +kernel
theorem d_Co_addEntry_20 : decode c_Co_addEntry 20 = .ok (.aload_n 0, 1) := by decide +kernel
theorem d_Co_addEntry_21 : decode c_Co_addEntry 21 = .ok (.getfield 23, 3) := by decide +kernel
theorem d_Co_addEntry_24 : decode c_Co_addEntry 24 = .ok (.aload_n 1, 1) := by decide +kernel
theorem d_Co_addEntry_25 : decode c_Co_addEntry 25 = .ok (.putfield 86, 3) := by decide +kernel
theorem d_Co_addEntry_28 : decode c_Co_addEntry 28 = .ok (.aload_n 0, 1) := by decide +kernel
theorem d_Co_addEntry_29 : decode c_Co_addEntry 29 = .ok (.aload_n 1, 1) := by decide +kernel
theorem d_Co_addEntry_30 : decode c_Co_addEntry 30 = .ok (.putfield 23, 3) := by decide +kernel
theorem d_Co_addEntry_33 : decode c_Co_addEntry 33 = .ok (.return_, 1) := by decide +kernel
theorem d_Pa_init_0 : decode c_Pa_init 0 = .ok (.aload_n 0, 1) := by decide +kernel
theorem d_Pa_init_1 : decode c_Pa_init 1 = .ok (.invokespecial 3, 3) := by decide +kernel
theorem d_Pa_init_4 : decode c_Pa_init 4 = .ok (.aload_n 0, 1) := by decide +kernel
theorem d_Pa_init_5 : decode c_Pa_init 5 = .ok (.bipush 26, 2) := by decide +kernel
theorem d_Pa_init_7 : decode c_Pa_init 7 = .ok (.newarray .int, 2) := by decide +kernel
theorem d_Pa_init_9 : decode c_Pa_init 9 = .ok (.putfield 9, 3) := by decide +kernel
theorem d_Pa_init_12 : decode c_Pa_init 12 = .ok (.aload_n 0, 1) := by decide +kernel
theorem d_Pa_init_13 : decode c_Pa_init 13 = .ok (.bipush 60, 2) := by decide +kernel
theorem d_Pa_init_15 : decode c_Pa_init 15 = .ok (.newarray .int, 2) := by decide +kernel
theorem d_Pa_init_17 : decode c_Pa_init 17 = .ok (.putfield 15, 3) := by decide +kernel
theorem d_Pa_init_20 : decode c_Pa_init 20 = .ok (.aload_n 0, 1) := by decide +kernel
theorem d_Pa_init_21 : decode c_Pa_init 21 = .ok (.sipush 1560, 3) := by decide +kernel
theorem d_Pa_init_24 : decode c_Pa_init 24 = .ok (.newarray .int, 2) := by decide +kernel
theorem d_Pa_init_26 : decode c_Pa_init 26 = .ok (.putfield 18, 3) := by decide +kernel
theorem d_Pa_init_29 : decode c_Pa_init 29 = .ok (.return_, 1) := by decide +kernel
theorem d_Pa_forgetAll_0 : decode c_Pa_forgetAll 0 = .ok (.aload_n 0, 1) := by decide +kernel
theorem d_Pa_forgetAll_1 : decode c_Pa_forgetAll 1 = .ok (.iconst 0, 1) := by decide +kernel
theorem d_Pa_forgetAll_2 : decode c_Pa_forgetAll 2 = .ok (.putfield 21, 3) := by decide +kernel
theorem d_Pa_forgetAll_5 : decode c_Pa_forgetAll 5 = .ok (.aload_n 0, 1) := by decide +kernel
theorem d_Pa_forgetAll_6 : decode c_Pa_forgetAll 6 = .ok (.iconst 0, 1) := by decide +kernel
theorem d_Pa_forgetAll_7 : decode c_Pa_forgetAll 7 = .ok (.putfield 25, 3) := by decide +kernel
theorem d_Pa_forgetAll_10 : decode c_Pa_forgetAll 10 = .ok (.return_, 1) := by decide +kernel
theorem d_Pa_goInto_0 : decode c_Pa_goInto 0 = .ok (.aload_n 0, 1) := by decide +kernel
theorem d_Pa_goInto_1 : decode c_Pa_goInto 1 = .ok (.getfield 21, 3) := by decide +kernel
theorem d_Pa_goInto_4 : decode c_Pa_goInto 4 = .ok (.bipush 26, 2) := by decide +kernel
theorem d_Pa_goInto_6 : decode c_Pa_goInto 6 = .ok (.if_icmp .ge 23, 3) := by decide +kernel
theorem d_Pa_goInto_9 : decode c_Pa_goInto 9 = .ok (.aload_n 0, 1) := by decide +kernel
theorem d_Pa_goInto_10 : decode c_Pa_goInto 10 = .ok (.getfield 9, 3) := by decide +kernel
theorem d_Pa_goInto_13 : decode c_Pa_goInto 13 = .ok (.aload_n 0, 1) := by decide +kernel
theorem d_Pa_goInto_14 : decode c_Pa_goInto 14 = .ok (.getfield 21, 3) := by decide +kernel
theorem d_Pa_goInto_17 : decode c_Pa_goInto 17 = .ok (.iload_n 1, 1) := by decide +kernel
theorem d_Pa_goInto_18 : decode c_Pa_goInto 18 = .ok (.iastore, 1) := by decide +kernel
theorem d_Pa_goInto_19 : decode c_Pa_goInto 19 = .ok (.aload_n 0, 1) := by decide +kernel
theorem d_Pa_goInto_20 : decode c_Pa_goInto 20 = .ok (.dup, 1) := by decide +kernel
theorem d_Pa_goInto_21 : decode c_Pa_goInto 21 = .ok (.getfield 21, 3) := by decide +kernel
theorem d_Pa_goInto_24 : decode c_Pa_goInto 24 = .ok (.iconst 1, 1) := by decide +kernel
theorem d_Pa_goInto_25 : decode c_Pa_goInto 25 = .ok (.iadd, 1) := by decide +kernel
theorem d_Pa_goInto_26 : decode c_Pa_goInto 26 = .ok (.putfield 21, 3) := by decide +kernel
theorem d_Pa_goInto_29 : decode c_Pa_goInto 29 = .ok (.return_, 1) := by decide +kernel
theorem d_Pa_goOut_0 : decode c_Pa_goOut 0 = .ok (.aload_n 0, 1) := by decide +kernel
theorem d_Pa_goOut_1 : decode c_Pa_goOut 1 = .ok (.iconst 0, 1) := by decide +kernel
theorem d_Pa_goOut_2 : decode c_Pa_goOut 2 = .ok (.aload_n 0, 1) := by decide +kernel
theorem d_Pa_goOut_3 : decode c_Pa_goOut 3 = .ok (.getfield 21, 3) := by decide +kernel
theorem d_Pa_goOut_6 : decode c_Pa_goOut 6 = .ok (.iconst 1, 1) := by decide +kernel
theorem d_Pa_goOut_7 : decode c_Pa_goOut 7 = .ok (.isub, 1) := by decide +kernel
theorem d_Pa_goOut_8 : decode c_Pa_goOut 8 = .ok (.invokestatic 28, 3) := by decide +kernel
theorem d_Pa_goOut_11 : decode c_Pa_goOut 11 = .ok (.putfield 21, 3) := by decide +kernel
theorem d_Pa_goOut_14 : decode c_Pa_goOut 14 = .ok (.return_, 1) := by decide +kernel
theorem d_Pa_noteHere_0 : decode c_Pa_noteHere 0 = .ok (.aload_n 0, 1) := by decide +kernel
theorem d_Pa_noteHere_1 : decode c_Pa_noteHere 1 = .ok (.getfield 25, 3) := by decide +kernel
theorem d_Pa_noteHere_4 : decode c_Pa_noteHere 4 = .ok (.bipush 60, 2) := by decide +kernel
theorem d_Pa_noteHere_6 : decode c_Pa_noteHere 6 = .ok (.if_icmp .ge 49, 3) := by decide +kernel
theorem d_Pa_noteHere_9 : decode c_Pa_noteHere 9 = .ok (.aload_n 0, 1) := by decide +kernel
theorem d_Pa_noteHere_10 : decode c_Pa_noteHere 10 = .ok (.getfield 9, 3) := by decide +kernel
theorem d_Pa_noteHere_13 : decode c_Pa_noteHere 13 = .ok (.iconst 0, 1) := by decide +kernel
theorem d_Pa_noteHere_14 : decode c_Pa_noteHere 14 = .ok (.aload_n 0, 1) := by decide +kernel
theorem d_Pa_noteHere_15 : decode c_Pa_noteHere 15 = .ok (.getfield 18, 3) := by decide +kernel
theorem d_Pa_noteHere_18 : decode c_Pa_noteHere 18 = .ok (.aload_n 0, 1) := by decide +kernel
theorem d_Pa_noteHere_19 : decode c_Pa_noteHere 19 = .ok (.getfield 25, 3) := by decide +kernel
theorem d_Pa_noteHere_22 : decode c_Pa_noteHere 22 = .ok (.bipush 26, 2) := by decide +kernel
theorem d_Pa_noteHere_24 : decode c_Pa_noteHere 24 = .ok (.imul, 1) := by decide +kernel
theorem d_Pa_noteHere_25 : decode c_Pa_noteHere 25 = .ok (.aload_n 0, 1) := by decide +kernel
theorem d_Pa_noteHere_26 : decode c_Pa_noteHere 26 = .ok (.getfield 21, 3) := by decide +kernel
theorem d_Pa_noteHere_29 : decode c_Pa_noteHere 29 = .ok (.invokestatic 34, 3) := by decide +kernel
theorem d_Pa_noteHere_32 : decode c_Pa_noteHere 32 = .ok (.aload_n 0, 1) := by decide +kernel
theorem d_Pa_noteHere_33 : decode c_Pa_noteHere 33 = .ok (.getfield 15, 3) := by decide +kernel
theorem d_Pa_noteHere_36 : decode c_Pa_noteHere 36 = .ok (.aload_n 0, 1) := by decide +kernel
theorem d_Pa_noteHere_37 : decode c_Pa_noteHere 37 = .ok (.getfield 25, 3) := by decide +kernel
theorem d_Pa_noteHere_40 : decode c_Pa_noteHere 40 = .ok (.aload_n 0, 1) := by decide +kernel
theorem d_Pa_noteHere_41 : decode c_Pa_noteHere 41 = .ok (.getfield 21, 3) := by decide +kernel
theorem d_Pa_noteHere_44 : decode c_Pa_noteHere 44 = .ok (.iastore, 1) := by decide +kernel
theorem d_Pa_noteHere_45 : decode c_Pa_noteHere 45 = .ok (.aload_n 0, 1) := by decide +kernel
theorem d_Pa_noteHere_46 : decode c_Pa_noteHere 46 = .ok (.dup, 1) := by decide +kernel
theorem d_Pa_noteHere_47 : decode c_Pa_noteHere 47 = .ok (.getfield 25, 3) := by decide +kernel
theorem d_Pa_noteHere_50 : decode c_Pa_noteHere 50 = .ok (.iconst 1, 1) := by decide +kernel
theorem d_Pa_noteHere_51 : decode c_Pa_noteHere 51 = .ok (.iadd, 1) := by decide +kernel
theorem d_Pa_noteHere_52 : decode c_Pa_noteHere 52 = .ok (.putfield 25, 3) := by decide +kernel
theorem d_Pa_noteHere_55 : decode c_Pa_noteHere 55 = .ok (.return_, 1) := by decide +kernel
theorem d_Pa_partOf_0 : decode c_Pa_partOf 0 = .ok (.iload_n 1, 1) := by decide +kernel
theorem d_Pa_partOf_1 : decode c_Pa_partOf 1 = .ok (.iconst 0, 1) := by decide +kernel
theorem d_Pa_partOf_2 : decode c_Pa_partOf 2 = .ok (.aload_n 0, 1) := by decide +kernel
theorem d_Pa_partOf_3 : decode c_Pa_partOf 3 = .ok (.getfield 25, 3) := by decide +kernel
theorem d_Pa_partOf_6 : decode c_Pa_partOf 6 = .ok (.iconst 1, 1) := by decide +kernel
theorem d_Pa_partOf_7 : decode c_Pa_partOf 7 = .ok (.isub, 1) := by decide +kernel
theorem d_Pa_partOf_8 : decode c_Pa_partOf 8 = .ok (.invokestatic 40, 3) := by decide +kernel
theorem d_Pa_partOf_11 : decode c_Pa_partOf 11 = .ok (.ifCond .eq 19, 3) := by decide +kernel
theorem d_Pa_partOf_14 : decode c_Pa_partOf 14 = .ok (.iload_n 2, 1) := by decide +kernel
theorem d_Pa_partOf_15 : decode c_Pa_partOf 15 = .ok (.iconst 0, 1) := by decide +kernel
theorem d_Pa_partOf_16 : decode c_Pa_partOf 16 = .ok (.aload_n 0, 1) := by decide +kernel
theorem d_Pa_partOf_17 : decode c_Pa_partOf 17 = .ok (.getfield 15, 3) := by decide +kernel
theorem d_Pa_partOf_20 : decode c_Pa_partOf 20 = .ok (.iload_n 1, 1) := by decide +kernel
theorem d_Pa_partOf_21 : decode c_Pa_partOf 21 = .ok (.iaload, 1) := by decide +kernel
theorem d_Pa_partOf_22 : decode c_Pa_partOf 22 = .ok (.iconst 1, 1) := by decide +kernel
theorem d_Pa_partOf_23 : decode c_Pa_partOf 23 = .ok (.isub, 1) := by decide +kernel
theorem d_Pa_partOf_24 : decode c_Pa_partOf 24 = .ok (.invokestatic 40, 3) := by decide +kernel
theorem d_Pa_partOf_27 : decode c_Pa_partOf 27 = .ok (.ifCond .ne 5, 3) := by decide +kernel
theorem d_Pa_partOf_30 : decode c_Pa_partOf 30 = .ok (.iconst (-1), 1) := by decide +kernel
theorem d_Pa_partOf_31 : decode c_Pa_partOf 31 = .ok (.ireturn, 1) := by decide +kernel
theorem d_Pa_partOf_32 : decode c_Pa_partOf 32 = .ok (.aload_n 0, 1) := by decide +kernel
theorem d_Pa_partOf_33 : decode c_Pa_partOf 33 = .ok (.getfield 18, 3) := by decide +kernel
theorem d_Pa_partOf_36 : decode c_Pa_partOf 36 = .ok (.iload_n 1, 1) := by decide +kernel
theorem d_Pa_partOf_37 : decode c_Pa_partOf 37 = .ok (.bipush 26, 2) := by decide +kernel
theorem d_Pa_partOf_39 : decode c_Pa_partOf 39 = .ok (.imul, 1) := by decide +kernel
theorem d_Pa_partOf_40 : decode c_Pa_partOf 40 = .ok (.iload_n 2, 1) := by decide +kernel
theorem d_Pa_partOf_41 : decode c_Pa_partOf 41 = .ok (.iadd, 1) := by decide +kernel
theorem d_Pa_partOf_42 : decode c_Pa_partOf 42 = .ok (.iaload, 1) := by decide +kernel
theorem d_Pa_partOf_43 : decode c_Pa_partOf 43 = .ok (.ireturn, 1) := by decide +kernel
theorem d_Pl_init_0 : decode c_Pl_init 0 = .ok (.aload_n 0, 1) := by decide +kernel
theorem d_Pl_init_1 : decode c_Pl_init 1 = .ok (.invokespecial 3, 3) := by decide +kernel
theorem d_Pl_init_4 : decode c_Pl_init 4 = .ok (.aload_n 0, 1) := by decide +kernel
theorem d_Pl_init_5 : decode c_Pl_init 5 = .ok (.bipush 61, 2) := by decide +kernel
theorem d_Pl_init_7 : decode c_Pl_init 7 = .ok (.anewarray 9, 3) := by decide +kernel
theorem d_Pl_init_10 : decode c_Pl_init 10 = .ok (.putfield 11, 3) := by decide +kernel
theorem d_Pl_init_13 : decode c_Pl_init 13 = .ok (.aload_n 0, 1) := by decide +kernel
theorem d_Pl_init_14 : decode c_Pl_init 14 = .ok (.iconst 4, 1) := by decide +kernel
theorem d_Pl_init_15 : decode c_Pl_init 15 = .ok (.newarray .boolean, 2) := by decide +kernel
theorem d_Pl_init_17 : decode c_Pl_init 17 = .ok (.putfield 17, 3) := by decide +kernel
theorem d_Pl_init_20 : decode c_Pl_init 20 = .ok (.aload_n 0, 1) := by decide +kernel
theorem d_Pl_init_21 : decode c_Pl_init 21 = .ok (.iconst (-1), 1) := by decide +kernel
theorem d_Pl_init_22 : decode c_Pl_init 22 = .ok (.putfield 21, 3) := by decide +kernel
theorem d_Pl_init_25 : decode c_Pl_init 25 = .ok (.aload_n 0, 1) := by decide +kernel
theorem d_Pl_init_26 : decode c_Pl_init 26 = .ok (.aload_n 1, 1) := by decide +kernel
theorem d_Pl_init_27 : decode c_Pl_init 27 = .ok (.putfield 25, 3) := by decide +kernel
theorem d_Pl_init_30 : decode c_Pl_init 30 = .ok (.aload_n 0, 1) := by decide +kernel
theorem d_Pl_init_31 : decode c_Pl_init 31 = .ok (.aload_n 2, 1) := by decide +kernel
theorem d_Pl_init_32 : decode c_Pl_init 32 = .ok (.putfield 29, 3) := by decide +kernel
theorem d_Pl_init_35 : decode c_Pl_init 35 = .ok (.iconst 0, 1) := by decide +kernel
theorem d_Pl_init_36 : decode c_Pl_init 36 = .ok (.istore_n 3, 1) := by decide +kernel
theorem d_Pl_init_37 : decode c_Pl_init 37 = .ok (.iload_n 3, 1) := by decide +kernel
theorem d_Pl_init_38 : decode c_Pl_init 38 = .ok (.aload_n 0, 1) := by decide +kernel
theorem d_Pl_init_39 : decode c_Pl_init 39 = .ok (.getfield 11, 3) := by decide +kernel
theorem d_Pl_init_42 : decode c_Pl_init 42 = .ok (.arraylength, 1) := by decide +kernel
theorem d_Pl_init_43 : decode c_Pl_init 43 = .ok (.if_icmp .ge 23, 3) := by decide +kernel
theorem d_Pl_init_46 : decode c_Pl_init 46 = .ok (.aload_n 0, 1) := by decide +kernel
theorem d_Pl_init_47 : decode c_Pl_init 47 = .ok (.getfield 11, 3) := by decide +kernel
theorem d_Pl_init_50 : decode c_Pl_init 50 = .ok (.iload_n 3, 1) := by decide +kernel
theorem d_Pl_init_51 : decode c_Pl_init 51 = .ok (.new 9, 3) := by decide +kernel
theorem d_Pl_init_54 : decode c_Pl_init 54 = .ok (.dup, 1) := by decide +kernel
theorem d_Pl_init_55 : decode c_Pl_init 55 = .ok (.iload_n 3, 1) := by decide +kernel
theorem d_Pl_init_56 : decode c_Pl_init 56 = .ok (.invokespecial 33, 3) := by decide +kernel
theorem d_Pl_init_59 : decode c_Pl_init 59 = .ok (.aastore, 1) := by decide +kernel
theorem d_Pl_init_60 : decode c_Pl_init 60 = .ok (.iinc 3 1, 3) := by decide +kernel
theorem d_Pl_init_63 : decode c_Pl_init 63 = .ok (.goto (-26), 3) := by decide +kernel
theorem d_Pl_init_66 : decode c_Pl_init 66 = .ok (.aload_n 0, 1) := by decide +kernel
theorem d_Pl_init_67 : decode c_Pl_init 67 = .ok (.getfield 11, 3) := by decide +kernel
theorem d_Pl_init_70 : decode c_Pl_init 70 = .ok (.iconst 0, 1) := by decide +kernel
theorem d_Pl_init_71 : decode c_Pl_init 71 = .ok (.aaload, 1) := by decide +kernel
theorem d_Pl_init_72 : decode c_Pl_init 72 = .ok (.iconst 1, 1) := by decide +kernel
theorem d_Pl_init_73 : decode c_Pl_init 73 = .ok (.putfield 36, 3) := by decide +kernel
theorem d_Pl_init_76 : decode c_Pl_init 76 = .ok (.aload_n 0, 1) := by decide +kernel
theorem d_Pl_init_77 : decode c_Pl_init 77 = .ok (.getfield 11, 3) := by decide +kernel
theorem d_Pl_init_80 : decode c_Pl_init 80 = .ok (.iconst 0, 1) := by decide +kernel
theorem d_Pl_init_81 : decode c_Pl_init 81 = .ok (.aaload, 1) := by decide +kernel
theorem d_Pl_init_82 : decode c_Pl_init 82 = .ok (.aload_n 0, 1) := by decide +kernel
theorem d_Pl_init_83 : decode c_Pl_init 83 = .ok (.getfield 11, 3) := by decide +kernel
theorem d_Pl_init_86 : decode c_Pl_init 86 = .ok (.iconst 0, 1) := by decide +kernel
theorem d_Pl_init_87 : decode c_Pl_init 87 = .ok (.aaload, 1) := by decide +kernel
theorem d_Pl_init_88 : decode c_Pl_init 88 = .ok (.putfield 39, 3) := by decide +kernel
theorem d_Pl_init_91 : decode c_Pl_init 91 = .ok (.return_, 1) := by decide +kernel
theorem d_Pl_root_0 : decode c_Pl_root 0 = .ok (.aload_n 0, 1) := by decide +kernel
theorem d_Pl_root_1 : decode c_Pl_root 1 = .ok (.getfield 11, 3) := by decide +kernel
theorem d_Pl_root_4 : decode c_Pl_root 4 = .ok (.iconst 0, 1) := by decide +kernel
theorem d_Pl_root_5 : decode c_Pl_root 5 = .ok (.aaload, 1) := by decide +kernel
theorem d_Pl_root_6 : decode c_Pl_root 6 = .ok (.areturn, 1) := by decide +kernel
theorem d_Pl_writeOutQuery_0 : decode c_Pl_writeOutQuery 0 = .ok (.aload_n 0, 1) := by decide +kernel
theorem d_Pl_writeOutQuery_1 : decode c_Pl_writeOutQuery 1 = .ok (.getfield 29, 3) := by decide +kernel
theorem d_Pl_writeOutQuery_4 : decode c_Pl_writeOutQuery 4 = .ok (.iconst 0, 1) := by decide +kernel
theorem d_Pl_writeOutQuery_5 : decode c_Pl_writeOutQuery 5 = .ok (.invokevirtual 43, 3) := by decide +kernel
theorem d_Pl_writeOutQuery_8 : decode c_Pl_writeOutQuery 8 = .ok (.ifCond .ne 10, 3) := by decide +kernel
theorem d_Pl_writeOutQuery_11 : decode c_Pl_writeOutQuery 11 = .ok (.aload_n 0, 1) := by decide +kernel
theorem d_Pl_writeOutQuery_12 : decode c_Pl_writeOutQuery 12 = .ok (.iconst 0, 1) := by decide +kernel
theorem d_Pl_writeOutQuery_13 : decode c_Pl_writeOutQuery 13 = .ok (.putfield 21, 3) := by decide +kernel
theorem d_Pl_writeOutQuery_16 : decode c_Pl_writeOutQuery 16 = .ok (.iconst 0, 1) := by decide +kernel
theorem d_Pl_writeOutQuery_17 : decode c_Pl_writeOutQuery 17 = .ok (.ireturn, 1) := by decide +kernel
theorem d_Pl_writeOutQuery_18 : decode c_Pl_writeOutQuery 18 = .ok (.iconst 0, 1) := by decide +kernel
theorem d_Pl_writeOutQuery_19 : decode c_Pl_writeOutQuery 19 = .ok (.istore_n 2, 1) := by decide +kernel
theorem d_Pl_writeOutQuery_20 : decode c_Pl_writeOutQuery 20 = .ok (.iload_n 2, 1) := by decide +kernel
theorem d_Pl_writeOutQuery_21 : decode c_Pl_writeOutQuery 21 = .ok (.iconst 4, 1) := by decide +kernel
theorem d_Pl_writeOutQuery_22 : decode c_Pl_writeOutQuery 22 = .ok (.if_icmp .ge 16, 3) := by decide +kernel
theorem d_Pl_writeOutQuery_25 : decode c_Pl_writeOutQuery 25 = .ok (.aload_n 0, 1) := by decide +kernel
theorem d_Pl_writeOutQuery_26 : decode c_Pl_writeOutQuery 26 = .ok (.getfield 17, 3) := by decide +kernel
theorem d_Pl_writeOutQuery_29 : decode c_Pl_writeOutQuery 29 = .ok (.iload_n 2, 1) := by decide +kernel
theorem d_Pl_writeOutQuery_30 : decode c_Pl_writeOutQuery 30 = .ok (.iconst 0, 1) := by decide +kernel
theorem d_Pl_writeOutQuery_31 : decode c_Pl_writeOutQuery 31 = .ok (.bastore, 1) := by decide +kernel
theorem d_Pl_writeOutQuery_32 : decode c_Pl_writeOutQuery 32 = .ok (.iinc 2 1, 3) := by decide +kernel
theorem d_Pl_writeOutQuery_35 : decode c_Pl_writeOutQuery 35 = .ok (.goto (-15), 3) := by decide +kernel
theorem d_Pl_writeOutQuery_38 : decode c_Pl_writeOutQuery 38 = .ok (.aload_n 0, 1) := by decide +kernel
theorem d_Pl_writeOutQuery_39 : decode c_Pl_writeOutQuery 39 = .ok (.getfield 11, 3) := by decide +kernel
theorem d_Pl_writeOutQuery_42 : decode c_Pl_writeOutQuery 42 = .ok (.iconst 0, 1) := by decide +kernel
theorem d_Pl_writeOutQuery_43 : decode c_Pl_writeOutQuery 43 = .ok (.aaload, 1) := by decide +kernel
theorem d_Pl_writeOutQuery_44 : decode c_Pl_writeOutQuery 44 = .ok (.iload_n 1, 1) := by decide +kernel
theorem d_Pl_writeOutQuery_45 : decode c_Pl_writeOutQuery 45 = .ok (.putfield 49, 3) := by decide +kernel
theorem d_Pl_writeOutQuery_48 : decode c_Pl_writeOutQuery 48 = .ok (.aload_n 0, 1) := by decide +kernel
theorem d_Pl_writeOutQuery_49 : decode c_Pl_writeOutQuery 49 = .ok (.iconst 1, 1) := by decide +kernel
theorem d_Pl_writeOutQuery_50 : decode c_Pl_writeOutQuery 50 = .ok (.putfield 52, 3) := by decide +kernel
theorem d_Pl_writeOutQuery_53 : decode c_Pl_writeOutQuery 53 = .ok (.aload_n 0, 1) := by decide +kernel
theorem d_Pl_writeOutQuery_54 : decode c_Pl_writeOutQuery 54 = .ok (.iconst (-1), 1) := by decide +kernel
theorem d_Pl_writeOutQuery_55 : decode c_Pl_writeOutQuery 55 = .ok (.putfield 21, 3) := by decide +kernel
theorem d_Pl_writeOutQuery_58 : decode c_Pl_writeOutQuery 58 = .ok (.aload_n 0, 1) := by decide +kernel
theorem d_Pl_writeOutQuery_59 : decode c_Pl_writeOutQuery 59 = .ok (.iconst 0, 1) := by decide +kernel
theorem d_Pl_writeOutQuery_60 : decode c_Pl_writeOutQuery 60 = .ok (.aload_n 0, 1) := by decide +kernel
theorem d_Pl_writeOutQuery_61 : decode c_Pl_writeOutQuery 61 = .ok (.getfield 11, 3) := by decide +kernel
theorem d_Pl_writeOutQuery_64 : decode c_Pl_writeOutQuery 64 = .ok (.iconst 0, 1) := by decide +kernel
theorem d_Pl_writeOutQuery_65 : decode c_Pl_writeOutQuery 65 = .ok (.aaload, 1) := by decide +kernel
theorem d_Pl_writeOutQuery_66 : decode c_Pl_writeOutQuery 66 = .ok (.invokevirtual 55, 3) := by decide +kernel
theorem d_Pl_writeOutQuery_69 : decode c_Pl_writeOutQuery 69 = .ok (.ireturn, 1) := by decide +kernel
theorem d_Pl_writeOut_0 : decode c_Pl_writeOut 0 = .ok (.aload_n 2, 1) := by decide +kernel
theorem d_Pl_writeOut_1 : decode c_Pl_writeOut 1 = .ok (.astore_n 3, 1) := by decide +kernel
theorem d_Pl_writeOut_2 : decode c_Pl_writeOut 2 = .ok (.aload_n 0, 1) := by decide +kernel
theorem d_Pl_writeOut_3 : decode c_Pl_writeOut 3 = .ok (.getfield 17, 3) := by decide +kernel
theorem d_Pl_writeOut_6 : decode c_Pl_writeOut 6 = .ok (.iload_n 1, 1) := by decide +kernel
theorem d_Pl_writeOut_7 : decode c_Pl_writeOut 7 = .ok (.iconst 1, 1) := by decide +kernel
theorem d_Pl_writeOut_8 : decode c_Pl_writeOut 8 = .ok (.bastore, 1) := by decide +kernel
theorem d_Pl_writeOut_9 : decode c_Pl_writeOut 9 = .ok (.iconst 0, 1) := by decide +kernel
theorem d_Pl_writeOut_10 : decode c_Pl_writeOut 10 = .ok (.istore 4, 2) := by decide +kernel
theorem d_Pl_writeOut_12 : decode c_Pl_writeOut 12 = .ok (.iload 4, 2) := by decide +kernel
theorem d_Pl_writeOut_14 : decode c_Pl_writeOut 14 = .ok (.aload_n 0, 1) := by decide +kernel
theorem d_Pl_writeOut_15 : decode c_Pl_writeOut 15 = .ok (.getfield 29, 3) := by decide +kernel
theorem d_Pl_writeOut_18 : decode c_Pl_writeOut 18 = .ok (.getfield 59, 3) := by decide +kernel
theorem d_Pl_writeOut_21 : decode c_Pl_writeOut 21 = .ok (.iload_n 1, 1) := by decide +kernel
theorem d_Pl_writeOut_22 : decode c_Pl_writeOut 22 = .ok (.iaload, 1) := by decide +kernel
theorem d_Pl_writeOut_23 : decode c_Pl_writeOut 23 = .ok (.if_icmp .ge 150, 3) := by decide +kernel
theorem d_Pl_writeOut_26 : decode c_Pl_writeOut 26 = .ok (.iload_n 1, 1) := by decide +kernel
theorem d_Pl_writeOut_27 : decode c_Pl_writeOut 27 = .ok (.bipush 16, 2) := by decide +kernel
theorem d_Pl_writeOut_29 : decode c_Pl_writeOut 29 = .ok (.imul, 1) := by decide +kernel
theorem d_Pl_writeOut_30 : decode c_Pl_writeOut 30 = .ok (.iload 4, 2) := by decide +kernel
theorem d_Pl_writeOut_32 : decode c_Pl_writeOut 32 = .ok (.iadd, 1) := by decide +kernel
theorem d_Pl_writeOut_33 : decode c_Pl_writeOut 33 = .ok (.istore 5, 2) := by decide +kernel
theorem d_Pl_writeOut_35 : decode c_Pl_writeOut 35 = .ok (.aload_n 0, 1) := by decide +kernel
theorem d_Pl_writeOut_36 : decode c_Pl_writeOut 36 = .ok (.getfield 52, 3) := by decide +kernel
theorem d_Pl_writeOut_39 : decode c_Pl_writeOut 39 = .ok (.aload_n 0, 1) := by decide +kernel
theorem d_Pl_writeOut_40 : decode c_Pl_writeOut 40 = .ok (.getfield 11, 3) := by decide +kernel
theorem d_Pl_writeOut_43 : decode c_Pl_writeOut 43 = .ok (.arraylength, 1) := by decide +kernel
theorem d_Pl_writeOut_44 : decode c_Pl_writeOut 44 = .ok (.if_icmp .ge 21, 3) := by decide +kernel
theorem d_Pl_writeOut_47 : decode c_Pl_writeOut 47 = .ok (.aload_n 0, 1) := by decide +kernel
theorem d_Pl_writeOut_48 : decode c_Pl_writeOut 48 = .ok (.aload_n 0, 1) := by decide +kernel
theorem d_Pl_writeOut_49 : decode c_Pl_writeOut 49 = .ok (.iload 5, 2) := by decide +kernel
theorem d_Pl_writeOut_51 : decode c_Pl_writeOut 51 = .ok (.aload_n 3, 1) := by decide +kernel
theorem d_Pl_writeOut_52 : decode c_Pl_writeOut 52 = .ok (.invokevirtual 63, 3) := by decide +kernel
theorem d_Pl_writeOut_55 : decode c_Pl_writeOut 55 = .ok (.aload_n 3, 1) := by decide +kernel
theorem d_Pl_writeOut_56 : decode c_Pl_writeOut 56 = .ok (.getfield 49, 3) := by decide +kernel
theorem d_Pl_writeOut_59 : decode c_Pl_writeOut 59 = .ok (.invokevirtual 67, 3) := by decide +kernel
theorem d_Pl_writeOut_62 : decode c_Pl_writeOut 62 = .ok (.ifCond .ne 11, 3) := by decide +kernel
theorem d_Pl_writeOut_65 : decode c_Pl_writeOut 65 = .ok (.aload_n 0, 1) := by decide +kernel
theorem d_Pl_writeOut_66 : decode c_Pl_writeOut 66 = .ok (.iload 5, 2) := by decide +kernel
theorem d_Pl_writeOut_68 : decode c_Pl_writeOut 68 = .ok (.putfield 21, 3) := by decide +kernel
theorem d_Pl_writeOut_71 : decode c_Pl_writeOut 71 = .ok (.iconst 0, 1) := by decide +kernel
theorem d_Pl_writeOut_72 : decode c_Pl_writeOut 72 = .ok (.ireturn, 1) := by decide +kernel
theorem d_Pl_writeOut_73 : decode c_Pl_writeOut 73 = .ok (.aload_n 0, 1) := by decide +kernel
theorem d_Pl_writeOut_74 : decode c_Pl_writeOut 74 = .ok (.getfield 11, 3) := by decide +kernel
theorem d_Pl_writeOut_77 : decode c_Pl_writeOut 77 = .ok (.aload_n 0, 1) := by decide +kernel
theorem d_Pl_writeOut_78 : decode c_Pl_writeOut 78 = .ok (.getfield 52, 3) := by decide +kernel
theorem d_Pl_writeOut_81 : decode c_Pl_writeOut 81 = .ok (.iconst 1, 1) := by decide +kernel
theorem d_Pl_writeOut_82 : decode c_Pl_writeOut 82 = .ok (.isub, 1) := by decide +kernel
theorem d_Pl_writeOut_83 : decode c_Pl_writeOut 83 = .ok (.aaload, 1) := by decide +kernel
theorem d_Pl_writeOut_84 : decode c_Pl_writeOut 84 = .ok (.astore 6, 2) := by decide +kernel
theorem d_Pl_writeOut_86 : decode c_Pl_writeOut 86 = .ok (.aload 6, 2) := by decide +kernel
theorem d_Pl_writeOut_88 : decode c_Pl_writeOut 88 = .ok (.aload_n 0, 1) := by decide +kernel
theorem d_Pl_writeOut_89 : decode c_Pl_writeOut 89 = .ok (.aload 6, 2) := by decide +kernel
theorem d_Pl_writeOut_91 : decode c_Pl_writeOut 91 = .ok (.aload_n 3, 1) := by decide +kernel
theorem d_Pl_writeOut_92 : decode c_Pl_writeOut 92 = .ok (.getfield 49, 3) := by decide +kernel
theorem d_Pl_writeOut_95 : decode c_Pl_writeOut 95 = .ok (.invokevirtual 71, 3) := by decide +kernel
theorem d_Pl_writeOut_98 : decode c_Pl_writeOut 98 = .ok (.putfield 49, 3) := by decide +kernel
theorem d_Pl_writeOut_101 : decode c_Pl_writeOut 101 = .ok (.aload 6, 2) := by decide +kernel
theorem d_Pl_writeOut_103 : decode c_Pl_writeOut 103 = .ok (.getfield 36, 3) := by decide +kernel
theorem d_Pl_writeOut_106 : decode c_Pl_writeOut 106 = .ok (.iconst 5, 1) := by decide +kernel
theorem d_Pl_writeOut_107 : decode c_Pl_writeOut 107 = .ok (.if_icmp .ne 19, 3) := by decide +kernel
theorem d_Pl_writeOut_110 : decode c_Pl_writeOut 110 = .ok (.aload_n 0, 1) := by decide +kernel
theorem d_Pl_writeOut_111 : decode c_Pl_writeOut 111 = .ok (.aload 6, 2) := by decide +kernel
theorem d_Pl_writeOut_113 : decode c_Pl_writeOut 113 = .ok (.getfield 75, 3) := by decide +kernel
theorem d_Pl_writeOut_116 : decode c_Pl_writeOut 116 = .ok (.aload 6, 2) := by decide +kernel
theorem d_Pl_writeOut_118 : decode c_Pl_writeOut 118 = .ok (.invokevirtual 55, 3) := by decide +kernel
theorem d_Pl_writeOut_121 : decode c_Pl_writeOut 121 = .ok (.ifCond .ne 46, 3) := by decide +kernel
theorem d_Pl_writeOut_124 : decode c_Pl_writeOut 124 = .ok (.iconst 0, 1) := by decide +kernel
theorem d_Pl_writeOut_125 : decode c_Pl_writeOut 125 = .ok (.ireturn, 1) := by decide +kernel
theorem d_Pl_writeOut_126 : decode c_Pl_writeOut 126 = .ok (.aload 6, 2) := by decide +kernel
theorem d_Pl_writeOut_128 : decode c_Pl_writeOut 128 = .ok (.getfield 36, 3) := by decide +kernel
theorem d_Pl_writeOut_131 : decode c_Pl_writeOut 131 = .ok (.bipush 6, 2) := by decide +kernel
theorem d_Pl_writeOut_133 : decode c_Pl_writeOut 133 = .ok (.if_icmp .ne 20, 3) := by decide +kernel
theorem d_Pl_writeOut_136 : decode c_Pl_writeOut 136 = .ok (.aload_n 3, 1) := by decide +kernel
theorem d_Pl_writeOut_137 : decode c_Pl_writeOut 137 = .ok (.aload 6, 2) := by decide +kernel
theorem d_Pl_writeOut_139 : decode c_Pl_writeOut 139 = .ok (.getfield 78, 3) := by decide +kernel
theorem d_Pl_writeOut_142 : decode c_Pl_writeOut 142 = .ok (.putfield 81, 3) := by decide +kernel
theorem d_Pl_writeOut_145 : decode c_Pl_writeOut 145 = .ok (.aload_n 3, 1) := by decide +kernel
theorem d_Pl_writeOut_146 : decode c_Pl_writeOut 146 = .ok (.getfield 39, 3) := by decide +kernel
theorem d_Pl_writeOut_149 : decode c_Pl_writeOut 149 = .ok (.astore_n 3, 1) := by decide +kernel
theorem d_Pl_writeOut_150 : decode c_Pl_writeOut 150 = .ok (.goto 17, 3) := by decide +kernel
theorem d_Pl_writeOut_153 : decode c_Pl_writeOut 153 = .ok (.aload 6, 2) := by decide +kernel
theorem d_Pl_writeOut_155 : decode c_Pl_writeOut 155 = .ok (.getfield 36, 3) := by decide +kernel
theorem d_Pl_writeOut_158 : decode c_Pl_writeOut 158 = .ok (.invokestatic 84, 3) := by decide +kernel
theorem d_Pl_writeOut_161 : decode c_Pl_writeOut 161 = .ok (.ifCond .eq 6, 3) := by decide +kernel
theorem d_Pl_writeOut_164 : decode c_Pl_writeOut 164 = .ok (.aload 6, 2) := by decide +kernel
theorem d_Pl_writeOut_166 : decode c_Pl_writeOut 166 = .ok (.astore_n 3, 1) := by decide +kernel
theorem d_Pl_writeOut_167 : decode c_Pl_writeOut 167 = .ok (.iinc 4 1, 3) := by decide +kernel
theorem d_Pl_writeOut_170 : decode c_Pl_writeOut 170 = .ok (.goto (-158), 3) := by decide +kernel
theorem d_Pl_writeOut_173 : decode c_Pl_writeOut 173 = .ok (.aload_n 0, 1) := by decide +kernel
theorem d_Pl_writeOut_174 : decode c_Pl_writeOut 174 = .ok (.getfield 17, 3) := by decide +kernel
theorem d_Pl_writeOut_177 : decode c_Pl_writeOut 177 = .ok (.iload_n 1, 1) := by decide +kernel
theorem d_Pl_writeOut_178 : decode c_Pl_writeOut 178 = .ok (.iconst 0, 1) := by decide +kernel
theorem d_Pl_writeOut_179 : decode c_Pl_writeOut 179 = .ok (.bastore, 1) := by decide +kernel
theorem d_Pl_writeOut_180 : decode c_Pl_writeOut 180 = .ok (.iconst 1, 1) := by decide +kernel
theorem d_Pl_writeOut_181 : decode c_Pl_writeOut 181 = .ok (.ireturn, 1) := by decide +kernel
theorem d_Pl_takeStep_0 : decode c_Pl_takeStep 0 = .ok (.aload_n 0, 1) := by decide +kernel
theorem d_Pl_takeStep_1 : decode c_Pl_takeStep 1 = .ok (.getfield 11, 3) := by decide +kernel
theorem d_Pl_takeStep_4 : decode c_Pl_takeStep 4 = .ok (.aload_n 0, 1) := by decide +kernel
theorem d_Pl_takeStep_5 : decode c_Pl_takeStep 5 = .ok (.getfield 52, 3) := by decide +kernel
theorem d_Pl_takeStep_8 : decode c_Pl_takeStep 8 = .ok (.aaload, 1) := by decide +kernel
theorem d_Pl_takeStep_9 : decode c_Pl_takeStep 9 = .ok (.astore_n 3, 1) := by decide +kernel
theorem d_Pl_takeStep_10 : decode c_Pl_takeStep 10 = .ok (.aload_n 3, 1) := by decide +kernel
theorem d_Pl_takeStep_11 : decode c_Pl_takeStep 11 = .ok (.aload_n 0, 1) := by decide +kernel
theorem d_Pl_takeStep_12 : decode c_Pl_takeStep 12 = .ok (.getfield 29, 3) := by decide +kernel
theorem d_Pl_takeStep_15 : decode c_Pl_takeStep 15 = .ok (.getfield 87, 3) := by decide +kernel
theorem d_Pl_takeStep_18 : decode c_Pl_takeStep 18 = .ok (.iload_n 1, 1) := by decide +kernel
theorem d_Pl_takeStep_19 : decode c_Pl_takeStep 19 = .ok (.iaload, 1) := by decide +kernel
theorem d_Pl_takeStep_20 : decode c_Pl_takeStep 20 = .ok (.putfield 36, 3) := by decide +kernel
theorem d_Pl_takeStep_23 : decode c_Pl_takeStep 23 = .ok (.aload_n 3, 1) := by decide +kernel
theorem d_Pl_takeStep_24 : decode c_Pl_takeStep 24 = .ok (.aload_n 0, 1) := by decide +kernel
theorem d_Pl_takeStep_25 : decode c_Pl_takeStep 25 = .ok (.getfield 29, 3) := by decide +kernel
theorem d_Pl_takeStep_28 : decode c_Pl_takeStep 28 = .ok (.getfield 90, 3) := by decide +kernel
theorem d_Pl_takeStep_31 : decode c_Pl_takeStep 31 = .ok (.iload_n 1, 1) := by decide +kernel
theorem d_Pl_takeStep_32 : decode c_Pl_takeStep 32 = .ok (.iaload, 1) := by decide +kernel
theorem d_Pl_takeStep_33 : decode c_Pl_takeStep 33 = .ok (.putfield 75, 3) := by decide +kernel
theorem d_Pl_takeStep_36 : decode c_Pl_takeStep 36 = .ok (.aload_n 3, 1) := by decide +kernel
theorem d_Pl_takeStep_37 : decode c_Pl_takeStep 37 = .ok (.aload_n 0, 1) := by decide +kernel
theorem d_Pl_takeStep_38 : decode c_Pl_takeStep 38 = .ok (.getfield 29, 3) := by decide +kernel
theorem d_Pl_takeStep_41 : decode c_Pl_takeStep 41 = .ok (.getfield 93, 3) := by decide +kernel
theorem d_Pl_takeStep_44 : decode c_Pl_takeStep 44 = .ok (.iload_n 1, 1) := by decide +kernel
theorem d_Pl_takeStep_45 : decode c_Pl_takeStep 45 = .ok (.iaload, 1) := by decide +kernel
theorem d_Pl_takeStep_46 : decode c_Pl_takeStep 46 = .ok (.putfield 96, 3) := by decide +kernel
theorem d_Pl_takeStep_49 : decode c_Pl_takeStep 49 = .ok (.aload_n 3, 1) := by decide +kernel
theorem d_Pl_takeStep_50 : decode c_Pl_takeStep 50 = .ok (.aload_n 2, 1) := by decide +kernel
theorem d_Pl_takeStep_51 : decode c_Pl_takeStep 51 = .ok (.putfield 39, 3) := by decide +kernel
theorem d_Pl_takeStep_54 : decode c_Pl_takeStep 54 = .ok (.aload_n 3, 1) := by decide +kernel
theorem d_Pl_takeStep_55 : decode c_Pl_takeStep 55 = .ok (.aload_n 3, 1) := by decide +kernel
theorem d_Pl_takeStep_56 : decode c_Pl_takeStep 56 = .ok (.getfield 78, 3) := by decide +kernel
theorem d_Pl_takeStep_59 : decode c_Pl_takeStep 59 = .ok (.putfield 81, 3) := by decide +kernel
theorem d_Pl_takeStep_62 : decode c_Pl_takeStep 62 = .ok (.aload_n 0, 1) := by decide +kernel
theorem d_Pl_takeStep_63 : decode c_Pl_takeStep 63 = .ok (.dup, 1) := by decide +kernel
theorem d_Pl_takeStep_64 : decode c_Pl_takeStep 64 = .ok (.getfield 52, 3) := by decide +kernel
theorem d_Pl_takeStep_67 : decode c_Pl_takeStep 67 = .ok (.iconst 1, 1) := by decide +kernel
theorem d_Pl_takeStep_68 : decode c_Pl_takeStep 68 = .ok (.iadd, 1) := by decide +kernel
theorem d_Pl_takeStep_69 : decode c_Pl_takeStep 69 = .ok (.putfield 52, 3) := by decide +kernel
theorem d_Pl_takeStep_72 : decode c_Pl_takeStep 72 = .ok (.aload_n 3, 1) := by decide +kernel
theorem d_Pl_takeStep_73 : decode c_Pl_takeStep 73 = .ok (.areturn, 1) := by decide +kernel
theorem d_Pl_isRight_0 : decode c_Pl_isRight 0 = .ok (.aload_n 1, 1) := by decide +kernel
theorem d_Pl_isRight_1 : decode c_Pl_isRight 1 = .ok (.getfield 36, 3) := by decide +kernel
theorem d_Pl_isRight_4 : decode c_Pl_isRight 4 = .ok (.tableswitch 112 0 5 #[40, 40, 112, 47, 112, 80], 40) := by decide +kernel
theorem d_Pl_isRight_44 : decode c_Pl_isRight 44 = .ok (.aload_n 0, 1) := by decide +kernel
theorem d_Pl_isRight_45 : decode c_Pl_isRight 45 = .ok (.aload_n 1, 1) := by decide +kernel
theorem d_Pl_isRight_46 : decode c_Pl_isRight 46 = .ok (.iload_n 2, 1) := by decide +kernel
theorem d_Pl_isRight_47 : decode c_Pl_isRight 47 = .ok (.invokevirtual 99, 3) := by decide +kernel
theorem d_Pl_isRight_50 : decode c_Pl_isRight 50 = .ok (.ireturn, 1) := by decide +kernel
theorem d_Pl_isRight_51 : decode c_Pl_isRight 51 = .ok (.aload_n 0, 1) := by decide +kernel
theorem d_Pl_isRight_52 : decode c_Pl_isRight 52 = .ok (.getfield 25, 3) := by decide +kernel
theorem d_Pl_isRight_55 : decode c_Pl_isRight 55 = .ok (.aload_n 1, 1) := by decide +kernel
theorem d_Pl_isRight_56 : decode c_Pl_isRight 56 = .ok (.getfield 75, 3) := by decide +kernel
theorem d_Pl_isRight_59 : decode c_Pl_isRight 59 = .ok (.invokevirtual 102, 3) := by decide +kernel
theorem d_Pl_isRight_62 : decode c_Pl_isRight 62 = .ok (.ifCond .eq 20, 3) := by decide +kernel
theorem d_Pl_isRight_65 : decode c_Pl_isRight 65 = .ok (.iload_n 2, 1) := by decide +kernel
theorem d_Pl_isRight_66 : decode c_Pl_isRight 66 = .ok (.aload_n 1, 1) := by decide +kernel
theorem d_Pl_isRight_67 : decode c_Pl_isRight 67 = .ok (.getfield 75, 3) := by decide +kernel
theorem d_Pl_isRight_70 : decode c_Pl_isRight 70 = .ok (.if_icmp .eq 8, 3) := by decide +kernel
theorem d_Pl_isRight_73 : decode c_Pl_isRight 73 = .ok (.iload_n 2, 1) := by decide +kernel
theorem d_Pl_isRight_74 : decode c_Pl_isRight 74 = .ok (.iconst 5, 1) := by decide +kernel
theorem d_Pl_isRight_75 : decode c_Pl_isRight 75 = .ok (.if_icmp .ne 7, 3) := by decide +kernel
theorem d_Pl_isRight_78 : decode c_Pl_isRight 78 = .ok (.iconst 1, 1) := by decide +kernel
theorem d_Pl_isRight_79 : decode c_Pl_isRight 79 = .ok (.goto 4, 3) := by decide +kernel
theorem d_Pl_isRight_82 : decode c_Pl_isRight 82 = .ok (.iconst 0, 1) := by decide +kernel
theorem d_Pl_isRight_83 : decode c_Pl_isRight 83 = .ok (.ireturn, 1) := by decide +kernel
theorem d_Pl_isRight_84 : decode c_Pl_isRight 84 = .ok (.aload_n 0, 1) := by decide +kernel
theorem d_Pl_isRight_85 : decode c_Pl_isRight 85 = .ok (.getfield 29, 3) := by decide +kernel
theorem d_Pl_isRight_88 : decode c_Pl_isRight 88 = .ok (.aload_n 1, 1) := by decide +kernel
theorem d_Pl_isRight_89 : decode c_Pl_isRight 89 = .ok (.getfield 75, 3) := by decide +kernel
theorem d_Pl_isRight_92 : decode c_Pl_isRight 92 = .ok (.invokevirtual 43, 3) := by decide +kernel
theorem d_Pl_isRight_95 : decode c_Pl_isRight 95 = .ok (.ifCond .eq 19, 3) := by decide +kernel
theorem d_Pl_isRight_98 : decode c_Pl_isRight 98 = .ok (.aload_n 0, 1) := by decide +kernel
theorem d_Pl_isRight_99 : decode c_Pl_isRight 99 = .ok (.getfield 17, 3) := by decide +kernel
theorem d_Pl_isRight_102 : decode c_Pl_isRight 102 = .ok (.aload_n 1, 1) := by decide +kernel
theorem d_Pl_isRight_103 : decode c_Pl_isRight 103 = .ok (.getfield 75, 3) := by decide +kernel
theorem d_Pl_isRight_106 : decode c_Pl_isRight 106 = .ok (.baload, 1) := by decide +kernel
theorem d_Pl_isRight_107 : decode c_Pl_isRight 107 = .ok (.ifCond .ne 7, 3) := by decide +kernel
theorem d_Pl_isRight_110 : decode c_Pl_isRight 110 = .ok (.iconst 1, 1) := by decide +kernel
theorem d_Pl_isRight_111 : decode c_Pl_isRight 111 = .ok (.goto 4, 3) := by decide +kernel
theorem d_Pl_isRight_114 : decode c_Pl_isRight 114 = .ok (.iconst 0, 1) := by decide +kernel
theorem d_Pl_isRight_115 : decode c_Pl_isRight 115 = .ok (.ireturn, 1) := by decide +kernel
theorem d_Pl_isRight_116 : decode c_Pl_isRight 116 = .ok (.iconst 1, 1) := by decide +kernel
theorem d_Pl_isRight_117 : decode c_Pl_isRight 117 = .ok (.ireturn, 1) := by decide +kernel
theorem d_Pl_findField_0 : decode c_Pl_findField 0 = .ok (.aload_n 1, 1) := by decide +kernel
theorem d_Pl_findField_1 : decode c_Pl_findField 1 = .ok (.aload_n 0, 1) := by decide +kernel
theorem d_Pl_findField_2 : decode c_Pl_findField 2 = .ok (.getfield 25, 3) := by decide +kernel
theorem d_Pl_findField_5 : decode c_Pl_findField 5 = .ok (.iload_n 2, 1) := by decide +kernel
theorem d_Pl_findField_6 : decode c_Pl_findField 6 = .ok (.aload_n 1, 1) := by decide +kernel
theorem d_Pl_findField_7 : decode c_Pl_findField 7 = .ok (.getfield 96, 3) := by decide +kernel
theorem d_Pl_findField_10 : decode c_Pl_findField 10 = .ok (.invokevirtual 107, 3) := by decide +kernel
theorem d_Pl_findField_13 : decode c_Pl_findField 13 = .ok (.putfield 111, 3) := by decide +kernel
theorem d_Pl_findField_16 : decode c_Pl_findField 16 = .ok (.aload_n 1, 1) := by decide +kernel
theorem d_Pl_findField_17 : decode c_Pl_findField 17 = .ok (.aload_n 0, 1) := by decide +kernel
theorem d_Pl_findField_18 : decode c_Pl_findField 18 = .ok (.getfield 25, 3) := by decide +kernel
theorem d_Pl_findField_21 : decode c_Pl_findField 21 = .ok (.iload_n 2, 1) := by decide +kernel
theorem d_Pl_findField_22 : decode c_Pl_findField 22 = .ok (.aload_n 1, 1) := by decide +kernel
theorem d_Pl_findField_23 : decode c_Pl_findField 23 = .ok (.getfield 96, 3) := by decide +kernel
theorem d_Pl_findField_26 : decode c_Pl_findField 26 = .ok (.invokevirtual 114, 3) := by decide +kernel
theorem d_Pl_findField_29 : decode c_Pl_findField 29 = .ok (.putfield 118, 3) := by decide +kernel
theorem d_Pl_findField_32 : decode c_Pl_findField 32 = .ok (.aload_n 1, 1) := by decide +kernel
theorem d_Pl_findField_33 : decode c_Pl_findField 33 = .ok (.getfield 36, 3) := by decide +kernel
theorem d_Pl_findField_36 : decode c_Pl_findField 36 = .ok (.ifCond .ne 16, 3) := by decide +kernel
theorem d_Pl_findField_39 : decode c_Pl_findField 39 = .ok (.aload_n 1, 1) := by decide +kernel
theorem d_Pl_findField_40 : decode c_Pl_findField 40 = .ok (.getfield 111, 3) := by decide +kernel
theorem d_Pl_findField_43 : decode c_Pl_findField 43 = .ok (.ifCond .ne 7, 3) := by decide +kernel
theorem d_Pl_findField_46 : decode c_Pl_findField 46 = .ok (.iconst 1, 1) := by decide +kernel
theorem d_Pl_findField_47 : decode c_Pl_findField 47 = .ok (.goto 4, 3) := by decide +kernel
theorem d_Pl_findField_50 : decode c_Pl_findField 50 = .ok (.iconst 0, 1) := by decide +kernel
theorem d_Pl_findField_51 : decode c_Pl_findField 51 = .ok (.ireturn, 1) := by decide +kernel
theorem d_Pl_findField_52 : decode c_Pl_findField 52 = .ok (.aload_n 1, 1) := by decide +kernel
theorem d_Pl_findField_53 : decode c_Pl_findField 53 = .ok (.getfield 111, 3) := by decide +kernel
theorem d_Pl_findField_56 : decode c_Pl_findField 56 = .ok (.iconst 1, 1) := by decide +kernel
theorem d_Pl_findField_57 : decode c_Pl_findField 57 = .ok (.if_icmp .eq 11, 3) := by decide +kernel
theorem d_Pl_findField_60 : decode c_Pl_findField 60 = .ok (.aload_n 1, 1) := by decide +kernel
theorem d_Pl_findField_61 : decode c_Pl_findField 61 = .ok (.getfield 111, 3) := by decide +kernel
theorem d_Pl_findField_64 : decode c_Pl_findField 64 = .ok (.iconst 2, 1) := by decide +kernel
theorem d_Pl_findField_65 : decode c_Pl_findField 65 = .ok (.if_icmp .ne 7, 3) := by decide +kernel
theorem d_Pl_findField_68 : decode c_Pl_findField 68 = .ok (.iconst 1, 1) := by decide +kernel
theorem d_Pl_findField_69 : decode c_Pl_findField 69 = .ok (.goto 4, 3) := by decide +kernel
theorem d_Pl_findField_72 : decode c_Pl_findField 72 = .ok (.iconst 0, 1) := by decide +kernel
theorem d_Pl_findField_73 : decode c_Pl_findField 73 = .ok (.ireturn, 1) := by decide +kernel
theorem d_Pl_typeBehind_0 : decode c_Pl_typeBehind 0 = .ok (.aload_n 1, 1) := by decide +kernel
theorem d_Pl_typeBehind_1 : decode c_Pl_typeBehind 1 = .ok (.getfield 36, 3) := by decide +kernel
theorem d_Pl_typeBehind_4 : decode c_Pl_typeBehind 4 = .ok (.iconst 3, 1) := by decide +kernel
theorem d_Pl_typeBehind_5 : decode c_Pl_typeBehind 5 = .ok (.if_icmp .ne 8, 3) := by decide +kernel
theorem d_Pl_typeBehind_8 : decode c_Pl_typeBehind 8 = .ok (.aload_n 1, 1) := by decide +kernel
theorem d_Pl_typeBehind_9 : decode c_Pl_typeBehind 9 = .ok (.getfield 75, 3) := by decide +kernel
theorem d_Pl_typeBehind_12 : decode c_Pl_typeBehind 12 = .ok (.ireturn, 1) := by decide +kernel
theorem d_Pl_typeBehind_13 : decode c_Pl_typeBehind 13 = .ok (.aload_n 1, 1) := by decide +kernel
theorem d_Pl_typeBehind_14 : decode c_Pl_typeBehind 14 = .ok (.getfield 36, 3) := by decide +kernel
theorem d_Pl_typeBehind_17 : decode c_Pl_typeBehind 17 = .ok (.iconst 1, 1) := by decide +kernel
theorem d_Pl_typeBehind_18 : decode c_Pl_typeBehind 18 = .ok (.if_icmp .ne 18, 3) := by decide +kernel
theorem d_Pl_typeBehind_21 : decode c_Pl_typeBehind 21 = .ok (.aload_n 0, 1) := by decide +kernel
theorem d_Pl_typeBehind_22 : decode c_Pl_typeBehind 22 = .ok (.getfield 25, 3) := by decide +kernel
theorem d_Pl_typeBehind_25 : decode c_Pl_typeBehind 25 = .ok (.iload_n 2, 1) := by decide +kernel
theorem d_Pl_typeBehind_26 : decode c_Pl_typeBehind 26 = .ok (.aload_n 1, 1) := by decide +kernel
theorem d_Pl_typeBehind_27 : decode c_Pl_typeBehind 27 = .ok (.getfield 96, 3) := by decide +kernel
theorem d_Pl_typeBehind_30 : decode c_Pl_typeBehind 30 = .ok (.invokevirtual 122, 3) := by decide +kernel
theorem d_Pl_typeBehind_33 : decode c_Pl_typeBehind 33 = .ok (.goto 4, 3) := by decide +kernel
theorem d_Pl_typeBehind_36 : decode c_Pl_typeBehind 36 = .ok (.iload_n 2, 1) := by decide +kernel
theorem d_Pl_typeBehind_37 : decode c_Pl_typeBehind 37 = .ok (.ireturn, 1) := by decide +kernel
theorem d_Ro_init_0 : decode c_Ro_init 0 = .ok (.aload_n 0, 1) := by decide +kernel
theorem d_Ro_init_1 : decode c_Ro_init 1 = .ok (.invokespecial 3, 3) := by decide +kernel
theorem d_Ro_init_4 : decode c_Ro_init 4 = .ok (.aload_n 0, 1) := by decide +kernel
theorem d_Ro_init_5 : decode c_Ro_init 5 = .ok (.bipush 12, 2) := by decide +kernel
theorem d_Ro_init_7 : decode c_Ro_init 7 = .ok (.newarray .int, 2) := by decide +kernel
theorem d_Ro_init_9 : decode c_Ro_init 9 = .ok (.putfield 9, 3) := by decide +kernel
theorem d_Ro_init_12 : decode c_Ro_init 12 = .ok (.aload_n 0, 1) := by decide +kernel
theorem d_Ro_init_13 : decode c_Ro_init 13 = .ok (.bipush 48, 2) := by decide +kernel
theorem d_Ro_init_15 : decode c_Ro_init 15 = .ok (.newarray .int, 2) := by decide +kernel
theorem d_Ro_init_17 : decode c_Ro_init 17 = .ok (.putfield 15, 3) := by decide +kernel
theorem d_Ro_init_20 : decode c_Ro_init 20 = .ok (.aload_n 0, 1) := by decide +kernel
theorem d_Ro_init_21 : decode c_Ro_init 21 = .ok (.bipush 48, 2) := by decide +kernel
theorem d_Ro_init_23 : decode c_Ro_init 23 = .ok (.newarray .int, 2) := by decide +kernel
theorem d_Ro_init_25 : decode c_Ro_init 25 = .ok (.putfield 18, 3) := by decide +kernel
theorem d_Ro_init_28 : decode c_Ro_init 28 = .ok (.aload_n 0, 1) := by decide +kernel
theorem d_Ro_init_29 : decode c_Ro_init 29 = .ok (.sipush 192, 3) := by decide +kernel
theorem d_Ro_init_32 : decode c_Ro_init 32 = .ok (.newarray .int, 2) := by decide +kernel
theorem d_Ro_init_34 : decode c_Ro_init 34 = .ok (.putfield 21, 3) := by decide +kernel
theorem d_Ro_init_37 : decode c_Ro_init 37 = .ok (.return_, 1) := by decide +kernel
theorem d_Ro_hasRow_0 : decode c_Ro_hasRow 0 = .ok (.iload_n 1, 1) := by decide +kernel
theorem d_Ro_hasRow_1 : decode c_Ro_hasRow 1 = .ok (.iconst 1, 1) := by decide +kernel
theorem d_Ro_hasRow_2 : decode c_Ro_hasRow 2 = .ok (.aload_n 0, 1) := by decide +kernel
theorem d_Ro_hasRow_3 : decode c_Ro_hasRow 3 = .ok (.getfield 24, 3) := by decide +kernel
theorem d_Ro_hasRow_6 : decode c_Ro_hasRow 6 = .ok (.invokestatic 28, 3) := by decide +kernel
theorem d_Ro_hasRow_9 : decode c_Ro_hasRow 9 = .ok (.ireturn, 1) := by decide +kernel
theorem d_Ro_typeOf_0 : decode c_Ro_typeOf 0 = .ok (.aload_n 0, 1) := by decide +kernel
theorem d_Ro_typeOf_1 : decode c_Ro_typeOf 1 = .ok (.getfield 9, 3) := by decide +kernel
theorem d_Ro_typeOf_4 : decode c_Ro_typeOf 4 = .ok (.iload_n 1, 1) := by decide +kernel
theorem d_Ro_typeOf_5 : decode c_Ro_typeOf 5 = .ok (.iconst 1, 1) := by decide +kernel
theorem d_Ro_typeOf_6 : decode c_Ro_typeOf 6 = .ok (.isub, 1) := by decide +kernel
theorem d_Ro_typeOf_7 : decode c_Ro_typeOf 7 = .ok (.iaload, 1) := by decide +kernel
theorem d_Ro_typeOf_8 : decode c_Ro_typeOf 8 = .ok (.ireturn, 1) := by decide +kernel
theorem d_Ro_addRow_0 : decode c_Ro_addRow 0 = .ok (.aload_n 0, 1) := by decide +kernel
theorem d_Ro_addRow_1 : decode c_Ro_addRow 1 = .ok (.getfield 9, 3) := by decide +kernel
theorem d_Ro_addRow_4 : decode c_Ro_addRow 4 = .ok (.aload_n 0, 1) := by decide +kernel
theorem d_Ro_addRow_5 : decode c_Ro_addRow 5 = .ok (.getfield 24, 3) := by decide +kernel
theorem d_Ro_addRow_8 : decode c_Ro_addRow 8 = .ok (.iload_n 1, 1) := by decide +kernel
theorem d_Ro_addRow_9 : decode c_Ro_addRow 9 = .ok (.iastore, 1) := by decide +kernel
theorem d_Ro_addRow_10 : decode c_Ro_addRow 10 = .ok (.aload_n 0, 1) := by decide +kernel
theorem d_Ro_addRow_11 : decode c_Ro_addRow 11 = .ok (.dup, 1) := by decide +kernel
theorem d_Ro_addRow_12 : decode c_Ro_addRow 12 = .ok (.getfield 24, 3) := by decide +kernel
theorem d_Ro_addRow_15 : decode c_Ro_addRow 15 = .ok (.iconst 1, 1) := by decide +kernel
theorem d_Ro_addRow_16 : decode c_Ro_addRow 16 = .ok (.iadd, 1) := by decide +kernel
theorem d_Ro_addRow_17 : decode c_Ro_addRow 17 = .ok (.putfield 24, 3) := by decide +kernel
theorem d_Ro_addRow_20 : decode c_Ro_addRow 20 = .ok (.iconst 0, 1) := by decide +kernel
theorem d_Ro_addRow_21 : decode c_Ro_addRow 21 = .ok (.istore_n 2, 1) := by decide +kernel
theorem d_Ro_addRow_22 : decode c_Ro_addRow 22 = .ok (.iload_n 2, 1) := by decide +kernel
theorem d_Ro_addRow_23 : decode c_Ro_addRow 23 = .ok (.iconst 4, 1) := by decide +kernel
theorem d_Ro_addRow_24 : decode c_Ro_addRow 24 = .ok (.if_icmp .ge 18, 3) := by decide +kernel
theorem d_Ro_addRow_27 : decode c_Ro_addRow 27 = .ok (.aload_n 0, 1) := by decide +kernel
theorem d_Ro_addRow_28 : decode c_Ro_addRow 28 = .ok (.aload_n 0, 1) := by decide +kernel
theorem d_Ro_addRow_29 : decode c_Ro_addRow 29 = .ok (.getfield 24, 3) := by decide +kernel
theorem d_Ro_addRow_32 : decode c_Ro_addRow 32 = .ok (.iload_n 2, 1) := by decide +kernel
theorem d_Ro_addRow_33 : decode c_Ro_addRow 33 = .ok (.invokevirtual 32, 3) := by decide +kernel
theorem d_Ro_addRow_36 : decode c_Ro_addRow 36 = .ok (.iinc 2 1, 3) := by decide +kernel
theorem d_Ro_addRow_39 : decode c_Ro_addRow 39 = .ok (.goto (-17), 3) := by decide +kernel
theorem d_Ro_addRow_42 : decode c_Ro_addRow 42 = .ok (.aload_n 0, 1) := by decide +kernel
theorem d_Ro_addRow_43 : decode c_Ro_addRow 43 = .ok (.getfield 24, 3) := by decide +kernel
theorem d_Ro_addRow_46 : decode c_Ro_addRow 46 = .ok (.ireturn, 1) := by decide +kernel
theorem d_Ro_emptyField_0 : decode c_Ro_emptyField 0 = .ok (.aload_n 0, 1) := by decide +kernel
theorem d_Ro_emptyField_1 : decode c_Ro_emptyField 1 = .ok (.getfield 15, 3) := by decide +kernel
theorem d_Ro_emptyField_4 : decode c_Ro_emptyField 4 = .ok (.iload_n 1, 1) := by decide +kernel
theorem d_Ro_emptyField_5 : decode c_Ro_emptyField 5 = .ok (.iload_n 2, 1) := by decide +kernel
theorem d_Ro_emptyField_6 : decode c_Ro_emptyField 6 = .ok (.invokestatic 36, 3) := by decide +kernel
theorem d_Ro_emptyField_9 : decode c_Ro_emptyField 9 = .ok (.iconst (-1), 1) := by decide +kernel
theorem d_Ro_emptyField_10 : decode c_Ro_emptyField 10 = .ok (.iastore, 1) := by decide +kernel
theorem d_Ro_emptyField_11 : decode c_Ro_emptyField 11 = .ok (.aload_n 0, 1) := by decide +kernel
theorem d_Ro_emptyField_12 : decode c_Ro_emptyField 12 = .ok (.getfield 18, 3) := by decide +kernel
theorem d_Ro_emptyField_15 : decode c_Ro_emptyField 15 = .ok (.iload_n 1, 1) := by decide +kernel
theorem d_Ro_emptyField_16 : decode c_Ro_emptyField 16 = .ok (.iload_n 2, 1) := by decide +kernel
theorem d_Ro_emptyField_17 : decode c_Ro_emptyField 17 = .ok (.invokestatic 36, 3) := by decide +kernel
theorem d_Ro_emptyField_20 : decode c_Ro_emptyField 20 = .ok (.iconst 0, 1) := by decide +kernel
theorem d_Ro_emptyField_21 : decode c_Ro_emptyField 21 = .ok (.iastore, 1) := by decide +kernel
theorem d_Ro_emptyField_22 : decode c_Ro_emptyField 22 = .ok (.return_, 1) := by decide +kernel
theorem d_Ro_holdNumber_0 : decode c_Ro_holdNumber 0 = .ok (.aload_n 0, 1) := by decide +kernel
theorem d_Ro_holdNumber_1 : decode c_Ro_holdNumber 1 = .ok (.getfield 15, 3) := by decide +kernel
theorem d_Ro_holdNumber_4 : decode c_Ro_holdNumber 4 = .ok (.iload_n 1, 1) := by decide +kernel
