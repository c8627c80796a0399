theorem d_Ro_holdNumber_5 : decode c_Ro_holdNumber 5 = .ok (.iload_n 2, 1) := by decide +kernel
theorem d_Ro_holdNumber_6 : decode c_Ro_holdNumber 6 = .ok (.invokestatic 36, 3) := by decide +kernel
theorem d_Ro_holdNumber_9 : decode c_Ro_holdNumber 9 = .ok (.iload_n 3, 1) := by decide +kernel
theorem d_Ro_holdNumber_10 : decode c_Ro_holdNumber 10 = .ok (.iastore, 1) := by decide +kernel
theorem d_Ro_holdNumber_11 : decode c_Ro_holdNumber 11 = .ok (.return_, 1) := by decide +kernel
theorem d_Ro_numberOf_0 : decode c_Ro_numberOf 0 = .ok (.aload_n 0, 1) := by decide +kernel
theorem d_Ro_numberOf_1 : decode c_Ro_numberOf 1 = .ok (.getfield 15, 3) := by decide +kernel
theorem d_Ro_numberOf_4 : decode c_Ro_numberOf 4 = .ok (.iload_n 1, 1) := by decide +kernel
theorem d_Ro_numberOf_5 : decode c_Ro_numberOf 5 = .ok (.iload_n 2, 1) := by decide +kernel
theorem d_Ro_numberOf_6 : decode c_Ro_numberOf 6 = .ok (.invokestatic 36, 3) := by decide +kernel
theorem d_Ro_numberOf_9 : decode c_Ro_numberOf 9 = .ok (.iaload, 1) := by decide +kernel
theorem d_Ro_numberOf_10 : decode c_Ro_numberOf 10 = .ok (.ireturn, 1) := by decide +kernel
theorem d_Ro_addLinked_0 : decode c_Ro_addLinked 0 = .ok (.iload_n 1, 1) := by decide +kernel
theorem d_Ro_addLinked_1 : decode c_Ro_addLinked 1 = .ok (.iload_n 2, 1) := by decide +kernel
theorem d_Ro_addLinked_2 : decode c_Ro_addLinked 2 = .ok (.invokestatic 36, 3) := by decide +kernel
theorem d_Ro_addLinked_5 : decode c_Ro_addLinked 5 = .ok (.istore 4, 2) := by decide +kernel
theorem d_Ro_addLinked_7 : decode c_Ro_addLinked 7 = .ok (.aload_n 0, 1) := by decide +kernel
theorem d_Ro_addLinked_8 : decode c_Ro_addLinked 8 = .ok (.getfield 21, 3) := by decide +kernel
theorem d_Ro_addLinked_11 : decode c_Ro_addLinked 11 = .ok (.iload 4, 2) := by decide +kernel
theorem d_Ro_addLinked_13 : decode c_Ro_addLinked 13 = .ok (.iconst 4, 1) := by decide +kernel
theorem d_Ro_addLinked_14 : decode c_Ro_addLinked 14 = .ok (.imul, 1) := by decide +kernel
theorem d_Ro_addLinked_15 : decode c_Ro_addLinked 15 = .ok (.aload_n 0, 1) := by decide +kernel
theorem d_Ro_addLinked_16 : decode c_Ro_addLinked 16 = .ok (.getfield 18, 3) := by decide +kernel
theorem d_Ro_addLinked_19 : decode c_Ro_addLinked 19 = .ok (.iload 4, 2) := by decide +kernel
theorem d_Ro_addLinked_21 : decode c_Ro_addLinked 21 = .ok (.iaload, 1) := by decide +kernel
theorem d_Ro_addLinked_22 : decode c_Ro_addLinked 22 = .ok (.iadd, 1) := by decide +kernel
theorem d_Ro_addLinked_23 : decode c_Ro_addLinked 23 = .ok (.iload_n 3, 1) := by decide +kernel
theorem d_Ro_addLinked_24 : decode c_Ro_addLinked 24 = .ok (.iastore, 1) := by decide +kernel
theorem d_Ro_addLinked_25 : decode c_Ro_addLinked 25 = .ok (.aload_n 0, 1) := by decide +kernel
theorem d_Ro_addLinked_26 : decode c_Ro_addLinked 26 = .ok (.getfield 18, 3) := by decide +kernel
theorem d_Ro_addLinked_29 : decode c_Ro_addLinked 29 = .ok (.iload 4, 2) := by decide +kernel
theorem d_Ro_addLinked_31 : decode c_Ro_addLinked 31 = .ok (.dup2, 1) := by decide +kernel
theorem d_Ro_addLinked_32 : decode c_Ro_addLinked 32 = .ok (.iaload, 1) := by decide +kernel
theorem d_Ro_addLinked_33 : decode c_Ro_addLinked 33 = .ok (.iconst 1, 1) := by decide +kernel
theorem d_Ro_addLinked_34 : decode c_Ro_addLinked 34 = .ok (.iadd, 1) := by decide +kernel
theorem d_Ro_addLinked_35 : decode c_Ro_addLinked 35 = .ok (.iastore, 1) := by decide +kernel
theorem d_Ro_addLinked_36 : decode c_Ro_addLinked 36 = .ok (.aload_n 0, 1) := by decide +kernel
theorem d_Ro_addLinked_37 : decode c_Ro_addLinked 37 = .ok (.getfield 18, 3) := by decide +kernel
theorem d_Ro_addLinked_40 : decode c_Ro_addLinked 40 = .ok (.iload 4, 2) := by decide +kernel
theorem d_Ro_addLinked_42 : decode c_Ro_addLinked 42 = .ok (.iaload, 1) := by decide +kernel
theorem d_Ro_addLinked_43 : decode c_Ro_addLinked 43 = .ok (.ireturn, 1) := by decide +kernel
theorem d_Ro_linkedCount_0 : decode c_Ro_linkedCount 0 = .ok (.aload_n 0, 1) := by decide +kernel
theorem d_Ro_linkedCount_1 : decode c_Ro_linkedCount 1 = .ok (.getfield 18, 3) := by decide +kernel
theorem d_Ro_linkedCount_4 : decode c_Ro_linkedCount 4 = .ok (.iload_n 1, 1) := by decide +kernel
theorem d_Ro_linkedCount_5 : decode c_Ro_linkedCount 5 = .ok (.iload_n 2, 1) := by decide +kernel
theorem d_Ro_linkedCount_6 : decode c_Ro_linkedCount 6 = .ok (.invokestatic 36, 3) := by decide +kernel
theorem d_Ro_linkedCount_9 : decode c_Ro_linkedCount 9 = .ok (.iaload, 1) := by decide +kernel
theorem d_Ro_linkedCount_10 : decode c_Ro_linkedCount 10 = .ok (.ireturn, 1) := by decide +kernel
theorem d_Ro_linkedRow_0 : decode c_Ro_linkedRow 0 = .ok (.aload_n 0, 1) := by decide +kernel
theorem d_Ro_linkedRow_1 : decode c_Ro_linkedRow 1 = .ok (.getfield 21, 3) := by decide +kernel
theorem d_Ro_linkedRow_4 : decode c_Ro_linkedRow 4 = .ok (.iload_n 1, 1) := by decide +kernel
theorem d_Ro_linkedRow_5 : decode c_Ro_linkedRow 5 = .ok (.iload_n 2, 1) := by decide +kernel
theorem d_Ro_linkedRow_6 : decode c_Ro_linkedRow 6 = .ok (.invokestatic 36, 3) := by decide +kernel
theorem d_Ro_linkedRow_9 : decode c_Ro_linkedRow 9 = .ok (.iconst 4, 1) := by decide +kernel
theorem d_Ro_linkedRow_10 : decode c_Ro_linkedRow 10 = .ok (.imul, 1) := by decide +kernel
theorem d_Ro_linkedRow_11 : decode c_Ro_linkedRow 11 = .ok (.iload_n 3, 1) := by decide +kernel
theorem d_Ro_linkedRow_12 : decode c_Ro_linkedRow 12 = .ok (.iadd, 1) := by decide +kernel
theorem d_Ro_linkedRow_13 : decode c_Ro_linkedRow 13 = .ok (.iaload, 1) := by decide +kernel
theorem d_Ro_linkedRow_14 : decode c_Ro_linkedRow 14 = .ok (.ireturn, 1) := by decide +kernel
theorem d_Ro_cellOf_0 : decode c_Ro_cellOf 0 = .ok (.iload_n 0, 1) := by decide +kernel
theorem d_Ro_cellOf_1 : decode c_Ro_cellOf 1 = .ok (.iconst 1, 1) := by decide +kernel
theorem d_Ro_cellOf_2 : decode c_Ro_cellOf 2 = .ok (.isub, 1) := by decide +kernel
theorem d_Ro_cellOf_3 : decode c_Ro_cellOf 3 = .ok (.iconst 4, 1) := by decide +kernel
theorem d_Ro_cellOf_4 : decode c_Ro_cellOf 4 = .ok (.imul, 1) := by decide +kernel
theorem d_Ro_cellOf_5 : decode c_Ro_cellOf 5 = .ok (.iload_n 1, 1) := by decide +kernel
theorem d_Ro_cellOf_6 : decode c_Ro_cellOf 6 = .ok (.iadd, 1) := by decide +kernel
theorem d_Ro_cellOf_7 : decode c_Ro_cellOf 7 = .ok (.ireturn, 1) := by decide +kernel
theorem d_Sc_init_0 : decode c_Sc_init 0 = .ok (.aload_n 0, 1) := by decide +kernel
theorem d_Sc_init_1 : decode c_Sc_init 1 = .ok (.invokespecial 3, 3) := by decide +kernel
theorem d_Sc_init_4 : decode c_Sc_init 4 = .ok (.aload_n 0, 1) := by decide +kernel
theorem d_Sc_init_5 : decode c_Sc_init 5 = .ok (.iconst 5, 1) := by decide +kernel
theorem d_Sc_init_6 : decode c_Sc_init 6 = .ok (.newarray .int, 2) := by decide +kernel
theorem d_Sc_init_8 : decode c_Sc_init 8 = .ok (.putfield 9, 3) := by decide +kernel
theorem d_Sc_init_11 : decode c_Sc_init 11 = .ok (.aload_n 0, 1) := by decide +kernel
theorem d_Sc_init_12 : decode c_Sc_init 12 = .ok (.bipush 20, 2) := by decide +kernel
theorem d_Sc_init_14 : decode c_Sc_init 14 = .ok (.newarray .int, 2) := by decide +kernel
theorem d_Sc_init_16 : decode c_Sc_init 16 = .ok (.putfield 15, 3) := by decide +kernel
theorem d_Sc_init_19 : decode c_Sc_init 19 = .ok (.aload_n 0, 1) := by decide +kernel
theorem d_Sc_init_20 : decode c_Sc_init 20 = .ok (.bipush 20, 2) := by decide +kernel
theorem d_Sc_init_22 : decode c_Sc_init 22 = .ok (.newarray .int, 2) := by decide +kernel
theorem d_Sc_init_24 : decode c_Sc_init 24 = .ok (.putfield 18, 3) := by decide +kernel
theorem d_Sc_init_27 : decode c_Sc_init 27 = .ok (.aload_n 0, 1) := by decide +kernel
theorem d_Sc_init_28 : decode c_Sc_init 28 = .ok (.bipush 20, 2) := by decide +kernel
theorem d_Sc_init_30 : decode c_Sc_init 30 = .ok (.newarray .boolean, 2) := by decide +kernel
theorem d_Sc_init_32 : decode c_Sc_init 32 = .ok (.putfield 21, 3) := by decide +kernel
theorem d_Sc_init_35 : decode c_Sc_init 35 = .ok (.return_, 1) := by decide +kernel
theorem d_Sc_hasType_0 : decode c_Sc_hasType 0 = .ok (.iload_n 1, 1) := by decide +kernel
theorem d_Sc_hasType_1 : decode c_Sc_hasType 1 = .ok (.ifCond .lt 15, 3) := by decide +kernel
theorem d_Sc_hasType_4 : decode c_Sc_hasType 4 = .ok (.iload_n 1, 1) := by decide +kernel
theorem d_Sc_hasType_5 : decode c_Sc_hasType 5 = .ok (.aload_n 0, 1) := by decide +kernel
theorem d_Sc_hasType_6 : decode c_Sc_hasType 6 = .ok (.getfield 25, 3) := by decide +kernel
theorem d_Sc_hasType_9 : decode c_Sc_hasType 9 = .ok (.if_icmp .ge 7, 3) := by decide +kernel
theorem d_Sc_hasType_12 : decode c_Sc_hasType 12 = .ok (.iconst 1, 1) := by decide +kernel
theorem d_Sc_hasType_13 : decode c_Sc_hasType 13 = .ok (.goto 4, 3) := by decide +kernel
theorem d_Sc_hasType_16 : decode c_Sc_hasType 16 = .ok (.iconst 0, 1) := by decide +kernel
theorem d_Sc_hasType_17 : decode c_Sc_hasType 17 = .ok (.ireturn, 1) := by decide +kernel
theorem d_Sc_hasField_0 : decode c_Sc_hasField 0 = .ok (.aload_n 0, 1) := by decide +kernel
theorem d_Sc_hasField_1 : decode c_Sc_hasField 1 = .ok (.iload_n 1, 1) := by decide +kernel
theorem d_Sc_hasField_2 : decode c_Sc_hasField 2 = .ok (.invokevirtual 29, 3) := by decide +kernel
theorem d_Sc_hasField_5 : decode c_Sc_hasField 5 = .ok (.ifCond .eq 21, 3) := by decide +kernel
theorem d_Sc_hasField_8 : decode c_Sc_hasField 8 = .ok (.iload_n 2, 1) := by decide +kernel
theorem d_Sc_hasField_9 : decode c_Sc_hasField 9 = .ok (.ifCond .lt 17, 3) := by decide +kernel
theorem d_Sc_hasField_12 : decode c_Sc_hasField 12 = .ok (.iload_n 2, 1) := by decide +kernel
theorem d_Sc_hasField_13 : decode c_Sc_hasField 13 = .ok (.aload_n 0, 1) := by decide +kernel
theorem d_Sc_hasField_14 : decode c_Sc_hasField 14 = .ok (.getfield 9, 3) := by decide +kernel
theorem d_Sc_hasField_17 : decode c_Sc_hasField 17 = .ok (.iload_n 1, 1) := by decide +kernel
theorem d_Sc_hasField_18 : decode c_Sc_hasField 18 = .ok (.iaload, 1) := by decide +kernel
theorem d_Sc_hasField_19 : decode c_Sc_hasField 19 = .ok (.if_icmp .ge 7, 3) := by decide +kernel
theorem d_Sc_hasField_22 : decode c_Sc_hasField 22 = .ok (.iconst 1, 1) := by decide +kernel
theorem d_Sc_hasField_23 : decode c_Sc_hasField 23 = .ok (.goto 4, 3) := by decide +kernel
theorem d_Sc_hasField_26 : decode c_Sc_hasField 26 = .ok (.iconst 0, 1) := by decide +kernel
theorem d_Sc_hasField_27 : decode c_Sc_hasField 27 = .ok (.ireturn, 1) := by decide +kernel
theorem d_Sc_kindOf_0 : decode c_Sc_kindOf 0 = .ok (.aload_n 0, 1) := by decide +kernel
theorem d_Sc_kindOf_1 : decode c_Sc_kindOf 1 = .ok (.iload_n 1, 1) := by decide +kernel
theorem d_Sc_kindOf_2 : decode c_Sc_kindOf 2 = .ok (.iload_n 2, 1) := by decide +kernel
theorem d_Sc_kindOf_3 : decode c_Sc_kindOf 3 = .ok (.invokevirtual 33, 3) := by decide +kernel
theorem d_Sc_kindOf_6 : decode c_Sc_kindOf 6 = .ok (.ifCond .eq 16, 3) := by decide +kernel
theorem d_Sc_kindOf_9 : decode c_Sc_kindOf 9 = .ok (.aload_n 0, 1) := by decide +kernel
theorem d_Sc_kindOf_10 : decode c_Sc_kindOf 10 = .ok (.getfield 15, 3) := by decide +kernel
theorem d_Sc_kindOf_13 : decode c_Sc_kindOf 13 = .ok (.iload_n 1, 1) := by decide +kernel
theorem d_Sc_kindOf_14 : decode c_Sc_kindOf 14 = .ok (.iconst 4, 1) := by decide +kernel
theorem d_Sc_kindOf_15 : decode c_Sc_kindOf 15 = .ok (.imul, 1) := by decide +kernel
theorem d_Sc_kindOf_16 : decode c_Sc_kindOf 16 = .ok (.iload_n 2, 1) := by decide +kernel
theorem d_Sc_kindOf_17 : decode c_Sc_kindOf 17 = .ok (.iadd, 1) := by decide +kernel
theorem d_Sc_kindOf_18 : decode c_Sc_kindOf 18 = .ok (.iaload, 1) := by decide +kernel
theorem d_Sc_kindOf_19 : decode c_Sc_kindOf 19 = .ok (.goto 4, 3) := by decide +kernel
theorem d_Sc_kindOf_22 : decode c_Sc_kindOf 22 = .ok (.iconst (-1), 1) := by decide +kernel
theorem d_Sc_kindOf_23 : decode c_Sc_kindOf 23 = .ok (.ireturn, 1) := by decide +kernel
theorem d_Sc_targetOf_0 : decode c_Sc_targetOf 0 = .ok (.aload_n 0, 1) := by decide +kernel
theorem d_Sc_targetOf_1 : decode c_Sc_targetOf 1 = .ok (.iload_n 1, 1) := by decide +kernel
theorem d_Sc_targetOf_2 : decode c_Sc_targetOf 2 = .ok (.iload_n 2, 1) := by decide +kernel
theorem d_Sc_targetOf_3 : decode c_Sc_targetOf 3 = .ok (.invokevirtual 33, 3) := by decide +kernel
theorem d_Sc_targetOf_6 : decode c_Sc_targetOf 6 = .ok (.ifCond .eq 16, 3) := by decide +kernel
theorem d_Sc_targetOf_9 : decode c_Sc_targetOf 9 = .ok (.aload_n 0, 1) := by decide +kernel
theorem d_Sc_targetOf_10 : decode c_Sc_targetOf 10 = .ok (.getfield 18, 3) := by decide +kernel
theorem d_Sc_targetOf_13 : decode c_Sc_targetOf 13 = .ok (.iload_n 1, 1) := by decide +kernel
theorem d_Sc_targetOf_14 : decode c_Sc_targetOf 14 = .ok (.iconst 4, 1) := by decide +kernel
theorem d_Sc_targetOf_15 : decode c_Sc_targetOf 15 = .ok (.imul, 1) := by decide +kernel
theorem d_Sc_targetOf_16 : decode c_Sc_targetOf 16 = .ok (.iload_n 2, 1) := by decide +kernel
theorem d_Sc_targetOf_17 : decode c_Sc_targetOf 17 = .ok (.iadd, 1) := by decide +kernel
theorem d_Sc_targetOf_18 : decode c_Sc_targetOf 18 = .ok (.iaload, 1) := by decide +kernel
theorem d_Sc_targetOf_19 : decode c_Sc_targetOf 19 = .ok (.goto 4, 3) := by decide +kernel
theorem d_Sc_targetOf_22 : decode c_Sc_targetOf 22 = .ok (.iconst 5, 1) := by decide +kernel
theorem d_Sc_targetOf_23 : decode c_Sc_targetOf 23 = .ok (.ireturn, 1) := by decide +kernel
theorem d_Sc_isRequired_0 : decode c_Sc_isRequired 0 = .ok (.aload_n 0, 1) := by decide +kernel
theorem d_Sc_isRequired_1 : decode c_Sc_isRequired 1 = .ok (.iload_n 1, 1) := by decide +kernel
theorem d_Sc_isRequired_2 : decode c_Sc_isRequired 2 = .ok (.iload_n 2, 1) := by decide +kernel
theorem d_Sc_isRequired_3 : decode c_Sc_isRequired 3 = .ok (.invokevirtual 33, 3) := by decide +kernel
theorem d_Sc_isRequired_6 : decode c_Sc_isRequired 6 = .ok (.ifCond .eq 20, 3) := by decide +kernel
theorem d_Sc_isRequired_9 : decode c_Sc_isRequired 9 = .ok (.aload_n 0, 1) := by decide +kernel
theorem d_Sc_isRequired_10 : decode c_Sc_isRequired 10 = .ok (.getfield 21, 3) := by decide +kernel
theorem d_Sc_isRequired_13 : decode c_Sc_isRequired 13 = .ok (.iload_n 1, 1) := by decide +kernel
theorem d_Sc_isRequired_14 : decode c_Sc_isRequired 14 = .ok (.iconst 4, 1) := by decide +kernel
theorem d_Sc_isRequired_15 : decode c_Sc_isRequired 15 = .ok (.imul, 1) := by decide +kernel
theorem d_Sc_isRequired_16 : decode c_Sc_isRequired 16 = .ok (.iload_n 2, 1) := by decide +kernel
theorem d_Sc_isRequired_17 : decode c_Sc_isRequired 17 = .ok (.iadd, 1) := by decide +kernel
theorem d_Sc_isRequired_18 : decode c_Sc_isRequired 18 = .ok (.baload, 1) := by decide +kernel
theorem d_Sc_isRequired_19 : decode c_Sc_isRequired 19 = .ok (.ifCond .eq 7, 3) := by decide +kernel
theorem d_Sc_isRequired_22 : decode c_Sc_isRequired 22 = .ok (.iconst 1, 1) := by decide +kernel
theorem d_Sc_isRequired_23 : decode c_Sc_isRequired 23 = .ok (.goto 4, 3) := by decide +kernel
theorem d_Sc_isRequired_26 : decode c_Sc_isRequired 26 = .ok (.iconst 0, 1) := by decide +kernel
theorem d_Sc_isRequired_27 : decode c_Sc_isRequired 27 = .ok (.ireturn, 1) := by decide +kernel
theorem d_Sc_addType_0 : decode c_Sc_addType 0 = .ok (.aload_n 0, 1) := by decide +kernel
theorem d_Sc_addType_1 : decode c_Sc_addType 1 = .ok (.getfield 25, 3) := by decide +kernel
theorem d_Sc_addType_4 : decode c_Sc_addType 4 = .ok (.istore_n 1, 1) := by decide +kernel
theorem d_Sc_addType_5 : decode c_Sc_addType 5 = .ok (.aload_n 0, 1) := by decide +kernel
theorem d_Sc_addType_6 : decode c_Sc_addType 6 = .ok (.dup, 1) := by decide +kernel
theorem d_Sc_addType_7 : decode c_Sc_addType 7 = .ok (.getfield 25, 3) := by decide +kernel
theorem d_Sc_addType_10 : decode c_Sc_addType 10 = .ok (.iconst 1, 1) := by decide +kernel
theorem d_Sc_addType_11 : decode c_Sc_addType 11 = .ok (.iadd, 1) := by decide +kernel
theorem d_Sc_addType_12 : decode c_Sc_addType 12 = .ok (.putfield 25, 3) := by decide +kernel
theorem d_Sc_addType_15 : decode c_Sc_addType 15 = .ok (.iload_n 1, 1) := by decide +kernel
theorem d_Sc_addType_16 : decode c_Sc_addType 16 = .ok (.ireturn, 1) := by decide +kernel
theorem d_Sc_addField_0 : decode c_Sc_addField 0 = .ok (.aload_n 0, 1) := by decide +kernel
theorem d_Sc_addField_1 : decode c_Sc_addField 1 = .ok (.getfield 9, 3) := by decide +kernel
theorem d_Sc_addField_4 : decode c_Sc_addField 4 = .ok (.iload_n 1, 1) := by decide +kernel
theorem d_Sc_addField_5 : decode c_Sc_addField 5 = .ok (.iaload, 1) := by decide +kernel
theorem d_Sc_addField_6 : decode c_Sc_addField 6 = .ok (.istore 5, 2) := by decide +kernel
theorem d_Sc_addField_8 : decode c_Sc_addField 8 = .ok (.iload_n 1, 1) := by decide +kernel
theorem d_Sc_addField_9 : decode c_Sc_addField 9 = .ok (.iconst 4, 1) := by decide +kernel
theorem d_Sc_addField_10 : decode c_Sc_addField 10 = .ok (.imul, 1) := by decide +kernel
theorem d_Sc_addField_11 : decode c_Sc_addField 11 = .ok (.iload 5, 2) := by decide +kernel
theorem d_Sc_addField_13 : decode c_Sc_addField 13 = .ok (.iadd, 1) := by decide +kernel
theorem d_Sc_addField_14 : decode c_Sc_addField 14 = .ok (.istore 6, 2) := by decide +kernel
theorem d_Sc_addField_16 : decode c_Sc_addField 16 = .ok (.aload_n 0, 1) := by decide +kernel
theorem d_Sc_addField_17 : decode c_Sc_addField 17 = .ok (.getfield 15, 3) := by decide +kernel
theorem d_Sc_addField_20 : decode c_Sc_addField 20 = .ok (.iload 6, 2) := by decide +kernel
theorem d_Sc_addField_22 : decode c_Sc_addField 22 = .ok (.iload_n 2, 1) := by decide +kernel
theorem d_Sc_addField_23 : decode c_Sc_addField 23 = .ok (.iastore, 1) := by decide +kernel
theorem d_Sc_addField_24 : decode c_Sc_addField 24 = .ok (.aload_n 0, 1) := by decide +kernel
theorem d_Sc_addField_25 : decode c_Sc_addField 25 = .ok (.getfield 18, 3) := by decide +kernel
theorem d_Sc_addField_28 : decode c_Sc_addField 28 = .ok (.iload 6, 2) := by decide +kernel
theorem d_Sc_addField_30 : decode c_Sc_addField 30 = .ok (.iload_n 3, 1) := by decide +kernel
theorem d_Sc_addField_31 : decode c_Sc_addField 31 = .ok (.iastore, 1) := by decide +kernel
theorem d_Sc_addField_32 : decode c_Sc_addField 32 = .ok (.aload_n 0, 1) := by decide +kernel
theorem d_Sc_addField_33 : decode c_Sc_addField 33 = .ok (.getfield 21, 3) := by decide +kernel
theorem d_Sc_addField_36 : decode c_Sc_addField 36 = .ok (.iload 6, 2) := by decide +kernel
theorem d_Sc_addField_38 : decode c_Sc_addField 38 = .ok (.iload 4, 2) := by decide +kernel
theorem d_Sc_addField_40 : decode c_Sc_addField 40 = .ok (.bastore, 1) := by decide +kernel
theorem d_Sc_addField_41 : decode c_Sc_addField 41 = .ok (.aload_n 0, 1) := by decide +kernel
theorem d_Sc_addField_42 : decode c_Sc_addField 42 = .ok (.getfield 9, 3) := by decide +kernel
theorem d_Sc_addField_45 : decode c_Sc_addField 45 = .ok (.iload_n 1, 1) := by decide +kernel
theorem d_Sc_addField_46 : decode c_Sc_addField 46 = .ok (.dup2, 1) := by decide +kernel
theorem d_Sc_addField_47 : decode c_Sc_addField 47 = .ok (.iaload, 1) := by decide +kernel
theorem d_Sc_addField_48 : decode c_Sc_addField 48 = .ok (.iconst 1, 1) := by decide +kernel
theorem d_Sc_addField_49 : decode c_Sc_addField 49 = .ok (.iadd, 1) := by decide +kernel
theorem d_Sc_addField_50 : decode c_Sc_addField 50 = .ok (.iastore, 1) := by decide +kernel
theorem d_Sc_addField_51 : decode c_Sc_addField 51 = .ok (.iload 5, 2) := by decide +kernel
theorem d_Sc_addField_53 : decode c_Sc_addField 53 = .ok (.ireturn, 1) := by decide +kernel
theorem d_St_init_0 : decode c_St_init 0 = .ok (.aload_n 0, 1) := by decide +kernel
theorem d_St_init_1 : decode c_St_init 1 = .ok (.invokespecial 3, 3) := by decide +kernel
theorem d_St_init_4 : decode c_St_init 4 = .ok (.aload_n 0, 1) := by decide +kernel
theorem d_St_init_5 : decode c_St_init 5 = .ok (.iload_n 1, 1) := by decide +kernel
theorem d_St_init_6 : decode c_St_init 6 = .ok (.putfield 9, 3) := by decide +kernel
theorem d_St_init_9 : decode c_St_init 9 = .ok (.return_, 1) := by decide +kernel
theorem d_St_isEntry_0 : decode c_St_isEntry 0 = .ok (.aload_n 0, 1) := by decide +kernel
theorem d_St_isEntry_1 : decode c_St_isEntry 1 = .ok (.getfield 15, 3) := by decide +kernel
theorem d_St_isEntry_4 : decode c_St_isEntry 4 = .ok (.ifCond .eq 19, 3) := by decide +kernel
theorem d_St_isEntry_7 : decode c_St_isEntry 7 = .ok (.aload_n 0, 1) := by decide +kernel
theorem d_St_isEntry_8 : decode c_St_isEntry 8 = .ok (.getfield 15, 3) := by decide +kernel
theorem d_St_isEntry_11 : decode c_St_isEntry 11 = .ok (.iconst 1, 1) := by decide +kernel
theorem d_St_isEntry_12 : decode c_St_isEntry 12 = .ok (.if_icmp .eq 11, 3) := by decide +kernel
theorem d_St_isEntry_15 : decode c_St_isEntry 15 = .ok (.aload_n 0, 1) := by decide +kernel
theorem d_St_isEntry_16 : decode c_St_isEntry 16 = .ok (.getfield 15, 3) := by decide +kernel
theorem d_St_isEntry_19 : decode c_St_isEntry 19 = .ok (.iconst 2, 1) := by decide +kernel
theorem d_St_isEntry_20 : decode c_St_isEntry 20 = .ok (.if_icmp .ne 7, 3) := by decide +kernel
theorem d_St_isEntry_23 : decode c_St_isEntry 23 = .ok (.iconst 1, 1) := by decide +kernel
theorem d_St_isEntry_24 : decode c_St_isEntry 24 = .ok (.goto 4, 3) := by decide +kernel
theorem d_St_isEntry_27 : decode c_St_isEntry 27 = .ok (.iconst 0, 1) := by decide +kernel
theorem d_St_isEntry_28 : decode c_St_isEntry 28 = .ok (.ireturn, 1) := by decide +kernel
theorem d_Te_init_0 : decode c_Te_init 0 = .ok (.aload_n 0, 1) := by decide +kernel
theorem d_Te_init_1 : decode c_Te_init 1 = .ok (.invokespecial 3, 3) := by decide +kernel
theorem d_Te_init_4 : decode c_Te_init 4 = .ok (.aload_n 0, 1) := by decide +kernel
theorem d_Te_init_5 : decode c_Te_init 5 = .ok (.iconst 4, 1) := by decide +kernel
theorem d_Te_init_6 : decode c_Te_init 6 = .ok (.newarray .int, 2) := by decide +kernel
theorem d_Te_init_8 : decode c_Te_init 8 = .ok (.putfield 9, 3) := by decide +kernel
theorem d_Te_init_11 : decode c_Te_init 11 = .ok (.aload_n 0, 1) := by decide +kernel
theorem d_Te_init_12 : decode c_Te_init 12 = .ok (.bipush 64, 2) := by decide +kernel
theorem d_Te_init_14 : decode c_Te_init 14 = .ok (.newarray .int, 2) := by decide +kernel
theorem d_Te_init_16 : decode c_Te_init 16 = .ok (.putfield 15, 3) := by decide +kernel
theorem d_Te_init_19 : decode c_Te_init 19 = .ok (.aload_n 0, 1) := by decide +kernel
theorem d_Te_init_20 : decode c_Te_init 20 = .ok (.bipush 64, 2) := by decide +kernel
theorem d_Te_init_22 : decode c_Te_init 22 = .ok (.newarray .int, 2) := by decide +kernel
theorem d_Te_init_24 : decode c_Te_init 24 = .ok (.putfield 18, 3) := by decide +kernel
theorem d_Te_init_27 : decode c_Te_init 27 = .ok (.aload_n 0, 1) := by decide +kernel
theorem d_Te_init_28 : decode c_Te_init 28 = .ok (.bipush 64, 2) := by decide +kernel
theorem d_Te_init_30 : decode c_Te_init 30 = .ok (.newarray .int, 2) := by decide +kernel
theorem d_Te_init_32 : decode c_Te_init 32 = .ok (.putfield 21, 3) := by decide +kernel
theorem d_Te_init_35 : decode c_Te_init 35 = .ok (.return_, 1) := by decide +kernel
theorem d_Te_addToken_0 : decode c_Te_addToken 0 = .ok (.iload_n 1, 1) := by decide +kernel
theorem d_Te_addToken_1 : decode c_Te_addToken 1 = .ok (.bipush 16, 2) := by decide +kernel
theorem d_Te_addToken_3 : decode c_Te_addToken 3 = .ok (.imul, 1) := by decide +kernel
theorem d_Te_addToken_4 : decode c_Te_addToken 4 = .ok (.aload_n 0, 1) := by decide +kernel
theorem d_Te_addToken_5 : decode c_Te_addToken 5 = .ok (.getfield 9, 3) := by decide +kernel
theorem d_Te_addToken_8 : decode c_Te_addToken 8 = .ok (.iload_n 1, 1) := by decide +kernel
theorem d_Te_addToken_9 : decode c_Te_addToken 9 = .ok (.iaload, 1) := by decide +kernel
theorem d_Te_addToken_10 : decode c_Te_addToken 10 = .ok (.iadd, 1) := by decide +kernel
theorem d_Te_addToken_11 : decode c_Te_addToken 11 = .ok (.istore 5, 2) := by decide +kernel
theorem d_Te_addToken_13 : decode c_Te_addToken 13 = .ok (.aload_n 0, 1) := by decide +kernel
theorem d_Te_addToken_14 : decode c_Te_addToken 14 = .ok (.getfield 15, 3) := by decide +kernel
theorem d_Te_addToken_17 : decode c_Te_addToken 17 = .ok (.iload 5, 2) := by decide +kernel
theorem d_Te_addToken_19 : decode c_Te_addToken 19 = .ok (.iload_n 2, 1) := by decide +kernel
theorem d_Te_addToken_20 : decode c_Te_addToken 20 = .ok (.iastore, 1) := by decide +kernel
theorem d_Te_addToken_21 : decode c_Te_addToken 21 = .ok (.aload_n 0, 1) := by decide +kernel
theorem d_Te_addToken_22 : decode c_Te_addToken 22 = .ok (.getfield 18, 3) := by decide +kernel
theorem d_Te_addToken_25 : decode c_Te_addToken 25 = .ok (.iload 5, 2) := by decide +kernel
theorem d_Te_addToken_27 : decode c_Te_addToken 27 = .ok (.iload_n 3, 1) := by decide +kernel
theorem d_Te_addToken_28 : decode c_Te_addToken 28 = .ok (.iastore, 1) := by decide +kernel
theorem d_Te_addToken_29 : decode c_Te_addToken 29 = .ok (.aload_n 0, 1) := by decide +kernel
theorem d_Te_addToken_30 : decode c_Te_addToken 30 = .ok (.getfield 21, 3) := by decide +kernel
theorem d_Te_addToken_33 : decode c_Te_addToken 33 = .ok (.iload 5, 2) := by decide +kernel
theorem d_Te_addToken_35 : decode c_Te_addToken 35 = .ok (.iload 4, 2) := by decide +kernel
theorem d_Te_addToken_37 : decode c_Te_addToken 37 = .ok (.iastore, 1) := by decide +kernel
theorem d_Te_addToken_38 : decode c_Te_addToken 38 = .ok (.aload_n 0, 1) := by decide +kernel
theorem d_Te_addToken_39 : decode c_Te_addToken 39 = .ok (.getfield 9, 3) := by decide +kernel
theorem d_Te_addToken_42 : decode c_Te_addToken 42 = .ok (.iload_n 1, 1) := by decide +kernel
theorem d_Te_addToken_43 : decode c_Te_addToken 43 = .ok (.dup2, 1) := by decide +kernel
theorem d_Te_addToken_44 : decode c_Te_addToken 44 = .ok (.iaload, 1) := by decide +kernel
theorem d_Te_addToken_45 : decode c_Te_addToken 45 = .ok (.iconst 1, 1) := by decide +kernel
theorem d_Te_addToken_46 : decode c_Te_addToken 46 = .ok (.iadd, 1) := by decide +kernel
theorem d_Te_addToken_47 : decode c_Te_addToken 47 = .ok (.iastore, 1) := by decide +kernel
theorem d_Te_addToken_48 : decode c_Te_addToken 48 = .ok (.aload_n 0, 1) := by decide +kernel
theorem d_Te_addToken_49 : decode c_Te_addToken 49 = .ok (.getfield 9, 3) := by decide +kernel
theorem d_Te_addToken_52 : decode c_Te_addToken 52 = .ok (.iload_n 1, 1) := by decide +kernel
theorem d_Te_addToken_53 : decode c_Te_addToken 53 = .ok (.iaload, 1) := by decide +kernel
theorem d_Te_addToken_54 : decode c_Te_addToken 54 = .ok (.ireturn, 1) := by decide +kernel
theorem d_Te_isGood_0 : decode c_Te_isGood 0 = .ok (.iconst 1, 1) := by decide +kernel
theorem d_Te_isGood_1 : decode c_Te_isGood 1 = .ok (.istore_n 2, 1) := by decide +kernel
theorem d_Te_isGood_2 : decode c_Te_isGood 2 = .ok (.iconst 0, 1) := by decide +kernel
theorem d_Te_isGood_3 : decode c_Te_isGood 3 = .ok (.istore_n 3, 1) := by decide +kernel
theorem d_Te_isGood_4 : decode c_Te_isGood 4 = .ok (.iload_n 3, 1) := by decide +kernel
theorem d_Te_isGood_5 : decode c_Te_isGood 5 = .ok (.aload_n 0, 1) := by decide +kernel
theorem d_Te_isGood_6 : decode c_Te_isGood 6 = .ok (.getfield 9, 3) := by decide +kernel
theorem d_Te_isGood_9 : decode c_Te_isGood 9 = .ok (.iload_n 1, 1) := by decide +kernel
theorem d_Te_isGood_10 : decode c_Te_isGood 10 = .ok (.iaload, 1) := by decide +kernel
theorem d_Te_isGood_11 : decode c_Te_isGood 11 = .ok (.if_icmp .ge 59, 3) := by decide +kernel
theorem d_Te_isGood_14 : decode c_Te_isGood 14 = .ok (.iload_n 2, 1) := by decide +kernel
theorem d_Te_isGood_15 : decode c_Te_isGood 15 = .ok (.ifCond .ne 5, 3) := by decide +kernel
theorem d_Te_isGood_18 : decode c_Te_isGood 18 = .ok (.iconst 0, 1) := by decide +kernel
theorem d_Te_isGood_19 : decode c_Te_isGood 19 = .ok (.ireturn, 1) := by decide +kernel
theorem d_Te_isGood_20 : decode c_Te_isGood 20 = .ok (.aload_n 0, 1) := by decide +kernel
theorem d_Te_isGood_21 : decode c_Te_isGood 21 = .ok (.getfield 15, 3) := by decide +kernel
theorem d_Te_isGood_24 : decode c_Te_isGood 24 = .ok (.iload_n 1, 1) := by decide +kernel
theorem d_Te_isGood_25 : decode c_Te_isGood 25 = .ok (.bipush 16, 2) := by decide +kernel
theorem d_Te_isGood_27 : decode c_Te_isGood 27 = .ok (.imul, 1) := by decide +kernel
theorem d_Te_isGood_28 : decode c_Te_isGood 28 = .ok (.iload_n 3, 1) := by decide +kernel
theorem d_Te_isGood_29 : decode c_Te_isGood 29 = .ok (.iadd, 1) := by decide +kernel
theorem d_Te_isGood_30 : decode c_Te_isGood 30 = .ok (.iaload, 1) := by decide +kernel
theorem d_Te_isGood_31 : decode c_Te_isGood 31 = .ok (.istore 4, 2) := by decide +kernel
theorem d_Te_isGood_33 : decode c_Te_isGood 33 = .ok (.iload 4, 2) := by decide +kernel
theorem d_Te_isGood_35 : decode c_Te_isGood 35 = .ok (.bipush 6, 2) := by decide +kernel
theorem d_Te_isGood_37 : decode c_Te_isGood 37 = .ok (.if_icmp .ne 9, 3) := by decide +kernel
theorem d_Te_isGood_40 : decode c_Te_isGood 40 = .ok (.iinc 2 (-1), 3) := by decide +kernel
theorem d_Te_isGood_43 : decode c_Te_isGood 43 = .ok (.goto 14, 3) := by decide +kernel
theorem d_Te_isGood_46 : decode c_Te_isGood 46 = .ok (.iload 4, 2) := by decide +kernel
theorem d_Te_isGood_48 : decode c_Te_isGood 48 = .ok (.invokestatic 24, 3) := by decide +kernel
theorem d_Te_isGood_51 : decode c_Te_isGood 51 = .ok (.ifCond .eq 6, 3) := by decide +kernel
theorem d_Te_isGood_54 : decode c_Te_isGood 54 = .ok (.iinc 2 1, 3) := by decide +kernel
theorem d_Te_isGood_57 : decode c_Te_isGood 57 = .ok (.iload_n 2, 1) := by decide +kernel
theorem d_Te_isGood_58 : decode c_Te_isGood 58 = .ok (.iconst 4, 1) := by decide +kernel
theorem d_Te_isGood_59 : decode c_Te_isGood 59 = .ok (.if_icmp .le 5, 3) := by decide +kernel
theorem d_Te_isGood_62 : decode c_Te_isGood 62 = .ok (.iconst 0, 1) := by decide +kernel
theorem d_Te_isGood_63 : decode c_Te_isGood 63 = .ok (.ireturn, 1) := by decide +kernel
theorem d_Te_isGood_64 : decode c_Te_isGood 64 = .ok (.iinc 3 1, 3) := by decide +kernel
theorem d_Te_isGood_67 : decode c_Te_isGood 67 = .ok (.goto (-63), 3) := by decide +kernel
theorem d_Te_isGood_70 : decode c_Te_isGood 70 = .ok (.iload_n 2, 1) := by decide +kernel
theorem d_Te_isGood_71 : decode c_Te_isGood 71 = .ok (.ifCond .ne 7, 3) := by decide +kernel
theorem d_Te_isGood_74 : decode c_Te_isGood 74 = .ok (.iconst 1, 1) := by decide +kernel
theorem d_Te_isGood_75 : decode c_Te_isGood 75 = .ok (.goto 4, 3) := by decide +kernel
theorem d_Te_isGood_78 : decode c_Te_isGood 78 = .ok (.iconst 0, 1) := by decide +kernel
theorem d_Te_isGood_79 : decode c_Te_isGood 79 = .ok (.ireturn, 1) := by decide +kernel
theorem d_L_law_0 : decode code 0 = .ok (.new 7, 3) := by decide +kernel
theorem d_L_law_3 : decode code 3 = .ok (.dup, 1) := by decide +kernel
theorem d_L_law_4 : decode code 4 = .ok (.invokespecial 9, 3) := by decide +kernel
theorem d_L_law_7 : decode code 7 = .ok (.astore_n 1, 1) := by decide +kernel
theorem d_L_law_8 : decode code 8 = .ok (.new 10, 3) := by decide +kernel
theorem d_L_law_11 : decode code 11 = .ok (.dup, 1) := by decide +kernel
theorem d_L_law_12 : decode code 12 = .ok (.invokespecial 12, 3) := by decide +kernel
theorem d_L_law_15 : decode code 15 = .ok (.astore_n 2, 1) := by decide +kernel
theorem d_L_law_16 : decode code 16 = .ok (.iconst 0, 1) := by decide +kernel
theorem d_L_law_17 : decode code 17 = .ok (.istore_n 3, 1) := by decide +kernel
theorem d_L_law_18 : decode code 18 = .ok (.iload_n 3, 1) := by decide +kernel
theorem d_L_law_19 : decode code 19 = .ok (.aload_n 0, 1) := by decide +kernel
theorem d_L_law_20 : decode code 20 = .ok (.arraylength, 1) := by decide +kernel
theorem d_L_law_21 : decode code 21 = .ok (.iconst 5, 1) := by decide +kernel
theorem d_L_law_22 : decode code 22 = .ok (.isub, 1) := by decide +kernel
theorem d_L_law_23 : decode code 23 = .ok (.if_icmp .gt 562, 3) := by decide +kernel
theorem d_L_law_26 : decode code 26 = .ok (.aload_n 0, 1) := by decide +kernel
theorem d_L_law_27 : decode code 27 = .ok (.iload_n 3, 1) := by decide +kernel
theorem d_L_law_28 : decode code 28 = .ok (.iaload, 1) := by decide +kernel
theorem d_L_law_29 : decode code 29 = .ok (.bipush 15, 2) := by decide +kernel
theorem d_L_law_31 : decode code 31 = .ok (.iand, 1) := by decide +kernel
theorem d_L_law_32 : decode code 32 = .ok (.tableswitch 547 0 14 #[76, 89, 158, 181, 224, 267, 300, 333, 386, 409, 432, 445, 468, 491, 524], 76) := by decide +kernel
theorem d_L_law_108 : decode code 108 = .ok (.aload_n 1, 1) := by decide +kernel
theorem d_L_law_109 : decode code 109 = .ok (.invokevirtual 13, 3) := by decide +kernel
theorem d_L_law_112 : decode code 112 = .ok (.aload_n 2, 1) := by decide +kernel
theorem d_L_law_113 : decode code 113 = .ok (.invokevirtual 17, 3) := by decide +kernel
theorem d_L_law_116 : decode code 116 = .ok (.if_icmp .eq 463, 3) := by decide +kernel
theorem d_L_law_119 : decode code 119 = .ok (.iconst 0, 1) := by decide +kernel
theorem d_L_law_120 : decode code 120 = .ok (.ireturn, 1) := by decide +kernel
theorem d_L_law_121 : decode code 121 = .ok (.aload_n 1, 1) := by decide +kernel
theorem d_L_law_122 : decode code 122 = .ok (.aload_n 0, 1) := by decide +kernel
theorem d_L_law_123 : decode code 123 = .ok (.iload_n 3, 1) := by decide +kernel
theorem d_L_law_124 : decode code 124 = .ok (.iconst 1, 1) := by decide +kernel
theorem d_L_law_125 : decode code 125 = .ok (.iadd, 1) := by decide +kernel
theorem d_L_law_126 : decode code 126 = .ok (.iaload, 1) := by decide +kernel
theorem d_L_law_127 : decode code 127 = .ok (.aload_n 0, 1) := by decide +kernel
theorem d_L_law_128 : decode code 128 = .ok (.iload_n 3, 1) := by decide +kernel
theorem d_L_law_129 : decode code 129 = .ok (.iconst 2, 1) := by decide +kernel
theorem d_L_law_130 : decode code 130 = .ok (.iadd, 1) := by decide +kernel
theorem d_L_law_131 : decode code 131 = .ok (.iaload, 1) := by decide +kernel
theorem d_L_law_132 : decode code 132 = .ok (.aload_n 0, 1) := by decide +kernel
theorem d_L_law_133 : decode code 133 = .ok (.iload_n 3, 1) := by decide +kernel
theorem d_L_law_134 : decode code 134 = .ok (.iconst 3, 1) := by decide +kernel
theorem d_L_law_135 : decode code 135 = .ok (.iadd, 1) := by decide +kernel
theorem d_L_law_136 : decode code 136 = .ok (.iaload, 1) := by decide +kernel
theorem d_L_law_137 : decode code 137 = .ok (.aload_n 0, 1) := by decide +kernel
theorem d_L_law_138 : decode code 138 = .ok (.iload_n 3, 1) := by decide +kernel
theorem d_L_law_139 : decode code 139 = .ok (.iconst 4, 1) := by decide +kernel
theorem d_L_law_140 : decode code 140 = .ok (.iadd, 1) := by decide +kernel
theorem d_L_law_141 : decode code 141 = .ok (.iaload, 1) := by decide +kernel
theorem d_L_law_142 : decode code 142 = .ok (.ifCond .eq 7, 3) := by decide +kernel
theorem d_L_law_145 : decode code 145 = .ok (.iconst 1, 1) := by decide +kernel
theorem d_L_law_146 : decode code 146 = .ok (.goto 4, 3) := by decide +kernel
theorem d_L_law_149 : decode code 149 = .ok (.iconst 0, 1) := by decide +kernel
theorem d_L_law_150 : decode code 150 = .ok (.invokevirtual 18, 3) := by decide +kernel
theorem d_L_law_153 : decode code 153 = .ok (.aload_n 2, 1) := by decide +kernel
theorem d_L_law_154 : decode code 154 = .ok (.aload_n 0, 1) := by decide +kernel
theorem d_L_law_155 : decode code 155 = .ok (.iload_n 3, 1) := by decide +kernel
theorem d_L_law_156 : decode code 156 = .ok (.iconst 1, 1) := by decide +kernel
theorem d_L_law_157 : decode code 157 = .ok (.iadd, 1) := by decide +kernel
theorem d_L_law_158 : decode code 158 = .ok (.iaload, 1) := by decide +kernel
theorem d_L_law_159 : decode code 159 = .ok (.aload_n 0, 1) := by decide +kernel
theorem d_L_law_160 : decode code 160 = .ok (.iload_n 3, 1) := by decide +kernel
theorem d_L_law_161 : decode code 161 = .ok (.iconst 2, 1) := by decide +kernel
theorem d_L_law_162 : decode code 162 = .ok (.iadd, 1) := by decide +kernel
theorem d_L_law_163 : decode code 163 = .ok (.iaload, 1) := by decide +kernel
theorem d_L_law_164 : decode code 164 = .ok (.aload_n 0, 1) := by decide +kernel
theorem d_L_law_165 : decode code 165 = .ok (.iload_n 3, 1) := by decide +kernel
theorem d_L_law_166 : decode code 166 = .ok (.iconst 3, 1) := by decide +kernel
theorem d_L_law_167 : decode code 167 = .ok (.iadd, 1) := by decide +kernel
theorem d_L_law_168 : decode code 168 = .ok (.iaload, 1) := by decide +kernel
theorem d_L_law_169 : decode code 169 = .ok (.aload_n 0, 1) := by decide +kernel
theorem d_L_law_170 : decode code 170 = .ok (.iload_n 3, 1) := by decide +kernel
theorem d_L_law_171 : decode code 171 = .ok (.iconst 4, 1) := by decide +kernel
theorem d_L_law_172 : decode code 172 = .ok (.iadd, 1) := by decide +kernel
theorem d_L_law_173 : decode code 173 = .ok (.iaload, 1) := by decide +kernel
theorem d_L_law_174 : decode code 174 = .ok (.ifCond .eq 7, 3) := by decide +kernel
theorem d_L_law_177 : decode code 177 = .ok (.iconst 1, 1) := by decide +kernel
theorem d_L_law_178 : decode code 178 = .ok (.goto 4, 3) := by decide +kernel
theorem d_L_law_181 : decode code 181 = .ok (.iconst 0, 1) := by decide +kernel
theorem d_L_law_182 : decode code 182 = .ok (.invokevirtual 22, 3) := by decide +kernel
theorem d_L_law_185 : decode code 185 = .ok (.if_icmp .eq 394, 3) := by decide +kernel
theorem d_L_law_188 : decode code 188 = .ok (.iconst 0, 1) := by decide +kernel
theorem d_L_law_189 : decode code 189 = .ok (.ireturn, 1) := by decide +kernel
theorem d_L_law_190 : decode code 190 = .ok (.aload_n 1, 1) := by decide +kernel
theorem d_L_law_191 : decode code 191 = .ok (.aload_n 0, 1) := by decide +kernel
theorem d_L_law_192 : decode code 192 = .ok (.iload_n 3, 1) := by decide +kernel
theorem d_L_law_193 : decode code 193 = .ok (.iconst 1, 1) := by decide +kernel
theorem d_L_law_194 : decode code 194 = .ok (.iadd, 1) := by decide +kernel
theorem d_L_law_195 : decode code 195 = .ok (.iaload, 1) := by decide +kernel
theorem d_L_law_196 : decode code 196 = .ok (.invokevirtual 23, 3) := by decide +kernel
theorem d_L_law_199 : decode code 199 = .ok (.aload_n 2, 1) := by decide +kernel
theorem d_L_law_200 : decode code 200 = .ok (.aload_n 0, 1) := by decide +kernel
theorem d_L_law_201 : decode code 201 = .ok (.iload_n 3, 1) := by decide +kernel
theorem d_L_law_202 : decode code 202 = .ok (.iconst 1, 1) := by decide +kernel
theorem d_L_law_203 : decode code 203 = .ok (.iadd, 1) := by decide +kernel
theorem d_L_law_204 : decode code 204 = .ok (.iaload, 1) := by decide +kernel
theorem d_L_law_205 : decode code 205 = .ok (.invokevirtual 27, 3) := by decide +kernel
theorem d_L_law_208 : decode code 208 = .ok (.if_icmp .eq 371, 3) := by decide +kernel
theorem d_L_law_211 : decode code 211 = .ok (.iconst 0, 1) := by decide +kernel
theorem d_L_law_212 : decode code 212 = .ok (.ireturn, 1) := by decide +kernel
theorem d_L_law_213 : decode code 213 = .ok (.aload_n 1, 1) := by decide +kernel
theorem d_L_law_214 : decode code 214 = .ok (.aload_n 0, 1) := by decide +kernel
theorem d_L_law_215 : decode code 215 = .ok (.iload_n 3, 1) := by decide +kernel
theorem d_L_law_216 : decode code 216 = .ok (.iconst 1, 1) := by decide +kernel
theorem d_L_law_217 : decode code 217 = .ok (.iadd, 1) := by decide +kernel
theorem d_L_law_218 : decode code 218 = .ok (.iaload, 1) := by decide +kernel
theorem d_L_law_219 : decode code 219 = .ok (.aload_n 0, 1) := by decide +kernel
theorem d_L_law_220 : decode code 220 = .ok (.iload_n 3, 1) := by decide +kernel
theorem d_L_law_221 : decode code 221 = .ok (.iconst 2, 1) := by decide +kernel
theorem d_L_law_222 : decode code 222 = .ok (.iadd, 1) := by decide +kernel
theorem d_L_law_223 : decode code 223 = .ok (.iaload, 1) := by decide +kernel
theorem d_L_law_224 : decode code 224 = .ok (.aload_n 0, 1) := by decide +kernel
theorem d_L_law_225 : decode code 225 = .ok (.iload_n 3, 1) := by decide +kernel
theorem d_L_law_226 : decode code 226 = .ok (.iconst 3, 1) := by decide +kernel
theorem d_L_law_227 : decode code 227 = .ok (.iadd, 1) := by decide +kernel
theorem d_L_law_228 : decode code 228 = .ok (.iaload, 1) := by decide +kernel
theorem d_L_law_229 : decode code 229 = .ok (.invokevirtual 28, 3) := by decide +kernel
theorem d_L_law_232 : decode code 232 = .ok (.aload_n 2, 1) := by decide +kernel
theorem d_L_law_233 : decode code 233 = .ok (.aload_n 0, 1) := by decide +kernel
theorem d_L_law_234 : decode code 234 = .ok (.iload_n 3, 1) := by decide +kernel
theorem d_L_law_235 : decode code 235 = .ok (.iconst 1, 1) := by decide +kernel
theorem d_L_law_236 : decode code 236 = .ok (.iadd, 1) := by decide +kernel
theorem d_L_law_237 : decode code 237 = .ok (.iaload, 1) := by decide +kernel
theorem d_L_law_238 : decode code 238 = .ok (.aload_n 0, 1) := by decide +kernel
theorem d_L_law_239 : decode code 239 = .ok (.iload_n 3, 1) := by decide +kernel
theorem d_L_law_240 : decode code 240 = .ok (.iconst 2, 1) := by decide +kernel
theorem d_L_law_241 : decode code 241 = .ok (.iadd, 1) := by decide +kernel
theorem d_L_law_242 : decode code 242 = .ok (.iaload, 1) := by decide +kernel
theorem d_L_law_243 : decode code 243 = .ok (.aload_n 0, 1) := by decide +kernel
theorem d_L_law_244 : decode code 244 = .ok (.iload_n 3, 1) := by decide +kernel
theorem d_L_law_245 : decode code 245 = .ok (.iconst 3, 1) := by decide +kernel
theorem d_L_law_246 : decode code 246 = .ok (.iadd, 1) := by decide +kernel
theorem d_L_law_247 : decode code 247 = .ok (.iaload, 1) := by decide +kernel
theorem d_L_law_248 : decode code 248 = .ok (.invokevirtual 32, 3) := by decide +kernel
theorem d_L_law_251 : decode code 251 = .ok (.if_icmp .eq 328, 3) := by decide +kernel
theorem d_L_law_254 : decode code 254 = .ok (.iconst 0, 1) := by decide +kernel
theorem d_L_law_255 : decode code 255 = .ok (.ireturn, 1) := by decide +kernel
theorem d_L_law_256 : decode code 256 = .ok (.aload_n 1, 1) := by decide +kernel
theorem d_L_law_257 : decode code 257 = .ok (.aload_n 0, 1) := by decide +kernel
theorem d_L_law_258 : decode code 258 = .ok (.iload_n 3, 1) := by decide +kernel
theorem d_L_law_259 : decode code 259 = .ok (.iconst 1, 1) := by decide +kernel
theorem d_L_law_260 : decode code 260 = .ok (.iadd, 1) := by decide +kernel
theorem d_L_law_261 : decode code 261 = .ok (.iaload, 1) := by decide +kernel
theorem d_L_law_262 : decode code 262 = .ok (.aload_n 0, 1) := by decide +kernel
theorem d_L_law_263 : decode code 263 = .ok (.iload_n 3, 1) := by decide +kernel
theorem d_L_law_264 : decode code 264 = .ok (.iconst 2, 1) := by decide +kernel
theorem d_L_law_265 : decode code 265 = .ok (.iadd, 1) := by decide +kernel
theorem d_L_law_266 : decode code 266 = .ok (.iaload, 1) := by decide +kernel
theorem d_L_law_267 : decode code 267 = .ok (.aload_n 0, 1) := by decide +kernel
theorem d_L_law_268 : decode code 268 = .ok (.iload_n 3, 1) := by decide +kernel
theorem d_L_law_269 : decode code 269 = .ok (.iconst 3, 1) := by decide +kernel
theorem d_L_law_270 : decode code 270 = .ok (.iadd, 1) := by decide +kernel
theorem d_L_law_271 : decode code 271 = .ok (.iaload, 1) := by decide +kernel
theorem d_L_law_272 : decode code 272 = .ok (.invokevirtual 33, 3) := by decide +kernel
theorem d_L_law_275 : decode code 275 = .ok (.aload_n 2, 1) := by decide +kernel
theorem d_L_law_276 : decode code 276 = .ok (.aload_n 0, 1) := by decide +kernel
theorem d_L_law_277 : decode code 277 = .ok (.iload_n 3, 1) := by decide +kernel
theorem d_L_law_278 : decode code 278 = .ok (.iconst 1, 1) := by decide +kernel
theorem d_L_law_279 : decode code 279 = .ok (.iadd, 1) := by decide +kernel
theorem d_L_law_280 : decode code 280 = .ok (.iaload, 1) := by decide +kernel
theorem d_L_law_281 : decode code 281 = .ok (.aload_n 0, 1) := by decide +kernel
theorem d_L_law_282 : decode code 282 = .ok (.iload_n 3, 1) := by decide +kernel
theorem d_L_law_283 : decode code 283 = .ok (.iconst 2, 1) := by decide +kernel
theorem d_L_law_284 : decode code 284 = .ok (.iadd, 1) := by decide +kernel
theorem d_L_law_285 : decode code 285 = .ok (.iaload, 1) := by decide +kernel
theorem d_L_law_286 : decode code 286 = .ok (.aload_n 0, 1) := by decide +kernel
theorem d_L_law_287 : decode code 287 = .ok (.iload_n 3, 1) := by decide +kernel
theorem d_L_law_288 : decode code 288 = .ok (.iconst 3, 1) := by decide +kernel
theorem d_L_law_289 : decode code 289 = .ok (.iadd, 1) := by decide +kernel
theorem d_L_law_290 : decode code 290 = .ok (.iaload, 1) := by decide +kernel
theorem d_L_law_291 : decode code 291 = .ok (.invokevirtual 36, 3) := by decide +kernel
theorem d_L_law_294 : decode code 294 = .ok (.if_icmp .eq 285, 3) := by decide +kernel
theorem d_L_law_297 : decode code 297 = .ok (.iconst 0, 1) := by decide +kernel
theorem d_L_law_298 : decode code 298 = .ok (.ireturn, 1) := by decide +kernel
theorem d_L_law_299 : decode code 299 = .ok (.aload_n 1, 1) := by decide +kernel
theorem d_L_law_300 : decode code 300 = .ok (.aload_n 0, 1) := by decide +kernel
theorem d_L_law_301 : decode code 301 = .ok (.iload_n 3, 1) := by decide +kernel
theorem d_L_law_302 : decode code 302 = .ok (.iconst 1, 1) := by decide +kernel
theorem d_L_law_303 : decode code 303 = .ok (.iadd, 1) := by decide +kernel
theorem d_L_law_304 : decode code 304 = .ok (.iaload, 1) := by decide +kernel
theorem d_L_law_305 : decode code 305 = .ok (.aload_n 0, 1) := by decide +kernel
theorem d_L_law_306 : decode code 306 = .ok (.iload_n 3, 1) := by decide +kernel
theorem d_L_law_307 : decode code 307 = .ok (.iconst 2, 1) := by decide +kernel
theorem d_L_law_308 : decode code 308 = .ok (.iadd, 1) := by decide +kernel
theorem d_L_law_309 : decode code 309 = .ok (.iaload, 1) := by decide +kernel
theorem d_L_law_310 : decode code 310 = .ok (.invokevirtual 37, 3) := by decide +kernel
theorem d_L_law_313 : decode code 313 = .ok (.aload_n 2, 1) := by decide +kernel
theorem d_L_law_314 : decode code 314 = .ok (.aload_n 0, 1) := by decide +kernel
theorem d_L_law_315 : decode code 315 = .ok (.iload_n 3, 1) := by decide +kernel
theorem d_L_law_316 : decode code 316 = .ok (.iconst 1, 1) := by decide +kernel
theorem d_L_law_317 : decode code 317 = .ok (.iadd, 1) := by decide +kernel
theorem d_L_law_318 : decode code 318 = .ok (.iaload, 1) := by decide +kernel
theorem d_L_law_319 : decode code 319 = .ok (.aload_n 0, 1) := by decide +kernel
theorem d_L_law_320 : decode code 320 = .ok (.iload_n 3, 1) := by decide +kernel
theorem d_L_law_321 : decode code 321 = .ok (.iconst 2, 1) := by decide +kernel
theorem d_L_law_322 : decode code 322 = .ok (.iadd, 1) := by decide +kernel
theorem d_L_law_323 : decode code 323 = .ok (.iaload, 1) := by decide +kernel
theorem d_L_law_324 : decode code 324 = .ok (.invokevirtual 41, 3) := by decide +kernel
theorem d_L_law_327 : decode code 327 = .ok (.if_icmp .eq 252, 3) := by decide +kernel
theorem d_L_law_330 : decode code 330 = .ok (.iconst 0, 1) := by decide +kernel
theorem d_L_law_331 : decode code 331 = .ok (.ireturn, 1) := by decide +kernel
theorem d_L_law_332 : decode code 332 = .ok (.aload_n 1, 1) := by decide +kernel
theorem d_L_law_333 : decode code 333 = .ok (.aload_n 0, 1) := by decide +kernel
theorem d_L_law_334 : decode code 334 = .ok (.iload_n 3, 1) := by decide +kernel
theorem d_L_law_335 : decode code 335 = .ok (.iconst 1, 1) := by decide +kernel
theorem d_L_law_336 : decode code 336 = .ok (.iadd, 1) := by decide +kernel
theorem d_L_law_337 : decode code 337 = .ok (.iaload, 1) := by decide +kernel
theorem d_L_law_338 : decode code 338 = .ok (.aload_n 0, 1) := by decide +kernel
theorem d_L_law_339 : decode code 339 = .ok (.iload_n 3, 1) := by decide +kernel
theorem d_L_law_340 : decode code 340 = .ok (.iconst 2, 1) := by decide +kernel
theorem d_L_law_341 : decode code 341 = .ok (.iadd, 1) := by decide +kernel
theorem d_L_law_342 : decode code 342 = .ok (.iaload, 1) := by decide +kernel
theorem d_L_law_343 : decode code 343 = .ok (.invokevirtual 42, 3) := by decide +kernel
theorem d_L_law_346 : decode code 346 = .ok (.aload_n 2, 1) := by decide +kernel
theorem d_L_law_347 : decode code 347 = .ok (.aload_n 0, 1) := by decide +kernel
theorem d_L_law_348 : decode code 348 = .ok (.iload_n 3, 1) := by decide +kernel
theorem d_L_law_349 : decode code 349 = .ok (.iconst 1, 1) := by decide +kernel
theorem d_L_law_350 : decode code 350 = .ok (.iadd, 1) := by decide +kernel
theorem d_L_law_351 : decode code 351 = .ok (.iaload, 1) := by decide +kernel
theorem d_L_law_352 : decode code 352 = .ok (.aload_n 0, 1) := by decide +kernel
theorem d_L_law_353 : decode code 353 = .ok (.iload_n 3, 1) := by decide +kernel
theorem d_L_law_354 : decode code 354 = .ok (.iconst 2, 1) := by decide +kernel
theorem d_L_law_355 : decode code 355 = .ok (.iadd, 1) := by decide +kernel
theorem d_L_law_356 : decode code 356 = .ok (.iaload, 1) := by decide +kernel
theorem d_L_law_357 : decode code 357 = .ok (.invokevirtual 45, 3) := by decide +kernel
theorem d_L_law_360 : decode code 360 = .ok (.if_icmp .eq 219, 3) := by decide +kernel
theorem d_L_law_363 : decode code 363 = .ok (.iconst 0, 1) := by decide +kernel
theorem d_L_law_364 : decode code 364 = .ok (.ireturn, 1) := by decide +kernel
theorem d_L_law_365 : decode code 365 = .ok (.aload_n 1, 1) := by decide +kernel
theorem d_L_law_366 : decode code 366 = .ok (.aload_n 0, 1) := by decide +kernel
theorem d_L_law_367 : decode code 367 = .ok (.iload_n 3, 1) := by decide +kernel
theorem d_L_law_368 : decode code 368 = .ok (.iconst 1, 1) := by decide +kernel
theorem d_L_law_369 : decode code 369 = .ok (.iadd, 1) := by decide +kernel
theorem d_L_law_370 : decode code 370 = .ok (.iaload, 1) := by decide +kernel
theorem d_L_law_371 : decode code 371 = .ok (.aload_n 0, 1) := by decide +kernel
theorem d_L_law_372 : decode code 372 = .ok (.iload_n 3, 1) := by decide +kernel
theorem d_L_law_373 : decode code 373 = .ok (.iconst 2, 1) := by decide +kernel
theorem d_L_law_374 : decode code 374 = .ok (.iadd, 1) := by decide +kernel
theorem d_L_law_375 : decode code 375 = .ok (.iaload, 1) := by decide +kernel
theorem d_L_law_376 : decode code 376 = .ok (.aload_n 0, 1) := by decide +kernel
theorem d_L_law_377 : decode code 377 = .ok (.iload_n 3, 1) := by decide +kernel
theorem d_L_law_378 : decode code 378 = .ok (.iconst 3, 1) := by decide +kernel
theorem d_L_law_379 : decode code 379 = .ok (.iadd, 1) := by decide +kernel
theorem d_L_law_380 : decode code 380 = .ok (.iaload, 1) := by decide +kernel
theorem d_L_law_381 : decode code 381 = .ok (.aload_n 0, 1) := by decide +kernel
theorem d_L_law_382 : decode code 382 = .ok (.iload_n 3, 1) := by decide +kernel
theorem d_L_law_383 : decode code 383 = .ok (.iconst 4, 1) := by decide +kernel
theorem d_L_law_384 : decode code 384 = .ok (.iadd, 1) := by decide +kernel
theorem d_L_law_385 : decode code 385 = .ok (.iaload, 1) := by decide +kernel
theorem d_L_law_386 : decode code 386 = .ok (.invokevirtual 46, 3) := by decide +kernel
theorem d_L_law_389 : decode code 389 = .ok (.aload_n 2, 1) := by decide +kernel
theorem d_L_law_390 : decode code 390 = .ok (.aload_n 0, 1) := by decide +kernel
theorem d_L_law_391 : decode code 391 = .ok (.iload_n 3, 1) := by decide +kernel
theorem d_L_law_392 : decode code 392 = .ok (.iconst 1, 1) := by decide +kernel
theorem d_L_law_393 : decode code 393 = .ok (.iadd, 1) := by decide +kernel
theorem d_L_law_394 : decode code 394 = .ok (.iaload, 1) := by decide +kernel
theorem d_L_law_395 : decode code 395 = .ok (.aload_n 0, 1) := by decide +kernel
theorem d_L_law_396 : decode code 396 = .ok (.iload_n 3, 1) := by decide +kernel
theorem d_L_law_397 : decode code 397 = .ok (.iconst 2, 1) := by decide +kernel
theorem d_L_law_398 : decode code 398 = .ok (.iadd, 1) := by decide +kernel
theorem d_L_law_399 : decode code 399 = .ok (.iaload, 1) := by decide +kernel
theorem d_L_law_400 : decode code 400 = .ok (.aload_n 0, 1) := by decide +kernel
theorem d_L_law_401 : decode code 401 = .ok (.iload_n 3, 1) := by decide +kernel
theorem d_L_law_402 : decode code 402 = .ok (.iconst 3, 1) := by decide +kernel
theorem d_L_law_403 : decode code 403 = .ok (.iadd, 1) := by decide +kernel
theorem d_L_law_404 : decode code 404 = .ok (.iaload, 1) := by decide +kernel
theorem d_L_law_405 : decode code 405 = .ok (.aload_n 0, 1) := by decide +kernel
theorem d_L_law_406 : decode code 406 = .ok (.iload_n 3, 1) := by decide +kernel
theorem d_L_law_407 : decode code 407 = .ok (.iconst 4, 1) := by decide +kernel
theorem d_L_law_408 : decode code 408 = .ok (.iadd, 1) := by decide +kernel
theorem d_L_law_409 : decode code 409 = .ok (.iaload, 1) := by decide +kernel
theorem d_L_law_410 : decode code 410 = .ok (.invokevirtual 50, 3) := by decide +kernel
theorem d_L_law_413 : decode code 413 = .ok (.if_icmp .eq 166, 3) := by decide +kernel
theorem d_L_law_416 : decode code 416 = .ok (.iconst 0, 1) := by decide +kernel
theorem d_L_law_417 : decode code 417 = .ok (.ireturn, 1) := by decide +kernel
theorem d_L_law_418 : decode code 418 = .ok (.aload_n 1, 1) := by decide +kernel
theorem d_L_law_419 : decode code 419 = .ok (.aload_n 0, 1) := by decide +kernel
theorem d_L_law_420 : decode code 420 = .ok (.iload_n 3, 1) := by decide +kernel
theorem d_L_law_421 : decode code 421 = .ok (.iconst 1, 1) := by decide +kernel
theorem d_L_law_422 : decode code 422 = .ok (.iadd, 1) := by decide +kernel
theorem d_L_law_423 : decode code 423 = .ok (.iaload, 1) := by decide +kernel
theorem d_L_law_424 : decode code 424 = .ok (.invokevirtual 51, 3) := by decide +kernel
theorem d_L_law_427 : decode code 427 = .ok (.aload_n 2, 1) := by decide +kernel
theorem d_L_law_428 : decode code 428 = .ok (.aload_n 0, 1) := by decide +kernel
theorem d_L_law_429 : decode code 429 = .ok (.iload_n 3, 1) := by decide +kernel
theorem d_L_law_430 : decode code 430 = .ok (.iconst 1, 1) := by decide +kernel
theorem d_L_law_431 : decode code 431 = .ok (.iadd, 1) := by decide +kernel
theorem d_L_law_432 : decode code 432 = .ok (.iaload, 1) := by decide +kernel
theorem d_L_law_433 : decode code 433 = .ok (.invokevirtual 54, 3) := by decide +kernel
theorem d_L_law_436 : decode code 436 = .ok (.if_icmp .eq 143, 3) := by decide +kernel
theorem d_L_law_439 : decode code 439 = .ok (.iconst 0, 1) := by decide +kernel
theorem d_L_law_440 : decode code 440 = .ok (.ireturn, 1) := by decide +kernel
theorem d_L_law_441 : decode code 441 = .ok (.aload_n 1, 1) := by decide +kernel
theorem d_L_law_442 : decode code 442 = .ok (.aload_n 0, 1) := by decide +kernel
theorem d_L_law_443 : decode code 443 = .ok (.iload_n 3, 1) := by decide +kernel
theorem d_L_law_444 : decode code 444 = .ok (.iconst 1, 1) := by decide +kernel
theorem d_L_law_445 : decode code 445 = .ok (.iadd, 1) := by decide +kernel
theorem d_L_law_446 : decode code 446 = .ok (.iaload, 1) := by decide +kernel
theorem d_L_law_447 : decode code 447 = .ok (.invokevirtual 55, 3) := by decide +kernel
theorem d_L_law_450 : decode code 450 = .ok (.aload_n 2, 1) := by decide +kernel
theorem d_L_law_451 : decode code 451 = .ok (.aload_n 0, 1) := by decide +kernel
theorem d_L_law_452 : decode code 452 = .ok (.iload_n 3, 1) := by decide +kernel
theorem d_L_law_453 : decode code 453 = .ok (.iconst 1, 1) := by decide +kernel
theorem d_L_law_454 : decode code 454 = .ok (.iadd, 1) := by decide +kernel
theorem d_L_law_455 : decode code 455 = .ok (.iaload, 1) := by decide +kernel
theorem d_L_law_456 : decode code 456 = .ok (.invokevirtual 58, 3) := by decide +kernel
theorem d_L_law_459 : decode code 459 = .ok (.if_icmp .eq 120, 3) := by decide +kernel
theorem d_L_law_462 : decode code 462 = .ok (.iconst 0, 1) := by decide +kernel
theorem d_L_law_463 : decode code 463 = .ok (.ireturn, 1) := by decide +kernel
theorem d_L_law_464 : decode code 464 = .ok (.aload_n 1, 1) := by decide +kernel
theorem d_L_law_465 : decode code 465 = .ok (.invokevirtual 59, 3) := by decide +kernel
theorem d_L_law_468 : decode code 468 = .ok (.aload_n 2, 1) := by decide +kernel
theorem d_L_law_469 : decode code 469 = .ok (.invokevirtual 62, 3) := by decide +kernel
theorem d_L_law_472 : decode code 472 = .ok (.if_icmp .eq 107, 3) := by decide +kernel
theorem d_L_law_475 : decode code 475 = .ok (.iconst 0, 1) := by decide +kernel
theorem d_L_law_476 : decode code 476 = .ok (.ireturn, 1) := by decide +kernel
theorem d_L_law_477 : decode code 477 = .ok (.aload_n 1, 1) := by decide +kernel
theorem d_L_law_478 : decode code 478 = .ok (.aload_n 0, 1) := by decide +kernel
theorem d_L_law_479 : decode code 479 = .ok (.iload_n 3, 1) := by decide +kernel
theorem d_L_law_480 : decode code 480 = .ok (.iconst 1, 1) := by decide +kernel
theorem d_L_law_481 : decode code 481 = .ok (.iadd, 1) := by decide +kernel
theorem d_L_law_482 : decode code 482 = .ok (.iaload, 1) := by decide +kernel
theorem d_L_law_483 : decode code 483 = .ok (.invokevirtual 63, 3) := by decide +kernel
theorem d_L_law_486 : decode code 486 = .ok (.aload_n 2, 1) := by decide +kernel
theorem d_L_law_487 : decode code 487 = .ok (.aload_n 0, 1) := by decide +kernel
theorem d_L_law_488 : decode code 488 = .ok (.iload_n 3, 1) := by decide +kernel
theorem d_L_law_489 : decode code 489 = .ok (.iconst 1, 1) := by decide +kernel
theorem d_L_law_490 : decode code 490 = .ok (.iadd, 1) := by decide +kernel
theorem d_L_law_491 : decode code 491 = .ok (.iaload, 1) := by decide +kernel
theorem d_L_law_492 : decode code 492 = .ok (.invokevirtual 66, 3) := by decide +kernel
theorem d_L_law_495 : decode code 495 = .ok (.if_icmp .eq 84, 3) := by decide +kernel
theorem d_L_law_498 : decode code 498 = .ok (.iconst 0, 1) := by decide +kernel
theorem d_L_law_499 : decode code 499 = .ok (.ireturn, 1) := by decide +kernel
theorem d_L_law_500 : decode code 500 = .ok (.aload_n 1, 1) := by decide +kernel
theorem d_L_law_501 : decode code 501 = .ok (.aload_n 0, 1) := by decide +kernel
theorem d_L_law_502 : decode code 502 = .ok (.iload_n 3, 1) := by decide +kernel
theorem d_L_law_503 : decode code 503 = .ok (.iconst 1, 1) := by decide +kernel
theorem d_L_law_504 : decode code 504 = .ok (.iadd, 1) := by decide +kernel
theorem d_L_law_505 : decode code 505 = .ok (.iaload, 1) := by decide +kernel
theorem d_L_law_506 : decode code 506 = .ok (.invokevirtual 67, 3) := by decide +kernel
theorem d_L_law_509 : decode code 509 = .ok (.aload_n 2, 1) := by decide +kernel
theorem d_L_law_510 : decode code 510 = .ok (.aload_n 0, 1) := by decide +kernel
theorem d_L_law_511 : decode code 511 = .ok (.iload_n 3, 1) := by decide +kernel
theorem d_L_law_512 : decode code 512 = .ok (.iconst 1, 1) := by decide +kernel
theorem d_L_law_513 : decode code 513 = .ok (.iadd, 1) := by decide +kernel
theorem d_L_law_514 : decode code 514 = .ok (.iaload, 1) := by decide +kernel
theorem d_L_law_515 : decode code 515 = .ok (.invokevirtual 70, 3) := by decide +kernel
theorem d_L_law_518 : decode code 518 = .ok (.if_icmp .eq 61, 3) := by decide +kernel
theorem d_L_law_521 : decode code 521 = .ok (.iconst 0, 1) := by decide +kernel
theorem d_L_law_522 : decode code 522 = .ok (.ireturn, 1) := by decide +kernel
theorem d_L_law_523 : decode code 523 = .ok (.aload_n 1, 1) := by decide +kernel
theorem d_L_law_524 : decode code 524 = .ok (.aload_n 0, 1) := by decide +kernel
theorem d_L_law_525 : decode code 525 = .ok (.iload_n 3, 1) := by decide +kernel
theorem d_L_law_526 : decode code 526 = .ok (.iconst 1, 1) := by decide +kernel
theorem d_L_law_527 : decode code 527 = .ok (.iadd, 1) := by decide +kernel
theorem d_L_law_528 : decode code 528 = .ok (.iaload, 1) := by decide +kernel
theorem d_L_law_529 : decode code 529 = .ok (.aload_n 0, 1) := by decide +kernel
theorem d_L_law_530 : decode code 530 = .ok (.iload_n 3, 1) := by decide +kernel
theorem d_L_law_531 : decode code 531 = .ok (.iconst 2, 1) := by decide +kernel
theorem d_L_law_532 : decode code 532 = .ok (.iadd, 1) := by decide +kernel
theorem d_L_law_533 : decode code 533 = .ok (.iaload, 1) := by decide +kernel
theorem d_L_law_534 : decode code 534 = .ok (.invokevirtual 71, 3) := by decide +kernel
theorem d_L_law_537 : decode code 537 = .ok (.aload_n 2, 1) := by decide +kernel
theorem d_L_law_538 : decode code 538 = .ok (.aload_n 0, 1) := by decide +kernel
theorem d_L_law_539 : decode code 539 = .ok (.iload_n 3, 1) := by decide +kernel
theorem d_L_law_540 : decode code 540 = .ok (.iconst 1, 1) := by decide +kernel
theorem d_L_law_541 : decode code 541 = .ok (.iadd, 1) := by decide +kernel
theorem d_L_law_542 : decode code 542 = .ok (.iaload, 1) := by decide +kernel
