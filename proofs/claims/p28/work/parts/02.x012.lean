theorem dX0_init_0 : decode cX0_init 0 = .ok (.aload_n 0, 1) := by decide +kernel
theorem dX0_init_1 : decode cX0_init 1 = .ok (.invokespecial 3, 3) := by decide +kernel
theorem dX0_init_4 : decode cX0_init 4 = .ok (.aload_n 0, 1) := by decide +kernel
theorem dX0_init_5 : decode cX0_init 5 = .ok (.bipush 40, 2) := by decide +kernel
theorem dX0_init_7 : decode cX0_init 7 = .ok (.newarray .int, 2) := by decide +kernel
theorem dX0_init_9 : decode cX0_init 9 = .ok (.putfield 9, 3) := by decide +kernel
theorem dX0_init_12 : decode cX0_init 12 = .ok (.aload_n 0, 1) := by decide +kernel
theorem dX0_init_13 : decode cX0_init 13 = .ok (.bipush 120, 2) := by decide +kernel
theorem dX0_init_15 : decode cX0_init 15 = .ok (.newarray .int, 2) := by decide +kernel
theorem dX0_init_17 : decode cX0_init 17 = .ok (.putfield 15, 3) := by decide +kernel
theorem dX0_init_20 : decode cX0_init 20 = .ok (.aload_n 0, 1) := by decide +kernel
theorem dX0_init_21 : decode cX0_init 21 = .ok (.iconst 4, 1) := by decide +kernel
theorem dX0_init_22 : decode cX0_init 22 = .ok (.newarray .int, 2) := by decide +kernel
theorem dX0_init_24 : decode cX0_init 24 = .ok (.putfield 18, 3) := by decide +kernel
theorem dX0_init_27 : decode cX0_init 27 = .ok (.aload_n 0, 1) := by decide +kernel
theorem dX0_init_28 : decode cX0_init 28 = .ok (.bipush 40, 2) := by decide +kernel
theorem dX0_init_30 : decode cX0_init 30 = .ok (.newarray .int, 2) := by decide +kernel
theorem dX0_init_32 : decode cX0_init 32 = .ok (.putfield 21, 3) := by decide +kernel
theorem dX0_init_35 : decode cX0_init 35 = .ok (.aload_n 0, 1) := by decide +kernel
theorem dX0_init_36 : decode cX0_init 36 = .ok (.iconst 0, 1) := by decide +kernel
theorem dX0_init_37 : decode cX0_init 37 = .ok (.putfield 24, 3) := by decide +kernel
theorem dX0_init_40 : decode cX0_init 40 = .ok (.aload_n 0, 1) := by decide +kernel
theorem dX0_init_41 : decode cX0_init 41 = .ok (.iconst 0, 1) := by decide +kernel
theorem dX0_init_42 : decode cX0_init 42 = .ok (.putfield 28, 3) := by decide +kernel
theorem dX0_init_45 : decode cX0_init 45 = .ok (.return_, 1) := by decide +kernel
theorem dX0_gateCount_0 : decode cX0_gateCount 0 = .ok (.aload_n 0, 1) := by decide +kernel
theorem dX0_gateCount_1 : decode cX0_gateCount 1 = .ok (.getfield 24, 3) := by decide +kernel
theorem dX0_gateCount_4 : decode cX0_gateCount 4 = .ok (.ireturn, 1) := by decide +kernel
theorem dX0_outputCount_0 : decode cX0_outputCount 0 = .ok (.aload_n 0, 1) := by decide +kernel
theorem dX0_outputCount_1 : decode cX0_outputCount 1 = .ok (.getfield 28, 3) := by decide +kernel
theorem dX0_outputCount_4 : decode cX0_outputCount 4 = .ok (.ireturn, 1) := by decide +kernel
theorem dX0_hasGate_0 : decode cX0_hasGate 0 = .ok (.iload_n 1, 1) := by decide +kernel
theorem dX0_hasGate_1 : decode cX0_hasGate 1 = .ok (.ifCond .lt 15, 3) := by decide +kernel
theorem dX0_hasGate_4 : decode cX0_hasGate 4 = .ok (.iload_n 1, 1) := by decide +kernel
theorem dX0_hasGate_5 : decode cX0_hasGate 5 = .ok (.aload_n 0, 1) := by decide +kernel
theorem dX0_hasGate_6 : decode cX0_hasGate 6 = .ok (.getfield 24, 3) := by decide +kernel
theorem dX0_hasGate_9 : decode cX0_hasGate 9 = .ok (.if_icmp .ge 7, 3) := by decide +kernel
theorem dX0_hasGate_12 : decode cX0_hasGate 12 = .ok (.iconst 1, 1) := by decide +kernel
theorem dX0_hasGate_13 : decode cX0_hasGate 13 = .ok (.goto 4, 3) := by decide +kernel
theorem dX0_hasGate_16 : decode cX0_hasGate 16 = .ok (.iconst 0, 1) := by decide +kernel
theorem dX0_hasGate_17 : decode cX0_hasGate 17 = .ok (.ireturn, 1) := by decide +kernel
theorem dX0_hasOutput_0 : decode cX0_hasOutput 0 = .ok (.iload_n 1, 1) := by decide +kernel
theorem dX0_hasOutput_1 : decode cX0_hasOutput 1 = .ok (.ifCond .lt 15, 3) := by decide +kernel
theorem dX0_hasOutput_4 : decode cX0_hasOutput 4 = .ok (.iload_n 1, 1) := by decide +kernel
theorem dX0_hasOutput_5 : decode cX0_hasOutput 5 = .ok (.aload_n 0, 1) := by decide +kernel
theorem dX0_hasOutput_6 : decode cX0_hasOutput 6 = .ok (.getfield 28, 3) := by decide +kernel
theorem dX0_hasOutput_9 : decode cX0_hasOutput 9 = .ok (.if_icmp .ge 7, 3) := by decide +kernel
theorem dX0_hasOutput_12 : decode cX0_hasOutput 12 = .ok (.iconst 1, 1) := by decide +kernel
theorem dX0_hasOutput_13 : decode cX0_hasOutput 13 = .ok (.goto 4, 3) := by decide +kernel
theorem dX0_hasOutput_16 : decode cX0_hasOutput 16 = .ok (.iconst 0, 1) := by decide +kernel
theorem dX0_hasOutput_17 : decode cX0_hasOutput 17 = .ok (.ireturn, 1) := by decide +kernel
theorem dX0_hasOperands_0 : decode cX0_hasOperands 0 = .ok (.getstatic 31, 3) := by decide +kernel
theorem dX0_hasOperands_3 : decode cX0_hasOperands 3 = .ok (.iload_n 1, 1) := by decide +kernel
theorem dX0_hasOperands_4 : decode cX0_hasOperands 4 = .ok (.iaload, 1) := by decide +kernel
theorem dX0_hasOperands_5 : decode cX0_hasOperands 5 = .ok (.istore 5, 2) := by decide +kernel
theorem dX0_hasOperands_7 : decode cX0_hasOperands 7 = .ok (.iload 5, 2) := by decide +kernel
theorem dX0_hasOperands_9 : decode cX0_hasOperands 9 = .ok (.iconst 1, 1) := by decide +kernel
theorem dX0_hasOperands_10 : decode cX0_hasOperands 10 = .ok (.if_icmp .lt 11, 3) := by decide +kernel
theorem dX0_hasOperands_13 : decode cX0_hasOperands 13 = .ok (.aload_n 0, 1) := by decide +kernel
theorem dX0_hasOperands_14 : decode cX0_hasOperands 14 = .ok (.iload_n 2, 1) := by decide +kernel
theorem dX0_hasOperands_15 : decode cX0_hasOperands 15 = .ok (.invokevirtual 34, 3) := by decide +kernel
theorem dX0_hasOperands_18 : decode cX0_hasOperands 18 = .ok (.ifCond .eq 36, 3) := by decide +kernel
theorem dX0_hasOperands_21 : decode cX0_hasOperands 21 = .ok (.iload 5, 2) := by decide +kernel
theorem dX0_hasOperands_23 : decode cX0_hasOperands 23 = .ok (.iconst 2, 1) := by decide +kernel
theorem dX0_hasOperands_24 : decode cX0_hasOperands 24 = .ok (.if_icmp .lt 11, 3) := by decide +kernel
theorem dX0_hasOperands_27 : decode cX0_hasOperands 27 = .ok (.aload_n 0, 1) := by decide +kernel
theorem dX0_hasOperands_28 : decode cX0_hasOperands 28 = .ok (.iload_n 3, 1) := by decide +kernel
theorem dX0_hasOperands_29 : decode cX0_hasOperands 29 = .ok (.invokevirtual 34, 3) := by decide +kernel
theorem dX0_hasOperands_32 : decode cX0_hasOperands 32 = .ok (.ifCond .eq 22, 3) := by decide +kernel
theorem dX0_hasOperands_35 : decode cX0_hasOperands 35 = .ok (.iload 5, 2) := by decide +kernel
theorem dX0_hasOperands_37 : decode cX0_hasOperands 37 = .ok (.iconst 3, 1) := by decide +kernel
theorem dX0_hasOperands_38 : decode cX0_hasOperands 38 = .ok (.if_icmp .lt 12, 3) := by decide +kernel
theorem dX0_hasOperands_41 : decode cX0_hasOperands 41 = .ok (.aload_n 0, 1) := by decide +kernel
theorem dX0_hasOperands_42 : decode cX0_hasOperands 42 = .ok (.iload 4, 2) := by decide +kernel
theorem dX0_hasOperands_44 : decode cX0_hasOperands 44 = .ok (.invokevirtual 34, 3) := by decide +kernel
theorem dX0_hasOperands_47 : decode cX0_hasOperands 47 = .ok (.ifCond .eq 7, 3) := by decide +kernel
theorem dX0_hasOperands_50 : decode cX0_hasOperands 50 = .ok (.iconst 1, 1) := by decide +kernel
theorem dX0_hasOperands_51 : decode cX0_hasOperands 51 = .ok (.goto 4, 3) := by decide +kernel
theorem dX0_hasOperands_54 : decode cX0_hasOperands 54 = .ok (.iconst 0, 1) := by decide +kernel
theorem dX0_hasOperands_55 : decode cX0_hasOperands 55 = .ok (.ireturn, 1) := by decide +kernel
theorem dX0_addGate_0 : decode cX0_addGate 0 = .ok (.aload_n 0, 1) := by decide +kernel
theorem dX0_addGate_1 : decode cX0_addGate 1 = .ok (.getfield 24, 3) := by decide +kernel
theorem dX0_addGate_4 : decode cX0_addGate 4 = .ok (.bipush 40, 2) := by decide +kernel
theorem dX0_addGate_6 : decode cX0_addGate 6 = .ok (.if_icmp .lt 6, 3) := by decide +kernel
theorem dX0_addGate_9 : decode cX0_addGate 9 = .ok (.bipush (-4), 2) := by decide +kernel
theorem dX0_addGate_11 : decode cX0_addGate 11 = .ok (.ireturn, 1) := by decide +kernel
theorem dX0_addGate_12 : decode cX0_addGate 12 = .ok (.aload_n 0, 1) := by decide +kernel
theorem dX0_addGate_13 : decode cX0_addGate 13 = .ok (.getfield 9, 3) := by decide +kernel
theorem dX0_addGate_16 : decode cX0_addGate 16 = .ok (.aload_n 0, 1) := by decide +kernel
theorem dX0_addGate_17 : decode cX0_addGate 17 = .ok (.getfield 24, 3) := by decide +kernel
theorem dX0_addGate_20 : decode cX0_addGate 20 = .ok (.iload_n 1, 1) := by decide +kernel
theorem dX0_addGate_21 : decode cX0_addGate 21 = .ok (.iastore, 1) := by decide +kernel
theorem dX0_addGate_22 : decode cX0_addGate 22 = .ok (.aload_n 0, 1) := by decide +kernel
theorem dX0_addGate_23 : decode cX0_addGate 23 = .ok (.getfield 15, 3) := by decide +kernel
theorem dX0_addGate_26 : decode cX0_addGate 26 = .ok (.iconst 3, 1) := by decide +kernel
theorem dX0_addGate_27 : decode cX0_addGate 27 = .ok (.aload_n 0, 1) := by decide +kernel
theorem dX0_addGate_28 : decode cX0_addGate 28 = .ok (.getfield 24, 3) := by decide +kernel
theorem dX0_addGate_31 : decode cX0_addGate 31 = .ok (.imul, 1) := by decide +kernel
theorem dX0_addGate_32 : decode cX0_addGate 32 = .ok (.iload_n 2, 1) := by decide +kernel
theorem dX0_addGate_33 : decode cX0_addGate 33 = .ok (.iastore, 1) := by decide +kernel
theorem dX0_addGate_34 : decode cX0_addGate 34 = .ok (.aload_n 0, 1) := by decide +kernel
theorem dX0_addGate_35 : decode cX0_addGate 35 = .ok (.getfield 15, 3) := by decide +kernel
theorem dX0_addGate_38 : decode cX0_addGate 38 = .ok (.iconst 3, 1) := by decide +kernel
theorem dX0_addGate_39 : decode cX0_addGate 39 = .ok (.aload_n 0, 1) := by decide +kernel
theorem dX0_addGate_40 : decode cX0_addGate 40 = .ok (.getfield 24, 3) := by decide +kernel
theorem dX0_addGate_43 : decode cX0_addGate 43 = .ok (.imul, 1) := by decide +kernel
theorem dX0_addGate_44 : decode cX0_addGate 44 = .ok (.iconst 1, 1) := by decide +kernel
theorem dX0_addGate_45 : decode cX0_addGate 45 = .ok (.iadd, 1) := by decide +kernel
theorem dX0_addGate_46 : decode cX0_addGate 46 = .ok (.iload_n 3, 1) := by decide +kernel
theorem dX0_addGate_47 : decode cX0_addGate 47 = .ok (.iastore, 1) := by decide +kernel
theorem dX0_addGate_48 : decode cX0_addGate 48 = .ok (.aload_n 0, 1) := by decide +kernel
theorem dX0_addGate_49 : decode cX0_addGate 49 = .ok (.getfield 15, 3) := by decide +kernel
theorem dX0_addGate_52 : decode cX0_addGate 52 = .ok (.iconst 3, 1) := by decide +kernel
theorem dX0_addGate_53 : decode cX0_addGate 53 = .ok (.aload_n 0, 1) := by decide +kernel
theorem dX0_addGate_54 : decode cX0_addGate 54 = .ok (.getfield 24, 3) := by decide +kernel
theorem dX0_addGate_57 : decode cX0_addGate 57 = .ok (.imul, 1) := by decide +kernel
theorem dX0_addGate_58 : decode cX0_addGate 58 = .ok (.iconst 2, 1) := by decide +kernel
theorem dX0_addGate_59 : decode cX0_addGate 59 = .ok (.iadd, 1) := by decide +kernel
theorem dX0_addGate_60 : decode cX0_addGate 60 = .ok (.iload 4, 2) := by decide +kernel
theorem dX0_addGate_62 : decode cX0_addGate 62 = .ok (.iastore, 1) := by decide +kernel
theorem dX0_addGate_63 : decode cX0_addGate 63 = .ok (.aload_n 0, 1) := by decide +kernel
theorem dX0_addGate_64 : decode cX0_addGate 64 = .ok (.dup, 1) := by decide +kernel
theorem dX0_addGate_65 : decode cX0_addGate 65 = .ok (.getfield 24, 3) := by decide +kernel
theorem dX0_addGate_68 : decode cX0_addGate 68 = .ok (.iconst 1, 1) := by decide +kernel
theorem dX0_addGate_69 : decode cX0_addGate 69 = .ok (.iadd, 1) := by decide +kernel
theorem dX0_addGate_70 : decode cX0_addGate 70 = .ok (.putfield 24, 3) := by decide +kernel
theorem dX0_addGate_73 : decode cX0_addGate 73 = .ok (.aload_n 0, 1) := by decide +kernel
theorem dX0_addGate_74 : decode cX0_addGate 74 = .ok (.getfield 24, 3) := by decide +kernel
theorem dX0_addGate_77 : decode cX0_addGate 77 = .ok (.iconst 1, 1) := by decide +kernel
theorem dX0_addGate_78 : decode cX0_addGate 78 = .ok (.isub, 1) := by decide +kernel
theorem dX0_addGate_79 : decode cX0_addGate 79 = .ok (.ireturn, 1) := by decide +kernel
theorem dX0_addOutput_0 : decode cX0_addOutput 0 = .ok (.aload_n 0, 1) := by decide +kernel
theorem dX0_addOutput_1 : decode cX0_addOutput 1 = .ok (.getfield 28, 3) := by decide +kernel
theorem dX0_addOutput_4 : decode cX0_addOutput 4 = .ok (.iconst 4, 1) := by decide +kernel
theorem dX0_addOutput_5 : decode cX0_addOutput 5 = .ok (.if_icmp .lt 6, 3) := by decide +kernel
theorem dX0_addOutput_8 : decode cX0_addOutput 8 = .ok (.bipush (-4), 2) := by decide +kernel
theorem dX0_addOutput_10 : decode cX0_addOutput 10 = .ok (.ireturn, 1) := by decide +kernel
theorem dX0_addOutput_11 : decode cX0_addOutput 11 = .ok (.aload_n 0, 1) := by decide +kernel
theorem dX0_addOutput_12 : decode cX0_addOutput 12 = .ok (.getfield 18, 3) := by decide +kernel
theorem dX0_addOutput_15 : decode cX0_addOutput 15 = .ok (.aload_n 0, 1) := by decide +kernel
theorem dX0_addOutput_16 : decode cX0_addOutput 16 = .ok (.getfield 28, 3) := by decide +kernel
theorem dX0_addOutput_19 : decode cX0_addOutput 19 = .ok (.iload_n 1, 1) := by decide +kernel
theorem dX0_addOutput_20 : decode cX0_addOutput 20 = .ok (.iastore, 1) := by decide +kernel
theorem dX0_addOutput_21 : decode cX0_addOutput 21 = .ok (.aload_n 0, 1) := by decide +kernel
theorem dX0_addOutput_22 : decode cX0_addOutput 22 = .ok (.dup, 1) := by decide +kernel
theorem dX0_addOutput_23 : decode cX0_addOutput 23 = .ok (.getfield 28, 3) := by decide +kernel
theorem dX0_addOutput_26 : decode cX0_addOutput 26 = .ok (.iconst 1, 1) := by decide +kernel
theorem dX0_addOutput_27 : decode cX0_addOutput 27 = .ok (.iadd, 1) := by decide +kernel
theorem dX0_addOutput_28 : decode cX0_addOutput 28 = .ok (.putfield 28, 3) := by decide +kernel
theorem dX0_addOutput_31 : decode cX0_addOutput 31 = .ok (.aload_n 0, 1) := by decide +kernel
theorem dX0_addOutput_32 : decode cX0_addOutput 32 = .ok (.getfield 28, 3) := by decide +kernel
theorem dX0_addOutput_35 : decode cX0_addOutput 35 = .ok (.iconst 1, 1) := by decide +kernel
theorem dX0_addOutput_36 : decode cX0_addOutput 36 = .ok (.isub, 1) := by decide +kernel
theorem dX0_addOutput_37 : decode cX0_addOutput 37 = .ok (.ireturn, 1) := by decide +kernel
theorem dX0_empty_0 : decode cX0_empty 0 = .ok (.aload_n 0, 1) := by decide +kernel
theorem dX0_empty_1 : decode cX0_empty 1 = .ok (.getfield 24, 3) := by decide +kernel
theorem dX0_empty_4 : decode cX0_empty 4 = .ok (.istore_n 1, 1) := by decide +kernel
theorem dX0_empty_5 : decode cX0_empty 5 = .ok (.aload_n 0, 1) := by decide +kernel
theorem dX0_empty_6 : decode cX0_empty 6 = .ok (.iconst 0, 1) := by decide +kernel
theorem dX0_empty_7 : decode cX0_empty 7 = .ok (.putfield 24, 3) := by decide +kernel
theorem dX0_empty_10 : decode cX0_empty 10 = .ok (.aload_n 0, 1) := by decide +kernel
theorem dX0_empty_11 : decode cX0_empty 11 = .ok (.iconst 0, 1) := by decide +kernel
theorem dX0_empty_12 : decode cX0_empty 12 = .ok (.putfield 28, 3) := by decide +kernel
theorem dX0_empty_15 : decode cX0_empty 15 = .ok (.iload_n 1, 1) := by decide +kernel
theorem dX0_empty_16 : decode cX0_empty 16 = .ok (.ireturn, 1) := by decide +kernel
theorem dX0_kindOf_0 : decode cX0_kindOf 0 = .ok (.aload_n 0, 1) := by decide +kernel
theorem dX0_kindOf_1 : decode cX0_kindOf 1 = .ok (.getfield 9, 3) := by decide +kernel
theorem dX0_kindOf_4 : decode cX0_kindOf 4 = .ok (.iload_n 1, 1) := by decide +kernel
theorem dX0_kindOf_5 : decode cX0_kindOf 5 = .ok (.iaload, 1) := by decide +kernel
theorem dX0_kindOf_6 : decode cX0_kindOf 6 = .ok (.ireturn, 1) := by decide +kernel
theorem dX0_operand_0 : decode cX0_operand 0 = .ok (.aload_n 0, 1) := by decide +kernel
theorem dX0_operand_1 : decode cX0_operand 1 = .ok (.getfield 15, 3) := by decide +kernel
theorem dX0_operand_4 : decode cX0_operand 4 = .ok (.iconst 3, 1) := by decide +kernel
theorem dX0_operand_5 : decode cX0_operand 5 = .ok (.iload_n 1, 1) := by decide +kernel
theorem dX0_operand_6 : decode cX0_operand 6 = .ok (.imul, 1) := by decide +kernel
theorem dX0_operand_7 : decode cX0_operand 7 = .ok (.iload_n 2, 1) := by decide +kernel
theorem dX0_operand_8 : decode cX0_operand 8 = .ok (.iadd, 1) := by decide +kernel
theorem dX0_operand_9 : decode cX0_operand 9 = .ok (.iaload, 1) := by decide +kernel
theorem dX0_operand_10 : decode cX0_operand 10 = .ok (.ireturn, 1) := by decide +kernel
theorem dX0_outputValue_0 : decode cX0_outputValue 0 = .ok (.aload_n 0, 1) := by decide +kernel
theorem dX0_outputValue_1 : decode cX0_outputValue 1 = .ok (.getfield 18, 3) := by decide +kernel
theorem dX0_outputValue_4 : decode cX0_outputValue 4 = .ok (.iload_n 1, 1) := by decide +kernel
theorem dX0_outputValue_5 : decode cX0_outputValue 5 = .ok (.iaload, 1) := by decide +kernel
theorem dX0_outputValue_6 : decode cX0_outputValue 6 = .ok (.istore_n 3, 1) := by decide +kernel
theorem dX0_outputValue_7 : decode cX0_outputValue 7 = .ok (.iconst 0, 1) := by decide +kernel
theorem dX0_outputValue_8 : decode cX0_outputValue 8 = .ok (.istore 4, 2) := by decide +kernel
theorem dX0_outputValue_10 : decode cX0_outputValue 10 = .ok (.iload 4, 2) := by decide +kernel
theorem dX0_outputValue_12 : decode cX0_outputValue 12 = .ok (.iload_n 3, 1) := by decide +kernel
theorem dX0_outputValue_13 : decode cX0_outputValue 13 = .ok (.if_icmp .gt 23, 3) := by decide +kernel
theorem dX0_outputValue_16 : decode cX0_outputValue 16 = .ok (.aload_n 0, 1) := by decide +kernel
theorem dX0_outputValue_17 : decode cX0_outputValue 17 = .ok (.getfield 21, 3) := by decide +kernel
theorem dX0_outputValue_20 : decode cX0_outputValue 20 = .ok (.iload 4, 2) := by decide +kernel
theorem dX0_outputValue_22 : decode cX0_outputValue 22 = .ok (.aload_n 0, 1) := by decide +kernel
theorem dX0_outputValue_23 : decode cX0_outputValue 23 = .ok (.iload 4, 2) := by decide +kernel
theorem dX0_outputValue_25 : decode cX0_outputValue 25 = .ok (.iload_n 2, 1) := by decide +kernel
theorem dX0_outputValue_26 : decode cX0_outputValue 26 = .ok (.invokevirtual 38, 3) := by decide +kernel
theorem dX0_outputValue_29 : decode cX0_outputValue 29 = .ok (.iastore, 1) := by decide +kernel
theorem dX0_outputValue_30 : decode cX0_outputValue 30 = .ok (.iinc 4 1, 3) := by decide +kernel
theorem dX0_outputValue_33 : decode cX0_outputValue 33 = .ok (.goto (-23), 3) := by decide +kernel
theorem dX0_outputValue_36 : decode cX0_outputValue 36 = .ok (.aload_n 0, 1) := by decide +kernel
theorem dX0_outputValue_37 : decode cX0_outputValue 37 = .ok (.getfield 21, 3) := by decide +kernel
theorem dX0_outputValue_40 : decode cX0_outputValue 40 = .ok (.iload_n 3, 1) := by decide +kernel
theorem dX0_outputValue_41 : decode cX0_outputValue 41 = .ok (.iaload, 1) := by decide +kernel
theorem dX0_outputValue_42 : decode cX0_outputValue 42 = .ok (.ireturn, 1) := by decide +kernel
theorem dX0_gateValue_0 : decode cX0_gateValue 0 = .ok (.aload_n 0, 1) := by decide +kernel
theorem dX0_gateValue_1 : decode cX0_gateValue 1 = .ok (.getfield 9, 3) := by decide +kernel
theorem dX0_gateValue_4 : decode cX0_gateValue 4 = .ok (.iload_n 1, 1) := by decide +kernel
theorem dX0_gateValue_5 : decode cX0_gateValue 5 = .ok (.iaload, 1) := by decide +kernel
theorem dX0_gateValue_6 : decode cX0_gateValue 6 = .ok (.istore_n 3, 1) := by decide +kernel
theorem dX0_gateValue_7 : decode cX0_gateValue 7 = .ok (.iload_n 3, 1) := by decide +kernel
theorem dX0_gateValue_8 : decode cX0_gateValue 8 = .ok (.ifCond .ne 14, 3) := by decide +kernel
theorem dX0_gateValue_11 : decode cX0_gateValue 11 = .ok (.iload_n 2, 1) := by decide +kernel
theorem dX0_gateValue_12 : decode cX0_gateValue 12 = .ok (.aload_n 0, 1) := by decide +kernel
theorem dX0_gateValue_13 : decode cX0_gateValue 13 = .ok (.iload_n 1, 1) := by decide +kernel
theorem dX0_gateValue_14 : decode cX0_gateValue 14 = .ok (.iconst 0, 1) := by decide +kernel
theorem dX0_gateValue_15 : decode cX0_gateValue 15 = .ok (.invokevirtual 42, 3) := by decide +kernel
theorem dX0_gateValue_18 : decode cX0_gateValue 18 = .ok (.ishr, 1) := by decide +kernel
theorem dX0_gateValue_19 : decode cX0_gateValue 19 = .ok (.iconst 1, 1) := by decide +kernel
theorem dX0_gateValue_20 : decode cX0_gateValue 20 = .ok (.iand, 1) := by decide +kernel
theorem dX0_gateValue_21 : decode cX0_gateValue 21 = .ok (.ireturn, 1) := by decide +kernel
theorem dX0_gateValue_22 : decode cX0_gateValue 22 = .ok (.iconst 0, 1) := by decide +kernel
theorem dX0_gateValue_23 : decode cX0_gateValue 23 = .ok (.istore 4, 2) := by decide +kernel
theorem dX0_gateValue_25 : decode cX0_gateValue 25 = .ok (.iconst 0, 1) := by decide +kernel
theorem dX0_gateValue_26 : decode cX0_gateValue 26 = .ok (.istore 5, 2) := by decide +kernel
theorem dX0_gateValue_28 : decode cX0_gateValue 28 = .ok (.iload 5, 2) := by decide +kernel
theorem dX0_gateValue_30 : decode cX0_gateValue 30 = .ok (.getstatic 31, 3) := by decide +kernel
theorem dX0_gateValue_33 : decode cX0_gateValue 33 = .ok (.iload_n 3, 1) := by decide +kernel
theorem dX0_gateValue_34 : decode cX0_gateValue 34 = .ok (.iaload, 1) := by decide +kernel
theorem dX0_gateValue_35 : decode cX0_gateValue 35 = .ok (.if_icmp .ge 29, 3) := by decide +kernel
theorem dX0_gateValue_38 : decode cX0_gateValue 38 = .ok (.iload 4, 2) := by decide +kernel
theorem dX0_gateValue_40 : decode cX0_gateValue 40 = .ok (.aload_n 0, 1) := by decide +kernel
theorem dX0_gateValue_41 : decode cX0_gateValue 41 = .ok (.getfield 21, 3) := by decide +kernel
theorem dX0_gateValue_44 : decode cX0_gateValue 44 = .ok (.aload_n 0, 1) := by decide +kernel
theorem dX0_gateValue_45 : decode cX0_gateValue 45 = .ok (.iload_n 1, 1) := by decide +kernel
theorem dX0_gateValue_46 : decode cX0_gateValue 46 = .ok (.iload 5, 2) := by decide +kernel
theorem dX0_gateValue_48 : decode cX0_gateValue 48 = .ok (.invokevirtual 42, 3) := by decide +kernel
theorem dX0_gateValue_51 : decode cX0_gateValue 51 = .ok (.iaload, 1) := by decide +kernel
theorem dX0_gateValue_52 : decode cX0_gateValue 52 = .ok (.iload 5, 2) := by decide +kernel
theorem dX0_gateValue_54 : decode cX0_gateValue 54 = .ok (.ishl, 1) := by decide +kernel
theorem dX0_gateValue_55 : decode cX0_gateValue 55 = .ok (.ior, 1) := by decide +kernel
theorem dX0_gateValue_56 : decode cX0_gateValue 56 = .ok (.istore 4, 2) := by decide +kernel
theorem dX0_gateValue_58 : decode cX0_gateValue 58 = .ok (.iinc 5 1, 3) := by decide +kernel
theorem dX0_gateValue_61 : decode cX0_gateValue 61 = .ok (.goto (-33), 3) := by decide +kernel
theorem dX0_gateValue_64 : decode cX0_gateValue 64 = .ok (.getstatic 45, 3) := by decide +kernel
theorem dX0_gateValue_67 : decode cX0_gateValue 67 = .ok (.iload_n 3, 1) := by decide +kernel
theorem dX0_gateValue_68 : decode cX0_gateValue 68 = .ok (.iaload, 1) := by decide +kernel
theorem dX0_gateValue_69 : decode cX0_gateValue 69 = .ok (.iload 4, 2) := by decide +kernel
theorem dX0_gateValue_71 : decode cX0_gateValue 71 = .ok (.ishr, 1) := by decide +kernel
theorem dX0_gateValue_72 : decode cX0_gateValue 72 = .ok (.iconst 1, 1) := by decide +kernel
theorem dX0_gateValue_73 : decode cX0_gateValue 73 = .ok (.iand, 1) := by decide +kernel
theorem dX0_gateValue_74 : decode cX0_gateValue 74 = .ok (.ireturn, 1) := by decide +kernel
theorem dX0_findNeeds_0 : decode cX0_findNeeds 0 = .ok (.aload_n 2, 1) := by decide +kernel
theorem dX0_findNeeds_1 : decode cX0_findNeeds 1 = .ok (.iconst (-1), 1) := by decide +kernel
theorem dX0_findNeeds_2 : decode cX0_findNeeds 2 = .ok (.invokestatic 48, 3) := by decide +kernel
theorem dX0_findNeeds_5 : decode cX0_findNeeds 5 = .ok (.aload_n 0, 1) := by decide +kernel
theorem dX0_findNeeds_6 : decode cX0_findNeeds 6 = .ok (.getfield 18, 3) := by decide +kernel
theorem dX0_findNeeds_9 : decode cX0_findNeeds 9 = .ok (.iload_n 1, 1) := by decide +kernel
theorem dX0_findNeeds_10 : decode cX0_findNeeds 10 = .ok (.iaload, 1) := by decide +kernel
theorem dX0_findNeeds_11 : decode cX0_findNeeds 11 = .ok (.istore_n 3, 1) := by decide +kernel
theorem dX0_findNeeds_12 : decode cX0_findNeeds 12 = .ok (.aload_n 2, 1) := by decide +kernel
theorem dX0_findNeeds_13 : decode cX0_findNeeds 13 = .ok (.iload_n 3, 1) := by decide +kernel
theorem dX0_findNeeds_14 : decode cX0_findNeeds 14 = .ok (.iload_n 3, 1) := by decide +kernel
theorem dX0_findNeeds_15 : decode cX0_findNeeds 15 = .ok (.iastore, 1) := by decide +kernel
theorem dX0_findNeeds_16 : decode cX0_findNeeds 16 = .ok (.iload_n 3, 1) := by decide +kernel
theorem dX0_findNeeds_17 : decode cX0_findNeeds 17 = .ok (.istore 4, 2) := by decide +kernel
theorem dX0_findNeeds_19 : decode cX0_findNeeds 19 = .ok (.iload 4, 2) := by decide +kernel
theorem dX0_findNeeds_21 : decode cX0_findNeeds 21 = .ok (.ifCond .lt 24, 3) := by decide +kernel
theorem dX0_findNeeds_24 : decode cX0_findNeeds 24 = .ok (.aload_n 2, 1) := by decide +kernel
theorem dX0_findNeeds_25 : decode cX0_findNeeds 25 = .ok (.iload 4, 2) := by decide +kernel
theorem dX0_findNeeds_27 : decode cX0_findNeeds 27 = .ok (.iaload, 1) := by decide +kernel
theorem dX0_findNeeds_28 : decode cX0_findNeeds 28 = .ok (.iconst (-1), 1) := by decide +kernel
theorem dX0_findNeeds_29 : decode cX0_findNeeds 29 = .ok (.if_icmp .eq 10, 3) := by decide +kernel
theorem dX0_findNeeds_32 : decode cX0_findNeeds 32 = .ok (.aload_n 0, 1) := by decide +kernel
theorem dX0_findNeeds_33 : decode cX0_findNeeds 33 = .ok (.iload 4, 2) := by decide +kernel
theorem dX0_findNeeds_35 : decode cX0_findNeeds 35 = .ok (.aload_n 2, 1) := by decide +kernel
theorem dX0_findNeeds_36 : decode cX0_findNeeds 36 = .ok (.invokevirtual 54, 3) := by decide +kernel
theorem dX0_findNeeds_39 : decode cX0_findNeeds 39 = .ok (.iinc 4 (-1), 3) := by decide +kernel
theorem dX0_findNeeds_42 : decode cX0_findNeeds 42 = .ok (.goto (-23), 3) := by decide +kernel
theorem dX0_findNeeds_45 : decode cX0_findNeeds 45 = .ok (.iload_n 3, 1) := by decide +kernel
theorem dX0_findNeeds_46 : decode cX0_findNeeds 46 = .ok (.ireturn, 1) := by decide +kernel
theorem dX0_noteNeedsOf_0 : decode cX0_noteNeedsOf 0 = .ok (.iconst 0, 1) := by decide +kernel
theorem dX0_noteNeedsOf_1 : decode cX0_noteNeedsOf 1 = .ok (.istore_n 3, 1) := by decide +kernel
theorem dX0_noteNeedsOf_2 : decode cX0_noteNeedsOf 2 = .ok (.iload_n 3, 1) := by decide +kernel
theorem dX0_noteNeedsOf_3 : decode cX0_noteNeedsOf 3 = .ok (.getstatic 31, 3) := by decide +kernel
theorem dX0_noteNeedsOf_6 : decode cX0_noteNeedsOf 6 = .ok (.aload_n 0, 1) := by decide +kernel
theorem dX0_noteNeedsOf_7 : decode cX0_noteNeedsOf 7 = .ok (.getfield 9, 3) := by decide +kernel
theorem dX0_noteNeedsOf_10 : decode cX0_noteNeedsOf 10 = .ok (.iload_n 1, 1) := by decide +kernel
theorem dX0_noteNeedsOf_11 : decode cX0_noteNeedsOf 11 = .ok (.iaload, 1) := by decide +kernel
theorem dX0_noteNeedsOf_12 : decode cX0_noteNeedsOf 12 = .ok (.iaload, 1) := by decide +kernel
theorem dX0_noteNeedsOf_13 : decode cX0_noteNeedsOf 13 = .ok (.if_icmp .ge 30, 3) := by decide +kernel
theorem dX0_noteNeedsOf_16 : decode cX0_noteNeedsOf 16 = .ok (.aload_n 0, 1) := by decide +kernel
theorem dX0_noteNeedsOf_17 : decode cX0_noteNeedsOf 17 = .ok (.iload_n 1, 1) := by decide +kernel
theorem dX0_noteNeedsOf_18 : decode cX0_noteNeedsOf 18 = .ok (.iload_n 3, 1) := by decide +kernel
theorem dX0_noteNeedsOf_19 : decode cX0_noteNeedsOf 19 = .ok (.invokevirtual 42, 3) := by decide +kernel
theorem dX0_noteNeedsOf_22 : decode cX0_noteNeedsOf 22 = .ok (.istore 4, 2) := by decide +kernel
theorem dX0_noteNeedsOf_24 : decode cX0_noteNeedsOf 24 = .ok (.aload_n 2, 1) := by decide +kernel
theorem dX0_noteNeedsOf_25 : decode cX0_noteNeedsOf 25 = .ok (.iload 4, 2) := by decide +kernel
theorem dX0_noteNeedsOf_27 : decode cX0_noteNeedsOf 27 = .ok (.iaload, 1) := by decide +kernel
theorem dX0_noteNeedsOf_28 : decode cX0_noteNeedsOf 28 = .ok (.iconst (-1), 1) := by decide +kernel
theorem dX0_noteNeedsOf_29 : decode cX0_noteNeedsOf 29 = .ok (.if_icmp .ne 8, 3) := by decide +kernel
theorem dX0_noteNeedsOf_32 : decode cX0_noteNeedsOf 32 = .ok (.aload_n 2, 1) := by decide +kernel
theorem dX0_noteNeedsOf_33 : decode cX0_noteNeedsOf 33 = .ok (.iload 4, 2) := by decide +kernel
theorem dX0_noteNeedsOf_35 : decode cX0_noteNeedsOf 35 = .ok (.iload_n 1, 1) := by decide +kernel
theorem dX0_noteNeedsOf_36 : decode cX0_noteNeedsOf 36 = .ok (.iastore, 1) := by decide +kernel
theorem dX0_noteNeedsOf_37 : decode cX0_noteNeedsOf 37 = .ok (.iinc 3 1, 3) := by decide +kernel
theorem dX0_noteNeedsOf_40 : decode cX0_noteNeedsOf 40 = .ok (.goto (-38), 3) := by decide +kernel
theorem dX0_noteNeedsOf_43 : decode cX0_noteNeedsOf 43 = .ok (.return_, 1) := by decide +kernel
theorem dX0_meetVariables_0 : decode cX0_meetVariables 0 = .ok (.aload_n 0, 1) := by decide +kernel
theorem dX0_meetVariables_1 : decode cX0_meetVariables 1 = .ok (.getfield 21, 3) := by decide +kernel
theorem dX0_meetVariables_4 : decode cX0_meetVariables 4 = .ok (.iconst 0, 1) := by decide +kernel
theorem dX0_meetVariables_5 : decode cX0_meetVariables 5 = .ok (.invokestatic 48, 3) := by decide +kernel
theorem dX0_meetVariables_8 : decode cX0_meetVariables 8 = .ok (.iconst 0, 1) := by decide +kernel
theorem dX0_meetVariables_9 : decode cX0_meetVariables 9 = .ok (.istore_n 2, 1) := by decide +kernel
theorem dX0_meetVariables_10 : decode cX0_meetVariables 10 = .ok (.iload_n 2, 1) := by decide +kernel
theorem dX0_meetVariables_11 : decode cX0_meetVariables 11 = .ok (.aload_n 0, 1) := by decide +kernel
theorem dX0_meetVariables_12 : decode cX0_meetVariables 12 = .ok (.getfield 28, 3) := by decide +kernel
theorem dX0_meetVariables_15 : decode cX0_meetVariables 15 = .ok (.if_icmp .ge 21, 3) := by decide +kernel
theorem dX0_meetVariables_18 : decode cX0_meetVariables 18 = .ok (.aload_n 0, 1) := by decide +kernel
theorem dX0_meetVariables_19 : decode cX0_meetVariables 19 = .ok (.aload_n 0, 1) := by decide +kernel
theorem dX0_meetVariables_20 : decode cX0_meetVariables 20 = .ok (.getfield 18, 3) := by decide +kernel
theorem dX0_meetVariables_23 : decode cX0_meetVariables 23 = .ok (.iload_n 2, 1) := by decide +kernel
theorem dX0_meetVariables_24 : decode cX0_meetVariables 24 = .ok (.iaload, 1) := by decide +kernel
theorem dX0_meetVariables_25 : decode cX0_meetVariables 25 = .ok (.aload_n 1, 1) := by decide +kernel
theorem dX0_meetVariables_26 : decode cX0_meetVariables 26 = .ok (.iconst 0, 1) := by decide +kernel
theorem dX0_meetVariables_27 : decode cX0_meetVariables 27 = .ok (.invokevirtual 58, 3) := by decide +kernel
theorem dX0_meetVariables_30 : decode cX0_meetVariables 30 = .ok (.iinc 2 1, 3) := by decide +kernel
theorem dX0_meetVariables_33 : decode cX0_meetVariables 33 = .ok (.goto (-23), 3) := by decide +kernel
theorem dX0_meetVariables_36 : decode cX0_meetVariables 36 = .ok (.return_, 1) := by decide +kernel
theorem dX0_goInto_0 : decode cX0_goInto 0 = .ok (.iload_n 3, 1) := by decide +kernel
theorem dX0_goInto_1 : decode cX0_goInto 1 = .ok (.bipush 40, 2) := by decide +kernel
theorem dX0_goInto_3 : decode cX0_goInto 3 = .ok (.if_icmp .ge 12, 3) := by decide +kernel
theorem dX0_goInto_6 : decode cX0_goInto 6 = .ok (.aload_n 0, 1) := by decide +kernel
theorem dX0_goInto_7 : decode cX0_goInto 7 = .ok (.getfield 21, 3) := by decide +kernel
theorem dX0_goInto_10 : decode cX0_goInto 10 = .ok (.iload_n 1, 1) := by decide +kernel
theorem dX0_goInto_11 : decode cX0_goInto 11 = .ok (.iaload, 1) := by decide +kernel
theorem dX0_goInto_12 : decode cX0_goInto 12 = .ok (.ifCond .eq 4, 3) := by decide +kernel
theorem dX0_goInto_15 : decode cX0_goInto 15 = .ok (.return_, 1) := by decide +kernel
theorem dX0_goInto_16 : decode cX0_goInto 16 = .ok (.aload_n 0, 1) := by decide +kernel
theorem dX0_goInto_17 : decode cX0_goInto 17 = .ok (.getfield 21, 3) := by decide +kernel
theorem dX0_goInto_20 : decode cX0_goInto 20 = .ok (.iload_n 1, 1) := by decide +kernel
theorem dX0_goInto_21 : decode cX0_goInto 21 = .ok (.iconst 1, 1) := by decide +kernel
theorem dX0_goInto_22 : decode cX0_goInto 22 = .ok (.iastore, 1) := by decide +kernel
theorem dX0_goInto_23 : decode cX0_goInto 23 = .ok (.aload_n 0, 1) := by decide +kernel
theorem dX0_goInto_24 : decode cX0_goInto 24 = .ok (.getfield 9, 3) := by decide +kernel
theorem dX0_goInto_27 : decode cX0_goInto 27 = .ok (.iload_n 1, 1) := by decide +kernel
theorem dX0_goInto_28 : decode cX0_goInto 28 = .ok (.iaload, 1) := by decide +kernel
theorem dX0_goInto_29 : decode cX0_goInto 29 = .ok (.ifCond .ne 13, 3) := by decide +kernel
theorem dX0_goInto_32 : decode cX0_goInto 32 = .ok (.aload_n 2, 1) := by decide +kernel
theorem dX0_goInto_33 : decode cX0_goInto 33 = .ok (.aload_n 0, 1) := by decide +kernel
theorem dX0_goInto_34 : decode cX0_goInto 34 = .ok (.iload_n 1, 1) := by decide +kernel
theorem dX0_goInto_35 : decode cX0_goInto 35 = .ok (.iconst 0, 1) := by decide +kernel
theorem dX0_goInto_36 : decode cX0_goInto 36 = .ok (.invokevirtual 42, 3) := by decide +kernel
theorem dX0_goInto_39 : decode cX0_goInto 39 = .ok (.invokevirtual 62, 3) := by decide +kernel
theorem dX0_goInto_42 : decode cX0_goInto 42 = .ok (.iconst 0, 1) := by decide +kernel
theorem dX0_goInto_43 : decode cX0_goInto 43 = .ok (.istore 4, 2) := by decide +kernel
theorem dX0_goInto_45 : decode cX0_goInto 45 = .ok (.iload 4, 2) := by decide +kernel
theorem dX0_goInto_47 : decode cX0_goInto 47 = .ok (.getstatic 31, 3) := by decide +kernel
theorem dX0_goInto_50 : decode cX0_goInto 50 = .ok (.aload_n 0, 1) := by decide +kernel
theorem dX0_goInto_51 : decode cX0_goInto 51 = .ok (.getfield 9, 3) := by decide +kernel
theorem dX0_goInto_54 : decode cX0_goInto 54 = .ok (.iload_n 1, 1) := by decide +kernel
theorem dX0_goInto_55 : decode cX0_goInto 55 = .ok (.iaload, 1) := by decide +kernel
theorem dX0_goInto_56 : decode cX0_goInto 56 = .ok (.iaload, 1) := by decide +kernel
theorem dX0_goInto_57 : decode cX0_goInto 57 = .ok (.if_icmp .ge 24, 3) := by decide +kernel
theorem dX0_goInto_60 : decode cX0_goInto 60 = .ok (.aload_n 0, 1) := by decide +kernel
theorem dX0_goInto_61 : decode cX0_goInto 61 = .ok (.aload_n 0, 1) := by decide +kernel
theorem dX0_goInto_62 : decode cX0_goInto 62 = .ok (.iload_n 1, 1) := by decide +kernel
theorem dX0_goInto_63 : decode cX0_goInto 63 = .ok (.iload 4, 2) := by decide +kernel
theorem dX0_goInto_65 : decode cX0_goInto 65 = .ok (.invokevirtual 42, 3) := by decide +kernel
theorem dX0_goInto_68 : decode cX0_goInto 68 = .ok (.aload_n 2, 1) := by decide +kernel
theorem dX0_goInto_69 : decode cX0_goInto 69 = .ok (.iload_n 3, 1) := by decide +kernel
theorem dX0_goInto_70 : decode cX0_goInto 70 = .ok (.iconst 1, 1) := by decide +kernel
theorem dX0_goInto_71 : decode cX0_goInto 71 = .ok (.iadd, 1) := by decide +kernel
theorem dX0_goInto_72 : decode cX0_goInto 72 = .ok (.invokevirtual 58, 3) := by decide +kernel
theorem dX0_goInto_75 : decode cX0_goInto 75 = .ok (.iinc 4 1, 3) := by decide +kernel
theorem dX0_goInto_78 : decode cX0_goInto 78 = .ok (.goto (-33), 3) := by decide +kernel
theorem dX0_goInto_81 : decode cX0_goInto 81 = .ok (.return_, 1) := by decide +kernel
theorem dX1_init_0 : decode cX1_init 0 = .ok (.aload_n 0, 1) := by decide +kernel
theorem dX1_init_1 : decode cX1_init 1 = .ok (.invokespecial 3, 3) := by decide +kernel
theorem dX1_init_4 : decode cX1_init 4 = .ok (.aload_n 0, 1) := by decide +kernel
theorem dX1_init_5 : decode cX1_init 5 = .ok (.bipush 8, 2) := by decide +kernel
theorem dX1_init_7 : decode cX1_init 7 = .ok (.newarray .int, 2) := by decide +kernel
theorem dX1_init_9 : decode cX1_init 9 = .ok (.putfield 9, 3) := by decide +kernel
theorem dX1_init_12 : decode cX1_init 12 = .ok (.aload_n 0, 1) := by decide +kernel
theorem dX1_init_13 : decode cX1_init 13 = .ok (.bipush 8, 2) := by decide +kernel
theorem dX1_init_15 : decode cX1_init 15 = .ok (.newarray .int, 2) := by decide +kernel
theorem dX1_init_17 : decode cX1_init 17 = .ok (.putfield 15, 3) := by decide +kernel
theorem dX1_init_20 : decode cX1_init 20 = .ok (.aload_n 0, 1) := by decide +kernel
theorem dX1_init_21 : decode cX1_init 21 = .ok (.iconst 0, 1) := by decide +kernel
theorem dX1_init_22 : decode cX1_init 22 = .ok (.putfield 18, 3) := by decide +kernel
theorem dX1_init_25 : decode cX1_init 25 = .ok (.iconst 0, 1) := by decide +kernel
theorem dX1_init_26 : decode cX1_init 26 = .ok (.istore_n 1, 1) := by decide +kernel
theorem dX1_init_27 : decode cX1_init 27 = .ok (.iload_n 1, 1) := by decide +kernel
theorem dX1_init_28 : decode cX1_init 28 = .ok (.bipush 8, 2) := by decide +kernel
theorem dX1_init_30 : decode cX1_init 30 = .ok (.if_icmp .ge 23, 3) := by decide +kernel
theorem dX1_init_33 : decode cX1_init 33 = .ok (.aload_n 0, 1) := by decide +kernel
theorem dX1_init_34 : decode cX1_init 34 = .ok (.getfield 9, 3) := by decide +kernel
theorem dX1_init_37 : decode cX1_init 37 = .ok (.iload_n 1, 1) := by decide +kernel
theorem dX1_init_38 : decode cX1_init 38 = .ok (.iload_n 1, 1) := by decide +kernel
theorem dX1_init_39 : decode cX1_init 39 = .ok (.iastore, 1) := by decide +kernel
theorem dX1_init_40 : decode cX1_init 40 = .ok (.aload_n 0, 1) := by decide +kernel
theorem dX1_init_41 : decode cX1_init 41 = .ok (.getfield 15, 3) := by decide +kernel
theorem dX1_init_44 : decode cX1_init 44 = .ok (.iload_n 1, 1) := by decide +kernel
theorem dX1_init_45 : decode cX1_init 45 = .ok (.iload_n 1, 1) := by decide +kernel
theorem dX1_init_46 : decode cX1_init 46 = .ok (.iastore, 1) := by decide +kernel
theorem dX1_init_47 : decode cX1_init 47 = .ok (.iinc 1 1, 3) := by decide +kernel
theorem dX1_init_50 : decode cX1_init 50 = .ok (.goto (-23), 3) := by decide +kernel
theorem dX1_init_53 : decode cX1_init 53 = .ok (.return_, 1) := by decide +kernel
theorem dX1_variableAt_0 : decode cX1_variableAt 0 = .ok (.aload_n 0, 1) := by decide +kernel
theorem dX1_variableAt_1 : decode cX1_variableAt 1 = .ok (.getfield 9, 3) := by decide +kernel
theorem dX1_variableAt_4 : decode cX1_variableAt 4 = .ok (.iload_n 1, 1) := by decide +kernel
theorem dX1_variableAt_5 : decode cX1_variableAt 5 = .ok (.iaload, 1) := by decide +kernel
theorem dX1_variableAt_6 : decode cX1_variableAt 6 = .ok (.ireturn, 1) := by decide +kernel
theorem dX1_placeOf_0 : decode cX1_placeOf 0 = .ok (.aload_n 0, 1) := by decide +kernel
theorem dX1_placeOf_1 : decode cX1_placeOf 1 = .ok (.getfield 15, 3) := by decide +kernel
theorem dX1_placeOf_4 : decode cX1_placeOf 4 = .ok (.iload_n 1, 1) := by decide +kernel
theorem dX1_placeOf_5 : decode cX1_placeOf 5 = .ok (.iaload, 1) := by decide +kernel
theorem dX1_placeOf_6 : decode cX1_placeOf 6 = .ok (.ireturn, 1) := by decide +kernel
theorem dX1_forget_0 : decode cX1_forget 0 = .ok (.aload_n 0, 1) := by decide +kernel
theorem dX1_forget_1 : decode cX1_forget 1 = .ok (.getfield 15, 3) := by decide +kernel
theorem dX1_forget_4 : decode cX1_forget 4 = .ok (.iconst (-1), 1) := by decide +kernel
theorem dX1_forget_5 : decode cX1_forget 5 = .ok (.invokestatic 22, 3) := by decide +kernel
theorem dX1_forget_8 : decode cX1_forget 8 = .ok (.aload_n 0, 1) := by decide +kernel
theorem dX1_forget_9 : decode cX1_forget 9 = .ok (.iconst 0, 1) := by decide +kernel
theorem dX1_forget_10 : decode cX1_forget 10 = .ok (.putfield 18, 3) := by decide +kernel
theorem dX1_forget_13 : decode cX1_forget 13 = .ok (.return_, 1) := by decide +kernel
theorem dX1_meet_0 : decode cX1_meet 0 = .ok (.aload_n 0, 1) := by decide +kernel
theorem dX1_meet_1 : decode cX1_meet 1 = .ok (.getfield 15, 3) := by decide +kernel
theorem dX1_meet_4 : decode cX1_meet 4 = .ok (.iload_n 1, 1) := by decide +kernel
theorem dX1_meet_5 : decode cX1_meet 5 = .ok (.iaload, 1) := by decide +kernel
theorem dX1_meet_6 : decode cX1_meet 6 = .ok (.iconst (-1), 1) := by decide +kernel
theorem dX1_meet_7 : decode cX1_meet 7 = .ok (.if_icmp .ne 31, 3) := by decide +kernel
theorem dX1_meet_10 : decode cX1_meet 10 = .ok (.aload_n 0, 1) := by decide +kernel
theorem dX1_meet_11 : decode cX1_meet 11 = .ok (.getfield 18, 3) := by decide +kernel
theorem dX1_meet_14 : decode cX1_meet 14 = .ok (.bipush 8, 2) := by decide +kernel
theorem dX1_meet_16 : decode cX1_meet 16 = .ok (.if_icmp .ge 22, 3) := by decide +kernel
theorem dX1_meet_19 : decode cX1_meet 19 = .ok (.aload_n 0, 1) := by decide +kernel
theorem dX1_meet_20 : decode cX1_meet 20 = .ok (.iload_n 1, 1) := by decide +kernel
theorem dX1_meet_21 : decode cX1_meet 21 = .ok (.aload_n 0, 1) := by decide +kernel
theorem dX1_meet_22 : decode cX1_meet 22 = .ok (.getfield 18, 3) := by decide +kernel
theorem dX1_meet_25 : decode cX1_meet 25 = .ok (.invokevirtual 28, 3) := by decide +kernel
theorem dX1_meet_28 : decode cX1_meet 28 = .ok (.aload_n 0, 1) := by decide +kernel
theorem dX1_meet_29 : decode cX1_meet 29 = .ok (.dup, 1) := by decide +kernel
theorem dX1_meet_30 : decode cX1_meet 30 = .ok (.getfield 18, 3) := by decide +kernel
theorem dX1_meet_33 : decode cX1_meet 33 = .ok (.iconst 1, 1) := by decide +kernel
theorem dX1_meet_34 : decode cX1_meet 34 = .ok (.iadd, 1) := by decide +kernel
theorem dX1_meet_35 : decode cX1_meet 35 = .ok (.putfield 18, 3) := by decide +kernel
theorem dX1_meet_38 : decode cX1_meet 38 = .ok (.return_, 1) := by decide +kernel
theorem dX1_meetOthers_0 : decode cX1_meetOthers 0 = .ok (.aload_n 0, 1) := by decide +kernel
theorem dX1_meetOthers_1 : decode cX1_meetOthers 1 = .ok (.getfield 18, 3) := by decide +kernel
theorem dX1_meetOthers_4 : decode cX1_meetOthers 4 = .ok (.istore_n 1, 1) := by decide +kernel
theorem dX1_meetOthers_5 : decode cX1_meetOthers 5 = .ok (.iconst 0, 1) := by decide +kernel
theorem dX1_meetOthers_6 : decode cX1_meetOthers 6 = .ok (.istore_n 2, 1) := by decide +kernel
theorem dX1_meetOthers_7 : decode cX1_meetOthers 7 = .ok (.iload_n 2, 1) := by decide +kernel
theorem dX1_meetOthers_8 : decode cX1_meetOthers 8 = .ok (.bipush 8, 2) := by decide +kernel
theorem dX1_meetOthers_10 : decode cX1_meetOthers 10 = .ok (.if_icmp .ge 14, 3) := by decide +kernel
theorem dX1_meetOthers_13 : decode cX1_meetOthers 13 = .ok (.aload_n 0, 1) := by decide +kernel
theorem dX1_meetOthers_14 : decode cX1_meetOthers 14 = .ok (.iload_n 2, 1) := by decide +kernel
theorem dX1_meetOthers_15 : decode cX1_meetOthers 15 = .ok (.invokevirtual 32, 3) := by decide +kernel
theorem dX1_meetOthers_18 : decode cX1_meetOthers 18 = .ok (.iinc 2 1, 3) := by decide +kernel
theorem dX1_meetOthers_21 : decode cX1_meetOthers 21 = .ok (.goto (-14), 3) := by decide +kernel
theorem dX1_meetOthers_24 : decode cX1_meetOthers 24 = .ok (.iload_n 1, 1) := by decide +kernel
theorem dX1_meetOthers_25 : decode cX1_meetOthers 25 = .ok (.ireturn, 1) := by decide +kernel
theorem dX1_moveTo_0 : decode cX1_moveTo 0 = .ok (.aload_n 0, 1) := by decide +kernel
theorem dX1_moveTo_1 : decode cX1_moveTo 1 = .ok (.getfield 15, 3) := by decide +kernel
theorem dX1_moveTo_4 : decode cX1_moveTo 4 = .ok (.iload_n 1, 1) := by decide +kernel
theorem dX1_moveTo_5 : decode cX1_moveTo 5 = .ok (.iaload, 1) := by decide +kernel
theorem dX1_moveTo_6 : decode cX1_moveTo 6 = .ok (.istore_n 3, 1) := by decide +kernel
theorem dX1_moveTo_7 : decode cX1_moveTo 7 = .ok (.iload_n 3, 1) := by decide +kernel
theorem dX1_moveTo_8 : decode cX1_moveTo 8 = .ok (.istore 4, 2) := by decide +kernel
theorem dX1_moveTo_10 : decode cX1_moveTo 10 = .ok (.iload 4, 2) := by decide +kernel
theorem dX1_moveTo_12 : decode cX1_moveTo 12 = .ok (.iload_n 2, 1) := by decide +kernel
theorem dX1_moveTo_13 : decode cX1_moveTo 13 = .ok (.if_icmp .ge 24, 3) := by decide +kernel
theorem dX1_moveTo_16 : decode cX1_moveTo 16 = .ok (.aload_n 0, 1) := by decide +kernel
theorem dX1_moveTo_17 : decode cX1_moveTo 17 = .ok (.aload_n 0, 1) := by decide +kernel
theorem dX1_moveTo_18 : decode cX1_moveTo 18 = .ok (.getfield 9, 3) := by decide +kernel
theorem dX1_moveTo_21 : decode cX1_moveTo 21 = .ok (.iload 4, 2) := by decide +kernel
theorem dX1_moveTo_23 : decode cX1_moveTo 23 = .ok (.iconst 1, 1) := by decide +kernel
theorem dX1_moveTo_24 : decode cX1_moveTo 24 = .ok (.iadd, 1) := by decide +kernel
theorem dX1_moveTo_25 : decode cX1_moveTo 25 = .ok (.iaload, 1) := by decide +kernel
theorem dX1_moveTo_26 : decode cX1_moveTo 26 = .ok (.iload 4, 2) := by decide +kernel
theorem dX1_moveTo_28 : decode cX1_moveTo 28 = .ok (.invokevirtual 28, 3) := by decide +kernel
theorem dX1_moveTo_31 : decode cX1_moveTo 31 = .ok (.iinc 4 1, 3) := by decide +kernel
theorem dX1_moveTo_34 : decode cX1_moveTo 34 = .ok (.goto (-24), 3) := by decide +kernel
theorem dX1_moveTo_37 : decode cX1_moveTo 37 = .ok (.iload_n 3, 1) := by decide +kernel
theorem dX1_moveTo_38 : decode cX1_moveTo 38 = .ok (.istore 4, 2) := by decide +kernel
theorem dX1_moveTo_40 : decode cX1_moveTo 40 = .ok (.iload 4, 2) := by decide +kernel
theorem dX1_moveTo_42 : decode cX1_moveTo 42 = .ok (.iload_n 2, 1) := by decide +kernel
theorem dX1_moveTo_43 : decode cX1_moveTo 43 = .ok (.if_icmp .le 24, 3) := by decide +kernel
theorem dX1_moveTo_46 : decode cX1_moveTo 46 = .ok (.aload_n 0, 1) := by decide +kernel
theorem dX1_moveTo_47 : decode cX1_moveTo 47 = .ok (.aload_n 0, 1) := by decide +kernel
theorem dX1_moveTo_48 : decode cX1_moveTo 48 = .ok (.getfield 9, 3) := by decide +kernel
theorem dX1_moveTo_51 : decode cX1_moveTo 51 = .ok (.iload 4, 2) := by decide +kernel
theorem dX1_moveTo_53 : decode cX1_moveTo 53 = .ok (.iconst 1, 1) := by decide +kernel
theorem dX1_moveTo_54 : decode cX1_moveTo 54 = .ok (.isub, 1) := by decide +kernel
theorem dX1_moveTo_55 : decode cX1_moveTo 55 = .ok (.iaload, 1) := by decide +kernel
theorem dX1_moveTo_56 : decode cX1_moveTo 56 = .ok (.iload 4, 2) := by decide +kernel
theorem dX1_moveTo_58 : decode cX1_moveTo 58 = .ok (.invokevirtual 28, 3) := by decide +kernel
theorem dX1_moveTo_61 : decode cX1_moveTo 61 = .ok (.iinc 4 (-1), 3) := by decide +kernel
theorem dX1_moveTo_64 : decode cX1_moveTo 64 = .ok (.goto (-24), 3) := by decide +kernel
theorem dX1_moveTo_67 : decode cX1_moveTo 67 = .ok (.aload_n 0, 1) := by decide +kernel
theorem dX1_moveTo_68 : decode cX1_moveTo 68 = .ok (.iload_n 1, 1) := by decide +kernel
theorem dX1_moveTo_69 : decode cX1_moveTo 69 = .ok (.iload_n 2, 1) := by decide +kernel
theorem dX1_moveTo_70 : decode cX1_moveTo 70 = .ok (.invokevirtual 28, 3) := by decide +kernel
theorem dX1_moveTo_73 : decode cX1_moveTo 73 = .ok (.iload_n 3, 1) := by decide +kernel
theorem dX1_moveTo_74 : decode cX1_moveTo 74 = .ok (.ireturn, 1) := by decide +kernel
theorem dX1_put_0 : decode cX1_put 0 = .ok (.aload_n 0, 1) := by decide +kernel
theorem dX1_put_1 : decode cX1_put 1 = .ok (.getfield 9, 3) := by decide +kernel
theorem dX1_put_4 : decode cX1_put 4 = .ok (.iload_n 2, 1) := by decide +kernel
theorem dX1_put_5 : decode cX1_put 5 = .ok (.iload_n 1, 1) := by decide +kernel
theorem dX1_put_6 : decode cX1_put 6 = .ok (.iastore, 1) := by decide +kernel
theorem dX1_put_7 : decode cX1_put 7 = .ok (.aload_n 0, 1) := by decide +kernel
theorem dX1_put_8 : decode cX1_put 8 = .ok (.getfield 15, 3) := by decide +kernel
theorem dX1_put_11 : decode cX1_put 11 = .ok (.iload_n 1, 1) := by decide +kernel
theorem dX1_put_12 : decode cX1_put 12 = .ok (.iload_n 2, 1) := by decide +kernel
theorem dX1_put_13 : decode cX1_put 13 = .ok (.iastore, 1) := by decide +kernel
theorem dX1_put_14 : decode cX1_put 14 = .ok (.return_, 1) := by decide +kernel
theorem dX2_init_0 : decode cX2_init 0 = .ok (.aload_n 0, 1) := by decide +kernel
theorem dX2_init_1 : decode cX2_init 1 = .ok (.invokespecial 3, 3) := by decide +kernel
theorem dX2_init_4 : decode cX2_init 4 = .ok (.aload_n 0, 1) := by decide +kernel
theorem dX2_init_5 : decode cX2_init 5 = .ok (.sipush 252, 3) := by decide +kernel
theorem dX2_init_8 : decode cX2_init 8 = .ok (.newarray .int, 2) := by decide +kernel
theorem dX2_init_10 : decode cX2_init 10 = .ok (.putfield 11, 3) := by decide +kernel
theorem dX2_init_13 : decode cX2_init 13 = .ok (.aload_n 0, 1) := by decide +kernel
theorem dX2_init_14 : decode cX2_init 14 = .ok (.sipush 252, 3) := by decide +kernel
theorem dX2_init_17 : decode cX2_init 17 = .ok (.newarray .int, 2) := by decide +kernel
theorem dX2_init_19 : decode cX2_init 19 = .ok (.putfield 15, 3) := by decide +kernel
theorem dX2_init_22 : decode cX2_init 22 = .ok (.aload_n 0, 1) := by decide +kernel
theorem dX2_init_23 : decode cX2_init 23 = .ok (.sipush 252, 3) := by decide +kernel
theorem dX2_init_26 : decode cX2_init 26 = .ok (.newarray .int, 2) := by decide +kernel
theorem dX2_init_28 : decode cX2_init 28 = .ok (.putfield 18, 3) := by decide +kernel
theorem dX2_init_31 : decode cX2_init 31 = .ok (.aload_n 0, 1) := by decide +kernel
theorem dX2_init_32 : decode cX2_init 32 = .ok (.sipush 252, 3) := by decide +kernel
theorem dX2_init_35 : decode cX2_init 35 = .ok (.newarray .int, 2) := by decide +kernel
theorem dX2_init_37 : decode cX2_init 37 = .ok (.putfield 21, 3) := by decide +kernel
theorem dX2_init_40 : decode cX2_init 40 = .ok (.aload_n 0, 1) := by decide +kernel
theorem dX2_init_41 : decode cX2_init 41 = .ok (.sipush 252, 3) := by decide +kernel
theorem dX2_init_44 : decode cX2_init 44 = .ok (.newarray .int, 2) := by decide +kernel
theorem dX2_init_46 : decode cX2_init 46 = .ok (.putfield 24, 3) := by decide +kernel
theorem dX2_init_49 : decode cX2_init 49 = .ok (.aload_n 0, 1) := by decide +kernel
theorem dX2_init_50 : decode cX2_init 50 = .ok (.sipush 256, 3) := by decide +kernel
theorem dX2_init_53 : decode cX2_init 53 = .ok (.newarray .int, 2) := by decide +kernel
theorem dX2_init_55 : decode cX2_init 55 = .ok (.putfield 27, 3) := by decide +kernel
theorem dX2_init_58 : decode cX2_init 58 = .ok (.aload_n 0, 1) := by decide +kernel
theorem dX2_init_59 : decode cX2_init 59 = .ok (.iconst (-1), 1) := by decide +kernel
theorem dX2_init_60 : decode cX2_init 60 = .ok (.putfield 30, 3) := by decide +kernel
theorem dX2_init_63 : decode cX2_init 63 = .ok (.aload_n 0, 1) := by decide +kernel
theorem dX2_init_64 : decode cX2_init 64 = .ok (.iconst 0, 1) := by decide +kernel
theorem dX2_init_65 : decode cX2_init 65 = .ok (.putfield 34, 3) := by decide +kernel
theorem dX2_init_68 : decode cX2_init 68 = .ok (.aload_n 0, 1) := by decide +kernel
theorem dX2_init_69 : decode cX2_init 69 = .ok (.sipush 250, 3) := by decide +kernel
theorem dX2_init_72 : decode cX2_init 72 = .ok (.putfield 37, 3) := by decide +kernel
theorem dX2_init_75 : decode cX2_init 75 = .ok (.aload_n 0, 1) := by decide +kernel
theorem dX2_init_76 : decode cX2_init 76 = .ok (.getfield 11, 3) := by decide +kernel
theorem dX2_init_79 : decode cX2_init 79 = .ok (.iconst 0, 1) := by decide +kernel
theorem dX2_init_80 : decode cX2_init 80 = .ok (.bipush 8, 2) := by decide +kernel
theorem dX2_init_82 : decode cX2_init 82 = .ok (.iastore, 1) := by decide +kernel
theorem dX2_init_83 : decode cX2_init 83 = .ok (.aload_n 0, 1) := by decide +kernel
theorem dX2_init_84 : decode cX2_init 84 = .ok (.getfield 11, 3) := by decide +kernel
theorem dX2_init_87 : decode cX2_init 87 = .ok (.iconst 1, 1) := by decide +kernel
theorem dX2_init_88 : decode cX2_init 88 = .ok (.bipush 8, 2) := by decide +kernel
theorem dX2_init_90 : decode cX2_init 90 = .ok (.iastore, 1) := by decide +kernel
theorem dX2_init_91 : decode cX2_init 91 = .ok (.aload_n 0, 1) := by decide +kernel
theorem dX2_init_92 : decode cX2_init 92 = .ok (.invokevirtual 40, 3) := by decide +kernel
theorem dX2_init_95 : decode cX2_init 95 = .ok (.return_, 1) := by decide +kernel
theorem dX2_limit_0 : decode cX2_limit 0 = .ok (.aload_n 0, 1) := by decide +kernel
theorem dX2_limit_1 : decode cX2_limit 1 = .ok (.getfield 37, 3) := by decide +kernel
theorem dX2_limit_4 : decode cX2_limit 4 = .ok (.ireturn, 1) := by decide +kernel
theorem dX2_changeLimit_0 : decode cX2_changeLimit 0 = .ok (.aload_n 0, 1) := by decide +kernel
theorem dX2_changeLimit_1 : decode cX2_changeLimit 1 = .ok (.getfield 37, 3) := by decide +kernel
theorem dX2_changeLimit_4 : decode cX2_changeLimit 4 = .ok (.istore_n 2, 1) := by decide +kernel
theorem dX2_changeLimit_5 : decode cX2_changeLimit 5 = .ok (.aload_n 0, 1) := by decide +kernel
theorem dX2_changeLimit_6 : decode cX2_changeLimit 6 = .ok (.iload_n 1, 1) := by decide +kernel
theorem dX2_changeLimit_7 : decode cX2_changeLimit 7 = .ok (.putfield 37, 3) := by decide +kernel
theorem dX2_changeLimit_10 : decode cX2_changeLimit 10 = .ok (.iload_n 2, 1) := by decide +kernel
theorem dX2_changeLimit_11 : decode cX2_changeLimit 11 = .ok (.ireturn, 1) := by decide +kernel
theorem dX2_usedCount_0 : decode cX2_usedCount 0 = .ok (.aload_n 0, 1) := by decide +kernel
theorem dX2_usedCount_1 : decode cX2_usedCount 1 = .ok (.getfield 34, 3) := by decide +kernel
theorem dX2_usedCount_4 : decode cX2_usedCount 4 = .ok (.ireturn, 1) := by decide +kernel
theorem dX2_placeOf_0 : decode cX2_placeOf 0 = .ok (.aload_n 0, 1) := by decide +kernel
theorem dX2_placeOf_1 : decode cX2_placeOf 1 = .ok (.getfield 11, 3) := by decide +kernel
theorem dX2_placeOf_4 : decode cX2_placeOf 4 = .ok (.iload_n 1, 1) := by decide +kernel
theorem dX2_placeOf_5 : decode cX2_placeOf 5 = .ok (.iaload, 1) := by decide +kernel
theorem dX2_placeOf_6 : decode cX2_placeOf 6 = .ok (.ireturn, 1) := by decide +kernel
theorem dX2_unmark_0 : decode cX2_unmark 0 = .ok (.aload_n 0, 1) := by decide +kernel
theorem dX2_unmark_1 : decode cX2_unmark 1 = .ok (.getfield 21, 3) := by decide +kernel
theorem dX2_unmark_4 : decode cX2_unmark 4 = .ok (.iconst 0, 1) := by decide +kernel
theorem dX2_unmark_5 : decode cX2_unmark 5 = .ok (.invokestatic 43, 3) := by decide +kernel
theorem dX2_unmark_8 : decode cX2_unmark 8 = .ok (.return_, 1) := by decide +kernel
theorem dX2_mark_0 : decode cX2_mark 0 = .ok (.aload_n 0, 1) := by decide +kernel
theorem dX2_mark_1 : decode cX2_mark 1 = .ok (.iconst 1, 1) := by decide +kernel
theorem dX2_mark_2 : decode cX2_mark 2 = .ok (.iload_n 1, 1) := by decide +kernel
theorem dX2_mark_3 : decode cX2_mark 3 = .ok (.iconst 0, 1) := by decide +kernel
theorem dX2_mark_4 : decode cX2_mark 4 = .ok (.invokevirtual 49, 3) := by decide +kernel
theorem dX2_mark_7 : decode cX2_mark 7 = .ok (.return_, 1) := by decide +kernel
theorem dX2_markWith_0 : decode cX2_markWith 0 = .ok (.iload_n 2, 1) := by decide +kernel
theorem dX2_markWith_1 : decode cX2_markWith 1 = .ok (.iconst 2, 1) := by decide +kernel
theorem dX2_markWith_2 : decode cX2_markWith 2 = .ok (.if_icmp .lt 20, 3) := by decide +kernel
theorem dX2_markWith_5 : decode cX2_markWith 5 = .ok (.iload_n 3, 1) := by decide +kernel
theorem dX2_markWith_6 : decode cX2_markWith 6 = .ok (.bipush 8, 2) := by decide +kernel
theorem dX2_markWith_8 : decode cX2_markWith 8 = .ok (.if_icmp .ge 14, 3) := by decide +kernel
theorem dX2_markWith_11 : decode cX2_markWith 11 = .ok (.aload_n 0, 1) := by decide +kernel
theorem dX2_markWith_12 : decode cX2_markWith 12 = .ok (.getfield 21, 3) := by decide +kernel
theorem dX2_markWith_15 : decode cX2_markWith 15 = .ok (.iload_n 2, 1) := by decide +kernel
theorem dX2_markWith_16 : decode cX2_markWith 16 = .ok (.iaload, 1) := by decide +kernel
theorem dX2_markWith_17 : decode cX2_markWith 17 = .ok (.iload_n 1, 1) := by decide +kernel
theorem dX2_markWith_18 : decode cX2_markWith 18 = .ok (.iand, 1) := by decide +kernel
theorem dX2_markWith_19 : decode cX2_markWith 19 = .ok (.ifCond .eq 4, 3) := by decide +kernel
theorem dX2_markWith_22 : decode cX2_markWith 22 = .ok (.return_, 1) := by decide +kernel
theorem dX2_markWith_23 : decode cX2_markWith 23 = .ok (.aload_n 0, 1) := by decide +kernel
theorem dX2_markWith_24 : decode cX2_markWith 24 = .ok (.getfield 21, 3) := by decide +kernel
theorem dX2_markWith_27 : decode cX2_markWith 27 = .ok (.iload_n 2, 1) := by decide +kernel
theorem dX2_markWith_28 : decode cX2_markWith 28 = .ok (.dup2, 1) := by decide +kernel
theorem dX2_markWith_29 : decode cX2_markWith 29 = .ok (.iaload, 1) := by decide +kernel
theorem dX2_markWith_30 : decode cX2_markWith 30 = .ok (.iload_n 1, 1) := by decide +kernel
theorem dX2_markWith_31 : decode cX2_markWith 31 = .ok (.ior, 1) := by decide +kernel
theorem dX2_markWith_32 : decode cX2_markWith 32 = .ok (.iastore, 1) := by decide +kernel
theorem dX2_markWith_33 : decode cX2_markWith 33 = .ok (.aload_n 0, 1) := by decide +kernel
theorem dX2_markWith_34 : decode cX2_markWith 34 = .ok (.iload_n 1, 1) := by decide +kernel
theorem dX2_markWith_35 : decode cX2_markWith 35 = .ok (.aload_n 0, 1) := by decide +kernel
theorem dX2_markWith_36 : decode cX2_markWith 36 = .ok (.getfield 15, 3) := by decide +kernel
theorem dX2_markWith_39 : decode cX2_markWith 39 = .ok (.iload_n 2, 1) := by decide +kernel
theorem dX2_markWith_40 : decode cX2_markWith 40 = .ok (.iaload, 1) := by decide +kernel
theorem dX2_markWith_41 : decode cX2_markWith 41 = .ok (.iload_n 3, 1) := by decide +kernel
theorem dX2_markWith_42 : decode cX2_markWith 42 = .ok (.iconst 1, 1) := by decide +kernel
theorem dX2_markWith_43 : decode cX2_markWith 43 = .ok (.iadd, 1) := by decide +kernel
theorem dX2_markWith_44 : decode cX2_markWith 44 = .ok (.invokevirtual 49, 3) := by decide +kernel
theorem dX2_markWith_47 : decode cX2_markWith 47 = .ok (.aload_n 0, 1) := by decide +kernel
theorem dX2_markWith_48 : decode cX2_markWith 48 = .ok (.iload_n 1, 1) := by decide +kernel
theorem dX2_markWith_49 : decode cX2_markWith 49 = .ok (.aload_n 0, 1) := by decide +kernel
theorem dX2_markWith_50 : decode cX2_markWith 50 = .ok (.getfield 18, 3) := by decide +kernel
theorem dX2_markWith_53 : decode cX2_markWith 53 = .ok (.iload_n 2, 1) := by decide +kernel
theorem dX2_markWith_54 : decode cX2_markWith 54 = .ok (.iaload, 1) := by decide +kernel
theorem dX2_markWith_55 : decode cX2_markWith 55 = .ok (.iload_n 3, 1) := by decide +kernel
theorem dX2_markWith_56 : decode cX2_markWith 56 = .ok (.iconst 1, 1) := by decide +kernel
theorem dX2_markWith_57 : decode cX2_markWith 57 = .ok (.iadd, 1) := by decide +kernel
theorem dX2_markWith_58 : decode cX2_markWith 58 = .ok (.invokevirtual 49, 3) := by decide +kernel
theorem dX2_markWith_61 : decode cX2_markWith 61 = .ok (.return_, 1) := by decide +kernel
theorem dX2_markedWith_0 : decode cX2_markedWith 0 = .ok (.iconst 0, 1) := by decide +kernel
theorem dX2_markedWith_1 : decode cX2_markedWith 1 = .ok (.istore_n 2, 1) := by decide +kernel
theorem dX2_markedWith_2 : decode cX2_markedWith 2 = .ok (.iconst 2, 1) := by decide +kernel
theorem dX2_markedWith_3 : decode cX2_markedWith 3 = .ok (.istore_n 3, 1) := by decide +kernel
theorem dX2_markedWith_4 : decode cX2_markedWith 4 = .ok (.iload_n 3, 1) := by decide +kernel
theorem dX2_markedWith_5 : decode cX2_markedWith 5 = .ok (.sipush 252, 3) := by decide +kernel
theorem dX2_markedWith_8 : decode cX2_markedWith 8 = .ok (.if_icmp .ge 22, 3) := by decide +kernel
theorem dX2_markedWith_11 : decode cX2_markedWith 11 = .ok (.aload_n 0, 1) := by decide +kernel
theorem dX2_markedWith_12 : decode cX2_markedWith 12 = .ok (.getfield 21, 3) := by decide +kernel
theorem dX2_markedWith_15 : decode cX2_markedWith 15 = .ok (.iload_n 3, 1) := by decide +kernel
theorem dX2_markedWith_16 : decode cX2_markedWith 16 = .ok (.iaload, 1) := by decide +kernel
theorem dX2_markedWith_17 : decode cX2_markedWith 17 = .ok (.iload_n 1, 1) := by decide +kernel
theorem dX2_markedWith_18 : decode cX2_markedWith 18 = .ok (.if_icmp .ne 6, 3) := by decide +kernel
theorem dX2_markedWith_21 : decode cX2_markedWith 21 = .ok (.iinc 2 1, 3) := by decide +kernel
theorem dX2_markedWith_24 : decode cX2_markedWith 24 = .ok (.iinc 3 1, 3) := by decide +kernel
theorem dX2_markedWith_27 : decode cX2_markedWith 27 = .ok (.goto (-23), 3) := by decide +kernel
theorem dX2_markedWith_30 : decode cX2_markedWith 30 = .ok (.iload_n 2, 1) := by decide +kernel
theorem dX2_markedWith_31 : decode cX2_markedWith 31 = .ok (.ireturn, 1) := by decide +kernel
theorem dX2_nodeCount_0 : decode cX2_nodeCount 0 = .ok (.aload_n 0, 1) := by decide +kernel
theorem dX2_nodeCount_1 : decode cX2_nodeCount 1 = .ok (.invokevirtual 53, 3) := by decide +kernel
theorem dX2_nodeCount_4 : decode cX2_nodeCount 4 = .ok (.aload_n 0, 1) := by decide +kernel
theorem dX2_nodeCount_5 : decode cX2_nodeCount 5 = .ok (.iload_n 1, 1) := by decide +kernel
theorem dX2_nodeCount_6 : decode cX2_nodeCount 6 = .ok (.invokevirtual 56, 3) := by decide +kernel
theorem dX2_nodeCount_9 : decode cX2_nodeCount 9 = .ok (.aload_n 0, 1) := by decide +kernel
theorem dX2_nodeCount_10 : decode cX2_nodeCount 10 = .ok (.iconst 1, 1) := by decide +kernel
theorem dX2_nodeCount_11 : decode cX2_nodeCount 11 = .ok (.invokevirtual 60, 3) := by decide +kernel
theorem dX2_nodeCount_14 : decode cX2_nodeCount 14 = .ok (.ireturn, 1) := by decide +kernel
theorem dX2_nodeCountAt_0 : decode cX2_nodeCountAt 0 = .ok (.aload_n 0, 1) := by decide +kernel
theorem dX2_nodeCountAt_1 : decode cX2_nodeCountAt 1 = .ok (.invokevirtual 53, 3) := by decide +kernel
theorem dX2_nodeCountAt_4 : decode cX2_nodeCountAt 4 = .ok (.aload_n 0, 1) := by decide +kernel
theorem dX2_nodeCountAt_5 : decode cX2_nodeCountAt 5 = .ok (.iload_n 1, 1) := by decide +kernel
theorem dX2_nodeCountAt_6 : decode cX2_nodeCountAt 6 = .ok (.invokevirtual 56, 3) := by decide +kernel
theorem dX2_nodeCountAt_9 : decode cX2_nodeCountAt 9 = .ok (.iconst 0, 1) := by decide +kernel
theorem dX2_nodeCountAt_10 : decode cX2_nodeCountAt 10 = .ok (.istore_n 3, 1) := by decide +kernel
theorem dX2_nodeCountAt_11 : decode cX2_nodeCountAt 11 = .ok (.iconst 2, 1) := by decide +kernel
theorem dX2_nodeCountAt_12 : decode cX2_nodeCountAt 12 = .ok (.istore 4, 2) := by decide +kernel
theorem dX2_nodeCountAt_14 : decode cX2_nodeCountAt 14 = .ok (.iload 4, 2) := by decide +kernel
theorem dX2_nodeCountAt_16 : decode cX2_nodeCountAt 16 = .ok (.sipush 252, 3) := by decide +kernel
theorem dX2_nodeCountAt_19 : decode cX2_nodeCountAt 19 = .ok (.if_icmp .ge 33, 3) := by decide +kernel
theorem dX2_nodeCountAt_22 : decode cX2_nodeCountAt 22 = .ok (.aload_n 0, 1) := by decide +kernel
theorem dX2_nodeCountAt_23 : decode cX2_nodeCountAt 23 = .ok (.getfield 21, 3) := by decide +kernel
theorem dX2_nodeCountAt_26 : decode cX2_nodeCountAt 26 = .ok (.iload 4, 2) := by decide +kernel
theorem dX2_nodeCountAt_28 : decode cX2_nodeCountAt 28 = .ok (.iaload, 1) := by decide +kernel
theorem dX2_nodeCountAt_29 : decode cX2_nodeCountAt 29 = .ok (.ifCond .eq 17, 3) := by decide +kernel
theorem dX2_nodeCountAt_32 : decode cX2_nodeCountAt 32 = .ok (.aload_n 0, 1) := by decide +kernel
theorem dX2_nodeCountAt_33 : decode cX2_nodeCountAt 33 = .ok (.getfield 11, 3) := by decide +kernel
theorem dX2_nodeCountAt_36 : decode cX2_nodeCountAt 36 = .ok (.iload 4, 2) := by decide +kernel
theorem dX2_nodeCountAt_38 : decode cX2_nodeCountAt 38 = .ok (.iaload, 1) := by decide +kernel
theorem dX2_nodeCountAt_39 : decode cX2_nodeCountAt 39 = .ok (.iload_n 2, 1) := by decide +kernel
theorem dX2_nodeCountAt_40 : decode cX2_nodeCountAt 40 = .ok (.if_icmp .ne 6, 3) := by decide +kernel
theorem dX2_nodeCountAt_43 : decode cX2_nodeCountAt 43 = .ok (.iinc 3 1, 3) := by decide +kernel
theorem dX2_nodeCountAt_46 : decode cX2_nodeCountAt 46 = .ok (.iinc 4 1, 3) := by decide +kernel
theorem dX2_nodeCountAt_49 : decode cX2_nodeCountAt 49 = .ok (.goto (-35), 3) := by decide +kernel
theorem dX2_nodeCountAt_52 : decode cX2_nodeCountAt 52 = .ok (.iload_n 3, 1) := by decide +kernel
theorem dX2_nodeCountAt_53 : decode cX2_nodeCountAt 53 = .ok (.ireturn, 1) := by decide +kernel
theorem dX2_commonCount_0 : decode cX2_commonCount 0 = .ok (.aload_n 0, 1) := by decide +kernel
theorem dX2_commonCount_1 : decode cX2_commonCount 1 = .ok (.invokevirtual 53, 3) := by decide +kernel
theorem dX2_commonCount_4 : decode cX2_commonCount 4 = .ok (.aload_n 0, 1) := by decide +kernel
theorem dX2_commonCount_5 : decode cX2_commonCount 5 = .ok (.iconst 1, 1) := by decide +kernel
theorem dX2_commonCount_6 : decode cX2_commonCount 6 = .ok (.iload_n 1, 1) := by decide +kernel
theorem dX2_commonCount_7 : decode cX2_commonCount 7 = .ok (.iconst 0, 1) := by decide +kernel
theorem dX2_commonCount_8 : decode cX2_commonCount 8 = .ok (.invokevirtual 49, 3) := by decide +kernel
theorem dX2_commonCount_11 : decode cX2_commonCount 11 = .ok (.aload_n 0, 1) := by decide +kernel
theorem dX2_commonCount_12 : decode cX2_commonCount 12 = .ok (.iconst 2, 1) := by decide +kernel
theorem dX2_commonCount_13 : decode cX2_commonCount 13 = .ok (.iload_n 2, 1) := by decide +kernel
theorem dX2_commonCount_14 : decode cX2_commonCount 14 = .ok (.iconst 0, 1) := by decide +kernel
theorem dX2_commonCount_15 : decode cX2_commonCount 15 = .ok (.invokevirtual 49, 3) := by decide +kernel
theorem dX2_commonCount_18 : decode cX2_commonCount 18 = .ok (.aload_n 0, 1) := by decide +kernel
theorem dX2_commonCount_19 : decode cX2_commonCount 19 = .ok (.iconst 3, 1) := by decide +kernel
theorem dX2_commonCount_20 : decode cX2_commonCount 20 = .ok (.invokevirtual 60, 3) := by decide +kernel
theorem dX2_commonCount_23 : decode cX2_commonCount 23 = .ok (.ireturn, 1) := by decide +kernel
theorem dX2_sweep_0 : decode cX2_sweep 0 = .ok (.aload_n 0, 1) := by decide +kernel
theorem dX2_sweep_1 : decode cX2_sweep 1 = .ok (.getfield 27, 3) := by decide +kernel
theorem dX2_sweep_4 : decode cX2_sweep 4 = .ok (.iconst (-1), 1) := by decide +kernel
theorem dX2_sweep_5 : decode cX2_sweep 5 = .ok (.invokestatic 43, 3) := by decide +kernel
theorem dX2_sweep_8 : decode cX2_sweep 8 = .ok (.aload_n 0, 1) := by decide +kernel
theorem dX2_sweep_9 : decode cX2_sweep 9 = .ok (.iconst (-1), 1) := by decide +kernel
theorem dX2_sweep_10 : decode cX2_sweep 10 = .ok (.putfield 30, 3) := by decide +kernel
theorem dX2_sweep_13 : decode cX2_sweep 13 = .ok (.aload_n 0, 1) := by decide +kernel
theorem dX2_sweep_14 : decode cX2_sweep 14 = .ok (.iconst 0, 1) := by decide +kernel
theorem dX2_sweep_15 : decode cX2_sweep 15 = .ok (.putfield 34, 3) := by decide +kernel
theorem dX2_sweep_18 : decode cX2_sweep 18 = .ok (.sipush 251, 3) := by decide +kernel
theorem dX2_sweep_21 : decode cX2_sweep 21 = .ok (.istore_n 1, 1) := by decide +kernel
theorem dX2_sweep_22 : decode cX2_sweep 22 = .ok (.iload_n 1, 1) := by decide +kernel
theorem dX2_sweep_23 : decode cX2_sweep 23 = .ok (.iconst 2, 1) := by decide +kernel
theorem dX2_sweep_24 : decode cX2_sweep 24 = .ok (.if_icmp .lt 41, 3) := by decide +kernel
theorem dX2_sweep_27 : decode cX2_sweep 27 = .ok (.aload_n 0, 1) := by decide +kernel
theorem dX2_sweep_28 : decode cX2_sweep 28 = .ok (.getfield 21, 3) := by decide +kernel
theorem dX2_sweep_31 : decode cX2_sweep 31 = .ok (.iload_n 1, 1) := by decide +kernel
theorem dX2_sweep_32 : decode cX2_sweep 32 = .ok (.iaload, 1) := by decide +kernel
theorem dX2_sweep_33 : decode cX2_sweep 33 = .ok (.ifCond .eq 11, 3) := by decide +kernel
theorem dX2_sweep_36 : decode cX2_sweep 36 = .ok (.aload_n 0, 1) := by decide +kernel
theorem dX2_sweep_37 : decode cX2_sweep 37 = .ok (.iload_n 1, 1) := by decide +kernel
theorem dX2_sweep_38 : decode cX2_sweep 38 = .ok (.invokevirtual 64, 3) := by decide +kernel
theorem dX2_sweep_41 : decode cX2_sweep 41 = .ok (.goto 18, 3) := by decide +kernel
theorem dX2_sweep_44 : decode cX2_sweep 44 = .ok (.aload_n 0, 1) := by decide +kernel
theorem dX2_sweep_45 : decode cX2_sweep 45 = .ok (.getfield 24, 3) := by decide +kernel
theorem dX2_sweep_48 : decode cX2_sweep 48 = .ok (.iload_n 1, 1) := by decide +kernel
theorem dX2_sweep_49 : decode cX2_sweep 49 = .ok (.aload_n 0, 1) := by decide +kernel
theorem dX2_sweep_50 : decode cX2_sweep 50 = .ok (.getfield 30, 3) := by decide +kernel
theorem dX2_sweep_53 : decode cX2_sweep 53 = .ok (.iastore, 1) := by decide +kernel
theorem dX2_sweep_54 : decode cX2_sweep 54 = .ok (.aload_n 0, 1) := by decide +kernel
theorem dX2_sweep_55 : decode cX2_sweep 55 = .ok (.iload_n 1, 1) := by decide +kernel
theorem dX2_sweep_56 : decode cX2_sweep 56 = .ok (.putfield 30, 3) := by decide +kernel
theorem dX2_sweep_59 : decode cX2_sweep 59 = .ok (.iinc 1 (-1), 3) := by decide +kernel
theorem dX2_sweep_62 : decode cX2_sweep 62 = .ok (.goto (-40), 3) := by decide +kernel
theorem dX2_sweep_65 : decode cX2_sweep 65 = .ok (.return_, 1) := by decide +kernel
theorem dX2_makeVariable_0 : decode cX2_makeVariable 0 = .ok (.aload_n 0, 1) := by decide +kernel
theorem dX2_makeVariable_1 : decode cX2_makeVariable 1 = .ok (.iload_n 1, 1) := by decide +kernel
theorem dX2_makeVariable_2 : decode cX2_makeVariable 2 = .ok (.iconst 0, 1) := by decide +kernel
theorem dX2_makeVariable_3 : decode cX2_makeVariable 3 = .ok (.iconst 1, 1) := by decide +kernel
theorem dX2_makeVariable_4 : decode cX2_makeVariable 4 = .ok (.invokevirtual 67, 3) := by decide +kernel
theorem dX2_makeVariable_7 : decode cX2_makeVariable 7 = .ok (.ireturn, 1) := by decide +kernel
theorem dX2_make_0 : decode cX2_make 0 = .ok (.aload_n 0, 1) := by decide +kernel
theorem dX2_make_1 : decode cX2_make 1 = .ok (.iload_n 1, 1) := by decide +kernel
theorem dX2_make_2 : decode cX2_make 2 = .ok (.iload_n 2, 1) := by decide +kernel
theorem dX2_make_3 : decode cX2_make 3 = .ok (.iload_n 3, 1) := by decide +kernel
theorem dX2_make_4 : decode cX2_make 4 = .ok (.iload 4, 2) := by decide +kernel
theorem dX2_make_6 : decode cX2_make 6 = .ok (.iconst 0, 1) := by decide +kernel
theorem dX2_make_7 : decode cX2_make 7 = .ok (.invokevirtual 71, 3) := by decide +kernel
theorem dX2_make_10 : decode cX2_make 10 = .ok (.ireturn, 1) := by decide +kernel
theorem dX2_makeFrom_0 : decode cX2_makeFrom 0 = .ok (.iload_n 1, 1) := by decide +kernel
theorem dX2_makeFrom_1 : decode cX2_makeFrom 1 = .ok (.iload_n 2, 1) := by decide +kernel
theorem dX2_makeFrom_2 : decode cX2_makeFrom 2 = .ok (.iconst 1, 1) := by decide +kernel
theorem dX2_makeFrom_3 : decode cX2_makeFrom 3 = .ok (.bipush 85, 2) := by decide +kernel
theorem dX2_makeFrom_5 : decode cX2_makeFrom 5 = .ok (.invokestatic 75, 3) := by decide +kernel
theorem dX2_makeFrom_8 : decode cX2_makeFrom 8 = .ok (.iload_n 3, 1) := by decide +kernel
theorem dX2_makeFrom_9 : decode cX2_makeFrom 9 = .ok (.iconst 2, 1) := by decide +kernel
theorem dX2_makeFrom_10 : decode cX2_makeFrom 10 = .ok (.bipush 51, 2) := by decide +kernel
theorem dX2_makeFrom_12 : decode cX2_makeFrom 12 = .ok (.invokestatic 75, 3) := by decide +kernel
theorem dX2_makeFrom_15 : decode cX2_makeFrom 15 = .ok (.iload 4, 2) := by decide +kernel
theorem dX2_makeFrom_17 : decode cX2_makeFrom 17 = .ok (.iconst 4, 1) := by decide +kernel
theorem dX2_makeFrom_18 : decode cX2_makeFrom 18 = .ok (.bipush 15, 2) := by decide +kernel
theorem dX2_makeFrom_20 : decode cX2_makeFrom 20 = .ok (.invokestatic 75, 3) := by decide +kernel
theorem dX2_makeFrom_23 : decode cX2_makeFrom 23 = .ok (.istore 6, 2) := by decide +kernel
theorem dX2_makeFrom_25 : decode cX2_makeFrom 25 = .ok (.iload 6, 2) := by decide +kernel
theorem dX2_makeFrom_27 : decode cX2_makeFrom 27 = .ok (.lookupswitch 60 #[(0, 49), (170, 53), (204, 55), (240, 57), (255, 51)], 49) := by decide +kernel
theorem dX2_makeFrom_76 : decode cX2_makeFrom 76 = .ok (.iconst 0, 1) := by decide +kernel
theorem dX2_makeFrom_77 : decode cX2_makeFrom 77 = .ok (.ireturn, 1) := by decide +kernel
theorem dX2_makeFrom_78 : decode cX2_makeFrom 78 = .ok (.iconst 1, 1) := by decide +kernel
theorem dX2_makeFrom_79 : decode cX2_makeFrom 79 = .ok (.ireturn, 1) := by decide +kernel
theorem dX2_makeFrom_80 : decode cX2_makeFrom 80 = .ok (.iload_n 2, 1) := by decide +kernel
theorem dX2_makeFrom_81 : decode cX2_makeFrom 81 = .ok (.ireturn, 1) := by decide +kernel
theorem dX2_makeFrom_82 : decode cX2_makeFrom 82 = .ok (.iload_n 3, 1) := by decide +kernel
theorem dX2_makeFrom_83 : decode cX2_makeFrom 83 = .ok (.ireturn, 1) := by decide +kernel
theorem dX2_makeFrom_84 : decode cX2_makeFrom 84 = .ok (.iload 4, 2) := by decide +kernel
theorem dX2_makeFrom_86 : decode cX2_makeFrom 86 = .ok (.ireturn, 1) := by decide +kernel
theorem dX2_makeFrom_87 : decode cX2_makeFrom 87 = .ok (.aload_n 0, 1) := by decide +kernel
theorem dX2_makeFrom_88 : decode cX2_makeFrom 88 = .ok (.getfield 11, 3) := by decide +kernel
theorem dX2_makeFrom_91 : decode cX2_makeFrom 91 = .ok (.iload_n 2, 1) := by decide +kernel
theorem dX2_makeFrom_92 : decode cX2_makeFrom 92 = .ok (.iaload, 1) := by decide +kernel
theorem dX2_makeFrom_93 : decode cX2_makeFrom 93 = .ok (.aload_n 0, 1) := by decide +kernel
theorem dX2_makeFrom_94 : decode cX2_makeFrom 94 = .ok (.getfield 11, 3) := by decide +kernel
theorem dX2_makeFrom_97 : decode cX2_makeFrom 97 = .ok (.iload_n 3, 1) := by decide +kernel
theorem dX2_makeFrom_98 : decode cX2_makeFrom 98 = .ok (.iaload, 1) := by decide +kernel
theorem dX2_makeFrom_99 : decode cX2_makeFrom 99 = .ok (.aload_n 0, 1) := by decide +kernel
theorem dX2_makeFrom_100 : decode cX2_makeFrom 100 = .ok (.getfield 11, 3) := by decide +kernel
theorem dX2_makeFrom_103 : decode cX2_makeFrom 103 = .ok (.iload 4, 2) := by decide +kernel
theorem dX2_makeFrom_105 : decode cX2_makeFrom 105 = .ok (.iaload, 1) := by decide +kernel
theorem dX2_makeFrom_106 : decode cX2_makeFrom 106 = .ok (.invokestatic 79, 3) := by decide +kernel
theorem dX2_makeFrom_109 : decode cX2_makeFrom 109 = .ok (.invokestatic 79, 3) := by decide +kernel
theorem dX2_makeFrom_112 : decode cX2_makeFrom 112 = .ok (.istore 7, 2) := by decide +kernel
theorem dX2_makeFrom_114 : decode cX2_makeFrom 114 = .ok (.iload 5, 2) := by decide +kernel
theorem dX2_makeFrom_116 : decode cX2_makeFrom 116 = .ok (.bipush 8, 2) := by decide +kernel
theorem dX2_makeFrom_118 : decode cX2_makeFrom 118 = .ok (.if_icmp .ge 10, 3) := by decide +kernel
theorem dX2_makeFrom_121 : decode cX2_makeFrom 121 = .ok (.iload 7, 2) := by decide +kernel
theorem dX2_makeFrom_123 : decode cX2_makeFrom 123 = .ok (.bipush 8, 2) := by decide +kernel
theorem dX2_makeFrom_125 : decode cX2_makeFrom 125 = .ok (.if_icmp .lt 5, 3) := by decide +kernel
theorem dX2_makeFrom_128 : decode cX2_makeFrom 128 = .ok (.iconst (-1), 1) := by decide +kernel
theorem dX2_makeFrom_129 : decode cX2_makeFrom 129 = .ok (.ireturn, 1) := by decide +kernel
theorem dX2_makeFrom_130 : decode cX2_makeFrom 130 = .ok (.aload_n 0, 1) := by decide +kernel
theorem dX2_makeFrom_131 : decode cX2_makeFrom 131 = .ok (.iload 6, 2) := by decide +kernel
theorem dX2_makeFrom_133 : decode cX2_makeFrom 133 = .ok (.aload_n 0, 1) := by decide +kernel
theorem dX2_makeFrom_134 : decode cX2_makeFrom 134 = .ok (.iload_n 2, 1) := by decide +kernel
theorem dX2_makeFrom_135 : decode cX2_makeFrom 135 = .ok (.iload 7, 2) := by decide +kernel
theorem dX2_makeFrom_137 : decode cX2_makeFrom 137 = .ok (.invokevirtual 85, 3) := by decide +kernel
theorem dX2_makeFrom_140 : decode cX2_makeFrom 140 = .ok (.aload_n 0, 1) := by decide +kernel
theorem dX2_makeFrom_141 : decode cX2_makeFrom 141 = .ok (.iload_n 3, 1) := by decide +kernel
theorem dX2_makeFrom_142 : decode cX2_makeFrom 142 = .ok (.iload 7, 2) := by decide +kernel
theorem dX2_makeFrom_144 : decode cX2_makeFrom 144 = .ok (.invokevirtual 85, 3) := by decide +kernel
theorem dX2_makeFrom_147 : decode cX2_makeFrom 147 = .ok (.aload_n 0, 1) := by decide +kernel
theorem dX2_makeFrom_148 : decode cX2_makeFrom 148 = .ok (.iload 4, 2) := by decide +kernel
theorem dX2_makeFrom_150 : decode cX2_makeFrom 150 = .ok (.iload 7, 2) := by decide +kernel
theorem dX2_makeFrom_152 : decode cX2_makeFrom 152 = .ok (.invokevirtual 85, 3) := by decide +kernel
theorem dX2_makeFrom_155 : decode cX2_makeFrom 155 = .ok (.iload 5, 2) := by decide +kernel
theorem dX2_makeFrom_157 : decode cX2_makeFrom 157 = .ok (.iconst 1, 1) := by decide +kernel
theorem dX2_makeFrom_158 : decode cX2_makeFrom 158 = .ok (.iadd, 1) := by decide +kernel
theorem dX2_makeFrom_159 : decode cX2_makeFrom 159 = .ok (.invokevirtual 71, 3) := by decide +kernel
theorem dX2_makeFrom_162 : decode cX2_makeFrom 162 = .ok (.istore 8, 2) := by decide +kernel
theorem dX2_makeFrom_164 : decode cX2_makeFrom 164 = .ok (.iload 8, 2) := by decide +kernel
theorem dX2_makeFrom_166 : decode cX2_makeFrom 166 = .ok (.iconst (-1), 1) := by decide +kernel
theorem dX2_makeFrom_167 : decode cX2_makeFrom 167 = .ok (.if_icmp .ne 5, 3) := by decide +kernel
theorem dX2_makeFrom_170 : decode cX2_makeFrom 170 = .ok (.iconst (-1), 1) := by decide +kernel
theorem dX2_makeFrom_171 : decode cX2_makeFrom 171 = .ok (.ireturn, 1) := by decide +kernel
theorem dX2_makeFrom_172 : decode cX2_makeFrom 172 = .ok (.aload_n 0, 1) := by decide +kernel
theorem dX2_makeFrom_173 : decode cX2_makeFrom 173 = .ok (.iload 6, 2) := by decide +kernel
theorem dX2_makeFrom_175 : decode cX2_makeFrom 175 = .ok (.aload_n 0, 1) := by decide +kernel
theorem dX2_makeFrom_176 : decode cX2_makeFrom 176 = .ok (.iload_n 2, 1) := by decide +kernel
theorem dX2_makeFrom_177 : decode cX2_makeFrom 177 = .ok (.iload 7, 2) := by decide +kernel
theorem dX2_makeFrom_179 : decode cX2_makeFrom 179 = .ok (.invokevirtual 88, 3) := by decide +kernel
theorem dX2_makeFrom_182 : decode cX2_makeFrom 182 = .ok (.aload_n 0, 1) := by decide +kernel
theorem dX2_makeFrom_183 : decode cX2_makeFrom 183 = .ok (.iload_n 3, 1) := by decide +kernel
theorem dX2_makeFrom_184 : decode cX2_makeFrom 184 = .ok (.iload 7, 2) := by decide +kernel
theorem dX2_makeFrom_186 : decode cX2_makeFrom 186 = .ok (.invokevirtual 88, 3) := by decide +kernel
theorem dX2_makeFrom_189 : decode cX2_makeFrom 189 = .ok (.aload_n 0, 1) := by decide +kernel
theorem dX2_makeFrom_190 : decode cX2_makeFrom 190 = .ok (.iload 4, 2) := by decide +kernel
theorem dX2_makeFrom_192 : decode cX2_makeFrom 192 = .ok (.iload 7, 2) := by decide +kernel
theorem dX2_makeFrom_194 : decode cX2_makeFrom 194 = .ok (.invokevirtual 88, 3) := by decide +kernel
theorem dX2_makeFrom_197 : decode cX2_makeFrom 197 = .ok (.iload 5, 2) := by decide +kernel
theorem dX2_makeFrom_199 : decode cX2_makeFrom 199 = .ok (.iconst 1, 1) := by decide +kernel
theorem dX2_makeFrom_200 : decode cX2_makeFrom 200 = .ok (.iadd, 1) := by decide +kernel
theorem dX2_makeFrom_201 : decode cX2_makeFrom 201 = .ok (.invokevirtual 71, 3) := by decide +kernel
theorem dX2_makeFrom_204 : decode cX2_makeFrom 204 = .ok (.istore 9, 2) := by decide +kernel
theorem dX2_makeFrom_206 : decode cX2_makeFrom 206 = .ok (.aload_n 0, 1) := by decide +kernel
theorem dX2_makeFrom_207 : decode cX2_makeFrom 207 = .ok (.iload 7, 2) := by decide +kernel
theorem dX2_makeFrom_209 : decode cX2_makeFrom 209 = .ok (.iload 8, 2) := by decide +kernel
theorem dX2_makeFrom_211 : decode cX2_makeFrom 211 = .ok (.iload 9, 2) := by decide +kernel
theorem dX2_makeFrom_213 : decode cX2_makeFrom 213 = .ok (.invokevirtual 67, 3) := by decide +kernel
theorem dX2_makeFrom_216 : decode cX2_makeFrom 216 = .ok (.ireturn, 1) := by decide +kernel
theorem dX2_knowing_0 : decode cX2_knowing 0 = .ok (.iload_n 1, 1) := by decide +kernel
theorem dX2_knowing_1 : decode cX2_knowing 1 = .ok (.iconst 2, 1) := by decide +kernel
theorem dX2_knowing_2 : decode cX2_knowing 2 = .ok (.if_icmp .lt 5, 3) := by decide +kernel
theorem dX2_knowing_5 : decode cX2_knowing 5 = .ok (.iload_n 0, 1) := by decide +kernel
theorem dX2_knowing_6 : decode cX2_knowing 6 = .ok (.ireturn, 1) := by decide +kernel
theorem dX2_knowing_7 : decode cX2_knowing 7 = .ok (.iload_n 1, 1) := by decide +kernel
theorem dX2_knowing_8 : decode cX2_knowing 8 = .ok (.iconst 1, 1) := by decide +kernel
theorem dX2_knowing_9 : decode cX2_knowing 9 = .ok (.if_icmp .ne 9, 3) := by decide +kernel
theorem dX2_knowing_12 : decode cX2_knowing 12 = .ok (.iload_n 0, 1) := by decide +kernel
theorem dX2_knowing_13 : decode cX2_knowing 13 = .ok (.iload_n 2, 1) := by decide +kernel
theorem dX2_knowing_14 : decode cX2_knowing 14 = .ok (.ishr, 1) := by decide +kernel
theorem dX2_knowing_15 : decode cX2_knowing 15 = .ok (.goto 4, 3) := by decide +kernel
theorem dX2_knowing_18 : decode cX2_knowing 18 = .ok (.iload_n 0, 1) := by decide +kernel
theorem dX2_knowing_19 : decode cX2_knowing 19 = .ok (.iload_n 3, 1) := by decide +kernel
theorem dX2_knowing_20 : decode cX2_knowing 20 = .ok (.iand, 1) := by decide +kernel
theorem dX2_knowing_21 : decode cX2_knowing 21 = .ok (.istore 4, 2) := by decide +kernel
theorem dX2_knowing_23 : decode cX2_knowing 23 = .ok (.iload 4, 2) := by decide +kernel
theorem dX2_knowing_25 : decode cX2_knowing 25 = .ok (.iload 4, 2) := by decide +kernel
theorem dX2_knowing_27 : decode cX2_knowing 27 = .ok (.iload_n 2, 1) := by decide +kernel
theorem dX2_knowing_28 : decode cX2_knowing 28 = .ok (.ishl, 1) := by decide +kernel
theorem dX2_knowing_29 : decode cX2_knowing 29 = .ok (.ior, 1) := by decide +kernel
theorem dX2_knowing_30 : decode cX2_knowing 30 = .ok (.ireturn, 1) := by decide +kernel
theorem dX2_lowAt_0 : decode cX2_lowAt 0 = .ok (.aload_n 0, 1) := by decide +kernel
theorem dX2_lowAt_1 : decode cX2_lowAt 1 = .ok (.getfield 11, 3) := by decide +kernel
theorem dX2_lowAt_4 : decode cX2_lowAt 4 = .ok (.iload_n 1, 1) := by decide +kernel
theorem dX2_lowAt_5 : decode cX2_lowAt 5 = .ok (.iaload, 1) := by decide +kernel
theorem dX2_lowAt_6 : decode cX2_lowAt 6 = .ok (.iload_n 2, 1) := by decide +kernel
theorem dX2_lowAt_7 : decode cX2_lowAt 7 = .ok (.if_icmp .ne 12, 3) := by decide +kernel
theorem dX2_lowAt_10 : decode cX2_lowAt 10 = .ok (.aload_n 0, 1) := by decide +kernel
theorem dX2_lowAt_11 : decode cX2_lowAt 11 = .ok (.getfield 15, 3) := by decide +kernel
theorem dX2_lowAt_14 : decode cX2_lowAt 14 = .ok (.iload_n 1, 1) := by decide +kernel
theorem dX2_lowAt_15 : decode cX2_lowAt 15 = .ok (.iaload, 1) := by decide +kernel
theorem dX2_lowAt_16 : decode cX2_lowAt 16 = .ok (.goto 4, 3) := by decide +kernel
theorem dX2_lowAt_19 : decode cX2_lowAt 19 = .ok (.iload_n 1, 1) := by decide +kernel
theorem dX2_lowAt_20 : decode cX2_lowAt 20 = .ok (.ireturn, 1) := by decide +kernel
theorem dX2_highAt_0 : decode cX2_highAt 0 = .ok (.aload_n 0, 1) := by decide +kernel
theorem dX2_highAt_1 : decode cX2_highAt 1 = .ok (.getfield 11, 3) := by decide +kernel
theorem dX2_highAt_4 : decode cX2_highAt 4 = .ok (.iload_n 1, 1) := by decide +kernel
theorem dX2_highAt_5 : decode cX2_highAt 5 = .ok (.iaload, 1) := by decide +kernel
theorem dX2_highAt_6 : decode cX2_highAt 6 = .ok (.iload_n 2, 1) := by decide +kernel
theorem dX2_highAt_7 : decode cX2_highAt 7 = .ok (.if_icmp .ne 12, 3) := by decide +kernel
theorem dX2_highAt_10 : decode cX2_highAt 10 = .ok (.aload_n 0, 1) := by decide +kernel
theorem dX2_highAt_11 : decode cX2_highAt 11 = .ok (.getfield 18, 3) := by decide +kernel
theorem dX2_highAt_14 : decode cX2_highAt 14 = .ok (.iload_n 1, 1) := by decide +kernel
theorem dX2_highAt_15 : decode cX2_highAt 15 = .ok (.iaload, 1) := by decide +kernel
theorem dX2_highAt_16 : decode cX2_highAt 16 = .ok (.goto 4, 3) := by decide +kernel
theorem dX2_highAt_19 : decode cX2_highAt 19 = .ok (.iload_n 1, 1) := by decide +kernel
theorem dX2_highAt_20 : decode cX2_highAt 20 = .ok (.ireturn, 1) := by decide +kernel
theorem dX2_makeFixed_0 : decode cX2_makeFixed 0 = .ok (.aload_n 0, 1) := by decide +kernel
theorem dX2_makeFixed_1 : decode cX2_makeFixed 1 = .ok (.iload_n 1, 1) := by decide +kernel
theorem dX2_makeFixed_2 : decode cX2_makeFixed 2 = .ok (.iload_n 2, 1) := by decide +kernel
theorem dX2_makeFixed_3 : decode cX2_makeFixed 3 = .ok (.iload_n 3, 1) := by decide +kernel
theorem dX2_makeFixed_4 : decode cX2_makeFixed 4 = .ok (.iconst 0, 1) := by decide +kernel
theorem dX2_makeFixed_5 : decode cX2_makeFixed 5 = .ok (.invokevirtual 91, 3) := by decide +kernel
theorem dX2_makeFixed_8 : decode cX2_makeFixed 8 = .ok (.ireturn, 1) := by decide +kernel
theorem dX2_fixFrom_0 : decode cX2_fixFrom 0 = .ok (.aload_n 0, 1) := by decide +kernel
theorem dX2_fixFrom_1 : decode cX2_fixFrom 1 = .ok (.getfield 11, 3) := by decide +kernel
theorem dX2_fixFrom_4 : decode cX2_fixFrom 4 = .ok (.iload_n 1, 1) := by decide +kernel
theorem dX2_fixFrom_5 : decode cX2_fixFrom 5 = .ok (.iaload, 1) := by decide +kernel
theorem dX2_fixFrom_6 : decode cX2_fixFrom 6 = .ok (.iload_n 2, 1) := by decide +kernel
theorem dX2_fixFrom_7 : decode cX2_fixFrom 7 = .ok (.if_icmp .le 5, 3) := by decide +kernel
theorem dX2_fixFrom_10 : decode cX2_fixFrom 10 = .ok (.iload_n 1, 1) := by decide +kernel
theorem dX2_fixFrom_11 : decode cX2_fixFrom 11 = .ok (.ireturn, 1) := by decide +kernel
theorem dX2_fixFrom_12 : decode cX2_fixFrom 12 = .ok (.aload_n 0, 1) := by decide +kernel
theorem dX2_fixFrom_13 : decode cX2_fixFrom 13 = .ok (.getfield 11, 3) := by decide +kernel
theorem dX2_fixFrom_16 : decode cX2_fixFrom 16 = .ok (.iload_n 1, 1) := by decide +kernel
theorem dX2_fixFrom_17 : decode cX2_fixFrom 17 = .ok (.iaload, 1) := by decide +kernel
theorem dX2_fixFrom_18 : decode cX2_fixFrom 18 = .ok (.iload_n 2, 1) := by decide +kernel
theorem dX2_fixFrom_19 : decode cX2_fixFrom 19 = .ok (.if_icmp .ne 23, 3) := by decide +kernel
theorem dX2_fixFrom_22 : decode cX2_fixFrom 22 = .ok (.iload_n 3, 1) := by decide +kernel
theorem dX2_fixFrom_23 : decode cX2_fixFrom 23 = .ok (.ifCond .eq 12, 3) := by decide +kernel
theorem dX2_fixFrom_26 : decode cX2_fixFrom 26 = .ok (.aload_n 0, 1) := by decide +kernel
theorem dX2_fixFrom_27 : decode cX2_fixFrom 27 = .ok (.getfield 18, 3) := by decide +kernel
theorem dX2_fixFrom_30 : decode cX2_fixFrom 30 = .ok (.iload_n 1, 1) := by decide +kernel
theorem dX2_fixFrom_31 : decode cX2_fixFrom 31 = .ok (.iaload, 1) := by decide +kernel
theorem dX2_fixFrom_32 : decode cX2_fixFrom 32 = .ok (.goto 9, 3) := by decide +kernel
theorem dX2_fixFrom_35 : decode cX2_fixFrom 35 = .ok (.aload_n 0, 1) := by decide +kernel
theorem dX2_fixFrom_36 : decode cX2_fixFrom 36 = .ok (.getfield 15, 3) := by decide +kernel
theorem dX2_fixFrom_39 : decode cX2_fixFrom 39 = .ok (.iload_n 1, 1) := by decide +kernel
theorem dX2_fixFrom_40 : decode cX2_fixFrom 40 = .ok (.iaload, 1) := by decide +kernel
theorem dX2_fixFrom_41 : decode cX2_fixFrom 41 = .ok (.ireturn, 1) := by decide +kernel
theorem dX2_fixFrom_42 : decode cX2_fixFrom 42 = .ok (.iload 4, 2) := by decide +kernel
theorem dX2_fixFrom_44 : decode cX2_fixFrom 44 = .ok (.bipush 8, 2) := by decide +kernel
theorem dX2_fixFrom_46 : decode cX2_fixFrom 46 = .ok (.if_icmp .lt 5, 3) := by decide +kernel
theorem dX2_fixFrom_49 : decode cX2_fixFrom 49 = .ok (.iconst (-1), 1) := by decide +kernel
theorem dX2_fixFrom_50 : decode cX2_fixFrom 50 = .ok (.ireturn, 1) := by decide +kernel
theorem dX2_fixFrom_51 : decode cX2_fixFrom 51 = .ok (.aload_n 0, 1) := by decide +kernel
theorem dX2_fixFrom_52 : decode cX2_fixFrom 52 = .ok (.aload_n 0, 1) := by decide +kernel
theorem dX2_fixFrom_53 : decode cX2_fixFrom 53 = .ok (.getfield 15, 3) := by decide +kernel
theorem dX2_fixFrom_56 : decode cX2_fixFrom 56 = .ok (.iload_n 1, 1) := by decide +kernel
theorem dX2_fixFrom_57 : decode cX2_fixFrom 57 = .ok (.iaload, 1) := by decide +kernel
theorem dX2_fixFrom_58 : decode cX2_fixFrom 58 = .ok (.iload_n 2, 1) := by decide +kernel
theorem dX2_fixFrom_59 : decode cX2_fixFrom 59 = .ok (.iload_n 3, 1) := by decide +kernel
theorem dX2_fixFrom_60 : decode cX2_fixFrom 60 = .ok (.iload 4, 2) := by decide +kernel
theorem dX2_fixFrom_62 : decode cX2_fixFrom 62 = .ok (.iconst 1, 1) := by decide +kernel
theorem dX2_fixFrom_63 : decode cX2_fixFrom 63 = .ok (.iadd, 1) := by decide +kernel
theorem dX2_fixFrom_64 : decode cX2_fixFrom 64 = .ok (.invokevirtual 91, 3) := by decide +kernel
theorem dX2_fixFrom_67 : decode cX2_fixFrom 67 = .ok (.istore 5, 2) := by decide +kernel
theorem dX2_fixFrom_69 : decode cX2_fixFrom 69 = .ok (.iload 5, 2) := by decide +kernel
theorem dX2_fixFrom_71 : decode cX2_fixFrom 71 = .ok (.iconst (-1), 1) := by decide +kernel
theorem dX2_fixFrom_72 : decode cX2_fixFrom 72 = .ok (.if_icmp .ne 5, 3) := by decide +kernel
theorem dX2_fixFrom_75 : decode cX2_fixFrom 75 = .ok (.iconst (-1), 1) := by decide +kernel
theorem dX2_fixFrom_76 : decode cX2_fixFrom 76 = .ok (.ireturn, 1) := by decide +kernel
theorem dX2_fixFrom_77 : decode cX2_fixFrom 77 = .ok (.aload_n 0, 1) := by decide +kernel
theorem dX2_fixFrom_78 : decode cX2_fixFrom 78 = .ok (.aload_n 0, 1) := by decide +kernel
theorem dX2_fixFrom_79 : decode cX2_fixFrom 79 = .ok (.getfield 18, 3) := by decide +kernel
theorem dX2_fixFrom_82 : decode cX2_fixFrom 82 = .ok (.iload_n 1, 1) := by decide +kernel
theorem dX2_fixFrom_83 : decode cX2_fixFrom 83 = .ok (.iaload, 1) := by decide +kernel
theorem dX2_fixFrom_84 : decode cX2_fixFrom 84 = .ok (.iload_n 2, 1) := by decide +kernel
theorem dX2_fixFrom_85 : decode cX2_fixFrom 85 = .ok (.iload_n 3, 1) := by decide +kernel
theorem dX2_fixFrom_86 : decode cX2_fixFrom 86 = .ok (.iload 4, 2) := by decide +kernel
theorem dX2_fixFrom_88 : decode cX2_fixFrom 88 = .ok (.iconst 1, 1) := by decide +kernel
theorem dX2_fixFrom_89 : decode cX2_fixFrom 89 = .ok (.iadd, 1) := by decide +kernel
theorem dX2_fixFrom_90 : decode cX2_fixFrom 90 = .ok (.invokevirtual 91, 3) := by decide +kernel
theorem dX2_fixFrom_93 : decode cX2_fixFrom 93 = .ok (.istore 6, 2) := by decide +kernel
theorem dX2_fixFrom_95 : decode cX2_fixFrom 95 = .ok (.aload_n 0, 1) := by decide +kernel
theorem dX2_fixFrom_96 : decode cX2_fixFrom 96 = .ok (.aload_n 0, 1) := by decide +kernel
theorem dX2_fixFrom_97 : decode cX2_fixFrom 97 = .ok (.getfield 11, 3) := by decide +kernel
theorem dX2_fixFrom_100 : decode cX2_fixFrom 100 = .ok (.iload_n 1, 1) := by decide +kernel
theorem dX2_fixFrom_101 : decode cX2_fixFrom 101 = .ok (.iaload, 1) := by decide +kernel
theorem dX2_fixFrom_102 : decode cX2_fixFrom 102 = .ok (.iload 5, 2) := by decide +kernel
theorem dX2_fixFrom_104 : decode cX2_fixFrom 104 = .ok (.iload 6, 2) := by decide +kernel
theorem dX2_fixFrom_106 : decode cX2_fixFrom 106 = .ok (.invokevirtual 67, 3) := by decide +kernel
theorem dX2_fixFrom_109 : decode cX2_fixFrom 109 = .ok (.ireturn, 1) := by decide +kernel
theorem dX2_nodeFor_0 : decode cX2_nodeFor 0 = .ok (.iload_n 3, 1) := by decide +kernel
theorem dX2_nodeFor_1 : decode cX2_nodeFor 1 = .ok (.iconst (-1), 1) := by decide +kernel
theorem dX2_nodeFor_2 : decode cX2_nodeFor 2 = .ok (.if_icmp .eq 8, 3) := by decide +kernel
theorem dX2_nodeFor_5 : decode cX2_nodeFor 5 = .ok (.iload_n 2, 1) := by decide +kernel
theorem dX2_nodeFor_6 : decode cX2_nodeFor 6 = .ok (.iload_n 3, 1) := by decide +kernel
theorem dX2_nodeFor_7 : decode cX2_nodeFor 7 = .ok (.if_icmp .ne 5, 3) := by decide +kernel
theorem dX2_nodeFor_10 : decode cX2_nodeFor 10 = .ok (.iload_n 3, 1) := by decide +kernel
theorem dX2_nodeFor_11 : decode cX2_nodeFor 11 = .ok (.ireturn, 1) := by decide +kernel
theorem dX2_nodeFor_12 : decode cX2_nodeFor 12 = .ok (.aload_n 0, 1) := by decide +kernel
theorem dX2_nodeFor_13 : decode cX2_nodeFor 13 = .ok (.getfield 27, 3) := by decide +kernel
theorem dX2_nodeFor_16 : decode cX2_nodeFor 16 = .ok (.iload_n 2, 1) := by decide +kernel
theorem dX2_nodeFor_17 : decode cX2_nodeFor 17 = .ok (.iload_n 3, 1) := by decide +kernel
theorem dX2_nodeFor_18 : decode cX2_nodeFor 18 = .ok (.ixor, 1) := by decide +kernel
theorem dX2_nodeFor_19 : decode cX2_nodeFor 19 = .ok (.iaload, 1) := by decide +kernel
theorem dX2_nodeFor_20 : decode cX2_nodeFor 20 = .ok (.istore 4, 2) := by decide +kernel
theorem dX2_nodeFor_22 : decode cX2_nodeFor 22 = .ok (.iconst 0, 1) := by decide +kernel
theorem dX2_nodeFor_23 : decode cX2_nodeFor 23 = .ok (.istore 5, 2) := by decide +kernel
theorem dX2_nodeFor_25 : decode cX2_nodeFor 25 = .ok (.iload 4, 2) := by decide +kernel
theorem dX2_nodeFor_27 : decode cX2_nodeFor 27 = .ok (.iconst (-1), 1) := by decide +kernel
theorem dX2_nodeFor_28 : decode cX2_nodeFor 28 = .ok (.if_icmp .eq 62, 3) := by decide +kernel
theorem dX2_nodeFor_31 : decode cX2_nodeFor 31 = .ok (.iload 5, 2) := by decide +kernel
theorem dX2_nodeFor_33 : decode cX2_nodeFor 33 = .ok (.sipush 252, 3) := by decide +kernel
theorem dX2_nodeFor_36 : decode cX2_nodeFor 36 = .ok (.if_icmp .ge 54, 3) := by decide +kernel
theorem dX2_nodeFor_39 : decode cX2_nodeFor 39 = .ok (.aload_n 0, 1) := by decide +kernel
theorem dX2_nodeFor_40 : decode cX2_nodeFor 40 = .ok (.getfield 11, 3) := by decide +kernel
theorem dX2_nodeFor_43 : decode cX2_nodeFor 43 = .ok (.iload 4, 2) := by decide +kernel
theorem dX2_nodeFor_45 : decode cX2_nodeFor 45 = .ok (.iaload, 1) := by decide +kernel
theorem dX2_nodeFor_46 : decode cX2_nodeFor 46 = .ok (.iload_n 1, 1) := by decide +kernel
theorem dX2_nodeFor_47 : decode cX2_nodeFor 47 = .ok (.if_icmp .ne 28, 3) := by decide +kernel
theorem dX2_nodeFor_50 : decode cX2_nodeFor 50 = .ok (.aload_n 0, 1) := by decide +kernel
theorem dX2_nodeFor_51 : decode cX2_nodeFor 51 = .ok (.getfield 15, 3) := by decide +kernel
theorem dX2_nodeFor_54 : decode cX2_nodeFor 54 = .ok (.iload 4, 2) := by decide +kernel
theorem dX2_nodeFor_56 : decode cX2_nodeFor 56 = .ok (.iaload, 1) := by decide +kernel
theorem dX2_nodeFor_57 : decode cX2_nodeFor 57 = .ok (.iload_n 2, 1) := by decide +kernel
theorem dX2_nodeFor_58 : decode cX2_nodeFor 58 = .ok (.if_icmp .ne 17, 3) := by decide +kernel
theorem dX2_nodeFor_61 : decode cX2_nodeFor 61 = .ok (.aload_n 0, 1) := by decide +kernel
theorem dX2_nodeFor_62 : decode cX2_nodeFor 62 = .ok (.getfield 18, 3) := by decide +kernel
theorem dX2_nodeFor_65 : decode cX2_nodeFor 65 = .ok (.iload 4, 2) := by decide +kernel
theorem dX2_nodeFor_67 : decode cX2_nodeFor 67 = .ok (.iaload, 1) := by decide +kernel
theorem dX2_nodeFor_68 : decode cX2_nodeFor 68 = .ok (.iload_n 3, 1) := by decide +kernel
theorem dX2_nodeFor_69 : decode cX2_nodeFor 69 = .ok (.if_icmp .ne 6, 3) := by decide +kernel
theorem dX2_nodeFor_72 : decode cX2_nodeFor 72 = .ok (.iload 4, 2) := by decide +kernel
theorem dX2_nodeFor_74 : decode cX2_nodeFor 74 = .ok (.ireturn, 1) := by decide +kernel
theorem dX2_nodeFor_75 : decode cX2_nodeFor 75 = .ok (.aload_n 0, 1) := by decide +kernel
theorem dX2_nodeFor_76 : decode cX2_nodeFor 76 = .ok (.getfield 24, 3) := by decide +kernel
theorem dX2_nodeFor_79 : decode cX2_nodeFor 79 = .ok (.iload 4, 2) := by decide +kernel
theorem dX2_nodeFor_81 : decode cX2_nodeFor 81 = .ok (.iaload, 1) := by decide +kernel
theorem dX2_nodeFor_82 : decode cX2_nodeFor 82 = .ok (.istore 4, 2) := by decide +kernel
theorem dX2_nodeFor_84 : decode cX2_nodeFor 84 = .ok (.iinc 5 1, 3) := by decide +kernel
theorem dX2_nodeFor_87 : decode cX2_nodeFor 87 = .ok (.goto (-62), 3) := by decide +kernel
theorem dX2_nodeFor_90 : decode cX2_nodeFor 90 = .ok (.aload_n 0, 1) := by decide +kernel
theorem dX2_nodeFor_91 : decode cX2_nodeFor 91 = .ok (.getfield 30, 3) := by decide +kernel
theorem dX2_nodeFor_94 : decode cX2_nodeFor 94 = .ok (.istore 4, 2) := by decide +kernel
theorem dX2_nodeFor_96 : decode cX2_nodeFor 96 = .ok (.aload_n 0, 1) := by decide +kernel
theorem dX2_nodeFor_97 : decode cX2_nodeFor 97 = .ok (.getfield 34, 3) := by decide +kernel
theorem dX2_nodeFor_100 : decode cX2_nodeFor 100 = .ok (.aload_n 0, 1) := by decide +kernel
theorem dX2_nodeFor_101 : decode cX2_nodeFor 101 = .ok (.getfield 37, 3) := by decide +kernel
theorem dX2_nodeFor_104 : decode cX2_nodeFor 104 = .ok (.if_icmp .ge 9, 3) := by decide +kernel
theorem dX2_nodeFor_107 : decode cX2_nodeFor 107 = .ok (.iload 4, 2) := by decide +kernel
theorem dX2_nodeFor_109 : decode cX2_nodeFor 109 = .ok (.iconst (-1), 1) := by decide +kernel
theorem dX2_nodeFor_110 : decode cX2_nodeFor 110 = .ok (.if_icmp .ne 5, 3) := by decide +kernel
theorem dX2_nodeFor_113 : decode cX2_nodeFor 113 = .ok (.iconst (-1), 1) := by decide +kernel
theorem dX2_nodeFor_114 : decode cX2_nodeFor 114 = .ok (.ireturn, 1) := by decide +kernel
theorem dX2_nodeFor_115 : decode cX2_nodeFor 115 = .ok (.aload_n 0, 1) := by decide +kernel
theorem dX2_nodeFor_116 : decode cX2_nodeFor 116 = .ok (.aload_n 0, 1) := by decide +kernel
theorem dX2_nodeFor_117 : decode cX2_nodeFor 117 = .ok (.getfield 24, 3) := by decide +kernel
theorem dX2_nodeFor_120 : decode cX2_nodeFor 120 = .ok (.iload 4, 2) := by decide +kernel
theorem dX2_nodeFor_122 : decode cX2_nodeFor 122 = .ok (.iaload, 1) := by decide +kernel
theorem dX2_nodeFor_123 : decode cX2_nodeFor 123 = .ok (.putfield 30, 3) := by decide +kernel
theorem dX2_nodeFor_126 : decode cX2_nodeFor 126 = .ok (.aload_n 0, 1) := by decide +kernel
theorem dX2_nodeFor_127 : decode cX2_nodeFor 127 = .ok (.getfield 11, 3) := by decide +kernel
theorem dX2_nodeFor_130 : decode cX2_nodeFor 130 = .ok (.iload 4, 2) := by decide +kernel
theorem dX2_nodeFor_132 : decode cX2_nodeFor 132 = .ok (.iload_n 1, 1) := by decide +kernel
theorem dX2_nodeFor_133 : decode cX2_nodeFor 133 = .ok (.iastore, 1) := by decide +kernel
theorem dX2_nodeFor_134 : decode cX2_nodeFor 134 = .ok (.aload_n 0, 1) := by decide +kernel
theorem dX2_nodeFor_135 : decode cX2_nodeFor 135 = .ok (.getfield 15, 3) := by decide +kernel
theorem dX2_nodeFor_138 : decode cX2_nodeFor 138 = .ok (.iload 4, 2) := by decide +kernel
theorem dX2_nodeFor_140 : decode cX2_nodeFor 140 = .ok (.iload_n 2, 1) := by decide +kernel
theorem dX2_nodeFor_141 : decode cX2_nodeFor 141 = .ok (.iastore, 1) := by decide +kernel
theorem dX2_nodeFor_142 : decode cX2_nodeFor 142 = .ok (.aload_n 0, 1) := by decide +kernel
theorem dX2_nodeFor_143 : decode cX2_nodeFor 143 = .ok (.getfield 18, 3) := by decide +kernel
theorem dX2_nodeFor_146 : decode cX2_nodeFor 146 = .ok (.iload 4, 2) := by decide +kernel
theorem dX2_nodeFor_148 : decode cX2_nodeFor 148 = .ok (.iload_n 3, 1) := by decide +kernel
theorem dX2_nodeFor_149 : decode cX2_nodeFor 149 = .ok (.iastore, 1) := by decide +kernel
theorem dX2_nodeFor_150 : decode cX2_nodeFor 150 = .ok (.aload_n 0, 1) := by decide +kernel
theorem dX2_nodeFor_151 : decode cX2_nodeFor 151 = .ok (.iload 4, 2) := by decide +kernel
theorem dX2_nodeFor_153 : decode cX2_nodeFor 153 = .ok (.invokevirtual 64, 3) := by decide +kernel
theorem dX2_nodeFor_156 : decode cX2_nodeFor 156 = .ok (.iload 4, 2) := by decide +kernel
theorem dX2_nodeFor_158 : decode cX2_nodeFor 158 = .ok (.ireturn, 1) := by decide +kernel
theorem dX2_enter_0 : decode cX2_enter 0 = .ok (.aload_n 0, 1) := by decide +kernel
theorem dX2_enter_1 : decode cX2_enter 1 = .ok (.getfield 15, 3) := by decide +kernel
theorem dX2_enter_4 : decode cX2_enter 4 = .ok (.iload_n 1, 1) := by decide +kernel
theorem dX2_enter_5 : decode cX2_enter 5 = .ok (.iaload, 1) := by decide +kernel
theorem dX2_enter_6 : decode cX2_enter 6 = .ok (.aload_n 0, 1) := by decide +kernel
theorem dX2_enter_7 : decode cX2_enter 7 = .ok (.getfield 18, 3) := by decide +kernel
theorem dX2_enter_10 : decode cX2_enter 10 = .ok (.iload_n 1, 1) := by decide +kernel
theorem dX2_enter_11 : decode cX2_enter 11 = .ok (.iaload, 1) := by decide +kernel
theorem dX2_enter_12 : decode cX2_enter 12 = .ok (.ixor, 1) := by decide +kernel
theorem dX2_enter_13 : decode cX2_enter 13 = .ok (.istore_n 2, 1) := by decide +kernel
theorem dX2_enter_14 : decode cX2_enter 14 = .ok (.aload_n 0, 1) := by decide +kernel
theorem dX2_enter_15 : decode cX2_enter 15 = .ok (.getfield 24, 3) := by decide +kernel
theorem dX2_enter_18 : decode cX2_enter 18 = .ok (.iload_n 1, 1) := by decide +kernel
theorem dX2_enter_19 : decode cX2_enter 19 = .ok (.aload_n 0, 1) := by decide +kernel
theorem dX2_enter_20 : decode cX2_enter 20 = .ok (.getfield 27, 3) := by decide +kernel
theorem dX2_enter_23 : decode cX2_enter 23 = .ok (.iload_n 2, 1) := by decide +kernel
theorem dX2_enter_24 : decode cX2_enter 24 = .ok (.iaload, 1) := by decide +kernel
theorem dX2_enter_25 : decode cX2_enter 25 = .ok (.iastore, 1) := by decide +kernel
theorem dX2_enter_26 : decode cX2_enter 26 = .ok (.aload_n 0, 1) := by decide +kernel
theorem dX2_enter_27 : decode cX2_enter 27 = .ok (.getfield 27, 3) := by decide +kernel
theorem dX2_enter_30 : decode cX2_enter 30 = .ok (.iload_n 2, 1) := by decide +kernel
theorem dX2_enter_31 : decode cX2_enter 31 = .ok (.iload_n 1, 1) := by decide +kernel
theorem dX2_enter_32 : decode cX2_enter 32 = .ok (.iastore, 1) := by decide +kernel
theorem dX2_enter_33 : decode cX2_enter 33 = .ok (.aload_n 0, 1) := by decide +kernel
theorem dX2_enter_34 : decode cX2_enter 34 = .ok (.dup, 1) := by decide +kernel
theorem dX2_enter_35 : decode cX2_enter 35 = .ok (.getfield 34, 3) := by decide +kernel
theorem dX2_enter_38 : decode cX2_enter 38 = .ok (.iconst 1, 1) := by decide +kernel
theorem dX2_enter_39 : decode cX2_enter 39 = .ok (.iadd, 1) := by decide +kernel
theorem dX2_enter_40 : decode cX2_enter 40 = .ok (.putfield 34, 3) := by decide +kernel
theorem dX2_enter_43 : decode cX2_enter 43 = .ok (.return_, 1) := by decide +kernel
theorem dX2_valueFor_0 : decode cX2_valueFor 0 = .ok (.iload_n 1, 1) := by decide +kernel
theorem dX2_valueFor_1 : decode cX2_valueFor 1 = .ok (.istore 4, 2) := by decide +kernel
theorem dX2_valueFor_3 : decode cX2_valueFor 3 = .ok (.iconst 0, 1) := by decide +kernel
theorem dX2_valueFor_4 : decode cX2_valueFor 4 = .ok (.istore 5, 2) := by decide +kernel
theorem dX2_valueFor_6 : decode cX2_valueFor 6 = .ok (.iload 5, 2) := by decide +kernel
theorem dX2_valueFor_8 : decode cX2_valueFor 8 = .ok (.bipush 8, 2) := by decide +kernel
theorem dX2_valueFor_10 : decode cX2_valueFor 10 = .ok (.if_icmp .ge 65, 3) := by decide +kernel
theorem dX2_valueFor_13 : decode cX2_valueFor 13 = .ok (.iload 4, 2) := by decide +kernel
theorem dX2_valueFor_15 : decode cX2_valueFor 15 = .ok (.iconst 2, 1) := by decide +kernel
theorem dX2_valueFor_16 : decode cX2_valueFor 16 = .ok (.if_icmp .lt 59, 3) := by decide +kernel
theorem dX2_valueFor_19 : decode cX2_valueFor 19 = .ok (.iload_n 2, 1) := by decide +kernel
theorem dX2_valueFor_20 : decode cX2_valueFor 20 = .ok (.aload_n 3, 1) := by decide +kernel
theorem dX2_valueFor_21 : decode cX2_valueFor 21 = .ok (.aload_n 0, 1) := by decide +kernel
theorem dX2_valueFor_22 : decode cX2_valueFor 22 = .ok (.getfield 11, 3) := by decide +kernel
theorem dX2_valueFor_25 : decode cX2_valueFor 25 = .ok (.iload 4, 2) := by decide +kernel
theorem dX2_valueFor_27 : decode cX2_valueFor 27 = .ok (.iaload, 1) := by decide +kernel
theorem dX2_valueFor_28 : decode cX2_valueFor 28 = .ok (.invokevirtual 95, 3) := by decide +kernel
theorem dX2_valueFor_31 : decode cX2_valueFor 31 = .ok (.ishr, 1) := by decide +kernel
theorem dX2_valueFor_32 : decode cX2_valueFor 32 = .ok (.iconst 1, 1) := by decide +kernel
theorem dX2_valueFor_33 : decode cX2_valueFor 33 = .ok (.iand, 1) := by decide +kernel
theorem dX2_valueFor_34 : decode cX2_valueFor 34 = .ok (.iconst 1, 1) := by decide +kernel
theorem dX2_valueFor_35 : decode cX2_valueFor 35 = .ok (.if_icmp .ne 7, 3) := by decide +kernel
theorem dX2_valueFor_38 : decode cX2_valueFor 38 = .ok (.iconst 1, 1) := by decide +kernel
theorem dX2_valueFor_39 : decode cX2_valueFor 39 = .ok (.goto 4, 3) := by decide +kernel
theorem dX2_valueFor_42 : decode cX2_valueFor 42 = .ok (.iconst 0, 1) := by decide +kernel
theorem dX2_valueFor_43 : decode cX2_valueFor 43 = .ok (.istore 6, 2) := by decide +kernel
theorem dX2_valueFor_45 : decode cX2_valueFor 45 = .ok (.iload 6, 2) := by decide +kernel
theorem dX2_valueFor_47 : decode cX2_valueFor 47 = .ok (.ifCond .eq 13, 3) := by decide +kernel
theorem dX2_valueFor_50 : decode cX2_valueFor 50 = .ok (.aload_n 0, 1) := by decide +kernel
theorem dX2_valueFor_51 : decode cX2_valueFor 51 = .ok (.getfield 18, 3) := by decide +kernel
theorem dX2_valueFor_54 : decode cX2_valueFor 54 = .ok (.iload 4, 2) := by decide +kernel
theorem dX2_valueFor_56 : decode cX2_valueFor 56 = .ok (.iaload, 1) := by decide +kernel
theorem dX2_valueFor_57 : decode cX2_valueFor 57 = .ok (.goto 10, 3) := by decide +kernel
theorem dX2_valueFor_60 : decode cX2_valueFor 60 = .ok (.aload_n 0, 1) := by decide +kernel
theorem dX2_valueFor_61 : decode cX2_valueFor 61 = .ok (.getfield 15, 3) := by decide +kernel
theorem dX2_valueFor_64 : decode cX2_valueFor 64 = .ok (.iload 4, 2) := by decide +kernel
theorem dX2_valueFor_66 : decode cX2_valueFor 66 = .ok (.iaload, 1) := by decide +kernel
theorem dX2_valueFor_67 : decode cX2_valueFor 67 = .ok (.istore 4, 2) := by decide +kernel
theorem dX2_valueFor_69 : decode cX2_valueFor 69 = .ok (.iinc 5 1, 3) := by decide +kernel
theorem dX2_valueFor_72 : decode cX2_valueFor 72 = .ok (.goto (-66), 3) := by decide +kernel
theorem dX2_valueFor_75 : decode cX2_valueFor 75 = .ok (.iload 4, 2) := by decide +kernel
theorem dX2_valueFor_77 : decode cX2_valueFor 77 = .ok (.iconst 1, 1) := by decide +kernel
theorem dX2_valueFor_78 : decode cX2_valueFor 78 = .ok (.if_icmp .ne 7, 3) := by decide +kernel
theorem dX2_valueFor_81 : decode cX2_valueFor 81 = .ok (.iconst 1, 1) := by decide +kernel
theorem dX2_valueFor_82 : decode cX2_valueFor 82 = .ok (.goto 4, 3) := by decide +kernel
theorem dX2_valueFor_85 : decode cX2_valueFor 85 = .ok (.iconst 0, 1) := by decide +kernel
theorem dX2_valueFor_86 : decode cX2_valueFor 86 = .ok (.ireturn, 1) := by decide +kernel
theorem dX2_leastFor_0 : decode cX2_leastFor 0 = .ok (.iload_n 1, 1) := by decide +kernel
theorem dX2_leastFor_1 : decode cX2_leastFor 1 = .ok (.istore 4, 2) := by decide +kernel
theorem dX2_leastFor_3 : decode cX2_leastFor 3 = .ok (.iconst 0, 1) := by decide +kernel
theorem dX2_leastFor_4 : decode cX2_leastFor 4 = .ok (.istore 5, 2) := by decide +kernel
theorem dX2_leastFor_6 : decode cX2_leastFor 6 = .ok (.iconst 0, 1) := by decide +kernel
theorem dX2_leastFor_7 : decode cX2_leastFor 7 = .ok (.istore 6, 2) := by decide +kernel
theorem dX2_leastFor_9 : decode cX2_leastFor 9 = .ok (.iload 6, 2) := by decide +kernel
theorem dX2_leastFor_11 : decode cX2_leastFor 11 = .ok (.bipush 8, 2) := by decide +kernel
theorem dX2_leastFor_13 : decode cX2_leastFor 13 = .ok (.if_icmp .ge 76, 3) := by decide +kernel
theorem dX2_leastFor_16 : decode cX2_leastFor 16 = .ok (.iload 4, 2) := by decide +kernel
theorem dX2_leastFor_18 : decode cX2_leastFor 18 = .ok (.iconst 2, 1) := by decide +kernel
theorem dX2_leastFor_19 : decode cX2_leastFor 19 = .ok (.if_icmp .lt 70, 3) := by decide +kernel
theorem dX2_leastFor_22 : decode cX2_leastFor 22 = .ok (.aload_n 0, 1) := by decide +kernel
theorem dX2_leastFor_23 : decode cX2_leastFor 23 = .ok (.getfield 15, 3) := by decide +kernel
theorem dX2_leastFor_26 : decode cX2_leastFor 26 = .ok (.iload 4, 2) := by decide +kernel
theorem dX2_leastFor_28 : decode cX2_leastFor 28 = .ok (.iaload, 1) := by decide +kernel
theorem dX2_leastFor_29 : decode cX2_leastFor 29 = .ok (.iconst 2, 1) := by decide +kernel
theorem dX2_leastFor_30 : decode cX2_leastFor 30 = .ok (.if_icmp .ge 14, 3) := by decide +kernel
theorem dX2_leastFor_33 : decode cX2_leastFor 33 = .ok (.aload_n 0, 1) := by decide +kernel
theorem dX2_leastFor_34 : decode cX2_leastFor 34 = .ok (.getfield 15, 3) := by decide +kernel
theorem dX2_leastFor_37 : decode cX2_leastFor 37 = .ok (.iload 4, 2) := by decide +kernel
theorem dX2_leastFor_39 : decode cX2_leastFor 39 = .ok (.iaload, 1) := by decide +kernel
theorem dX2_leastFor_40 : decode cX2_leastFor 40 = .ok (.iload_n 2, 1) := by decide +kernel
theorem dX2_leastFor_41 : decode cX2_leastFor 41 = .ok (.if_icmp .ne 15, 3) := by decide +kernel
theorem dX2_leastFor_44 : decode cX2_leastFor 44 = .ok (.aload_n 0, 1) := by decide +kernel
theorem dX2_leastFor_45 : decode cX2_leastFor 45 = .ok (.getfield 15, 3) := by decide +kernel
theorem dX2_leastFor_48 : decode cX2_leastFor 48 = .ok (.iload 4, 2) := by decide +kernel
theorem dX2_leastFor_50 : decode cX2_leastFor 50 = .ok (.iaload, 1) := by decide +kernel
theorem dX2_leastFor_51 : decode cX2_leastFor 51 = .ok (.istore 4, 2) := by decide +kernel
theorem dX2_leastFor_53 : decode cX2_leastFor 53 = .ok (.goto 30, 3) := by decide +kernel
theorem dX2_leastFor_56 : decode cX2_leastFor 56 = .ok (.iload 5, 2) := by decide +kernel
theorem dX2_leastFor_58 : decode cX2_leastFor 58 = .ok (.iconst 1, 1) := by decide +kernel
theorem dX2_leastFor_59 : decode cX2_leastFor 59 = .ok (.aload_n 3, 1) := by decide +kernel
theorem dX2_leastFor_60 : decode cX2_leastFor 60 = .ok (.aload_n 0, 1) := by decide +kernel
theorem dX2_leastFor_61 : decode cX2_leastFor 61 = .ok (.getfield 11, 3) := by decide +kernel
theorem dX2_leastFor_64 : decode cX2_leastFor 64 = .ok (.iload 4, 2) := by decide +kernel
theorem dX2_leastFor_66 : decode cX2_leastFor 66 = .ok (.iaload, 1) := by decide +kernel
theorem dX2_leastFor_67 : decode cX2_leastFor 67 = .ok (.invokevirtual 95, 3) := by decide +kernel
theorem dX2_leastFor_70 : decode cX2_leastFor 70 = .ok (.ishl, 1) := by decide +kernel
theorem dX2_leastFor_71 : decode cX2_leastFor 71 = .ok (.ior, 1) := by decide +kernel
theorem dX2_leastFor_72 : decode cX2_leastFor 72 = .ok (.istore 5, 2) := by decide +kernel
theorem dX2_leastFor_74 : decode cX2_leastFor 74 = .ok (.aload_n 0, 1) := by decide +kernel
theorem dX2_leastFor_75 : decode cX2_leastFor 75 = .ok (.getfield 18, 3) := by decide +kernel
theorem dX2_leastFor_78 : decode cX2_leastFor 78 = .ok (.iload 4, 2) := by decide +kernel
theorem dX2_leastFor_80 : decode cX2_leastFor 80 = .ok (.iaload, 1) := by decide +kernel
theorem dX2_leastFor_81 : decode cX2_leastFor 81 = .ok (.istore 4, 2) := by decide +kernel
theorem dX2_leastFor_83 : decode cX2_leastFor 83 = .ok (.iinc 6 1, 3) := by decide +kernel
theorem dX2_leastFor_86 : decode cX2_leastFor 86 = .ok (.goto (-77), 3) := by decide +kernel
theorem dX2_leastFor_89 : decode cX2_leastFor 89 = .ok (.iload 4, 2) := by decide +kernel
theorem dX2_leastFor_91 : decode cX2_leastFor 91 = .ok (.iload_n 2, 1) := by decide +kernel
theorem dX2_leastFor_92 : decode cX2_leastFor 92 = .ok (.if_icmp .ne 8, 3) := by decide +kernel
theorem dX2_leastFor_95 : decode cX2_leastFor 95 = .ok (.iload 5, 2) := by decide +kernel
theorem dX2_leastFor_97 : decode cX2_leastFor 97 = .ok (.goto 5, 3) := by decide +kernel
theorem dX2_leastFor_100 : decode cX2_leastFor 100 = .ok (.bipush (-9), 2) := by decide +kernel
theorem dX2_leastFor_102 : decode cX2_leastFor 102 = .ok (.ireturn, 1) := by decide +kernel
theorem dX2_pathCount_0 : decode cX2_pathCount 0 = .ok (.aload_n 0, 1) := by decide +kernel
theorem dX2_pathCount_1 : decode cX2_pathCount 1 = .ok (.iload_n 1, 1) := by decide +kernel
theorem dX2_pathCount_2 : decode cX2_pathCount 2 = .ok (.iload_n 2, 1) := by decide +kernel
theorem dX2_pathCount_3 : decode cX2_pathCount 3 = .ok (.iconst 0, 1) := by decide +kernel
theorem dX2_pathCount_4 : decode cX2_pathCount 4 = .ok (.invokevirtual 100, 3) := by decide +kernel
theorem dX2_pathCount_7 : decode cX2_pathCount 7 = .ok (.ireturn, 1) := by decide +kernel
theorem dX2_pathsFrom_0 : decode cX2_pathsFrom 0 = .ok (.iload_n 1, 1) := by decide +kernel
theorem dX2_pathsFrom_1 : decode cX2_pathsFrom 1 = .ok (.iconst 2, 1) := by decide +kernel
theorem dX2_pathsFrom_2 : decode cX2_pathsFrom 2 = .ok (.if_icmp .lt 9, 3) := by decide +kernel
theorem dX2_pathsFrom_5 : decode cX2_pathsFrom 5 = .ok (.iload_n 3, 1) := by decide +kernel
theorem dX2_pathsFrom_6 : decode cX2_pathsFrom 6 = .ok (.bipush 8, 2) := by decide +kernel
theorem dX2_pathsFrom_8 : decode cX2_pathsFrom 8 = .ok (.if_icmp .lt 14, 3) := by decide +kernel
theorem dX2_pathsFrom_11 : decode cX2_pathsFrom 11 = .ok (.iload_n 1, 1) := by decide +kernel
theorem dX2_pathsFrom_12 : decode cX2_pathsFrom 12 = .ok (.iload_n 2, 1) := by decide +kernel
theorem dX2_pathsFrom_13 : decode cX2_pathsFrom 13 = .ok (.if_icmp .ne 7, 3) := by decide +kernel
theorem dX2_pathsFrom_16 : decode cX2_pathsFrom 16 = .ok (.iconst 1, 1) := by decide +kernel
theorem dX2_pathsFrom_17 : decode cX2_pathsFrom 17 = .ok (.goto 4, 3) := by decide +kernel
theorem dX2_pathsFrom_20 : decode cX2_pathsFrom 20 = .ok (.iconst 0, 1) := by decide +kernel
theorem dX2_pathsFrom_21 : decode cX2_pathsFrom 21 = .ok (.ireturn, 1) := by decide +kernel
theorem dX2_pathsFrom_22 : decode cX2_pathsFrom 22 = .ok (.aload_n 0, 1) := by decide +kernel
theorem dX2_pathsFrom_23 : decode cX2_pathsFrom 23 = .ok (.aload_n 0, 1) := by decide +kernel
theorem dX2_pathsFrom_24 : decode cX2_pathsFrom 24 = .ok (.getfield 15, 3) := by decide +kernel
theorem dX2_pathsFrom_27 : decode cX2_pathsFrom 27 = .ok (.iload_n 1, 1) := by decide +kernel
theorem dX2_pathsFrom_28 : decode cX2_pathsFrom 28 = .ok (.iaload, 1) := by decide +kernel
theorem dX2_pathsFrom_29 : decode cX2_pathsFrom 29 = .ok (.iload_n 2, 1) := by decide +kernel
theorem dX2_pathsFrom_30 : decode cX2_pathsFrom 30 = .ok (.iload_n 3, 1) := by decide +kernel
theorem dX2_pathsFrom_31 : decode cX2_pathsFrom 31 = .ok (.iconst 1, 1) := by decide +kernel
theorem dX2_pathsFrom_32 : decode cX2_pathsFrom 32 = .ok (.iadd, 1) := by decide +kernel
theorem dX2_pathsFrom_33 : decode cX2_pathsFrom 33 = .ok (.invokevirtual 100, 3) := by decide +kernel
theorem dX2_pathsFrom_36 : decode cX2_pathsFrom 36 = .ok (.aload_n 0, 1) := by decide +kernel
theorem dX2_pathsFrom_37 : decode cX2_pathsFrom 37 = .ok (.aload_n 0, 1) := by decide +kernel
theorem dX2_pathsFrom_38 : decode cX2_pathsFrom 38 = .ok (.getfield 18, 3) := by decide +kernel
theorem dX2_pathsFrom_41 : decode cX2_pathsFrom 41 = .ok (.iload_n 1, 1) := by decide +kernel
theorem dX2_pathsFrom_42 : decode cX2_pathsFrom 42 = .ok (.iaload, 1) := by decide +kernel
theorem dX2_pathsFrom_43 : decode cX2_pathsFrom 43 = .ok (.iload_n 2, 1) := by decide +kernel
theorem dX2_pathsFrom_44 : decode cX2_pathsFrom 44 = .ok (.iload_n 3, 1) := by decide +kernel
theorem dX2_pathsFrom_45 : decode cX2_pathsFrom 45 = .ok (.iconst 1, 1) := by decide +kernel
theorem dX2_pathsFrom_46 : decode cX2_pathsFrom 46 = .ok (.iadd, 1) := by decide +kernel
theorem dX2_pathsFrom_47 : decode cX2_pathsFrom 47 = .ok (.invokevirtual 100, 3) := by decide +kernel
theorem dX2_pathsFrom_50 : decode cX2_pathsFrom 50 = .ok (.iadd, 1) := by decide +kernel
theorem dX2_pathsFrom_51 : decode cX2_pathsFrom 51 = .ok (.ireturn, 1) := by decide +kernel
theorem dJ7_fill_53178_0 : decode cJ7_fill_53178 0 = .ok (.iconst 0, 1) := by decide +kernel
theorem dJ7_fill_53178_1 : decode cJ7_fill_53178 1 = .ok (.istore_n 2, 1) := by decide +kernel
theorem dJ7_fill_53178_2 : decode cJ7_fill_53178 2 = .ok (.aload_n 0, 1) := by decide +kernel
theorem dJ7_fill_53178_3 : decode cJ7_fill_53178 3 = .ok (.arraylength, 1) := by decide +kernel
theorem dJ7_fill_53178_4 : decode cJ7_fill_53178 4 = .ok (.istore_n 3, 1) := by decide +kernel
theorem dJ7_fill_53178_5 : decode cJ7_fill_53178 5 = .ok (.iload_n 2, 1) := by decide +kernel
theorem dJ7_fill_53178_6 : decode cJ7_fill_53178 6 = .ok (.iload_n 3, 1) := by decide +kernel
theorem dJ7_fill_53178_7 : decode cJ7_fill_53178 7 = .ok (.if_icmp .ge 13, 3) := by decide +kernel
theorem dJ7_fill_53178_10 : decode cJ7_fill_53178 10 = .ok (.aload_n 0, 1) := by decide +kernel
theorem dJ7_fill_53178_11 : decode cJ7_fill_53178 11 = .ok (.iload_n 2, 1) := by decide +kernel
theorem dJ7_fill_53178_12 : decode cJ7_fill_53178 12 = .ok (.iload_n 1, 1) := by decide +kernel
theorem dJ7_fill_53178_13 : decode cJ7_fill_53178 13 = .ok (.iastore, 1) := by decide +kernel
theorem dJ7_fill_53178_14 : decode cJ7_fill_53178 14 = .ok (.iinc 2 1, 3) := by decide +kernel
theorem dJ7_fill_53178_17 : decode cJ7_fill_53178 17 = .ok (.goto (-12), 3) := by decide +kernel
theorem dJ7_fill_53178_20 : decode cJ7_fill_53178 20 = .ok (.return_, 1) := by decide +kernel
