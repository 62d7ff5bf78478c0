theorem dX3_init_0 : decode cX3_init 0 = .ok (.aload_n 0, 1) := by decide +kernel
theorem dX3_init_1 : decode cX3_init 1 = .ok (.invokespecial 3, 3) := by decide +kernel
theorem dX3_init_4 : decode cX3_init 4 = .ok (.aload_n 0, 1) := by decide +kernel
theorem dX3_init_5 : decode cX3_init 5 = .ok (.iconst 3, 1) := by decide +kernel
theorem dX3_init_6 : decode cX3_init 6 = .ok (.anewarray 9, 3) := by decide +kernel
theorem dX3_init_9 : decode cX3_init 9 = .ok (.putfield 11, 3) := by decide +kernel
theorem dX3_init_12 : decode cX3_init 12 = .ok (.aload_n 0, 1) := by decide +kernel
theorem dX3_init_13 : decode cX3_init 13 = .ok (.new 15, 3) := by decide +kernel
theorem dX3_init_16 : decode cX3_init 16 = .ok (.dup, 1) := by decide +kernel
theorem dX3_init_17 : decode cX3_init 17 = .ok (.invokespecial 17, 3) := by decide +kernel
theorem dX3_init_20 : decode cX3_init 20 = .ok (.putfield 18, 3) := by decide +kernel
theorem dX3_init_23 : decode cX3_init 23 = .ok (.aload_n 0, 1) := by decide +kernel
theorem dX3_init_24 : decode cX3_init 24 = .ok (.new 22, 3) := by decide +kernel
theorem dX3_init_27 : decode cX3_init 27 = .ok (.dup, 1) := by decide +kernel
theorem dX3_init_28 : decode cX3_init 28 = .ok (.invokespecial 24, 3) := by decide +kernel
theorem dX3_init_31 : decode cX3_init 31 = .ok (.putfield 25, 3) := by decide +kernel
theorem dX3_init_34 : decode cX3_init 34 = .ok (.aload_n 0, 1) := by decide +kernel
theorem dX3_init_35 : decode cX3_init 35 = .ok (.bipush 12, 2) := by decide +kernel
theorem dX3_init_37 : decode cX3_init 37 = .ok (.newarray .int, 2) := by decide +kernel
theorem dX3_init_39 : decode cX3_init 39 = .ok (.putfield 29, 3) := by decide +kernel
theorem dX3_init_42 : decode cX3_init 42 = .ok (.aload_n 0, 1) := by decide +kernel
theorem dX3_init_43 : decode cX3_init 43 = .ok (.bipush 40, 2) := by decide +kernel
theorem dX3_init_45 : decode cX3_init 45 = .ok (.newarray .int, 2) := by decide +kernel
theorem dX3_init_47 : decode cX3_init 47 = .ok (.putfield 33, 3) := by decide +kernel
theorem dX3_init_50 : decode cX3_init 50 = .ok (.aload_n 0, 1) := by decide +kernel
theorem dX3_init_51 : decode cX3_init 51 = .ok (.bipush 40, 2) := by decide +kernel
theorem dX3_init_53 : decode cX3_init 53 = .ok (.newarray .int, 2) := by decide +kernel
theorem dX3_init_55 : decode cX3_init 55 = .ok (.putfield 36, 3) := by decide +kernel
theorem dX3_init_58 : decode cX3_init 58 = .ok (.aload_n 0, 1) := by decide +kernel
theorem dX3_init_59 : decode cX3_init 59 = .ok (.bipush 8, 2) := by decide +kernel
theorem dX3_init_61 : decode cX3_init 61 = .ok (.newarray .int, 2) := by decide +kernel
theorem dX3_init_63 : decode cX3_init 63 = .ok (.putfield 39, 3) := by decide +kernel
theorem dX3_init_66 : decode cX3_init 66 = .ok (.aload_n 0, 1) := by decide +kernel
theorem dX3_init_67 : decode cX3_init 67 = .ok (.iconst 0, 1) := by decide +kernel
theorem dX3_init_68 : decode cX3_init 68 = .ok (.putfield 42, 3) := by decide +kernel
theorem dX3_init_71 : decode cX3_init 71 = .ok (.aload_n 0, 1) := by decide +kernel
theorem dX3_init_72 : decode cX3_init 72 = .ok (.iconst 0, 1) := by decide +kernel
theorem dX3_init_73 : decode cX3_init 73 = .ok (.putfield 46, 3) := by decide +kernel
theorem dX3_init_76 : decode cX3_init 76 = .ok (.aload_n 0, 1) := by decide +kernel
theorem dX3_init_77 : decode cX3_init 77 = .ok (.bipush (-9), 2) := by decide +kernel
theorem dX3_init_79 : decode cX3_init 79 = .ok (.putfield 49, 3) := by decide +kernel
theorem dX3_init_82 : decode cX3_init 82 = .ok (.aload_n 0, 1) := by decide +kernel
theorem dX3_init_83 : decode cX3_init 83 = .ok (.bipush (-9), 2) := by decide +kernel
theorem dX3_init_85 : decode cX3_init 85 = .ok (.putfield 52, 3) := by decide +kernel
theorem dX3_init_88 : decode cX3_init 88 = .ok (.iconst 0, 1) := by decide +kernel
theorem dX3_init_89 : decode cX3_init 89 = .ok (.istore_n 1, 1) := by decide +kernel
theorem dX3_init_90 : decode cX3_init 90 = .ok (.iload_n 1, 1) := by decide +kernel
theorem dX3_init_91 : decode cX3_init 91 = .ok (.iconst 3, 1) := by decide +kernel
theorem dX3_init_92 : decode cX3_init 92 = .ok (.if_icmp .ge 22, 3) := by decide +kernel
theorem dX3_init_95 : decode cX3_init 95 = .ok (.aload_n 0, 1) := by decide +kernel
theorem dX3_init_96 : decode cX3_init 96 = .ok (.getfield 11, 3) := by decide +kernel
theorem dX3_init_99 : decode cX3_init 99 = .ok (.iload_n 1, 1) := by decide +kernel
theorem dX3_init_100 : decode cX3_init 100 = .ok (.new 9, 3) := by decide +kernel
theorem dX3_init_103 : decode cX3_init 103 = .ok (.dup, 1) := by decide +kernel
theorem dX3_init_104 : decode cX3_init 104 = .ok (.invokespecial 55, 3) := by decide +kernel
theorem dX3_init_107 : decode cX3_init 107 = .ok (.aastore, 1) := by decide +kernel
theorem dX3_init_108 : decode cX3_init 108 = .ok (.iinc 1 1, 3) := by decide +kernel
theorem dX3_init_111 : decode cX3_init 111 = .ok (.goto (-21), 3) := by decide +kernel
theorem dX3_init_114 : decode cX3_init 114 = .ok (.aload_n 0, 1) := by decide +kernel
theorem dX3_init_115 : decode cX3_init 115 = .ok (.getfield 29, 3) := by decide +kernel
theorem dX3_init_118 : decode cX3_init 118 = .ok (.iconst (-1), 1) := by decide +kernel
theorem dX3_init_119 : decode cX3_init 119 = .ok (.invokestatic 56, 3) := by decide +kernel
theorem dX3_init_122 : decode cX3_init 122 = .ok (.aload_n 0, 1) := by decide +kernel
theorem dX3_init_123 : decode cX3_init 123 = .ok (.getfield 33, 3) := by decide +kernel
theorem dX3_init_126 : decode cX3_init 126 = .ok (.iconst (-1), 1) := by decide +kernel
theorem dX3_init_127 : decode cX3_init 127 = .ok (.invokestatic 56, 3) := by decide +kernel
theorem dX3_init_130 : decode cX3_init 130 = .ok (.return_, 1) := by decide +kernel
theorem dX3_gate_0 : decode cX3_gate 0 = .ok (.iload_n 1, 1) := by decide +kernel
theorem dX3_gate_1 : decode cX3_gate 1 = .ok (.invokestatic 62, 3) := by decide +kernel
theorem dX3_gate_4 : decode cX3_gate 4 = .ok (.ifCond .ne 5, 3) := by decide +kernel
theorem dX3_gate_7 : decode cX3_gate 7 = .ok (.iconst (-1), 1) := by decide +kernel
theorem dX3_gate_8 : decode cX3_gate 8 = .ok (.ireturn, 1) := by decide +kernel
theorem dX3_gate_9 : decode cX3_gate 9 = .ok (.iload_n 2, 1) := by decide +kernel
theorem dX3_gate_10 : decode cX3_gate 10 = .ok (.ifCond .lt 9, 3) := by decide +kernel
theorem dX3_gate_13 : decode cX3_gate 13 = .ok (.iload_n 2, 1) := by decide +kernel
theorem dX3_gate_14 : decode cX3_gate 14 = .ok (.bipush 10, 2) := by decide +kernel
theorem dX3_gate_16 : decode cX3_gate 16 = .ok (.if_icmp .le 6, 3) := by decide +kernel
theorem dX3_gate_19 : decode cX3_gate 19 = .ok (.bipush (-2), 2) := by decide +kernel
theorem dX3_gate_21 : decode cX3_gate 21 = .ok (.ireturn, 1) := by decide +kernel
theorem dX3_gate_22 : decode cX3_gate 22 = .ok (.aload_n 0, 1) := by decide +kernel
theorem dX3_gate_23 : decode cX3_gate 23 = .ok (.getfield 11, 3) := by decide +kernel
theorem dX3_gate_26 : decode cX3_gate 26 = .ok (.iload_n 1, 1) := by decide +kernel
theorem dX3_gate_27 : decode cX3_gate 27 = .ok (.aaload, 1) := by decide +kernel
theorem dX3_gate_28 : decode cX3_gate 28 = .ok (.iload_n 2, 1) := by decide +kernel
theorem dX3_gate_29 : decode cX3_gate 29 = .ok (.iload_n 3, 1) := by decide +kernel
theorem dX3_gate_30 : decode cX3_gate 30 = .ok (.iload 4, 2) := by decide +kernel
theorem dX3_gate_32 : decode cX3_gate 32 = .ok (.iload 5, 2) := by decide +kernel
theorem dX3_gate_34 : decode cX3_gate 34 = .ok (.invokevirtual 66, 3) := by decide +kernel
theorem dX3_gate_37 : decode cX3_gate 37 = .ok (.ifCond .ne 5, 3) := by decide +kernel
theorem dX3_gate_40 : decode cX3_gate 40 = .ok (.iconst (-1), 1) := by decide +kernel
theorem dX3_gate_41 : decode cX3_gate 41 = .ok (.ireturn, 1) := by decide +kernel
theorem dX3_gate_42 : decode cX3_gate 42 = .ok (.iload_n 2, 1) := by decide +kernel
theorem dX3_gate_43 : decode cX3_gate 43 = .ok (.ifCond .ne 13, 3) := by decide +kernel
theorem dX3_gate_46 : decode cX3_gate 46 = .ok (.iload_n 3, 1) := by decide +kernel
theorem dX3_gate_47 : decode cX3_gate 47 = .ok (.invokestatic 70, 3) := by decide +kernel
theorem dX3_gate_50 : decode cX3_gate 50 = .ok (.ifCond .ne 6, 3) := by decide +kernel
theorem dX3_gate_53 : decode cX3_gate 53 = .ok (.bipush (-2), 2) := by decide +kernel
theorem dX3_gate_55 : decode cX3_gate 55 = .ok (.ireturn, 1) := by decide +kernel
theorem dX3_gate_56 : decode cX3_gate 56 = .ok (.aload_n 0, 1) := by decide +kernel
theorem dX3_gate_57 : decode cX3_gate 57 = .ok (.getfield 11, 3) := by decide +kernel
theorem dX3_gate_60 : decode cX3_gate 60 = .ok (.iload_n 1, 1) := by decide +kernel
theorem dX3_gate_61 : decode cX3_gate 61 = .ok (.aaload, 1) := by decide +kernel
theorem dX3_gate_62 : decode cX3_gate 62 = .ok (.iload_n 2, 1) := by decide +kernel
theorem dX3_gate_63 : decode cX3_gate 63 = .ok (.iload_n 3, 1) := by decide +kernel
theorem dX3_gate_64 : decode cX3_gate 64 = .ok (.iload 4, 2) := by decide +kernel
theorem dX3_gate_66 : decode cX3_gate 66 = .ok (.iload 5, 2) := by decide +kernel
theorem dX3_gate_68 : decode cX3_gate 68 = .ok (.invokevirtual 73, 3) := by decide +kernel
theorem dX3_gate_71 : decode cX3_gate 71 = .ok (.ireturn, 1) := by decide +kernel
theorem dX3_output_0 : decode cX3_output 0 = .ok (.iload_n 1, 1) := by decide +kernel
theorem dX3_output_1 : decode cX3_output 1 = .ok (.invokestatic 62, 3) := by decide +kernel
theorem dX3_output_4 : decode cX3_output 4 = .ok (.ifCond .eq 16, 3) := by decide +kernel
theorem dX3_output_7 : decode cX3_output 7 = .ok (.aload_n 0, 1) := by decide +kernel
theorem dX3_output_8 : decode cX3_output 8 = .ok (.getfield 11, 3) := by decide +kernel
theorem dX3_output_11 : decode cX3_output 11 = .ok (.iload_n 1, 1) := by decide +kernel
theorem dX3_output_12 : decode cX3_output 12 = .ok (.aaload, 1) := by decide +kernel
theorem dX3_output_13 : decode cX3_output 13 = .ok (.iload_n 2, 1) := by decide +kernel
theorem dX3_output_14 : decode cX3_output 14 = .ok (.invokevirtual 77, 3) := by decide +kernel
theorem dX3_output_17 : decode cX3_output 17 = .ok (.ifCond .ne 5, 3) := by decide +kernel
theorem dX3_output_20 : decode cX3_output 20 = .ok (.iconst (-1), 1) := by decide +kernel
theorem dX3_output_21 : decode cX3_output 21 = .ok (.ireturn, 1) := by decide +kernel
theorem dX3_output_22 : decode cX3_output 22 = .ok (.aload_n 0, 1) := by decide +kernel
theorem dX3_output_23 : decode cX3_output 23 = .ok (.getfield 11, 3) := by decide +kernel
theorem dX3_output_26 : decode cX3_output 26 = .ok (.iload_n 1, 1) := by decide +kernel
theorem dX3_output_27 : decode cX3_output 27 = .ok (.aaload, 1) := by decide +kernel
theorem dX3_output_28 : decode cX3_output 28 = .ok (.iload_n 2, 1) := by decide +kernel
theorem dX3_output_29 : decode cX3_output 29 = .ok (.invokevirtual 80, 3) := by decide +kernel
theorem dX3_output_32 : decode cX3_output 32 = .ok (.ireturn, 1) := by decide +kernel
theorem dX3_clear_0 : decode cX3_clear 0 = .ok (.iload_n 1, 1) := by decide +kernel
theorem dX3_clear_1 : decode cX3_clear 1 = .ok (.invokestatic 62, 3) := by decide +kernel
theorem dX3_clear_4 : decode cX3_clear 4 = .ok (.ifCond .ne 5, 3) := by decide +kernel
theorem dX3_clear_7 : decode cX3_clear 7 = .ok (.iconst (-1), 1) := by decide +kernel
theorem dX3_clear_8 : decode cX3_clear 8 = .ok (.ireturn, 1) := by decide +kernel
theorem dX3_clear_9 : decode cX3_clear 9 = .ok (.aload_n 0, 1) := by decide +kernel
theorem dX3_clear_10 : decode cX3_clear 10 = .ok (.getfield 11, 3) := by decide +kernel
theorem dX3_clear_13 : decode cX3_clear 13 = .ok (.iload_n 1, 1) := by decide +kernel
theorem dX3_clear_14 : decode cX3_clear 14 = .ok (.aaload, 1) := by decide +kernel
theorem dX3_clear_15 : decode cX3_clear 15 = .ok (.invokevirtual 84, 3) := by decide +kernel
theorem dX3_clear_18 : decode cX3_clear 18 = .ok (.ireturn, 1) := by decide +kernel
theorem dX3_gives_0 : decode cX3_gives 0 = .ok (.iload_n 1, 1) := by decide +kernel
theorem dX3_gives_1 : decode cX3_gives 1 = .ok (.invokestatic 62, 3) := by decide +kernel
theorem dX3_gives_4 : decode cX3_gives 4 = .ok (.ifCond .eq 16, 3) := by decide +kernel
theorem dX3_gives_7 : decode cX3_gives 7 = .ok (.aload_n 0, 1) := by decide +kernel
theorem dX3_gives_8 : decode cX3_gives 8 = .ok (.getfield 11, 3) := by decide +kernel
theorem dX3_gives_11 : decode cX3_gives 11 = .ok (.iload_n 1, 1) := by decide +kernel
theorem dX3_gives_12 : decode cX3_gives 12 = .ok (.aaload, 1) := by decide +kernel
theorem dX3_gives_13 : decode cX3_gives 13 = .ok (.iload_n 2, 1) := by decide +kernel
theorem dX3_gives_14 : decode cX3_gives 14 = .ok (.invokevirtual 88, 3) := by decide +kernel
theorem dX3_gives_17 : decode cX3_gives 17 = .ok (.ifCond .ne 5, 3) := by decide +kernel
theorem dX3_gives_20 : decode cX3_gives 20 = .ok (.iconst (-1), 1) := by decide +kernel
theorem dX3_gives_21 : decode cX3_gives 21 = .ok (.ireturn, 1) := by decide +kernel
theorem dX3_gives_22 : decode cX3_gives 22 = .ok (.iload_n 3, 1) := by decide +kernel
theorem dX3_gives_23 : decode cX3_gives 23 = .ok (.invokestatic 91, 3) := by decide +kernel
theorem dX3_gives_26 : decode cX3_gives 26 = .ok (.ifCond .ne 6, 3) := by decide +kernel
theorem dX3_gives_29 : decode cX3_gives 29 = .ok (.bipush (-2), 2) := by decide +kernel
theorem dX3_gives_31 : decode cX3_gives 31 = .ok (.ireturn, 1) := by decide +kernel
theorem dX3_gives_32 : decode cX3_gives 32 = .ok (.aload_n 0, 1) := by decide +kernel
theorem dX3_gives_33 : decode cX3_gives 33 = .ok (.getfield 11, 3) := by decide +kernel
theorem dX3_gives_36 : decode cX3_gives 36 = .ok (.iload_n 1, 1) := by decide +kernel
theorem dX3_gives_37 : decode cX3_gives 37 = .ok (.aaload, 1) := by decide +kernel
theorem dX3_gives_38 : decode cX3_gives 38 = .ok (.iload_n 2, 1) := by decide +kernel
theorem dX3_gives_39 : decode cX3_gives 39 = .ok (.iload_n 3, 1) := by decide +kernel
theorem dX3_gives_40 : decode cX3_gives 40 = .ok (.invokevirtual 94, 3) := by decide +kernel
theorem dX3_gives_43 : decode cX3_gives 43 = .ok (.ireturn, 1) := by decide +kernel
theorem dX3_order_0 : decode cX3_order 0 = .ok (.iload_n 1, 1) := by decide +kernel
theorem dX3_order_1 : decode cX3_order 1 = .ok (.invokestatic 62, 3) := by decide +kernel
theorem dX3_order_4 : decode cX3_order 4 = .ok (.ifCond .ne 5, 3) := by decide +kernel
theorem dX3_order_7 : decode cX3_order 7 = .ok (.iconst (-1), 1) := by decide +kernel
theorem dX3_order_8 : decode cX3_order 8 = .ok (.ireturn, 1) := by decide +kernel
theorem dX3_order_9 : decode cX3_order 9 = .ok (.aload_n 0, 1) := by decide +kernel
theorem dX3_order_10 : decode cX3_order 10 = .ok (.invokevirtual 98, 3) := by decide +kernel
theorem dX3_order_13 : decode cX3_order 13 = .ok (.ifCond .le 6, 3) := by decide +kernel
theorem dX3_order_16 : decode cX3_order 16 = .ok (.bipush (-3), 2) := by decide +kernel
theorem dX3_order_18 : decode cX3_order 18 = .ok (.ireturn, 1) := by decide +kernel
theorem dX3_order_19 : decode cX3_order 19 = .ok (.aload_n 0, 1) := by decide +kernel
theorem dX3_order_20 : decode cX3_order 20 = .ok (.getfield 18, 3) := by decide +kernel
theorem dX3_order_23 : decode cX3_order 23 = .ok (.invokevirtual 101, 3) := by decide +kernel
theorem dX3_order_26 : decode cX3_order 26 = .ok (.aload_n 0, 1) := by decide +kernel
theorem dX3_order_27 : decode cX3_order 27 = .ok (.getfield 11, 3) := by decide +kernel
theorem dX3_order_30 : decode cX3_order 30 = .ok (.iload_n 1, 1) := by decide +kernel
theorem dX3_order_31 : decode cX3_order 31 = .ok (.aaload, 1) := by decide +kernel
theorem dX3_order_32 : decode cX3_order 32 = .ok (.aload_n 0, 1) := by decide +kernel
theorem dX3_order_33 : decode cX3_order 33 = .ok (.getfield 18, 3) := by decide +kernel
theorem dX3_order_36 : decode cX3_order 36 = .ok (.invokevirtual 104, 3) := by decide +kernel
theorem dX3_order_39 : decode cX3_order 39 = .ok (.aload_n 0, 1) := by decide +kernel
theorem dX3_order_40 : decode cX3_order 40 = .ok (.getfield 18, 3) := by decide +kernel
theorem dX3_order_43 : decode cX3_order 43 = .ok (.invokevirtual 108, 3) := by decide +kernel
theorem dX3_order_46 : decode cX3_order 46 = .ok (.ireturn, 1) := by decide +kernel
theorem dX3_move_0 : decode cX3_move 0 = .ok (.iload_n 1, 1) := by decide +kernel
theorem dX3_move_1 : decode cX3_move 1 = .ok (.invokestatic 70, 3) := by decide +kernel
theorem dX3_move_4 : decode cX3_move 4 = .ok (.ifCond .eq 10, 3) := by decide +kernel
theorem dX3_move_7 : decode cX3_move 7 = .ok (.iload_n 2, 1) := by decide +kernel
theorem dX3_move_8 : decode cX3_move 8 = .ok (.invokestatic 70, 3) := by decide +kernel
theorem dX3_move_11 : decode cX3_move 11 = .ok (.ifCond .ne 6, 3) := by decide +kernel
theorem dX3_move_14 : decode cX3_move 14 = .ok (.bipush (-2), 2) := by decide +kernel
theorem dX3_move_16 : decode cX3_move 16 = .ok (.ireturn, 1) := by decide +kernel
theorem dX3_move_17 : decode cX3_move 17 = .ok (.aload_n 0, 1) := by decide +kernel
theorem dX3_move_18 : decode cX3_move 18 = .ok (.invokevirtual 98, 3) := by decide +kernel
theorem dX3_move_21 : decode cX3_move 21 = .ok (.ifCond .le 6, 3) := by decide +kernel
theorem dX3_move_24 : decode cX3_move 24 = .ok (.bipush (-3), 2) := by decide +kernel
theorem dX3_move_26 : decode cX3_move 26 = .ok (.ireturn, 1) := by decide +kernel
theorem dX3_move_27 : decode cX3_move 27 = .ok (.aload_n 0, 1) := by decide +kernel
theorem dX3_move_28 : decode cX3_move 28 = .ok (.getfield 18, 3) := by decide +kernel
theorem dX3_move_31 : decode cX3_move 31 = .ok (.iload_n 1, 1) := by decide +kernel
theorem dX3_move_32 : decode cX3_move 32 = .ok (.iload_n 2, 1) := by decide +kernel
theorem dX3_move_33 : decode cX3_move 33 = .ok (.invokevirtual 111, 3) := by decide +kernel
theorem dX3_move_36 : decode cX3_move 36 = .ok (.ireturn, 1) := by decide +kernel
theorem dX3_at_0 : decode cX3_at 0 = .ok (.iload_n 1, 1) := by decide +kernel
theorem dX3_at_1 : decode cX3_at 1 = .ok (.invokestatic 70, 3) := by decide +kernel
theorem dX3_at_4 : decode cX3_at 4 = .ok (.ifCond .ne 6, 3) := by decide +kernel
theorem dX3_at_7 : decode cX3_at 7 = .ok (.bipush (-2), 2) := by decide +kernel
theorem dX3_at_9 : decode cX3_at 9 = .ok (.ireturn, 1) := by decide +kernel
theorem dX3_at_10 : decode cX3_at 10 = .ok (.aload_n 0, 1) := by decide +kernel
theorem dX3_at_11 : decode cX3_at 11 = .ok (.getfield 18, 3) := by decide +kernel
theorem dX3_at_14 : decode cX3_at 14 = .ok (.iload_n 1, 1) := by decide +kernel
theorem dX3_at_15 : decode cX3_at 15 = .ok (.invokevirtual 114, 3) := by decide +kernel
theorem dX3_at_18 : decode cX3_at 18 = .ok (.ireturn, 1) := by decide +kernel
theorem dX3_room_0 : decode cX3_room 0 = .ok (.iload_n 1, 1) := by decide +kernel
theorem dX3_room_1 : decode cX3_room 1 = .ok (.ifCond .lt 10, 3) := by decide +kernel
theorem dX3_room_4 : decode cX3_room 4 = .ok (.iload_n 1, 1) := by decide +kernel
theorem dX3_room_5 : decode cX3_room 5 = .ok (.sipush 250, 3) := by decide +kernel
theorem dX3_room_8 : decode cX3_room 8 = .ok (.if_icmp .le 6, 3) := by decide +kernel
theorem dX3_room_11 : decode cX3_room 11 = .ok (.bipush (-2), 2) := by decide +kernel
theorem dX3_room_13 : decode cX3_room 13 = .ok (.ireturn, 1) := by decide +kernel
theorem dX3_room_14 : decode cX3_room 14 = .ok (.aload_n 0, 1) := by decide +kernel
theorem dX3_room_15 : decode cX3_room 15 = .ok (.invokevirtual 117, 3) := by decide +kernel
theorem dX3_room_18 : decode cX3_room 18 = .ok (.iload_n 1, 1) := by decide +kernel
theorem dX3_room_19 : decode cX3_room 19 = .ok (.if_icmp .le 6, 3) := by decide +kernel
theorem dX3_room_22 : decode cX3_room 22 = .ok (.bipush (-3), 2) := by decide +kernel
theorem dX3_room_24 : decode cX3_room 24 = .ok (.ireturn, 1) := by decide +kernel
theorem dX3_room_25 : decode cX3_room 25 = .ok (.aload_n 0, 1) := by decide +kernel
theorem dX3_room_26 : decode cX3_room 26 = .ok (.getfield 25, 3) := by decide +kernel
theorem dX3_room_29 : decode cX3_room 29 = .ok (.iload_n 1, 1) := by decide +kernel
theorem dX3_room_30 : decode cX3_room 30 = .ok (.invokevirtual 120, 3) := by decide +kernel
theorem dX3_room_33 : decode cX3_room 33 = .ok (.ireturn, 1) := by decide +kernel
theorem dX3_build_0 : decode cX3_build 0 = .ok (.iload_n 1, 1) := by decide +kernel
theorem dX3_build_1 : decode cX3_build 1 = .ok (.invokestatic 123, 3) := by decide +kernel
theorem dX3_build_4 : decode cX3_build 4 = .ok (.ifCond .eq 23, 3) := by decide +kernel
theorem dX3_build_7 : decode cX3_build 7 = .ok (.iload_n 2, 1) := by decide +kernel
theorem dX3_build_8 : decode cX3_build 8 = .ok (.invokestatic 62, 3) := by decide +kernel
theorem dX3_build_11 : decode cX3_build 11 = .ok (.ifCond .eq 16, 3) := by decide +kernel
theorem dX3_build_14 : decode cX3_build 14 = .ok (.aload_n 0, 1) := by decide +kernel
theorem dX3_build_15 : decode cX3_build 15 = .ok (.getfield 11, 3) := by decide +kernel
theorem dX3_build_18 : decode cX3_build 18 = .ok (.iload_n 2, 1) := by decide +kernel
theorem dX3_build_19 : decode cX3_build 19 = .ok (.aaload, 1) := by decide +kernel
theorem dX3_build_20 : decode cX3_build 20 = .ok (.iload_n 3, 1) := by decide +kernel
theorem dX3_build_21 : decode cX3_build 21 = .ok (.invokevirtual 88, 3) := by decide +kernel
theorem dX3_build_24 : decode cX3_build 24 = .ok (.ifCond .ne 5, 3) := by decide +kernel
theorem dX3_build_27 : decode cX3_build 27 = .ok (.iconst (-1), 1) := by decide +kernel
theorem dX3_build_28 : decode cX3_build 28 = .ok (.ireturn, 1) := by decide +kernel
theorem dX3_build_29 : decode cX3_build 29 = .ok (.aload_n 0, 1) := by decide +kernel
theorem dX3_build_30 : decode cX3_build 30 = .ok (.invokevirtual 126, 3) := by decide +kernel
theorem dX3_build_33 : decode cX3_build 33 = .ok (.aload_n 0, 1) := by decide +kernel
theorem dX3_build_34 : decode cX3_build 34 = .ok (.iload_n 1, 1) := by decide +kernel
theorem dX3_build_35 : decode cX3_build 35 = .ok (.aload_n 0, 1) := by decide +kernel
theorem dX3_build_36 : decode cX3_build 36 = .ok (.aload_n 0, 1) := by decide +kernel
theorem dX3_build_37 : decode cX3_build 37 = .ok (.getfield 11, 3) := by decide +kernel
theorem dX3_build_40 : decode cX3_build 40 = .ok (.iload_n 2, 1) := by decide +kernel
theorem dX3_build_41 : decode cX3_build 41 = .ok (.aaload, 1) := by decide +kernel
theorem dX3_build_42 : decode cX3_build 42 = .ok (.iload_n 3, 1) := by decide +kernel
theorem dX3_build_43 : decode cX3_build 43 = .ok (.invokevirtual 129, 3) := by decide +kernel
theorem dX3_build_46 : decode cX3_build 46 = .ok (.invokevirtual 133, 3) := by decide +kernel
theorem dX3_build_49 : decode cX3_build 49 = .ok (.ireturn, 1) := by decide +kernel
theorem dX3_variable_0 : decode cX3_variable 0 = .ok (.iload_n 1, 1) := by decide +kernel
theorem dX3_variable_1 : decode cX3_variable 1 = .ok (.invokestatic 123, 3) := by decide +kernel
theorem dX3_variable_4 : decode cX3_variable 4 = .ok (.ifCond .ne 5, 3) := by decide +kernel
theorem dX3_variable_7 : decode cX3_variable 7 = .ok (.iconst (-1), 1) := by decide +kernel
theorem dX3_variable_8 : decode cX3_variable 8 = .ok (.ireturn, 1) := by decide +kernel
theorem dX3_variable_9 : decode cX3_variable 9 = .ok (.iload_n 2, 1) := by decide +kernel
theorem dX3_variable_10 : decode cX3_variable 10 = .ok (.invokestatic 70, 3) := by decide +kernel
theorem dX3_variable_13 : decode cX3_variable 13 = .ok (.ifCond .ne 6, 3) := by decide +kernel
theorem dX3_variable_16 : decode cX3_variable 16 = .ok (.bipush (-2), 2) := by decide +kernel
theorem dX3_variable_18 : decode cX3_variable 18 = .ok (.ireturn, 1) := by decide +kernel
theorem dX3_variable_19 : decode cX3_variable 19 = .ok (.aload_n 0, 1) := by decide +kernel
theorem dX3_variable_20 : decode cX3_variable 20 = .ok (.invokevirtual 126, 3) := by decide +kernel
theorem dX3_variable_23 : decode cX3_variable 23 = .ok (.aload_n 0, 1) := by decide +kernel
theorem dX3_variable_24 : decode cX3_variable 24 = .ok (.iload_n 1, 1) := by decide +kernel
theorem dX3_variable_25 : decode cX3_variable 25 = .ok (.aload_n 0, 1) := by decide +kernel
theorem dX3_variable_26 : decode cX3_variable 26 = .ok (.iload_n 2, 1) := by decide +kernel
theorem dX3_variable_27 : decode cX3_variable 27 = .ok (.invokevirtual 136, 3) := by decide +kernel
theorem dX3_variable_30 : decode cX3_variable 30 = .ok (.invokevirtual 133, 3) := by decide +kernel
theorem dX3_variable_33 : decode cX3_variable 33 = .ok (.ireturn, 1) := by decide +kernel
theorem dX3_combine_0 : decode cX3_combine 0 = .ok (.iload_n 1, 1) := by decide +kernel
theorem dX3_combine_1 : decode cX3_combine 1 = .ok (.invokestatic 123, 3) := by decide +kernel
theorem dX3_combine_4 : decode cX3_combine 4 = .ok (.ifCond .ne 5, 3) := by decide +kernel
theorem dX3_combine_7 : decode cX3_combine 7 = .ok (.iconst (-1), 1) := by decide +kernel
theorem dX3_combine_8 : decode cX3_combine 8 = .ok (.ireturn, 1) := by decide +kernel
theorem dX3_combine_9 : decode cX3_combine 9 = .ok (.iload_n 2, 1) := by decide +kernel
theorem dX3_combine_10 : decode cX3_combine 10 = .ok (.ifCond .le 9, 3) := by decide +kernel
theorem dX3_combine_13 : decode cX3_combine 13 = .ok (.iload_n 2, 1) := by decide +kernel
theorem dX3_combine_14 : decode cX3_combine 14 = .ok (.bipush 9, 2) := by decide +kernel
theorem dX3_combine_16 : decode cX3_combine 16 = .ok (.if_icmp .le 6, 3) := by decide +kernel
theorem dX3_combine_19 : decode cX3_combine 19 = .ok (.bipush (-2), 2) := by decide +kernel
theorem dX3_combine_21 : decode cX3_combine 21 = .ok (.ireturn, 1) := by decide +kernel
theorem dX3_combine_22 : decode cX3_combine 22 = .ok (.iload_n 2, 1) := by decide +kernel
theorem dX3_combine_23 : decode cX3_combine 23 = .ok (.iconst 3, 1) := by decide +kernel
theorem dX3_combine_24 : decode cX3_combine 24 = .ok (.if_icmp .lt 7, 3) := by decide +kernel
theorem dX3_combine_27 : decode cX3_combine 27 = .ok (.iconst 1, 1) := by decide +kernel
theorem dX3_combine_28 : decode cX3_combine 28 = .ok (.goto 4, 3) := by decide +kernel
theorem dX3_combine_31 : decode cX3_combine 31 = .ok (.iconst 0, 1) := by decide +kernel
theorem dX3_combine_32 : decode cX3_combine 32 = .ok (.istore 5, 2) := by decide +kernel
theorem dX3_combine_34 : decode cX3_combine 34 = .ok (.iload_n 2, 1) := by decide +kernel
theorem dX3_combine_35 : decode cX3_combine 35 = .ok (.iconst 3, 1) := by decide +kernel
theorem dX3_combine_36 : decode cX3_combine 36 = .ok (.if_icmp .le 7, 3) := by decide +kernel
theorem dX3_combine_39 : decode cX3_combine 39 = .ok (.iconst 1, 1) := by decide +kernel
theorem dX3_combine_40 : decode cX3_combine 40 = .ok (.goto 4, 3) := by decide +kernel
theorem dX3_combine_43 : decode cX3_combine 43 = .ok (.iconst 0, 1) := by decide +kernel
theorem dX3_combine_44 : decode cX3_combine 44 = .ok (.istore 6, 2) := by decide +kernel
theorem dX3_combine_46 : decode cX3_combine 46 = .ok (.iload 5, 2) := by decide +kernel
theorem dX3_combine_48 : decode cX3_combine 48 = .ok (.ifCond .eq 11, 3) := by decide +kernel
theorem dX3_combine_51 : decode cX3_combine 51 = .ok (.aload_n 0, 1) := by decide +kernel
theorem dX3_combine_52 : decode cX3_combine 52 = .ok (.iload_n 3, 1) := by decide +kernel
theorem dX3_combine_53 : decode cX3_combine 53 = .ok (.invokevirtual 139, 3) := by decide +kernel
theorem dX3_combine_56 : decode cX3_combine 56 = .ok (.ifCond .eq 17, 3) := by decide +kernel
theorem dX3_combine_59 : decode cX3_combine 59 = .ok (.iload 6, 2) := by decide +kernel
theorem dX3_combine_61 : decode cX3_combine 61 = .ok (.ifCond .eq 14, 3) := by decide +kernel
theorem dX3_combine_64 : decode cX3_combine 64 = .ok (.aload_n 0, 1) := by decide +kernel
theorem dX3_combine_65 : decode cX3_combine 65 = .ok (.iload 4, 2) := by decide +kernel
theorem dX3_combine_67 : decode cX3_combine 67 = .ok (.invokevirtual 139, 3) := by decide +kernel
theorem dX3_combine_70 : decode cX3_combine 70 = .ok (.ifCond .ne 5, 3) := by decide +kernel
theorem dX3_combine_73 : decode cX3_combine 73 = .ok (.iconst (-1), 1) := by decide +kernel
theorem dX3_combine_74 : decode cX3_combine 74 = .ok (.ireturn, 1) := by decide +kernel
theorem dX3_combine_75 : decode cX3_combine 75 = .ok (.aload_n 0, 1) := by decide +kernel
theorem dX3_combine_76 : decode cX3_combine 76 = .ok (.invokevirtual 126, 3) := by decide +kernel
theorem dX3_combine_79 : decode cX3_combine 79 = .ok (.aload_n 0, 1) := by decide +kernel
theorem dX3_combine_80 : decode cX3_combine 80 = .ok (.iload_n 1, 1) := by decide +kernel
theorem dX3_combine_81 : decode cX3_combine 81 = .ok (.aload_n 0, 1) := by decide +kernel
theorem dX3_combine_82 : decode cX3_combine 82 = .ok (.iload_n 2, 1) := by decide +kernel
theorem dX3_combine_83 : decode cX3_combine 83 = .ok (.iload 5, 2) := by decide +kernel
theorem dX3_combine_85 : decode cX3_combine 85 = .ok (.ifCond .eq 12, 3) := by decide +kernel
theorem dX3_combine_88 : decode cX3_combine 88 = .ok (.aload_n 0, 1) := by decide +kernel
theorem dX3_combine_89 : decode cX3_combine 89 = .ok (.getfield 29, 3) := by decide +kernel
theorem dX3_combine_92 : decode cX3_combine 92 = .ok (.iload_n 3, 1) := by decide +kernel
theorem dX3_combine_93 : decode cX3_combine 93 = .ok (.iaload, 1) := by decide +kernel
theorem dX3_combine_94 : decode cX3_combine 94 = .ok (.goto 4, 3) := by decide +kernel
theorem dX3_combine_97 : decode cX3_combine 97 = .ok (.iconst 0, 1) := by decide +kernel
theorem dX3_combine_98 : decode cX3_combine 98 = .ok (.iload 6, 2) := by decide +kernel
theorem dX3_combine_100 : decode cX3_combine 100 = .ok (.ifCond .eq 13, 3) := by decide +kernel
theorem dX3_combine_103 : decode cX3_combine 103 = .ok (.aload_n 0, 1) := by decide +kernel
theorem dX3_combine_104 : decode cX3_combine 104 = .ok (.getfield 29, 3) := by decide +kernel
theorem dX3_combine_107 : decode cX3_combine 107 = .ok (.iload 4, 2) := by decide +kernel
theorem dX3_combine_109 : decode cX3_combine 109 = .ok (.iaload, 1) := by decide +kernel
theorem dX3_combine_110 : decode cX3_combine 110 = .ok (.goto 4, 3) := by decide +kernel
theorem dX3_combine_113 : decode cX3_combine 113 = .ok (.iconst 0, 1) := by decide +kernel
theorem dX3_combine_114 : decode cX3_combine 114 = .ok (.iconst 0, 1) := by decide +kernel
theorem dX3_combine_115 : decode cX3_combine 115 = .ok (.invokevirtual 142, 3) := by decide +kernel
theorem dX3_combine_118 : decode cX3_combine 118 = .ok (.invokevirtual 133, 3) := by decide +kernel
theorem dX3_combine_121 : decode cX3_combine 121 = .ok (.ireturn, 1) := by decide +kernel
theorem dX3_choose_0 : decode cX3_choose 0 = .ok (.iload_n 1, 1) := by decide +kernel
theorem dX3_choose_1 : decode cX3_choose 1 = .ok (.invokestatic 123, 3) := by decide +kernel
theorem dX3_choose_4 : decode cX3_choose 4 = .ok (.ifCond .eq 28, 3) := by decide +kernel
theorem dX3_choose_7 : decode cX3_choose 7 = .ok (.aload_n 0, 1) := by decide +kernel
theorem dX3_choose_8 : decode cX3_choose 8 = .ok (.iload_n 2, 1) := by decide +kernel
theorem dX3_choose_9 : decode cX3_choose 9 = .ok (.invokevirtual 139, 3) := by decide +kernel
theorem dX3_choose_12 : decode cX3_choose 12 = .ok (.ifCond .eq 20, 3) := by decide +kernel
theorem dX3_choose_15 : decode cX3_choose 15 = .ok (.aload_n 0, 1) := by decide +kernel
theorem dX3_choose_16 : decode cX3_choose 16 = .ok (.iload_n 3, 1) := by decide +kernel
theorem dX3_choose_17 : decode cX3_choose 17 = .ok (.invokevirtual 139, 3) := by decide +kernel
theorem dX3_choose_20 : decode cX3_choose 20 = .ok (.ifCond .eq 12, 3) := by decide +kernel
theorem dX3_choose_23 : decode cX3_choose 23 = .ok (.aload_n 0, 1) := by decide +kernel
theorem dX3_choose_24 : decode cX3_choose 24 = .ok (.iload 4, 2) := by decide +kernel
theorem dX3_choose_26 : decode cX3_choose 26 = .ok (.invokevirtual 139, 3) := by decide +kernel
theorem dX3_choose_29 : decode cX3_choose 29 = .ok (.ifCond .ne 5, 3) := by decide +kernel
theorem dX3_choose_32 : decode cX3_choose 32 = .ok (.iconst (-1), 1) := by decide +kernel
theorem dX3_choose_33 : decode cX3_choose 33 = .ok (.ireturn, 1) := by decide +kernel
theorem dX3_choose_34 : decode cX3_choose 34 = .ok (.aload_n 0, 1) := by decide +kernel
theorem dX3_choose_35 : decode cX3_choose 35 = .ok (.invokevirtual 126, 3) := by decide +kernel
theorem dX3_choose_38 : decode cX3_choose 38 = .ok (.aload_n 0, 1) := by decide +kernel
theorem dX3_choose_39 : decode cX3_choose 39 = .ok (.iload_n 1, 1) := by decide +kernel
theorem dX3_choose_40 : decode cX3_choose 40 = .ok (.aload_n 0, 1) := by decide +kernel
theorem dX3_choose_41 : decode cX3_choose 41 = .ok (.bipush 10, 2) := by decide +kernel
theorem dX3_choose_43 : decode cX3_choose 43 = .ok (.aload_n 0, 1) := by decide +kernel
theorem dX3_choose_44 : decode cX3_choose 44 = .ok (.getfield 29, 3) := by decide +kernel
theorem dX3_choose_47 : decode cX3_choose 47 = .ok (.iload_n 2, 1) := by decide +kernel
theorem dX3_choose_48 : decode cX3_choose 48 = .ok (.iaload, 1) := by decide +kernel
theorem dX3_choose_49 : decode cX3_choose 49 = .ok (.aload_n 0, 1) := by decide +kernel
theorem dX3_choose_50 : decode cX3_choose 50 = .ok (.getfield 29, 3) := by decide +kernel
theorem dX3_choose_53 : decode cX3_choose 53 = .ok (.iload_n 3, 1) := by decide +kernel
theorem dX3_choose_54 : decode cX3_choose 54 = .ok (.iaload, 1) := by decide +kernel
theorem dX3_choose_55 : decode cX3_choose 55 = .ok (.aload_n 0, 1) := by decide +kernel
theorem dX3_choose_56 : decode cX3_choose 56 = .ok (.getfield 29, 3) := by decide +kernel
theorem dX3_choose_59 : decode cX3_choose 59 = .ok (.iload 4, 2) := by decide +kernel
theorem dX3_choose_61 : decode cX3_choose 61 = .ok (.iaload, 1) := by decide +kernel
theorem dX3_choose_62 : decode cX3_choose 62 = .ok (.invokevirtual 142, 3) := by decide +kernel
theorem dX3_choose_65 : decode cX3_choose 65 = .ok (.invokevirtual 133, 3) := by decide +kernel
theorem dX3_choose_68 : decode cX3_choose 68 = .ok (.ireturn, 1) := by decide +kernel
theorem dX3_restrict_0 : decode cX3_restrict 0 = .ok (.iload_n 1, 1) := by decide +kernel
theorem dX3_restrict_1 : decode cX3_restrict 1 = .ok (.invokestatic 123, 3) := by decide +kernel
theorem dX3_restrict_4 : decode cX3_restrict 4 = .ok (.ifCond .eq 11, 3) := by decide +kernel
theorem dX3_restrict_7 : decode cX3_restrict 7 = .ok (.aload_n 0, 1) := by decide +kernel
theorem dX3_restrict_8 : decode cX3_restrict 8 = .ok (.iload_n 2, 1) := by decide +kernel
theorem dX3_restrict_9 : decode cX3_restrict 9 = .ok (.invokevirtual 139, 3) := by decide +kernel
theorem dX3_restrict_12 : decode cX3_restrict 12 = .ok (.ifCond .ne 5, 3) := by decide +kernel
theorem dX3_restrict_15 : decode cX3_restrict 15 = .ok (.iconst (-1), 1) := by decide +kernel
theorem dX3_restrict_16 : decode cX3_restrict 16 = .ok (.ireturn, 1) := by decide +kernel
theorem dX3_restrict_17 : decode cX3_restrict 17 = .ok (.iload_n 3, 1) := by decide +kernel
theorem dX3_restrict_18 : decode cX3_restrict 18 = .ok (.invokestatic 70, 3) := by decide +kernel
theorem dX3_restrict_21 : decode cX3_restrict 21 = .ok (.ifCond .ne 6, 3) := by decide +kernel
theorem dX3_restrict_24 : decode cX3_restrict 24 = .ok (.bipush (-2), 2) := by decide +kernel
theorem dX3_restrict_26 : decode cX3_restrict 26 = .ok (.ireturn, 1) := by decide +kernel
theorem dX3_restrict_27 : decode cX3_restrict 27 = .ok (.aload_n 0, 1) := by decide +kernel
theorem dX3_restrict_28 : decode cX3_restrict 28 = .ok (.invokevirtual 126, 3) := by decide +kernel
theorem dX3_restrict_31 : decode cX3_restrict 31 = .ok (.aload_n 0, 1) := by decide +kernel
theorem dX3_restrict_32 : decode cX3_restrict 32 = .ok (.iload_n 1, 1) := by decide +kernel
theorem dX3_restrict_33 : decode cX3_restrict 33 = .ok (.aload_n 0, 1) := by decide +kernel
theorem dX3_restrict_34 : decode cX3_restrict 34 = .ok (.aload_n 0, 1) := by decide +kernel
theorem dX3_restrict_35 : decode cX3_restrict 35 = .ok (.getfield 29, 3) := by decide +kernel
theorem dX3_restrict_38 : decode cX3_restrict 38 = .ok (.iload_n 2, 1) := by decide +kernel
theorem dX3_restrict_39 : decode cX3_restrict 39 = .ok (.iaload, 1) := by decide +kernel
theorem dX3_restrict_40 : decode cX3_restrict 40 = .ok (.iload_n 3, 1) := by decide +kernel
theorem dX3_restrict_41 : decode cX3_restrict 41 = .ok (.iload 4, 2) := by decide +kernel
theorem dX3_restrict_43 : decode cX3_restrict 43 = .ok (.invokevirtual 145, 3) := by decide +kernel
theorem dX3_restrict_46 : decode cX3_restrict 46 = .ok (.invokevirtual 133, 3) := by decide +kernel
theorem dX3_restrict_49 : decode cX3_restrict 49 = .ok (.ireturn, 1) := by decide +kernel
theorem dX3_quantify_0 : decode cX3_quantify 0 = .ok (.iload_n 1, 1) := by decide +kernel
theorem dX3_quantify_1 : decode cX3_quantify 1 = .ok (.invokestatic 123, 3) := by decide +kernel
theorem dX3_quantify_4 : decode cX3_quantify 4 = .ok (.ifCond .eq 11, 3) := by decide +kernel
theorem dX3_quantify_7 : decode cX3_quantify 7 = .ok (.aload_n 0, 1) := by decide +kernel
theorem dX3_quantify_8 : decode cX3_quantify 8 = .ok (.iload_n 2, 1) := by decide +kernel
theorem dX3_quantify_9 : decode cX3_quantify 9 = .ok (.invokevirtual 139, 3) := by decide +kernel
theorem dX3_quantify_12 : decode cX3_quantify 12 = .ok (.ifCond .ne 5, 3) := by decide +kernel
theorem dX3_quantify_15 : decode cX3_quantify 15 = .ok (.iconst (-1), 1) := by decide +kernel
theorem dX3_quantify_16 : decode cX3_quantify 16 = .ok (.ireturn, 1) := by decide +kernel
theorem dX3_quantify_17 : decode cX3_quantify 17 = .ok (.iload_n 3, 1) := by decide +kernel
theorem dX3_quantify_18 : decode cX3_quantify 18 = .ok (.invokestatic 70, 3) := by decide +kernel
theorem dX3_quantify_21 : decode cX3_quantify 21 = .ok (.ifCond .ne 6, 3) := by decide +kernel
theorem dX3_quantify_24 : decode cX3_quantify 24 = .ok (.bipush (-2), 2) := by decide +kernel
theorem dX3_quantify_26 : decode cX3_quantify 26 = .ok (.ireturn, 1) := by decide +kernel
theorem dX3_quantify_27 : decode cX3_quantify 27 = .ok (.aload_n 0, 1) := by decide +kernel
theorem dX3_quantify_28 : decode cX3_quantify 28 = .ok (.invokevirtual 126, 3) := by decide +kernel
theorem dX3_quantify_31 : decode cX3_quantify 31 = .ok (.aload_n 0, 1) := by decide +kernel
theorem dX3_quantify_32 : decode cX3_quantify 32 = .ok (.aload_n 0, 1) := by decide +kernel
theorem dX3_quantify_33 : decode cX3_quantify 33 = .ok (.aload_n 0, 1) := by decide +kernel
theorem dX3_quantify_34 : decode cX3_quantify 34 = .ok (.getfield 29, 3) := by decide +kernel
theorem dX3_quantify_37 : decode cX3_quantify 37 = .ok (.iload_n 2, 1) := by decide +kernel
theorem dX3_quantify_38 : decode cX3_quantify 38 = .ok (.iaload, 1) := by decide +kernel
theorem dX3_quantify_39 : decode cX3_quantify 39 = .ok (.iload_n 3, 1) := by decide +kernel
theorem dX3_quantify_40 : decode cX3_quantify 40 = .ok (.iconst 0, 1) := by decide +kernel
theorem dX3_quantify_41 : decode cX3_quantify 41 = .ok (.invokevirtual 145, 3) := by decide +kernel
theorem dX3_quantify_44 : decode cX3_quantify 44 = .ok (.invokevirtual 149, 3) := by decide +kernel
theorem dX3_quantify_47 : decode cX3_quantify 47 = .ok (.istore 5, 2) := by decide +kernel
theorem dX3_quantify_49 : decode cX3_quantify 49 = .ok (.iload 5, 2) := by decide +kernel
theorem dX3_quantify_51 : decode cX3_quantify 51 = .ok (.iconst (-1), 1) := by decide +kernel
theorem dX3_quantify_52 : decode cX3_quantify 52 = .ok (.if_icmp .ne 7, 3) := by decide +kernel
theorem dX3_quantify_55 : decode cX3_quantify 55 = .ok (.iconst (-1), 1) := by decide +kernel
theorem dX3_quantify_56 : decode cX3_quantify 56 = .ok (.goto 19, 3) := by decide +kernel
theorem dX3_quantify_59 : decode cX3_quantify 59 = .ok (.aload_n 0, 1) := by decide +kernel
theorem dX3_quantify_60 : decode cX3_quantify 60 = .ok (.aload_n 0, 1) := by decide +kernel
theorem dX3_quantify_61 : decode cX3_quantify 61 = .ok (.aload_n 0, 1) := by decide +kernel
theorem dX3_quantify_62 : decode cX3_quantify 62 = .ok (.getfield 29, 3) := by decide +kernel
theorem dX3_quantify_65 : decode cX3_quantify 65 = .ok (.iload_n 2, 1) := by decide +kernel
theorem dX3_quantify_66 : decode cX3_quantify 66 = .ok (.iaload, 1) := by decide +kernel
theorem dX3_quantify_67 : decode cX3_quantify 67 = .ok (.iload_n 3, 1) := by decide +kernel
theorem dX3_quantify_68 : decode cX3_quantify 68 = .ok (.iconst 1, 1) := by decide +kernel
theorem dX3_quantify_69 : decode cX3_quantify 69 = .ok (.invokevirtual 145, 3) := by decide +kernel
theorem dX3_quantify_72 : decode cX3_quantify 72 = .ok (.invokevirtual 149, 3) := by decide +kernel
theorem dX3_quantify_75 : decode cX3_quantify 75 = .ok (.istore 6, 2) := by decide +kernel
theorem dX3_quantify_77 : decode cX3_quantify 77 = .ok (.aload_n 0, 1) := by decide +kernel
theorem dX3_quantify_78 : decode cX3_quantify 78 = .ok (.iload_n 1, 1) := by decide +kernel
theorem dX3_quantify_79 : decode cX3_quantify 79 = .ok (.aload_n 0, 1) := by decide +kernel
theorem dX3_quantify_80 : decode cX3_quantify 80 = .ok (.iload 4, 2) := by decide +kernel
theorem dX3_quantify_82 : decode cX3_quantify 82 = .ok (.ifCond .eq 7, 3) := by decide +kernel
theorem dX3_quantify_85 : decode cX3_quantify 85 = .ok (.iconst 4, 1) := by decide +kernel
theorem dX3_quantify_86 : decode cX3_quantify 86 = .ok (.goto 4, 3) := by decide +kernel
theorem dX3_quantify_89 : decode cX3_quantify 89 = .ok (.iconst 5, 1) := by decide +kernel
theorem dX3_quantify_90 : decode cX3_quantify 90 = .ok (.iload 5, 2) := by decide +kernel
theorem dX3_quantify_92 : decode cX3_quantify 92 = .ok (.iload 6, 2) := by decide +kernel
theorem dX3_quantify_94 : decode cX3_quantify 94 = .ok (.iconst 0, 1) := by decide +kernel
theorem dX3_quantify_95 : decode cX3_quantify 95 = .ok (.invokevirtual 142, 3) := by decide +kernel
theorem dX3_quantify_98 : decode cX3_quantify 98 = .ok (.invokevirtual 133, 3) := by decide +kernel
theorem dX3_quantify_101 : decode cX3_quantify 101 = .ok (.ireturn, 1) := by decide +kernel
theorem dX3_compose_0 : decode cX3_compose 0 = .ok (.iload_n 1, 1) := by decide +kernel
theorem dX3_compose_1 : decode cX3_compose 1 = .ok (.invokestatic 123, 3) := by decide +kernel
theorem dX3_compose_4 : decode cX3_compose 4 = .ok (.ifCond .eq 20, 3) := by decide +kernel
theorem dX3_compose_7 : decode cX3_compose 7 = .ok (.aload_n 0, 1) := by decide +kernel
theorem dX3_compose_8 : decode cX3_compose 8 = .ok (.iload_n 2, 1) := by decide +kernel
theorem dX3_compose_9 : decode cX3_compose 9 = .ok (.invokevirtual 139, 3) := by decide +kernel
theorem dX3_compose_12 : decode cX3_compose 12 = .ok (.ifCond .eq 12, 3) := by decide +kernel
theorem dX3_compose_15 : decode cX3_compose 15 = .ok (.aload_n 0, 1) := by decide +kernel
theorem dX3_compose_16 : decode cX3_compose 16 = .ok (.iload 4, 2) := by decide +kernel
theorem dX3_compose_18 : decode cX3_compose 18 = .ok (.invokevirtual 139, 3) := by decide +kernel
theorem dX3_compose_21 : decode cX3_compose 21 = .ok (.ifCond .ne 5, 3) := by decide +kernel
theorem dX3_compose_24 : decode cX3_compose 24 = .ok (.iconst (-1), 1) := by decide +kernel
theorem dX3_compose_25 : decode cX3_compose 25 = .ok (.ireturn, 1) := by decide +kernel
theorem dX3_compose_26 : decode cX3_compose 26 = .ok (.iload_n 3, 1) := by decide +kernel
theorem dX3_compose_27 : decode cX3_compose 27 = .ok (.invokestatic 70, 3) := by decide +kernel
theorem dX3_compose_30 : decode cX3_compose 30 = .ok (.ifCond .ne 6, 3) := by decide +kernel
theorem dX3_compose_33 : decode cX3_compose 33 = .ok (.bipush (-2), 2) := by decide +kernel
theorem dX3_compose_35 : decode cX3_compose 35 = .ok (.ireturn, 1) := by decide +kernel
theorem dX3_compose_36 : decode cX3_compose 36 = .ok (.aload_n 0, 1) := by decide +kernel
theorem dX3_compose_37 : decode cX3_compose 37 = .ok (.invokevirtual 126, 3) := by decide +kernel
theorem dX3_compose_40 : decode cX3_compose 40 = .ok (.aload_n 0, 1) := by decide +kernel
theorem dX3_compose_41 : decode cX3_compose 41 = .ok (.aload_n 0, 1) := by decide +kernel
theorem dX3_compose_42 : decode cX3_compose 42 = .ok (.aload_n 0, 1) := by decide +kernel
theorem dX3_compose_43 : decode cX3_compose 43 = .ok (.getfield 29, 3) := by decide +kernel
theorem dX3_compose_46 : decode cX3_compose 46 = .ok (.iload_n 2, 1) := by decide +kernel
theorem dX3_compose_47 : decode cX3_compose 47 = .ok (.iaload, 1) := by decide +kernel
theorem dX3_compose_48 : decode cX3_compose 48 = .ok (.iload_n 3, 1) := by decide +kernel
theorem dX3_compose_49 : decode cX3_compose 49 = .ok (.iconst 0, 1) := by decide +kernel
theorem dX3_compose_50 : decode cX3_compose 50 = .ok (.invokevirtual 145, 3) := by decide +kernel
theorem dX3_compose_53 : decode cX3_compose 53 = .ok (.invokevirtual 149, 3) := by decide +kernel
theorem dX3_compose_56 : decode cX3_compose 56 = .ok (.istore 5, 2) := by decide +kernel
theorem dX3_compose_58 : decode cX3_compose 58 = .ok (.iload 5, 2) := by decide +kernel
theorem dX3_compose_60 : decode cX3_compose 60 = .ok (.iconst (-1), 1) := by decide +kernel
theorem dX3_compose_61 : decode cX3_compose 61 = .ok (.if_icmp .ne 7, 3) := by decide +kernel
theorem dX3_compose_64 : decode cX3_compose 64 = .ok (.iconst (-1), 1) := by decide +kernel
theorem dX3_compose_65 : decode cX3_compose 65 = .ok (.goto 19, 3) := by decide +kernel
theorem dX3_compose_68 : decode cX3_compose 68 = .ok (.aload_n 0, 1) := by decide +kernel
theorem dX3_compose_69 : decode cX3_compose 69 = .ok (.aload_n 0, 1) := by decide +kernel
theorem dX3_compose_70 : decode cX3_compose 70 = .ok (.aload_n 0, 1) := by decide +kernel
theorem dX3_compose_71 : decode cX3_compose 71 = .ok (.getfield 29, 3) := by decide +kernel
theorem dX3_compose_74 : decode cX3_compose 74 = .ok (.iload_n 2, 1) := by decide +kernel
theorem dX3_compose_75 : decode cX3_compose 75 = .ok (.iaload, 1) := by decide +kernel
theorem dX3_compose_76 : decode cX3_compose 76 = .ok (.iload_n 3, 1) := by decide +kernel
theorem dX3_compose_77 : decode cX3_compose 77 = .ok (.iconst 1, 1) := by decide +kernel
theorem dX3_compose_78 : decode cX3_compose 78 = .ok (.invokevirtual 145, 3) := by decide +kernel
theorem dX3_compose_81 : decode cX3_compose 81 = .ok (.invokevirtual 149, 3) := by decide +kernel
theorem dX3_compose_84 : decode cX3_compose 84 = .ok (.istore 6, 2) := by decide +kernel
theorem dX3_compose_86 : decode cX3_compose 86 = .ok (.aload_n 0, 1) := by decide +kernel
theorem dX3_compose_87 : decode cX3_compose 87 = .ok (.iload_n 1, 1) := by decide +kernel
theorem dX3_compose_88 : decode cX3_compose 88 = .ok (.aload_n 0, 1) := by decide +kernel
theorem dX3_compose_89 : decode cX3_compose 89 = .ok (.bipush 10, 2) := by decide +kernel
theorem dX3_compose_91 : decode cX3_compose 91 = .ok (.aload_n 0, 1) := by decide +kernel
theorem dX3_compose_92 : decode cX3_compose 92 = .ok (.getfield 29, 3) := by decide +kernel
theorem dX3_compose_95 : decode cX3_compose 95 = .ok (.iload 4, 2) := by decide +kernel
theorem dX3_compose_97 : decode cX3_compose 97 = .ok (.iaload, 1) := by decide +kernel
theorem dX3_compose_98 : decode cX3_compose 98 = .ok (.iload 6, 2) := by decide +kernel
theorem dX3_compose_100 : decode cX3_compose 100 = .ok (.iload 5, 2) := by decide +kernel
theorem dX3_compose_102 : decode cX3_compose 102 = .ok (.invokevirtual 142, 3) := by decide +kernel
theorem dX3_compose_105 : decode cX3_compose 105 = .ok (.invokevirtual 133, 3) := by decide +kernel
theorem dX3_compose_108 : decode cX3_compose 108 = .ok (.ireturn, 1) := by decide +kernel
theorem dX3_share_0 : decode cX3_share 0 = .ok (.iload_n 1, 1) := by decide +kernel
theorem dX3_share_1 : decode cX3_share 1 = .ok (.invokestatic 123, 3) := by decide +kernel
theorem dX3_share_4 : decode cX3_share 4 = .ok (.ifCond .eq 11, 3) := by decide +kernel
theorem dX3_share_7 : decode cX3_share 7 = .ok (.aload_n 0, 1) := by decide +kernel
theorem dX3_share_8 : decode cX3_share 8 = .ok (.iload_n 2, 1) := by decide +kernel
theorem dX3_share_9 : decode cX3_share 9 = .ok (.invokevirtual 139, 3) := by decide +kernel
theorem dX3_share_12 : decode cX3_share 12 = .ok (.ifCond .ne 5, 3) := by decide +kernel
theorem dX3_share_15 : decode cX3_share 15 = .ok (.iconst (-1), 1) := by decide +kernel
theorem dX3_share_16 : decode cX3_share 16 = .ok (.ireturn, 1) := by decide +kernel
theorem dX3_share_17 : decode cX3_share 17 = .ok (.aload_n 0, 1) := by decide +kernel
theorem dX3_share_18 : decode cX3_share 18 = .ok (.getfield 29, 3) := by decide +kernel
theorem dX3_share_21 : decode cX3_share 21 = .ok (.iload_n 1, 1) := by decide +kernel
theorem dX3_share_22 : decode cX3_share 22 = .ok (.aload_n 0, 1) := by decide +kernel
theorem dX3_share_23 : decode cX3_share 23 = .ok (.getfield 29, 3) := by decide +kernel
theorem dX3_share_26 : decode cX3_share 26 = .ok (.iload_n 2, 1) := by decide +kernel
theorem dX3_share_27 : decode cX3_share 27 = .ok (.iaload, 1) := by decide +kernel
theorem dX3_share_28 : decode cX3_share 28 = .ok (.iastore, 1) := by decide +kernel
theorem dX3_share_29 : decode cX3_share 29 = .ok (.iconst 1, 1) := by decide +kernel
theorem dX3_share_30 : decode cX3_share 30 = .ok (.ireturn, 1) := by decide +kernel
theorem dX3_drop_0 : decode cX3_drop 0 = .ok (.iload_n 1, 1) := by decide +kernel
theorem dX3_drop_1 : decode cX3_drop 1 = .ok (.invokestatic 123, 3) := by decide +kernel
theorem dX3_drop_4 : decode cX3_drop 4 = .ok (.ifCond .ne 5, 3) := by decide +kernel
theorem dX3_drop_7 : decode cX3_drop 7 = .ok (.iconst (-1), 1) := by decide +kernel
theorem dX3_drop_8 : decode cX3_drop 8 = .ok (.ireturn, 1) := by decide +kernel
theorem dX3_drop_9 : decode cX3_drop 9 = .ok (.aload_n 0, 1) := by decide +kernel
theorem dX3_drop_10 : decode cX3_drop 10 = .ok (.getfield 29, 3) := by decide +kernel
theorem dX3_drop_13 : decode cX3_drop 13 = .ok (.iload_n 1, 1) := by decide +kernel
theorem dX3_drop_14 : decode cX3_drop 14 = .ok (.iaload, 1) := by decide +kernel
theorem dX3_drop_15 : decode cX3_drop 15 = .ok (.iconst (-1), 1) := by decide +kernel
theorem dX3_drop_16 : decode cX3_drop 16 = .ok (.if_icmp .ne 7, 3) := by decide +kernel
theorem dX3_drop_19 : decode cX3_drop 19 = .ok (.iconst 0, 1) := by decide +kernel
theorem dX3_drop_20 : decode cX3_drop 20 = .ok (.goto 4, 3) := by decide +kernel
theorem dX3_drop_23 : decode cX3_drop 23 = .ok (.iconst 1, 1) := by decide +kernel
theorem dX3_drop_24 : decode cX3_drop 24 = .ok (.istore_n 2, 1) := by decide +kernel
theorem dX3_drop_25 : decode cX3_drop 25 = .ok (.aload_n 0, 1) := by decide +kernel
theorem dX3_drop_26 : decode cX3_drop 26 = .ok (.getfield 29, 3) := by decide +kernel
theorem dX3_drop_29 : decode cX3_drop 29 = .ok (.iload_n 1, 1) := by decide +kernel
theorem dX3_drop_30 : decode cX3_drop 30 = .ok (.iconst (-1), 1) := by decide +kernel
theorem dX3_drop_31 : decode cX3_drop 31 = .ok (.iastore, 1) := by decide +kernel
theorem dX3_drop_32 : decode cX3_drop 32 = .ok (.iload_n 2, 1) := by decide +kernel
theorem dX3_drop_33 : decode cX3_drop 33 = .ok (.ireturn, 1) := by decide +kernel
theorem dX3_nodes_0 : decode cX3_nodes 0 = .ok (.aload_n 0, 1) := by decide +kernel
theorem dX3_nodes_1 : decode cX3_nodes 1 = .ok (.iload_n 1, 1) := by decide +kernel
theorem dX3_nodes_2 : decode cX3_nodes 2 = .ok (.invokevirtual 139, 3) := by decide +kernel
theorem dX3_nodes_5 : decode cX3_nodes 5 = .ok (.ifCond .ne 5, 3) := by decide +kernel
theorem dX3_nodes_8 : decode cX3_nodes 8 = .ok (.iconst (-1), 1) := by decide +kernel
theorem dX3_nodes_9 : decode cX3_nodes 9 = .ok (.ireturn, 1) := by decide +kernel
theorem dX3_nodes_10 : decode cX3_nodes 10 = .ok (.aload_n 0, 1) := by decide +kernel
theorem dX3_nodes_11 : decode cX3_nodes 11 = .ok (.getfield 25, 3) := by decide +kernel
theorem dX3_nodes_14 : decode cX3_nodes 14 = .ok (.aload_n 0, 1) := by decide +kernel
theorem dX3_nodes_15 : decode cX3_nodes 15 = .ok (.getfield 29, 3) := by decide +kernel
theorem dX3_nodes_18 : decode cX3_nodes 18 = .ok (.iload_n 1, 1) := by decide +kernel
theorem dX3_nodes_19 : decode cX3_nodes 19 = .ok (.iaload, 1) := by decide +kernel
theorem dX3_nodes_20 : decode cX3_nodes 20 = .ok (.invokevirtual 152, 3) := by decide +kernel
theorem dX3_nodes_23 : decode cX3_nodes 23 = .ok (.ireturn, 1) := by decide +kernel
theorem dX3_inUse_0 : decode cX3_inUse 0 = .ok (.aload_n 0, 1) := by decide +kernel
theorem dX3_inUse_1 : decode cX3_inUse 1 = .ok (.invokevirtual 155, 3) := by decide +kernel
theorem dX3_inUse_4 : decode cX3_inUse 4 = .ok (.aload_n 0, 1) := by decide +kernel
theorem dX3_inUse_5 : decode cX3_inUse 5 = .ok (.getfield 25, 3) := by decide +kernel
theorem dX3_inUse_8 : decode cX3_inUse 8 = .ok (.invokevirtual 158, 3) := by decide +kernel
theorem dX3_inUse_11 : decode cX3_inUse 11 = .ok (.ireturn, 1) := by decide +kernel
theorem dX3_common_0 : decode cX3_common 0 = .ok (.aload_n 0, 1) := by decide +kernel
theorem dX3_common_1 : decode cX3_common 1 = .ok (.iload_n 1, 1) := by decide +kernel
theorem dX3_common_2 : decode cX3_common 2 = .ok (.invokevirtual 139, 3) := by decide +kernel
theorem dX3_common_5 : decode cX3_common 5 = .ok (.ifCond .eq 11, 3) := by decide +kernel
theorem dX3_common_8 : decode cX3_common 8 = .ok (.aload_n 0, 1) := by decide +kernel
theorem dX3_common_9 : decode cX3_common 9 = .ok (.iload_n 2, 1) := by decide +kernel
theorem dX3_common_10 : decode cX3_common 10 = .ok (.invokevirtual 139, 3) := by decide +kernel
theorem dX3_common_13 : decode cX3_common 13 = .ok (.ifCond .ne 5, 3) := by decide +kernel
theorem dX3_common_16 : decode cX3_common 16 = .ok (.iconst (-1), 1) := by decide +kernel
theorem dX3_common_17 : decode cX3_common 17 = .ok (.ireturn, 1) := by decide +kernel
theorem dX3_common_18 : decode cX3_common 18 = .ok (.aload_n 0, 1) := by decide +kernel
theorem dX3_common_19 : decode cX3_common 19 = .ok (.getfield 25, 3) := by decide +kernel
theorem dX3_common_22 : decode cX3_common 22 = .ok (.aload_n 0, 1) := by decide +kernel
theorem dX3_common_23 : decode cX3_common 23 = .ok (.getfield 29, 3) := by decide +kernel
theorem dX3_common_26 : decode cX3_common 26 = .ok (.iload_n 1, 1) := by decide +kernel
theorem dX3_common_27 : decode cX3_common 27 = .ok (.iaload, 1) := by decide +kernel
theorem dX3_common_28 : decode cX3_common 28 = .ok (.aload_n 0, 1) := by decide +kernel
theorem dX3_common_29 : decode cX3_common 29 = .ok (.getfield 29, 3) := by decide +kernel
theorem dX3_common_32 : decode cX3_common 32 = .ok (.iload_n 2, 1) := by decide +kernel
theorem dX3_common_33 : decode cX3_common 33 = .ok (.iaload, 1) := by decide +kernel
theorem dX3_common_34 : decode cX3_common 34 = .ok (.invokevirtual 161, 3) := by decide +kernel
theorem dX3_common_37 : decode cX3_common 37 = .ok (.ireturn, 1) := by decide +kernel
theorem dX3_peak_0 : decode cX3_peak 0 = .ok (.aload_n 0, 1) := by decide +kernel
theorem dX3_peak_1 : decode cX3_peak 1 = .ok (.getfield 46, 3) := by decide +kernel
theorem dX3_peak_4 : decode cX3_peak 4 = .ok (.ireturn, 1) := by decide +kernel
theorem dX3_value_0 : decode cX3_value 0 = .ok (.aload_n 0, 1) := by decide +kernel
theorem dX3_value_1 : decode cX3_value 1 = .ok (.iload_n 1, 1) := by decide +kernel
theorem dX3_value_2 : decode cX3_value 2 = .ok (.invokevirtual 139, 3) := by decide +kernel
theorem dX3_value_5 : decode cX3_value 5 = .ok (.ifCond .ne 5, 3) := by decide +kernel
theorem dX3_value_8 : decode cX3_value 8 = .ok (.iconst (-1), 1) := by decide +kernel
theorem dX3_value_9 : decode cX3_value 9 = .ok (.ireturn, 1) := by decide +kernel
theorem dX3_value_10 : decode cX3_value 10 = .ok (.iload_n 2, 1) := by decide +kernel
theorem dX3_value_11 : decode cX3_value 11 = .ok (.invokestatic 91, 3) := by decide +kernel
theorem dX3_value_14 : decode cX3_value 14 = .ok (.ifCond .ne 6, 3) := by decide +kernel
theorem dX3_value_17 : decode cX3_value 17 = .ok (.bipush (-2), 2) := by decide +kernel
theorem dX3_value_19 : decode cX3_value 19 = .ok (.ireturn, 1) := by decide +kernel
theorem dX3_value_20 : decode cX3_value 20 = .ok (.aload_n 0, 1) := by decide +kernel
theorem dX3_value_21 : decode cX3_value 21 = .ok (.getfield 25, 3) := by decide +kernel
theorem dX3_value_24 : decode cX3_value 24 = .ok (.aload_n 0, 1) := by decide +kernel
theorem dX3_value_25 : decode cX3_value 25 = .ok (.getfield 29, 3) := by decide +kernel
theorem dX3_value_28 : decode cX3_value 28 = .ok (.iload_n 1, 1) := by decide +kernel
theorem dX3_value_29 : decode cX3_value 29 = .ok (.iaload, 1) := by decide +kernel
theorem dX3_value_30 : decode cX3_value 30 = .ok (.iload_n 2, 1) := by decide +kernel
theorem dX3_value_31 : decode cX3_value 31 = .ok (.aload_n 0, 1) := by decide +kernel
theorem dX3_value_32 : decode cX3_value 32 = .ok (.getfield 18, 3) := by decide +kernel
theorem dX3_value_35 : decode cX3_value 35 = .ok (.invokevirtual 164, 3) := by decide +kernel
theorem dX3_value_38 : decode cX3_value 38 = .ok (.ireturn, 1) := by decide +kernel
theorem dX3_same_0 : decode cX3_same 0 = .ok (.aload_n 0, 1) := by decide +kernel
theorem dX3_same_1 : decode cX3_same 1 = .ok (.iload_n 1, 1) := by decide +kernel
theorem dX3_same_2 : decode cX3_same 2 = .ok (.invokevirtual 139, 3) := by decide +kernel
theorem dX3_same_5 : decode cX3_same 5 = .ok (.ifCond .eq 11, 3) := by decide +kernel
theorem dX3_same_8 : decode cX3_same 8 = .ok (.aload_n 0, 1) := by decide +kernel
theorem dX3_same_9 : decode cX3_same 9 = .ok (.iload_n 2, 1) := by decide +kernel
theorem dX3_same_10 : decode cX3_same 10 = .ok (.invokevirtual 139, 3) := by decide +kernel
theorem dX3_same_13 : decode cX3_same 13 = .ok (.ifCond .ne 5, 3) := by decide +kernel
theorem dX3_same_16 : decode cX3_same 16 = .ok (.iconst (-1), 1) := by decide +kernel
theorem dX3_same_17 : decode cX3_same 17 = .ok (.ireturn, 1) := by decide +kernel
theorem dX3_same_18 : decode cX3_same 18 = .ok (.aload_n 0, 1) := by decide +kernel
theorem dX3_same_19 : decode cX3_same 19 = .ok (.getfield 29, 3) := by decide +kernel
theorem dX3_same_22 : decode cX3_same 22 = .ok (.iload_n 1, 1) := by decide +kernel
theorem dX3_same_23 : decode cX3_same 23 = .ok (.iaload, 1) := by decide +kernel
theorem dX3_same_24 : decode cX3_same 24 = .ok (.aload_n 0, 1) := by decide +kernel
theorem dX3_same_25 : decode cX3_same 25 = .ok (.getfield 29, 3) := by decide +kernel
theorem dX3_same_28 : decode cX3_same 28 = .ok (.iload_n 2, 1) := by decide +kernel
theorem dX3_same_29 : decode cX3_same 29 = .ok (.iaload, 1) := by decide +kernel
theorem dX3_same_30 : decode cX3_same 30 = .ok (.if_icmp .ne 7, 3) := by decide +kernel
theorem dX3_same_33 : decode cX3_same 33 = .ok (.iconst 1, 1) := by decide +kernel
theorem dX3_same_34 : decode cX3_same 34 = .ok (.goto 4, 3) := by decide +kernel
theorem dX3_same_37 : decode cX3_same 37 = .ok (.iconst 0, 1) := by decide +kernel
theorem dX3_same_38 : decode cX3_same 38 = .ok (.ireturn, 1) := by decide +kernel
theorem dX3_count_0 : decode cX3_count 0 = .ok (.aload_n 0, 1) := by decide +kernel
theorem dX3_count_1 : decode cX3_count 1 = .ok (.iload_n 1, 1) := by decide +kernel
theorem dX3_count_2 : decode cX3_count 2 = .ok (.invokevirtual 139, 3) := by decide +kernel
theorem dX3_count_5 : decode cX3_count 5 = .ok (.ifCond .ne 5, 3) := by decide +kernel
theorem dX3_count_8 : decode cX3_count 8 = .ok (.iconst (-1), 1) := by decide +kernel
theorem dX3_count_9 : decode cX3_count 9 = .ok (.ireturn, 1) := by decide +kernel
theorem dX3_count_10 : decode cX3_count 10 = .ok (.iconst 0, 1) := by decide +kernel
theorem dX3_count_11 : decode cX3_count 11 = .ok (.istore_n 2, 1) := by decide +kernel
theorem dX3_count_12 : decode cX3_count 12 = .ok (.iconst 0, 1) := by decide +kernel
theorem dX3_count_13 : decode cX3_count 13 = .ok (.istore_n 3, 1) := by decide +kernel
theorem dX3_count_14 : decode cX3_count 14 = .ok (.iload_n 3, 1) := by decide +kernel
theorem dX3_count_15 : decode cX3_count 15 = .ok (.sipush 256, 3) := by decide +kernel
theorem dX3_count_18 : decode cX3_count 18 = .ok (.if_icmp .ge 30, 3) := by decide +kernel
theorem dX3_count_21 : decode cX3_count 21 = .ok (.iload_n 2, 1) := by decide +kernel
theorem dX3_count_22 : decode cX3_count 22 = .ok (.aload_n 0, 1) := by decide +kernel
theorem dX3_count_23 : decode cX3_count 23 = .ok (.getfield 25, 3) := by decide +kernel
theorem dX3_count_26 : decode cX3_count 26 = .ok (.aload_n 0, 1) := by decide +kernel
theorem dX3_count_27 : decode cX3_count 27 = .ok (.getfield 29, 3) := by decide +kernel
theorem dX3_count_30 : decode cX3_count 30 = .ok (.iload_n 1, 1) := by decide +kernel
theorem dX3_count_31 : decode cX3_count 31 = .ok (.iaload, 1) := by decide +kernel
theorem dX3_count_32 : decode cX3_count 32 = .ok (.iload_n 3, 1) := by decide +kernel
theorem dX3_count_33 : decode cX3_count 33 = .ok (.aload_n 0, 1) := by decide +kernel
theorem dX3_count_34 : decode cX3_count 34 = .ok (.getfield 18, 3) := by decide +kernel
theorem dX3_count_37 : decode cX3_count 37 = .ok (.invokevirtual 164, 3) := by decide +kernel
theorem dX3_count_40 : decode cX3_count 40 = .ok (.iadd, 1) := by decide +kernel
theorem dX3_count_41 : decode cX3_count 41 = .ok (.istore_n 2, 1) := by decide +kernel
theorem dX3_count_42 : decode cX3_count 42 = .ok (.iinc 3 1, 3) := by decide +kernel
theorem dX3_count_45 : decode cX3_count 45 = .ok (.goto (-31), 3) := by decide +kernel
theorem dX3_count_48 : decode cX3_count 48 = .ok (.iload_n 2, 1) := by decide +kernel
theorem dX3_count_49 : decode cX3_count 49 = .ok (.ireturn, 1) := by decide +kernel
theorem dX3_support_0 : decode cX3_support 0 = .ok (.aload_n 0, 1) := by decide +kernel
theorem dX3_support_1 : decode cX3_support 1 = .ok (.iload_n 1, 1) := by decide +kernel
theorem dX3_support_2 : decode cX3_support 2 = .ok (.invokevirtual 139, 3) := by decide +kernel
theorem dX3_support_5 : decode cX3_support 5 = .ok (.ifCond .ne 5, 3) := by decide +kernel
theorem dX3_support_8 : decode cX3_support 8 = .ok (.iconst (-1), 1) := by decide +kernel
theorem dX3_support_9 : decode cX3_support 9 = .ok (.ireturn, 1) := by decide +kernel
theorem dX3_support_10 : decode cX3_support 10 = .ok (.iconst 0, 1) := by decide +kernel
theorem dX3_support_11 : decode cX3_support 11 = .ok (.istore_n 2, 1) := by decide +kernel
theorem dX3_support_12 : decode cX3_support 12 = .ok (.iconst 0, 1) := by decide +kernel
theorem dX3_support_13 : decode cX3_support 13 = .ok (.istore_n 3, 1) := by decide +kernel
theorem dX3_support_14 : decode cX3_support 14 = .ok (.iload_n 3, 1) := by decide +kernel
theorem dX3_support_15 : decode cX3_support 15 = .ok (.bipush 8, 2) := by decide +kernel
theorem dX3_support_17 : decode cX3_support 17 = .ok (.if_icmp .ge 39, 3) := by decide +kernel
theorem dX3_support_20 : decode cX3_support 20 = .ok (.aload_n 0, 1) := by decide +kernel
theorem dX3_support_21 : decode cX3_support 21 = .ok (.getfield 25, 3) := by decide +kernel
theorem dX3_support_24 : decode cX3_support 24 = .ok (.aload_n 0, 1) := by decide +kernel
theorem dX3_support_25 : decode cX3_support 25 = .ok (.getfield 29, 3) := by decide +kernel
theorem dX3_support_28 : decode cX3_support 28 = .ok (.iload_n 1, 1) := by decide +kernel
theorem dX3_support_29 : decode cX3_support 29 = .ok (.iaload, 1) := by decide +kernel
theorem dX3_support_30 : decode cX3_support 30 = .ok (.iload_n 3, 1) := by decide +kernel
theorem dX3_support_31 : decode cX3_support 31 = .ok (.invokevirtual 168, 3) := by decide +kernel
theorem dX3_support_34 : decode cX3_support 34 = .ok (.ifCond .le 16, 3) := by decide +kernel
theorem dX3_support_37 : decode cX3_support 37 = .ok (.iload_n 2, 1) := by decide +kernel
theorem dX3_support_38 : decode cX3_support 38 = .ok (.iconst 1, 1) := by decide +kernel
theorem dX3_support_39 : decode cX3_support 39 = .ok (.aload_n 0, 1) := by decide +kernel
theorem dX3_support_40 : decode cX3_support 40 = .ok (.getfield 18, 3) := by decide +kernel
theorem dX3_support_43 : decode cX3_support 43 = .ok (.iload_n 3, 1) := by decide +kernel
theorem dX3_support_44 : decode cX3_support 44 = .ok (.invokevirtual 114, 3) := by decide +kernel
theorem dX3_support_47 : decode cX3_support 47 = .ok (.ishl, 1) := by decide +kernel
theorem dX3_support_48 : decode cX3_support 48 = .ok (.ior, 1) := by decide +kernel
theorem dX3_support_49 : decode cX3_support 49 = .ok (.istore_n 2, 1) := by decide +kernel
theorem dX3_support_50 : decode cX3_support 50 = .ok (.iinc 3 1, 3) := by decide +kernel
theorem dX3_support_53 : decode cX3_support 53 = .ok (.goto (-39), 3) := by decide +kernel
theorem dX3_support_56 : decode cX3_support 56 = .ok (.iload_n 2, 1) := by decide +kernel
theorem dX3_support_57 : decode cX3_support 57 = .ok (.ireturn, 1) := by decide +kernel
theorem dX3_top_0 : decode cX3_top 0 = .ok (.aload_n 0, 1) := by decide +kernel
theorem dX3_top_1 : decode cX3_top 1 = .ok (.iload_n 1, 1) := by decide +kernel
theorem dX3_top_2 : decode cX3_top 2 = .ok (.invokevirtual 139, 3) := by decide +kernel
theorem dX3_top_5 : decode cX3_top 5 = .ok (.ifCond .ne 5, 3) := by decide +kernel
theorem dX3_top_8 : decode cX3_top 8 = .ok (.iconst (-1), 1) := by decide +kernel
theorem dX3_top_9 : decode cX3_top 9 = .ok (.ireturn, 1) := by decide +kernel
theorem dX3_top_10 : decode cX3_top 10 = .ok (.aload_n 0, 1) := by decide +kernel
theorem dX3_top_11 : decode cX3_top 11 = .ok (.getfield 25, 3) := by decide +kernel
theorem dX3_top_14 : decode cX3_top 14 = .ok (.aload_n 0, 1) := by decide +kernel
theorem dX3_top_15 : decode cX3_top 15 = .ok (.getfield 29, 3) := by decide +kernel
theorem dX3_top_18 : decode cX3_top 18 = .ok (.iload_n 1, 1) := by decide +kernel
theorem dX3_top_19 : decode cX3_top 19 = .ok (.iaload, 1) := by decide +kernel
theorem dX3_top_20 : decode cX3_top 20 = .ok (.invokevirtual 171, 3) := by decide +kernel
theorem dX3_top_23 : decode cX3_top 23 = .ok (.istore_n 2, 1) := by decide +kernel
theorem dX3_top_24 : decode cX3_top 24 = .ok (.iload_n 2, 1) := by decide +kernel
theorem dX3_top_25 : decode cX3_top 25 = .ok (.bipush 8, 2) := by decide +kernel
theorem dX3_top_27 : decode cX3_top 27 = .ok (.if_icmp .ge 14, 3) := by decide +kernel
theorem dX3_top_30 : decode cX3_top 30 = .ok (.aload_n 0, 1) := by decide +kernel
theorem dX3_top_31 : decode cX3_top 31 = .ok (.getfield 18, 3) := by decide +kernel
theorem dX3_top_34 : decode cX3_top 34 = .ok (.iload_n 2, 1) := by decide +kernel
theorem dX3_top_35 : decode cX3_top 35 = .ok (.invokevirtual 114, 3) := by decide +kernel
theorem dX3_top_38 : decode cX3_top 38 = .ok (.goto 5, 3) := by decide +kernel
theorem dX3_top_41 : decode cX3_top 41 = .ok (.bipush (-9), 2) := by decide +kernel
theorem dX3_top_43 : decode cX3_top 43 = .ok (.ireturn, 1) := by decide +kernel
theorem dX3_level_0 : decode cX3_level 0 = .ok (.aload_n 0, 1) := by decide +kernel
theorem dX3_level_1 : decode cX3_level 1 = .ok (.iload_n 1, 1) := by decide +kernel
theorem dX3_level_2 : decode cX3_level 2 = .ok (.invokevirtual 139, 3) := by decide +kernel
theorem dX3_level_5 : decode cX3_level 5 = .ok (.ifCond .ne 5, 3) := by decide +kernel
theorem dX3_level_8 : decode cX3_level 8 = .ok (.iconst (-1), 1) := by decide +kernel
theorem dX3_level_9 : decode cX3_level 9 = .ok (.ireturn, 1) := by decide +kernel
theorem dX3_level_10 : decode cX3_level 10 = .ok (.iload_n 2, 1) := by decide +kernel
theorem dX3_level_11 : decode cX3_level 11 = .ok (.invokestatic 70, 3) := by decide +kernel
theorem dX3_level_14 : decode cX3_level 14 = .ok (.ifCond .ne 6, 3) := by decide +kernel
theorem dX3_level_17 : decode cX3_level 17 = .ok (.bipush (-2), 2) := by decide +kernel
theorem dX3_level_19 : decode cX3_level 19 = .ok (.ireturn, 1) := by decide +kernel
theorem dX3_level_20 : decode cX3_level 20 = .ok (.aload_n 0, 1) := by decide +kernel
theorem dX3_level_21 : decode cX3_level 21 = .ok (.getfield 25, 3) := by decide +kernel
theorem dX3_level_24 : decode cX3_level 24 = .ok (.aload_n 0, 1) := by decide +kernel
theorem dX3_level_25 : decode cX3_level 25 = .ok (.getfield 29, 3) := by decide +kernel
theorem dX3_level_28 : decode cX3_level 28 = .ok (.iload_n 1, 1) := by decide +kernel
theorem dX3_level_29 : decode cX3_level 29 = .ok (.iaload, 1) := by decide +kernel
theorem dX3_level_30 : decode cX3_level 30 = .ok (.aload_n 0, 1) := by decide +kernel
theorem dX3_level_31 : decode cX3_level 31 = .ok (.getfield 18, 3) := by decide +kernel
theorem dX3_level_34 : decode cX3_level 34 = .ok (.iload_n 2, 1) := by decide +kernel
theorem dX3_level_35 : decode cX3_level 35 = .ok (.invokevirtual 174, 3) := by decide +kernel
theorem dX3_level_38 : decode cX3_level 38 = .ok (.invokevirtual 168, 3) := by decide +kernel
theorem dX3_level_41 : decode cX3_level 41 = .ok (.ireturn, 1) := by decide +kernel
theorem dX3_least_0 : decode cX3_least 0 = .ok (.aload_n 0, 1) := by decide +kernel
theorem dX3_least_1 : decode cX3_least 1 = .ok (.iload_n 1, 1) := by decide +kernel
theorem dX3_least_2 : decode cX3_least 2 = .ok (.invokevirtual 139, 3) := by decide +kernel
theorem dX3_least_5 : decode cX3_least 5 = .ok (.ifCond .ne 5, 3) := by decide +kernel
theorem dX3_least_8 : decode cX3_least 8 = .ok (.iconst (-1), 1) := by decide +kernel
theorem dX3_least_9 : decode cX3_least 9 = .ok (.ireturn, 1) := by decide +kernel
theorem dX3_least_10 : decode cX3_least 10 = .ok (.aload_n 0, 1) := by decide +kernel
theorem dX3_least_11 : decode cX3_least 11 = .ok (.getfield 25, 3) := by decide +kernel
theorem dX3_least_14 : decode cX3_least 14 = .ok (.aload_n 0, 1) := by decide +kernel
theorem dX3_least_15 : decode cX3_least 15 = .ok (.getfield 29, 3) := by decide +kernel
theorem dX3_least_18 : decode cX3_least 18 = .ok (.iload_n 1, 1) := by decide +kernel
theorem dX3_least_19 : decode cX3_least 19 = .ok (.iaload, 1) := by decide +kernel
theorem dX3_least_20 : decode cX3_least 20 = .ok (.iload_n 2, 1) := by decide +kernel
theorem dX3_least_21 : decode cX3_least 21 = .ok (.ifCond .eq 7, 3) := by decide +kernel
theorem dX3_least_24 : decode cX3_least 24 = .ok (.iconst 1, 1) := by decide +kernel
theorem dX3_least_25 : decode cX3_least 25 = .ok (.goto 4, 3) := by decide +kernel
theorem dX3_least_28 : decode cX3_least 28 = .ok (.iconst 0, 1) := by decide +kernel
theorem dX3_least_29 : decode cX3_least 29 = .ok (.aload_n 0, 1) := by decide +kernel
theorem dX3_least_30 : decode cX3_least 30 = .ok (.getfield 18, 3) := by decide +kernel
theorem dX3_least_33 : decode cX3_least 33 = .ok (.invokevirtual 175, 3) := by decide +kernel
theorem dX3_least_36 : decode cX3_least 36 = .ok (.ireturn, 1) := by decide +kernel
theorem dX3_paths_0 : decode cX3_paths 0 = .ok (.aload_n 0, 1) := by decide +kernel
theorem dX3_paths_1 : decode cX3_paths 1 = .ok (.iload_n 1, 1) := by decide +kernel
theorem dX3_paths_2 : decode cX3_paths 2 = .ok (.invokevirtual 139, 3) := by decide +kernel
theorem dX3_paths_5 : decode cX3_paths 5 = .ok (.ifCond .ne 5, 3) := by decide +kernel
theorem dX3_paths_8 : decode cX3_paths 8 = .ok (.iconst (-1), 1) := by decide +kernel
theorem dX3_paths_9 : decode cX3_paths 9 = .ok (.ireturn, 1) := by decide +kernel
theorem dX3_paths_10 : decode cX3_paths 10 = .ok (.aload_n 0, 1) := by decide +kernel
theorem dX3_paths_11 : decode cX3_paths 11 = .ok (.getfield 25, 3) := by decide +kernel
theorem dX3_paths_14 : decode cX3_paths 14 = .ok (.aload_n 0, 1) := by decide +kernel
theorem dX3_paths_15 : decode cX3_paths 15 = .ok (.getfield 29, 3) := by decide +kernel
theorem dX3_paths_18 : decode cX3_paths 18 = .ok (.iload_n 1, 1) := by decide +kernel
theorem dX3_paths_19 : decode cX3_paths 19 = .ok (.iaload, 1) := by decide +kernel
theorem dX3_paths_20 : decode cX3_paths 20 = .ok (.iload_n 2, 1) := by decide +kernel
theorem dX3_paths_21 : decode cX3_paths 21 = .ok (.ifCond .eq 7, 3) := by decide +kernel
theorem dX3_paths_24 : decode cX3_paths 24 = .ok (.iconst 1, 1) := by decide +kernel
theorem dX3_paths_25 : decode cX3_paths 25 = .ok (.goto 4, 3) := by decide +kernel
theorem dX3_paths_28 : decode cX3_paths 28 = .ok (.iconst 0, 1) := by decide +kernel
theorem dX3_paths_29 : decode cX3_paths 29 = .ok (.invokevirtual 178, 3) := by decide +kernel
theorem dX3_paths_32 : decode cX3_paths 32 = .ok (.ireturn, 1) := by decide +kernel
theorem dX3_equal_0 : decode cX3_equal 0 = .ok (.iload_n 1, 1) := by decide +kernel
theorem dX3_equal_1 : decode cX3_equal 1 = .ok (.invokestatic 62, 3) := by decide +kernel
theorem dX3_equal_4 : decode cX3_equal 4 = .ok (.ifCond .eq 10, 3) := by decide +kernel
theorem dX3_equal_7 : decode cX3_equal 7 = .ok (.iload_n 2, 1) := by decide +kernel
theorem dX3_equal_8 : decode cX3_equal 8 = .ok (.invokestatic 62, 3) := by decide +kernel
theorem dX3_equal_11 : decode cX3_equal 11 = .ok (.ifCond .ne 5, 3) := by decide +kernel
theorem dX3_equal_14 : decode cX3_equal 14 = .ok (.iconst (-1), 1) := by decide +kernel
theorem dX3_equal_15 : decode cX3_equal 15 = .ok (.ireturn, 1) := by decide +kernel
theorem dX3_equal_16 : decode cX3_equal 16 = .ok (.aload_n 0, 1) := by decide +kernel
theorem dX3_equal_17 : decode cX3_equal 17 = .ok (.getfield 11, 3) := by decide +kernel
theorem dX3_equal_20 : decode cX3_equal 20 = .ok (.iload_n 1, 1) := by decide +kernel
theorem dX3_equal_21 : decode cX3_equal 21 = .ok (.aaload, 1) := by decide +kernel
theorem dX3_equal_22 : decode cX3_equal 22 = .ok (.invokevirtual 181, 3) := by decide +kernel
theorem dX3_equal_25 : decode cX3_equal 25 = .ok (.istore_n 3, 1) := by decide +kernel
theorem dX3_equal_26 : decode cX3_equal 26 = .ok (.iload_n 3, 1) := by decide +kernel
theorem dX3_equal_27 : decode cX3_equal 27 = .ok (.aload_n 0, 1) := by decide +kernel
theorem dX3_equal_28 : decode cX3_equal 28 = .ok (.getfield 11, 3) := by decide +kernel
theorem dX3_equal_31 : decode cX3_equal 31 = .ok (.iload_n 2, 1) := by decide +kernel
theorem dX3_equal_32 : decode cX3_equal 32 = .ok (.aaload, 1) := by decide +kernel
theorem dX3_equal_33 : decode cX3_equal 33 = .ok (.invokevirtual 181, 3) := by decide +kernel
theorem dX3_equal_36 : decode cX3_equal 36 = .ok (.if_icmp .eq 6, 3) := by decide +kernel
theorem dX3_equal_39 : decode cX3_equal 39 = .ok (.bipush (-3), 2) := by decide +kernel
theorem dX3_equal_41 : decode cX3_equal 41 = .ok (.ireturn, 1) := by decide +kernel
theorem dX3_equal_42 : decode cX3_equal 42 = .ok (.iload_n 3, 1) := by decide +kernel
theorem dX3_equal_43 : decode cX3_equal 43 = .ok (.ifCond .le 7, 3) := by decide +kernel
theorem dX3_equal_46 : decode cX3_equal 46 = .ok (.aload_n 0, 1) := by decide +kernel
theorem dX3_equal_47 : decode cX3_equal 47 = .ok (.invokevirtual 126, 3) := by decide +kernel
theorem dX3_equal_50 : decode cX3_equal 50 = .ok (.iconst 0, 1) := by decide +kernel
theorem dX3_equal_51 : decode cX3_equal 51 = .ok (.istore 4, 2) := by decide +kernel
theorem dX3_equal_53 : decode cX3_equal 53 = .ok (.iconst 0, 1) := by decide +kernel
theorem dX3_equal_54 : decode cX3_equal 54 = .ok (.istore 5, 2) := by decide +kernel
theorem dX3_equal_56 : decode cX3_equal 56 = .ok (.iload 5, 2) := by decide +kernel
theorem dX3_equal_58 : decode cX3_equal 58 = .ok (.iload_n 3, 1) := by decide +kernel
theorem dX3_equal_59 : decode cX3_equal 59 = .ok (.if_icmp .ge 73, 3) := by decide +kernel
theorem dX3_equal_62 : decode cX3_equal 62 = .ok (.iload 4, 2) := by decide +kernel
theorem dX3_equal_64 : decode cX3_equal 64 = .ok (.ifCond .ne 68, 3) := by decide +kernel
theorem dX3_equal_67 : decode cX3_equal 67 = .ok (.aload_n 0, 1) := by decide +kernel
theorem dX3_equal_68 : decode cX3_equal 68 = .ok (.aload_n 0, 1) := by decide +kernel
theorem dX3_equal_69 : decode cX3_equal 69 = .ok (.getfield 11, 3) := by decide +kernel
theorem dX3_equal_72 : decode cX3_equal 72 = .ok (.iload_n 1, 1) := by decide +kernel
theorem dX3_equal_73 : decode cX3_equal 73 = .ok (.aaload, 1) := by decide +kernel
theorem dX3_equal_74 : decode cX3_equal 74 = .ok (.iload 5, 2) := by decide +kernel
theorem dX3_equal_76 : decode cX3_equal 76 = .ok (.invokevirtual 129, 3) := by decide +kernel
theorem dX3_equal_79 : decode cX3_equal 79 = .ok (.istore 6, 2) := by decide +kernel
theorem dX3_equal_81 : decode cX3_equal 81 = .ok (.iload 6, 2) := by decide +kernel
theorem dX3_equal_83 : decode cX3_equal 83 = .ok (.iconst (-1), 1) := by decide +kernel
theorem dX3_equal_84 : decode cX3_equal 84 = .ok (.if_icmp .ne 7, 3) := by decide +kernel
theorem dX3_equal_87 : decode cX3_equal 87 = .ok (.iconst (-1), 1) := by decide +kernel
theorem dX3_equal_88 : decode cX3_equal 88 = .ok (.goto 15, 3) := by decide +kernel
theorem dX3_equal_91 : decode cX3_equal 91 = .ok (.aload_n 0, 1) := by decide +kernel
theorem dX3_equal_92 : decode cX3_equal 92 = .ok (.aload_n 0, 1) := by decide +kernel
theorem dX3_equal_93 : decode cX3_equal 93 = .ok (.getfield 11, 3) := by decide +kernel
theorem dX3_equal_96 : decode cX3_equal 96 = .ok (.iload_n 2, 1) := by decide +kernel
theorem dX3_equal_97 : decode cX3_equal 97 = .ok (.aaload, 1) := by decide +kernel
theorem dX3_equal_98 : decode cX3_equal 98 = .ok (.iload 5, 2) := by decide +kernel
theorem dX3_equal_100 : decode cX3_equal 100 = .ok (.invokevirtual 129, 3) := by decide +kernel
theorem dX3_equal_103 : decode cX3_equal 103 = .ok (.istore 7, 2) := by decide +kernel
theorem dX3_equal_105 : decode cX3_equal 105 = .ok (.aload_n 0, 1) := by decide +kernel
theorem dX3_equal_106 : decode cX3_equal 106 = .ok (.bipush 6, 2) := by decide +kernel
theorem dX3_equal_108 : decode cX3_equal 108 = .ok (.iload 6, 2) := by decide +kernel
theorem dX3_equal_110 : decode cX3_equal 110 = .ok (.iload 7, 2) := by decide +kernel
theorem dX3_equal_112 : decode cX3_equal 112 = .ok (.iconst 0, 1) := by decide +kernel
theorem dX3_equal_113 : decode cX3_equal 113 = .ok (.invokevirtual 142, 3) := by decide +kernel
theorem dX3_equal_116 : decode cX3_equal 116 = .ok (.istore 4, 2) := by decide +kernel
theorem dX3_equal_118 : decode cX3_equal 118 = .ok (.aload_n 0, 1) := by decide +kernel
theorem dX3_equal_119 : decode cX3_equal 119 = .ok (.iload 5, 2) := by decide +kernel
theorem dX3_equal_121 : decode cX3_equal 121 = .ok (.iload 4, 2) := by decide +kernel
theorem dX3_equal_123 : decode cX3_equal 123 = .ok (.invokevirtual 184, 3) := by decide +kernel
theorem dX3_equal_126 : decode cX3_equal 126 = .ok (.iinc 5 1, 3) := by decide +kernel
theorem dX3_equal_129 : decode cX3_equal 129 = .ok (.goto (-73), 3) := by decide +kernel
theorem dX3_equal_132 : decode cX3_equal 132 = .ok (.aload_n 0, 1) := by decide +kernel
theorem dX3_equal_133 : decode cX3_equal 133 = .ok (.invokevirtual 188, 3) := by decide +kernel
theorem dX3_equal_136 : decode cX3_equal 136 = .ok (.iload 4, 2) := by decide +kernel
theorem dX3_equal_138 : decode cX3_equal 138 = .ok (.iconst (-1), 1) := by decide +kernel
theorem dX3_equal_139 : decode cX3_equal 139 = .ok (.if_icmp .ne 8, 3) := by decide +kernel
theorem dX3_equal_142 : decode cX3_equal 142 = .ok (.bipush (-5), 2) := by decide +kernel
theorem dX3_equal_144 : decode cX3_equal 144 = .ok (.goto 13, 3) := by decide +kernel
theorem dX3_equal_147 : decode cX3_equal 147 = .ok (.iload 4, 2) := by decide +kernel
theorem dX3_equal_149 : decode cX3_equal 149 = .ok (.ifCond .ne 7, 3) := by decide +kernel
theorem dX3_equal_152 : decode cX3_equal 152 = .ok (.iconst 1, 1) := by decide +kernel
theorem dX3_equal_153 : decode cX3_equal 153 = .ok (.goto 4, 3) := by decide +kernel
theorem dX3_equal_156 : decode cX3_equal 156 = .ok (.iconst 0, 1) := by decide +kernel
theorem dX3_equal_157 : decode cX3_equal 157 = .ok (.ireturn, 1) := by decide +kernel
theorem dX3_parting_0 : decode cX3_parting 0 = .ok (.iload_n 1, 1) := by decide +kernel
theorem dX3_parting_1 : decode cX3_parting 1 = .ok (.ifCond .lt 8, 3) := by decide +kernel
theorem dX3_parting_4 : decode cX3_parting 4 = .ok (.iload_n 1, 1) := by decide +kernel
theorem dX3_parting_5 : decode cX3_parting 5 = .ok (.iconst 1, 1) := by decide +kernel
theorem dX3_parting_6 : decode cX3_parting 6 = .ok (.if_icmp .le 6, 3) := by decide +kernel
theorem dX3_parting_9 : decode cX3_parting 9 = .ok (.bipush (-2), 2) := by decide +kernel
theorem dX3_parting_11 : decode cX3_parting 11 = .ok (.ireturn, 1) := by decide +kernel
theorem dX3_parting_12 : decode cX3_parting 12 = .ok (.iload_n 1, 1) := by decide +kernel
theorem dX3_parting_13 : decode cX3_parting 13 = .ok (.ifCond .ne 10, 3) := by decide +kernel
theorem dX3_parting_16 : decode cX3_parting 16 = .ok (.aload_n 0, 1) := by decide +kernel
theorem dX3_parting_17 : decode cX3_parting 17 = .ok (.getfield 49, 3) := by decide +kernel
theorem dX3_parting_20 : decode cX3_parting 20 = .ok (.goto 7, 3) := by decide +kernel
theorem dX3_parting_23 : decode cX3_parting 23 = .ok (.aload_n 0, 1) := by decide +kernel
theorem dX3_parting_24 : decode cX3_parting 24 = .ok (.getfield 52, 3) := by decide +kernel
theorem dX3_parting_27 : decode cX3_parting 27 = .ok (.ireturn, 1) := by decide +kernel
theorem dX3_told_0 : decode cX3_told 0 = .ok (.iload_n 1, 1) := by decide +kernel
theorem dX3_told_1 : decode cX3_told 1 = .ok (.ifCond .lt 9, 3) := by decide +kernel
theorem dX3_told_4 : decode cX3_told 4 = .ok (.iload_n 1, 1) := by decide +kernel
theorem dX3_told_5 : decode cX3_told 5 = .ok (.bipush 7, 2) := by decide +kernel
theorem dX3_told_7 : decode cX3_told 7 = .ok (.if_icmp .le 6, 3) := by decide +kernel
theorem dX3_told_10 : decode cX3_told 10 = .ok (.bipush (-2), 2) := by decide +kernel
theorem dX3_told_12 : decode cX3_told 12 = .ok (.ireturn, 1) := by decide +kernel
theorem dX3_told_13 : decode cX3_told 13 = .ok (.iload_n 1, 1) := by decide +kernel
theorem dX3_told_14 : decode cX3_told 14 = .ok (.iconst 3, 1) := by decide +kernel
theorem dX3_told_15 : decode cX3_told 15 = .ok (.if_icmp .ge 13, 3) := by decide +kernel
theorem dX3_told_18 : decode cX3_told 18 = .ok (.aload_n 0, 1) := by decide +kernel
theorem dX3_told_19 : decode cX3_told 19 = .ok (.getfield 11, 3) := by decide +kernel
theorem dX3_told_22 : decode cX3_told 22 = .ok (.iload_n 1, 1) := by decide +kernel
theorem dX3_told_23 : decode cX3_told 23 = .ok (.aaload, 1) := by decide +kernel
theorem dX3_told_24 : decode cX3_told 24 = .ok (.invokevirtual 191, 3) := by decide +kernel
theorem dX3_told_27 : decode cX3_told 27 = .ok (.ireturn, 1) := by decide +kernel
theorem dX3_told_28 : decode cX3_told 28 = .ok (.iload_n 1, 1) := by decide +kernel
theorem dX3_told_29 : decode cX3_told 29 = .ok (.bipush 6, 2) := by decide +kernel
theorem dX3_told_31 : decode cX3_told 31 = .ok (.if_icmp .ge 15, 3) := by decide +kernel
theorem dX3_told_34 : decode cX3_told 34 = .ok (.aload_n 0, 1) := by decide +kernel
theorem dX3_told_35 : decode cX3_told 35 = .ok (.getfield 11, 3) := by decide +kernel
theorem dX3_told_38 : decode cX3_told 38 = .ok (.iload_n 1, 1) := by decide +kernel
theorem dX3_told_39 : decode cX3_told 39 = .ok (.iconst 3, 1) := by decide +kernel
theorem dX3_told_40 : decode cX3_told 40 = .ok (.isub, 1) := by decide +kernel
theorem dX3_told_41 : decode cX3_told 41 = .ok (.aaload, 1) := by decide +kernel
theorem dX3_told_42 : decode cX3_told 42 = .ok (.invokevirtual 181, 3) := by decide +kernel
theorem dX3_told_45 : decode cX3_told 45 = .ok (.ireturn, 1) := by decide +kernel
theorem dX3_told_46 : decode cX3_told 46 = .ok (.iload_n 1, 1) := by decide +kernel
theorem dX3_told_47 : decode cX3_told 47 = .ok (.bipush 6, 2) := by decide +kernel
theorem dX3_told_49 : decode cX3_told 49 = .ok (.if_icmp .ne 10, 3) := by decide +kernel
theorem dX3_told_52 : decode cX3_told 52 = .ok (.aload_n 0, 1) := by decide +kernel
theorem dX3_told_53 : decode cX3_told 53 = .ok (.invokevirtual 98, 3) := by decide +kernel
theorem dX3_told_56 : decode cX3_told 56 = .ok (.goto 10, 3) := by decide +kernel
theorem dX3_told_59 : decode cX3_told 59 = .ok (.aload_n 0, 1) := by decide +kernel
theorem dX3_told_60 : decode cX3_told 60 = .ok (.getfield 25, 3) := by decide +kernel
theorem dX3_told_63 : decode cX3_told 63 = .ok (.invokevirtual 194, 3) := by decide +kernel
theorem dX3_told_66 : decode cX3_told 66 = .ok (.ireturn, 1) := by decide +kernel
theorem dX3_isNet_0 : decode cX3_isNet 0 = .ok (.iload_n 0, 1) := by decide +kernel
theorem dX3_isNet_1 : decode cX3_isNet 1 = .ok (.ifCond .lt 12, 3) := by decide +kernel
theorem dX3_isNet_4 : decode cX3_isNet 4 = .ok (.iload_n 0, 1) := by decide +kernel
theorem dX3_isNet_5 : decode cX3_isNet 5 = .ok (.iconst 3, 1) := by decide +kernel
theorem dX3_isNet_6 : decode cX3_isNet 6 = .ok (.if_icmp .ge 7, 3) := by decide +kernel
theorem dX3_isNet_9 : decode cX3_isNet 9 = .ok (.iconst 1, 1) := by decide +kernel
theorem dX3_isNet_10 : decode cX3_isNet 10 = .ok (.goto 4, 3) := by decide +kernel
theorem dX3_isNet_13 : decode cX3_isNet 13 = .ok (.iconst 0, 1) := by decide +kernel
theorem dX3_isNet_14 : decode cX3_isNet 14 = .ok (.ireturn, 1) := by decide +kernel
theorem dX3_isVariable_0 : decode cX3_isVariable 0 = .ok (.iload_n 0, 1) := by decide +kernel
theorem dX3_isVariable_1 : decode cX3_isVariable 1 = .ok (.ifCond .lt 13, 3) := by decide +kernel
theorem dX3_isVariable_4 : decode cX3_isVariable 4 = .ok (.iload_n 0, 1) := by decide +kernel
theorem dX3_isVariable_5 : decode cX3_isVariable 5 = .ok (.bipush 8, 2) := by decide +kernel
theorem dX3_isVariable_7 : decode cX3_isVariable 7 = .ok (.if_icmp .ge 7, 3) := by decide +kernel
theorem dX3_isVariable_10 : decode cX3_isVariable 10 = .ok (.iconst 1, 1) := by decide +kernel
theorem dX3_isVariable_11 : decode cX3_isVariable 11 = .ok (.goto 4, 3) := by decide +kernel
theorem dX3_isVariable_14 : decode cX3_isVariable 14 = .ok (.iconst 0, 1) := by decide +kernel
theorem dX3_isVariable_15 : decode cX3_isVariable 15 = .ok (.ireturn, 1) := by decide +kernel
theorem dX3_isAssignment_0 : decode cX3_isAssignment 0 = .ok (.iload_n 0, 1) := by decide +kernel
theorem dX3_isAssignment_1 : decode cX3_isAssignment 1 = .ok (.ifCond .lt 14, 3) := by decide +kernel
theorem dX3_isAssignment_4 : decode cX3_isAssignment 4 = .ok (.iload_n 0, 1) := by decide +kernel
theorem dX3_isAssignment_5 : decode cX3_isAssignment 5 = .ok (.sipush 256, 3) := by decide +kernel
theorem dX3_isAssignment_8 : decode cX3_isAssignment 8 = .ok (.if_icmp .ge 7, 3) := by decide +kernel
theorem dX3_isAssignment_11 : decode cX3_isAssignment 11 = .ok (.iconst 1, 1) := by decide +kernel
theorem dX3_isAssignment_12 : decode cX3_isAssignment 12 = .ok (.goto 4, 3) := by decide +kernel
theorem dX3_isAssignment_15 : decode cX3_isAssignment 15 = .ok (.iconst 0, 1) := by decide +kernel
theorem dX3_isAssignment_16 : decode cX3_isAssignment 16 = .ok (.ireturn, 1) := by decide +kernel
theorem dX3_isHandle_0 : decode cX3_isHandle 0 = .ok (.iload_n 0, 1) := by decide +kernel
theorem dX3_isHandle_1 : decode cX3_isHandle 1 = .ok (.ifCond .lt 13, 3) := by decide +kernel
theorem dX3_isHandle_4 : decode cX3_isHandle 4 = .ok (.iload_n 0, 1) := by decide +kernel
theorem dX3_isHandle_5 : decode cX3_isHandle 5 = .ok (.bipush 12, 2) := by decide +kernel
theorem dX3_isHandle_7 : decode cX3_isHandle 7 = .ok (.if_icmp .ge 7, 3) := by decide +kernel
theorem dX3_isHandle_10 : decode cX3_isHandle 10 = .ok (.iconst 1, 1) := by decide +kernel
theorem dX3_isHandle_11 : decode cX3_isHandle 11 = .ok (.goto 4, 3) := by decide +kernel
theorem dX3_isHandle_14 : decode cX3_isHandle 14 = .ok (.iconst 0, 1) := by decide +kernel
theorem dX3_isHandle_15 : decode cX3_isHandle 15 = .ok (.ireturn, 1) := by decide +kernel
theorem dX3_hasFunction_0 : decode cX3_hasFunction 0 = .ok (.iload_n 1, 1) := by decide +kernel
theorem dX3_hasFunction_1 : decode cX3_hasFunction 1 = .ok (.invokestatic 123, 3) := by decide +kernel
theorem dX3_hasFunction_4 : decode cX3_hasFunction 4 = .ok (.ifCond .eq 17, 3) := by decide +kernel
theorem dX3_hasFunction_7 : decode cX3_hasFunction 7 = .ok (.aload_n 0, 1) := by decide +kernel
theorem dX3_hasFunction_8 : decode cX3_hasFunction 8 = .ok (.getfield 29, 3) := by decide +kernel
theorem dX3_hasFunction_11 : decode cX3_hasFunction 11 = .ok (.iload_n 1, 1) := by decide +kernel
theorem dX3_hasFunction_12 : decode cX3_hasFunction 12 = .ok (.iaload, 1) := by decide +kernel
theorem dX3_hasFunction_13 : decode cX3_hasFunction 13 = .ok (.iconst (-1), 1) := by decide +kernel
theorem dX3_hasFunction_14 : decode cX3_hasFunction 14 = .ok (.if_icmp .eq 7, 3) := by decide +kernel
theorem dX3_hasFunction_17 : decode cX3_hasFunction 17 = .ok (.iconst 1, 1) := by decide +kernel
theorem dX3_hasFunction_18 : decode cX3_hasFunction 18 = .ok (.goto 4, 3) := by decide +kernel
theorem dX3_hasFunction_21 : decode cX3_hasFunction 21 = .ok (.iconst 0, 1) := by decide +kernel
theorem dX3_hasFunction_22 : decode cX3_hasFunction 22 = .ok (.ireturn, 1) := by decide +kernel
theorem dX3_heldCount_0 : decode cX3_heldCount 0 = .ok (.iconst 0, 1) := by decide +kernel
theorem dX3_heldCount_1 : decode cX3_heldCount 1 = .ok (.istore_n 1, 1) := by decide +kernel
theorem dX3_heldCount_2 : decode cX3_heldCount 2 = .ok (.iconst 0, 1) := by decide +kernel
theorem dX3_heldCount_3 : decode cX3_heldCount 3 = .ok (.istore_n 2, 1) := by decide +kernel
theorem dX3_heldCount_4 : decode cX3_heldCount 4 = .ok (.iload_n 2, 1) := by decide +kernel
theorem dX3_heldCount_5 : decode cX3_heldCount 5 = .ok (.bipush 12, 2) := by decide +kernel
theorem dX3_heldCount_7 : decode cX3_heldCount 7 = .ok (.if_icmp .ge 22, 3) := by decide +kernel
theorem dX3_heldCount_10 : decode cX3_heldCount 10 = .ok (.aload_n 0, 1) := by decide +kernel
theorem dX3_heldCount_11 : decode cX3_heldCount 11 = .ok (.getfield 29, 3) := by decide +kernel
theorem dX3_heldCount_14 : decode cX3_heldCount 14 = .ok (.iload_n 2, 1) := by decide +kernel
theorem dX3_heldCount_15 : decode cX3_heldCount 15 = .ok (.iaload, 1) := by decide +kernel
theorem dX3_heldCount_16 : decode cX3_heldCount 16 = .ok (.iconst (-1), 1) := by decide +kernel
theorem dX3_heldCount_17 : decode cX3_heldCount 17 = .ok (.if_icmp .eq 6, 3) := by decide +kernel
theorem dX3_heldCount_20 : decode cX3_heldCount 20 = .ok (.iinc 1 1, 3) := by decide +kernel
theorem dX3_heldCount_23 : decode cX3_heldCount 23 = .ok (.iinc 2 1, 3) := by decide +kernel
theorem dX3_heldCount_26 : decode cX3_heldCount 26 = .ok (.goto (-22), 3) := by decide +kernel
theorem dX3_heldCount_29 : decode cX3_heldCount 29 = .ok (.iload_n 1, 1) := by decide +kernel
theorem dX3_heldCount_30 : decode cX3_heldCount 30 = .ok (.ireturn, 1) := by decide +kernel
theorem dX3_beginSteps_0 : decode cX3_beginSteps 0 = .ok (.aload_n 0, 1) := by decide +kernel
theorem dX3_beginSteps_1 : decode cX3_beginSteps 1 = .ok (.iconst 0, 1) := by decide +kernel
theorem dX3_beginSteps_2 : decode cX3_beginSteps 2 = .ok (.putfield 46, 3) := by decide +kernel
theorem dX3_beginSteps_5 : decode cX3_beginSteps 5 = .ok (.return_, 1) := by decide +kernel
theorem dX3_endSteps_0 : decode cX3_endSteps 0 = .ok (.aload_n 0, 1) := by decide +kernel
theorem dX3_endSteps_1 : decode cX3_endSteps 1 = .ok (.iconst 0, 1) := by decide +kernel
theorem dX3_endSteps_2 : decode cX3_endSteps 2 = .ok (.putfield 42, 3) := by decide +kernel
theorem dX3_endSteps_5 : decode cX3_endSteps 5 = .ok (.aload_n 0, 1) := by decide +kernel
theorem dX3_endSteps_6 : decode cX3_endSteps 6 = .ok (.getfield 33, 3) := by decide +kernel
theorem dX3_endSteps_9 : decode cX3_endSteps 9 = .ok (.iconst (-1), 1) := by decide +kernel
theorem dX3_endSteps_10 : decode cX3_endSteps 10 = .ok (.invokestatic 56, 3) := by decide +kernel
theorem dX3_endSteps_13 : decode cX3_endSteps 13 = .ok (.return_, 1) := by decide +kernel
theorem dX3_give_0 : decode cX3_give 0 = .ok (.aload_n 0, 1) := by decide +kernel
theorem dX3_give_1 : decode cX3_give 1 = .ok (.invokevirtual 188, 3) := by decide +kernel
theorem dX3_give_4 : decode cX3_give 4 = .ok (.iload_n 2, 1) := by decide +kernel
theorem dX3_give_5 : decode cX3_give 5 = .ok (.iconst (-1), 1) := by decide +kernel
theorem dX3_give_6 : decode cX3_give 6 = .ok (.if_icmp .ne 6, 3) := by decide +kernel
theorem dX3_give_9 : decode cX3_give 9 = .ok (.bipush (-5), 2) := by decide +kernel
theorem dX3_give_11 : decode cX3_give 11 = .ok (.ireturn, 1) := by decide +kernel
theorem dX3_give_12 : decode cX3_give 12 = .ok (.aload_n 0, 1) := by decide +kernel
theorem dX3_give_13 : decode cX3_give 13 = .ok (.getfield 29, 3) := by decide +kernel
theorem dX3_give_16 : decode cX3_give 16 = .ok (.iload_n 1, 1) := by decide +kernel
theorem dX3_give_17 : decode cX3_give 17 = .ok (.iload_n 2, 1) := by decide +kernel
theorem dX3_give_18 : decode cX3_give 18 = .ok (.iastore, 1) := by decide +kernel
theorem dX3_give_19 : decode cX3_give 19 = .ok (.aload_n 0, 1) := by decide +kernel
theorem dX3_give_20 : decode cX3_give 20 = .ok (.getfield 25, 3) := by decide +kernel
theorem dX3_give_23 : decode cX3_give 23 = .ok (.iload_n 2, 1) := by decide +kernel
theorem dX3_give_24 : decode cX3_give 24 = .ok (.invokevirtual 152, 3) := by decide +kernel
theorem dX3_give_27 : decode cX3_give 27 = .ok (.ireturn, 1) := by decide +kernel
theorem dX3_keep_0 : decode cX3_keep 0 = .ok (.iload_n 1, 1) := by decide +kernel
theorem dX3_keep_1 : decode cX3_keep 1 = .ok (.iconst (-1), 1) := by decide +kernel
theorem dX3_keep_2 : decode cX3_keep 2 = .ok (.if_icmp .eq 32, 3) := by decide +kernel
theorem dX3_keep_5 : decode cX3_keep 5 = .ok (.aload_n 0, 1) := by decide +kernel
theorem dX3_keep_6 : decode cX3_keep 6 = .ok (.getfield 42, 3) := by decide +kernel
theorem dX3_keep_9 : decode cX3_keep 9 = .ok (.bipush 8, 2) := by decide +kernel
theorem dX3_keep_11 : decode cX3_keep 11 = .ok (.if_icmp .ge 23, 3) := by decide +kernel
theorem dX3_keep_14 : decode cX3_keep 14 = .ok (.aload_n 0, 1) := by decide +kernel
theorem dX3_keep_15 : decode cX3_keep 15 = .ok (.getfield 39, 3) := by decide +kernel
theorem dX3_keep_18 : decode cX3_keep 18 = .ok (.aload_n 0, 1) := by decide +kernel
theorem dX3_keep_19 : decode cX3_keep 19 = .ok (.getfield 42, 3) := by decide +kernel
theorem dX3_keep_22 : decode cX3_keep 22 = .ok (.iload_n 1, 1) := by decide +kernel
theorem dX3_keep_23 : decode cX3_keep 23 = .ok (.iastore, 1) := by decide +kernel
theorem dX3_keep_24 : decode cX3_keep 24 = .ok (.aload_n 0, 1) := by decide +kernel
theorem dX3_keep_25 : decode cX3_keep 25 = .ok (.dup, 1) := by decide +kernel
theorem dX3_keep_26 : decode cX3_keep 26 = .ok (.getfield 42, 3) := by decide +kernel
theorem dX3_keep_29 : decode cX3_keep 29 = .ok (.iconst 1, 1) := by decide +kernel
theorem dX3_keep_30 : decode cX3_keep 30 = .ok (.iadd, 1) := by decide +kernel
theorem dX3_keep_31 : decode cX3_keep 31 = .ok (.putfield 42, 3) := by decide +kernel
theorem dX3_keep_34 : decode cX3_keep 34 = .ok (.iload_n 1, 1) := by decide +kernel
theorem dX3_keep_35 : decode cX3_keep 35 = .ok (.ireturn, 1) := by decide +kernel
theorem dX3_kindStep_0 : decode cX3_kindStep 0 = .ok (.iload_n 2, 1) := by decide +kernel
theorem dX3_kindStep_1 : decode cX3_kindStep 1 = .ok (.iconst (-1), 1) := by decide +kernel
theorem dX3_kindStep_2 : decode cX3_kindStep 2 = .ok (.if_icmp .eq 14, 3) := by decide +kernel
theorem dX3_kindStep_5 : decode cX3_kindStep 5 = .ok (.iload_n 3, 1) := by decide +kernel
theorem dX3_kindStep_6 : decode cX3_kindStep 6 = .ok (.iconst (-1), 1) := by decide +kernel
theorem dX3_kindStep_7 : decode cX3_kindStep 7 = .ok (.if_icmp .eq 9, 3) := by decide +kernel
theorem dX3_kindStep_10 : decode cX3_kindStep 10 = .ok (.iload 4, 2) := by decide +kernel
theorem dX3_kindStep_12 : decode cX3_kindStep 12 = .ok (.iconst (-1), 1) := by decide +kernel
theorem dX3_kindStep_13 : decode cX3_kindStep 13 = .ok (.if_icmp .ne 5, 3) := by decide +kernel
theorem dX3_kindStep_16 : decode cX3_kindStep 16 = .ok (.iconst (-1), 1) := by decide +kernel
theorem dX3_kindStep_17 : decode cX3_kindStep 17 = .ok (.ireturn, 1) := by decide +kernel
theorem dX3_kindStep_18 : decode cX3_kindStep 18 = .ok (.aload_n 0, 1) := by decide +kernel
theorem dX3_kindStep_19 : decode cX3_kindStep 19 = .ok (.invokevirtual 155, 3) := by decide +kernel
theorem dX3_kindStep_22 : decode cX3_kindStep 22 = .ok (.aload_n 0, 1) := by decide +kernel
theorem dX3_kindStep_23 : decode cX3_kindStep 23 = .ok (.aload_n 0, 1) := by decide +kernel
theorem dX3_kindStep_24 : decode cX3_kindStep 24 = .ok (.getfield 25, 3) := by decide +kernel
theorem dX3_kindStep_27 : decode cX3_kindStep 27 = .ok (.getstatic 197, 3) := by decide +kernel
theorem dX3_kindStep_30 : decode cX3_kindStep 30 = .ok (.iload_n 1, 1) := by decide +kernel
theorem dX3_kindStep_31 : decode cX3_kindStep 31 = .ok (.iaload, 1) := by decide +kernel
theorem dX3_kindStep_32 : decode cX3_kindStep 32 = .ok (.iload_n 2, 1) := by decide +kernel
theorem dX3_kindStep_33 : decode cX3_kindStep 33 = .ok (.iload_n 3, 1) := by decide +kernel
theorem dX3_kindStep_34 : decode cX3_kindStep 34 = .ok (.iload 4, 2) := by decide +kernel
theorem dX3_kindStep_36 : decode cX3_kindStep 36 = .ok (.invokevirtual 200, 3) := by decide +kernel
theorem dX3_kindStep_39 : decode cX3_kindStep 39 = .ok (.invokevirtual 203, 3) := by decide +kernel
theorem dX3_kindStep_42 : decode cX3_kindStep 42 = .ok (.ireturn, 1) := by decide +kernel
theorem dX3_variableStep_0 : decode cX3_variableStep 0 = .ok (.aload_n 0, 1) := by decide +kernel
theorem dX3_variableStep_1 : decode cX3_variableStep 1 = .ok (.invokevirtual 155, 3) := by decide +kernel
theorem dX3_variableStep_4 : decode cX3_variableStep 4 = .ok (.aload_n 0, 1) := by decide +kernel
theorem dX3_variableStep_5 : decode cX3_variableStep 5 = .ok (.aload_n 0, 1) := by decide +kernel
theorem dX3_variableStep_6 : decode cX3_variableStep 6 = .ok (.getfield 25, 3) := by decide +kernel
theorem dX3_variableStep_9 : decode cX3_variableStep 9 = .ok (.aload_n 0, 1) := by decide +kernel
theorem dX3_variableStep_10 : decode cX3_variableStep 10 = .ok (.getfield 18, 3) := by decide +kernel
theorem dX3_variableStep_13 : decode cX3_variableStep 13 = .ok (.iload_n 1, 1) := by decide +kernel
theorem dX3_variableStep_14 : decode cX3_variableStep 14 = .ok (.invokevirtual 174, 3) := by decide +kernel
theorem dX3_variableStep_17 : decode cX3_variableStep 17 = .ok (.invokevirtual 206, 3) := by decide +kernel
theorem dX3_variableStep_20 : decode cX3_variableStep 20 = .ok (.invokevirtual 203, 3) := by decide +kernel
theorem dX3_variableStep_23 : decode cX3_variableStep 23 = .ok (.ireturn, 1) := by decide +kernel
theorem dX3_fixStep_0 : decode cX3_fixStep 0 = .ok (.aload_n 0, 1) := by decide +kernel
theorem dX3_fixStep_1 : decode cX3_fixStep 1 = .ok (.invokevirtual 155, 3) := by decide +kernel
theorem dX3_fixStep_4 : decode cX3_fixStep 4 = .ok (.aload_n 0, 1) := by decide +kernel
theorem dX3_fixStep_5 : decode cX3_fixStep 5 = .ok (.aload_n 0, 1) := by decide +kernel
theorem dX3_fixStep_6 : decode cX3_fixStep 6 = .ok (.getfield 25, 3) := by decide +kernel
theorem dX3_fixStep_9 : decode cX3_fixStep 9 = .ok (.iload_n 1, 1) := by decide +kernel
theorem dX3_fixStep_10 : decode cX3_fixStep 10 = .ok (.aload_n 0, 1) := by decide +kernel
theorem dX3_fixStep_11 : decode cX3_fixStep 11 = .ok (.getfield 18, 3) := by decide +kernel
theorem dX3_fixStep_14 : decode cX3_fixStep 14 = .ok (.iload_n 2, 1) := by decide +kernel
theorem dX3_fixStep_15 : decode cX3_fixStep 15 = .ok (.invokevirtual 174, 3) := by decide +kernel
theorem dX3_fixStep_18 : decode cX3_fixStep 18 = .ok (.iload_n 3, 1) := by decide +kernel
theorem dX3_fixStep_19 : decode cX3_fixStep 19 = .ok (.invokevirtual 209, 3) := by decide +kernel
theorem dX3_fixStep_22 : decode cX3_fixStep 22 = .ok (.invokevirtual 203, 3) := by decide +kernel
theorem dX3_fixStep_25 : decode cX3_fixStep 25 = .ok (.ireturn, 1) := by decide +kernel
theorem dX3_measured_0 : decode cX3_measured 0 = .ok (.iload_n 1, 1) := by decide +kernel
theorem dX3_measured_1 : decode cX3_measured 1 = .ok (.iconst (-1), 1) := by decide +kernel
theorem dX3_measured_2 : decode cX3_measured 2 = .ok (.if_icmp .ne 15, 3) := by decide +kernel
theorem dX3_measured_5 : decode cX3_measured 5 = .ok (.aload_n 0, 1) := by decide +kernel
theorem dX3_measured_6 : decode cX3_measured 6 = .ok (.getfield 25, 3) := by decide +kernel
theorem dX3_measured_9 : decode cX3_measured 9 = .ok (.invokevirtual 194, 3) := by decide +kernel
theorem dX3_measured_12 : decode cX3_measured 12 = .ok (.iconst 1, 1) := by decide +kernel
theorem dX3_measured_13 : decode cX3_measured 13 = .ok (.iadd, 1) := by decide +kernel
theorem dX3_measured_14 : decode cX3_measured 14 = .ok (.goto 10, 3) := by decide +kernel
theorem dX3_measured_17 : decode cX3_measured 17 = .ok (.aload_n 0, 1) := by decide +kernel
theorem dX3_measured_18 : decode cX3_measured 18 = .ok (.getfield 25, 3) := by decide +kernel
theorem dX3_measured_21 : decode cX3_measured 21 = .ok (.invokevirtual 158, 3) := by decide +kernel
theorem dX3_measured_24 : decode cX3_measured 24 = .ok (.istore_n 2, 1) := by decide +kernel
theorem dX3_measured_25 : decode cX3_measured 25 = .ok (.aload_n 0, 1) := by decide +kernel
theorem dX3_measured_26 : decode cX3_measured 26 = .ok (.aload_n 0, 1) := by decide +kernel
theorem dX3_measured_27 : decode cX3_measured 27 = .ok (.getfield 46, 3) := by decide +kernel
theorem dX3_measured_30 : decode cX3_measured 30 = .ok (.iload_n 2, 1) := by decide +kernel
theorem dX3_measured_31 : decode cX3_measured 31 = .ok (.invokestatic 212, 3) := by decide +kernel
theorem dX3_measured_34 : decode cX3_measured 34 = .ok (.putfield 46, 3) := by decide +kernel
theorem dX3_measured_37 : decode cX3_measured 37 = .ok (.iload_n 1, 1) := by decide +kernel
theorem dX3_measured_38 : decode cX3_measured 38 = .ok (.ireturn, 1) := by decide +kernel
theorem dX3_collect_0 : decode cX3_collect 0 = .ok (.aload_n 0, 1) := by decide +kernel
theorem dX3_collect_1 : decode cX3_collect 1 = .ok (.getfield 25, 3) := by decide +kernel
theorem dX3_collect_4 : decode cX3_collect 4 = .ok (.invokevirtual 217, 3) := by decide +kernel
theorem dX3_collect_7 : decode cX3_collect 7 = .ok (.iconst 0, 1) := by decide +kernel
theorem dX3_collect_8 : decode cX3_collect 8 = .ok (.istore_n 1, 1) := by decide +kernel
theorem dX3_collect_9 : decode cX3_collect 9 = .ok (.iload_n 1, 1) := by decide +kernel
theorem dX3_collect_10 : decode cX3_collect 10 = .ok (.bipush 12, 2) := by decide +kernel
theorem dX3_collect_12 : decode cX3_collect 12 = .ok (.if_icmp .ge 22, 3) := by decide +kernel
theorem dX3_collect_15 : decode cX3_collect 15 = .ok (.aload_n 0, 1) := by decide +kernel
theorem dX3_collect_16 : decode cX3_collect 16 = .ok (.getfield 25, 3) := by decide +kernel
theorem dX3_collect_19 : decode cX3_collect 19 = .ok (.aload_n 0, 1) := by decide +kernel
theorem dX3_collect_20 : decode cX3_collect 20 = .ok (.getfield 29, 3) := by decide +kernel
theorem dX3_collect_23 : decode cX3_collect 23 = .ok (.iload_n 1, 1) := by decide +kernel
theorem dX3_collect_24 : decode cX3_collect 24 = .ok (.iaload, 1) := by decide +kernel
theorem dX3_collect_25 : decode cX3_collect 25 = .ok (.invokevirtual 220, 3) := by decide +kernel
theorem dX3_collect_28 : decode cX3_collect 28 = .ok (.iinc 1 1, 3) := by decide +kernel
theorem dX3_collect_31 : decode cX3_collect 31 = .ok (.goto (-22), 3) := by decide +kernel
theorem dX3_collect_34 : decode cX3_collect 34 = .ok (.iconst 0, 1) := by decide +kernel
theorem dX3_collect_35 : decode cX3_collect 35 = .ok (.istore_n 1, 1) := by decide +kernel
theorem dX3_collect_36 : decode cX3_collect 36 = .ok (.iload_n 1, 1) := by decide +kernel
theorem dX3_collect_37 : decode cX3_collect 37 = .ok (.bipush 40, 2) := by decide +kernel
theorem dX3_collect_39 : decode cX3_collect 39 = .ok (.if_icmp .ge 22, 3) := by decide +kernel
theorem dX3_collect_42 : decode cX3_collect 42 = .ok (.aload_n 0, 1) := by decide +kernel
theorem dX3_collect_43 : decode cX3_collect 43 = .ok (.getfield 25, 3) := by decide +kernel
theorem dX3_collect_46 : decode cX3_collect 46 = .ok (.aload_n 0, 1) := by decide +kernel
theorem dX3_collect_47 : decode cX3_collect 47 = .ok (.getfield 33, 3) := by decide +kernel
theorem dX3_collect_50 : decode cX3_collect 50 = .ok (.iload_n 1, 1) := by decide +kernel
theorem dX3_collect_51 : decode cX3_collect 51 = .ok (.iaload, 1) := by decide +kernel
theorem dX3_collect_52 : decode cX3_collect 52 = .ok (.invokevirtual 220, 3) := by decide +kernel
theorem dX3_collect_55 : decode cX3_collect 55 = .ok (.iinc 1 1, 3) := by decide +kernel
theorem dX3_collect_58 : decode cX3_collect 58 = .ok (.goto (-22), 3) := by decide +kernel
theorem dX3_collect_61 : decode cX3_collect 61 = .ok (.iconst 0, 1) := by decide +kernel
theorem dX3_collect_62 : decode cX3_collect 62 = .ok (.istore_n 1, 1) := by decide +kernel
theorem dX3_collect_63 : decode cX3_collect 63 = .ok (.iload_n 1, 1) := by decide +kernel
theorem dX3_collect_64 : decode cX3_collect 64 = .ok (.aload_n 0, 1) := by decide +kernel
theorem dX3_collect_65 : decode cX3_collect 65 = .ok (.getfield 42, 3) := by decide +kernel
theorem dX3_collect_68 : decode cX3_collect 68 = .ok (.if_icmp .ge 22, 3) := by decide +kernel
theorem dX3_collect_71 : decode cX3_collect 71 = .ok (.aload_n 0, 1) := by decide +kernel
theorem dX3_collect_72 : decode cX3_collect 72 = .ok (.getfield 25, 3) := by decide +kernel
theorem dX3_collect_75 : decode cX3_collect 75 = .ok (.aload_n 0, 1) := by decide +kernel
theorem dX3_collect_76 : decode cX3_collect 76 = .ok (.getfield 39, 3) := by decide +kernel
theorem dX3_collect_79 : decode cX3_collect 79 = .ok (.iload_n 1, 1) := by decide +kernel
theorem dX3_collect_80 : decode cX3_collect 80 = .ok (.iaload, 1) := by decide +kernel
theorem dX3_collect_81 : decode cX3_collect 81 = .ok (.invokevirtual 220, 3) := by decide +kernel
theorem dX3_collect_84 : decode cX3_collect 84 = .ok (.iinc 1 1, 3) := by decide +kernel
theorem dX3_collect_87 : decode cX3_collect 87 = .ok (.goto (-24), 3) := by decide +kernel
theorem dX3_collect_90 : decode cX3_collect 90 = .ok (.aload_n 0, 1) := by decide +kernel
theorem dX3_collect_91 : decode cX3_collect 91 = .ok (.getfield 25, 3) := by decide +kernel
theorem dX3_collect_94 : decode cX3_collect 94 = .ok (.invokevirtual 224, 3) := by decide +kernel
theorem dX3_collect_97 : decode cX3_collect 97 = .ok (.return_, 1) := by decide +kernel
theorem dX3_building_0 : decode cX3_building 0 = .ok (.aload_n 1, 1) := by decide +kernel
theorem dX3_building_1 : decode cX3_building 1 = .ok (.iload_n 2, 1) := by decide +kernel
theorem dX3_building_2 : decode cX3_building 2 = .ok (.aload_n 0, 1) := by decide +kernel
theorem dX3_building_3 : decode cX3_building 3 = .ok (.getfield 36, 3) := by decide +kernel
theorem dX3_building_6 : decode cX3_building 6 = .ok (.invokevirtual 227, 3) := by decide +kernel
theorem dX3_building_9 : decode cX3_building 9 = .ok (.istore_n 3, 1) := by decide +kernel
theorem dX3_building_10 : decode cX3_building 10 = .ok (.iconst 0, 1) := by decide +kernel
theorem dX3_building_11 : decode cX3_building 11 = .ok (.istore 4, 2) := by decide +kernel
theorem dX3_building_13 : decode cX3_building 13 = .ok (.iload 4, 2) := by decide +kernel
theorem dX3_building_15 : decode cX3_building 15 = .ok (.iload_n 3, 1) := by decide +kernel
theorem dX3_building_16 : decode cX3_building 16 = .ok (.if_icmp .gt 106, 3) := by decide +kernel
theorem dX3_building_19 : decode cX3_building 19 = .ok (.aload_n 0, 1) := by decide +kernel
theorem dX3_building_20 : decode cX3_building 20 = .ok (.getfield 36, 3) := by decide +kernel
theorem dX3_building_23 : decode cX3_building 23 = .ok (.iload 4, 2) := by decide +kernel
theorem dX3_building_25 : decode cX3_building 25 = .ok (.iaload, 1) := by decide +kernel
theorem dX3_building_26 : decode cX3_building 26 = .ok (.iconst (-1), 1) := by decide +kernel
theorem dX3_building_27 : decode cX3_building 27 = .ok (.if_icmp .ne 6, 3) := by decide +kernel
theorem dX3_building_30 : decode cX3_building 30 = .ok (.goto 86, 3) := by decide +kernel
theorem dX3_building_33 : decode cX3_building 33 = .ok (.aload_n 1, 1) := by decide +kernel
theorem dX3_building_34 : decode cX3_building 34 = .ok (.iload 4, 2) := by decide +kernel
theorem dX3_building_36 : decode cX3_building 36 = .ok (.invokevirtual 231, 3) := by decide +kernel
theorem dX3_building_39 : decode cX3_building 39 = .ok (.istore 5, 2) := by decide +kernel
theorem dX3_building_41 : decode cX3_building 41 = .ok (.iload 5, 2) := by decide +kernel
theorem dX3_building_43 : decode cX3_building 43 = .ok (.ifCond .ne 17, 3) := by decide +kernel
theorem dX3_building_46 : decode cX3_building 46 = .ok (.aload_n 0, 1) := by decide +kernel
theorem dX3_building_47 : decode cX3_building 47 = .ok (.aload_n 1, 1) := by decide +kernel
theorem dX3_building_48 : decode cX3_building 48 = .ok (.iload 4, 2) := by decide +kernel
theorem dX3_building_50 : decode cX3_building 50 = .ok (.iconst 0, 1) := by decide +kernel
theorem dX3_building_51 : decode cX3_building 51 = .ok (.invokevirtual 234, 3) := by decide +kernel
theorem dX3_building_54 : decode cX3_building 54 = .ok (.invokevirtual 136, 3) := by decide +kernel
theorem dX3_building_57 : decode cX3_building 57 = .ok (.goto 33, 3) := by decide +kernel
theorem dX3_building_60 : decode cX3_building 60 = .ok (.aload_n 0, 1) := by decide +kernel
theorem dX3_building_61 : decode cX3_building 61 = .ok (.iload 5, 2) := by decide +kernel
theorem dX3_building_63 : decode cX3_building 63 = .ok (.aload_n 0, 1) := by decide +kernel
theorem dX3_building_64 : decode cX3_building 64 = .ok (.aload_n 1, 1) := by decide +kernel
theorem dX3_building_65 : decode cX3_building 65 = .ok (.iload 4, 2) := by decide +kernel
theorem dX3_building_67 : decode cX3_building 67 = .ok (.iconst 0, 1) := by decide +kernel
theorem dX3_building_68 : decode cX3_building 68 = .ok (.invokevirtual 237, 3) := by decide +kernel
theorem dX3_building_71 : decode cX3_building 71 = .ok (.aload_n 0, 1) := by decide +kernel
theorem dX3_building_72 : decode cX3_building 72 = .ok (.aload_n 1, 1) := by decide +kernel
theorem dX3_building_73 : decode cX3_building 73 = .ok (.iload 4, 2) := by decide +kernel
theorem dX3_building_75 : decode cX3_building 75 = .ok (.iconst 1, 1) := by decide +kernel
theorem dX3_building_76 : decode cX3_building 76 = .ok (.invokevirtual 237, 3) := by decide +kernel
theorem dX3_building_79 : decode cX3_building 79 = .ok (.aload_n 0, 1) := by decide +kernel
theorem dX3_building_80 : decode cX3_building 80 = .ok (.aload_n 1, 1) := by decide +kernel
theorem dX3_building_81 : decode cX3_building 81 = .ok (.iload 4, 2) := by decide +kernel
theorem dX3_building_83 : decode cX3_building 83 = .ok (.iconst 2, 1) := by decide +kernel
theorem dX3_building_84 : decode cX3_building 84 = .ok (.invokevirtual 237, 3) := by decide +kernel
theorem dX3_building_87 : decode cX3_building 87 = .ok (.invokevirtual 142, 3) := by decide +kernel
theorem dX3_building_90 : decode cX3_building 90 = .ok (.istore 6, 2) := by decide +kernel
theorem dX3_building_92 : decode cX3_building 92 = .ok (.iload 6, 2) := by decide +kernel
theorem dX3_building_94 : decode cX3_building 94 = .ok (.iconst (-1), 1) := by decide +kernel
theorem dX3_building_95 : decode cX3_building 95 = .ok (.if_icmp .ne 5, 3) := by decide +kernel
theorem dX3_building_98 : decode cX3_building 98 = .ok (.iconst (-1), 1) := by decide +kernel
theorem dX3_building_99 : decode cX3_building 99 = .ok (.ireturn, 1) := by decide +kernel
theorem dX3_building_100 : decode cX3_building 100 = .ok (.aload_n 0, 1) := by decide +kernel
theorem dX3_building_101 : decode cX3_building 101 = .ok (.getfield 33, 3) := by decide +kernel
theorem dX3_building_104 : decode cX3_building 104 = .ok (.iload 4, 2) := by decide +kernel
theorem dX3_building_106 : decode cX3_building 106 = .ok (.iload 6, 2) := by decide +kernel
theorem dX3_building_108 : decode cX3_building 108 = .ok (.iastore, 1) := by decide +kernel
theorem dX3_building_109 : decode cX3_building 109 = .ok (.aload_n 0, 1) := by decide +kernel
theorem dX3_building_110 : decode cX3_building 110 = .ok (.aload_n 1, 1) := by decide +kernel
theorem dX3_building_111 : decode cX3_building 111 = .ok (.iload 4, 2) := by decide +kernel
theorem dX3_building_113 : decode cX3_building 113 = .ok (.invokevirtual 241, 3) := by decide +kernel
theorem dX3_building_116 : decode cX3_building 116 = .ok (.iinc 4 1, 3) := by decide +kernel
theorem dX3_building_119 : decode cX3_building 119 = .ok (.goto (-106), 3) := by decide +kernel
theorem dX3_building_122 : decode cX3_building 122 = .ok (.aload_n 0, 1) := by decide +kernel
theorem dX3_building_123 : decode cX3_building 123 = .ok (.aload_n 0, 1) := by decide +kernel
theorem dX3_building_124 : decode cX3_building 124 = .ok (.getfield 33, 3) := by decide +kernel
theorem dX3_building_127 : decode cX3_building 127 = .ok (.iload_n 3, 1) := by decide +kernel
theorem dX3_building_128 : decode cX3_building 128 = .ok (.iaload, 1) := by decide +kernel
theorem dX3_building_129 : decode cX3_building 129 = .ok (.invokevirtual 149, 3) := by decide +kernel
theorem dX3_building_132 : decode cX3_building 132 = .ok (.istore 4, 2) := by decide +kernel
theorem dX3_building_134 : decode cX3_building 134 = .ok (.aload_n 0, 1) := by decide +kernel
theorem dX3_building_135 : decode cX3_building 135 = .ok (.getfield 33, 3) := by decide +kernel
theorem dX3_building_138 : decode cX3_building 138 = .ok (.iload_n 3, 1) := by decide +kernel
theorem dX3_building_139 : decode cX3_building 139 = .ok (.iconst (-1), 1) := by decide +kernel
theorem dX3_building_140 : decode cX3_building 140 = .ok (.iastore, 1) := by decide +kernel
theorem dX3_building_141 : decode cX3_building 141 = .ok (.iload 4, 2) := by decide +kernel
theorem dX3_building_143 : decode cX3_building 143 = .ok (.ireturn, 1) := by decide +kernel
theorem dX3_madeFor_0 : decode cX3_madeFor 0 = .ok (.iload_n 3, 1) := by decide +kernel
theorem dX3_madeFor_1 : decode cX3_madeFor 1 = .ok (.getstatic 245, 3) := by decide +kernel
theorem dX3_madeFor_4 : decode cX3_madeFor 4 = .ok (.aload_n 1, 1) := by decide +kernel
theorem dX3_madeFor_5 : decode cX3_madeFor 5 = .ok (.iload_n 2, 1) := by decide +kernel
theorem dX3_madeFor_6 : decode cX3_madeFor 6 = .ok (.invokevirtual 231, 3) := by decide +kernel
theorem dX3_madeFor_9 : decode cX3_madeFor 9 = .ok (.iaload, 1) := by decide +kernel
theorem dX3_madeFor_10 : decode cX3_madeFor 10 = .ok (.if_icmp .ge 17, 3) := by decide +kernel
theorem dX3_madeFor_13 : decode cX3_madeFor 13 = .ok (.aload_n 0, 1) := by decide +kernel
theorem dX3_madeFor_14 : decode cX3_madeFor 14 = .ok (.getfield 33, 3) := by decide +kernel
theorem dX3_madeFor_17 : decode cX3_madeFor 17 = .ok (.aload_n 1, 1) := by decide +kernel
theorem dX3_madeFor_18 : decode cX3_madeFor 18 = .ok (.iload_n 2, 1) := by decide +kernel
theorem dX3_madeFor_19 : decode cX3_madeFor 19 = .ok (.iload_n 3, 1) := by decide +kernel
theorem dX3_madeFor_20 : decode cX3_madeFor 20 = .ok (.invokevirtual 234, 3) := by decide +kernel
theorem dX3_madeFor_23 : decode cX3_madeFor 23 = .ok (.iaload, 1) := by decide +kernel
theorem dX3_madeFor_24 : decode cX3_madeFor 24 = .ok (.goto 4, 3) := by decide +kernel
theorem dX3_madeFor_27 : decode cX3_madeFor 27 = .ok (.iconst 0, 1) := by decide +kernel
theorem dX3_madeFor_28 : decode cX3_madeFor 28 = .ok (.ireturn, 1) := by decide +kernel
theorem dX3_letGoBehind_0 : decode cX3_letGoBehind 0 = .ok (.getstatic 245, 3) := by decide +kernel
theorem dX3_letGoBehind_3 : decode cX3_letGoBehind 3 = .ok (.aload_n 1, 1) := by decide +kernel
theorem dX3_letGoBehind_4 : decode cX3_letGoBehind 4 = .ok (.iload_n 2, 1) := by decide +kernel
theorem dX3_letGoBehind_5 : decode cX3_letGoBehind 5 = .ok (.invokevirtual 231, 3) := by decide +kernel
theorem dX3_letGoBehind_8 : decode cX3_letGoBehind 8 = .ok (.iaload, 1) := by decide +kernel
theorem dX3_letGoBehind_9 : decode cX3_letGoBehind 9 = .ok (.istore_n 3, 1) := by decide +kernel
theorem dX3_letGoBehind_10 : decode cX3_letGoBehind 10 = .ok (.iconst 0, 1) := by decide +kernel
theorem dX3_letGoBehind_11 : decode cX3_letGoBehind 11 = .ok (.istore 4, 2) := by decide +kernel
theorem dX3_letGoBehind_13 : decode cX3_letGoBehind 13 = .ok (.iload 4, 2) := by decide +kernel
theorem dX3_letGoBehind_15 : decode cX3_letGoBehind 15 = .ok (.iload_n 3, 1) := by decide +kernel
theorem dX3_letGoBehind_16 : decode cX3_letGoBehind 16 = .ok (.if_icmp .ge 37, 3) := by decide +kernel
theorem dX3_letGoBehind_19 : decode cX3_letGoBehind 19 = .ok (.aload_n 1, 1) := by decide +kernel
theorem dX3_letGoBehind_20 : decode cX3_letGoBehind 20 = .ok (.iload_n 2, 1) := by decide +kernel
theorem dX3_letGoBehind_21 : decode cX3_letGoBehind 21 = .ok (.iload 4, 2) := by decide +kernel
theorem dX3_letGoBehind_23 : decode cX3_letGoBehind 23 = .ok (.invokevirtual 234, 3) := by decide +kernel
theorem dX3_letGoBehind_26 : decode cX3_letGoBehind 26 = .ok (.istore 5, 2) := by decide +kernel
theorem dX3_letGoBehind_28 : decode cX3_letGoBehind 28 = .ok (.aload_n 0, 1) := by decide +kernel
theorem dX3_letGoBehind_29 : decode cX3_letGoBehind 29 = .ok (.getfield 36, 3) := by decide +kernel
theorem dX3_letGoBehind_32 : decode cX3_letGoBehind 32 = .ok (.iload 5, 2) := by decide +kernel
theorem dX3_letGoBehind_34 : decode cX3_letGoBehind 34 = .ok (.iaload, 1) := by decide +kernel
theorem dX3_letGoBehind_35 : decode cX3_letGoBehind 35 = .ok (.iload_n 2, 1) := by decide +kernel
theorem dX3_letGoBehind_36 : decode cX3_letGoBehind 36 = .ok (.if_icmp .ne 11, 3) := by decide +kernel
theorem dX3_letGoBehind_39 : decode cX3_letGoBehind 39 = .ok (.aload_n 0, 1) := by decide +kernel
theorem dX3_letGoBehind_40 : decode cX3_letGoBehind 40 = .ok (.getfield 33, 3) := by decide +kernel
theorem dX3_letGoBehind_43 : decode cX3_letGoBehind 43 = .ok (.iload 5, 2) := by decide +kernel
theorem dX3_letGoBehind_45 : decode cX3_letGoBehind 45 = .ok (.iconst (-1), 1) := by decide +kernel
theorem dX3_letGoBehind_46 : decode cX3_letGoBehind 46 = .ok (.iastore, 1) := by decide +kernel
theorem dX3_letGoBehind_47 : decode cX3_letGoBehind 47 = .ok (.iinc 4 1, 3) := by decide +kernel
theorem dX3_letGoBehind_50 : decode cX3_letGoBehind 50 = .ok (.goto (-37), 3) := by decide +kernel
theorem dX3_letGoBehind_53 : decode cX3_letGoBehind 53 = .ok (.return_, 1) := by decide +kernel
theorem dX3_notePart_0 : decode cX3_notePart 0 = .ok (.iload_n 2, 1) := by decide +kernel
theorem dX3_notePart_1 : decode cX3_notePart 1 = .ok (.iconst (-1), 1) := by decide +kernel
theorem dX3_notePart_2 : decode cX3_notePart 2 = .ok (.if_icmp .eq 29, 3) := by decide +kernel
theorem dX3_notePart_5 : decode cX3_notePart 5 = .ok (.iload_n 2, 1) := by decide +kernel
theorem dX3_notePart_6 : decode cX3_notePart 6 = .ok (.ifCond .eq 25, 3) := by decide +kernel
theorem dX3_notePart_9 : decode cX3_notePart 9 = .ok (.aload_n 0, 1) := by decide +kernel
theorem dX3_notePart_10 : decode cX3_notePart 10 = .ok (.iload_n 1, 1) := by decide +kernel
theorem dX3_notePart_11 : decode cX3_notePart 11 = .ok (.putfield 49, 3) := by decide +kernel
theorem dX3_notePart_14 : decode cX3_notePart 14 = .ok (.aload_n 0, 1) := by decide +kernel
theorem dX3_notePart_15 : decode cX3_notePart 15 = .ok (.aload_n 0, 1) := by decide +kernel
theorem dX3_notePart_16 : decode cX3_notePart 16 = .ok (.getfield 25, 3) := by decide +kernel
theorem dX3_notePart_19 : decode cX3_notePart 19 = .ok (.iload_n 2, 1) := by decide +kernel
theorem dX3_notePart_20 : decode cX3_notePart 20 = .ok (.iconst 1, 1) := by decide +kernel
theorem dX3_notePart_21 : decode cX3_notePart 21 = .ok (.aload_n 0, 1) := by decide +kernel
theorem dX3_notePart_22 : decode cX3_notePart 22 = .ok (.getfield 18, 3) := by decide +kernel
theorem dX3_notePart_25 : decode cX3_notePart 25 = .ok (.invokevirtual 175, 3) := by decide +kernel
theorem dX3_notePart_28 : decode cX3_notePart 28 = .ok (.putfield 52, 3) := by decide +kernel
theorem dX3_notePart_31 : decode cX3_notePart 31 = .ok (.return_, 1) := by decide +kernel
