theorem dkX3_init_0 : dl_L cX3_init [(0, .aload_n 0, 1), (1, .invokespecial 3, 3), (4, .aload_n 0, 1), (5, .iconst 3, 1), (6, .anewarray 9, 3), (9, .putfield 11, 3), (12, .aload_n 0, 1), (13, .new 15, 3), (16, .dup, 1), (17, .invokespecial 17, 3)] = true := by decide +kernel
theorem dX3_init_0 : decode cX3_init 0 = .ok (.aload_n 0, 1) := dl_h dkX3_init_0
theorem dX3_init_1 : decode cX3_init 1 = .ok (.invokespecial 3, 3) := dl_h (dl_t dkX3_init_0)
theorem dX3_init_4 : decode cX3_init 4 = .ok (.aload_n 0, 1) := dl_h (dl_t (dl_t dkX3_init_0))
theorem dX3_init_5 : decode cX3_init 5 = .ok (.iconst 3, 1) := dl_h (dl_t (dl_t (dl_t dkX3_init_0)))
theorem dX3_init_6 : decode cX3_init 6 = .ok (.anewarray 9, 3) := dl_h (dl_t (dl_t (dl_t (dl_t dkX3_init_0))))
theorem dX3_init_9 : decode cX3_init 9 = .ok (.putfield 11, 3) := dl_h (dl_t (dl_t (dl_t (dl_t (dl_t dkX3_init_0)))))
theorem dX3_init_12 : decode cX3_init 12 = .ok (.aload_n 0, 1) := dl_h (dl_t (dl_t (dl_t (dl_t (dl_t (dl_t dkX3_init_0))))))
theorem dX3_init_13 : decode cX3_init 13 = .ok (.new 15, 3) := dl_h (dl_t (dl_t (dl_t (dl_t (dl_t (dl_t (dl_t dkX3_init_0)))))))
theorem dX3_init_16 : decode cX3_init 16 = .ok (.dup, 1) := dl_h (dl_t (dl_t (dl_t (dl_t (dl_t (dl_t (dl_t (dl_t dkX3_init_0))))))))
theorem dX3_init_17 : decode cX3_init 17 = .ok (.invokespecial 17, 3) := dl_h (dl_t (dl_t (dl_t (dl_t (dl_t (dl_t (dl_t (dl_t (dl_t dkX3_init_0)))))))))
theorem dkX3_init_20 : dl_L cX3_init [(20, .putfield 18, 3), (23, .aload_n 0, 1), (24, .new 22, 3), (27, .dup, 1), (28, .invokespecial 24, 3), (31, .putfield 25, 3), (34, .aload_n 0, 1), (35, .bipush 12, 2), (37, .newarray .int, 2), (39, .putfield 29, 3)] = true := by decide +kernel
theorem dX3_init_20 : decode cX3_init 20 = .ok (.putfield 18, 3) := dl_h dkX3_init_20
theorem dX3_init_23 : decode cX3_init 23 = .ok (.aload_n 0, 1) := dl_h (dl_t dkX3_init_20)
theorem dX3_init_24 : decode cX3_init 24 = .ok (.new 22, 3) := dl_h (dl_t (dl_t dkX3_init_20))
theorem dX3_init_27 : decode cX3_init 27 = .ok (.dup, 1) := dl_h (dl_t (dl_t (dl_t dkX3_init_20)))
theorem dX3_init_28 : decode cX3_init 28 = .ok (.invokespecial 24, 3) := dl_h (dl_t (dl_t (dl_t (dl_t dkX3_init_20))))
theorem dX3_init_31 : decode cX3_init 31 = .ok (.putfield 25, 3) := dl_h (dl_t (dl_t (dl_t (dl_t (dl_t dkX3_init_20)))))
theorem dX3_init_34 : decode cX3_init 34 = .ok (.aload_n 0, 1) := dl_h (dl_t (dl_t (dl_t (dl_t (dl_t (dl_t dkX3_init_20))))))
theorem dX3_init_35 : decode cX3_init 35 = .ok (.bipush 12, 2) := dl_h (dl_t (dl_t (dl_t (dl_t (dl_t (dl_t (dl_t dkX3_init_20)))))))
theorem dX3_init_37 : decode cX3_init 37 = .ok (.newarray .int, 2) := dl_h (dl_t (dl_t (dl_t (dl_t (dl_t (dl_t (dl_t (dl_t dkX3_init_20))))))))
theorem dX3_init_39 : decode cX3_init 39 = .ok (.putfield 29, 3) := dl_h (dl_t (dl_t (dl_t (dl_t (dl_t (dl_t (dl_t (dl_t (dl_t dkX3_init_20)))))))))
theorem dkX3_init_42 : dl_L cX3_init [(42, .aload_n 0, 1), (43, .bipush 40, 2), (45, .newarray .int, 2), (47, .putfield 33, 3), (50, .aload_n 0, 1), (51, .bipush 40, 2), (53, .newarray .int, 2), (55, .putfield 36, 3), (58, .aload_n 0, 1), (59, .bipush 8, 2)] = true := by decide +kernel
theorem dX3_init_42 : decode cX3_init 42 = .ok (.aload_n 0, 1) := dl_h dkX3_init_42
theorem dX3_init_43 : decode cX3_init 43 = .ok (.bipush 40, 2) := dl_h (dl_t dkX3_init_42)
theorem dX3_init_45 : decode cX3_init 45 = .ok (.newarray .int, 2) := dl_h (dl_t (dl_t dkX3_init_42))
theorem dX3_init_47 : decode cX3_init 47 = .ok (.putfield 33, 3) := dl_h (dl_t (dl_t (dl_t dkX3_init_42)))
theorem dX3_init_50 : decode cX3_init 50 = .ok (.aload_n 0, 1) := dl_h (dl_t (dl_t (dl_t (dl_t dkX3_init_42))))
theorem dX3_init_51 : decode cX3_init 51 = .ok (.bipush 40, 2) := dl_h (dl_t (dl_t (dl_t (dl_t (dl_t dkX3_init_42)))))
theorem dX3_init_53 : decode cX3_init 53 = .ok (.newarray .int, 2) := dl_h (dl_t (dl_t (dl_t (dl_t (dl_t (dl_t dkX3_init_42))))))
theorem dX3_init_55 : decode cX3_init 55 = .ok (.putfield 36, 3) := dl_h (dl_t (dl_t (dl_t (dl_t (dl_t (dl_t (dl_t dkX3_init_42)))))))
theorem dX3_init_58 : decode cX3_init 58 = .ok (.aload_n 0, 1) := dl_h (dl_t (dl_t (dl_t (dl_t (dl_t (dl_t (dl_t (dl_t dkX3_init_42))))))))
theorem dX3_init_59 : decode cX3_init 59 = .ok (.bipush 8, 2) := dl_h (dl_t (dl_t (dl_t (dl_t (dl_t (dl_t (dl_t (dl_t (dl_t dkX3_init_42)))))))))
theorem dkX3_init_61 : dl_L cX3_init [(61, .newarray .int, 2), (63, .putfield 39, 3), (66, .aload_n 0, 1), (67, .iconst 0, 1), (68, .putfield 42, 3), (71, .aload_n 0, 1), (72, .iconst 0, 1), (73, .putfield 46, 3), (76, .aload_n 0, 1), (77, .bipush (-9), 2)] = true := by decide +kernel
theorem dX3_init_61 : decode cX3_init 61 = .ok (.newarray .int, 2) := dl_h dkX3_init_61
theorem dX3_init_63 : decode cX3_init 63 = .ok (.putfield 39, 3) := dl_h (dl_t dkX3_init_61)
theorem dX3_init_66 : decode cX3_init 66 = .ok (.aload_n 0, 1) := dl_h (dl_t (dl_t dkX3_init_61))
theorem dX3_init_67 : decode cX3_init 67 = .ok (.iconst 0, 1) := dl_h (dl_t (dl_t (dl_t dkX3_init_61)))
theorem dX3_init_68 : decode cX3_init 68 = .ok (.putfield 42, 3) := dl_h (dl_t (dl_t (dl_t (dl_t dkX3_init_61))))
theorem dX3_init_71 : decode cX3_init 71 = .ok (.aload_n 0, 1) := dl_h (dl_t (dl_t (dl_t (dl_t (dl_t dkX3_init_61)))))
theorem dX3_init_72 : decode cX3_init 72 = .ok (.iconst 0, 1) := dl_h (dl_t (dl_t (dl_t (dl_t (dl_t (dl_t dkX3_init_61))))))
theorem dX3_init_73 : decode cX3_init 73 = .ok (.putfield 46, 3) := dl_h (dl_t (dl_t (dl_t (dl_t (dl_t (dl_t (dl_t dkX3_init_61)))))))
theorem dX3_init_76 : decode cX3_init 76 = .ok (.aload_n 0, 1) := dl_h (dl_t (dl_t (dl_t (dl_t (dl_t (dl_t (dl_t (dl_t dkX3_init_61))))))))
theorem dX3_init_77 : decode cX3_init 77 = .ok (.bipush (-9), 2) := dl_h (dl_t (dl_t (dl_t (dl_t (dl_t (dl_t (dl_t (dl_t (dl_t dkX3_init_61)))))))))
theorem dkX3_init_79 : dl_L cX3_init [(79, .putfield 49, 3), (82, .aload_n 0, 1), (83, .bipush (-9), 2), (85, .putfield 52, 3), (88, .iconst 0, 1), (89, .istore_n 1, 1), (90, .iload_n 1, 1), (91, .iconst 3, 1), (92, .if_icmp .ge 22, 3), (95, .aload_n 0, 1)] = true := by decide +kernel
theorem dX3_init_79 : decode cX3_init 79 = .ok (.putfield 49, 3) := dl_h dkX3_init_79
theorem dX3_init_82 : decode cX3_init 82 = .ok (.aload_n 0, 1) := dl_h (dl_t dkX3_init_79)
theorem dX3_init_83 : decode cX3_init 83 = .ok (.bipush (-9), 2) := dl_h (dl_t (dl_t dkX3_init_79))
theorem dX3_init_85 : decode cX3_init 85 = .ok (.putfield 52, 3) := dl_h (dl_t (dl_t (dl_t dkX3_init_79)))
theorem dX3_init_88 : decode cX3_init 88 = .ok (.iconst 0, 1) := dl_h (dl_t (dl_t (dl_t (dl_t dkX3_init_79))))
theorem dX3_init_89 : decode cX3_init 89 = .ok (.istore_n 1, 1) := dl_h (dl_t (dl_t (dl_t (dl_t (dl_t dkX3_init_79)))))
theorem dX3_init_90 : decode cX3_init 90 = .ok (.iload_n 1, 1) := dl_h (dl_t (dl_t (dl_t (dl_t (dl_t (dl_t dkX3_init_79))))))
theorem dX3_init_91 : decode cX3_init 91 = .ok (.iconst 3, 1) := dl_h (dl_t (dl_t (dl_t (dl_t (dl_t (dl_t (dl_t dkX3_init_79)))))))
theorem dX3_init_92 : decode cX3_init 92 = .ok (.if_icmp .ge 22, 3) := dl_h (dl_t (dl_t (dl_t (dl_t (dl_t (dl_t (dl_t (dl_t dkX3_init_79))))))))
theorem dX3_init_95 : decode cX3_init 95 = .ok (.aload_n 0, 1) := dl_h (dl_t (dl_t (dl_t (dl_t (dl_t (dl_t (dl_t (dl_t (dl_t dkX3_init_79)))))))))
theorem dkX3_init_96 : dl_L cX3_init [(96, .getfield 11, 3), (99, .iload_n 1, 1), (100, .new 9, 3), (103, .dup, 1), (104, .invokespecial 55, 3), (107, .aastore, 1), (108, .iinc 1 1, 3), (111, .goto (-21), 3), (114, .aload_n 0, 1), (115, .getfield 29, 3)] = true := by decide +kernel
theorem dX3_init_96 : decode cX3_init 96 = .ok (.getfield 11, 3) := dl_h dkX3_init_96
theorem dX3_init_99 : decode cX3_init 99 = .ok (.iload_n 1, 1) := dl_h (dl_t dkX3_init_96)
theorem dX3_init_100 : decode cX3_init 100 = .ok (.new 9, 3) := dl_h (dl_t (dl_t dkX3_init_96))
theorem dX3_init_103 : decode cX3_init 103 = .ok (.dup, 1) := dl_h (dl_t (dl_t (dl_t dkX3_init_96)))
theorem dX3_init_104 : decode cX3_init 104 = .ok (.invokespecial 55, 3) := dl_h (dl_t (dl_t (dl_t (dl_t dkX3_init_96))))
theorem dX3_init_107 : decode cX3_init 107 = .ok (.aastore, 1) := dl_h (dl_t (dl_t (dl_t (dl_t (dl_t dkX3_init_96)))))
theorem dX3_init_108 : decode cX3_init 108 = .ok (.iinc 1 1, 3) := dl_h (dl_t (dl_t (dl_t (dl_t (dl_t (dl_t dkX3_init_96))))))
theorem dX3_init_111 : decode cX3_init 111 = .ok (.goto (-21), 3) := dl_h (dl_t (dl_t (dl_t (dl_t (dl_t (dl_t (dl_t dkX3_init_96)))))))
theorem dX3_init_114 : decode cX3_init 114 = .ok (.aload_n 0, 1) := dl_h (dl_t (dl_t (dl_t (dl_t (dl_t (dl_t (dl_t (dl_t dkX3_init_96))))))))
theorem dX3_init_115 : decode cX3_init 115 = .ok (.getfield 29, 3) := dl_h (dl_t (dl_t (dl_t (dl_t (dl_t (dl_t (dl_t (dl_t (dl_t dkX3_init_96)))))))))
theorem dkX3_init_118 : dl_L cX3_init [(118, .iconst (-1), 1), (119, .invokestatic 56, 3), (122, .aload_n 0, 1), (123, .getfield 33, 3), (126, .iconst (-1), 1), (127, .invokestatic 56, 3), (130, .return_, 1)] = true := by decide +kernel
theorem dX3_init_118 : decode cX3_init 118 = .ok (.iconst (-1), 1) := dl_h dkX3_init_118
theorem dX3_init_119 : decode cX3_init 119 = .ok (.invokestatic 56, 3) := dl_h (dl_t dkX3_init_118)
theorem dX3_init_122 : decode cX3_init 122 = .ok (.aload_n 0, 1) := dl_h (dl_t (dl_t dkX3_init_118))
theorem dX3_init_123 : decode cX3_init 123 = .ok (.getfield 33, 3) := dl_h (dl_t (dl_t (dl_t dkX3_init_118)))
theorem dX3_init_126 : decode cX3_init 126 = .ok (.iconst (-1), 1) := dl_h (dl_t (dl_t (dl_t (dl_t dkX3_init_118))))
theorem dX3_init_127 : decode cX3_init 127 = .ok (.invokestatic 56, 3) := dl_h (dl_t (dl_t (dl_t (dl_t (dl_t dkX3_init_118)))))
theorem dX3_init_130 : decode cX3_init 130 = .ok (.return_, 1) := dl_h (dl_t (dl_t (dl_t (dl_t (dl_t (dl_t dkX3_init_118))))))
theorem dkX3_gate_0 : dl_L cX3_gate [(0, .iload_n 1, 1), (1, .invokestatic 62, 3), (4, .ifCond .ne 5, 3), (7, .iconst (-1), 1), (8, .ireturn, 1), (9, .iload_n 2, 1), (10, .ifCond .lt 9, 3), (13, .iload_n 2, 1), (14, .bipush 10, 2), (16, .if_icmp .le 6, 3)] = true := by decide +kernel
theorem dX3_gate_0 : decode cX3_gate 0 = .ok (.iload_n 1, 1) := dl_h dkX3_gate_0
theorem dX3_gate_1 : decode cX3_gate 1 = .ok (.invokestatic 62, 3) := dl_h (dl_t dkX3_gate_0)
theorem dX3_gate_4 : decode cX3_gate 4 = .ok (.ifCond .ne 5, 3) := dl_h (dl_t (dl_t dkX3_gate_0))
theorem dX3_gate_7 : decode cX3_gate 7 = .ok (.iconst (-1), 1) := dl_h (dl_t (dl_t (dl_t dkX3_gate_0)))
theorem dX3_gate_8 : decode cX3_gate 8 = .ok (.ireturn, 1) := dl_h (dl_t (dl_t (dl_t (dl_t dkX3_gate_0))))
theorem dX3_gate_9 : decode cX3_gate 9 = .ok (.iload_n 2, 1) := dl_h (dl_t (dl_t (dl_t (dl_t (dl_t dkX3_gate_0)))))
theorem dX3_gate_10 : decode cX3_gate 10 = .ok (.ifCond .lt 9, 3) := dl_h (dl_t (dl_t (dl_t (dl_t (dl_t (dl_t dkX3_gate_0))))))
theorem dX3_gate_13 : decode cX3_gate 13 = .ok (.iload_n 2, 1) := dl_h (dl_t (dl_t (dl_t (dl_t (dl_t (dl_t (dl_t dkX3_gate_0)))))))
theorem dX3_gate_14 : decode cX3_gate 14 = .ok (.bipush 10, 2) := dl_h (dl_t (dl_t (dl_t (dl_t (dl_t (dl_t (dl_t (dl_t dkX3_gate_0))))))))
theorem dX3_gate_16 : decode cX3_gate 16 = .ok (.if_icmp .le 6, 3) := dl_h (dl_t (dl_t (dl_t (dl_t (dl_t (dl_t (dl_t (dl_t (dl_t dkX3_gate_0)))))))))
theorem dkX3_gate_19 : dl_L cX3_gate [(19, .bipush (-2), 2), (21, .ireturn, 1), (22, .aload_n 0, 1), (23, .getfield 11, 3), (26, .iload_n 1, 1), (27, .aaload, 1), (28, .iload_n 2, 1), (29, .iload_n 3, 1), (30, .iload 4, 2), (32, .iload 5, 2)] = true := by decide +kernel
theorem dX3_gate_19 : decode cX3_gate 19 = .ok (.bipush (-2), 2) := dl_h dkX3_gate_19
theorem dX3_gate_21 : decode cX3_gate 21 = .ok (.ireturn, 1) := dl_h (dl_t dkX3_gate_19)
theorem dX3_gate_22 : decode cX3_gate 22 = .ok (.aload_n 0, 1) := dl_h (dl_t (dl_t dkX3_gate_19))
theorem dX3_gate_23 : decode cX3_gate 23 = .ok (.getfield 11, 3) := dl_h (dl_t (dl_t (dl_t dkX3_gate_19)))
theorem dX3_gate_26 : decode cX3_gate 26 = .ok (.iload_n 1, 1) := dl_h (dl_t (dl_t (dl_t (dl_t dkX3_gate_19))))
theorem dX3_gate_27 : decode cX3_gate 27 = .ok (.aaload, 1) := dl_h (dl_t (dl_t (dl_t (dl_t (dl_t dkX3_gate_19)))))
theorem dX3_gate_28 : decode cX3_gate 28 = .ok (.iload_n 2, 1) := dl_h (dl_t (dl_t (dl_t (dl_t (dl_t (dl_t dkX3_gate_19))))))
theorem dX3_gate_29 : decode cX3_gate 29 = .ok (.iload_n 3, 1) := dl_h (dl_t (dl_t (dl_t (dl_t (dl_t (dl_t (dl_t dkX3_gate_19)))))))
theorem dX3_gate_30 : decode cX3_gate 30 = .ok (.iload 4, 2) := dl_h (dl_t (dl_t (dl_t (dl_t (dl_t (dl_t (dl_t (dl_t dkX3_gate_19))))))))
theorem dX3_gate_32 : decode cX3_gate 32 = .ok (.iload 5, 2) := dl_h (dl_t (dl_t (dl_t (dl_t (dl_t (dl_t (dl_t (dl_t (dl_t dkX3_gate_19)))))))))
theorem dkX3_gate_34 : dl_L cX3_gate [(34, .invokevirtual 66, 3), (37, .ifCond .ne 5, 3), (40, .iconst (-1), 1), (41, .ireturn, 1), (42, .iload_n 2, 1), (43, .ifCond .ne 13, 3), (46, .iload_n 3, 1), (47, .invokestatic 70, 3), (50, .ifCond .ne 6, 3), (53, .bipush (-2), 2)] = true := by decide +kernel
theorem dX3_gate_34 : decode cX3_gate 34 = .ok (.invokevirtual 66, 3) := dl_h dkX3_gate_34
theorem dX3_gate_37 : decode cX3_gate 37 = .ok (.ifCond .ne 5, 3) := dl_h (dl_t dkX3_gate_34)
theorem dX3_gate_40 : decode cX3_gate 40 = .ok (.iconst (-1), 1) := dl_h (dl_t (dl_t dkX3_gate_34))
theorem dX3_gate_41 : decode cX3_gate 41 = .ok (.ireturn, 1) := dl_h (dl_t (dl_t (dl_t dkX3_gate_34)))
theorem dX3_gate_42 : decode cX3_gate 42 = .ok (.iload_n 2, 1) := dl_h (dl_t (dl_t (dl_t (dl_t dkX3_gate_34))))
theorem dX3_gate_43 : decode cX3_gate 43 = .ok (.ifCond .ne 13, 3) := dl_h (dl_t (dl_t (dl_t (dl_t (dl_t dkX3_gate_34)))))
theorem dX3_gate_46 : decode cX3_gate 46 = .ok (.iload_n 3, 1) := dl_h (dl_t (dl_t (dl_t (dl_t (dl_t (dl_t dkX3_gate_34))))))
theorem dX3_gate_47 : decode cX3_gate 47 = .ok (.invokestatic 70, 3) := dl_h (dl_t (dl_t (dl_t (dl_t (dl_t (dl_t (dl_t dkX3_gate_34)))))))
theorem dX3_gate_50 : decode cX3_gate 50 = .ok (.ifCond .ne 6, 3) := dl_h (dl_t (dl_t (dl_t (dl_t (dl_t (dl_t (dl_t (dl_t dkX3_gate_34))))))))
theorem dX3_gate_53 : decode cX3_gate 53 = .ok (.bipush (-2), 2) := dl_h (dl_t (dl_t (dl_t (dl_t (dl_t (dl_t (dl_t (dl_t (dl_t dkX3_gate_34)))))))))
theorem dkX3_gate_55 : dl_L cX3_gate [(55, .ireturn, 1), (56, .aload_n 0, 1), (57, .getfield 11, 3), (60, .iload_n 1, 1), (61, .aaload, 1), (62, .iload_n 2, 1), (63, .iload_n 3, 1), (64, .iload 4, 2), (66, .iload 5, 2), (68, .invokevirtual 73, 3)] = true := by decide +kernel
theorem dX3_gate_55 : decode cX3_gate 55 = .ok (.ireturn, 1) := dl_h dkX3_gate_55
theorem dX3_gate_56 : decode cX3_gate 56 = .ok (.aload_n 0, 1) := dl_h (dl_t dkX3_gate_55)
theorem dX3_gate_57 : decode cX3_gate 57 = .ok (.getfield 11, 3) := dl_h (dl_t (dl_t dkX3_gate_55))
theorem dX3_gate_60 : decode cX3_gate 60 = .ok (.iload_n 1, 1) := dl_h (dl_t (dl_t (dl_t dkX3_gate_55)))
theorem dX3_gate_61 : decode cX3_gate 61 = .ok (.aaload, 1) := dl_h (dl_t (dl_t (dl_t (dl_t dkX3_gate_55))))
theorem dX3_gate_62 : decode cX3_gate 62 = .ok (.iload_n 2, 1) := dl_h (dl_t (dl_t (dl_t (dl_t (dl_t dkX3_gate_55)))))
theorem dX3_gate_63 : decode cX3_gate 63 = .ok (.iload_n 3, 1) := dl_h (dl_t (dl_t (dl_t (dl_t (dl_t (dl_t dkX3_gate_55))))))
theorem dX3_gate_64 : decode cX3_gate 64 = .ok (.iload 4, 2) := dl_h (dl_t (dl_t (dl_t (dl_t (dl_t (dl_t (dl_t dkX3_gate_55)))))))
theorem dX3_gate_66 : decode cX3_gate 66 = .ok (.iload 5, 2) := dl_h (dl_t (dl_t (dl_t (dl_t (dl_t (dl_t (dl_t (dl_t dkX3_gate_55))))))))
theorem dX3_gate_68 : decode cX3_gate 68 = .ok (.invokevirtual 73, 3) := dl_h (dl_t (dl_t (dl_t (dl_t (dl_t (dl_t (dl_t (dl_t (dl_t dkX3_gate_55)))))))))
theorem dkX3_gate_71 : dl_L cX3_gate [(71, .ireturn, 1)] = true := by decide +kernel
theorem dX3_gate_71 : decode cX3_gate 71 = .ok (.ireturn, 1) := dl_h dkX3_gate_71
theorem dkX3_output_0 : dl_L cX3_output [(0, .iload_n 1, 1), (1, .invokestatic 62, 3), (4, .ifCond .eq 16, 3), (7, .aload_n 0, 1), (8, .getfield 11, 3), (11, .iload_n 1, 1), (12, .aaload, 1), (13, .iload_n 2, 1), (14, .invokevirtual 77, 3), (17, .ifCond .ne 5, 3)] = true := by decide +kernel
theorem dX3_output_0 : decode cX3_output 0 = .ok (.iload_n 1, 1) := dl_h dkX3_output_0
theorem dX3_output_1 : decode cX3_output 1 = .ok (.invokestatic 62, 3) := dl_h (dl_t dkX3_output_0)
theorem dX3_output_4 : decode cX3_output 4 = .ok (.ifCond .eq 16, 3) := dl_h (dl_t (dl_t dkX3_output_0))
theorem dX3_output_7 : decode cX3_output 7 = .ok (.aload_n 0, 1) := dl_h (dl_t (dl_t (dl_t dkX3_output_0)))
theorem dX3_output_8 : decode cX3_output 8 = .ok (.getfield 11, 3) := dl_h (dl_t (dl_t (dl_t (dl_t dkX3_output_0))))
theorem dX3_output_11 : decode cX3_output 11 = .ok (.iload_n 1, 1) := dl_h (dl_t (dl_t (dl_t (dl_t (dl_t dkX3_output_0)))))
theorem dX3_output_12 : decode cX3_output 12 = .ok (.aaload, 1) := dl_h (dl_t (dl_t (dl_t (dl_t (dl_t (dl_t dkX3_output_0))))))
theorem dX3_output_13 : decode cX3_output 13 = .ok (.iload_n 2, 1) := dl_h (dl_t (dl_t (dl_t (dl_t (dl_t (dl_t (dl_t dkX3_output_0)))))))
theorem dX3_output_14 : decode cX3_output 14 = .ok (.invokevirtual 77, 3) := dl_h (dl_t (dl_t (dl_t (dl_t (dl_t (dl_t (dl_t (dl_t dkX3_output_0))))))))
theorem dX3_output_17 : decode cX3_output 17 = .ok (.ifCond .ne 5, 3) := dl_h (dl_t (dl_t (dl_t (dl_t (dl_t (dl_t (dl_t (dl_t (dl_t dkX3_output_0)))))))))
theorem dkX3_output_20 : dl_L cX3_output [(20, .iconst (-1), 1), (21, .ireturn, 1), (22, .aload_n 0, 1), (23, .getfield 11, 3), (26, .iload_n 1, 1), (27, .aaload, 1), (28, .iload_n 2, 1), (29, .invokevirtual 80, 3), (32, .ireturn, 1)] = true := by decide +kernel
theorem dX3_output_20 : decode cX3_output 20 = .ok (.iconst (-1), 1) := dl_h dkX3_output_20
theorem dX3_output_21 : decode cX3_output 21 = .ok (.ireturn, 1) := dl_h (dl_t dkX3_output_20)
theorem dX3_output_22 : decode cX3_output 22 = .ok (.aload_n 0, 1) := dl_h (dl_t (dl_t dkX3_output_20))
theorem dX3_output_23 : decode cX3_output 23 = .ok (.getfield 11, 3) := dl_h (dl_t (dl_t (dl_t dkX3_output_20)))
theorem dX3_output_26 : decode cX3_output 26 = .ok (.iload_n 1, 1) := dl_h (dl_t (dl_t (dl_t (dl_t dkX3_output_20))))
theorem dX3_output_27 : decode cX3_output 27 = .ok (.aaload, 1) := dl_h (dl_t (dl_t (dl_t (dl_t (dl_t dkX3_output_20)))))
theorem dX3_output_28 : decode cX3_output 28 = .ok (.iload_n 2, 1) := dl_h (dl_t (dl_t (dl_t (dl_t (dl_t (dl_t dkX3_output_20))))))
theorem dX3_output_29 : decode cX3_output 29 = .ok (.invokevirtual 80, 3) := dl_h (dl_t (dl_t (dl_t (dl_t (dl_t (dl_t (dl_t dkX3_output_20)))))))
theorem dX3_output_32 : decode cX3_output 32 = .ok (.ireturn, 1) := dl_h (dl_t (dl_t (dl_t (dl_t (dl_t (dl_t (dl_t (dl_t dkX3_output_20))))))))
theorem dkX3_clear_0 : dl_L cX3_clear [(0, .iload_n 1, 1), (1, .invokestatic 62, 3), (4, .ifCond .ne 5, 3), (7, .iconst (-1), 1), (8, .ireturn, 1), (9, .aload_n 0, 1), (10, .getfield 11, 3), (13, .iload_n 1, 1), (14, .aaload, 1), (15, .invokevirtual 84, 3)] = true := by decide +kernel
theorem dX3_clear_0 : decode cX3_clear 0 = .ok (.iload_n 1, 1) := dl_h dkX3_clear_0
theorem dX3_clear_1 : decode cX3_clear 1 = .ok (.invokestatic 62, 3) := dl_h (dl_t dkX3_clear_0)
theorem dX3_clear_4 : decode cX3_clear 4 = .ok (.ifCond .ne 5, 3) := dl_h (dl_t (dl_t dkX3_clear_0))
theorem dX3_clear_7 : decode cX3_clear 7 = .ok (.iconst (-1), 1) := dl_h (dl_t (dl_t (dl_t dkX3_clear_0)))
theorem dX3_clear_8 : decode cX3_clear 8 = .ok (.ireturn, 1) := dl_h (dl_t (dl_t (dl_t (dl_t dkX3_clear_0))))
theorem dX3_clear_9 : decode cX3_clear 9 = .ok (.aload_n 0, 1) := dl_h (dl_t (dl_t (dl_t (dl_t (dl_t dkX3_clear_0)))))
theorem dX3_clear_10 : decode cX3_clear 10 = .ok (.getfield 11, 3) := dl_h (dl_t (dl_t (dl_t (dl_t (dl_t (dl_t dkX3_clear_0))))))
theorem dX3_clear_13 : decode cX3_clear 13 = .ok (.iload_n 1, 1) := dl_h (dl_t (dl_t (dl_t (dl_t (dl_t (dl_t (dl_t dkX3_clear_0)))))))
theorem dX3_clear_14 : decode cX3_clear 14 = .ok (.aaload, 1) := dl_h (dl_t (dl_t (dl_t (dl_t (dl_t (dl_t (dl_t (dl_t dkX3_clear_0))))))))
theorem dX3_clear_15 : decode cX3_clear 15 = .ok (.invokevirtual 84, 3) := dl_h (dl_t (dl_t (dl_t (dl_t (dl_t (dl_t (dl_t (dl_t (dl_t dkX3_clear_0)))))))))
theorem dkX3_clear_18 : dl_L cX3_clear [(18, .ireturn, 1)] = true := by decide +kernel
theorem dX3_clear_18 : decode cX3_clear 18 = .ok (.ireturn, 1) := dl_h dkX3_clear_18
theorem dkX3_gives_0 : dl_L cX3_gives [(0, .iload_n 1, 1), (1, .invokestatic 62, 3), (4, .ifCond .eq 16, 3), (7, .aload_n 0, 1), (8, .getfield 11, 3), (11, .iload_n 1, 1), (12, .aaload, 1), (13, .iload_n 2, 1), (14, .invokevirtual 88, 3), (17, .ifCond .ne 5, 3)] = true := by decide +kernel
theorem dX3_gives_0 : decode cX3_gives 0 = .ok (.iload_n 1, 1) := dl_h dkX3_gives_0
theorem dX3_gives_1 : decode cX3_gives 1 = .ok (.invokestatic 62, 3) := dl_h (dl_t dkX3_gives_0)
theorem dX3_gives_4 : decode cX3_gives 4 = .ok (.ifCond .eq 16, 3) := dl_h (dl_t (dl_t dkX3_gives_0))
theorem dX3_gives_7 : decode cX3_gives 7 = .ok (.aload_n 0, 1) := dl_h (dl_t (dl_t (dl_t dkX3_gives_0)))
theorem dX3_gives_8 : decode cX3_gives 8 = .ok (.getfield 11, 3) := dl_h (dl_t (dl_t (dl_t (dl_t dkX3_gives_0))))
theorem dX3_gives_11 : decode cX3_gives 11 = .ok (.iload_n 1, 1) := dl_h (dl_t (dl_t (dl_t (dl_t (dl_t dkX3_gives_0)))))
theorem dX3_gives_12 : decode cX3_gives 12 = .ok (.aaload, 1) := dl_h (dl_t (dl_t (dl_t (dl_t (dl_t (dl_t dkX3_gives_0))))))
theorem dX3_gives_13 : decode cX3_gives 13 = .ok (.iload_n 2, 1) := dl_h (dl_t (dl_t (dl_t (dl_t (dl_t (dl_t (dl_t dkX3_gives_0)))))))
theorem dX3_gives_14 : decode cX3_gives 14 = .ok (.invokevirtual 88, 3) := dl_h (dl_t (dl_t (dl_t (dl_t (dl_t (dl_t (dl_t (dl_t dkX3_gives_0))))))))
theorem dX3_gives_17 : decode cX3_gives 17 = .ok (.ifCond .ne 5, 3) := dl_h (dl_t (dl_t (dl_t (dl_t (dl_t (dl_t (dl_t (dl_t (dl_t dkX3_gives_0)))))))))
theorem dkX3_gives_20 : dl_L cX3_gives [(20, .iconst (-1), 1), (21, .ireturn, 1), (22, .iload_n 3, 1), (23, .invokestatic 91, 3), (26, .ifCond .ne 6, 3), (29, .bipush (-2), 2), (31, .ireturn, 1), (32, .aload_n 0, 1), (33, .getfield 11, 3), (36, .iload_n 1, 1)] = true := by decide +kernel
theorem dX3_gives_20 : decode cX3_gives 20 = .ok (.iconst (-1), 1) := dl_h dkX3_gives_20
theorem dX3_gives_21 : decode cX3_gives 21 = .ok (.ireturn, 1) := dl_h (dl_t dkX3_gives_20)
theorem dX3_gives_22 : decode cX3_gives 22 = .ok (.iload_n 3, 1) := dl_h (dl_t (dl_t dkX3_gives_20))
theorem dX3_gives_23 : decode cX3_gives 23 = .ok (.invokestatic 91, 3) := dl_h (dl_t (dl_t (dl_t dkX3_gives_20)))
theorem dX3_gives_26 : decode cX3_gives 26 = .ok (.ifCond .ne 6, 3) := dl_h (dl_t (dl_t (dl_t (dl_t dkX3_gives_20))))
theorem dX3_gives_29 : decode cX3_gives 29 = .ok (.bipush (-2), 2) := dl_h (dl_t (dl_t (dl_t (dl_t (dl_t dkX3_gives_20)))))
theorem dX3_gives_31 : decode cX3_gives 31 = .ok (.ireturn, 1) := dl_h (dl_t (dl_t (dl_t (dl_t (dl_t (dl_t dkX3_gives_20))))))
theorem dX3_gives_32 : decode cX3_gives 32 = .ok (.aload_n 0, 1) := dl_h (dl_t (dl_t (dl_t (dl_t (dl_t (dl_t (dl_t dkX3_gives_20)))))))
theorem dX3_gives_33 : decode cX3_gives 33 = .ok (.getfield 11, 3) := dl_h (dl_t (dl_t (dl_t (dl_t (dl_t (dl_t (dl_t (dl_t dkX3_gives_20))))))))
theorem dX3_gives_36 : decode cX3_gives 36 = .ok (.iload_n 1, 1) := dl_h (dl_t (dl_t (dl_t (dl_t (dl_t (dl_t (dl_t (dl_t (dl_t dkX3_gives_20)))))))))
theorem dkX3_gives_37 : dl_L cX3_gives [(37, .aaload, 1), (38, .iload_n 2, 1), (39, .iload_n 3, 1), (40, .invokevirtual 94, 3), (43, .ireturn, 1)] = true := by decide +kernel
theorem dX3_gives_37 : decode cX3_gives 37 = .ok (.aaload, 1) := dl_h dkX3_gives_37
theorem dX3_gives_38 : decode cX3_gives 38 = .ok (.iload_n 2, 1) := dl_h (dl_t dkX3_gives_37)
theorem dX3_gives_39 : decode cX3_gives 39 = .ok (.iload_n 3, 1) := dl_h (dl_t (dl_t dkX3_gives_37))
theorem dX3_gives_40 : decode cX3_gives 40 = .ok (.invokevirtual 94, 3) := dl_h (dl_t (dl_t (dl_t dkX3_gives_37)))
theorem dX3_gives_43 : decode cX3_gives 43 = .ok (.ireturn, 1) := dl_h (dl_t (dl_t (dl_t (dl_t dkX3_gives_37))))
theorem dkX3_order_0 : dl_L cX3_order [(0, .iload_n 1, 1), (1, .invokestatic 62, 3), (4, .ifCond .ne 5, 3), (7, .iconst (-1), 1), (8, .ireturn, 1), (9, .aload_n 0, 1), (10, .invokevirtual 98, 3), (13, .ifCond .le 6, 3), (16, .bipush (-3), 2), (18, .ireturn, 1)] = true := by decide +kernel
theorem dX3_order_0 : decode cX3_order 0 = .ok (.iload_n 1, 1) := dl_h dkX3_order_0
theorem dX3_order_1 : decode cX3_order 1 = .ok (.invokestatic 62, 3) := dl_h (dl_t dkX3_order_0)
theorem dX3_order_4 : decode cX3_order 4 = .ok (.ifCond .ne 5, 3) := dl_h (dl_t (dl_t dkX3_order_0))
theorem dX3_order_7 : decode cX3_order 7 = .ok (.iconst (-1), 1) := dl_h (dl_t (dl_t (dl_t dkX3_order_0)))
theorem dX3_order_8 : decode cX3_order 8 = .ok (.ireturn, 1) := dl_h (dl_t (dl_t (dl_t (dl_t dkX3_order_0))))
theorem dX3_order_9 : decode cX3_order 9 = .ok (.aload_n 0, 1) := dl_h (dl_t (dl_t (dl_t (dl_t (dl_t dkX3_order_0)))))
theorem dX3_order_10 : decode cX3_order 10 = .ok (.invokevirtual 98, 3) := dl_h (dl_t (dl_t (dl_t (dl_t (dl_t (dl_t dkX3_order_0))))))
theorem dX3_order_13 : decode cX3_order 13 = .ok (.ifCond .le 6, 3) := dl_h (dl_t (dl_t (dl_t (dl_t (dl_t (dl_t (dl_t dkX3_order_0)))))))
theorem dX3_order_16 : decode cX3_order 16 = .ok (.bipush (-3), 2) := dl_h (dl_t (dl_t (dl_t (dl_t (dl_t (dl_t (dl_t (dl_t dkX3_order_0))))))))
theorem dX3_order_18 : decode cX3_order 18 = .ok (.ireturn, 1) := dl_h (dl_t (dl_t (dl_t (dl_t (dl_t (dl_t (dl_t (dl_t (dl_t dkX3_order_0)))))))))
theorem dkX3_order_19 : dl_L cX3_order [(19, .aload_n 0, 1), (20, .getfield 18, 3), (23, .invokevirtual 101, 3), (26, .aload_n 0, 1), (27, .getfield 11, 3), (30, .iload_n 1, 1), (31, .aaload, 1), (32, .aload_n 0, 1), (33, .getfield 18, 3), (36, .invokevirtual 104, 3)] = true := by decide +kernel
theorem dX3_order_19 : decode cX3_order 19 = .ok (.aload_n 0, 1) := dl_h dkX3_order_19
theorem dX3_order_20 : decode cX3_order 20 = .ok (.getfield 18, 3) := dl_h (dl_t dkX3_order_19)
theorem dX3_order_23 : decode cX3_order 23 = .ok (.invokevirtual 101, 3) := dl_h (dl_t (dl_t dkX3_order_19))
theorem dX3_order_26 : decode cX3_order 26 = .ok (.aload_n 0, 1) := dl_h (dl_t (dl_t (dl_t dkX3_order_19)))
theorem dX3_order_27 : decode cX3_order 27 = .ok (.getfield 11, 3) := dl_h (dl_t (dl_t (dl_t (dl_t dkX3_order_19))))
theorem dX3_order_30 : decode cX3_order 30 = .ok (.iload_n 1, 1) := dl_h (dl_t (dl_t (dl_t (dl_t (dl_t dkX3_order_19)))))
theorem dX3_order_31 : decode cX3_order 31 = .ok (.aaload, 1) := dl_h (dl_t (dl_t (dl_t (dl_t (dl_t (dl_t dkX3_order_19))))))
theorem dX3_order_32 : decode cX3_order 32 = .ok (.aload_n 0, 1) := dl_h (dl_t (dl_t (dl_t (dl_t (dl_t (dl_t (dl_t dkX3_order_19)))))))
theorem dX3_order_33 : decode cX3_order 33 = .ok (.getfield 18, 3) := dl_h (dl_t (dl_t (dl_t (dl_t (dl_t (dl_t (dl_t (dl_t dkX3_order_19))))))))
theorem dX3_order_36 : decode cX3_order 36 = .ok (.invokevirtual 104, 3) := dl_h (dl_t (dl_t (dl_t (dl_t (dl_t (dl_t (dl_t (dl_t (dl_t dkX3_order_19)))))))))
theorem dkX3_order_39 : dl_L cX3_order [(39, .aload_n 0, 1), (40, .getfield 18, 3), (43, .invokevirtual 108, 3), (46, .ireturn, 1)] = true := by decide +kernel
theorem dX3_order_39 : decode cX3_order 39 = .ok (.aload_n 0, 1) := dl_h dkX3_order_39
theorem dX3_order_40 : decode cX3_order 40 = .ok (.getfield 18, 3) := dl_h (dl_t dkX3_order_39)
theorem dX3_order_43 : decode cX3_order 43 = .ok (.invokevirtual 108, 3) := dl_h (dl_t (dl_t dkX3_order_39))
theorem dX3_order_46 : decode cX3_order 46 = .ok (.ireturn, 1) := dl_h (dl_t (dl_t (dl_t dkX3_order_39)))
theorem dkX3_move_0 : dl_L cX3_move [(0, .iload_n 1, 1), (1, .invokestatic 70, 3), (4, .ifCond .eq 10, 3), (7, .iload_n 2, 1), (8, .invokestatic 70, 3), (11, .ifCond .ne 6, 3), (14, .bipush (-2), 2), (16, .ireturn, 1), (17, .aload_n 0, 1), (18, .invokevirtual 98, 3)] = true := by decide +kernel
theorem dX3_move_0 : decode cX3_move 0 = .ok (.iload_n 1, 1) := dl_h dkX3_move_0
theorem dX3_move_1 : decode cX3_move 1 = .ok (.invokestatic 70, 3) := dl_h (dl_t dkX3_move_0)
theorem dX3_move_4 : decode cX3_move 4 = .ok (.ifCond .eq 10, 3) := dl_h (dl_t (dl_t dkX3_move_0))
theorem dX3_move_7 : decode cX3_move 7 = .ok (.iload_n 2, 1) := dl_h (dl_t (dl_t (dl_t dkX3_move_0)))
theorem dX3_move_8 : decode cX3_move 8 = .ok (.invokestatic 70, 3) := dl_h (dl_t (dl_t (dl_t (dl_t dkX3_move_0))))
theorem dX3_move_11 : decode cX3_move 11 = .ok (.ifCond .ne 6, 3) := dl_h (dl_t (dl_t (dl_t (dl_t (dl_t dkX3_move_0)))))
theorem dX3_move_14 : decode cX3_move 14 = .ok (.bipush (-2), 2) := dl_h (dl_t (dl_t (dl_t (dl_t (dl_t (dl_t dkX3_move_0))))))
theorem dX3_move_16 : decode cX3_move 16 = .ok (.ireturn, 1) := dl_h (dl_t (dl_t (dl_t (dl_t (dl_t (dl_t (dl_t dkX3_move_0)))))))
theorem dX3_move_17 : decode cX3_move 17 = .ok (.aload_n 0, 1) := dl_h (dl_t (dl_t (dl_t (dl_t (dl_t (dl_t (dl_t (dl_t dkX3_move_0))))))))
theorem dX3_move_18 : decode cX3_move 18 = .ok (.invokevirtual 98, 3) := dl_h (dl_t (dl_t (dl_t (dl_t (dl_t (dl_t (dl_t (dl_t (dl_t dkX3_move_0)))))))))
theorem dkX3_move_21 : dl_L cX3_move [(21, .ifCond .le 6, 3), (24, .bipush (-3), 2), (26, .ireturn, 1), (27, .aload_n 0, 1), (28, .getfield 18, 3), (31, .iload_n 1, 1), (32, .iload_n 2, 1), (33, .invokevirtual 111, 3), (36, .ireturn, 1)] = true := by decide +kernel
theorem dX3_move_21 : decode cX3_move 21 = .ok (.ifCond .le 6, 3) := dl_h dkX3_move_21
theorem dX3_move_24 : decode cX3_move 24 = .ok (.bipush (-3), 2) := dl_h (dl_t dkX3_move_21)
theorem dX3_move_26 : decode cX3_move 26 = .ok (.ireturn, 1) := dl_h (dl_t (dl_t dkX3_move_21))
theorem dX3_move_27 : decode cX3_move 27 = .ok (.aload_n 0, 1) := dl_h (dl_t (dl_t (dl_t dkX3_move_21)))
theorem dX3_move_28 : decode cX3_move 28 = .ok (.getfield 18, 3) := dl_h (dl_t (dl_t (dl_t (dl_t dkX3_move_21))))
theorem dX3_move_31 : decode cX3_move 31 = .ok (.iload_n 1, 1) := dl_h (dl_t (dl_t (dl_t (dl_t (dl_t dkX3_move_21)))))
theorem dX3_move_32 : decode cX3_move 32 = .ok (.iload_n 2, 1) := dl_h (dl_t (dl_t (dl_t (dl_t (dl_t (dl_t dkX3_move_21))))))
theorem dX3_move_33 : decode cX3_move 33 = .ok (.invokevirtual 111, 3) := dl_h (dl_t (dl_t (dl_t (dl_t (dl_t (dl_t (dl_t dkX3_move_21)))))))
theorem dX3_move_36 : decode cX3_move 36 = .ok (.ireturn, 1) := dl_h (dl_t (dl_t (dl_t (dl_t (dl_t (dl_t (dl_t (dl_t dkX3_move_21))))))))
theorem dkX3_at_0 : dl_L cX3_at [(0, .iload_n 1, 1), (1, .invokestatic 70, 3), (4, .ifCond .ne 6, 3), (7, .bipush (-2), 2), (9, .ireturn, 1), (10, .aload_n 0, 1), (11, .getfield 18, 3), (14, .iload_n 1, 1), (15, .invokevirtual 114, 3), (18, .ireturn, 1)] = true := by decide +kernel
theorem dX3_at_0 : decode cX3_at 0 = .ok (.iload_n 1, 1) := dl_h dkX3_at_0
theorem dX3_at_1 : decode cX3_at 1 = .ok (.invokestatic 70, 3) := dl_h (dl_t dkX3_at_0)
theorem dX3_at_4 : decode cX3_at 4 = .ok (.ifCond .ne 6, 3) := dl_h (dl_t (dl_t dkX3_at_0))
theorem dX3_at_7 : decode cX3_at 7 = .ok (.bipush (-2), 2) := dl_h (dl_t (dl_t (dl_t dkX3_at_0)))
theorem dX3_at_9 : decode cX3_at 9 = .ok (.ireturn, 1) := dl_h (dl_t (dl_t (dl_t (dl_t dkX3_at_0))))
theorem dX3_at_10 : decode cX3_at 10 = .ok (.aload_n 0, 1) := dl_h (dl_t (dl_t (dl_t (dl_t (dl_t dkX3_at_0)))))
theorem dX3_at_11 : decode cX3_at 11 = .ok (.getfield 18, 3) := dl_h (dl_t (dl_t (dl_t (dl_t (dl_t (dl_t dkX3_at_0))))))
theorem dX3_at_14 : decode cX3_at 14 = .ok (.iload_n 1, 1) := dl_h (dl_t (dl_t (dl_t (dl_t (dl_t (dl_t (dl_t dkX3_at_0)))))))
theorem dX3_at_15 : decode cX3_at 15 = .ok (.invokevirtual 114, 3) := dl_h (dl_t (dl_t (dl_t (dl_t (dl_t (dl_t (dl_t (dl_t dkX3_at_0))))))))
theorem dX3_at_18 : decode cX3_at 18 = .ok (.ireturn, 1) := dl_h (dl_t (dl_t (dl_t (dl_t (dl_t (dl_t (dl_t (dl_t (dl_t dkX3_at_0)))))))))
theorem dkX3_room_0 : dl_L cX3_room [(0, .iload_n 1, 1), (1, .ifCond .lt 10, 3), (4, .iload_n 1, 1), (5, .sipush 250, 3), (8, .if_icmp .le 6, 3), (11, .bipush (-2), 2), (13, .ireturn, 1), (14, .aload_n 0, 1), (15, .invokevirtual 117, 3), (18, .iload_n 1, 1)] = true := by decide +kernel
theorem dX3_room_0 : decode cX3_room 0 = .ok (.iload_n 1, 1) := dl_h dkX3_room_0
theorem dX3_room_1 : decode cX3_room 1 = .ok (.ifCond .lt 10, 3) := dl_h (dl_t dkX3_room_0)
theorem dX3_room_4 : decode cX3_room 4 = .ok (.iload_n 1, 1) := dl_h (dl_t (dl_t dkX3_room_0))
theorem dX3_room_5 : decode cX3_room 5 = .ok (.sipush 250, 3) := dl_h (dl_t (dl_t (dl_t dkX3_room_0)))
theorem dX3_room_8 : decode cX3_room 8 = .ok (.if_icmp .le 6, 3) := dl_h (dl_t (dl_t (dl_t (dl_t dkX3_room_0))))
theorem dX3_room_11 : decode cX3_room 11 = .ok (.bipush (-2), 2) := dl_h (dl_t (dl_t (dl_t (dl_t (dl_t dkX3_room_0)))))
theorem dX3_room_13 : decode cX3_room 13 = .ok (.ireturn, 1) := dl_h (dl_t (dl_t (dl_t (dl_t (dl_t (dl_t dkX3_room_0))))))
theorem dX3_room_14 : decode cX3_room 14 = .ok (.aload_n 0, 1) := dl_h (dl_t (dl_t (dl_t (dl_t (dl_t (dl_t (dl_t dkX3_room_0)))))))
theorem dX3_room_15 : decode cX3_room 15 = .ok (.invokevirtual 117, 3) := dl_h (dl_t (dl_t (dl_t (dl_t (dl_t (dl_t (dl_t (dl_t dkX3_room_0))))))))
theorem dX3_room_18 : decode cX3_room 18 = .ok (.iload_n 1, 1) := dl_h (dl_t (dl_t (dl_t (dl_t (dl_t (dl_t (dl_t (dl_t (dl_t dkX3_room_0)))))))))
theorem dkX3_room_19 : dl_L cX3_room [(19, .if_icmp .le 6, 3), (22, .bipush (-3), 2), (24, .ireturn, 1), (25, .aload_n 0, 1), (26, .getfield 25, 3), (29, .iload_n 1, 1), (30, .invokevirtual 120, 3), (33, .ireturn, 1)] = true := by decide +kernel
theorem dX3_room_19 : decode cX3_room 19 = .ok (.if_icmp .le 6, 3) := dl_h dkX3_room_19
theorem dX3_room_22 : decode cX3_room 22 = .ok (.bipush (-3), 2) := dl_h (dl_t dkX3_room_19)
theorem dX3_room_24 : decode cX3_room 24 = .ok (.ireturn, 1) := dl_h (dl_t (dl_t dkX3_room_19))
theorem dX3_room_25 : decode cX3_room 25 = .ok (.aload_n 0, 1) := dl_h (dl_t (dl_t (dl_t dkX3_room_19)))
theorem dX3_room_26 : decode cX3_room 26 = .ok (.getfield 25, 3) := dl_h (dl_t (dl_t (dl_t (dl_t dkX3_room_19))))
theorem dX3_room_29 : decode cX3_room 29 = .ok (.iload_n 1, 1) := dl_h (dl_t (dl_t (dl_t (dl_t (dl_t dkX3_room_19)))))
theorem dX3_room_30 : decode cX3_room 30 = .ok (.invokevirtual 120, 3) := dl_h (dl_t (dl_t (dl_t (dl_t (dl_t (dl_t dkX3_room_19))))))
theorem dX3_room_33 : decode cX3_room 33 = .ok (.ireturn, 1) := dl_h (dl_t (dl_t (dl_t (dl_t (dl_t (dl_t (dl_t dkX3_room_19)))))))
theorem dkX3_build_0 : dl_L cX3_build [(0, .iload_n 1, 1), (1, .invokestatic 123, 3), (4, .ifCond .eq 23, 3), (7, .iload_n 2, 1), (8, .invokestatic 62, 3), (11, .ifCond .eq 16, 3), (14, .aload_n 0, 1), (15, .getfield 11, 3), (18, .iload_n 2, 1), (19, .aaload, 1)] = true := by decide +kernel
theorem dX3_build_0 : decode cX3_build 0 = .ok (.iload_n 1, 1) := dl_h dkX3_build_0
theorem dX3_build_1 : decode cX3_build 1 = .ok (.invokestatic 123, 3) := dl_h (dl_t dkX3_build_0)
theorem dX3_build_4 : decode cX3_build 4 = .ok (.ifCond .eq 23, 3) := dl_h (dl_t (dl_t dkX3_build_0))
theorem dX3_build_7 : decode cX3_build 7 = .ok (.iload_n 2, 1) := dl_h (dl_t (dl_t (dl_t dkX3_build_0)))
theorem dX3_build_8 : decode cX3_build 8 = .ok (.invokestatic 62, 3) := dl_h (dl_t (dl_t (dl_t (dl_t dkX3_build_0))))
theorem dX3_build_11 : decode cX3_build 11 = .ok (.ifCond .eq 16, 3) := dl_h (dl_t (dl_t (dl_t (dl_t (dl_t dkX3_build_0)))))
theorem dX3_build_14 : decode cX3_build 14 = .ok (.aload_n 0, 1) := dl_h (dl_t (dl_t (dl_t (dl_t (dl_t (dl_t dkX3_build_0))))))
theorem dX3_build_15 : decode cX3_build 15 = .ok (.getfield 11, 3) := dl_h (dl_t (dl_t (dl_t (dl_t (dl_t (dl_t (dl_t dkX3_build_0)))))))
theorem dX3_build_18 : decode cX3_build 18 = .ok (.iload_n 2, 1) := dl_h (dl_t (dl_t (dl_t (dl_t (dl_t (dl_t (dl_t (dl_t dkX3_build_0))))))))
theorem dX3_build_19 : decode cX3_build 19 = .ok (.aaload, 1) := dl_h (dl_t (dl_t (dl_t (dl_t (dl_t (dl_t (dl_t (dl_t (dl_t dkX3_build_0)))))))))
theorem dkX3_build_20 : dl_L cX3_build [(20, .iload_n 3, 1), (21, .invokevirtual 88, 3), (24, .ifCond .ne 5, 3), (27, .iconst (-1), 1), (28, .ireturn, 1), (29, .aload_n 0, 1), (30, .invokevirtual 126, 3), (33, .aload_n 0, 1), (34, .iload_n 1, 1), (35, .aload_n 0, 1)] = true := by decide +kernel
theorem dX3_build_20 : decode cX3_build 20 = .ok (.iload_n 3, 1) := dl_h dkX3_build_20
theorem dX3_build_21 : decode cX3_build 21 = .ok (.invokevirtual 88, 3) := dl_h (dl_t dkX3_build_20)
theorem dX3_build_24 : decode cX3_build 24 = .ok (.ifCond .ne 5, 3) := dl_h (dl_t (dl_t dkX3_build_20))
theorem dX3_build_27 : decode cX3_build 27 = .ok (.iconst (-1), 1) := dl_h (dl_t (dl_t (dl_t dkX3_build_20)))
theorem dX3_build_28 : decode cX3_build 28 = .ok (.ireturn, 1) := dl_h (dl_t (dl_t (dl_t (dl_t dkX3_build_20))))
theorem dX3_build_29 : decode cX3_build 29 = .ok (.aload_n 0, 1) := dl_h (dl_t (dl_t (dl_t (dl_t (dl_t dkX3_build_20)))))
theorem dX3_build_30 : decode cX3_build 30 = .ok (.invokevirtual 126, 3) := dl_h (dl_t (dl_t (dl_t (dl_t (dl_t (dl_t dkX3_build_20))))))
theorem dX3_build_33 : decode cX3_build 33 = .ok (.aload_n 0, 1) := dl_h (dl_t (dl_t (dl_t (dl_t (dl_t (dl_t (dl_t dkX3_build_20)))))))
theorem dX3_build_34 : decode cX3_build 34 = .ok (.iload_n 1, 1) := dl_h (dl_t (dl_t (dl_t (dl_t (dl_t (dl_t (dl_t (dl_t dkX3_build_20))))))))
theorem dX3_build_35 : decode cX3_build 35 = .ok (.aload_n 0, 1) := dl_h (dl_t (dl_t (dl_t (dl_t (dl_t (dl_t (dl_t (dl_t (dl_t dkX3_build_20)))))))))
theorem dkX3_build_36 : dl_L cX3_build [(36, .aload_n 0, 1), (37, .getfield 11, 3), (40, .iload_n 2, 1), (41, .aaload, 1), (42, .iload_n 3, 1), (43, .invokevirtual 129, 3), (46, .invokevirtual 133, 3), (49, .ireturn, 1)] = true := by decide +kernel
theorem dX3_build_36 : decode cX3_build 36 = .ok (.aload_n 0, 1) := dl_h dkX3_build_36
theorem dX3_build_37 : decode cX3_build 37 = .ok (.getfield 11, 3) := dl_h (dl_t dkX3_build_36)
theorem dX3_build_40 : decode cX3_build 40 = .ok (.iload_n 2, 1) := dl_h (dl_t (dl_t dkX3_build_36))
theorem dX3_build_41 : decode cX3_build 41 = .ok (.aaload, 1) := dl_h (dl_t (dl_t (dl_t dkX3_build_36)))
theorem dX3_build_42 : decode cX3_build 42 = .ok (.iload_n 3, 1) := dl_h (dl_t (dl_t (dl_t (dl_t dkX3_build_36))))
theorem dX3_build_43 : decode cX3_build 43 = .ok (.invokevirtual 129, 3) := dl_h (dl_t (dl_t (dl_t (dl_t (dl_t dkX3_build_36)))))
theorem dX3_build_46 : decode cX3_build 46 = .ok (.invokevirtual 133, 3) := dl_h (dl_t (dl_t (dl_t (dl_t (dl_t (dl_t dkX3_build_36))))))
theorem dX3_build_49 : decode cX3_build 49 = .ok (.ireturn, 1) := dl_h (dl_t (dl_t (dl_t (dl_t (dl_t (dl_t (dl_t dkX3_build_36)))))))
theorem dkX3_variable_0 : dl_L cX3_variable [(0, .iload_n 1, 1), (1, .invokestatic 123, 3), (4, .ifCond .ne 5, 3), (7, .iconst (-1), 1), (8, .ireturn, 1), (9, .iload_n 2, 1), (10, .invokestatic 70, 3), (13, .ifCond .ne 6, 3), (16, .bipush (-2), 2), (18, .ireturn, 1)] = true := by decide +kernel
theorem dX3_variable_0 : decode cX3_variable 0 = .ok (.iload_n 1, 1) := dl_h dkX3_variable_0
theorem dX3_variable_1 : decode cX3_variable 1 = .ok (.invokestatic 123, 3) := dl_h (dl_t dkX3_variable_0)
theorem dX3_variable_4 : decode cX3_variable 4 = .ok (.ifCond .ne 5, 3) := dl_h (dl_t (dl_t dkX3_variable_0))
theorem dX3_variable_7 : decode cX3_variable 7 = .ok (.iconst (-1), 1) := dl_h (dl_t (dl_t (dl_t dkX3_variable_0)))
theorem dX3_variable_8 : decode cX3_variable 8 = .ok (.ireturn, 1) := dl_h (dl_t (dl_t (dl_t (dl_t dkX3_variable_0))))
theorem dX3_variable_9 : decode cX3_variable 9 = .ok (.iload_n 2, 1) := dl_h (dl_t (dl_t (dl_t (dl_t (dl_t dkX3_variable_0)))))
theorem dX3_variable_10 : decode cX3_variable 10 = .ok (.invokestatic 70, 3) := dl_h (dl_t (dl_t (dl_t (dl_t (dl_t (dl_t dkX3_variable_0))))))
theorem dX3_variable_13 : decode cX3_variable 13 = .ok (.ifCond .ne 6, 3) := dl_h (dl_t (dl_t (dl_t (dl_t (dl_t (dl_t (dl_t dkX3_variable_0)))))))
theorem dX3_variable_16 : decode cX3_variable 16 = .ok (.bipush (-2), 2) := dl_h (dl_t (dl_t (dl_t (dl_t (dl_t (dl_t (dl_t (dl_t dkX3_variable_0))))))))
theorem dX3_variable_18 : decode cX3_variable 18 = .ok (.ireturn, 1) := dl_h (dl_t (dl_t (dl_t (dl_t (dl_t (dl_t (dl_t (dl_t (dl_t dkX3_variable_0)))))))))
theorem dkX3_variable_19 : dl_L cX3_variable [(19, .aload_n 0, 1), (20, .invokevirtual 126, 3), (23, .aload_n 0, 1), (24, .iload_n 1, 1), (25, .aload_n 0, 1), (26, .iload_n 2, 1), (27, .invokevirtual 136, 3), (30, .invokevirtual 133, 3), (33, .ireturn, 1)] = true := by decide +kernel
theorem dX3_variable_19 : decode cX3_variable 19 = .ok (.aload_n 0, 1) := dl_h dkX3_variable_19
theorem dX3_variable_20 : decode cX3_variable 20 = .ok (.invokevirtual 126, 3) := dl_h (dl_t dkX3_variable_19)
theorem dX3_variable_23 : decode cX3_variable 23 = .ok (.aload_n 0, 1) := dl_h (dl_t (dl_t dkX3_variable_19))
theorem dX3_variable_24 : decode cX3_variable 24 = .ok (.iload_n 1, 1) := dl_h (dl_t (dl_t (dl_t dkX3_variable_19)))
theorem dX3_variable_25 : decode cX3_variable 25 = .ok (.aload_n 0, 1) := dl_h (dl_t (dl_t (dl_t (dl_t dkX3_variable_19))))
theorem dX3_variable_26 : decode cX3_variable 26 = .ok (.iload_n 2, 1) := dl_h (dl_t (dl_t (dl_t (dl_t (dl_t dkX3_variable_19)))))
theorem dX3_variable_27 : decode cX3_variable 27 = .ok (.invokevirtual 136, 3) := dl_h (dl_t (dl_t (dl_t (dl_t (dl_t (dl_t dkX3_variable_19))))))
theorem dX3_variable_30 : decode cX3_variable 30 = .ok (.invokevirtual 133, 3) := dl_h (dl_t (dl_t (dl_t (dl_t (dl_t (dl_t (dl_t dkX3_variable_19)))))))
theorem dX3_variable_33 : decode cX3_variable 33 = .ok (.ireturn, 1) := dl_h (dl_t (dl_t (dl_t (dl_t (dl_t (dl_t (dl_t (dl_t dkX3_variable_19))))))))
theorem dkX3_combine_0 : dl_L cX3_combine [(0, .iload_n 1, 1), (1, .invokestatic 123, 3), (4, .ifCond .ne 5, 3), (7, .iconst (-1), 1), (8, .ireturn, 1), (9, .iload_n 2, 1), (10, .ifCond .le 9, 3), (13, .iload_n 2, 1), (14, .bipush 9, 2), (16, .if_icmp .le 6, 3)] = true := by decide +kernel
theorem dX3_combine_0 : decode cX3_combine 0 = .ok (.iload_n 1, 1) := dl_h dkX3_combine_0
theorem dX3_combine_1 : decode cX3_combine 1 = .ok (.invokestatic 123, 3) := dl_h (dl_t dkX3_combine_0)
theorem dX3_combine_4 : decode cX3_combine 4 = .ok (.ifCond .ne 5, 3) := dl_h (dl_t (dl_t dkX3_combine_0))
theorem dX3_combine_7 : decode cX3_combine 7 = .ok (.iconst (-1), 1) := dl_h (dl_t (dl_t (dl_t dkX3_combine_0)))
theorem dX3_combine_8 : decode cX3_combine 8 = .ok (.ireturn, 1) := dl_h (dl_t (dl_t (dl_t (dl_t dkX3_combine_0))))
theorem dX3_combine_9 : decode cX3_combine 9 = .ok (.iload_n 2, 1) := dl_h (dl_t (dl_t (dl_t (dl_t (dl_t dkX3_combine_0)))))
theorem dX3_combine_10 : decode cX3_combine 10 = .ok (.ifCond .le 9, 3) := dl_h (dl_t (dl_t (dl_t (dl_t (dl_t (dl_t dkX3_combine_0))))))
theorem dX3_combine_13 : decode cX3_combine 13 = .ok (.iload_n 2, 1) := dl_h (dl_t (dl_t (dl_t (dl_t (dl_t (dl_t (dl_t dkX3_combine_0)))))))
theorem dX3_combine_14 : decode cX3_combine 14 = .ok (.bipush 9, 2) := dl_h (dl_t (dl_t (dl_t (dl_t (dl_t (dl_t (dl_t (dl_t dkX3_combine_0))))))))
theorem dX3_combine_16 : decode cX3_combine 16 = .ok (.if_icmp .le 6, 3) := dl_h (dl_t (dl_t (dl_t (dl_t (dl_t (dl_t (dl_t (dl_t (dl_t dkX3_combine_0)))))))))
theorem dkX3_combine_19 : dl_L cX3_combine [(19, .bipush (-2), 2), (21, .ireturn, 1), (22, .iload_n 2, 1), (23, .iconst 3, 1), (24, .if_icmp .lt 7, 3), (27, .iconst 1, 1), (28, .goto 4, 3), (31, .iconst 0, 1), (32, .istore 5, 2), (34, .iload_n 2, 1)] = true := by decide +kernel
theorem dX3_combine_19 : decode cX3_combine 19 = .ok (.bipush (-2), 2) := dl_h dkX3_combine_19
theorem dX3_combine_21 : decode cX3_combine 21 = .ok (.ireturn, 1) := dl_h (dl_t dkX3_combine_19)
theorem dX3_combine_22 : decode cX3_combine 22 = .ok (.iload_n 2, 1) := dl_h (dl_t (dl_t dkX3_combine_19))
theorem dX3_combine_23 : decode cX3_combine 23 = .ok (.iconst 3, 1) := dl_h (dl_t (dl_t (dl_t dkX3_combine_19)))
theorem dX3_combine_24 : decode cX3_combine 24 = .ok (.if_icmp .lt 7, 3) := dl_h (dl_t (dl_t (dl_t (dl_t dkX3_combine_19))))
theorem dX3_combine_27 : decode cX3_combine 27 = .ok (.iconst 1, 1) := dl_h (dl_t (dl_t (dl_t (dl_t (dl_t dkX3_combine_19)))))
theorem dX3_combine_28 : decode cX3_combine 28 = .ok (.goto 4, 3) := dl_h (dl_t (dl_t (dl_t (dl_t (dl_t (dl_t dkX3_combine_19))))))
theorem dX3_combine_31 : decode cX3_combine 31 = .ok (.iconst 0, 1) := dl_h (dl_t (dl_t (dl_t (dl_t (dl_t (dl_t (dl_t dkX3_combine_19)))))))
theorem dX3_combine_32 : decode cX3_combine 32 = .ok (.istore 5, 2) := dl_h (dl_t (dl_t (dl_t (dl_t (dl_t (dl_t (dl_t (dl_t dkX3_combine_19))))))))
theorem dX3_combine_34 : decode cX3_combine 34 = .ok (.iload_n 2, 1) := dl_h (dl_t (dl_t (dl_t (dl_t (dl_t (dl_t (dl_t (dl_t (dl_t dkX3_combine_19)))))))))
theorem dkX3_combine_35 : dl_L cX3_combine [(35, .iconst 3, 1), (36, .if_icmp .le 7, 3), (39, .iconst 1, 1), (40, .goto 4, 3), (43, .iconst 0, 1), (44, .istore 6, 2), (46, .iload 5, 2), (48, .ifCond .eq 11, 3), (51, .aload_n 0, 1), (52, .iload_n 3, 1)] = true := by decide +kernel
theorem dX3_combine_35 : decode cX3_combine 35 = .ok (.iconst 3, 1) := dl_h dkX3_combine_35
theorem dX3_combine_36 : decode cX3_combine 36 = .ok (.if_icmp .le 7, 3) := dl_h (dl_t dkX3_combine_35)
theorem dX3_combine_39 : decode cX3_combine 39 = .ok (.iconst 1, 1) := dl_h (dl_t (dl_t dkX3_combine_35))
theorem dX3_combine_40 : decode cX3_combine 40 = .ok (.goto 4, 3) := dl_h (dl_t (dl_t (dl_t dkX3_combine_35)))
theorem dX3_combine_43 : decode cX3_combine 43 = .ok (.iconst 0, 1) := dl_h (dl_t (dl_t (dl_t (dl_t dkX3_combine_35))))
theorem dX3_combine_44 : decode cX3_combine 44 = .ok (.istore 6, 2) := dl_h (dl_t (dl_t (dl_t (dl_t (dl_t dkX3_combine_35)))))
theorem dX3_combine_46 : decode cX3_combine 46 = .ok (.iload 5, 2) := dl_h (dl_t (dl_t (dl_t (dl_t (dl_t (dl_t dkX3_combine_35))))))
theorem dX3_combine_48 : decode cX3_combine 48 = .ok (.ifCond .eq 11, 3) := dl_h (dl_t (dl_t (dl_t (dl_t (dl_t (dl_t (dl_t dkX3_combine_35)))))))
theorem dX3_combine_51 : decode cX3_combine 51 = .ok (.aload_n 0, 1) := dl_h (dl_t (dl_t (dl_t (dl_t (dl_t (dl_t (dl_t (dl_t dkX3_combine_35))))))))
theorem dX3_combine_52 : decode cX3_combine 52 = .ok (.iload_n 3, 1) := dl_h (dl_t (dl_t (dl_t (dl_t (dl_t (dl_t (dl_t (dl_t (dl_t dkX3_combine_35)))))))))
theorem dkX3_combine_53 : dl_L cX3_combine [(53, .invokevirtual 139, 3), (56, .ifCond .eq 17, 3), (59, .iload 6, 2), (61, .ifCond .eq 14, 3), (64, .aload_n 0, 1), (65, .iload 4, 2), (67, .invokevirtual 139, 3), (70, .ifCond .ne 5, 3), (73, .iconst (-1), 1), (74, .ireturn, 1)] = true := by decide +kernel
theorem dX3_combine_53 : decode cX3_combine 53 = .ok (.invokevirtual 139, 3) := dl_h dkX3_combine_53
theorem dX3_combine_56 : decode cX3_combine 56 = .ok (.ifCond .eq 17, 3) := dl_h (dl_t dkX3_combine_53)
theorem dX3_combine_59 : decode cX3_combine 59 = .ok (.iload 6, 2) := dl_h (dl_t (dl_t dkX3_combine_53))
theorem dX3_combine_61 : decode cX3_combine 61 = .ok (.ifCond .eq 14, 3) := dl_h (dl_t (dl_t (dl_t dkX3_combine_53)))
theorem dX3_combine_64 : decode cX3_combine 64 = .ok (.aload_n 0, 1) := dl_h (dl_t (dl_t (dl_t (dl_t dkX3_combine_53))))
theorem dX3_combine_65 : decode cX3_combine 65 = .ok (.iload 4, 2) := dl_h (dl_t (dl_t (dl_t (dl_t (dl_t dkX3_combine_53)))))
theorem dX3_combine_67 : decode cX3_combine 67 = .ok (.invokevirtual 139, 3) := dl_h (dl_t (dl_t (dl_t (dl_t (dl_t (dl_t dkX3_combine_53))))))
theorem dX3_combine_70 : decode cX3_combine 70 = .ok (.ifCond .ne 5, 3) := dl_h (dl_t (dl_t (dl_t (dl_t (dl_t (dl_t (dl_t dkX3_combine_53)))))))
theorem dX3_combine_73 : decode cX3_combine 73 = .ok (.iconst (-1), 1) := dl_h (dl_t (dl_t (dl_t (dl_t (dl_t (dl_t (dl_t (dl_t dkX3_combine_53))))))))
theorem dX3_combine_74 : decode cX3_combine 74 = .ok (.ireturn, 1) := dl_h (dl_t (dl_t (dl_t (dl_t (dl_t (dl_t (dl_t (dl_t (dl_t dkX3_combine_53)))))))))
theorem dkX3_combine_75 : dl_L cX3_combine [(75, .aload_n 0, 1), (76, .invokevirtual 126, 3), (79, .aload_n 0, 1), (80, .iload_n 1, 1), (81, .aload_n 0, 1), (82, .iload_n 2, 1), (83, .iload 5, 2), (85, .ifCond .eq 12, 3), (88, .aload_n 0, 1), (89, .getfield 29, 3)] = true := by decide +kernel
theorem dX3_combine_75 : decode cX3_combine 75 = .ok (.aload_n 0, 1) := dl_h dkX3_combine_75
theorem dX3_combine_76 : decode cX3_combine 76 = .ok (.invokevirtual 126, 3) := dl_h (dl_t dkX3_combine_75)
theorem dX3_combine_79 : decode cX3_combine 79 = .ok (.aload_n 0, 1) := dl_h (dl_t (dl_t dkX3_combine_75))
theorem dX3_combine_80 : decode cX3_combine 80 = .ok (.iload_n 1, 1) := dl_h (dl_t (dl_t (dl_t dkX3_combine_75)))
theorem dX3_combine_81 : decode cX3_combine 81 = .ok (.aload_n 0, 1) := dl_h (dl_t (dl_t (dl_t (dl_t dkX3_combine_75))))
theorem dX3_combine_82 : decode cX3_combine 82 = .ok (.iload_n 2, 1) := dl_h (dl_t (dl_t (dl_t (dl_t (dl_t dkX3_combine_75)))))
theorem dX3_combine_83 : decode cX3_combine 83 = .ok (.iload 5, 2) := dl_h (dl_t (dl_t (dl_t (dl_t (dl_t (dl_t dkX3_combine_75))))))
theorem dX3_combine_85 : decode cX3_combine 85 = .ok (.ifCond .eq 12, 3) := dl_h (dl_t (dl_t (dl_t (dl_t (dl_t (dl_t (dl_t dkX3_combine_75)))))))
theorem dX3_combine_88 : decode cX3_combine 88 = .ok (.aload_n 0, 1) := dl_h (dl_t (dl_t (dl_t (dl_t (dl_t (dl_t (dl_t (dl_t dkX3_combine_75))))))))
theorem dX3_combine_89 : decode cX3_combine 89 = .ok (.getfield 29, 3) := dl_h (dl_t (dl_t (dl_t (dl_t (dl_t (dl_t (dl_t (dl_t (dl_t dkX3_combine_75)))))))))
theorem dkX3_combine_92 : dl_L cX3_combine [(92, .iload_n 3, 1), (93, .iaload, 1), (94, .goto 4, 3), (97, .iconst 0, 1), (98, .iload 6, 2), (100, .ifCond .eq 13, 3), (103, .aload_n 0, 1), (104, .getfield 29, 3), (107, .iload 4, 2), (109, .iaload, 1)] = true := by decide +kernel
theorem dX3_combine_92 : decode cX3_combine 92 = .ok (.iload_n 3, 1) := dl_h dkX3_combine_92
theorem dX3_combine_93 : decode cX3_combine 93 = .ok (.iaload, 1) := dl_h (dl_t dkX3_combine_92)
theorem dX3_combine_94 : decode cX3_combine 94 = .ok (.goto 4, 3) := dl_h (dl_t (dl_t dkX3_combine_92))
theorem dX3_combine_97 : decode cX3_combine 97 = .ok (.iconst 0, 1) := dl_h (dl_t (dl_t (dl_t dkX3_combine_92)))
theorem dX3_combine_98 : decode cX3_combine 98 = .ok (.iload 6, 2) := dl_h (dl_t (dl_t (dl_t (dl_t dkX3_combine_92))))
theorem dX3_combine_100 : decode cX3_combine 100 = .ok (.ifCond .eq 13, 3) := dl_h (dl_t (dl_t (dl_t (dl_t (dl_t dkX3_combine_92)))))
theorem dX3_combine_103 : decode cX3_combine 103 = .ok (.aload_n 0, 1) := dl_h (dl_t (dl_t (dl_t (dl_t (dl_t (dl_t dkX3_combine_92))))))
theorem dX3_combine_104 : decode cX3_combine 104 = .ok (.getfield 29, 3) := dl_h (dl_t (dl_t (dl_t (dl_t (dl_t (dl_t (dl_t dkX3_combine_92)))))))
theorem dX3_combine_107 : decode cX3_combine 107 = .ok (.iload 4, 2) := dl_h (dl_t (dl_t (dl_t (dl_t (dl_t (dl_t (dl_t (dl_t dkX3_combine_92))))))))
theorem dX3_combine_109 : decode cX3_combine 109 = .ok (.iaload, 1) := dl_h (dl_t (dl_t (dl_t (dl_t (dl_t (dl_t (dl_t (dl_t (dl_t dkX3_combine_92)))))))))
theorem dkX3_combine_110 : dl_L cX3_combine [(110, .goto 4, 3), (113, .iconst 0, 1), (114, .iconst 0, 1), (115, .invokevirtual 142, 3), (118, .invokevirtual 133, 3), (121, .ireturn, 1)] = true := by decide +kernel
theorem dX3_combine_110 : decode cX3_combine 110 = .ok (.goto 4, 3) := dl_h dkX3_combine_110
theorem dX3_combine_113 : decode cX3_combine 113 = .ok (.iconst 0, 1) := dl_h (dl_t dkX3_combine_110)
theorem dX3_combine_114 : decode cX3_combine 114 = .ok (.iconst 0, 1) := dl_h (dl_t (dl_t dkX3_combine_110))
theorem dX3_combine_115 : decode cX3_combine 115 = .ok (.invokevirtual 142, 3) := dl_h (dl_t (dl_t (dl_t dkX3_combine_110)))
theorem dX3_combine_118 : decode cX3_combine 118 = .ok (.invokevirtual 133, 3) := dl_h (dl_t (dl_t (dl_t (dl_t dkX3_combine_110))))
theorem dX3_combine_121 : decode cX3_combine 121 = .ok (.ireturn, 1) := dl_h (dl_t (dl_t (dl_t (dl_t (dl_t dkX3_combine_110)))))
theorem dkX3_choose_0 : dl_L cX3_choose [(0, .iload_n 1, 1), (1, .invokestatic 123, 3), (4, .ifCond .eq 28, 3), (7, .aload_n 0, 1), (8, .iload_n 2, 1), (9, .invokevirtual 139, 3), (12, .ifCond .eq 20, 3), (15, .aload_n 0, 1), (16, .iload_n 3, 1), (17, .invokevirtual 139, 3)] = true := by decide +kernel
theorem dX3_choose_0 : decode cX3_choose 0 = .ok (.iload_n 1, 1) := dl_h dkX3_choose_0
theorem dX3_choose_1 : decode cX3_choose 1 = .ok (.invokestatic 123, 3) := dl_h (dl_t dkX3_choose_0)
theorem dX3_choose_4 : decode cX3_choose 4 = .ok (.ifCond .eq 28, 3) := dl_h (dl_t (dl_t dkX3_choose_0))
theorem dX3_choose_7 : decode cX3_choose 7 = .ok (.aload_n 0, 1) := dl_h (dl_t (dl_t (dl_t dkX3_choose_0)))
theorem dX3_choose_8 : decode cX3_choose 8 = .ok (.iload_n 2, 1) := dl_h (dl_t (dl_t (dl_t (dl_t dkX3_choose_0))))
theorem dX3_choose_9 : decode cX3_choose 9 = .ok (.invokevirtual 139, 3) := dl_h (dl_t (dl_t (dl_t (dl_t (dl_t dkX3_choose_0)))))
theorem dX3_choose_12 : decode cX3_choose 12 = .ok (.ifCond .eq 20, 3) := dl_h (dl_t (dl_t (dl_t (dl_t (dl_t (dl_t dkX3_choose_0))))))
theorem dX3_choose_15 : decode cX3_choose 15 = .ok (.aload_n 0, 1) := dl_h (dl_t (dl_t (dl_t (dl_t (dl_t (dl_t (dl_t dkX3_choose_0)))))))
theorem dX3_choose_16 : decode cX3_choose 16 = .ok (.iload_n 3, 1) := dl_h (dl_t (dl_t (dl_t (dl_t (dl_t (dl_t (dl_t (dl_t dkX3_choose_0))))))))
theorem dX3_choose_17 : decode cX3_choose 17 = .ok (.invokevirtual 139, 3) := dl_h (dl_t (dl_t (dl_t (dl_t (dl_t (dl_t (dl_t (dl_t (dl_t dkX3_choose_0)))))))))
theorem dkX3_choose_20 : dl_L cX3_choose [(20, .ifCond .eq 12, 3), (23, .aload_n 0, 1), (24, .iload 4, 2), (26, .invokevirtual 139, 3), (29, .ifCond .ne 5, 3), (32, .iconst (-1), 1), (33, .ireturn, 1), (34, .aload_n 0, 1), (35, .invokevirtual 126, 3), (38, .aload_n 0, 1)] = true := by decide +kernel
theorem dX3_choose_20 : decode cX3_choose 20 = .ok (.ifCond .eq 12, 3) := dl_h dkX3_choose_20
theorem dX3_choose_23 : decode cX3_choose 23 = .ok (.aload_n 0, 1) := dl_h (dl_t dkX3_choose_20)
theorem dX3_choose_24 : decode cX3_choose 24 = .ok (.iload 4, 2) := dl_h (dl_t (dl_t dkX3_choose_20))
theorem dX3_choose_26 : decode cX3_choose 26 = .ok (.invokevirtual 139, 3) := dl_h (dl_t (dl_t (dl_t dkX3_choose_20)))
theorem dX3_choose_29 : decode cX3_choose 29 = .ok (.ifCond .ne 5, 3) := dl_h (dl_t (dl_t (dl_t (dl_t dkX3_choose_20))))
theorem dX3_choose_32 : decode cX3_choose 32 = .ok (.iconst (-1), 1) := dl_h (dl_t (dl_t (dl_t (dl_t (dl_t dkX3_choose_20)))))
theorem dX3_choose_33 : decode cX3_choose 33 = .ok (.ireturn, 1) := dl_h (dl_t (dl_t (dl_t (dl_t (dl_t (dl_t dkX3_choose_20))))))
theorem dX3_choose_34 : decode cX3_choose 34 = .ok (.aload_n 0, 1) := dl_h (dl_t (dl_t (dl_t (dl_t (dl_t (dl_t (dl_t dkX3_choose_20)))))))
theorem dX3_choose_35 : decode cX3_choose 35 = .ok (.invokevirtual 126, 3) := dl_h (dl_t (dl_t (dl_t (dl_t (dl_t (dl_t (dl_t (dl_t dkX3_choose_20))))))))
theorem dX3_choose_38 : decode cX3_choose 38 = .ok (.aload_n 0, 1) := dl_h (dl_t (dl_t (dl_t (dl_t (dl_t (dl_t (dl_t (dl_t (dl_t dkX3_choose_20)))))))))
theorem dkX3_choose_39 : dl_L cX3_choose [(39, .iload_n 1, 1), (40, .aload_n 0, 1), (41, .bipush 10, 2), (43, .aload_n 0, 1), (44, .getfield 29, 3), (47, .iload_n 2, 1), (48, .iaload, 1), (49, .aload_n 0, 1), (50, .getfield 29, 3), (53, .iload_n 3, 1)] = true := by decide +kernel
theorem dX3_choose_39 : decode cX3_choose 39 = .ok (.iload_n 1, 1) := dl_h dkX3_choose_39
theorem dX3_choose_40 : decode cX3_choose 40 = .ok (.aload_n 0, 1) := dl_h (dl_t dkX3_choose_39)
theorem dX3_choose_41 : decode cX3_choose 41 = .ok (.bipush 10, 2) := dl_h (dl_t (dl_t dkX3_choose_39))
theorem dX3_choose_43 : decode cX3_choose 43 = .ok (.aload_n 0, 1) := dl_h (dl_t (dl_t (dl_t dkX3_choose_39)))
theorem dX3_choose_44 : decode cX3_choose 44 = .ok (.getfield 29, 3) := dl_h (dl_t (dl_t (dl_t (dl_t dkX3_choose_39))))
theorem dX3_choose_47 : decode cX3_choose 47 = .ok (.iload_n 2, 1) := dl_h (dl_t (dl_t (dl_t (dl_t (dl_t dkX3_choose_39)))))
theorem dX3_choose_48 : decode cX3_choose 48 = .ok (.iaload, 1) := dl_h (dl_t (dl_t (dl_t (dl_t (dl_t (dl_t dkX3_choose_39))))))
theorem dX3_choose_49 : decode cX3_choose 49 = .ok (.aload_n 0, 1) := dl_h (dl_t (dl_t (dl_t (dl_t (dl_t (dl_t (dl_t dkX3_choose_39)))))))
theorem dX3_choose_50 : decode cX3_choose 50 = .ok (.getfield 29, 3) := dl_h (dl_t (dl_t (dl_t (dl_t (dl_t (dl_t (dl_t (dl_t dkX3_choose_39))))))))
theorem dX3_choose_53 : decode cX3_choose 53 = .ok (.iload_n 3, 1) := dl_h (dl_t (dl_t (dl_t (dl_t (dl_t (dl_t (dl_t (dl_t (dl_t dkX3_choose_39)))))))))
theorem dkX3_choose_54 : dl_L cX3_choose [(54, .iaload, 1), (55, .aload_n 0, 1), (56, .getfield 29, 3), (59, .iload 4, 2), (61, .iaload, 1), (62, .invokevirtual 142, 3), (65, .invokevirtual 133, 3), (68, .ireturn, 1)] = true := by decide +kernel
theorem dX3_choose_54 : decode cX3_choose 54 = .ok (.iaload, 1) := dl_h dkX3_choose_54
theorem dX3_choose_55 : decode cX3_choose 55 = .ok (.aload_n 0, 1) := dl_h (dl_t dkX3_choose_54)
theorem dX3_choose_56 : decode cX3_choose 56 = .ok (.getfield 29, 3) := dl_h (dl_t (dl_t dkX3_choose_54))
theorem dX3_choose_59 : decode cX3_choose 59 = .ok (.iload 4, 2) := dl_h (dl_t (dl_t (dl_t dkX3_choose_54)))
theorem dX3_choose_61 : decode cX3_choose 61 = .ok (.iaload, 1) := dl_h (dl_t (dl_t (dl_t (dl_t dkX3_choose_54))))
theorem dX3_choose_62 : decode cX3_choose 62 = .ok (.invokevirtual 142, 3) := dl_h (dl_t (dl_t (dl_t (dl_t (dl_t dkX3_choose_54)))))
theorem dX3_choose_65 : decode cX3_choose 65 = .ok (.invokevirtual 133, 3) := dl_h (dl_t (dl_t (dl_t (dl_t (dl_t (dl_t dkX3_choose_54))))))
theorem dX3_choose_68 : decode cX3_choose 68 = .ok (.ireturn, 1) := dl_h (dl_t (dl_t (dl_t (dl_t (dl_t (dl_t (dl_t dkX3_choose_54)))))))
theorem dkX3_restrict_0 : dl_L cX3_restrict [(0, .iload_n 1, 1), (1, .invokestatic 123, 3), (4, .ifCond .eq 11, 3), (7, .aload_n 0, 1), (8, .iload_n 2, 1), (9, .invokevirtual 139, 3), (12, .ifCond .ne 5, 3), (15, .iconst (-1), 1), (16, .ireturn, 1), (17, .iload_n 3, 1)] = true := by decide +kernel
theorem dX3_restrict_0 : decode cX3_restrict 0 = .ok (.iload_n 1, 1) := dl_h dkX3_restrict_0
theorem dX3_restrict_1 : decode cX3_restrict 1 = .ok (.invokestatic 123, 3) := dl_h (dl_t dkX3_restrict_0)
theorem dX3_restrict_4 : decode cX3_restrict 4 = .ok (.ifCond .eq 11, 3) := dl_h (dl_t (dl_t dkX3_restrict_0))
theorem dX3_restrict_7 : decode cX3_restrict 7 = .ok (.aload_n 0, 1) := dl_h (dl_t (dl_t (dl_t dkX3_restrict_0)))
theorem dX3_restrict_8 : decode cX3_restrict 8 = .ok (.iload_n 2, 1) := dl_h (dl_t (dl_t (dl_t (dl_t dkX3_restrict_0))))
theorem dX3_restrict_9 : decode cX3_restrict 9 = .ok (.invokevirtual 139, 3) := dl_h (dl_t (dl_t (dl_t (dl_t (dl_t dkX3_restrict_0)))))
theorem dX3_restrict_12 : decode cX3_restrict 12 = .ok (.ifCond .ne 5, 3) := dl_h (dl_t (dl_t (dl_t (dl_t (dl_t (dl_t dkX3_restrict_0))))))
theorem dX3_restrict_15 : decode cX3_restrict 15 = .ok (.iconst (-1), 1) := dl_h (dl_t (dl_t (dl_t (dl_t (dl_t (dl_t (dl_t dkX3_restrict_0)))))))
theorem dX3_restrict_16 : decode cX3_restrict 16 = .ok (.ireturn, 1) := dl_h (dl_t (dl_t (dl_t (dl_t (dl_t (dl_t (dl_t (dl_t dkX3_restrict_0))))))))
theorem dX3_restrict_17 : decode cX3_restrict 17 = .ok (.iload_n 3, 1) := dl_h (dl_t (dl_t (dl_t (dl_t (dl_t (dl_t (dl_t (dl_t (dl_t dkX3_restrict_0)))))))))
theorem dkX3_restrict_18 : dl_L cX3_restrict [(18, .invokestatic 70, 3), (21, .ifCond .ne 6, 3), (24, .bipush (-2), 2), (26, .ireturn, 1), (27, .aload_n 0, 1), (28, .invokevirtual 126, 3), (31, .aload_n 0, 1), (32, .iload_n 1, 1), (33, .aload_n 0, 1), (34, .aload_n 0, 1)] = true := by decide +kernel
theorem dX3_restrict_18 : decode cX3_restrict 18 = .ok (.invokestatic 70, 3) := dl_h dkX3_restrict_18
theorem dX3_restrict_21 : decode cX3_restrict 21 = .ok (.ifCond .ne 6, 3) := dl_h (dl_t dkX3_restrict_18)
theorem dX3_restrict_24 : decode cX3_restrict 24 = .ok (.bipush (-2), 2) := dl_h (dl_t (dl_t dkX3_restrict_18))
theorem dX3_restrict_26 : decode cX3_restrict 26 = .ok (.ireturn, 1) := dl_h (dl_t (dl_t (dl_t dkX3_restrict_18)))
theorem dX3_restrict_27 : decode cX3_restrict 27 = .ok (.aload_n 0, 1) := dl_h (dl_t (dl_t (dl_t (dl_t dkX3_restrict_18))))
theorem dX3_restrict_28 : decode cX3_restrict 28 = .ok (.invokevirtual 126, 3) := dl_h (dl_t (dl_t (dl_t (dl_t (dl_t dkX3_restrict_18)))))
theorem dX3_restrict_31 : decode cX3_restrict 31 = .ok (.aload_n 0, 1) := dl_h (dl_t (dl_t (dl_t (dl_t (dl_t (dl_t dkX3_restrict_18))))))
theorem dX3_restrict_32 : decode cX3_restrict 32 = .ok (.iload_n 1, 1) := dl_h (dl_t (dl_t (dl_t (dl_t (dl_t (dl_t (dl_t dkX3_restrict_18)))))))
theorem dX3_restrict_33 : decode cX3_restrict 33 = .ok (.aload_n 0, 1) := dl_h (dl_t (dl_t (dl_t (dl_t (dl_t (dl_t (dl_t (dl_t dkX3_restrict_18))))))))
theorem dX3_restrict_34 : decode cX3_restrict 34 = .ok (.aload_n 0, 1) := dl_h (dl_t (dl_t (dl_t (dl_t (dl_t (dl_t (dl_t (dl_t (dl_t dkX3_restrict_18)))))))))
theorem dkX3_restrict_35 : dl_L cX3_restrict [(35, .getfield 29, 3), (38, .iload_n 2, 1), (39, .iaload, 1), (40, .iload_n 3, 1), (41, .iload 4, 2), (43, .invokevirtual 145, 3), (46, .invokevirtual 133, 3), (49, .ireturn, 1)] = true := by decide +kernel
theorem dX3_restrict_35 : decode cX3_restrict 35 = .ok (.getfield 29, 3) := dl_h dkX3_restrict_35
theorem dX3_restrict_38 : decode cX3_restrict 38 = .ok (.iload_n 2, 1) := dl_h (dl_t dkX3_restrict_35)
theorem dX3_restrict_39 : decode cX3_restrict 39 = .ok (.iaload, 1) := dl_h (dl_t (dl_t dkX3_restrict_35))
theorem dX3_restrict_40 : decode cX3_restrict 40 = .ok (.iload_n 3, 1) := dl_h (dl_t (dl_t (dl_t dkX3_restrict_35)))
theorem dX3_restrict_41 : decode cX3_restrict 41 = .ok (.iload 4, 2) := dl_h (dl_t (dl_t (dl_t (dl_t dkX3_restrict_35))))
theorem dX3_restrict_43 : decode cX3_restrict 43 = .ok (.invokevirtual 145, 3) := dl_h (dl_t (dl_t (dl_t (dl_t (dl_t dkX3_restrict_35)))))
theorem dX3_restrict_46 : decode cX3_restrict 46 = .ok (.invokevirtual 133, 3) := dl_h (dl_t (dl_t (dl_t (dl_t (dl_t (dl_t dkX3_restrict_35))))))
theorem dX3_restrict_49 : decode cX3_restrict 49 = .ok (.ireturn, 1) := dl_h (dl_t (dl_t (dl_t (dl_t (dl_t (dl_t (dl_t dkX3_restrict_35)))))))
theorem dkX3_quantify_0 : dl_L cX3_quantify [(0, .iload_n 1, 1), (1, .invokestatic 123, 3), (4, .ifCond .eq 11, 3), (7, .aload_n 0, 1), (8, .iload_n 2, 1), (9, .invokevirtual 139, 3), (12, .ifCond .ne 5, 3), (15, .iconst (-1), 1), (16, .ireturn, 1), (17, .iload_n 3, 1)] = true := by decide +kernel
theorem dX3_quantify_0 : decode cX3_quantify 0 = .ok (.iload_n 1, 1) := dl_h dkX3_quantify_0
theorem dX3_quantify_1 : decode cX3_quantify 1 = .ok (.invokestatic 123, 3) := dl_h (dl_t dkX3_quantify_0)
theorem dX3_quantify_4 : decode cX3_quantify 4 = .ok (.ifCond .eq 11, 3) := dl_h (dl_t (dl_t dkX3_quantify_0))
theorem dX3_quantify_7 : decode cX3_quantify 7 = .ok (.aload_n 0, 1) := dl_h (dl_t (dl_t (dl_t dkX3_quantify_0)))
theorem dX3_quantify_8 : decode cX3_quantify 8 = .ok (.iload_n 2, 1) := dl_h (dl_t (dl_t (dl_t (dl_t dkX3_quantify_0))))
theorem dX3_quantify_9 : decode cX3_quantify 9 = .ok (.invokevirtual 139, 3) := dl_h (dl_t (dl_t (dl_t (dl_t (dl_t dkX3_quantify_0)))))
theorem dX3_quantify_12 : decode cX3_quantify 12 = .ok (.ifCond .ne 5, 3) := dl_h (dl_t (dl_t (dl_t (dl_t (dl_t (dl_t dkX3_quantify_0))))))
theorem dX3_quantify_15 : decode cX3_quantify 15 = .ok (.iconst (-1), 1) := dl_h (dl_t (dl_t (dl_t (dl_t (dl_t (dl_t (dl_t dkX3_quantify_0)))))))
theorem dX3_quantify_16 : decode cX3_quantify 16 = .ok (.ireturn, 1) := dl_h (dl_t (dl_t (dl_t (dl_t (dl_t (dl_t (dl_t (dl_t dkX3_quantify_0))))))))
theorem dX3_quantify_17 : decode cX3_quantify 17 = .ok (.iload_n 3, 1) := dl_h (dl_t (dl_t (dl_t (dl_t (dl_t (dl_t (dl_t (dl_t (dl_t dkX3_quantify_0)))))))))
theorem dkX3_quantify_18 : dl_L cX3_quantify [(18, .invokestatic 70, 3), (21, .ifCond .ne 6, 3), (24, .bipush (-2), 2), (26, .ireturn, 1), (27, .aload_n 0, 1), (28, .invokevirtual 126, 3), (31, .aload_n 0, 1), (32, .aload_n 0, 1), (33, .aload_n 0, 1), (34, .getfield 29, 3)] = true := by decide +kernel
theorem dX3_quantify_18 : decode cX3_quantify 18 = .ok (.invokestatic 70, 3) := dl_h dkX3_quantify_18
theorem dX3_quantify_21 : decode cX3_quantify 21 = .ok (.ifCond .ne 6, 3) := dl_h (dl_t dkX3_quantify_18)
theorem dX3_quantify_24 : decode cX3_quantify 24 = .ok (.bipush (-2), 2) := dl_h (dl_t (dl_t dkX3_quantify_18))
theorem dX3_quantify_26 : decode cX3_quantify 26 = .ok (.ireturn, 1) := dl_h (dl_t (dl_t (dl_t dkX3_quantify_18)))
theorem dX3_quantify_27 : decode cX3_quantify 27 = .ok (.aload_n 0, 1) := dl_h (dl_t (dl_t (dl_t (dl_t dkX3_quantify_18))))
theorem dX3_quantify_28 : decode cX3_quantify 28 = .ok (.invokevirtual 126, 3) := dl_h (dl_t (dl_t (dl_t (dl_t (dl_t dkX3_quantify_18)))))
theorem dX3_quantify_31 : decode cX3_quantify 31 = .ok (.aload_n 0, 1) := dl_h (dl_t (dl_t (dl_t (dl_t (dl_t (dl_t dkX3_quantify_18))))))
theorem dX3_quantify_32 : decode cX3_quantify 32 = .ok (.aload_n 0, 1) := dl_h (dl_t (dl_t (dl_t (dl_t (dl_t (dl_t (dl_t dkX3_quantify_18)))))))
theorem dX3_quantify_33 : decode cX3_quantify 33 = .ok (.aload_n 0, 1) := dl_h (dl_t (dl_t (dl_t (dl_t (dl_t (dl_t (dl_t (dl_t dkX3_quantify_18))))))))
theorem dX3_quantify_34 : decode cX3_quantify 34 = .ok (.getfield 29, 3) := dl_h (dl_t (dl_t (dl_t (dl_t (dl_t (dl_t (dl_t (dl_t (dl_t dkX3_quantify_18)))))))))
theorem dkX3_quantify_37 : dl_L cX3_quantify [(37, .iload_n 2, 1), (38, .iaload, 1), (39, .iload_n 3, 1), (40, .iconst 0, 1), (41, .invokevirtual 145, 3), (44, .invokevirtual 149, 3), (47, .istore 5, 2), (49, .iload 5, 2), (51, .iconst (-1), 1), (52, .if_icmp .ne 7, 3)] = true := by decide +kernel
theorem dX3_quantify_37 : decode cX3_quantify 37 = .ok (.iload_n 2, 1) := dl_h dkX3_quantify_37
theorem dX3_quantify_38 : decode cX3_quantify 38 = .ok (.iaload, 1) := dl_h (dl_t dkX3_quantify_37)
theorem dX3_quantify_39 : decode cX3_quantify 39 = .ok (.iload_n 3, 1) := dl_h (dl_t (dl_t dkX3_quantify_37))
theorem dX3_quantify_40 : decode cX3_quantify 40 = .ok (.iconst 0, 1) := dl_h (dl_t (dl_t (dl_t dkX3_quantify_37)))
theorem dX3_quantify_41 : decode cX3_quantify 41 = .ok (.invokevirtual 145, 3) := dl_h (dl_t (dl_t (dl_t (dl_t dkX3_quantify_37))))
theorem dX3_quantify_44 : decode cX3_quantify 44 = .ok (.invokevirtual 149, 3) := dl_h (dl_t (dl_t (dl_t (dl_t (dl_t dkX3_quantify_37)))))
theorem dX3_quantify_47 : decode cX3_quantify 47 = .ok (.istore 5, 2) := dl_h (dl_t (dl_t (dl_t (dl_t (dl_t (dl_t dkX3_quantify_37))))))
theorem dX3_quantify_49 : decode cX3_quantify 49 = .ok (.iload 5, 2) := dl_h (dl_t (dl_t (dl_t (dl_t (dl_t (dl_t (dl_t dkX3_quantify_37)))))))
theorem dX3_quantify_51 : decode cX3_quantify 51 = .ok (.iconst (-1), 1) := dl_h (dl_t (dl_t (dl_t (dl_t (dl_t (dl_t (dl_t (dl_t dkX3_quantify_37))))))))
theorem dX3_quantify_52 : decode cX3_quantify 52 = .ok (.if_icmp .ne 7, 3) := dl_h (dl_t (dl_t (dl_t (dl_t (dl_t (dl_t (dl_t (dl_t (dl_t dkX3_quantify_37)))))))))
theorem dkX3_quantify_55 : dl_L cX3_quantify [(55, .iconst (-1), 1), (56, .goto 19, 3), (59, .aload_n 0, 1), (60, .aload_n 0, 1), (61, .aload_n 0, 1), (62, .getfield 29, 3), (65, .iload_n 2, 1), (66, .iaload, 1), (67, .iload_n 3, 1), (68, .iconst 1, 1)] = true := by decide +kernel
theorem dX3_quantify_55 : decode cX3_quantify 55 = .ok (.iconst (-1), 1) := dl_h dkX3_quantify_55
theorem dX3_quantify_56 : decode cX3_quantify 56 = .ok (.goto 19, 3) := dl_h (dl_t dkX3_quantify_55)
theorem dX3_quantify_59 : decode cX3_quantify 59 = .ok (.aload_n 0, 1) := dl_h (dl_t (dl_t dkX3_quantify_55))
theorem dX3_quantify_60 : decode cX3_quantify 60 = .ok (.aload_n 0, 1) := dl_h (dl_t (dl_t (dl_t dkX3_quantify_55)))
theorem dX3_quantify_61 : decode cX3_quantify 61 = .ok (.aload_n 0, 1) := dl_h (dl_t (dl_t (dl_t (dl_t dkX3_quantify_55))))
theorem dX3_quantify_62 : decode cX3_quantify 62 = .ok (.getfield 29, 3) := dl_h (dl_t (dl_t (dl_t (dl_t (dl_t dkX3_quantify_55)))))
theorem dX3_quantify_65 : decode cX3_quantify 65 = .ok (.iload_n 2, 1) := dl_h (dl_t (dl_t (dl_t (dl_t (dl_t (dl_t dkX3_quantify_55))))))
theorem dX3_quantify_66 : decode cX3_quantify 66 = .ok (.iaload, 1) := dl_h (dl_t (dl_t (dl_t (dl_t (dl_t (dl_t (dl_t dkX3_quantify_55)))))))
theorem dX3_quantify_67 : decode cX3_quantify 67 = .ok (.iload_n 3, 1) := dl_h (dl_t (dl_t (dl_t (dl_t (dl_t (dl_t (dl_t (dl_t dkX3_quantify_55))))))))
theorem dX3_quantify_68 : decode cX3_quantify 68 = .ok (.iconst 1, 1) := dl_h (dl_t (dl_t (dl_t (dl_t (dl_t (dl_t (dl_t (dl_t (dl_t dkX3_quantify_55)))))))))
theorem dkX3_quantify_69 : dl_L cX3_quantify [(69, .invokevirtual 145, 3), (72, .invokevirtual 149, 3), (75, .istore 6, 2), (77, .aload_n 0, 1), (78, .iload_n 1, 1), (79, .aload_n 0, 1), (80, .iload 4, 2), (82, .ifCond .eq 7, 3), (85, .iconst 4, 1), (86, .goto 4, 3)] = true := by decide +kernel
theorem dX3_quantify_69 : decode cX3_quantify 69 = .ok (.invokevirtual 145, 3) := dl_h dkX3_quantify_69
theorem dX3_quantify_72 : decode cX3_quantify 72 = .ok (.invokevirtual 149, 3) := dl_h (dl_t dkX3_quantify_69)
theorem dX3_quantify_75 : decode cX3_quantify 75 = .ok (.istore 6, 2) := dl_h (dl_t (dl_t dkX3_quantify_69))
theorem dX3_quantify_77 : decode cX3_quantify 77 = .ok (.aload_n 0, 1) := dl_h (dl_t (dl_t (dl_t dkX3_quantify_69)))
theorem dX3_quantify_78 : decode cX3_quantify 78 = .ok (.iload_n 1, 1) := dl_h (dl_t (dl_t (dl_t (dl_t dkX3_quantify_69))))
theorem dX3_quantify_79 : decode cX3_quantify 79 = .ok (.aload_n 0, 1) := dl_h (dl_t (dl_t (dl_t (dl_t (dl_t dkX3_quantify_69)))))
theorem dX3_quantify_80 : decode cX3_quantify 80 = .ok (.iload 4, 2) := dl_h (dl_t (dl_t (dl_t (dl_t (dl_t (dl_t dkX3_quantify_69))))))
theorem dX3_quantify_82 : decode cX3_quantify 82 = .ok (.ifCond .eq 7, 3) := dl_h (dl_t (dl_t (dl_t (dl_t (dl_t (dl_t (dl_t dkX3_quantify_69)))))))
theorem dX3_quantify_85 : decode cX3_quantify 85 = .ok (.iconst 4, 1) := dl_h (dl_t (dl_t (dl_t (dl_t (dl_t (dl_t (dl_t (dl_t dkX3_quantify_69))))))))
theorem dX3_quantify_86 : decode cX3_quantify 86 = .ok (.goto 4, 3) := dl_h (dl_t (dl_t (dl_t (dl_t (dl_t (dl_t (dl_t (dl_t (dl_t dkX3_quantify_69)))))))))
theorem dkX3_quantify_89 : dl_L cX3_quantify [(89, .iconst 5, 1), (90, .iload 5, 2), (92, .iload 6, 2), (94, .iconst 0, 1), (95, .invokevirtual 142, 3), (98, .invokevirtual 133, 3), (101, .ireturn, 1)] = true := by decide +kernel
theorem dX3_quantify_89 : decode cX3_quantify 89 = .ok (.iconst 5, 1) := dl_h dkX3_quantify_89
theorem dX3_quantify_90 : decode cX3_quantify 90 = .ok (.iload 5, 2) := dl_h (dl_t dkX3_quantify_89)
theorem dX3_quantify_92 : decode cX3_quantify 92 = .ok (.iload 6, 2) := dl_h (dl_t (dl_t dkX3_quantify_89))
theorem dX3_quantify_94 : decode cX3_quantify 94 = .ok (.iconst 0, 1) := dl_h (dl_t (dl_t (dl_t dkX3_quantify_89)))
theorem dX3_quantify_95 : decode cX3_quantify 95 = .ok (.invokevirtual 142, 3) := dl_h (dl_t (dl_t (dl_t (dl_t dkX3_quantify_89))))
theorem dX3_quantify_98 : decode cX3_quantify 98 = .ok (.invokevirtual 133, 3) := dl_h (dl_t (dl_t (dl_t (dl_t (dl_t dkX3_quantify_89)))))
theorem dX3_quantify_101 : decode cX3_quantify 101 = .ok (.ireturn, 1) := dl_h (dl_t (dl_t (dl_t (dl_t (dl_t (dl_t dkX3_quantify_89))))))
theorem dkX3_compose_0 : dl_L cX3_compose [(0, .iload_n 1, 1), (1, .invokestatic 123, 3), (4, .ifCond .eq 20, 3), (7, .aload_n 0, 1), (8, .iload_n 2, 1), (9, .invokevirtual 139, 3), (12, .ifCond .eq 12, 3), (15, .aload_n 0, 1), (16, .iload 4, 2), (18, .invokevirtual 139, 3)] = true := by decide +kernel
theorem dX3_compose_0 : decode cX3_compose 0 = .ok (.iload_n 1, 1) := dl_h dkX3_compose_0
theorem dX3_compose_1 : decode cX3_compose 1 = .ok (.invokestatic 123, 3) := dl_h (dl_t dkX3_compose_0)
theorem dX3_compose_4 : decode cX3_compose 4 = .ok (.ifCond .eq 20, 3) := dl_h (dl_t (dl_t dkX3_compose_0))
theorem dX3_compose_7 : decode cX3_compose 7 = .ok (.aload_n 0, 1) := dl_h (dl_t (dl_t (dl_t dkX3_compose_0)))
theorem dX3_compose_8 : decode cX3_compose 8 = .ok (.iload_n 2, 1) := dl_h (dl_t (dl_t (dl_t (dl_t dkX3_compose_0))))
theorem dX3_compose_9 : decode cX3_compose 9 = .ok (.invokevirtual 139, 3) := dl_h (dl_t (dl_t (dl_t (dl_t (dl_t dkX3_compose_0)))))
theorem dX3_compose_12 : decode cX3_compose 12 = .ok (.ifCond .eq 12, 3) := dl_h (dl_t (dl_t (dl_t (dl_t (dl_t (dl_t dkX3_compose_0))))))
theorem dX3_compose_15 : decode cX3_compose 15 = .ok (.aload_n 0, 1) := dl_h (dl_t (dl_t (dl_t (dl_t (dl_t (dl_t (dl_t dkX3_compose_0)))))))
theorem dX3_compose_16 : decode cX3_compose 16 = .ok (.iload 4, 2) := dl_h (dl_t (dl_t (dl_t (dl_t (dl_t (dl_t (dl_t (dl_t dkX3_compose_0))))))))
theorem dX3_compose_18 : decode cX3_compose 18 = .ok (.invokevirtual 139, 3) := dl_h (dl_t (dl_t (dl_t (dl_t (dl_t (dl_t (dl_t (dl_t (dl_t dkX3_compose_0)))))))))
theorem dkX3_compose_21 : dl_L cX3_compose [(21, .ifCond .ne 5, 3), (24, .iconst (-1), 1), (25, .ireturn, 1), (26, .iload_n 3, 1), (27, .invokestatic 70, 3), (30, .ifCond .ne 6, 3), (33, .bipush (-2), 2), (35, .ireturn, 1), (36, .aload_n 0, 1), (37, .invokevirtual 126, 3)] = true := by decide +kernel
theorem dX3_compose_21 : decode cX3_compose 21 = .ok (.ifCond .ne 5, 3) := dl_h dkX3_compose_21
theorem dX3_compose_24 : decode cX3_compose 24 = .ok (.iconst (-1), 1) := dl_h (dl_t dkX3_compose_21)
theorem dX3_compose_25 : decode cX3_compose 25 = .ok (.ireturn, 1) := dl_h (dl_t (dl_t dkX3_compose_21))
theorem dX3_compose_26 : decode cX3_compose 26 = .ok (.iload_n 3, 1) := dl_h (dl_t (dl_t (dl_t dkX3_compose_21)))
theorem dX3_compose_27 : decode cX3_compose 27 = .ok (.invokestatic 70, 3) := dl_h (dl_t (dl_t (dl_t (dl_t dkX3_compose_21))))
theorem dX3_compose_30 : decode cX3_compose 30 = .ok (.ifCond .ne 6, 3) := dl_h (dl_t (dl_t (dl_t (dl_t (dl_t dkX3_compose_21)))))
theorem dX3_compose_33 : decode cX3_compose 33 = .ok (.bipush (-2), 2) := dl_h (dl_t (dl_t (dl_t (dl_t (dl_t (dl_t dkX3_compose_21))))))
theorem dX3_compose_35 : decode cX3_compose 35 = .ok (.ireturn, 1) := dl_h (dl_t (dl_t (dl_t (dl_t (dl_t (dl_t (dl_t dkX3_compose_21)))))))
theorem dX3_compose_36 : decode cX3_compose 36 = .ok (.aload_n 0, 1) := dl_h (dl_t (dl_t (dl_t (dl_t (dl_t (dl_t (dl_t (dl_t dkX3_compose_21))))))))
theorem dX3_compose_37 : decode cX3_compose 37 = .ok (.invokevirtual 126, 3) := dl_h (dl_t (dl_t (dl_t (dl_t (dl_t (dl_t (dl_t (dl_t (dl_t dkX3_compose_21)))))))))
theorem dkX3_compose_40 : dl_L cX3_compose [(40, .aload_n 0, 1), (41, .aload_n 0, 1), (42, .aload_n 0, 1), (43, .getfield 29, 3), (46, .iload_n 2, 1), (47, .iaload, 1), (48, .iload_n 3, 1), (49, .iconst 0, 1), (50, .invokevirtual 145, 3), (53, .invokevirtual 149, 3)] = true := by decide +kernel
theorem dX3_compose_40 : decode cX3_compose 40 = .ok (.aload_n 0, 1) := dl_h dkX3_compose_40
theorem dX3_compose_41 : decode cX3_compose 41 = .ok (.aload_n 0, 1) := dl_h (dl_t dkX3_compose_40)
theorem dX3_compose_42 : decode cX3_compose 42 = .ok (.aload_n 0, 1) := dl_h (dl_t (dl_t dkX3_compose_40))
theorem dX3_compose_43 : decode cX3_compose 43 = .ok (.getfield 29, 3) := dl_h (dl_t (dl_t (dl_t dkX3_compose_40)))
theorem dX3_compose_46 : decode cX3_compose 46 = .ok (.iload_n 2, 1) := dl_h (dl_t (dl_t (dl_t (dl_t dkX3_compose_40))))
theorem dX3_compose_47 : decode cX3_compose 47 = .ok (.iaload, 1) := dl_h (dl_t (dl_t (dl_t (dl_t (dl_t dkX3_compose_40)))))
theorem dX3_compose_48 : decode cX3_compose 48 = .ok (.iload_n 3, 1) := dl_h (dl_t (dl_t (dl_t (dl_t (dl_t (dl_t dkX3_compose_40))))))
theorem dX3_compose_49 : decode cX3_compose 49 = .ok (.iconst 0, 1) := dl_h (dl_t (dl_t (dl_t (dl_t (dl_t (dl_t (dl_t dkX3_compose_40)))))))
theorem dX3_compose_50 : decode cX3_compose 50 = .ok (.invokevirtual 145, 3) := dl_h (dl_t (dl_t (dl_t (dl_t (dl_t (dl_t (dl_t (dl_t dkX3_compose_40))))))))
theorem dX3_compose_53 : decode cX3_compose 53 = .ok (.invokevirtual 149, 3) := dl_h (dl_t (dl_t (dl_t (dl_t (dl_t (dl_t (dl_t (dl_t (dl_t dkX3_compose_40)))))))))
theorem dkX3_compose_56 : dl_L cX3_compose [(56, .istore 5, 2), (58, .iload 5, 2), (60, .iconst (-1), 1), (61, .if_icmp .ne 7, 3), (64, .iconst (-1), 1), (65, .goto 19, 3), (68, .aload_n 0, 1), (69, .aload_n 0, 1), (70, .aload_n 0, 1), (71, .getfield 29, 3)] = true := by decide +kernel
theorem dX3_compose_56 : decode cX3_compose 56 = .ok (.istore 5, 2) := dl_h dkX3_compose_56
theorem dX3_compose_58 : decode cX3_compose 58 = .ok (.iload 5, 2) := dl_h (dl_t dkX3_compose_56)
theorem dX3_compose_60 : decode cX3_compose 60 = .ok (.iconst (-1), 1) := dl_h (dl_t (dl_t dkX3_compose_56))
theorem dX3_compose_61 : decode cX3_compose 61 = .ok (.if_icmp .ne 7, 3) := dl_h (dl_t (dl_t (dl_t dkX3_compose_56)))
theorem dX3_compose_64 : decode cX3_compose 64 = .ok (.iconst (-1), 1) := dl_h (dl_t (dl_t (dl_t (dl_t dkX3_compose_56))))
theorem dX3_compose_65 : decode cX3_compose 65 = .ok (.goto 19, 3) := dl_h (dl_t (dl_t (dl_t (dl_t (dl_t dkX3_compose_56)))))
theorem dX3_compose_68 : decode cX3_compose 68 = .ok (.aload_n 0, 1) := dl_h (dl_t (dl_t (dl_t (dl_t (dl_t (dl_t dkX3_compose_56))))))
theorem dX3_compose_69 : decode cX3_compose 69 = .ok (.aload_n 0, 1) := dl_h (dl_t (dl_t (dl_t (dl_t (dl_t (dl_t (dl_t dkX3_compose_56)))))))
theorem dX3_compose_70 : decode cX3_compose 70 = .ok (.aload_n 0, 1) := dl_h (dl_t (dl_t (dl_t (dl_t (dl_t (dl_t (dl_t (dl_t dkX3_compose_56))))))))
theorem dX3_compose_71 : decode cX3_compose 71 = .ok (.getfield 29, 3) := dl_h (dl_t (dl_t (dl_t (dl_t (dl_t (dl_t (dl_t (dl_t (dl_t dkX3_compose_56)))))))))
theorem dkX3_compose_74 : dl_L cX3_compose [(74, .iload_n 2, 1), (75, .iaload, 1), (76, .iload_n 3, 1), (77, .iconst 1, 1), (78, .invokevirtual 145, 3), (81, .invokevirtual 149, 3), (84, .istore 6, 2), (86, .aload_n 0, 1), (87, .iload_n 1, 1), (88, .aload_n 0, 1)] = true := by decide +kernel
theorem dX3_compose_74 : decode cX3_compose 74 = .ok (.iload_n 2, 1) := dl_h dkX3_compose_74
theorem dX3_compose_75 : decode cX3_compose 75 = .ok (.iaload, 1) := dl_h (dl_t dkX3_compose_74)
theorem dX3_compose_76 : decode cX3_compose 76 = .ok (.iload_n 3, 1) := dl_h (dl_t (dl_t dkX3_compose_74))
theorem dX3_compose_77 : decode cX3_compose 77 = .ok (.iconst 1, 1) := dl_h (dl_t (dl_t (dl_t dkX3_compose_74)))
theorem dX3_compose_78 : decode cX3_compose 78 = .ok (.invokevirtual 145, 3) := dl_h (dl_t (dl_t (dl_t (dl_t dkX3_compose_74))))
theorem dX3_compose_81 : decode cX3_compose 81 = .ok (.invokevirtual 149, 3) := dl_h (dl_t (dl_t (dl_t (dl_t (dl_t dkX3_compose_74)))))
theorem dX3_compose_84 : decode cX3_compose 84 = .ok (.istore 6, 2) := dl_h (dl_t (dl_t (dl_t (dl_t (dl_t (dl_t dkX3_compose_74))))))
theorem dX3_compose_86 : decode cX3_compose 86 = .ok (.aload_n 0, 1) := dl_h (dl_t (dl_t (dl_t (dl_t (dl_t (dl_t (dl_t dkX3_compose_74)))))))
theorem dX3_compose_87 : decode cX3_compose 87 = .ok (.iload_n 1, 1) := dl_h (dl_t (dl_t (dl_t (dl_t (dl_t (dl_t (dl_t (dl_t dkX3_compose_74))))))))
theorem dX3_compose_88 : decode cX3_compose 88 = .ok (.aload_n 0, 1) := dl_h (dl_t (dl_t (dl_t (dl_t (dl_t (dl_t (dl_t (dl_t (dl_t dkX3_compose_74)))))))))
theorem dkX3_compose_89 : dl_L cX3_compose [(89, .bipush 10, 2), (91, .aload_n 0, 1), (92, .getfield 29, 3), (95, .iload 4, 2), (97, .iaload, 1), (98, .iload 6, 2), (100, .iload 5, 2), (102, .invokevirtual 142, 3), (105, .invokevirtual 133, 3), (108, .ireturn, 1)] = true := by decide +kernel
theorem dX3_compose_89 : decode cX3_compose 89 = .ok (.bipush 10, 2) := dl_h dkX3_compose_89
theorem dX3_compose_91 : decode cX3_compose 91 = .ok (.aload_n 0, 1) := dl_h (dl_t dkX3_compose_89)
theorem dX3_compose_92 : decode cX3_compose 92 = .ok (.getfield 29, 3) := dl_h (dl_t (dl_t dkX3_compose_89))
theorem dX3_compose_95 : decode cX3_compose 95 = .ok (.iload 4, 2) := dl_h (dl_t (dl_t (dl_t dkX3_compose_89)))
theorem dX3_compose_97 : decode cX3_compose 97 = .ok (.iaload, 1) := dl_h (dl_t (dl_t (dl_t (dl_t dkX3_compose_89))))
theorem dX3_compose_98 : decode cX3_compose 98 = .ok (.iload 6, 2) := dl_h (dl_t (dl_t (dl_t (dl_t (dl_t dkX3_compose_89)))))
theorem dX3_compose_100 : decode cX3_compose 100 = .ok (.iload 5, 2) := dl_h (dl_t (dl_t (dl_t (dl_t (dl_t (dl_t dkX3_compose_89))))))
theorem dX3_compose_102 : decode cX3_compose 102 = .ok (.invokevirtual 142, 3) := dl_h (dl_t (dl_t (dl_t (dl_t (dl_t (dl_t (dl_t dkX3_compose_89)))))))
theorem dX3_compose_105 : decode cX3_compose 105 = .ok (.invokevirtual 133, 3) := dl_h (dl_t (dl_t (dl_t (dl_t (dl_t (dl_t (dl_t (dl_t dkX3_compose_89))))))))
theorem dX3_compose_108 : decode cX3_compose 108 = .ok (.ireturn, 1) := dl_h (dl_t (dl_t (dl_t (dl_t (dl_t (dl_t (dl_t (dl_t (dl_t dkX3_compose_89)))))))))
theorem dkX3_share_0 : dl_L cX3_share [(0, .iload_n 1, 1), (1, .invokestatic 123, 3), (4, .ifCond .eq 11, 3), (7, .aload_n 0, 1), (8, .iload_n 2, 1), (9, .invokevirtual 139, 3), (12, .ifCond .ne 5, 3), (15, .iconst (-1), 1), (16, .ireturn, 1), (17, .aload_n 0, 1)] = true := by decide +kernel
theorem dX3_share_0 : decode cX3_share 0 = .ok (.iload_n 1, 1) := dl_h dkX3_share_0
theorem dX3_share_1 : decode cX3_share 1 = .ok (.invokestatic 123, 3) := dl_h (dl_t dkX3_share_0)
theorem dX3_share_4 : decode cX3_share 4 = .ok (.ifCond .eq 11, 3) := dl_h (dl_t (dl_t dkX3_share_0))
theorem dX3_share_7 : decode cX3_share 7 = .ok (.aload_n 0, 1) := dl_h (dl_t (dl_t (dl_t dkX3_share_0)))
theorem dX3_share_8 : decode cX3_share 8 = .ok (.iload_n 2, 1) := dl_h (dl_t (dl_t (dl_t (dl_t dkX3_share_0))))
theorem dX3_share_9 : decode cX3_share 9 = .ok (.invokevirtual 139, 3) := dl_h (dl_t (dl_t (dl_t (dl_t (dl_t dkX3_share_0)))))
theorem dX3_share_12 : decode cX3_share 12 = .ok (.ifCond .ne 5, 3) := dl_h (dl_t (dl_t (dl_t (dl_t (dl_t (dl_t dkX3_share_0))))))
theorem dX3_share_15 : decode cX3_share 15 = .ok (.iconst (-1), 1) := dl_h (dl_t (dl_t (dl_t (dl_t (dl_t (dl_t (dl_t dkX3_share_0)))))))
theorem dX3_share_16 : decode cX3_share 16 = .ok (.ireturn, 1) := dl_h (dl_t (dl_t (dl_t (dl_t (dl_t (dl_t (dl_t (dl_t dkX3_share_0))))))))
theorem dX3_share_17 : decode cX3_share 17 = .ok (.aload_n 0, 1) := dl_h (dl_t (dl_t (dl_t (dl_t (dl_t (dl_t (dl_t (dl_t (dl_t dkX3_share_0)))))))))
theorem dkX3_share_18 : dl_L cX3_share [(18, .getfield 29, 3), (21, .iload_n 1, 1), (22, .aload_n 0, 1), (23, .getfield 29, 3), (26, .iload_n 2, 1), (27, .iaload, 1), (28, .iastore, 1), (29, .iconst 1, 1), (30, .ireturn, 1)] = true := by decide +kernel
theorem dX3_share_18 : decode cX3_share 18 = .ok (.getfield 29, 3) := dl_h dkX3_share_18
theorem dX3_share_21 : decode cX3_share 21 = .ok (.iload_n 1, 1) := dl_h (dl_t dkX3_share_18)
theorem dX3_share_22 : decode cX3_share 22 = .ok (.aload_n 0, 1) := dl_h (dl_t (dl_t dkX3_share_18))
theorem dX3_share_23 : decode cX3_share 23 = .ok (.getfield 29, 3) := dl_h (dl_t (dl_t (dl_t dkX3_share_18)))
theorem dX3_share_26 : decode cX3_share 26 = .ok (.iload_n 2, 1) := dl_h (dl_t (dl_t (dl_t (dl_t dkX3_share_18))))
theorem dX3_share_27 : decode cX3_share 27 = .ok (.iaload, 1) := dl_h (dl_t (dl_t (dl_t (dl_t (dl_t dkX3_share_18)))))
theorem dX3_share_28 : decode cX3_share 28 = .ok (.iastore, 1) := dl_h (dl_t (dl_t (dl_t (dl_t (dl_t (dl_t dkX3_share_18))))))
theorem dX3_share_29 : decode cX3_share 29 = .ok (.iconst 1, 1) := dl_h (dl_t (dl_t (dl_t (dl_t (dl_t (dl_t (dl_t dkX3_share_18)))))))
theorem dX3_share_30 : decode cX3_share 30 = .ok (.ireturn, 1) := dl_h (dl_t (dl_t (dl_t (dl_t (dl_t (dl_t (dl_t (dl_t dkX3_share_18))))))))
theorem dkX3_drop_0 : dl_L cX3_drop [(0, .iload_n 1, 1), (1, .invokestatic 123, 3), (4, .ifCond .ne 5, 3), (7, .iconst (-1), 1), (8, .ireturn, 1), (9, .aload_n 0, 1), (10, .getfield 29, 3), (13, .iload_n 1, 1), (14, .iaload, 1), (15, .iconst (-1), 1)] = true := by decide +kernel
theorem dX3_drop_0 : decode cX3_drop 0 = .ok (.iload_n 1, 1) := dl_h dkX3_drop_0
theorem dX3_drop_1 : decode cX3_drop 1 = .ok (.invokestatic 123, 3) := dl_h (dl_t dkX3_drop_0)
theorem dX3_drop_4 : decode cX3_drop 4 = .ok (.ifCond .ne 5, 3) := dl_h (dl_t (dl_t dkX3_drop_0))
theorem dX3_drop_7 : decode cX3_drop 7 = .ok (.iconst (-1), 1) := dl_h (dl_t (dl_t (dl_t dkX3_drop_0)))
theorem dX3_drop_8 : decode cX3_drop 8 = .ok (.ireturn, 1) := dl_h (dl_t (dl_t (dl_t (dl_t dkX3_drop_0))))
theorem dX3_drop_9 : decode cX3_drop 9 = .ok (.aload_n 0, 1) := dl_h (dl_t (dl_t (dl_t (dl_t (dl_t dkX3_drop_0)))))
theorem dX3_drop_10 : decode cX3_drop 10 = .ok (.getfield 29, 3) := dl_h (dl_t (dl_t (dl_t (dl_t (dl_t (dl_t dkX3_drop_0))))))
theorem dX3_drop_13 : decode cX3_drop 13 = .ok (.iload_n 1, 1) := dl_h (dl_t (dl_t (dl_t (dl_t (dl_t (dl_t (dl_t dkX3_drop_0)))))))
theorem dX3_drop_14 : decode cX3_drop 14 = .ok (.iaload, 1) := dl_h (dl_t (dl_t (dl_t (dl_t (dl_t (dl_t (dl_t (dl_t dkX3_drop_0))))))))
theorem dX3_drop_15 : decode cX3_drop 15 = .ok (.iconst (-1), 1) := dl_h (dl_t (dl_t (dl_t (dl_t (dl_t (dl_t (dl_t (dl_t (dl_t dkX3_drop_0)))))))))
theorem dkX3_drop_16 : dl_L cX3_drop [(16, .if_icmp .ne 7, 3), (19, .iconst 0, 1), (20, .goto 4, 3), (23, .iconst 1, 1), (24, .istore_n 2, 1), (25, .aload_n 0, 1), (26, .getfield 29, 3), (29, .iload_n 1, 1), (30, .iconst (-1), 1), (31, .iastore, 1)] = true := by decide +kernel
theorem dX3_drop_16 : decode cX3_drop 16 = .ok (.if_icmp .ne 7, 3) := dl_h dkX3_drop_16
theorem dX3_drop_19 : decode cX3_drop 19 = .ok (.iconst 0, 1) := dl_h (dl_t dkX3_drop_16)
theorem dX3_drop_20 : decode cX3_drop 20 = .ok (.goto 4, 3) := dl_h (dl_t (dl_t dkX3_drop_16))
theorem dX3_drop_23 : decode cX3_drop 23 = .ok (.iconst 1, 1) := dl_h (dl_t (dl_t (dl_t dkX3_drop_16)))
theorem dX3_drop_24 : decode cX3_drop 24 = .ok (.istore_n 2, 1) := dl_h (dl_t (dl_t (dl_t (dl_t dkX3_drop_16))))
theorem dX3_drop_25 : decode cX3_drop 25 = .ok (.aload_n 0, 1) := dl_h (dl_t (dl_t (dl_t (dl_t (dl_t dkX3_drop_16)))))
theorem dX3_drop_26 : decode cX3_drop 26 = .ok (.getfield 29, 3) := dl_h (dl_t (dl_t (dl_t (dl_t (dl_t (dl_t dkX3_drop_16))))))
theorem dX3_drop_29 : decode cX3_drop 29 = .ok (.iload_n 1, 1) := dl_h (dl_t (dl_t (dl_t (dl_t (dl_t (dl_t (dl_t dkX3_drop_16)))))))
theorem dX3_drop_30 : decode cX3_drop 30 = .ok (.iconst (-1), 1) := dl_h (dl_t (dl_t (dl_t (dl_t (dl_t (dl_t (dl_t (dl_t dkX3_drop_16))))))))
theorem dX3_drop_31 : decode cX3_drop 31 = .ok (.iastore, 1) := dl_h (dl_t (dl_t (dl_t (dl_t (dl_t (dl_t (dl_t (dl_t (dl_t dkX3_drop_16)))))))))
theorem dkX3_drop_32 : dl_L cX3_drop [(32, .iload_n 2, 1), (33, .ireturn, 1)] = true := by decide +kernel
theorem dX3_drop_32 : decode cX3_drop 32 = .ok (.iload_n 2, 1) := dl_h dkX3_drop_32
theorem dX3_drop_33 : decode cX3_drop 33 = .ok (.ireturn, 1) := dl_h (dl_t dkX3_drop_32)
theorem dkX3_nodes_0 : dl_L cX3_nodes [(0, .aload_n 0, 1), (1, .iload_n 1, 1), (2, .invokevirtual 139, 3), (5, .ifCond .ne 5, 3), (8, .iconst (-1), 1), (9, .ireturn, 1), (10, .aload_n 0, 1), (11, .getfield 25, 3), (14, .aload_n 0, 1), (15, .getfield 29, 3)] = true := by decide +kernel
theorem dX3_nodes_0 : decode cX3_nodes 0 = .ok (.aload_n 0, 1) := dl_h dkX3_nodes_0
theorem dX3_nodes_1 : decode cX3_nodes 1 = .ok (.iload_n 1, 1) := dl_h (dl_t dkX3_nodes_0)
theorem dX3_nodes_2 : decode cX3_nodes 2 = .ok (.invokevirtual 139, 3) := dl_h (dl_t (dl_t dkX3_nodes_0))
theorem dX3_nodes_5 : decode cX3_nodes 5 = .ok (.ifCond .ne 5, 3) := dl_h (dl_t (dl_t (dl_t dkX3_nodes_0)))
theorem dX3_nodes_8 : decode cX3_nodes 8 = .ok (.iconst (-1), 1) := dl_h (dl_t (dl_t (dl_t (dl_t dkX3_nodes_0))))
theorem dX3_nodes_9 : decode cX3_nodes 9 = .ok (.ireturn, 1) := dl_h (dl_t (dl_t (dl_t (dl_t (dl_t dkX3_nodes_0)))))
theorem dX3_nodes_10 : decode cX3_nodes 10 = .ok (.aload_n 0, 1) := dl_h (dl_t (dl_t (dl_t (dl_t (dl_t (dl_t dkX3_nodes_0))))))
theorem dX3_nodes_11 : decode cX3_nodes 11 = .ok (.getfield 25, 3) := dl_h (dl_t (dl_t (dl_t (dl_t (dl_t (dl_t (dl_t dkX3_nodes_0)))))))
theorem dX3_nodes_14 : decode cX3_nodes 14 = .ok (.aload_n 0, 1) := dl_h (dl_t (dl_t (dl_t (dl_t (dl_t (dl_t (dl_t (dl_t dkX3_nodes_0))))))))
theorem dX3_nodes_15 : decode cX3_nodes 15 = .ok (.getfield 29, 3) := dl_h (dl_t (dl_t (dl_t (dl_t (dl_t (dl_t (dl_t (dl_t (dl_t dkX3_nodes_0)))))))))
theorem dkX3_nodes_18 : dl_L cX3_nodes [(18, .iload_n 1, 1), (19, .iaload, 1), (20, .invokevirtual 152, 3), (23, .ireturn, 1)] = true := by decide +kernel
theorem dX3_nodes_18 : decode cX3_nodes 18 = .ok (.iload_n 1, 1) := dl_h dkX3_nodes_18
theorem dX3_nodes_19 : decode cX3_nodes 19 = .ok (.iaload, 1) := dl_h (dl_t dkX3_nodes_18)
theorem dX3_nodes_20 : decode cX3_nodes 20 = .ok (.invokevirtual 152, 3) := dl_h (dl_t (dl_t dkX3_nodes_18))
theorem dX3_nodes_23 : decode cX3_nodes 23 = .ok (.ireturn, 1) := dl_h (dl_t (dl_t (dl_t dkX3_nodes_18)))
theorem dkX3_inUse_0 : dl_L cX3_inUse [(0, .aload_n 0, 1), (1, .invokevirtual 155, 3), (4, .aload_n 0, 1), (5, .getfield 25, 3), (8, .invokevirtual 158, 3), (11, .ireturn, 1)] = true := by decide +kernel
theorem dX3_inUse_0 : decode cX3_inUse 0 = .ok (.aload_n 0, 1) := dl_h dkX3_inUse_0
theorem dX3_inUse_1 : decode cX3_inUse 1 = .ok (.invokevirtual 155, 3) := dl_h (dl_t dkX3_inUse_0)
theorem dX3_inUse_4 : decode cX3_inUse 4 = .ok (.aload_n 0, 1) := dl_h (dl_t (dl_t dkX3_inUse_0))
theorem dX3_inUse_5 : decode cX3_inUse 5 = .ok (.getfield 25, 3) := dl_h (dl_t (dl_t (dl_t dkX3_inUse_0)))
theorem dX3_inUse_8 : decode cX3_inUse 8 = .ok (.invokevirtual 158, 3) := dl_h (dl_t (dl_t (dl_t (dl_t dkX3_inUse_0))))
theorem dX3_inUse_11 : decode cX3_inUse 11 = .ok (.ireturn, 1) := dl_h (dl_t (dl_t (dl_t (dl_t (dl_t dkX3_inUse_0)))))
theorem dkX3_common_0 : dl_L cX3_common [(0, .aload_n 0, 1), (1, .iload_n 1, 1), (2, .invokevirtual 139, 3), (5, .ifCond .eq 11, 3), (8, .aload_n 0, 1), (9, .iload_n 2, 1), (10, .invokevirtual 139, 3), (13, .ifCond .ne 5, 3), (16, .iconst (-1), 1), (17, .ireturn, 1)] = true := by decide +kernel
theorem dX3_common_0 : decode cX3_common 0 = .ok (.aload_n 0, 1) := dl_h dkX3_common_0
theorem dX3_common_1 : decode cX3_common 1 = .ok (.iload_n 1, 1) := dl_h (dl_t dkX3_common_0)
theorem dX3_common_2 : decode cX3_common 2 = .ok (.invokevirtual 139, 3) := dl_h (dl_t (dl_t dkX3_common_0))
theorem dX3_common_5 : decode cX3_common 5 = .ok (.ifCond .eq 11, 3) := dl_h (dl_t (dl_t (dl_t dkX3_common_0)))
theorem dX3_common_8 : decode cX3_common 8 = .ok (.aload_n 0, 1) := dl_h (dl_t (dl_t (dl_t (dl_t dkX3_common_0))))
theorem dX3_common_9 : decode cX3_common 9 = .ok (.iload_n 2, 1) := dl_h (dl_t (dl_t (dl_t (dl_t (dl_t dkX3_common_0)))))
theorem dX3_common_10 : decode cX3_common 10 = .ok (.invokevirtual 139, 3) := dl_h (dl_t (dl_t (dl_t (dl_t (dl_t (dl_t dkX3_common_0))))))
theorem dX3_common_13 : decode cX3_common 13 = .ok (.ifCond .ne 5, 3) := dl_h (dl_t (dl_t (dl_t (dl_t (dl_t (dl_t (dl_t dkX3_common_0)))))))
theorem dX3_common_16 : decode cX3_common 16 = .ok (.iconst (-1), 1) := dl_h (dl_t (dl_t (dl_t (dl_t (dl_t (dl_t (dl_t (dl_t dkX3_common_0))))))))
theorem dX3_common_17 : decode cX3_common 17 = .ok (.ireturn, 1) := dl_h (dl_t (dl_t (dl_t (dl_t (dl_t (dl_t (dl_t (dl_t (dl_t dkX3_common_0)))))))))
theorem dkX3_common_18 : dl_L cX3_common [(18, .aload_n 0, 1), (19, .getfield 25, 3), (22, .aload_n 0, 1), (23, .getfield 29, 3), (26, .iload_n 1, 1), (27, .iaload, 1), (28, .aload_n 0, 1), (29, .getfield 29, 3), (32, .iload_n 2, 1), (33, .iaload, 1)] = true := by decide +kernel
theorem dX3_common_18 : decode cX3_common 18 = .ok (.aload_n 0, 1) := dl_h dkX3_common_18
theorem dX3_common_19 : decode cX3_common 19 = .ok (.getfield 25, 3) := dl_h (dl_t dkX3_common_18)
theorem dX3_common_22 : decode cX3_common 22 = .ok (.aload_n 0, 1) := dl_h (dl_t (dl_t dkX3_common_18))
theorem dX3_common_23 : decode cX3_common 23 = .ok (.getfield 29, 3) := dl_h (dl_t (dl_t (dl_t dkX3_common_18)))
theorem dX3_common_26 : decode cX3_common 26 = .ok (.iload_n 1, 1) := dl_h (dl_t (dl_t (dl_t (dl_t dkX3_common_18))))
theorem dX3_common_27 : decode cX3_common 27 = .ok (.iaload, 1) := dl_h (dl_t (dl_t (dl_t (dl_t (dl_t dkX3_common_18)))))
theorem dX3_common_28 : decode cX3_common 28 = .ok (.aload_n 0, 1) := dl_h (dl_t (dl_t (dl_t (dl_t (dl_t (dl_t dkX3_common_18))))))
theorem dX3_common_29 : decode cX3_common 29 = .ok (.getfield 29, 3) := dl_h (dl_t (dl_t (dl_t (dl_t (dl_t (dl_t (dl_t dkX3_common_18)))))))
theorem dX3_common_32 : decode cX3_common 32 = .ok (.iload_n 2, 1) := dl_h (dl_t (dl_t (dl_t (dl_t (dl_t (dl_t (dl_t (dl_t dkX3_common_18))))))))
theorem dX3_common_33 : decode cX3_common 33 = .ok (.iaload, 1) := dl_h (dl_t (dl_t (dl_t (dl_t (dl_t (dl_t (dl_t (dl_t (dl_t dkX3_common_18)))))))))
theorem dkX3_common_34 : dl_L cX3_common [(34, .invokevirtual 161, 3), (37, .ireturn, 1)] = true := by decide +kernel
theorem dX3_common_34 : decode cX3_common 34 = .ok (.invokevirtual 161, 3) := dl_h dkX3_common_34
theorem dX3_common_37 : decode cX3_common 37 = .ok (.ireturn, 1) := dl_h (dl_t dkX3_common_34)
theorem dkX3_peak_0 : dl_L cX3_peak [(0, .aload_n 0, 1), (1, .getfield 46, 3), (4, .ireturn, 1)] = true := by decide +kernel
theorem dX3_peak_0 : decode cX3_peak 0 = .ok (.aload_n 0, 1) := dl_h dkX3_peak_0
theorem dX3_peak_1 : decode cX3_peak 1 = .ok (.getfield 46, 3) := dl_h (dl_t dkX3_peak_0)
theorem dX3_peak_4 : decode cX3_peak 4 = .ok (.ireturn, 1) := dl_h (dl_t (dl_t dkX3_peak_0))
theorem dkX3_value_0 : dl_L cX3_value [(0, .aload_n 0, 1), (1, .iload_n 1, 1), (2, .invokevirtual 139, 3), (5, .ifCond .ne 5, 3), (8, .iconst (-1), 1), (9, .ireturn, 1), (10, .iload_n 2, 1), (11, .invokestatic 91, 3), (14, .ifCond .ne 6, 3), (17, .bipush (-2), 2)] = true := by decide +kernel
theorem dX3_value_0 : decode cX3_value 0 = .ok (.aload_n 0, 1) := dl_h dkX3_value_0
theorem dX3_value_1 : decode cX3_value 1 = .ok (.iload_n 1, 1) := dl_h (dl_t dkX3_value_0)
theorem dX3_value_2 : decode cX3_value 2 = .ok (.invokevirtual 139, 3) := dl_h (dl_t (dl_t dkX3_value_0))
theorem dX3_value_5 : decode cX3_value 5 = .ok (.ifCond .ne 5, 3) := dl_h (dl_t (dl_t (dl_t dkX3_value_0)))
theorem dX3_value_8 : decode cX3_value 8 = .ok (.iconst (-1), 1) := dl_h (dl_t (dl_t (dl_t (dl_t dkX3_value_0))))
theorem dX3_value_9 : decode cX3_value 9 = .ok (.ireturn, 1) := dl_h (dl_t (dl_t (dl_t (dl_t (dl_t dkX3_value_0)))))
theorem dX3_value_10 : decode cX3_value 10 = .ok (.iload_n 2, 1) := dl_h (dl_t (dl_t (dl_t (dl_t (dl_t (dl_t dkX3_value_0))))))
theorem dX3_value_11 : decode cX3_value 11 = .ok (.invokestatic 91, 3) := dl_h (dl_t (dl_t (dl_t (dl_t (dl_t (dl_t (dl_t dkX3_value_0)))))))
theorem dX3_value_14 : decode cX3_value 14 = .ok (.ifCond .ne 6, 3) := dl_h (dl_t (dl_t (dl_t (dl_t (dl_t (dl_t (dl_t (dl_t dkX3_value_0))))))))
theorem dX3_value_17 : decode cX3_value 17 = .ok (.bipush (-2), 2) := dl_h (dl_t (dl_t (dl_t (dl_t (dl_t (dl_t (dl_t (dl_t (dl_t dkX3_value_0)))))))))
theorem dkX3_value_19 : dl_L cX3_value [(19, .ireturn, 1), (20, .aload_n 0, 1), (21, .getfield 25, 3), (24, .aload_n 0, 1), (25, .getfield 29, 3), (28, .iload_n 1, 1), (29, .iaload, 1), (30, .iload_n 2, 1), (31, .aload_n 0, 1), (32, .getfield 18, 3)] = true := by decide +kernel
theorem dX3_value_19 : decode cX3_value 19 = .ok (.ireturn, 1) := dl_h dkX3_value_19
theorem dX3_value_20 : decode cX3_value 20 = .ok (.aload_n 0, 1) := dl_h (dl_t dkX3_value_19)
theorem dX3_value_21 : decode cX3_value 21 = .ok (.getfield 25, 3) := dl_h (dl_t (dl_t dkX3_value_19))
theorem dX3_value_24 : decode cX3_value 24 = .ok (.aload_n 0, 1) := dl_h (dl_t (dl_t (dl_t dkX3_value_19)))
theorem dX3_value_25 : decode cX3_value 25 = .ok (.getfield 29, 3) := dl_h (dl_t (dl_t (dl_t (dl_t dkX3_value_19))))
theorem dX3_value_28 : decode cX3_value 28 = .ok (.iload_n 1, 1) := dl_h (dl_t (dl_t (dl_t (dl_t (dl_t dkX3_value_19)))))
theorem dX3_value_29 : decode cX3_value 29 = .ok (.iaload, 1) := dl_h (dl_t (dl_t (dl_t (dl_t (dl_t (dl_t dkX3_value_19))))))
theorem dX3_value_30 : decode cX3_value 30 = .ok (.iload_n 2, 1) := dl_h (dl_t (dl_t (dl_t (dl_t (dl_t (dl_t (dl_t dkX3_value_19)))))))
theorem dX3_value_31 : decode cX3_value 31 = .ok (.aload_n 0, 1) := dl_h (dl_t (dl_t (dl_t (dl_t (dl_t (dl_t (dl_t (dl_t dkX3_value_19))))))))
theorem dX3_value_32 : decode cX3_value 32 = .ok (.getfield 18, 3) := dl_h (dl_t (dl_t (dl_t (dl_t (dl_t (dl_t (dl_t (dl_t (dl_t dkX3_value_19)))))))))
theorem dkX3_value_35 : dl_L cX3_value [(35, .invokevirtual 164, 3), (38, .ireturn, 1)] = true := by decide +kernel
theorem dX3_value_35 : decode cX3_value 35 = .ok (.invokevirtual 164, 3) := dl_h dkX3_value_35
theorem dX3_value_38 : decode cX3_value 38 = .ok (.ireturn, 1) := dl_h (dl_t dkX3_value_35)
theorem dkX3_same_0 : dl_L cX3_same [(0, .aload_n 0, 1), (1, .iload_n 1, 1), (2, .invokevirtual 139, 3), (5, .ifCond .eq 11, 3), (8, .aload_n 0, 1), (9, .iload_n 2, 1), (10, .invokevirtual 139, 3), (13, .ifCond .ne 5, 3), (16, .iconst (-1), 1), (17, .ireturn, 1)] = true := by decide +kernel
theorem dX3_same_0 : decode cX3_same 0 = .ok (.aload_n 0, 1) := dl_h dkX3_same_0
theorem dX3_same_1 : decode cX3_same 1 = .ok (.iload_n 1, 1) := dl_h (dl_t dkX3_same_0)
theorem dX3_same_2 : decode cX3_same 2 = .ok (.invokevirtual 139, 3) := dl_h (dl_t (dl_t dkX3_same_0))
theorem dX3_same_5 : decode cX3_same 5 = .ok (.ifCond .eq 11, 3) := dl_h (dl_t (dl_t (dl_t dkX3_same_0)))
theorem dX3_same_8 : decode cX3_same 8 = .ok (.aload_n 0, 1) := dl_h (dl_t (dl_t (dl_t (dl_t dkX3_same_0))))
theorem dX3_same_9 : decode cX3_same 9 = .ok (.iload_n 2, 1) := dl_h (dl_t (dl_t (dl_t (dl_t (dl_t dkX3_same_0)))))
theorem dX3_same_10 : decode cX3_same 10 = .ok (.invokevirtual 139, 3) := dl_h (dl_t (dl_t (dl_t (dl_t (dl_t (dl_t dkX3_same_0))))))
theorem dX3_same_13 : decode cX3_same 13 = .ok (.ifCond .ne 5, 3) := dl_h (dl_t (dl_t (dl_t (dl_t (dl_t (dl_t (dl_t dkX3_same_0)))))))
theorem dX3_same_16 : decode cX3_same 16 = .ok (.iconst (-1), 1) := dl_h (dl_t (dl_t (dl_t (dl_t (dl_t (dl_t (dl_t (dl_t dkX3_same_0))))))))
theorem dX3_same_17 : decode cX3_same 17 = .ok (.ireturn, 1) := dl_h (dl_t (dl_t (dl_t (dl_t (dl_t (dl_t (dl_t (dl_t (dl_t dkX3_same_0)))))))))
theorem dkX3_same_18 : dl_L cX3_same [(18, .aload_n 0, 1), (19, .getfield 29, 3), (22, .iload_n 1, 1), (23, .iaload, 1), (24, .aload_n 0, 1), (25, .getfield 29, 3), (28, .iload_n 2, 1), (29, .iaload, 1), (30, .if_icmp .ne 7, 3), (33, .iconst 1, 1)] = true := by decide +kernel
theorem dX3_same_18 : decode cX3_same 18 = .ok (.aload_n 0, 1) := dl_h dkX3_same_18
theorem dX3_same_19 : decode cX3_same 19 = .ok (.getfield 29, 3) := dl_h (dl_t dkX3_same_18)
theorem dX3_same_22 : decode cX3_same 22 = .ok (.iload_n 1, 1) := dl_h (dl_t (dl_t dkX3_same_18))
theorem dX3_same_23 : decode cX3_same 23 = .ok (.iaload, 1) := dl_h (dl_t (dl_t (dl_t dkX3_same_18)))
theorem dX3_same_24 : decode cX3_same 24 = .ok (.aload_n 0, 1) := dl_h (dl_t (dl_t (dl_t (dl_t dkX3_same_18))))
theorem dX3_same_25 : decode cX3_same 25 = .ok (.getfield 29, 3) := dl_h (dl_t (dl_t (dl_t (dl_t (dl_t dkX3_same_18)))))
theorem dX3_same_28 : decode cX3_same 28 = .ok (.iload_n 2, 1) := dl_h (dl_t (dl_t (dl_t (dl_t (dl_t (dl_t dkX3_same_18))))))
theorem dX3_same_29 : decode cX3_same 29 = .ok (.iaload, 1) := dl_h (dl_t (dl_t (dl_t (dl_t (dl_t (dl_t (dl_t dkX3_same_18)))))))
theorem dX3_same_30 : decode cX3_same 30 = .ok (.if_icmp .ne 7, 3) := dl_h (dl_t (dl_t (dl_t (dl_t (dl_t (dl_t (dl_t (dl_t dkX3_same_18))))))))
theorem dX3_same_33 : decode cX3_same 33 = .ok (.iconst 1, 1) := dl_h (dl_t (dl_t (dl_t (dl_t (dl_t (dl_t (dl_t (dl_t (dl_t dkX3_same_18)))))))))
theorem dkX3_same_34 : dl_L cX3_same [(34, .goto 4, 3), (37, .iconst 0, 1), (38, .ireturn, 1)] = true := by decide +kernel
theorem dX3_same_34 : decode cX3_same 34 = .ok (.goto 4, 3) := dl_h dkX3_same_34
theorem dX3_same_37 : decode cX3_same 37 = .ok (.iconst 0, 1) := dl_h (dl_t dkX3_same_34)
theorem dX3_same_38 : decode cX3_same 38 = .ok (.ireturn, 1) := dl_h (dl_t (dl_t dkX3_same_34))
theorem dkX3_count_0 : dl_L cX3_count [(0, .aload_n 0, 1), (1, .iload_n 1, 1), (2, .invokevirtual 139, 3), (5, .ifCond .ne 5, 3), (8, .iconst (-1), 1), (9, .ireturn, 1), (10, .iconst 0, 1), (11, .istore_n 2, 1), (12, .iconst 0, 1), (13, .istore_n 3, 1)] = true := by decide +kernel
theorem dX3_count_0 : decode cX3_count 0 = .ok (.aload_n 0, 1) := dl_h dkX3_count_0
theorem dX3_count_1 : decode cX3_count 1 = .ok (.iload_n 1, 1) := dl_h (dl_t dkX3_count_0)
theorem dX3_count_2 : decode cX3_count 2 = .ok (.invokevirtual 139, 3) := dl_h (dl_t (dl_t dkX3_count_0))
theorem dX3_count_5 : decode cX3_count 5 = .ok (.ifCond .ne 5, 3) := dl_h (dl_t (dl_t (dl_t dkX3_count_0)))
theorem dX3_count_8 : decode cX3_count 8 = .ok (.iconst (-1), 1) := dl_h (dl_t (dl_t (dl_t (dl_t dkX3_count_0))))
theorem dX3_count_9 : decode cX3_count 9 = .ok (.ireturn, 1) := dl_h (dl_t (dl_t (dl_t (dl_t (dl_t dkX3_count_0)))))
theorem dX3_count_10 : decode cX3_count 10 = .ok (.iconst 0, 1) := dl_h (dl_t (dl_t (dl_t (dl_t (dl_t (dl_t dkX3_count_0))))))
theorem dX3_count_11 : decode cX3_count 11 = .ok (.istore_n 2, 1) := dl_h (dl_t (dl_t (dl_t (dl_t (dl_t (dl_t (dl_t dkX3_count_0)))))))
theorem dX3_count_12 : decode cX3_count 12 = .ok (.iconst 0, 1) := dl_h (dl_t (dl_t (dl_t (dl_t (dl_t (dl_t (dl_t (dl_t dkX3_count_0))))))))
theorem dX3_count_13 : decode cX3_count 13 = .ok (.istore_n 3, 1) := dl_h (dl_t (dl_t (dl_t (dl_t (dl_t (dl_t (dl_t (dl_t (dl_t dkX3_count_0)))))))))
theorem dkX3_count_14 : dl_L cX3_count [(14, .iload_n 3, 1), (15, .sipush 256, 3), (18, .if_icmp .ge 30, 3), (21, .iload_n 2, 1), (22, .aload_n 0, 1), (23, .getfield 25, 3), (26, .aload_n 0, 1), (27, .getfield 29, 3), (30, .iload_n 1, 1), (31, .iaload, 1)] = true := by decide +kernel
theorem dX3_count_14 : decode cX3_count 14 = .ok (.iload_n 3, 1) := dl_h dkX3_count_14
theorem dX3_count_15 : decode cX3_count 15 = .ok (.sipush 256, 3) := dl_h (dl_t dkX3_count_14)
theorem dX3_count_18 : decode cX3_count 18 = .ok (.if_icmp .ge 30, 3) := dl_h (dl_t (dl_t dkX3_count_14))
theorem dX3_count_21 : decode cX3_count 21 = .ok (.iload_n 2, 1) := dl_h (dl_t (dl_t (dl_t dkX3_count_14)))
theorem dX3_count_22 : decode cX3_count 22 = .ok (.aload_n 0, 1) := dl_h (dl_t (dl_t (dl_t (dl_t dkX3_count_14))))
theorem dX3_count_23 : decode cX3_count 23 = .ok (.getfield 25, 3) := dl_h (dl_t (dl_t (dl_t (dl_t (dl_t dkX3_count_14)))))
theorem dX3_count_26 : decode cX3_count 26 = .ok (.aload_n 0, 1) := dl_h (dl_t (dl_t (dl_t (dl_t (dl_t (dl_t dkX3_count_14))))))
theorem dX3_count_27 : decode cX3_count 27 = .ok (.getfield 29, 3) := dl_h (dl_t (dl_t (dl_t (dl_t (dl_t (dl_t (dl_t dkX3_count_14)))))))
theorem dX3_count_30 : decode cX3_count 30 = .ok (.iload_n 1, 1) := dl_h (dl_t (dl_t (dl_t (dl_t (dl_t (dl_t (dl_t (dl_t dkX3_count_14))))))))
theorem dX3_count_31 : decode cX3_count 31 = .ok (.iaload, 1) := dl_h (dl_t (dl_t (dl_t (dl_t (dl_t (dl_t (dl_t (dl_t (dl_t dkX3_count_14)))))))))
theorem dkX3_count_32 : dl_L cX3_count [(32, .iload_n 3, 1), (33, .aload_n 0, 1), (34, .getfield 18, 3), (37, .invokevirtual 164, 3), (40, .iadd, 1), (41, .istore_n 2, 1), (42, .iinc 3 1, 3), (45, .goto (-31), 3), (48, .iload_n 2, 1), (49, .ireturn, 1)] = true := by decide +kernel
theorem dX3_count_32 : decode cX3_count 32 = .ok (.iload_n 3, 1) := dl_h dkX3_count_32
theorem dX3_count_33 : decode cX3_count 33 = .ok (.aload_n 0, 1) := dl_h (dl_t dkX3_count_32)
theorem dX3_count_34 : decode cX3_count 34 = .ok (.getfield 18, 3) := dl_h (dl_t (dl_t dkX3_count_32))
theorem dX3_count_37 : decode cX3_count 37 = .ok (.invokevirtual 164, 3) := dl_h (dl_t (dl_t (dl_t dkX3_count_32)))
theorem dX3_count_40 : decode cX3_count 40 = .ok (.iadd, 1) := dl_h (dl_t (dl_t (dl_t (dl_t dkX3_count_32))))
theorem dX3_count_41 : decode cX3_count 41 = .ok (.istore_n 2, 1) := dl_h (dl_t (dl_t (dl_t (dl_t (dl_t dkX3_count_32)))))
theorem dX3_count_42 : decode cX3_count 42 = .ok (.iinc 3 1, 3) := dl_h (dl_t (dl_t (dl_t (dl_t (dl_t (dl_t dkX3_count_32))))))
theorem dX3_count_45 : decode cX3_count 45 = .ok (.goto (-31), 3) := dl_h (dl_t (dl_t (dl_t (dl_t (dl_t (dl_t (dl_t dkX3_count_32)))))))
theorem dX3_count_48 : decode cX3_count 48 = .ok (.iload_n 2, 1) := dl_h (dl_t (dl_t (dl_t (dl_t (dl_t (dl_t (dl_t (dl_t dkX3_count_32))))))))
theorem dX3_count_49 : decode cX3_count 49 = .ok (.ireturn, 1) := dl_h (dl_t (dl_t (dl_t (dl_t (dl_t (dl_t (dl_t (dl_t (dl_t dkX3_count_32)))))))))
theorem dkX3_support_0 : dl_L cX3_support [(0, .aload_n 0, 1), (1, .iload_n 1, 1), (2, .invokevirtual 139, 3), (5, .ifCond .ne 5, 3), (8, .iconst (-1), 1), (9, .ireturn, 1), (10, .iconst 0, 1), (11, .istore_n 2, 1), (12, .iconst 0, 1), (13, .istore_n 3, 1)] = true := by decide +kernel
theorem dX3_support_0 : decode cX3_support 0 = .ok (.aload_n 0, 1) := dl_h dkX3_support_0
theorem dX3_support_1 : decode cX3_support 1 = .ok (.iload_n 1, 1) := dl_h (dl_t dkX3_support_0)
theorem dX3_support_2 : decode cX3_support 2 = .ok (.invokevirtual 139, 3) := dl_h (dl_t (dl_t dkX3_support_0))
theorem dX3_support_5 : decode cX3_support 5 = .ok (.ifCond .ne 5, 3) := dl_h (dl_t (dl_t (dl_t dkX3_support_0)))
theorem dX3_support_8 : decode cX3_support 8 = .ok (.iconst (-1), 1) := dl_h (dl_t (dl_t (dl_t (dl_t dkX3_support_0))))
theorem dX3_support_9 : decode cX3_support 9 = .ok (.ireturn, 1) := dl_h (dl_t (dl_t (dl_t (dl_t (dl_t dkX3_support_0)))))
theorem dX3_support_10 : decode cX3_support 10 = .ok (.iconst 0, 1) := dl_h (dl_t (dl_t (dl_t (dl_t (dl_t (dl_t dkX3_support_0))))))
theorem dX3_support_11 : decode cX3_support 11 = .ok (.istore_n 2, 1) := dl_h (dl_t (dl_t (dl_t (dl_t (dl_t (dl_t (dl_t dkX3_support_0)))))))
theorem dX3_support_12 : decode cX3_support 12 = .ok (.iconst 0, 1) := dl_h (dl_t (dl_t (dl_t (dl_t (dl_t (dl_t (dl_t (dl_t dkX3_support_0))))))))
theorem dX3_support_13 : decode cX3_support 13 = .ok (.istore_n 3, 1) := dl_h (dl_t (dl_t (dl_t (dl_t (dl_t (dl_t (dl_t (dl_t (dl_t dkX3_support_0)))))))))
theorem dkX3_support_14 : dl_L cX3_support [(14, .iload_n 3, 1), (15, .bipush 8, 2), (17, .if_icmp .ge 39, 3), (20, .aload_n 0, 1), (21, .getfield 25, 3), (24, .aload_n 0, 1), (25, .getfield 29, 3), (28, .iload_n 1, 1), (29, .iaload, 1), (30, .iload_n 3, 1)] = true := by decide +kernel
theorem dX3_support_14 : decode cX3_support 14 = .ok (.iload_n 3, 1) := dl_h dkX3_support_14
theorem dX3_support_15 : decode cX3_support 15 = .ok (.bipush 8, 2) := dl_h (dl_t dkX3_support_14)
theorem dX3_support_17 : decode cX3_support 17 = .ok (.if_icmp .ge 39, 3) := dl_h (dl_t (dl_t dkX3_support_14))
theorem dX3_support_20 : decode cX3_support 20 = .ok (.aload_n 0, 1) := dl_h (dl_t (dl_t (dl_t dkX3_support_14)))
theorem dX3_support_21 : decode cX3_support 21 = .ok (.getfield 25, 3) := dl_h (dl_t (dl_t (dl_t (dl_t dkX3_support_14))))
theorem dX3_support_24 : decode cX3_support 24 = .ok (.aload_n 0, 1) := dl_h (dl_t (dl_t (dl_t (dl_t (dl_t dkX3_support_14)))))
theorem dX3_support_25 : decode cX3_support 25 = .ok (.getfield 29, 3) := dl_h (dl_t (dl_t (dl_t (dl_t (dl_t (dl_t dkX3_support_14))))))
theorem dX3_support_28 : decode cX3_support 28 = .ok (.iload_n 1, 1) := dl_h (dl_t (dl_t (dl_t (dl_t (dl_t (dl_t (dl_t dkX3_support_14)))))))
theorem dX3_support_29 : decode cX3_support 29 = .ok (.iaload, 1) := dl_h (dl_t (dl_t (dl_t (dl_t (dl_t (dl_t (dl_t (dl_t dkX3_support_14))))))))
theorem dX3_support_30 : decode cX3_support 30 = .ok (.iload_n 3, 1) := dl_h (dl_t (dl_t (dl_t (dl_t (dl_t (dl_t (dl_t (dl_t (dl_t dkX3_support_14)))))))))
theorem dkX3_support_31 : dl_L cX3_support [(31, .invokevirtual 168, 3), (34, .ifCond .le 16, 3), (37, .iload_n 2, 1), (38, .iconst 1, 1), (39, .aload_n 0, 1), (40, .getfield 18, 3), (43, .iload_n 3, 1), (44, .invokevirtual 114, 3), (47, .ishl, 1), (48, .ior, 1)] = true := by decide +kernel
theorem dX3_support_31 : decode cX3_support 31 = .ok (.invokevirtual 168, 3) := dl_h dkX3_support_31
theorem dX3_support_34 : decode cX3_support 34 = .ok (.ifCond .le 16, 3) := dl_h (dl_t dkX3_support_31)
theorem dX3_support_37 : decode cX3_support 37 = .ok (.iload_n 2, 1) := dl_h (dl_t (dl_t dkX3_support_31))
theorem dX3_support_38 : decode cX3_support 38 = .ok (.iconst 1, 1) := dl_h (dl_t (dl_t (dl_t dkX3_support_31)))
theorem dX3_support_39 : decode cX3_support 39 = .ok (.aload_n 0, 1) := dl_h (dl_t (dl_t (dl_t (dl_t dkX3_support_31))))
theorem dX3_support_40 : decode cX3_support 40 = .ok (.getfield 18, 3) := dl_h (dl_t (dl_t (dl_t (dl_t (dl_t dkX3_support_31)))))
theorem dX3_support_43 : decode cX3_support 43 = .ok (.iload_n 3, 1) := dl_h (dl_t (dl_t (dl_t (dl_t (dl_t (dl_t dkX3_support_31))))))
theorem dX3_support_44 : decode cX3_support 44 = .ok (.invokevirtual 114, 3) := dl_h (dl_t (dl_t (dl_t (dl_t (dl_t (dl_t (dl_t dkX3_support_31)))))))
theorem dX3_support_47 : decode cX3_support 47 = .ok (.ishl, 1) := dl_h (dl_t (dl_t (dl_t (dl_t (dl_t (dl_t (dl_t (dl_t dkX3_support_31))))))))
theorem dX3_support_48 : decode cX3_support 48 = .ok (.ior, 1) := dl_h (dl_t (dl_t (dl_t (dl_t (dl_t (dl_t (dl_t (dl_t (dl_t dkX3_support_31)))))))))
theorem dkX3_support_49 : dl_L cX3_support [(49, .istore_n 2, 1), (50, .iinc 3 1, 3), (53, .goto (-39), 3), (56, .iload_n 2, 1), (57, .ireturn, 1)] = true := by decide +kernel
theorem dX3_support_49 : decode cX3_support 49 = .ok (.istore_n 2, 1) := dl_h dkX3_support_49
theorem dX3_support_50 : decode cX3_support 50 = .ok (.iinc 3 1, 3) := dl_h (dl_t dkX3_support_49)
theorem dX3_support_53 : decode cX3_support 53 = .ok (.goto (-39), 3) := dl_h (dl_t (dl_t dkX3_support_49))
theorem dX3_support_56 : decode cX3_support 56 = .ok (.iload_n 2, 1) := dl_h (dl_t (dl_t (dl_t dkX3_support_49)))
theorem dX3_support_57 : decode cX3_support 57 = .ok (.ireturn, 1) := dl_h (dl_t (dl_t (dl_t (dl_t dkX3_support_49))))
theorem dkX3_top_0 : dl_L cX3_top [(0, .aload_n 0, 1), (1, .iload_n 1, 1), (2, .invokevirtual 139, 3), (5, .ifCond .ne 5, 3), (8, .iconst (-1), 1), (9, .ireturn, 1), (10, .aload_n 0, 1), (11, .getfield 25, 3), (14, .aload_n 0, 1), (15, .getfield 29, 3)] = true := by decide +kernel
theorem dX3_top_0 : decode cX3_top 0 = .ok (.aload_n 0, 1) := dl_h dkX3_top_0
theorem dX3_top_1 : decode cX3_top 1 = .ok (.iload_n 1, 1) := dl_h (dl_t dkX3_top_0)
theorem dX3_top_2 : decode cX3_top 2 = .ok (.invokevirtual 139, 3) := dl_h (dl_t (dl_t dkX3_top_0))
theorem dX3_top_5 : decode cX3_top 5 = .ok (.ifCond .ne 5, 3) := dl_h (dl_t (dl_t (dl_t dkX3_top_0)))
theorem dX3_top_8 : decode cX3_top 8 = .ok (.iconst (-1), 1) := dl_h (dl_t (dl_t (dl_t (dl_t dkX3_top_0))))
theorem dX3_top_9 : decode cX3_top 9 = .ok (.ireturn, 1) := dl_h (dl_t (dl_t (dl_t (dl_t (dl_t dkX3_top_0)))))
theorem dX3_top_10 : decode cX3_top 10 = .ok (.aload_n 0, 1) := dl_h (dl_t (dl_t (dl_t (dl_t (dl_t (dl_t dkX3_top_0))))))
theorem dX3_top_11 : decode cX3_top 11 = .ok (.getfield 25, 3) := dl_h (dl_t (dl_t (dl_t (dl_t (dl_t (dl_t (dl_t dkX3_top_0)))))))
theorem dX3_top_14 : decode cX3_top 14 = .ok (.aload_n 0, 1) := dl_h (dl_t (dl_t (dl_t (dl_t (dl_t (dl_t (dl_t (dl_t dkX3_top_0))))))))
theorem dX3_top_15 : decode cX3_top 15 = .ok (.getfield 29, 3) := dl_h (dl_t (dl_t (dl_t (dl_t (dl_t (dl_t (dl_t (dl_t (dl_t dkX3_top_0)))))))))
theorem dkX3_top_18 : dl_L cX3_top [(18, .iload_n 1, 1), (19, .iaload, 1), (20, .invokevirtual 171, 3), (23, .istore_n 2, 1), (24, .iload_n 2, 1), (25, .bipush 8, 2), (27, .if_icmp .ge 14, 3), (30, .aload_n 0, 1), (31, .getfield 18, 3), (34, .iload_n 2, 1)] = true := by decide +kernel
theorem dX3_top_18 : decode cX3_top 18 = .ok (.iload_n 1, 1) := dl_h dkX3_top_18
theorem dX3_top_19 : decode cX3_top 19 = .ok (.iaload, 1) := dl_h (dl_t dkX3_top_18)
theorem dX3_top_20 : decode cX3_top 20 = .ok (.invokevirtual 171, 3) := dl_h (dl_t (dl_t dkX3_top_18))
theorem dX3_top_23 : decode cX3_top 23 = .ok (.istore_n 2, 1) := dl_h (dl_t (dl_t (dl_t dkX3_top_18)))
theorem dX3_top_24 : decode cX3_top 24 = .ok (.iload_n 2, 1) := dl_h (dl_t (dl_t (dl_t (dl_t dkX3_top_18))))
theorem dX3_top_25 : decode cX3_top 25 = .ok (.bipush 8, 2) := dl_h (dl_t (dl_t (dl_t (dl_t (dl_t dkX3_top_18)))))
theorem dX3_top_27 : decode cX3_top 27 = .ok (.if_icmp .ge 14, 3) := dl_h (dl_t (dl_t (dl_t (dl_t (dl_t (dl_t dkX3_top_18))))))
theorem dX3_top_30 : decode cX3_top 30 = .ok (.aload_n 0, 1) := dl_h (dl_t (dl_t (dl_t (dl_t (dl_t (dl_t (dl_t dkX3_top_18)))))))
theorem dX3_top_31 : decode cX3_top 31 = .ok (.getfield 18, 3) := dl_h (dl_t (dl_t (dl_t (dl_t (dl_t (dl_t (dl_t (dl_t dkX3_top_18))))))))
theorem dX3_top_34 : decode cX3_top 34 = .ok (.iload_n 2, 1) := dl_h (dl_t (dl_t (dl_t (dl_t (dl_t (dl_t (dl_t (dl_t (dl_t dkX3_top_18)))))))))
theorem dkX3_top_35 : dl_L cX3_top [(35, .invokevirtual 114, 3), (38, .goto 5, 3), (41, .bipush (-9), 2), (43, .ireturn, 1)] = true := by decide +kernel
theorem dX3_top_35 : decode cX3_top 35 = .ok (.invokevirtual 114, 3) := dl_h dkX3_top_35
theorem dX3_top_38 : decode cX3_top 38 = .ok (.goto 5, 3) := dl_h (dl_t dkX3_top_35)
theorem dX3_top_41 : decode cX3_top 41 = .ok (.bipush (-9), 2) := dl_h (dl_t (dl_t dkX3_top_35))
theorem dX3_top_43 : decode cX3_top 43 = .ok (.ireturn, 1) := dl_h (dl_t (dl_t (dl_t dkX3_top_35)))
theorem dkX3_level_0 : dl_L cX3_level [(0, .aload_n 0, 1), (1, .iload_n 1, 1), (2, .invokevirtual 139, 3), (5, .ifCond .ne 5, 3), (8, .iconst (-1), 1), (9, .ireturn, 1), (10, .iload_n 2, 1), (11, .invokestatic 70, 3), (14, .ifCond .ne 6, 3), (17, .bipush (-2), 2)] = true := by decide +kernel
theorem dX3_level_0 : decode cX3_level 0 = .ok (.aload_n 0, 1) := dl_h dkX3_level_0
theorem dX3_level_1 : decode cX3_level 1 = .ok (.iload_n 1, 1) := dl_h (dl_t dkX3_level_0)
theorem dX3_level_2 : decode cX3_level 2 = .ok (.invokevirtual 139, 3) := dl_h (dl_t (dl_t dkX3_level_0))
theorem dX3_level_5 : decode cX3_level 5 = .ok (.ifCond .ne 5, 3) := dl_h (dl_t (dl_t (dl_t dkX3_level_0)))
theorem dX3_level_8 : decode cX3_level 8 = .ok (.iconst (-1), 1) := dl_h (dl_t (dl_t (dl_t (dl_t dkX3_level_0))))
theorem dX3_level_9 : decode cX3_level 9 = .ok (.ireturn, 1) := dl_h (dl_t (dl_t (dl_t (dl_t (dl_t dkX3_level_0)))))
theorem dX3_level_10 : decode cX3_level 10 = .ok (.iload_n 2, 1) := dl_h (dl_t (dl_t (dl_t (dl_t (dl_t (dl_t dkX3_level_0))))))
theorem dX3_level_11 : decode cX3_level 11 = .ok (.invokestatic 70, 3) := dl_h (dl_t (dl_t (dl_t (dl_t (dl_t (dl_t (dl_t dkX3_level_0)))))))
theorem dX3_level_14 : decode cX3_level 14 = .ok (.ifCond .ne 6, 3) := dl_h (dl_t (dl_t (dl_t (dl_t (dl_t (dl_t (dl_t (dl_t dkX3_level_0))))))))
theorem dX3_level_17 : decode cX3_level 17 = .ok (.bipush (-2), 2) := dl_h (dl_t (dl_t (dl_t (dl_t (dl_t (dl_t (dl_t (dl_t (dl_t dkX3_level_0)))))))))
theorem dkX3_level_19 : dl_L cX3_level [(19, .ireturn, 1), (20, .aload_n 0, 1), (21, .getfield 25, 3), (24, .aload_n 0, 1), (25, .getfield 29, 3), (28, .iload_n 1, 1), (29, .iaload, 1), (30, .aload_n 0, 1), (31, .getfield 18, 3), (34, .iload_n 2, 1)] = true := by decide +kernel
theorem dX3_level_19 : decode cX3_level 19 = .ok (.ireturn, 1) := dl_h dkX3_level_19
theorem dX3_level_20 : decode cX3_level 20 = .ok (.aload_n 0, 1) := dl_h (dl_t dkX3_level_19)
theorem dX3_level_21 : decode cX3_level 21 = .ok (.getfield 25, 3) := dl_h (dl_t (dl_t dkX3_level_19))
theorem dX3_level_24 : decode cX3_level 24 = .ok (.aload_n 0, 1) := dl_h (dl_t (dl_t (dl_t dkX3_level_19)))
theorem dX3_level_25 : decode cX3_level 25 = .ok (.getfield 29, 3) := dl_h (dl_t (dl_t (dl_t (dl_t dkX3_level_19))))
theorem dX3_level_28 : decode cX3_level 28 = .ok (.iload_n 1, 1) := dl_h (dl_t (dl_t (dl_t (dl_t (dl_t dkX3_level_19)))))
theorem dX3_level_29 : decode cX3_level 29 = .ok (.iaload, 1) := dl_h (dl_t (dl_t (dl_t (dl_t (dl_t (dl_t dkX3_level_19))))))
theorem dX3_level_30 : decode cX3_level 30 = .ok (.aload_n 0, 1) := dl_h (dl_t (dl_t (dl_t (dl_t (dl_t (dl_t (dl_t dkX3_level_19)))))))
theorem dX3_level_31 : decode cX3_level 31 = .ok (.getfield 18, 3) := dl_h (dl_t (dl_t (dl_t (dl_t (dl_t (dl_t (dl_t (dl_t dkX3_level_19))))))))
theorem dX3_level_34 : decode cX3_level 34 = .ok (.iload_n 2, 1) := dl_h (dl_t (dl_t (dl_t (dl_t (dl_t (dl_t (dl_t (dl_t (dl_t dkX3_level_19)))))))))
theorem dkX3_level_35 : dl_L cX3_level [(35, .invokevirtual 174, 3), (38, .invokevirtual 168, 3), (41, .ireturn, 1)] = true := by decide +kernel
theorem dX3_level_35 : decode cX3_level 35 = .ok (.invokevirtual 174, 3) := dl_h dkX3_level_35
theorem dX3_level_38 : decode cX3_level 38 = .ok (.invokevirtual 168, 3) := dl_h (dl_t dkX3_level_35)
theorem dX3_level_41 : decode cX3_level 41 = .ok (.ireturn, 1) := dl_h (dl_t (dl_t dkX3_level_35))
theorem dkX3_least_0 : dl_L cX3_least [(0, .aload_n 0, 1), (1, .iload_n 1, 1), (2, .invokevirtual 139, 3), (5, .ifCond .ne 5, 3), (8, .iconst (-1), 1), (9, .ireturn, 1), (10, .aload_n 0, 1), (11, .getfield 25, 3), (14, .aload_n 0, 1), (15, .getfield 29, 3)] = true := by decide +kernel
theorem dX3_least_0 : decode cX3_least 0 = .ok (.aload_n 0, 1) := dl_h dkX3_least_0
theorem dX3_least_1 : decode cX3_least 1 = .ok (.iload_n 1, 1) := dl_h (dl_t dkX3_least_0)
theorem dX3_least_2 : decode cX3_least 2 = .ok (.invokevirtual 139, 3) := dl_h (dl_t (dl_t dkX3_least_0))
theorem dX3_least_5 : decode cX3_least 5 = .ok (.ifCond .ne 5, 3) := dl_h (dl_t (dl_t (dl_t dkX3_least_0)))
theorem dX3_least_8 : decode cX3_least 8 = .ok (.iconst (-1), 1) := dl_h (dl_t (dl_t (dl_t (dl_t dkX3_least_0))))
theorem dX3_least_9 : decode cX3_least 9 = .ok (.ireturn, 1) := dl_h (dl_t (dl_t (dl_t (dl_t (dl_t dkX3_least_0)))))
theorem dX3_least_10 : decode cX3_least 10 = .ok (.aload_n 0, 1) := dl_h (dl_t (dl_t (dl_t (dl_t (dl_t (dl_t dkX3_least_0))))))
theorem dX3_least_11 : decode cX3_least 11 = .ok (.getfield 25, 3) := dl_h (dl_t (dl_t (dl_t (dl_t (dl_t (dl_t (dl_t dkX3_least_0)))))))
theorem dX3_least_14 : decode cX3_least 14 = .ok (.aload_n 0, 1) := dl_h (dl_t (dl_t (dl_t (dl_t (dl_t (dl_t (dl_t (dl_t dkX3_least_0))))))))
theorem dX3_least_15 : decode cX3_least 15 = .ok (.getfield 29, 3) := dl_h (dl_t (dl_t (dl_t (dl_t (dl_t (dl_t (dl_t (dl_t (dl_t dkX3_least_0)))))))))
theorem dkX3_least_18 : dl_L cX3_least [(18, .iload_n 1, 1), (19, .iaload, 1), (20, .iload_n 2, 1), (21, .ifCond .eq 7, 3), (24, .iconst 1, 1), (25, .goto 4, 3), (28, .iconst 0, 1), (29, .aload_n 0, 1), (30, .getfield 18, 3), (33, .invokevirtual 175, 3)] = true := by decide +kernel
theorem dX3_least_18 : decode cX3_least 18 = .ok (.iload_n 1, 1) := dl_h dkX3_least_18
theorem dX3_least_19 : decode cX3_least 19 = .ok (.iaload, 1) := dl_h (dl_t dkX3_least_18)
theorem dX3_least_20 : decode cX3_least 20 = .ok (.iload_n 2, 1) := dl_h (dl_t (dl_t dkX3_least_18))
theorem dX3_least_21 : decode cX3_least 21 = .ok (.ifCond .eq 7, 3) := dl_h (dl_t (dl_t (dl_t dkX3_least_18)))
theorem dX3_least_24 : decode cX3_least 24 = .ok (.iconst 1, 1) := dl_h (dl_t (dl_t (dl_t (dl_t dkX3_least_18))))
theorem dX3_least_25 : decode cX3_least 25 = .ok (.goto 4, 3) := dl_h (dl_t (dl_t (dl_t (dl_t (dl_t dkX3_least_18)))))
theorem dX3_least_28 : decode cX3_least 28 = .ok (.iconst 0, 1) := dl_h (dl_t (dl_t (dl_t (dl_t (dl_t (dl_t dkX3_least_18))))))
theorem dX3_least_29 : decode cX3_least 29 = .ok (.aload_n 0, 1) := dl_h (dl_t (dl_t (dl_t (dl_t (dl_t (dl_t (dl_t dkX3_least_18)))))))
theorem dX3_least_30 : decode cX3_least 30 = .ok (.getfield 18, 3) := dl_h (dl_t (dl_t (dl_t (dl_t (dl_t (dl_t (dl_t (dl_t dkX3_least_18))))))))
theorem dX3_least_33 : decode cX3_least 33 = .ok (.invokevirtual 175, 3) := dl_h (dl_t (dl_t (dl_t (dl_t (dl_t (dl_t (dl_t (dl_t (dl_t dkX3_least_18)))))))))
theorem dkX3_least_36 : dl_L cX3_least [(36, .ireturn, 1)] = true := by decide +kernel
theorem dX3_least_36 : decode cX3_least 36 = .ok (.ireturn, 1) := dl_h dkX3_least_36
theorem dkX3_paths_0 : dl_L cX3_paths [(0, .aload_n 0, 1), (1, .iload_n 1, 1), (2, .invokevirtual 139, 3), (5, .ifCond .ne 5, 3), (8, .iconst (-1), 1), (9, .ireturn, 1), (10, .aload_n 0, 1), (11, .getfield 25, 3), (14, .aload_n 0, 1), (15, .getfield 29, 3)] = true := by decide +kernel
theorem dX3_paths_0 : decode cX3_paths 0 = .ok (.aload_n 0, 1) := dl_h dkX3_paths_0
theorem dX3_paths_1 : decode cX3_paths 1 = .ok (.iload_n 1, 1) := dl_h (dl_t dkX3_paths_0)
theorem dX3_paths_2 : decode cX3_paths 2 = .ok (.invokevirtual 139, 3) := dl_h (dl_t (dl_t dkX3_paths_0))
theorem dX3_paths_5 : decode cX3_paths 5 = .ok (.ifCond .ne 5, 3) := dl_h (dl_t (dl_t (dl_t dkX3_paths_0)))
theorem dX3_paths_8 : decode cX3_paths 8 = .ok (.iconst (-1), 1) := dl_h (dl_t (dl_t (dl_t (dl_t dkX3_paths_0))))
theorem dX3_paths_9 : decode cX3_paths 9 = .ok (.ireturn, 1) := dl_h (dl_t (dl_t (dl_t (dl_t (dl_t dkX3_paths_0)))))
theorem dX3_paths_10 : decode cX3_paths 10 = .ok (.aload_n 0, 1) := dl_h (dl_t (dl_t (dl_t (dl_t (dl_t (dl_t dkX3_paths_0))))))
theorem dX3_paths_11 : decode cX3_paths 11 = .ok (.getfield 25, 3) := dl_h (dl_t (dl_t (dl_t (dl_t (dl_t (dl_t (dl_t dkX3_paths_0)))))))
theorem dX3_paths_14 : decode cX3_paths 14 = .ok (.aload_n 0, 1) := dl_h (dl_t (dl_t (dl_t (dl_t (dl_t (dl_t (dl_t (dl_t dkX3_paths_0))))))))
theorem dX3_paths_15 : decode cX3_paths 15 = .ok (.getfield 29, 3) := dl_h (dl_t (dl_t (dl_t (dl_t (dl_t (dl_t (dl_t (dl_t (dl_t dkX3_paths_0)))))))))
theorem dkX3_paths_18 : dl_L cX3_paths [(18, .iload_n 1, 1), (19, .iaload, 1), (20, .iload_n 2, 1), (21, .ifCond .eq 7, 3), (24, .iconst 1, 1), (25, .goto 4, 3), (28, .iconst 0, 1), (29, .invokevirtual 178, 3), (32, .ireturn, 1)] = true := by decide +kernel
theorem dX3_paths_18 : decode cX3_paths 18 = .ok (.iload_n 1, 1) := dl_h dkX3_paths_18
theorem dX3_paths_19 : decode cX3_paths 19 = .ok (.iaload, 1) := dl_h (dl_t dkX3_paths_18)
theorem dX3_paths_20 : decode cX3_paths 20 = .ok (.iload_n 2, 1) := dl_h (dl_t (dl_t dkX3_paths_18))
theorem dX3_paths_21 : decode cX3_paths 21 = .ok (.ifCond .eq 7, 3) := dl_h (dl_t (dl_t (dl_t dkX3_paths_18)))
theorem dX3_paths_24 : decode cX3_paths 24 = .ok (.iconst 1, 1) := dl_h (dl_t (dl_t (dl_t (dl_t dkX3_paths_18))))
theorem dX3_paths_25 : decode cX3_paths 25 = .ok (.goto 4, 3) := dl_h (dl_t (dl_t (dl_t (dl_t (dl_t dkX3_paths_18)))))
theorem dX3_paths_28 : decode cX3_paths 28 = .ok (.iconst 0, 1) := dl_h (dl_t (dl_t (dl_t (dl_t (dl_t (dl_t dkX3_paths_18))))))
theorem dX3_paths_29 : decode cX3_paths 29 = .ok (.invokevirtual 178, 3) := dl_h (dl_t (dl_t (dl_t (dl_t (dl_t (dl_t (dl_t dkX3_paths_18)))))))
theorem dX3_paths_32 : decode cX3_paths 32 = .ok (.ireturn, 1) := dl_h (dl_t (dl_t (dl_t (dl_t (dl_t (dl_t (dl_t (dl_t dkX3_paths_18))))))))
theorem dkX3_equal_0 : dl_L cX3_equal [(0, .iload_n 1, 1), (1, .invokestatic 62, 3), (4, .ifCond .eq 10, 3), (7, .iload_n 2, 1), (8, .invokestatic 62, 3), (11, .ifCond .ne 5, 3), (14, .iconst (-1), 1), (15, .ireturn, 1), (16, .aload_n 0, 1), (17, .getfield 11, 3)] = true := by decide +kernel
theorem dX3_equal_0 : decode cX3_equal 0 = .ok (.iload_n 1, 1) := dl_h dkX3_equal_0
theorem dX3_equal_1 : decode cX3_equal 1 = .ok (.invokestatic 62, 3) := dl_h (dl_t dkX3_equal_0)
theorem dX3_equal_4 : decode cX3_equal 4 = .ok (.ifCond .eq 10, 3) := dl_h (dl_t (dl_t dkX3_equal_0))
theorem dX3_equal_7 : decode cX3_equal 7 = .ok (.iload_n 2, 1) := dl_h (dl_t (dl_t (dl_t dkX3_equal_0)))
theorem dX3_equal_8 : decode cX3_equal 8 = .ok (.invokestatic 62, 3) := dl_h (dl_t (dl_t (dl_t (dl_t dkX3_equal_0))))
theorem dX3_equal_11 : decode cX3_equal 11 = .ok (.ifCond .ne 5, 3) := dl_h (dl_t (dl_t (dl_t (dl_t (dl_t dkX3_equal_0)))))
theorem dX3_equal_14 : decode cX3_equal 14 = .ok (.iconst (-1), 1) := dl_h (dl_t (dl_t (dl_t (dl_t (dl_t (dl_t dkX3_equal_0))))))
theorem dX3_equal_15 : decode cX3_equal 15 = .ok (.ireturn, 1) := dl_h (dl_t (dl_t (dl_t (dl_t (dl_t (dl_t (dl_t dkX3_equal_0)))))))
theorem dX3_equal_16 : decode cX3_equal 16 = .ok (.aload_n 0, 1) := dl_h (dl_t (dl_t (dl_t (dl_t (dl_t (dl_t (dl_t (dl_t dkX3_equal_0))))))))
theorem dX3_equal_17 : decode cX3_equal 17 = .ok (.getfield 11, 3) := dl_h (dl_t (dl_t (dl_t (dl_t (dl_t (dl_t (dl_t (dl_t (dl_t dkX3_equal_0)))))))))
theorem dkX3_equal_20 : dl_L cX3_equal [(20, .iload_n 1, 1), (21, .aaload, 1), (22, .invokevirtual 181, 3), (25, .istore_n 3, 1), (26, .iload_n 3, 1), (27, .aload_n 0, 1), (28, .getfield 11, 3), (31, .iload_n 2, 1), (32, .aaload, 1), (33, .invokevirtual 181, 3)] = true := by decide +kernel
theorem dX3_equal_20 : decode cX3_equal 20 = .ok (.iload_n 1, 1) := dl_h dkX3_equal_20
theorem dX3_equal_21 : decode cX3_equal 21 = .ok (.aaload, 1) := dl_h (dl_t dkX3_equal_20)
theorem dX3_equal_22 : decode cX3_equal 22 = .ok (.invokevirtual 181, 3) := dl_h (dl_t (dl_t dkX3_equal_20))
theorem dX3_equal_25 : decode cX3_equal 25 = .ok (.istore_n 3, 1) := dl_h (dl_t (dl_t (dl_t dkX3_equal_20)))
theorem dX3_equal_26 : decode cX3_equal 26 = .ok (.iload_n 3, 1) := dl_h (dl_t (dl_t (dl_t (dl_t dkX3_equal_20))))
theorem dX3_equal_27 : decode cX3_equal 27 = .ok (.aload_n 0, 1) := dl_h (dl_t (dl_t (dl_t (dl_t (dl_t dkX3_equal_20)))))
theorem dX3_equal_28 : decode cX3_equal 28 = .ok (.getfield 11, 3) := dl_h (dl_t (dl_t (dl_t (dl_t (dl_t (dl_t dkX3_equal_20))))))
theorem dX3_equal_31 : decode cX3_equal 31 = .ok (.iload_n 2, 1) := dl_h (dl_t (dl_t (dl_t (dl_t (dl_t (dl_t (dl_t dkX3_equal_20)))))))
theorem dX3_equal_32 : decode cX3_equal 32 = .ok (.aaload, 1) := dl_h (dl_t (dl_t (dl_t (dl_t (dl_t (dl_t (dl_t (dl_t dkX3_equal_20))))))))
theorem dX3_equal_33 : decode cX3_equal 33 = .ok (.invokevirtual 181, 3) := dl_h (dl_t (dl_t (dl_t (dl_t (dl_t (dl_t (dl_t (dl_t (dl_t dkX3_equal_20)))))))))
theorem dkX3_equal_36 : dl_L cX3_equal [(36, .if_icmp .eq 6, 3), (39, .bipush (-3), 2), (41, .ireturn, 1), (42, .iload_n 3, 1), (43, .ifCond .le 7, 3), (46, .aload_n 0, 1), (47, .invokevirtual 126, 3), (50, .iconst 0, 1), (51, .istore 4, 2), (53, .iconst 0, 1)] = true := by decide +kernel
theorem dX3_equal_36 : decode cX3_equal 36 = .ok (.if_icmp .eq 6, 3) := dl_h dkX3_equal_36
theorem dX3_equal_39 : decode cX3_equal 39 = .ok (.bipush (-3), 2) := dl_h (dl_t dkX3_equal_36)
theorem dX3_equal_41 : decode cX3_equal 41 = .ok (.ireturn, 1) := dl_h (dl_t (dl_t dkX3_equal_36))
theorem dX3_equal_42 : decode cX3_equal 42 = .ok (.iload_n 3, 1) := dl_h (dl_t (dl_t (dl_t dkX3_equal_36)))
theorem dX3_equal_43 : decode cX3_equal 43 = .ok (.ifCond .le 7, 3) := dl_h (dl_t (dl_t (dl_t (dl_t dkX3_equal_36))))
theorem dX3_equal_46 : decode cX3_equal 46 = .ok (.aload_n 0, 1) := dl_h (dl_t (dl_t (dl_t (dl_t (dl_t dkX3_equal_36)))))
theorem dX3_equal_47 : decode cX3_equal 47 = .ok (.invokevirtual 126, 3) := dl_h (dl_t (dl_t (dl_t (dl_t (dl_t (dl_t dkX3_equal_36))))))
theorem dX3_equal_50 : decode cX3_equal 50 = .ok (.iconst 0, 1) := dl_h (dl_t (dl_t (dl_t (dl_t (dl_t (dl_t (dl_t dkX3_equal_36)))))))
theorem dX3_equal_51 : decode cX3_equal 51 = .ok (.istore 4, 2) := dl_h (dl_t (dl_t (dl_t (dl_t (dl_t (dl_t (dl_t (dl_t dkX3_equal_36))))))))
theorem dX3_equal_53 : decode cX3_equal 53 = .ok (.iconst 0, 1) := dl_h (dl_t (dl_t (dl_t (dl_t (dl_t (dl_t (dl_t (dl_t (dl_t dkX3_equal_36)))))))))
theorem dkX3_equal_54 : dl_L cX3_equal [(54, .istore 5, 2), (56, .iload 5, 2), (58, .iload_n 3, 1), (59, .if_icmp .ge 73, 3), (62, .iload 4, 2), (64, .ifCond .ne 68, 3), (67, .aload_n 0, 1), (68, .aload_n 0, 1), (69, .getfield 11, 3), (72, .iload_n 1, 1)] = true := by decide +kernel
theorem dX3_equal_54 : decode cX3_equal 54 = .ok (.istore 5, 2) := dl_h dkX3_equal_54
theorem dX3_equal_56 : decode cX3_equal 56 = .ok (.iload 5, 2) := dl_h (dl_t dkX3_equal_54)
theorem dX3_equal_58 : decode cX3_equal 58 = .ok (.iload_n 3, 1) := dl_h (dl_t (dl_t dkX3_equal_54))
theorem dX3_equal_59 : decode cX3_equal 59 = .ok (.if_icmp .ge 73, 3) := dl_h (dl_t (dl_t (dl_t dkX3_equal_54)))
theorem dX3_equal_62 : decode cX3_equal 62 = .ok (.iload 4, 2) := dl_h (dl_t (dl_t (dl_t (dl_t dkX3_equal_54))))
theorem dX3_equal_64 : decode cX3_equal 64 = .ok (.ifCond .ne 68, 3) := dl_h (dl_t (dl_t (dl_t (dl_t (dl_t dkX3_equal_54)))))
theorem dX3_equal_67 : decode cX3_equal 67 = .ok (.aload_n 0, 1) := dl_h (dl_t (dl_t (dl_t (dl_t (dl_t (dl_t dkX3_equal_54))))))
theorem dX3_equal_68 : decode cX3_equal 68 = .ok (.aload_n 0, 1) := dl_h (dl_t (dl_t (dl_t (dl_t (dl_t (dl_t (dl_t dkX3_equal_54)))))))
theorem dX3_equal_69 : decode cX3_equal 69 = .ok (.getfield 11, 3) := dl_h (dl_t (dl_t (dl_t (dl_t (dl_t (dl_t (dl_t (dl_t dkX3_equal_54))))))))
theorem dX3_equal_72 : decode cX3_equal 72 = .ok (.iload_n 1, 1) := dl_h (dl_t (dl_t (dl_t (dl_t (dl_t (dl_t (dl_t (dl_t (dl_t dkX3_equal_54)))))))))
theorem dkX3_equal_73 : dl_L cX3_equal [(73, .aaload, 1), (74, .iload 5, 2), (76, .invokevirtual 129, 3), (79, .istore 6, 2), (81, .iload 6, 2), (83, .iconst (-1), 1), (84, .if_icmp .ne 7, 3), (87, .iconst (-1), 1), (88, .goto 15, 3), (91, .aload_n 0, 1)] = true := by decide +kernel
theorem dX3_equal_73 : decode cX3_equal 73 = .ok (.aaload, 1) := dl_h dkX3_equal_73
theorem dX3_equal_74 : decode cX3_equal 74 = .ok (.iload 5, 2) := dl_h (dl_t dkX3_equal_73)
theorem dX3_equal_76 : decode cX3_equal 76 = .ok (.invokevirtual 129, 3) := dl_h (dl_t (dl_t dkX3_equal_73))
theorem dX3_equal_79 : decode cX3_equal 79 = .ok (.istore 6, 2) := dl_h (dl_t (dl_t (dl_t dkX3_equal_73)))
theorem dX3_equal_81 : decode cX3_equal 81 = .ok (.iload 6, 2) := dl_h (dl_t (dl_t (dl_t (dl_t dkX3_equal_73))))
theorem dX3_equal_83 : decode cX3_equal 83 = .ok (.iconst (-1), 1) := dl_h (dl_t (dl_t (dl_t (dl_t (dl_t dkX3_equal_73)))))
theorem dX3_equal_84 : decode cX3_equal 84 = .ok (.if_icmp .ne 7, 3) := dl_h (dl_t (dl_t (dl_t (dl_t (dl_t (dl_t dkX3_equal_73))))))
theorem dX3_equal_87 : decode cX3_equal 87 = .ok (.iconst (-1), 1) := dl_h (dl_t (dl_t (dl_t (dl_t (dl_t (dl_t (dl_t dkX3_equal_73)))))))
theorem dX3_equal_88 : decode cX3_equal 88 = .ok (.goto 15, 3) := dl_h (dl_t (dl_t (dl_t (dl_t (dl_t (dl_t (dl_t (dl_t dkX3_equal_73))))))))
theorem dX3_equal_91 : decode cX3_equal 91 = .ok (.aload_n 0, 1) := dl_h (dl_t (dl_t (dl_t (dl_t (dl_t (dl_t (dl_t (dl_t (dl_t dkX3_equal_73)))))))))
theorem dkX3_equal_92 : dl_L cX3_equal [(92, .aload_n 0, 1), (93, .getfield 11, 3), (96, .iload_n 2, 1), (97, .aaload, 1), (98, .iload 5, 2), (100, .invokevirtual 129, 3), (103, .istore 7, 2), (105, .aload_n 0, 1), (106, .bipush 6, 2), (108, .iload 6, 2)] = true := by decide +kernel
theorem dX3_equal_92 : decode cX3_equal 92 = .ok (.aload_n 0, 1) := dl_h dkX3_equal_92
theorem dX3_equal_93 : decode cX3_equal 93 = .ok (.getfield 11, 3) := dl_h (dl_t dkX3_equal_92)
theorem dX3_equal_96 : decode cX3_equal 96 = .ok (.iload_n 2, 1) := dl_h (dl_t (dl_t dkX3_equal_92))
theorem dX3_equal_97 : decode cX3_equal 97 = .ok (.aaload, 1) := dl_h (dl_t (dl_t (dl_t dkX3_equal_92)))
theorem dX3_equal_98 : decode cX3_equal 98 = .ok (.iload 5, 2) := dl_h (dl_t (dl_t (dl_t (dl_t dkX3_equal_92))))
theorem dX3_equal_100 : decode cX3_equal 100 = .ok (.invokevirtual 129, 3) := dl_h (dl_t (dl_t (dl_t (dl_t (dl_t dkX3_equal_92)))))
theorem dX3_equal_103 : decode cX3_equal 103 = .ok (.istore 7, 2) := dl_h (dl_t (dl_t (dl_t (dl_t (dl_t (dl_t dkX3_equal_92))))))
theorem dX3_equal_105 : decode cX3_equal 105 = .ok (.aload_n 0, 1) := dl_h (dl_t (dl_t (dl_t (dl_t (dl_t (dl_t (dl_t dkX3_equal_92)))))))
theorem dX3_equal_106 : decode cX3_equal 106 = .ok (.bipush 6, 2) := dl_h (dl_t (dl_t (dl_t (dl_t (dl_t (dl_t (dl_t (dl_t dkX3_equal_92))))))))
theorem dX3_equal_108 : decode cX3_equal 108 = .ok (.iload 6, 2) := dl_h (dl_t (dl_t (dl_t (dl_t (dl_t (dl_t (dl_t (dl_t (dl_t dkX3_equal_92)))))))))
theorem dkX3_equal_110 : dl_L cX3_equal [(110, .iload 7, 2), (112, .iconst 0, 1), (113, .invokevirtual 142, 3), (116, .istore 4, 2), (118, .aload_n 0, 1), (119, .iload 5, 2), (121, .iload 4, 2), (123, .invokevirtual 184, 3), (126, .iinc 5 1, 3), (129, .goto (-73), 3)] = true := by decide +kernel
theorem dX3_equal_110 : decode cX3_equal 110 = .ok (.iload 7, 2) := dl_h dkX3_equal_110
theorem dX3_equal_112 : decode cX3_equal 112 = .ok (.iconst 0, 1) := dl_h (dl_t dkX3_equal_110)
theorem dX3_equal_113 : decode cX3_equal 113 = .ok (.invokevirtual 142, 3) := dl_h (dl_t (dl_t dkX3_equal_110))
theorem dX3_equal_116 : decode cX3_equal 116 = .ok (.istore 4, 2) := dl_h (dl_t (dl_t (dl_t dkX3_equal_110)))
theorem dX3_equal_118 : decode cX3_equal 118 = .ok (.aload_n 0, 1) := dl_h (dl_t (dl_t (dl_t (dl_t dkX3_equal_110))))
theorem dX3_equal_119 : decode cX3_equal 119 = .ok (.iload 5, 2) := dl_h (dl_t (dl_t (dl_t (dl_t (dl_t dkX3_equal_110)))))
theorem dX3_equal_121 : decode cX3_equal 121 = .ok (.iload 4, 2) := dl_h (dl_t (dl_t (dl_t (dl_t (dl_t (dl_t dkX3_equal_110))))))
theorem dX3_equal_123 : decode cX3_equal 123 = .ok (.invokevirtual 184, 3) := dl_h (dl_t (dl_t (dl_t (dl_t (dl_t (dl_t (dl_t dkX3_equal_110)))))))
theorem dX3_equal_126 : decode cX3_equal 126 = .ok (.iinc 5 1, 3) := dl_h (dl_t (dl_t (dl_t (dl_t (dl_t (dl_t (dl_t (dl_t dkX3_equal_110))))))))
theorem dX3_equal_129 : decode cX3_equal 129 = .ok (.goto (-73), 3) := dl_h (dl_t (dl_t (dl_t (dl_t (dl_t (dl_t (dl_t (dl_t (dl_t dkX3_equal_110)))))))))
theorem dkX3_equal_132 : dl_L cX3_equal [(132, .aload_n 0, 1), (133, .invokevirtual 188, 3), (136, .iload 4, 2), (138, .iconst (-1), 1), (139, .if_icmp .ne 8, 3), (142, .bipush (-5), 2), (144, .goto 13, 3), (147, .iload 4, 2), (149, .ifCond .ne 7, 3), (152, .iconst 1, 1)] = true := by decide +kernel
theorem dX3_equal_132 : decode cX3_equal 132 = .ok (.aload_n 0, 1) := dl_h dkX3_equal_132
theorem dX3_equal_133 : decode cX3_equal 133 = .ok (.invokevirtual 188, 3) := dl_h (dl_t dkX3_equal_132)
theorem dX3_equal_136 : decode cX3_equal 136 = .ok (.iload 4, 2) := dl_h (dl_t (dl_t dkX3_equal_132))
theorem dX3_equal_138 : decode cX3_equal 138 = .ok (.iconst (-1), 1) := dl_h (dl_t (dl_t (dl_t dkX3_equal_132)))
theorem dX3_equal_139 : decode cX3_equal 139 = .ok (.if_icmp .ne 8, 3) := dl_h (dl_t (dl_t (dl_t (dl_t dkX3_equal_132))))
theorem dX3_equal_142 : decode cX3_equal 142 = .ok (.bipush (-5), 2) := dl_h (dl_t (dl_t (dl_t (dl_t (dl_t dkX3_equal_132)))))
theorem dX3_equal_144 : decode cX3_equal 144 = .ok (.goto 13, 3) := dl_h (dl_t (dl_t (dl_t (dl_t (dl_t (dl_t dkX3_equal_132))))))
theorem dX3_equal_147 : decode cX3_equal 147 = .ok (.iload 4, 2) := dl_h (dl_t (dl_t (dl_t (dl_t (dl_t (dl_t (dl_t dkX3_equal_132)))))))
theorem dX3_equal_149 : decode cX3_equal 149 = .ok (.ifCond .ne 7, 3) := dl_h (dl_t (dl_t (dl_t (dl_t (dl_t (dl_t (dl_t (dl_t dkX3_equal_132))))))))
theorem dX3_equal_152 : decode cX3_equal 152 = .ok (.iconst 1, 1) := dl_h (dl_t (dl_t (dl_t (dl_t (dl_t (dl_t (dl_t (dl_t (dl_t dkX3_equal_132)))))))))
theorem dkX3_equal_153 : dl_L cX3_equal [(153, .goto 4, 3), (156, .iconst 0, 1), (157, .ireturn, 1)] = true := by decide +kernel
theorem dX3_equal_153 : decode cX3_equal 153 = .ok (.goto 4, 3) := dl_h dkX3_equal_153
theorem dX3_equal_156 : decode cX3_equal 156 = .ok (.iconst 0, 1) := dl_h (dl_t dkX3_equal_153)
theorem dX3_equal_157 : decode cX3_equal 157 = .ok (.ireturn, 1) := dl_h (dl_t (dl_t dkX3_equal_153))
theorem dkX3_parting_0 : dl_L cX3_parting [(0, .iload_n 1, 1), (1, .ifCond .lt 8, 3), (4, .iload_n 1, 1), (5, .iconst 1, 1), (6, .if_icmp .le 6, 3), (9, .bipush (-2), 2), (11, .ireturn, 1), (12, .iload_n 1, 1), (13, .ifCond .ne 10, 3), (16, .aload_n 0, 1)] = true := by decide +kernel
theorem dX3_parting_0 : decode cX3_parting 0 = .ok (.iload_n 1, 1) := dl_h dkX3_parting_0
theorem dX3_parting_1 : decode cX3_parting 1 = .ok (.ifCond .lt 8, 3) := dl_h (dl_t dkX3_parting_0)
theorem dX3_parting_4 : decode cX3_parting 4 = .ok (.iload_n 1, 1) := dl_h (dl_t (dl_t dkX3_parting_0))
theorem dX3_parting_5 : decode cX3_parting 5 = .ok (.iconst 1, 1) := dl_h (dl_t (dl_t (dl_t dkX3_parting_0)))
theorem dX3_parting_6 : decode cX3_parting 6 = .ok (.if_icmp .le 6, 3) := dl_h (dl_t (dl_t (dl_t (dl_t dkX3_parting_0))))
theorem dX3_parting_9 : decode cX3_parting 9 = .ok (.bipush (-2), 2) := dl_h (dl_t (dl_t (dl_t (dl_t (dl_t dkX3_parting_0)))))
theorem dX3_parting_11 : decode cX3_parting 11 = .ok (.ireturn, 1) := dl_h (dl_t (dl_t (dl_t (dl_t (dl_t (dl_t dkX3_parting_0))))))
theorem dX3_parting_12 : decode cX3_parting 12 = .ok (.iload_n 1, 1) := dl_h (dl_t (dl_t (dl_t (dl_t (dl_t (dl_t (dl_t dkX3_parting_0)))))))
theorem dX3_parting_13 : decode cX3_parting 13 = .ok (.ifCond .ne 10, 3) := dl_h (dl_t (dl_t (dl_t (dl_t (dl_t (dl_t (dl_t (dl_t dkX3_parting_0))))))))
theorem dX3_parting_16 : decode cX3_parting 16 = .ok (.aload_n 0, 1) := dl_h (dl_t (dl_t (dl_t (dl_t (dl_t (dl_t (dl_t (dl_t (dl_t dkX3_parting_0)))))))))
theorem dkX3_parting_17 : dl_L cX3_parting [(17, .getfield 49, 3), (20, .goto 7, 3), (23, .aload_n 0, 1), (24, .getfield 52, 3), (27, .ireturn, 1)] = true := by decide +kernel
theorem dX3_parting_17 : decode cX3_parting 17 = .ok (.getfield 49, 3) := dl_h dkX3_parting_17
theorem dX3_parting_20 : decode cX3_parting 20 = .ok (.goto 7, 3) := dl_h (dl_t dkX3_parting_17)
theorem dX3_parting_23 : decode cX3_parting 23 = .ok (.aload_n 0, 1) := dl_h (dl_t (dl_t dkX3_parting_17))
theorem dX3_parting_24 : decode cX3_parting 24 = .ok (.getfield 52, 3) := dl_h (dl_t (dl_t (dl_t dkX3_parting_17)))
theorem dX3_parting_27 : decode cX3_parting 27 = .ok (.ireturn, 1) := dl_h (dl_t (dl_t (dl_t (dl_t dkX3_parting_17))))
theorem dkX3_told_0 : dl_L cX3_told [(0, .iload_n 1, 1), (1, .ifCond .lt 9, 3), (4, .iload_n 1, 1), (5, .bipush 7, 2), (7, .if_icmp .le 6, 3), (10, .bipush (-2), 2), (12, .ireturn, 1), (13, .iload_n 1, 1), (14, .iconst 3, 1), (15, .if_icmp .ge 13, 3)] = true := by decide +kernel
theorem dX3_told_0 : decode cX3_told 0 = .ok (.iload_n 1, 1) := dl_h dkX3_told_0
theorem dX3_told_1 : decode cX3_told 1 = .ok (.ifCond .lt 9, 3) := dl_h (dl_t dkX3_told_0)
theorem dX3_told_4 : decode cX3_told 4 = .ok (.iload_n 1, 1) := dl_h (dl_t (dl_t dkX3_told_0))
theorem dX3_told_5 : decode cX3_told 5 = .ok (.bipush 7, 2) := dl_h (dl_t (dl_t (dl_t dkX3_told_0)))
theorem dX3_told_7 : decode cX3_told 7 = .ok (.if_icmp .le 6, 3) := dl_h (dl_t (dl_t (dl_t (dl_t dkX3_told_0))))
theorem dX3_told_10 : decode cX3_told 10 = .ok (.bipush (-2), 2) := dl_h (dl_t (dl_t (dl_t (dl_t (dl_t dkX3_told_0)))))
theorem dX3_told_12 : decode cX3_told 12 = .ok (.ireturn, 1) := dl_h (dl_t (dl_t (dl_t (dl_t (dl_t (dl_t dkX3_told_0))))))
theorem dX3_told_13 : decode cX3_told 13 = .ok (.iload_n 1, 1) := dl_h (dl_t (dl_t (dl_t (dl_t (dl_t (dl_t (dl_t dkX3_told_0)))))))
theorem dX3_told_14 : decode cX3_told 14 = .ok (.iconst 3, 1) := dl_h (dl_t (dl_t (dl_t (dl_t (dl_t (dl_t (dl_t (dl_t dkX3_told_0))))))))
theorem dX3_told_15 : decode cX3_told 15 = .ok (.if_icmp .ge 13, 3) := dl_h (dl_t (dl_t (dl_t (dl_t (dl_t (dl_t (dl_t (dl_t (dl_t dkX3_told_0)))))))))
theorem dkX3_told_18 : dl_L cX3_told [(18, .aload_n 0, 1), (19, .getfield 11, 3), (22, .iload_n 1, 1), (23, .aaload, 1), (24, .invokevirtual 191, 3), (27, .ireturn, 1), (28, .iload_n 1, 1), (29, .bipush 6, 2), (31, .if_icmp .ge 15, 3), (34, .aload_n 0, 1)] = true := by decide +kernel
theorem dX3_told_18 : decode cX3_told 18 = .ok (.aload_n 0, 1) := dl_h dkX3_told_18
theorem dX3_told_19 : decode cX3_told 19 = .ok (.getfield 11, 3) := dl_h (dl_t dkX3_told_18)
theorem dX3_told_22 : decode cX3_told 22 = .ok (.iload_n 1, 1) := dl_h (dl_t (dl_t dkX3_told_18))
theorem dX3_told_23 : decode cX3_told 23 = .ok (.aaload, 1) := dl_h (dl_t (dl_t (dl_t dkX3_told_18)))
theorem dX3_told_24 : decode cX3_told 24 = .ok (.invokevirtual 191, 3) := dl_h (dl_t (dl_t (dl_t (dl_t dkX3_told_18))))
theorem dX3_told_27 : decode cX3_told 27 = .ok (.ireturn, 1) := dl_h (dl_t (dl_t (dl_t (dl_t (dl_t dkX3_told_18)))))
theorem dX3_told_28 : decode cX3_told 28 = .ok (.iload_n 1, 1) := dl_h (dl_t (dl_t (dl_t (dl_t (dl_t (dl_t dkX3_told_18))))))
theorem dX3_told_29 : decode cX3_told 29 = .ok (.bipush 6, 2) := dl_h (dl_t (dl_t (dl_t (dl_t (dl_t (dl_t (dl_t dkX3_told_18)))))))
theorem dX3_told_31 : decode cX3_told 31 = .ok (.if_icmp .ge 15, 3) := dl_h (dl_t (dl_t (dl_t (dl_t (dl_t (dl_t (dl_t (dl_t dkX3_told_18))))))))
theorem dX3_told_34 : decode cX3_told 34 = .ok (.aload_n 0, 1) := dl_h (dl_t (dl_t (dl_t (dl_t (dl_t (dl_t (dl_t (dl_t (dl_t dkX3_told_18)))))))))
theorem dkX3_told_35 : dl_L cX3_told [(35, .getfield 11, 3), (38, .iload_n 1, 1), (39, .iconst 3, 1), (40, .isub, 1), (41, .aaload, 1), (42, .invokevirtual 181, 3), (45, .ireturn, 1), (46, .iload_n 1, 1), (47, .bipush 6, 2), (49, .if_icmp .ne 10, 3)] = true := by decide +kernel
theorem dX3_told_35 : decode cX3_told 35 = .ok (.getfield 11, 3) := dl_h dkX3_told_35
theorem dX3_told_38 : decode cX3_told 38 = .ok (.iload_n 1, 1) := dl_h (dl_t dkX3_told_35)
theorem dX3_told_39 : decode cX3_told 39 = .ok (.iconst 3, 1) := dl_h (dl_t (dl_t dkX3_told_35))
theorem dX3_told_40 : decode cX3_told 40 = .ok (.isub, 1) := dl_h (dl_t (dl_t (dl_t dkX3_told_35)))
theorem dX3_told_41 : decode cX3_told 41 = .ok (.aaload, 1) := dl_h (dl_t (dl_t (dl_t (dl_t dkX3_told_35))))
theorem dX3_told_42 : decode cX3_told 42 = .ok (.invokevirtual 181, 3) := dl_h (dl_t (dl_t (dl_t (dl_t (dl_t dkX3_told_35)))))
theorem dX3_told_45 : decode cX3_told 45 = .ok (.ireturn, 1) := dl_h (dl_t (dl_t (dl_t (dl_t (dl_t (dl_t dkX3_told_35))))))
theorem dX3_told_46 : decode cX3_told 46 = .ok (.iload_n 1, 1) := dl_h (dl_t (dl_t (dl_t (dl_t (dl_t (dl_t (dl_t dkX3_told_35)))))))
theorem dX3_told_47 : decode cX3_told 47 = .ok (.bipush 6, 2) := dl_h (dl_t (dl_t (dl_t (dl_t (dl_t (dl_t (dl_t (dl_t dkX3_told_35))))))))
theorem dX3_told_49 : decode cX3_told 49 = .ok (.if_icmp .ne 10, 3) := dl_h (dl_t (dl_t (dl_t (dl_t (dl_t (dl_t (dl_t (dl_t (dl_t dkX3_told_35)))))))))
theorem dkX3_told_52 : dl_L cX3_told [(52, .aload_n 0, 1), (53, .invokevirtual 98, 3), (56, .goto 10, 3), (59, .aload_n 0, 1), (60, .getfield 25, 3), (63, .invokevirtual 194, 3), (66, .ireturn, 1)] = true := by decide +kernel
theorem dX3_told_52 : decode cX3_told 52 = .ok (.aload_n 0, 1) := dl_h dkX3_told_52
theorem dX3_told_53 : decode cX3_told 53 = .ok (.invokevirtual 98, 3) := dl_h (dl_t dkX3_told_52)
theorem dX3_told_56 : decode cX3_told 56 = .ok (.goto 10, 3) := dl_h (dl_t (dl_t dkX3_told_52))
theorem dX3_told_59 : decode cX3_told 59 = .ok (.aload_n 0, 1) := dl_h (dl_t (dl_t (dl_t dkX3_told_52)))
theorem dX3_told_60 : decode cX3_told 60 = .ok (.getfield 25, 3) := dl_h (dl_t (dl_t (dl_t (dl_t dkX3_told_52))))
theorem dX3_told_63 : decode cX3_told 63 = .ok (.invokevirtual 194, 3) := dl_h (dl_t (dl_t (dl_t (dl_t (dl_t dkX3_told_52)))))
theorem dX3_told_66 : decode cX3_told 66 = .ok (.ireturn, 1) := dl_h (dl_t (dl_t (dl_t (dl_t (dl_t (dl_t dkX3_told_52))))))
theorem dkX3_isNet_0 : dl_L cX3_isNet [(0, .iload_n 0, 1), (1, .ifCond .lt 12, 3), (4, .iload_n 0, 1), (5, .iconst 3, 1), (6, .if_icmp .ge 7, 3), (9, .iconst 1, 1), (10, .goto 4, 3), (13, .iconst 0, 1), (14, .ireturn, 1)] = true := by decide +kernel
theorem dX3_isNet_0 : decode cX3_isNet 0 = .ok (.iload_n 0, 1) := dl_h dkX3_isNet_0
theorem dX3_isNet_1 : decode cX3_isNet 1 = .ok (.ifCond .lt 12, 3) := dl_h (dl_t dkX3_isNet_0)
theorem dX3_isNet_4 : decode cX3_isNet 4 = .ok (.iload_n 0, 1) := dl_h (dl_t (dl_t dkX3_isNet_0))
theorem dX3_isNet_5 : decode cX3_isNet 5 = .ok (.iconst 3, 1) := dl_h (dl_t (dl_t (dl_t dkX3_isNet_0)))
theorem dX3_isNet_6 : decode cX3_isNet 6 = .ok (.if_icmp .ge 7, 3) := dl_h (dl_t (dl_t (dl_t (dl_t dkX3_isNet_0))))
theorem dX3_isNet_9 : decode cX3_isNet 9 = .ok (.iconst 1, 1) := dl_h (dl_t (dl_t (dl_t (dl_t (dl_t dkX3_isNet_0)))))
theorem dX3_isNet_10 : decode cX3_isNet 10 = .ok (.goto 4, 3) := dl_h (dl_t (dl_t (dl_t (dl_t (dl_t (dl_t dkX3_isNet_0))))))
theorem dX3_isNet_13 : decode cX3_isNet 13 = .ok (.iconst 0, 1) := dl_h (dl_t (dl_t (dl_t (dl_t (dl_t (dl_t (dl_t dkX3_isNet_0)))))))
theorem dX3_isNet_14 : decode cX3_isNet 14 = .ok (.ireturn, 1) := dl_h (dl_t (dl_t (dl_t (dl_t (dl_t (dl_t (dl_t (dl_t dkX3_isNet_0))))))))
theorem dkX3_isVariable_0 : dl_L cX3_isVariable [(0, .iload_n 0, 1), (1, .ifCond .lt 13, 3), (4, .iload_n 0, 1), (5, .bipush 8, 2), (7, .if_icmp .ge 7, 3), (10, .iconst 1, 1), (11, .goto 4, 3), (14, .iconst 0, 1), (15, .ireturn, 1)] = true := by decide +kernel
theorem dX3_isVariable_0 : decode cX3_isVariable 0 = .ok (.iload_n 0, 1) := dl_h dkX3_isVariable_0
theorem dX3_isVariable_1 : decode cX3_isVariable 1 = .ok (.ifCond .lt 13, 3) := dl_h (dl_t dkX3_isVariable_0)
theorem dX3_isVariable_4 : decode cX3_isVariable 4 = .ok (.iload_n 0, 1) := dl_h (dl_t (dl_t dkX3_isVariable_0))
theorem dX3_isVariable_5 : decode cX3_isVariable 5 = .ok (.bipush 8, 2) := dl_h (dl_t (dl_t (dl_t dkX3_isVariable_0)))
theorem dX3_isVariable_7 : decode cX3_isVariable 7 = .ok (.if_icmp .ge 7, 3) := dl_h (dl_t (dl_t (dl_t (dl_t dkX3_isVariable_0))))
theorem dX3_isVariable_10 : decode cX3_isVariable 10 = .ok (.iconst 1, 1) := dl_h (dl_t (dl_t (dl_t (dl_t (dl_t dkX3_isVariable_0)))))
theorem dX3_isVariable_11 : decode cX3_isVariable 11 = .ok (.goto 4, 3) := dl_h (dl_t (dl_t (dl_t (dl_t (dl_t (dl_t dkX3_isVariable_0))))))
theorem dX3_isVariable_14 : decode cX3_isVariable 14 = .ok (.iconst 0, 1) := dl_h (dl_t (dl_t (dl_t (dl_t (dl_t (dl_t (dl_t dkX3_isVariable_0)))))))
theorem dX3_isVariable_15 : decode cX3_isVariable 15 = .ok (.ireturn, 1) := dl_h (dl_t (dl_t (dl_t (dl_t (dl_t (dl_t (dl_t (dl_t dkX3_isVariable_0))))))))
theorem dkX3_isAssignment_0 : dl_L cX3_isAssignment [(0, .iload_n 0, 1), (1, .ifCond .lt 14, 3), (4, .iload_n 0, 1), (5, .sipush 256, 3), (8, .if_icmp .ge 7, 3), (11, .iconst 1, 1), (12, .goto 4, 3), (15, .iconst 0, 1), (16, .ireturn, 1)] = true := by decide +kernel
theorem dX3_isAssignment_0 : decode cX3_isAssignment 0 = .ok (.iload_n 0, 1) := dl_h dkX3_isAssignment_0
theorem dX3_isAssignment_1 : decode cX3_isAssignment 1 = .ok (.ifCond .lt 14, 3) := dl_h (dl_t dkX3_isAssignment_0)
theorem dX3_isAssignment_4 : decode cX3_isAssignment 4 = .ok (.iload_n 0, 1) := dl_h (dl_t (dl_t dkX3_isAssignment_0))
theorem dX3_isAssignment_5 : decode cX3_isAssignment 5 = .ok (.sipush 256, 3) := dl_h (dl_t (dl_t (dl_t dkX3_isAssignment_0)))
theorem dX3_isAssignment_8 : decode cX3_isAssignment 8 = .ok (.if_icmp .ge 7, 3) := dl_h (dl_t (dl_t (dl_t (dl_t dkX3_isAssignment_0))))
theorem dX3_isAssignment_11 : decode cX3_isAssignment 11 = .ok (.iconst 1, 1) := dl_h (dl_t (dl_t (dl_t (dl_t (dl_t dkX3_isAssignment_0)))))
theorem dX3_isAssignment_12 : decode cX3_isAssignment 12 = .ok (.goto 4, 3) := dl_h (dl_t (dl_t (dl_t (dl_t (dl_t (dl_t dkX3_isAssignment_0))))))
theorem dX3_isAssignment_15 : decode cX3_isAssignment 15 = .ok (.iconst 0, 1) := dl_h (dl_t (dl_t (dl_t (dl_t (dl_t (dl_t (dl_t dkX3_isAssignment_0)))))))
theorem dX3_isAssignment_16 : decode cX3_isAssignment 16 = .ok (.ireturn, 1) := dl_h (dl_t (dl_t (dl_t (dl_t (dl_t (dl_t (dl_t (dl_t dkX3_isAssignment_0))))))))
theorem dkX3_isHandle_0 : dl_L cX3_isHandle [(0, .iload_n 0, 1), (1, .ifCond .lt 13, 3), (4, .iload_n 0, 1), (5, .bipush 12, 2), (7, .if_icmp .ge 7, 3), (10, .iconst 1, 1), (11, .goto 4, 3), (14, .iconst 0, 1), (15, .ireturn, 1)] = true := by decide +kernel
theorem dX3_isHandle_0 : decode cX3_isHandle 0 = .ok (.iload_n 0, 1) := dl_h dkX3_isHandle_0
theorem dX3_isHandle_1 : decode cX3_isHandle 1 = .ok (.ifCond .lt 13, 3) := dl_h (dl_t dkX3_isHandle_0)
theorem dX3_isHandle_4 : decode cX3_isHandle 4 = .ok (.iload_n 0, 1) := dl_h (dl_t (dl_t dkX3_isHandle_0))
theorem dX3_isHandle_5 : decode cX3_isHandle 5 = .ok (.bipush 12, 2) := dl_h (dl_t (dl_t (dl_t dkX3_isHandle_0)))
theorem dX3_isHandle_7 : decode cX3_isHandle 7 = .ok (.if_icmp .ge 7, 3) := dl_h (dl_t (dl_t (dl_t (dl_t dkX3_isHandle_0))))
theorem dX3_isHandle_10 : decode cX3_isHandle 10 = .ok (.iconst 1, 1) := dl_h (dl_t (dl_t (dl_t (dl_t (dl_t dkX3_isHandle_0)))))
theorem dX3_isHandle_11 : decode cX3_isHandle 11 = .ok (.goto 4, 3) := dl_h (dl_t (dl_t (dl_t (dl_t (dl_t (dl_t dkX3_isHandle_0))))))
theorem dX3_isHandle_14 : decode cX3_isHandle 14 = .ok (.iconst 0, 1) := dl_h (dl_t (dl_t (dl_t (dl_t (dl_t (dl_t (dl_t dkX3_isHandle_0)))))))
theorem dX3_isHandle_15 : decode cX3_isHandle 15 = .ok (.ireturn, 1) := dl_h (dl_t (dl_t (dl_t (dl_t (dl_t (dl_t (dl_t (dl_t dkX3_isHandle_0))))))))
theorem dkX3_hasFunction_0 : dl_L cX3_hasFunction [(0, .iload_n 1, 1), (1, .invokestatic 123, 3), (4, .ifCond .eq 17, 3), (7, .aload_n 0, 1), (8, .getfield 29, 3), (11, .iload_n 1, 1), (12, .iaload, 1), (13, .iconst (-1), 1), (14, .if_icmp .eq 7, 3), (17, .iconst 1, 1)] = true := by decide +kernel
theorem dX3_hasFunction_0 : decode cX3_hasFunction 0 = .ok (.iload_n 1, 1) := dl_h dkX3_hasFunction_0
theorem dX3_hasFunction_1 : decode cX3_hasFunction 1 = .ok (.invokestatic 123, 3) := dl_h (dl_t dkX3_hasFunction_0)
theorem dX3_hasFunction_4 : decode cX3_hasFunction 4 = .ok (.ifCond .eq 17, 3) := dl_h (dl_t (dl_t dkX3_hasFunction_0))
theorem dX3_hasFunction_7 : decode cX3_hasFunction 7 = .ok (.aload_n 0, 1) := dl_h (dl_t (dl_t (dl_t dkX3_hasFunction_0)))
theorem dX3_hasFunction_8 : decode cX3_hasFunction 8 = .ok (.getfield 29, 3) := dl_h (dl_t (dl_t (dl_t (dl_t dkX3_hasFunction_0))))
theorem dX3_hasFunction_11 : decode cX3_hasFunction 11 = .ok (.iload_n 1, 1) := dl_h (dl_t (dl_t (dl_t (dl_t (dl_t dkX3_hasFunction_0)))))
theorem dX3_hasFunction_12 : decode cX3_hasFunction 12 = .ok (.iaload, 1) := dl_h (dl_t (dl_t (dl_t (dl_t (dl_t (dl_t dkX3_hasFunction_0))))))
theorem dX3_hasFunction_13 : decode cX3_hasFunction 13 = .ok (.iconst (-1), 1) := dl_h (dl_t (dl_t (dl_t (dl_t (dl_t (dl_t (dl_t dkX3_hasFunction_0)))))))
theorem dX3_hasFunction_14 : decode cX3_hasFunction 14 = .ok (.if_icmp .eq 7, 3) := dl_h (dl_t (dl_t (dl_t (dl_t (dl_t (dl_t (dl_t (dl_t dkX3_hasFunction_0))))))))
theorem dX3_hasFunction_17 : decode cX3_hasFunction 17 = .ok (.iconst 1, 1) := dl_h (dl_t (dl_t (dl_t (dl_t (dl_t (dl_t (dl_t (dl_t (dl_t dkX3_hasFunction_0)))))))))
theorem dkX3_hasFunction_18 : dl_L cX3_hasFunction [(18, .goto 4, 3), (21, .iconst 0, 1), (22, .ireturn, 1)] = true := by decide +kernel
theorem dX3_hasFunction_18 : decode cX3_hasFunction 18 = .ok (.goto 4, 3) := dl_h dkX3_hasFunction_18
theorem dX3_hasFunction_21 : decode cX3_hasFunction 21 = .ok (.iconst 0, 1) := dl_h (dl_t dkX3_hasFunction_18)
theorem dX3_hasFunction_22 : decode cX3_hasFunction 22 = .ok (.ireturn, 1) := dl_h (dl_t (dl_t dkX3_hasFunction_18))
theorem dkX3_heldCount_0 : dl_L cX3_heldCount [(0, .iconst 0, 1), (1, .istore_n 1, 1), (2, .iconst 0, 1), (3, .istore_n 2, 1), (4, .iload_n 2, 1), (5, .bipush 12, 2), (7, .if_icmp .ge 22, 3), (10, .aload_n 0, 1), (11, .getfield 29, 3), (14, .iload_n 2, 1)] = true := by decide +kernel
theorem dX3_heldCount_0 : decode cX3_heldCount 0 = .ok (.iconst 0, 1) := dl_h dkX3_heldCount_0
theorem dX3_heldCount_1 : decode cX3_heldCount 1 = .ok (.istore_n 1, 1) := dl_h (dl_t dkX3_heldCount_0)
theorem dX3_heldCount_2 : decode cX3_heldCount 2 = .ok (.iconst 0, 1) := dl_h (dl_t (dl_t dkX3_heldCount_0))
theorem dX3_heldCount_3 : decode cX3_heldCount 3 = .ok (.istore_n 2, 1) := dl_h (dl_t (dl_t (dl_t dkX3_heldCount_0)))
theorem dX3_heldCount_4 : decode cX3_heldCount 4 = .ok (.iload_n 2, 1) := dl_h (dl_t (dl_t (dl_t (dl_t dkX3_heldCount_0))))
theorem dX3_heldCount_5 : decode cX3_heldCount 5 = .ok (.bipush 12, 2) := dl_h (dl_t (dl_t (dl_t (dl_t (dl_t dkX3_heldCount_0)))))
theorem dX3_heldCount_7 : decode cX3_heldCount 7 = .ok (.if_icmp .ge 22, 3) := dl_h (dl_t (dl_t (dl_t (dl_t (dl_t (dl_t dkX3_heldCount_0))))))
theorem dX3_heldCount_10 : decode cX3_heldCount 10 = .ok (.aload_n 0, 1) := dl_h (dl_t (dl_t (dl_t (dl_t (dl_t (dl_t (dl_t dkX3_heldCount_0)))))))
theorem dX3_heldCount_11 : decode cX3_heldCount 11 = .ok (.getfield 29, 3) := dl_h (dl_t (dl_t (dl_t (dl_t (dl_t (dl_t (dl_t (dl_t dkX3_heldCount_0))))))))
theorem dX3_heldCount_14 : decode cX3_heldCount 14 = .ok (.iload_n 2, 1) := dl_h (dl_t (dl_t (dl_t (dl_t (dl_t (dl_t (dl_t (dl_t (dl_t dkX3_heldCount_0)))))))))
theorem dkX3_heldCount_15 : dl_L cX3_heldCount [(15, .iaload, 1), (16, .iconst (-1), 1), (17, .if_icmp .eq 6, 3), (20, .iinc 1 1, 3), (23, .iinc 2 1, 3), (26, .goto (-22), 3), (29, .iload_n 1, 1), (30, .ireturn, 1)] = true := by decide +kernel
theorem dX3_heldCount_15 : decode cX3_heldCount 15 = .ok (.iaload, 1) := dl_h dkX3_heldCount_15
theorem dX3_heldCount_16 : decode cX3_heldCount 16 = .ok (.iconst (-1), 1) := dl_h (dl_t dkX3_heldCount_15)
theorem dX3_heldCount_17 : decode cX3_heldCount 17 = .ok (.if_icmp .eq 6, 3) := dl_h (dl_t (dl_t dkX3_heldCount_15))
theorem dX3_heldCount_20 : decode cX3_heldCount 20 = .ok (.iinc 1 1, 3) := dl_h (dl_t (dl_t (dl_t dkX3_heldCount_15)))
theorem dX3_heldCount_23 : decode cX3_heldCount 23 = .ok (.iinc 2 1, 3) := dl_h (dl_t (dl_t (dl_t (dl_t dkX3_heldCount_15))))
theorem dX3_heldCount_26 : decode cX3_heldCount 26 = .ok (.goto (-22), 3) := dl_h (dl_t (dl_t (dl_t (dl_t (dl_t dkX3_heldCount_15)))))
theorem dX3_heldCount_29 : decode cX3_heldCount 29 = .ok (.iload_n 1, 1) := dl_h (dl_t (dl_t (dl_t (dl_t (dl_t (dl_t dkX3_heldCount_15))))))
theorem dX3_heldCount_30 : decode cX3_heldCount 30 = .ok (.ireturn, 1) := dl_h (dl_t (dl_t (dl_t (dl_t (dl_t (dl_t (dl_t dkX3_heldCount_15)))))))
theorem dkX3_beginSteps_0 : dl_L cX3_beginSteps [(0, .aload_n 0, 1), (1, .iconst 0, 1), (2, .putfield 46, 3), (5, .return_, 1)] = true := by decide +kernel
theorem dX3_beginSteps_0 : decode cX3_beginSteps 0 = .ok (.aload_n 0, 1) := dl_h dkX3_beginSteps_0
theorem dX3_beginSteps_1 : decode cX3_beginSteps 1 = .ok (.iconst 0, 1) := dl_h (dl_t dkX3_beginSteps_0)
theorem dX3_beginSteps_2 : decode cX3_beginSteps 2 = .ok (.putfield 46, 3) := dl_h (dl_t (dl_t dkX3_beginSteps_0))
theorem dX3_beginSteps_5 : decode cX3_beginSteps 5 = .ok (.return_, 1) := dl_h (dl_t (dl_t (dl_t dkX3_beginSteps_0)))
theorem dkX3_endSteps_0 : dl_L cX3_endSteps [(0, .aload_n 0, 1), (1, .iconst 0, 1), (2, .putfield 42, 3), (5, .aload_n 0, 1), (6, .getfield 33, 3), (9, .iconst (-1), 1), (10, .invokestatic 56, 3), (13, .return_, 1)] = true := by decide +kernel
theorem dX3_endSteps_0 : decode cX3_endSteps 0 = .ok (.aload_n 0, 1) := dl_h dkX3_endSteps_0
theorem dX3_endSteps_1 : decode cX3_endSteps 1 = .ok (.iconst 0, 1) := dl_h (dl_t dkX3_endSteps_0)
theorem dX3_endSteps_2 : decode cX3_endSteps 2 = .ok (.putfield 42, 3) := dl_h (dl_t (dl_t dkX3_endSteps_0))
theorem dX3_endSteps_5 : decode cX3_endSteps 5 = .ok (.aload_n 0, 1) := dl_h (dl_t (dl_t (dl_t dkX3_endSteps_0)))
theorem dX3_endSteps_6 : decode cX3_endSteps 6 = .ok (.getfield 33, 3) := dl_h (dl_t (dl_t (dl_t (dl_t dkX3_endSteps_0))))
theorem dX3_endSteps_9 : decode cX3_endSteps 9 = .ok (.iconst (-1), 1) := dl_h (dl_t (dl_t (dl_t (dl_t (dl_t dkX3_endSteps_0)))))
theorem dX3_endSteps_10 : decode cX3_endSteps 10 = .ok (.invokestatic 56, 3) := dl_h (dl_t (dl_t (dl_t (dl_t (dl_t (dl_t dkX3_endSteps_0))))))
theorem dX3_endSteps_13 : decode cX3_endSteps 13 = .ok (.return_, 1) := dl_h (dl_t (dl_t (dl_t (dl_t (dl_t (dl_t (dl_t dkX3_endSteps_0)))))))
theorem dkX3_give_0 : dl_L cX3_give [(0, .aload_n 0, 1), (1, .invokevirtual 188, 3), (4, .iload_n 2, 1), (5, .iconst (-1), 1), (6, .if_icmp .ne 6, 3), (9, .bipush (-5), 2), (11, .ireturn, 1), (12, .aload_n 0, 1), (13, .getfield 29, 3), (16, .iload_n 1, 1)] = true := by decide +kernel
theorem dX3_give_0 : decode cX3_give 0 = .ok (.aload_n 0, 1) := dl_h dkX3_give_0
theorem dX3_give_1 : decode cX3_give 1 = .ok (.invokevirtual 188, 3) := dl_h (dl_t dkX3_give_0)
theorem dX3_give_4 : decode cX3_give 4 = .ok (.iload_n 2, 1) := dl_h (dl_t (dl_t dkX3_give_0))
theorem dX3_give_5 : decode cX3_give 5 = .ok (.iconst (-1), 1) := dl_h (dl_t (dl_t (dl_t dkX3_give_0)))
theorem dX3_give_6 : decode cX3_give 6 = .ok (.if_icmp .ne 6, 3) := dl_h (dl_t (dl_t (dl_t (dl_t dkX3_give_0))))
theorem dX3_give_9 : decode cX3_give 9 = .ok (.bipush (-5), 2) := dl_h (dl_t (dl_t (dl_t (dl_t (dl_t dkX3_give_0)))))
theorem dX3_give_11 : decode cX3_give 11 = .ok (.ireturn, 1) := dl_h (dl_t (dl_t (dl_t (dl_t (dl_t (dl_t dkX3_give_0))))))
theorem dX3_give_12 : decode cX3_give 12 = .ok (.aload_n 0, 1) := dl_h (dl_t (dl_t (dl_t (dl_t (dl_t (dl_t (dl_t dkX3_give_0)))))))
theorem dX3_give_13 : decode cX3_give 13 = .ok (.getfield 29, 3) := dl_h (dl_t (dl_t (dl_t (dl_t (dl_t (dl_t (dl_t (dl_t dkX3_give_0))))))))
theorem dX3_give_16 : decode cX3_give 16 = .ok (.iload_n 1, 1) := dl_h (dl_t (dl_t (dl_t (dl_t (dl_t (dl_t (dl_t (dl_t (dl_t dkX3_give_0)))))))))
theorem dkX3_give_17 : dl_L cX3_give [(17, .iload_n 2, 1), (18, .iastore, 1), (19, .aload_n 0, 1), (20, .getfield 25, 3), (23, .iload_n 2, 1), (24, .invokevirtual 152, 3), (27, .ireturn, 1)] = true := by decide +kernel
theorem dX3_give_17 : decode cX3_give 17 = .ok (.iload_n 2, 1) := dl_h dkX3_give_17
theorem dX3_give_18 : decode cX3_give 18 = .ok (.iastore, 1) := dl_h (dl_t dkX3_give_17)
theorem dX3_give_19 : decode cX3_give 19 = .ok (.aload_n 0, 1) := dl_h (dl_t (dl_t dkX3_give_17))
theorem dX3_give_20 : decode cX3_give 20 = .ok (.getfield 25, 3) := dl_h (dl_t (dl_t (dl_t dkX3_give_17)))
theorem dX3_give_23 : decode cX3_give 23 = .ok (.iload_n 2, 1) := dl_h (dl_t (dl_t (dl_t (dl_t dkX3_give_17))))
theorem dX3_give_24 : decode cX3_give 24 = .ok (.invokevirtual 152, 3) := dl_h (dl_t (dl_t (dl_t (dl_t (dl_t dkX3_give_17)))))
theorem dX3_give_27 : decode cX3_give 27 = .ok (.ireturn, 1) := dl_h (dl_t (dl_t (dl_t (dl_t (dl_t (dl_t dkX3_give_17))))))
theorem dkX3_keep_0 : dl_L cX3_keep [(0, .iload_n 1, 1), (1, .iconst (-1), 1), (2, .if_icmp .eq 32, 3), (5, .aload_n 0, 1), (6, .getfield 42, 3), (9, .bipush 8, 2), (11, .if_icmp .ge 23, 3), (14, .aload_n 0, 1), (15, .getfield 39, 3), (18, .aload_n 0, 1)] = true := by decide +kernel
theorem dX3_keep_0 : decode cX3_keep 0 = .ok (.iload_n 1, 1) := dl_h dkX3_keep_0
theorem dX3_keep_1 : decode cX3_keep 1 = .ok (.iconst (-1), 1) := dl_h (dl_t dkX3_keep_0)
theorem dX3_keep_2 : decode cX3_keep 2 = .ok (.if_icmp .eq 32, 3) := dl_h (dl_t (dl_t dkX3_keep_0))
theorem dX3_keep_5 : decode cX3_keep 5 = .ok (.aload_n 0, 1) := dl_h (dl_t (dl_t (dl_t dkX3_keep_0)))
theorem dX3_keep_6 : decode cX3_keep 6 = .ok (.getfield 42, 3) := dl_h (dl_t (dl_t (dl_t (dl_t dkX3_keep_0))))
theorem dX3_keep_9 : decode cX3_keep 9 = .ok (.bipush 8, 2) := dl_h (dl_t (dl_t (dl_t (dl_t (dl_t dkX3_keep_0)))))
theorem dX3_keep_11 : decode cX3_keep 11 = .ok (.if_icmp .ge 23, 3) := dl_h (dl_t (dl_t (dl_t (dl_t (dl_t (dl_t dkX3_keep_0))))))
theorem dX3_keep_14 : decode cX3_keep 14 = .ok (.aload_n 0, 1) := dl_h (dl_t (dl_t (dl_t (dl_t (dl_t (dl_t (dl_t dkX3_keep_0)))))))
theorem dX3_keep_15 : decode cX3_keep 15 = .ok (.getfield 39, 3) := dl_h (dl_t (dl_t (dl_t (dl_t (dl_t (dl_t (dl_t (dl_t dkX3_keep_0))))))))
theorem dX3_keep_18 : decode cX3_keep 18 = .ok (.aload_n 0, 1) := dl_h (dl_t (dl_t (dl_t (dl_t (dl_t (dl_t (dl_t (dl_t (dl_t dkX3_keep_0)))))))))
theorem dkX3_keep_19 : dl_L cX3_keep [(19, .getfield 42, 3), (22, .iload_n 1, 1), (23, .iastore, 1), (24, .aload_n 0, 1), (25, .dup, 1), (26, .getfield 42, 3), (29, .iconst 1, 1), (30, .iadd, 1), (31, .putfield 42, 3), (34, .iload_n 1, 1)] = true := by decide +kernel
theorem dX3_keep_19 : decode cX3_keep 19 = .ok (.getfield 42, 3) := dl_h dkX3_keep_19
theorem dX3_keep_22 : decode cX3_keep 22 = .ok (.iload_n 1, 1) := dl_h (dl_t dkX3_keep_19)
theorem dX3_keep_23 : decode cX3_keep 23 = .ok (.iastore, 1) := dl_h (dl_t (dl_t dkX3_keep_19))
theorem dX3_keep_24 : decode cX3_keep 24 = .ok (.aload_n 0, 1) := dl_h (dl_t (dl_t (dl_t dkX3_keep_19)))
theorem dX3_keep_25 : decode cX3_keep 25 = .ok (.dup, 1) := dl_h (dl_t (dl_t (dl_t (dl_t dkX3_keep_19))))
theorem dX3_keep_26 : decode cX3_keep 26 = .ok (.getfield 42, 3) := dl_h (dl_t (dl_t (dl_t (dl_t (dl_t dkX3_keep_19)))))
theorem dX3_keep_29 : decode cX3_keep 29 = .ok (.iconst 1, 1) := dl_h (dl_t (dl_t (dl_t (dl_t (dl_t (dl_t dkX3_keep_19))))))
theorem dX3_keep_30 : decode cX3_keep 30 = .ok (.iadd, 1) := dl_h (dl_t (dl_t (dl_t (dl_t (dl_t (dl_t (dl_t dkX3_keep_19)))))))
theorem dX3_keep_31 : decode cX3_keep 31 = .ok (.putfield 42, 3) := dl_h (dl_t (dl_t (dl_t (dl_t (dl_t (dl_t (dl_t (dl_t dkX3_keep_19))))))))
theorem dX3_keep_34 : decode cX3_keep 34 = .ok (.iload_n 1, 1) := dl_h (dl_t (dl_t (dl_t (dl_t (dl_t (dl_t (dl_t (dl_t (dl_t dkX3_keep_19)))))))))
theorem dkX3_keep_35 : dl_L cX3_keep [(35, .ireturn, 1)] = true := by decide +kernel
theorem dX3_keep_35 : decode cX3_keep 35 = .ok (.ireturn, 1) := dl_h dkX3_keep_35
theorem dkX3_kindStep_0 : dl_L cX3_kindStep [(0, .iload_n 2, 1), (1, .iconst (-1), 1), (2, .if_icmp .eq 14, 3), (5, .iload_n 3, 1), (6, .iconst (-1), 1), (7, .if_icmp .eq 9, 3), (10, .iload 4, 2), (12, .iconst (-1), 1), (13, .if_icmp .ne 5, 3), (16, .iconst (-1), 1)] = true := by decide +kernel
theorem dX3_kindStep_0 : decode cX3_kindStep 0 = .ok (.iload_n 2, 1) := dl_h dkX3_kindStep_0
theorem dX3_kindStep_1 : decode cX3_kindStep 1 = .ok (.iconst (-1), 1) := dl_h (dl_t dkX3_kindStep_0)
theorem dX3_kindStep_2 : decode cX3_kindStep 2 = .ok (.if_icmp .eq 14, 3) := dl_h (dl_t (dl_t dkX3_kindStep_0))
theorem dX3_kindStep_5 : decode cX3_kindStep 5 = .ok (.iload_n 3, 1) := dl_h (dl_t (dl_t (dl_t dkX3_kindStep_0)))
theorem dX3_kindStep_6 : decode cX3_kindStep 6 = .ok (.iconst (-1), 1) := dl_h (dl_t (dl_t (dl_t (dl_t dkX3_kindStep_0))))
theorem dX3_kindStep_7 : decode cX3_kindStep 7 = .ok (.if_icmp .eq 9, 3) := dl_h (dl_t (dl_t (dl_t (dl_t (dl_t dkX3_kindStep_0)))))
theorem dX3_kindStep_10 : decode cX3_kindStep 10 = .ok (.iload 4, 2) := dl_h (dl_t (dl_t (dl_t (dl_t (dl_t (dl_t dkX3_kindStep_0))))))
theorem dX3_kindStep_12 : decode cX3_kindStep 12 = .ok (.iconst (-1), 1) := dl_h (dl_t (dl_t (dl_t (dl_t (dl_t (dl_t (dl_t dkX3_kindStep_0)))))))
theorem dX3_kindStep_13 : decode cX3_kindStep 13 = .ok (.if_icmp .ne 5, 3) := dl_h (dl_t (dl_t (dl_t (dl_t (dl_t (dl_t (dl_t (dl_t dkX3_kindStep_0))))))))
theorem dX3_kindStep_16 : decode cX3_kindStep 16 = .ok (.iconst (-1), 1) := dl_h (dl_t (dl_t (dl_t (dl_t (dl_t (dl_t (dl_t (dl_t (dl_t dkX3_kindStep_0)))))))))
theorem dkX3_kindStep_17 : dl_L cX3_kindStep [(17, .ireturn, 1), (18, .aload_n 0, 1), (19, .invokevirtual 155, 3), (22, .aload_n 0, 1), (23, .aload_n 0, 1), (24, .getfield 25, 3), (27, .getstatic 197, 3), (30, .iload_n 1, 1), (31, .iaload, 1), (32, .iload_n 2, 1)] = true := by decide +kernel
theorem dX3_kindStep_17 : decode cX3_kindStep 17 = .ok (.ireturn, 1) := dl_h dkX3_kindStep_17
theorem dX3_kindStep_18 : decode cX3_kindStep 18 = .ok (.aload_n 0, 1) := dl_h (dl_t dkX3_kindStep_17)
theorem dX3_kindStep_19 : decode cX3_kindStep 19 = .ok (.invokevirtual 155, 3) := dl_h (dl_t (dl_t dkX3_kindStep_17))
theorem dX3_kindStep_22 : decode cX3_kindStep 22 = .ok (.aload_n 0, 1) := dl_h (dl_t (dl_t (dl_t dkX3_kindStep_17)))
theorem dX3_kindStep_23 : decode cX3_kindStep 23 = .ok (.aload_n 0, 1) := dl_h (dl_t (dl_t (dl_t (dl_t dkX3_kindStep_17))))
theorem dX3_kindStep_24 : decode cX3_kindStep 24 = .ok (.getfield 25, 3) := dl_h (dl_t (dl_t (dl_t (dl_t (dl_t dkX3_kindStep_17)))))
theorem dX3_kindStep_27 : decode cX3_kindStep 27 = .ok (.getstatic 197, 3) := dl_h (dl_t (dl_t (dl_t (dl_t (dl_t (dl_t dkX3_kindStep_17))))))
theorem dX3_kindStep_30 : decode cX3_kindStep 30 = .ok (.iload_n 1, 1) := dl_h (dl_t (dl_t (dl_t (dl_t (dl_t (dl_t (dl_t dkX3_kindStep_17)))))))
theorem dX3_kindStep_31 : decode cX3_kindStep 31 = .ok (.iaload, 1) := dl_h (dl_t (dl_t (dl_t (dl_t (dl_t (dl_t (dl_t (dl_t dkX3_kindStep_17))))))))
theorem dX3_kindStep_32 : decode cX3_kindStep 32 = .ok (.iload_n 2, 1) := dl_h (dl_t (dl_t (dl_t (dl_t (dl_t (dl_t (dl_t (dl_t (dl_t dkX3_kindStep_17)))))))))
theorem dkX3_kindStep_33 : dl_L cX3_kindStep [(33, .iload_n 3, 1), (34, .iload 4, 2), (36, .invokevirtual 200, 3), (39, .invokevirtual 203, 3), (42, .ireturn, 1)] = true := by decide +kernel
theorem dX3_kindStep_33 : decode cX3_kindStep 33 = .ok (.iload_n 3, 1) := dl_h dkX3_kindStep_33
theorem dX3_kindStep_34 : decode cX3_kindStep 34 = .ok (.iload 4, 2) := dl_h (dl_t dkX3_kindStep_33)
theorem dX3_kindStep_36 : decode cX3_kindStep 36 = .ok (.invokevirtual 200, 3) := dl_h (dl_t (dl_t dkX3_kindStep_33))
theorem dX3_kindStep_39 : decode cX3_kindStep 39 = .ok (.invokevirtual 203, 3) := dl_h (dl_t (dl_t (dl_t dkX3_kindStep_33)))
theorem dX3_kindStep_42 : decode cX3_kindStep 42 = .ok (.ireturn, 1) := dl_h (dl_t (dl_t (dl_t (dl_t dkX3_kindStep_33))))
theorem dkX3_variableStep_0 : dl_L cX3_variableStep [(0, .aload_n 0, 1), (1, .invokevirtual 155, 3), (4, .aload_n 0, 1), (5, .aload_n 0, 1), (6, .getfield 25, 3), (9, .aload_n 0, 1), (10, .getfield 18, 3), (13, .iload_n 1, 1), (14, .invokevirtual 174, 3), (17, .invokevirtual 206, 3)] = true := by decide +kernel
theorem dX3_variableStep_0 : decode cX3_variableStep 0 = .ok (.aload_n 0, 1) := dl_h dkX3_variableStep_0
theorem dX3_variableStep_1 : decode cX3_variableStep 1 = .ok (.invokevirtual 155, 3) := dl_h (dl_t dkX3_variableStep_0)
theorem dX3_variableStep_4 : decode cX3_variableStep 4 = .ok (.aload_n 0, 1) := dl_h (dl_t (dl_t dkX3_variableStep_0))
theorem dX3_variableStep_5 : decode cX3_variableStep 5 = .ok (.aload_n 0, 1) := dl_h (dl_t (dl_t (dl_t dkX3_variableStep_0)))
theorem dX3_variableStep_6 : decode cX3_variableStep 6 = .ok (.getfield 25, 3) := dl_h (dl_t (dl_t (dl_t (dl_t dkX3_variableStep_0))))
theorem dX3_variableStep_9 : decode cX3_variableStep 9 = .ok (.aload_n 0, 1) := dl_h (dl_t (dl_t (dl_t (dl_t (dl_t dkX3_variableStep_0)))))
theorem dX3_variableStep_10 : decode cX3_variableStep 10 = .ok (.getfield 18, 3) := dl_h (dl_t (dl_t (dl_t (dl_t (dl_t (dl_t dkX3_variableStep_0))))))
theorem dX3_variableStep_13 : decode cX3_variableStep 13 = .ok (.iload_n 1, 1) := dl_h (dl_t (dl_t (dl_t (dl_t (dl_t (dl_t (dl_t dkX3_variableStep_0)))))))
theorem dX3_variableStep_14 : decode cX3_variableStep 14 = .ok (.invokevirtual 174, 3) := dl_h (dl_t (dl_t (dl_t (dl_t (dl_t (dl_t (dl_t (dl_t dkX3_variableStep_0))))))))
theorem dX3_variableStep_17 : decode cX3_variableStep 17 = .ok (.invokevirtual 206, 3) := dl_h (dl_t (dl_t (dl_t (dl_t (dl_t (dl_t (dl_t (dl_t (dl_t dkX3_variableStep_0)))))))))
theorem dkX3_variableStep_20 : dl_L cX3_variableStep [(20, .invokevirtual 203, 3), (23, .ireturn, 1)] = true := by decide +kernel
theorem dX3_variableStep_20 : decode cX3_variableStep 20 = .ok (.invokevirtual 203, 3) := dl_h dkX3_variableStep_20
theorem dX3_variableStep_23 : decode cX3_variableStep 23 = .ok (.ireturn, 1) := dl_h (dl_t dkX3_variableStep_20)
theorem dkX3_fixStep_0 : dl_L cX3_fixStep [(0, .aload_n 0, 1), (1, .invokevirtual 155, 3), (4, .aload_n 0, 1), (5, .aload_n 0, 1), (6, .getfield 25, 3), (9, .iload_n 1, 1), (10, .aload_n 0, 1), (11, .getfield 18, 3), (14, .iload_n 2, 1), (15, .invokevirtual 174, 3)] = true := by decide +kernel
theorem dX3_fixStep_0 : decode cX3_fixStep 0 = .ok (.aload_n 0, 1) := dl_h dkX3_fixStep_0
theorem dX3_fixStep_1 : decode cX3_fixStep 1 = .ok (.invokevirtual 155, 3) := dl_h (dl_t dkX3_fixStep_0)
theorem dX3_fixStep_4 : decode cX3_fixStep 4 = .ok (.aload_n 0, 1) := dl_h (dl_t (dl_t dkX3_fixStep_0))
theorem dX3_fixStep_5 : decode cX3_fixStep 5 = .ok (.aload_n 0, 1) := dl_h (dl_t (dl_t (dl_t dkX3_fixStep_0)))
theorem dX3_fixStep_6 : decode cX3_fixStep 6 = .ok (.getfield 25, 3) := dl_h (dl_t (dl_t (dl_t (dl_t dkX3_fixStep_0))))
theorem dX3_fixStep_9 : decode cX3_fixStep 9 = .ok (.iload_n 1, 1) := dl_h (dl_t (dl_t (dl_t (dl_t (dl_t dkX3_fixStep_0)))))
theorem dX3_fixStep_10 : decode cX3_fixStep 10 = .ok (.aload_n 0, 1) := dl_h (dl_t (dl_t (dl_t (dl_t (dl_t (dl_t dkX3_fixStep_0))))))
theorem dX3_fixStep_11 : decode cX3_fixStep 11 = .ok (.getfield 18, 3) := dl_h (dl_t (dl_t (dl_t (dl_t (dl_t (dl_t (dl_t dkX3_fixStep_0)))))))
theorem dX3_fixStep_14 : decode cX3_fixStep 14 = .ok (.iload_n 2, 1) := dl_h (dl_t (dl_t (dl_t (dl_t (dl_t (dl_t (dl_t (dl_t dkX3_fixStep_0))))))))
theorem dX3_fixStep_15 : decode cX3_fixStep 15 = .ok (.invokevirtual 174, 3) := dl_h (dl_t (dl_t (dl_t (dl_t (dl_t (dl_t (dl_t (dl_t (dl_t dkX3_fixStep_0)))))))))
theorem dkX3_fixStep_18 : dl_L cX3_fixStep [(18, .iload_n 3, 1), (19, .invokevirtual 209, 3), (22, .invokevirtual 203, 3), (25, .ireturn, 1)] = true := by decide +kernel
theorem dX3_fixStep_18 : decode cX3_fixStep 18 = .ok (.iload_n 3, 1) := dl_h dkX3_fixStep_18
theorem dX3_fixStep_19 : decode cX3_fixStep 19 = .ok (.invokevirtual 209, 3) := dl_h (dl_t dkX3_fixStep_18)
theorem dX3_fixStep_22 : decode cX3_fixStep 22 = .ok (.invokevirtual 203, 3) := dl_h (dl_t (dl_t dkX3_fixStep_18))
theorem dX3_fixStep_25 : decode cX3_fixStep 25 = .ok (.ireturn, 1) := dl_h (dl_t (dl_t (dl_t dkX3_fixStep_18)))
theorem dkX3_measured_0 : dl_L cX3_measured [(0, .iload_n 1, 1), (1, .iconst (-1), 1), (2, .if_icmp .ne 15, 3), (5, .aload_n 0, 1), (6, .getfield 25, 3), (9, .invokevirtual 194, 3), (12, .iconst 1, 1), (13, .iadd, 1), (14, .goto 10, 3), (17, .aload_n 0, 1)] = true := by decide +kernel
theorem dX3_measured_0 : decode cX3_measured 0 = .ok (.iload_n 1, 1) := dl_h dkX3_measured_0
theorem dX3_measured_1 : decode cX3_measured 1 = .ok (.iconst (-1), 1) := dl_h (dl_t dkX3_measured_0)
theorem dX3_measured_2 : decode cX3_measured 2 = .ok (.if_icmp .ne 15, 3) := dl_h (dl_t (dl_t dkX3_measured_0))
theorem dX3_measured_5 : decode cX3_measured 5 = .ok (.aload_n 0, 1) := dl_h (dl_t (dl_t (dl_t dkX3_measured_0)))
theorem dX3_measured_6 : decode cX3_measured 6 = .ok (.getfield 25, 3) := dl_h (dl_t (dl_t (dl_t (dl_t dkX3_measured_0))))
theorem dX3_measured_9 : decode cX3_measured 9 = .ok (.invokevirtual 194, 3) := dl_h (dl_t (dl_t (dl_t (dl_t (dl_t dkX3_measured_0)))))
theorem dX3_measured_12 : decode cX3_measured 12 = .ok (.iconst 1, 1) := dl_h (dl_t (dl_t (dl_t (dl_t (dl_t (dl_t dkX3_measured_0))))))
theorem dX3_measured_13 : decode cX3_measured 13 = .ok (.iadd, 1) := dl_h (dl_t (dl_t (dl_t (dl_t (dl_t (dl_t (dl_t dkX3_measured_0)))))))
theorem dX3_measured_14 : decode cX3_measured 14 = .ok (.goto 10, 3) := dl_h (dl_t (dl_t (dl_t (dl_t (dl_t (dl_t (dl_t (dl_t dkX3_measured_0))))))))
theorem dX3_measured_17 : decode cX3_measured 17 = .ok (.aload_n 0, 1) := dl_h (dl_t (dl_t (dl_t (dl_t (dl_t (dl_t (dl_t (dl_t (dl_t dkX3_measured_0)))))))))
theorem dkX3_measured_18 : dl_L cX3_measured [(18, .getfield 25, 3), (21, .invokevirtual 158, 3), (24, .istore_n 2, 1), (25, .aload_n 0, 1), (26, .aload_n 0, 1), (27, .getfield 46, 3), (30, .iload_n 2, 1), (31, .invokestatic 212, 3), (34, .putfield 46, 3), (37, .iload_n 1, 1)] = true := by decide +kernel
theorem dX3_measured_18 : decode cX3_measured 18 = .ok (.getfield 25, 3) := dl_h dkX3_measured_18
theorem dX3_measured_21 : decode cX3_measured 21 = .ok (.invokevirtual 158, 3) := dl_h (dl_t dkX3_measured_18)
theorem dX3_measured_24 : decode cX3_measured 24 = .ok (.istore_n 2, 1) := dl_h (dl_t (dl_t dkX3_measured_18))
theorem dX3_measured_25 : decode cX3_measured 25 = .ok (.aload_n 0, 1) := dl_h (dl_t (dl_t (dl_t dkX3_measured_18)))
theorem dX3_measured_26 : decode cX3_measured 26 = .ok (.aload_n 0, 1) := dl_h (dl_t (dl_t (dl_t (dl_t dkX3_measured_18))))
theorem dX3_measured_27 : decode cX3_measured 27 = .ok (.getfield 46, 3) := dl_h (dl_t (dl_t (dl_t (dl_t (dl_t dkX3_measured_18)))))
theorem dX3_measured_30 : decode cX3_measured 30 = .ok (.iload_n 2, 1) := dl_h (dl_t (dl_t (dl_t (dl_t (dl_t (dl_t dkX3_measured_18))))))
theorem dX3_measured_31 : decode cX3_measured 31 = .ok (.invokestatic 212, 3) := dl_h (dl_t (dl_t (dl_t (dl_t (dl_t (dl_t (dl_t dkX3_measured_18)))))))
theorem dX3_measured_34 : decode cX3_measured 34 = .ok (.putfield 46, 3) := dl_h (dl_t (dl_t (dl_t (dl_t (dl_t (dl_t (dl_t (dl_t dkX3_measured_18))))))))
theorem dX3_measured_37 : decode cX3_measured 37 = .ok (.iload_n 1, 1) := dl_h (dl_t (dl_t (dl_t (dl_t (dl_t (dl_t (dl_t (dl_t (dl_t dkX3_measured_18)))))))))
theorem dkX3_measured_38 : dl_L cX3_measured [(38, .ireturn, 1)] = true := by decide +kernel
theorem dX3_measured_38 : decode cX3_measured 38 = .ok (.ireturn, 1) := dl_h dkX3_measured_38
theorem dkX3_collect_0 : dl_L cX3_collect [(0, .aload_n 0, 1), (1, .getfield 25, 3), (4, .invokevirtual 217, 3), (7, .iconst 0, 1), (8, .istore_n 1, 1), (9, .iload_n 1, 1), (10, .bipush 12, 2), (12, .if_icmp .ge 22, 3), (15, .aload_n 0, 1), (16, .getfield 25, 3)] = true := by decide +kernel
theorem dX3_collect_0 : decode cX3_collect 0 = .ok (.aload_n 0, 1) := dl_h dkX3_collect_0
theorem dX3_collect_1 : decode cX3_collect 1 = .ok (.getfield 25, 3) := dl_h (dl_t dkX3_collect_0)
theorem dX3_collect_4 : decode cX3_collect 4 = .ok (.invokevirtual 217, 3) := dl_h (dl_t (dl_t dkX3_collect_0))
theorem dX3_collect_7 : decode cX3_collect 7 = .ok (.iconst 0, 1) := dl_h (dl_t (dl_t (dl_t dkX3_collect_0)))
theorem dX3_collect_8 : decode cX3_collect 8 = .ok (.istore_n 1, 1) := dl_h (dl_t (dl_t (dl_t (dl_t dkX3_collect_0))))
theorem dX3_collect_9 : decode cX3_collect 9 = .ok (.iload_n 1, 1) := dl_h (dl_t (dl_t (dl_t (dl_t (dl_t dkX3_collect_0)))))
theorem dX3_collect_10 : decode cX3_collect 10 = .ok (.bipush 12, 2) := dl_h (dl_t (dl_t (dl_t (dl_t (dl_t (dl_t dkX3_collect_0))))))
theorem dX3_collect_12 : decode cX3_collect 12 = .ok (.if_icmp .ge 22, 3) := dl_h (dl_t (dl_t (dl_t (dl_t (dl_t (dl_t (dl_t dkX3_collect_0)))))))
theorem dX3_collect_15 : decode cX3_collect 15 = .ok (.aload_n 0, 1) := dl_h (dl_t (dl_t (dl_t (dl_t (dl_t (dl_t (dl_t (dl_t dkX3_collect_0))))))))
theorem dX3_collect_16 : decode cX3_collect 16 = .ok (.getfield 25, 3) := dl_h (dl_t (dl_t (dl_t (dl_t (dl_t (dl_t (dl_t (dl_t (dl_t dkX3_collect_0)))))))))
theorem dkX3_collect_19 : dl_L cX3_collect [(19, .aload_n 0, 1), (20, .getfield 29, 3), (23, .iload_n 1, 1), (24, .iaload, 1), (25, .invokevirtual 220, 3), (28, .iinc 1 1, 3), (31, .goto (-22), 3), (34, .iconst 0, 1), (35, .istore_n 1, 1), (36, .iload_n 1, 1)] = true := by decide +kernel
theorem dX3_collect_19 : decode cX3_collect 19 = .ok (.aload_n 0, 1) := dl_h dkX3_collect_19
theorem dX3_collect_20 : decode cX3_collect 20 = .ok (.getfield 29, 3) := dl_h (dl_t dkX3_collect_19)
theorem dX3_collect_23 : decode cX3_collect 23 = .ok (.iload_n 1, 1) := dl_h (dl_t (dl_t dkX3_collect_19))
theorem dX3_collect_24 : decode cX3_collect 24 = .ok (.iaload, 1) := dl_h (dl_t (dl_t (dl_t dkX3_collect_19)))
theorem dX3_collect_25 : decode cX3_collect 25 = .ok (.invokevirtual 220, 3) := dl_h (dl_t (dl_t (dl_t (dl_t dkX3_collect_19))))
theorem dX3_collect_28 : decode cX3_collect 28 = .ok (.iinc 1 1, 3) := dl_h (dl_t (dl_t (dl_t (dl_t (dl_t dkX3_collect_19)))))
theorem dX3_collect_31 : decode cX3_collect 31 = .ok (.goto (-22), 3) := dl_h (dl_t (dl_t (dl_t (dl_t (dl_t (dl_t dkX3_collect_19))))))
theorem dX3_collect_34 : decode cX3_collect 34 = .ok (.iconst 0, 1) := dl_h (dl_t (dl_t (dl_t (dl_t (dl_t (dl_t (dl_t dkX3_collect_19)))))))
theorem dX3_collect_35 : decode cX3_collect 35 = .ok (.istore_n 1, 1) := dl_h (dl_t (dl_t (dl_t (dl_t (dl_t (dl_t (dl_t (dl_t dkX3_collect_19))))))))
theorem dX3_collect_36 : decode cX3_collect 36 = .ok (.iload_n 1, 1) := dl_h (dl_t (dl_t (dl_t (dl_t (dl_t (dl_t (dl_t (dl_t (dl_t dkX3_collect_19)))))))))
theorem dkX3_collect_37 : dl_L cX3_collect [(37, .bipush 40, 2), (39, .if_icmp .ge 22, 3), (42, .aload_n 0, 1), (43, .getfield 25, 3), (46, .aload_n 0, 1), (47, .getfield 33, 3), (50, .iload_n 1, 1), (51, .iaload, 1), (52, .invokevirtual 220, 3), (55, .iinc 1 1, 3)] = true := by decide +kernel
theorem dX3_collect_37 : decode cX3_collect 37 = .ok (.bipush 40, 2) := dl_h dkX3_collect_37
theorem dX3_collect_39 : decode cX3_collect 39 = .ok (.if_icmp .ge 22, 3) := dl_h (dl_t dkX3_collect_37)
theorem dX3_collect_42 : decode cX3_collect 42 = .ok (.aload_n 0, 1) := dl_h (dl_t (dl_t dkX3_collect_37))
theorem dX3_collect_43 : decode cX3_collect 43 = .ok (.getfield 25, 3) := dl_h (dl_t (dl_t (dl_t dkX3_collect_37)))
theorem dX3_collect_46 : decode cX3_collect 46 = .ok (.aload_n 0, 1) := dl_h (dl_t (dl_t (dl_t (dl_t dkX3_collect_37))))
theorem dX3_collect_47 : decode cX3_collect 47 = .ok (.getfield 33, 3) := dl_h (dl_t (dl_t (dl_t (dl_t (dl_t dkX3_collect_37)))))
theorem dX3_collect_50 : decode cX3_collect 50 = .ok (.iload_n 1, 1) := dl_h (dl_t (dl_t (dl_t (dl_t (dl_t (dl_t dkX3_collect_37))))))
theorem dX3_collect_51 : decode cX3_collect 51 = .ok (.iaload, 1) := dl_h (dl_t (dl_t (dl_t (dl_t (dl_t (dl_t (dl_t dkX3_collect_37)))))))
theorem dX3_collect_52 : decode cX3_collect 52 = .ok (.invokevirtual 220, 3) := dl_h (dl_t (dl_t (dl_t (dl_t (dl_t (dl_t (dl_t (dl_t dkX3_collect_37))))))))
theorem dX3_collect_55 : decode cX3_collect 55 = .ok (.iinc 1 1, 3) := dl_h (dl_t (dl_t (dl_t (dl_t (dl_t (dl_t (dl_t (dl_t (dl_t dkX3_collect_37)))))))))
theorem dkX3_collect_58 : dl_L cX3_collect [(58, .goto (-22), 3), (61, .iconst 0, 1), (62, .istore_n 1, 1), (63, .iload_n 1, 1), (64, .aload_n 0, 1), (65, .getfield 42, 3), (68, .if_icmp .ge 22, 3), (71, .aload_n 0, 1), (72, .getfield 25, 3), (75, .aload_n 0, 1)] = true := by decide +kernel
theorem dX3_collect_58 : decode cX3_collect 58 = .ok (.goto (-22), 3) := dl_h dkX3_collect_58
theorem dX3_collect_61 : decode cX3_collect 61 = .ok (.iconst 0, 1) := dl_h (dl_t dkX3_collect_58)
theorem dX3_collect_62 : decode cX3_collect 62 = .ok (.istore_n 1, 1) := dl_h (dl_t (dl_t dkX3_collect_58))
theorem dX3_collect_63 : decode cX3_collect 63 = .ok (.iload_n 1, 1) := dl_h (dl_t (dl_t (dl_t dkX3_collect_58)))
theorem dX3_collect_64 : decode cX3_collect 64 = .ok (.aload_n 0, 1) := dl_h (dl_t (dl_t (dl_t (dl_t dkX3_collect_58))))
theorem dX3_collect_65 : decode cX3_collect 65 = .ok (.getfield 42, 3) := dl_h (dl_t (dl_t (dl_t (dl_t (dl_t dkX3_collect_58)))))
theorem dX3_collect_68 : decode cX3_collect 68 = .ok (.if_icmp .ge 22, 3) := dl_h (dl_t (dl_t (dl_t (dl_t (dl_t (dl_t dkX3_collect_58))))))
theorem dX3_collect_71 : decode cX3_collect 71 = .ok (.aload_n 0, 1) := dl_h (dl_t (dl_t (dl_t (dl_t (dl_t (dl_t (dl_t dkX3_collect_58)))))))
theorem dX3_collect_72 : decode cX3_collect 72 = .ok (.getfield 25, 3) := dl_h (dl_t (dl_t (dl_t (dl_t (dl_t (dl_t (dl_t (dl_t dkX3_collect_58))))))))
theorem dX3_collect_75 : decode cX3_collect 75 = .ok (.aload_n 0, 1) := dl_h (dl_t (dl_t (dl_t (dl_t (dl_t (dl_t (dl_t (dl_t (dl_t dkX3_collect_58)))))))))
theorem dkX3_collect_76 : dl_L cX3_collect [(76, .getfield 39, 3), (79, .iload_n 1, 1), (80, .iaload, 1), (81, .invokevirtual 220, 3), (84, .iinc 1 1, 3), (87, .goto (-24), 3), (90, .aload_n 0, 1), (91, .getfield 25, 3), (94, .invokevirtual 224, 3), (97, .return_, 1)] = true := by decide +kernel
theorem dX3_collect_76 : decode cX3_collect 76 = .ok (.getfield 39, 3) := dl_h dkX3_collect_76
theorem dX3_collect_79 : decode cX3_collect 79 = .ok (.iload_n 1, 1) := dl_h (dl_t dkX3_collect_76)
theorem dX3_collect_80 : decode cX3_collect 80 = .ok (.iaload, 1) := dl_h (dl_t (dl_t dkX3_collect_76))
theorem dX3_collect_81 : decode cX3_collect 81 = .ok (.invokevirtual 220, 3) := dl_h (dl_t (dl_t (dl_t dkX3_collect_76)))
theorem dX3_collect_84 : decode cX3_collect 84 = .ok (.iinc 1 1, 3) := dl_h (dl_t (dl_t (dl_t (dl_t dkX3_collect_76))))
theorem dX3_collect_87 : decode cX3_collect 87 = .ok (.goto (-24), 3) := dl_h (dl_t (dl_t (dl_t (dl_t (dl_t dkX3_collect_76)))))
theorem dX3_collect_90 : decode cX3_collect 90 = .ok (.aload_n 0, 1) := dl_h (dl_t (dl_t (dl_t (dl_t (dl_t (dl_t dkX3_collect_76))))))
theorem dX3_collect_91 : decode cX3_collect 91 = .ok (.getfield 25, 3) := dl_h (dl_t (dl_t (dl_t (dl_t (dl_t (dl_t (dl_t dkX3_collect_76)))))))
theorem dX3_collect_94 : decode cX3_collect 94 = .ok (.invokevirtual 224, 3) := dl_h (dl_t (dl_t (dl_t (dl_t (dl_t (dl_t (dl_t (dl_t dkX3_collect_76))))))))
theorem dX3_collect_97 : decode cX3_collect 97 = .ok (.return_, 1) := dl_h (dl_t (dl_t (dl_t (dl_t (dl_t (dl_t (dl_t (dl_t (dl_t dkX3_collect_76)))))))))
theorem dkX3_building_0 : dl_L cX3_building [(0, .aload_n 1, 1), (1, .iload_n 2, 1), (2, .aload_n 0, 1), (3, .getfield 36, 3), (6, .invokevirtual 227, 3), (9, .istore_n 3, 1), (10, .iconst 0, 1), (11, .istore 4, 2), (13, .iload 4, 2), (15, .iload_n 3, 1)] = true := by decide +kernel
theorem dX3_building_0 : decode cX3_building 0 = .ok (.aload_n 1, 1) := dl_h dkX3_building_0
theorem dX3_building_1 : decode cX3_building 1 = .ok (.iload_n 2, 1) := dl_h (dl_t dkX3_building_0)
theorem dX3_building_2 : decode cX3_building 2 = .ok (.aload_n 0, 1) := dl_h (dl_t (dl_t dkX3_building_0))
theorem dX3_building_3 : decode cX3_building 3 = .ok (.getfield 36, 3) := dl_h (dl_t (dl_t (dl_t dkX3_building_0)))
theorem dX3_building_6 : decode cX3_building 6 = .ok (.invokevirtual 227, 3) := dl_h (dl_t (dl_t (dl_t (dl_t dkX3_building_0))))
theorem dX3_building_9 : decode cX3_building 9 = .ok (.istore_n 3, 1) := dl_h (dl_t (dl_t (dl_t (dl_t (dl_t dkX3_building_0)))))
theorem dX3_building_10 : decode cX3_building 10 = .ok (.iconst 0, 1) := dl_h (dl_t (dl_t (dl_t (dl_t (dl_t (dl_t dkX3_building_0))))))
theorem dX3_building_11 : decode cX3_building 11 = .ok (.istore 4, 2) := dl_h (dl_t (dl_t (dl_t (dl_t (dl_t (dl_t (dl_t dkX3_building_0)))))))
theorem dX3_building_13 : decode cX3_building 13 = .ok (.iload 4, 2) := dl_h (dl_t (dl_t (dl_t (dl_t (dl_t (dl_t (dl_t (dl_t dkX3_building_0))))))))
theorem dX3_building_15 : decode cX3_building 15 = .ok (.iload_n 3, 1) := dl_h (dl_t (dl_t (dl_t (dl_t (dl_t (dl_t (dl_t (dl_t (dl_t dkX3_building_0)))))))))
theorem dkX3_building_16 : dl_L cX3_building [(16, .if_icmp .gt 106, 3), (19, .aload_n 0, 1), (20, .getfield 36, 3), (23, .iload 4, 2), (25, .iaload, 1), (26, .iconst (-1), 1), (27, .if_icmp .ne 6, 3), (30, .goto 86, 3), (33, .aload_n 1, 1), (34, .iload 4, 2)] = true := by decide +kernel
theorem dX3_building_16 : decode cX3_building 16 = .ok (.if_icmp .gt 106, 3) := dl_h dkX3_building_16
theorem dX3_building_19 : decode cX3_building 19 = .ok (.aload_n 0, 1) := dl_h (dl_t dkX3_building_16)
theorem dX3_building_20 : decode cX3_building 20 = .ok (.getfield 36, 3) := dl_h (dl_t (dl_t dkX3_building_16))
theorem dX3_building_23 : decode cX3_building 23 = .ok (.iload 4, 2) := dl_h (dl_t (dl_t (dl_t dkX3_building_16)))
theorem dX3_building_25 : decode cX3_building 25 = .ok (.iaload, 1) := dl_h (dl_t (dl_t (dl_t (dl_t dkX3_building_16))))
theorem dX3_building_26 : decode cX3_building 26 = .ok (.iconst (-1), 1) := dl_h (dl_t (dl_t (dl_t (dl_t (dl_t dkX3_building_16)))))
theorem dX3_building_27 : decode cX3_building 27 = .ok (.if_icmp .ne 6, 3) := dl_h (dl_t (dl_t (dl_t (dl_t (dl_t (dl_t dkX3_building_16))))))
theorem dX3_building_30 : decode cX3_building 30 = .ok (.goto 86, 3) := dl_h (dl_t (dl_t (dl_t (dl_t (dl_t (dl_t (dl_t dkX3_building_16)))))))
theorem dX3_building_33 : decode cX3_building 33 = .ok (.aload_n 1, 1) := dl_h (dl_t (dl_t (dl_t (dl_t (dl_t (dl_t (dl_t (dl_t dkX3_building_16))))))))
theorem dX3_building_34 : decode cX3_building 34 = .ok (.iload 4, 2) := dl_h (dl_t (dl_t (dl_t (dl_t (dl_t (dl_t (dl_t (dl_t (dl_t dkX3_building_16)))))))))
theorem dkX3_building_36 : dl_L cX3_building [(36, .invokevirtual 231, 3), (39, .istore 5, 2), (41, .iload 5, 2), (43, .ifCond .ne 17, 3), (46, .aload_n 0, 1), (47, .aload_n 1, 1), (48, .iload 4, 2), (50, .iconst 0, 1), (51, .invokevirtual 234, 3), (54, .invokevirtual 136, 3)] = true := by decide +kernel
theorem dX3_building_36 : decode cX3_building 36 = .ok (.invokevirtual 231, 3) := dl_h dkX3_building_36
theorem dX3_building_39 : decode cX3_building 39 = .ok (.istore 5, 2) := dl_h (dl_t dkX3_building_36)
theorem dX3_building_41 : decode cX3_building 41 = .ok (.iload 5, 2) := dl_h (dl_t (dl_t dkX3_building_36))
theorem dX3_building_43 : decode cX3_building 43 = .ok (.ifCond .ne 17, 3) := dl_h (dl_t (dl_t (dl_t dkX3_building_36)))
theorem dX3_building_46 : decode cX3_building 46 = .ok (.aload_n 0, 1) := dl_h (dl_t (dl_t (dl_t (dl_t dkX3_building_36))))
theorem dX3_building_47 : decode cX3_building 47 = .ok (.aload_n 1, 1) := dl_h (dl_t (dl_t (dl_t (dl_t (dl_t dkX3_building_36)))))
theorem dX3_building_48 : decode cX3_building 48 = .ok (.iload 4, 2) := dl_h (dl_t (dl_t (dl_t (dl_t (dl_t (dl_t dkX3_building_36))))))
theorem dX3_building_50 : decode cX3_building 50 = .ok (.iconst 0, 1) := dl_h (dl_t (dl_t (dl_t (dl_t (dl_t (dl_t (dl_t dkX3_building_36)))))))
theorem dX3_building_51 : decode cX3_building 51 = .ok (.invokevirtual 234, 3) := dl_h (dl_t (dl_t (dl_t (dl_t (dl_t (dl_t (dl_t (dl_t dkX3_building_36))))))))
theorem dX3_building_54 : decode cX3_building 54 = .ok (.invokevirtual 136, 3) := dl_h (dl_t (dl_t (dl_t (dl_t (dl_t (dl_t (dl_t (dl_t (dl_t dkX3_building_36)))))))))
theorem dkX3_building_57 : dl_L cX3_building [(57, .goto 33, 3), (60, .aload_n 0, 1), (61, .iload 5, 2), (63, .aload_n 0, 1), (64, .aload_n 1, 1), (65, .iload 4, 2), (67, .iconst 0, 1), (68, .invokevirtual 237, 3), (71, .aload_n 0, 1), (72, .aload_n 1, 1)] = true := by decide +kernel
theorem dX3_building_57 : decode cX3_building 57 = .ok (.goto 33, 3) := dl_h dkX3_building_57
theorem dX3_building_60 : decode cX3_building 60 = .ok (.aload_n 0, 1) := dl_h (dl_t dkX3_building_57)
theorem dX3_building_61 : decode cX3_building 61 = .ok (.iload 5, 2) := dl_h (dl_t (dl_t dkX3_building_57))
theorem dX3_building_63 : decode cX3_building 63 = .ok (.aload_n 0, 1) := dl_h (dl_t (dl_t (dl_t dkX3_building_57)))
theorem dX3_building_64 : decode cX3_building 64 = .ok (.aload_n 1, 1) := dl_h (dl_t (dl_t (dl_t (dl_t dkX3_building_57))))
theorem dX3_building_65 : decode cX3_building 65 = .ok (.iload 4, 2) := dl_h (dl_t (dl_t (dl_t (dl_t (dl_t dkX3_building_57)))))
theorem dX3_building_67 : decode cX3_building 67 = .ok (.iconst 0, 1) := dl_h (dl_t (dl_t (dl_t (dl_t (dl_t (dl_t dkX3_building_57))))))
theorem dX3_building_68 : decode cX3_building 68 = .ok (.invokevirtual 237, 3) := dl_h (dl_t (dl_t (dl_t (dl_t (dl_t (dl_t (dl_t dkX3_building_57)))))))
theorem dX3_building_71 : decode cX3_building 71 = .ok (.aload_n 0, 1) := dl_h (dl_t (dl_t (dl_t (dl_t (dl_t (dl_t (dl_t (dl_t dkX3_building_57))))))))
theorem dX3_building_72 : decode cX3_building 72 = .ok (.aload_n 1, 1) := dl_h (dl_t (dl_t (dl_t (dl_t (dl_t (dl_t (dl_t (dl_t (dl_t dkX3_building_57)))))))))
theorem dkX3_building_73 : dl_L cX3_building [(73, .iload 4, 2), (75, .iconst 1, 1), (76, .invokevirtual 237, 3), (79, .aload_n 0, 1), (80, .aload_n 1, 1), (81, .iload 4, 2), (83, .iconst 2, 1), (84, .invokevirtual 237, 3), (87, .invokevirtual 142, 3), (90, .istore 6, 2)] = true := by decide +kernel
theorem dX3_building_73 : decode cX3_building 73 = .ok (.iload 4, 2) := dl_h dkX3_building_73
theorem dX3_building_75 : decode cX3_building 75 = .ok (.iconst 1, 1) := dl_h (dl_t dkX3_building_73)
theorem dX3_building_76 : decode cX3_building 76 = .ok (.invokevirtual 237, 3) := dl_h (dl_t (dl_t dkX3_building_73))
theorem dX3_building_79 : decode cX3_building 79 = .ok (.aload_n 0, 1) := dl_h (dl_t (dl_t (dl_t dkX3_building_73)))
theorem dX3_building_80 : decode cX3_building 80 = .ok (.aload_n 1, 1) := dl_h (dl_t (dl_t (dl_t (dl_t dkX3_building_73))))
theorem dX3_building_81 : decode cX3_building 81 = .ok (.iload 4, 2) := dl_h (dl_t (dl_t (dl_t (dl_t (dl_t dkX3_building_73)))))
theorem dX3_building_83 : decode cX3_building 83 = .ok (.iconst 2, 1) := dl_h (dl_t (dl_t (dl_t (dl_t (dl_t (dl_t dkX3_building_73))))))
theorem dX3_building_84 : decode cX3_building 84 = .ok (.invokevirtual 237, 3) := dl_h (dl_t (dl_t (dl_t (dl_t (dl_t (dl_t (dl_t dkX3_building_73)))))))
theorem dX3_building_87 : decode cX3_building 87 = .ok (.invokevirtual 142, 3) := dl_h (dl_t (dl_t (dl_t (dl_t (dl_t (dl_t (dl_t (dl_t dkX3_building_73))))))))
theorem dX3_building_90 : decode cX3_building 90 = .ok (.istore 6, 2) := dl_h (dl_t (dl_t (dl_t (dl_t (dl_t (dl_t (dl_t (dl_t (dl_t dkX3_building_73)))))))))
theorem dkX3_building_92 : dl_L cX3_building [(92, .iload 6, 2), (94, .iconst (-1), 1), (95, .if_icmp .ne 5, 3), (98, .iconst (-1), 1), (99, .ireturn, 1), (100, .aload_n 0, 1), (101, .getfield 33, 3), (104, .iload 4, 2), (106, .iload 6, 2), (108, .iastore, 1)] = true := by decide +kernel
theorem dX3_building_92 : decode cX3_building 92 = .ok (.iload 6, 2) := dl_h dkX3_building_92
theorem dX3_building_94 : decode cX3_building 94 = .ok (.iconst (-1), 1) := dl_h (dl_t dkX3_building_92)
theorem dX3_building_95 : decode cX3_building 95 = .ok (.if_icmp .ne 5, 3) := dl_h (dl_t (dl_t dkX3_building_92))
theorem dX3_building_98 : decode cX3_building 98 = .ok (.iconst (-1), 1) := dl_h (dl_t (dl_t (dl_t dkX3_building_92)))
theorem dX3_building_99 : decode cX3_building 99 = .ok (.ireturn, 1) := dl_h (dl_t (dl_t (dl_t (dl_t dkX3_building_92))))
theorem dX3_building_100 : decode cX3_building 100 = .ok (.aload_n 0, 1) := dl_h (dl_t (dl_t (dl_t (dl_t (dl_t dkX3_building_92)))))
theorem dX3_building_101 : decode cX3_building 101 = .ok (.getfield 33, 3) := dl_h (dl_t (dl_t (dl_t (dl_t (dl_t (dl_t dkX3_building_92))))))
theorem dX3_building_104 : decode cX3_building 104 = .ok (.iload 4, 2) := dl_h (dl_t (dl_t (dl_t (dl_t (dl_t (dl_t (dl_t dkX3_building_92)))))))
theorem dX3_building_106 : decode cX3_building 106 = .ok (.iload 6, 2) := dl_h (dl_t (dl_t (dl_t (dl_t (dl_t (dl_t (dl_t (dl_t dkX3_building_92))))))))
theorem dX3_building_108 : decode cX3_building 108 = .ok (.iastore, 1) := dl_h (dl_t (dl_t (dl_t (dl_t (dl_t (dl_t (dl_t (dl_t (dl_t dkX3_building_92)))))))))
theorem dkX3_building_109 : dl_L cX3_building [(109, .aload_n 0, 1), (110, .aload_n 1, 1), (111, .iload 4, 2), (113, .invokevirtual 241, 3), (116, .iinc 4 1, 3), (119, .goto (-106), 3), (122, .aload_n 0, 1), (123, .aload_n 0, 1), (124, .getfield 33, 3), (127, .iload_n 3, 1)] = true := by decide +kernel
theorem dX3_building_109 : decode cX3_building 109 = .ok (.aload_n 0, 1) := dl_h dkX3_building_109
theorem dX3_building_110 : decode cX3_building 110 = .ok (.aload_n 1, 1) := dl_h (dl_t dkX3_building_109)
theorem dX3_building_111 : decode cX3_building 111 = .ok (.iload 4, 2) := dl_h (dl_t (dl_t dkX3_building_109))
theorem dX3_building_113 : decode cX3_building 113 = .ok (.invokevirtual 241, 3) := dl_h (dl_t (dl_t (dl_t dkX3_building_109)))
theorem dX3_building_116 : decode cX3_building 116 = .ok (.iinc 4 1, 3) := dl_h (dl_t (dl_t (dl_t (dl_t dkX3_building_109))))
theorem dX3_building_119 : decode cX3_building 119 = .ok (.goto (-106), 3) := dl_h (dl_t (dl_t (dl_t (dl_t (dl_t dkX3_building_109)))))
theorem dX3_building_122 : decode cX3_building 122 = .ok (.aload_n 0, 1) := dl_h (dl_t (dl_t (dl_t (dl_t (dl_t (dl_t dkX3_building_109))))))
theorem dX3_building_123 : decode cX3_building 123 = .ok (.aload_n 0, 1) := dl_h (dl_t (dl_t (dl_t (dl_t (dl_t (dl_t (dl_t dkX3_building_109)))))))
theorem dX3_building_124 : decode cX3_building 124 = .ok (.getfield 33, 3) := dl_h (dl_t (dl_t (dl_t (dl_t (dl_t (dl_t (dl_t (dl_t dkX3_building_109))))))))
theorem dX3_building_127 : decode cX3_building 127 = .ok (.iload_n 3, 1) := dl_h (dl_t (dl_t (dl_t (dl_t (dl_t (dl_t (dl_t (dl_t (dl_t dkX3_building_109)))))))))
theorem dkX3_building_128 : dl_L cX3_building [(128, .iaload, 1), (129, .invokevirtual 149, 3), (132, .istore 4, 2), (134, .aload_n 0, 1), (135, .getfield 33, 3), (138, .iload_n 3, 1), (139, .iconst (-1), 1), (140, .iastore, 1), (141, .iload 4, 2), (143, .ireturn, 1)] = true := by decide +kernel
theorem dX3_building_128 : decode cX3_building 128 = .ok (.iaload, 1) := dl_h dkX3_building_128
theorem dX3_building_129 : decode cX3_building 129 = .ok (.invokevirtual 149, 3) := dl_h (dl_t dkX3_building_128)
theorem dX3_building_132 : decode cX3_building 132 = .ok (.istore 4, 2) := dl_h (dl_t (dl_t dkX3_building_128))
theorem dX3_building_134 : decode cX3_building 134 = .ok (.aload_n 0, 1) := dl_h (dl_t (dl_t (dl_t dkX3_building_128)))
theorem dX3_building_135 : decode cX3_building 135 = .ok (.getfield 33, 3) := dl_h (dl_t (dl_t (dl_t (dl_t dkX3_building_128))))
theorem dX3_building_138 : decode cX3_building 138 = .ok (.iload_n 3, 1) := dl_h (dl_t (dl_t (dl_t (dl_t (dl_t dkX3_building_128)))))
theorem dX3_building_139 : decode cX3_building 139 = .ok (.iconst (-1), 1) := dl_h (dl_t (dl_t (dl_t (dl_t (dl_t (dl_t dkX3_building_128))))))
theorem dX3_building_140 : decode cX3_building 140 = .ok (.iastore, 1) := dl_h (dl_t (dl_t (dl_t (dl_t (dl_t (dl_t (dl_t dkX3_building_128)))))))
theorem dX3_building_141 : decode cX3_building 141 = .ok (.iload 4, 2) := dl_h (dl_t (dl_t (dl_t (dl_t (dl_t (dl_t (dl_t (dl_t dkX3_building_128))))))))
theorem dX3_building_143 : decode cX3_building 143 = .ok (.ireturn, 1) := dl_h (dl_t (dl_t (dl_t (dl_t (dl_t (dl_t (dl_t (dl_t (dl_t dkX3_building_128)))))))))
theorem dkX3_madeFor_0 : dl_L cX3_madeFor [(0, .iload_n 3, 1), (1, .getstatic 245, 3), (4, .aload_n 1, 1), (5, .iload_n 2, 1), (6, .invokevirtual 231, 3), (9, .iaload, 1), (10, .if_icmp .ge 17, 3), (13, .aload_n 0, 1), (14, .getfield 33, 3), (17, .aload_n 1, 1)] = true := by decide +kernel
theorem dX3_madeFor_0 : decode cX3_madeFor 0 = .ok (.iload_n 3, 1) := dl_h dkX3_madeFor_0
theorem dX3_madeFor_1 : decode cX3_madeFor 1 = .ok (.getstatic 245, 3) := dl_h (dl_t dkX3_madeFor_0)
theorem dX3_madeFor_4 : decode cX3_madeFor 4 = .ok (.aload_n 1, 1) := dl_h (dl_t (dl_t dkX3_madeFor_0))
theorem dX3_madeFor_5 : decode cX3_madeFor 5 = .ok (.iload_n 2, 1) := dl_h (dl_t (dl_t (dl_t dkX3_madeFor_0)))
theorem dX3_madeFor_6 : decode cX3_madeFor 6 = .ok (.invokevirtual 231, 3) := dl_h (dl_t (dl_t (dl_t (dl_t dkX3_madeFor_0))))
theorem dX3_madeFor_9 : decode cX3_madeFor 9 = .ok (.iaload, 1) := dl_h (dl_t (dl_t (dl_t (dl_t (dl_t dkX3_madeFor_0)))))
theorem dX3_madeFor_10 : decode cX3_madeFor 10 = .ok (.if_icmp .ge 17, 3) := dl_h (dl_t (dl_t (dl_t (dl_t (dl_t (dl_t dkX3_madeFor_0))))))
theorem dX3_madeFor_13 : decode cX3_madeFor 13 = .ok (.aload_n 0, 1) := dl_h (dl_t (dl_t (dl_t (dl_t (dl_t (dl_t (dl_t dkX3_madeFor_0)))))))
theorem dX3_madeFor_14 : decode cX3_madeFor 14 = .ok (.getfield 33, 3) := dl_h (dl_t (dl_t (dl_t (dl_t (dl_t (dl_t (dl_t (dl_t dkX3_madeFor_0))))))))
theorem dX3_madeFor_17 : decode cX3_madeFor 17 = .ok (.aload_n 1, 1) := dl_h (dl_t (dl_t (dl_t (dl_t (dl_t (dl_t (dl_t (dl_t (dl_t dkX3_madeFor_0)))))))))
theorem dkX3_madeFor_18 : dl_L cX3_madeFor [(18, .iload_n 2, 1), (19, .iload_n 3, 1), (20, .invokevirtual 234, 3), (23, .iaload, 1), (24, .goto 4, 3), (27, .iconst 0, 1), (28, .ireturn, 1)] = true := by decide +kernel
theorem dX3_madeFor_18 : decode cX3_madeFor 18 = .ok (.iload_n 2, 1) := dl_h dkX3_madeFor_18
theorem dX3_madeFor_19 : decode cX3_madeFor 19 = .ok (.iload_n 3, 1) := dl_h (dl_t dkX3_madeFor_18)
theorem dX3_madeFor_20 : decode cX3_madeFor 20 = .ok (.invokevirtual 234, 3) := dl_h (dl_t (dl_t dkX3_madeFor_18))
theorem dX3_madeFor_23 : decode cX3_madeFor 23 = .ok (.iaload, 1) := dl_h (dl_t (dl_t (dl_t dkX3_madeFor_18)))
theorem dX3_madeFor_24 : decode cX3_madeFor 24 = .ok (.goto 4, 3) := dl_h (dl_t (dl_t (dl_t (dl_t dkX3_madeFor_18))))
theorem dX3_madeFor_27 : decode cX3_madeFor 27 = .ok (.iconst 0, 1) := dl_h (dl_t (dl_t (dl_t (dl_t (dl_t dkX3_madeFor_18)))))
theorem dX3_madeFor_28 : decode cX3_madeFor 28 = .ok (.ireturn, 1) := dl_h (dl_t (dl_t (dl_t (dl_t (dl_t (dl_t dkX3_madeFor_18))))))
theorem dkX3_letGoBehind_0 : dl_L cX3_letGoBehind [(0, .getstatic 245, 3), (3, .aload_n 1, 1), (4, .iload_n 2, 1), (5, .invokevirtual 231, 3), (8, .iaload, 1), (9, .istore_n 3, 1), (10, .iconst 0, 1), (11, .istore 4, 2), (13, .iload 4, 2), (15, .iload_n 3, 1)] = true := by decide +kernel
theorem dX3_letGoBehind_0 : decode cX3_letGoBehind 0 = .ok (.getstatic 245, 3) := dl_h dkX3_letGoBehind_0
theorem dX3_letGoBehind_3 : decode cX3_letGoBehind 3 = .ok (.aload_n 1, 1) := dl_h (dl_t dkX3_letGoBehind_0)
theorem dX3_letGoBehind_4 : decode cX3_letGoBehind 4 = .ok (.iload_n 2, 1) := dl_h (dl_t (dl_t dkX3_letGoBehind_0))
theorem dX3_letGoBehind_5 : decode cX3_letGoBehind 5 = .ok (.invokevirtual 231, 3) := dl_h (dl_t (dl_t (dl_t dkX3_letGoBehind_0)))
theorem dX3_letGoBehind_8 : decode cX3_letGoBehind 8 = .ok (.iaload, 1) := dl_h (dl_t (dl_t (dl_t (dl_t dkX3_letGoBehind_0))))
theorem dX3_letGoBehind_9 : decode cX3_letGoBehind 9 = .ok (.istore_n 3, 1) := dl_h (dl_t (dl_t (dl_t (dl_t (dl_t dkX3_letGoBehind_0)))))
theorem dX3_letGoBehind_10 : decode cX3_letGoBehind 10 = .ok (.iconst 0, 1) := dl_h (dl_t (dl_t (dl_t (dl_t (dl_t (dl_t dkX3_letGoBehind_0))))))
theorem dX3_letGoBehind_11 : decode cX3_letGoBehind 11 = .ok (.istore 4, 2) := dl_h (dl_t (dl_t (dl_t (dl_t (dl_t (dl_t (dl_t dkX3_letGoBehind_0)))))))
theorem dX3_letGoBehind_13 : decode cX3_letGoBehind 13 = .ok (.iload 4, 2) := dl_h (dl_t (dl_t (dl_t (dl_t (dl_t (dl_t (dl_t (dl_t dkX3_letGoBehind_0))))))))
theorem dX3_letGoBehind_15 : decode cX3_letGoBehind 15 = .ok (.iload_n 3, 1) := dl_h (dl_t (dl_t (dl_t (dl_t (dl_t (dl_t (dl_t (dl_t (dl_t dkX3_letGoBehind_0)))))))))
theorem dkX3_letGoBehind_16 : dl_L cX3_letGoBehind [(16, .if_icmp .ge 37, 3), (19, .aload_n 1, 1), (20, .iload_n 2, 1), (21, .iload 4, 2), (23, .invokevirtual 234, 3), (26, .istore 5, 2), (28, .aload_n 0, 1), (29, .getfield 36, 3), (32, .iload 5, 2), (34, .iaload, 1)] = true := by decide +kernel
theorem dX3_letGoBehind_16 : decode cX3_letGoBehind 16 = .ok (.if_icmp .ge 37, 3) := dl_h dkX3_letGoBehind_16
theorem dX3_letGoBehind_19 : decode cX3_letGoBehind 19 = .ok (.aload_n 1, 1) := dl_h (dl_t dkX3_letGoBehind_16)
theorem dX3_letGoBehind_20 : decode cX3_letGoBehind 20 = .ok (.iload_n 2, 1) := dl_h (dl_t (dl_t dkX3_letGoBehind_16))
theorem dX3_letGoBehind_21 : decode cX3_letGoBehind 21 = .ok (.iload 4, 2) := dl_h (dl_t (dl_t (dl_t dkX3_letGoBehind_16)))
theorem dX3_letGoBehind_23 : decode cX3_letGoBehind 23 = .ok (.invokevirtual 234, 3) := dl_h (dl_t (dl_t (dl_t (dl_t dkX3_letGoBehind_16))))
theorem dX3_letGoBehind_26 : decode cX3_letGoBehind 26 = .ok (.istore 5, 2) := dl_h (dl_t (dl_t (dl_t (dl_t (dl_t dkX3_letGoBehind_16)))))
theorem dX3_letGoBehind_28 : decode cX3_letGoBehind 28 = .ok (.aload_n 0, 1) := dl_h (dl_t (dl_t (dl_t (dl_t (dl_t (dl_t dkX3_letGoBehind_16))))))
theorem dX3_letGoBehind_29 : decode cX3_letGoBehind 29 = .ok (.getfield 36, 3) := dl_h (dl_t (dl_t (dl_t (dl_t (dl_t (dl_t (dl_t dkX3_letGoBehind_16)))))))
theorem dX3_letGoBehind_32 : decode cX3_letGoBehind 32 = .ok (.iload 5, 2) := dl_h (dl_t (dl_t (dl_t (dl_t (dl_t (dl_t (dl_t (dl_t dkX3_letGoBehind_16))))))))
theorem dX3_letGoBehind_34 : decode cX3_letGoBehind 34 = .ok (.iaload, 1) := dl_h (dl_t (dl_t (dl_t (dl_t (dl_t (dl_t (dl_t (dl_t (dl_t dkX3_letGoBehind_16)))))))))
theorem dkX3_letGoBehind_35 : dl_L cX3_letGoBehind [(35, .iload_n 2, 1), (36, .if_icmp .ne 11, 3), (39, .aload_n 0, 1), (40, .getfield 33, 3), (43, .iload 5, 2), (45, .iconst (-1), 1), (46, .iastore, 1), (47, .iinc 4 1, 3), (50, .goto (-37), 3), (53, .return_, 1)] = true := by decide +kernel
theorem dX3_letGoBehind_35 : decode cX3_letGoBehind 35 = .ok (.iload_n 2, 1) := dl_h dkX3_letGoBehind_35
theorem dX3_letGoBehind_36 : decode cX3_letGoBehind 36 = .ok (.if_icmp .ne 11, 3) := dl_h (dl_t dkX3_letGoBehind_35)
theorem dX3_letGoBehind_39 : decode cX3_letGoBehind 39 = .ok (.aload_n 0, 1) := dl_h (dl_t (dl_t dkX3_letGoBehind_35))
theorem dX3_letGoBehind_40 : decode cX3_letGoBehind 40 = .ok (.getfield 33, 3) := dl_h (dl_t (dl_t (dl_t dkX3_letGoBehind_35)))
theorem dX3_letGoBehind_43 : decode cX3_letGoBehind 43 = .ok (.iload 5, 2) := dl_h (dl_t (dl_t (dl_t (dl_t dkX3_letGoBehind_35))))
theorem dX3_letGoBehind_45 : decode cX3_letGoBehind 45 = .ok (.iconst (-1), 1) := dl_h (dl_t (dl_t (dl_t (dl_t (dl_t dkX3_letGoBehind_35)))))
theorem dX3_letGoBehind_46 : decode cX3_letGoBehind 46 = .ok (.iastore, 1) := dl_h (dl_t (dl_t (dl_t (dl_t (dl_t (dl_t dkX3_letGoBehind_35))))))
theorem dX3_letGoBehind_47 : decode cX3_letGoBehind 47 = .ok (.iinc 4 1, 3) := dl_h (dl_t (dl_t (dl_t (dl_t (dl_t (dl_t (dl_t dkX3_letGoBehind_35)))))))
theorem dX3_letGoBehind_50 : decode cX3_letGoBehind 50 = .ok (.goto (-37), 3) := dl_h (dl_t (dl_t (dl_t (dl_t (dl_t (dl_t (dl_t (dl_t dkX3_letGoBehind_35))))))))
theorem dX3_letGoBehind_53 : decode cX3_letGoBehind 53 = .ok (.return_, 1) := dl_h (dl_t (dl_t (dl_t (dl_t (dl_t (dl_t (dl_t (dl_t (dl_t dkX3_letGoBehind_35)))))))))
theorem dkX3_notePart_0 : dl_L cX3_notePart [(0, .iload_n 2, 1), (1, .iconst (-1), 1), (2, .if_icmp .eq 29, 3), (5, .iload_n 2, 1), (6, .ifCond .eq 25, 3), (9, .aload_n 0, 1), (10, .iload_n 1, 1), (11, .putfield 49, 3), (14, .aload_n 0, 1), (15, .aload_n 0, 1)] = true := by decide +kernel
theorem dX3_notePart_0 : decode cX3_notePart 0 = .ok (.iload_n 2, 1) := dl_h dkX3_notePart_0
theorem dX3_notePart_1 : decode cX3_notePart 1 = .ok (.iconst (-1), 1) := dl_h (dl_t dkX3_notePart_0)
theorem dX3_notePart_2 : decode cX3_notePart 2 = .ok (.if_icmp .eq 29, 3) := dl_h (dl_t (dl_t dkX3_notePart_0))
theorem dX3_notePart_5 : decode cX3_notePart 5 = .ok (.iload_n 2, 1) := dl_h (dl_t (dl_t (dl_t dkX3_notePart_0)))
theorem dX3_notePart_6 : decode cX3_notePart 6 = .ok (.ifCond .eq 25, 3) := dl_h (dl_t (dl_t (dl_t (dl_t dkX3_notePart_0))))
theorem dX3_notePart_9 : decode cX3_notePart 9 = .ok (.aload_n 0, 1) := dl_h (dl_t (dl_t (dl_t (dl_t (dl_t dkX3_notePart_0)))))
theorem dX3_notePart_10 : decode cX3_notePart 10 = .ok (.iload_n 1, 1) := dl_h (dl_t (dl_t (dl_t (dl_t (dl_t (dl_t dkX3_notePart_0))))))
theorem dX3_notePart_11 : decode cX3_notePart 11 = .ok (.putfield 49, 3) := dl_h (dl_t (dl_t (dl_t (dl_t (dl_t (dl_t (dl_t dkX3_notePart_0)))))))
theorem dX3_notePart_14 : decode cX3_notePart 14 = .ok (.aload_n 0, 1) := dl_h (dl_t (dl_t (dl_t (dl_t (dl_t (dl_t (dl_t (dl_t dkX3_notePart_0))))))))
theorem dX3_notePart_15 : decode cX3_notePart 15 = .ok (.aload_n 0, 1) := dl_h (dl_t (dl_t (dl_t (dl_t (dl_t (dl_t (dl_t (dl_t (dl_t dkX3_notePart_0)))))))))
theorem dkX3_notePart_16 : dl_L cX3_notePart [(16, .getfield 25, 3), (19, .iload_n 2, 1), (20, .iconst 1, 1), (21, .aload_n 0, 1), (22, .getfield 18, 3), (25, .invokevirtual 175, 3), (28, .putfield 52, 3), (31, .return_, 1)] = true := by decide +kernel
theorem dX3_notePart_16 : decode cX3_notePart 16 = .ok (.getfield 25, 3) := dl_h dkX3_notePart_16
theorem dX3_notePart_19 : decode cX3_notePart 19 = .ok (.iload_n 2, 1) := dl_h (dl_t dkX3_notePart_16)
theorem dX3_notePart_20 : decode cX3_notePart 20 = .ok (.iconst 1, 1) := dl_h (dl_t (dl_t dkX3_notePart_16))
theorem dX3_notePart_21 : decode cX3_notePart 21 = .ok (.aload_n 0, 1) := dl_h (dl_t (dl_t (dl_t dkX3_notePart_16)))
theorem dX3_notePart_22 : decode cX3_notePart 22 = .ok (.getfield 18, 3) := dl_h (dl_t (dl_t (dl_t (dl_t dkX3_notePart_16))))
theorem dX3_notePart_25 : decode cX3_notePart 25 = .ok (.invokevirtual 175, 3) := dl_h (dl_t (dl_t (dl_t (dl_t (dl_t dkX3_notePart_16)))))
theorem dX3_notePart_28 : decode cX3_notePart 28 = .ok (.putfield 52, 3) := dl_h (dl_t (dl_t (dl_t (dl_t (dl_t (dl_t dkX3_notePart_16))))))
theorem dX3_notePart_31 : decode cX3_notePart 31 = .ok (.return_, 1) := dl_h (dl_t (dl_t (dl_t (dl_t (dl_t (dl_t (dl_t dkX3_notePart_16)))))))
