theorem dX0_init_0 : decode cX0_init 0 = .ok (.aload_n 0, 1) := by decide +kernel
theorem dX0_init_1 : decode cX0_init 1 = .ok (.invokespecial 1, 3) := by decide +kernel
theorem dX0_init_4 : decode cX0_init 4 = .ok (.aload_n 0, 1) := by decide +kernel
theorem dX0_init_5 : decode cX0_init 5 = .ok (.iload_n 1, 1) := by decide +kernel
theorem dX0_init_6 : decode cX0_init 6 = .ok (.putfield 7, 3) := by decide +kernel
theorem dX0_init_9 : decode cX0_init 9 = .ok (.aload_n 0, 1) := by decide +kernel
theorem dX0_init_10 : decode cX0_init 10 = .ok (.iload_n 2, 1) := by decide +kernel
theorem dX0_init_11 : decode cX0_init 11 = .ok (.putfield 13, 3) := by decide +kernel
theorem dX0_init_14 : decode cX0_init 14 = .ok (.aload_n 0, 1) := by decide +kernel
theorem dX0_init_15 : decode cX0_init 15 = .ok (.lload_n 3, 1) := by decide +kernel
theorem dX0_init_16 : decode cX0_init 16 = .ok (.putfield 16, 3) := by decide +kernel
theorem dX0_init_19 : decode cX0_init 19 = .ok (.aload_n 0, 1) := by decide +kernel
theorem dX0_init_20 : decode cX0_init 20 = .ok (.lload 5, 2) := by decide +kernel
theorem dX0_init_22 : decode cX0_init 22 = .ok (.putfield 20, 3) := by decide +kernel
theorem dX0_init_25 : decode cX0_init 25 = .ok (.return_, 1) := by decide +kernel
theorem dX0_isHeldBy_0 : decode cX0_isHeldBy 0 = .ok (.aload_n 0, 1) := by decide +kernel
theorem dX0_isHeldBy_1 : decode cX0_isHeldBy 1 = .ok (.getfield 7, 3) := by decide +kernel
theorem dX0_isHeldBy_4 : decode cX0_isHeldBy 4 = .ok (.iload_n 1, 1) := by decide +kernel
theorem dX0_isHeldBy_5 : decode cX0_isHeldBy 5 = .ok (.if_icmp .ne 33, 3) := by decide +kernel
theorem dX0_isHeldBy_8 : decode cX0_isHeldBy 8 = .ok (.aload_n 0, 1) := by decide +kernel
theorem dX0_isHeldBy_9 : decode cX0_isHeldBy 9 = .ok (.getfield 13, 3) := by decide +kernel
theorem dX0_isHeldBy_12 : decode cX0_isHeldBy 12 = .ok (.iload_n 2, 1) := by decide +kernel
theorem dX0_isHeldBy_13 : decode cX0_isHeldBy 13 = .ok (.if_icmp .ne 25, 3) := by decide +kernel
theorem dX0_isHeldBy_16 : decode cX0_isHeldBy 16 = .ok (.aload_n 0, 1) := by decide +kernel
theorem dX0_isHeldBy_17 : decode cX0_isHeldBy 17 = .ok (.getfield 16, 3) := by decide +kernel
theorem dX0_isHeldBy_20 : decode cX0_isHeldBy 20 = .ok (.lload_n 3, 1) := by decide +kernel
theorem dX0_isHeldBy_21 : decode cX0_isHeldBy 21 = .ok (.lcmp, 1) := by decide +kernel
theorem dX0_isHeldBy_22 : decode cX0_isHeldBy 22 = .ok (.ifCond .gt 16, 3) := by decide +kernel
theorem dX0_isHeldBy_25 : decode cX0_isHeldBy 25 = .ok (.lload_n 3, 1) := by decide +kernel
theorem dX0_isHeldBy_26 : decode cX0_isHeldBy 26 = .ok (.aload_n 0, 1) := by decide +kernel
theorem dX0_isHeldBy_27 : decode cX0_isHeldBy 27 = .ok (.getfield 20, 3) := by decide +kernel
theorem dX0_isHeldBy_30 : decode cX0_isHeldBy 30 = .ok (.lcmp, 1) := by decide +kernel
theorem dX0_isHeldBy_31 : decode cX0_isHeldBy 31 = .ok (.ifCond .gt 7, 3) := by decide +kernel
theorem dX0_isHeldBy_34 : decode cX0_isHeldBy 34 = .ok (.iconst 1, 1) := by decide +kernel
theorem dX0_isHeldBy_35 : decode cX0_isHeldBy 35 = .ok (.goto 4, 3) := by decide +kernel
theorem dX0_isHeldBy_38 : decode cX0_isHeldBy 38 = .ok (.iconst 0, 1) := by decide +kernel
theorem dX0_isHeldBy_39 : decode cX0_isHeldBy 39 = .ok (.ireturn, 1) := by decide +kernel
theorem dX1_init_0 : decode cX1_init 0 = .ok (.aload_n 0, 1) := by decide +kernel
theorem dX1_init_1 : decode cX1_init 1 = .ok (.invokespecial 3, 3) := by decide +kernel
theorem dX1_init_4 : decode cX1_init 4 = .ok (.aload_n 0, 1) := by decide +kernel
theorem dX1_init_5 : decode cX1_init 5 = .ok (.bipush 8, 2) := by decide +kernel
theorem dX1_init_7 : decode cX1_init 7 = .ok (.newarray .int, 2) := by decide +kernel
theorem dX1_init_9 : decode cX1_init 9 = .ok (.putfield 9, 3) := by decide +kernel
theorem dX1_init_12 : decode cX1_init 12 = .ok (.aload_n 0, 1) := by decide +kernel
theorem dX1_init_13 : decode cX1_init 13 = .ok (.bipush 64, 2) := by decide +kernel
theorem dX1_init_15 : decode cX1_init 15 = .ok (.newarray .int, 2) := by decide +kernel
theorem dX1_init_17 : decode cX1_init 17 = .ok (.putfield 15, 3) := by decide +kernel
theorem dX1_init_20 : decode cX1_init 20 = .ok (.return_, 1) := by decide +kernel
theorem dX1_hashBytes_0 : decode cX1_hashBytes 0 = .ok (.getstatic 18, 3) := by decide +kernel
theorem dX1_hashBytes_3 : decode cX1_hashBytes 3 = .ok (.aload_n 0, 1) := by decide +kernel
theorem dX1_hashBytes_4 : decode cX1_hashBytes 4 = .ok (.getfield 9, 3) := by decide +kernel
theorem dX1_hashBytes_7 : decode cX1_hashBytes 7 = .ok (.invokestatic 21, 3) := by decide +kernel
theorem dX1_hashBytes_10 : decode cX1_hashBytes 10 = .ok (.iload_n 2, 1) := by decide +kernel
theorem dX1_hashBytes_11 : decode cX1_hashBytes 11 = .ok (.bipush 8, 2) := by decide +kernel
theorem dX1_hashBytes_13 : decode cX1_hashBytes 13 = .ok (.iadd, 1) := by decide +kernel
theorem dX1_hashBytes_14 : decode cX1_hashBytes 14 = .ok (.bipush 64, 2) := by decide +kernel
theorem dX1_hashBytes_16 : decode cX1_hashBytes 16 = .ok (.idiv, 1) := by decide +kernel
theorem dX1_hashBytes_17 : decode cX1_hashBytes 17 = .ok (.iconst 1, 1) := by decide +kernel
theorem dX1_hashBytes_18 : decode cX1_hashBytes 18 = .ok (.iadd, 1) := by decide +kernel
theorem dX1_hashBytes_19 : decode cX1_hashBytes 19 = .ok (.istore_n 3, 1) := by decide +kernel
theorem dX1_hashBytes_20 : decode cX1_hashBytes 20 = .ok (.iconst 0, 1) := by decide +kernel
theorem dX1_hashBytes_21 : decode cX1_hashBytes 21 = .ok (.istore 4, 2) := by decide +kernel
theorem dX1_hashBytes_23 : decode cX1_hashBytes 23 = .ok (.iload 4, 2) := by decide +kernel
theorem dX1_hashBytes_25 : decode cX1_hashBytes 25 = .ok (.iload_n 3, 1) := by decide +kernel
theorem dX1_hashBytes_26 : decode cX1_hashBytes 26 = .ok (.if_icmp .ge 26, 3) := by decide +kernel
theorem dX1_hashBytes_29 : decode cX1_hashBytes 29 = .ok (.aload_n 0, 1) := by decide +kernel
theorem dX1_hashBytes_30 : decode cX1_hashBytes 30 = .ok (.aload_n 1, 1) := by decide +kernel
theorem dX1_hashBytes_31 : decode cX1_hashBytes 31 = .ok (.iload_n 2, 1) := by decide +kernel
theorem dX1_hashBytes_32 : decode cX1_hashBytes 32 = .ok (.iload 4, 2) := by decide +kernel
theorem dX1_hashBytes_34 : decode cX1_hashBytes 34 = .ok (.iload_n 3, 1) := by decide +kernel
theorem dX1_hashBytes_35 : decode cX1_hashBytes 35 = .ok (.invokevirtual 25, 3) := by decide +kernel
theorem dX1_hashBytes_38 : decode cX1_hashBytes 38 = .ok (.aload_n 0, 1) := by decide +kernel
theorem dX1_hashBytes_39 : decode cX1_hashBytes 39 = .ok (.invokevirtual 29, 3) := by decide +kernel
theorem dX1_hashBytes_42 : decode cX1_hashBytes 42 = .ok (.aload_n 0, 1) := by decide +kernel
theorem dX1_hashBytes_43 : decode cX1_hashBytes 43 = .ok (.invokevirtual 32, 3) := by decide +kernel
theorem dX1_hashBytes_46 : decode cX1_hashBytes 46 = .ok (.iinc 4 1, 3) := by decide +kernel
theorem dX1_hashBytes_49 : decode cX1_hashBytes 49 = .ok (.goto (-26), 3) := by decide +kernel
theorem dX1_hashBytes_52 : decode cX1_hashBytes 52 = .ok (.return_, 1) := by decide +kernel
theorem dX1_loadBlock_0 : decode cX1_loadBlock 0 = .ok (.iconst 0, 1) := by decide +kernel
theorem dX1_loadBlock_1 : decode cX1_loadBlock 1 = .ok (.istore 5, 2) := by decide +kernel
theorem dX1_loadBlock_3 : decode cX1_loadBlock 3 = .ok (.iload 5, 2) := by decide +kernel
theorem dX1_loadBlock_5 : decode cX1_loadBlock 5 = .ok (.bipush 16, 2) := by decide +kernel
theorem dX1_loadBlock_7 : decode cX1_loadBlock 7 = .ok (.if_icmp .ge 73, 3) := by decide +kernel
theorem dX1_loadBlock_10 : decode cX1_loadBlock 10 = .ok (.iload_n 3, 1) := by decide +kernel
theorem dX1_loadBlock_11 : decode cX1_loadBlock 11 = .ok (.bipush 64, 2) := by decide +kernel
theorem dX1_loadBlock_13 : decode cX1_loadBlock 13 = .ok (.imul, 1) := by decide +kernel
theorem dX1_loadBlock_14 : decode cX1_loadBlock 14 = .ok (.iconst 4, 1) := by decide +kernel
theorem dX1_loadBlock_15 : decode cX1_loadBlock 15 = .ok (.iload 5, 2) := by decide +kernel
theorem dX1_loadBlock_17 : decode cX1_loadBlock 17 = .ok (.imul, 1) := by decide +kernel
theorem dX1_loadBlock_18 : decode cX1_loadBlock 18 = .ok (.iadd, 1) := by decide +kernel
theorem dX1_loadBlock_19 : decode cX1_loadBlock 19 = .ok (.istore 6, 2) := by decide +kernel
theorem dX1_loadBlock_21 : decode cX1_loadBlock 21 = .ok (.aload_n 0, 1) := by decide +kernel
theorem dX1_loadBlock_22 : decode cX1_loadBlock 22 = .ok (.getfield 15, 3) := by decide +kernel
theorem dX1_loadBlock_25 : decode cX1_loadBlock 25 = .ok (.iload 5, 2) := by decide +kernel
theorem dX1_loadBlock_27 : decode cX1_loadBlock 27 = .ok (.aload_n 1, 1) := by decide +kernel
theorem dX1_loadBlock_28 : decode cX1_loadBlock 28 = .ok (.iload_n 2, 1) := by decide +kernel
theorem dX1_loadBlock_29 : decode cX1_loadBlock 29 = .ok (.iload 6, 2) := by decide +kernel
theorem dX1_loadBlock_31 : decode cX1_loadBlock 31 = .ok (.invokestatic 35, 3) := by decide +kernel
theorem dX1_loadBlock_34 : decode cX1_loadBlock 34 = .ok (.bipush 24, 2) := by decide +kernel
theorem dX1_loadBlock_36 : decode cX1_loadBlock 36 = .ok (.ishl, 1) := by decide +kernel
theorem dX1_loadBlock_37 : decode cX1_loadBlock 37 = .ok (.aload_n 1, 1) := by decide +kernel
theorem dX1_loadBlock_38 : decode cX1_loadBlock 38 = .ok (.iload_n 2, 1) := by decide +kernel
theorem dX1_loadBlock_39 : decode cX1_loadBlock 39 = .ok (.iload 6, 2) := by decide +kernel
theorem dX1_loadBlock_41 : decode cX1_loadBlock 41 = .ok (.iconst 1, 1) := by decide +kernel
theorem dX1_loadBlock_42 : decode cX1_loadBlock 42 = .ok (.iadd, 1) := by decide +kernel
theorem dX1_loadBlock_43 : decode cX1_loadBlock 43 = .ok (.invokestatic 35, 3) := by decide +kernel
theorem dX1_loadBlock_46 : decode cX1_loadBlock 46 = .ok (.bipush 16, 2) := by decide +kernel
theorem dX1_loadBlock_48 : decode cX1_loadBlock 48 = .ok (.ishl, 1) := by decide +kernel
theorem dX1_loadBlock_49 : decode cX1_loadBlock 49 = .ok (.ior, 1) := by decide +kernel
theorem dX1_loadBlock_50 : decode cX1_loadBlock 50 = .ok (.aload_n 1, 1) := by decide +kernel
theorem dX1_loadBlock_51 : decode cX1_loadBlock 51 = .ok (.iload_n 2, 1) := by decide +kernel
theorem dX1_loadBlock_52 : decode cX1_loadBlock 52 = .ok (.iload 6, 2) := by decide +kernel
theorem dX1_loadBlock_54 : decode cX1_loadBlock 54 = .ok (.iconst 2, 1) := by decide +kernel
theorem dX1_loadBlock_55 : decode cX1_loadBlock 55 = .ok (.iadd, 1) := by decide +kernel
theorem dX1_loadBlock_56 : decode cX1_loadBlock 56 = .ok (.invokestatic 35, 3) := by decide +kernel
theorem dX1_loadBlock_59 : decode cX1_loadBlock 59 = .ok (.bipush 8, 2) := by decide +kernel
theorem dX1_loadBlock_61 : decode cX1_loadBlock 61 = .ok (.ishl, 1) := by decide +kernel
theorem dX1_loadBlock_62 : decode cX1_loadBlock 62 = .ok (.ior, 1) := by decide +kernel
theorem dX1_loadBlock_63 : decode cX1_loadBlock 63 = .ok (.aload_n 1, 1) := by decide +kernel
theorem dX1_loadBlock_64 : decode cX1_loadBlock 64 = .ok (.iload_n 2, 1) := by decide +kernel
theorem dX1_loadBlock_65 : decode cX1_loadBlock 65 = .ok (.iload 6, 2) := by decide +kernel
theorem dX1_loadBlock_67 : decode cX1_loadBlock 67 = .ok (.iconst 3, 1) := by decide +kernel
theorem dX1_loadBlock_68 : decode cX1_loadBlock 68 = .ok (.iadd, 1) := by decide +kernel
theorem dX1_loadBlock_69 : decode cX1_loadBlock 69 = .ok (.invokestatic 35, 3) := by decide +kernel
theorem dX1_loadBlock_72 : decode cX1_loadBlock 72 = .ok (.ior, 1) := by decide +kernel
theorem dX1_loadBlock_73 : decode cX1_loadBlock 73 = .ok (.iastore, 1) := by decide +kernel
theorem dX1_loadBlock_74 : decode cX1_loadBlock 74 = .ok (.iinc 5 1, 3) := by decide +kernel
theorem dX1_loadBlock_77 : decode cX1_loadBlock 77 = .ok (.goto (-74), 3) := by decide +kernel
theorem dX1_loadBlock_80 : decode cX1_loadBlock 80 = .ok (.iload_n 3, 1) := by decide +kernel
theorem dX1_loadBlock_81 : decode cX1_loadBlock 81 = .ok (.iload 4, 2) := by decide +kernel
theorem dX1_loadBlock_83 : decode cX1_loadBlock 83 = .ok (.iconst 1, 1) := by decide +kernel
theorem dX1_loadBlock_84 : decode cX1_loadBlock 84 = .ok (.isub, 1) := by decide +kernel
theorem dX1_loadBlock_85 : decode cX1_loadBlock 85 = .ok (.if_icmp .ne 14, 3) := by decide +kernel
theorem dX1_loadBlock_88 : decode cX1_loadBlock 88 = .ok (.aload_n 0, 1) := by decide +kernel
theorem dX1_loadBlock_89 : decode cX1_loadBlock 89 = .ok (.getfield 15, 3) := by decide +kernel
theorem dX1_loadBlock_92 : decode cX1_loadBlock 92 = .ok (.bipush 15, 2) := by decide +kernel
theorem dX1_loadBlock_94 : decode cX1_loadBlock 94 = .ok (.iload_n 2, 1) := by decide +kernel
theorem dX1_loadBlock_95 : decode cX1_loadBlock 95 = .ok (.bipush 8, 2) := by decide +kernel
theorem dX1_loadBlock_97 : decode cX1_loadBlock 97 = .ok (.imul, 1) := by decide +kernel
theorem dX1_loadBlock_98 : decode cX1_loadBlock 98 = .ok (.iastore, 1) := by decide +kernel
theorem dX1_loadBlock_99 : decode cX1_loadBlock 99 = .ok (.return_, 1) := by decide +kernel
theorem dX1_paddedByte_0 : decode cX1_paddedByte 0 = .ok (.iload_n 2, 1) := by decide +kernel
theorem dX1_paddedByte_1 : decode cX1_paddedByte 1 = .ok (.ifCond .lt 22, 3) := by decide +kernel
theorem dX1_paddedByte_4 : decode cX1_paddedByte 4 = .ok (.iload_n 2, 1) := by decide +kernel
theorem dX1_paddedByte_5 : decode cX1_paddedByte 5 = .ok (.iload_n 1, 1) := by decide +kernel
theorem dX1_paddedByte_6 : decode cX1_paddedByte 6 = .ok (.if_icmp .ge 17, 3) := by decide +kernel
theorem dX1_paddedByte_9 : decode cX1_paddedByte 9 = .ok (.iload_n 2, 1) := by decide +kernel
theorem dX1_paddedByte_10 : decode cX1_paddedByte 10 = .ok (.aload_n 0, 1) := by decide +kernel
theorem dX1_paddedByte_11 : decode cX1_paddedByte 11 = .ok (.arraylength, 1) := by decide +kernel
theorem dX1_paddedByte_12 : decode cX1_paddedByte 12 = .ok (.if_icmp .ge 11, 3) := by decide +kernel
theorem dX1_paddedByte_15 : decode cX1_paddedByte 15 = .ok (.aload_n 0, 1) := by decide +kernel
theorem dX1_paddedByte_16 : decode cX1_paddedByte 16 = .ok (.iload_n 2, 1) := by decide +kernel
theorem dX1_paddedByte_17 : decode cX1_paddedByte 17 = .ok (.baload, 1) := by decide +kernel
theorem dX1_paddedByte_18 : decode cX1_paddedByte 18 = .ok (.sipush 255, 3) := by decide +kernel
theorem dX1_paddedByte_21 : decode cX1_paddedByte 21 = .ok (.iand, 1) := by decide +kernel
theorem dX1_paddedByte_22 : decode cX1_paddedByte 22 = .ok (.ireturn, 1) := by decide +kernel
theorem dX1_paddedByte_23 : decode cX1_paddedByte 23 = .ok (.iload_n 2, 1) := by decide +kernel
theorem dX1_paddedByte_24 : decode cX1_paddedByte 24 = .ok (.iload_n 1, 1) := by decide +kernel
theorem dX1_paddedByte_25 : decode cX1_paddedByte 25 = .ok (.if_icmp .ne 9, 3) := by decide +kernel
theorem dX1_paddedByte_28 : decode cX1_paddedByte 28 = .ok (.sipush 128, 3) := by decide +kernel
theorem dX1_paddedByte_31 : decode cX1_paddedByte 31 = .ok (.goto 4, 3) := by decide +kernel
theorem dX1_paddedByte_34 : decode cX1_paddedByte 34 = .ok (.iconst 0, 1) := by decide +kernel
theorem dX1_paddedByte_35 : decode cX1_paddedByte 35 = .ok (.ireturn, 1) := by decide +kernel
theorem dX1_spreadBlock_0 : decode cX1_spreadBlock 0 = .ok (.bipush 16, 2) := by decide +kernel
theorem dX1_spreadBlock_2 : decode cX1_spreadBlock 2 = .ok (.istore_n 1, 1) := by decide +kernel
theorem dX1_spreadBlock_3 : decode cX1_spreadBlock 3 = .ok (.iload_n 1, 1) := by decide +kernel
theorem dX1_spreadBlock_4 : decode cX1_spreadBlock 4 = .ok (.bipush 64, 2) := by decide +kernel
theorem dX1_spreadBlock_6 : decode cX1_spreadBlock 6 = .ok (.if_icmp .ge 98, 3) := by decide +kernel
theorem dX1_spreadBlock_9 : decode cX1_spreadBlock 9 = .ok (.aload_n 0, 1) := by decide +kernel
theorem dX1_spreadBlock_10 : decode cX1_spreadBlock 10 = .ok (.getfield 15, 3) := by decide +kernel
theorem dX1_spreadBlock_13 : decode cX1_spreadBlock 13 = .ok (.iload_n 1, 1) := by decide +kernel
theorem dX1_spreadBlock_14 : decode cX1_spreadBlock 14 = .ok (.iconst 2, 1) := by decide +kernel
theorem dX1_spreadBlock_15 : decode cX1_spreadBlock 15 = .ok (.isub, 1) := by decide +kernel
theorem dX1_spreadBlock_16 : decode cX1_spreadBlock 16 = .ok (.iaload, 1) := by decide +kernel
theorem dX1_spreadBlock_17 : decode cX1_spreadBlock 17 = .ok (.istore_n 2, 1) := by decide +kernel
theorem dX1_spreadBlock_18 : decode cX1_spreadBlock 18 = .ok (.aload_n 0, 1) := by decide +kernel
theorem dX1_spreadBlock_19 : decode cX1_spreadBlock 19 = .ok (.getfield 15, 3) := by decide +kernel
theorem dX1_spreadBlock_22 : decode cX1_spreadBlock 22 = .ok (.iload_n 1, 1) := by decide +kernel
theorem dX1_spreadBlock_23 : decode cX1_spreadBlock 23 = .ok (.bipush 15, 2) := by decide +kernel
theorem dX1_spreadBlock_25 : decode cX1_spreadBlock 25 = .ok (.isub, 1) := by decide +kernel
theorem dX1_spreadBlock_26 : decode cX1_spreadBlock 26 = .ok (.iaload, 1) := by decide +kernel
theorem dX1_spreadBlock_27 : decode cX1_spreadBlock 27 = .ok (.istore_n 3, 1) := by decide +kernel
theorem dX1_spreadBlock_28 : decode cX1_spreadBlock 28 = .ok (.iload_n 2, 1) := by decide +kernel
theorem dX1_spreadBlock_29 : decode cX1_spreadBlock 29 = .ok (.bipush 17, 2) := by decide +kernel
theorem dX1_spreadBlock_31 : decode cX1_spreadBlock 31 = .ok (.invokestatic 39, 3) := by decide +kernel
theorem dX1_spreadBlock_34 : decode cX1_spreadBlock 34 = .ok (.iload_n 2, 1) := by decide +kernel
theorem dX1_spreadBlock_35 : decode cX1_spreadBlock 35 = .ok (.bipush 19, 2) := by decide +kernel
theorem dX1_spreadBlock_37 : decode cX1_spreadBlock 37 = .ok (.invokestatic 39, 3) := by decide +kernel
theorem dX1_spreadBlock_40 : decode cX1_spreadBlock 40 = .ok (.ixor, 1) := by decide +kernel
theorem dX1_spreadBlock_41 : decode cX1_spreadBlock 41 = .ok (.iload_n 2, 1) := by decide +kernel
theorem dX1_spreadBlock_42 : decode cX1_spreadBlock 42 = .ok (.bipush 10, 2) := by decide +kernel
theorem dX1_spreadBlock_44 : decode cX1_spreadBlock 44 = .ok (.iushr, 1) := by decide +kernel
theorem dX1_spreadBlock_45 : decode cX1_spreadBlock 45 = .ok (.ixor, 1) := by decide +kernel
theorem dX1_spreadBlock_46 : decode cX1_spreadBlock 46 = .ok (.istore 4, 2) := by decide +kernel
theorem dX1_spreadBlock_48 : decode cX1_spreadBlock 48 = .ok (.iload_n 3, 1) := by decide +kernel
theorem dX1_spreadBlock_49 : decode cX1_spreadBlock 49 = .ok (.bipush 7, 2) := by decide +kernel
theorem dX1_spreadBlock_51 : decode cX1_spreadBlock 51 = .ok (.invokestatic 39, 3) := by decide +kernel
theorem dX1_spreadBlock_54 : decode cX1_spreadBlock 54 = .ok (.iload_n 3, 1) := by decide +kernel
theorem dX1_spreadBlock_55 : decode cX1_spreadBlock 55 = .ok (.bipush 18, 2) := by decide +kernel
theorem dX1_spreadBlock_57 : decode cX1_spreadBlock 57 = .ok (.invokestatic 39, 3) := by decide +kernel
theorem dX1_spreadBlock_60 : decode cX1_spreadBlock 60 = .ok (.ixor, 1) := by decide +kernel
theorem dX1_spreadBlock_61 : decode cX1_spreadBlock 61 = .ok (.iload_n 3, 1) := by decide +kernel
theorem dX1_spreadBlock_62 : decode cX1_spreadBlock 62 = .ok (.iconst 3, 1) := by decide +kernel
theorem dX1_spreadBlock_63 : decode cX1_spreadBlock 63 = .ok (.iushr, 1) := by decide +kernel
theorem dX1_spreadBlock_64 : decode cX1_spreadBlock 64 = .ok (.ixor, 1) := by decide +kernel
theorem dX1_spreadBlock_65 : decode cX1_spreadBlock 65 = .ok (.istore 5, 2) := by decide +kernel
theorem dX1_spreadBlock_67 : decode cX1_spreadBlock 67 = .ok (.aload_n 0, 1) := by decide +kernel
theorem dX1_spreadBlock_68 : decode cX1_spreadBlock 68 = .ok (.getfield 15, 3) := by decide +kernel
theorem dX1_spreadBlock_71 : decode cX1_spreadBlock 71 = .ok (.iload_n 1, 1) := by decide +kernel
theorem dX1_spreadBlock_72 : decode cX1_spreadBlock 72 = .ok (.iload 4, 2) := by decide +kernel
theorem dX1_spreadBlock_74 : decode cX1_spreadBlock 74 = .ok (.aload_n 0, 1) := by decide +kernel
theorem dX1_spreadBlock_75 : decode cX1_spreadBlock 75 = .ok (.getfield 15, 3) := by decide +kernel
theorem dX1_spreadBlock_78 : decode cX1_spreadBlock 78 = .ok (.iload_n 1, 1) := by decide +kernel
theorem dX1_spreadBlock_79 : decode cX1_spreadBlock 79 = .ok (.bipush 7, 2) := by decide +kernel
theorem dX1_spreadBlock_81 : decode cX1_spreadBlock 81 = .ok (.isub, 1) := by decide +kernel
theorem dX1_spreadBlock_82 : decode cX1_spreadBlock 82 = .ok (.iaload, 1) := by decide +kernel
theorem dX1_spreadBlock_83 : decode cX1_spreadBlock 83 = .ok (.iadd, 1) := by decide +kernel
theorem dX1_spreadBlock_84 : decode cX1_spreadBlock 84 = .ok (.iload 5, 2) := by decide +kernel
theorem dX1_spreadBlock_86 : decode cX1_spreadBlock 86 = .ok (.iadd, 1) := by decide +kernel
theorem dX1_spreadBlock_87 : decode cX1_spreadBlock 87 = .ok (.aload_n 0, 1) := by decide +kernel
theorem dX1_spreadBlock_88 : decode cX1_spreadBlock 88 = .ok (.getfield 15, 3) := by decide +kernel
theorem dX1_spreadBlock_91 : decode cX1_spreadBlock 91 = .ok (.iload_n 1, 1) := by decide +kernel
theorem dX1_spreadBlock_92 : decode cX1_spreadBlock 92 = .ok (.bipush 16, 2) := by decide +kernel
theorem dX1_spreadBlock_94 : decode cX1_spreadBlock 94 = .ok (.isub, 1) := by decide +kernel
theorem dX1_spreadBlock_95 : decode cX1_spreadBlock 95 = .ok (.iaload, 1) := by decide +kernel
theorem dX1_spreadBlock_96 : decode cX1_spreadBlock 96 = .ok (.iadd, 1) := by decide +kernel
theorem dX1_spreadBlock_97 : decode cX1_spreadBlock 97 = .ok (.iastore, 1) := by decide +kernel
theorem dX1_spreadBlock_98 : decode cX1_spreadBlock 98 = .ok (.iinc 1 1, 3) := by decide +kernel
theorem dX1_spreadBlock_101 : decode cX1_spreadBlock 101 = .ok (.goto (-98), 3) := by decide +kernel
theorem dX1_spreadBlock_104 : decode cX1_spreadBlock 104 = .ok (.return_, 1) := by decide +kernel
theorem dX1_mixBlock_0 : decode cX1_mixBlock 0 = .ok (.aload_n 0, 1) := by decide +kernel
theorem dX1_mixBlock_1 : decode cX1_mixBlock 1 = .ok (.getfield 9, 3) := by decide +kernel
theorem dX1_mixBlock_4 : decode cX1_mixBlock 4 = .ok (.iconst 0, 1) := by decide +kernel
theorem dX1_mixBlock_5 : decode cX1_mixBlock 5 = .ok (.iaload, 1) := by decide +kernel
theorem dX1_mixBlock_6 : decode cX1_mixBlock 6 = .ok (.istore_n 1, 1) := by decide +kernel
theorem dX1_mixBlock_7 : decode cX1_mixBlock 7 = .ok (.aload_n 0, 1) := by decide +kernel
theorem dX1_mixBlock_8 : decode cX1_mixBlock 8 = .ok (.getfield 9, 3) := by decide +kernel
theorem dX1_mixBlock_11 : decode cX1_mixBlock 11 = .ok (.iconst 1, 1) := by decide +kernel
theorem dX1_mixBlock_12 : decode cX1_mixBlock 12 = .ok (.iaload, 1) := by decide +kernel
theorem dX1_mixBlock_13 : decode cX1_mixBlock 13 = .ok (.istore_n 2, 1) := by decide +kernel
theorem dX1_mixBlock_14 : decode cX1_mixBlock 14 = .ok (.aload_n 0, 1) := by decide +kernel
theorem dX1_mixBlock_15 : decode cX1_mixBlock 15 = .ok (.getfield 9, 3) := by decide +kernel
theorem dX1_mixBlock_18 : decode cX1_mixBlock 18 = .ok (.iconst 2, 1) := by decide +kernel
theorem dX1_mixBlock_19 : decode cX1_mixBlock 19 = .ok (.iaload, 1) := by decide +kernel
theorem dX1_mixBlock_20 : decode cX1_mixBlock 20 = .ok (.istore_n 3, 1) := by decide +kernel
theorem dX1_mixBlock_21 : decode cX1_mixBlock 21 = .ok (.aload_n 0, 1) := by decide +kernel
theorem dX1_mixBlock_22 : decode cX1_mixBlock 22 = .ok (.getfield 9, 3) := by decide +kernel
theorem dX1_mixBlock_25 : decode cX1_mixBlock 25 = .ok (.iconst 3, 1) := by decide +kernel
theorem dX1_mixBlock_26 : decode cX1_mixBlock 26 = .ok (.iaload, 1) := by decide +kernel
theorem dX1_mixBlock_27 : decode cX1_mixBlock 27 = .ok (.istore 4, 2) := by decide +kernel
theorem dX1_mixBlock_29 : decode cX1_mixBlock 29 = .ok (.aload_n 0, 1) := by decide +kernel
theorem dX1_mixBlock_30 : decode cX1_mixBlock 30 = .ok (.getfield 9, 3) := by decide +kernel
theorem dX1_mixBlock_33 : decode cX1_mixBlock 33 = .ok (.iconst 4, 1) := by decide +kernel
theorem dX1_mixBlock_34 : decode cX1_mixBlock 34 = .ok (.iaload, 1) := by decide +kernel
theorem dX1_mixBlock_35 : decode cX1_mixBlock 35 = .ok (.istore 5, 2) := by decide +kernel
theorem dX1_mixBlock_37 : decode cX1_mixBlock 37 = .ok (.aload_n 0, 1) := by decide +kernel
theorem dX1_mixBlock_38 : decode cX1_mixBlock 38 = .ok (.getfield 9, 3) := by decide +kernel
theorem dX1_mixBlock_41 : decode cX1_mixBlock 41 = .ok (.iconst 5, 1) := by decide +kernel
theorem dX1_mixBlock_42 : decode cX1_mixBlock 42 = .ok (.iaload, 1) := by decide +kernel
theorem dX1_mixBlock_43 : decode cX1_mixBlock 43 = .ok (.istore 6, 2) := by decide +kernel
theorem dX1_mixBlock_45 : decode cX1_mixBlock 45 = .ok (.aload_n 0, 1) := by decide +kernel
theorem dX1_mixBlock_46 : decode cX1_mixBlock 46 = .ok (.getfield 9, 3) := by decide +kernel
theorem dX1_mixBlock_49 : decode cX1_mixBlock 49 = .ok (.bipush 6, 2) := by decide +kernel
theorem dX1_mixBlock_51 : decode cX1_mixBlock 51 = .ok (.iaload, 1) := by decide +kernel
theorem dX1_mixBlock_52 : decode cX1_mixBlock 52 = .ok (.istore 7, 2) := by decide +kernel
theorem dX1_mixBlock_54 : decode cX1_mixBlock 54 = .ok (.aload_n 0, 1) := by decide +kernel
theorem dX1_mixBlock_55 : decode cX1_mixBlock 55 = .ok (.getfield 9, 3) := by decide +kernel
theorem dX1_mixBlock_58 : decode cX1_mixBlock 58 = .ok (.bipush 7, 2) := by decide +kernel
theorem dX1_mixBlock_60 : decode cX1_mixBlock 60 = .ok (.iaload, 1) := by decide +kernel
theorem dX1_mixBlock_61 : decode cX1_mixBlock 61 = .ok (.istore 8, 2) := by decide +kernel
theorem dX1_mixBlock_63 : decode cX1_mixBlock 63 = .ok (.iconst 0, 1) := by decide +kernel
theorem dX1_mixBlock_64 : decode cX1_mixBlock 64 = .ok (.istore 9, 2) := by decide +kernel
theorem dX1_mixBlock_66 : decode cX1_mixBlock 66 = .ok (.iload 9, 2) := by decide +kernel
theorem dX1_mixBlock_68 : decode cX1_mixBlock 68 = .ok (.bipush 64, 2) := by decide +kernel
theorem dX1_mixBlock_70 : decode cX1_mixBlock 70 = .ok (.if_icmp .ge 143, 3) := by decide +kernel
theorem dX1_mixBlock_73 : decode cX1_mixBlock 73 = .ok (.iload 5, 2) := by decide +kernel
theorem dX1_mixBlock_75 : decode cX1_mixBlock 75 = .ok (.bipush 6, 2) := by decide +kernel
theorem dX1_mixBlock_77 : decode cX1_mixBlock 77 = .ok (.invokestatic 39, 3) := by decide +kernel
theorem dX1_mixBlock_80 : decode cX1_mixBlock 80 = .ok (.iload 5, 2) := by decide +kernel
theorem dX1_mixBlock_82 : decode cX1_mixBlock 82 = .ok (.bipush 11, 2) := by decide +kernel
theorem dX1_mixBlock_84 : decode cX1_mixBlock 84 = .ok (.invokestatic 39, 3) := by decide +kernel
theorem dX1_mixBlock_87 : decode cX1_mixBlock 87 = .ok (.ixor, 1) := by decide +kernel
theorem dX1_mixBlock_88 : decode cX1_mixBlock 88 = .ok (.iload 5, 2) := by decide +kernel
theorem dX1_mixBlock_90 : decode cX1_mixBlock 90 = .ok (.bipush 25, 2) := by decide +kernel
theorem dX1_mixBlock_92 : decode cX1_mixBlock 92 = .ok (.invokestatic 39, 3) := by decide +kernel
theorem dX1_mixBlock_95 : decode cX1_mixBlock 95 = .ok (.ixor, 1) := by decide +kernel
theorem dX1_mixBlock_96 : decode cX1_mixBlock 96 = .ok (.istore 10, 2) := by decide +kernel
theorem dX1_mixBlock_98 : decode cX1_mixBlock 98 = .ok (.iload_n 1, 1) := by decide +kernel
theorem dX1_mixBlock_99 : decode cX1_mixBlock 99 = .ok (.iconst 2, 1) := by decide +kernel
theorem dX1_mixBlock_100 : decode cX1_mixBlock 100 = .ok (.invokestatic 39, 3) := by decide +kernel
theorem dX1_mixBlock_103 : decode cX1_mixBlock 103 = .ok (.iload_n 1, 1) := by decide +kernel
theorem dX1_mixBlock_104 : decode cX1_mixBlock 104 = .ok (.bipush 13, 2) := by decide +kernel
theorem dX1_mixBlock_106 : decode cX1_mixBlock 106 = .ok (.invokestatic 39, 3) := by decide +kernel
theorem dX1_mixBlock_109 : decode cX1_mixBlock 109 = .ok (.ixor, 1) := by decide +kernel
theorem dX1_mixBlock_110 : decode cX1_mixBlock 110 = .ok (.iload_n 1, 1) := by decide +kernel
theorem dX1_mixBlock_111 : decode cX1_mixBlock 111 = .ok (.bipush 22, 2) := by decide +kernel
theorem dX1_mixBlock_113 : decode cX1_mixBlock 113 = .ok (.invokestatic 39, 3) := by decide +kernel
theorem dX1_mixBlock_116 : decode cX1_mixBlock 116 = .ok (.ixor, 1) := by decide +kernel
theorem dX1_mixBlock_117 : decode cX1_mixBlock 117 = .ok (.istore 11, 2) := by decide +kernel
theorem dX1_mixBlock_119 : decode cX1_mixBlock 119 = .ok (.iload 5, 2) := by decide +kernel
theorem dX1_mixBlock_121 : decode cX1_mixBlock 121 = .ok (.iload 6, 2) := by decide +kernel
theorem dX1_mixBlock_123 : decode cX1_mixBlock 123 = .ok (.iand, 1) := by decide +kernel
theorem dX1_mixBlock_124 : decode cX1_mixBlock 124 = .ok (.iload 5, 2) := by decide +kernel
theorem dX1_mixBlock_126 : decode cX1_mixBlock 126 = .ok (.iconst (-1), 1) := by decide +kernel
theorem dX1_mixBlock_127 : decode cX1_mixBlock 127 = .ok (.ixor, 1) := by decide +kernel
theorem dX1_mixBlock_128 : decode cX1_mixBlock 128 = .ok (.iload 7, 2) := by decide +kernel
theorem dX1_mixBlock_130 : decode cX1_mixBlock 130 = .ok (.iand, 1) := by decide +kernel
theorem dX1_mixBlock_131 : decode cX1_mixBlock 131 = .ok (.ixor, 1) := by decide +kernel
theorem dX1_mixBlock_132 : decode cX1_mixBlock 132 = .ok (.istore 12, 2) := by decide +kernel
theorem dX1_mixBlock_134 : decode cX1_mixBlock 134 = .ok (.iload_n 1, 1) := by decide +kernel
theorem dX1_mixBlock_135 : decode cX1_mixBlock 135 = .ok (.iload_n 2, 1) := by decide +kernel
theorem dX1_mixBlock_136 : decode cX1_mixBlock 136 = .ok (.iand, 1) := by decide +kernel
theorem dX1_mixBlock_137 : decode cX1_mixBlock 137 = .ok (.iload_n 1, 1) := by decide +kernel
theorem dX1_mixBlock_138 : decode cX1_mixBlock 138 = .ok (.iload_n 3, 1) := by decide +kernel
theorem dX1_mixBlock_139 : decode cX1_mixBlock 139 = .ok (.iand, 1) := by decide +kernel
theorem dX1_mixBlock_140 : decode cX1_mixBlock 140 = .ok (.ixor, 1) := by decide +kernel
theorem dX1_mixBlock_141 : decode cX1_mixBlock 141 = .ok (.iload_n 2, 1) := by decide +kernel
theorem dX1_mixBlock_142 : decode cX1_mixBlock 142 = .ok (.iload_n 3, 1) := by decide +kernel
theorem dX1_mixBlock_143 : decode cX1_mixBlock 143 = .ok (.iand, 1) := by decide +kernel
theorem dX1_mixBlock_144 : decode cX1_mixBlock 144 = .ok (.ixor, 1) := by decide +kernel
theorem dX1_mixBlock_145 : decode cX1_mixBlock 145 = .ok (.istore 13, 2) := by decide +kernel
theorem dX1_mixBlock_147 : decode cX1_mixBlock 147 = .ok (.iload 8, 2) := by decide +kernel
theorem dX1_mixBlock_149 : decode cX1_mixBlock 149 = .ok (.iload 10, 2) := by decide +kernel
theorem dX1_mixBlock_151 : decode cX1_mixBlock 151 = .ok (.iadd, 1) := by decide +kernel
theorem dX1_mixBlock_152 : decode cX1_mixBlock 152 = .ok (.iload 12, 2) := by decide +kernel
theorem dX1_mixBlock_154 : decode cX1_mixBlock 154 = .ok (.iadd, 1) := by decide +kernel
theorem dX1_mixBlock_155 : decode cX1_mixBlock 155 = .ok (.getstatic 43, 3) := by decide +kernel
theorem dX1_mixBlock_158 : decode cX1_mixBlock 158 = .ok (.iload 9, 2) := by decide +kernel
theorem dX1_mixBlock_160 : decode cX1_mixBlock 160 = .ok (.iaload, 1) := by decide +kernel
theorem dX1_mixBlock_161 : decode cX1_mixBlock 161 = .ok (.iadd, 1) := by decide +kernel
theorem dX1_mixBlock_162 : decode cX1_mixBlock 162 = .ok (.aload_n 0, 1) := by decide +kernel
theorem dX1_mixBlock_163 : decode cX1_mixBlock 163 = .ok (.getfield 15, 3) := by decide +kernel
theorem dX1_mixBlock_166 : decode cX1_mixBlock 166 = .ok (.iload 9, 2) := by decide +kernel
theorem dX1_mixBlock_168 : decode cX1_mixBlock 168 = .ok (.iaload, 1) := by decide +kernel
theorem dX1_mixBlock_169 : decode cX1_mixBlock 169 = .ok (.iadd, 1) := by decide +kernel
theorem dX1_mixBlock_170 : decode cX1_mixBlock 170 = .ok (.istore 14, 2) := by decide +kernel
theorem dX1_mixBlock_172 : decode cX1_mixBlock 172 = .ok (.iload 7, 2) := by decide +kernel
theorem dX1_mixBlock_174 : decode cX1_mixBlock 174 = .ok (.istore 8, 2) := by decide +kernel
theorem dX1_mixBlock_176 : decode cX1_mixBlock 176 = .ok (.iload 6, 2) := by decide +kernel
theorem dX1_mixBlock_178 : decode cX1_mixBlock 178 = .ok (.istore 7, 2) := by decide +kernel
theorem dX1_mixBlock_180 : decode cX1_mixBlock 180 = .ok (.iload 5, 2) := by decide +kernel
theorem dX1_mixBlock_182 : decode cX1_mixBlock 182 = .ok (.istore 6, 2) := by decide +kernel
theorem dX1_mixBlock_184 : decode cX1_mixBlock 184 = .ok (.iload 4, 2) := by decide +kernel
theorem dX1_mixBlock_186 : decode cX1_mixBlock 186 = .ok (.iload 14, 2) := by decide +kernel
theorem dX1_mixBlock_188 : decode cX1_mixBlock 188 = .ok (.iadd, 1) := by decide +kernel
theorem dX1_mixBlock_189 : decode cX1_mixBlock 189 = .ok (.istore 5, 2) := by decide +kernel
theorem dX1_mixBlock_191 : decode cX1_mixBlock 191 = .ok (.iload_n 3, 1) := by decide +kernel
theorem dX1_mixBlock_192 : decode cX1_mixBlock 192 = .ok (.istore 4, 2) := by decide +kernel
theorem dX1_mixBlock_194 : decode cX1_mixBlock 194 = .ok (.iload_n 2, 1) := by decide +kernel
theorem dX1_mixBlock_195 : decode cX1_mixBlock 195 = .ok (.istore_n 3, 1) := by decide +kernel
theorem dX1_mixBlock_196 : decode cX1_mixBlock 196 = .ok (.iload_n 1, 1) := by decide +kernel
theorem dX1_mixBlock_197 : decode cX1_mixBlock 197 = .ok (.istore_n 2, 1) := by decide +kernel
theorem dX1_mixBlock_198 : decode cX1_mixBlock 198 = .ok (.iload 14, 2) := by decide +kernel
theorem dX1_mixBlock_200 : decode cX1_mixBlock 200 = .ok (.iload 11, 2) := by decide +kernel
theorem dX1_mixBlock_202 : decode cX1_mixBlock 202 = .ok (.iadd, 1) := by decide +kernel
theorem dX1_mixBlock_203 : decode cX1_mixBlock 203 = .ok (.iload 13, 2) := by decide +kernel
theorem dX1_mixBlock_205 : decode cX1_mixBlock 205 = .ok (.iadd, 1) := by decide +kernel
theorem dX1_mixBlock_206 : decode cX1_mixBlock 206 = .ok (.istore_n 1, 1) := by decide +kernel
theorem dX1_mixBlock_207 : decode cX1_mixBlock 207 = .ok (.iinc 9 1, 3) := by decide +kernel
theorem dX1_mixBlock_210 : decode cX1_mixBlock 210 = .ok (.goto (-144), 3) := by decide +kernel
theorem dX1_mixBlock_213 : decode cX1_mixBlock 213 = .ok (.aload_n 0, 1) := by decide +kernel
theorem dX1_mixBlock_214 : decode cX1_mixBlock 214 = .ok (.getfield 9, 3) := by decide +kernel
theorem dX1_mixBlock_217 : decode cX1_mixBlock 217 = .ok (.iconst 0, 1) := by decide +kernel
theorem dX1_mixBlock_218 : decode cX1_mixBlock 218 = .ok (.dup2, 1) := by decide +kernel
theorem dX1_mixBlock_219 : decode cX1_mixBlock 219 = .ok (.iaload, 1) := by decide +kernel
theorem dX1_mixBlock_220 : decode cX1_mixBlock 220 = .ok (.iload_n 1, 1) := by decide +kernel
theorem dX1_mixBlock_221 : decode cX1_mixBlock 221 = .ok (.iadd, 1) := by decide +kernel
theorem dX1_mixBlock_222 : decode cX1_mixBlock 222 = .ok (.iastore, 1) := by decide +kernel
theorem dX1_mixBlock_223 : decode cX1_mixBlock 223 = .ok (.aload_n 0, 1) := by decide +kernel
theorem dX1_mixBlock_224 : decode cX1_mixBlock 224 = .ok (.getfield 9, 3) := by decide +kernel
theorem dX1_mixBlock_227 : decode cX1_mixBlock 227 = .ok (.iconst 1, 1) := by decide +kernel
theorem dX1_mixBlock_228 : decode cX1_mixBlock 228 = .ok (.dup2, 1) := by decide +kernel
theorem dX1_mixBlock_229 : decode cX1_mixBlock 229 = .ok (.iaload, 1) := by decide +kernel
theorem dX1_mixBlock_230 : decode cX1_mixBlock 230 = .ok (.iload_n 2, 1) := by decide +kernel
theorem dX1_mixBlock_231 : decode cX1_mixBlock 231 = .ok (.iadd, 1) := by decide +kernel
theorem dX1_mixBlock_232 : decode cX1_mixBlock 232 = .ok (.iastore, 1) := by decide +kernel
theorem dX1_mixBlock_233 : decode cX1_mixBlock 233 = .ok (.aload_n 0, 1) := by decide +kernel
theorem dX1_mixBlock_234 : decode cX1_mixBlock 234 = .ok (.getfield 9, 3) := by decide +kernel
theorem dX1_mixBlock_237 : decode cX1_mixBlock 237 = .ok (.iconst 2, 1) := by decide +kernel
theorem dX1_mixBlock_238 : decode cX1_mixBlock 238 = .ok (.dup2, 1) := by decide +kernel
theorem dX1_mixBlock_239 : decode cX1_mixBlock 239 = .ok (.iaload, 1) := by decide +kernel
theorem dX1_mixBlock_240 : decode cX1_mixBlock 240 = .ok (.iload_n 3, 1) := by decide +kernel
theorem dX1_mixBlock_241 : decode cX1_mixBlock 241 = .ok (.iadd, 1) := by decide +kernel
theorem dX1_mixBlock_242 : decode cX1_mixBlock 242 = .ok (.iastore, 1) := by decide +kernel
theorem dX1_mixBlock_243 : decode cX1_mixBlock 243 = .ok (.aload_n 0, 1) := by decide +kernel
theorem dX1_mixBlock_244 : decode cX1_mixBlock 244 = .ok (.getfield 9, 3) := by decide +kernel
theorem dX1_mixBlock_247 : decode cX1_mixBlock 247 = .ok (.iconst 3, 1) := by decide +kernel
theorem dX1_mixBlock_248 : decode cX1_mixBlock 248 = .ok (.dup2, 1) := by decide +kernel
theorem dX1_mixBlock_249 : decode cX1_mixBlock 249 = .ok (.iaload, 1) := by decide +kernel
theorem dX1_mixBlock_250 : decode cX1_mixBlock 250 = .ok (.iload 4, 2) := by decide +kernel
theorem dX1_mixBlock_252 : decode cX1_mixBlock 252 = .ok (.iadd, 1) := by decide +kernel
theorem dX1_mixBlock_253 : decode cX1_mixBlock 253 = .ok (.iastore, 1) := by decide +kernel
theorem dX1_mixBlock_254 : decode cX1_mixBlock 254 = .ok (.aload_n 0, 1) := by decide +kernel
theorem dX1_mixBlock_255 : decode cX1_mixBlock 255 = .ok (.getfield 9, 3) := by decide +kernel
theorem dX1_mixBlock_258 : decode cX1_mixBlock 258 = .ok (.iconst 4, 1) := by decide +kernel
theorem dX1_mixBlock_259 : decode cX1_mixBlock 259 = .ok (.dup2, 1) := by decide +kernel
theorem dX1_mixBlock_260 : decode cX1_mixBlock 260 = .ok (.iaload, 1) := by decide +kernel
theorem dX1_mixBlock_261 : decode cX1_mixBlock 261 = .ok (.iload 5, 2) := by decide +kernel
theorem dX1_mixBlock_263 : decode cX1_mixBlock 263 = .ok (.iadd, 1) := by decide +kernel
theorem dX1_mixBlock_264 : decode cX1_mixBlock 264 = .ok (.iastore, 1) := by decide +kernel
theorem dX1_mixBlock_265 : decode cX1_mixBlock 265 = .ok (.aload_n 0, 1) := by decide +kernel
theorem dX1_mixBlock_266 : decode cX1_mixBlock 266 = .ok (.getfield 9, 3) := by decide +kernel
theorem dX1_mixBlock_269 : decode cX1_mixBlock 269 = .ok (.iconst 5, 1) := by decide +kernel
theorem dX1_mixBlock_270 : decode cX1_mixBlock 270 = .ok (.dup2, 1) := by decide +kernel
theorem dX1_mixBlock_271 : decode cX1_mixBlock 271 = .ok (.iaload, 1) := by decide +kernel
theorem dX1_mixBlock_272 : decode cX1_mixBlock 272 = .ok (.iload 6, 2) := by decide +kernel
theorem dX1_mixBlock_274 : decode cX1_mixBlock 274 = .ok (.iadd, 1) := by decide +kernel
theorem dX1_mixBlock_275 : decode cX1_mixBlock 275 = .ok (.iastore, 1) := by decide +kernel
theorem dX1_mixBlock_276 : decode cX1_mixBlock 276 = .ok (.aload_n 0, 1) := by decide +kernel
theorem dX1_mixBlock_277 : decode cX1_mixBlock 277 = .ok (.getfield 9, 3) := by decide +kernel
theorem dX1_mixBlock_280 : decode cX1_mixBlock 280 = .ok (.bipush 6, 2) := by decide +kernel
theorem dX1_mixBlock_282 : decode cX1_mixBlock 282 = .ok (.dup2, 1) := by decide +kernel
theorem dX1_mixBlock_283 : decode cX1_mixBlock 283 = .ok (.iaload, 1) := by decide +kernel
theorem dX1_mixBlock_284 : decode cX1_mixBlock 284 = .ok (.iload 7, 2) := by decide +kernel
theorem dX1_mixBlock_286 : decode cX1_mixBlock 286 = .ok (.iadd, 1) := by decide +kernel
theorem dX1_mixBlock_287 : decode cX1_mixBlock 287 = .ok (.iastore, 1) := by decide +kernel
theorem dX1_mixBlock_288 : decode cX1_mixBlock 288 = .ok (.aload_n 0, 1) := by decide +kernel
theorem dX1_mixBlock_289 : decode cX1_mixBlock 289 = .ok (.getfield 9, 3) := by decide +kernel
theorem dX1_mixBlock_292 : decode cX1_mixBlock 292 = .ok (.bipush 7, 2) := by decide +kernel
theorem dX1_mixBlock_294 : decode cX1_mixBlock 294 = .ok (.dup2, 1) := by decide +kernel
theorem dX1_mixBlock_295 : decode cX1_mixBlock 295 = .ok (.iaload, 1) := by decide +kernel
theorem dX1_mixBlock_296 : decode cX1_mixBlock 296 = .ok (.iload 8, 2) := by decide +kernel
theorem dX1_mixBlock_298 : decode cX1_mixBlock 298 = .ok (.iadd, 1) := by decide +kernel
theorem dX1_mixBlock_299 : decode cX1_mixBlock 299 = .ok (.iastore, 1) := by decide +kernel
theorem dX1_mixBlock_300 : decode cX1_mixBlock 300 = .ok (.return_, 1) := by decide +kernel
theorem dX1_turned_0 : decode cX1_turned 0 = .ok (.iload_n 0, 1) := by decide +kernel
theorem dX1_turned_1 : decode cX1_turned 1 = .ok (.iload_n 1, 1) := by decide +kernel
theorem dX1_turned_2 : decode cX1_turned 2 = .ok (.iushr, 1) := by decide +kernel
theorem dX1_turned_3 : decode cX1_turned 3 = .ok (.iload_n 0, 1) := by decide +kernel
theorem dX1_turned_4 : decode cX1_turned 4 = .ok (.bipush 32, 2) := by decide +kernel
theorem dX1_turned_6 : decode cX1_turned 6 = .ok (.iload_n 1, 1) := by decide +kernel
theorem dX1_turned_7 : decode cX1_turned 7 = .ok (.isub, 1) := by decide +kernel
theorem dX1_turned_8 : decode cX1_turned 8 = .ok (.ishl, 1) := by decide +kernel
theorem dX1_turned_9 : decode cX1_turned 9 = .ok (.ior, 1) := by decide +kernel
theorem dX1_turned_10 : decode cX1_turned 10 = .ok (.ireturn, 1) := by decide +kernel
theorem dX2_init_0 : decode cX2_init 0 = .ok (.aload_n 0, 1) := by decide +kernel
theorem dX2_init_1 : decode cX2_init 1 = .ok (.invokespecial 3, 3) := by decide +kernel
theorem dX2_init_4 : decode cX2_init 4 = .ok (.aload_n 0, 1) := by decide +kernel
theorem dX2_init_5 : decode cX2_init 5 = .ok (.bipush 8, 2) := by decide +kernel
theorem dX2_init_7 : decode cX2_init 7 = .ok (.newarray .int, 2) := by decide +kernel
theorem dX2_init_9 : decode cX2_init 9 = .ok (.putfield 9, 3) := by decide +kernel
theorem dX2_init_12 : decode cX2_init 12 = .ok (.aload_n 0, 1) := by decide +kernel
theorem dX2_init_13 : decode cX2_init 13 = .ok (.aload_n 1, 1) := by decide +kernel
theorem dX2_init_14 : decode cX2_init 14 = .ok (.putfield 15, 3) := by decide +kernel
theorem dX2_init_17 : decode cX2_init 17 = .ok (.aload_n 0, 1) := by decide +kernel
theorem dX2_init_18 : decode cX2_init 18 = .ok (.iload_n 2, 1) := by decide +kernel
theorem dX2_init_19 : decode cX2_init 19 = .ok (.putfield 19, 3) := by decide +kernel
theorem dX2_init_22 : decode cX2_init 22 = .ok (.aload_n 0, 1) := by decide +kernel
theorem dX2_init_23 : decode cX2_init 23 = .ok (.iload_n 3, 1) := by decide +kernel
theorem dX2_init_24 : decode cX2_init 24 = .ok (.putfield 23, 3) := by decide +kernel
theorem dX2_init_27 : decode cX2_init 27 = .ok (.return_, 1) := by decide +kernel
theorem dX2_isOf_0 : decode cX2_isOf 0 = .ok (.aload_n 0, 1) := by decide +kernel
theorem dX2_isOf_1 : decode cX2_isOf 1 = .ok (.getfield 15, 3) := by decide +kernel
theorem dX2_isOf_4 : decode cX2_isOf 4 = .ok (.aload_n 1, 1) := by decide +kernel
theorem dX2_isOf_5 : decode cX2_isOf 5 = .ok (.if_acmp .ne 23, 3) := by decide +kernel
theorem dX2_isOf_8 : decode cX2_isOf 8 = .ok (.aload_n 0, 1) := by decide +kernel
theorem dX2_isOf_9 : decode cX2_isOf 9 = .ok (.getfield 19, 3) := by decide +kernel
theorem dX2_isOf_12 : decode cX2_isOf 12 = .ok (.iload_n 2, 1) := by decide +kernel
theorem dX2_isOf_13 : decode cX2_isOf 13 = .ok (.if_icmp .ne 15, 3) := by decide +kernel
theorem dX2_isOf_16 : decode cX2_isOf 16 = .ok (.aload_n 0, 1) := by decide +kernel
theorem dX2_isOf_17 : decode cX2_isOf 17 = .ok (.getfield 23, 3) := by decide +kernel
theorem dX2_isOf_20 : decode cX2_isOf 20 = .ok (.iload_n 3, 1) := by decide +kernel
theorem dX2_isOf_21 : decode cX2_isOf 21 = .ok (.if_icmp .ne 7, 3) := by decide +kernel
theorem dX2_isOf_24 : decode cX2_isOf 24 = .ok (.iconst 1, 1) := by decide +kernel
theorem dX2_isOf_25 : decode cX2_isOf 25 = .ok (.goto 4, 3) := by decide +kernel
theorem dX2_isOf_28 : decode cX2_isOf 28 = .ok (.iconst 0, 1) := by decide +kernel
theorem dX2_isOf_29 : decode cX2_isOf 29 = .ok (.ireturn, 1) := by decide +kernel
theorem dX3_init_0 : decode cX3_init 0 = .ok (.aload_n 0, 1) := by decide +kernel
theorem dX3_init_1 : decode cX3_init 1 = .ok (.invokespecial 3, 3) := by decide +kernel
theorem dX3_init_4 : decode cX3_init 4 = .ok (.aload_n 0, 1) := by decide +kernel
theorem dX3_init_5 : decode cX3_init 5 = .ok (.sipush 1000, 3) := by decide +kernel
theorem dX3_init_8 : decode cX3_init 8 = .ok (.newarray .byte, 2) := by decide +kernel
theorem dX3_init_10 : decode cX3_init 10 = .ok (.putfield 9, 3) := by decide +kernel
theorem dX3_init_13 : decode cX3_init 13 = .ok (.aload_n 0, 1) := by decide +kernel
theorem dX3_init_14 : decode cX3_init 14 = .ok (.bipush 8, 2) := by decide +kernel
theorem dX3_init_16 : decode cX3_init 16 = .ok (.newarray .int, 2) := by decide +kernel
theorem dX3_init_18 : decode cX3_init 18 = .ok (.putfield 15, 3) := by decide +kernel
theorem dX3_init_21 : decode cX3_init 21 = .ok (.aload_n 0, 1) := by decide +kernel
theorem dX3_init_22 : decode cX3_init 22 = .ok (.iconst 1, 1) := by decide +kernel
theorem dX3_init_23 : decode cX3_init 23 = .ok (.putfield 19, 3) := by decide +kernel
theorem dX3_init_26 : decode cX3_init 26 = .ok (.aload_n 0, 1) := by decide +kernel
theorem dX3_init_27 : decode cX3_init 27 = .ok (.sipush 200, 3) := by decide +kernel
theorem dX3_init_30 : decode cX3_init 30 = .ok (.newarray .byte, 2) := by decide +kernel
theorem dX3_init_32 : decode cX3_init 32 = .ok (.putfield 23, 3) := by decide +kernel
theorem dX3_init_35 : decode cX3_init 35 = .ok (.aload_n 0, 1) := by decide +kernel
theorem dX3_init_36 : decode cX3_init 36 = .ok (.bipush 10, 2) := by decide +kernel
theorem dX3_init_38 : decode cX3_init 38 = .ok (.newarray .int, 2) := by decide +kernel
theorem dX3_init_40 : decode cX3_init 40 = .ok (.putfield 26, 3) := by decide +kernel
theorem dX3_init_43 : decode cX3_init 43 = .ok (.aload_n 0, 1) := by decide +kernel
theorem dX3_init_44 : decode cX3_init 44 = .ok (.iload_n 1, 1) := by decide +kernel
theorem dX3_init_45 : decode cX3_init 45 = .ok (.putfield 29, 3) := by decide +kernel
theorem dX3_init_48 : decode cX3_init 48 = .ok (.return_, 1) := by decide +kernel
theorem dX4_init_0 : decode cX4_init 0 = .ok (.aload_n 0, 1) := by decide +kernel
theorem dX4_init_1 : decode cX4_init 1 = .ok (.invokespecial 1, 3) := by decide +kernel
theorem dX4_init_4 : decode cX4_init 4 = .ok (.aload_n 0, 1) := by decide +kernel
theorem dX4_init_5 : decode cX4_init 5 = .ok (.bipush 100, 2) := by decide +kernel
theorem dX4_init_7 : decode cX4_init 7 = .ok (.anewarray 9, 3) := by decide +kernel
theorem dX4_init_10 : decode cX4_init 10 = .ok (.putfield 11, 3) := by decide +kernel
theorem dX4_init_13 : decode cX4_init 13 = .ok (.aload_n 0, 1) := by decide +kernel
theorem dX4_init_14 : decode cX4_init 14 = .ok (.bipush 16, 2) := by decide +kernel
theorem dX4_init_16 : decode cX4_init 16 = .ok (.anewarray 15, 3) := by decide +kernel
theorem dX4_init_19 : decode cX4_init 19 = .ok (.putfield 17, 3) := by decide +kernel
theorem dX4_init_22 : decode cX4_init 22 = .ok (.aload_n 0, 1) := by decide +kernel
theorem dX4_init_23 : decode cX4_init 23 = .ok (.sipush 400, 3) := by decide +kernel
theorem dX4_init_26 : decode cX4_init 26 = .ok (.anewarray 21, 3) := by decide +kernel
theorem dX4_init_29 : decode cX4_init 29 = .ok (.putfield 23, 3) := by decide +kernel
theorem dX4_init_32 : decode cX4_init 32 = .ok (.aload_n 0, 1) := by decide +kernel
theorem dX4_init_33 : decode cX4_init 33 = .ok (.sipush 400, 3) := by decide +kernel
theorem dX4_init_36 : decode cX4_init 36 = .ok (.newarray .int, 2) := by decide +kernel
theorem dX4_init_38 : decode cX4_init 38 = .ok (.putfield 27, 3) := by decide +kernel
theorem dX4_init_41 : decode cX4_init 41 = .ok (.aload_n 0, 1) := by decide +kernel
theorem dX4_init_42 : decode cX4_init 42 = .ok (.bipush 10, 2) := by decide +kernel
theorem dX4_init_44 : decode cX4_init 44 = .ok (.newarray .int, 2) := by decide +kernel
theorem dX4_init_46 : decode cX4_init 46 = .ok (.putfield 31, 3) := by decide +kernel
theorem dX4_init_49 : decode cX4_init 49 = .ok (.aload_n 0, 1) := by decide +kernel
theorem dX4_init_50 : decode cX4_init 50 = .ok (.bipush 10, 2) := by decide +kernel
theorem dX4_init_52 : decode cX4_init 52 = .ok (.newarray .int, 2) := by decide +kernel
theorem dX4_init_54 : decode cX4_init 54 = .ok (.putfield 34, 3) := by decide +kernel
theorem dX4_init_57 : decode cX4_init 57 = .ok (.aload_n 0, 1) := by decide +kernel
theorem dX4_init_58 : decode cX4_init 58 = .ok (.new 37, 3) := by decide +kernel
theorem dX4_init_61 : decode cX4_init 61 = .ok (.dup, 1) := by decide +kernel
theorem dX4_init_62 : decode cX4_init 62 = .ok (.invokespecial 39, 3) := by decide +kernel
theorem dX4_init_65 : decode cX4_init 65 = .ok (.putfield 40, 3) := by decide +kernel
theorem dX4_init_68 : decode cX4_init 68 = .ok (.return_, 1) := by decide +kernel
theorem dX4_person_0 : decode cX4_person 0 = .ok (.aload_n 0, 1) := by decide +kernel
theorem dX4_person_1 : decode cX4_person 1 = .ok (.getfield 44, 3) := by decide +kernel
theorem dX4_person_4 : decode cX4_person 4 = .ok (.bipush 24, 2) := by decide +kernel
theorem dX4_person_6 : decode cX4_person 6 = .ok (.if_icmp .lt 6, 3) := by decide +kernel
theorem dX4_person_9 : decode cX4_person 9 = .ok (.bipush (-2), 2) := by decide +kernel
theorem dX4_person_11 : decode cX4_person 11 = .ok (.ireturn, 1) := by decide +kernel
theorem dX4_person_12 : decode cX4_person 12 = .ok (.aload_n 0, 1) := by decide +kernel
theorem dX4_person_13 : decode cX4_person 13 = .ok (.dup, 1) := by decide +kernel
theorem dX4_person_14 : decode cX4_person 14 = .ok (.getfield 44, 3) := by decide +kernel
theorem dX4_person_17 : decode cX4_person 17 = .ok (.dup_x1, 1) := by decide +kernel
theorem dX4_person_18 : decode cX4_person 18 = .ok (.iconst 1, 1) := by decide +kernel
theorem dX4_person_19 : decode cX4_person 19 = .ok (.iadd, 1) := by decide +kernel
theorem dX4_person_20 : decode cX4_person 20 = .ok (.putfield 44, 3) := by decide +kernel
theorem dX4_person_23 : decode cX4_person 23 = .ok (.ireturn, 1) := by decide +kernel
theorem dX4_role_0 : decode cX4_role 0 = .ok (.aload_n 0, 1) := by decide +kernel
theorem dX4_role_1 : decode cX4_role 1 = .ok (.iload_n 1, 1) := by decide +kernel
theorem dX4_role_2 : decode cX4_role 2 = .ok (.invokevirtual 48, 3) := by decide +kernel
theorem dX4_role_5 : decode cX4_role 5 = .ok (.ifCond .eq 10, 3) := by decide +kernel
theorem dX4_role_8 : decode cX4_role 8 = .ok (.iload_n 2, 1) := by decide +kernel
theorem dX4_role_9 : decode cX4_role 9 = .ok (.invokestatic 52, 3) := by decide +kernel
theorem dX4_role_12 : decode cX4_role 12 = .ok (.ifCond .ne 5, 3) := by decide +kernel
theorem dX4_role_15 : decode cX4_role 15 = .ok (.iconst 0, 1) := by decide +kernel
theorem dX4_role_16 : decode cX4_role 16 = .ok (.ireturn, 1) := by decide +kernel
theorem dX4_role_17 : decode cX4_role 17 = .ok (.lload_n 3, 1) := by decide +kernel
theorem dX4_role_18 : decode cX4_role 18 = .ok (.lconst 0, 1) := by decide +kernel
theorem dX4_role_19 : decode cX4_role 19 = .ok (.lcmp, 1) := by decide +kernel
theorem dX4_role_20 : decode cX4_role 20 = .ok (.ifCond .lt 28, 3) := by decide +kernel
theorem dX4_role_23 : decode cX4_role 23 = .ok (.lload 5, 2) := by decide +kernel
theorem dX4_role_25 : decode cX4_role 25 = .ok (.ldc2_w 55, 3) := by decide +kernel
theorem dX4_role_28 : decode cX4_role 28 = .ok (.lcmp, 1) := by decide +kernel
theorem dX4_role_29 : decode cX4_role 29 = .ok (.ifCond .gt 19, 3) := by decide +kernel
theorem dX4_role_32 : decode cX4_role 32 = .ok (.lload_n 3, 1) := by decide +kernel
theorem dX4_role_33 : decode cX4_role 33 = .ok (.lload 5, 2) := by decide +kernel
theorem dX4_role_35 : decode cX4_role 35 = .ok (.lcmp, 1) := by decide +kernel
theorem dX4_role_36 : decode cX4_role 36 = .ok (.ifCond .gt 12, 3) := by decide +kernel
theorem dX4_role_39 : decode cX4_role 39 = .ok (.aload_n 0, 1) := by decide +kernel
theorem dX4_role_40 : decode cX4_role 40 = .ok (.getfield 57, 3) := by decide +kernel
theorem dX4_role_43 : decode cX4_role 43 = .ok (.bipush 100, 2) := by decide +kernel
theorem dX4_role_45 : decode cX4_role 45 = .ok (.if_icmp .lt 5, 3) := by decide +kernel
theorem dX4_role_48 : decode cX4_role 48 = .ok (.iconst 0, 1) := by decide +kernel
theorem dX4_role_49 : decode cX4_role 49 = .ok (.ireturn, 1) := by decide +kernel
theorem dX4_role_50 : decode cX4_role 50 = .ok (.aload_n 0, 1) := by decide +kernel
theorem dX4_role_51 : decode cX4_role 51 = .ok (.getfield 11, 3) := by decide +kernel
theorem dX4_role_54 : decode cX4_role 54 = .ok (.aload_n 0, 1) := by decide +kernel
theorem dX4_role_55 : decode cX4_role 55 = .ok (.getfield 57, 3) := by decide +kernel
theorem dX4_role_58 : decode cX4_role 58 = .ok (.new 9, 3) := by decide +kernel
theorem dX4_role_61 : decode cX4_role 61 = .ok (.dup, 1) := by decide +kernel
theorem dX4_role_62 : decode cX4_role 62 = .ok (.iload_n 1, 1) := by decide +kernel
theorem dX4_role_63 : decode cX4_role 63 = .ok (.iload_n 2, 1) := by decide +kernel
theorem dX4_role_64 : decode cX4_role 64 = .ok (.lload_n 3, 1) := by decide +kernel
theorem dX4_role_65 : decode cX4_role 65 = .ok (.lload 5, 2) := by decide +kernel
theorem dX4_role_67 : decode cX4_role 67 = .ok (.invokespecial 60, 3) := by decide +kernel
theorem dX4_role_70 : decode cX4_role 70 = .ok (.aastore, 1) := by decide +kernel
theorem dX4_role_71 : decode cX4_role 71 = .ok (.aload_n 0, 1) := by decide +kernel
theorem dX4_role_72 : decode cX4_role 72 = .ok (.dup, 1) := by decide +kernel
theorem dX4_role_73 : decode cX4_role 73 = .ok (.getfield 57, 3) := by decide +kernel
theorem dX4_role_76 : decode cX4_role 76 = .ok (.iconst 1, 1) := by decide +kernel
theorem dX4_role_77 : decode cX4_role 77 = .ok (.iadd, 1) := by decide +kernel
theorem dX4_role_78 : decode cX4_role 78 = .ok (.putfield 57, 3) := by decide +kernel
theorem dX4_role_81 : decode cX4_role 81 = .ok (.iconst 1, 1) := by decide +kernel
theorem dX4_role_82 : decode cX4_role 82 = .ok (.ireturn, 1) := by decide +kernel
theorem dX4_thing_0 : decode cX4_thing 0 = .ok (.aload_n 0, 1) := by decide +kernel
theorem dX4_thing_1 : decode cX4_thing 1 = .ok (.iload_n 1, 1) := by decide +kernel
theorem dX4_thing_2 : decode cX4_thing 2 = .ok (.invokevirtual 48, 3) := by decide +kernel
theorem dX4_thing_5 : decode cX4_thing 5 = .ok (.ifCond .ne 5, 3) := by decide +kernel
theorem dX4_thing_8 : decode cX4_thing 8 = .ok (.iconst (-1), 1) := by decide +kernel
theorem dX4_thing_9 : decode cX4_thing 9 = .ok (.ireturn, 1) := by decide +kernel
theorem dX4_thing_10 : decode cX4_thing 10 = .ok (.aload_n 0, 1) := by decide +kernel
theorem dX4_thing_11 : decode cX4_thing 11 = .ok (.getfield 63, 3) := by decide +kernel
theorem dX4_thing_14 : decode cX4_thing 14 = .ok (.bipush 16, 2) := by decide +kernel
theorem dX4_thing_16 : decode cX4_thing 16 = .ok (.if_icmp .lt 6, 3) := by decide +kernel
theorem dX4_thing_19 : decode cX4_thing 19 = .ok (.bipush (-2), 2) := by decide +kernel
theorem dX4_thing_21 : decode cX4_thing 21 = .ok (.ireturn, 1) := by decide +kernel
theorem dX4_thing_22 : decode cX4_thing 22 = .ok (.aload_n 0, 1) := by decide +kernel
theorem dX4_thing_23 : decode cX4_thing 23 = .ok (.getfield 17, 3) := by decide +kernel
theorem dX4_thing_26 : decode cX4_thing 26 = .ok (.aload_n 0, 1) := by decide +kernel
theorem dX4_thing_27 : decode cX4_thing 27 = .ok (.getfield 63, 3) := by decide +kernel
theorem dX4_thing_30 : decode cX4_thing 30 = .ok (.new 15, 3) := by decide +kernel
theorem dX4_thing_33 : decode cX4_thing 33 = .ok (.dup, 1) := by decide +kernel
theorem dX4_thing_34 : decode cX4_thing 34 = .ok (.iload_n 1, 1) := by decide +kernel
theorem dX4_thing_35 : decode cX4_thing 35 = .ok (.invokespecial 66, 3) := by decide +kernel
theorem dX4_thing_38 : decode cX4_thing 38 = .ok (.aastore, 1) := by decide +kernel
theorem dX4_thing_39 : decode cX4_thing 39 = .ok (.aload_n 0, 1) := by decide +kernel
theorem dX4_thing_40 : decode cX4_thing 40 = .ok (.dup, 1) := by decide +kernel
theorem dX4_thing_41 : decode cX4_thing 41 = .ok (.getfield 63, 3) := by decide +kernel
theorem dX4_thing_44 : decode cX4_thing 44 = .ok (.dup_x1, 1) := by decide +kernel
theorem dX4_thing_45 : decode cX4_thing 45 = .ok (.iconst 1, 1) := by decide +kernel
theorem dX4_thing_46 : decode cX4_thing 46 = .ok (.iadd, 1) := by decide +kernel
theorem dX4_thing_47 : decode cX4_thing 47 = .ok (.putfield 63, 3) := by decide +kernel
theorem dX4_thing_50 : decode cX4_thing 50 = .ok (.ireturn, 1) := by decide +kernel
theorem dX4_byteOf_0 : decode cX4_byteOf 0 = .ok (.aload_n 0, 1) := by decide +kernel
theorem dX4_byteOf_1 : decode cX4_byteOf 1 = .ok (.iload_n 1, 1) := by decide +kernel
theorem dX4_byteOf_2 : decode cX4_byteOf 2 = .ok (.invokevirtual 69, 3) := by decide +kernel
theorem dX4_byteOf_5 : decode cX4_byteOf 5 = .ok (.astore_n 3, 1) := by decide +kernel
theorem dX4_byteOf_6 : decode cX4_byteOf 6 = .ok (.aload_n 3, 1) := by decide +kernel
theorem dX4_byteOf_7 : decode cX4_byteOf 7 = .ok (.ifnull 20, 3) := by decide +kernel
theorem dX4_byteOf_10 : decode cX4_byteOf 10 = .ok (.iload_n 2, 1) := by decide +kernel
theorem dX4_byteOf_11 : decode cX4_byteOf 11 = .ok (.invokestatic 73, 3) := by decide +kernel
theorem dX4_byteOf_14 : decode cX4_byteOf 14 = .ok (.ifCond .eq 13, 3) := by decide +kernel
theorem dX4_byteOf_17 : decode cX4_byteOf 17 = .ok (.aload_n 3, 1) := by decide +kernel
theorem dX4_byteOf_18 : decode cX4_byteOf 18 = .ok (.getfield 76, 3) := by decide +kernel
theorem dX4_byteOf_21 : decode cX4_byteOf 21 = .ok (.sipush 1000, 3) := by decide +kernel
theorem dX4_byteOf_24 : decode cX4_byteOf 24 = .ok (.if_icmp .lt 5, 3) := by decide +kernel
theorem dX4_byteOf_27 : decode cX4_byteOf 27 = .ok (.iconst 0, 1) := by decide +kernel
theorem dX4_byteOf_28 : decode cX4_byteOf 28 = .ok (.ireturn, 1) := by decide +kernel
theorem dX4_byteOf_29 : decode cX4_byteOf 29 = .ok (.aload_n 3, 1) := by decide +kernel
theorem dX4_byteOf_30 : decode cX4_byteOf 30 = .ok (.getfield 79, 3) := by decide +kernel
theorem dX4_byteOf_33 : decode cX4_byteOf 33 = .ok (.aload_n 3, 1) := by decide +kernel
theorem dX4_byteOf_34 : decode cX4_byteOf 34 = .ok (.getfield 76, 3) := by decide +kernel
theorem dX4_byteOf_37 : decode cX4_byteOf 37 = .ok (.iload_n 2, 1) := by decide +kernel
theorem dX4_byteOf_38 : decode cX4_byteOf 38 = .ok (.i2b, 1) := by decide +kernel
theorem dX4_byteOf_39 : decode cX4_byteOf 39 = .ok (.bastore, 1) := by decide +kernel
theorem dX4_byteOf_40 : decode cX4_byteOf 40 = .ok (.aload_n 3, 1) := by decide +kernel
theorem dX4_byteOf_41 : decode cX4_byteOf 41 = .ok (.dup, 1) := by decide +kernel
theorem dX4_byteOf_42 : decode cX4_byteOf 42 = .ok (.getfield 76, 3) := by decide +kernel
theorem dX4_byteOf_45 : decode cX4_byteOf 45 = .ok (.iconst 1, 1) := by decide +kernel
theorem dX4_byteOf_46 : decode cX4_byteOf 46 = .ok (.iadd, 1) := by decide +kernel
theorem dX4_byteOf_47 : decode cX4_byteOf 47 = .ok (.putfield 76, 3) := by decide +kernel
theorem dX4_byteOf_50 : decode cX4_byteOf 50 = .ok (.aload_n 3, 1) := by decide +kernel
theorem dX4_byteOf_51 : decode cX4_byteOf 51 = .ok (.iconst 1, 1) := by decide +kernel
theorem dX4_byteOf_52 : decode cX4_byteOf 52 = .ok (.putfield 83, 3) := by decide +kernel
theorem dX4_byteOf_55 : decode cX4_byteOf 55 = .ok (.iconst 1, 1) := by decide +kernel
theorem dX4_byteOf_56 : decode cX4_byteOf 56 = .ok (.ireturn, 1) := by decide +kernel
theorem dX4_sign_0 : decode cX4_sign 0 = .ok (.aload_n 0, 1) := by decide +kernel
theorem dX4_sign_1 : decode cX4_sign 1 = .ok (.iload_n 1, 1) := by decide +kernel
theorem dX4_sign_2 : decode cX4_sign 2 = .ok (.invokevirtual 69, 3) := by decide +kernel
theorem dX4_sign_5 : decode cX4_sign 5 = .ok (.astore 6, 2) := by decide +kernel
theorem dX4_sign_7 : decode cX4_sign 7 = .ok (.aload 6, 2) := by decide +kernel
theorem dX4_sign_9 : decode cX4_sign 9 = .ok (.ifnull 18, 3) := by decide +kernel
theorem dX4_sign_12 : decode cX4_sign 12 = .ok (.aload_n 0, 1) := by decide +kernel
theorem dX4_sign_13 : decode cX4_sign 13 = .ok (.iload_n 2, 1) := by decide +kernel
theorem dX4_sign_14 : decode cX4_sign 14 = .ok (.invokevirtual 48, 3) := by decide +kernel
theorem dX4_sign_17 : decode cX4_sign 17 = .ok (.ifCond .eq 10, 3) := by decide +kernel
theorem dX4_sign_20 : decode cX4_sign 20 = .ok (.iload_n 3, 1) := by decide +kernel
theorem dX4_sign_21 : decode cX4_sign 21 = .ok (.invokestatic 52, 3) := by decide +kernel
theorem dX4_sign_24 : decode cX4_sign 24 = .ok (.ifCond .ne 5, 3) := by decide +kernel
theorem dX4_sign_27 : decode cX4_sign 27 = .ok (.iconst (-1), 1) := by decide +kernel
theorem dX4_sign_28 : decode cX4_sign 28 = .ok (.ireturn, 1) := by decide +kernel
theorem dX4_sign_29 : decode cX4_sign 29 = .ok (.aload_n 0, 1) := by decide +kernel
theorem dX4_sign_30 : decode cX4_sign 30 = .ok (.lload 4, 2) := by decide +kernel
theorem dX4_sign_32 : decode cX4_sign 32 = .ok (.invokevirtual 87, 3) := by decide +kernel
theorem dX4_sign_35 : decode cX4_sign 35 = .ok (.ifCond .eq 6, 3) := by decide +kernel
theorem dX4_sign_38 : decode cX4_sign 38 = .ok (.bipush (-3), 2) := by decide +kernel
theorem dX4_sign_40 : decode cX4_sign 40 = .ok (.ireturn, 1) := by decide +kernel
theorem dX4_sign_41 : decode cX4_sign 41 = .ok (.aload_n 0, 1) := by decide +kernel
theorem dX4_sign_42 : decode cX4_sign 42 = .ok (.iload_n 2, 1) := by decide +kernel
theorem dX4_sign_43 : decode cX4_sign 43 = .ok (.iload_n 3, 1) := by decide +kernel
theorem dX4_sign_44 : decode cX4_sign 44 = .ok (.lload 4, 2) := by decide +kernel
theorem dX4_sign_46 : decode cX4_sign 46 = .ok (.invokevirtual 91, 3) := by decide +kernel
theorem dX4_sign_49 : decode cX4_sign 49 = .ok (.ifCond .ne 13, 3) := by decide +kernel
theorem dX4_sign_52 : decode cX4_sign 52 = .ok (.new 95, 3) := by decide +kernel
theorem dX4_sign_55 : decode cX4_sign 55 = .ok (.dup, 1) := by decide +kernel
theorem dX4_sign_56 : decode cX4_sign 56 = .ok (.ldc 97, 2) := by decide +kernel
theorem dX4_sign_58 : decode cX4_sign 58 = .ok (.invokespecial 99, 3) := by decide +kernel
theorem dX4_sign_61 : decode cX4_sign 61 = .ok (.athrow, 1) := by decide +kernel
theorem dX4_sign_62 : decode cX4_sign 62 = .ok (.aload 6, 2) := by decide +kernel
theorem dX4_sign_64 : decode cX4_sign 64 = .ok (.getfield 102, 3) := by decide +kernel
theorem dX4_sign_67 : decode cX4_sign 67 = .ok (.iload_n 2, 1) := by decide +kernel
theorem dX4_sign_68 : decode cX4_sign 68 = .ok (.if_icmp .ne 6, 3) := by decide +kernel
theorem dX4_sign_71 : decode cX4_sign 71 = .ok (.bipush (-4), 2) := by decide +kernel
theorem dX4_sign_73 : decode cX4_sign 73 = .ok (.ireturn, 1) := by decide +kernel
theorem dX4_sign_74 : decode cX4_sign 74 = .ok (.aload_n 0, 1) := by decide +kernel
theorem dX4_sign_75 : decode cX4_sign 75 = .ok (.getfield 31, 3) := by decide +kernel
theorem dX4_sign_78 : decode cX4_sign 78 = .ok (.iload_n 3, 1) := by decide +kernel
theorem dX4_sign_79 : decode cX4_sign 79 = .ok (.iaload, 1) := by decide +kernel
theorem dX4_sign_80 : decode cX4_sign 80 = .ok (.aload_n 0, 1) := by decide +kernel
theorem dX4_sign_81 : decode cX4_sign 81 = .ok (.aload 6, 2) := by decide +kernel
theorem dX4_sign_83 : decode cX4_sign 83 = .ok (.invokevirtual 105, 3) := by decide +kernel
theorem dX4_sign_86 : decode cX4_sign 86 = .ok (.iconst (-1), 1) := by decide +kernel
theorem dX4_sign_87 : decode cX4_sign 87 = .ok (.ixor, 1) := by decide +kernel
theorem dX4_sign_88 : decode cX4_sign 88 = .ok (.iand, 1) := by decide +kernel
theorem dX4_sign_89 : decode cX4_sign 89 = .ok (.ifCond .eq 6, 3) := by decide +kernel
theorem dX4_sign_92 : decode cX4_sign 92 = .ok (.bipush (-5), 2) := by decide +kernel
theorem dX4_sign_94 : decode cX4_sign 94 = .ok (.ireturn, 1) := by decide +kernel
theorem dX4_sign_95 : decode cX4_sign 95 = .ok (.aload_n 0, 1) := by decide +kernel
theorem dX4_sign_96 : decode cX4_sign 96 = .ok (.aload 6, 2) := by decide +kernel
theorem dX4_sign_98 : decode cX4_sign 98 = .ok (.iload_n 2, 1) := by decide +kernel
theorem dX4_sign_99 : decode cX4_sign 99 = .ok (.iload_n 3, 1) := by decide +kernel
theorem dX4_sign_100 : decode cX4_sign 100 = .ok (.invokevirtual 109, 3) := by decide +kernel
theorem dX4_sign_103 : decode cX4_sign 103 = .ok (.ifCond .eq 6, 3) := by decide +kernel
theorem dX4_sign_106 : decode cX4_sign 106 = .ok (.bipush (-6), 2) := by decide +kernel
theorem dX4_sign_108 : decode cX4_sign 108 = .ok (.ireturn, 1) := by decide +kernel
theorem dX4_sign_109 : decode cX4_sign 109 = .ok (.aload_n 0, 1) := by decide +kernel
theorem dX4_sign_110 : decode cX4_sign 110 = .ok (.getfield 113, 3) := by decide +kernel
theorem dX4_sign_113 : decode cX4_sign 113 = .ok (.sipush 400, 3) := by decide +kernel
theorem dX4_sign_116 : decode cX4_sign 116 = .ok (.if_icmp .lt 6, 3) := by decide +kernel
theorem dX4_sign_119 : decode cX4_sign 119 = .ok (.bipush (-2), 2) := by decide +kernel
theorem dX4_sign_121 : decode cX4_sign 121 = .ok (.ireturn, 1) := by decide +kernel
theorem dX4_sign_122 : decode cX4_sign 122 = .ok (.new 21, 3) := by decide +kernel
theorem dX4_sign_125 : decode cX4_sign 125 = .ok (.dup, 1) := by decide +kernel
theorem dX4_sign_126 : decode cX4_sign 126 = .ok (.aload 6, 2) := by decide +kernel
theorem dX4_sign_128 : decode cX4_sign 128 = .ok (.iload_n 2, 1) := by decide +kernel
theorem dX4_sign_129 : decode cX4_sign 129 = .ok (.iload_n 3, 1) := by decide +kernel
theorem dX4_sign_130 : decode cX4_sign 130 = .ok (.invokespecial 116, 3) := by decide +kernel
theorem dX4_sign_133 : decode cX4_sign 133 = .ok (.astore 7, 2) := by decide +kernel
theorem dX4_sign_135 : decode cX4_sign 135 = .ok (.aload_n 0, 1) := by decide +kernel
theorem dX4_sign_136 : decode cX4_sign 136 = .ok (.aload 6, 2) := by decide +kernel
theorem dX4_sign_138 : decode cX4_sign 138 = .ok (.invokevirtual 119, 3) := by decide +kernel
theorem dX4_sign_141 : decode cX4_sign 141 = .ok (.aload 7, 2) := by decide +kernel
theorem dX4_sign_143 : decode cX4_sign 143 = .ok (.getfield 123, 3) := by decide +kernel
theorem dX4_sign_146 : decode cX4_sign 146 = .ok (.invokestatic 126, 3) := by decide +kernel
theorem dX4_sign_149 : decode cX4_sign 149 = .ok (.aload_n 0, 1) := by decide +kernel
theorem dX4_sign_150 : decode cX4_sign 150 = .ok (.getfield 23, 3) := by decide +kernel
theorem dX4_sign_153 : decode cX4_sign 153 = .ok (.aload_n 0, 1) := by decide +kernel
theorem dX4_sign_154 : decode cX4_sign 154 = .ok (.getfield 113, 3) := by decide +kernel
theorem dX4_sign_157 : decode cX4_sign 157 = .ok (.aload 7, 2) := by decide +kernel
theorem dX4_sign_159 : decode cX4_sign 159 = .ok (.aastore, 1) := by decide +kernel
theorem dX4_sign_160 : decode cX4_sign 160 = .ok (.aload_n 0, 1) := by decide +kernel
theorem dX4_sign_161 : decode cX4_sign 161 = .ok (.lload 4, 2) := by decide +kernel
theorem dX4_sign_163 : decode cX4_sign 163 = .ok (.putfield 130, 3) := by decide +kernel
theorem dX4_sign_166 : decode cX4_sign 166 = .ok (.aload_n 0, 1) := by decide +kernel
theorem dX4_sign_167 : decode cX4_sign 167 = .ok (.dup, 1) := by decide +kernel
theorem dX4_sign_168 : decode cX4_sign 168 = .ok (.getfield 113, 3) := by decide +kernel
theorem dX4_sign_171 : decode cX4_sign 171 = .ok (.dup_x1, 1) := by decide +kernel
theorem dX4_sign_172 : decode cX4_sign 172 = .ok (.iconst 1, 1) := by decide +kernel
theorem dX4_sign_173 : decode cX4_sign 173 = .ok (.iadd, 1) := by decide +kernel
theorem dX4_sign_174 : decode cX4_sign 174 = .ok (.putfield 113, 3) := by decide +kernel
theorem dX4_sign_177 : decode cX4_sign 177 = .ok (.ireturn, 1) := by decide +kernel
theorem dX4_holds_0 : decode cX4_holds 0 = .ok (.aload_n 0, 1) := by decide +kernel
theorem dX4_holds_1 : decode cX4_holds 1 = .ok (.iload_n 1, 1) := by decide +kernel
theorem dX4_holds_2 : decode cX4_holds 2 = .ok (.invokevirtual 134, 3) := by decide +kernel
theorem dX4_holds_5 : decode cX4_holds 5 = .ok (.astore_n 2, 1) := by decide +kernel
theorem dX4_holds_6 : decode cX4_holds 6 = .ok (.aload_n 2, 1) := by decide +kernel
theorem dX4_holds_7 : decode cX4_holds 7 = .ok (.ifnull 15, 3) := by decide +kernel
theorem dX4_holds_10 : decode cX4_holds 10 = .ok (.aload_n 0, 1) := by decide +kernel
theorem dX4_holds_11 : decode cX4_holds 11 = .ok (.aload_n 2, 1) := by decide +kernel
theorem dX4_holds_12 : decode cX4_holds 12 = .ok (.invokevirtual 138, 3) := by decide +kernel
theorem dX4_holds_15 : decode cX4_holds 15 = .ok (.ifCond .eq 7, 3) := by decide +kernel
theorem dX4_holds_18 : decode cX4_holds 18 = .ok (.iconst 1, 1) := by decide +kernel
theorem dX4_holds_19 : decode cX4_holds 19 = .ok (.goto 4, 3) := by decide +kernel
theorem dX4_holds_22 : decode cX4_holds 22 = .ok (.iconst 0, 1) := by decide +kernel
theorem dX4_holds_23 : decode cX4_holds 23 = .ok (.ireturn, 1) := by decide +kernel
theorem dX4_withdraw_0 : decode cX4_withdraw 0 = .ok (.aload_n 0, 1) := by decide +kernel
theorem dX4_withdraw_1 : decode cX4_withdraw 1 = .ok (.iload_n 1, 1) := by decide +kernel
theorem dX4_withdraw_2 : decode cX4_withdraw 2 = .ok (.invokevirtual 134, 3) := by decide +kernel
theorem dX4_withdraw_5 : decode cX4_withdraw 5 = .ok (.astore_n 2, 1) := by decide +kernel
theorem dX4_withdraw_6 : decode cX4_withdraw 6 = .ok (.aload_n 2, 1) := by decide +kernel
theorem dX4_withdraw_7 : decode cX4_withdraw 7 = .ok (.ifnull 20, 3) := by decide +kernel
theorem dX4_withdraw_10 : decode cX4_withdraw 10 = .ok (.aload_n 2, 1) := by decide +kernel
theorem dX4_withdraw_11 : decode cX4_withdraw 11 = .ok (.getfield 142, 3) := by decide +kernel
theorem dX4_withdraw_14 : decode cX4_withdraw 14 = .ok (.ifCond .ne 13, 3) := by decide +kernel
theorem dX4_withdraw_17 : decode cX4_withdraw 17 = .ok (.aload_n 0, 1) := by decide +kernel
theorem dX4_withdraw_18 : decode cX4_withdraw 18 = .ok (.getfield 145, 3) := by decide +kernel
theorem dX4_withdraw_21 : decode cX4_withdraw 21 = .ok (.sipush 400, 3) := by decide +kernel
theorem dX4_withdraw_24 : decode cX4_withdraw 24 = .ok (.if_icmp .lt 5, 3) := by decide +kernel
theorem dX4_withdraw_27 : decode cX4_withdraw 27 = .ok (.iconst 0, 1) := by decide +kernel
theorem dX4_withdraw_28 : decode cX4_withdraw 28 = .ok (.ireturn, 1) := by decide +kernel
theorem dX4_withdraw_29 : decode cX4_withdraw 29 = .ok (.aload_n 2, 1) := by decide +kernel
theorem dX4_withdraw_30 : decode cX4_withdraw 30 = .ok (.iconst 1, 1) := by decide +kernel
theorem dX4_withdraw_31 : decode cX4_withdraw 31 = .ok (.putfield 142, 3) := by decide +kernel
theorem dX4_withdraw_34 : decode cX4_withdraw 34 = .ok (.aload_n 0, 1) := by decide +kernel
theorem dX4_withdraw_35 : decode cX4_withdraw 35 = .ok (.getfield 27, 3) := by decide +kernel
theorem dX4_withdraw_38 : decode cX4_withdraw 38 = .ok (.aload_n 0, 1) := by decide +kernel
theorem dX4_withdraw_39 : decode cX4_withdraw 39 = .ok (.getfield 145, 3) := by decide +kernel
theorem dX4_withdraw_42 : decode cX4_withdraw 42 = .ok (.iload_n 1, 1) := by decide +kernel
theorem dX4_withdraw_43 : decode cX4_withdraw 43 = .ok (.iastore, 1) := by decide +kernel
theorem dX4_withdraw_44 : decode cX4_withdraw 44 = .ok (.aload_n 0, 1) := by decide +kernel
theorem dX4_withdraw_45 : decode cX4_withdraw 45 = .ok (.dup, 1) := by decide +kernel
theorem dX4_withdraw_46 : decode cX4_withdraw 46 = .ok (.getfield 145, 3) := by decide +kernel
theorem dX4_withdraw_49 : decode cX4_withdraw 49 = .ok (.iconst 1, 1) := by decide +kernel
theorem dX4_withdraw_50 : decode cX4_withdraw 50 = .ok (.iadd, 1) := by decide +kernel
theorem dX4_withdraw_51 : decode cX4_withdraw 51 = .ok (.putfield 145, 3) := by decide +kernel
theorem dX4_withdraw_54 : decode cX4_withdraw 54 = .ok (.iconst 1, 1) := by decide +kernel
theorem dX4_withdraw_55 : decode cX4_withdraw 55 = .ok (.ireturn, 1) := by decide +kernel
theorem dX4_order_0 : decode cX4_order 0 = .ok (.iload_n 1, 1) := by decide +kernel
theorem dX4_order_1 : decode cX4_order 1 = .ok (.invokestatic 52, 3) := by decide +kernel
theorem dX4_order_4 : decode cX4_order 4 = .ok (.ifCond .eq 15, 3) := by decide +kernel
theorem dX4_order_7 : decode cX4_order 7 = .ok (.iload_n 2, 1) := by decide +kernel
theorem dX4_order_8 : decode cX4_order 8 = .ok (.invokestatic 52, 3) := by decide +kernel
theorem dX4_order_11 : decode cX4_order 11 = .ok (.ifCond .eq 8, 3) := by decide +kernel
theorem dX4_order_14 : decode cX4_order 14 = .ok (.iload_n 1, 1) := by decide +kernel
theorem dX4_order_15 : decode cX4_order 15 = .ok (.iload_n 2, 1) := by decide +kernel
theorem dX4_order_16 : decode cX4_order 16 = .ok (.if_icmp .ne 5, 3) := by decide +kernel
theorem dX4_order_19 : decode cX4_order 19 = .ok (.iconst 0, 1) := by decide +kernel
theorem dX4_order_20 : decode cX4_order 20 = .ok (.ireturn, 1) := by decide +kernel
theorem dX4_order_21 : decode cX4_order 21 = .ok (.aload_n 0, 1) := by decide +kernel
theorem dX4_order_22 : decode cX4_order 22 = .ok (.getfield 31, 3) := by decide +kernel
theorem dX4_order_25 : decode cX4_order 25 = .ok (.iload_n 1, 1) := by decide +kernel
theorem dX4_order_26 : decode cX4_order 26 = .ok (.iaload, 1) := by decide +kernel
theorem dX4_order_27 : decode cX4_order 27 = .ok (.iload_n 2, 1) := by decide +kernel
theorem dX4_order_28 : decode cX4_order 28 = .ok (.invokestatic 148, 3) := by decide +kernel
theorem dX4_order_31 : decode cX4_order 31 = .ok (.ifCond .ne 16, 3) := by decide +kernel
theorem dX4_order_34 : decode cX4_order 34 = .ok (.aload_n 0, 1) := by decide +kernel
theorem dX4_order_35 : decode cX4_order 35 = .ok (.getfield 34, 3) := by decide +kernel
theorem dX4_order_38 : decode cX4_order 38 = .ok (.iload_n 2, 1) := by decide +kernel
theorem dX4_order_39 : decode cX4_order 39 = .ok (.iaload, 1) := by decide +kernel
theorem dX4_order_40 : decode cX4_order 40 = .ok (.iload_n 1, 1) := by decide +kernel
theorem dX4_order_41 : decode cX4_order 41 = .ok (.invokestatic 148, 3) := by decide +kernel
theorem dX4_order_44 : decode cX4_order 44 = .ok (.ifCond .eq 5, 3) := by decide +kernel
theorem dX4_order_47 : decode cX4_order 47 = .ok (.iconst 0, 1) := by decide +kernel
theorem dX4_order_48 : decode cX4_order 48 = .ok (.ireturn, 1) := by decide +kernel
theorem dX4_order_49 : decode cX4_order 49 = .ok (.aload_n 0, 1) := by decide +kernel
theorem dX4_order_50 : decode cX4_order 50 = .ok (.getfield 31, 3) := by decide +kernel
theorem dX4_order_53 : decode cX4_order 53 = .ok (.iload_n 1, 1) := by decide +kernel
theorem dX4_order_54 : decode cX4_order 54 = .ok (.dup2, 1) := by decide +kernel
theorem dX4_order_55 : decode cX4_order 55 = .ok (.iaload, 1) := by decide +kernel
theorem dX4_order_56 : decode cX4_order 56 = .ok (.iconst 1, 1) := by decide +kernel
theorem dX4_order_57 : decode cX4_order 57 = .ok (.iload_n 2, 1) := by decide +kernel
theorem dX4_order_58 : decode cX4_order 58 = .ok (.ishl, 1) := by decide +kernel
theorem dX4_order_59 : decode cX4_order 59 = .ok (.ior, 1) := by decide +kernel
theorem dX4_order_60 : decode cX4_order 60 = .ok (.iastore, 1) := by decide +kernel
theorem dX4_order_61 : decode cX4_order 61 = .ok (.aload_n 0, 1) := by decide +kernel
theorem dX4_order_62 : decode cX4_order 62 = .ok (.getfield 34, 3) := by decide +kernel
theorem dX4_order_65 : decode cX4_order 65 = .ok (.iload_n 2, 1) := by decide +kernel
theorem dX4_order_66 : decode cX4_order 66 = .ok (.iaload, 1) := by decide +kernel
theorem dX4_order_67 : decode cX4_order 67 = .ok (.iconst 1, 1) := by decide +kernel
theorem dX4_order_68 : decode cX4_order 68 = .ok (.iload_n 2, 1) := by decide +kernel
theorem dX4_order_69 : decode cX4_order 69 = .ok (.ishl, 1) := by decide +kernel
theorem dX4_order_70 : decode cX4_order 70 = .ok (.ior, 1) := by decide +kernel
theorem dX4_order_71 : decode cX4_order 71 = .ok (.istore_n 3, 1) := by decide +kernel
theorem dX4_order_72 : decode cX4_order 72 = .ok (.iconst 0, 1) := by decide +kernel
theorem dX4_order_73 : decode cX4_order 73 = .ok (.istore 4, 2) := by decide +kernel
theorem dX4_order_75 : decode cX4_order 75 = .ok (.iload 4, 2) := by decide +kernel
theorem dX4_order_77 : decode cX4_order 77 = .ok (.bipush 10, 2) := by decide +kernel
theorem dX4_order_79 : decode cX4_order 79 = .ok (.if_icmp .ge 40, 3) := by decide +kernel
theorem dX4_order_82 : decode cX4_order 82 = .ok (.iload 4, 2) := by decide +kernel
theorem dX4_order_84 : decode cX4_order 84 = .ok (.iload_n 1, 1) := by decide +kernel
theorem dX4_order_85 : decode cX4_order 85 = .ok (.if_icmp .eq 17, 3) := by decide +kernel
theorem dX4_order_88 : decode cX4_order 88 = .ok (.aload_n 0, 1) := by decide +kernel
theorem dX4_order_89 : decode cX4_order 89 = .ok (.getfield 34, 3) := by decide +kernel
theorem dX4_order_92 : decode cX4_order 92 = .ok (.iload 4, 2) := by decide +kernel
theorem dX4_order_94 : decode cX4_order 94 = .ok (.iaload, 1) := by decide +kernel
theorem dX4_order_95 : decode cX4_order 95 = .ok (.iload_n 1, 1) := by decide +kernel
theorem dX4_order_96 : decode cX4_order 96 = .ok (.invokestatic 148, 3) := by decide +kernel
theorem dX4_order_99 : decode cX4_order 99 = .ok (.ifCond .eq 14, 3) := by decide +kernel
theorem dX4_order_102 : decode cX4_order 102 = .ok (.aload_n 0, 1) := by decide +kernel
theorem dX4_order_103 : decode cX4_order 103 = .ok (.getfield 34, 3) := by decide +kernel
theorem dX4_order_106 : decode cX4_order 106 = .ok (.iload 4, 2) := by decide +kernel
theorem dX4_order_108 : decode cX4_order 108 = .ok (.dup2, 1) := by decide +kernel
theorem dX4_order_109 : decode cX4_order 109 = .ok (.iaload, 1) := by decide +kernel
theorem dX4_order_110 : decode cX4_order 110 = .ok (.iload_n 3, 1) := by decide +kernel
theorem dX4_order_111 : decode cX4_order 111 = .ok (.ior, 1) := by decide +kernel
theorem dX4_order_112 : decode cX4_order 112 = .ok (.iastore, 1) := by decide +kernel
theorem dX4_order_113 : decode cX4_order 113 = .ok (.iinc 4 1, 3) := by decide +kernel
theorem dX4_order_116 : decode cX4_order 116 = .ok (.goto (-41), 3) := by decide +kernel
theorem dX4_order_119 : decode cX4_order 119 = .ok (.iconst 1, 1) := by decide +kernel
theorem dX4_order_120 : decode cX4_order 120 = .ok (.ireturn, 1) := by decide +kernel
theorem dX4_complete_0 : decode cX4_complete 0 = .ok (.aload_n 0, 1) := by decide +kernel
theorem dX4_complete_1 : decode cX4_complete 1 = .ok (.iload_n 1, 1) := by decide +kernel
theorem dX4_complete_2 : decode cX4_complete 2 = .ok (.invokevirtual 69, 3) := by decide +kernel
theorem dX4_complete_5 : decode cX4_complete 5 = .ok (.astore_n 2, 1) := by decide +kernel
theorem dX4_complete_6 : decode cX4_complete 6 = .ok (.aload_n 2, 1) := by decide +kernel
theorem dX4_complete_7 : decode cX4_complete 7 = .ok (.ifnonnull 5, 3) := by decide +kernel
theorem dX4_complete_10 : decode cX4_complete 10 = .ok (.iconst (-1), 1) := by decide +kernel
theorem dX4_complete_11 : decode cX4_complete 11 = .ok (.ireturn, 1) := by decide +kernel
theorem dX4_complete_12 : decode cX4_complete 12 = .ok (.aload_n 0, 1) := by decide +kernel
theorem dX4_complete_13 : decode cX4_complete 13 = .ok (.aload_n 2, 1) := by decide +kernel
theorem dX4_complete_14 : decode cX4_complete 14 = .ok (.invokevirtual 105, 3) := by decide +kernel
theorem dX4_complete_17 : decode cX4_complete 17 = .ok (.istore_n 3, 1) := by decide +kernel
theorem dX4_complete_18 : decode cX4_complete 18 = .ok (.iconst 0, 1) := by decide +kernel
theorem dX4_complete_19 : decode cX4_complete 19 = .ok (.istore 4, 2) := by decide +kernel
theorem dX4_complete_21 : decode cX4_complete 21 = .ok (.iload 4, 2) := by decide +kernel
theorem dX4_complete_23 : decode cX4_complete 23 = .ok (.bipush 10, 2) := by decide +kernel
theorem dX4_complete_25 : decode cX4_complete 25 = .ok (.if_icmp .ge 37, 3) := by decide +kernel
theorem dX4_complete_28 : decode cX4_complete 28 = .ok (.iload 4, 2) := by decide +kernel
theorem dX4_complete_30 : decode cX4_complete 30 = .ok (.aload_n 2, 1) := by decide +kernel
theorem dX4_complete_31 : decode cX4_complete 31 = .ok (.getfield 152, 3) := by decide +kernel
theorem dX4_complete_34 : decode cX4_complete 34 = .ok (.if_icmp .ge 28, 3) := by decide +kernel
theorem dX4_complete_37 : decode cX4_complete 37 = .ok (.iload_n 3, 1) := by decide +kernel
theorem dX4_complete_38 : decode cX4_complete 38 = .ok (.aload_n 2, 1) := by decide +kernel
theorem dX4_complete_39 : decode cX4_complete 39 = .ok (.getfield 155, 3) := by decide +kernel
theorem dX4_complete_42 : decode cX4_complete 42 = .ok (.iload 4, 2) := by decide +kernel
theorem dX4_complete_44 : decode cX4_complete 44 = .ok (.iaload, 1) := by decide +kernel
theorem dX4_complete_45 : decode cX4_complete 45 = .ok (.invokestatic 148, 3) := by decide +kernel
theorem dX4_complete_48 : decode cX4_complete 48 = .ok (.ifCond .ne 8, 3) := by decide +kernel
theorem dX4_complete_51 : decode cX4_complete 51 = .ok (.iconst 1, 1) := by decide +kernel
theorem dX4_complete_52 : decode cX4_complete 52 = .ok (.iload 4, 2) := by decide +kernel
theorem dX4_complete_54 : decode cX4_complete 54 = .ok (.iadd, 1) := by decide +kernel
theorem dX4_complete_55 : decode cX4_complete 55 = .ok (.ireturn, 1) := by decide +kernel
theorem dX4_complete_56 : decode cX4_complete 56 = .ok (.iinc 4 1, 3) := by decide +kernel
theorem dX4_complete_59 : decode cX4_complete 59 = .ok (.goto (-38), 3) := by decide +kernel
theorem dX4_complete_62 : decode cX4_complete 62 = .ok (.iconst 0, 1) := by decide +kernel
theorem dX4_complete_63 : decode cX4_complete 63 = .ok (.ireturn, 1) := by decide +kernel
theorem dX4_comment_0 : decode cX4_comment 0 = .ok (.aload_n 0, 1) := by decide +kernel
theorem dX4_comment_1 : decode cX4_comment 1 = .ok (.iload_n 1, 1) := by decide +kernel
theorem dX4_comment_2 : decode cX4_comment 2 = .ok (.invokevirtual 69, 3) := by decide +kernel
theorem dX4_comment_5 : decode cX4_comment 5 = .ok (.astore 5, 2) := by decide +kernel
theorem dX4_comment_7 : decode cX4_comment 7 = .ok (.aload 5, 2) := by decide +kernel
theorem dX4_comment_9 : decode cX4_comment 9 = .ok (.ifnull 29, 3) := by decide +kernel
theorem dX4_comment_12 : decode cX4_comment 12 = .ok (.iload_n 2, 1) := by decide +kernel
theorem dX4_comment_13 : decode cX4_comment 13 = .ok (.invokestatic 73, 3) := by decide +kernel
theorem dX4_comment_16 : decode cX4_comment 16 = .ok (.ifCond .eq 22, 3) := by decide +kernel
theorem dX4_comment_19 : decode cX4_comment 19 = .ok (.aload_n 0, 1) := by decide +kernel
theorem dX4_comment_20 : decode cX4_comment 20 = .ok (.lload_n 3, 1) := by decide +kernel
theorem dX4_comment_21 : decode cX4_comment 21 = .ok (.invokevirtual 87, 3) := by decide +kernel
theorem dX4_comment_24 : decode cX4_comment 24 = .ok (.ifCond .ne 14, 3) := by decide +kernel
theorem dX4_comment_27 : decode cX4_comment 27 = .ok (.aload 5, 2) := by decide +kernel
theorem dX4_comment_29 : decode cX4_comment 29 = .ok (.getfield 158, 3) := by decide +kernel
theorem dX4_comment_32 : decode cX4_comment 32 = .ok (.sipush 200, 3) := by decide +kernel
theorem dX4_comment_35 : decode cX4_comment 35 = .ok (.if_icmp .lt 5, 3) := by decide +kernel
theorem dX4_comment_38 : decode cX4_comment 38 = .ok (.iconst 0, 1) := by decide +kernel
theorem dX4_comment_39 : decode cX4_comment 39 = .ok (.ireturn, 1) := by decide +kernel
theorem dX4_comment_40 : decode cX4_comment 40 = .ok (.aload 5, 2) := by decide +kernel
theorem dX4_comment_42 : decode cX4_comment 42 = .ok (.getfield 161, 3) := by decide +kernel
theorem dX4_comment_45 : decode cX4_comment 45 = .ok (.aload 5, 2) := by decide +kernel
theorem dX4_comment_47 : decode cX4_comment 47 = .ok (.getfield 158, 3) := by decide +kernel
theorem dX4_comment_50 : decode cX4_comment 50 = .ok (.iload_n 2, 1) := by decide +kernel
theorem dX4_comment_51 : decode cX4_comment 51 = .ok (.i2b, 1) := by decide +kernel
theorem dX4_comment_52 : decode cX4_comment 52 = .ok (.bastore, 1) := by decide +kernel
theorem dX4_comment_53 : decode cX4_comment 53 = .ok (.aload 5, 2) := by decide +kernel
theorem dX4_comment_55 : decode cX4_comment 55 = .ok (.dup, 1) := by decide +kernel
theorem dX4_comment_56 : decode cX4_comment 56 = .ok (.getfield 158, 3) := by decide +kernel
theorem dX4_comment_59 : decode cX4_comment 59 = .ok (.iconst 1, 1) := by decide +kernel
theorem dX4_comment_60 : decode cX4_comment 60 = .ok (.iadd, 1) := by decide +kernel
theorem dX4_comment_61 : decode cX4_comment 61 = .ok (.putfield 158, 3) := by decide +kernel
theorem dX4_comment_64 : decode cX4_comment 64 = .ok (.aload_n 0, 1) := by decide +kernel
theorem dX4_comment_65 : decode cX4_comment 65 = .ok (.lload_n 3, 1) := by decide +kernel
theorem dX4_comment_66 : decode cX4_comment 66 = .ok (.putfield 130, 3) := by decide +kernel
theorem dX4_comment_69 : decode cX4_comment 69 = .ok (.iconst 1, 1) := by decide +kernel
theorem dX4_comment_70 : decode cX4_comment 70 = .ok (.ireturn, 1) := by decide +kernel
theorem dX4_digest_0 : decode cX4_digest 0 = .ok (.aload_n 0, 1) := by decide +kernel
theorem dX4_digest_1 : decode cX4_digest 1 = .ok (.iload_n 1, 1) := by decide +kernel
theorem dX4_digest_2 : decode cX4_digest 2 = .ok (.invokevirtual 69, 3) := by decide +kernel
theorem dX4_digest_5 : decode cX4_digest 5 = .ok (.astore_n 3, 1) := by decide +kernel
theorem dX4_digest_6 : decode cX4_digest 6 = .ok (.aload_n 3, 1) := by decide +kernel
theorem dX4_digest_7 : decode cX4_digest 7 = .ok (.ifnull 7, 3) := by decide +kernel
theorem dX4_digest_10 : decode cX4_digest 10 = .ok (.iload_n 2, 1) := by decide +kernel
theorem dX4_digest_11 : decode cX4_digest 11 = .ok (.ifCond .ge 5, 3) := by decide +kernel
theorem dX4_digest_14 : decode cX4_digest 14 = .ok (.iconst (-1), 1) := by decide +kernel
theorem dX4_digest_15 : decode cX4_digest 15 = .ok (.ireturn, 1) := by decide +kernel
theorem dX4_digest_16 : decode cX4_digest 16 = .ok (.iload_n 2, 1) := by decide +kernel
theorem dX4_digest_17 : decode cX4_digest 17 = .ok (.bipush 32, 2) := by decide +kernel
theorem dX4_digest_19 : decode cX4_digest 19 = .ok (.if_icmp .ge 27, 3) := by decide +kernel
theorem dX4_digest_22 : decode cX4_digest 22 = .ok (.aload_n 0, 1) := by decide +kernel
theorem dX4_digest_23 : decode cX4_digest 23 = .ok (.aload_n 3, 1) := by decide +kernel
theorem dX4_digest_24 : decode cX4_digest 24 = .ok (.invokevirtual 119, 3) := by decide +kernel
theorem dX4_digest_27 : decode cX4_digest 27 = .ok (.iload_n 2, 1) := by decide +kernel
theorem dX4_digest_28 : decode cX4_digest 28 = .ok (.iconst 4, 1) := by decide +kernel
theorem dX4_digest_29 : decode cX4_digest 29 = .ok (.idiv, 1) := by decide +kernel
theorem dX4_digest_30 : decode cX4_digest 30 = .ok (.iaload, 1) := by decide +kernel
theorem dX4_digest_31 : decode cX4_digest 31 = .ok (.bipush 24, 2) := by decide +kernel
theorem dX4_digest_33 : decode cX4_digest 33 = .ok (.bipush 8, 2) := by decide +kernel
theorem dX4_digest_35 : decode cX4_digest 35 = .ok (.iload_n 2, 1) := by decide +kernel
theorem dX4_digest_36 : decode cX4_digest 36 = .ok (.iconst 4, 1) := by decide +kernel
theorem dX4_digest_37 : decode cX4_digest 37 = .ok (.irem, 1) := by decide +kernel
theorem dX4_digest_38 : decode cX4_digest 38 = .ok (.imul, 1) := by decide +kernel
theorem dX4_digest_39 : decode cX4_digest 39 = .ok (.isub, 1) := by decide +kernel
theorem dX4_digest_40 : decode cX4_digest 40 = .ok (.iushr, 1) := by decide +kernel
theorem dX4_digest_41 : decode cX4_digest 41 = .ok (.sipush 255, 3) := by decide +kernel
theorem dX4_digest_44 : decode cX4_digest 44 = .ok (.iand, 1) := by decide +kernel
theorem dX4_digest_45 : decode cX4_digest 45 = .ok (.ireturn, 1) := by decide +kernel
theorem dX4_digest_46 : decode cX4_digest 46 = .ok (.iload_n 2, 1) := by decide +kernel
theorem dX4_digest_47 : decode cX4_digest 47 = .ok (.bipush 32, 2) := by decide +kernel
theorem dX4_digest_49 : decode cX4_digest 49 = .ok (.isub, 1) := by decide +kernel
theorem dX4_digest_50 : decode cX4_digest 50 = .ok (.istore 4, 2) := by decide +kernel
theorem dX4_digest_52 : decode cX4_digest 52 = .ok (.iload 4, 2) := by decide +kernel
theorem dX4_digest_54 : decode cX4_digest 54 = .ok (.aload_n 3, 1) := by decide +kernel
theorem dX4_digest_55 : decode cX4_digest 55 = .ok (.getfield 158, 3) := by decide +kernel
theorem dX4_digest_58 : decode cX4_digest 58 = .ok (.if_icmp .ge 11, 3) := by decide +kernel
theorem dX4_digest_61 : decode cX4_digest 61 = .ok (.iload 4, 2) := by decide +kernel
theorem dX4_digest_63 : decode cX4_digest 63 = .ok (.sipush 200, 3) := by decide +kernel
theorem dX4_digest_66 : decode cX4_digest 66 = .ok (.if_icmp .lt 5, 3) := by decide +kernel
theorem dX4_digest_69 : decode cX4_digest 69 = .ok (.iconst (-1), 1) := by decide +kernel
theorem dX4_digest_70 : decode cX4_digest 70 = .ok (.ireturn, 1) := by decide +kernel
theorem dX4_digest_71 : decode cX4_digest 71 = .ok (.aload_n 3, 1) := by decide +kernel
theorem dX4_digest_72 : decode cX4_digest 72 = .ok (.getfield 161, 3) := by decide +kernel
theorem dX4_digest_75 : decode cX4_digest 75 = .ok (.iload 4, 2) := by decide +kernel
theorem dX4_digest_77 : decode cX4_digest 77 = .ok (.baload, 1) := by decide +kernel
theorem dX4_digest_78 : decode cX4_digest 78 = .ok (.sipush 255, 3) := by decide +kernel
theorem dX4_digest_81 : decode cX4_digest 81 = .ok (.iand, 1) := by decide +kernel
theorem dX4_digest_82 : decode cX4_digest 82 = .ok (.ireturn, 1) := by decide +kernel
theorem dX4_listed_0 : decode cX4_listed 0 = .ok (.iload_n 1, 1) := by decide +kernel
theorem dX4_listed_1 : decode cX4_listed 1 = .ok (.ifCond .lt 18, 3) := by decide +kernel
theorem dX4_listed_4 : decode cX4_listed 4 = .ok (.iload_n 1, 1) := by decide +kernel
theorem dX4_listed_5 : decode cX4_listed 5 = .ok (.aload_n 0, 1) := by decide +kernel
theorem dX4_listed_6 : decode cX4_listed 6 = .ok (.getfield 145, 3) := by decide +kernel
theorem dX4_listed_9 : decode cX4_listed 9 = .ok (.if_icmp .ge 10, 3) := by decide +kernel
theorem dX4_listed_12 : decode cX4_listed 12 = .ok (.iload_n 1, 1) := by decide +kernel
theorem dX4_listed_13 : decode cX4_listed 13 = .ok (.sipush 400, 3) := by decide +kernel
theorem dX4_listed_16 : decode cX4_listed 16 = .ok (.if_icmp .lt 5, 3) := by decide +kernel
theorem dX4_listed_19 : decode cX4_listed 19 = .ok (.iconst (-1), 1) := by decide +kernel
theorem dX4_listed_20 : decode cX4_listed 20 = .ok (.ireturn, 1) := by decide +kernel
theorem dX4_listed_21 : decode cX4_listed 21 = .ok (.aload_n 0, 1) := by decide +kernel
theorem dX4_listed_22 : decode cX4_listed 22 = .ok (.getfield 27, 3) := by decide +kernel
theorem dX4_listed_25 : decode cX4_listed 25 = .ok (.iload_n 1, 1) := by decide +kernel
theorem dX4_listed_26 : decode cX4_listed 26 = .ok (.iaload, 1) := by decide +kernel
theorem dX4_listed_27 : decode cX4_listed 27 = .ok (.ireturn, 1) := by decide +kernel
theorem dX4_needs_0 : decode cX4_needs 0 = .ok (.aload_n 0, 1) := by decide +kernel
theorem dX4_needs_1 : decode cX4_needs 1 = .ok (.iload_n 1, 1) := by decide +kernel
theorem dX4_needs_2 : decode cX4_needs 2 = .ok (.invokevirtual 69, 3) := by decide +kernel
theorem dX4_needs_5 : decode cX4_needs 5 = .ok (.astore_n 3, 1) := by decide +kernel
theorem dX4_needs_6 : decode cX4_needs 6 = .ok (.aload_n 3, 1) := by decide +kernel
theorem dX4_needs_7 : decode cX4_needs 7 = .ok (.ifnull 10, 3) := by decide +kernel
theorem dX4_needs_10 : decode cX4_needs 10 = .ok (.iload_n 2, 1) := by decide +kernel
theorem dX4_needs_11 : decode cX4_needs 11 = .ok (.invokestatic 52, 3) := by decide +kernel
theorem dX4_needs_14 : decode cX4_needs 14 = .ok (.ifCond .ne 5, 3) := by decide +kernel
theorem dX4_needs_17 : decode cX4_needs 17 = .ok (.iconst (-1), 1) := by decide +kernel
theorem dX4_needs_18 : decode cX4_needs 18 = .ok (.ireturn, 1) := by decide +kernel
theorem dX4_needs_19 : decode cX4_needs 19 = .ok (.iconst 0, 1) := by decide +kernel
theorem dX4_needs_20 : decode cX4_needs 20 = .ok (.istore 4, 2) := by decide +kernel
theorem dX4_needs_22 : decode cX4_needs 22 = .ok (.iload 4, 2) := by decide +kernel
theorem dX4_needs_24 : decode cX4_needs 24 = .ok (.bipush 10, 2) := by decide +kernel
theorem dX4_needs_26 : decode cX4_needs 26 = .ok (.if_icmp .ge 32, 3) := by decide +kernel
theorem dX4_needs_29 : decode cX4_needs 29 = .ok (.iload 4, 2) := by decide +kernel
theorem dX4_needs_31 : decode cX4_needs 31 = .ok (.aload_n 3, 1) := by decide +kernel
theorem dX4_needs_32 : decode cX4_needs 32 = .ok (.getfield 152, 3) := by decide +kernel
theorem dX4_needs_35 : decode cX4_needs 35 = .ok (.if_icmp .ge 23, 3) := by decide +kernel
theorem dX4_needs_38 : decode cX4_needs 38 = .ok (.aload_n 3, 1) := by decide +kernel
theorem dX4_needs_39 : decode cX4_needs 39 = .ok (.getfield 155, 3) := by decide +kernel
theorem dX4_needs_42 : decode cX4_needs 42 = .ok (.iload 4, 2) := by decide +kernel
theorem dX4_needs_44 : decode cX4_needs 44 = .ok (.iaload, 1) := by decide +kernel
theorem dX4_needs_45 : decode cX4_needs 45 = .ok (.iload_n 2, 1) := by decide +kernel
theorem dX4_needs_46 : decode cX4_needs 46 = .ok (.if_icmp .ne 6, 3) := by decide +kernel
theorem dX4_needs_49 : decode cX4_needs 49 = .ok (.iload 4, 2) := by decide +kernel
theorem dX4_needs_51 : decode cX4_needs 51 = .ok (.ireturn, 1) := by decide +kernel
theorem dX4_needs_52 : decode cX4_needs 52 = .ok (.iinc 4 1, 3) := by decide +kernel
theorem dX4_needs_55 : decode cX4_needs 55 = .ok (.goto (-33), 3) := by decide +kernel
theorem dX4_needs_58 : decode cX4_needs 58 = .ok (.aload_n 3, 1) := by decide +kernel
theorem dX4_needs_59 : decode cX4_needs 59 = .ok (.getfield 152, 3) := by decide +kernel
theorem dX4_needs_62 : decode cX4_needs 62 = .ok (.bipush 10, 2) := by decide +kernel
theorem dX4_needs_64 : decode cX4_needs 64 = .ok (.if_icmp .lt 5, 3) := by decide +kernel
theorem dX4_needs_67 : decode cX4_needs 67 = .ok (.iconst (-1), 1) := by decide +kernel
theorem dX4_needs_68 : decode cX4_needs 68 = .ok (.ireturn, 1) := by decide +kernel
theorem dX4_needs_69 : decode cX4_needs 69 = .ok (.aload_n 3, 1) := by decide +kernel
theorem dX4_needs_70 : decode cX4_needs 70 = .ok (.getfield 155, 3) := by decide +kernel
theorem dX4_needs_73 : decode cX4_needs 73 = .ok (.aload_n 3, 1) := by decide +kernel
theorem dX4_needs_74 : decode cX4_needs 74 = .ok (.getfield 152, 3) := by decide +kernel
theorem dX4_needs_77 : decode cX4_needs 77 = .ok (.iload_n 2, 1) := by decide +kernel
theorem dX4_needs_78 : decode cX4_needs 78 = .ok (.iastore, 1) := by decide +kernel
theorem dX4_needs_79 : decode cX4_needs 79 = .ok (.aload_n 3, 1) := by decide +kernel
theorem dX4_needs_80 : decode cX4_needs 80 = .ok (.dup, 1) := by decide +kernel
theorem dX4_needs_81 : decode cX4_needs 81 = .ok (.getfield 152, 3) := by decide +kernel
theorem dX4_needs_84 : decode cX4_needs 84 = .ok (.dup_x1, 1) := by decide +kernel
theorem dX4_needs_85 : decode cX4_needs 85 = .ok (.iconst 1, 1) := by decide +kernel
theorem dX4_needs_86 : decode cX4_needs 86 = .ok (.iadd, 1) := by decide +kernel
theorem dX4_needs_87 : decode cX4_needs 87 = .ok (.putfield 152, 3) := by decide +kernel
theorem dX4_needs_90 : decode cX4_needs 90 = .ok (.ireturn, 1) := by decide +kernel
theorem dX4_isPerson_0 : decode cX4_isPerson 0 = .ok (.iload_n 1, 1) := by decide +kernel
theorem dX4_isPerson_1 : decode cX4_isPerson 1 = .ok (.ifCond .lt 15, 3) := by decide +kernel
theorem dX4_isPerson_4 : decode cX4_isPerson 4 = .ok (.iload_n 1, 1) := by decide +kernel
theorem dX4_isPerson_5 : decode cX4_isPerson 5 = .ok (.aload_n 0, 1) := by decide +kernel
theorem dX4_isPerson_6 : decode cX4_isPerson 6 = .ok (.getfield 44, 3) := by decide +kernel
theorem dX4_isPerson_9 : decode cX4_isPerson 9 = .ok (.if_icmp .ge 7, 3) := by decide +kernel
theorem dX4_isPerson_12 : decode cX4_isPerson 12 = .ok (.iconst 1, 1) := by decide +kernel
theorem dX4_isPerson_13 : decode cX4_isPerson 13 = .ok (.goto 4, 3) := by decide +kernel
theorem dX4_isPerson_16 : decode cX4_isPerson 16 = .ok (.iconst 0, 1) := by decide +kernel
theorem dX4_isPerson_17 : decode cX4_isPerson 17 = .ok (.ireturn, 1) := by decide +kernel
theorem dX4_isMeaning_0 : decode cX4_isMeaning 0 = .ok (.iload_n 0, 1) := by decide +kernel
theorem dX4_isMeaning_1 : decode cX4_isMeaning 1 = .ok (.ifCond .lt 13, 3) := by decide +kernel
theorem dX4_isMeaning_4 : decode cX4_isMeaning 4 = .ok (.iload_n 0, 1) := by decide +kernel
theorem dX4_isMeaning_5 : decode cX4_isMeaning 5 = .ok (.bipush 10, 2) := by decide +kernel
theorem dX4_isMeaning_7 : decode cX4_isMeaning 7 = .ok (.if_icmp .ge 7, 3) := by decide +kernel
theorem dX4_isMeaning_10 : decode cX4_isMeaning 10 = .ok (.iconst 1, 1) := by decide +kernel
theorem dX4_isMeaning_11 : decode cX4_isMeaning 11 = .ok (.goto 4, 3) := by decide +kernel
theorem dX4_isMeaning_14 : decode cX4_isMeaning 14 = .ok (.iconst 0, 1) := by decide +kernel
theorem dX4_isMeaning_15 : decode cX4_isMeaning 15 = .ok (.ireturn, 1) := by decide +kernel
theorem dX4_isByte_0 : decode cX4_isByte 0 = .ok (.iload_n 0, 1) := by decide +kernel
theorem dX4_isByte_1 : decode cX4_isByte 1 = .ok (.ifCond .lt 14, 3) := by decide +kernel
theorem dX4_isByte_4 : decode cX4_isByte 4 = .ok (.iload_n 0, 1) := by decide +kernel
theorem dX4_isByte_5 : decode cX4_isByte 5 = .ok (.sipush 255, 3) := by decide +kernel
theorem dX4_isByte_8 : decode cX4_isByte 8 = .ok (.if_icmp .gt 7, 3) := by decide +kernel
theorem dX4_isByte_11 : decode cX4_isByte 11 = .ok (.iconst 1, 1) := by decide +kernel
theorem dX4_isByte_12 : decode cX4_isByte 12 = .ok (.goto 4, 3) := by decide +kernel
theorem dX4_isByte_15 : decode cX4_isByte 15 = .ok (.iconst 0, 1) := by decide +kernel
theorem dX4_isByte_16 : decode cX4_isByte 16 = .ok (.ireturn, 1) := by decide +kernel
theorem dX4_isLate_0 : decode cX4_isLate 0 = .ok (.lload_n 1, 1) := by decide +kernel
theorem dX4_isLate_1 : decode cX4_isLate 1 = .ok (.aload_n 0, 1) := by decide +kernel
theorem dX4_isLate_2 : decode cX4_isLate 2 = .ok (.getfield 130, 3) := by decide +kernel
theorem dX4_isLate_5 : decode cX4_isLate 5 = .ok (.lcmp, 1) := by decide +kernel
theorem dX4_isLate_6 : decode cX4_isLate 6 = .ok (.ifCond .lt 11, 3) := by decide +kernel
theorem dX4_isLate_9 : decode cX4_isLate 9 = .ok (.lload_n 1, 1) := by decide +kernel
theorem dX4_isLate_10 : decode cX4_isLate 10 = .ok (.ldc2_w 55, 3) := by decide +kernel
theorem dX4_isLate_13 : decode cX4_isLate 13 = .ok (.lcmp, 1) := by decide +kernel
theorem dX4_isLate_14 : decode cX4_isLate 14 = .ok (.ifCond .le 7, 3) := by decide +kernel
theorem dX4_isLate_17 : decode cX4_isLate 17 = .ok (.iconst 1, 1) := by decide +kernel
theorem dX4_isLate_18 : decode cX4_isLate 18 = .ok (.goto 4, 3) := by decide +kernel
theorem dX4_isLate_21 : decode cX4_isLate 21 = .ok (.iconst 0, 1) := by decide +kernel
theorem dX4_isLate_22 : decode cX4_isLate 22 = .ok (.ireturn, 1) := by decide +kernel
theorem dX4_hasBit_0 : decode cX4_hasBit 0 = .ok (.iload_n 0, 1) := by decide +kernel
theorem dX4_hasBit_1 : decode cX4_hasBit 1 = .ok (.iload_n 1, 1) := by decide +kernel
theorem dX4_hasBit_2 : decode cX4_hasBit 2 = .ok (.iushr, 1) := by decide +kernel
theorem dX4_hasBit_3 : decode cX4_hasBit 3 = .ok (.iconst 1, 1) := by decide +kernel
theorem dX4_hasBit_4 : decode cX4_hasBit 4 = .ok (.iand, 1) := by decide +kernel
theorem dX4_hasBit_5 : decode cX4_hasBit 5 = .ok (.iconst 1, 1) := by decide +kernel
theorem dX4_hasBit_6 : decode cX4_hasBit 6 = .ok (.if_icmp .ne 7, 3) := by decide +kernel
theorem dX4_hasBit_9 : decode cX4_hasBit 9 = .ok (.iconst 1, 1) := by decide +kernel
theorem dX4_hasBit_10 : decode cX4_hasBit 10 = .ok (.goto 4, 3) := by decide +kernel
theorem dX4_hasBit_13 : decode cX4_hasBit 13 = .ok (.iconst 0, 1) := by decide +kernel
theorem dX4_hasBit_14 : decode cX4_hasBit 14 = .ok (.ireturn, 1) := by decide +kernel
theorem dX4_thingAt_0 : decode cX4_thingAt 0 = .ok (.iload_n 1, 1) := by decide +kernel
theorem dX4_thingAt_1 : decode cX4_thingAt 1 = .ok (.ifCond .lt 17, 3) := by decide +kernel
theorem dX4_thingAt_4 : decode cX4_thingAt 4 = .ok (.iload_n 1, 1) := by decide +kernel
theorem dX4_thingAt_5 : decode cX4_thingAt 5 = .ok (.aload_n 0, 1) := by decide +kernel
theorem dX4_thingAt_6 : decode cX4_thingAt 6 = .ok (.getfield 63, 3) := by decide +kernel
theorem dX4_thingAt_9 : decode cX4_thingAt 9 = .ok (.if_icmp .ge 9, 3) := by decide +kernel
theorem dX4_thingAt_12 : decode cX4_thingAt 12 = .ok (.iload_n 1, 1) := by decide +kernel
theorem dX4_thingAt_13 : decode cX4_thingAt 13 = .ok (.bipush 16, 2) := by decide +kernel
theorem dX4_thingAt_15 : decode cX4_thingAt 15 = .ok (.if_icmp .lt 5, 3) := by decide +kernel
theorem dX4_thingAt_18 : decode cX4_thingAt 18 = .ok (.aconst_null, 1) := by decide +kernel
theorem dX4_thingAt_19 : decode cX4_thingAt 19 = .ok (.areturn, 1) := by decide +kernel
theorem dX4_thingAt_20 : decode cX4_thingAt 20 = .ok (.aload_n 0, 1) := by decide +kernel
theorem dX4_thingAt_21 : decode cX4_thingAt 21 = .ok (.getfield 17, 3) := by decide +kernel
theorem dX4_thingAt_24 : decode cX4_thingAt 24 = .ok (.iload_n 1, 1) := by decide +kernel
theorem dX4_thingAt_25 : decode cX4_thingAt 25 = .ok (.aaload, 1) := by decide +kernel
theorem dX4_thingAt_26 : decode cX4_thingAt 26 = .ok (.areturn, 1) := by decide +kernel
theorem dX4_signatureAt_0 : decode cX4_signatureAt 0 = .ok (.iload_n 1, 1) := by decide +kernel
theorem dX4_signatureAt_1 : decode cX4_signatureAt 1 = .ok (.ifCond .lt 18, 3) := by decide +kernel
theorem dX4_signatureAt_4 : decode cX4_signatureAt 4 = .ok (.iload_n 1, 1) := by decide +kernel
theorem dX4_signatureAt_5 : decode cX4_signatureAt 5 = .ok (.aload_n 0, 1) := by decide +kernel
theorem dX4_signatureAt_6 : decode cX4_signatureAt 6 = .ok (.getfield 113, 3) := by decide +kernel
theorem dX4_signatureAt_9 : decode cX4_signatureAt 9 = .ok (.if_icmp .ge 10, 3) := by decide +kernel
theorem dX4_signatureAt_12 : decode cX4_signatureAt 12 = .ok (.iload_n 1, 1) := by decide +kernel
theorem dX4_signatureAt_13 : decode cX4_signatureAt 13 = .ok (.sipush 400, 3) := by decide +kernel
theorem dX4_signatureAt_16 : decode cX4_signatureAt 16 = .ok (.if_icmp .lt 5, 3) := by decide +kernel
theorem dX4_signatureAt_19 : decode cX4_signatureAt 19 = .ok (.aconst_null, 1) := by decide +kernel
theorem dX4_signatureAt_20 : decode cX4_signatureAt 20 = .ok (.areturn, 1) := by decide +kernel
theorem dX4_signatureAt_21 : decode cX4_signatureAt 21 = .ok (.aload_n 0, 1) := by decide +kernel
theorem dX4_signatureAt_22 : decode cX4_signatureAt 22 = .ok (.getfield 23, 3) := by decide +kernel
theorem dX4_signatureAt_25 : decode cX4_signatureAt 25 = .ok (.iload_n 1, 1) := by decide +kernel
theorem dX4_signatureAt_26 : decode cX4_signatureAt 26 = .ok (.aaload, 1) := by decide +kernel
theorem dX4_signatureAt_27 : decode cX4_signatureAt 27 = .ok (.areturn, 1) := by decide +kernel
theorem dX4_hasRole_0 : decode cX4_hasRole 0 = .ok (.iconst 0, 1) := by decide +kernel
theorem dX4_hasRole_1 : decode cX4_hasRole 1 = .ok (.istore 5, 2) := by decide +kernel
theorem dX4_hasRole_3 : decode cX4_hasRole 3 = .ok (.iload 5, 2) := by decide +kernel
theorem dX4_hasRole_5 : decode cX4_hasRole 5 = .ok (.bipush 100, 2) := by decide +kernel
theorem dX4_hasRole_7 : decode cX4_hasRole 7 = .ok (.if_icmp .ge 45, 3) := by decide +kernel
theorem dX4_hasRole_10 : decode cX4_hasRole 10 = .ok (.iload 5, 2) := by decide +kernel
theorem dX4_hasRole_12 : decode cX4_hasRole 12 = .ok (.aload_n 0, 1) := by decide +kernel
theorem dX4_hasRole_13 : decode cX4_hasRole 13 = .ok (.getfield 57, 3) := by decide +kernel
theorem dX4_hasRole_16 : decode cX4_hasRole 16 = .ok (.if_icmp .ge 36, 3) := by decide +kernel
theorem dX4_hasRole_19 : decode cX4_hasRole 19 = .ok (.aload_n 0, 1) := by decide +kernel
theorem dX4_hasRole_20 : decode cX4_hasRole 20 = .ok (.getfield 11, 3) := by decide +kernel
theorem dX4_hasRole_23 : decode cX4_hasRole 23 = .ok (.iload 5, 2) := by decide +kernel
theorem dX4_hasRole_25 : decode cX4_hasRole 25 = .ok (.aaload, 1) := by decide +kernel
theorem dX4_hasRole_26 : decode cX4_hasRole 26 = .ok (.astore 6, 2) := by decide +kernel
theorem dX4_hasRole_28 : decode cX4_hasRole 28 = .ok (.aload 6, 2) := by decide +kernel
theorem dX4_hasRole_30 : decode cX4_hasRole 30 = .ok (.ifnull 16, 3) := by decide +kernel
theorem dX4_hasRole_33 : decode cX4_hasRole 33 = .ok (.aload 6, 2) := by decide +kernel
theorem dX4_hasRole_35 : decode cX4_hasRole 35 = .ok (.iload_n 1, 1) := by decide +kernel
theorem dX4_hasRole_36 : decode cX4_hasRole 36 = .ok (.iload_n 2, 1) := by decide +kernel
theorem dX4_hasRole_37 : decode cX4_hasRole 37 = .ok (.lload_n 3, 1) := by decide +kernel
theorem dX4_hasRole_38 : decode cX4_hasRole 38 = .ok (.invokevirtual 164, 3) := by decide +kernel
theorem dX4_hasRole_41 : decode cX4_hasRole 41 = .ok (.ifCond .eq 5, 3) := by decide +kernel
theorem dX4_hasRole_44 : decode cX4_hasRole 44 = .ok (.iconst 1, 1) := by decide +kernel
theorem dX4_hasRole_45 : decode cX4_hasRole 45 = .ok (.ireturn, 1) := by decide +kernel
theorem dX4_hasRole_46 : decode cX4_hasRole 46 = .ok (.iinc 5 1, 3) := by decide +kernel
theorem dX4_hasRole_49 : decode cX4_hasRole 49 = .ok (.goto (-46), 3) := by decide +kernel
theorem dX4_hasRole_52 : decode cX4_hasRole 52 = .ok (.iconst 0, 1) := by decide +kernel
theorem dX4_hasRole_53 : decode cX4_hasRole 53 = .ok (.ireturn, 1) := by decide +kernel
theorem dX4_meaningsThatHold_0 : decode cX4_meaningsThatHold 0 = .ok (.iconst 0, 1) := by decide +kernel
theorem dX4_meaningsThatHold_1 : decode cX4_meaningsThatHold 1 = .ok (.istore_n 2, 1) := by decide +kernel
theorem dX4_meaningsThatHold_2 : decode cX4_meaningsThatHold 2 = .ok (.iconst 0, 1) := by decide +kernel
theorem dX4_meaningsThatHold_3 : decode cX4_meaningsThatHold 3 = .ok (.istore_n 3, 1) := by decide +kernel
theorem dX4_meaningsThatHold_4 : decode cX4_meaningsThatHold 4 = .ok (.iload_n 3, 1) := by decide +kernel
theorem dX4_meaningsThatHold_5 : decode cX4_meaningsThatHold 5 = .ok (.aload_n 0, 1) := by decide +kernel
theorem dX4_meaningsThatHold_6 : decode cX4_meaningsThatHold 6 = .ok (.getfield 113, 3) := by decide +kernel
theorem dX4_meaningsThatHold_9 : decode cX4_meaningsThatHold 9 = .ok (.if_icmp .ge 49, 3) := by decide +kernel
theorem dX4_meaningsThatHold_12 : decode cX4_meaningsThatHold 12 = .ok (.aload_n 0, 1) := by decide +kernel
theorem dX4_meaningsThatHold_13 : decode cX4_meaningsThatHold 13 = .ok (.iload_n 3, 1) := by decide +kernel
theorem dX4_meaningsThatHold_14 : decode cX4_meaningsThatHold 14 = .ok (.invokevirtual 134, 3) := by decide +kernel
theorem dX4_meaningsThatHold_17 : decode cX4_meaningsThatHold 17 = .ok (.astore 4, 2) := by decide +kernel
theorem dX4_meaningsThatHold_19 : decode cX4_meaningsThatHold 19 = .ok (.aload 4, 2) := by decide +kernel
theorem dX4_meaningsThatHold_21 : decode cX4_meaningsThatHold 21 = .ok (.ifnull 31, 3) := by decide +kernel
theorem dX4_meaningsThatHold_24 : decode cX4_meaningsThatHold 24 = .ok (.aload 4, 2) := by decide +kernel
theorem dX4_meaningsThatHold_26 : decode cX4_meaningsThatHold 26 = .ok (.getfield 167, 3) := by decide +kernel
theorem dX4_meaningsThatHold_29 : decode cX4_meaningsThatHold 29 = .ok (.aload_n 1, 1) := by decide +kernel
theorem dX4_meaningsThatHold_30 : decode cX4_meaningsThatHold 30 = .ok (.if_acmp .ne 22, 3) := by decide +kernel
theorem dX4_meaningsThatHold_33 : decode cX4_meaningsThatHold 33 = .ok (.aload_n 0, 1) := by decide +kernel
theorem dX4_meaningsThatHold_34 : decode cX4_meaningsThatHold 34 = .ok (.aload 4, 2) := by decide +kernel
theorem dX4_meaningsThatHold_36 : decode cX4_meaningsThatHold 36 = .ok (.invokevirtual 138, 3) := by decide +kernel
theorem dX4_meaningsThatHold_39 : decode cX4_meaningsThatHold 39 = .ok (.ifCond .eq 13, 3) := by decide +kernel
theorem dX4_meaningsThatHold_42 : decode cX4_meaningsThatHold 42 = .ok (.iload_n 2, 1) := by decide +kernel
theorem dX4_meaningsThatHold_43 : decode cX4_meaningsThatHold 43 = .ok (.iconst 1, 1) := by decide +kernel
theorem dX4_meaningsThatHold_44 : decode cX4_meaningsThatHold 44 = .ok (.aload 4, 2) := by decide +kernel
theorem dX4_meaningsThatHold_46 : decode cX4_meaningsThatHold 46 = .ok (.getfield 171, 3) := by decide +kernel
theorem dX4_meaningsThatHold_49 : decode cX4_meaningsThatHold 49 = .ok (.ishl, 1) := by decide +kernel
theorem dX4_meaningsThatHold_50 : decode cX4_meaningsThatHold 50 = .ok (.ior, 1) := by decide +kernel
theorem dX4_meaningsThatHold_51 : decode cX4_meaningsThatHold 51 = .ok (.istore_n 2, 1) := by decide +kernel
theorem dX4_meaningsThatHold_52 : decode cX4_meaningsThatHold 52 = .ok (.iinc 3 1, 3) := by decide +kernel
theorem dX4_meaningsThatHold_55 : decode cX4_meaningsThatHold 55 = .ok (.goto (-51), 3) := by decide +kernel
theorem dX4_meaningsThatHold_58 : decode cX4_meaningsThatHold 58 = .ok (.iload_n 2, 1) := by decide +kernel
theorem dX4_meaningsThatHold_59 : decode cX4_meaningsThatHold 59 = .ok (.ireturn, 1) := by decide +kernel
theorem dX4_isSignedBy_0 : decode cX4_isSignedBy 0 = .ok (.iconst 0, 1) := by decide +kernel
theorem dX4_isSignedBy_1 : decode cX4_isSignedBy 1 = .ok (.istore 4, 2) := by decide +kernel
theorem dX4_isSignedBy_3 : decode cX4_isSignedBy 3 = .ok (.iload 4, 2) := by decide +kernel
theorem dX4_isSignedBy_5 : decode cX4_isSignedBy 5 = .ok (.aload_n 0, 1) := by decide +kernel
theorem dX4_isSignedBy_6 : decode cX4_isSignedBy 6 = .ok (.getfield 113, 3) := by decide +kernel
theorem dX4_isSignedBy_9 : decode cX4_isSignedBy 9 = .ok (.if_icmp .ge 44, 3) := by decide +kernel
theorem dX4_isSignedBy_12 : decode cX4_isSignedBy 12 = .ok (.aload_n 0, 1) := by decide +kernel
theorem dX4_isSignedBy_13 : decode cX4_isSignedBy 13 = .ok (.iload 4, 2) := by decide +kernel
theorem dX4_isSignedBy_15 : decode cX4_isSignedBy 15 = .ok (.invokevirtual 134, 3) := by decide +kernel
theorem dX4_isSignedBy_18 : decode cX4_isSignedBy 18 = .ok (.astore 5, 2) := by decide +kernel
theorem dX4_isSignedBy_20 : decode cX4_isSignedBy 20 = .ok (.aload 5, 2) := by decide +kernel
theorem dX4_isSignedBy_22 : decode cX4_isSignedBy 22 = .ok (.ifnull 25, 3) := by decide +kernel
theorem dX4_isSignedBy_25 : decode cX4_isSignedBy 25 = .ok (.aload 5, 2) := by decide +kernel
theorem dX4_isSignedBy_27 : decode cX4_isSignedBy 27 = .ok (.aload_n 1, 1) := by decide +kernel
theorem dX4_isSignedBy_28 : decode cX4_isSignedBy 28 = .ok (.iload_n 2, 1) := by decide +kernel
theorem dX4_isSignedBy_29 : decode cX4_isSignedBy 29 = .ok (.iload_n 3, 1) := by decide +kernel
theorem dX4_isSignedBy_30 : decode cX4_isSignedBy 30 = .ok (.invokevirtual 174, 3) := by decide +kernel
theorem dX4_isSignedBy_33 : decode cX4_isSignedBy 33 = .ok (.ifCond .eq 14, 3) := by decide +kernel
theorem dX4_isSignedBy_36 : decode cX4_isSignedBy 36 = .ok (.aload_n 0, 1) := by decide +kernel
theorem dX4_isSignedBy_37 : decode cX4_isSignedBy 37 = .ok (.aload 5, 2) := by decide +kernel
theorem dX4_isSignedBy_39 : decode cX4_isSignedBy 39 = .ok (.invokevirtual 138, 3) := by decide +kernel
theorem dX4_isSignedBy_42 : decode cX4_isSignedBy 42 = .ok (.ifCond .eq 5, 3) := by decide +kernel
theorem dX4_isSignedBy_45 : decode cX4_isSignedBy 45 = .ok (.iconst 1, 1) := by decide +kernel
theorem dX4_isSignedBy_46 : decode cX4_isSignedBy 46 = .ok (.ireturn, 1) := by decide +kernel
theorem dX4_isSignedBy_47 : decode cX4_isSignedBy 47 = .ok (.iinc 4 1, 3) := by decide +kernel
theorem dX4_isSignedBy_50 : decode cX4_isSignedBy 50 = .ok (.goto (-47), 3) := by decide +kernel
theorem dX4_isSignedBy_53 : decode cX4_isSignedBy 53 = .ok (.iconst 0, 1) := by decide +kernel
theorem dX4_isSignedBy_54 : decode cX4_isSignedBy 54 = .ok (.ireturn, 1) := by decide +kernel
theorem dX4_isStanding_0 : decode cX4_isStanding 0 = .ok (.aload_n 1, 1) := by decide +kernel
theorem dX4_isStanding_1 : decode cX4_isStanding 1 = .ok (.getfield 142, 3) := by decide +kernel
theorem dX4_isStanding_4 : decode cX4_isStanding 4 = .ok (.ifCond .ne 25, 3) := by decide +kernel
theorem dX4_isStanding_7 : decode cX4_isStanding 7 = .ok (.aload_n 1, 1) := by decide +kernel
theorem dX4_isStanding_8 : decode cX4_isStanding 8 = .ok (.getfield 123, 3) := by decide +kernel
theorem dX4_isStanding_11 : decode cX4_isStanding 11 = .ok (.aload_n 0, 1) := by decide +kernel
theorem dX4_isStanding_12 : decode cX4_isStanding 12 = .ok (.aload_n 1, 1) := by decide +kernel
theorem dX4_isStanding_13 : decode cX4_isStanding 13 = .ok (.getfield 167, 3) := by decide +kernel
theorem dX4_isStanding_16 : decode cX4_isStanding 16 = .ok (.invokevirtual 119, 3) := by decide +kernel
theorem dX4_isStanding_19 : decode cX4_isStanding 19 = .ok (.invokestatic 177, 3) := by decide +kernel
theorem dX4_isStanding_22 : decode cX4_isStanding 22 = .ok (.ifCond .eq 7, 3) := by decide +kernel
theorem dX4_isStanding_25 : decode cX4_isStanding 25 = .ok (.iconst 1, 1) := by decide +kernel
theorem dX4_isStanding_26 : decode cX4_isStanding 26 = .ok (.goto 4, 3) := by decide +kernel
theorem dX4_isStanding_29 : decode cX4_isStanding 29 = .ok (.iconst 0, 1) := by decide +kernel
theorem dX4_isStanding_30 : decode cX4_isStanding 30 = .ok (.ireturn, 1) := by decide +kernel
theorem dX4_digestWordsOf_0 : decode cX4_digestWordsOf 0 = .ok (.aload_n 1, 1) := by decide +kernel
theorem dX4_digestWordsOf_1 : decode cX4_digestWordsOf 1 = .ok (.getfield 83, 3) := by decide +kernel
theorem dX4_digestWordsOf_4 : decode cX4_digestWordsOf 4 = .ok (.ifCond .eq 37, 3) := by decide +kernel
theorem dX4_digestWordsOf_7 : decode cX4_digestWordsOf 7 = .ok (.aload_n 0, 1) := by decide +kernel
theorem dX4_digestWordsOf_8 : decode cX4_digestWordsOf 8 = .ok (.getfield 40, 3) := by decide +kernel
theorem dX4_digestWordsOf_11 : decode cX4_digestWordsOf 11 = .ok (.aload_n 1, 1) := by decide +kernel
theorem dX4_digestWordsOf_12 : decode cX4_digestWordsOf 12 = .ok (.getfield 79, 3) := by decide +kernel
theorem dX4_digestWordsOf_15 : decode cX4_digestWordsOf 15 = .ok (.aload_n 1, 1) := by decide +kernel
theorem dX4_digestWordsOf_16 : decode cX4_digestWordsOf 16 = .ok (.getfield 76, 3) := by decide +kernel
theorem dX4_digestWordsOf_19 : decode cX4_digestWordsOf 19 = .ok (.invokevirtual 181, 3) := by decide +kernel
theorem dX4_digestWordsOf_22 : decode cX4_digestWordsOf 22 = .ok (.aload_n 0, 1) := by decide +kernel
theorem dX4_digestWordsOf_23 : decode cX4_digestWordsOf 23 = .ok (.getfield 40, 3) := by decide +kernel
theorem dX4_digestWordsOf_26 : decode cX4_digestWordsOf 26 = .ok (.getfield 185, 3) := by decide +kernel
theorem dX4_digestWordsOf_29 : decode cX4_digestWordsOf 29 = .ok (.aload_n 1, 1) := by decide +kernel
theorem dX4_digestWordsOf_30 : decode cX4_digestWordsOf 30 = .ok (.getfield 188, 3) := by decide +kernel
theorem dX4_digestWordsOf_33 : decode cX4_digestWordsOf 33 = .ok (.invokestatic 126, 3) := by decide +kernel
theorem dX4_digestWordsOf_36 : decode cX4_digestWordsOf 36 = .ok (.aload_n 1, 1) := by decide +kernel
theorem dX4_digestWordsOf_37 : decode cX4_digestWordsOf 37 = .ok (.iconst 0, 1) := by decide +kernel
theorem dX4_digestWordsOf_38 : decode cX4_digestWordsOf 38 = .ok (.putfield 83, 3) := by decide +kernel
theorem dX4_digestWordsOf_41 : decode cX4_digestWordsOf 41 = .ok (.aload_n 1, 1) := by decide +kernel
theorem dX4_digestWordsOf_42 : decode cX4_digestWordsOf 42 = .ok (.getfield 188, 3) := by decide +kernel
theorem dX4_digestWordsOf_45 : decode cX4_digestWordsOf 45 = .ok (.areturn, 1) := by decide +kernel
theorem dX4_copyWords_0 : decode cX4_copyWords 0 = .ok (.iconst 0, 1) := by decide +kernel
theorem dX4_copyWords_1 : decode cX4_copyWords 1 = .ok (.istore_n 2, 1) := by decide +kernel
theorem dX4_copyWords_2 : decode cX4_copyWords 2 = .ok (.iload_n 2, 1) := by decide +kernel
theorem dX4_copyWords_3 : decode cX4_copyWords 3 = .ok (.bipush 8, 2) := by decide +kernel
theorem dX4_copyWords_5 : decode cX4_copyWords 5 = .ok (.if_icmp .ge 15, 3) := by decide +kernel
theorem dX4_copyWords_8 : decode cX4_copyWords 8 = .ok (.aload_n 1, 1) := by decide +kernel
theorem dX4_copyWords_9 : decode cX4_copyWords 9 = .ok (.iload_n 2, 1) := by decide +kernel
theorem dX4_copyWords_10 : decode cX4_copyWords 10 = .ok (.aload_n 0, 1) := by decide +kernel
theorem dX4_copyWords_11 : decode cX4_copyWords 11 = .ok (.iload_n 2, 1) := by decide +kernel
theorem dX4_copyWords_12 : decode cX4_copyWords 12 = .ok (.iaload, 1) := by decide +kernel
theorem dX4_copyWords_13 : decode cX4_copyWords 13 = .ok (.iastore, 1) := by decide +kernel
theorem dX4_copyWords_14 : decode cX4_copyWords 14 = .ok (.iinc 2 1, 3) := by decide +kernel
theorem dX4_copyWords_17 : decode cX4_copyWords 17 = .ok (.goto (-15), 3) := by decide +kernel
theorem dX4_copyWords_20 : decode cX4_copyWords 20 = .ok (.return_, 1) := by decide +kernel
theorem dX4_areSameWords_0 : decode cX4_areSameWords 0 = .ok (.iconst 0, 1) := by decide +kernel
theorem dX4_areSameWords_1 : decode cX4_areSameWords 1 = .ok (.istore_n 2, 1) := by decide +kernel
theorem dX4_areSameWords_2 : decode cX4_areSameWords 2 = .ok (.iload_n 2, 1) := by decide +kernel
theorem dX4_areSameWords_3 : decode cX4_areSameWords 3 = .ok (.bipush 8, 2) := by decide +kernel
theorem dX4_areSameWords_5 : decode cX4_areSameWords 5 = .ok (.if_icmp .ge 20, 3) := by decide +kernel
theorem dX4_areSameWords_8 : decode cX4_areSameWords 8 = .ok (.aload_n 0, 1) := by decide +kernel
theorem dX4_areSameWords_9 : decode cX4_areSameWords 9 = .ok (.iload_n 2, 1) := by decide +kernel
theorem dX4_areSameWords_10 : decode cX4_areSameWords 10 = .ok (.iaload, 1) := by decide +kernel
theorem dX4_areSameWords_11 : decode cX4_areSameWords 11 = .ok (.aload_n 1, 1) := by decide +kernel
theorem dX4_areSameWords_12 : decode cX4_areSameWords 12 = .ok (.iload_n 2, 1) := by decide +kernel
theorem dX4_areSameWords_13 : decode cX4_areSameWords 13 = .ok (.iaload, 1) := by decide +kernel
theorem dX4_areSameWords_14 : decode cX4_areSameWords 14 = .ok (.if_icmp .eq 5, 3) := by decide +kernel
theorem dX4_areSameWords_17 : decode cX4_areSameWords 17 = .ok (.iconst 0, 1) := by decide +kernel
theorem dX4_areSameWords_18 : decode cX4_areSameWords 18 = .ok (.ireturn, 1) := by decide +kernel
theorem dX4_areSameWords_19 : decode cX4_areSameWords 19 = .ok (.iinc 2 1, 3) := by decide +kernel
theorem dX4_areSameWords_22 : decode cX4_areSameWords 22 = .ok (.goto (-20), 3) := by decide +kernel
theorem dX4_areSameWords_25 : decode cX4_areSameWords 25 = .ok (.iconst 1, 1) := by decide +kernel
theorem dX4_areSameWords_26 : decode cX4_areSameWords 26 = .ok (.ireturn, 1) := by decide +kernel
