theorem dX0_init_0 : decode cX0_init 0 = .ok (.aload_n 0, 1) := by decide +kernel
theorem dX0_init_1 : decode cX0_init 1 = .ok (.invokespecial 3, 3) := by decide +kernel
theorem dX0_init_4 : decode cX0_init 4 = .ok (.aload_n 0, 1) := by decide +kernel
theorem dX0_init_5 : decode cX0_init 5 = .ok (.iconst 0, 1) := by decide +kernel
theorem dX0_init_6 : decode cX0_init 6 = .ok (.putfield 9, 3) := by decide +kernel
theorem dX0_init_9 : decode cX0_init 9 = .ok (.aload_n 0, 1) := by decide +kernel
theorem dX0_init_10 : decode cX0_init 10 = .ok (.iconst 0, 1) := by decide +kernel
theorem dX0_init_11 : decode cX0_init 11 = .ok (.putfield 15, 3) := by decide +kernel
theorem dX0_init_14 : decode cX0_init 14 = .ok (.aload_n 0, 1) := by decide +kernel
theorem dX0_init_15 : decode cX0_init 15 = .ok (.aload_n 1, 1) := by decide +kernel
theorem dX0_init_16 : decode cX0_init 16 = .ok (.putfield 18, 3) := by decide +kernel
theorem dX0_init_19 : decode cX0_init 19 = .ok (.aload_n 0, 1) := by decide +kernel
theorem dX0_init_20 : decode cX0_init 20 = .ok (.aload_n 2, 1) := by decide +kernel
theorem dX0_init_21 : decode cX0_init 21 = .ok (.putfield 22, 3) := by decide +kernel
theorem dX0_init_24 : decode cX0_init 24 = .ok (.aload_n 0, 1) := by decide +kernel
theorem dX0_init_25 : decode cX0_init 25 = .ok (.aload_n 3, 1) := by decide +kernel
theorem dX0_init_26 : decode cX0_init 26 = .ok (.putfield 26, 3) := by decide +kernel
theorem dX0_init_29 : decode cX0_init 29 = .ok (.return_, 1) := by decide +kernel
theorem dX0_wrongLine_0 : decode cX0_wrongLine 0 = .ok (.aload_n 0, 1) := by decide +kernel
theorem dX0_wrongLine_1 : decode cX0_wrongLine 1 = .ok (.iload_n 1, 1) := by decide +kernel
theorem dX0_wrongLine_2 : decode cX0_wrongLine 2 = .ok (.putfield 9, 3) := by decide +kernel
theorem dX0_wrongLine_5 : decode cX0_wrongLine 5 = .ok (.aload_n 0, 1) := by decide +kernel
theorem dX0_wrongLine_6 : decode cX0_wrongLine 6 = .ok (.iconst 0, 1) := by decide +kernel
theorem dX0_wrongLine_7 : decode cX0_wrongLine 7 = .ok (.putfield 15, 3) := by decide +kernel
theorem dX0_wrongLine_10 : decode cX0_wrongLine 10 = .ok (.aload_n 0, 1) := by decide +kernel
theorem dX0_wrongLine_11 : decode cX0_wrongLine 11 = .ok (.getfield 22, 3) := by decide +kernel
theorem dX0_wrongLine_14 : decode cX0_wrongLine 14 = .ok (.invokevirtual 30, 3) := by decide +kernel
theorem dX0_wrongLine_17 : decode cX0_wrongLine 17 = .ok (.aload_n 0, 1) := by decide +kernel
theorem dX0_wrongLine_18 : decode cX0_wrongLine 18 = .ok (.iconst 0, 1) := by decide +kernel
theorem dX0_wrongLine_19 : decode cX0_wrongLine 19 = .ok (.invokevirtual 35, 3) := by decide +kernel
theorem dX0_wrongLine_22 : decode cX0_wrongLine 22 = .ok (.ifCond .eq 21, 3) := by decide +kernel
theorem dX0_wrongLine_25 : decode cX0_wrongLine 25 = .ok (.aload_n 0, 1) := by decide +kernel
theorem dX0_wrongLine_26 : decode cX0_wrongLine 26 = .ok (.getfield 15, 3) := by decide +kernel
theorem dX0_wrongLine_29 : decode cX0_wrongLine 29 = .ok (.aload_n 0, 1) := by decide +kernel
theorem dX0_wrongLine_30 : decode cX0_wrongLine 30 = .ok (.getfield 26, 3) := by decide +kernel
theorem dX0_wrongLine_33 : decode cX0_wrongLine 33 = .ok (.getfield 39, 3) := by decide +kernel
theorem dX0_wrongLine_36 : decode cX0_wrongLine 36 = .ok (.if_icmp .ne 7, 3) := by decide +kernel
theorem dX0_wrongLine_39 : decode cX0_wrongLine 39 = .ok (.iconst (-1), 1) := by decide +kernel
theorem dX0_wrongLine_40 : decode cX0_wrongLine 40 = .ok (.goto 7, 3) := by decide +kernel
theorem dX0_wrongLine_43 : decode cX0_wrongLine 43 = .ok (.aload_n 0, 1) := by decide +kernel
theorem dX0_wrongLine_44 : decode cX0_wrongLine 44 = .ok (.getfield 15, 3) := by decide +kernel
theorem dX0_wrongLine_47 : decode cX0_wrongLine 47 = .ok (.ireturn, 1) := by decide +kernel
theorem dX0_proof_0 : decode cX0_proof 0 = .ok (.aload_n 0, 1) := by decide +kernel
theorem dX0_proof_1 : decode cX0_proof 1 = .ok (.getfield 26, 3) := by decide +kernel
theorem dX0_proof_4 : decode cX0_proof 4 = .ok (.aload_n 0, 1) := by decide +kernel
theorem dX0_proof_5 : decode cX0_proof 5 = .ok (.getfield 15, 3) := by decide +kernel
theorem dX0_proof_8 : decode cX0_proof 8 = .ok (.invokevirtual 44, 3) := by decide +kernel
theorem dX0_proof_11 : decode cX0_proof 11 = .ok (.ifCond .eq 9, 3) := by decide +kernel
theorem dX0_proof_14 : decode cX0_proof 14 = .ok (.iload_n 1, 1) := by decide +kernel
theorem dX0_proof_15 : decode cX0_proof 15 = .ok (.bipush 30, 2) := by decide +kernel
theorem dX0_proof_17 : decode cX0_proof 17 = .ok (.if_icmp .le 5, 3) := by decide +kernel
theorem dX0_proof_20 : decode cX0_proof 20 = .ok (.iconst 0, 1) := by decide +kernel
theorem dX0_proof_21 : decode cX0_proof 21 = .ok (.ireturn, 1) := by decide +kernel
theorem dX0_proof_22 : decode cX0_proof 22 = .ok (.aload_n 0, 1) := by decide +kernel
theorem dX0_proof_23 : decode cX0_proof 23 = .ok (.getfield 26, 3) := by decide +kernel
theorem dX0_proof_26 : decode cX0_proof 26 = .ok (.getfield 47, 3) := by decide +kernel
theorem dX0_proof_29 : decode cX0_proof 29 = .ok (.aload_n 0, 1) := by decide +kernel
theorem dX0_proof_30 : decode cX0_proof 30 = .ok (.getfield 15, 3) := by decide +kernel
theorem dX0_proof_33 : decode cX0_proof 33 = .ok (.iaload, 1) := by decide +kernel
theorem dX0_proof_34 : decode cX0_proof 34 = .ok (.istore_n 2, 1) := by decide +kernel
theorem dX0_proof_35 : decode cX0_proof 35 = .ok (.aload_n 0, 1) := by decide +kernel
theorem dX0_proof_36 : decode cX0_proof 36 = .ok (.getfield 26, 3) := by decide +kernel
theorem dX0_proof_39 : decode cX0_proof 39 = .ok (.getfield 51, 3) := by decide +kernel
theorem dX0_proof_42 : decode cX0_proof 42 = .ok (.aload_n 0, 1) := by decide +kernel
theorem dX0_proof_43 : decode cX0_proof 43 = .ok (.getfield 15, 3) := by decide +kernel
theorem dX0_proof_46 : decode cX0_proof 46 = .ok (.iaload, 1) := by decide +kernel
theorem dX0_proof_47 : decode cX0_proof 47 = .ok (.lookupswitch 42 #[(1, 25), (4, 32)], 25) := by decide +kernel
theorem dX0_proof_72 : decode cX0_proof 72 = .ok (.aload_n 0, 1) := by decide +kernel
theorem dX0_proof_73 : decode cX0_proof 73 = .ok (.iload_n 2, 1) := by decide +kernel
theorem dX0_proof_74 : decode cX0_proof 74 = .ok (.iload_n 1, 1) := by decide +kernel
theorem dX0_proof_75 : decode cX0_proof 75 = .ok (.invokevirtual 54, 3) := by decide +kernel
theorem dX0_proof_78 : decode cX0_proof 78 = .ok (.ireturn, 1) := by decide +kernel
theorem dX0_proof_79 : decode cX0_proof 79 = .ok (.aload_n 0, 1) := by decide +kernel
theorem dX0_proof_80 : decode cX0_proof 80 = .ok (.aload_n 0, 1) := by decide +kernel
theorem dX0_proof_81 : decode cX0_proof 81 = .ok (.iload_n 2, 1) := by decide +kernel
theorem dX0_proof_82 : decode cX0_proof 82 = .ok (.invokevirtual 58, 3) := by decide +kernel
theorem dX0_proof_85 : decode cX0_proof 85 = .ok (.invokevirtual 61, 3) := by decide +kernel
theorem dX0_proof_88 : decode cX0_proof 88 = .ok (.ireturn, 1) := by decide +kernel
theorem dX0_proof_89 : decode cX0_proof 89 = .ok (.iconst 0, 1) := by decide +kernel
theorem dX0_proof_90 : decode cX0_proof 90 = .ok (.ireturn, 1) := by decide +kernel
theorem dX0_branch_0 : decode cX0_branch 0 = .ok (.aload_n 0, 1) := by decide +kernel
theorem dX0_branch_1 : decode cX0_branch 1 = .ok (.aload_n 0, 1) := by decide +kernel
theorem dX0_branch_2 : decode cX0_branch 2 = .ok (.getfield 18, 3) := by decide +kernel
theorem dX0_branch_5 : decode cX0_branch 5 = .ok (.iload_n 1, 1) := by decide +kernel
theorem dX0_branch_6 : decode cX0_branch 6 = .ok (.invokevirtual 65, 3) := by decide +kernel
theorem dX0_branch_9 : decode cX0_branch 9 = .ok (.ifCond .eq 21, 3) := by decide +kernel
theorem dX0_branch_12 : decode cX0_branch 12 = .ok (.aload_n 0, 1) := by decide +kernel
theorem dX0_branch_13 : decode cX0_branch 13 = .ok (.getfield 22, 3) := by decide +kernel
theorem dX0_branch_16 : decode cX0_branch 16 = .ok (.getfield 70, 3) := by decide +kernel
theorem dX0_branch_19 : decode cX0_branch 19 = .ok (.iload_n 1, 1) := by decide +kernel
theorem dX0_branch_20 : decode cX0_branch 20 = .ok (.invokestatic 73, 3) := by decide +kernel
theorem dX0_branch_23 : decode cX0_branch 23 = .ok (.ifCond .eq 7, 3) := by decide +kernel
theorem dX0_branch_26 : decode cX0_branch 26 = .ok (.iconst 1, 1) := by decide +kernel
theorem dX0_branch_27 : decode cX0_branch 27 = .ok (.goto 4, 3) := by decide +kernel
theorem dX0_branch_30 : decode cX0_branch 30 = .ok (.iconst 0, 1) := by decide +kernel
theorem dX0_branch_31 : decode cX0_branch 31 = .ok (.invokevirtual 61, 3) := by decide +kernel
theorem dX0_branch_34 : decode cX0_branch 34 = .ok (.ifCond .ne 5, 3) := by decide +kernel
theorem dX0_branch_37 : decode cX0_branch 37 = .ok (.iconst 0, 1) := by decide +kernel
theorem dX0_branch_38 : decode cX0_branch 38 = .ok (.ireturn, 1) := by decide +kernel
theorem dX0_branch_39 : decode cX0_branch 39 = .ok (.aload_n 0, 1) := by decide +kernel
theorem dX0_branch_40 : decode cX0_branch 40 = .ok (.getfield 22, 3) := by decide +kernel
theorem dX0_branch_43 : decode cX0_branch 43 = .ok (.getfield 76, 3) := by decide +kernel
theorem dX0_branch_46 : decode cX0_branch 46 = .ok (.istore_n 3, 1) := by decide +kernel
theorem dX0_branch_47 : decode cX0_branch 47 = .ok (.iconst 0, 1) := by decide +kernel
theorem dX0_branch_48 : decode cX0_branch 48 = .ok (.istore 4, 2) := by decide +kernel
theorem dX0_branch_50 : decode cX0_branch 50 = .ok (.iload 4, 2) := by decide +kernel
theorem dX0_branch_52 : decode cX0_branch 52 = .ok (.aload_n 0, 1) := by decide +kernel
theorem dX0_branch_53 : decode cX0_branch 53 = .ok (.getfield 9, 3) := by decide +kernel
theorem dX0_branch_56 : decode cX0_branch 56 = .ok (.if_icmp .ge 59, 3) := by decide +kernel
theorem dX0_branch_59 : decode cX0_branch 59 = .ok (.iload 4, 2) := by decide +kernel
theorem dX0_branch_61 : decode cX0_branch 61 = .ok (.iload_n 3, 1) := by decide +kernel
theorem dX0_branch_62 : decode cX0_branch 62 = .ok (.if_icmp .gt 53, 3) := by decide +kernel
theorem dX0_branch_65 : decode cX0_branch 65 = .ok (.aload_n 0, 1) := by decide +kernel
theorem dX0_branch_66 : decode cX0_branch 66 = .ok (.getfield 22, 3) := by decide +kernel
theorem dX0_branch_69 : decode cX0_branch 69 = .ok (.iload_n 1, 1) := by decide +kernel
theorem dX0_branch_70 : decode cX0_branch 70 = .ok (.iload 4, 2) := by decide +kernel
theorem dX0_branch_72 : decode cX0_branch 72 = .ok (.invokevirtual 79, 3) := by decide +kernel
theorem dX0_branch_75 : decode cX0_branch 75 = .ok (.ifCond .eq 17, 3) := by decide +kernel
theorem dX0_branch_78 : decode cX0_branch 78 = .ok (.aload_n 0, 1) := by decide +kernel
theorem dX0_branch_79 : decode cX0_branch 79 = .ok (.aload_n 0, 1) := by decide +kernel
theorem dX0_branch_80 : decode cX0_branch 80 = .ok (.iload_n 1, 1) := by decide +kernel
theorem dX0_branch_81 : decode cX0_branch 81 = .ok (.iload 4, 2) := by decide +kernel
theorem dX0_branch_83 : decode cX0_branch 83 = .ok (.invokevirtual 82, 3) := by decide +kernel
theorem dX0_branch_86 : decode cX0_branch 86 = .ok (.invokevirtual 61, 3) := by decide +kernel
theorem dX0_branch_89 : decode cX0_branch 89 = .ok (.goto 11, 3) := by decide +kernel
theorem dX0_branch_92 : decode cX0_branch 92 = .ok (.aload_n 0, 1) := by decide +kernel
theorem dX0_branch_93 : decode cX0_branch 93 = .ok (.iload_n 1, 1) := by decide +kernel
theorem dX0_branch_94 : decode cX0_branch 94 = .ok (.iload 4, 2) := by decide +kernel
theorem dX0_branch_96 : decode cX0_branch 96 = .ok (.iload_n 2, 1) := by decide +kernel
theorem dX0_branch_97 : decode cX0_branch 97 = .ok (.invokevirtual 85, 3) := by decide +kernel
theorem dX0_branch_100 : decode cX0_branch 100 = .ok (.istore 5, 2) := by decide +kernel
theorem dX0_branch_102 : decode cX0_branch 102 = .ok (.iload 5, 2) := by decide +kernel
theorem dX0_branch_104 : decode cX0_branch 104 = .ok (.ifCond .ne 5, 3) := by decide +kernel
theorem dX0_branch_107 : decode cX0_branch 107 = .ok (.iconst 0, 1) := by decide +kernel
theorem dX0_branch_108 : decode cX0_branch 108 = .ok (.ireturn, 1) := by decide +kernel
theorem dX0_branch_109 : decode cX0_branch 109 = .ok (.iinc 4 1, 3) := by decide +kernel
theorem dX0_branch_112 : decode cX0_branch 112 = .ok (.goto (-62), 3) := by decide +kernel
theorem dX0_branch_115 : decode cX0_branch 115 = .ok (.iconst 1, 1) := by decide +kernel
theorem dX0_branch_116 : decode cX0_branch 116 = .ok (.ireturn, 1) := by decide +kernel
theorem dX0_attempt_0 : decode cX0_attempt 0 = .ok (.aload_n 0, 1) := by decide +kernel
theorem dX0_attempt_1 : decode cX0_attempt 1 = .ok (.aload_n 0, 1) := by decide +kernel
theorem dX0_attempt_2 : decode cX0_attempt 2 = .ok (.getfield 26, 3) := by decide +kernel
theorem dX0_attempt_5 : decode cX0_attempt 5 = .ok (.aload_n 0, 1) := by decide +kernel
theorem dX0_attempt_6 : decode cX0_attempt 6 = .ok (.getfield 15, 3) := by decide +kernel
theorem dX0_attempt_9 : decode cX0_attempt 9 = .ok (.invokevirtual 44, 3) := by decide +kernel
theorem dX0_attempt_12 : decode cX0_attempt 12 = .ok (.ifCond .eq 39, 3) := by decide +kernel
theorem dX0_attempt_15 : decode cX0_attempt 15 = .ok (.aload_n 0, 1) := by decide +kernel
theorem dX0_attempt_16 : decode cX0_attempt 16 = .ok (.getfield 26, 3) := by decide +kernel
theorem dX0_attempt_19 : decode cX0_attempt 19 = .ok (.getfield 51, 3) := by decide +kernel
theorem dX0_attempt_22 : decode cX0_attempt 22 = .ok (.aload_n 0, 1) := by decide +kernel
theorem dX0_attempt_23 : decode cX0_attempt 23 = .ok (.getfield 15, 3) := by decide +kernel
theorem dX0_attempt_26 : decode cX0_attempt 26 = .ok (.iaload, 1) := by decide +kernel
theorem dX0_attempt_27 : decode cX0_attempt 27 = .ok (.iconst 3, 1) := by decide +kernel
theorem dX0_attempt_28 : decode cX0_attempt 28 = .ok (.if_icmp .ne 23, 3) := by decide +kernel
theorem dX0_attempt_31 : decode cX0_attempt 31 = .ok (.aload_n 0, 1) := by decide +kernel
theorem dX0_attempt_32 : decode cX0_attempt 32 = .ok (.getfield 26, 3) := by decide +kernel
theorem dX0_attempt_35 : decode cX0_attempt 35 = .ok (.getfield 47, 3) := by decide +kernel
theorem dX0_attempt_38 : decode cX0_attempt 38 = .ok (.aload_n 0, 1) := by decide +kernel
theorem dX0_attempt_39 : decode cX0_attempt 39 = .ok (.getfield 15, 3) := by decide +kernel
theorem dX0_attempt_42 : decode cX0_attempt 42 = .ok (.iaload, 1) := by decide +kernel
theorem dX0_attempt_43 : decode cX0_attempt 43 = .ok (.iload_n 2, 1) := by decide +kernel
theorem dX0_attempt_44 : decode cX0_attempt 44 = .ok (.if_icmp .ne 7, 3) := by decide +kernel
theorem dX0_attempt_47 : decode cX0_attempt 47 = .ok (.iconst 1, 1) := by decide +kernel
theorem dX0_attempt_48 : decode cX0_attempt 48 = .ok (.goto 4, 3) := by decide +kernel
theorem dX0_attempt_51 : decode cX0_attempt 51 = .ok (.iconst 0, 1) := by decide +kernel
theorem dX0_attempt_52 : decode cX0_attempt 52 = .ok (.invokevirtual 61, 3) := by decide +kernel
theorem dX0_attempt_55 : decode cX0_attempt 55 = .ok (.ifCond .ne 5, 3) := by decide +kernel
theorem dX0_attempt_58 : decode cX0_attempt 58 = .ok (.iconst 0, 1) := by decide +kernel
theorem dX0_attempt_59 : decode cX0_attempt 59 = .ok (.ireturn, 1) := by decide +kernel
theorem dX0_attempt_60 : decode cX0_attempt 60 = .ok (.aload_n 0, 1) := by decide +kernel
theorem dX0_attempt_61 : decode cX0_attempt 61 = .ok (.getfield 22, 3) := by decide +kernel
theorem dX0_attempt_64 : decode cX0_attempt 64 = .ok (.iload_n 1, 1) := by decide +kernel
theorem dX0_attempt_65 : decode cX0_attempt 65 = .ok (.iload_n 2, 1) := by decide +kernel
theorem dX0_attempt_66 : decode cX0_attempt 66 = .ok (.invokevirtual 89, 3) := by decide +kernel
theorem dX0_attempt_69 : decode cX0_attempt 69 = .ok (.aload_n 0, 1) := by decide +kernel
theorem dX0_attempt_70 : decode cX0_attempt 70 = .ok (.iload_n 3, 1) := by decide +kernel
theorem dX0_attempt_71 : decode cX0_attempt 71 = .ok (.iconst 1, 1) := by decide +kernel
theorem dX0_attempt_72 : decode cX0_attempt 72 = .ok (.iadd, 1) := by decide +kernel
theorem dX0_attempt_73 : decode cX0_attempt 73 = .ok (.invokevirtual 35, 3) := by decide +kernel
theorem dX0_attempt_76 : decode cX0_attempt 76 = .ok (.istore 4, 2) := by decide +kernel
theorem dX0_attempt_78 : decode cX0_attempt 78 = .ok (.aload_n 0, 1) := by decide +kernel
theorem dX0_attempt_79 : decode cX0_attempt 79 = .ok (.getfield 22, 3) := by decide +kernel
theorem dX0_attempt_82 : decode cX0_attempt 82 = .ok (.iload_n 1, 1) := by decide +kernel
theorem dX0_attempt_83 : decode cX0_attempt 83 = .ok (.iload_n 2, 1) := by decide +kernel
theorem dX0_attempt_84 : decode cX0_attempt 84 = .ok (.invokevirtual 93, 3) := by decide +kernel
theorem dX0_attempt_87 : decode cX0_attempt 87 = .ok (.iload 4, 2) := by decide +kernel
theorem dX0_attempt_89 : decode cX0_attempt 89 = .ok (.ireturn, 1) := by decide +kernel
theorem dX0_blocks_0 : decode cX0_blocks 0 = .ok (.aload_n 0, 1) := by decide +kernel
theorem dX0_blocks_1 : decode cX0_blocks 1 = .ok (.getfield 26, 3) := by decide +kernel
theorem dX0_blocks_4 : decode cX0_blocks 4 = .ok (.aload_n 0, 1) := by decide +kernel
theorem dX0_blocks_5 : decode cX0_blocks 5 = .ok (.getfield 15, 3) := by decide +kernel
theorem dX0_blocks_8 : decode cX0_blocks 8 = .ok (.invokevirtual 44, 3) := by decide +kernel
theorem dX0_blocks_11 : decode cX0_blocks 11 = .ok (.ifCond .eq 19, 3) := by decide +kernel
theorem dX0_blocks_14 : decode cX0_blocks 14 = .ok (.aload_n 0, 1) := by decide +kernel
theorem dX0_blocks_15 : decode cX0_blocks 15 = .ok (.getfield 26, 3) := by decide +kernel
theorem dX0_blocks_18 : decode cX0_blocks 18 = .ok (.getfield 51, 3) := by decide +kernel
theorem dX0_blocks_21 : decode cX0_blocks 21 = .ok (.aload_n 0, 1) := by decide +kernel
theorem dX0_blocks_22 : decode cX0_blocks 22 = .ok (.getfield 15, 3) := by decide +kernel
theorem dX0_blocks_25 : decode cX0_blocks 25 = .ok (.iaload, 1) := by decide +kernel
theorem dX0_blocks_26 : decode cX0_blocks 26 = .ok (.iconst 2, 1) := by decide +kernel
theorem dX0_blocks_27 : decode cX0_blocks 27 = .ok (.if_icmp .eq 5, 3) := by decide +kernel
theorem dX0_blocks_30 : decode cX0_blocks 30 = .ok (.iconst 0, 1) := by decide +kernel
theorem dX0_blocks_31 : decode cX0_blocks 31 = .ok (.ireturn, 1) := by decide +kernel
theorem dX0_blocks_32 : decode cX0_blocks 32 = .ok (.aload_n 0, 1) := by decide +kernel
theorem dX0_blocks_33 : decode cX0_blocks 33 = .ok (.getfield 26, 3) := by decide +kernel
theorem dX0_blocks_36 : decode cX0_blocks 36 = .ok (.getfield 47, 3) := by decide +kernel
theorem dX0_blocks_39 : decode cX0_blocks 39 = .ok (.aload_n 0, 1) := by decide +kernel
theorem dX0_blocks_40 : decode cX0_blocks 40 = .ok (.getfield 15, 3) := by decide +kernel
theorem dX0_blocks_43 : decode cX0_blocks 43 = .ok (.iaload, 1) := by decide +kernel
theorem dX0_blocks_44 : decode cX0_blocks 44 = .ok (.istore_n 3, 1) := by decide +kernel
theorem dX0_blocks_45 : decode cX0_blocks 45 = .ok (.aload_n 0, 1) := by decide +kernel
theorem dX0_blocks_46 : decode cX0_blocks 46 = .ok (.getfield 18, 3) := by decide +kernel
theorem dX0_blocks_49 : decode cX0_blocks 49 = .ok (.iload_n 3, 1) := by decide +kernel
theorem dX0_blocks_50 : decode cX0_blocks 50 = .ok (.invokevirtual 65, 3) := by decide +kernel
theorem dX0_blocks_53 : decode cX0_blocks 53 = .ok (.ifCond .eq 32, 3) := by decide +kernel
theorem dX0_blocks_56 : decode cX0_blocks 56 = .ok (.aload_n 0, 1) := by decide +kernel
theorem dX0_blocks_57 : decode cX0_blocks 57 = .ok (.getfield 18, 3) := by decide +kernel
theorem dX0_blocks_60 : decode cX0_blocks 60 = .ok (.iload_n 1, 1) := by decide +kernel
theorem dX0_blocks_61 : decode cX0_blocks 61 = .ok (.iload_n 3, 1) := by decide +kernel
theorem dX0_blocks_62 : decode cX0_blocks 62 = .ok (.invokevirtual 96, 3) := by decide +kernel
theorem dX0_blocks_65 : decode cX0_blocks 65 = .ok (.ifCond .eq 20, 3) := by decide +kernel
theorem dX0_blocks_68 : decode cX0_blocks 68 = .ok (.aload_n 0, 1) := by decide +kernel
theorem dX0_blocks_69 : decode cX0_blocks 69 = .ok (.getfield 22, 3) := by decide +kernel
theorem dX0_blocks_72 : decode cX0_blocks 72 = .ok (.getfield 99, 3) := by decide +kernel
theorem dX0_blocks_75 : decode cX0_blocks 75 = .ok (.iload_n 3, 1) := by decide +kernel
theorem dX0_blocks_76 : decode cX0_blocks 76 = .ok (.iaload, 1) := by decide +kernel
theorem dX0_blocks_77 : decode cX0_blocks 77 = .ok (.iload_n 2, 1) := by decide +kernel
theorem dX0_blocks_78 : decode cX0_blocks 78 = .ok (.if_icmp .ne 7, 3) := by decide +kernel
theorem dX0_blocks_81 : decode cX0_blocks 81 = .ok (.iconst 1, 1) := by decide +kernel
theorem dX0_blocks_82 : decode cX0_blocks 82 = .ok (.goto 4, 3) := by decide +kernel
theorem dX0_blocks_85 : decode cX0_blocks 85 = .ok (.iconst 0, 1) := by decide +kernel
theorem dX0_blocks_86 : decode cX0_blocks 86 = .ok (.ireturn, 1) := by decide +kernel
theorem dX0_closes_0 : decode cX0_closes 0 = .ok (.iload_n 1, 1) := by decide +kernel
theorem dX0_closes_1 : decode cX0_closes 1 = .ok (.ifCond .eq 17, 3) := by decide +kernel
theorem dX0_closes_4 : decode cX0_closes 4 = .ok (.iload_n 1, 1) := by decide +kernel
theorem dX0_closes_5 : decode cX0_closes 5 = .ok (.aload_n 0, 1) := by decide +kernel
theorem dX0_closes_6 : decode cX0_closes 6 = .ok (.getfield 22, 3) := by decide +kernel
theorem dX0_closes_9 : decode cX0_closes 9 = .ok (.getfield 70, 3) := by decide +kernel
theorem dX0_closes_12 : decode cX0_closes 12 = .ok (.iconst (-1), 1) := by decide +kernel
theorem dX0_closes_13 : decode cX0_closes 13 = .ok (.ixor, 1) := by decide +kernel
theorem dX0_closes_14 : decode cX0_closes 14 = .ok (.iand, 1) := by decide +kernel
theorem dX0_closes_15 : decode cX0_closes 15 = .ok (.ifCond .eq 5, 3) := by decide +kernel
theorem dX0_closes_18 : decode cX0_closes 18 = .ok (.iconst 0, 1) := by decide +kernel
theorem dX0_closes_19 : decode cX0_closes 19 = .ok (.ireturn, 1) := by decide +kernel
theorem dX0_closes_20 : decode cX0_closes 20 = .ok (.iconst 0, 1) := by decide +kernel
theorem dX0_closes_21 : decode cX0_closes 21 = .ok (.istore_n 2, 1) := by decide +kernel
theorem dX0_closes_22 : decode cX0_closes 22 = .ok (.iconst 0, 1) := by decide +kernel
theorem dX0_closes_23 : decode cX0_closes 23 = .ok (.istore_n 3, 1) := by decide +kernel
theorem dX0_closes_24 : decode cX0_closes 24 = .ok (.iload_n 3, 1) := by decide +kernel
theorem dX0_closes_25 : decode cX0_closes 25 = .ok (.aload_n 0, 1) := by decide +kernel
theorem dX0_closes_26 : decode cX0_closes 26 = .ok (.getfield 18, 3) := by decide +kernel
theorem dX0_closes_29 : decode cX0_closes 29 = .ok (.getfield 102, 3) := by decide +kernel
theorem dX0_closes_32 : decode cX0_closes 32 = .ok (.if_icmp .ge 53, 3) := by decide +kernel
theorem dX0_closes_35 : decode cX0_closes 35 = .ok (.iload_n 1, 1) := by decide +kernel
theorem dX0_closes_36 : decode cX0_closes 36 = .ok (.iload_n 3, 1) := by decide +kernel
theorem dX0_closes_37 : decode cX0_closes 37 = .ok (.invokestatic 73, 3) := by decide +kernel
theorem dX0_closes_40 : decode cX0_closes 40 = .ok (.ifCond .eq 39, 3) := by decide +kernel
theorem dX0_closes_43 : decode cX0_closes 43 = .ok (.iload_n 1, 1) := by decide +kernel
theorem dX0_closes_44 : decode cX0_closes 44 = .ok (.aload_n 0, 1) := by decide +kernel
theorem dX0_closes_45 : decode cX0_closes 45 = .ok (.getfield 18, 3) := by decide +kernel
theorem dX0_closes_48 : decode cX0_closes 48 = .ok (.getfield 103, 3) := by decide +kernel
theorem dX0_closes_51 : decode cX0_closes 51 = .ok (.iload_n 3, 1) := by decide +kernel
theorem dX0_closes_52 : decode cX0_closes 52 = .ok (.iaload, 1) := by decide +kernel
theorem dX0_closes_53 : decode cX0_closes 53 = .ok (.iconst (-1), 1) := by decide +kernel
theorem dX0_closes_54 : decode cX0_closes 54 = .ok (.ixor, 1) := by decide +kernel
theorem dX0_closes_55 : decode cX0_closes 55 = .ok (.iand, 1) := by decide +kernel
theorem dX0_closes_56 : decode cX0_closes 56 = .ok (.iconst 1, 1) := by decide +kernel
theorem dX0_closes_57 : decode cX0_closes 57 = .ok (.iload_n 3, 1) := by decide +kernel
theorem dX0_closes_58 : decode cX0_closes 58 = .ok (.ishl, 1) := by decide +kernel
theorem dX0_closes_59 : decode cX0_closes 59 = .ok (.if_icmp .eq 5, 3) := by decide +kernel
theorem dX0_closes_62 : decode cX0_closes 62 = .ok (.iconst 0, 1) := by decide +kernel
theorem dX0_closes_63 : decode cX0_closes 63 = .ok (.ireturn, 1) := by decide +kernel
theorem dX0_closes_64 : decode cX0_closes 64 = .ok (.iload_n 2, 1) := by decide +kernel
theorem dX0_closes_65 : decode cX0_closes 65 = .ok (.aload_n 0, 1) := by decide +kernel
theorem dX0_closes_66 : decode cX0_closes 66 = .ok (.getfield 22, 3) := by decide +kernel
theorem dX0_closes_69 : decode cX0_closes 69 = .ok (.iload_n 3, 1) := by decide +kernel
theorem dX0_closes_70 : decode cX0_closes 70 = .ok (.aload_n 0, 1) := by decide +kernel
theorem dX0_closes_71 : decode cX0_closes 71 = .ok (.getfield 9, 3) := by decide +kernel
theorem dX0_closes_74 : decode cX0_closes 74 = .ok (.invokevirtual 106, 3) := by decide +kernel
theorem dX0_closes_77 : decode cX0_closes 77 = .ok (.ior, 1) := by decide +kernel
theorem dX0_closes_78 : decode cX0_closes 78 = .ok (.istore_n 2, 1) := by decide +kernel
theorem dX0_closes_79 : decode cX0_closes 79 = .ok (.iinc 3 1, 3) := by decide +kernel
theorem dX0_closes_82 : decode cX0_closes 82 = .ok (.goto (-58), 3) := by decide +kernel
theorem dX0_closes_85 : decode cX0_closes 85 = .ok (.iload_n 2, 1) := by decide +kernel
theorem dX0_closes_86 : decode cX0_closes 86 = .ok (.invokestatic 110, 3) := by decide +kernel
theorem dX0_closes_89 : decode cX0_closes 89 = .ok (.iload_n 1, 1) := by decide +kernel
theorem dX0_closes_90 : decode cX0_closes 90 = .ok (.invokestatic 110, 3) := by decide +kernel
theorem dX0_closes_93 : decode cX0_closes 93 = .ok (.if_icmp .ge 7, 3) := by decide +kernel
theorem dX0_closes_96 : decode cX0_closes 96 = .ok (.iconst 1, 1) := by decide +kernel
theorem dX0_closes_97 : decode cX0_closes 97 = .ok (.goto 4, 3) := by decide +kernel
theorem dX0_closes_100 : decode cX0_closes 100 = .ok (.iconst 0, 1) := by decide +kernel
theorem dX0_closes_101 : decode cX0_closes 101 = .ok (.ireturn, 1) := by decide +kernel
theorem dX0_stepOverIf_0 : decode cX0_stepOverIf 0 = .ok (.iload_n 1, 1) := by decide +kernel
theorem dX0_stepOverIf_1 : decode cX0_stepOverIf 1 = .ok (.ifCond .eq 13, 3) := by decide +kernel
theorem dX0_stepOverIf_4 : decode cX0_stepOverIf 4 = .ok (.aload_n 0, 1) := by decide +kernel
theorem dX0_stepOverIf_5 : decode cX0_stepOverIf 5 = .ok (.dup, 1) := by decide +kernel
theorem dX0_stepOverIf_6 : decode cX0_stepOverIf 6 = .ok (.getfield 15, 3) := by decide +kernel
theorem dX0_stepOverIf_9 : decode cX0_stepOverIf 9 = .ok (.iconst 1, 1) := by decide +kernel
theorem dX0_stepOverIf_10 : decode cX0_stepOverIf 10 = .ok (.iadd, 1) := by decide +kernel
theorem dX0_stepOverIf_11 : decode cX0_stepOverIf 11 = .ok (.putfield 15, 3) := by decide +kernel
theorem dX0_stepOverIf_14 : decode cX0_stepOverIf 14 = .ok (.iload_n 1, 1) := by decide +kernel
theorem dX0_stepOverIf_15 : decode cX0_stepOverIf 15 = .ok (.ireturn, 1) := by decide +kernel
theorem dX1_init_0 : decode cX1_init 0 = .ok (.aload_n 0, 1) := by decide +kernel
theorem dX1_init_1 : decode cX1_init 1 = .ok (.invokespecial 3, 3) := by decide +kernel
theorem dX1_init_4 : decode cX1_init 4 = .ok (.aload_n 0, 1) := by decide +kernel
theorem dX1_init_5 : decode cX1_init 5 = .ok (.bipush 30, 2) := by decide +kernel
theorem dX1_init_7 : decode cX1_init 7 = .ok (.newarray .int, 2) := by decide +kernel
theorem dX1_init_9 : decode cX1_init 9 = .ok (.putfield 9, 3) := by decide +kernel
theorem dX1_init_12 : decode cX1_init 12 = .ok (.aload_n 0, 1) := by decide +kernel
theorem dX1_init_13 : decode cX1_init 13 = .ok (.bipush 30, 2) := by decide +kernel
theorem dX1_init_15 : decode cX1_init 15 = .ok (.newarray .int, 2) := by decide +kernel
theorem dX1_init_17 : decode cX1_init 17 = .ok (.putfield 15, 3) := by decide +kernel
theorem dX1_init_20 : decode cX1_init 20 = .ok (.aload_n 0, 1) := by decide +kernel
theorem dX1_init_21 : decode cX1_init 21 = .ok (.bipush 30, 2) := by decide +kernel
theorem dX1_init_23 : decode cX1_init 23 = .ok (.newarray .int, 2) := by decide +kernel
theorem dX1_init_25 : decode cX1_init 25 = .ok (.putfield 18, 3) := by decide +kernel
theorem dX1_init_28 : decode cX1_init 28 = .ok (.aload_n 0, 1) := by decide +kernel
theorem dX1_init_29 : decode cX1_init 29 = .ok (.iconst 0, 1) := by decide +kernel
theorem dX1_init_30 : decode cX1_init 30 = .ok (.putfield 21, 3) := by decide +kernel
theorem dX1_init_33 : decode cX1_init 33 = .ok (.aload_n 0, 1) := by decide +kernel
theorem dX1_init_34 : decode cX1_init 34 = .ok (.iconst 0, 1) := by decide +kernel
theorem dX1_init_35 : decode cX1_init 35 = .ok (.putfield 25, 3) := by decide +kernel
theorem dX1_init_38 : decode cX1_init 38 = .ok (.aload_n 0, 1) := by decide +kernel
theorem dX1_init_39 : decode cX1_init 39 = .ok (.aload_n 1, 1) := by decide +kernel
theorem dX1_init_40 : decode cX1_init 40 = .ok (.putfield 28, 3) := by decide +kernel
theorem dX1_init_43 : decode cX1_init 43 = .ok (.return_, 1) := by decide +kernel
theorem dX1_wipe_0 : decode cX1_wipe 0 = .ok (.aload_n 0, 1) := by decide +kernel
theorem dX1_wipe_1 : decode cX1_wipe 1 = .ok (.getfield 9, 3) := by decide +kernel
theorem dX1_wipe_4 : decode cX1_wipe 4 = .ok (.iconst (-1), 1) := by decide +kernel
theorem dX1_wipe_5 : decode cX1_wipe 5 = .ok (.invokestatic 32, 3) := by decide +kernel
theorem dX1_wipe_8 : decode cX1_wipe 8 = .ok (.aload_n 0, 1) := by decide +kernel
theorem dX1_wipe_9 : decode cX1_wipe 9 = .ok (.getfield 15, 3) := by decide +kernel
theorem dX1_wipe_12 : decode cX1_wipe 12 = .ok (.iconst 0, 1) := by decide +kernel
theorem dX1_wipe_13 : decode cX1_wipe 13 = .ok (.invokestatic 32, 3) := by decide +kernel
theorem dX1_wipe_16 : decode cX1_wipe 16 = .ok (.aload_n 0, 1) := by decide +kernel
theorem dX1_wipe_17 : decode cX1_wipe 17 = .ok (.getfield 18, 3) := by decide +kernel
theorem dX1_wipe_20 : decode cX1_wipe 20 = .ok (.iconst 0, 1) := by decide +kernel
theorem dX1_wipe_21 : decode cX1_wipe 21 = .ok (.invokestatic 32, 3) := by decide +kernel
theorem dX1_wipe_24 : decode cX1_wipe 24 = .ok (.aload_n 0, 1) := by decide +kernel
theorem dX1_wipe_25 : decode cX1_wipe 25 = .ok (.aload_n 0, 1) := by decide +kernel
theorem dX1_wipe_26 : decode cX1_wipe 26 = .ok (.getfield 28, 3) := by decide +kernel
theorem dX1_wipe_29 : decode cX1_wipe 29 = .ok (.invokevirtual 38, 3) := by decide +kernel
theorem dX1_wipe_32 : decode cX1_wipe 32 = .ok (.putfield 21, 3) := by decide +kernel
theorem dX1_wipe_35 : decode cX1_wipe 35 = .ok (.aload_n 0, 1) := by decide +kernel
theorem dX1_wipe_36 : decode cX1_wipe 36 = .ok (.iconst 0, 1) := by decide +kernel
theorem dX1_wipe_37 : decode cX1_wipe 37 = .ok (.putfield 25, 3) := by decide +kernel
theorem dX1_wipe_40 : decode cX1_wipe 40 = .ok (.return_, 1) := by decide +kernel
theorem dX1_give_0 : decode cX1_give 0 = .ok (.aload_n 0, 1) := by decide +kernel
theorem dX1_give_1 : decode cX1_give 1 = .ok (.getfield 18, 3) := by decide +kernel
theorem dX1_give_4 : decode cX1_give 4 = .ok (.iload_n 2, 1) := by decide +kernel
theorem dX1_give_5 : decode cX1_give 5 = .ok (.iaload, 1) := by decide +kernel
theorem dX1_give_6 : decode cX1_give 6 = .ok (.ifCond .ne 13, 3) := by decide +kernel
theorem dX1_give_9 : decode cX1_give 9 = .ok (.aload_n 0, 1) := by decide +kernel
theorem dX1_give_10 : decode cX1_give 10 = .ok (.dup, 1) := by decide +kernel
theorem dX1_give_11 : decode cX1_give 11 = .ok (.getfield 25, 3) := by decide +kernel
theorem dX1_give_14 : decode cX1_give 14 = .ok (.iconst 1, 1) := by decide +kernel
theorem dX1_give_15 : decode cX1_give 15 = .ok (.iadd, 1) := by decide +kernel
theorem dX1_give_16 : decode cX1_give 16 = .ok (.putfield 25, 3) := by decide +kernel
theorem dX1_give_19 : decode cX1_give 19 = .ok (.aload_n 0, 1) := by decide +kernel
theorem dX1_give_20 : decode cX1_give 20 = .ok (.getfield 9, 3) := by decide +kernel
theorem dX1_give_23 : decode cX1_give 23 = .ok (.iload_n 1, 1) := by decide +kernel
theorem dX1_give_24 : decode cX1_give 24 = .ok (.iload_n 2, 1) := by decide +kernel
theorem dX1_give_25 : decode cX1_give 25 = .ok (.iastore, 1) := by decide +kernel
theorem dX1_give_26 : decode cX1_give 26 = .ok (.aload_n 0, 1) := by decide +kernel
theorem dX1_give_27 : decode cX1_give 27 = .ok (.getfield 18, 3) := by decide +kernel
theorem dX1_give_30 : decode cX1_give 30 = .ok (.iload_n 2, 1) := by decide +kernel
theorem dX1_give_31 : decode cX1_give 31 = .ok (.dup2, 1) := by decide +kernel
theorem dX1_give_32 : decode cX1_give 32 = .ok (.iaload, 1) := by decide +kernel
theorem dX1_give_33 : decode cX1_give 33 = .ok (.iconst 1, 1) := by decide +kernel
theorem dX1_give_34 : decode cX1_give 34 = .ok (.iload_n 1, 1) := by decide +kernel
theorem dX1_give_35 : decode cX1_give 35 = .ok (.ishl, 1) := by decide +kernel
theorem dX1_give_36 : decode cX1_give 36 = .ok (.ior, 1) := by decide +kernel
theorem dX1_give_37 : decode cX1_give 37 = .ok (.iastore, 1) := by decide +kernel
theorem dX1_give_38 : decode cX1_give 38 = .ok (.aload_n 0, 1) := by decide +kernel
theorem dX1_give_39 : decode cX1_give 39 = .ok (.dup, 1) := by decide +kernel
theorem dX1_give_40 : decode cX1_give 40 = .ok (.getfield 21, 3) := by decide +kernel
theorem dX1_give_43 : decode cX1_give 43 = .ok (.iconst 1, 1) := by decide +kernel
theorem dX1_give_44 : decode cX1_give 44 = .ok (.iload_n 1, 1) := by decide +kernel
theorem dX1_give_45 : decode cX1_give 45 = .ok (.ishl, 1) := by decide +kernel
theorem dX1_give_46 : decode cX1_give 46 = .ok (.iconst (-1), 1) := by decide +kernel
theorem dX1_give_47 : decode cX1_give 47 = .ok (.ixor, 1) := by decide +kernel
theorem dX1_give_48 : decode cX1_give 48 = .ok (.iand, 1) := by decide +kernel
theorem dX1_give_49 : decode cX1_give 49 = .ok (.putfield 21, 3) := by decide +kernel
theorem dX1_give_52 : decode cX1_give 52 = .ok (.iconst 0, 1) := by decide +kernel
theorem dX1_give_53 : decode cX1_give 53 = .ok (.istore_n 3, 1) := by decide +kernel
theorem dX1_give_54 : decode cX1_give 54 = .ok (.iload_n 3, 1) := by decide +kernel
theorem dX1_give_55 : decode cX1_give 55 = .ok (.aload_n 0, 1) := by decide +kernel
theorem dX1_give_56 : decode cX1_give 56 = .ok (.getfield 28, 3) := by decide +kernel
theorem dX1_give_59 : decode cX1_give 59 = .ok (.getfield 44, 3) := by decide +kernel
theorem dX1_give_62 : decode cX1_give 62 = .ok (.if_icmp .ge 37, 3) := by decide +kernel
theorem dX1_give_65 : decode cX1_give 65 = .ok (.aload_n 0, 1) := by decide +kernel
theorem dX1_give_66 : decode cX1_give 66 = .ok (.getfield 28, 3) := by decide +kernel
theorem dX1_give_69 : decode cX1_give 69 = .ok (.getfield 47, 3) := by decide +kernel
theorem dX1_give_72 : decode cX1_give 72 = .ok (.iload_n 1, 1) := by decide +kernel
theorem dX1_give_73 : decode cX1_give 73 = .ok (.iaload, 1) := by decide +kernel
theorem dX1_give_74 : decode cX1_give 74 = .ok (.iload_n 3, 1) := by decide +kernel
theorem dX1_give_75 : decode cX1_give 75 = .ok (.invokestatic 50, 3) := by decide +kernel
theorem dX1_give_78 : decode cX1_give 78 = .ok (.ifCond .eq 15, 3) := by decide +kernel
theorem dX1_give_81 : decode cX1_give 81 = .ok (.aload_n 0, 1) := by decide +kernel
theorem dX1_give_82 : decode cX1_give 82 = .ok (.getfield 15, 3) := by decide +kernel
theorem dX1_give_85 : decode cX1_give 85 = .ok (.iload_n 3, 1) := by decide +kernel
theorem dX1_give_86 : decode cX1_give 86 = .ok (.dup2, 1) := by decide +kernel
theorem dX1_give_87 : decode cX1_give 87 = .ok (.iaload, 1) := by decide +kernel
theorem dX1_give_88 : decode cX1_give 88 = .ok (.iconst 1, 1) := by decide +kernel
theorem dX1_give_89 : decode cX1_give 89 = .ok (.iload_n 2, 1) := by decide +kernel
theorem dX1_give_90 : decode cX1_give 90 = .ok (.ishl, 1) := by decide +kernel
theorem dX1_give_91 : decode cX1_give 91 = .ok (.ior, 1) := by decide +kernel
theorem dX1_give_92 : decode cX1_give 92 = .ok (.iastore, 1) := by decide +kernel
theorem dX1_give_93 : decode cX1_give 93 = .ok (.iinc 3 1, 3) := by decide +kernel
theorem dX1_give_96 : decode cX1_give 96 = .ok (.goto (-42), 3) := by decide +kernel
theorem dX1_give_99 : decode cX1_give 99 = .ok (.return_, 1) := by decide +kernel
theorem dX1_strip_0 : decode cX1_strip 0 = .ok (.aload_n 0, 1) := by decide +kernel
theorem dX1_strip_1 : decode cX1_strip 1 = .ok (.getfield 9, 3) := by decide +kernel
theorem dX1_strip_4 : decode cX1_strip 4 = .ok (.iload_n 1, 1) := by decide +kernel
theorem dX1_strip_5 : decode cX1_strip 5 = .ok (.iconst (-1), 1) := by decide +kernel
theorem dX1_strip_6 : decode cX1_strip 6 = .ok (.iastore, 1) := by decide +kernel
theorem dX1_strip_7 : decode cX1_strip 7 = .ok (.aload_n 0, 1) := by decide +kernel
theorem dX1_strip_8 : decode cX1_strip 8 = .ok (.getfield 18, 3) := by decide +kernel
theorem dX1_strip_11 : decode cX1_strip 11 = .ok (.iload_n 2, 1) := by decide +kernel
theorem dX1_strip_12 : decode cX1_strip 12 = .ok (.dup2, 1) := by decide +kernel
theorem dX1_strip_13 : decode cX1_strip 13 = .ok (.iaload, 1) := by decide +kernel
theorem dX1_strip_14 : decode cX1_strip 14 = .ok (.iconst 1, 1) := by decide +kernel
theorem dX1_strip_15 : decode cX1_strip 15 = .ok (.iload_n 1, 1) := by decide +kernel
theorem dX1_strip_16 : decode cX1_strip 16 = .ok (.ishl, 1) := by decide +kernel
theorem dX1_strip_17 : decode cX1_strip 17 = .ok (.iconst (-1), 1) := by decide +kernel
theorem dX1_strip_18 : decode cX1_strip 18 = .ok (.ixor, 1) := by decide +kernel
theorem dX1_strip_19 : decode cX1_strip 19 = .ok (.iand, 1) := by decide +kernel
theorem dX1_strip_20 : decode cX1_strip 20 = .ok (.iastore, 1) := by decide +kernel
theorem dX1_strip_21 : decode cX1_strip 21 = .ok (.aload_n 0, 1) := by decide +kernel
theorem dX1_strip_22 : decode cX1_strip 22 = .ok (.dup, 1) := by decide +kernel
theorem dX1_strip_23 : decode cX1_strip 23 = .ok (.getfield 21, 3) := by decide +kernel
theorem dX1_strip_26 : decode cX1_strip 26 = .ok (.iconst 1, 1) := by decide +kernel
theorem dX1_strip_27 : decode cX1_strip 27 = .ok (.iload_n 1, 1) := by decide +kernel
theorem dX1_strip_28 : decode cX1_strip 28 = .ok (.ishl, 1) := by decide +kernel
theorem dX1_strip_29 : decode cX1_strip 29 = .ok (.ior, 1) := by decide +kernel
theorem dX1_strip_30 : decode cX1_strip 30 = .ok (.putfield 21, 3) := by decide +kernel
theorem dX1_strip_33 : decode cX1_strip 33 = .ok (.iconst 0, 1) := by decide +kernel
theorem dX1_strip_34 : decode cX1_strip 34 = .ok (.istore_n 3, 1) := by decide +kernel
theorem dX1_strip_35 : decode cX1_strip 35 = .ok (.iload_n 3, 1) := by decide +kernel
theorem dX1_strip_36 : decode cX1_strip 36 = .ok (.aload_n 0, 1) := by decide +kernel
theorem dX1_strip_37 : decode cX1_strip 37 = .ok (.getfield 28, 3) := by decide +kernel
theorem dX1_strip_40 : decode cX1_strip 40 = .ok (.getfield 44, 3) := by decide +kernel
theorem dX1_strip_43 : decode cX1_strip 43 = .ok (.if_icmp .ge 58, 3) := by decide +kernel
theorem dX1_strip_46 : decode cX1_strip 46 = .ok (.aload_n 0, 1) := by decide +kernel
theorem dX1_strip_47 : decode cX1_strip 47 = .ok (.getfield 28, 3) := by decide +kernel
theorem dX1_strip_50 : decode cX1_strip 50 = .ok (.getfield 47, 3) := by decide +kernel
theorem dX1_strip_53 : decode cX1_strip 53 = .ok (.iload_n 1, 1) := by decide +kernel
theorem dX1_strip_54 : decode cX1_strip 54 = .ok (.iaload, 1) := by decide +kernel
theorem dX1_strip_55 : decode cX1_strip 55 = .ok (.iload_n 3, 1) := by decide +kernel
theorem dX1_strip_56 : decode cX1_strip 56 = .ok (.invokestatic 50, 3) := by decide +kernel
theorem dX1_strip_59 : decode cX1_strip 59 = .ok (.ifCond .eq 36, 3) := by decide +kernel
theorem dX1_strip_62 : decode cX1_strip 62 = .ok (.aload_n 0, 1) := by decide +kernel
theorem dX1_strip_63 : decode cX1_strip 63 = .ok (.getfield 28, 3) := by decide +kernel
theorem dX1_strip_66 : decode cX1_strip 66 = .ok (.getfield 47, 3) := by decide +kernel
theorem dX1_strip_69 : decode cX1_strip 69 = .ok (.iload_n 3, 1) := by decide +kernel
theorem dX1_strip_70 : decode cX1_strip 70 = .ok (.iaload, 1) := by decide +kernel
theorem dX1_strip_71 : decode cX1_strip 71 = .ok (.aload_n 0, 1) := by decide +kernel
theorem dX1_strip_72 : decode cX1_strip 72 = .ok (.getfield 18, 3) := by decide +kernel
theorem dX1_strip_75 : decode cX1_strip 75 = .ok (.iload_n 2, 1) := by decide +kernel
theorem dX1_strip_76 : decode cX1_strip 76 = .ok (.iaload, 1) := by decide +kernel
theorem dX1_strip_77 : decode cX1_strip 77 = .ok (.iand, 1) := by decide +kernel
theorem dX1_strip_78 : decode cX1_strip 78 = .ok (.ifCond .ne 17, 3) := by decide +kernel
theorem dX1_strip_81 : decode cX1_strip 81 = .ok (.aload_n 0, 1) := by decide +kernel
theorem dX1_strip_82 : decode cX1_strip 82 = .ok (.getfield 15, 3) := by decide +kernel
theorem dX1_strip_85 : decode cX1_strip 85 = .ok (.iload_n 3, 1) := by decide +kernel
theorem dX1_strip_86 : decode cX1_strip 86 = .ok (.dup2, 1) := by decide +kernel
theorem dX1_strip_87 : decode cX1_strip 87 = .ok (.iaload, 1) := by decide +kernel
theorem dX1_strip_88 : decode cX1_strip 88 = .ok (.iconst 1, 1) := by decide +kernel
theorem dX1_strip_89 : decode cX1_strip 89 = .ok (.iload_n 2, 1) := by decide +kernel
theorem dX1_strip_90 : decode cX1_strip 90 = .ok (.ishl, 1) := by decide +kernel
theorem dX1_strip_91 : decode cX1_strip 91 = .ok (.iconst (-1), 1) := by decide +kernel
theorem dX1_strip_92 : decode cX1_strip 92 = .ok (.ixor, 1) := by decide +kernel
theorem dX1_strip_93 : decode cX1_strip 93 = .ok (.iand, 1) := by decide +kernel
theorem dX1_strip_94 : decode cX1_strip 94 = .ok (.iastore, 1) := by decide +kernel
theorem dX1_strip_95 : decode cX1_strip 95 = .ok (.iinc 3 1, 3) := by decide +kernel
theorem dX1_strip_98 : decode cX1_strip 98 = .ok (.goto (-63), 3) := by decide +kernel
theorem dX1_strip_101 : decode cX1_strip 101 = .ok (.aload_n 0, 1) := by decide +kernel
theorem dX1_strip_102 : decode cX1_strip 102 = .ok (.getfield 18, 3) := by decide +kernel
theorem dX1_strip_105 : decode cX1_strip 105 = .ok (.iload_n 2, 1) := by decide +kernel
theorem dX1_strip_106 : decode cX1_strip 106 = .ok (.iaload, 1) := by decide +kernel
theorem dX1_strip_107 : decode cX1_strip 107 = .ok (.ifCond .ne 13, 3) := by decide +kernel
theorem dX1_strip_110 : decode cX1_strip 110 = .ok (.aload_n 0, 1) := by decide +kernel
theorem dX1_strip_111 : decode cX1_strip 111 = .ok (.dup, 1) := by decide +kernel
theorem dX1_strip_112 : decode cX1_strip 112 = .ok (.getfield 25, 3) := by decide +kernel
theorem dX1_strip_115 : decode cX1_strip 115 = .ok (.iconst 1, 1) := by decide +kernel
theorem dX1_strip_116 : decode cX1_strip 116 = .ok (.isub, 1) := by decide +kernel
theorem dX1_strip_117 : decode cX1_strip 117 = .ok (.putfield 25, 3) := by decide +kernel
theorem dX1_strip_120 : decode cX1_strip 120 = .ok (.return_, 1) := by decide +kernel
theorem dX1_blocked_0 : decode cX1_blocked 0 = .ok (.aload_n 0, 1) := by decide +kernel
theorem dX1_blocked_1 : decode cX1_blocked 1 = .ok (.getfield 15, 3) := by decide +kernel
theorem dX1_blocked_4 : decode cX1_blocked 4 = .ok (.iload_n 1, 1) := by decide +kernel
theorem dX1_blocked_5 : decode cX1_blocked 5 = .ok (.iaload, 1) := by decide +kernel
theorem dX1_blocked_6 : decode cX1_blocked 6 = .ok (.iload_n 2, 1) := by decide +kernel
theorem dX1_blocked_7 : decode cX1_blocked 7 = .ok (.invokestatic 50, 3) := by decide +kernel
theorem dX1_blocked_10 : decode cX1_blocked 10 = .ok (.ireturn, 1) := by decide +kernel
theorem dX1_leastNeighbourWith_0 : decode cX1_leastNeighbourWith 0 = .ok (.iconst 0, 1) := by decide +kernel
theorem dX1_leastNeighbourWith_1 : decode cX1_leastNeighbourWith 1 = .ok (.istore_n 3, 1) := by decide +kernel
theorem dX1_leastNeighbourWith_2 : decode cX1_leastNeighbourWith 2 = .ok (.iload_n 3, 1) := by decide +kernel
theorem dX1_leastNeighbourWith_3 : decode cX1_leastNeighbourWith 3 = .ok (.aload_n 0, 1) := by decide +kernel
theorem dX1_leastNeighbourWith_4 : decode cX1_leastNeighbourWith 4 = .ok (.getfield 28, 3) := by decide +kernel
theorem dX1_leastNeighbourWith_7 : decode cX1_leastNeighbourWith 7 = .ok (.getfield 44, 3) := by decide +kernel
theorem dX1_leastNeighbourWith_10 : decode cX1_leastNeighbourWith 10 = .ok (.if_icmp .ge 34, 3) := by decide +kernel
theorem dX1_leastNeighbourWith_13 : decode cX1_leastNeighbourWith 13 = .ok (.aload_n 0, 1) := by decide +kernel
theorem dX1_leastNeighbourWith_14 : decode cX1_leastNeighbourWith 14 = .ok (.getfield 28, 3) := by decide +kernel
theorem dX1_leastNeighbourWith_17 : decode cX1_leastNeighbourWith 17 = .ok (.getfield 47, 3) := by decide +kernel
theorem dX1_leastNeighbourWith_20 : decode cX1_leastNeighbourWith 20 = .ok (.iload_n 1, 1) := by decide +kernel
theorem dX1_leastNeighbourWith_21 : decode cX1_leastNeighbourWith 21 = .ok (.iaload, 1) := by decide +kernel
theorem dX1_leastNeighbourWith_22 : decode cX1_leastNeighbourWith 22 = .ok (.aload_n 0, 1) := by decide +kernel
theorem dX1_leastNeighbourWith_23 : decode cX1_leastNeighbourWith 23 = .ok (.getfield 18, 3) := by decide +kernel
theorem dX1_leastNeighbourWith_26 : decode cX1_leastNeighbourWith 26 = .ok (.iload_n 2, 1) := by decide +kernel
theorem dX1_leastNeighbourWith_27 : decode cX1_leastNeighbourWith 27 = .ok (.iaload, 1) := by decide +kernel
theorem dX1_leastNeighbourWith_28 : decode cX1_leastNeighbourWith 28 = .ok (.iand, 1) := by decide +kernel
theorem dX1_leastNeighbourWith_29 : decode cX1_leastNeighbourWith 29 = .ok (.iload_n 3, 1) := by decide +kernel
theorem dX1_leastNeighbourWith_30 : decode cX1_leastNeighbourWith 30 = .ok (.invokestatic 50, 3) := by decide +kernel
theorem dX1_leastNeighbourWith_33 : decode cX1_leastNeighbourWith 33 = .ok (.ifCond .eq 5, 3) := by decide +kernel
theorem dX1_leastNeighbourWith_36 : decode cX1_leastNeighbourWith 36 = .ok (.iload_n 3, 1) := by decide +kernel
theorem dX1_leastNeighbourWith_37 : decode cX1_leastNeighbourWith 37 = .ok (.ireturn, 1) := by decide +kernel
theorem dX1_leastNeighbourWith_38 : decode cX1_leastNeighbourWith 38 = .ok (.iinc 3 1, 3) := by decide +kernel
theorem dX1_leastNeighbourWith_41 : decode cX1_leastNeighbourWith 41 = .ok (.goto (-39), 3) := by decide +kernel
theorem dX1_leastNeighbourWith_44 : decode cX1_leastNeighbourWith 44 = .ok (.iconst (-1), 1) := by decide +kernel
theorem dX1_leastNeighbourWith_45 : decode cX1_leastNeighbourWith 45 = .ok (.ireturn, 1) := by decide +kernel
theorem dX1_freeWith_0 : decode cX1_freeWith 0 = .ok (.iload_n 2, 1) := by decide +kernel
theorem dX1_freeWith_1 : decode cX1_freeWith 1 = .ok (.invokestatic 54, 3) := by decide +kernel
theorem dX1_freeWith_4 : decode cX1_freeWith 4 = .ok (.aload_n 0, 1) := by decide +kernel
theorem dX1_freeWith_5 : decode cX1_freeWith 5 = .ok (.getfield 15, 3) := by decide +kernel
theorem dX1_freeWith_8 : decode cX1_freeWith 8 = .ok (.iload_n 1, 1) := by decide +kernel
theorem dX1_freeWith_9 : decode cX1_freeWith 9 = .ok (.iaload, 1) := by decide +kernel
theorem dX1_freeWith_10 : decode cX1_freeWith 10 = .ok (.iconst (-1), 1) := by decide +kernel
theorem dX1_freeWith_11 : decode cX1_freeWith 11 = .ok (.ixor, 1) := by decide +kernel
theorem dX1_freeWith_12 : decode cX1_freeWith 12 = .ok (.iand, 1) := by decide +kernel
theorem dX1_freeWith_13 : decode cX1_freeWith 13 = .ok (.ireturn, 1) := by decide +kernel
theorem dX1_choice_0 : decode cX1_choice 0 = .ok (.iconst (-1), 1) := by decide +kernel
theorem dX1_choice_1 : decode cX1_choice 1 = .ok (.istore_n 1, 1) := by decide +kernel
theorem dX1_choice_2 : decode cX1_choice 2 = .ok (.iconst (-1), 1) := by decide +kernel
theorem dX1_choice_3 : decode cX1_choice 3 = .ok (.istore_n 2, 1) := by decide +kernel
theorem dX1_choice_4 : decode cX1_choice 4 = .ok (.iconst 0, 1) := by decide +kernel
theorem dX1_choice_5 : decode cX1_choice 5 = .ok (.istore_n 3, 1) := by decide +kernel
theorem dX1_choice_6 : decode cX1_choice 6 = .ok (.iload_n 3, 1) := by decide +kernel
theorem dX1_choice_7 : decode cX1_choice 7 = .ok (.aload_n 0, 1) := by decide +kernel
theorem dX1_choice_8 : decode cX1_choice 8 = .ok (.getfield 28, 3) := by decide +kernel
theorem dX1_choice_11 : decode cX1_choice 11 = .ok (.getfield 44, 3) := by decide +kernel
theorem dX1_choice_14 : decode cX1_choice 14 = .ok (.if_icmp .ge 55, 3) := by decide +kernel
theorem dX1_choice_17 : decode cX1_choice 17 = .ok (.aload_n 0, 1) := by decide +kernel
theorem dX1_choice_18 : decode cX1_choice 18 = .ok (.getfield 21, 3) := by decide +kernel
theorem dX1_choice_21 : decode cX1_choice 21 = .ok (.iload_n 3, 1) := by decide +kernel
theorem dX1_choice_22 : decode cX1_choice 22 = .ok (.invokestatic 50, 3) := by decide +kernel
theorem dX1_choice_25 : decode cX1_choice 25 = .ok (.ifCond .eq 38, 3) := by decide +kernel
theorem dX1_choice_28 : decode cX1_choice 28 = .ok (.aload_n 0, 1) := by decide +kernel
theorem dX1_choice_29 : decode cX1_choice 29 = .ok (.iload_n 3, 1) := by decide +kernel
theorem dX1_choice_30 : decode cX1_choice 30 = .ok (.aload_n 0, 1) := by decide +kernel
theorem dX1_choice_31 : decode cX1_choice 31 = .ok (.getfield 28, 3) := by decide +kernel
theorem dX1_choice_34 : decode cX1_choice 34 = .ok (.getfield 47, 3) := by decide +kernel
theorem dX1_choice_37 : decode cX1_choice 37 = .ok (.iload_n 3, 1) := by decide +kernel
theorem dX1_choice_38 : decode cX1_choice 38 = .ok (.iaload, 1) := by decide +kernel
theorem dX1_choice_39 : decode cX1_choice 39 = .ok (.aload_n 0, 1) := by decide +kernel
theorem dX1_choice_40 : decode cX1_choice 40 = .ok (.getfield 21, 3) := by decide +kernel
theorem dX1_choice_43 : decode cX1_choice 43 = .ok (.iand, 1) := by decide +kernel
theorem dX1_choice_44 : decode cX1_choice 44 = .ok (.invokestatic 58, 3) := by decide +kernel
theorem dX1_choice_47 : decode cX1_choice 47 = .ok (.invokevirtual 63, 3) := by decide +kernel
theorem dX1_choice_50 : decode cX1_choice 50 = .ok (.istore 4, 2) := by decide +kernel
theorem dX1_choice_52 : decode cX1_choice 52 = .ok (.iload 4, 2) := by decide +kernel
theorem dX1_choice_54 : decode cX1_choice 54 = .ok (.iload_n 2, 1) := by decide +kernel
theorem dX1_choice_55 : decode cX1_choice 55 = .ok (.if_icmp .le 8, 3) := by decide +kernel
theorem dX1_choice_58 : decode cX1_choice 58 = .ok (.iload_n 3, 1) := by decide +kernel
theorem dX1_choice_59 : decode cX1_choice 59 = .ok (.istore_n 1, 1) := by decide +kernel
theorem dX1_choice_60 : decode cX1_choice 60 = .ok (.iload 4, 2) := by decide +kernel
theorem dX1_choice_62 : decode cX1_choice 62 = .ok (.istore_n 2, 1) := by decide +kernel
theorem dX1_choice_63 : decode cX1_choice 63 = .ok (.iinc 3 1, 3) := by decide +kernel
theorem dX1_choice_66 : decode cX1_choice 66 = .ok (.goto (-60), 3) := by decide +kernel
theorem dX1_choice_69 : decode cX1_choice 69 = .ok (.iload_n 1, 1) := by decide +kernel
theorem dX1_choice_70 : decode cX1_choice 70 = .ok (.ireturn, 1) := by decide +kernel
theorem dX1_foremost_0 : decode cX1_foremost 0 = .ok (.iconst (-1), 1) := by decide +kernel
theorem dX1_foremost_1 : decode cX1_foremost 1 = .ok (.istore_n 2, 1) := by decide +kernel
theorem dX1_foremost_2 : decode cX1_foremost 2 = .ok (.iconst (-1), 1) := by decide +kernel
theorem dX1_foremost_3 : decode cX1_foremost 3 = .ok (.istore_n 3, 1) := by decide +kernel
theorem dX1_foremost_4 : decode cX1_foremost 4 = .ok (.iconst 0, 1) := by decide +kernel
theorem dX1_foremost_5 : decode cX1_foremost 5 = .ok (.istore 4, 2) := by decide +kernel
theorem dX1_foremost_7 : decode cX1_foremost 7 = .ok (.iload 4, 2) := by decide +kernel
theorem dX1_foremost_9 : decode cX1_foremost 9 = .ok (.aload_n 0, 1) := by decide +kernel
theorem dX1_foremost_10 : decode cX1_foremost 10 = .ok (.getfield 28, 3) := by decide +kernel
theorem dX1_foremost_13 : decode cX1_foremost 13 = .ok (.getfield 44, 3) := by decide +kernel
theorem dX1_foremost_16 : decode cX1_foremost 16 = .ok (.if_icmp .ge 47, 3) := by decide +kernel
theorem dX1_foremost_19 : decode cX1_foremost 19 = .ok (.iload_n 1, 1) := by decide +kernel
theorem dX1_foremost_20 : decode cX1_foremost 20 = .ok (.iload 4, 2) := by decide +kernel
theorem dX1_foremost_22 : decode cX1_foremost 22 = .ok (.invokestatic 50, 3) := by decide +kernel
theorem dX1_foremost_25 : decode cX1_foremost 25 = .ok (.ifCond .eq 32, 3) := by decide +kernel
theorem dX1_foremost_28 : decode cX1_foremost 28 = .ok (.aload_n 0, 1) := by decide +kernel
theorem dX1_foremost_29 : decode cX1_foremost 29 = .ok (.iload 4, 2) := by decide +kernel
theorem dX1_foremost_31 : decode cX1_foremost 31 = .ok (.aload_n 0, 1) := by decide +kernel
theorem dX1_foremost_32 : decode cX1_foremost 32 = .ok (.getfield 28, 3) := by decide +kernel
theorem dX1_foremost_35 : decode cX1_foremost 35 = .ok (.iload 4, 2) := by decide +kernel
theorem dX1_foremost_37 : decode cX1_foremost 37 = .ok (.invokevirtual 67, 3) := by decide +kernel
theorem dX1_foremost_40 : decode cX1_foremost 40 = .ok (.invokevirtual 63, 3) := by decide +kernel
theorem dX1_foremost_43 : decode cX1_foremost 43 = .ok (.istore 5, 2) := by decide +kernel
theorem dX1_foremost_45 : decode cX1_foremost 45 = .ok (.iload 5, 2) := by decide +kernel
theorem dX1_foremost_47 : decode cX1_foremost 47 = .ok (.iload_n 3, 1) := by decide +kernel
theorem dX1_foremost_48 : decode cX1_foremost 48 = .ok (.if_icmp .le 9, 3) := by decide +kernel
theorem dX1_foremost_51 : decode cX1_foremost 51 = .ok (.iload 4, 2) := by decide +kernel
theorem dX1_foremost_53 : decode cX1_foremost 53 = .ok (.istore_n 2, 1) := by decide +kernel
theorem dX1_foremost_54 : decode cX1_foremost 54 = .ok (.iload 5, 2) := by decide +kernel
theorem dX1_foremost_56 : decode cX1_foremost 56 = .ok (.istore_n 3, 1) := by decide +kernel
theorem dX1_foremost_57 : decode cX1_foremost 57 = .ok (.iinc 4 1, 3) := by decide +kernel
theorem dX1_foremost_60 : decode cX1_foremost 60 = .ok (.goto (-53), 3) := by decide +kernel
theorem dX1_foremost_63 : decode cX1_foremost 63 = .ok (.iload_n 2, 1) := by decide +kernel
theorem dX1_foremost_64 : decode cX1_foremost 64 = .ok (.ireturn, 1) := by decide +kernel
theorem dX1_rank_0 : decode cX1_rank 0 = .ok (.aload_n 0, 1) := by decide +kernel
theorem dX1_rank_1 : decode cX1_rank 1 = .ok (.getfield 15, 3) := by decide +kernel
theorem dX1_rank_4 : decode cX1_rank 4 = .ok (.iload_n 1, 1) := by decide +kernel
theorem dX1_rank_5 : decode cX1_rank 5 = .ok (.iaload, 1) := by decide +kernel
theorem dX1_rank_6 : decode cX1_rank 6 = .ok (.invokestatic 58, 3) := by decide +kernel
theorem dX1_rank_9 : decode cX1_rank 9 = .ok (.bipush 30, 2) := by decide +kernel
theorem dX1_rank_11 : decode cX1_rank 11 = .ok (.imul, 1) := by decide +kernel
theorem dX1_rank_12 : decode cX1_rank 12 = .ok (.iload_n 2, 1) := by decide +kernel
theorem dX1_rank_13 : decode cX1_rank 13 = .ok (.iadd, 1) := by decide +kernel
theorem dX1_rank_14 : decode cX1_rank 14 = .ok (.ireturn, 1) := by decide +kernel
theorem dX1_fillGreedily_0 : decode cX1_fillGreedily 0 = .ok (.aload_n 0, 1) := by decide +kernel
theorem dX1_fillGreedily_1 : decode cX1_fillGreedily 1 = .ok (.invokevirtual 70, 3) := by decide +kernel
theorem dX1_fillGreedily_4 : decode cX1_fillGreedily 4 = .ok (.iconst 0, 1) := by decide +kernel
theorem dX1_fillGreedily_5 : decode cX1_fillGreedily 5 = .ok (.istore_n 1, 1) := by decide +kernel
theorem dX1_fillGreedily_6 : decode cX1_fillGreedily 6 = .ok (.iload_n 1, 1) := by decide +kernel
theorem dX1_fillGreedily_7 : decode cX1_fillGreedily 7 = .ok (.aload_n 0, 1) := by decide +kernel
theorem dX1_fillGreedily_8 : decode cX1_fillGreedily 8 = .ok (.getfield 28, 3) := by decide +kernel
theorem dX1_fillGreedily_11 : decode cX1_fillGreedily 11 = .ok (.getfield 44, 3) := by decide +kernel
theorem dX1_fillGreedily_14 : decode cX1_fillGreedily 14 = .ok (.if_icmp .ge 29, 3) := by decide +kernel
theorem dX1_fillGreedily_17 : decode cX1_fillGreedily 17 = .ok (.aload_n 0, 1) := by decide +kernel
theorem dX1_fillGreedily_18 : decode cX1_fillGreedily 18 = .ok (.invokevirtual 73, 3) := by decide +kernel
theorem dX1_fillGreedily_21 : decode cX1_fillGreedily 21 = .ok (.istore_n 2, 1) := by decide +kernel
theorem dX1_fillGreedily_22 : decode cX1_fillGreedily 22 = .ok (.iload_n 2, 1) := by decide +kernel
theorem dX1_fillGreedily_23 : decode cX1_fillGreedily 23 = .ok (.iconst (-1), 1) := by decide +kernel
theorem dX1_fillGreedily_24 : decode cX1_fillGreedily 24 = .ok (.if_icmp .eq 13, 3) := by decide +kernel
theorem dX1_fillGreedily_27 : decode cX1_fillGreedily 27 = .ok (.aload_n 0, 1) := by decide +kernel
theorem dX1_fillGreedily_28 : decode cX1_fillGreedily 28 = .ok (.iload_n 2, 1) := by decide +kernel
theorem dX1_fillGreedily_29 : decode cX1_fillGreedily 29 = .ok (.aload_n 0, 1) := by decide +kernel
theorem dX1_fillGreedily_30 : decode cX1_fillGreedily 30 = .ok (.iload_n 2, 1) := by decide +kernel
theorem dX1_fillGreedily_31 : decode cX1_fillGreedily 31 = .ok (.invokevirtual 76, 3) := by decide +kernel
theorem dX1_fillGreedily_34 : decode cX1_fillGreedily 34 = .ok (.invokevirtual 79, 3) := by decide +kernel
theorem dX1_fillGreedily_37 : decode cX1_fillGreedily 37 = .ok (.iinc 1 1, 3) := by decide +kernel
theorem dX1_fillGreedily_40 : decode cX1_fillGreedily 40 = .ok (.goto (-34), 3) := by decide +kernel
theorem dX1_fillGreedily_43 : decode cX1_fillGreedily 43 = .ok (.return_, 1) := by decide +kernel
theorem dX1_leastUnseen_0 : decode cX1_leastUnseen 0 = .ok (.iconst 0, 1) := by decide +kernel
theorem dX1_leastUnseen_1 : decode cX1_leastUnseen 1 = .ok (.istore_n 2, 1) := by decide +kernel
theorem dX1_leastUnseen_2 : decode cX1_leastUnseen 2 = .ok (.iload_n 2, 1) := by decide +kernel
theorem dX1_leastUnseen_3 : decode cX1_leastUnseen 3 = .ok (.bipush 29, 2) := by decide +kernel
theorem dX1_leastUnseen_5 : decode cX1_leastUnseen 5 = .ok (.if_icmp .ge 18, 3) := by decide +kernel
theorem dX1_leastUnseen_8 : decode cX1_leastUnseen 8 = .ok (.aload_n 0, 1) := by decide +kernel
theorem dX1_leastUnseen_9 : decode cX1_leastUnseen 9 = .ok (.iload_n 1, 1) := by decide +kernel
theorem dX1_leastUnseen_10 : decode cX1_leastUnseen 10 = .ok (.iload_n 2, 1) := by decide +kernel
theorem dX1_leastUnseen_11 : decode cX1_leastUnseen 11 = .ok (.invokevirtual 83, 3) := by decide +kernel
theorem dX1_leastUnseen_14 : decode cX1_leastUnseen 14 = .ok (.ifCond .eq 9, 3) := by decide +kernel
theorem dX1_leastUnseen_17 : decode cX1_leastUnseen 17 = .ok (.iinc 2 1, 3) := by decide +kernel
theorem dX1_leastUnseen_20 : decode cX1_leastUnseen 20 = .ok (.goto (-18), 3) := by decide +kernel
theorem dX1_leastUnseen_23 : decode cX1_leastUnseen 23 = .ok (.iload_n 2, 1) := by decide +kernel
theorem dX1_leastUnseen_24 : decode cX1_leastUnseen 24 = .ok (.ireturn, 1) := by decide +kernel
theorem dX2_init_0 : decode cX2_init 0 = .ok (.aload_n 0, 1) := by decide +kernel
theorem dX2_init_1 : decode cX2_init 1 = .ok (.invokespecial 3, 3) := by decide +kernel
theorem dX2_init_4 : decode cX2_init 4 = .ok (.aload_n 0, 1) := by decide +kernel
theorem dX2_init_5 : decode cX2_init 5 = .ok (.iconst 0, 1) := by decide +kernel
theorem dX2_init_6 : decode cX2_init 6 = .ok (.putfield 9, 3) := by decide +kernel
theorem dX2_init_9 : decode cX2_init 9 = .ok (.aload_n 0, 1) := by decide +kernel
theorem dX2_init_10 : decode cX2_init 10 = .ok (.bipush 30, 2) := by decide +kernel
theorem dX2_init_12 : decode cX2_init 12 = .ok (.newarray .int, 2) := by decide +kernel
theorem dX2_init_14 : decode cX2_init 14 = .ok (.putfield 15, 3) := by decide +kernel
theorem dX2_init_17 : decode cX2_init 17 = .ok (.aload_n 0, 1) := by decide +kernel
theorem dX2_init_18 : decode cX2_init 18 = .ok (.bipush 30, 2) := by decide +kernel
theorem dX2_init_20 : decode cX2_init 20 = .ok (.newarray .int, 2) := by decide +kernel
theorem dX2_init_22 : decode cX2_init 22 = .ok (.putfield 19, 3) := by decide +kernel
theorem dX2_init_25 : decode cX2_init 25 = .ok (.return_, 1) := by decide +kernel
theorem dX2_restart_0 : decode cX2_restart 0 = .ok (.aload_n 0, 1) := by decide +kernel
theorem dX2_restart_1 : decode cX2_restart 1 = .ok (.iload_n 1, 1) := by decide +kernel
theorem dX2_restart_2 : decode cX2_restart 2 = .ok (.putfield 9, 3) := by decide +kernel
theorem dX2_restart_5 : decode cX2_restart 5 = .ok (.aload_n 0, 1) := by decide +kernel
theorem dX2_restart_6 : decode cX2_restart 6 = .ok (.getfield 15, 3) := by decide +kernel
theorem dX2_restart_9 : decode cX2_restart 9 = .ok (.iconst 0, 1) := by decide +kernel
theorem dX2_restart_10 : decode cX2_restart 10 = .ok (.invokestatic 22, 3) := by decide +kernel
theorem dX2_restart_13 : decode cX2_restart 13 = .ok (.return_, 1) := by decide +kernel
theorem dX2_isVertex_0 : decode cX2_isVertex 0 = .ok (.iload_n 1, 1) := by decide +kernel
theorem dX2_isVertex_1 : decode cX2_isVertex 1 = .ok (.ifCond .lt 15, 3) := by decide +kernel
theorem dX2_isVertex_4 : decode cX2_isVertex 4 = .ok (.iload_n 1, 1) := by decide +kernel
theorem dX2_isVertex_5 : decode cX2_isVertex 5 = .ok (.aload_n 0, 1) := by decide +kernel
theorem dX2_isVertex_6 : decode cX2_isVertex 6 = .ok (.getfield 9, 3) := by decide +kernel
theorem dX2_isVertex_9 : decode cX2_isVertex 9 = .ok (.if_icmp .ge 7, 3) := by decide +kernel
theorem dX2_isVertex_12 : decode cX2_isVertex 12 = .ok (.iconst 1, 1) := by decide +kernel
theorem dX2_isVertex_13 : decode cX2_isVertex 13 = .ok (.goto 4, 3) := by decide +kernel
theorem dX2_isVertex_16 : decode cX2_isVertex 16 = .ok (.iconst 0, 1) := by decide +kernel
theorem dX2_isVertex_17 : decode cX2_isVertex 17 = .ok (.ireturn, 1) := by decide +kernel
theorem dX2_all_0 : decode cX2_all 0 = .ok (.aload_n 0, 1) := by decide +kernel
theorem dX2_all_1 : decode cX2_all 1 = .ok (.getfield 9, 3) := by decide +kernel
theorem dX2_all_4 : decode cX2_all 4 = .ok (.invokestatic 28, 3) := by decide +kernel
theorem dX2_all_7 : decode cX2_all 7 = .ok (.ireturn, 1) := by decide +kernel
theorem dX2_joined_0 : decode cX2_joined 0 = .ok (.aload_n 0, 1) := by decide +kernel
theorem dX2_joined_1 : decode cX2_joined 1 = .ok (.getfield 15, 3) := by decide +kernel
theorem dX2_joined_4 : decode cX2_joined 4 = .ok (.iload_n 1, 1) := by decide +kernel
theorem dX2_joined_5 : decode cX2_joined 5 = .ok (.iaload, 1) := by decide +kernel
theorem dX2_joined_6 : decode cX2_joined 6 = .ok (.iload_n 2, 1) := by decide +kernel
theorem dX2_joined_7 : decode cX2_joined 7 = .ok (.invokestatic 32, 3) := by decide +kernel
theorem dX2_joined_10 : decode cX2_joined 10 = .ok (.ireturn, 1) := by decide +kernel
theorem dX2_flip_0 : decode cX2_flip 0 = .ok (.aload_n 0, 1) := by decide +kernel
theorem dX2_flip_1 : decode cX2_flip 1 = .ok (.getfield 15, 3) := by decide +kernel
theorem dX2_flip_4 : decode cX2_flip 4 = .ok (.iload_n 1, 1) := by decide +kernel
theorem dX2_flip_5 : decode cX2_flip 5 = .ok (.dup2, 1) := by decide +kernel
theorem dX2_flip_6 : decode cX2_flip 6 = .ok (.iaload, 1) := by decide +kernel
theorem dX2_flip_7 : decode cX2_flip 7 = .ok (.iconst 1, 1) := by decide +kernel
theorem dX2_flip_8 : decode cX2_flip 8 = .ok (.iload_n 2, 1) := by decide +kernel
theorem dX2_flip_9 : decode cX2_flip 9 = .ok (.ishl, 1) := by decide +kernel
theorem dX2_flip_10 : decode cX2_flip 10 = .ok (.ixor, 1) := by decide +kernel
theorem dX2_flip_11 : decode cX2_flip 11 = .ok (.iastore, 1) := by decide +kernel
theorem dX2_flip_12 : decode cX2_flip 12 = .ok (.aload_n 0, 1) := by decide +kernel
theorem dX2_flip_13 : decode cX2_flip 13 = .ok (.getfield 15, 3) := by decide +kernel
theorem dX2_flip_16 : decode cX2_flip 16 = .ok (.iload_n 2, 1) := by decide +kernel
theorem dX2_flip_17 : decode cX2_flip 17 = .ok (.dup2, 1) := by decide +kernel
theorem dX2_flip_18 : decode cX2_flip 18 = .ok (.iaload, 1) := by decide +kernel
theorem dX2_flip_19 : decode cX2_flip 19 = .ok (.iconst 1, 1) := by decide +kernel
theorem dX2_flip_20 : decode cX2_flip 20 = .ok (.iload_n 1, 1) := by decide +kernel
theorem dX2_flip_21 : decode cX2_flip 21 = .ok (.ishl, 1) := by decide +kernel
theorem dX2_flip_22 : decode cX2_flip 22 = .ok (.ixor, 1) := by decide +kernel
theorem dX2_flip_23 : decode cX2_flip 23 = .ok (.iastore, 1) := by decide +kernel
theorem dX2_flip_24 : decode cX2_flip 24 = .ok (.return_, 1) := by decide +kernel
theorem dX2_degreeOf_0 : decode cX2_degreeOf 0 = .ok (.aload_n 0, 1) := by decide +kernel
theorem dX2_degreeOf_1 : decode cX2_degreeOf 1 = .ok (.getfield 15, 3) := by decide +kernel
theorem dX2_degreeOf_4 : decode cX2_degreeOf 4 = .ok (.iload_n 1, 1) := by decide +kernel
theorem dX2_degreeOf_5 : decode cX2_degreeOf 5 = .ok (.iaload, 1) := by decide +kernel
theorem dX2_degreeOf_6 : decode cX2_degreeOf 6 = .ok (.invokestatic 36, 3) := by decide +kernel
theorem dX2_degreeOf_9 : decode cX2_degreeOf 9 = .ok (.ireturn, 1) := by decide +kernel
theorem dX2_edges_0 : decode cX2_edges 0 = .ok (.iconst 0, 1) := by decide +kernel
theorem dX2_edges_1 : decode cX2_edges 1 = .ok (.istore_n 1, 1) := by decide +kernel
theorem dX2_edges_2 : decode cX2_edges 2 = .ok (.iconst 0, 1) := by decide +kernel
theorem dX2_edges_3 : decode cX2_edges 3 = .ok (.istore_n 2, 1) := by decide +kernel
theorem dX2_edges_4 : decode cX2_edges 4 = .ok (.iload_n 2, 1) := by decide +kernel
theorem dX2_edges_5 : decode cX2_edges 5 = .ok (.aload_n 0, 1) := by decide +kernel
theorem dX2_edges_6 : decode cX2_edges 6 = .ok (.getfield 9, 3) := by decide +kernel
theorem dX2_edges_9 : decode cX2_edges 9 = .ok (.if_icmp .ge 17, 3) := by decide +kernel
theorem dX2_edges_12 : decode cX2_edges 12 = .ok (.iload_n 1, 1) := by decide +kernel
theorem dX2_edges_13 : decode cX2_edges 13 = .ok (.aload_n 0, 1) := by decide +kernel
theorem dX2_edges_14 : decode cX2_edges 14 = .ok (.iload_n 2, 1) := by decide +kernel
theorem dX2_edges_15 : decode cX2_edges 15 = .ok (.invokevirtual 41, 3) := by decide +kernel
theorem dX2_edges_18 : decode cX2_edges 18 = .ok (.iadd, 1) := by decide +kernel
theorem dX2_edges_19 : decode cX2_edges 19 = .ok (.istore_n 1, 1) := by decide +kernel
theorem dX2_edges_20 : decode cX2_edges 20 = .ok (.iinc 2 1, 3) := by decide +kernel
theorem dX2_edges_23 : decode cX2_edges 23 = .ok (.goto (-19), 3) := by decide +kernel
theorem dX2_edges_26 : decode cX2_edges 26 = .ok (.iload_n 1, 1) := by decide +kernel
theorem dX2_edges_27 : decode cX2_edges 27 = .ok (.iconst 2, 1) := by decide +kernel
theorem dX2_edges_28 : decode cX2_edges 28 = .ok (.idiv, 1) := by decide +kernel
theorem dX2_edges_29 : decode cX2_edges 29 = .ok (.ireturn, 1) := by decide +kernel
theorem dX2_greatestDegree_0 : decode cX2_greatestDegree 0 = .ok (.iconst 0, 1) := by decide +kernel
theorem dX2_greatestDegree_1 : decode cX2_greatestDegree 1 = .ok (.istore_n 1, 1) := by decide +kernel
theorem dX2_greatestDegree_2 : decode cX2_greatestDegree 2 = .ok (.iconst 0, 1) := by decide +kernel
theorem dX2_greatestDegree_3 : decode cX2_greatestDegree 3 = .ok (.istore_n 2, 1) := by decide +kernel
theorem dX2_greatestDegree_4 : decode cX2_greatestDegree 4 = .ok (.iload_n 2, 1) := by decide +kernel
theorem dX2_greatestDegree_5 : decode cX2_greatestDegree 5 = .ok (.aload_n 0, 1) := by decide +kernel
theorem dX2_greatestDegree_6 : decode cX2_greatestDegree 6 = .ok (.getfield 9, 3) := by decide +kernel
theorem dX2_greatestDegree_9 : decode cX2_greatestDegree 9 = .ok (.if_icmp .ge 19, 3) := by decide +kernel
theorem dX2_greatestDegree_12 : decode cX2_greatestDegree 12 = .ok (.iload_n 1, 1) := by decide +kernel
theorem dX2_greatestDegree_13 : decode cX2_greatestDegree 13 = .ok (.aload_n 0, 1) := by decide +kernel
theorem dX2_greatestDegree_14 : decode cX2_greatestDegree 14 = .ok (.iload_n 2, 1) := by decide +kernel
theorem dX2_greatestDegree_15 : decode cX2_greatestDegree 15 = .ok (.invokevirtual 41, 3) := by decide +kernel
theorem dX2_greatestDegree_18 : decode cX2_greatestDegree 18 = .ok (.invokestatic 44, 3) := by decide +kernel
theorem dX2_greatestDegree_21 : decode cX2_greatestDegree 21 = .ok (.istore_n 1, 1) := by decide +kernel
theorem dX2_greatestDegree_22 : decode cX2_greatestDegree 22 = .ok (.iinc 2 1, 3) := by decide +kernel
theorem dX2_greatestDegree_25 : decode cX2_greatestDegree 25 = .ok (.goto (-21), 3) := by decide +kernel
theorem dX2_greatestDegree_28 : decode cX2_greatestDegree 28 = .ok (.iload_n 1, 1) := by decide +kernel
theorem dX2_greatestDegree_29 : decode cX2_greatestDegree 29 = .ok (.ireturn, 1) := by decide +kernel
theorem dX2_drawEdges_0 : decode cX2_drawEdges 0 = .ok (.aload_n 0, 1) := by decide +kernel
theorem dX2_drawEdges_1 : decode cX2_drawEdges 1 = .ok (.getfield 15, 3) := by decide +kernel
theorem dX2_drawEdges_4 : decode cX2_drawEdges 4 = .ok (.iconst 0, 1) := by decide +kernel
theorem dX2_drawEdges_5 : decode cX2_drawEdges 5 = .ok (.invokestatic 22, 3) := by decide +kernel
theorem dX2_drawEdges_8 : decode cX2_drawEdges 8 = .ok (.iload_n 1, 1) := by decide +kernel
theorem dX2_drawEdges_9 : decode cX2_drawEdges 9 = .ok (.istore_n 3, 1) := by decide +kernel
theorem dX2_drawEdges_10 : decode cX2_drawEdges 10 = .ok (.iconst 0, 1) := by decide +kernel
theorem dX2_drawEdges_11 : decode cX2_drawEdges 11 = .ok (.istore 4, 2) := by decide +kernel
theorem dX2_drawEdges_13 : decode cX2_drawEdges 13 = .ok (.iload 4, 2) := by decide +kernel
theorem dX2_drawEdges_15 : decode cX2_drawEdges 15 = .ok (.aload_n 0, 1) := by decide +kernel
theorem dX2_drawEdges_16 : decode cX2_drawEdges 16 = .ok (.getfield 9, 3) := by decide +kernel
theorem dX2_drawEdges_19 : decode cX2_drawEdges 19 = .ok (.if_icmp .ge 58, 3) := by decide +kernel
theorem dX2_drawEdges_22 : decode cX2_drawEdges 22 = .ok (.iload 4, 2) := by decide +kernel
theorem dX2_drawEdges_24 : decode cX2_drawEdges 24 = .ok (.iconst 1, 1) := by decide +kernel
theorem dX2_drawEdges_25 : decode cX2_drawEdges 25 = .ok (.iadd, 1) := by decide +kernel
theorem dX2_drawEdges_26 : decode cX2_drawEdges 26 = .ok (.istore 5, 2) := by decide +kernel
theorem dX2_drawEdges_28 : decode cX2_drawEdges 28 = .ok (.iload 5, 2) := by decide +kernel
theorem dX2_drawEdges_30 : decode cX2_drawEdges 30 = .ok (.aload_n 0, 1) := by decide +kernel
theorem dX2_drawEdges_31 : decode cX2_drawEdges 31 = .ok (.getfield 9, 3) := by decide +kernel
theorem dX2_drawEdges_34 : decode cX2_drawEdges 34 = .ok (.if_icmp .ge 37, 3) := by decide +kernel
theorem dX2_drawEdges_37 : decode cX2_drawEdges 37 = .ok (.ldc 50, 2) := by decide +kernel
theorem dX2_drawEdges_39 : decode cX2_drawEdges 39 = .ok (.iload_n 3, 1) := by decide +kernel
theorem dX2_drawEdges_40 : decode cX2_drawEdges 40 = .ok (.imul, 1) := by decide +kernel
theorem dX2_drawEdges_41 : decode cX2_drawEdges 41 = .ok (.sipush 12345, 3) := by decide +kernel
theorem dX2_drawEdges_44 : decode cX2_drawEdges 44 = .ok (.iadd, 1) := by decide +kernel
theorem dX2_drawEdges_45 : decode cX2_drawEdges 45 = .ok (.istore_n 3, 1) := by decide +kernel
theorem dX2_drawEdges_46 : decode cX2_drawEdges 46 = .ok (.iload_n 3, 1) := by decide +kernel
theorem dX2_drawEdges_47 : decode cX2_drawEdges 47 = .ok (.bipush 16, 2) := by decide +kernel
theorem dX2_drawEdges_49 : decode cX2_drawEdges 49 = .ok (.iushr, 1) := by decide +kernel
theorem dX2_drawEdges_50 : decode cX2_drawEdges 50 = .ok (.bipush 100, 2) := by decide +kernel
theorem dX2_drawEdges_52 : decode cX2_drawEdges 52 = .ok (.irem, 1) := by decide +kernel
theorem dX2_drawEdges_53 : decode cX2_drawEdges 53 = .ok (.iload_n 2, 1) := by decide +kernel
theorem dX2_drawEdges_54 : decode cX2_drawEdges 54 = .ok (.if_icmp .ge 11, 3) := by decide +kernel
theorem dX2_drawEdges_57 : decode cX2_drawEdges 57 = .ok (.aload_n 0, 1) := by decide +kernel
theorem dX2_drawEdges_58 : decode cX2_drawEdges 58 = .ok (.iload 4, 2) := by decide +kernel
theorem dX2_drawEdges_60 : decode cX2_drawEdges 60 = .ok (.iload 5, 2) := by decide +kernel
theorem dX2_drawEdges_62 : decode cX2_drawEdges 62 = .ok (.invokevirtual 51, 3) := by decide +kernel
theorem dX2_drawEdges_65 : decode cX2_drawEdges 65 = .ok (.iinc 5 1, 3) := by decide +kernel
theorem dX2_drawEdges_68 : decode cX2_drawEdges 68 = .ok (.goto (-40), 3) := by decide +kernel
theorem dX2_drawEdges_71 : decode cX2_drawEdges 71 = .ok (.iinc 4 1, 3) := by decide +kernel
theorem dX2_drawEdges_74 : decode cX2_drawEdges 74 = .ok (.goto (-61), 3) := by decide +kernel
theorem dX2_drawEdges_77 : decode cX2_drawEdges 77 = .ok (.return_, 1) := by decide +kernel
theorem dX2_sharesDivisor_0 : decode cX2_sharesDivisor 0 = .ok (.iconst 2, 1) := by decide +kernel
theorem dX2_sharesDivisor_1 : decode cX2_sharesDivisor 1 = .ok (.istore_n 2, 1) := by decide +kernel
theorem dX2_sharesDivisor_2 : decode cX2_sharesDivisor 2 = .ok (.iload_n 2, 1) := by decide +kernel
theorem dX2_sharesDivisor_3 : decode cX2_sharesDivisor 3 = .ok (.iload_n 1, 1) := by decide +kernel
theorem dX2_sharesDivisor_4 : decode cX2_sharesDivisor 4 = .ok (.if_icmp .gt 26, 3) := by decide +kernel
theorem dX2_sharesDivisor_7 : decode cX2_sharesDivisor 7 = .ok (.iload_n 1, 1) := by decide +kernel
theorem dX2_sharesDivisor_8 : decode cX2_sharesDivisor 8 = .ok (.iload_n 2, 1) := by decide +kernel
theorem dX2_sharesDivisor_9 : decode cX2_sharesDivisor 9 = .ok (.irem, 1) := by decide +kernel
theorem dX2_sharesDivisor_10 : decode cX2_sharesDivisor 10 = .ok (.ifCond .ne 14, 3) := by decide +kernel
theorem dX2_sharesDivisor_13 : decode cX2_sharesDivisor 13 = .ok (.aload_n 0, 1) := by decide +kernel
theorem dX2_sharesDivisor_14 : decode cX2_sharesDivisor 14 = .ok (.getfield 9, 3) := by decide +kernel
theorem dX2_sharesDivisor_17 : decode cX2_sharesDivisor 17 = .ok (.iload_n 2, 1) := by decide +kernel
theorem dX2_sharesDivisor_18 : decode cX2_sharesDivisor 18 = .ok (.irem, 1) := by decide +kernel
theorem dX2_sharesDivisor_19 : decode cX2_sharesDivisor 19 = .ok (.ifCond .ne 5, 3) := by decide +kernel
theorem dX2_sharesDivisor_22 : decode cX2_sharesDivisor 22 = .ok (.iconst 1, 1) := by decide +kernel
theorem dX2_sharesDivisor_23 : decode cX2_sharesDivisor 23 = .ok (.ireturn, 1) := by decide +kernel
theorem dX2_sharesDivisor_24 : decode cX2_sharesDivisor 24 = .ok (.iinc 2 1, 3) := by decide +kernel
theorem dX2_sharesDivisor_27 : decode cX2_sharesDivisor 27 = .ok (.goto (-25), 3) := by decide +kernel
theorem dX2_sharesDivisor_30 : decode cX2_sharesDivisor 30 = .ok (.iconst 0, 1) := by decide +kernel
theorem dX2_sharesDivisor_31 : decode cX2_sharesDivisor 31 = .ok (.ireturn, 1) := by decide +kernel
theorem dX2_renumber_0 : decode cX2_renumber 0 = .ok (.aload_n 0, 1) := by decide +kernel
theorem dX2_renumber_1 : decode cX2_renumber 1 = .ok (.getfield 9, 3) := by decide +kernel
theorem dX2_renumber_4 : decode cX2_renumber 4 = .ok (.ifCond .gt 4, 3) := by decide +kernel
theorem dX2_renumber_7 : decode cX2_renumber 7 = .ok (.return_, 1) := by decide +kernel
theorem dX2_renumber_8 : decode cX2_renumber 8 = .ok (.iconst 0, 1) := by decide +kernel
theorem dX2_renumber_9 : decode cX2_renumber 9 = .ok (.istore_n 3, 1) := by decide +kernel
theorem dX2_renumber_10 : decode cX2_renumber 10 = .ok (.iload_n 3, 1) := by decide +kernel
theorem dX2_renumber_11 : decode cX2_renumber 11 = .ok (.aload_n 0, 1) := by decide +kernel
theorem dX2_renumber_12 : decode cX2_renumber 12 = .ok (.getfield 9, 3) := by decide +kernel
theorem dX2_renumber_15 : decode cX2_renumber 15 = .ok (.if_icmp .ge 75, 3) := by decide +kernel
theorem dX2_renumber_18 : decode cX2_renumber 18 = .ok (.iconst 0, 1) := by decide +kernel
theorem dX2_renumber_19 : decode cX2_renumber 19 = .ok (.istore 4, 2) := by decide +kernel
theorem dX2_renumber_21 : decode cX2_renumber 21 = .ok (.iconst 0, 1) := by decide +kernel
theorem dX2_renumber_22 : decode cX2_renumber 22 = .ok (.istore 5, 2) := by decide +kernel
theorem dX2_renumber_24 : decode cX2_renumber 24 = .ok (.iload 5, 2) := by decide +kernel
theorem dX2_renumber_26 : decode cX2_renumber 26 = .ok (.aload_n 0, 1) := by decide +kernel
theorem dX2_renumber_27 : decode cX2_renumber 27 = .ok (.getfield 9, 3) := by decide +kernel
theorem dX2_renumber_30 : decode cX2_renumber 30 = .ok (.if_icmp .ge 37, 3) := by decide +kernel
theorem dX2_renumber_33 : decode cX2_renumber 33 = .ok (.aload_n 0, 1) := by decide +kernel
theorem dX2_renumber_34 : decode cX2_renumber 34 = .ok (.iload_n 3, 1) := by decide +kernel
theorem dX2_renumber_35 : decode cX2_renumber 35 = .ok (.iload 5, 2) := by decide +kernel
theorem dX2_renumber_37 : decode cX2_renumber 37 = .ok (.invokevirtual 55, 3) := by decide +kernel
theorem dX2_renumber_40 : decode cX2_renumber 40 = .ok (.ifCond .eq 21, 3) := by decide +kernel
theorem dX2_renumber_43 : decode cX2_renumber 43 = .ok (.iload 4, 2) := by decide +kernel
theorem dX2_renumber_45 : decode cX2_renumber 45 = .ok (.iconst 1, 1) := by decide +kernel
theorem dX2_renumber_46 : decode cX2_renumber 46 = .ok (.iload 5, 2) := by decide +kernel
theorem dX2_renumber_48 : decode cX2_renumber 48 = .ok (.iload_n 1, 1) := by decide +kernel
theorem dX2_renumber_49 : decode cX2_renumber 49 = .ok (.imul, 1) := by decide +kernel
theorem dX2_renumber_50 : decode cX2_renumber 50 = .ok (.iload_n 2, 1) := by decide +kernel
theorem dX2_renumber_51 : decode cX2_renumber 51 = .ok (.iadd, 1) := by decide +kernel
theorem dX2_renumber_52 : decode cX2_renumber 52 = .ok (.aload_n 0, 1) := by decide +kernel
theorem dX2_renumber_53 : decode cX2_renumber 53 = .ok (.getfield 9, 3) := by decide +kernel
theorem dX2_renumber_56 : decode cX2_renumber 56 = .ok (.irem, 1) := by decide +kernel
theorem dX2_renumber_57 : decode cX2_renumber 57 = .ok (.ishl, 1) := by decide +kernel
theorem dX2_renumber_58 : decode cX2_renumber 58 = .ok (.ior, 1) := by decide +kernel
theorem dX2_renumber_59 : decode cX2_renumber 59 = .ok (.istore 4, 2) := by decide +kernel
theorem dX2_renumber_61 : decode cX2_renumber 61 = .ok (.iinc 5 1, 3) := by decide +kernel
theorem dX2_renumber_64 : decode cX2_renumber 64 = .ok (.goto (-40), 3) := by decide +kernel
theorem dX2_renumber_67 : decode cX2_renumber 67 = .ok (.aload_n 0, 1) := by decide +kernel
theorem dX2_renumber_68 : decode cX2_renumber 68 = .ok (.getfield 19, 3) := by decide +kernel
theorem dX2_renumber_71 : decode cX2_renumber 71 = .ok (.iload_n 3, 1) := by decide +kernel
theorem dX2_renumber_72 : decode cX2_renumber 72 = .ok (.iload_n 1, 1) := by decide +kernel
theorem dX2_renumber_73 : decode cX2_renumber 73 = .ok (.imul, 1) := by decide +kernel
theorem dX2_renumber_74 : decode cX2_renumber 74 = .ok (.iload_n 2, 1) := by decide +kernel
theorem dX2_renumber_75 : decode cX2_renumber 75 = .ok (.iadd, 1) := by decide +kernel
theorem dX2_renumber_76 : decode cX2_renumber 76 = .ok (.aload_n 0, 1) := by decide +kernel
theorem dX2_renumber_77 : decode cX2_renumber 77 = .ok (.getfield 9, 3) := by decide +kernel
theorem dX2_renumber_80 : decode cX2_renumber 80 = .ok (.irem, 1) := by decide +kernel
theorem dX2_renumber_81 : decode cX2_renumber 81 = .ok (.iload 4, 2) := by decide +kernel
theorem dX2_renumber_83 : decode cX2_renumber 83 = .ok (.iastore, 1) := by decide +kernel
theorem dX2_renumber_84 : decode cX2_renumber 84 = .ok (.iinc 3 1, 3) := by decide +kernel
theorem dX2_renumber_87 : decode cX2_renumber 87 = .ok (.goto (-77), 3) := by decide +kernel
theorem dX2_renumber_90 : decode cX2_renumber 90 = .ok (.aload_n 0, 1) := by decide +kernel
theorem dX2_renumber_91 : decode cX2_renumber 91 = .ok (.getfield 19, 3) := by decide +kernel
theorem dX2_renumber_94 : decode cX2_renumber 94 = .ok (.iconst 0, 1) := by decide +kernel
theorem dX2_renumber_95 : decode cX2_renumber 95 = .ok (.aload_n 0, 1) := by decide +kernel
theorem dX2_renumber_96 : decode cX2_renumber 96 = .ok (.getfield 15, 3) := by decide +kernel
theorem dX2_renumber_99 : decode cX2_renumber 99 = .ok (.iconst 0, 1) := by decide +kernel
theorem dX2_renumber_100 : decode cX2_renumber 100 = .ok (.aload_n 0, 1) := by decide +kernel
theorem dX2_renumber_101 : decode cX2_renumber 101 = .ok (.getfield 9, 3) := by decide +kernel
theorem dX2_renumber_104 : decode cX2_renumber 104 = .ok (.invokestatic 58, 3) := by decide +kernel
theorem dX2_renumber_107 : decode cX2_renumber 107 = .ok (.return_, 1) := by decide +kernel
theorem dX2_greedyClique_0 : decode cX2_greedyClique 0 = .ok (.iconst 0, 1) := by decide +kernel
theorem dX2_greedyClique_1 : decode cX2_greedyClique 1 = .ok (.istore_n 1, 1) := by decide +kernel
theorem dX2_greedyClique_2 : decode cX2_greedyClique 2 = .ok (.aload_n 0, 1) := by decide +kernel
theorem dX2_greedyClique_3 : decode cX2_greedyClique 3 = .ok (.invokevirtual 64, 3) := by decide +kernel
theorem dX2_greedyClique_6 : decode cX2_greedyClique 6 = .ok (.istore_n 2, 1) := by decide +kernel
theorem dX2_greedyClique_7 : decode cX2_greedyClique 7 = .ok (.iconst 0, 1) := by decide +kernel
theorem dX2_greedyClique_8 : decode cX2_greedyClique 8 = .ok (.istore_n 3, 1) := by decide +kernel
theorem dX2_greedyClique_9 : decode cX2_greedyClique 9 = .ok (.iload_n 3, 1) := by decide +kernel
theorem dX2_greedyClique_10 : decode cX2_greedyClique 10 = .ok (.aload_n 0, 1) := by decide +kernel
theorem dX2_greedyClique_11 : decode cX2_greedyClique 11 = .ok (.getfield 9, 3) := by decide +kernel
theorem dX2_greedyClique_14 : decode cX2_greedyClique 14 = .ok (.if_icmp .ge 37, 3) := by decide +kernel
theorem dX2_greedyClique_17 : decode cX2_greedyClique 17 = .ok (.iload_n 2, 1) := by decide +kernel
theorem dX2_greedyClique_18 : decode cX2_greedyClique 18 = .ok (.ifCond .eq 33, 3) := by decide +kernel
theorem dX2_greedyClique_21 : decode cX2_greedyClique 21 = .ok (.aload_n 0, 1) := by decide +kernel
theorem dX2_greedyClique_22 : decode cX2_greedyClique 22 = .ok (.iload_n 2, 1) := by decide +kernel
theorem dX2_greedyClique_23 : decode cX2_greedyClique 23 = .ok (.invokevirtual 68, 3) := by decide +kernel
theorem dX2_greedyClique_26 : decode cX2_greedyClique 26 = .ok (.istore 4, 2) := by decide +kernel
theorem dX2_greedyClique_28 : decode cX2_greedyClique 28 = .ok (.iload_n 1, 1) := by decide +kernel
theorem dX2_greedyClique_29 : decode cX2_greedyClique 29 = .ok (.iconst 1, 1) := by decide +kernel
theorem dX2_greedyClique_30 : decode cX2_greedyClique 30 = .ok (.iload 4, 2) := by decide +kernel
theorem dX2_greedyClique_32 : decode cX2_greedyClique 32 = .ok (.ishl, 1) := by decide +kernel
theorem dX2_greedyClique_33 : decode cX2_greedyClique 33 = .ok (.ior, 1) := by decide +kernel
theorem dX2_greedyClique_34 : decode cX2_greedyClique 34 = .ok (.istore_n 1, 1) := by decide +kernel
theorem dX2_greedyClique_35 : decode cX2_greedyClique 35 = .ok (.iload_n 2, 1) := by decide +kernel
theorem dX2_greedyClique_36 : decode cX2_greedyClique 36 = .ok (.aload_n 0, 1) := by decide +kernel
theorem dX2_greedyClique_37 : decode cX2_greedyClique 37 = .ok (.getfield 15, 3) := by decide +kernel
theorem dX2_greedyClique_40 : decode cX2_greedyClique 40 = .ok (.iload 4, 2) := by decide +kernel
theorem dX2_greedyClique_42 : decode cX2_greedyClique 42 = .ok (.iaload, 1) := by decide +kernel
theorem dX2_greedyClique_43 : decode cX2_greedyClique 43 = .ok (.iand, 1) := by decide +kernel
theorem dX2_greedyClique_44 : decode cX2_greedyClique 44 = .ok (.istore_n 2, 1) := by decide +kernel
theorem dX2_greedyClique_45 : decode cX2_greedyClique 45 = .ok (.iinc 3 1, 3) := by decide +kernel
theorem dX2_greedyClique_48 : decode cX2_greedyClique 48 = .ok (.goto (-39), 3) := by decide +kernel
theorem dX2_greedyClique_51 : decode cX2_greedyClique 51 = .ok (.iload_n 1, 1) := by decide +kernel
theorem dX2_greedyClique_52 : decode cX2_greedyClique 52 = .ok (.ireturn, 1) := by decide +kernel
theorem dX2_widest_0 : decode cX2_widest 0 = .ok (.iconst 0, 1) := by decide +kernel
theorem dX2_widest_1 : decode cX2_widest 1 = .ok (.istore_n 2, 1) := by decide +kernel
theorem dX2_widest_2 : decode cX2_widest 2 = .ok (.iconst (-1), 1) := by decide +kernel
theorem dX2_widest_3 : decode cX2_widest 3 = .ok (.istore_n 3, 1) := by decide +kernel
theorem dX2_widest_4 : decode cX2_widest 4 = .ok (.iconst 0, 1) := by decide +kernel
theorem dX2_widest_5 : decode cX2_widest 5 = .ok (.istore 4, 2) := by decide +kernel
theorem dX2_widest_7 : decode cX2_widest 7 = .ok (.iload 4, 2) := by decide +kernel
theorem dX2_widest_9 : decode cX2_widest 9 = .ok (.aload_n 0, 1) := by decide +kernel
theorem dX2_widest_10 : decode cX2_widest 10 = .ok (.getfield 9, 3) := by decide +kernel
theorem dX2_widest_13 : decode cX2_widest 13 = .ok (.if_icmp .ge 38, 3) := by decide +kernel
theorem dX2_widest_16 : decode cX2_widest 16 = .ok (.iload_n 1, 1) := by decide +kernel
theorem dX2_widest_17 : decode cX2_widest 17 = .ok (.iload 4, 2) := by decide +kernel
theorem dX2_widest_19 : decode cX2_widest 19 = .ok (.invokestatic 32, 3) := by decide +kernel
theorem dX2_widest_22 : decode cX2_widest 22 = .ok (.ifCond .eq 23, 3) := by decide +kernel
theorem dX2_widest_25 : decode cX2_widest 25 = .ok (.aload_n 0, 1) := by decide +kernel
theorem dX2_widest_26 : decode cX2_widest 26 = .ok (.iload 4, 2) := by decide +kernel
theorem dX2_widest_28 : decode cX2_widest 28 = .ok (.invokevirtual 41, 3) := by decide +kernel
theorem dX2_widest_31 : decode cX2_widest 31 = .ok (.iload_n 3, 1) := by decide +kernel
theorem dX2_widest_32 : decode cX2_widest 32 = .ok (.if_icmp .le 13, 3) := by decide +kernel
theorem dX2_widest_35 : decode cX2_widest 35 = .ok (.iload 4, 2) := by decide +kernel
theorem dX2_widest_37 : decode cX2_widest 37 = .ok (.istore_n 2, 1) := by decide +kernel
theorem dX2_widest_38 : decode cX2_widest 38 = .ok (.aload_n 0, 1) := by decide +kernel
theorem dX2_widest_39 : decode cX2_widest 39 = .ok (.iload 4, 2) := by decide +kernel
theorem dX2_widest_41 : decode cX2_widest 41 = .ok (.invokevirtual 41, 3) := by decide +kernel
theorem dX2_widest_44 : decode cX2_widest 44 = .ok (.istore_n 3, 1) := by decide +kernel
theorem dX2_widest_45 : decode cX2_widest 45 = .ok (.iinc 4 1, 3) := by decide +kernel
theorem dX2_widest_48 : decode cX2_widest 48 = .ok (.goto (-41), 3) := by decide +kernel
theorem dX2_widest_51 : decode cX2_widest 51 = .ok (.iload_n 2, 1) := by decide +kernel
theorem dX2_widest_52 : decode cX2_widest 52 = .ok (.ireturn, 1) := by decide +kernel
theorem dX3_init_0 : decode cX3_init 0 = .ok (.aload_n 0, 1) := by decide +kernel
theorem dX3_init_1 : decode cX3_init 1 = .ok (.invokespecial 3, 3) := by decide +kernel
theorem dX3_init_4 : decode cX3_init 4 = .ok (.aload_n 0, 1) := by decide +kernel
theorem dX3_init_5 : decode cX3_init 5 = .ok (.iconst 0, 1) := by decide +kernel
theorem dX3_init_6 : decode cX3_init 6 = .ok (.putfield 9, 3) := by decide +kernel
theorem dX3_init_9 : decode cX3_init 9 = .ok (.aload_n 0, 1) := by decide +kernel
theorem dX3_init_10 : decode cX3_init 10 = .ok (.sipush 3000, 3) := by decide +kernel
theorem dX3_init_13 : decode cX3_init 13 = .ok (.newarray .int, 2) := by decide +kernel
theorem dX3_init_15 : decode cX3_init 15 = .ok (.putfield 15, 3) := by decide +kernel
theorem dX3_init_18 : decode cX3_init 18 = .ok (.aload_n 0, 1) := by decide +kernel
theorem dX3_init_19 : decode cX3_init 19 = .ok (.sipush 3000, 3) := by decide +kernel
theorem dX3_init_22 : decode cX3_init 22 = .ok (.newarray .int, 2) := by decide +kernel
theorem dX3_init_24 : decode cX3_init 24 = .ok (.putfield 19, 3) := by decide +kernel
theorem dX3_init_27 : decode cX3_init 27 = .ok (.return_, 1) := by decide +kernel
theorem dX3_holds_0 : decode cX3_holds 0 = .ok (.iload_n 1, 1) := by decide +kernel
theorem dX3_holds_1 : decode cX3_holds 1 = .ok (.ifCond .lt 15, 3) := by decide +kernel
theorem dX3_holds_4 : decode cX3_holds 4 = .ok (.iload_n 1, 1) := by decide +kernel
theorem dX3_holds_5 : decode cX3_holds 5 = .ok (.aload_n 0, 1) := by decide +kernel
theorem dX3_holds_6 : decode cX3_holds 6 = .ok (.getfield 9, 3) := by decide +kernel
theorem dX3_holds_9 : decode cX3_holds 9 = .ok (.if_icmp .ge 7, 3) := by decide +kernel
theorem dX3_holds_12 : decode cX3_holds 12 = .ok (.iconst 1, 1) := by decide +kernel
theorem dX3_holds_13 : decode cX3_holds 13 = .ok (.goto 4, 3) := by decide +kernel
theorem dX3_holds_16 : decode cX3_holds 16 = .ok (.iconst 0, 1) := by decide +kernel
theorem dX3_holds_17 : decode cX3_holds 17 = .ok (.ireturn, 1) := by decide +kernel
theorem dX3_write_0 : decode cX3_write 0 = .ok (.aload_n 0, 1) := by decide +kernel
theorem dX3_write_1 : decode cX3_write 1 = .ok (.getfield 9, 3) := by decide +kernel
theorem dX3_write_4 : decode cX3_write 4 = .ok (.sipush 3000, 3) := by decide +kernel
theorem dX3_write_7 : decode cX3_write 7 = .ok (.if_icmp .lt 5, 3) := by decide +kernel
theorem dX3_write_10 : decode cX3_write 10 = .ok (.iconst 0, 1) := by decide +kernel
theorem dX3_write_11 : decode cX3_write 11 = .ok (.ireturn, 1) := by decide +kernel
theorem dX3_write_12 : decode cX3_write 12 = .ok (.aload_n 0, 1) := by decide +kernel
theorem dX3_write_13 : decode cX3_write 13 = .ok (.getfield 15, 3) := by decide +kernel
theorem dX3_write_16 : decode cX3_write 16 = .ok (.aload_n 0, 1) := by decide +kernel
theorem dX3_write_17 : decode cX3_write 17 = .ok (.getfield 9, 3) := by decide +kernel
theorem dX3_write_20 : decode cX3_write 20 = .ok (.iload_n 1, 1) := by decide +kernel
theorem dX3_write_21 : decode cX3_write 21 = .ok (.iastore, 1) := by decide +kernel
theorem dX3_write_22 : decode cX3_write 22 = .ok (.aload_n 0, 1) := by decide +kernel
theorem dX3_write_23 : decode cX3_write 23 = .ok (.getfield 19, 3) := by decide +kernel
theorem dX3_write_26 : decode cX3_write 26 = .ok (.aload_n 0, 1) := by decide +kernel
theorem dX3_write_27 : decode cX3_write 27 = .ok (.getfield 9, 3) := by decide +kernel
theorem dX3_write_30 : decode cX3_write 30 = .ok (.iload_n 2, 1) := by decide +kernel
theorem dX3_write_31 : decode cX3_write 31 = .ok (.iastore, 1) := by decide +kernel
theorem dX3_write_32 : decode cX3_write 32 = .ok (.aload_n 0, 1) := by decide +kernel
theorem dX3_write_33 : decode cX3_write 33 = .ok (.dup, 1) := by decide +kernel
theorem dX3_write_34 : decode cX3_write 34 = .ok (.getfield 9, 3) := by decide +kernel
theorem dX3_write_37 : decode cX3_write 37 = .ok (.iconst 1, 1) := by decide +kernel
theorem dX3_write_38 : decode cX3_write 38 = .ok (.iadd, 1) := by decide +kernel
theorem dX3_write_39 : decode cX3_write 39 = .ok (.putfield 9, 3) := by decide +kernel
theorem dX3_write_42 : decode cX3_write 42 = .ok (.iconst 1, 1) := by decide +kernel
theorem dX3_write_43 : decode cX3_write 43 = .ok (.ireturn, 1) := by decide +kernel
theorem dX3_part_0 : decode cX3_part 0 = .ok (.aload_n 0, 1) := by decide +kernel
theorem dX3_part_1 : decode cX3_part 1 = .ok (.iload_n 1, 1) := by decide +kernel
theorem dX3_part_2 : decode cX3_part 2 = .ok (.invokevirtual 22, 3) := by decide +kernel
theorem dX3_part_5 : decode cX3_part 5 = .ok (.ifCond .eq 12, 3) := by decide +kernel
theorem dX3_part_8 : decode cX3_part 8 = .ok (.iload_n 2, 1) := by decide +kernel
theorem dX3_part_9 : decode cX3_part 9 = .ok (.ifCond .lt 8, 3) := by decide +kernel
theorem dX3_part_12 : decode cX3_part 12 = .ok (.iload_n 2, 1) := by decide +kernel
theorem dX3_part_13 : decode cX3_part 13 = .ok (.iconst 1, 1) := by decide +kernel
theorem dX3_part_14 : decode cX3_part 14 = .ok (.if_icmp .le 5, 3) := by decide +kernel
theorem dX3_part_17 : decode cX3_part 17 = .ok (.iconst (-1), 1) := by decide +kernel
theorem dX3_part_18 : decode cX3_part 18 = .ok (.ireturn, 1) := by decide +kernel
theorem dX3_part_19 : decode cX3_part 19 = .ok (.iload_n 2, 1) := by decide +kernel
theorem dX3_part_20 : decode cX3_part 20 = .ok (.ifCond .ne 12, 3) := by decide +kernel
theorem dX3_part_23 : decode cX3_part 23 = .ok (.aload_n 0, 1) := by decide +kernel
theorem dX3_part_24 : decode cX3_part 24 = .ok (.getfield 15, 3) := by decide +kernel
theorem dX3_part_27 : decode cX3_part 27 = .ok (.iload_n 1, 1) := by decide +kernel
theorem dX3_part_28 : decode cX3_part 28 = .ok (.iaload, 1) := by decide +kernel
theorem dX3_part_29 : decode cX3_part 29 = .ok (.goto 9, 3) := by decide +kernel
theorem dX3_part_32 : decode cX3_part 32 = .ok (.aload_n 0, 1) := by decide +kernel
theorem dX3_part_33 : decode cX3_part 33 = .ok (.getfield 19, 3) := by decide +kernel
theorem dX3_part_36 : decode cX3_part 36 = .ok (.iload_n 1, 1) := by decide +kernel
theorem dX3_part_37 : decode cX3_part 37 = .ok (.iaload, 1) := by decide +kernel
theorem dX3_part_38 : decode cX3_part 38 = .ok (.ireturn, 1) := by decide +kernel
theorem dX3_become_0 : decode cX3_become 0 = .ok (.aload_n 0, 1) := by decide +kernel
theorem dX3_become_1 : decode cX3_become 1 = .ok (.aload_n 1, 1) := by decide +kernel
theorem dX3_become_2 : decode cX3_become 2 = .ok (.getfield 9, 3) := by decide +kernel
theorem dX3_become_5 : decode cX3_become 5 = .ok (.putfield 9, 3) := by decide +kernel
theorem dX3_become_8 : decode cX3_become 8 = .ok (.aload_n 1, 1) := by decide +kernel
theorem dX3_become_9 : decode cX3_become 9 = .ok (.getfield 15, 3) := by decide +kernel
theorem dX3_become_12 : decode cX3_become 12 = .ok (.iconst 0, 1) := by decide +kernel
theorem dX3_become_13 : decode cX3_become 13 = .ok (.aload_n 0, 1) := by decide +kernel
theorem dX3_become_14 : decode cX3_become 14 = .ok (.getfield 15, 3) := by decide +kernel
theorem dX3_become_17 : decode cX3_become 17 = .ok (.iconst 0, 1) := by decide +kernel
theorem dX3_become_18 : decode cX3_become 18 = .ok (.aload_n 0, 1) := by decide +kernel
theorem dX3_become_19 : decode cX3_become 19 = .ok (.getfield 9, 3) := by decide +kernel
theorem dX3_become_22 : decode cX3_become 22 = .ok (.invokestatic 26, 3) := by decide +kernel
theorem dX3_become_25 : decode cX3_become 25 = .ok (.aload_n 1, 1) := by decide +kernel
theorem dX3_become_26 : decode cX3_become 26 = .ok (.getfield 19, 3) := by decide +kernel
theorem dX3_become_29 : decode cX3_become 29 = .ok (.iconst 0, 1) := by decide +kernel
theorem dX3_become_30 : decode cX3_become 30 = .ok (.aload_n 0, 1) := by decide +kernel
theorem dX3_become_31 : decode cX3_become 31 = .ok (.getfield 19, 3) := by decide +kernel
theorem dX3_become_34 : decode cX3_become 34 = .ok (.iconst 0, 1) := by decide +kernel
theorem dX3_become_35 : decode cX3_become 35 = .ok (.aload_n 0, 1) := by decide +kernel
theorem dX3_become_36 : decode cX3_become 36 = .ok (.getfield 9, 3) := by decide +kernel
theorem dX3_become_39 : decode cX3_become 39 = .ok (.invokestatic 26, 3) := by decide +kernel
theorem dX3_become_42 : decode cX3_become 42 = .ok (.return_, 1) := by decide +kernel
theorem dX4_init_0 : decode cX4_init 0 = .ok (.aload_n 0, 1) := by decide +kernel
theorem dX4_init_1 : decode cX4_init 1 = .ok (.invokespecial 3, 3) := by decide +kernel
theorem dX4_init_4 : decode cX4_init 4 = .ok (.aload_n 0, 1) := by decide +kernel
theorem dX4_init_5 : decode cX4_init 5 = .ok (.iconst 0, 1) := by decide +kernel
theorem dX4_init_6 : decode cX4_init 6 = .ok (.putfield 9, 3) := by decide +kernel
theorem dX4_init_9 : decode cX4_init 9 = .ok (.aload_n 0, 1) := by decide +kernel
theorem dX4_init_10 : decode cX4_init 10 = .ok (.new 15, 3) := by decide +kernel
theorem dX4_init_13 : decode cX4_init 13 = .ok (.dup, 1) := by decide +kernel
theorem dX4_init_14 : decode cX4_init 14 = .ok (.invokespecial 17, 3) := by decide +kernel
theorem dX4_init_17 : decode cX4_init 17 = .ok (.putfield 18, 3) := by decide +kernel
theorem dX4_init_20 : decode cX4_init 20 = .ok (.aload_n 0, 1) := by decide +kernel
theorem dX4_init_21 : decode cX4_init 21 = .ok (.iconst 0, 1) := by decide +kernel
theorem dX4_init_22 : decode cX4_init 22 = .ok (.putfield 22, 3) := by decide +kernel
theorem dX4_init_25 : decode cX4_init 25 = .ok (.aload_n 0, 1) := by decide +kernel
theorem dX4_init_26 : decode cX4_init 26 = .ok (.iconst 0, 1) := by decide +kernel
theorem dX4_init_27 : decode cX4_init 27 = .ok (.putfield 25, 3) := by decide +kernel
theorem dX4_init_30 : decode cX4_init 30 = .ok (.aload_n 0, 1) := by decide +kernel
theorem dX4_init_31 : decode cX4_init 31 = .ok (.aload_n 1, 1) := by decide +kernel
theorem dX4_init_32 : decode cX4_init 32 = .ok (.putfield 28, 3) := by decide +kernel
theorem dX4_init_35 : decode cX4_init 35 = .ok (.aload_n 0, 1) := by decide +kernel
theorem dX4_init_36 : decode cX4_init 36 = .ok (.aload_n 2, 1) := by decide +kernel
theorem dX4_init_37 : decode cX4_init 37 = .ok (.putfield 32, 3) := by decide +kernel
theorem dX4_init_40 : decode cX4_init 40 = .ok (.return_, 1) := by decide +kernel
theorem dX4_run_0 : decode cX4_run 0 = .ok (.aload_n 0, 1) := by decide +kernel
theorem dX4_run_1 : decode cX4_run 1 = .ok (.iload_n 1, 1) := by decide +kernel
theorem dX4_run_2 : decode cX4_run 2 = .ok (.putfield 9, 3) := by decide +kernel
theorem dX4_run_5 : decode cX4_run 5 = .ok (.aload_n 0, 1) := by decide +kernel
theorem dX4_run_6 : decode cX4_run 6 = .ok (.getfield 18, 3) := by decide +kernel
theorem dX4_run_9 : decode cX4_run 9 = .ok (.iconst 0, 1) := by decide +kernel
theorem dX4_run_10 : decode cX4_run 10 = .ok (.putfield 36, 3) := by decide +kernel
theorem dX4_run_13 : decode cX4_run 13 = .ok (.aload_n 0, 1) := by decide +kernel
theorem dX4_run_14 : decode cX4_run 14 = .ok (.iconst 0, 1) := by decide +kernel
theorem dX4_run_15 : decode cX4_run 15 = .ok (.putfield 22, 3) := by decide +kernel
theorem dX4_run_18 : decode cX4_run 18 = .ok (.aload_n 0, 1) := by decide +kernel
theorem dX4_run_19 : decode cX4_run 19 = .ok (.iconst 0, 1) := by decide +kernel
theorem dX4_run_20 : decode cX4_run 20 = .ok (.putfield 25, 3) := by decide +kernel
theorem dX4_run_23 : decode cX4_run 23 = .ok (.aload_n 0, 1) := by decide +kernel
theorem dX4_run_24 : decode cX4_run 24 = .ok (.getfield 32, 3) := by decide +kernel
theorem dX4_run_27 : decode cX4_run 27 = .ok (.invokevirtual 39, 3) := by decide +kernel
theorem dX4_run_30 : decode cX4_run 30 = .ok (.aload_n 0, 1) := by decide +kernel
theorem dX4_run_31 : decode cX4_run 31 = .ok (.iconst 0, 1) := by decide +kernel
theorem dX4_run_32 : decode cX4_run 32 = .ok (.invokevirtual 44, 3) := by decide +kernel
theorem dX4_run_35 : decode cX4_run 35 = .ok (.ireturn, 1) := by decide +kernel
theorem dX4_visit_0 : decode cX4_visit 0 = .ok (.aload_n 0, 1) := by decide +kernel
theorem dX4_visit_1 : decode cX4_visit 1 = .ok (.getfield 32, 3) := by decide +kernel
theorem dX4_visit_4 : decode cX4_visit 4 = .ok (.getfield 48, 3) := by decide +kernel
theorem dX4_visit_7 : decode cX4_visit 7 = .ok (.ifCond .ne 5, 3) := by decide +kernel
theorem dX4_visit_10 : decode cX4_visit 10 = .ok (.iconst 1, 1) := by decide +kernel
theorem dX4_visit_11 : decode cX4_visit 11 = .ok (.ireturn, 1) := by decide +kernel
theorem dX4_visit_12 : decode cX4_visit 12 = .ok (.iload_n 1, 1) := by decide +kernel
theorem dX4_visit_13 : decode cX4_visit 13 = .ok (.bipush 30, 2) := by decide +kernel
theorem dX4_visit_15 : decode cX4_visit 15 = .ok (.if_icmp .lt 5, 3) := by decide +kernel
theorem dX4_visit_18 : decode cX4_visit 18 = .ok (.iconst 2, 1) := by decide +kernel
theorem dX4_visit_19 : decode cX4_visit 19 = .ok (.ireturn, 1) := by decide +kernel
theorem dX4_visit_20 : decode cX4_visit 20 = .ok (.aload_n 0, 1) := by decide +kernel
theorem dX4_visit_21 : decode cX4_visit 21 = .ok (.invokevirtual 51, 3) := by decide +kernel
theorem dX4_visit_24 : decode cX4_visit 24 = .ok (.istore_n 2, 1) := by decide +kernel
theorem dX4_visit_25 : decode cX4_visit 25 = .ok (.iload_n 2, 1) := by decide +kernel
theorem dX4_visit_26 : decode cX4_visit 26 = .ok (.ifCond .ne 9, 3) := by decide +kernel
theorem dX4_visit_29 : decode cX4_visit 29 = .ok (.aload_n 0, 1) := by decide +kernel
theorem dX4_visit_30 : decode cX4_visit 30 = .ok (.iload_n 1, 1) := by decide +kernel
theorem dX4_visit_31 : decode cX4_visit 31 = .ok (.invokevirtual 55, 3) := by decide +kernel
theorem dX4_visit_34 : decode cX4_visit 34 = .ok (.ireturn, 1) := by decide +kernel
theorem dX4_visit_35 : decode cX4_visit 35 = .ok (.aload_n 0, 1) := by decide +kernel
theorem dX4_visit_36 : decode cX4_visit 36 = .ok (.dup, 1) := by decide +kernel
theorem dX4_visit_37 : decode cX4_visit 37 = .ok (.getfield 25, 3) := by decide +kernel
theorem dX4_visit_40 : decode cX4_visit 40 = .ok (.iconst 1, 1) := by decide +kernel
theorem dX4_visit_41 : decode cX4_visit 41 = .ok (.iadd, 1) := by decide +kernel
theorem dX4_visit_42 : decode cX4_visit 42 = .ok (.putfield 25, 3) := by decide +kernel
theorem dX4_visit_45 : decode cX4_visit 45 = .ok (.aload_n 0, 1) := by decide +kernel
theorem dX4_visit_46 : decode cX4_visit 46 = .ok (.iconst 4, 1) := by decide +kernel
theorem dX4_visit_47 : decode cX4_visit 47 = .ok (.iload_n 2, 1) := by decide +kernel
theorem dX4_visit_48 : decode cX4_visit 48 = .ok (.invokevirtual 58, 3) := by decide +kernel
theorem dX4_visit_51 : decode cX4_visit 51 = .ok (.ireturn, 1) := by decide +kernel
theorem dX4_tightClique_0 : decode cX4_tightClique 0 = .ok (.iconst 0, 1) := by decide +kernel
theorem dX4_tightClique_1 : decode cX4_tightClique 1 = .ok (.istore_n 1, 1) := by decide +kernel
theorem dX4_tightClique_2 : decode cX4_tightClique 2 = .ok (.iconst 0, 1) := by decide +kernel
theorem dX4_tightClique_3 : decode cX4_tightClique 3 = .ok (.istore_n 2, 1) := by decide +kernel
theorem dX4_tightClique_4 : decode cX4_tightClique 4 = .ok (.aload_n 0, 1) := by decide +kernel
theorem dX4_tightClique_5 : decode cX4_tightClique 5 = .ok (.getfield 32, 3) := by decide +kernel
theorem dX4_tightClique_8 : decode cX4_tightClique 8 = .ok (.getfield 48, 3) := by decide +kernel
theorem dX4_tightClique_11 : decode cX4_tightClique 11 = .ok (.istore_n 3, 1) := by decide +kernel
theorem dX4_tightClique_12 : decode cX4_tightClique 12 = .ok (.iconst 1, 1) := by decide +kernel
theorem dX4_tightClique_13 : decode cX4_tightClique 13 = .ok (.istore 4, 2) := by decide +kernel
theorem dX4_tightClique_15 : decode cX4_tightClique 15 = .ok (.iload 4, 2) := by decide +kernel
theorem dX4_tightClique_17 : decode cX4_tightClique 17 = .ok (.aload_n 0, 1) := by decide +kernel
theorem dX4_tightClique_18 : decode cX4_tightClique 18 = .ok (.getfield 28, 3) := by decide +kernel
theorem dX4_tightClique_21 : decode cX4_tightClique 21 = .ok (.getfield 62, 3) := by decide +kernel
theorem dX4_tightClique_24 : decode cX4_tightClique 24 = .ok (.if_icmp .gt 74, 3) := by decide +kernel
theorem dX4_tightClique_27 : decode cX4_tightClique 27 = .ok (.aload_n 0, 1) := by decide +kernel
theorem dX4_tightClique_28 : decode cX4_tightClique 28 = .ok (.getfield 32, 3) := by decide +kernel
theorem dX4_tightClique_31 : decode cX4_tightClique 31 = .ok (.iload_n 3, 1) := by decide +kernel
theorem dX4_tightClique_32 : decode cX4_tightClique 32 = .ok (.invokevirtual 65, 3) := by decide +kernel
theorem dX4_tightClique_35 : decode cX4_tightClique 35 = .ok (.istore 5, 2) := by decide +kernel
theorem dX4_tightClique_37 : decode cX4_tightClique 37 = .ok (.iload 5, 2) := by decide +kernel
theorem dX4_tightClique_39 : decode cX4_tightClique 39 = .ok (.iconst (-1), 1) := by decide +kernel
theorem dX4_tightClique_40 : decode cX4_tightClique 40 = .ok (.if_icmp .ne 5, 3) := by decide +kernel
theorem dX4_tightClique_43 : decode cX4_tightClique 43 = .ok (.iconst 0, 1) := by decide +kernel
theorem dX4_tightClique_44 : decode cX4_tightClique 44 = .ok (.ireturn, 1) := by decide +kernel
theorem dX4_tightClique_45 : decode cX4_tightClique 45 = .ok (.iload_n 1, 1) := by decide +kernel
theorem dX4_tightClique_46 : decode cX4_tightClique 46 = .ok (.iconst 1, 1) := by decide +kernel
theorem dX4_tightClique_47 : decode cX4_tightClique 47 = .ok (.iload 5, 2) := by decide +kernel
theorem dX4_tightClique_49 : decode cX4_tightClique 49 = .ok (.ishl, 1) := by decide +kernel
theorem dX4_tightClique_50 : decode cX4_tightClique 50 = .ok (.ior, 1) := by decide +kernel
theorem dX4_tightClique_51 : decode cX4_tightClique 51 = .ok (.istore_n 1, 1) := by decide +kernel
theorem dX4_tightClique_52 : decode cX4_tightClique 52 = .ok (.iload_n 2, 1) := by decide +kernel
theorem dX4_tightClique_53 : decode cX4_tightClique 53 = .ok (.aload_n 0, 1) := by decide +kernel
theorem dX4_tightClique_54 : decode cX4_tightClique 54 = .ok (.getfield 32, 3) := by decide +kernel
theorem dX4_tightClique_57 : decode cX4_tightClique 57 = .ok (.iload 5, 2) := by decide +kernel
theorem dX4_tightClique_59 : decode cX4_tightClique 59 = .ok (.aload_n 0, 1) := by decide +kernel
theorem dX4_tightClique_60 : decode cX4_tightClique 60 = .ok (.getfield 9, 3) := by decide +kernel
theorem dX4_tightClique_63 : decode cX4_tightClique 63 = .ok (.invokevirtual 68, 3) := by decide +kernel
theorem dX4_tightClique_66 : decode cX4_tightClique 66 = .ok (.ior, 1) := by decide +kernel
theorem dX4_tightClique_67 : decode cX4_tightClique 67 = .ok (.istore_n 2, 1) := by decide +kernel
theorem dX4_tightClique_68 : decode cX4_tightClique 68 = .ok (.iload_n 2, 1) := by decide +kernel
theorem dX4_tightClique_69 : decode cX4_tightClique 69 = .ok (.invokestatic 71, 3) := by decide +kernel
theorem dX4_tightClique_72 : decode cX4_tightClique 72 = .ok (.iload 4, 2) := by decide +kernel
theorem dX4_tightClique_74 : decode cX4_tightClique 74 = .ok (.if_icmp .ge 5, 3) := by decide +kernel
theorem dX4_tightClique_77 : decode cX4_tightClique 77 = .ok (.iload_n 1, 1) := by decide +kernel
theorem dX4_tightClique_78 : decode cX4_tightClique 78 = .ok (.ireturn, 1) := by decide +kernel
theorem dX4_tightClique_79 : decode cX4_tightClique 79 = .ok (.iload_n 3, 1) := by decide +kernel
theorem dX4_tightClique_80 : decode cX4_tightClique 80 = .ok (.aload_n 0, 1) := by decide +kernel
theorem dX4_tightClique_81 : decode cX4_tightClique 81 = .ok (.getfield 28, 3) := by decide +kernel
theorem dX4_tightClique_84 : decode cX4_tightClique 84 = .ok (.getfield 76, 3) := by decide +kernel
theorem dX4_tightClique_87 : decode cX4_tightClique 87 = .ok (.iload 5, 2) := by decide +kernel
theorem dX4_tightClique_89 : decode cX4_tightClique 89 = .ok (.iaload, 1) := by decide +kernel
theorem dX4_tightClique_90 : decode cX4_tightClique 90 = .ok (.iand, 1) := by decide +kernel
theorem dX4_tightClique_91 : decode cX4_tightClique 91 = .ok (.istore_n 3, 1) := by decide +kernel
theorem dX4_tightClique_92 : decode cX4_tightClique 92 = .ok (.iinc 4 1, 3) := by decide +kernel
theorem dX4_tightClique_95 : decode cX4_tightClique 95 = .ok (.goto (-80), 3) := by decide +kernel
theorem dX4_tightClique_98 : decode cX4_tightClique 98 = .ok (.iconst 0, 1) := by decide +kernel
theorem dX4_tightClique_99 : decode cX4_tightClique 99 = .ok (.ireturn, 1) := by decide +kernel
theorem dX4_branch_0 : decode cX4_branch 0 = .ok (.aload_n 0, 1) := by decide +kernel
theorem dX4_branch_1 : decode cX4_branch 1 = .ok (.getfield 32, 3) := by decide +kernel
theorem dX4_branch_4 : decode cX4_branch 4 = .ok (.invokevirtual 80, 3) := by decide +kernel
theorem dX4_branch_7 : decode cX4_branch 7 = .ok (.istore_n 2, 1) := by decide +kernel
theorem dX4_branch_8 : decode cX4_branch 8 = .ok (.iload_n 2, 1) := by decide +kernel
theorem dX4_branch_9 : decode cX4_branch 9 = .ok (.iconst (-1), 1) := by decide +kernel
theorem dX4_branch_10 : decode cX4_branch 10 = .ok (.if_icmp .eq 13, 3) := by decide +kernel
theorem dX4_branch_13 : decode cX4_branch 13 = .ok (.aload_n 0, 1) := by decide +kernel
theorem dX4_branch_14 : decode cX4_branch 14 = .ok (.iconst 1, 1) := by decide +kernel
theorem dX4_branch_15 : decode cX4_branch 15 = .ok (.iload_n 2, 1) := by decide +kernel
theorem dX4_branch_16 : decode cX4_branch 16 = .ok (.invokevirtual 58, 3) := by decide +kernel
theorem dX4_branch_19 : decode cX4_branch 19 = .ok (.iconst 2, 1) := by decide +kernel
theorem dX4_branch_20 : decode cX4_branch 20 = .ok (.if_icmp .ne 5, 3) := by decide +kernel
theorem dX4_branch_23 : decode cX4_branch 23 = .ok (.iconst 2, 1) := by decide +kernel
theorem dX4_branch_24 : decode cX4_branch 24 = .ok (.ireturn, 1) := by decide +kernel
theorem dX4_branch_25 : decode cX4_branch 25 = .ok (.aload_n 0, 1) := by decide +kernel
theorem dX4_branch_26 : decode cX4_branch 26 = .ok (.dup, 1) := by decide +kernel
theorem dX4_branch_27 : decode cX4_branch 27 = .ok (.getfield 22, 3) := by decide +kernel
theorem dX4_branch_30 : decode cX4_branch 30 = .ok (.iconst 1, 1) := by decide +kernel
theorem dX4_branch_31 : decode cX4_branch 31 = .ok (.iadd, 1) := by decide +kernel
theorem dX4_branch_32 : decode cX4_branch 32 = .ok (.putfield 22, 3) := by decide +kernel
theorem dX4_branch_35 : decode cX4_branch 35 = .ok (.aload_n 0, 1) := by decide +kernel
theorem dX4_branch_36 : decode cX4_branch 36 = .ok (.getfield 32, 3) := by decide +kernel
theorem dX4_branch_39 : decode cX4_branch 39 = .ok (.getfield 83, 3) := by decide +kernel
theorem dX4_branch_42 : decode cX4_branch 42 = .ok (.istore_n 3, 1) := by decide +kernel
theorem dX4_branch_43 : decode cX4_branch 43 = .ok (.iconst 0, 1) := by decide +kernel
theorem dX4_branch_44 : decode cX4_branch 44 = .ok (.istore 4, 2) := by decide +kernel
theorem dX4_branch_46 : decode cX4_branch 46 = .ok (.iload 4, 2) := by decide +kernel
theorem dX4_branch_48 : decode cX4_branch 48 = .ok (.aload_n 0, 1) := by decide +kernel
theorem dX4_branch_49 : decode cX4_branch 49 = .ok (.getfield 9, 3) := by decide +kernel
theorem dX4_branch_52 : decode cX4_branch 52 = .ok (.if_icmp .ge 64, 3) := by decide +kernel
theorem dX4_branch_55 : decode cX4_branch 55 = .ok (.iload 4, 2) := by decide +kernel
theorem dX4_branch_57 : decode cX4_branch 57 = .ok (.iload_n 3, 1) := by decide +kernel
theorem dX4_branch_58 : decode cX4_branch 58 = .ok (.if_icmp .gt 58, 3) := by decide +kernel
theorem dX4_branch_61 : decode cX4_branch 61 = .ok (.aload_n 0, 1) := by decide +kernel
theorem dX4_branch_62 : decode cX4_branch 62 = .ok (.getfield 32, 3) := by decide +kernel
theorem dX4_branch_65 : decode cX4_branch 65 = .ok (.iload_n 2, 1) := by decide +kernel
theorem dX4_branch_66 : decode cX4_branch 66 = .ok (.iload 4, 2) := by decide +kernel
theorem dX4_branch_68 : decode cX4_branch 68 = .ok (.invokevirtual 86, 3) := by decide +kernel
theorem dX4_branch_71 : decode cX4_branch 71 = .ok (.ifCond .eq 21, 3) := by decide +kernel
theorem dX4_branch_74 : decode cX4_branch 74 = .ok (.aload_n 0, 1) := by decide +kernel
theorem dX4_branch_75 : decode cX4_branch 75 = .ok (.iconst 2, 1) := by decide +kernel
theorem dX4_branch_76 : decode cX4_branch 76 = .ok (.aload_n 0, 1) := by decide +kernel
theorem dX4_branch_77 : decode cX4_branch 77 = .ok (.getfield 32, 3) := by decide +kernel
theorem dX4_branch_80 : decode cX4_branch 80 = .ok (.iload_n 2, 1) := by decide +kernel
theorem dX4_branch_81 : decode cX4_branch 81 = .ok (.iload 4, 2) := by decide +kernel
theorem dX4_branch_83 : decode cX4_branch 83 = .ok (.invokevirtual 90, 3) := by decide +kernel
theorem dX4_branch_86 : decode cX4_branch 86 = .ok (.invokevirtual 58, 3) := by decide +kernel
theorem dX4_branch_89 : decode cX4_branch 89 = .ok (.goto 11, 3) := by decide +kernel
theorem dX4_branch_92 : decode cX4_branch 92 = .ok (.aload_n 0, 1) := by decide +kernel
theorem dX4_branch_93 : decode cX4_branch 93 = .ok (.iload_n 2, 1) := by decide +kernel
theorem dX4_branch_94 : decode cX4_branch 94 = .ok (.iload 4, 2) := by decide +kernel
theorem dX4_branch_96 : decode cX4_branch 96 = .ok (.iload_n 1, 1) := by decide +kernel
theorem dX4_branch_97 : decode cX4_branch 97 = .ok (.invokevirtual 93, 3) := by decide +kernel
theorem dX4_branch_100 : decode cX4_branch 100 = .ok (.istore 5, 2) := by decide +kernel
theorem dX4_branch_102 : decode cX4_branch 102 = .ok (.iload 5, 2) := by decide +kernel
theorem dX4_branch_104 : decode cX4_branch 104 = .ok (.ifCond .eq 6, 3) := by decide +kernel
theorem dX4_branch_107 : decode cX4_branch 107 = .ok (.iload 5, 2) := by decide +kernel
theorem dX4_branch_109 : decode cX4_branch 109 = .ok (.ireturn, 1) := by decide +kernel
theorem dX4_branch_110 : decode cX4_branch 110 = .ok (.iinc 4 1, 3) := by decide +kernel
theorem dX4_branch_113 : decode cX4_branch 113 = .ok (.goto (-67), 3) := by decide +kernel
theorem dX4_branch_116 : decode cX4_branch 116 = .ok (.iconst 0, 1) := by decide +kernel
theorem dX4_branch_117 : decode cX4_branch 117 = .ok (.ireturn, 1) := by decide +kernel
theorem dX4_attempt_0 : decode cX4_attempt 0 = .ok (.aload_n 0, 1) := by decide +kernel
theorem dX4_attempt_1 : decode cX4_attempt 1 = .ok (.iconst 3, 1) := by decide +kernel
theorem dX4_attempt_2 : decode cX4_attempt 2 = .ok (.iload_n 2, 1) := by decide +kernel
theorem dX4_attempt_3 : decode cX4_attempt 3 = .ok (.invokevirtual 58, 3) := by decide +kernel
theorem dX4_attempt_6 : decode cX4_attempt 6 = .ok (.iconst 2, 1) := by decide +kernel
theorem dX4_attempt_7 : decode cX4_attempt 7 = .ok (.if_icmp .ne 5, 3) := by decide +kernel
theorem dX4_attempt_10 : decode cX4_attempt 10 = .ok (.iconst 2, 1) := by decide +kernel
theorem dX4_attempt_11 : decode cX4_attempt 11 = .ok (.ireturn, 1) := by decide +kernel
theorem dX4_attempt_12 : decode cX4_attempt 12 = .ok (.aload_n 0, 1) := by decide +kernel
theorem dX4_attempt_13 : decode cX4_attempt 13 = .ok (.getfield 32, 3) := by decide +kernel
theorem dX4_attempt_16 : decode cX4_attempt 16 = .ok (.iload_n 1, 1) := by decide +kernel
theorem dX4_attempt_17 : decode cX4_attempt 17 = .ok (.iload_n 2, 1) := by decide +kernel
theorem dX4_attempt_18 : decode cX4_attempt 18 = .ok (.invokevirtual 97, 3) := by decide +kernel
theorem dX4_attempt_21 : decode cX4_attempt 21 = .ok (.aload_n 0, 1) := by decide +kernel
theorem dX4_attempt_22 : decode cX4_attempt 22 = .ok (.iload_n 3, 1) := by decide +kernel
theorem dX4_attempt_23 : decode cX4_attempt 23 = .ok (.iconst 1, 1) := by decide +kernel
theorem dX4_attempt_24 : decode cX4_attempt 24 = .ok (.iadd, 1) := by decide +kernel
theorem dX4_attempt_25 : decode cX4_attempt 25 = .ok (.invokevirtual 44, 3) := by decide +kernel
theorem dX4_attempt_28 : decode cX4_attempt 28 = .ok (.istore 4, 2) := by decide +kernel
theorem dX4_attempt_30 : decode cX4_attempt 30 = .ok (.iload 4, 2) := by decide +kernel
theorem dX4_attempt_32 : decode cX4_attempt 32 = .ok (.ifCond .ne 12, 3) := by decide +kernel
theorem dX4_attempt_35 : decode cX4_attempt 35 = .ok (.aload_n 0, 1) := by decide +kernel
theorem dX4_attempt_36 : decode cX4_attempt 36 = .ok (.getfield 32, 3) := by decide +kernel
theorem dX4_attempt_39 : decode cX4_attempt 39 = .ok (.iload_n 1, 1) := by decide +kernel
theorem dX4_attempt_40 : decode cX4_attempt 40 = .ok (.iload_n 2, 1) := by decide +kernel
theorem dX4_attempt_41 : decode cX4_attempt 41 = .ok (.invokevirtual 101, 3) := by decide +kernel
theorem dX4_attempt_44 : decode cX4_attempt 44 = .ok (.iload 4, 2) := by decide +kernel
theorem dX4_attempt_46 : decode cX4_attempt 46 = .ok (.ireturn, 1) := by decide +kernel
theorem dX4_write_0 : decode cX4_write 0 = .ok (.aload_n 0, 1) := by decide +kernel
theorem dX4_write_1 : decode cX4_write 1 = .ok (.getfield 18, 3) := by decide +kernel
theorem dX4_write_4 : decode cX4_write 4 = .ok (.iload_n 1, 1) := by decide +kernel
theorem dX4_write_5 : decode cX4_write 5 = .ok (.iload_n 2, 1) := by decide +kernel
theorem dX4_write_6 : decode cX4_write 6 = .ok (.invokevirtual 104, 3) := by decide +kernel
theorem dX4_write_9 : decode cX4_write 9 = .ok (.ifCond .eq 7, 3) := by decide +kernel
theorem dX4_write_12 : decode cX4_write 12 = .ok (.iconst 0, 1) := by decide +kernel
theorem dX4_write_13 : decode cX4_write 13 = .ok (.goto 4, 3) := by decide +kernel
theorem dX4_write_16 : decode cX4_write 16 = .ok (.iconst 2, 1) := by decide +kernel
theorem dX4_write_17 : decode cX4_write 17 = .ok (.ireturn, 1) := by decide +kernel
theorem dX5_init_0 : decode cX5_init 0 = .ok (.aload_n 0, 1) := by decide +kernel
theorem dX5_init_1 : decode cX5_init 1 = .ok (.invokespecial 3, 3) := by decide +kernel
theorem dX5_init_4 : decode cX5_init 4 = .ok (.aload_n 0, 1) := by decide +kernel
theorem dX5_init_5 : decode cX5_init 5 = .ok (.iconst 0, 1) := by decide +kernel
theorem dX5_init_6 : decode cX5_init 6 = .ok (.putfield 9, 3) := by decide +kernel
theorem dX5_init_9 : decode cX5_init 9 = .ok (.aload_n 0, 1) := by decide +kernel
theorem dX5_init_10 : decode cX5_init 10 = .ok (.bipush 30, 2) := by decide +kernel
theorem dX5_init_12 : decode cX5_init 12 = .ok (.newarray .int, 2) := by decide +kernel
theorem dX5_init_14 : decode cX5_init 14 = .ok (.putfield 15, 3) := by decide +kernel
theorem dX5_init_17 : decode cX5_init 17 = .ok (.aload_n 0, 1) := by decide +kernel
theorem dX5_init_18 : decode cX5_init 18 = .ok (.iconst 0, 1) := by decide +kernel
theorem dX5_init_19 : decode cX5_init 19 = .ok (.putfield 19, 3) := by decide +kernel
theorem dX5_init_22 : decode cX5_init 22 = .ok (.aload_n 0, 1) := by decide +kernel
theorem dX5_init_23 : decode cX5_init 23 = .ok (.new 23, 3) := by decide +kernel
theorem dX5_init_26 : decode cX5_init 26 = .ok (.dup, 1) := by decide +kernel
theorem dX5_init_27 : decode cX5_init 27 = .ok (.invokespecial 25, 3) := by decide +kernel
theorem dX5_init_30 : decode cX5_init 30 = .ok (.putfield 26, 3) := by decide +kernel
theorem dX5_init_33 : decode cX5_init 33 = .ok (.aload_n 0, 1) := by decide +kernel
theorem dX5_init_34 : decode cX5_init 34 = .ok (.iconst 5, 1) := by decide +kernel
theorem dX5_init_35 : decode cX5_init 35 = .ok (.newarray .int, 2) := by decide +kernel
theorem dX5_init_37 : decode cX5_init 37 = .ok (.putfield 30, 3) := by decide +kernel
theorem dX5_init_40 : decode cX5_init 40 = .ok (.aload_n 0, 1) := by decide +kernel
theorem dX5_init_41 : decode cX5_init 41 = .ok (.aload_n 1, 1) := by decide +kernel
theorem dX5_init_42 : decode cX5_init 42 = .ok (.putfield 33, 3) := by decide +kernel
theorem dX5_init_45 : decode cX5_init 45 = .ok (.aload_n 0, 1) := by decide +kernel
theorem dX5_init_46 : decode cX5_init 46 = .ok (.aload_n 2, 1) := by decide +kernel
theorem dX5_init_47 : decode cX5_init 47 = .ok (.putfield 37, 3) := by decide +kernel
theorem dX5_init_50 : decode cX5_init 50 = .ok (.aload_n 0, 1) := by decide +kernel
theorem dX5_init_51 : decode cX5_init 51 = .ok (.aload_n 3, 1) := by decide +kernel
theorem dX5_init_52 : decode cX5_init 52 = .ok (.putfield 41, 3) := by decide +kernel
theorem dX5_init_55 : decode cX5_init 55 = .ok (.return_, 1) := by decide +kernel
theorem dX5_forget_0 : decode cX5_forget 0 = .ok (.aload_n 0, 1) := by decide +kernel
theorem dX5_forget_1 : decode cX5_forget 1 = .ok (.iconst 0, 1) := by decide +kernel
theorem dX5_forget_2 : decode cX5_forget 2 = .ok (.putfield 9, 3) := by decide +kernel
theorem dX5_forget_5 : decode cX5_forget 5 = .ok (.return_, 1) := by decide +kernel
theorem dX5_find_0 : decode cX5_find 0 = .ok (.aload_n 0, 1) := by decide +kernel
theorem dX5_find_1 : decode cX5_find 1 = .ok (.invokevirtual 45, 3) := by decide +kernel
theorem dX5_find_4 : decode cX5_find 4 = .ok (.aload_n 0, 1) := by decide +kernel
theorem dX5_find_5 : decode cX5_find 5 = .ok (.getfield 30, 3) := by decide +kernel
theorem dX5_find_8 : decode cX5_find 8 = .ok (.iconst 0, 1) := by decide +kernel
theorem dX5_find_9 : decode cX5_find 9 = .ok (.invokestatic 48, 3) := by decide +kernel
theorem dX5_find_12 : decode cX5_find 12 = .ok (.aload_n 0, 1) := by decide +kernel
theorem dX5_find_13 : decode cX5_find 13 = .ok (.getfield 37, 3) := by decide +kernel
theorem dX5_find_16 : decode cX5_find 16 = .ok (.invokevirtual 54, 3) := by decide +kernel
theorem dX5_find_19 : decode cX5_find 19 = .ok (.aload_n 0, 1) := by decide +kernel
theorem dX5_find_20 : decode cX5_find 20 = .ok (.invokevirtual 59, 3) := by decide +kernel
theorem dX5_find_23 : decode cX5_find 23 = .ok (.aload_n 0, 1) := by decide +kernel
theorem dX5_find_24 : decode cX5_find 24 = .ok (.getfield 33, 3) := by decide +kernel
theorem dX5_find_27 : decode cX5_find 27 = .ok (.invokevirtual 62, 3) := by decide +kernel
theorem dX5_find_30 : decode cX5_find 30 = .ok (.istore_n 1, 1) := by decide +kernel
theorem dX5_find_31 : decode cX5_find 31 = .ok (.iconst 1, 1) := by decide +kernel
theorem dX5_find_32 : decode cX5_find 32 = .ok (.istore_n 2, 1) := by decide +kernel
theorem dX5_find_33 : decode cX5_find 33 = .ok (.iconst 0, 1) := by decide +kernel
theorem dX5_find_34 : decode cX5_find 34 = .ok (.istore_n 3, 1) := by decide +kernel
theorem dX5_find_35 : decode cX5_find 35 = .ok (.iload_n 3, 1) := by decide +kernel
theorem dX5_find_36 : decode cX5_find 36 = .ok (.bipush 30, 2) := by decide +kernel
theorem dX5_find_38 : decode cX5_find 38 = .ok (.if_icmp .ge 51, 3) := by decide +kernel
theorem dX5_find_41 : decode cX5_find 41 = .ok (.aload_n 0, 1) := by decide +kernel
theorem dX5_find_42 : decode cX5_find 42 = .ok (.getfield 19, 3) := by decide +kernel
theorem dX5_find_45 : decode cX5_find 45 = .ok (.iload_n 1, 1) := by decide +kernel
theorem dX5_find_46 : decode cX5_find 46 = .ok (.invokestatic 70, 3) := by decide +kernel
theorem dX5_find_49 : decode cX5_find 49 = .ok (.if_icmp .le 40, 3) := by decide +kernel
theorem dX5_find_52 : decode cX5_find 52 = .ok (.aload_n 0, 1) := by decide +kernel
theorem dX5_find_53 : decode cX5_find 53 = .ok (.getfield 41, 3) := by decide +kernel
theorem dX5_find_56 : decode cX5_find 56 = .ok (.aload_n 0, 1) := by decide +kernel
theorem dX5_find_57 : decode cX5_find 57 = .ok (.getfield 19, 3) := by decide +kernel
theorem dX5_find_60 : decode cX5_find 60 = .ok (.iconst 1, 1) := by decide +kernel
theorem dX5_find_61 : decode cX5_find 61 = .ok (.isub, 1) := by decide +kernel
theorem dX5_find_62 : decode cX5_find 62 = .ok (.invokevirtual 76, 3) := by decide +kernel
theorem dX5_find_65 : decode cX5_find 65 = .ok (.istore_n 2, 1) := by decide +kernel
theorem dX5_find_66 : decode cX5_find 66 = .ok (.aload_n 0, 1) := by decide +kernel
theorem dX5_find_67 : decode cX5_find 67 = .ok (.iload_n 2, 1) := by decide +kernel
theorem dX5_find_68 : decode cX5_find 68 = .ok (.invokevirtual 79, 3) := by decide +kernel
theorem dX5_find_71 : decode cX5_find 71 = .ok (.iload_n 2, 1) := by decide +kernel
theorem dX5_find_72 : decode cX5_find 72 = .ok (.iconst 1, 1) := by decide +kernel
theorem dX5_find_73 : decode cX5_find 73 = .ok (.if_icmp .eq 6, 3) := by decide +kernel
theorem dX5_find_76 : decode cX5_find 76 = .ok (.goto 13, 3) := by decide +kernel
theorem dX5_find_79 : decode cX5_find 79 = .ok (.aload_n 0, 1) := by decide +kernel
theorem dX5_find_80 : decode cX5_find 80 = .ok (.invokevirtual 59, 3) := by decide +kernel
theorem dX5_find_83 : decode cX5_find 83 = .ok (.iinc 3 1, 3) := by decide +kernel
theorem dX5_find_86 : decode cX5_find 86 = .ok (.goto (-51), 3) := by decide +kernel
theorem dX5_find_89 : decode cX5_find 89 = .ok (.iload_n 2, 1) := by decide +kernel
theorem dX5_find_90 : decode cX5_find 90 = .ok (.iconst 2, 1) := by decide +kernel
theorem dX5_find_91 : decode cX5_find 91 = .ok (.if_icmp .ne 6, 3) := by decide +kernel
theorem dX5_find_94 : decode cX5_find 94 = .ok (.bipush (-3), 2) := by decide +kernel
theorem dX5_find_96 : decode cX5_find 96 = .ok (.ireturn, 1) := by decide +kernel
theorem dX5_find_97 : decode cX5_find 97 = .ok (.aload_n 0, 1) := by decide +kernel
theorem dX5_find_98 : decode cX5_find 98 = .ok (.iload_n 2, 1) := by decide +kernel
theorem dX5_find_99 : decode cX5_find 99 = .ok (.iload_n 1, 1) := by decide +kernel
theorem dX5_find_100 : decode cX5_find 100 = .ok (.invokevirtual 83, 3) := by decide +kernel
theorem dX5_find_103 : decode cX5_find 103 = .ok (.aload_n 0, 1) := by decide +kernel
theorem dX5_find_104 : decode cX5_find 104 = .ok (.iconst 1, 1) := by decide +kernel
theorem dX5_find_105 : decode cX5_find 105 = .ok (.putfield 9, 3) := by decide +kernel
theorem dX5_find_108 : decode cX5_find 108 = .ok (.aload_n 0, 1) := by decide +kernel
theorem dX5_find_109 : decode cX5_find 109 = .ok (.getfield 19, 3) := by decide +kernel
theorem dX5_find_112 : decode cX5_find 112 = .ok (.ireturn, 1) := by decide +kernel
theorem dX5_keepProof_0 : decode cX5_keepProof 0 = .ok (.iload_n 1, 1) := by decide +kernel
theorem dX5_keepProof_1 : decode cX5_keepProof 1 = .ok (.ifCond .ne 18, 3) := by decide +kernel
theorem dX5_keepProof_4 : decode cX5_keepProof 4 = .ok (.aload_n 0, 1) := by decide +kernel
theorem dX5_keepProof_5 : decode cX5_keepProof 5 = .ok (.getfield 26, 3) := by decide +kernel
theorem dX5_keepProof_8 : decode cX5_keepProof 8 = .ok (.aload_n 0, 1) := by decide +kernel
theorem dX5_keepProof_9 : decode cX5_keepProof 9 = .ok (.getfield 41, 3) := by decide +kernel
theorem dX5_keepProof_12 : decode cX5_keepProof 12 = .ok (.getfield 87, 3) := by decide +kernel
theorem dX5_keepProof_15 : decode cX5_keepProof 15 = .ok (.invokevirtual 88, 3) := by decide +kernel
theorem dX5_keepProof_18 : decode cX5_keepProof 18 = .ok (.return_, 1) := by decide +kernel
theorem dX5_keepProof_19 : decode cX5_keepProof 19 = .ok (.aload_n 0, 1) := by decide +kernel
theorem dX5_keepProof_20 : decode cX5_keepProof 20 = .ok (.getfield 26, 3) := by decide +kernel
theorem dX5_keepProof_23 : decode cX5_keepProof 23 = .ok (.iconst 0, 1) := by decide +kernel
theorem dX5_keepProof_24 : decode cX5_keepProof 24 = .ok (.putfield 92, 3) := by decide +kernel
theorem dX5_keepProof_27 : decode cX5_keepProof 27 = .ok (.iload_n 2, 1) := by decide +kernel
theorem dX5_keepProof_28 : decode cX5_keepProof 28 = .ok (.ifCond .eq 13, 3) := by decide +kernel
theorem dX5_keepProof_31 : decode cX5_keepProof 31 = .ok (.aload_n 0, 1) := by decide +kernel
theorem dX5_keepProof_32 : decode cX5_keepProof 32 = .ok (.getfield 26, 3) := by decide +kernel
theorem dX5_keepProof_35 : decode cX5_keepProof 35 = .ok (.iconst 4, 1) := by decide +kernel
theorem dX5_keepProof_36 : decode cX5_keepProof 36 = .ok (.iload_n 2, 1) := by decide +kernel
theorem dX5_keepProof_37 : decode cX5_keepProof 37 = .ok (.invokevirtual 95, 3) := by decide +kernel
theorem dX5_keepProof_40 : decode cX5_keepProof 40 = .ok (.pop, 1) := by decide +kernel
theorem dX5_keepProof_41 : decode cX5_keepProof 41 = .ok (.return_, 1) := by decide +kernel
theorem dX5_keepBest_0 : decode cX5_keepBest 0 = .ok (.aload_n 0, 1) := by decide +kernel
theorem dX5_keepBest_1 : decode cX5_keepBest 1 = .ok (.getfield 37, 3) := by decide +kernel
theorem dX5_keepBest_4 : decode cX5_keepBest 4 = .ok (.getfield 99, 3) := by decide +kernel
theorem dX5_keepBest_7 : decode cX5_keepBest 7 = .ok (.iconst 0, 1) := by decide +kernel
theorem dX5_keepBest_8 : decode cX5_keepBest 8 = .ok (.aload_n 0, 1) := by decide +kernel
theorem dX5_keepBest_9 : decode cX5_keepBest 9 = .ok (.getfield 15, 3) := by decide +kernel
theorem dX5_keepBest_12 : decode cX5_keepBest 12 = .ok (.iconst 0, 1) := by decide +kernel
theorem dX5_keepBest_13 : decode cX5_keepBest 13 = .ok (.aload_n 0, 1) := by decide +kernel
theorem dX5_keepBest_14 : decode cX5_keepBest 14 = .ok (.getfield 33, 3) := by decide +kernel
theorem dX5_keepBest_17 : decode cX5_keepBest 17 = .ok (.getfield 102, 3) := by decide +kernel
theorem dX5_keepBest_20 : decode cX5_keepBest 20 = .ok (.invokestatic 103, 3) := by decide +kernel
theorem dX5_keepBest_23 : decode cX5_keepBest 23 = .ok (.aload_n 0, 1) := by decide +kernel
theorem dX5_keepBest_24 : decode cX5_keepBest 24 = .ok (.aload_n 0, 1) := by decide +kernel
theorem dX5_keepBest_25 : decode cX5_keepBest 25 = .ok (.getfield 37, 3) := by decide +kernel
theorem dX5_keepBest_28 : decode cX5_keepBest 28 = .ok (.getfield 109, 3) := by decide +kernel
theorem dX5_keepBest_31 : decode cX5_keepBest 31 = .ok (.putfield 19, 3) := by decide +kernel
theorem dX5_keepBest_34 : decode cX5_keepBest 34 = .ok (.return_, 1) := by decide +kernel
theorem dX5_tally_0 : decode cX5_tally 0 = .ok (.aload_n 0, 1) := by decide +kernel
theorem dX5_tally_1 : decode cX5_tally 1 = .ok (.getfield 30, 3) := by decide +kernel
theorem dX5_tally_4 : decode cX5_tally 4 = .ok (.iconst 0, 1) := by decide +kernel
theorem dX5_tally_5 : decode cX5_tally 5 = .ok (.dup2, 1) := by decide +kernel
theorem dX5_tally_6 : decode cX5_tally 6 = .ok (.iaload, 1) := by decide +kernel
theorem dX5_tally_7 : decode cX5_tally 7 = .ok (.iconst 1, 1) := by decide +kernel
theorem dX5_tally_8 : decode cX5_tally 8 = .ok (.iadd, 1) := by decide +kernel
theorem dX5_tally_9 : decode cX5_tally 9 = .ok (.iastore, 1) := by decide +kernel
theorem dX5_tally_10 : decode cX5_tally 10 = .ok (.aload_n 0, 1) := by decide +kernel
theorem dX5_tally_11 : decode cX5_tally 11 = .ok (.getfield 30, 3) := by decide +kernel
theorem dX5_tally_14 : decode cX5_tally 14 = .ok (.iconst 1, 1) := by decide +kernel
theorem dX5_tally_15 : decode cX5_tally 15 = .ok (.dup2, 1) := by decide +kernel
theorem dX5_tally_16 : decode cX5_tally 16 = .ok (.iaload, 1) := by decide +kernel
theorem dX5_tally_17 : decode cX5_tally 17 = .ok (.aload_n 0, 1) := by decide +kernel
theorem dX5_tally_18 : decode cX5_tally 18 = .ok (.getfield 41, 3) := by decide +kernel
theorem dX5_tally_21 : decode cX5_tally 21 = .ok (.getfield 87, 3) := by decide +kernel
theorem dX5_tally_24 : decode cX5_tally 24 = .ok (.getfield 92, 3) := by decide +kernel
theorem dX5_tally_27 : decode cX5_tally 27 = .ok (.iadd, 1) := by decide +kernel
theorem dX5_tally_28 : decode cX5_tally 28 = .ok (.iastore, 1) := by decide +kernel
theorem dX5_tally_29 : decode cX5_tally 29 = .ok (.aload_n 0, 1) := by decide +kernel
theorem dX5_tally_30 : decode cX5_tally 30 = .ok (.getfield 30, 3) := by decide +kernel
theorem dX5_tally_33 : decode cX5_tally 33 = .ok (.iconst 2, 1) := by decide +kernel
theorem dX5_tally_34 : decode cX5_tally 34 = .ok (.dup2, 1) := by decide +kernel
theorem dX5_tally_35 : decode cX5_tally 35 = .ok (.iaload, 1) := by decide +kernel
theorem dX5_tally_36 : decode cX5_tally 36 = .ok (.aload_n 0, 1) := by decide +kernel
theorem dX5_tally_37 : decode cX5_tally 37 = .ok (.getfield 41, 3) := by decide +kernel
theorem dX5_tally_40 : decode cX5_tally 40 = .ok (.getfield 112, 3) := by decide +kernel
theorem dX5_tally_43 : decode cX5_tally 43 = .ok (.iadd, 1) := by decide +kernel
theorem dX5_tally_44 : decode cX5_tally 44 = .ok (.iastore, 1) := by decide +kernel
theorem dX5_tally_45 : decode cX5_tally 45 = .ok (.aload_n 0, 1) := by decide +kernel
theorem dX5_tally_46 : decode cX5_tally 46 = .ok (.getfield 30, 3) := by decide +kernel
theorem dX5_tally_49 : decode cX5_tally 49 = .ok (.iconst 3, 1) := by decide +kernel
theorem dX5_tally_50 : decode cX5_tally 50 = .ok (.dup2, 1) := by decide +kernel
theorem dX5_tally_51 : decode cX5_tally 51 = .ok (.iaload, 1) := by decide +kernel
theorem dX5_tally_52 : decode cX5_tally 52 = .ok (.aload_n 0, 1) := by decide +kernel
theorem dX5_tally_53 : decode cX5_tally 53 = .ok (.getfield 41, 3) := by decide +kernel
theorem dX5_tally_56 : decode cX5_tally 56 = .ok (.getfield 115, 3) := by decide +kernel
theorem dX5_tally_59 : decode cX5_tally 59 = .ok (.iadd, 1) := by decide +kernel
theorem dX5_tally_60 : decode cX5_tally 60 = .ok (.iastore, 1) := by decide +kernel
theorem dX5_tally_61 : decode cX5_tally 61 = .ok (.iload_n 1, 1) := by decide +kernel
theorem dX5_tally_62 : decode cX5_tally 62 = .ok (.iconst 1, 1) := by decide +kernel
theorem dX5_tally_63 : decode cX5_tally 63 = .ok (.if_icmp .ne 13, 3) := by decide +kernel
theorem dX5_tally_66 : decode cX5_tally 66 = .ok (.aload_n 0, 1) := by decide +kernel
theorem dX5_tally_67 : decode cX5_tally 67 = .ok (.getfield 30, 3) := by decide +kernel
theorem dX5_tally_70 : decode cX5_tally 70 = .ok (.iconst 4, 1) := by decide +kernel
theorem dX5_tally_71 : decode cX5_tally 71 = .ok (.dup2, 1) := by decide +kernel
theorem dX5_tally_72 : decode cX5_tally 72 = .ok (.iaload, 1) := by decide +kernel
theorem dX5_tally_73 : decode cX5_tally 73 = .ok (.iconst 1, 1) := by decide +kernel
theorem dX5_tally_74 : decode cX5_tally 74 = .ok (.iadd, 1) := by decide +kernel
theorem dX5_tally_75 : decode cX5_tally 75 = .ok (.iastore, 1) := by decide +kernel
theorem dX5_tally_76 : decode cX5_tally 76 = .ok (.return_, 1) := by decide +kernel
theorem dX6_init_0 : decode cX6_init 0 = .ok (.aload_n 0, 1) := by decide +kernel
theorem dX6_init_1 : decode cX6_init 1 = .ok (.invokespecial 3, 3) := by decide +kernel
theorem dX6_init_4 : decode cX6_init 4 = .ok (.aload_n 0, 1) := by decide +kernel
theorem dX6_init_5 : decode cX6_init 5 = .ok (.bipush 30, 2) := by decide +kernel
theorem dX6_init_7 : decode cX6_init 7 = .ok (.newarray .int, 2) := by decide +kernel
theorem dX6_init_9 : decode cX6_init 9 = .ok (.putfield 9, 3) := by decide +kernel
theorem dX6_init_12 : decode cX6_init 12 = .ok (.aload_n 0, 1) := by decide +kernel
theorem dX6_init_13 : decode cX6_init 13 = .ok (.aload_n 1, 1) := by decide +kernel
theorem dX6_init_14 : decode cX6_init 14 = .ok (.putfield 15, 3) := by decide +kernel
theorem dX6_init_17 : decode cX6_init 17 = .ok (.aload_n 0, 1) := by decide +kernel
theorem dX6_init_18 : decode cX6_init 18 = .ok (.getfield 9, 3) := by decide +kernel
theorem dX6_init_21 : decode cX6_init 21 = .ok (.iconst (-1), 1) := by decide +kernel
theorem dX6_init_22 : decode cX6_init 22 = .ok (.invokestatic 19, 3) := by decide +kernel
theorem dX6_init_25 : decode cX6_init 25 = .ok (.return_, 1) := by decide +kernel
theorem dX6_among_0 : decode cX6_among 0 = .ok (.iconst 0, 1) := by decide +kernel
theorem dX6_among_1 : decode cX6_among 1 = .ok (.istore_n 2, 1) := by decide +kernel
theorem dX6_among_2 : decode cX6_among 2 = .ok (.iconst 0, 1) := by decide +kernel
theorem dX6_among_3 : decode cX6_among 3 = .ok (.istore_n 3, 1) := by decide +kernel
theorem dX6_among_4 : decode cX6_among 4 = .ok (.iload_n 3, 1) := by decide +kernel
theorem dX6_among_5 : decode cX6_among 5 = .ok (.aload_n 0, 1) := by decide +kernel
theorem dX6_among_6 : decode cX6_among 6 = .ok (.getfield 15, 3) := by decide +kernel
theorem dX6_among_9 : decode cX6_among 9 = .ok (.getfield 25, 3) := by decide +kernel
theorem dX6_among_12 : decode cX6_among 12 = .ok (.if_icmp .ge 38, 3) := by decide +kernel
theorem dX6_among_15 : decode cX6_among 15 = .ok (.iload_n 1, 1) := by decide +kernel
theorem dX6_among_16 : decode cX6_among 16 = .ok (.iload_n 3, 1) := by decide +kernel
theorem dX6_among_17 : decode cX6_among 17 = .ok (.invokestatic 31, 3) := by decide +kernel
theorem dX6_among_20 : decode cX6_among 20 = .ok (.ifCond .eq 24, 3) := by decide +kernel
theorem dX6_among_23 : decode cX6_among 23 = .ok (.aload_n 0, 1) := by decide +kernel
theorem dX6_among_24 : decode cX6_among 24 = .ok (.getfield 9, 3) := by decide +kernel
theorem dX6_among_27 : decode cX6_among 27 = .ok (.iload_n 3, 1) := by decide +kernel
theorem dX6_among_28 : decode cX6_among 28 = .ok (.iaload, 1) := by decide +kernel
theorem dX6_among_29 : decode cX6_among 29 = .ok (.iconst (-1), 1) := by decide +kernel
theorem dX6_among_30 : decode cX6_among 30 = .ok (.if_icmp .eq 14, 3) := by decide +kernel
theorem dX6_among_33 : decode cX6_among 33 = .ok (.iload_n 2, 1) := by decide +kernel
theorem dX6_among_34 : decode cX6_among 34 = .ok (.iconst 1, 1) := by decide +kernel
theorem dX6_among_35 : decode cX6_among 35 = .ok (.aload_n 0, 1) := by decide +kernel
theorem dX6_among_36 : decode cX6_among 36 = .ok (.getfield 9, 3) := by decide +kernel
theorem dX6_among_39 : decode cX6_among 39 = .ok (.iload_n 3, 1) := by decide +kernel
theorem dX6_among_40 : decode cX6_among 40 = .ok (.iaload, 1) := by decide +kernel
theorem dX6_among_41 : decode cX6_among 41 = .ok (.ishl, 1) := by decide +kernel
theorem dX6_among_42 : decode cX6_among 42 = .ok (.ior, 1) := by decide +kernel
theorem dX6_among_43 : decode cX6_among 43 = .ok (.istore_n 2, 1) := by decide +kernel
theorem dX6_among_44 : decode cX6_among 44 = .ok (.iinc 3 1, 3) := by decide +kernel
theorem dX6_among_47 : decode cX6_among 47 = .ok (.goto (-43), 3) := by decide +kernel
theorem dX6_among_50 : decode cX6_among 50 = .ok (.iload_n 2, 1) := by decide +kernel
theorem dX6_among_51 : decode cX6_among 51 = .ok (.ireturn, 1) := by decide +kernel
theorem dX6_clashingEdges_0 : decode cX6_clashingEdges 0 = .ok (.iconst 0, 1) := by decide +kernel
theorem dX6_clashingEdges_1 : decode cX6_clashingEdges 1 = .ok (.istore_n 1, 1) := by decide +kernel
theorem dX6_clashingEdges_2 : decode cX6_clashingEdges 2 = .ok (.iconst 0, 1) := by decide +kernel
theorem dX6_clashingEdges_3 : decode cX6_clashingEdges 3 = .ok (.istore_n 2, 1) := by decide +kernel
theorem dX6_clashingEdges_4 : decode cX6_clashingEdges 4 = .ok (.iload_n 2, 1) := by decide +kernel
theorem dX6_clashingEdges_5 : decode cX6_clashingEdges 5 = .ok (.aload_n 0, 1) := by decide +kernel
theorem dX6_clashingEdges_6 : decode cX6_clashingEdges 6 = .ok (.getfield 15, 3) := by decide +kernel
theorem dX6_clashingEdges_9 : decode cX6_clashingEdges 9 = .ok (.getfield 25, 3) := by decide +kernel
theorem dX6_clashingEdges_12 : decode cX6_clashingEdges 12 = .ok (.if_icmp .ge 70, 3) := by decide +kernel
theorem dX6_clashingEdges_15 : decode cX6_clashingEdges 15 = .ok (.iload_n 2, 1) := by decide +kernel
theorem dX6_clashingEdges_16 : decode cX6_clashingEdges 16 = .ok (.iconst 1, 1) := by decide +kernel
theorem dX6_clashingEdges_17 : decode cX6_clashingEdges 17 = .ok (.iadd, 1) := by decide +kernel
theorem dX6_clashingEdges_18 : decode cX6_clashingEdges 18 = .ok (.istore_n 3, 1) := by decide +kernel
theorem dX6_clashingEdges_19 : decode cX6_clashingEdges 19 = .ok (.iload_n 3, 1) := by decide +kernel
theorem dX6_clashingEdges_20 : decode cX6_clashingEdges 20 = .ok (.aload_n 0, 1) := by decide +kernel
theorem dX6_clashingEdges_21 : decode cX6_clashingEdges 21 = .ok (.getfield 15, 3) := by decide +kernel
theorem dX6_clashingEdges_24 : decode cX6_clashingEdges 24 = .ok (.getfield 25, 3) := by decide +kernel
theorem dX6_clashingEdges_27 : decode cX6_clashingEdges 27 = .ok (.if_icmp .ge 49, 3) := by decide +kernel
theorem dX6_clashingEdges_30 : decode cX6_clashingEdges 30 = .ok (.aload_n 0, 1) := by decide +kernel
theorem dX6_clashingEdges_31 : decode cX6_clashingEdges 31 = .ok (.getfield 15, 3) := by decide +kernel
theorem dX6_clashingEdges_34 : decode cX6_clashingEdges 34 = .ok (.iload_n 2, 1) := by decide +kernel
theorem dX6_clashingEdges_35 : decode cX6_clashingEdges 35 = .ok (.iload_n 3, 1) := by decide +kernel
theorem dX6_clashingEdges_36 : decode cX6_clashingEdges 36 = .ok (.invokevirtual 35, 3) := by decide +kernel
theorem dX6_clashingEdges_39 : decode cX6_clashingEdges 39 = .ok (.ifCond .eq 31, 3) := by decide +kernel
theorem dX6_clashingEdges_42 : decode cX6_clashingEdges 42 = .ok (.aload_n 0, 1) := by decide +kernel
theorem dX6_clashingEdges_43 : decode cX6_clashingEdges 43 = .ok (.getfield 9, 3) := by decide +kernel
theorem dX6_clashingEdges_46 : decode cX6_clashingEdges 46 = .ok (.iload_n 2, 1) := by decide +kernel
theorem dX6_clashingEdges_47 : decode cX6_clashingEdges 47 = .ok (.iaload, 1) := by decide +kernel
theorem dX6_clashingEdges_48 : decode cX6_clashingEdges 48 = .ok (.iconst (-1), 1) := by decide +kernel
theorem dX6_clashingEdges_49 : decode cX6_clashingEdges 49 = .ok (.if_icmp .eq 21, 3) := by decide +kernel
theorem dX6_clashingEdges_52 : decode cX6_clashingEdges 52 = .ok (.aload_n 0, 1) := by decide +kernel
theorem dX6_clashingEdges_53 : decode cX6_clashingEdges 53 = .ok (.getfield 9, 3) := by decide +kernel
theorem dX6_clashingEdges_56 : decode cX6_clashingEdges 56 = .ok (.iload_n 2, 1) := by decide +kernel
theorem dX6_clashingEdges_57 : decode cX6_clashingEdges 57 = .ok (.iaload, 1) := by decide +kernel
theorem dX6_clashingEdges_58 : decode cX6_clashingEdges 58 = .ok (.aload_n 0, 1) := by decide +kernel
theorem dX6_clashingEdges_59 : decode cX6_clashingEdges 59 = .ok (.getfield 9, 3) := by decide +kernel
theorem dX6_clashingEdges_62 : decode cX6_clashingEdges 62 = .ok (.iload_n 3, 1) := by decide +kernel
theorem dX6_clashingEdges_63 : decode cX6_clashingEdges 63 = .ok (.iaload, 1) := by decide +kernel
theorem dX6_clashingEdges_64 : decode cX6_clashingEdges 64 = .ok (.if_icmp .ne 6, 3) := by decide +kernel
theorem dX6_clashingEdges_67 : decode cX6_clashingEdges 67 = .ok (.iinc 1 1, 3) := by decide +kernel
theorem dX6_clashingEdges_70 : decode cX6_clashingEdges 70 = .ok (.iinc 3 1, 3) := by decide +kernel
theorem dX6_clashingEdges_73 : decode cX6_clashingEdges 73 = .ok (.goto (-54), 3) := by decide +kernel
theorem dX6_clashingEdges_76 : decode cX6_clashingEdges 76 = .ok (.iinc 2 1, 3) := by decide +kernel
theorem dX6_clashingEdges_79 : decode cX6_clashingEdges 79 = .ok (.goto (-75), 3) := by decide +kernel
theorem dX6_clashingEdges_82 : decode cX6_clashingEdges 82 = .ok (.iload_n 1, 1) := by decide +kernel
theorem dX6_clashingEdges_83 : decode cX6_clashingEdges 83 = .ok (.ireturn, 1) := by decide +kernel
theorem dX6_swapChain_0 : decode cX6_swapChain 0 = .ok (.aload_n 0, 1) := by decide +kernel
theorem dX6_swapChain_1 : decode cX6_swapChain 1 = .ok (.getfield 9, 3) := by decide +kernel
theorem dX6_swapChain_4 : decode cX6_swapChain 4 = .ok (.iload_n 1, 1) := by decide +kernel
theorem dX6_swapChain_5 : decode cX6_swapChain 5 = .ok (.iaload, 1) := by decide +kernel
theorem dX6_swapChain_6 : decode cX6_swapChain 6 = .ok (.istore_n 3, 1) := by decide +kernel
theorem dX6_swapChain_7 : decode cX6_swapChain 7 = .ok (.aload_n 0, 1) := by decide +kernel
theorem dX6_swapChain_8 : decode cX6_swapChain 8 = .ok (.iload_n 1, 1) := by decide +kernel
theorem dX6_swapChain_9 : decode cX6_swapChain 9 = .ok (.aload_n 0, 1) := by decide +kernel
theorem dX6_swapChain_10 : decode cX6_swapChain 10 = .ok (.iload_n 3, 1) := by decide +kernel
theorem dX6_swapChain_11 : decode cX6_swapChain 11 = .ok (.invokevirtual 38, 3) := by decide +kernel
theorem dX6_swapChain_14 : decode cX6_swapChain 14 = .ok (.aload_n 0, 1) := by decide +kernel
theorem dX6_swapChain_15 : decode cX6_swapChain 15 = .ok (.iload_n 2, 1) := by decide +kernel
theorem dX6_swapChain_16 : decode cX6_swapChain 16 = .ok (.invokevirtual 38, 3) := by decide +kernel
theorem dX6_swapChain_19 : decode cX6_swapChain 19 = .ok (.ior, 1) := by decide +kernel
theorem dX6_swapChain_20 : decode cX6_swapChain 20 = .ok (.invokevirtual 42, 3) := by decide +kernel
theorem dX6_swapChain_23 : decode cX6_swapChain 23 = .ok (.istore 4, 2) := by decide +kernel
theorem dX6_swapChain_25 : decode cX6_swapChain 25 = .ok (.iconst 0, 1) := by decide +kernel
theorem dX6_swapChain_26 : decode cX6_swapChain 26 = .ok (.istore 5, 2) := by decide +kernel
theorem dX6_swapChain_28 : decode cX6_swapChain 28 = .ok (.iload 5, 2) := by decide +kernel
theorem dX6_swapChain_30 : decode cX6_swapChain 30 = .ok (.aload_n 0, 1) := by decide +kernel
theorem dX6_swapChain_31 : decode cX6_swapChain 31 = .ok (.getfield 15, 3) := by decide +kernel
theorem dX6_swapChain_34 : decode cX6_swapChain 34 = .ok (.getfield 25, 3) := by decide +kernel
theorem dX6_swapChain_37 : decode cX6_swapChain 37 = .ok (.if_icmp .ge 42, 3) := by decide +kernel
theorem dX6_swapChain_40 : decode cX6_swapChain 40 = .ok (.iload 4, 2) := by decide +kernel
theorem dX6_swapChain_42 : decode cX6_swapChain 42 = .ok (.iload 5, 2) := by decide +kernel
theorem dX6_swapChain_44 : decode cX6_swapChain 44 = .ok (.invokestatic 31, 3) := by decide +kernel
theorem dX6_swapChain_47 : decode cX6_swapChain 47 = .ok (.ifCond .eq 26, 3) := by decide +kernel
theorem dX6_swapChain_50 : decode cX6_swapChain 50 = .ok (.aload_n 0, 1) := by decide +kernel
theorem dX6_swapChain_51 : decode cX6_swapChain 51 = .ok (.getfield 9, 3) := by decide +kernel
theorem dX6_swapChain_54 : decode cX6_swapChain 54 = .ok (.iload 5, 2) := by decide +kernel
theorem dX6_swapChain_56 : decode cX6_swapChain 56 = .ok (.aload_n 0, 1) := by decide +kernel
theorem dX6_swapChain_57 : decode cX6_swapChain 57 = .ok (.getfield 9, 3) := by decide +kernel
theorem dX6_swapChain_60 : decode cX6_swapChain 60 = .ok (.iload 5, 2) := by decide +kernel
theorem dX6_swapChain_62 : decode cX6_swapChain 62 = .ok (.iaload, 1) := by decide +kernel
theorem dX6_swapChain_63 : decode cX6_swapChain 63 = .ok (.iload_n 3, 1) := by decide +kernel
theorem dX6_swapChain_64 : decode cX6_swapChain 64 = .ok (.if_icmp .ne 7, 3) := by decide +kernel
theorem dX6_swapChain_67 : decode cX6_swapChain 67 = .ok (.iload_n 2, 1) := by decide +kernel
theorem dX6_swapChain_68 : decode cX6_swapChain 68 = .ok (.goto 4, 3) := by decide +kernel
theorem dX6_swapChain_71 : decode cX6_swapChain 71 = .ok (.iload_n 3, 1) := by decide +kernel
theorem dX6_swapChain_72 : decode cX6_swapChain 72 = .ok (.iastore, 1) := by decide +kernel
theorem dX6_swapChain_73 : decode cX6_swapChain 73 = .ok (.iinc 5 1, 3) := by decide +kernel
theorem dX6_swapChain_76 : decode cX6_swapChain 76 = .ok (.goto (-48), 3) := by decide +kernel
theorem dX6_swapChain_79 : decode cX6_swapChain 79 = .ok (.iload 4, 2) := by decide +kernel
theorem dX6_swapChain_81 : decode cX6_swapChain 81 = .ok (.invokestatic 46, 3) := by decide +kernel
theorem dX6_swapChain_84 : decode cX6_swapChain 84 = .ok (.ireturn, 1) := by decide +kernel
theorem dX6_bearing_0 : decode cX6_bearing 0 = .ok (.iconst 0, 1) := by decide +kernel
theorem dX6_bearing_1 : decode cX6_bearing 1 = .ok (.istore_n 2, 1) := by decide +kernel
theorem dX6_bearing_2 : decode cX6_bearing 2 = .ok (.iconst 0, 1) := by decide +kernel
theorem dX6_bearing_3 : decode cX6_bearing 3 = .ok (.istore_n 3, 1) := by decide +kernel
theorem dX6_bearing_4 : decode cX6_bearing 4 = .ok (.iload_n 3, 1) := by decide +kernel
theorem dX6_bearing_5 : decode cX6_bearing 5 = .ok (.aload_n 0, 1) := by decide +kernel
theorem dX6_bearing_6 : decode cX6_bearing 6 = .ok (.getfield 15, 3) := by decide +kernel
theorem dX6_bearing_9 : decode cX6_bearing 9 = .ok (.getfield 25, 3) := by decide +kernel
theorem dX6_bearing_12 : decode cX6_bearing 12 = .ok (.if_icmp .ge 25, 3) := by decide +kernel
theorem dX6_bearing_15 : decode cX6_bearing 15 = .ok (.aload_n 0, 1) := by decide +kernel
theorem dX6_bearing_16 : decode cX6_bearing 16 = .ok (.getfield 9, 3) := by decide +kernel
theorem dX6_bearing_19 : decode cX6_bearing 19 = .ok (.iload_n 3, 1) := by decide +kernel
theorem dX6_bearing_20 : decode cX6_bearing 20 = .ok (.iaload, 1) := by decide +kernel
theorem dX6_bearing_21 : decode cX6_bearing 21 = .ok (.iload_n 1, 1) := by decide +kernel
theorem dX6_bearing_22 : decode cX6_bearing 22 = .ok (.if_icmp .ne 9, 3) := by decide +kernel
theorem dX6_bearing_25 : decode cX6_bearing 25 = .ok (.iload_n 2, 1) := by decide +kernel
theorem dX6_bearing_26 : decode cX6_bearing 26 = .ok (.iconst 1, 1) := by decide +kernel
theorem dX6_bearing_27 : decode cX6_bearing 27 = .ok (.iload_n 3, 1) := by decide +kernel
theorem dX6_bearing_28 : decode cX6_bearing 28 = .ok (.ishl, 1) := by decide +kernel
theorem dX6_bearing_29 : decode cX6_bearing 29 = .ok (.ior, 1) := by decide +kernel
theorem dX6_bearing_30 : decode cX6_bearing 30 = .ok (.istore_n 2, 1) := by decide +kernel
theorem dX6_bearing_31 : decode cX6_bearing 31 = .ok (.iinc 3 1, 3) := by decide +kernel
theorem dX6_bearing_34 : decode cX6_bearing 34 = .ok (.goto (-30), 3) := by decide +kernel
theorem dX6_bearing_37 : decode cX6_bearing 37 = .ok (.iload_n 2, 1) := by decide +kernel
theorem dX6_bearing_38 : decode cX6_bearing 38 = .ok (.ireturn, 1) := by decide +kernel
theorem dX6_reach_0 : decode cX6_reach 0 = .ok (.iconst 1, 1) := by decide +kernel
theorem dX6_reach_1 : decode cX6_reach 1 = .ok (.iload_n 1, 1) := by decide +kernel
theorem dX6_reach_2 : decode cX6_reach 2 = .ok (.ishl, 1) := by decide +kernel
theorem dX6_reach_3 : decode cX6_reach 3 = .ok (.istore_n 3, 1) := by decide +kernel
theorem dX6_reach_4 : decode cX6_reach 4 = .ok (.iconst 0, 1) := by decide +kernel
theorem dX6_reach_5 : decode cX6_reach 5 = .ok (.istore 4, 2) := by decide +kernel
theorem dX6_reach_7 : decode cX6_reach 7 = .ok (.iload 4, 2) := by decide +kernel
theorem dX6_reach_9 : decode cX6_reach 9 = .ok (.aload_n 0, 1) := by decide +kernel
theorem dX6_reach_10 : decode cX6_reach 10 = .ok (.getfield 15, 3) := by decide +kernel
theorem dX6_reach_13 : decode cX6_reach 13 = .ok (.getfield 25, 3) := by decide +kernel
theorem dX6_reach_16 : decode cX6_reach 16 = .ok (.if_icmp .ge 19, 3) := by decide +kernel
theorem dX6_reach_19 : decode cX6_reach 19 = .ok (.iload_n 3, 1) := by decide +kernel
theorem dX6_reach_20 : decode cX6_reach 20 = .ok (.aload_n 0, 1) := by decide +kernel
theorem dX6_reach_21 : decode cX6_reach 21 = .ok (.iload_n 3, 1) := by decide +kernel
theorem dX6_reach_22 : decode cX6_reach 22 = .ok (.invokevirtual 51, 3) := by decide +kernel
theorem dX6_reach_25 : decode cX6_reach 25 = .ok (.iload_n 2, 1) := by decide +kernel
theorem dX6_reach_26 : decode cX6_reach 26 = .ok (.iand, 1) := by decide +kernel
theorem dX6_reach_27 : decode cX6_reach 27 = .ok (.ior, 1) := by decide +kernel
theorem dX6_reach_28 : decode cX6_reach 28 = .ok (.istore_n 3, 1) := by decide +kernel
theorem dX6_reach_29 : decode cX6_reach 29 = .ok (.iinc 4 1, 3) := by decide +kernel
theorem dX6_reach_32 : decode cX6_reach 32 = .ok (.goto (-25), 3) := by decide +kernel
theorem dX6_reach_35 : decode cX6_reach 35 = .ok (.iload_n 3, 1) := by decide +kernel
theorem dX6_reach_36 : decode cX6_reach 36 = .ok (.ireturn, 1) := by decide +kernel
theorem dX6_neighboursOf_0 : decode cX6_neighboursOf 0 = .ok (.iconst 0, 1) := by decide +kernel
theorem dX6_neighboursOf_1 : decode cX6_neighboursOf 1 = .ok (.istore_n 2, 1) := by decide +kernel
theorem dX6_neighboursOf_2 : decode cX6_neighboursOf 2 = .ok (.iconst 0, 1) := by decide +kernel
theorem dX6_neighboursOf_3 : decode cX6_neighboursOf 3 = .ok (.istore_n 3, 1) := by decide +kernel
theorem dX6_neighboursOf_4 : decode cX6_neighboursOf 4 = .ok (.iload_n 3, 1) := by decide +kernel
theorem dX6_neighboursOf_5 : decode cX6_neighboursOf 5 = .ok (.aload_n 0, 1) := by decide +kernel
theorem dX6_neighboursOf_6 : decode cX6_neighboursOf 6 = .ok (.getfield 15, 3) := by decide +kernel
theorem dX6_neighboursOf_9 : decode cX6_neighboursOf 9 = .ok (.getfield 25, 3) := by decide +kernel
theorem dX6_neighboursOf_12 : decode cX6_neighboursOf 12 = .ok (.if_icmp .ge 29, 3) := by decide +kernel
theorem dX6_neighboursOf_15 : decode cX6_neighboursOf 15 = .ok (.iload_n 1, 1) := by decide +kernel
theorem dX6_neighboursOf_16 : decode cX6_neighboursOf 16 = .ok (.iload_n 3, 1) := by decide +kernel
theorem dX6_neighboursOf_17 : decode cX6_neighboursOf 17 = .ok (.invokestatic 31, 3) := by decide +kernel
theorem dX6_neighboursOf_20 : decode cX6_neighboursOf 20 = .ok (.ifCond .eq 15, 3) := by decide +kernel
theorem dX6_neighboursOf_23 : decode cX6_neighboursOf 23 = .ok (.iload_n 2, 1) := by decide +kernel
theorem dX6_neighboursOf_24 : decode cX6_neighboursOf 24 = .ok (.aload_n 0, 1) := by decide +kernel
theorem dX6_neighboursOf_25 : decode cX6_neighboursOf 25 = .ok (.getfield 15, 3) := by decide +kernel
theorem dX6_neighboursOf_28 : decode cX6_neighboursOf 28 = .ok (.getfield 54, 3) := by decide +kernel
theorem dX6_neighboursOf_31 : decode cX6_neighboursOf 31 = .ok (.iload_n 3, 1) := by decide +kernel
theorem dX6_neighboursOf_32 : decode cX6_neighboursOf 32 = .ok (.iaload, 1) := by decide +kernel
theorem dX6_neighboursOf_33 : decode cX6_neighboursOf 33 = .ok (.ior, 1) := by decide +kernel
theorem dX6_neighboursOf_34 : decode cX6_neighboursOf 34 = .ok (.istore_n 2, 1) := by decide +kernel
theorem dX6_neighboursOf_35 : decode cX6_neighboursOf 35 = .ok (.iinc 3 1, 3) := by decide +kernel
theorem dX6_neighboursOf_38 : decode cX6_neighboursOf 38 = .ok (.goto (-34), 3) := by decide +kernel
theorem dX6_neighboursOf_41 : decode cX6_neighboursOf 41 = .ok (.iload_n 2, 1) := by decide +kernel
theorem dX6_neighboursOf_42 : decode cX6_neighboursOf 42 = .ok (.ireturn, 1) := by decide +kernel
theorem dX7_init_0 : decode cX7_init 0 = .ok (.aload_n 0, 1) := by decide +kernel
theorem dX7_init_1 : decode cX7_init 1 = .ok (.invokespecial 1, 3) := by decide +kernel
theorem dX7_init_4 : decode cX7_init 4 = .ok (.aload_n 0, 1) := by decide +kernel
theorem dX7_init_5 : decode cX7_init 5 = .ok (.new 7, 3) := by decide +kernel
theorem dX7_init_8 : decode cX7_init 8 = .ok (.dup, 1) := by decide +kernel
theorem dX7_init_9 : decode cX7_init 9 = .ok (.invokespecial 9, 3) := by decide +kernel
theorem dX7_init_12 : decode cX7_init 12 = .ok (.putfield 10, 3) := by decide +kernel
theorem dX7_init_15 : decode cX7_init 15 = .ok (.aload_n 0, 1) := by decide +kernel
theorem dX7_init_16 : decode cX7_init 16 = .ok (.new 16, 3) := by decide +kernel
theorem dX7_init_19 : decode cX7_init 19 = .ok (.dup, 1) := by decide +kernel
theorem dX7_init_20 : decode cX7_init 20 = .ok (.aload_n 0, 1) := by decide +kernel
theorem dX7_init_21 : decode cX7_init 21 = .ok (.getfield 10, 3) := by decide +kernel
theorem dX7_init_24 : decode cX7_init 24 = .ok (.invokespecial 18, 3) := by decide +kernel
theorem dX7_init_27 : decode cX7_init 27 = .ok (.putfield 21, 3) := by decide +kernel
theorem dX7_init_30 : decode cX7_init 30 = .ok (.aload_n 0, 1) := by decide +kernel
theorem dX7_init_31 : decode cX7_init 31 = .ok (.new 25, 3) := by decide +kernel
theorem dX7_init_34 : decode cX7_init 34 = .ok (.dup, 1) := by decide +kernel
theorem dX7_init_35 : decode cX7_init 35 = .ok (.aload_n 0, 1) := by decide +kernel
theorem dX7_init_36 : decode cX7_init 36 = .ok (.getfield 10, 3) := by decide +kernel
theorem dX7_init_39 : decode cX7_init 39 = .ok (.aload_n 0, 1) := by decide +kernel
theorem dX7_init_40 : decode cX7_init 40 = .ok (.getfield 21, 3) := by decide +kernel
theorem dX7_init_43 : decode cX7_init 43 = .ok (.invokespecial 27, 3) := by decide +kernel
theorem dX7_init_46 : decode cX7_init 46 = .ok (.putfield 30, 3) := by decide +kernel
theorem dX7_init_49 : decode cX7_init 49 = .ok (.aload_n 0, 1) := by decide +kernel
theorem dX7_init_50 : decode cX7_init 50 = .ok (.new 34, 3) := by decide +kernel
theorem dX7_init_53 : decode cX7_init 53 = .ok (.dup, 1) := by decide +kernel
theorem dX7_init_54 : decode cX7_init 54 = .ok (.aload_n 0, 1) := by decide +kernel
theorem dX7_init_55 : decode cX7_init 55 = .ok (.getfield 10, 3) := by decide +kernel
theorem dX7_init_58 : decode cX7_init 58 = .ok (.aload_n 0, 1) := by decide +kernel
theorem dX7_init_59 : decode cX7_init 59 = .ok (.getfield 21, 3) := by decide +kernel
theorem dX7_init_62 : decode cX7_init 62 = .ok (.aload_n 0, 1) := by decide +kernel
theorem dX7_init_63 : decode cX7_init 63 = .ok (.getfield 30, 3) := by decide +kernel
theorem dX7_init_66 : decode cX7_init 66 = .ok (.invokespecial 36, 3) := by decide +kernel
theorem dX7_init_69 : decode cX7_init 69 = .ok (.putfield 39, 3) := by decide +kernel
theorem dX7_init_72 : decode cX7_init 72 = .ok (.aload_n 0, 1) := by decide +kernel
theorem dX7_init_73 : decode cX7_init 73 = .ok (.new 43, 3) := by decide +kernel
theorem dX7_init_76 : decode cX7_init 76 = .ok (.dup, 1) := by decide +kernel
theorem dX7_init_77 : decode cX7_init 77 = .ok (.invokespecial 45, 3) := by decide +kernel
theorem dX7_init_80 : decode cX7_init 80 = .ok (.putfield 46, 3) := by decide +kernel
theorem dX7_init_83 : decode cX7_init 83 = .ok (.aload_n 0, 1) := by decide +kernel
theorem dX7_init_84 : decode cX7_init 84 = .ok (.new 50, 3) := by decide +kernel
theorem dX7_init_87 : decode cX7_init 87 = .ok (.dup, 1) := by decide +kernel
theorem dX7_init_88 : decode cX7_init 88 = .ok (.aload_n 0, 1) := by decide +kernel
theorem dX7_init_89 : decode cX7_init 89 = .ok (.getfield 10, 3) := by decide +kernel
theorem dX7_init_92 : decode cX7_init 92 = .ok (.aload_n 0, 1) := by decide +kernel
theorem dX7_init_93 : decode cX7_init 93 = .ok (.getfield 21, 3) := by decide +kernel
theorem dX7_init_96 : decode cX7_init 96 = .ok (.aload_n 0, 1) := by decide +kernel
theorem dX7_init_97 : decode cX7_init 97 = .ok (.getfield 46, 3) := by decide +kernel
theorem dX7_init_100 : decode cX7_init 100 = .ok (.invokespecial 52, 3) := by decide +kernel
theorem dX7_init_103 : decode cX7_init 103 = .ok (.putfield 55, 3) := by decide +kernel
theorem dX7_init_106 : decode cX7_init 106 = .ok (.aload_n 0, 1) := by decide +kernel
theorem dX7_init_107 : decode cX7_init 107 = .ok (.new 59, 3) := by decide +kernel
theorem dX7_init_110 : decode cX7_init 110 = .ok (.dup, 1) := by decide +kernel
theorem dX7_init_111 : decode cX7_init 111 = .ok (.aload_n 0, 1) := by decide +kernel
theorem dX7_init_112 : decode cX7_init 112 = .ok (.getfield 10, 3) := by decide +kernel
theorem dX7_init_115 : decode cX7_init 115 = .ok (.invokespecial 61, 3) := by decide +kernel
theorem dX7_init_118 : decode cX7_init 118 = .ok (.putfield 62, 3) := by decide +kernel
theorem dX7_init_121 : decode cX7_init 121 = .ok (.return_, 1) := by decide +kernel
theorem dX7_graph_0 : decode cX7_graph 0 = .ok (.iload_n 1, 1) := by decide +kernel
theorem dX7_graph_1 : decode cX7_graph 1 = .ok (.ifCond .lt 9, 3) := by decide +kernel
theorem dX7_graph_4 : decode cX7_graph 4 = .ok (.iload_n 1, 1) := by decide +kernel
theorem dX7_graph_5 : decode cX7_graph 5 = .ok (.bipush 30, 2) := by decide +kernel
theorem dX7_graph_7 : decode cX7_graph 7 = .ok (.if_icmp .le 5, 3) := by decide +kernel
theorem dX7_graph_10 : decode cX7_graph 10 = .ok (.iconst (-1), 1) := by decide +kernel
theorem dX7_graph_11 : decode cX7_graph 11 = .ok (.ireturn, 1) := by decide +kernel
theorem dX7_graph_12 : decode cX7_graph 12 = .ok (.aload_n 0, 1) := by decide +kernel
theorem dX7_graph_13 : decode cX7_graph 13 = .ok (.getfield 10, 3) := by decide +kernel
theorem dX7_graph_16 : decode cX7_graph 16 = .ok (.iload_n 1, 1) := by decide +kernel
theorem dX7_graph_17 : decode cX7_graph 17 = .ok (.invokevirtual 66, 3) := by decide +kernel
theorem dX7_graph_20 : decode cX7_graph 20 = .ok (.aload_n 0, 1) := by decide +kernel
theorem dX7_graph_21 : decode cX7_graph 21 = .ok (.getfield 39, 3) := by decide +kernel
theorem dX7_graph_24 : decode cX7_graph 24 = .ok (.invokevirtual 70, 3) := by decide +kernel
theorem dX7_graph_27 : decode cX7_graph 27 = .ok (.iload_n 1, 1) := by decide +kernel
theorem dX7_graph_28 : decode cX7_graph 28 = .ok (.ireturn, 1) := by decide +kernel
theorem dX7_edge_0 : decode cX7_edge 0 = .ok (.aload_n 0, 1) := by decide +kernel
theorem dX7_edge_1 : decode cX7_edge 1 = .ok (.getfield 10, 3) := by decide +kernel
theorem dX7_edge_4 : decode cX7_edge 4 = .ok (.iload_n 1, 1) := by decide +kernel
theorem dX7_edge_5 : decode cX7_edge 5 = .ok (.invokevirtual 73, 3) := by decide +kernel
theorem dX7_edge_8 : decode cX7_edge 8 = .ok (.ifCond .eq 19, 3) := by decide +kernel
theorem dX7_edge_11 : decode cX7_edge 11 = .ok (.aload_n 0, 1) := by decide +kernel
theorem dX7_edge_12 : decode cX7_edge 12 = .ok (.getfield 10, 3) := by decide +kernel
theorem dX7_edge_15 : decode cX7_edge 15 = .ok (.iload_n 2, 1) := by decide +kernel
theorem dX7_edge_16 : decode cX7_edge 16 = .ok (.invokevirtual 73, 3) := by decide +kernel
theorem dX7_edge_19 : decode cX7_edge 19 = .ok (.ifCond .eq 8, 3) := by decide +kernel
theorem dX7_edge_22 : decode cX7_edge 22 = .ok (.iload_n 1, 1) := by decide +kernel
theorem dX7_edge_23 : decode cX7_edge 23 = .ok (.iload_n 2, 1) := by decide +kernel
theorem dX7_edge_24 : decode cX7_edge 24 = .ok (.if_icmp .ne 5, 3) := by decide +kernel
theorem dX7_edge_27 : decode cX7_edge 27 = .ok (.iconst (-1), 1) := by decide +kernel
theorem dX7_edge_28 : decode cX7_edge 28 = .ok (.ireturn, 1) := by decide +kernel
theorem dX7_edge_29 : decode cX7_edge 29 = .ok (.aload_n 0, 1) := by decide +kernel
theorem dX7_edge_30 : decode cX7_edge 30 = .ok (.getfield 10, 3) := by decide +kernel
theorem dX7_edge_33 : decode cX7_edge 33 = .ok (.iload_n 1, 1) := by decide +kernel
theorem dX7_edge_34 : decode cX7_edge 34 = .ok (.iload_n 2, 1) := by decide +kernel
theorem dX7_edge_35 : decode cX7_edge 35 = .ok (.invokevirtual 77, 3) := by decide +kernel
theorem dX7_edge_38 : decode cX7_edge 38 = .ok (.iload_n 3, 1) := by decide +kernel
theorem dX7_edge_39 : decode cX7_edge 39 = .ok (.if_icmp .ne 5, 3) := by decide +kernel
theorem dX7_edge_42 : decode cX7_edge 42 = .ok (.iconst 0, 1) := by decide +kernel
theorem dX7_edge_43 : decode cX7_edge 43 = .ok (.ireturn, 1) := by decide +kernel
theorem dX7_edge_44 : decode cX7_edge 44 = .ok (.aload_n 0, 1) := by decide +kernel
theorem dX7_edge_45 : decode cX7_edge 45 = .ok (.getfield 10, 3) := by decide +kernel
theorem dX7_edge_48 : decode cX7_edge 48 = .ok (.iload_n 1, 1) := by decide +kernel
theorem dX7_edge_49 : decode cX7_edge 49 = .ok (.iload_n 2, 1) := by decide +kernel
theorem dX7_edge_50 : decode cX7_edge 50 = .ok (.invokevirtual 81, 3) := by decide +kernel
theorem dX7_edge_53 : decode cX7_edge 53 = .ok (.aload_n 0, 1) := by decide +kernel
theorem dX7_edge_54 : decode cX7_edge 54 = .ok (.getfield 39, 3) := by decide +kernel
theorem dX7_edge_57 : decode cX7_edge 57 = .ok (.invokevirtual 70, 3) := by decide +kernel
theorem dX7_edge_60 : decode cX7_edge 60 = .ok (.iconst 1, 1) := by decide +kernel
theorem dX7_edge_61 : decode cX7_edge 61 = .ok (.ireturn, 1) := by decide +kernel
theorem dX7_draw_0 : decode cX7_draw 0 = .ok (.iload_n 2, 1) := by decide +kernel
theorem dX7_draw_1 : decode cX7_draw 1 = .ok (.ifCond .lt 9, 3) := by decide +kernel
theorem dX7_draw_4 : decode cX7_draw 4 = .ok (.iload_n 2, 1) := by decide +kernel
theorem dX7_draw_5 : decode cX7_draw 5 = .ok (.bipush 100, 2) := by decide +kernel
theorem dX7_draw_7 : decode cX7_draw 7 = .ok (.if_icmp .le 5, 3) := by decide +kernel
theorem dX7_draw_10 : decode cX7_draw 10 = .ok (.iconst (-1), 1) := by decide +kernel
theorem dX7_draw_11 : decode cX7_draw 11 = .ok (.ireturn, 1) := by decide +kernel
theorem dX7_draw_12 : decode cX7_draw 12 = .ok (.aload_n 0, 1) := by decide +kernel
theorem dX7_draw_13 : decode cX7_draw 13 = .ok (.getfield 10, 3) := by decide +kernel
theorem dX7_draw_16 : decode cX7_draw 16 = .ok (.iload_n 1, 1) := by decide +kernel
theorem dX7_draw_17 : decode cX7_draw 17 = .ok (.iload_n 2, 1) := by decide +kernel
theorem dX7_draw_18 : decode cX7_draw 18 = .ok (.invokevirtual 85, 3) := by decide +kernel
theorem dX7_draw_21 : decode cX7_draw 21 = .ok (.aload_n 0, 1) := by decide +kernel
theorem dX7_draw_22 : decode cX7_draw 22 = .ok (.getfield 39, 3) := by decide +kernel
theorem dX7_draw_25 : decode cX7_draw 25 = .ok (.invokevirtual 70, 3) := by decide +kernel
theorem dX7_draw_28 : decode cX7_draw 28 = .ok (.aload_n 0, 1) := by decide +kernel
theorem dX7_draw_29 : decode cX7_draw 29 = .ok (.getfield 10, 3) := by decide +kernel
theorem dX7_draw_32 : decode cX7_draw 32 = .ok (.invokevirtual 88, 3) := by decide +kernel
theorem dX7_draw_35 : decode cX7_draw 35 = .ok (.ireturn, 1) := by decide +kernel
theorem dX7_turn_0 : decode cX7_turn 0 = .ok (.aload_n 0, 1) := by decide +kernel
theorem dX7_turn_1 : decode cX7_turn 1 = .ok (.getfield 10, 3) := by decide +kernel
theorem dX7_turn_4 : decode cX7_turn 4 = .ok (.iload_n 2, 1) := by decide +kernel
theorem dX7_turn_5 : decode cX7_turn 5 = .ok (.invokevirtual 73, 3) := by decide +kernel
theorem dX7_turn_8 : decode cX7_turn 8 = .ok (.ifCond .eq 25, 3) := by decide +kernel
theorem dX7_turn_11 : decode cX7_turn 11 = .ok (.iload_n 1, 1) := by decide +kernel
theorem dX7_turn_12 : decode cX7_turn 12 = .ok (.iconst 1, 1) := by decide +kernel
theorem dX7_turn_13 : decode cX7_turn 13 = .ok (.if_icmp .lt 20, 3) := by decide +kernel
theorem dX7_turn_16 : decode cX7_turn 16 = .ok (.iload_n 1, 1) := by decide +kernel
theorem dX7_turn_17 : decode cX7_turn 17 = .ok (.bipush 30, 2) := by decide +kernel
theorem dX7_turn_19 : decode cX7_turn 19 = .ok (.if_icmp .gt 14, 3) := by decide +kernel
theorem dX7_turn_22 : decode cX7_turn 22 = .ok (.aload_n 0, 1) := by decide +kernel
theorem dX7_turn_23 : decode cX7_turn 23 = .ok (.getfield 10, 3) := by decide +kernel
theorem dX7_turn_26 : decode cX7_turn 26 = .ok (.iload_n 1, 1) := by decide +kernel
theorem dX7_turn_27 : decode cX7_turn 27 = .ok (.invokevirtual 92, 3) := by decide +kernel
theorem dX7_turn_30 : decode cX7_turn 30 = .ok (.ifCond .eq 5, 3) := by decide +kernel
theorem dX7_turn_33 : decode cX7_turn 33 = .ok (.iconst (-1), 1) := by decide +kernel
theorem dX7_turn_34 : decode cX7_turn 34 = .ok (.ireturn, 1) := by decide +kernel
theorem dX7_turn_35 : decode cX7_turn 35 = .ok (.aload_n 0, 1) := by decide +kernel
theorem dX7_turn_36 : decode cX7_turn 36 = .ok (.getfield 10, 3) := by decide +kernel
theorem dX7_turn_39 : decode cX7_turn 39 = .ok (.iload_n 1, 1) := by decide +kernel
theorem dX7_turn_40 : decode cX7_turn 40 = .ok (.iload_n 2, 1) := by decide +kernel
theorem dX7_turn_41 : decode cX7_turn 41 = .ok (.invokevirtual 95, 3) := by decide +kernel
theorem dX7_turn_44 : decode cX7_turn 44 = .ok (.aload_n 0, 1) := by decide +kernel
theorem dX7_turn_45 : decode cX7_turn 45 = .ok (.getfield 39, 3) := by decide +kernel
theorem dX7_turn_48 : decode cX7_turn 48 = .ok (.invokevirtual 70, 3) := by decide +kernel
theorem dX7_turn_51 : decode cX7_turn 51 = .ok (.iconst 1, 1) := by decide +kernel
theorem dX7_turn_52 : decode cX7_turn 52 = .ok (.ireturn, 1) := by decide +kernel
theorem dX7_count_0 : decode cX7_count 0 = .ok (.iload_n 1, 1) := by decide +kernel
theorem dX7_count_1 : decode cX7_count 1 = .ok (.tableswitch 51 0 2 #[27, 35, 43], 27) := by decide +kernel
theorem dX7_count_28 : decode cX7_count 28 = .ok (.aload_n 0, 1) := by decide +kernel
theorem dX7_count_29 : decode cX7_count 29 = .ok (.getfield 10, 3) := by decide +kernel
theorem dX7_count_32 : decode cX7_count 32 = .ok (.getfield 98, 3) := by decide +kernel
theorem dX7_count_35 : decode cX7_count 35 = .ok (.ireturn, 1) := by decide +kernel
theorem dX7_count_36 : decode cX7_count 36 = .ok (.aload_n 0, 1) := by decide +kernel
theorem dX7_count_37 : decode cX7_count 37 = .ok (.getfield 10, 3) := by decide +kernel
theorem dX7_count_40 : decode cX7_count 40 = .ok (.invokevirtual 88, 3) := by decide +kernel
theorem dX7_count_43 : decode cX7_count 43 = .ok (.ireturn, 1) := by decide +kernel
theorem dX7_count_44 : decode cX7_count 44 = .ok (.aload_n 0, 1) := by decide +kernel
theorem dX7_count_45 : decode cX7_count 45 = .ok (.getfield 10, 3) := by decide +kernel
theorem dX7_count_48 : decode cX7_count 48 = .ok (.invokevirtual 102, 3) := by decide +kernel
theorem dX7_count_51 : decode cX7_count 51 = .ok (.ireturn, 1) := by decide +kernel
theorem dX7_count_52 : decode cX7_count 52 = .ok (.iconst (-1), 1) := by decide +kernel
theorem dX7_count_53 : decode cX7_count 53 = .ok (.ireturn, 1) := by decide +kernel
theorem dX7_has_0 : decode cX7_has 0 = .ok (.aload_n 0, 1) := by decide +kernel
theorem dX7_has_1 : decode cX7_has 1 = .ok (.getfield 10, 3) := by decide +kernel
theorem dX7_has_4 : decode cX7_has 4 = .ok (.iload_n 1, 1) := by decide +kernel
theorem dX7_has_5 : decode cX7_has 5 = .ok (.invokevirtual 73, 3) := by decide +kernel
theorem dX7_has_8 : decode cX7_has 8 = .ok (.ifCond .eq 30, 3) := by decide +kernel
theorem dX7_has_11 : decode cX7_has 11 = .ok (.aload_n 0, 1) := by decide +kernel
theorem dX7_has_12 : decode cX7_has 12 = .ok (.getfield 10, 3) := by decide +kernel
theorem dX7_has_15 : decode cX7_has 15 = .ok (.iload_n 2, 1) := by decide +kernel
theorem dX7_has_16 : decode cX7_has 16 = .ok (.invokevirtual 73, 3) := by decide +kernel
theorem dX7_has_19 : decode cX7_has 19 = .ok (.ifCond .eq 19, 3) := by decide +kernel
theorem dX7_has_22 : decode cX7_has 22 = .ok (.aload_n 0, 1) := by decide +kernel
theorem dX7_has_23 : decode cX7_has 23 = .ok (.getfield 10, 3) := by decide +kernel
theorem dX7_has_26 : decode cX7_has 26 = .ok (.iload_n 1, 1) := by decide +kernel
theorem dX7_has_27 : decode cX7_has 27 = .ok (.iload_n 2, 1) := by decide +kernel
theorem dX7_has_28 : decode cX7_has 28 = .ok (.invokevirtual 77, 3) := by decide +kernel
theorem dX7_has_31 : decode cX7_has 31 = .ok (.ifCond .eq 7, 3) := by decide +kernel
theorem dX7_has_34 : decode cX7_has 34 = .ok (.iconst 1, 1) := by decide +kernel
theorem dX7_has_35 : decode cX7_has 35 = .ok (.goto 4, 3) := by decide +kernel
theorem dX7_has_38 : decode cX7_has 38 = .ok (.iconst 0, 1) := by decide +kernel
theorem dX7_has_39 : decode cX7_has 39 = .ok (.ireturn, 1) := by decide +kernel
theorem dX7_degree_0 : decode cX7_degree 0 = .ok (.aload_n 0, 1) := by decide +kernel
theorem dX7_degree_1 : decode cX7_degree 1 = .ok (.getfield 10, 3) := by decide +kernel
theorem dX7_degree_4 : decode cX7_degree 4 = .ok (.iload_n 1, 1) := by decide +kernel
theorem dX7_degree_5 : decode cX7_degree 5 = .ok (.invokevirtual 73, 3) := by decide +kernel
theorem dX7_degree_8 : decode cX7_degree 8 = .ok (.ifCond .eq 14, 3) := by decide +kernel
theorem dX7_degree_11 : decode cX7_degree 11 = .ok (.aload_n 0, 1) := by decide +kernel
theorem dX7_degree_12 : decode cX7_degree 12 = .ok (.getfield 10, 3) := by decide +kernel
theorem dX7_degree_15 : decode cX7_degree 15 = .ok (.iload_n 1, 1) := by decide +kernel
theorem dX7_degree_16 : decode cX7_degree 16 = .ok (.invokevirtual 105, 3) := by decide +kernel
theorem dX7_degree_19 : decode cX7_degree 19 = .ok (.goto 4, 3) := by decide +kernel
theorem dX7_degree_22 : decode cX7_degree 22 = .ok (.iconst (-1), 1) := by decide +kernel
theorem dX7_degree_23 : decode cX7_degree 23 = .ok (.ireturn, 1) := by decide +kernel
theorem dX7_solve_0 : decode cX7_solve 0 = .ok (.aload_n 0, 1) := by decide +kernel
theorem dX7_solve_1 : decode cX7_solve 1 = .ok (.getfield 39, 3) := by decide +kernel
theorem dX7_solve_4 : decode cX7_solve 4 = .ok (.invokevirtual 109, 3) := by decide +kernel
theorem dX7_solve_7 : decode cX7_solve 7 = .ok (.ireturn, 1) := by decide +kernel
theorem dX7_colour_0 : decode cX7_colour 0 = .ok (.aload_n 0, 1) := by decide +kernel
theorem dX7_colour_1 : decode cX7_colour 1 = .ok (.getfield 10, 3) := by decide +kernel
theorem dX7_colour_4 : decode cX7_colour 4 = .ok (.iload_n 1, 1) := by decide +kernel
theorem dX7_colour_5 : decode cX7_colour 5 = .ok (.invokevirtual 73, 3) := by decide +kernel
theorem dX7_colour_8 : decode cX7_colour 8 = .ok (.ifCond .ne 5, 3) := by decide +kernel
theorem dX7_colour_11 : decode cX7_colour 11 = .ok (.iconst (-1), 1) := by decide +kernel
theorem dX7_colour_12 : decode cX7_colour 12 = .ok (.ireturn, 1) := by decide +kernel
theorem dX7_colour_13 : decode cX7_colour 13 = .ok (.aload_n 0, 1) := by decide +kernel
theorem dX7_colour_14 : decode cX7_colour 14 = .ok (.getfield 39, 3) := by decide +kernel
theorem dX7_colour_17 : decode cX7_colour 17 = .ok (.getfield 112, 3) := by decide +kernel
theorem dX7_colour_20 : decode cX7_colour 20 = .ok (.ifCond .eq 15, 3) := by decide +kernel
theorem dX7_colour_23 : decode cX7_colour 23 = .ok (.aload_n 0, 1) := by decide +kernel
theorem dX7_colour_24 : decode cX7_colour 24 = .ok (.getfield 39, 3) := by decide +kernel
theorem dX7_colour_27 : decode cX7_colour 27 = .ok (.getfield 116, 3) := by decide +kernel
theorem dX7_colour_30 : decode cX7_colour 30 = .ok (.iload_n 1, 1) := by decide +kernel
theorem dX7_colour_31 : decode cX7_colour 31 = .ok (.iaload, 1) := by decide +kernel
theorem dX7_colour_32 : decode cX7_colour 32 = .ok (.goto 5, 3) := by decide +kernel
theorem dX7_colour_35 : decode cX7_colour 35 = .ok (.bipush (-2), 2) := by decide +kernel
theorem dX7_colour_37 : decode cX7_colour 37 = .ok (.ireturn, 1) := by decide +kernel
theorem dX7_clique_0 : decode cX7_clique 0 = .ok (.aload_n 0, 1) := by decide +kernel
theorem dX7_clique_1 : decode cX7_clique 1 = .ok (.getfield 10, 3) := by decide +kernel
theorem dX7_clique_4 : decode cX7_clique 4 = .ok (.invokevirtual 120, 3) := by decide +kernel
theorem dX7_clique_7 : decode cX7_clique 7 = .ok (.ireturn, 1) := by decide +kernel
theorem dX7_first_0 : decode cX7_first 0 = .ok (.aload_n 0, 1) := by decide +kernel
theorem dX7_first_1 : decode cX7_first 1 = .ok (.getfield 21, 3) := by decide +kernel
theorem dX7_first_4 : decode cX7_first 4 = .ok (.invokevirtual 123, 3) := by decide +kernel
theorem dX7_first_7 : decode cX7_first 7 = .ok (.aload_n 0, 1) := by decide +kernel
theorem dX7_first_8 : decode cX7_first 8 = .ok (.getfield 21, 3) := by decide +kernel
theorem dX7_first_11 : decode cX7_first 11 = .ok (.getfield 126, 3) := by decide +kernel
theorem dX7_first_14 : decode cX7_first 14 = .ok (.ireturn, 1) := by decide +kernel
theorem dX7_lines_0 : decode cX7_lines 0 = .ok (.aload_n 0, 1) := by decide +kernel
theorem dX7_lines_1 : decode cX7_lines 1 = .ok (.getfield 39, 3) := by decide +kernel
theorem dX7_lines_4 : decode cX7_lines 4 = .ok (.getfield 112, 3) := by decide +kernel
theorem dX7_lines_7 : decode cX7_lines 7 = .ok (.ifCond .eq 16, 3) := by decide +kernel
theorem dX7_lines_10 : decode cX7_lines 10 = .ok (.aload_n 0, 1) := by decide +kernel
theorem dX7_lines_11 : decode cX7_lines 11 = .ok (.getfield 39, 3) := by decide +kernel
theorem dX7_lines_14 : decode cX7_lines 14 = .ok (.getfield 129, 3) := by decide +kernel
theorem dX7_lines_17 : decode cX7_lines 17 = .ok (.getfield 132, 3) := by decide +kernel
theorem dX7_lines_20 : decode cX7_lines 20 = .ok (.goto 5, 3) := by decide +kernel
theorem dX7_lines_23 : decode cX7_lines 23 = .ok (.bipush (-2), 2) := by decide +kernel
theorem dX7_lines_25 : decode cX7_lines 25 = .ok (.ireturn, 1) := by decide +kernel
theorem dX7_line_0 : decode cX7_line 0 = .ok (.aload_n 0, 1) := by decide +kernel
theorem dX7_line_1 : decode cX7_line 1 = .ok (.getfield 39, 3) := by decide +kernel
theorem dX7_line_4 : decode cX7_line 4 = .ok (.getfield 112, 3) := by decide +kernel
theorem dX7_line_7 : decode cX7_line 7 = .ok (.ifCond .eq 18, 3) := by decide +kernel
theorem dX7_line_10 : decode cX7_line 10 = .ok (.aload_n 0, 1) := by decide +kernel
theorem dX7_line_11 : decode cX7_line 11 = .ok (.getfield 39, 3) := by decide +kernel
theorem dX7_line_14 : decode cX7_line 14 = .ok (.getfield 129, 3) := by decide +kernel
theorem dX7_line_17 : decode cX7_line 17 = .ok (.iload_n 1, 1) := by decide +kernel
theorem dX7_line_18 : decode cX7_line 18 = .ok (.iload_n 2, 1) := by decide +kernel
theorem dX7_line_19 : decode cX7_line 19 = .ok (.invokevirtual 133, 3) := by decide +kernel
theorem dX7_line_22 : decode cX7_line 22 = .ok (.goto 5, 3) := by decide +kernel
theorem dX7_line_25 : decode cX7_line 25 = .ok (.bipush (-2), 2) := by decide +kernel
theorem dX7_line_27 : decode cX7_line 27 = .ok (.ireturn, 1) := by decide +kernel
theorem dX7_work_0 : decode cX7_work 0 = .ok (.aload_n 0, 1) := by decide +kernel
theorem dX7_work_1 : decode cX7_work 1 = .ok (.getfield 39, 3) := by decide +kernel
theorem dX7_work_4 : decode cX7_work 4 = .ok (.getfield 112, 3) := by decide +kernel
theorem dX7_work_7 : decode cX7_work 7 = .ok (.ifCond .ne 6, 3) := by decide +kernel
theorem dX7_work_10 : decode cX7_work 10 = .ok (.bipush (-2), 2) := by decide +kernel
theorem dX7_work_12 : decode cX7_work 12 = .ok (.ireturn, 1) := by decide +kernel
theorem dX7_work_13 : decode cX7_work 13 = .ok (.iload_n 1, 1) := by decide +kernel
theorem dX7_work_14 : decode cX7_work 14 = .ok (.ifCond .lt 8, 3) := by decide +kernel
theorem dX7_work_17 : decode cX7_work 17 = .ok (.iload_n 1, 1) := by decide +kernel
theorem dX7_work_18 : decode cX7_work 18 = .ok (.iconst 5, 1) := by decide +kernel
theorem dX7_work_19 : decode cX7_work 19 = .ok (.if_icmp .lt 7, 3) := by decide +kernel
theorem dX7_work_22 : decode cX7_work 22 = .ok (.iconst (-1), 1) := by decide +kernel
theorem dX7_work_23 : decode cX7_work 23 = .ok (.goto 12, 3) := by decide +kernel
theorem dX7_work_26 : decode cX7_work 26 = .ok (.aload_n 0, 1) := by decide +kernel
theorem dX7_work_27 : decode cX7_work 27 = .ok (.getfield 39, 3) := by decide +kernel
theorem dX7_work_30 : decode cX7_work 30 = .ok (.getfield 137, 3) := by decide +kernel
theorem dX7_work_33 : decode cX7_work 33 = .ok (.iload_n 1, 1) := by decide +kernel
theorem dX7_work_34 : decode cX7_work 34 = .ok (.iaload, 1) := by decide +kernel
theorem dX7_work_35 : decode cX7_work 35 = .ok (.ireturn, 1) := by decide +kernel
theorem dX7_search_0 : decode cX7_search 0 = .ok (.iload_n 1, 1) := by decide +kernel
theorem dX7_search_1 : decode cX7_search 1 = .ok (.ifCond .lt 9, 3) := by decide +kernel
theorem dX7_search_4 : decode cX7_search 4 = .ok (.iload_n 1, 1) := by decide +kernel
theorem dX7_search_5 : decode cX7_search 5 = .ok (.bipush 30, 2) := by decide +kernel
theorem dX7_search_7 : decode cX7_search 7 = .ok (.if_icmp .le 5, 3) := by decide +kernel
theorem dX7_search_10 : decode cX7_search 10 = .ok (.iconst (-1), 1) := by decide +kernel
theorem dX7_search_11 : decode cX7_search 11 = .ok (.ireturn, 1) := by decide +kernel
theorem dX7_search_12 : decode cX7_search 12 = .ok (.aload_n 0, 1) := by decide +kernel
theorem dX7_search_13 : decode cX7_search 13 = .ok (.getfield 30, 3) := by decide +kernel
theorem dX7_search_16 : decode cX7_search 16 = .ok (.iload_n 1, 1) := by decide +kernel
theorem dX7_search_17 : decode cX7_search 17 = .ok (.invokevirtual 140, 3) := by decide +kernel
theorem dX7_search_20 : decode cX7_search 20 = .ok (.istore_n 2, 1) := by decide +kernel
theorem dX7_search_21 : decode cX7_search 21 = .ok (.iload_n 2, 1) := by decide +kernel
theorem dX7_search_22 : decode cX7_search 22 = .ok (.iconst 2, 1) := by decide +kernel
theorem dX7_search_23 : decode cX7_search 23 = .ok (.if_icmp .ne 6, 3) := by decide +kernel
theorem dX7_search_26 : decode cX7_search 26 = .ok (.bipush (-3), 2) := by decide +kernel
theorem dX7_search_28 : decode cX7_search 28 = .ok (.ireturn, 1) := by decide +kernel
theorem dX7_search_29 : decode cX7_search 29 = .ok (.aload_n 0, 1) := by decide +kernel
theorem dX7_search_30 : decode cX7_search 30 = .ok (.getfield 46, 3) := by decide +kernel
theorem dX7_search_33 : decode cX7_search 33 = .ok (.aload_n 0, 1) := by decide +kernel
theorem dX7_search_34 : decode cX7_search 34 = .ok (.getfield 30, 3) := by decide +kernel
theorem dX7_search_37 : decode cX7_search 37 = .ok (.getfield 143, 3) := by decide +kernel
theorem dX7_search_40 : decode cX7_search 40 = .ok (.invokevirtual 144, 3) := by decide +kernel
theorem dX7_search_43 : decode cX7_search 43 = .ok (.iload_n 2, 1) := by decide +kernel
theorem dX7_search_44 : decode cX7_search 44 = .ok (.iconst 1, 1) := by decide +kernel
theorem dX7_search_45 : decode cX7_search 45 = .ok (.if_icmp .ne 7, 3) := by decide +kernel
theorem dX7_search_48 : decode cX7_search 48 = .ok (.iconst 1, 1) := by decide +kernel
theorem dX7_search_49 : decode cX7_search 49 = .ok (.goto 4, 3) := by decide +kernel
theorem dX7_search_52 : decode cX7_search 52 = .ok (.iconst 0, 1) := by decide +kernel
theorem dX7_search_53 : decode cX7_search 53 = .ok (.ireturn, 1) := by decide +kernel
theorem dX7_tell_0 : decode cX7_tell 0 = .ok (.iload_n 1, 1) := by decide +kernel
theorem dX7_tell_1 : decode cX7_tell 1 = .ok (.invokestatic 148, 3) := by decide +kernel
theorem dX7_tell_4 : decode cX7_tell 4 = .ok (.ifCond .ne 5, 3) := by decide +kernel
theorem dX7_tell_7 : decode cX7_tell 7 = .ok (.iconst (-1), 1) := by decide +kernel
theorem dX7_tell_8 : decode cX7_tell 8 = .ok (.ireturn, 1) := by decide +kernel
theorem dX7_tell_9 : decode cX7_tell 9 = .ok (.aload_n 0, 1) := by decide +kernel
theorem dX7_tell_10 : decode cX7_tell 10 = .ok (.getfield 46, 3) := by decide +kernel
theorem dX7_tell_13 : decode cX7_tell 13 = .ok (.iload_n 1, 1) := by decide +kernel
theorem dX7_tell_14 : decode cX7_tell 14 = .ok (.iload_n 2, 1) := by decide +kernel
theorem dX7_tell_15 : decode cX7_tell 15 = .ok (.invokevirtual 151, 3) := by decide +kernel
theorem dX7_tell_18 : decode cX7_tell 18 = .ok (.ifCond .eq 13, 3) := by decide +kernel
theorem dX7_tell_21 : decode cX7_tell 21 = .ok (.aload_n 0, 1) := by decide +kernel
theorem dX7_tell_22 : decode cX7_tell 22 = .ok (.getfield 46, 3) := by decide +kernel
theorem dX7_tell_25 : decode cX7_tell 25 = .ok (.getfield 132, 3) := by decide +kernel
theorem dX7_tell_28 : decode cX7_tell 28 = .ok (.goto 5, 3) := by decide +kernel
theorem dX7_tell_31 : decode cX7_tell 31 = .ok (.bipush (-3), 2) := by decide +kernel
theorem dX7_tell_33 : decode cX7_tell 33 = .ok (.ireturn, 1) := by decide +kernel
theorem dX7_take_0 : decode cX7_take 0 = .ok (.aload_n 0, 1) := by decide +kernel
theorem dX7_take_1 : decode cX7_take 1 = .ok (.getfield 39, 3) := by decide +kernel
theorem dX7_take_4 : decode cX7_take 4 = .ok (.getfield 112, 3) := by decide +kernel
theorem dX7_take_7 : decode cX7_take 7 = .ok (.ifCond .ne 6, 3) := by decide +kernel
theorem dX7_take_10 : decode cX7_take 10 = .ok (.bipush (-2), 2) := by decide +kernel
theorem dX7_take_12 : decode cX7_take 12 = .ok (.ireturn, 1) := by decide +kernel
theorem dX7_take_13 : decode cX7_take 13 = .ok (.aload_n 0, 1) := by decide +kernel
theorem dX7_take_14 : decode cX7_take 14 = .ok (.getfield 46, 3) := by decide +kernel
theorem dX7_take_17 : decode cX7_take 17 = .ok (.aload_n 0, 1) := by decide +kernel
theorem dX7_take_18 : decode cX7_take 18 = .ok (.getfield 39, 3) := by decide +kernel
theorem dX7_take_21 : decode cX7_take 21 = .ok (.getfield 129, 3) := by decide +kernel
theorem dX7_take_24 : decode cX7_take 24 = .ok (.invokevirtual 144, 3) := by decide +kernel
theorem dX7_take_27 : decode cX7_take 27 = .ok (.aload_n 0, 1) := by decide +kernel
theorem dX7_take_28 : decode cX7_take 28 = .ok (.getfield 46, 3) := by decide +kernel
theorem dX7_take_31 : decode cX7_take 31 = .ok (.getfield 132, 3) := by decide +kernel
theorem dX7_take_34 : decode cX7_take 34 = .ok (.ireturn, 1) := by decide +kernel
theorem dX7_alter_0 : decode cX7_alter 0 = .ok (.aload_n 0, 1) := by decide +kernel
theorem dX7_alter_1 : decode cX7_alter 1 = .ok (.getfield 46, 3) := by decide +kernel
theorem dX7_alter_4 : decode cX7_alter 4 = .ok (.iload_n 1, 1) := by decide +kernel
theorem dX7_alter_5 : decode cX7_alter 5 = .ok (.invokevirtual 154, 3) := by decide +kernel
theorem dX7_alter_8 : decode cX7_alter 8 = .ok (.ifCond .eq 10, 3) := by decide +kernel
theorem dX7_alter_11 : decode cX7_alter 11 = .ok (.iload_n 2, 1) := by decide +kernel
theorem dX7_alter_12 : decode cX7_alter 12 = .ok (.invokestatic 148, 3) := by decide +kernel
theorem dX7_alter_15 : decode cX7_alter 15 = .ok (.ifCond .ne 5, 3) := by decide +kernel
theorem dX7_alter_18 : decode cX7_alter 18 = .ok (.iconst (-1), 1) := by decide +kernel
theorem dX7_alter_19 : decode cX7_alter 19 = .ok (.ireturn, 1) := by decide +kernel
theorem dX7_alter_20 : decode cX7_alter 20 = .ok (.aload_n 0, 1) := by decide +kernel
theorem dX7_alter_21 : decode cX7_alter 21 = .ok (.getfield 46, 3) := by decide +kernel
theorem dX7_alter_24 : decode cX7_alter 24 = .ok (.getfield 157, 3) := by decide +kernel
theorem dX7_alter_27 : decode cX7_alter 27 = .ok (.iload_n 1, 1) := by decide +kernel
theorem dX7_alter_28 : decode cX7_alter 28 = .ok (.iload_n 2, 1) := by decide +kernel
theorem dX7_alter_29 : decode cX7_alter 29 = .ok (.iastore, 1) := by decide +kernel
theorem dX7_alter_30 : decode cX7_alter 30 = .ok (.aload_n 0, 1) := by decide +kernel
theorem dX7_alter_31 : decode cX7_alter 31 = .ok (.getfield 46, 3) := by decide +kernel
theorem dX7_alter_34 : decode cX7_alter 34 = .ok (.getfield 160, 3) := by decide +kernel
theorem dX7_alter_37 : decode cX7_alter 37 = .ok (.iload_n 1, 1) := by decide +kernel
theorem dX7_alter_38 : decode cX7_alter 38 = .ok (.iload_n 3, 1) := by decide +kernel
theorem dX7_alter_39 : decode cX7_alter 39 = .ok (.iastore, 1) := by decide +kernel
theorem dX7_alter_40 : decode cX7_alter 40 = .ok (.iconst 1, 1) := by decide +kernel
theorem dX7_alter_41 : decode cX7_alter 41 = .ok (.ireturn, 1) := by decide +kernel
theorem dX7_cut_0 : decode cX7_cut 0 = .ok (.iload_n 1, 1) := by decide +kernel
theorem dX7_cut_1 : decode cX7_cut 1 = .ok (.ifCond .lt 14, 3) := by decide +kernel
theorem dX7_cut_4 : decode cX7_cut 4 = .ok (.iload_n 1, 1) := by decide +kernel
theorem dX7_cut_5 : decode cX7_cut 5 = .ok (.aload_n 0, 1) := by decide +kernel
theorem dX7_cut_6 : decode cX7_cut 6 = .ok (.getfield 46, 3) := by decide +kernel
theorem dX7_cut_9 : decode cX7_cut 9 = .ok (.getfield 132, 3) := by decide +kernel
theorem dX7_cut_12 : decode cX7_cut 12 = .ok (.if_icmp .le 5, 3) := by decide +kernel
theorem dX7_cut_15 : decode cX7_cut 15 = .ok (.iconst (-1), 1) := by decide +kernel
theorem dX7_cut_16 : decode cX7_cut 16 = .ok (.ireturn, 1) := by decide +kernel
theorem dX7_cut_17 : decode cX7_cut 17 = .ok (.aload_n 0, 1) := by decide +kernel
theorem dX7_cut_18 : decode cX7_cut 18 = .ok (.getfield 46, 3) := by decide +kernel
theorem dX7_cut_21 : decode cX7_cut 21 = .ok (.iload_n 1, 1) := by decide +kernel
theorem dX7_cut_22 : decode cX7_cut 22 = .ok (.putfield 132, 3) := by decide +kernel
theorem dX7_cut_25 : decode cX7_cut 25 = .ok (.iload_n 1, 1) := by decide +kernel
theorem dX7_cut_26 : decode cX7_cut 26 = .ok (.ireturn, 1) := by decide +kernel
theorem dX7_told_0 : decode cX7_told 0 = .ok (.aload_n 0, 1) := by decide +kernel
theorem dX7_told_1 : decode cX7_told 1 = .ok (.getfield 46, 3) := by decide +kernel
theorem dX7_told_4 : decode cX7_told 4 = .ok (.iload_n 1, 1) := by decide +kernel
theorem dX7_told_5 : decode cX7_told 5 = .ok (.iload_n 2, 1) := by decide +kernel
theorem dX7_told_6 : decode cX7_told 6 = .ok (.invokevirtual 133, 3) := by decide +kernel
theorem dX7_told_9 : decode cX7_told 9 = .ok (.ireturn, 1) := by decide +kernel
theorem dX7_check_0 : decode cX7_check 0 = .ok (.iload_n 1, 1) := by decide +kernel
theorem dX7_check_1 : decode cX7_check 1 = .ok (.ifCond .lt 9, 3) := by decide +kernel
theorem dX7_check_4 : decode cX7_check 4 = .ok (.iload_n 1, 1) := by decide +kernel
theorem dX7_check_5 : decode cX7_check 5 = .ok (.bipush 30, 2) := by decide +kernel
theorem dX7_check_7 : decode cX7_check 7 = .ok (.if_icmp .le 8, 3) := by decide +kernel
theorem dX7_check_10 : decode cX7_check 10 = .ok (.bipush (-2), 2) := by decide +kernel
theorem dX7_check_12 : decode cX7_check 12 = .ok (.goto 11, 3) := by decide +kernel
theorem dX7_check_15 : decode cX7_check 15 = .ok (.aload_n 0, 1) := by decide +kernel
theorem dX7_check_16 : decode cX7_check 16 = .ok (.getfield 55, 3) := by decide +kernel
theorem dX7_check_19 : decode cX7_check 19 = .ok (.iload_n 1, 1) := by decide +kernel
theorem dX7_check_20 : decode cX7_check 20 = .ok (.invokevirtual 163, 3) := by decide +kernel
theorem dX7_check_23 : decode cX7_check 23 = .ok (.ireturn, 1) := by decide +kernel
theorem dX7_paint_0 : decode cX7_paint 0 = .ok (.iload_n 1, 1) := by decide +kernel
theorem dX7_paint_1 : decode cX7_paint 1 = .ok (.ifCond .lt 21, 3) := by decide +kernel
theorem dX7_paint_4 : decode cX7_paint 4 = .ok (.iload_n 1, 1) := by decide +kernel
theorem dX7_paint_5 : decode cX7_paint 5 = .ok (.bipush 30, 2) := by decide +kernel
theorem dX7_paint_7 : decode cX7_paint 7 = .ok (.if_icmp .ge 15, 3) := by decide +kernel
theorem dX7_paint_10 : decode cX7_paint 10 = .ok (.iload_n 2, 1) := by decide +kernel
theorem dX7_paint_11 : decode cX7_paint 11 = .ok (.iconst (-1), 1) := by decide +kernel
theorem dX7_paint_12 : decode cX7_paint 12 = .ok (.if_icmp .eq 13, 3) := by decide +kernel
theorem dX7_paint_15 : decode cX7_paint 15 = .ok (.iload_n 2, 1) := by decide +kernel
theorem dX7_paint_16 : decode cX7_paint 16 = .ok (.invokestatic 166, 3) := by decide +kernel
theorem dX7_paint_19 : decode cX7_paint 19 = .ok (.ifCond .ne 6, 3) := by decide +kernel
theorem dX7_paint_22 : decode cX7_paint 22 = .ok (.bipush (-2), 2) := by decide +kernel
theorem dX7_paint_24 : decode cX7_paint 24 = .ok (.ireturn, 1) := by decide +kernel
theorem dX7_paint_25 : decode cX7_paint 25 = .ok (.aload_n 0, 1) := by decide +kernel
theorem dX7_paint_26 : decode cX7_paint 26 = .ok (.getfield 62, 3) := by decide +kernel
theorem dX7_paint_29 : decode cX7_paint 29 = .ok (.getfield 169, 3) := by decide +kernel
theorem dX7_paint_32 : decode cX7_paint 32 = .ok (.iload_n 1, 1) := by decide +kernel
theorem dX7_paint_33 : decode cX7_paint 33 = .ok (.iaload, 1) := by decide +kernel
theorem dX7_paint_34 : decode cX7_paint 34 = .ok (.istore_n 3, 1) := by decide +kernel
theorem dX7_paint_35 : decode cX7_paint 35 = .ok (.aload_n 0, 1) := by decide +kernel
theorem dX7_paint_36 : decode cX7_paint 36 = .ok (.getfield 62, 3) := by decide +kernel
theorem dX7_paint_39 : decode cX7_paint 39 = .ok (.getfield 169, 3) := by decide +kernel
theorem dX7_paint_42 : decode cX7_paint 42 = .ok (.iload_n 1, 1) := by decide +kernel
theorem dX7_paint_43 : decode cX7_paint 43 = .ok (.iload_n 2, 1) := by decide +kernel
theorem dX7_paint_44 : decode cX7_paint 44 = .ok (.iastore, 1) := by decide +kernel
theorem dX7_paint_45 : decode cX7_paint 45 = .ok (.iload_n 3, 1) := by decide +kernel
theorem dX7_paint_46 : decode cX7_paint 46 = .ok (.ireturn, 1) := by decide +kernel
theorem dX7_copy_0 : decode cX7_copy 0 = .ok (.aload_n 0, 1) := by decide +kernel
theorem dX7_copy_1 : decode cX7_copy 1 = .ok (.getfield 39, 3) := by decide +kernel
theorem dX7_copy_4 : decode cX7_copy 4 = .ok (.getfield 112, 3) := by decide +kernel
theorem dX7_copy_7 : decode cX7_copy 7 = .ok (.ifCond .ne 6, 3) := by decide +kernel
theorem dX7_copy_10 : decode cX7_copy 10 = .ok (.bipush (-2), 2) := by decide +kernel
theorem dX7_copy_12 : decode cX7_copy 12 = .ok (.ireturn, 1) := by decide +kernel
theorem dX7_copy_13 : decode cX7_copy 13 = .ok (.aload_n 0, 1) := by decide +kernel
theorem dX7_copy_14 : decode cX7_copy 14 = .ok (.getfield 39, 3) := by decide +kernel
theorem dX7_copy_17 : decode cX7_copy 17 = .ok (.getfield 116, 3) := by decide +kernel
theorem dX7_copy_20 : decode cX7_copy 20 = .ok (.iconst 0, 1) := by decide +kernel
theorem dX7_copy_21 : decode cX7_copy 21 = .ok (.aload_n 0, 1) := by decide +kernel
theorem dX7_copy_22 : decode cX7_copy 22 = .ok (.getfield 62, 3) := by decide +kernel
theorem dX7_copy_25 : decode cX7_copy 25 = .ok (.getfield 169, 3) := by decide +kernel
theorem dX7_copy_28 : decode cX7_copy 28 = .ok (.iconst 0, 1) := by decide +kernel
theorem dX7_copy_29 : decode cX7_copy 29 = .ok (.aload_n 0, 1) := by decide +kernel
theorem dX7_copy_30 : decode cX7_copy 30 = .ok (.getfield 10, 3) := by decide +kernel
theorem dX7_copy_33 : decode cX7_copy 33 = .ok (.getfield 98, 3) := by decide +kernel
theorem dX7_copy_36 : decode cX7_copy 36 = .ok (.invokestatic 172, 3) := by decide +kernel
theorem dX7_copy_39 : decode cX7_copy 39 = .ok (.aload_n 0, 1) := by decide +kernel
theorem dX7_copy_40 : decode cX7_copy 40 = .ok (.getfield 10, 3) := by decide +kernel
theorem dX7_copy_43 : decode cX7_copy 43 = .ok (.getfield 98, 3) := by decide +kernel
theorem dX7_copy_46 : decode cX7_copy 46 = .ok (.ireturn, 1) := by decide +kernel
theorem dX7_clashes_0 : decode cX7_clashes 0 = .ok (.aload_n 0, 1) := by decide +kernel
theorem dX7_clashes_1 : decode cX7_clashes 1 = .ok (.getfield 62, 3) := by decide +kernel
theorem dX7_clashes_4 : decode cX7_clashes 4 = .ok (.invokevirtual 178, 3) := by decide +kernel
theorem dX7_clashes_7 : decode cX7_clashes 7 = .ok (.ireturn, 1) := by decide +kernel
theorem dX7_used_0 : decode cX7_used 0 = .ok (.aload_n 0, 1) := by decide +kernel
theorem dX7_used_1 : decode cX7_used 1 = .ok (.getfield 62, 3) := by decide +kernel
theorem dX7_used_4 : decode cX7_used 4 = .ok (.aload_n 0, 1) := by decide +kernel
theorem dX7_used_5 : decode cX7_used 5 = .ok (.getfield 10, 3) := by decide +kernel
theorem dX7_used_8 : decode cX7_used 8 = .ok (.invokevirtual 181, 3) := by decide +kernel
theorem dX7_used_11 : decode cX7_used 11 = .ok (.invokevirtual 184, 3) := by decide +kernel
theorem dX7_used_14 : decode cX7_used 14 = .ok (.invokestatic 187, 3) := by decide +kernel
theorem dX7_used_17 : decode cX7_used 17 = .ok (.ireturn, 1) := by decide +kernel
theorem dX7_chain_0 : decode cX7_chain 0 = .ok (.aload_n 0, 1) := by decide +kernel
theorem dX7_chain_1 : decode cX7_chain 1 = .ok (.getfield 10, 3) := by decide +kernel
theorem dX7_chain_4 : decode cX7_chain 4 = .ok (.iload_n 1, 1) := by decide +kernel
theorem dX7_chain_5 : decode cX7_chain 5 = .ok (.invokevirtual 73, 3) := by decide +kernel
theorem dX7_chain_8 : decode cX7_chain 8 = .ok (.ifCond .eq 36, 3) := by decide +kernel
theorem dX7_chain_11 : decode cX7_chain 11 = .ok (.iload_n 2, 1) := by decide +kernel
theorem dX7_chain_12 : decode cX7_chain 12 = .ok (.invokestatic 166, 3) := by decide +kernel
theorem dX7_chain_15 : decode cX7_chain 15 = .ok (.ifCond .eq 29, 3) := by decide +kernel
theorem dX7_chain_18 : decode cX7_chain 18 = .ok (.aload_n 0, 1) := by decide +kernel
theorem dX7_chain_19 : decode cX7_chain 19 = .ok (.getfield 62, 3) := by decide +kernel
theorem dX7_chain_22 : decode cX7_chain 22 = .ok (.getfield 169, 3) := by decide +kernel
theorem dX7_chain_25 : decode cX7_chain 25 = .ok (.iload_n 1, 1) := by decide +kernel
theorem dX7_chain_26 : decode cX7_chain 26 = .ok (.iaload, 1) := by decide +kernel
theorem dX7_chain_27 : decode cX7_chain 27 = .ok (.iconst (-1), 1) := by decide +kernel
theorem dX7_chain_28 : decode cX7_chain 28 = .ok (.if_icmp .eq 16, 3) := by decide +kernel
theorem dX7_chain_31 : decode cX7_chain 31 = .ok (.aload_n 0, 1) := by decide +kernel
theorem dX7_chain_32 : decode cX7_chain 32 = .ok (.getfield 62, 3) := by decide +kernel
theorem dX7_chain_35 : decode cX7_chain 35 = .ok (.getfield 169, 3) := by decide +kernel
theorem dX7_chain_38 : decode cX7_chain 38 = .ok (.iload_n 1, 1) := by decide +kernel
theorem dX7_chain_39 : decode cX7_chain 39 = .ok (.iaload, 1) := by decide +kernel
theorem dX7_chain_40 : decode cX7_chain 40 = .ok (.iload_n 2, 1) := by decide +kernel
theorem dX7_chain_41 : decode cX7_chain 41 = .ok (.if_icmp .ne 5, 3) := by decide +kernel
theorem dX7_chain_44 : decode cX7_chain 44 = .ok (.iconst (-1), 1) := by decide +kernel
theorem dX7_chain_45 : decode cX7_chain 45 = .ok (.ireturn, 1) := by decide +kernel
theorem dX7_chain_46 : decode cX7_chain 46 = .ok (.aload_n 0, 1) := by decide +kernel
theorem dX7_chain_47 : decode cX7_chain 47 = .ok (.getfield 62, 3) := by decide +kernel
theorem dX7_chain_50 : decode cX7_chain 50 = .ok (.iload_n 1, 1) := by decide +kernel
theorem dX7_chain_51 : decode cX7_chain 51 = .ok (.iload_n 2, 1) := by decide +kernel
theorem dX7_chain_52 : decode cX7_chain 52 = .ok (.invokevirtual 192, 3) := by decide +kernel
theorem dX7_chain_55 : decode cX7_chain 55 = .ok (.ireturn, 1) := by decide +kernel
theorem dX7_saturation_0 : decode cX7_saturation 0 = .ok (.aload_n 0, 1) := by decide +kernel
theorem dX7_saturation_1 : decode cX7_saturation 1 = .ok (.getfield 10, 3) := by decide +kernel
theorem dX7_saturation_4 : decode cX7_saturation 4 = .ok (.iload_n 1, 1) := by decide +kernel
theorem dX7_saturation_5 : decode cX7_saturation 5 = .ok (.invokevirtual 73, 3) := by decide +kernel
theorem dX7_saturation_8 : decode cX7_saturation 8 = .ok (.ifCond .eq 25, 3) := by decide +kernel
theorem dX7_saturation_11 : decode cX7_saturation 11 = .ok (.aload_n 0, 1) := by decide +kernel
theorem dX7_saturation_12 : decode cX7_saturation 12 = .ok (.getfield 62, 3) := by decide +kernel
theorem dX7_saturation_15 : decode cX7_saturation 15 = .ok (.aload_n 0, 1) := by decide +kernel
theorem dX7_saturation_16 : decode cX7_saturation 16 = .ok (.getfield 10, 3) := by decide +kernel
theorem dX7_saturation_19 : decode cX7_saturation 19 = .ok (.getfield 195, 3) := by decide +kernel
theorem dX7_saturation_22 : decode cX7_saturation 22 = .ok (.iload_n 1, 1) := by decide +kernel
theorem dX7_saturation_23 : decode cX7_saturation 23 = .ok (.iaload, 1) := by decide +kernel
theorem dX7_saturation_24 : decode cX7_saturation 24 = .ok (.invokevirtual 184, 3) := by decide +kernel
theorem dX7_saturation_27 : decode cX7_saturation 27 = .ok (.invokestatic 187, 3) := by decide +kernel
theorem dX7_saturation_30 : decode cX7_saturation 30 = .ok (.goto 4, 3) := by decide +kernel
theorem dX7_saturation_33 : decode cX7_saturation 33 = .ok (.iconst (-1), 1) := by decide +kernel
theorem dX7_saturation_34 : decode cX7_saturation 34 = .ok (.ireturn, 1) := by decide +kernel
theorem dX7_isOp_0 : decode cX7_isOp 0 = .ok (.iload_n 0, 1) := by decide +kernel
theorem dX7_isOp_1 : decode cX7_isOp 1 = .ok (.iconst 1, 1) := by decide +kernel
theorem dX7_isOp_2 : decode cX7_isOp 2 = .ok (.if_icmp .lt 12, 3) := by decide +kernel
theorem dX7_isOp_5 : decode cX7_isOp 5 = .ok (.iload_n 0, 1) := by decide +kernel
theorem dX7_isOp_6 : decode cX7_isOp 6 = .ok (.iconst 4, 1) := by decide +kernel
theorem dX7_isOp_7 : decode cX7_isOp 7 = .ok (.if_icmp .gt 7, 3) := by decide +kernel
theorem dX7_isOp_10 : decode cX7_isOp 10 = .ok (.iconst 1, 1) := by decide +kernel
theorem dX7_isOp_11 : decode cX7_isOp 11 = .ok (.goto 4, 3) := by decide +kernel
theorem dX7_isOp_14 : decode cX7_isOp 14 = .ok (.iconst 0, 1) := by decide +kernel
theorem dX7_isOp_15 : decode cX7_isOp 15 = .ok (.ireturn, 1) := by decide +kernel
theorem dX7_isColour_0 : decode cX7_isColour 0 = .ok (.iload_n 0, 1) := by decide +kernel
theorem dX7_isColour_1 : decode cX7_isColour 1 = .ok (.ifCond .lt 13, 3) := by decide +kernel
theorem dX7_isColour_4 : decode cX7_isColour 4 = .ok (.iload_n 0, 1) := by decide +kernel
theorem dX7_isColour_5 : decode cX7_isColour 5 = .ok (.bipush 30, 2) := by decide +kernel
theorem dX7_isColour_7 : decode cX7_isColour 7 = .ok (.if_icmp .ge 7, 3) := by decide +kernel
theorem dX7_isColour_10 : decode cX7_isColour 10 = .ok (.iconst 1, 1) := by decide +kernel
theorem dX7_isColour_11 : decode cX7_isColour 11 = .ok (.goto 4, 3) := by decide +kernel
theorem dX7_isColour_14 : decode cX7_isColour 14 = .ok (.iconst 0, 1) := by decide +kernel
theorem dX7_isColour_15 : decode cX7_isColour 15 = .ok (.ireturn, 1) := by decide +kernel
theorem dX7_contains_0 : decode cX7_contains 0 = .ok (.iload_n 0, 1) := by decide +kernel
theorem dX7_contains_1 : decode cX7_contains 1 = .ok (.iload_n 1, 1) := by decide +kernel
theorem dX7_contains_2 : decode cX7_contains 2 = .ok (.ishr, 1) := by decide +kernel
theorem dX7_contains_3 : decode cX7_contains 3 = .ok (.iconst 1, 1) := by decide +kernel
theorem dX7_contains_4 : decode cX7_contains 4 = .ok (.iand, 1) := by decide +kernel
theorem dX7_contains_5 : decode cX7_contains 5 = .ok (.ifCond .eq 7, 3) := by decide +kernel
theorem dX7_contains_8 : decode cX7_contains 8 = .ok (.iconst 1, 1) := by decide +kernel
theorem dX7_contains_9 : decode cX7_contains 9 = .ok (.goto 4, 3) := by decide +kernel
theorem dX7_contains_12 : decode cX7_contains 12 = .ok (.iconst 0, 1) := by decide +kernel
theorem dX7_contains_13 : decode cX7_contains 13 = .ok (.ireturn, 1) := by decide +kernel
theorem dX7_firstOnes_0 : decode cX7_firstOnes 0 = .ok (.iconst 1, 1) := by decide +kernel
theorem dX7_firstOnes_1 : decode cX7_firstOnes 1 = .ok (.iload_n 0, 1) := by decide +kernel
theorem dX7_firstOnes_2 : decode cX7_firstOnes 2 = .ok (.ishl, 1) := by decide +kernel
theorem dX7_firstOnes_3 : decode cX7_firstOnes 3 = .ok (.iconst 1, 1) := by decide +kernel
theorem dX7_firstOnes_4 : decode cX7_firstOnes 4 = .ok (.isub, 1) := by decide +kernel
theorem dX7_firstOnes_5 : decode cX7_firstOnes 5 = .ok (.ireturn, 1) := by decide +kernel
theorem dJ6_bitCount_0f7a4_0 : decode cJ6_bitCount_0f7a4 0 = .ok (.iload_n 0, 1) := by decide +kernel
theorem dJ6_bitCount_0f7a4_1 : decode cJ6_bitCount_0f7a4 1 = .ok (.iload_n 0, 1) := by decide +kernel
theorem dJ6_bitCount_0f7a4_2 : decode cJ6_bitCount_0f7a4 2 = .ok (.iconst 1, 1) := by decide +kernel
theorem dJ6_bitCount_0f7a4_3 : decode cJ6_bitCount_0f7a4 3 = .ok (.iushr, 1) := by decide +kernel
theorem dJ6_bitCount_0f7a4_4 : decode cJ6_bitCount_0f7a4 4 = .ok (.ldc_w 265, 3) := by decide +kernel
theorem dJ6_bitCount_0f7a4_7 : decode cJ6_bitCount_0f7a4 7 = .ok (.iand, 1) := by decide +kernel
theorem dJ6_bitCount_0f7a4_8 : decode cJ6_bitCount_0f7a4 8 = .ok (.isub, 1) := by decide +kernel
theorem dJ6_bitCount_0f7a4_9 : decode cJ6_bitCount_0f7a4 9 = .ok (.istore_n 0, 1) := by decide +kernel
theorem dJ6_bitCount_0f7a4_10 : decode cJ6_bitCount_0f7a4 10 = .ok (.iload_n 0, 1) := by decide +kernel
theorem dJ6_bitCount_0f7a4_11 : decode cJ6_bitCount_0f7a4 11 = .ok (.ldc_w 266, 3) := by decide +kernel
theorem dJ6_bitCount_0f7a4_14 : decode cJ6_bitCount_0f7a4 14 = .ok (.iand, 1) := by decide +kernel
theorem dJ6_bitCount_0f7a4_15 : decode cJ6_bitCount_0f7a4 15 = .ok (.iload_n 0, 1) := by decide +kernel
theorem dJ6_bitCount_0f7a4_16 : decode cJ6_bitCount_0f7a4 16 = .ok (.iconst 2, 1) := by decide +kernel
theorem dJ6_bitCount_0f7a4_17 : decode cJ6_bitCount_0f7a4 17 = .ok (.iushr, 1) := by decide +kernel
theorem dJ6_bitCount_0f7a4_18 : decode cJ6_bitCount_0f7a4 18 = .ok (.ldc_w 266, 3) := by decide +kernel
theorem dJ6_bitCount_0f7a4_21 : decode cJ6_bitCount_0f7a4 21 = .ok (.iand, 1) := by decide +kernel
theorem dJ6_bitCount_0f7a4_22 : decode cJ6_bitCount_0f7a4 22 = .ok (.iadd, 1) := by decide +kernel
theorem dJ6_bitCount_0f7a4_23 : decode cJ6_bitCount_0f7a4 23 = .ok (.istore_n 0, 1) := by decide +kernel
theorem dJ6_bitCount_0f7a4_24 : decode cJ6_bitCount_0f7a4 24 = .ok (.iload_n 0, 1) := by decide +kernel
theorem dJ6_bitCount_0f7a4_25 : decode cJ6_bitCount_0f7a4 25 = .ok (.iload_n 0, 1) := by decide +kernel
theorem dJ6_bitCount_0f7a4_26 : decode cJ6_bitCount_0f7a4 26 = .ok (.iconst 4, 1) := by decide +kernel
theorem dJ6_bitCount_0f7a4_27 : decode cJ6_bitCount_0f7a4 27 = .ok (.iushr, 1) := by decide +kernel
theorem dJ6_bitCount_0f7a4_28 : decode cJ6_bitCount_0f7a4 28 = .ok (.iadd, 1) := by decide +kernel
theorem dJ6_bitCount_0f7a4_29 : decode cJ6_bitCount_0f7a4 29 = .ok (.ldc_w 267, 3) := by decide +kernel
theorem dJ6_bitCount_0f7a4_32 : decode cJ6_bitCount_0f7a4 32 = .ok (.iand, 1) := by decide +kernel
theorem dJ6_bitCount_0f7a4_33 : decode cJ6_bitCount_0f7a4 33 = .ok (.istore_n 0, 1) := by decide +kernel
theorem dJ6_bitCount_0f7a4_34 : decode cJ6_bitCount_0f7a4 34 = .ok (.iload_n 0, 1) := by decide +kernel
theorem dJ6_bitCount_0f7a4_35 : decode cJ6_bitCount_0f7a4 35 = .ok (.iload_n 0, 1) := by decide +kernel
theorem dJ6_bitCount_0f7a4_36 : decode cJ6_bitCount_0f7a4 36 = .ok (.bipush 8, 2) := by decide +kernel
theorem dJ6_bitCount_0f7a4_38 : decode cJ6_bitCount_0f7a4 38 = .ok (.iushr, 1) := by decide +kernel
theorem dJ6_bitCount_0f7a4_39 : decode cJ6_bitCount_0f7a4 39 = .ok (.iadd, 1) := by decide +kernel
theorem dJ6_bitCount_0f7a4_40 : decode cJ6_bitCount_0f7a4 40 = .ok (.istore_n 0, 1) := by decide +kernel
theorem dJ6_bitCount_0f7a4_41 : decode cJ6_bitCount_0f7a4 41 = .ok (.iload_n 0, 1) := by decide +kernel
theorem dJ6_bitCount_0f7a4_42 : decode cJ6_bitCount_0f7a4 42 = .ok (.iload_n 0, 1) := by decide +kernel
theorem dJ6_bitCount_0f7a4_43 : decode cJ6_bitCount_0f7a4 43 = .ok (.bipush 16, 2) := by decide +kernel
theorem dJ6_bitCount_0f7a4_45 : decode cJ6_bitCount_0f7a4 45 = .ok (.iushr, 1) := by decide +kernel
theorem dJ6_bitCount_0f7a4_46 : decode cJ6_bitCount_0f7a4 46 = .ok (.iadd, 1) := by decide +kernel
theorem dJ6_bitCount_0f7a4_47 : decode cJ6_bitCount_0f7a4 47 = .ok (.istore_n 0, 1) := by decide +kernel
theorem dJ6_bitCount_0f7a4_48 : decode cJ6_bitCount_0f7a4 48 = .ok (.iload_n 0, 1) := by decide +kernel
theorem dJ6_bitCount_0f7a4_49 : decode cJ6_bitCount_0f7a4 49 = .ok (.bipush 63, 2) := by decide +kernel
theorem dJ6_bitCount_0f7a4_51 : decode cJ6_bitCount_0f7a4 51 = .ok (.iand, 1) := by decide +kernel
theorem dJ6_bitCount_0f7a4_52 : decode cJ6_bitCount_0f7a4 52 = .ok (.ireturn, 1) := by decide +kernel
theorem dJ9_max_7cf53_0 : decode cJ9_max_7cf53 0 = .ok (.iload_n 0, 1) := by decide +kernel
theorem dJ9_max_7cf53_1 : decode cJ9_max_7cf53 1 = .ok (.iload_n 1, 1) := by decide +kernel
theorem dJ9_max_7cf53_2 : decode cJ9_max_7cf53 2 = .ok (.if_icmp .lt 7, 3) := by decide +kernel
theorem dJ9_max_7cf53_5 : decode cJ9_max_7cf53 5 = .ok (.iload_n 0, 1) := by decide +kernel
theorem dJ9_max_7cf53_6 : decode cJ9_max_7cf53 6 = .ok (.goto 4, 3) := by decide +kernel
theorem dJ9_max_7cf53_9 : decode cJ9_max_7cf53 9 = .ok (.iload_n 1, 1) := by decide +kernel
theorem dJ9_max_7cf53_10 : decode cJ9_max_7cf53 10 = .ok (.ireturn, 1) := by decide +kernel
theorem dJ7_fill_53178_0 : decode cJ7_fill_53178 0 = .ok (.iconst 0, 1) := by decide +kernel
theorem dJ7_fill_53178_1 : decode cJ7_fill_53178 1 = .ok (.istore_n 2, 1) := by decide +kernel
theorem dJ7_fill_53178_2 : decode cJ7_fill_53178 2 = .ok (.aload_n 0, 1) := by decide +kernel
theorem dJ7_fill_53178_3 : decode cJ7_fill_53178 3 = .ok (.arraylength, 1) := by decide +kernel
theorem dJ7_fill_53178_4 : decode cJ7_fill_53178 4 = .ok (.istore_n 3, 1) := by decide +kernel
theorem dJ7_fill_53178_5 : decode cJ7_fill_53178 5 = .ok (.iload_n 2, 1) := by decide +kernel
theorem dJ7_fill_53178_6 : decode cJ7_fill_53178 6 = .ok (.iload_n 3, 1) := by decide +kernel
theorem dJ7_fill_53178_7 : decode cJ7_fill_53178 7 = .ok (.if_icmp .ge 13, 3) := by decide +kernel
theorem dJ7_fill_53178_10 : decode cJ7_fill_53178 10 = .ok (.aload_n 0, 1) := by decide +kernel
theorem dJ7_fill_53178_11 : decode cJ7_fill_53178 11 = .ok (.iload_n 2, 1) := by decide +kernel
theorem dJ7_fill_53178_12 : decode cJ7_fill_53178 12 = .ok (.iload_n 1, 1) := by decide +kernel
theorem dJ7_fill_53178_13 : decode cJ7_fill_53178 13 = .ok (.iastore, 1) := by decide +kernel
theorem dJ7_fill_53178_14 : decode cJ7_fill_53178 14 = .ok (.iinc 2 1, 3) := by decide +kernel
theorem dJ7_fill_53178_17 : decode cJ7_fill_53178 17 = .ok (.goto (-12), 3) := by decide +kernel
theorem dJ7_fill_53178_20 : decode cJ7_fill_53178 20 = .ok (.return_, 1) := by decide +kernel
