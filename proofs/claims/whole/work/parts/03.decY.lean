theorem d_M_init_0 : decode b_M_init 0 = .ok (.aload_n 0, 1) := by decide +kernel
theorem d_M_init_1 : decode b_M_init 1 = .ok (.invokespecial 1, 3) := by decide +kernel
theorem d_M_init_4 : decode b_M_init 4 = .ok (.aload_n 0, 1) := by decide +kernel
theorem d_M_init_5 : decode b_M_init 5 = .ok (.bipush 102, 2) := by decide +kernel
theorem d_M_init_7 : decode b_M_init 7 = .ok (.newarray .int, 2) := by decide +kernel
theorem d_M_init_9 : decode b_M_init 9 = .ok (.putfield 7, 3) := by decide +kernel
theorem d_M_init_12 : decode b_M_init 12 = .ok (.aload_n 0, 1) := by decide +kernel
theorem d_M_init_13 : decode b_M_init 13 = .ok (.iconst 1, 1) := by decide +kernel
theorem d_M_init_14 : decode b_M_init 14 = .ok (.putfield 13, 3) := by decide +kernel
theorem d_M_init_17 : decode b_M_init 17 = .ok (.aload_n 0, 1) := by decide +kernel
theorem d_M_init_18 : decode b_M_init 18 = .ok (.iconst (-1), 1) := by decide +kernel
theorem d_M_init_19 : decode b_M_init 19 = .ok (.putfield 17, 3) := by decide +kernel
theorem d_M_init_22 : decode b_M_init 22 = .ok (.aload_n 0, 1) := by decide +kernel
theorem d_M_init_23 : decode b_M_init 23 = .ok (.iconst 5, 1) := by decide +kernel
theorem d_M_init_24 : decode b_M_init 24 = .ok (.newarray .int, 2) := by decide +kernel
theorem d_M_init_26 : decode b_M_init 26 = .ok (.putfield 20, 3) := by decide +kernel
theorem d_M_init_29 : decode b_M_init 29 = .ok (.aload_n 0, 1) := by decide +kernel
theorem d_M_init_30 : decode b_M_init 30 = .ok (.iconst 5, 1) := by decide +kernel
theorem d_M_init_31 : decode b_M_init 31 = .ok (.newarray .long, 2) := by decide +kernel
theorem d_M_init_33 : decode b_M_init 33 = .ok (.putfield 23, 3) := by decide +kernel
theorem d_M_init_36 : decode b_M_init 36 = .ok (.aload_n 0, 1) := by decide +kernel
theorem d_M_init_37 : decode b_M_init 37 = .ok (.bipush 8, 2) := by decide +kernel
theorem d_M_init_39 : decode b_M_init 39 = .ok (.newarray .long, 2) := by decide +kernel
theorem d_M_init_41 : decode b_M_init 41 = .ok (.putfield 27, 3) := by decide +kernel
theorem d_M_init_44 : decode b_M_init 44 = .ok (.aload_n 0, 1) := by decide +kernel
theorem d_M_init_45 : decode b_M_init 45 = .ok (.bipush 16, 2) := by decide +kernel
theorem d_M_init_47 : decode b_M_init 47 = .ok (.newarray .int, 2) := by decide +kernel
theorem d_M_init_49 : decode b_M_init 49 = .ok (.putfield 30, 3) := by decide +kernel
theorem d_M_init_52 : decode b_M_init 52 = .ok (.iconst 0, 1) := by decide +kernel
theorem d_M_init_53 : decode b_M_init 53 = .ok (.istore_n 1, 1) := by decide +kernel
theorem d_M_init_54 : decode b_M_init 54 = .ok (.iload_n 1, 1) := by decide +kernel
theorem d_M_init_55 : decode b_M_init 55 = .ok (.bipush 8, 2) := by decide +kernel
theorem d_M_init_57 : decode b_M_init 57 = .ok (.if_icmp .ge 16, 3) := by decide +kernel
theorem d_M_init_60 : decode b_M_init 60 = .ok (.aload_n 0, 1) := by decide +kernel
theorem d_M_init_61 : decode b_M_init 61 = .ok (.getfield 27, 3) := by decide +kernel
theorem d_M_init_64 : decode b_M_init 64 = .ok (.iload_n 1, 1) := by decide +kernel
theorem d_M_init_65 : decode b_M_init 65 = .ok (.lconst 0, 1) := by decide +kernel
theorem d_M_init_66 : decode b_M_init 66 = .ok (.lastore, 1) := by decide +kernel
theorem d_M_init_67 : decode b_M_init 67 = .ok (.iinc 1 1, 3) := by decide +kernel
theorem d_M_init_70 : decode b_M_init 70 = .ok (.goto (-16), 3) := by decide +kernel
theorem d_M_init_73 : decode b_M_init 73 = .ok (.iconst 0, 1) := by decide +kernel
theorem d_M_init_74 : decode b_M_init 74 = .ok (.istore_n 1, 1) := by decide +kernel
theorem d_M_init_75 : decode b_M_init 75 = .ok (.iload_n 1, 1) := by decide +kernel
theorem d_M_init_76 : decode b_M_init 76 = .ok (.bipush 16, 2) := by decide +kernel
theorem d_M_init_78 : decode b_M_init 78 = .ok (.if_icmp .ge 20, 3) := by decide +kernel
theorem d_M_init_81 : decode b_M_init 81 = .ok (.aload_n 0, 1) := by decide +kernel
theorem d_M_init_82 : decode b_M_init 82 = .ok (.getfield 7, 3) := by decide +kernel
theorem d_M_init_85 : decode b_M_init 85 = .ok (.iload_n 1, 1) := by decide +kernel
theorem d_M_init_86 : decode b_M_init 86 = .ok (.iconst 1, 1) := by decide +kernel
theorem d_M_init_87 : decode b_M_init 87 = .ok (.iload_n 1, 1) := by decide +kernel
theorem d_M_init_88 : decode b_M_init 88 = .ok (.invokestatic 33, 3) := by decide +kernel
theorem d_M_init_91 : decode b_M_init 91 = .ok (.iastore, 1) := by decide +kernel
theorem d_M_init_92 : decode b_M_init 92 = .ok (.iinc 1 1, 3) := by decide +kernel
theorem d_M_init_95 : decode b_M_init 95 = .ok (.goto (-20), 3) := by decide +kernel
theorem d_M_init_98 : decode b_M_init 98 = .ok (.aload_n 0, 1) := by decide +kernel
theorem d_M_init_99 : decode b_M_init 99 = .ok (.iconst 0, 1) := by decide +kernel
theorem d_M_init_100 : decode b_M_init 100 = .ok (.iconst 1, 1) := by decide +kernel
theorem d_M_init_101 : decode b_M_init 101 = .ok (.invokevirtual 37, 3) := by decide +kernel
theorem d_M_init_104 : decode b_M_init 104 = .ok (.iconst 1, 1) := by decide +kernel
theorem d_M_init_105 : decode b_M_init 105 = .ok (.istore_n 1, 1) := by decide +kernel
theorem d_M_init_106 : decode b_M_init 106 = .ok (.iload_n 1, 1) := by decide +kernel
theorem d_M_init_107 : decode b_M_init 107 = .ok (.bipush 16, 2) := by decide +kernel
theorem d_M_init_109 : decode b_M_init 109 = .ok (.if_icmp .ge 24, 3) := by decide +kernel
theorem d_M_init_112 : decode b_M_init 112 = .ok (.aload_n 0, 1) := by decide +kernel
theorem d_M_init_113 : decode b_M_init 113 = .ok (.getfield 7, 3) := by decide +kernel
theorem d_M_init_116 : decode b_M_init 116 = .ok (.bipush 15, 2) := by decide +kernel
theorem d_M_init_118 : decode b_M_init 118 = .ok (.iload_n 1, 1) := by decide +kernel
theorem d_M_init_119 : decode b_M_init 119 = .ok (.iadd, 1) := by decide +kernel
theorem d_M_init_120 : decode b_M_init 120 = .ok (.aload_n 0, 1) := by decide +kernel
theorem d_M_init_121 : decode b_M_init 121 = .ok (.getfield 30, 3) := by decide +kernel
theorem d_M_init_124 : decode b_M_init 124 = .ok (.iload_n 1, 1) := by decide +kernel
theorem d_M_init_125 : decode b_M_init 125 = .ok (.iaload, 1) := by decide +kernel
theorem d_M_init_126 : decode b_M_init 126 = .ok (.iastore, 1) := by decide +kernel
theorem d_M_init_127 : decode b_M_init 127 = .ok (.iinc 1 1, 3) := by decide +kernel
theorem d_M_init_130 : decode b_M_init 130 = .ok (.goto (-24), 3) := by decide +kernel
theorem d_M_init_133 : decode b_M_init 133 = .ok (.aload_n 0, 1) := by decide +kernel
theorem d_M_init_134 : decode b_M_init 134 = .ok (.aload_n 0, 1) := by decide +kernel
theorem d_M_init_135 : decode b_M_init 135 = .ok (.getfield 30, 3) := by decide +kernel
theorem d_M_init_138 : decode b_M_init 138 = .ok (.iconst 1, 1) := by decide +kernel
theorem d_M_init_139 : decode b_M_init 139 = .ok (.iaload, 1) := by decide +kernel
theorem d_M_init_140 : decode b_M_init 140 = .ok (.putfield 41, 3) := by decide +kernel
theorem d_M_init_143 : decode b_M_init 143 = .ok (.return_, 1) := by decide +kernel
theorem d_M_digest_0 : decode b_M_digest 0 = .ok (.iload_n 1, 1) := by decide +kernel
theorem d_M_digest_1 : decode b_M_digest 1 = .ok (.bipush 9, 2) := by decide +kernel
theorem d_M_digest_3 : decode b_M_digest 3 = .ok (.ishl, 1) := by decide +kernel
theorem d_M_digest_4 : decode b_M_digest 4 = .ok (.iload_n 1, 1) := by decide +kernel
theorem d_M_digest_5 : decode b_M_digest 5 = .ok (.bipush 23, 2) := by decide +kernel
theorem d_M_digest_7 : decode b_M_digest 7 = .ok (.iushr, 1) := by decide +kernel
theorem d_M_digest_8 : decode b_M_digest 8 = .ok (.ior, 1) := by decide +kernel
theorem d_M_digest_9 : decode b_M_digest 9 = .ok (.istore_n 2, 1) := by decide +kernel
theorem d_M_digest_10 : decode b_M_digest 10 = .ok (.iload_n 0, 1) := by decide +kernel
theorem d_M_digest_11 : decode b_M_digest 11 = .ok (.ldc 44, 2) := by decide +kernel
theorem d_M_digest_13 : decode b_M_digest 13 = .ok (.iadd, 1) := by decide +kernel
theorem d_M_digest_14 : decode b_M_digest 14 = .ok (.iload_n 2, 1) := by decide +kernel
theorem d_M_digest_15 : decode b_M_digest 15 = .ok (.ixor, 1) := by decide +kernel
theorem d_M_digest_16 : decode b_M_digest 16 = .ok (.ldc 45, 2) := by decide +kernel
theorem d_M_digest_18 : decode b_M_digest 18 = .ok (.imul, 1) := by decide +kernel
theorem d_M_digest_19 : decode b_M_digest 19 = .ok (.istore_n 3, 1) := by decide +kernel
theorem d_M_digest_20 : decode b_M_digest 20 = .ok (.iload_n 3, 1) := by decide +kernel
theorem d_M_digest_21 : decode b_M_digest 21 = .ok (.iload_n 3, 1) := by decide +kernel
theorem d_M_digest_22 : decode b_M_digest 22 = .ok (.bipush 15, 2) := by decide +kernel
theorem d_M_digest_24 : decode b_M_digest 24 = .ok (.iushr, 1) := by decide +kernel
theorem d_M_digest_25 : decode b_M_digest 25 = .ok (.ixor, 1) := by decide +kernel
theorem d_M_digest_26 : decode b_M_digest 26 = .ok (.ireturn, 1) := by decide +kernel
theorem d_M_key_0 : decode b_M_key 0 = .ok (.ldc 46, 2) := by decide +kernel
theorem d_M_key_2 : decode b_M_key 2 = .ok (.iload_n 0, 1) := by decide +kernel
theorem d_M_key_3 : decode b_M_key 3 = .ok (.invokestatic 47, 3) := by decide +kernel
theorem d_M_key_6 : decode b_M_key 6 = .ok (.iload_n 1, 1) := by decide +kernel
theorem d_M_key_7 : decode b_M_key 7 = .ok (.invokestatic 47, 3) := by decide +kernel
theorem d_M_key_10 : decode b_M_key 10 = .ok (.ireturn, 1) := by decide +kernel
theorem d_M_clear_0 : decode b_M_clear 0 = .ok (.aload_n 0, 1) := by decide +kernel
theorem d_M_clear_1 : decode b_M_clear 1 = .ok (.getfield 7, 3) := by decide +kernel
theorem d_M_clear_4 : decode b_M_clear 4 = .ok (.iload_n 1, 1) := by decide +kernel
theorem d_M_clear_5 : decode b_M_clear 5 = .ok (.iaload, 1) := by decide +kernel
theorem d_M_clear_6 : decode b_M_clear 6 = .ok (.iload_n 2, 1) := by decide +kernel
theorem d_M_clear_7 : decode b_M_clear 7 = .ok (.iload_n 1, 1) := by decide +kernel
theorem d_M_clear_8 : decode b_M_clear 8 = .ok (.invokestatic 33, 3) := by decide +kernel
theorem d_M_clear_11 : decode b_M_clear 11 = .ok (.ixor, 1) := by decide +kernel
theorem d_M_clear_12 : decode b_M_clear 12 = .ok (.ireturn, 1) := by decide +kernel
theorem d_M_joined_0 : decode b_M_joined 0 = .ok (.iload_n 0, 1) := by decide +kernel
theorem d_M_joined_1 : decode b_M_joined 1 = .ok (.i2l, 1) := by decide +kernel
theorem d_M_joined_2 : decode b_M_joined 2 = .ok (.bipush 32, 2) := by decide +kernel
theorem d_M_joined_4 : decode b_M_joined 4 = .ok (.lshl, 1) := by decide +kernel
theorem d_M_joined_5 : decode b_M_joined 5 = .ok (.iload_n 1, 1) := by decide +kernel
theorem d_M_joined_6 : decode b_M_joined 6 = .ok (.i2l, 1) := by decide +kernel
theorem d_M_joined_7 : decode b_M_joined 7 = .ok (.ldc2_w 50, 3) := by decide +kernel
theorem d_M_joined_10 : decode b_M_joined 10 = .ok (.land, 1) := by decide +kernel
theorem d_M_joined_11 : decode b_M_joined 11 = .ok (.lor, 1) := by decide +kernel
theorem d_M_joined_12 : decode b_M_joined 12 = .ok (.lreturn, 1) := by decide +kernel
theorem d_M_leaf_0 : decode b_M_leaf 0 = .ok (.bipush 8, 2) := by decide +kernel
theorem d_M_leaf_2 : decode b_M_leaf 2 = .ok (.iload_n 2, 1) := by decide +kernel
theorem d_M_leaf_3 : decode b_M_leaf 3 = .ok (.imul, 1) := by decide +kernel
theorem d_M_leaf_4 : decode b_M_leaf 4 = .ok (.iload_n 1, 1) := by decide +kernel
theorem d_M_leaf_5 : decode b_M_leaf 5 = .ok (.iadd, 1) := by decide +kernel
theorem d_M_leaf_6 : decode b_M_leaf 6 = .ok (.iload_n 3, 1) := by decide +kernel
theorem d_M_leaf_7 : decode b_M_leaf 7 = .ok (.invokestatic 47, 3) := by decide +kernel
theorem d_M_leaf_10 : decode b_M_leaf 10 = .ok (.istore 5, 2) := by decide +kernel
theorem d_M_leaf_12 : decode b_M_leaf 12 = .ok (.iload 5, 2) := by decide +kernel
theorem d_M_leaf_14 : decode b_M_leaf 14 = .ok (.iload 4, 2) := by decide +kernel
theorem d_M_leaf_16 : decode b_M_leaf 16 = .ok (.invokestatic 47, 3) := by decide +kernel
theorem d_M_leaf_19 : decode b_M_leaf 19 = .ok (.ireturn, 1) := by decide +kernel
theorem d_M_nodes_0 : decode b_M_nodes 0 = .ok (.iconst 0, 1) := by decide +kernel
theorem d_M_nodes_1 : decode b_M_nodes 1 = .ok (.istore_n 3, 1) := by decide +kernel
theorem d_M_nodes_2 : decode b_M_nodes 2 = .ok (.iload_n 3, 1) := by decide +kernel
theorem d_M_nodes_3 : decode b_M_nodes 3 = .ok (.bipush 8, 2) := by decide +kernel
theorem d_M_nodes_5 : decode b_M_nodes 5 = .ok (.if_icmp .ge 52, 3) := by decide +kernel
theorem d_M_nodes_8 : decode b_M_nodes 8 = .ok (.aload_n 0, 1) := by decide +kernel
theorem d_M_nodes_9 : decode b_M_nodes 9 = .ok (.getfield 30, 3) := by decide +kernel
theorem d_M_nodes_12 : decode b_M_nodes 12 = .ok (.bipush 8, 2) := by decide +kernel
theorem d_M_nodes_14 : decode b_M_nodes 14 = .ok (.iload_n 3, 1) := by decide +kernel
theorem d_M_nodes_15 : decode b_M_nodes 15 = .ok (.iadd, 1) := by decide +kernel
theorem d_M_nodes_16 : decode b_M_nodes 16 = .ok (.aload_n 0, 1) := by decide +kernel
theorem d_M_nodes_17 : decode b_M_nodes 17 = .ok (.iload_n 3, 1) := by decide +kernel
theorem d_M_nodes_18 : decode b_M_nodes 18 = .ok (.iload_n 2, 1) := by decide +kernel
theorem d_M_nodes_19 : decode b_M_nodes 19 = .ok (.aload_n 0, 1) := by decide +kernel
theorem d_M_nodes_20 : decode b_M_nodes 20 = .ok (.getfield 7, 3) := by decide +kernel
theorem d_M_nodes_23 : decode b_M_nodes 23 = .ok (.bipush 51, 2) := by decide +kernel
theorem d_M_nodes_25 : decode b_M_nodes 25 = .ok (.iload_n 1, 1) := by decide +kernel
theorem d_M_nodes_26 : decode b_M_nodes 26 = .ok (.imul, 1) := by decide +kernel
theorem d_M_nodes_27 : decode b_M_nodes 27 = .ok (.iconst 2, 1) := by decide +kernel
theorem d_M_nodes_28 : decode b_M_nodes 28 = .ok (.iload_n 3, 1) := by decide +kernel
theorem d_M_nodes_29 : decode b_M_nodes 29 = .ok (.imul, 1) := by decide +kernel
theorem d_M_nodes_30 : decode b_M_nodes 30 = .ok (.iadd, 1) := by decide +kernel
theorem d_M_nodes_31 : decode b_M_nodes 31 = .ok (.iaload, 1) := by decide +kernel
theorem d_M_nodes_32 : decode b_M_nodes 32 = .ok (.aload_n 0, 1) := by decide +kernel
theorem d_M_nodes_33 : decode b_M_nodes 33 = .ok (.getfield 7, 3) := by decide +kernel
theorem d_M_nodes_36 : decode b_M_nodes 36 = .ok (.bipush 51, 2) := by decide +kernel
theorem d_M_nodes_38 : decode b_M_nodes 38 = .ok (.iload_n 1, 1) := by decide +kernel
theorem d_M_nodes_39 : decode b_M_nodes 39 = .ok (.imul, 1) := by decide +kernel
theorem d_M_nodes_40 : decode b_M_nodes 40 = .ok (.iconst 2, 1) := by decide +kernel
theorem d_M_nodes_41 : decode b_M_nodes 41 = .ok (.iload_n 3, 1) := by decide +kernel
theorem d_M_nodes_42 : decode b_M_nodes 42 = .ok (.imul, 1) := by decide +kernel
theorem d_M_nodes_43 : decode b_M_nodes 43 = .ok (.iadd, 1) := by decide +kernel
theorem d_M_nodes_44 : decode b_M_nodes 44 = .ok (.iconst 1, 1) := by decide +kernel
theorem d_M_nodes_45 : decode b_M_nodes 45 = .ok (.iadd, 1) := by decide +kernel
theorem d_M_nodes_46 : decode b_M_nodes 46 = .ok (.iaload, 1) := by decide +kernel
theorem d_M_nodes_47 : decode b_M_nodes 47 = .ok (.invokevirtual 52, 3) := by decide +kernel
theorem d_M_nodes_50 : decode b_M_nodes 50 = .ok (.iastore, 1) := by decide +kernel
theorem d_M_nodes_51 : decode b_M_nodes 51 = .ok (.iinc 3 1, 3) := by decide +kernel
theorem d_M_nodes_54 : decode b_M_nodes 54 = .ok (.goto (-52), 3) := by decide +kernel
theorem d_M_nodes_57 : decode b_M_nodes 57 = .ok (.bipush 7, 2) := by decide +kernel
theorem d_M_nodes_59 : decode b_M_nodes 59 = .ok (.istore_n 3, 1) := by decide +kernel
theorem d_M_nodes_60 : decode b_M_nodes 60 = .ok (.iload_n 3, 1) := by decide +kernel
theorem d_M_nodes_61 : decode b_M_nodes 61 = .ok (.ifCond .le 36, 3) := by decide +kernel
theorem d_M_nodes_64 : decode b_M_nodes 64 = .ok (.aload_n 0, 1) := by decide +kernel
theorem d_M_nodes_65 : decode b_M_nodes 65 = .ok (.getfield 30, 3) := by decide +kernel
theorem d_M_nodes_68 : decode b_M_nodes 68 = .ok (.iload_n 3, 1) := by decide +kernel
theorem d_M_nodes_69 : decode b_M_nodes 69 = .ok (.aload_n 0, 1) := by decide +kernel
theorem d_M_nodes_70 : decode b_M_nodes 70 = .ok (.getfield 30, 3) := by decide +kernel
theorem d_M_nodes_73 : decode b_M_nodes 73 = .ok (.iconst 2, 1) := by decide +kernel
theorem d_M_nodes_74 : decode b_M_nodes 74 = .ok (.iload_n 3, 1) := by decide +kernel
theorem d_M_nodes_75 : decode b_M_nodes 75 = .ok (.imul, 1) := by decide +kernel
theorem d_M_nodes_76 : decode b_M_nodes 76 = .ok (.iaload, 1) := by decide +kernel
theorem d_M_nodes_77 : decode b_M_nodes 77 = .ok (.aload_n 0, 1) := by decide +kernel
theorem d_M_nodes_78 : decode b_M_nodes 78 = .ok (.getfield 30, 3) := by decide +kernel
theorem d_M_nodes_81 : decode b_M_nodes 81 = .ok (.iconst 2, 1) := by decide +kernel
theorem d_M_nodes_82 : decode b_M_nodes 82 = .ok (.iload_n 3, 1) := by decide +kernel
theorem d_M_nodes_83 : decode b_M_nodes 83 = .ok (.imul, 1) := by decide +kernel
theorem d_M_nodes_84 : decode b_M_nodes 84 = .ok (.iconst 1, 1) := by decide +kernel
theorem d_M_nodes_85 : decode b_M_nodes 85 = .ok (.iadd, 1) := by decide +kernel
theorem d_M_nodes_86 : decode b_M_nodes 86 = .ok (.iaload, 1) := by decide +kernel
theorem d_M_nodes_87 : decode b_M_nodes 87 = .ok (.invokestatic 47, 3) := by decide +kernel
theorem d_M_nodes_90 : decode b_M_nodes 90 = .ok (.iastore, 1) := by decide +kernel
theorem d_M_nodes_91 : decode b_M_nodes 91 = .ok (.iinc 3 (-1), 3) := by decide +kernel
theorem d_M_nodes_94 : decode b_M_nodes 94 = .ok (.goto (-34), 3) := by decide +kernel
theorem d_M_nodes_97 : decode b_M_nodes 97 = .ok (.return_, 1) := by decide +kernel
theorem d_M_step_0 : decode b_M_step 0 = .ok (.aload_n 0, 1) := by decide +kernel
theorem d_M_step_1 : decode b_M_step 1 = .ok (.getfield 56, 3) := by decide +kernel
theorem d_M_step_4 : decode b_M_step 4 = .ok (.ifCond .eq 5, 3) := by decide +kernel
theorem d_M_step_7 : decode b_M_step 7 = .ok (.iconst 0, 1) := by decide +kernel
theorem d_M_step_8 : decode b_M_step 8 = .ok (.ireturn, 1) := by decide +kernel
theorem d_M_step_9 : decode b_M_step 9 = .ok (.aload_n 0, 1) := by decide +kernel
theorem d_M_step_10 : decode b_M_step 10 = .ok (.getfield 17, 3) := by decide +kernel
theorem d_M_step_13 : decode b_M_step 13 = .ok (.ifCond .ne 25, 3) := by decide +kernel
theorem d_M_step_16 : decode b_M_step 16 = .ok (.aload_n 0, 1) := by decide +kernel
theorem d_M_step_17 : decode b_M_step 17 = .ok (.iconst (-1), 1) := by decide +kernel
theorem d_M_step_18 : decode b_M_step 18 = .ok (.putfield 17, 3) := by decide +kernel
theorem d_M_step_21 : decode b_M_step 21 = .ok (.aload_n 0, 1) := by decide +kernel
theorem d_M_step_22 : decode b_M_step 22 = .ok (.iconst 0, 1) := by decide +kernel
theorem d_M_step_23 : decode b_M_step 23 = .ok (.putfield 60, 3) := by decide +kernel
theorem d_M_step_26 : decode b_M_step 26 = .ok (.aload_n 0, 1) := by decide +kernel
theorem d_M_step_27 : decode b_M_step 27 = .ok (.iconst 0, 1) := by decide +kernel
theorem d_M_step_28 : decode b_M_step 28 = .ok (.putfield 63, 3) := by decide +kernel
theorem d_M_step_31 : decode b_M_step 31 = .ok (.aload_n 0, 1) := by decide +kernel
theorem d_M_step_32 : decode b_M_step 32 = .ok (.iconst 1, 1) := by decide +kernel
theorem d_M_step_33 : decode b_M_step 33 = .ok (.putfield 56, 3) := by decide +kernel
theorem d_M_step_36 : decode b_M_step 36 = .ok (.iconst 0, 1) := by decide +kernel
theorem d_M_step_37 : decode b_M_step 37 = .ok (.ireturn, 1) := by decide +kernel
theorem d_M_step_38 : decode b_M_step 38 = .ok (.aload_n 0, 1) := by decide +kernel
theorem d_M_step_39 : decode b_M_step 39 = .ok (.aload_n 0, 1) := by decide +kernel
theorem d_M_step_40 : decode b_M_step 40 = .ok (.getfield 17, 3) := by decide +kernel
theorem d_M_step_43 : decode b_M_step 43 = .ok (.ifCond .le 12, 3) := by decide +kernel
theorem d_M_step_46 : decode b_M_step 46 = .ok (.aload_n 0, 1) := by decide +kernel
theorem d_M_step_47 : decode b_M_step 47 = .ok (.getfield 17, 3) := by decide +kernel
theorem d_M_step_50 : decode b_M_step 50 = .ok (.iconst 1, 1) := by decide +kernel
theorem d_M_step_51 : decode b_M_step 51 = .ok (.isub, 1) := by decide +kernel
theorem d_M_step_52 : decode b_M_step 52 = .ok (.goto 7, 3) := by decide +kernel
theorem d_M_step_55 : decode b_M_step 55 = .ok (.aload_n 0, 1) := by decide +kernel
theorem d_M_step_56 : decode b_M_step 56 = .ok (.getfield 17, 3) := by decide +kernel
theorem d_M_step_59 : decode b_M_step 59 = .ok (.putfield 17, 3) := by decide +kernel
theorem d_M_step_62 : decode b_M_step 62 = .ok (.aload_n 0, 1) := by decide +kernel
theorem d_M_step_63 : decode b_M_step 63 = .ok (.dup, 1) := by decide +kernel
theorem d_M_step_64 : decode b_M_step 64 = .ok (.getfield 66, 3) := by decide +kernel
theorem d_M_step_67 : decode b_M_step 67 = .ok (.iconst 1, 1) := by decide +kernel
theorem d_M_step_68 : decode b_M_step 68 = .ok (.iadd, 1) := by decide +kernel
theorem d_M_step_69 : decode b_M_step 69 = .ok (.putfield 66, 3) := by decide +kernel
theorem d_M_step_72 : decode b_M_step 72 = .ok (.iconst 1, 1) := by decide +kernel
theorem d_M_step_73 : decode b_M_step 73 = .ok (.ireturn, 1) := by decide +kernel
theorem d_M_put_0 : decode b_M_put 0 = .ok (.aload_n 0, 1) := by decide +kernel
theorem d_M_put_1 : decode b_M_put 1 = .ok (.invokevirtual 69, 3) := by decide +kernel
theorem d_M_put_4 : decode b_M_put 4 = .ok (.ifCond .eq 10, 3) := by decide +kernel
theorem d_M_put_7 : decode b_M_put 7 = .ok (.aload_n 0, 1) := by decide +kernel
theorem d_M_put_8 : decode b_M_put 8 = .ok (.getfield 7, 3) := by decide +kernel
theorem d_M_put_11 : decode b_M_put 11 = .ok (.iload_n 1, 1) := by decide +kernel
theorem d_M_put_12 : decode b_M_put 12 = .ok (.iload_n 2, 1) := by decide +kernel
theorem d_M_put_13 : decode b_M_put 13 = .ok (.iastore, 1) := by decide +kernel
theorem d_M_put_14 : decode b_M_put 14 = .ok (.return_, 1) := by decide +kernel
theorem d_M_changeSeal_0 : decode b_M_changeSeal 0 = .ok (.aload_n 0, 1) := by decide +kernel
theorem d_M_changeSeal_1 : decode b_M_changeSeal 1 = .ok (.invokevirtual 69, 3) := by decide +kernel
theorem d_M_changeSeal_4 : decode b_M_changeSeal 4 = .ok (.ifCond .eq 24, 3) := by decide +kernel
theorem d_M_changeSeal_7 : decode b_M_changeSeal 7 = .ok (.aload_n 0, 1) := by decide +kernel
theorem d_M_changeSeal_8 : decode b_M_changeSeal 8 = .ok (.iload_n 1, 1) := by decide +kernel
theorem d_M_changeSeal_9 : decode b_M_changeSeal 9 = .ok (.putfield 73, 3) := by decide +kernel
theorem d_M_changeSeal_12 : decode b_M_changeSeal 12 = .ok (.aload_n 0, 1) := by decide +kernel
theorem d_M_changeSeal_13 : decode b_M_changeSeal 13 = .ok (.iload_n 2, 1) := by decide +kernel
theorem d_M_changeSeal_14 : decode b_M_changeSeal 14 = .ok (.putfield 13, 3) := by decide +kernel
theorem d_M_changeSeal_17 : decode b_M_changeSeal 17 = .ok (.aload_n 0, 1) := by decide +kernel
theorem d_M_changeSeal_18 : decode b_M_changeSeal 18 = .ok (.iload_n 3, 1) := by decide +kernel
theorem d_M_changeSeal_19 : decode b_M_changeSeal 19 = .ok (.putfield 41, 3) := by decide +kernel
theorem d_M_changeSeal_22 : decode b_M_changeSeal 22 = .ok (.aload_n 0, 1) := by decide +kernel
theorem d_M_changeSeal_23 : decode b_M_changeSeal 23 = .ok (.iload 4, 2) := by decide +kernel
theorem d_M_changeSeal_25 : decode b_M_changeSeal 25 = .ok (.putfield 76, 3) := by decide +kernel
theorem d_M_changeSeal_28 : decode b_M_changeSeal 28 = .ok (.return_, 1) := by decide +kernel
theorem d_M_arm_0 : decode b_M_arm 0 = .ok (.iload_n 1, 1) := by decide +kernel
theorem d_M_arm_1 : decode b_M_arm 1 = .ok (.ifCond .ge 5, 3) := by decide +kernel
theorem d_M_arm_4 : decode b_M_arm 4 = .ok (.iconst 0, 1) := by decide +kernel
theorem d_M_arm_5 : decode b_M_arm 5 = .ok (.ireturn, 1) := by decide +kernel
theorem d_M_arm_6 : decode b_M_arm 6 = .ok (.aload_n 0, 1) := by decide +kernel
theorem d_M_arm_7 : decode b_M_arm 7 = .ok (.iload_n 1, 1) := by decide +kernel
theorem d_M_arm_8 : decode b_M_arm 8 = .ok (.putfield 17, 3) := by decide +kernel
theorem d_M_arm_11 : decode b_M_arm 11 = .ok (.iconst 1, 1) := by decide +kernel
theorem d_M_arm_12 : decode b_M_arm 12 = .ok (.ireturn, 1) := by decide +kernel
theorem d_M_isOn_0 : decode b_M_isOn 0 = .ok (.aload_n 0, 1) := by decide +kernel
theorem d_M_isOn_1 : decode b_M_isOn 1 = .ok (.getfield 60, 3) := by decide +kernel
theorem d_M_isOn_4 : decode b_M_isOn 4 = .ok (.ireturn, 1) := by decide +kernel
theorem d_M_entryAt_0 : decode b_M_entryAt 0 = .ok (.bipush 51, 2) := by decide +kernel
theorem d_M_entryAt_2 : decode b_M_entryAt 2 = .ok (.aload_n 0, 1) := by decide +kernel
theorem d_M_entryAt_3 : decode b_M_entryAt 3 = .ok (.getfield 73, 3) := by decide +kernel
theorem d_M_entryAt_6 : decode b_M_entryAt 6 = .ok (.imul, 1) := by decide +kernel
theorem d_M_entryAt_7 : decode b_M_entryAt 7 = .ok (.bipush 31, 2) := by decide +kernel
theorem d_M_entryAt_9 : decode b_M_entryAt 9 = .ok (.iadd, 1) := by decide +kernel
theorem d_M_entryAt_10 : decode b_M_entryAt 10 = .ok (.iconst 4, 1) := by decide +kernel
theorem d_M_entryAt_11 : decode b_M_entryAt 11 = .ok (.iload_n 1, 1) := by decide +kernel
theorem d_M_entryAt_12 : decode b_M_entryAt 12 = .ok (.imul, 1) := by decide +kernel
theorem d_M_entryAt_13 : decode b_M_entryAt 13 = .ok (.iadd, 1) := by decide +kernel
theorem d_M_entryAt_14 : decode b_M_entryAt 14 = .ok (.ireturn, 1) := by decide +kernel
theorem d_M_chain_0 : decode b_M_chain 0 = .ok (.ldc 46, 2) := by decide +kernel
theorem d_M_chain_2 : decode b_M_chain 2 = .ok (.aload_n 0, 1) := by decide +kernel
theorem d_M_chain_3 : decode b_M_chain 3 = .ok (.getfield 41, 3) := by decide +kernel
theorem d_M_chain_6 : decode b_M_chain 6 = .ok (.invokestatic 47, 3) := by decide +kernel
theorem d_M_chain_9 : decode b_M_chain 9 = .ok (.aload_n 0, 1) := by decide +kernel
theorem d_M_chain_10 : decode b_M_chain 10 = .ok (.getfield 13, 3) := by decide +kernel
theorem d_M_chain_13 : decode b_M_chain 13 = .ok (.invokestatic 47, 3) := by decide +kernel
theorem d_M_chain_16 : decode b_M_chain 16 = .ok (.istore_n 2, 1) := by decide +kernel
theorem d_M_chain_17 : decode b_M_chain 17 = .ok (.iconst 0, 1) := by decide +kernel
theorem d_M_chain_18 : decode b_M_chain 18 = .ok (.istore_n 3, 1) := by decide +kernel
theorem d_M_chain_19 : decode b_M_chain 19 = .ok (.iload_n 3, 1) := by decide +kernel
theorem d_M_chain_20 : decode b_M_chain 20 = .ok (.iload_n 1, 1) := by decide +kernel
theorem d_M_chain_21 : decode b_M_chain 21 = .ok (.if_icmp .ge 56, 3) := by decide +kernel
theorem d_M_chain_24 : decode b_M_chain 24 = .ok (.aload_n 0, 1) := by decide +kernel
theorem d_M_chain_25 : decode b_M_chain 25 = .ok (.iload_n 3, 1) := by decide +kernel
theorem d_M_chain_26 : decode b_M_chain 26 = .ok (.invokevirtual 79, 3) := by decide +kernel
theorem d_M_chain_29 : decode b_M_chain 29 = .ok (.istore 4, 2) := by decide +kernel
theorem d_M_chain_31 : decode b_M_chain 31 = .ok (.iload_n 2, 1) := by decide +kernel
theorem d_M_chain_32 : decode b_M_chain 32 = .ok (.aload_n 0, 1) := by decide +kernel
theorem d_M_chain_33 : decode b_M_chain 33 = .ok (.getfield 7, 3) := by decide +kernel
theorem d_M_chain_36 : decode b_M_chain 36 = .ok (.iload 4, 2) := by decide +kernel
theorem d_M_chain_38 : decode b_M_chain 38 = .ok (.iaload, 1) := by decide +kernel
theorem d_M_chain_39 : decode b_M_chain 39 = .ok (.invokestatic 47, 3) := by decide +kernel
theorem d_M_chain_42 : decode b_M_chain 42 = .ok (.istore_n 2, 1) := by decide +kernel
theorem d_M_chain_43 : decode b_M_chain 43 = .ok (.iload_n 2, 1) := by decide +kernel
theorem d_M_chain_44 : decode b_M_chain 44 = .ok (.aload_n 0, 1) := by decide +kernel
theorem d_M_chain_45 : decode b_M_chain 45 = .ok (.getfield 7, 3) := by decide +kernel
theorem d_M_chain_48 : decode b_M_chain 48 = .ok (.iload 4, 2) := by decide +kernel
theorem d_M_chain_50 : decode b_M_chain 50 = .ok (.iconst 1, 1) := by decide +kernel
theorem d_M_chain_51 : decode b_M_chain 51 = .ok (.iadd, 1) := by decide +kernel
theorem d_M_chain_52 : decode b_M_chain 52 = .ok (.iaload, 1) := by decide +kernel
theorem d_M_chain_53 : decode b_M_chain 53 = .ok (.invokestatic 47, 3) := by decide +kernel
theorem d_M_chain_56 : decode b_M_chain 56 = .ok (.istore_n 2, 1) := by decide +kernel
theorem d_M_chain_57 : decode b_M_chain 57 = .ok (.iload_n 2, 1) := by decide +kernel
theorem d_M_chain_58 : decode b_M_chain 58 = .ok (.aload_n 0, 1) := by decide +kernel
theorem d_M_chain_59 : decode b_M_chain 59 = .ok (.getfield 7, 3) := by decide +kernel
theorem d_M_chain_62 : decode b_M_chain 62 = .ok (.iload 4, 2) := by decide +kernel
theorem d_M_chain_64 : decode b_M_chain 64 = .ok (.iconst 2, 1) := by decide +kernel
theorem d_M_chain_65 : decode b_M_chain 65 = .ok (.iadd, 1) := by decide +kernel
theorem d_M_chain_66 : decode b_M_chain 66 = .ok (.iaload, 1) := by decide +kernel
theorem d_M_chain_67 : decode b_M_chain 67 = .ok (.invokestatic 47, 3) := by decide +kernel
theorem d_M_chain_70 : decode b_M_chain 70 = .ok (.istore_n 2, 1) := by decide +kernel
theorem d_M_chain_71 : decode b_M_chain 71 = .ok (.iinc 3 1, 3) := by decide +kernel
theorem d_M_chain_74 : decode b_M_chain 74 = .ok (.goto (-55), 3) := by decide +kernel
theorem d_M_chain_77 : decode b_M_chain 77 = .ok (.iload_n 2, 1) := by decide +kernel
theorem d_M_chain_78 : decode b_M_chain 78 = .ok (.ireturn, 1) := by decide +kernel
theorem d_M_recorded_0 : decode b_M_recorded 0 = .ok (.aload_n 0, 1) := by decide +kernel
theorem d_M_recorded_1 : decode b_M_recorded 1 = .ok (.iload_n 1, 1) := by decide +kernel
theorem d_M_recorded_2 : decode b_M_recorded 2 = .ok (.invokevirtual 79, 3) := by decide +kernel
theorem d_M_recorded_5 : decode b_M_recorded 5 = .ok (.istore_n 2, 1) := by decide +kernel
theorem d_M_recorded_6 : decode b_M_recorded 6 = .ok (.aload_n 0, 1) := by decide +kernel
theorem d_M_recorded_7 : decode b_M_recorded 7 = .ok (.iload_n 2, 1) := by decide +kernel
theorem d_M_recorded_8 : decode b_M_recorded 8 = .ok (.iconst 1, 1) := by decide +kernel
theorem d_M_recorded_9 : decode b_M_recorded 9 = .ok (.iadd, 1) := by decide +kernel
theorem d_M_recorded_10 : decode b_M_recorded 10 = .ok (.aload_n 0, 1) := by decide +kernel
theorem d_M_recorded_11 : decode b_M_recorded 11 = .ok (.getfield 13, 3) := by decide +kernel
theorem d_M_recorded_14 : decode b_M_recorded 14 = .ok (.invokevirtual 83, 3) := by decide +kernel
theorem d_M_recorded_17 : decode b_M_recorded 17 = .ok (.istore_n 3, 1) := by decide +kernel
theorem d_M_recorded_18 : decode b_M_recorded 18 = .ok (.aload_n 0, 1) := by decide +kernel
theorem d_M_recorded_19 : decode b_M_recorded 19 = .ok (.iload_n 2, 1) := by decide +kernel
theorem d_M_recorded_20 : decode b_M_recorded 20 = .ok (.iconst 2, 1) := by decide +kernel
theorem d_M_recorded_21 : decode b_M_recorded 21 = .ok (.iadd, 1) := by decide +kernel
theorem d_M_recorded_22 : decode b_M_recorded 22 = .ok (.aload_n 0, 1) := by decide +kernel
theorem d_M_recorded_23 : decode b_M_recorded 23 = .ok (.getfield 13, 3) := by decide +kernel
theorem d_M_recorded_26 : decode b_M_recorded 26 = .ok (.invokevirtual 83, 3) := by decide +kernel
theorem d_M_recorded_29 : decode b_M_recorded 29 = .ok (.istore 4, 2) := by decide +kernel
theorem d_M_recorded_31 : decode b_M_recorded 31 = .ok (.iload_n 3, 1) := by decide +kernel
theorem d_M_recorded_32 : decode b_M_recorded 32 = .ok (.iload 4, 2) := by decide +kernel
theorem d_M_recorded_34 : decode b_M_recorded 34 = .ok (.invokestatic 86, 3) := by decide +kernel
theorem d_M_recorded_37 : decode b_M_recorded 37 = .ok (.lreturn, 1) := by decide +kernel
theorem d_M_due_0 : decode b_M_due 0 = .ok (.aload_n 0, 1) := by decide +kernel
theorem d_M_due_1 : decode b_M_due 1 = .ok (.aload_n 0, 1) := by decide +kernel
theorem d_M_due_2 : decode b_M_due 2 = .ok (.iload_n 1, 1) := by decide +kernel
theorem d_M_due_3 : decode b_M_due 3 = .ok (.invokevirtual 79, 3) := by decide +kernel
theorem d_M_due_6 : decode b_M_due 6 = .ok (.aload_n 0, 1) := by decide +kernel
theorem d_M_due_7 : decode b_M_due 7 = .ok (.getfield 13, 3) := by decide +kernel
theorem d_M_due_10 : decode b_M_due 10 = .ok (.invokevirtual 83, 3) := by decide +kernel
theorem d_M_due_13 : decode b_M_due 13 = .ok (.istore_n 2, 1) := by decide +kernel
theorem d_M_due_14 : decode b_M_due 14 = .ok (.aload_n 0, 1) := by decide +kernel
theorem d_M_due_15 : decode b_M_due 15 = .ok (.getfield 7, 3) := by decide +kernel
theorem d_M_due_18 : decode b_M_due 18 = .ok (.aload_n 0, 1) := by decide +kernel
theorem d_M_due_19 : decode b_M_due 19 = .ok (.iload_n 1, 1) := by decide +kernel
theorem d_M_due_20 : decode b_M_due 20 = .ok (.invokevirtual 79, 3) := by decide +kernel
theorem d_M_due_23 : decode b_M_due 23 = .ok (.iconst 3, 1) := by decide +kernel
theorem d_M_due_24 : decode b_M_due 24 = .ok (.iadd, 1) := by decide +kernel
theorem d_M_due_25 : decode b_M_due 25 = .ok (.iaload, 1) := by decide +kernel
theorem d_M_due_26 : decode b_M_due 26 = .ok (.aload_n 0, 1) := by decide +kernel
theorem d_M_due_27 : decode b_M_due 27 = .ok (.iload_n 1, 1) := by decide +kernel
theorem d_M_due_28 : decode b_M_due 28 = .ok (.iconst 1, 1) := by decide +kernel
theorem d_M_due_29 : decode b_M_due 29 = .ok (.iadd, 1) := by decide +kernel
theorem d_M_due_30 : decode b_M_due 30 = .ok (.invokevirtual 90, 3) := by decide +kernel
theorem d_M_due_33 : decode b_M_due 33 = .ok (.iconst 1, 1) := by decide +kernel
theorem d_M_due_34 : decode b_M_due 34 = .ok (.ior, 1) := by decide +kernel
theorem d_M_due_35 : decode b_M_due 35 = .ok (.if_icmp .ne 27, 3) := by decide +kernel
theorem d_M_due_38 : decode b_M_due 38 = .ok (.iload_n 2, 1) := by decide +kernel
theorem d_M_due_39 : decode b_M_due 39 = .ok (.ifCond .lt 23, 3) := by decide +kernel
theorem d_M_due_42 : decode b_M_due 42 = .ok (.iload_n 2, 1) := by decide +kernel
theorem d_M_due_43 : decode b_M_due 43 = .ok (.bipush 8, 2) := by decide +kernel
theorem d_M_due_45 : decode b_M_due 45 = .ok (.if_icmp .ge 17, 3) := by decide +kernel
theorem d_M_due_48 : decode b_M_due 48 = .ok (.aload_n 0, 1) := by decide +kernel
theorem d_M_due_49 : decode b_M_due 49 = .ok (.iload_n 1, 1) := by decide +kernel
theorem d_M_due_50 : decode b_M_due 50 = .ok (.invokevirtual 93, 3) := by decide +kernel
theorem d_M_due_53 : decode b_M_due 53 = .ok (.lconst 0, 1) := by decide +kernel
theorem d_M_due_54 : decode b_M_due 54 = .ok (.lcmp, 1) := by decide +kernel
theorem d_M_due_55 : decode b_M_due 55 = .ok (.ifCond .lt 7, 3) := by decide +kernel
theorem d_M_due_58 : decode b_M_due 58 = .ok (.iconst 1, 1) := by decide +kernel
theorem d_M_due_59 : decode b_M_due 59 = .ok (.goto 4, 3) := by decide +kernel
theorem d_M_due_62 : decode b_M_due 62 = .ok (.iconst 0, 1) := by decide +kernel
theorem d_M_due_63 : decode b_M_due 63 = .ok (.ireturn, 1) := by decide +kernel
theorem d_M_mount_0 : decode b_M_mount 0 = .ok (.iconst 0, 1) := by decide +kernel
theorem d_M_mount_1 : decode b_M_mount 1 = .ok (.istore_n 1, 1) := by decide +kernel
theorem d_M_mount_2 : decode b_M_mount 2 = .ok (.iload_n 1, 1) := by decide +kernel
theorem d_M_mount_3 : decode b_M_mount 3 = .ok (.iconst 5, 1) := by decide +kernel
theorem d_M_mount_4 : decode b_M_mount 4 = .ok (.if_icmp .ge 17, 3) := by decide +kernel
theorem d_M_mount_7 : decode b_M_mount 7 = .ok (.aload_n 0, 1) := by decide +kernel
theorem d_M_mount_8 : decode b_M_mount 8 = .ok (.iload_n 1, 1) := by decide +kernel
theorem d_M_mount_9 : decode b_M_mount 9 = .ok (.invokevirtual 97, 3) := by decide +kernel
theorem d_M_mount_12 : decode b_M_mount 12 = .ok (.ifCond .eq 9, 3) := by decide +kernel
theorem d_M_mount_15 : decode b_M_mount 15 = .ok (.iinc 1 1, 3) := by decide +kernel
theorem d_M_mount_18 : decode b_M_mount 18 = .ok (.goto (-16), 3) := by decide +kernel
theorem d_M_mount_21 : decode b_M_mount 21 = .ok (.aload_n 0, 1) := by decide +kernel
theorem d_M_mount_22 : decode b_M_mount 22 = .ok (.iconst 0, 1) := by decide +kernel
theorem d_M_mount_23 : decode b_M_mount 23 = .ok (.putfield 63, 3) := by decide +kernel
theorem d_M_mount_26 : decode b_M_mount 26 = .ok (.iload_n 1, 1) := by decide +kernel
theorem d_M_mount_27 : decode b_M_mount 27 = .ok (.aload_n 0, 1) := by decide +kernel
theorem d_M_mount_28 : decode b_M_mount 28 = .ok (.getfield 76, 3) := by decide +kernel
theorem d_M_mount_31 : decode b_M_mount 31 = .ok (.if_icmp .ge 11, 3) := by decide +kernel
theorem d_M_mount_34 : decode b_M_mount 34 = .ok (.aload_n 0, 1) := by decide +kernel
theorem d_M_mount_35 : decode b_M_mount 35 = .ok (.iconst 0, 1) := by decide +kernel
theorem d_M_mount_36 : decode b_M_mount 36 = .ok (.putfield 60, 3) := by decide +kernel
theorem d_M_mount_39 : decode b_M_mount 39 = .ok (.bipush (-3), 2) := by decide +kernel
theorem d_M_mount_41 : decode b_M_mount 41 = .ok (.ireturn, 1) := by decide +kernel
theorem d_M_mount_42 : decode b_M_mount 42 = .ok (.aload_n 0, 1) := by decide +kernel
theorem d_M_mount_43 : decode b_M_mount 43 = .ok (.iconst 1, 1) := by decide +kernel
theorem d_M_mount_44 : decode b_M_mount 44 = .ok (.putfield 60, 3) := by decide +kernel
theorem d_M_mount_47 : decode b_M_mount 47 = .ok (.iconst 0, 1) := by decide +kernel
theorem d_M_mount_48 : decode b_M_mount 48 = .ok (.istore_n 2, 1) := by decide +kernel
theorem d_M_mount_49 : decode b_M_mount 49 = .ok (.iload_n 2, 1) := by decide +kernel
theorem d_M_mount_50 : decode b_M_mount 50 = .ok (.iload_n 1, 1) := by decide +kernel
theorem d_M_mount_51 : decode b_M_mount 51 = .ok (.if_icmp .ge 39, 3) := by decide +kernel
theorem d_M_mount_54 : decode b_M_mount 54 = .ok (.aload_n 0, 1) := by decide +kernel
theorem d_M_mount_55 : decode b_M_mount 55 = .ok (.getfield 20, 3) := by decide +kernel
theorem d_M_mount_58 : decode b_M_mount 58 = .ok (.iload_n 2, 1) := by decide +kernel
theorem d_M_mount_59 : decode b_M_mount 59 = .ok (.aload_n 0, 1) := by decide +kernel
theorem d_M_mount_60 : decode b_M_mount 60 = .ok (.aload_n 0, 1) := by decide +kernel
theorem d_M_mount_61 : decode b_M_mount 61 = .ok (.iload_n 2, 1) := by decide +kernel
theorem d_M_mount_62 : decode b_M_mount 62 = .ok (.invokevirtual 79, 3) := by decide +kernel
theorem d_M_mount_65 : decode b_M_mount 65 = .ok (.aload_n 0, 1) := by decide +kernel
theorem d_M_mount_66 : decode b_M_mount 66 = .ok (.getfield 13, 3) := by decide +kernel
theorem d_M_mount_69 : decode b_M_mount 69 = .ok (.invokevirtual 83, 3) := by decide +kernel
theorem d_M_mount_72 : decode b_M_mount 72 = .ok (.iastore, 1) := by decide +kernel
theorem d_M_mount_73 : decode b_M_mount 73 = .ok (.aload_n 0, 1) := by decide +kernel
theorem d_M_mount_74 : decode b_M_mount 74 = .ok (.getfield 23, 3) := by decide +kernel
theorem d_M_mount_77 : decode b_M_mount 77 = .ok (.iload_n 2, 1) := by decide +kernel
theorem d_M_mount_78 : decode b_M_mount 78 = .ok (.aload_n 0, 1) := by decide +kernel
theorem d_M_mount_79 : decode b_M_mount 79 = .ok (.iload_n 2, 1) := by decide +kernel
theorem d_M_mount_80 : decode b_M_mount 80 = .ok (.invokevirtual 93, 3) := by decide +kernel
theorem d_M_mount_83 : decode b_M_mount 83 = .ok (.lastore, 1) := by decide +kernel
theorem d_M_mount_84 : decode b_M_mount 84 = .ok (.iinc 2 1, 3) := by decide +kernel
theorem d_M_mount_87 : decode b_M_mount 87 = .ok (.goto (-38), 3) := by decide +kernel
theorem d_M_mount_90 : decode b_M_mount 90 = .ok (.aload_n 0, 1) := by decide +kernel
theorem d_M_mount_91 : decode b_M_mount 91 = .ok (.iload_n 1, 1) := by decide +kernel
theorem d_M_mount_92 : decode b_M_mount 92 = .ok (.putfield 63, 3) := by decide +kernel
theorem d_M_mount_95 : decode b_M_mount 95 = .ok (.aload_n 0, 1) := by decide +kernel
theorem d_M_mount_96 : decode b_M_mount 96 = .ok (.aload_n 0, 1) := by decide +kernel
theorem d_M_mount_97 : decode b_M_mount 97 = .ok (.iload_n 1, 1) := by decide +kernel
theorem d_M_mount_98 : decode b_M_mount 98 = .ok (.invokevirtual 90, 3) := by decide +kernel
theorem d_M_mount_101 : decode b_M_mount 101 = .ok (.putfield 101, 3) := by decide +kernel
theorem d_M_mount_104 : decode b_M_mount 104 = .ok (.iload_n 1, 1) := by decide +kernel
theorem d_M_mount_105 : decode b_M_mount 105 = .ok (.ireturn, 1) := by decide +kernel
theorem d_M_looked_0 : decode b_M_looked 0 = .ok (.bipush 51, 2) := by decide +kernel
theorem d_M_looked_2 : decode b_M_looked 2 = .ok (.aload_n 0, 1) := by decide +kernel
theorem d_M_looked_3 : decode b_M_looked 3 = .ok (.getfield 73, 3) := by decide +kernel
theorem d_M_looked_6 : decode b_M_looked 6 = .ok (.imul, 1) := by decide +kernel
theorem d_M_looked_7 : decode b_M_looked 7 = .ok (.iconst 2, 1) := by decide +kernel
theorem d_M_looked_8 : decode b_M_looked 8 = .ok (.iload_n 1, 1) := by decide +kernel
theorem d_M_looked_9 : decode b_M_looked 9 = .ok (.imul, 1) := by decide +kernel
theorem d_M_looked_10 : decode b_M_looked 10 = .ok (.iadd, 1) := by decide +kernel
theorem d_M_looked_11 : decode b_M_looked 11 = .ok (.istore_n 2, 1) := by decide +kernel
theorem d_M_looked_12 : decode b_M_looked 12 = .ok (.aload_n 0, 1) := by decide +kernel
theorem d_M_looked_13 : decode b_M_looked 13 = .ok (.iload_n 1, 1) := by decide +kernel
theorem d_M_looked_14 : decode b_M_looked 14 = .ok (.aload_n 0, 1) := by decide +kernel
theorem d_M_looked_15 : decode b_M_looked 15 = .ok (.getfield 13, 3) := by decide +kernel
theorem d_M_looked_18 : decode b_M_looked 18 = .ok (.aload_n 0, 1) := by decide +kernel
theorem d_M_looked_19 : decode b_M_looked 19 = .ok (.getfield 7, 3) := by decide +kernel
theorem d_M_looked_22 : decode b_M_looked 22 = .ok (.iload_n 2, 1) := by decide +kernel
theorem d_M_looked_23 : decode b_M_looked 23 = .ok (.iaload, 1) := by decide +kernel
theorem d_M_looked_24 : decode b_M_looked 24 = .ok (.aload_n 0, 1) := by decide +kernel
theorem d_M_looked_25 : decode b_M_looked 25 = .ok (.getfield 7, 3) := by decide +kernel
theorem d_M_looked_28 : decode b_M_looked 28 = .ok (.iload_n 2, 1) := by decide +kernel
theorem d_M_looked_29 : decode b_M_looked 29 = .ok (.iconst 1, 1) := by decide +kernel
theorem d_M_looked_30 : decode b_M_looked 30 = .ok (.iadd, 1) := by decide +kernel
theorem d_M_looked_31 : decode b_M_looked 31 = .ok (.iaload, 1) := by decide +kernel
theorem d_M_looked_32 : decode b_M_looked 32 = .ok (.invokevirtual 52, 3) := by decide +kernel
theorem d_M_looked_35 : decode b_M_looked 35 = .ok (.istore_n 3, 1) := by decide +kernel
theorem d_M_looked_36 : decode b_M_looked 36 = .ok (.bipush 8, 2) := by decide +kernel
theorem d_M_looked_38 : decode b_M_looked 38 = .ok (.iload_n 1, 1) := by decide +kernel
theorem d_M_looked_39 : decode b_M_looked 39 = .ok (.iadd, 1) := by decide +kernel
theorem d_M_looked_40 : decode b_M_looked 40 = .ok (.istore 4, 2) := by decide +kernel
theorem d_M_looked_42 : decode b_M_looked 42 = .ok (.iload 4, 2) := by decide +kernel
theorem d_M_looked_44 : decode b_M_looked 44 = .ok (.iconst 1, 1) := by decide +kernel
theorem d_M_looked_45 : decode b_M_looked 45 = .ok (.if_icmp .le 71, 3) := by decide +kernel
theorem d_M_looked_48 : decode b_M_looked 48 = .ok (.aload_n 0, 1) := by decide +kernel
theorem d_M_looked_49 : decode b_M_looked 49 = .ok (.getfield 7, 3) := by decide +kernel
theorem d_M_looked_52 : decode b_M_looked 52 = .ok (.bipush 51, 2) := by decide +kernel
theorem d_M_looked_54 : decode b_M_looked 54 = .ok (.aload_n 0, 1) := by decide +kernel
theorem d_M_looked_55 : decode b_M_looked 55 = .ok (.getfield 73, 3) := by decide +kernel
theorem d_M_looked_58 : decode b_M_looked 58 = .ok (.imul, 1) := by decide +kernel
theorem d_M_looked_59 : decode b_M_looked 59 = .ok (.bipush 15, 2) := by decide +kernel
theorem d_M_looked_61 : decode b_M_looked 61 = .ok (.iadd, 1) := by decide +kernel
theorem d_M_looked_62 : decode b_M_looked 62 = .ok (.iload 4, 2) := by decide +kernel
theorem d_M_looked_64 : decode b_M_looked 64 = .ok (.iconst 2, 1) := by decide +kernel
theorem d_M_looked_65 : decode b_M_looked 65 = .ok (.irem, 1) := by decide +kernel
theorem d_M_looked_66 : decode b_M_looked 66 = .ok (.ifCond .ne 10, 3) := by decide +kernel
theorem d_M_looked_69 : decode b_M_looked 69 = .ok (.iload 4, 2) := by decide +kernel
theorem d_M_looked_71 : decode b_M_looked 71 = .ok (.iconst 1, 1) := by decide +kernel
theorem d_M_looked_72 : decode b_M_looked 72 = .ok (.iadd, 1) := by decide +kernel
theorem d_M_looked_73 : decode b_M_looked 73 = .ok (.goto 7, 3) := by decide +kernel
theorem d_M_looked_76 : decode b_M_looked 76 = .ok (.iload 4, 2) := by decide +kernel
theorem d_M_looked_78 : decode b_M_looked 78 = .ok (.iconst 1, 1) := by decide +kernel
theorem d_M_looked_79 : decode b_M_looked 79 = .ok (.isub, 1) := by decide +kernel
theorem d_M_looked_80 : decode b_M_looked 80 = .ok (.iadd, 1) := by decide +kernel
theorem d_M_looked_81 : decode b_M_looked 81 = .ok (.iaload, 1) := by decide +kernel
theorem d_M_looked_82 : decode b_M_looked 82 = .ok (.istore 5, 2) := by decide +kernel
theorem d_M_looked_84 : decode b_M_looked 84 = .ok (.iload 4, 2) := by decide +kernel
theorem d_M_looked_86 : decode b_M_looked 86 = .ok (.iconst 2, 1) := by decide +kernel
theorem d_M_looked_87 : decode b_M_looked 87 = .ok (.irem, 1) := by decide +kernel
theorem d_M_looked_88 : decode b_M_looked 88 = .ok (.ifCond .ne 12, 3) := by decide +kernel
theorem d_M_looked_91 : decode b_M_looked 91 = .ok (.iload_n 3, 1) := by decide +kernel
theorem d_M_looked_92 : decode b_M_looked 92 = .ok (.iload 5, 2) := by decide +kernel
theorem d_M_looked_94 : decode b_M_looked 94 = .ok (.invokestatic 47, 3) := by decide +kernel
theorem d_M_looked_97 : decode b_M_looked 97 = .ok (.goto 9, 3) := by decide +kernel
theorem d_M_looked_100 : decode b_M_looked 100 = .ok (.iload 5, 2) := by decide +kernel
theorem d_M_looked_102 : decode b_M_looked 102 = .ok (.iload_n 3, 1) := by decide +kernel
theorem d_M_looked_103 : decode b_M_looked 103 = .ok (.invokestatic 47, 3) := by decide +kernel
theorem d_M_looked_106 : decode b_M_looked 106 = .ok (.istore_n 3, 1) := by decide +kernel
theorem d_M_looked_107 : decode b_M_looked 107 = .ok (.iload 4, 2) := by decide +kernel
theorem d_M_looked_109 : decode b_M_looked 109 = .ok (.iconst 2, 1) := by decide +kernel
theorem d_M_looked_110 : decode b_M_looked 110 = .ok (.idiv, 1) := by decide +kernel
theorem d_M_looked_111 : decode b_M_looked 111 = .ok (.istore 4, 2) := by decide +kernel
theorem d_M_looked_113 : decode b_M_looked 113 = .ok (.goto (-71), 3) := by decide +kernel
theorem d_M_looked_116 : decode b_M_looked 116 = .ok (.aload_n 0, 1) := by decide +kernel
theorem d_M_looked_117 : decode b_M_looked 117 = .ok (.iload_n 2, 1) := by decide +kernel
theorem d_M_looked_118 : decode b_M_looked 118 = .ok (.aload_n 0, 1) := by decide +kernel
theorem d_M_looked_119 : decode b_M_looked 119 = .ok (.getfield 13, 3) := by decide +kernel
theorem d_M_looked_122 : decode b_M_looked 122 = .ok (.invokevirtual 83, 3) := by decide +kernel
theorem d_M_looked_125 : decode b_M_looked 125 = .ok (.istore 4, 2) := by decide +kernel
theorem d_M_looked_127 : decode b_M_looked 127 = .ok (.aload_n 0, 1) := by decide +kernel
theorem d_M_looked_128 : decode b_M_looked 128 = .ok (.iload_n 2, 1) := by decide +kernel
theorem d_M_looked_129 : decode b_M_looked 129 = .ok (.iconst 1, 1) := by decide +kernel
theorem d_M_looked_130 : decode b_M_looked 130 = .ok (.iadd, 1) := by decide +kernel
theorem d_M_looked_131 : decode b_M_looked 131 = .ok (.aload_n 0, 1) := by decide +kernel
theorem d_M_looked_132 : decode b_M_looked 132 = .ok (.getfield 13, 3) := by decide +kernel
theorem d_M_looked_135 : decode b_M_looked 135 = .ok (.invokevirtual 83, 3) := by decide +kernel
theorem d_M_looked_138 : decode b_M_looked 138 = .ok (.istore 5, 2) := by decide +kernel
theorem d_M_looked_140 : decode b_M_looked 140 = .ok (.iload_n 3, 1) := by decide +kernel
theorem d_M_looked_141 : decode b_M_looked 141 = .ok (.aload_n 0, 1) := by decide +kernel
theorem d_M_looked_142 : decode b_M_looked 142 = .ok (.getfield 41, 3) := by decide +kernel
theorem d_M_looked_145 : decode b_M_looked 145 = .ok (.if_icmp .ne 18, 3) := by decide +kernel
theorem d_M_looked_148 : decode b_M_looked 148 = .ok (.iload 4, 2) := by decide +kernel
theorem d_M_looked_150 : decode b_M_looked 150 = .ok (.ifCond .lt 13, 3) := by decide +kernel
theorem d_M_looked_153 : decode b_M_looked 153 = .ok (.iload 4, 2) := by decide +kernel
theorem d_M_looked_155 : decode b_M_looked 155 = .ok (.iload 5, 2) := by decide +kernel
theorem d_M_looked_157 : decode b_M_looked 157 = .ok (.invokestatic 86, 3) := by decide +kernel
theorem d_M_looked_160 : decode b_M_looked 160 = .ok (.goto 6, 3) := by decide +kernel
theorem d_M_looked_163 : decode b_M_looked 163 = .ok (.ldc2_w 104, 3) := by decide +kernel
theorem d_M_looked_166 : decode b_M_looked 166 = .ok (.lreturn, 1) := by decide +kernel
theorem d_M_value_0 : decode b_M_value 0 = .ok (.aload_n 0, 1) := by decide +kernel
theorem d_M_value_1 : decode b_M_value 1 = .ok (.getfield 63, 3) := by decide +kernel
theorem d_M_value_4 : decode b_M_value 4 = .ok (.iconst 1, 1) := by decide +kernel
theorem d_M_value_5 : decode b_M_value 5 = .ok (.isub, 1) := by decide +kernel
theorem d_M_value_6 : decode b_M_value 6 = .ok (.istore_n 2, 1) := by decide +kernel
theorem d_M_value_7 : decode b_M_value 7 = .ok (.iload_n 2, 1) := by decide +kernel
theorem d_M_value_8 : decode b_M_value 8 = .ok (.ifCond .lt 26, 3) := by decide +kernel
theorem d_M_value_11 : decode b_M_value 11 = .ok (.aload_n 0, 1) := by decide +kernel
theorem d_M_value_12 : decode b_M_value 12 = .ok (.getfield 20, 3) := by decide +kernel
theorem d_M_value_15 : decode b_M_value 15 = .ok (.iload_n 2, 1) := by decide +kernel
theorem d_M_value_16 : decode b_M_value 16 = .ok (.iaload, 1) := by decide +kernel
theorem d_M_value_17 : decode b_M_value 17 = .ok (.iload_n 1, 1) := by decide +kernel
theorem d_M_value_18 : decode b_M_value 18 = .ok (.if_icmp .ne 10, 3) := by decide +kernel
theorem d_M_value_21 : decode b_M_value 21 = .ok (.aload_n 0, 1) := by decide +kernel
theorem d_M_value_22 : decode b_M_value 22 = .ok (.getfield 23, 3) := by decide +kernel
theorem d_M_value_25 : decode b_M_value 25 = .ok (.iload_n 2, 1) := by decide +kernel
theorem d_M_value_26 : decode b_M_value 26 = .ok (.laload, 1) := by decide +kernel
theorem d_M_value_27 : decode b_M_value 27 = .ok (.lreturn, 1) := by decide +kernel
theorem d_M_value_28 : decode b_M_value 28 = .ok (.iinc 2 (-1), 3) := by decide +kernel
theorem d_M_value_31 : decode b_M_value 31 = .ok (.goto (-24), 3) := by decide +kernel
theorem d_M_value_34 : decode b_M_value 34 = .ok (.aload_n 0, 1) := by decide +kernel
theorem d_M_value_35 : decode b_M_value 35 = .ok (.iload_n 1, 1) := by decide +kernel
theorem d_M_value_36 : decode b_M_value 36 = .ok (.invokevirtual 106, 3) := by decide +kernel
theorem d_M_value_39 : decode b_M_value 39 = .ok (.lreturn, 1) := by decide +kernel
theorem d_M_read_0 : decode b_M_read 0 = .ok (.aload_n 0, 1) := by decide +kernel
theorem d_M_read_1 : decode b_M_read 1 = .ok (.getfield 60, 3) := by decide +kernel
theorem d_M_read_4 : decode b_M_read 4 = .ok (.ifCond .ne 7, 3) := by decide +kernel
theorem d_M_read_7 : decode b_M_read 7 = .ok (.ldc2_w 104, 3) := by decide +kernel
theorem d_M_read_10 : decode b_M_read 10 = .ok (.lreturn, 1) := by decide +kernel
theorem d_M_read_11 : decode b_M_read 11 = .ok (.iload_n 1, 1) := by decide +kernel
theorem d_M_read_12 : decode b_M_read 12 = .ok (.ifCond .lt 9, 3) := by decide +kernel
theorem d_M_read_15 : decode b_M_read 15 = .ok (.iload_n 1, 1) := by decide +kernel
theorem d_M_read_16 : decode b_M_read 16 = .ok (.bipush 7, 2) := by decide +kernel
theorem d_M_read_18 : decode b_M_read 18 = .ok (.if_icmp .le 7, 3) := by decide +kernel
theorem d_M_read_21 : decode b_M_read 21 = .ok (.ldc2_w 109, 3) := by decide +kernel
theorem d_M_read_24 : decode b_M_read 24 = .ok (.lreturn, 1) := by decide +kernel
theorem d_M_read_25 : decode b_M_read 25 = .ok (.aload_n 0, 1) := by decide +kernel
theorem d_M_read_26 : decode b_M_read 26 = .ok (.iload_n 1, 1) := by decide +kernel
theorem d_M_read_27 : decode b_M_read 27 = .ok (.invokevirtual 111, 3) := by decide +kernel
theorem d_M_read_30 : decode b_M_read 30 = .ok (.lstore_n 2, 1) := by decide +kernel
theorem d_M_read_31 : decode b_M_read 31 = .ok (.lload_n 2, 1) := by decide +kernel
theorem d_M_read_32 : decode b_M_read 32 = .ok (.lconst 0, 1) := by decide +kernel
theorem d_M_read_33 : decode b_M_read 33 = .ok (.lcmp, 1) := by decide +kernel
theorem d_M_read_34 : decode b_M_read 34 = .ok (.ifCond .ge 9, 3) := by decide +kernel
theorem d_M_read_37 : decode b_M_read 37 = .ok (.ldc2_w 114, 3) := by decide +kernel
theorem d_M_read_40 : decode b_M_read 40 = .ok (.goto 4, 3) := by decide +kernel
theorem d_M_read_43 : decode b_M_read 43 = .ok (.lload_n 2, 1) := by decide +kernel
theorem d_M_read_44 : decode b_M_read 44 = .ok (.lreturn, 1) := by decide +kernel
theorem d_M_sound_0 : decode b_M_sound 0 = .ok (.iconst 0, 1) := by decide +kernel
theorem d_M_sound_1 : decode b_M_sound 1 = .ok (.istore_n 1, 1) := by decide +kernel
theorem d_M_sound_2 : decode b_M_sound 2 = .ok (.iconst 0, 1) := by decide +kernel
theorem d_M_sound_3 : decode b_M_sound 3 = .ok (.istore_n 2, 1) := by decide +kernel
theorem d_M_sound_4 : decode b_M_sound 4 = .ok (.iload_n 2, 1) := by decide +kernel
theorem d_M_sound_5 : decode b_M_sound 5 = .ok (.bipush 8, 2) := by decide +kernel
theorem d_M_sound_7 : decode b_M_sound 7 = .ok (.if_icmp .ge 29, 3) := by decide +kernel
theorem d_M_sound_10 : decode b_M_sound 10 = .ok (.aload_n 0, 1) := by decide +kernel
theorem d_M_sound_11 : decode b_M_sound 11 = .ok (.iload_n 2, 1) := by decide +kernel
theorem d_M_sound_12 : decode b_M_sound 12 = .ok (.invokevirtual 111, 3) := by decide +kernel
theorem d_M_sound_15 : decode b_M_sound 15 = .ok (.lconst 0, 1) := by decide +kernel
theorem d_M_sound_16 : decode b_M_sound 16 = .ok (.lcmp, 1) := by decide +kernel
theorem d_M_sound_17 : decode b_M_sound 17 = .ok (.ifCond .ge 7, 3) := by decide +kernel
theorem d_M_sound_20 : decode b_M_sound 20 = .ok (.iload_n 1, 1) := by decide +kernel
theorem d_M_sound_21 : decode b_M_sound 21 = .ok (.goto 8, 3) := by decide +kernel
theorem d_M_sound_24 : decode b_M_sound 24 = .ok (.iload_n 1, 1) := by decide +kernel
theorem d_M_sound_25 : decode b_M_sound 25 = .ok (.iconst 1, 1) := by decide +kernel
theorem d_M_sound_26 : decode b_M_sound 26 = .ok (.iload_n 2, 1) := by decide +kernel
theorem d_M_sound_27 : decode b_M_sound 27 = .ok (.ishl, 1) := by decide +kernel
theorem d_M_sound_28 : decode b_M_sound 28 = .ok (.ior, 1) := by decide +kernel
theorem d_M_sound_29 : decode b_M_sound 29 = .ok (.istore_n 1, 1) := by decide +kernel
theorem d_M_sound_30 : decode b_M_sound 30 = .ok (.iinc 2 1, 3) := by decide +kernel
theorem d_M_sound_33 : decode b_M_sound 33 = .ok (.goto (-29), 3) := by decide +kernel
theorem d_M_sound_36 : decode b_M_sound 36 = .ok (.aload_n 0, 1) := by decide +kernel
theorem d_M_sound_37 : decode b_M_sound 37 = .ok (.getfield 60, 3) := by decide +kernel
theorem d_M_sound_40 : decode b_M_sound 40 = .ok (.ifCond .eq 7, 3) := by decide +kernel
theorem d_M_sound_43 : decode b_M_sound 43 = .ok (.iload_n 1, 1) := by decide +kernel
theorem d_M_sound_44 : decode b_M_sound 44 = .ok (.goto 4, 3) := by decide +kernel
theorem d_M_sound_47 : decode b_M_sound 47 = .ok (.iconst (-1), 1) := by decide +kernel
theorem d_M_sound_48 : decode b_M_sound 48 = .ok (.ireturn, 1) := by decide +kernel
theorem d_M_change_0 : decode b_M_change 0 = .ok (.iconst 1, 1) := by decide +kernel
theorem d_M_change_1 : decode b_M_change 1 = .ok (.istore_n 1, 1) := by decide +kernel
theorem d_M_change_2 : decode b_M_change 2 = .ok (.iconst 0, 1) := by decide +kernel
theorem d_M_change_3 : decode b_M_change 3 = .ok (.istore_n 2, 1) := by decide +kernel
theorem d_M_change_4 : decode b_M_change 4 = .ok (.iload_n 2, 1) := by decide +kernel
theorem d_M_change_5 : decode b_M_change 5 = .ok (.bipush 8, 2) := by decide +kernel
theorem d_M_change_7 : decode b_M_change 7 = .ok (.if_icmp .ge 41, 3) := by decide +kernel
theorem d_M_change_10 : decode b_M_change 10 = .ok (.aload_n 0, 1) := by decide +kernel
theorem d_M_change_11 : decode b_M_change 11 = .ok (.getfield 27, 3) := by decide +kernel
theorem d_M_change_14 : decode b_M_change 14 = .ok (.iload_n 2, 1) := by decide +kernel
theorem d_M_change_15 : decode b_M_change 15 = .ok (.aload_n 0, 1) := by decide +kernel
theorem d_M_change_16 : decode b_M_change 16 = .ok (.iload_n 2, 1) := by decide +kernel
theorem d_M_change_17 : decode b_M_change 17 = .ok (.invokevirtual 111, 3) := by decide +kernel
theorem d_M_change_20 : decode b_M_change 20 = .ok (.lastore, 1) := by decide +kernel
theorem d_M_change_21 : decode b_M_change 21 = .ok (.iload_n 1, 1) := by decide +kernel
theorem d_M_change_22 : decode b_M_change 22 = .ok (.ifCond .eq 18, 3) := by decide +kernel
theorem d_M_change_25 : decode b_M_change 25 = .ok (.aload_n 0, 1) := by decide +kernel
theorem d_M_change_26 : decode b_M_change 26 = .ok (.getfield 27, 3) := by decide +kernel
theorem d_M_change_29 : decode b_M_change 29 = .ok (.iload_n 2, 1) := by decide +kernel
theorem d_M_change_30 : decode b_M_change 30 = .ok (.laload, 1) := by decide +kernel
theorem d_M_change_31 : decode b_M_change 31 = .ok (.lconst 0, 1) := by decide +kernel
theorem d_M_change_32 : decode b_M_change 32 = .ok (.lcmp, 1) := by decide +kernel
theorem d_M_change_33 : decode b_M_change 33 = .ok (.ifCond .lt 7, 3) := by decide +kernel
theorem d_M_change_36 : decode b_M_change 36 = .ok (.iconst 1, 1) := by decide +kernel
theorem d_M_change_37 : decode b_M_change 37 = .ok (.goto 4, 3) := by decide +kernel
theorem d_M_change_40 : decode b_M_change 40 = .ok (.iconst 0, 1) := by decide +kernel
theorem d_M_change_41 : decode b_M_change 41 = .ok (.istore_n 1, 1) := by decide +kernel
theorem d_M_change_42 : decode b_M_change 42 = .ok (.iinc 2 1, 3) := by decide +kernel
theorem d_M_change_45 : decode b_M_change 45 = .ok (.goto (-41), 3) := by decide +kernel
theorem d_M_change_48 : decode b_M_change 48 = .ok (.iload_n 1, 1) := by decide +kernel
theorem d_M_change_49 : decode b_M_change 49 = .ok (.ifCond .ne 6, 3) := by decide +kernel
theorem d_M_change_52 : decode b_M_change 52 = .ok (.bipush (-3), 2) := by decide +kernel
theorem d_M_change_54 : decode b_M_change 54 = .ok (.ireturn, 1) := by decide +kernel
theorem d_M_change_55 : decode b_M_change 55 = .ok (.iconst 1, 1) := by decide +kernel
theorem d_M_change_56 : decode b_M_change 56 = .ok (.aload_n 0, 1) := by decide +kernel
theorem d_M_change_57 : decode b_M_change 57 = .ok (.getfield 73, 3) := by decide +kernel
theorem d_M_change_60 : decode b_M_change 60 = .ok (.isub, 1) := by decide +kernel
theorem d_M_change_61 : decode b_M_change 61 = .ok (.istore_n 2, 1) := by decide +kernel
theorem d_M_change_62 : decode b_M_change 62 = .ok (.aload_n 0, 1) := by decide +kernel
theorem d_M_change_63 : decode b_M_change 63 = .ok (.getfield 13, 3) := by decide +kernel
theorem d_M_change_66 : decode b_M_change 66 = .ok (.iconst 1, 1) := by decide +kernel
theorem d_M_change_67 : decode b_M_change 67 = .ok (.iadd, 1) := by decide +kernel
theorem d_M_change_68 : decode b_M_change 68 = .ok (.istore_n 3, 1) := by decide +kernel
theorem d_M_change_69 : decode b_M_change 69 = .ok (.iconst 0, 1) := by decide +kernel
theorem d_M_change_70 : decode b_M_change 70 = .ok (.istore 4, 2) := by decide +kernel
theorem d_M_change_72 : decode b_M_change 72 = .ok (.iload 4, 2) := by decide +kernel
theorem d_M_change_74 : decode b_M_change 74 = .ok (.iconst 5, 1) := by decide +kernel
theorem d_M_change_75 : decode b_M_change 75 = .ok (.if_icmp .ge 26, 3) := by decide +kernel
theorem d_M_change_78 : decode b_M_change 78 = .ok (.aload_n 0, 1) := by decide +kernel
theorem d_M_change_79 : decode b_M_change 79 = .ok (.bipush 51, 2) := by decide +kernel
theorem d_M_change_81 : decode b_M_change 81 = .ok (.iload_n 2, 1) := by decide +kernel
theorem d_M_change_82 : decode b_M_change 82 = .ok (.imul, 1) := by decide +kernel
theorem d_M_change_83 : decode b_M_change 83 = .ok (.bipush 34, 2) := by decide +kernel
theorem d_M_change_85 : decode b_M_change 85 = .ok (.iadd, 1) := by decide +kernel
theorem d_M_change_86 : decode b_M_change 86 = .ok (.iconst 4, 1) := by decide +kernel
theorem d_M_change_87 : decode b_M_change 87 = .ok (.iload 4, 2) := by decide +kernel
theorem d_M_change_89 : decode b_M_change 89 = .ok (.imul, 1) := by decide +kernel
theorem d_M_change_90 : decode b_M_change 90 = .ok (.iadd, 1) := by decide +kernel
theorem d_M_change_91 : decode b_M_change 91 = .ok (.iconst 0, 1) := by decide +kernel
theorem d_M_change_92 : decode b_M_change 92 = .ok (.invokevirtual 116, 3) := by decide +kernel
theorem d_M_change_95 : decode b_M_change 95 = .ok (.iinc 4 1, 3) := by decide +kernel
theorem d_M_change_98 : decode b_M_change 98 = .ok (.goto (-26), 3) := by decide +kernel
theorem d_M_change_101 : decode b_M_change 101 = .ok (.iconst 0, 1) := by decide +kernel
theorem d_M_change_102 : decode b_M_change 102 = .ok (.istore 4, 2) := by decide +kernel
theorem d_M_change_104 : decode b_M_change 104 = .ok (.iload 4, 2) := by decide +kernel
theorem d_M_change_106 : decode b_M_change 106 = .ok (.bipush 8, 2) := by decide +kernel
theorem d_M_change_108 : decode b_M_change 108 = .ok (.if_icmp .ge 69, 3) := by decide +kernel
theorem d_M_change_111 : decode b_M_change 111 = .ok (.bipush 51, 2) := by decide +kernel
theorem d_M_change_113 : decode b_M_change 113 = .ok (.iload_n 2, 1) := by decide +kernel
theorem d_M_change_114 : decode b_M_change 114 = .ok (.imul, 1) := by decide +kernel
theorem d_M_change_115 : decode b_M_change 115 = .ok (.iconst 2, 1) := by decide +kernel
theorem d_M_change_116 : decode b_M_change 116 = .ok (.iload 4, 2) := by decide +kernel
theorem d_M_change_118 : decode b_M_change 118 = .ok (.imul, 1) := by decide +kernel
theorem d_M_change_119 : decode b_M_change 119 = .ok (.iadd, 1) := by decide +kernel
theorem d_M_change_120 : decode b_M_change 120 = .ok (.istore 5, 2) := by decide +kernel
theorem d_M_change_122 : decode b_M_change 122 = .ok (.aload_n 0, 1) := by decide +kernel
theorem d_M_change_123 : decode b_M_change 123 = .ok (.iload 5, 2) := by decide +kernel
theorem d_M_change_125 : decode b_M_change 125 = .ok (.aload_n 0, 1) := by decide +kernel
theorem d_M_change_126 : decode b_M_change 126 = .ok (.getfield 27, 3) := by decide +kernel
theorem d_M_change_129 : decode b_M_change 129 = .ok (.iload 4, 2) := by decide +kernel
theorem d_M_change_131 : decode b_M_change 131 = .ok (.laload, 1) := by decide +kernel
theorem d_M_change_132 : decode b_M_change 132 = .ok (.bipush 32, 2) := by decide +kernel
theorem d_M_change_134 : decode b_M_change 134 = .ok (.lshr, 1) := by decide +kernel
theorem d_M_change_135 : decode b_M_change 135 = .ok (.l2i, 1) := by decide +kernel
theorem d_M_change_136 : decode b_M_change 136 = .ok (.iload_n 3, 1) := by decide +kernel
theorem d_M_change_137 : decode b_M_change 137 = .ok (.iload 5, 2) := by decide +kernel
theorem d_M_change_139 : decode b_M_change 139 = .ok (.invokestatic 33, 3) := by decide +kernel
theorem d_M_change_142 : decode b_M_change 142 = .ok (.ixor, 1) := by decide +kernel
theorem d_M_change_143 : decode b_M_change 143 = .ok (.invokevirtual 116, 3) := by decide +kernel
theorem d_M_change_146 : decode b_M_change 146 = .ok (.aload_n 0, 1) := by decide +kernel
theorem d_M_change_147 : decode b_M_change 147 = .ok (.iload 5, 2) := by decide +kernel
theorem d_M_change_149 : decode b_M_change 149 = .ok (.iconst 1, 1) := by decide +kernel
theorem d_M_change_150 : decode b_M_change 150 = .ok (.iadd, 1) := by decide +kernel
theorem d_M_change_151 : decode b_M_change 151 = .ok (.aload_n 0, 1) := by decide +kernel
theorem d_M_change_152 : decode b_M_change 152 = .ok (.getfield 27, 3) := by decide +kernel
theorem d_M_change_155 : decode b_M_change 155 = .ok (.iload 4, 2) := by decide +kernel
theorem d_M_change_157 : decode b_M_change 157 = .ok (.laload, 1) := by decide +kernel
theorem d_M_change_158 : decode b_M_change 158 = .ok (.l2i, 1) := by decide +kernel
theorem d_M_change_159 : decode b_M_change 159 = .ok (.iload_n 3, 1) := by decide +kernel
theorem d_M_change_160 : decode b_M_change 160 = .ok (.iload 5, 2) := by decide +kernel
theorem d_M_change_162 : decode b_M_change 162 = .ok (.iconst 1, 1) := by decide +kernel
theorem d_M_change_163 : decode b_M_change 163 = .ok (.iadd, 1) := by decide +kernel
theorem d_M_change_164 : decode b_M_change 164 = .ok (.invokestatic 33, 3) := by decide +kernel
theorem d_M_change_167 : decode b_M_change 167 = .ok (.ixor, 1) := by decide +kernel
theorem d_M_change_168 : decode b_M_change 168 = .ok (.invokevirtual 116, 3) := by decide +kernel
theorem d_M_change_171 : decode b_M_change 171 = .ok (.iinc 4 1, 3) := by decide +kernel
theorem d_M_change_174 : decode b_M_change 174 = .ok (.goto (-70), 3) := by decide +kernel
theorem d_M_change_177 : decode b_M_change 177 = .ok (.aload_n 0, 1) := by decide +kernel
theorem d_M_change_178 : decode b_M_change 178 = .ok (.iload_n 2, 1) := by decide +kernel
theorem d_M_change_179 : decode b_M_change 179 = .ok (.iload_n 3, 1) := by decide +kernel
theorem d_M_change_180 : decode b_M_change 180 = .ok (.invokevirtual 37, 3) := by decide +kernel
theorem d_M_change_183 : decode b_M_change 183 = .ok (.bipush 15, 2) := by decide +kernel
theorem d_M_change_185 : decode b_M_change 185 = .ok (.istore 4, 2) := by decide +kernel
theorem d_M_change_187 : decode b_M_change 187 = .ok (.iload 4, 2) := by decide +kernel
theorem d_M_change_189 : decode b_M_change 189 = .ok (.ifCond .le 30, 3) := by decide +kernel
theorem d_M_change_192 : decode b_M_change 192 = .ok (.aload_n 0, 1) := by decide +kernel
theorem d_M_change_193 : decode b_M_change 193 = .ok (.bipush 51, 2) := by decide +kernel
theorem d_M_change_195 : decode b_M_change 195 = .ok (.iload_n 2, 1) := by decide +kernel
theorem d_M_change_196 : decode b_M_change 196 = .ok (.imul, 1) := by decide +kernel
theorem d_M_change_197 : decode b_M_change 197 = .ok (.bipush 15, 2) := by decide +kernel
theorem d_M_change_199 : decode b_M_change 199 = .ok (.iadd, 1) := by decide +kernel
theorem d_M_change_200 : decode b_M_change 200 = .ok (.iload 4, 2) := by decide +kernel
theorem d_M_change_202 : decode b_M_change 202 = .ok (.iadd, 1) := by decide +kernel
theorem d_M_change_203 : decode b_M_change 203 = .ok (.aload_n 0, 1) := by decide +kernel
theorem d_M_change_204 : decode b_M_change 204 = .ok (.getfield 30, 3) := by decide +kernel
theorem d_M_change_207 : decode b_M_change 207 = .ok (.iload 4, 2) := by decide +kernel
theorem d_M_change_209 : decode b_M_change 209 = .ok (.iaload, 1) := by decide +kernel
theorem d_M_change_210 : decode b_M_change 210 = .ok (.invokevirtual 116, 3) := by decide +kernel
theorem d_M_change_213 : decode b_M_change 213 = .ok (.iinc 4 (-1), 3) := by decide +kernel
theorem d_M_change_216 : decode b_M_change 216 = .ok (.goto (-29), 3) := by decide +kernel
theorem d_M_change_219 : decode b_M_change 219 = .ok (.aload_n 0, 1) := by decide +kernel
theorem d_M_change_220 : decode b_M_change 220 = .ok (.iload_n 2, 1) := by decide +kernel
theorem d_M_change_221 : decode b_M_change 221 = .ok (.iload_n 3, 1) := by decide +kernel
theorem d_M_change_222 : decode b_M_change 222 = .ok (.aload_n 0, 1) := by decide +kernel
theorem d_M_change_223 : decode b_M_change 223 = .ok (.getfield 30, 3) := by decide +kernel
theorem d_M_change_226 : decode b_M_change 226 = .ok (.iconst 1, 1) := by decide +kernel
theorem d_M_change_227 : decode b_M_change 227 = .ok (.iaload, 1) := by decide +kernel
theorem d_M_change_228 : decode b_M_change 228 = .ok (.iconst 0, 1) := by decide +kernel
theorem d_M_change_229 : decode b_M_change 229 = .ok (.invokevirtual 119, 3) := by decide +kernel
theorem d_M_change_232 : decode b_M_change 232 = .ok (.aload_n 0, 1) := by decide +kernel
theorem d_M_change_233 : decode b_M_change 233 = .ok (.iconst 0, 1) := by decide +kernel
theorem d_M_change_234 : decode b_M_change 234 = .ok (.putfield 63, 3) := by decide +kernel
theorem d_M_change_237 : decode b_M_change 237 = .ok (.aload_n 0, 1) := by decide +kernel
theorem d_M_change_238 : decode b_M_change 238 = .ok (.aload_n 0, 1) := by decide +kernel
theorem d_M_change_239 : decode b_M_change 239 = .ok (.iconst 0, 1) := by decide +kernel
theorem d_M_change_240 : decode b_M_change 240 = .ok (.invokevirtual 90, 3) := by decide +kernel
theorem d_M_change_243 : decode b_M_change 243 = .ok (.putfield 101, 3) := by decide +kernel
theorem d_M_change_246 : decode b_M_change 246 = .ok (.aload_n 0, 1) := by decide +kernel
theorem d_M_change_247 : decode b_M_change 247 = .ok (.getfield 56, 3) := by decide +kernel
theorem d_M_change_250 : decode b_M_change 250 = .ok (.ifCond .eq 8, 3) := by decide +kernel
theorem d_M_change_253 : decode b_M_change 253 = .ok (.bipush (-4), 2) := by decide +kernel
theorem d_M_change_255 : decode b_M_change 255 = .ok (.goto 4, 3) := by decide +kernel
theorem d_M_change_258 : decode b_M_change 258 = .ok (.iconst 0, 1) := by decide +kernel
theorem d_M_change_259 : decode b_M_change 259 = .ok (.ireturn, 1) := by decide +kernel
theorem d_M_checkpoint_0 : decode b_M_checkpoint 0 = .ok (.aload_n 0, 1) := by decide +kernel
theorem d_M_checkpoint_1 : decode b_M_checkpoint 1 = .ok (.getfield 60, 3) := by decide +kernel
theorem d_M_checkpoint_4 : decode b_M_checkpoint 4 = .ok (.ifCond .ne 5, 3) := by decide +kernel
theorem d_M_checkpoint_7 : decode b_M_checkpoint 7 = .ok (.iconst (-1), 1) := by decide +kernel
theorem d_M_checkpoint_8 : decode b_M_checkpoint 8 = .ok (.ireturn, 1) := by decide +kernel
theorem d_M_checkpoint_9 : decode b_M_checkpoint 9 = .ok (.aload_n 0, 1) := by decide +kernel
theorem d_M_checkpoint_10 : decode b_M_checkpoint 10 = .ok (.iconst 0, 1) := by decide +kernel
theorem d_M_checkpoint_11 : decode b_M_checkpoint 11 = .ok (.putfield 56, 3) := by decide +kernel
theorem d_M_checkpoint_14 : decode b_M_checkpoint 14 = .ok (.aload_n 0, 1) := by decide +kernel
theorem d_M_checkpoint_15 : decode b_M_checkpoint 15 = .ok (.invokevirtual 123, 3) := by decide +kernel
theorem d_M_checkpoint_18 : decode b_M_checkpoint 18 = .ok (.istore_n 1, 1) := by decide +kernel
theorem d_M_checkpoint_19 : decode b_M_checkpoint 19 = .ok (.iload_n 1, 1) := by decide +kernel
theorem d_M_checkpoint_20 : decode b_M_checkpoint 20 = .ok (.ifCond .ge 7, 3) := by decide +kernel
theorem d_M_checkpoint_23 : decode b_M_checkpoint 23 = .ok (.iload_n 1, 1) := by decide +kernel
theorem d_M_checkpoint_24 : decode b_M_checkpoint 24 = .ok (.goto 7, 3) := by decide +kernel
theorem d_M_checkpoint_27 : decode b_M_checkpoint 27 = .ok (.aload_n 0, 1) := by decide +kernel
theorem d_M_checkpoint_28 : decode b_M_checkpoint 28 = .ok (.getfield 13, 3) := by decide +kernel
theorem d_M_checkpoint_31 : decode b_M_checkpoint 31 = .ok (.ireturn, 1) := by decide +kernel
theorem d_M_write_0 : decode b_M_write 0 = .ok (.aload_n 0, 1) := by decide +kernel
theorem d_M_write_1 : decode b_M_write 1 = .ok (.getfield 60, 3) := by decide +kernel
theorem d_M_write_4 : decode b_M_write 4 = .ok (.ifCond .ne 5, 3) := by decide +kernel
theorem d_M_write_7 : decode b_M_write 7 = .ok (.iconst (-1), 1) := by decide +kernel
theorem d_M_write_8 : decode b_M_write 8 = .ok (.ireturn, 1) := by decide +kernel
theorem d_M_write_9 : decode b_M_write 9 = .ok (.iload_n 1, 1) := by decide +kernel
theorem d_M_write_10 : decode b_M_write 10 = .ok (.ifCond .lt 15, 3) := by decide +kernel
theorem d_M_write_13 : decode b_M_write 13 = .ok (.iload_n 1, 1) := by decide +kernel
theorem d_M_write_14 : decode b_M_write 14 = .ok (.bipush 7, 2) := by decide +kernel
theorem d_M_write_16 : decode b_M_write 16 = .ok (.if_icmp .gt 9, 3) := by decide +kernel
theorem d_M_write_19 : decode b_M_write 19 = .ok (.lload_n 2, 1) := by decide +kernel
theorem d_M_write_20 : decode b_M_write 20 = .ok (.lconst 0, 1) := by decide +kernel
theorem d_M_write_21 : decode b_M_write 21 = .ok (.lcmp, 1) := by decide +kernel
theorem d_M_write_22 : decode b_M_write 22 = .ok (.ifCond .ge 6, 3) := by decide +kernel
theorem d_M_write_25 : decode b_M_write 25 = .ok (.bipush (-2), 2) := by decide +kernel
theorem d_M_write_27 : decode b_M_write 27 = .ok (.ireturn, 1) := by decide +kernel
theorem d_M_write_28 : decode b_M_write 28 = .ok (.aload_n 0, 1) := by decide +kernel
theorem d_M_write_29 : decode b_M_write 29 = .ok (.iconst 0, 1) := by decide +kernel
theorem d_M_write_30 : decode b_M_write 30 = .ok (.putfield 56, 3) := by decide +kernel
theorem d_M_write_33 : decode b_M_write 33 = .ok (.aload_n 0, 1) := by decide +kernel
theorem d_M_write_34 : decode b_M_write 34 = .ok (.getfield 63, 3) := by decide +kernel
theorem d_M_write_37 : decode b_M_write 37 = .ok (.iconst 5, 1) := by decide +kernel
theorem d_M_write_38 : decode b_M_write 38 = .ok (.if_icmp .ne 10, 3) := by decide +kernel
theorem d_M_write_41 : decode b_M_write 41 = .ok (.aload_n 0, 1) := by decide +kernel
theorem d_M_write_42 : decode b_M_write 42 = .ok (.invokevirtual 123, 3) := by decide +kernel
theorem d_M_write_45 : decode b_M_write 45 = .ok (.goto 4, 3) := by decide +kernel
theorem d_M_write_48 : decode b_M_write 48 = .ok (.iconst 0, 1) := by decide +kernel
theorem d_M_write_49 : decode b_M_write 49 = .ok (.istore 4, 2) := by decide +kernel
theorem d_M_write_51 : decode b_M_write 51 = .ok (.iload 4, 2) := by decide +kernel
theorem d_M_write_53 : decode b_M_write 53 = .ok (.ifCond .ge 6, 3) := by decide +kernel
theorem d_M_write_56 : decode b_M_write 56 = .ok (.iload 4, 2) := by decide +kernel
theorem d_M_write_58 : decode b_M_write 58 = .ok (.ireturn, 1) := by decide +kernel
theorem d_M_write_59 : decode b_M_write 59 = .ok (.aload_n 0, 1) := by decide +kernel
theorem d_M_write_60 : decode b_M_write 60 = .ok (.getfield 63, 3) := by decide +kernel
theorem d_M_write_63 : decode b_M_write 63 = .ok (.istore 5, 2) := by decide +kernel
theorem d_M_write_65 : decode b_M_write 65 = .ok (.aload_n 0, 1) := by decide +kernel
theorem d_M_write_66 : decode b_M_write 66 = .ok (.iload 5, 2) := by decide +kernel
theorem d_M_write_68 : decode b_M_write 68 = .ok (.invokevirtual 79, 3) := by decide +kernel
theorem d_M_write_71 : decode b_M_write 71 = .ok (.istore 6, 2) := by decide +kernel
theorem d_M_write_73 : decode b_M_write 73 = .ok (.iload_n 1, 1) := by decide +kernel
theorem d_M_write_74 : decode b_M_write 74 = .ok (.aload_n 0, 1) := by decide +kernel
theorem d_M_write_75 : decode b_M_write 75 = .ok (.getfield 13, 3) := by decide +kernel
theorem d_M_write_78 : decode b_M_write 78 = .ok (.iload 6, 2) := by decide +kernel
theorem d_M_write_80 : decode b_M_write 80 = .ok (.invokestatic 33, 3) := by decide +kernel
theorem d_M_write_83 : decode b_M_write 83 = .ok (.ixor, 1) := by decide +kernel
theorem d_M_write_84 : decode b_M_write 84 = .ok (.istore 7, 2) := by decide +kernel
theorem d_M_write_86 : decode b_M_write 86 = .ok (.lload_n 2, 1) := by decide +kernel
theorem d_M_write_87 : decode b_M_write 87 = .ok (.bipush 32, 2) := by decide +kernel
theorem d_M_write_89 : decode b_M_write 89 = .ok (.lshr, 1) := by decide +kernel
theorem d_M_write_90 : decode b_M_write 90 = .ok (.l2i, 1) := by decide +kernel
theorem d_M_write_91 : decode b_M_write 91 = .ok (.aload_n 0, 1) := by decide +kernel
theorem d_M_write_92 : decode b_M_write 92 = .ok (.getfield 13, 3) := by decide +kernel
theorem d_M_write_95 : decode b_M_write 95 = .ok (.iload 6, 2) := by decide +kernel
theorem d_M_write_97 : decode b_M_write 97 = .ok (.iconst 1, 1) := by decide +kernel
theorem d_M_write_98 : decode b_M_write 98 = .ok (.iadd, 1) := by decide +kernel
theorem d_M_write_99 : decode b_M_write 99 = .ok (.invokestatic 33, 3) := by decide +kernel
theorem d_M_write_102 : decode b_M_write 102 = .ok (.ixor, 1) := by decide +kernel
theorem d_M_write_103 : decode b_M_write 103 = .ok (.istore 8, 2) := by decide +kernel
theorem d_M_write_105 : decode b_M_write 105 = .ok (.lload_n 2, 1) := by decide +kernel
theorem d_M_write_106 : decode b_M_write 106 = .ok (.l2i, 1) := by decide +kernel
theorem d_M_write_107 : decode b_M_write 107 = .ok (.aload_n 0, 1) := by decide +kernel
theorem d_M_write_108 : decode b_M_write 108 = .ok (.getfield 13, 3) := by decide +kernel
theorem d_M_write_111 : decode b_M_write 111 = .ok (.iload 6, 2) := by decide +kernel
theorem d_M_write_113 : decode b_M_write 113 = .ok (.iconst 2, 1) := by decide +kernel
theorem d_M_write_114 : decode b_M_write 114 = .ok (.iadd, 1) := by decide +kernel
theorem d_M_write_115 : decode b_M_write 115 = .ok (.invokestatic 33, 3) := by decide +kernel
theorem d_M_write_118 : decode b_M_write 118 = .ok (.ixor, 1) := by decide +kernel
theorem d_M_write_119 : decode b_M_write 119 = .ok (.istore 9, 2) := by decide +kernel
theorem d_M_write_121 : decode b_M_write 121 = .ok (.aload_n 0, 1) := by decide +kernel
theorem d_M_write_122 : decode b_M_write 122 = .ok (.getfield 101, 3) := by decide +kernel
theorem d_M_write_125 : decode b_M_write 125 = .ok (.iload 7, 2) := by decide +kernel
theorem d_M_write_127 : decode b_M_write 127 = .ok (.invokestatic 47, 3) := by decide +kernel
theorem d_M_write_130 : decode b_M_write 130 = .ok (.istore 10, 2) := by decide +kernel
theorem d_M_write_132 : decode b_M_write 132 = .ok (.iload 10, 2) := by decide +kernel
theorem d_M_write_134 : decode b_M_write 134 = .ok (.iload 8, 2) := by decide +kernel
theorem d_M_write_136 : decode b_M_write 136 = .ok (.invokestatic 47, 3) := by decide +kernel
theorem d_M_write_139 : decode b_M_write 139 = .ok (.istore 10, 2) := by decide +kernel
theorem d_M_write_141 : decode b_M_write 141 = .ok (.iload 10, 2) := by decide +kernel
theorem d_M_write_143 : decode b_M_write 143 = .ok (.iload 9, 2) := by decide +kernel
theorem d_M_write_145 : decode b_M_write 145 = .ok (.invokestatic 47, 3) := by decide +kernel
theorem d_M_write_148 : decode b_M_write 148 = .ok (.istore 10, 2) := by decide +kernel
theorem d_M_write_150 : decode b_M_write 150 = .ok (.aload_n 0, 1) := by decide +kernel
theorem d_M_write_151 : decode b_M_write 151 = .ok (.iload 6, 2) := by decide +kernel
theorem d_M_write_153 : decode b_M_write 153 = .ok (.iload 7, 2) := by decide +kernel
theorem d_M_write_155 : decode b_M_write 155 = .ok (.invokevirtual 116, 3) := by decide +kernel
theorem d_M_write_158 : decode b_M_write 158 = .ok (.aload_n 0, 1) := by decide +kernel
theorem d_M_write_159 : decode b_M_write 159 = .ok (.iload 6, 2) := by decide +kernel
theorem d_M_write_161 : decode b_M_write 161 = .ok (.iconst 1, 1) := by decide +kernel
theorem d_M_write_162 : decode b_M_write 162 = .ok (.iadd, 1) := by decide +kernel
theorem d_M_write_163 : decode b_M_write 163 = .ok (.iload 8, 2) := by decide +kernel
theorem d_M_write_165 : decode b_M_write 165 = .ok (.invokevirtual 116, 3) := by decide +kernel
theorem d_M_write_168 : decode b_M_write 168 = .ok (.aload_n 0, 1) := by decide +kernel
theorem d_M_write_169 : decode b_M_write 169 = .ok (.iload 6, 2) := by decide +kernel
theorem d_M_write_171 : decode b_M_write 171 = .ok (.iconst 2, 1) := by decide +kernel
theorem d_M_write_172 : decode b_M_write 172 = .ok (.iadd, 1) := by decide +kernel
theorem d_M_write_173 : decode b_M_write 173 = .ok (.iload 9, 2) := by decide +kernel
theorem d_M_write_175 : decode b_M_write 175 = .ok (.invokevirtual 116, 3) := by decide +kernel
theorem d_M_write_178 : decode b_M_write 178 = .ok (.aload_n 0, 1) := by decide +kernel
theorem d_M_write_179 : decode b_M_write 179 = .ok (.iload 6, 2) := by decide +kernel
theorem d_M_write_181 : decode b_M_write 181 = .ok (.iconst 3, 1) := by decide +kernel
theorem d_M_write_182 : decode b_M_write 182 = .ok (.iadd, 1) := by decide +kernel
theorem d_M_write_183 : decode b_M_write 183 = .ok (.iload 10, 2) := by decide +kernel
theorem d_M_write_185 : decode b_M_write 185 = .ok (.iconst 1, 1) := by decide +kernel
theorem d_M_write_186 : decode b_M_write 186 = .ok (.ior, 1) := by decide +kernel
theorem d_M_write_187 : decode b_M_write 187 = .ok (.invokevirtual 116, 3) := by decide +kernel
theorem d_M_write_190 : decode b_M_write 190 = .ok (.aload_n 0, 1) := by decide +kernel
theorem d_M_write_191 : decode b_M_write 191 = .ok (.getfield 56, 3) := by decide +kernel
theorem d_M_write_194 : decode b_M_write 194 = .ok (.ifCond .eq 6, 3) := by decide +kernel
theorem d_M_write_197 : decode b_M_write 197 = .ok (.bipush (-4), 2) := by decide +kernel
theorem d_M_write_199 : decode b_M_write 199 = .ok (.ireturn, 1) := by decide +kernel
theorem d_M_write_200 : decode b_M_write 200 = .ok (.aload_n 0, 1) := by decide +kernel
theorem d_M_write_201 : decode b_M_write 201 = .ok (.iload 10, 2) := by decide +kernel
theorem d_M_write_203 : decode b_M_write 203 = .ok (.putfield 101, 3) := by decide +kernel
theorem d_M_write_206 : decode b_M_write 206 = .ok (.aload_n 0, 1) := by decide +kernel
theorem d_M_write_207 : decode b_M_write 207 = .ok (.getfield 20, 3) := by decide +kernel
theorem d_M_write_210 : decode b_M_write 210 = .ok (.iload 5, 2) := by decide +kernel
theorem d_M_write_212 : decode b_M_write 212 = .ok (.iload_n 1, 1) := by decide +kernel
theorem d_M_write_213 : decode b_M_write 213 = .ok (.iastore, 1) := by decide +kernel
theorem d_M_write_214 : decode b_M_write 214 = .ok (.aload_n 0, 1) := by decide +kernel
theorem d_M_write_215 : decode b_M_write 215 = .ok (.getfield 23, 3) := by decide +kernel
theorem d_M_write_218 : decode b_M_write 218 = .ok (.iload 5, 2) := by decide +kernel
theorem d_M_write_220 : decode b_M_write 220 = .ok (.lload_n 2, 1) := by decide +kernel
theorem d_M_write_221 : decode b_M_write 221 = .ok (.lastore, 1) := by decide +kernel
theorem d_M_write_222 : decode b_M_write 222 = .ok (.aload_n 0, 1) := by decide +kernel
theorem d_M_write_223 : decode b_M_write 223 = .ok (.iload 5, 2) := by decide +kernel
theorem d_M_write_225 : decode b_M_write 225 = .ok (.iconst 1, 1) := by decide +kernel
theorem d_M_write_226 : decode b_M_write 226 = .ok (.iadd, 1) := by decide +kernel
theorem d_M_write_227 : decode b_M_write 227 = .ok (.putfield 63, 3) := by decide +kernel
theorem d_M_write_230 : decode b_M_write 230 = .ok (.aload_n 0, 1) := by decide +kernel
theorem d_M_write_231 : decode b_M_write 231 = .ok (.getfield 63, 3) := by decide +kernel
theorem d_M_write_234 : decode b_M_write 234 = .ok (.ireturn, 1) := by decide +kernel
theorem d_M_sync_0 : decode b_M_sync 0 = .ok (.aload_n 0, 1) := by decide +kernel
theorem d_M_sync_1 : decode b_M_sync 1 = .ok (.getfield 60, 3) := by decide +kernel
theorem d_M_sync_4 : decode b_M_sync 4 = .ok (.ifCond .ne 5, 3) := by decide +kernel
theorem d_M_sync_7 : decode b_M_sync 7 = .ok (.iconst (-1), 1) := by decide +kernel
theorem d_M_sync_8 : decode b_M_sync 8 = .ok (.ireturn, 1) := by decide +kernel
theorem d_M_sync_9 : decode b_M_sync 9 = .ok (.aload_n 0, 1) := by decide +kernel
theorem d_M_sync_10 : decode b_M_sync 10 = .ok (.iconst 0, 1) := by decide +kernel
theorem d_M_sync_11 : decode b_M_sync 11 = .ok (.putfield 56, 3) := by decide +kernel
theorem d_M_sync_14 : decode b_M_sync 14 = .ok (.aload_n 0, 1) := by decide +kernel
theorem d_M_sync_15 : decode b_M_sync 15 = .ok (.getfield 63, 3) := by decide +kernel
theorem d_M_sync_18 : decode b_M_sync 18 = .ok (.istore_n 1, 1) := by decide +kernel
theorem d_M_sync_19 : decode b_M_sync 19 = .ok (.aload_n 0, 1) := by decide +kernel
theorem d_M_sync_20 : decode b_M_sync 20 = .ok (.aload_n 0, 1) := by decide +kernel
theorem d_M_sync_21 : decode b_M_sync 21 = .ok (.getfield 73, 3) := by decide +kernel
theorem d_M_sync_24 : decode b_M_sync 24 = .ok (.aload_n 0, 1) := by decide +kernel
theorem d_M_sync_25 : decode b_M_sync 25 = .ok (.getfield 13, 3) := by decide +kernel
theorem d_M_sync_28 : decode b_M_sync 28 = .ok (.aload_n 0, 1) := by decide +kernel
theorem d_M_sync_29 : decode b_M_sync 29 = .ok (.getfield 41, 3) := by decide +kernel
theorem d_M_sync_32 : decode b_M_sync 32 = .ok (.iload_n 1, 1) := by decide +kernel
theorem d_M_sync_33 : decode b_M_sync 33 = .ok (.invokevirtual 119, 3) := by decide +kernel
theorem d_M_sync_36 : decode b_M_sync 36 = .ok (.aload_n 0, 1) := by decide +kernel
theorem d_M_sync_37 : decode b_M_sync 37 = .ok (.getfield 56, 3) := by decide +kernel
theorem d_M_sync_40 : decode b_M_sync 40 = .ok (.ifCond .eq 8, 3) := by decide +kernel
theorem d_M_sync_43 : decode b_M_sync 43 = .ok (.bipush (-4), 2) := by decide +kernel
theorem d_M_sync_45 : decode b_M_sync 45 = .ok (.goto 4, 3) := by decide +kernel
theorem d_M_sync_48 : decode b_M_sync 48 = .ok (.iload_n 1, 1) := by decide +kernel
theorem d_M_sync_49 : decode b_M_sync 49 = .ok (.ireturn, 1) := by decide +kernel
theorem d_M_place_0 : decode b_M_place 0 = .ok (.iload_n 0, 1) := by decide +kernel
theorem d_M_place_1 : decode b_M_place 1 = .ok (.ifCond .lt 13, 3) := by decide +kernel
theorem d_M_place_4 : decode b_M_place 4 = .ok (.iload_n 0, 1) := by decide +kernel
theorem d_M_place_5 : decode b_M_place 5 = .ok (.bipush 101, 2) := by decide +kernel
theorem d_M_place_7 : decode b_M_place 7 = .ok (.if_icmp .gt 7, 3) := by decide +kernel
theorem d_M_place_10 : decode b_M_place 10 = .ok (.iconst 1, 1) := by decide +kernel
theorem d_M_place_11 : decode b_M_place 11 = .ok (.goto 4, 3) := by decide +kernel
theorem d_M_place_14 : decode b_M_place 14 = .ok (.iconst 0, 1) := by decide +kernel
theorem d_M_place_15 : decode b_M_place 15 = .ok (.ireturn, 1) := by decide +kernel
theorem d_M_alter_0 : decode b_M_alter 0 = .ok (.iload_n 1, 1) := by decide +kernel
theorem d_M_alter_1 : decode b_M_alter 1 = .ok (.invokestatic 127, 3) := by decide +kernel
theorem d_M_alter_4 : decode b_M_alter 4 = .ok (.ifCond .ne 5, 3) := by decide +kernel
theorem d_M_alter_7 : decode b_M_alter 7 = .ok (.iconst 0, 1) := by decide +kernel
theorem d_M_alter_8 : decode b_M_alter 8 = .ok (.ireturn, 1) := by decide +kernel
theorem d_M_alter_9 : decode b_M_alter 9 = .ok (.aload_n 0, 1) := by decide +kernel
theorem d_M_alter_10 : decode b_M_alter 10 = .ok (.getfield 7, 3) := by decide +kernel
theorem d_M_alter_13 : decode b_M_alter 13 = .ok (.iload_n 1, 1) := by decide +kernel
theorem d_M_alter_14 : decode b_M_alter 14 = .ok (.aload_n 0, 1) := by decide +kernel
theorem d_M_alter_15 : decode b_M_alter 15 = .ok (.getfield 7, 3) := by decide +kernel
theorem d_M_alter_18 : decode b_M_alter 18 = .ok (.iload_n 1, 1) := by decide +kernel
theorem d_M_alter_19 : decode b_M_alter 19 = .ok (.iaload, 1) := by decide +kernel
theorem d_M_alter_20 : decode b_M_alter 20 = .ok (.iload_n 2, 1) := by decide +kernel
theorem d_M_alter_21 : decode b_M_alter 21 = .ok (.ixor, 1) := by decide +kernel
theorem d_M_alter_22 : decode b_M_alter 22 = .ok (.iastore, 1) := by decide +kernel
theorem d_M_alter_23 : decode b_M_alter 23 = .ok (.iconst 1, 1) := by decide +kernel
theorem d_M_alter_24 : decode b_M_alter 24 = .ok (.ireturn, 1) := by decide +kernel
theorem d_M_peek_0 : decode b_M_peek 0 = .ok (.iload_n 1, 1) := by decide +kernel
theorem d_M_peek_1 : decode b_M_peek 1 = .ok (.invokestatic 127, 3) := by decide +kernel
theorem d_M_peek_4 : decode b_M_peek 4 = .ok (.ifCond .eq 12, 3) := by decide +kernel
theorem d_M_peek_7 : decode b_M_peek 7 = .ok (.aload_n 0, 1) := by decide +kernel
theorem d_M_peek_8 : decode b_M_peek 8 = .ok (.getfield 7, 3) := by decide +kernel
theorem d_M_peek_11 : decode b_M_peek 11 = .ok (.iload_n 1, 1) := by decide +kernel
theorem d_M_peek_12 : decode b_M_peek 12 = .ok (.iaload, 1) := by decide +kernel
theorem d_M_peek_13 : decode b_M_peek 13 = .ok (.goto 4, 3) := by decide +kernel
theorem d_M_peek_16 : decode b_M_peek 16 = .ok (.iconst 0, 1) := by decide +kernel
theorem d_M_peek_17 : decode b_M_peek 17 = .ok (.ireturn, 1) := by decide +kernel
theorem d_M_seal_0 : decode b_M_seal 0 = .ok (.iload_n 1, 1) := by decide +kernel
theorem d_M_seal_1 : decode b_M_seal 1 = .ok (.ifCond .ne 10, 3) := by decide +kernel
theorem d_M_seal_4 : decode b_M_seal 4 = .ok (.aload_n 0, 1) := by decide +kernel
theorem d_M_seal_5 : decode b_M_seal 5 = .ok (.getfield 73, 3) := by decide +kernel
theorem d_M_seal_8 : decode b_M_seal 8 = .ok (.goto 40, 3) := by decide +kernel
theorem d_M_seal_11 : decode b_M_seal 11 = .ok (.iload_n 1, 1) := by decide +kernel
theorem d_M_seal_12 : decode b_M_seal 12 = .ok (.iconst 1, 1) := by decide +kernel
theorem d_M_seal_13 : decode b_M_seal 13 = .ok (.if_icmp .ne 10, 3) := by decide +kernel
theorem d_M_seal_16 : decode b_M_seal 16 = .ok (.aload_n 0, 1) := by decide +kernel
theorem d_M_seal_17 : decode b_M_seal 17 = .ok (.getfield 13, 3) := by decide +kernel
theorem d_M_seal_20 : decode b_M_seal 20 = .ok (.goto 28, 3) := by decide +kernel
theorem d_M_seal_23 : decode b_M_seal 23 = .ok (.iload_n 1, 1) := by decide +kernel
theorem d_M_seal_24 : decode b_M_seal 24 = .ok (.iconst 2, 1) := by decide +kernel
theorem d_M_seal_25 : decode b_M_seal 25 = .ok (.if_icmp .ne 10, 3) := by decide +kernel
theorem d_M_seal_28 : decode b_M_seal 28 = .ok (.aload_n 0, 1) := by decide +kernel
theorem d_M_seal_29 : decode b_M_seal 29 = .ok (.getfield 41, 3) := by decide +kernel
theorem d_M_seal_32 : decode b_M_seal 32 = .ok (.goto 16, 3) := by decide +kernel
theorem d_M_seal_35 : decode b_M_seal 35 = .ok (.iload_n 1, 1) := by decide +kernel
theorem d_M_seal_36 : decode b_M_seal 36 = .ok (.iconst 3, 1) := by decide +kernel
theorem d_M_seal_37 : decode b_M_seal 37 = .ok (.if_icmp .ne 10, 3) := by decide +kernel
theorem d_M_seal_40 : decode b_M_seal 40 = .ok (.aload_n 0, 1) := by decide +kernel
theorem d_M_seal_41 : decode b_M_seal 41 = .ok (.getfield 76, 3) := by decide +kernel
theorem d_M_seal_44 : decode b_M_seal 44 = .ok (.goto 4, 3) := by decide +kernel
theorem d_M_seal_47 : decode b_M_seal 47 = .ok (.iconst 0, 1) := by decide +kernel
theorem d_M_seal_48 : decode b_M_seal 48 = .ok (.ireturn, 1) := by decide +kernel
theorem d_M_writes_0 : decode b_M_writes 0 = .ok (.aload_n 0, 1) := by decide +kernel
theorem d_M_writes_1 : decode b_M_writes 1 = .ok (.getfield 60, 3) := by decide +kernel
theorem d_M_writes_4 : decode b_M_writes 4 = .ok (.ifCond .eq 10, 3) := by decide +kernel
theorem d_M_writes_7 : decode b_M_writes 7 = .ok (.aload_n 0, 1) := by decide +kernel
theorem d_M_writes_8 : decode b_M_writes 8 = .ok (.getfield 63, 3) := by decide +kernel
theorem d_M_writes_11 : decode b_M_writes 11 = .ok (.goto 4, 3) := by decide +kernel
theorem d_M_writes_14 : decode b_M_writes 14 = .ok (.iconst (-1), 1) := by decide +kernel
theorem d_M_writes_15 : decode b_M_writes 15 = .ok (.ireturn, 1) := by decide +kernel
theorem d_M_steps_0 : decode b_M_steps 0 = .ok (.aload_n 0, 1) := by decide +kernel
theorem d_M_steps_1 : decode b_M_steps 1 = .ok (.getfield 66, 3) := by decide +kernel
theorem d_M_steps_4 : decode b_M_steps 4 = .ok (.ireturn, 1) := by decide +kernel
