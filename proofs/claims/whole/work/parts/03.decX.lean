theorem d_X_init_0 : decode b_X_init 0 = .ok (.aload_n 0, 1) := by decide +kernel
theorem d_X_init_1 : decode b_X_init 1 = .ok (.invokespecial 3, 3) := by decide +kernel
theorem d_X_init_4 : decode b_X_init 4 = .ok (.aload_n 0, 1) := by decide +kernel
theorem d_X_init_5 : decode b_X_init 5 = .ok (.bipush 102, 2) := by decide +kernel
theorem d_X_init_7 : decode b_X_init 7 = .ok (.newarray .int, 2) := by decide +kernel
theorem d_X_init_9 : decode b_X_init 9 = .ok (.putfield 9, 3) := by decide +kernel
theorem d_X_init_12 : decode b_X_init 12 = .ok (.aload_n 0, 1) := by decide +kernel
theorem d_X_init_13 : decode b_X_init 13 = .ok (.iconst 5, 1) := by decide +kernel
theorem d_X_init_14 : decode b_X_init 14 = .ok (.newarray .int, 2) := by decide +kernel
theorem d_X_init_16 : decode b_X_init 16 = .ok (.putfield 13, 3) := by decide +kernel
theorem d_X_init_19 : decode b_X_init 19 = .ok (.aload_n 0, 1) := by decide +kernel
theorem d_X_init_20 : decode b_X_init 20 = .ok (.iconst 5, 1) := by decide +kernel
theorem d_X_init_21 : decode b_X_init 21 = .ok (.newarray .long, 2) := by decide +kernel
theorem d_X_init_23 : decode b_X_init 23 = .ok (.putfield 16, 3) := by decide +kernel
theorem d_X_init_26 : decode b_X_init 26 = .ok (.aload_n 0, 1) := by decide +kernel
theorem d_X_init_27 : decode b_X_init 27 = .ok (.iconst (-1), 1) := by decide +kernel
theorem d_X_init_28 : decode b_X_init 28 = .ok (.putfield 20, 3) := by decide +kernel
theorem d_X_init_31 : decode b_X_init 31 = .ok (.aload_n 0, 1) := by decide +kernel
theorem d_X_init_32 : decode b_X_init 32 = .ok (.iconst 1, 1) := by decide +kernel
theorem d_X_init_33 : decode b_X_init 33 = .ok (.putfield 24, 3) := by decide +kernel
theorem d_X_init_36 : decode b_X_init 36 = .ok (.iconst 0, 1) := by decide +kernel
theorem d_X_init_37 : decode b_X_init 37 = .ok (.istore_n 1, 1) := by decide +kernel
theorem d_X_init_38 : decode b_X_init 38 = .ok (.iload_n 1, 1) := by decide +kernel
theorem d_X_init_39 : decode b_X_init 39 = .ok (.bipush 16, 2) := by decide +kernel
theorem d_X_init_41 : decode b_X_init 41 = .ok (.if_icmp .ge 24, 3) := by decide +kernel
theorem d_X_init_44 : decode b_X_init 44 = .ok (.aload_n 0, 1) := by decide +kernel
theorem d_X_init_45 : decode b_X_init 45 = .ok (.getfield 9, 3) := by decide +kernel
theorem d_X_init_48 : decode b_X_init 48 = .ok (.iload_n 1, 1) := by decide +kernel
theorem d_X_init_49 : decode b_X_init 49 = .ok (.iconst 0, 1) := by decide +kernel
theorem d_X_init_50 : decode b_X_init 50 = .ok (.iload_n 1, 1) := by decide +kernel
theorem d_X_init_51 : decode b_X_init 51 = .ok (.aload_n 0, 1) := by decide +kernel
theorem d_X_init_52 : decode b_X_init 52 = .ok (.getfield 24, 3) := by decide +kernel
theorem d_X_init_55 : decode b_X_init 55 = .ok (.invokestatic 27, 3) := by decide +kernel
theorem d_X_init_58 : decode b_X_init 58 = .ok (.iastore, 1) := by decide +kernel
theorem d_X_init_59 : decode b_X_init 59 = .ok (.iinc 1 1, 3) := by decide +kernel
theorem d_X_init_62 : decode b_X_init 62 = .ok (.goto (-24), 3) := by decide +kernel
theorem d_X_init_65 : decode b_X_init 65 = .ok (.bipush 15, 2) := by decide +kernel
theorem d_X_init_67 : decode b_X_init 67 = .ok (.istore_n 1, 1) := by decide +kernel
theorem d_X_init_68 : decode b_X_init 68 = .ok (.iload_n 1, 1) := by decide +kernel
theorem d_X_init_69 : decode b_X_init 69 = .ok (.iconst 1, 1) := by decide +kernel
theorem d_X_init_70 : decode b_X_init 70 = .ok (.if_icmp .lt 29, 3) := by decide +kernel
theorem d_X_init_73 : decode b_X_init 73 = .ok (.aload_n 0, 1) := by decide +kernel
theorem d_X_init_74 : decode b_X_init 74 = .ok (.getfield 9, 3) := by decide +kernel
theorem d_X_init_77 : decode b_X_init 77 = .ok (.iconst 0, 1) := by decide +kernel
theorem d_X_init_78 : decode b_X_init 78 = .ok (.iload_n 1, 1) := by decide +kernel
theorem d_X_init_79 : decode b_X_init 79 = .ok (.invokestatic 31, 3) := by decide +kernel
theorem d_X_init_82 : decode b_X_init 82 = .ok (.aload_n 0, 1) := by decide +kernel
theorem d_X_init_83 : decode b_X_init 83 = .ok (.iconst 0, 1) := by decide +kernel
theorem d_X_init_84 : decode b_X_init 84 = .ok (.iload_n 1, 1) := by decide +kernel
theorem d_X_init_85 : decode b_X_init 85 = .ok (.aload_n 0, 1) := by decide +kernel
theorem d_X_init_86 : decode b_X_init 86 = .ok (.getfield 24, 3) := by decide +kernel
theorem d_X_init_89 : decode b_X_init 89 = .ok (.invokevirtual 35, 3) := by decide +kernel
theorem d_X_init_92 : decode b_X_init 92 = .ok (.iastore, 1) := by decide +kernel
theorem d_X_init_93 : decode b_X_init 93 = .ok (.iinc 1 (-1), 3) := by decide +kernel
theorem d_X_init_96 : decode b_X_init 96 = .ok (.goto (-28), 3) := by decide +kernel
theorem d_X_init_99 : decode b_X_init 99 = .ok (.aload_n 0, 1) := by decide +kernel
theorem d_X_init_100 : decode b_X_init 100 = .ok (.aload_n 0, 1) := by decide +kernel
theorem d_X_init_101 : decode b_X_init 101 = .ok (.getfield 9, 3) := by decide +kernel
theorem d_X_init_104 : decode b_X_init 104 = .ok (.iconst 0, 1) := by decide +kernel
theorem d_X_init_105 : decode b_X_init 105 = .ok (.iconst 1, 1) := by decide +kernel
theorem d_X_init_106 : decode b_X_init 106 = .ok (.invokestatic 31, 3) := by decide +kernel
theorem d_X_init_109 : decode b_X_init 109 = .ok (.iaload, 1) := by decide +kernel
theorem d_X_init_110 : decode b_X_init 110 = .ok (.putfield 38, 3) := by decide +kernel
theorem d_X_init_113 : decode b_X_init 113 = .ok (.return_, 1) := by decide +kernel
theorem d_X_mount_0 : decode b_X_mount 0 = .ok (.aload_n 0, 1) := by decide +kernel
theorem d_X_mount_1 : decode b_X_mount 1 = .ok (.invokevirtual 41, 3) := by decide +kernel
theorem d_X_mount_4 : decode b_X_mount 4 = .ok (.aload_n 0, 1) := by decide +kernel
theorem d_X_mount_5 : decode b_X_mount 5 = .ok (.getfield 44, 3) := by decide +kernel
theorem d_X_mount_8 : decode b_X_mount 8 = .ok (.aload_n 0, 1) := by decide +kernel
theorem d_X_mount_9 : decode b_X_mount 9 = .ok (.getfield 47, 3) := by decide +kernel
theorem d_X_mount_12 : decode b_X_mount 12 = .ok (.if_icmp .ge 10, 3) := by decide +kernel
theorem d_X_mount_15 : decode b_X_mount 15 = .ok (.aload_n 0, 1) := by decide +kernel
theorem d_X_mount_16 : decode b_X_mount 16 = .ok (.invokevirtual 50, 3) := by decide +kernel
theorem d_X_mount_19 : decode b_X_mount 19 = .ok (.bipush (-3), 2) := by decide +kernel
theorem d_X_mount_21 : decode b_X_mount 21 = .ok (.ireturn, 1) := by decide +kernel
theorem d_X_mount_22 : decode b_X_mount 22 = .ok (.aload_n 0, 1) := by decide +kernel
theorem d_X_mount_23 : decode b_X_mount 23 = .ok (.iconst 1, 1) := by decide +kernel
theorem d_X_mount_24 : decode b_X_mount 24 = .ok (.putfield 53, 3) := by decide +kernel
theorem d_X_mount_27 : decode b_X_mount 27 = .ok (.aload_n 0, 1) := by decide +kernel
theorem d_X_mount_28 : decode b_X_mount 28 = .ok (.getfield 44, 3) := by decide +kernel
theorem d_X_mount_31 : decode b_X_mount 31 = .ok (.ireturn, 1) := by decide +kernel
theorem d_X_arm_0 : decode b_X_arm 0 = .ok (.iload_n 1, 1) := by decide +kernel
theorem d_X_arm_1 : decode b_X_arm 1 = .ok (.ifCond .ge 5, 3) := by decide +kernel
theorem d_X_arm_4 : decode b_X_arm 4 = .ok (.iconst 0, 1) := by decide +kernel
theorem d_X_arm_5 : decode b_X_arm 5 = .ok (.ireturn, 1) := by decide +kernel
theorem d_X_arm_6 : decode b_X_arm 6 = .ok (.aload_n 0, 1) := by decide +kernel
theorem d_X_arm_7 : decode b_X_arm 7 = .ok (.iload_n 1, 1) := by decide +kernel
theorem d_X_arm_8 : decode b_X_arm 8 = .ok (.putfield 20, 3) := by decide +kernel
theorem d_X_arm_11 : decode b_X_arm 11 = .ok (.iconst 1, 1) := by decide +kernel
theorem d_X_arm_12 : decode b_X_arm 12 = .ok (.ireturn, 1) := by decide +kernel
theorem d_X_isOn_0 : decode b_X_isOn 0 = .ok (.aload_n 0, 1) := by decide +kernel
theorem d_X_isOn_1 : decode b_X_isOn 1 = .ok (.getfield 53, 3) := by decide +kernel
theorem d_X_isOn_4 : decode b_X_isOn 4 = .ok (.ireturn, 1) := by decide +kernel
theorem d_X_write_0 : decode b_X_write 0 = .ok (.aload_n 0, 1) := by decide +kernel
theorem d_X_write_1 : decode b_X_write 1 = .ok (.getfield 53, 3) := by decide +kernel
theorem d_X_write_4 : decode b_X_write 4 = .ok (.ifCond .ne 5, 3) := by decide +kernel
theorem d_X_write_7 : decode b_X_write 7 = .ok (.iconst (-1), 1) := by decide +kernel
theorem d_X_write_8 : decode b_X_write 8 = .ok (.ireturn, 1) := by decide +kernel
theorem d_X_write_9 : decode b_X_write 9 = .ok (.iload_n 1, 1) := by decide +kernel
theorem d_X_write_10 : decode b_X_write 10 = .ok (.invokestatic 57, 3) := by decide +kernel
theorem d_X_write_13 : decode b_X_write 13 = .ok (.ifCond .eq 9, 3) := by decide +kernel
theorem d_X_write_16 : decode b_X_write 16 = .ok (.lload_n 2, 1) := by decide +kernel
theorem d_X_write_17 : decode b_X_write 17 = .ok (.lconst 0, 1) := by decide +kernel
theorem d_X_write_18 : decode b_X_write 18 = .ok (.lcmp, 1) := by decide +kernel
theorem d_X_write_19 : decode b_X_write 19 = .ok (.ifCond .ge 6, 3) := by decide +kernel
theorem d_X_write_22 : decode b_X_write 22 = .ok (.bipush (-2), 2) := by decide +kernel
theorem d_X_write_24 : decode b_X_write 24 = .ok (.ireturn, 1) := by decide +kernel
theorem d_X_write_25 : decode b_X_write 25 = .ok (.aload_n 0, 1) := by decide +kernel
theorem d_X_write_26 : decode b_X_write 26 = .ok (.getfield 44, 3) := by decide +kernel
theorem d_X_write_29 : decode b_X_write 29 = .ok (.iconst 5, 1) := by decide +kernel
theorem d_X_write_30 : decode b_X_write 30 = .ok (.if_icmp .lt 17, 3) := by decide +kernel
theorem d_X_write_33 : decode b_X_write 33 = .ok (.aload_n 0, 1) := by decide +kernel
theorem d_X_write_34 : decode b_X_write 34 = .ok (.invokevirtual 61, 3) := by decide +kernel
theorem d_X_write_37 : decode b_X_write 37 = .ok (.istore 4, 2) := by decide +kernel
theorem d_X_write_39 : decode b_X_write 39 = .ok (.iload 4, 2) := by decide +kernel
theorem d_X_write_41 : decode b_X_write 41 = .ok (.ifCond .ge 6, 3) := by decide +kernel
theorem d_X_write_44 : decode b_X_write 44 = .ok (.iload 4, 2) := by decide +kernel
theorem d_X_write_46 : decode b_X_write 46 = .ok (.ireturn, 1) := by decide +kernel
theorem d_X_write_47 : decode b_X_write 47 = .ok (.aload_n 0, 1) := by decide +kernel
theorem d_X_write_48 : decode b_X_write 48 = .ok (.iload_n 1, 1) := by decide +kernel
theorem d_X_write_49 : decode b_X_write 49 = .ok (.lload_n 2, 1) := by decide +kernel
theorem d_X_write_50 : decode b_X_write 50 = .ok (.invokevirtual 65, 3) := by decide +kernel
theorem d_X_write_53 : decode b_X_write 53 = .ok (.ifCond .ne 6, 3) := by decide +kernel
theorem d_X_write_56 : decode b_X_write 56 = .ok (.bipush (-4), 2) := by decide +kernel
theorem d_X_write_58 : decode b_X_write 58 = .ok (.ireturn, 1) := by decide +kernel
theorem d_X_write_59 : decode b_X_write 59 = .ok (.aload_n 0, 1) := by decide +kernel
theorem d_X_write_60 : decode b_X_write 60 = .ok (.iload_n 1, 1) := by decide +kernel
theorem d_X_write_61 : decode b_X_write 61 = .ok (.lload_n 2, 1) := by decide +kernel
theorem d_X_write_62 : decode b_X_write 62 = .ok (.invokevirtual 69, 3) := by decide +kernel
theorem d_X_write_65 : decode b_X_write 65 = .ok (.aload_n 0, 1) := by decide +kernel
theorem d_X_write_66 : decode b_X_write 66 = .ok (.getfield 44, 3) := by decide +kernel
theorem d_X_write_69 : decode b_X_write 69 = .ok (.ireturn, 1) := by decide +kernel
theorem d_X_read_0 : decode b_X_read 0 = .ok (.aload_n 0, 1) := by decide +kernel
theorem d_X_read_1 : decode b_X_read 1 = .ok (.getfield 53, 3) := by decide +kernel
theorem d_X_read_4 : decode b_X_read 4 = .ok (.ifCond .ne 7, 3) := by decide +kernel
theorem d_X_read_7 : decode b_X_read 7 = .ok (.ldc2_w 73, 3) := by decide +kernel
theorem d_X_read_10 : decode b_X_read 10 = .ok (.lreturn, 1) := by decide +kernel
theorem d_X_read_11 : decode b_X_read 11 = .ok (.iload_n 1, 1) := by decide +kernel
theorem d_X_read_12 : decode b_X_read 12 = .ok (.invokestatic 57, 3) := by decide +kernel
theorem d_X_read_15 : decode b_X_read 15 = .ok (.ifCond .ne 7, 3) := by decide +kernel
theorem d_X_read_18 : decode b_X_read 18 = .ok (.ldc2_w 75, 3) := by decide +kernel
theorem d_X_read_21 : decode b_X_read 21 = .ok (.lreturn, 1) := by decide +kernel
theorem d_X_read_22 : decode b_X_read 22 = .ok (.aload_n 0, 1) := by decide +kernel
theorem d_X_read_23 : decode b_X_read 23 = .ok (.iload_n 1, 1) := by decide +kernel
theorem d_X_read_24 : decode b_X_read 24 = .ok (.invokevirtual 77, 3) := by decide +kernel
theorem d_X_read_27 : decode b_X_read 27 = .ok (.lreturn, 1) := by decide +kernel
theorem d_X_sync_0 : decode b_X_sync 0 = .ok (.aload_n 0, 1) := by decide +kernel
theorem d_X_sync_1 : decode b_X_sync 1 = .ok (.getfield 53, 3) := by decide +kernel
theorem d_X_sync_4 : decode b_X_sync 4 = .ok (.ifCond .ne 5, 3) := by decide +kernel
theorem d_X_sync_7 : decode b_X_sync 7 = .ok (.iconst (-1), 1) := by decide +kernel
theorem d_X_sync_8 : decode b_X_sync 8 = .ok (.ireturn, 1) := by decide +kernel
theorem d_X_sync_9 : decode b_X_sync 9 = .ok (.aload_n 0, 1) := by decide +kernel
theorem d_X_sync_10 : decode b_X_sync 10 = .ok (.aload_n 0, 1) := by decide +kernel
theorem d_X_sync_11 : decode b_X_sync 11 = .ok (.getfield 81, 3) := by decide +kernel
theorem d_X_sync_14 : decode b_X_sync 14 = .ok (.aload_n 0, 1) := by decide +kernel
theorem d_X_sync_15 : decode b_X_sync 15 = .ok (.getfield 24, 3) := by decide +kernel
theorem d_X_sync_18 : decode b_X_sync 18 = .ok (.aload_n 0, 1) := by decide +kernel
theorem d_X_sync_19 : decode b_X_sync 19 = .ok (.getfield 38, 3) := by decide +kernel
theorem d_X_sync_22 : decode b_X_sync 22 = .ok (.aload_n 0, 1) := by decide +kernel
theorem d_X_sync_23 : decode b_X_sync 23 = .ok (.getfield 44, 3) := by decide +kernel
theorem d_X_sync_26 : decode b_X_sync 26 = .ok (.invokevirtual 84, 3) := by decide +kernel
theorem d_X_sync_29 : decode b_X_sync 29 = .ok (.ifCond .ne 6, 3) := by decide +kernel
theorem d_X_sync_32 : decode b_X_sync 32 = .ok (.bipush (-4), 2) := by decide +kernel
theorem d_X_sync_34 : decode b_X_sync 34 = .ok (.ireturn, 1) := by decide +kernel
theorem d_X_sync_35 : decode b_X_sync 35 = .ok (.aload_n 0, 1) := by decide +kernel
theorem d_X_sync_36 : decode b_X_sync 36 = .ok (.getfield 44, 3) := by decide +kernel
theorem d_X_sync_39 : decode b_X_sync 39 = .ok (.ireturn, 1) := by decide +kernel
theorem d_X_checkpoint_0 : decode b_X_checkpoint 0 = .ok (.aload_n 0, 1) := by decide +kernel
theorem d_X_checkpoint_1 : decode b_X_checkpoint 1 = .ok (.getfield 53, 3) := by decide +kernel
theorem d_X_checkpoint_4 : decode b_X_checkpoint 4 = .ok (.ifCond .ne 5, 3) := by decide +kernel
theorem d_X_checkpoint_7 : decode b_X_checkpoint 7 = .ok (.iconst (-1), 1) := by decide +kernel
theorem d_X_checkpoint_8 : decode b_X_checkpoint 8 = .ok (.ireturn, 1) := by decide +kernel
theorem d_X_checkpoint_9 : decode b_X_checkpoint 9 = .ok (.aload_n 0, 1) := by decide +kernel
theorem d_X_checkpoint_10 : decode b_X_checkpoint 10 = .ok (.invokevirtual 61, 3) := by decide +kernel
theorem d_X_checkpoint_13 : decode b_X_checkpoint 13 = .ok (.ireturn, 1) := by decide +kernel
theorem d_X_alter_0 : decode b_X_alter 0 = .ok (.iload_n 1, 1) := by decide +kernel
theorem d_X_alter_1 : decode b_X_alter 1 = .ok (.invokestatic 88, 3) := by decide +kernel
theorem d_X_alter_4 : decode b_X_alter 4 = .ok (.ifCond .ne 5, 3) := by decide +kernel
theorem d_X_alter_7 : decode b_X_alter 7 = .ok (.iconst 0, 1) := by decide +kernel
theorem d_X_alter_8 : decode b_X_alter 8 = .ok (.ireturn, 1) := by decide +kernel
theorem d_X_alter_9 : decode b_X_alter 9 = .ok (.aload_n 0, 1) := by decide +kernel
theorem d_X_alter_10 : decode b_X_alter 10 = .ok (.getfield 9, 3) := by decide +kernel
theorem d_X_alter_13 : decode b_X_alter 13 = .ok (.iload_n 1, 1) := by decide +kernel
theorem d_X_alter_14 : decode b_X_alter 14 = .ok (.dup2, 1) := by decide +kernel
theorem d_X_alter_15 : decode b_X_alter 15 = .ok (.iaload, 1) := by decide +kernel
theorem d_X_alter_16 : decode b_X_alter 16 = .ok (.iload_n 2, 1) := by decide +kernel
theorem d_X_alter_17 : decode b_X_alter 17 = .ok (.ixor, 1) := by decide +kernel
theorem d_X_alter_18 : decode b_X_alter 18 = .ok (.iastore, 1) := by decide +kernel
theorem d_X_alter_19 : decode b_X_alter 19 = .ok (.iconst 1, 1) := by decide +kernel
theorem d_X_alter_20 : decode b_X_alter 20 = .ok (.ireturn, 1) := by decide +kernel
theorem d_X_peek_0 : decode b_X_peek 0 = .ok (.iload_n 1, 1) := by decide +kernel
theorem d_X_peek_1 : decode b_X_peek 1 = .ok (.invokestatic 88, 3) := by decide +kernel
theorem d_X_peek_4 : decode b_X_peek 4 = .ok (.ifCond .eq 12, 3) := by decide +kernel
theorem d_X_peek_7 : decode b_X_peek 7 = .ok (.aload_n 0, 1) := by decide +kernel
theorem d_X_peek_8 : decode b_X_peek 8 = .ok (.getfield 9, 3) := by decide +kernel
theorem d_X_peek_11 : decode b_X_peek 11 = .ok (.iload_n 1, 1) := by decide +kernel
theorem d_X_peek_12 : decode b_X_peek 12 = .ok (.iaload, 1) := by decide +kernel
theorem d_X_peek_13 : decode b_X_peek 13 = .ok (.goto 4, 3) := by decide +kernel
theorem d_X_peek_16 : decode b_X_peek 16 = .ok (.iconst 0, 1) := by decide +kernel
theorem d_X_peek_17 : decode b_X_peek 17 = .ok (.ireturn, 1) := by decide +kernel
theorem d_X_seal_0 : decode b_X_seal 0 = .ok (.iload_n 1, 1) := by decide +kernel
theorem d_X_seal_1 : decode b_X_seal 1 = .ok (.tableswitch 51 0 3 #[31, 36, 41, 46], 31) := by decide +kernel
theorem d_X_seal_32 : decode b_X_seal 32 = .ok (.aload_n 0, 1) := by decide +kernel
theorem d_X_seal_33 : decode b_X_seal 33 = .ok (.getfield 81, 3) := by decide +kernel
theorem d_X_seal_36 : decode b_X_seal 36 = .ok (.ireturn, 1) := by decide +kernel
theorem d_X_seal_37 : decode b_X_seal 37 = .ok (.aload_n 0, 1) := by decide +kernel
theorem d_X_seal_38 : decode b_X_seal 38 = .ok (.getfield 24, 3) := by decide +kernel
theorem d_X_seal_41 : decode b_X_seal 41 = .ok (.ireturn, 1) := by decide +kernel
theorem d_X_seal_42 : decode b_X_seal 42 = .ok (.aload_n 0, 1) := by decide +kernel
theorem d_X_seal_43 : decode b_X_seal 43 = .ok (.getfield 38, 3) := by decide +kernel
theorem d_X_seal_46 : decode b_X_seal 46 = .ok (.ireturn, 1) := by decide +kernel
theorem d_X_seal_47 : decode b_X_seal 47 = .ok (.aload_n 0, 1) := by decide +kernel
theorem d_X_seal_48 : decode b_X_seal 48 = .ok (.getfield 47, 3) := by decide +kernel
theorem d_X_seal_51 : decode b_X_seal 51 = .ok (.ireturn, 1) := by decide +kernel
theorem d_X_seal_52 : decode b_X_seal 52 = .ok (.iconst 0, 1) := by decide +kernel
theorem d_X_seal_53 : decode b_X_seal 53 = .ok (.ireturn, 1) := by decide +kernel
theorem d_X_writes_0 : decode b_X_writes 0 = .ok (.aload_n 0, 1) := by decide +kernel
theorem d_X_writes_1 : decode b_X_writes 1 = .ok (.getfield 53, 3) := by decide +kernel
theorem d_X_writes_4 : decode b_X_writes 4 = .ok (.ifCond .eq 10, 3) := by decide +kernel
theorem d_X_writes_7 : decode b_X_writes 7 = .ok (.aload_n 0, 1) := by decide +kernel
theorem d_X_writes_8 : decode b_X_writes 8 = .ok (.getfield 44, 3) := by decide +kernel
theorem d_X_writes_11 : decode b_X_writes 11 = .ok (.goto 4, 3) := by decide +kernel
theorem d_X_writes_14 : decode b_X_writes 14 = .ok (.iconst (-1), 1) := by decide +kernel
theorem d_X_writes_15 : decode b_X_writes 15 = .ok (.ireturn, 1) := by decide +kernel
theorem d_X_sound_0 : decode b_X_sound 0 = .ok (.aload_n 0, 1) := by decide +kernel
theorem d_X_sound_1 : decode b_X_sound 1 = .ok (.getfield 53, 3) := by decide +kernel
theorem d_X_sound_4 : decode b_X_sound 4 = .ok (.ifCond .eq 10, 3) := by decide +kernel
theorem d_X_sound_7 : decode b_X_sound 7 = .ok (.aload_n 0, 1) := by decide +kernel
theorem d_X_sound_8 : decode b_X_sound 8 = .ok (.invokevirtual 91, 3) := by decide +kernel
theorem d_X_sound_11 : decode b_X_sound 11 = .ok (.goto 4, 3) := by decide +kernel
theorem d_X_sound_14 : decode b_X_sound 14 = .ok (.iconst (-1), 1) := by decide +kernel
theorem d_X_sound_15 : decode b_X_sound 15 = .ok (.ireturn, 1) := by decide +kernel
theorem d_X_steps_0 : decode b_X_steps 0 = .ok (.aload_n 0, 1) := by decide +kernel
theorem d_X_steps_1 : decode b_X_steps 1 = .ok (.getfield 94, 3) := by decide +kernel
theorem d_X_steps_4 : decode b_X_steps 4 = .ok (.ireturn, 1) := by decide +kernel
theorem d_X_digest_0 : decode b_X_digest 0 = .ok (.iload_n 0, 1) := by decide +kernel
theorem d_X_digest_1 : decode b_X_digest 1 = .ok (.ldc 97, 2) := by decide +kernel
theorem d_X_digest_3 : decode b_X_digest 3 = .ok (.iadd, 1) := by decide +kernel
theorem d_X_digest_4 : decode b_X_digest 4 = .ok (.iload_n 1, 1) := by decide +kernel
theorem d_X_digest_5 : decode b_X_digest 5 = .ok (.bipush 9, 2) := by decide +kernel
theorem d_X_digest_7 : decode b_X_digest 7 = .ok (.ishl, 1) := by decide +kernel
theorem d_X_digest_8 : decode b_X_digest 8 = .ok (.iload_n 1, 1) := by decide +kernel
theorem d_X_digest_9 : decode b_X_digest 9 = .ok (.bipush 23, 2) := by decide +kernel
theorem d_X_digest_11 : decode b_X_digest 11 = .ok (.iushr, 1) := by decide +kernel
theorem d_X_digest_12 : decode b_X_digest 12 = .ok (.ior, 1) := by decide +kernel
theorem d_X_digest_13 : decode b_X_digest 13 = .ok (.ixor, 1) := by decide +kernel
theorem d_X_digest_14 : decode b_X_digest 14 = .ok (.ldc 98, 2) := by decide +kernel
theorem d_X_digest_16 : decode b_X_digest 16 = .ok (.imul, 1) := by decide +kernel
theorem d_X_digest_17 : decode b_X_digest 17 = .ok (.istore_n 2, 1) := by decide +kernel
theorem d_X_digest_18 : decode b_X_digest 18 = .ok (.iload_n 2, 1) := by decide +kernel
theorem d_X_digest_19 : decode b_X_digest 19 = .ok (.iload_n 2, 1) := by decide +kernel
theorem d_X_digest_20 : decode b_X_digest 20 = .ok (.bipush 15, 2) := by decide +kernel
theorem d_X_digest_22 : decode b_X_digest 22 = .ok (.iushr, 1) := by decide +kernel
theorem d_X_digest_23 : decode b_X_digest 23 = .ok (.ixor, 1) := by decide +kernel
theorem d_X_digest_24 : decode b_X_digest 24 = .ok (.ireturn, 1) := by decide +kernel
theorem d_X_encipher_0 : decode b_X_encipher 0 = .ok (.iload_n 0, 1) := by decide +kernel
theorem d_X_encipher_1 : decode b_X_encipher 1 = .ok (.ldc 99, 2) := by decide +kernel
theorem d_X_encipher_3 : decode b_X_encipher 3 = .ok (.iload_n 2, 1) := by decide +kernel
theorem d_X_encipher_4 : decode b_X_encipher 4 = .ok (.invokestatic 100, 3) := by decide +kernel
theorem d_X_encipher_7 : decode b_X_encipher 7 = .ok (.iload_n 1, 1) := by decide +kernel
theorem d_X_encipher_8 : decode b_X_encipher 8 = .ok (.invokestatic 100, 3) := by decide +kernel
theorem d_X_encipher_11 : decode b_X_encipher 11 = .ok (.ixor, 1) := by decide +kernel
theorem d_X_encipher_12 : decode b_X_encipher 12 = .ok (.ireturn, 1) := by decide +kernel
theorem d_X_upper_0 : decode b_X_upper 0 = .ok (.lload_n 0, 1) := by decide +kernel
theorem d_X_upper_1 : decode b_X_upper 1 = .ok (.bipush 32, 2) := by decide +kernel
theorem d_X_upper_3 : decode b_X_upper 3 = .ok (.lushr, 1) := by decide +kernel
theorem d_X_upper_4 : decode b_X_upper 4 = .ok (.l2i, 1) := by decide +kernel
theorem d_X_upper_5 : decode b_X_upper 5 = .ok (.ireturn, 1) := by decide +kernel
theorem d_X_lower_0 : decode b_X_lower 0 = .ok (.lload_n 0, 1) := by decide +kernel
theorem d_X_lower_1 : decode b_X_lower 1 = .ok (.l2i, 1) := by decide +kernel
theorem d_X_lower_2 : decode b_X_lower 2 = .ok (.ireturn, 1) := by decide +kernel
theorem d_X_isSector_0 : decode b_X_isSector 0 = .ok (.iload_n 0, 1) := by decide +kernel
theorem d_X_isSector_1 : decode b_X_isSector 1 = .ok (.ifCond .lt 13, 3) := by decide +kernel
theorem d_X_isSector_4 : decode b_X_isSector 4 = .ok (.iload_n 0, 1) := by decide +kernel
theorem d_X_isSector_5 : decode b_X_isSector 5 = .ok (.bipush 8, 2) := by decide +kernel
theorem d_X_isSector_7 : decode b_X_isSector 7 = .ok (.if_icmp .ge 7, 3) := by decide +kernel
theorem d_X_isSector_10 : decode b_X_isSector 10 = .ok (.iconst 1, 1) := by decide +kernel
theorem d_X_isSector_11 : decode b_X_isSector 11 = .ok (.goto 4, 3) := by decide +kernel
theorem d_X_isSector_14 : decode b_X_isSector 14 = .ok (.iconst 0, 1) := by decide +kernel
theorem d_X_isSector_15 : decode b_X_isSector 15 = .ok (.ireturn, 1) := by decide +kernel
theorem d_X_isPlace_0 : decode b_X_isPlace 0 = .ok (.iload_n 0, 1) := by decide +kernel
theorem d_X_isPlace_1 : decode b_X_isPlace 1 = .ok (.ifCond .lt 13, 3) := by decide +kernel
theorem d_X_isPlace_4 : decode b_X_isPlace 4 = .ok (.iload_n 0, 1) := by decide +kernel
theorem d_X_isPlace_5 : decode b_X_isPlace 5 = .ok (.bipush 102, 2) := by decide +kernel
theorem d_X_isPlace_7 : decode b_X_isPlace 7 = .ok (.if_icmp .ge 7, 3) := by decide +kernel
theorem d_X_isPlace_10 : decode b_X_isPlace 10 = .ok (.iconst 1, 1) := by decide +kernel
theorem d_X_isPlace_11 : decode b_X_isPlace 11 = .ok (.goto 4, 3) := by decide +kernel
theorem d_X_isPlace_14 : decode b_X_isPlace 14 = .ok (.iconst 0, 1) := by decide +kernel
theorem d_X_isPlace_15 : decode b_X_isPlace 15 = .ok (.ireturn, 1) := by decide +kernel
theorem d_X_sectorPlace_0 : decode b_X_sectorPlace 0 = .ok (.bipush 51, 2) := by decide +kernel
theorem d_X_sectorPlace_2 : decode b_X_sectorPlace 2 = .ok (.iload_n 0, 1) := by decide +kernel
theorem d_X_sectorPlace_3 : decode b_X_sectorPlace 3 = .ok (.imul, 1) := by decide +kernel
theorem d_X_sectorPlace_4 : decode b_X_sectorPlace 4 = .ok (.iconst 2, 1) := by decide +kernel
theorem d_X_sectorPlace_5 : decode b_X_sectorPlace 5 = .ok (.iload_n 1, 1) := by decide +kernel
theorem d_X_sectorPlace_6 : decode b_X_sectorPlace 6 = .ok (.imul, 1) := by decide +kernel
theorem d_X_sectorPlace_7 : decode b_X_sectorPlace 7 = .ok (.iadd, 1) := by decide +kernel
theorem d_X_sectorPlace_8 : decode b_X_sectorPlace 8 = .ok (.ireturn, 1) := by decide +kernel
theorem d_X_nodePlace_0 : decode b_X_nodePlace 0 = .ok (.bipush 51, 2) := by decide +kernel
theorem d_X_nodePlace_2 : decode b_X_nodePlace 2 = .ok (.iload_n 0, 1) := by decide +kernel
theorem d_X_nodePlace_3 : decode b_X_nodePlace 3 = .ok (.imul, 1) := by decide +kernel
theorem d_X_nodePlace_4 : decode b_X_nodePlace 4 = .ok (.bipush 16, 2) := by decide +kernel
theorem d_X_nodePlace_6 : decode b_X_nodePlace 6 = .ok (.iadd, 1) := by decide +kernel
theorem d_X_nodePlace_7 : decode b_X_nodePlace 7 = .ok (.iload_n 1, 1) := by decide +kernel
theorem d_X_nodePlace_8 : decode b_X_nodePlace 8 = .ok (.iadd, 1) := by decide +kernel
theorem d_X_nodePlace_9 : decode b_X_nodePlace 9 = .ok (.iconst 1, 1) := by decide +kernel
theorem d_X_nodePlace_10 : decode b_X_nodePlace 10 = .ok (.isub, 1) := by decide +kernel
theorem d_X_nodePlace_11 : decode b_X_nodePlace 11 = .ok (.ireturn, 1) := by decide +kernel
theorem d_X_recordPlace_0 : decode b_X_recordPlace 0 = .ok (.bipush 51, 2) := by decide +kernel
theorem d_X_recordPlace_2 : decode b_X_recordPlace 2 = .ok (.iload_n 0, 1) := by decide +kernel
theorem d_X_recordPlace_3 : decode b_X_recordPlace 3 = .ok (.imul, 1) := by decide +kernel
theorem d_X_recordPlace_4 : decode b_X_recordPlace 4 = .ok (.bipush 31, 2) := by decide +kernel
theorem d_X_recordPlace_6 : decode b_X_recordPlace 6 = .ok (.iadd, 1) := by decide +kernel
theorem d_X_recordPlace_7 : decode b_X_recordPlace 7 = .ok (.iconst 4, 1) := by decide +kernel
theorem d_X_recordPlace_8 : decode b_X_recordPlace 8 = .ok (.iload_n 1, 1) := by decide +kernel
theorem d_X_recordPlace_9 : decode b_X_recordPlace 9 = .ok (.imul, 1) := by decide +kernel
theorem d_X_recordPlace_10 : decode b_X_recordPlace 10 = .ok (.iadd, 1) := by decide +kernel
theorem d_X_recordPlace_11 : decode b_X_recordPlace 11 = .ok (.ireturn, 1) := by decide +kernel
theorem d_X_dueNode_0 : decode b_X_dueNode 0 = .ok (.iload_n 2, 1) := by decide +kernel
theorem d_X_dueNode_1 : decode b_X_dueNode 1 = .ok (.bipush 8, 2) := by decide +kernel
theorem d_X_dueNode_3 : decode b_X_dueNode 3 = .ok (.if_icmp .lt 47, 3) := by decide +kernel
theorem d_X_dueNode_6 : decode b_X_dueNode 6 = .ok (.iload_n 2, 1) := by decide +kernel
theorem d_X_dueNode_7 : decode b_X_dueNode 7 = .ok (.bipush 8, 2) := by decide +kernel
theorem d_X_dueNode_9 : decode b_X_dueNode 9 = .ok (.isub, 1) := by decide +kernel
theorem d_X_dueNode_10 : decode b_X_dueNode 10 = .ok (.istore 4, 2) := by decide +kernel
theorem d_X_dueNode_12 : decode b_X_dueNode 12 = .ok (.iload_n 1, 1) := by decide +kernel
theorem d_X_dueNode_13 : decode b_X_dueNode 13 = .ok (.iload 4, 2) := by decide +kernel
theorem d_X_dueNode_15 : decode b_X_dueNode 15 = .ok (.invokestatic 103, 3) := by decide +kernel
theorem d_X_dueNode_18 : decode b_X_dueNode 18 = .ok (.istore 5, 2) := by decide +kernel
theorem d_X_dueNode_20 : decode b_X_dueNode 20 = .ok (.bipush 8, 2) := by decide +kernel
theorem d_X_dueNode_22 : decode b_X_dueNode 22 = .ok (.iload_n 3, 1) := by decide +kernel
theorem d_X_dueNode_23 : decode b_X_dueNode 23 = .ok (.imul, 1) := by decide +kernel
theorem d_X_dueNode_24 : decode b_X_dueNode 24 = .ok (.iload 4, 2) := by decide +kernel
theorem d_X_dueNode_26 : decode b_X_dueNode 26 = .ok (.iadd, 1) := by decide +kernel
theorem d_X_dueNode_27 : decode b_X_dueNode 27 = .ok (.aload_n 0, 1) := by decide +kernel
theorem d_X_dueNode_28 : decode b_X_dueNode 28 = .ok (.getfield 9, 3) := by decide +kernel
theorem d_X_dueNode_31 : decode b_X_dueNode 31 = .ok (.iload 5, 2) := by decide +kernel
theorem d_X_dueNode_33 : decode b_X_dueNode 33 = .ok (.iaload, 1) := by decide +kernel
theorem d_X_dueNode_34 : decode b_X_dueNode 34 = .ok (.invokestatic 100, 3) := by decide +kernel
theorem d_X_dueNode_37 : decode b_X_dueNode 37 = .ok (.aload_n 0, 1) := by decide +kernel
theorem d_X_dueNode_38 : decode b_X_dueNode 38 = .ok (.getfield 9, 3) := by decide +kernel
theorem d_X_dueNode_41 : decode b_X_dueNode 41 = .ok (.iload 5, 2) := by decide +kernel
theorem d_X_dueNode_43 : decode b_X_dueNode 43 = .ok (.iconst 1, 1) := by decide +kernel
theorem d_X_dueNode_44 : decode b_X_dueNode 44 = .ok (.iadd, 1) := by decide +kernel
theorem d_X_dueNode_45 : decode b_X_dueNode 45 = .ok (.iaload, 1) := by decide +kernel
theorem d_X_dueNode_46 : decode b_X_dueNode 46 = .ok (.invokestatic 100, 3) := by decide +kernel
theorem d_X_dueNode_49 : decode b_X_dueNode 49 = .ok (.ireturn, 1) := by decide +kernel
theorem d_X_dueNode_50 : decode b_X_dueNode 50 = .ok (.aload_n 0, 1) := by decide +kernel
theorem d_X_dueNode_51 : decode b_X_dueNode 51 = .ok (.getfield 9, 3) := by decide +kernel
theorem d_X_dueNode_54 : decode b_X_dueNode 54 = .ok (.iload_n 1, 1) := by decide +kernel
theorem d_X_dueNode_55 : decode b_X_dueNode 55 = .ok (.iconst 2, 1) := by decide +kernel
theorem d_X_dueNode_56 : decode b_X_dueNode 56 = .ok (.iload_n 2, 1) := by decide +kernel
theorem d_X_dueNode_57 : decode b_X_dueNode 57 = .ok (.imul, 1) := by decide +kernel
theorem d_X_dueNode_58 : decode b_X_dueNode 58 = .ok (.invokestatic 31, 3) := by decide +kernel
theorem d_X_dueNode_61 : decode b_X_dueNode 61 = .ok (.iaload, 1) := by decide +kernel
theorem d_X_dueNode_62 : decode b_X_dueNode 62 = .ok (.aload_n 0, 1) := by decide +kernel
theorem d_X_dueNode_63 : decode b_X_dueNode 63 = .ok (.getfield 9, 3) := by decide +kernel
theorem d_X_dueNode_66 : decode b_X_dueNode 66 = .ok (.iload_n 1, 1) := by decide +kernel
theorem d_X_dueNode_67 : decode b_X_dueNode 67 = .ok (.iconst 2, 1) := by decide +kernel
theorem d_X_dueNode_68 : decode b_X_dueNode 68 = .ok (.iload_n 2, 1) := by decide +kernel
theorem d_X_dueNode_69 : decode b_X_dueNode 69 = .ok (.imul, 1) := by decide +kernel
theorem d_X_dueNode_70 : decode b_X_dueNode 70 = .ok (.iconst 1, 1) := by decide +kernel
theorem d_X_dueNode_71 : decode b_X_dueNode 71 = .ok (.iadd, 1) := by decide +kernel
theorem d_X_dueNode_72 : decode b_X_dueNode 72 = .ok (.invokestatic 31, 3) := by decide +kernel
theorem d_X_dueNode_75 : decode b_X_dueNode 75 = .ok (.iaload, 1) := by decide +kernel
theorem d_X_dueNode_76 : decode b_X_dueNode 76 = .ok (.invokestatic 100, 3) := by decide +kernel
theorem d_X_dueNode_79 : decode b_X_dueNode 79 = .ok (.ireturn, 1) := by decide +kernel
theorem d_X_valueAt_0 : decode b_X_valueAt 0 = .ok (.aload_n 0, 1) := by decide +kernel
theorem d_X_valueAt_1 : decode b_X_valueAt 1 = .ok (.getfield 9, 3) := by decide +kernel
theorem d_X_valueAt_4 : decode b_X_valueAt 4 = .ok (.iload_n 1, 1) := by decide +kernel
theorem d_X_valueAt_5 : decode b_X_valueAt 5 = .ok (.iaload, 1) := by decide +kernel
theorem d_X_valueAt_6 : decode b_X_valueAt 6 = .ok (.iload_n 1, 1) := by decide +kernel
theorem d_X_valueAt_7 : decode b_X_valueAt 7 = .ok (.aload_n 0, 1) := by decide +kernel
theorem d_X_valueAt_8 : decode b_X_valueAt 8 = .ok (.getfield 24, 3) := by decide +kernel
theorem d_X_valueAt_11 : decode b_X_valueAt 11 = .ok (.invokestatic 27, 3) := by decide +kernel
theorem d_X_valueAt_14 : decode b_X_valueAt 14 = .ok (.i2l, 1) := by decide +kernel
theorem d_X_valueAt_15 : decode b_X_valueAt 15 = .ok (.lstore_n 2, 1) := by decide +kernel
theorem d_X_valueAt_16 : decode b_X_valueAt 16 = .ok (.aload_n 0, 1) := by decide +kernel
theorem d_X_valueAt_17 : decode b_X_valueAt 17 = .ok (.getfield 9, 3) := by decide +kernel
theorem d_X_valueAt_20 : decode b_X_valueAt 20 = .ok (.iload_n 1, 1) := by decide +kernel
theorem d_X_valueAt_21 : decode b_X_valueAt 21 = .ok (.iconst 1, 1) := by decide +kernel
theorem d_X_valueAt_22 : decode b_X_valueAt 22 = .ok (.iadd, 1) := by decide +kernel
theorem d_X_valueAt_23 : decode b_X_valueAt 23 = .ok (.iaload, 1) := by decide +kernel
theorem d_X_valueAt_24 : decode b_X_valueAt 24 = .ok (.iload_n 1, 1) := by decide +kernel
theorem d_X_valueAt_25 : decode b_X_valueAt 25 = .ok (.iconst 1, 1) := by decide +kernel
theorem d_X_valueAt_26 : decode b_X_valueAt 26 = .ok (.iadd, 1) := by decide +kernel
theorem d_X_valueAt_27 : decode b_X_valueAt 27 = .ok (.aload_n 0, 1) := by decide +kernel
theorem d_X_valueAt_28 : decode b_X_valueAt 28 = .ok (.getfield 24, 3) := by decide +kernel
theorem d_X_valueAt_31 : decode b_X_valueAt 31 = .ok (.invokestatic 27, 3) := by decide +kernel
theorem d_X_valueAt_34 : decode b_X_valueAt 34 = .ok (.i2l, 1) := by decide +kernel
theorem d_X_valueAt_35 : decode b_X_valueAt 35 = .ok (.lstore 4, 2) := by decide +kernel
theorem d_X_valueAt_37 : decode b_X_valueAt 37 = .ok (.lload_n 2, 1) := by decide +kernel
theorem d_X_valueAt_38 : decode b_X_valueAt 38 = .ok (.bipush 32, 2) := by decide +kernel
theorem d_X_valueAt_40 : decode b_X_valueAt 40 = .ok (.lshl, 1) := by decide +kernel
theorem d_X_valueAt_41 : decode b_X_valueAt 41 = .ok (.lload 4, 2) := by decide +kernel
theorem d_X_valueAt_43 : decode b_X_valueAt 43 = .ok (.ldc2_w 106, 3) := by decide +kernel
theorem d_X_valueAt_46 : decode b_X_valueAt 46 = .ok (.land, 1) := by decide +kernel
theorem d_X_valueAt_47 : decode b_X_valueAt 47 = .ok (.lor, 1) := by decide +kernel
theorem d_X_valueAt_48 : decode b_X_valueAt 48 = .ok (.lreturn, 1) := by decide +kernel
theorem d_X_rootAbove_0 : decode b_X_rootAbove 0 = .ok (.aload_n 0, 1) := by decide +kernel
theorem d_X_rootAbove_1 : decode b_X_rootAbove 1 = .ok (.aload_n 0, 1) := by decide +kernel
theorem d_X_rootAbove_2 : decode b_X_rootAbove 2 = .ok (.getfield 81, 3) := by decide +kernel
theorem d_X_rootAbove_5 : decode b_X_rootAbove 5 = .ok (.bipush 8, 2) := by decide +kernel
theorem d_X_rootAbove_7 : decode b_X_rootAbove 7 = .ok (.iload_n 1, 1) := by decide +kernel
theorem d_X_rootAbove_8 : decode b_X_rootAbove 8 = .ok (.iadd, 1) := by decide +kernel
theorem d_X_rootAbove_9 : decode b_X_rootAbove 9 = .ok (.aload_n 0, 1) := by decide +kernel
theorem d_X_rootAbove_10 : decode b_X_rootAbove 10 = .ok (.getfield 24, 3) := by decide +kernel
theorem d_X_rootAbove_13 : decode b_X_rootAbove 13 = .ok (.invokevirtual 35, 3) := by decide +kernel
theorem d_X_rootAbove_16 : decode b_X_rootAbove 16 = .ok (.istore_n 2, 1) := by decide +kernel
theorem d_X_rootAbove_17 : decode b_X_rootAbove 17 = .ok (.bipush 8, 2) := by decide +kernel
theorem d_X_rootAbove_19 : decode b_X_rootAbove 19 = .ok (.iload_n 1, 1) := by decide +kernel
theorem d_X_rootAbove_20 : decode b_X_rootAbove 20 = .ok (.iadd, 1) := by decide +kernel
theorem d_X_rootAbove_21 : decode b_X_rootAbove 21 = .ok (.istore_n 3, 1) := by decide +kernel
theorem d_X_rootAbove_22 : decode b_X_rootAbove 22 = .ok (.iload_n 3, 1) := by decide +kernel
theorem d_X_rootAbove_23 : decode b_X_rootAbove 23 = .ok (.iconst 1, 1) := by decide +kernel
theorem d_X_rootAbove_24 : decode b_X_rootAbove 24 = .ok (.if_icmp .le 49, 3) := by decide +kernel
theorem d_X_rootAbove_27 : decode b_X_rootAbove 27 = .ok (.aload_n 0, 1) := by decide +kernel
theorem d_X_rootAbove_28 : decode b_X_rootAbove 28 = .ok (.getfield 9, 3) := by decide +kernel
theorem d_X_rootAbove_31 : decode b_X_rootAbove 31 = .ok (.aload_n 0, 1) := by decide +kernel
theorem d_X_rootAbove_32 : decode b_X_rootAbove 32 = .ok (.getfield 81, 3) := by decide +kernel
theorem d_X_rootAbove_35 : decode b_X_rootAbove 35 = .ok (.iload_n 3, 1) := by decide +kernel
theorem d_X_rootAbove_36 : decode b_X_rootAbove 36 = .ok (.iconst 1, 1) := by decide +kernel
theorem d_X_rootAbove_37 : decode b_X_rootAbove 37 = .ok (.ixor, 1) := by decide +kernel
theorem d_X_rootAbove_38 : decode b_X_rootAbove 38 = .ok (.invokestatic 31, 3) := by decide +kernel
theorem d_X_rootAbove_41 : decode b_X_rootAbove 41 = .ok (.iaload, 1) := by decide +kernel
theorem d_X_rootAbove_42 : decode b_X_rootAbove 42 = .ok (.istore 4, 2) := by decide +kernel
theorem d_X_rootAbove_44 : decode b_X_rootAbove 44 = .ok (.iload_n 3, 1) := by decide +kernel
theorem d_X_rootAbove_45 : decode b_X_rootAbove 45 = .ok (.iconst 2, 1) := by decide +kernel
theorem d_X_rootAbove_46 : decode b_X_rootAbove 46 = .ok (.irem, 1) := by decide +kernel
theorem d_X_rootAbove_47 : decode b_X_rootAbove 47 = .ok (.ifCond .ne 12, 3) := by decide +kernel
theorem d_X_rootAbove_50 : decode b_X_rootAbove 50 = .ok (.iload_n 2, 1) := by decide +kernel
theorem d_X_rootAbove_51 : decode b_X_rootAbove 51 = .ok (.iload 4, 2) := by decide +kernel
theorem d_X_rootAbove_53 : decode b_X_rootAbove 53 = .ok (.invokestatic 100, 3) := by decide +kernel
theorem d_X_rootAbove_56 : decode b_X_rootAbove 56 = .ok (.goto 9, 3) := by decide +kernel
theorem d_X_rootAbove_59 : decode b_X_rootAbove 59 = .ok (.iload 4, 2) := by decide +kernel
theorem d_X_rootAbove_61 : decode b_X_rootAbove 61 = .ok (.iload_n 2, 1) := by decide +kernel
theorem d_X_rootAbove_62 : decode b_X_rootAbove 62 = .ok (.invokestatic 100, 3) := by decide +kernel
theorem d_X_rootAbove_65 : decode b_X_rootAbove 65 = .ok (.istore_n 2, 1) := by decide +kernel
theorem d_X_rootAbove_66 : decode b_X_rootAbove 66 = .ok (.iload_n 3, 1) := by decide +kernel
theorem d_X_rootAbove_67 : decode b_X_rootAbove 67 = .ok (.iconst 2, 1) := by decide +kernel
theorem d_X_rootAbove_68 : decode b_X_rootAbove 68 = .ok (.idiv, 1) := by decide +kernel
theorem d_X_rootAbove_69 : decode b_X_rootAbove 69 = .ok (.istore_n 3, 1) := by decide +kernel
theorem d_X_rootAbove_70 : decode b_X_rootAbove 70 = .ok (.goto (-48), 3) := by decide +kernel
theorem d_X_rootAbove_73 : decode b_X_rootAbove 73 = .ok (.iload_n 2, 1) := by decide +kernel
theorem d_X_rootAbove_74 : decode b_X_rootAbove 74 = .ok (.ireturn, 1) := by decide +kernel
theorem d_X_valueOf_0 : decode b_X_valueOf 0 = .ok (.aload_n 0, 1) := by decide +kernel
theorem d_X_valueOf_1 : decode b_X_valueOf 1 = .ok (.getfield 44, 3) := by decide +kernel
theorem d_X_valueOf_4 : decode b_X_valueOf 4 = .ok (.iconst 1, 1) := by decide +kernel
theorem d_X_valueOf_5 : decode b_X_valueOf 5 = .ok (.isub, 1) := by decide +kernel
theorem d_X_valueOf_6 : decode b_X_valueOf 6 = .ok (.istore_n 2, 1) := by decide +kernel
theorem d_X_valueOf_7 : decode b_X_valueOf 7 = .ok (.iload_n 2, 1) := by decide +kernel
theorem d_X_valueOf_8 : decode b_X_valueOf 8 = .ok (.ifCond .lt 26, 3) := by decide +kernel
theorem d_X_valueOf_11 : decode b_X_valueOf 11 = .ok (.aload_n 0, 1) := by decide +kernel
theorem d_X_valueOf_12 : decode b_X_valueOf 12 = .ok (.getfield 13, 3) := by decide +kernel
theorem d_X_valueOf_15 : decode b_X_valueOf 15 = .ok (.iload_n 2, 1) := by decide +kernel
theorem d_X_valueOf_16 : decode b_X_valueOf 16 = .ok (.iaload, 1) := by decide +kernel
theorem d_X_valueOf_17 : decode b_X_valueOf 17 = .ok (.iload_n 1, 1) := by decide +kernel
theorem d_X_valueOf_18 : decode b_X_valueOf 18 = .ok (.if_icmp .ne 10, 3) := by decide +kernel
theorem d_X_valueOf_21 : decode b_X_valueOf 21 = .ok (.aload_n 0, 1) := by decide +kernel
theorem d_X_valueOf_22 : decode b_X_valueOf 22 = .ok (.getfield 16, 3) := by decide +kernel
theorem d_X_valueOf_25 : decode b_X_valueOf 25 = .ok (.iload_n 2, 1) := by decide +kernel
theorem d_X_valueOf_26 : decode b_X_valueOf 26 = .ok (.laload, 1) := by decide +kernel
theorem d_X_valueOf_27 : decode b_X_valueOf 27 = .ok (.lreturn, 1) := by decide +kernel
theorem d_X_valueOf_28 : decode b_X_valueOf 28 = .ok (.iinc 2 (-1), 3) := by decide +kernel
theorem d_X_valueOf_31 : decode b_X_valueOf 31 = .ok (.goto (-24), 3) := by decide +kernel
theorem d_X_valueOf_34 : decode b_X_valueOf 34 = .ok (.aload_n 0, 1) := by decide +kernel
theorem d_X_valueOf_35 : decode b_X_valueOf 35 = .ok (.iload_n 1, 1) := by decide +kernel
theorem d_X_valueOf_36 : decode b_X_valueOf 36 = .ok (.invokevirtual 108, 3) := by decide +kernel
theorem d_X_valueOf_39 : decode b_X_valueOf 39 = .ok (.aload_n 0, 1) := by decide +kernel
theorem d_X_valueOf_40 : decode b_X_valueOf 40 = .ok (.getfield 38, 3) := by decide +kernel
theorem d_X_valueOf_43 : decode b_X_valueOf 43 = .ok (.if_icmp .eq 7, 3) := by decide +kernel
theorem d_X_valueOf_46 : decode b_X_valueOf 46 = .ok (.ldc2_w 112, 3) := by decide +kernel
theorem d_X_valueOf_49 : decode b_X_valueOf 49 = .ok (.lreturn, 1) := by decide +kernel
theorem d_X_valueOf_50 : decode b_X_valueOf 50 = .ok (.aload_n 0, 1) := by decide +kernel
theorem d_X_valueOf_51 : decode b_X_valueOf 51 = .ok (.aload_n 0, 1) := by decide +kernel
theorem d_X_valueOf_52 : decode b_X_valueOf 52 = .ok (.getfield 81, 3) := by decide +kernel
theorem d_X_valueOf_55 : decode b_X_valueOf 55 = .ok (.iload_n 1, 1) := by decide +kernel
theorem d_X_valueOf_56 : decode b_X_valueOf 56 = .ok (.invokestatic 103, 3) := by decide +kernel
theorem d_X_valueOf_59 : decode b_X_valueOf 59 = .ok (.invokevirtual 114, 3) := by decide +kernel
theorem d_X_valueOf_62 : decode b_X_valueOf 62 = .ok (.lstore_n 2, 1) := by decide +kernel
theorem d_X_valueOf_63 : decode b_X_valueOf 63 = .ok (.lload_n 2, 1) := by decide +kernel
theorem d_X_valueOf_64 : decode b_X_valueOf 64 = .ok (.lconst 0, 1) := by decide +kernel
theorem d_X_valueOf_65 : decode b_X_valueOf 65 = .ok (.lcmp, 1) := by decide +kernel
theorem d_X_valueOf_66 : decode b_X_valueOf 66 = .ok (.ifCond .ge 9, 3) := by decide +kernel
theorem d_X_valueOf_69 : decode b_X_valueOf 69 = .ok (.ldc2_w 112, 3) := by decide +kernel
theorem d_X_valueOf_72 : decode b_X_valueOf 72 = .ok (.goto 4, 3) := by decide +kernel
theorem d_X_valueOf_75 : decode b_X_valueOf 75 = .ok (.lload_n 2, 1) := by decide +kernel
theorem d_X_valueOf_76 : decode b_X_valueOf 76 = .ok (.lreturn, 1) := by decide +kernel
theorem d_X_soundSectors_0 : decode b_X_soundSectors 0 = .ok (.iconst 0, 1) := by decide +kernel
theorem d_X_soundSectors_1 : decode b_X_soundSectors 1 = .ok (.istore_n 1, 1) := by decide +kernel
theorem d_X_soundSectors_2 : decode b_X_soundSectors 2 = .ok (.iconst 0, 1) := by decide +kernel
theorem d_X_soundSectors_3 : decode b_X_soundSectors 3 = .ok (.istore_n 2, 1) := by decide +kernel
theorem d_X_soundSectors_4 : decode b_X_soundSectors 4 = .ok (.iload_n 2, 1) := by decide +kernel
theorem d_X_soundSectors_5 : decode b_X_soundSectors 5 = .ok (.bipush 8, 2) := by decide +kernel
theorem d_X_soundSectors_7 : decode b_X_soundSectors 7 = .ok (.if_icmp .ge 25, 3) := by decide +kernel
theorem d_X_soundSectors_10 : decode b_X_soundSectors 10 = .ok (.aload_n 0, 1) := by decide +kernel
theorem d_X_soundSectors_11 : decode b_X_soundSectors 11 = .ok (.iload_n 2, 1) := by decide +kernel
theorem d_X_soundSectors_12 : decode b_X_soundSectors 12 = .ok (.invokevirtual 77, 3) := by decide +kernel
theorem d_X_soundSectors_15 : decode b_X_soundSectors 15 = .ok (.lconst 0, 1) := by decide +kernel
theorem d_X_soundSectors_16 : decode b_X_soundSectors 16 = .ok (.lcmp, 1) := by decide +kernel
theorem d_X_soundSectors_17 : decode b_X_soundSectors 17 = .ok (.ifCond .lt 9, 3) := by decide +kernel
theorem d_X_soundSectors_20 : decode b_X_soundSectors 20 = .ok (.iload_n 1, 1) := by decide +kernel
theorem d_X_soundSectors_21 : decode b_X_soundSectors 21 = .ok (.iconst 1, 1) := by decide +kernel
theorem d_X_soundSectors_22 : decode b_X_soundSectors 22 = .ok (.iload_n 2, 1) := by decide +kernel
theorem d_X_soundSectors_23 : decode b_X_soundSectors 23 = .ok (.ishl, 1) := by decide +kernel
theorem d_X_soundSectors_24 : decode b_X_soundSectors 24 = .ok (.iadd, 1) := by decide +kernel
theorem d_X_soundSectors_25 : decode b_X_soundSectors 25 = .ok (.istore_n 1, 1) := by decide +kernel
theorem d_X_soundSectors_26 : decode b_X_soundSectors 26 = .ok (.iinc 2 1, 3) := by decide +kernel
theorem d_X_soundSectors_29 : decode b_X_soundSectors 29 = .ok (.goto (-25), 3) := by decide +kernel
theorem d_X_soundSectors_32 : decode b_X_soundSectors 32 = .ok (.iload_n 1, 1) := by decide +kernel
theorem d_X_soundSectors_33 : decode b_X_soundSectors 33 = .ok (.ireturn, 1) := by decide +kernel
theorem d_X_forget_0 : decode b_X_forget 0 = .ok (.aload_n 0, 1) := by decide +kernel
theorem d_X_forget_1 : decode b_X_forget 1 = .ok (.iconst 0, 1) := by decide +kernel
theorem d_X_forget_2 : decode b_X_forget 2 = .ok (.putfield 53, 3) := by decide +kernel
theorem d_X_forget_5 : decode b_X_forget 5 = .ok (.aload_n 0, 1) := by decide +kernel
theorem d_X_forget_6 : decode b_X_forget 6 = .ok (.iconst 0, 1) := by decide +kernel
theorem d_X_forget_7 : decode b_X_forget 7 = .ok (.putfield 44, 3) := by decide +kernel
theorem d_X_forget_10 : decode b_X_forget 10 = .ok (.aload_n 0, 1) := by decide +kernel
theorem d_X_forget_11 : decode b_X_forget 11 = .ok (.iconst 0, 1) := by decide +kernel
theorem d_X_forget_12 : decode b_X_forget 12 = .ok (.putfield 117, 3) := by decide +kernel
theorem d_X_forget_15 : decode b_X_forget 15 = .ok (.return_, 1) := by decide +kernel
theorem d_X_addToList_0 : decode b_X_addToList 0 = .ok (.aload_n 0, 1) := by decide +kernel
theorem d_X_addToList_1 : decode b_X_addToList 1 = .ok (.getfield 13, 3) := by decide +kernel
theorem d_X_addToList_4 : decode b_X_addToList 4 = .ok (.aload_n 0, 1) := by decide +kernel
theorem d_X_addToList_5 : decode b_X_addToList 5 = .ok (.getfield 44, 3) := by decide +kernel
theorem d_X_addToList_8 : decode b_X_addToList 8 = .ok (.iload_n 1, 1) := by decide +kernel
theorem d_X_addToList_9 : decode b_X_addToList 9 = .ok (.iastore, 1) := by decide +kernel
theorem d_X_addToList_10 : decode b_X_addToList 10 = .ok (.aload_n 0, 1) := by decide +kernel
theorem d_X_addToList_11 : decode b_X_addToList 11 = .ok (.getfield 16, 3) := by decide +kernel
theorem d_X_addToList_14 : decode b_X_addToList 14 = .ok (.aload_n 0, 1) := by decide +kernel
theorem d_X_addToList_15 : decode b_X_addToList 15 = .ok (.getfield 44, 3) := by decide +kernel
theorem d_X_addToList_18 : decode b_X_addToList 18 = .ok (.lload_n 2, 1) := by decide +kernel
theorem d_X_addToList_19 : decode b_X_addToList 19 = .ok (.lastore, 1) := by decide +kernel
theorem d_X_addToList_20 : decode b_X_addToList 20 = .ok (.aload_n 0, 1) := by decide +kernel
theorem d_X_addToList_21 : decode b_X_addToList 21 = .ok (.dup, 1) := by decide +kernel
theorem d_X_addToList_22 : decode b_X_addToList 22 = .ok (.getfield 44, 3) := by decide +kernel
theorem d_X_addToList_25 : decode b_X_addToList 25 = .ok (.iconst 1, 1) := by decide +kernel
theorem d_X_addToList_26 : decode b_X_addToList 26 = .ok (.iadd, 1) := by decide +kernel
theorem d_X_addToList_27 : decode b_X_addToList 27 = .ok (.putfield 44, 3) := by decide +kernel
theorem d_X_addToList_30 : decode b_X_addToList 30 = .ok (.return_, 1) := by decide +kernel
theorem d_X_beginList_0 : decode b_X_beginList 0 = .ok (.aload_n 0, 1) := by decide +kernel
theorem d_X_beginList_1 : decode b_X_beginList 1 = .ok (.iconst 0, 1) := by decide +kernel
theorem d_X_beginList_2 : decode b_X_beginList 2 = .ok (.putfield 44, 3) := by decide +kernel
theorem d_X_beginList_5 : decode b_X_beginList 5 = .ok (.aload_n 0, 1) := by decide +kernel
theorem d_X_beginList_6 : decode b_X_beginList 6 = .ok (.ldc 99, 2) := by decide +kernel
theorem d_X_beginList_8 : decode b_X_beginList 8 = .ok (.aload_n 0, 1) := by decide +kernel
theorem d_X_beginList_9 : decode b_X_beginList 9 = .ok (.getfield 38, 3) := by decide +kernel
theorem d_X_beginList_12 : decode b_X_beginList 12 = .ok (.invokestatic 100, 3) := by decide +kernel
theorem d_X_beginList_15 : decode b_X_beginList 15 = .ok (.aload_n 0, 1) := by decide +kernel
theorem d_X_beginList_16 : decode b_X_beginList 16 = .ok (.getfield 24, 3) := by decide +kernel
theorem d_X_beginList_19 : decode b_X_beginList 19 = .ok (.invokestatic 100, 3) := by decide +kernel
theorem d_X_beginList_22 : decode b_X_beginList 22 = .ok (.putfield 117, 3) := by decide +kernel
theorem d_X_beginList_25 : decode b_X_beginList 25 = .ok (.return_, 1) := by decide +kernel
theorem d_X_chainBehind_0 : decode b_X_chainBehind 0 = .ok (.aload_n 0, 1) := by decide +kernel
theorem d_X_chainBehind_1 : decode b_X_chainBehind 1 = .ok (.getfield 117, 3) := by decide +kernel
theorem d_X_chainBehind_4 : decode b_X_chainBehind 4 = .ok (.aload_n 0, 1) := by decide +kernel
theorem d_X_chainBehind_5 : decode b_X_chainBehind 5 = .ok (.getfield 9, 3) := by decide +kernel
theorem d_X_chainBehind_8 : decode b_X_chainBehind 8 = .ok (.iload_n 1, 1) := by decide +kernel
theorem d_X_chainBehind_9 : decode b_X_chainBehind 9 = .ok (.iaload, 1) := by decide +kernel
theorem d_X_chainBehind_10 : decode b_X_chainBehind 10 = .ok (.invokestatic 100, 3) := by decide +kernel
theorem d_X_chainBehind_13 : decode b_X_chainBehind 13 = .ok (.aload_n 0, 1) := by decide +kernel
theorem d_X_chainBehind_14 : decode b_X_chainBehind 14 = .ok (.getfield 9, 3) := by decide +kernel
theorem d_X_chainBehind_17 : decode b_X_chainBehind 17 = .ok (.iload_n 1, 1) := by decide +kernel
theorem d_X_chainBehind_18 : decode b_X_chainBehind 18 = .ok (.iconst 1, 1) := by decide +kernel
theorem d_X_chainBehind_19 : decode b_X_chainBehind 19 = .ok (.iadd, 1) := by decide +kernel
theorem d_X_chainBehind_20 : decode b_X_chainBehind 20 = .ok (.iaload, 1) := by decide +kernel
theorem d_X_chainBehind_21 : decode b_X_chainBehind 21 = .ok (.invokestatic 100, 3) := by decide +kernel
theorem d_X_chainBehind_24 : decode b_X_chainBehind 24 = .ok (.aload_n 0, 1) := by decide +kernel
theorem d_X_chainBehind_25 : decode b_X_chainBehind 25 = .ok (.getfield 9, 3) := by decide +kernel
theorem d_X_chainBehind_28 : decode b_X_chainBehind 28 = .ok (.iload_n 1, 1) := by decide +kernel
theorem d_X_chainBehind_29 : decode b_X_chainBehind 29 = .ok (.iconst 2, 1) := by decide +kernel
theorem d_X_chainBehind_30 : decode b_X_chainBehind 30 = .ok (.iadd, 1) := by decide +kernel
theorem d_X_chainBehind_31 : decode b_X_chainBehind 31 = .ok (.iaload, 1) := by decide +kernel
theorem d_X_chainBehind_32 : decode b_X_chainBehind 32 = .ok (.invokestatic 100, 3) := by decide +kernel
theorem d_X_chainBehind_35 : decode b_X_chainBehind 35 = .ok (.ireturn, 1) := by decide +kernel
theorem d_X_markOf_0 : decode b_X_markOf 0 = .ok (.iload_n 0, 1) := by decide +kernel
theorem d_X_markOf_1 : decode b_X_markOf 1 = .ok (.iconst 1, 1) := by decide +kernel
theorem d_X_markOf_2 : decode b_X_markOf 2 = .ok (.ior, 1) := by decide +kernel
theorem d_X_markOf_3 : decode b_X_markOf 3 = .ok (.ireturn, 1) := by decide +kernel
theorem d_X_takeJournal_0 : decode b_X_takeJournal 0 = .ok (.aload_n 0, 1) := by decide +kernel
theorem d_X_takeJournal_1 : decode b_X_takeJournal 1 = .ok (.invokevirtual 120, 3) := by decide +kernel
theorem d_X_takeJournal_4 : decode b_X_takeJournal 4 = .ok (.iconst 0, 1) := by decide +kernel
theorem d_X_takeJournal_5 : decode b_X_takeJournal 5 = .ok (.istore_n 1, 1) := by decide +kernel
theorem d_X_takeJournal_6 : decode b_X_takeJournal 6 = .ok (.iload_n 1, 1) := by decide +kernel
theorem d_X_takeJournal_7 : decode b_X_takeJournal 7 = .ok (.iconst 5, 1) := by decide +kernel
theorem d_X_takeJournal_8 : decode b_X_takeJournal 8 = .ok (.if_icmp .ge 93, 3) := by decide +kernel
theorem d_X_takeJournal_11 : decode b_X_takeJournal 11 = .ok (.aload_n 0, 1) := by decide +kernel
theorem d_X_takeJournal_12 : decode b_X_takeJournal 12 = .ok (.getfield 81, 3) := by decide +kernel
theorem d_X_takeJournal_15 : decode b_X_takeJournal 15 = .ok (.iload_n 1, 1) := by decide +kernel
theorem d_X_takeJournal_16 : decode b_X_takeJournal 16 = .ok (.invokestatic 123, 3) := by decide +kernel
theorem d_X_takeJournal_19 : decode b_X_takeJournal 19 = .ok (.istore_n 2, 1) := by decide +kernel
theorem d_X_takeJournal_20 : decode b_X_takeJournal 20 = .ok (.aload_n 0, 1) := by decide +kernel
theorem d_X_takeJournal_21 : decode b_X_takeJournal 21 = .ok (.iload_n 2, 1) := by decide +kernel
theorem d_X_takeJournal_22 : decode b_X_takeJournal 22 = .ok (.invokevirtual 126, 3) := by decide +kernel
theorem d_X_takeJournal_25 : decode b_X_takeJournal 25 = .ok (.istore_n 3, 1) := by decide +kernel
theorem d_X_takeJournal_26 : decode b_X_takeJournal 26 = .ok (.aload_n 0, 1) := by decide +kernel
theorem d_X_takeJournal_27 : decode b_X_takeJournal 27 = .ok (.getfield 9, 3) := by decide +kernel
theorem d_X_takeJournal_30 : decode b_X_takeJournal 30 = .ok (.iload_n 2, 1) := by decide +kernel
theorem d_X_takeJournal_31 : decode b_X_takeJournal 31 = .ok (.iaload, 1) := by decide +kernel
theorem d_X_takeJournal_32 : decode b_X_takeJournal 32 = .ok (.iload_n 2, 1) := by decide +kernel
theorem d_X_takeJournal_33 : decode b_X_takeJournal 33 = .ok (.aload_n 0, 1) := by decide +kernel
theorem d_X_takeJournal_34 : decode b_X_takeJournal 34 = .ok (.getfield 24, 3) := by decide +kernel
theorem d_X_takeJournal_37 : decode b_X_takeJournal 37 = .ok (.invokestatic 27, 3) := by decide +kernel
theorem d_X_takeJournal_40 : decode b_X_takeJournal 40 = .ok (.istore 4, 2) := by decide +kernel
theorem d_X_takeJournal_42 : decode b_X_takeJournal 42 = .ok (.aload_n 0, 1) := by decide +kernel
theorem d_X_takeJournal_43 : decode b_X_takeJournal 43 = .ok (.iload_n 2, 1) := by decide +kernel
theorem d_X_takeJournal_44 : decode b_X_takeJournal 44 = .ok (.iconst 1, 1) := by decide +kernel
theorem d_X_takeJournal_45 : decode b_X_takeJournal 45 = .ok (.iadd, 1) := by decide +kernel
theorem d_X_takeJournal_46 : decode b_X_takeJournal 46 = .ok (.invokevirtual 114, 3) := by decide +kernel
theorem d_X_takeJournal_49 : decode b_X_takeJournal 49 = .ok (.lstore 5, 2) := by decide +kernel
theorem d_X_takeJournal_51 : decode b_X_takeJournal 51 = .ok (.aload_n 0, 1) := by decide +kernel
theorem d_X_takeJournal_52 : decode b_X_takeJournal 52 = .ok (.getfield 9, 3) := by decide +kernel
theorem d_X_takeJournal_55 : decode b_X_takeJournal 55 = .ok (.iload_n 2, 1) := by decide +kernel
theorem d_X_takeJournal_56 : decode b_X_takeJournal 56 = .ok (.iconst 3, 1) := by decide +kernel
theorem d_X_takeJournal_57 : decode b_X_takeJournal 57 = .ok (.iadd, 1) := by decide +kernel
theorem d_X_takeJournal_58 : decode b_X_takeJournal 58 = .ok (.iaload, 1) := by decide +kernel
theorem d_X_takeJournal_59 : decode b_X_takeJournal 59 = .ok (.iload_n 3, 1) := by decide +kernel
theorem d_X_takeJournal_60 : decode b_X_takeJournal 60 = .ok (.invokestatic 129, 3) := by decide +kernel
theorem d_X_takeJournal_63 : decode b_X_takeJournal 63 = .ok (.if_icmp .ne 18, 3) := by decide +kernel
theorem d_X_takeJournal_66 : decode b_X_takeJournal 66 = .ok (.iload 4, 2) := by decide +kernel
theorem d_X_takeJournal_68 : decode b_X_takeJournal 68 = .ok (.invokestatic 57, 3) := by decide +kernel
theorem d_X_takeJournal_71 : decode b_X_takeJournal 71 = .ok (.ifCond .eq 10, 3) := by decide +kernel
theorem d_X_takeJournal_74 : decode b_X_takeJournal 74 = .ok (.lload 5, 2) := by decide +kernel
theorem d_X_takeJournal_76 : decode b_X_takeJournal 76 = .ok (.lconst 0, 1) := by decide +kernel
theorem d_X_takeJournal_77 : decode b_X_takeJournal 77 = .ok (.lcmp, 1) := by decide +kernel
theorem d_X_takeJournal_78 : decode b_X_takeJournal 78 = .ok (.ifCond .ge 4, 3) := by decide +kernel
theorem d_X_takeJournal_81 : decode b_X_takeJournal 81 = .ok (.return_, 1) := by decide +kernel
theorem d_X_takeJournal_82 : decode b_X_takeJournal 82 = .ok (.aload_n 0, 1) := by decide +kernel
theorem d_X_takeJournal_83 : decode b_X_takeJournal 83 = .ok (.iload_n 3, 1) := by decide +kernel
theorem d_X_takeJournal_84 : decode b_X_takeJournal 84 = .ok (.putfield 117, 3) := by decide +kernel
theorem d_X_takeJournal_87 : decode b_X_takeJournal 87 = .ok (.aload_n 0, 1) := by decide +kernel
theorem d_X_takeJournal_88 : decode b_X_takeJournal 88 = .ok (.iload 4, 2) := by decide +kernel
theorem d_X_takeJournal_90 : decode b_X_takeJournal 90 = .ok (.lload 5, 2) := by decide +kernel
theorem d_X_takeJournal_92 : decode b_X_takeJournal 92 = .ok (.invokevirtual 69, 3) := by decide +kernel
theorem d_X_takeJournal_95 : decode b_X_takeJournal 95 = .ok (.iinc 1 1, 3) := by decide +kernel
theorem d_X_takeJournal_98 : decode b_X_takeJournal 98 = .ok (.goto (-92), 3) := by decide +kernel
theorem d_X_takeJournal_101 : decode b_X_takeJournal 101 = .ok (.return_, 1) := by decide +kernel
theorem d_X_stepHappens_0 : decode b_X_stepHappens 0 = .ok (.aload_n 0, 1) := by decide +kernel
theorem d_X_stepHappens_1 : decode b_X_stepHappens 1 = .ok (.getfield 20, 3) := by decide +kernel
theorem d_X_stepHappens_4 : decode b_X_stepHappens 4 = .ok (.ifCond .ne 14, 3) := by decide +kernel
theorem d_X_stepHappens_7 : decode b_X_stepHappens 7 = .ok (.aload_n 0, 1) := by decide +kernel
theorem d_X_stepHappens_8 : decode b_X_stepHappens 8 = .ok (.iconst (-1), 1) := by decide +kernel
theorem d_X_stepHappens_9 : decode b_X_stepHappens 9 = .ok (.putfield 20, 3) := by decide +kernel
theorem d_X_stepHappens_12 : decode b_X_stepHappens 12 = .ok (.aload_n 0, 1) := by decide +kernel
theorem d_X_stepHappens_13 : decode b_X_stepHappens 13 = .ok (.invokevirtual 50, 3) := by decide +kernel
theorem d_X_stepHappens_16 : decode b_X_stepHappens 16 = .ok (.iconst 0, 1) := by decide +kernel
theorem d_X_stepHappens_17 : decode b_X_stepHappens 17 = .ok (.ireturn, 1) := by decide +kernel
theorem d_X_stepHappens_18 : decode b_X_stepHappens 18 = .ok (.aload_n 0, 1) := by decide +kernel
theorem d_X_stepHappens_19 : decode b_X_stepHappens 19 = .ok (.getfield 20, 3) := by decide +kernel
theorem d_X_stepHappens_22 : decode b_X_stepHappens 22 = .ok (.ifCond .le 13, 3) := by decide +kernel
theorem d_X_stepHappens_25 : decode b_X_stepHappens 25 = .ok (.aload_n 0, 1) := by decide +kernel
theorem d_X_stepHappens_26 : decode b_X_stepHappens 26 = .ok (.dup, 1) := by decide +kernel
theorem d_X_stepHappens_27 : decode b_X_stepHappens 27 = .ok (.getfield 20, 3) := by decide +kernel
theorem d_X_stepHappens_30 : decode b_X_stepHappens 30 = .ok (.iconst 1, 1) := by decide +kernel
theorem d_X_stepHappens_31 : decode b_X_stepHappens 31 = .ok (.isub, 1) := by decide +kernel
theorem d_X_stepHappens_32 : decode b_X_stepHappens 32 = .ok (.putfield 20, 3) := by decide +kernel
theorem d_X_stepHappens_35 : decode b_X_stepHappens 35 = .ok (.aload_n 0, 1) := by decide +kernel
theorem d_X_stepHappens_36 : decode b_X_stepHappens 36 = .ok (.dup, 1) := by decide +kernel
theorem d_X_stepHappens_37 : decode b_X_stepHappens 37 = .ok (.getfield 94, 3) := by decide +kernel
theorem d_X_stepHappens_40 : decode b_X_stepHappens 40 = .ok (.iconst 1, 1) := by decide +kernel
theorem d_X_stepHappens_41 : decode b_X_stepHappens 41 = .ok (.iadd, 1) := by decide +kernel
theorem d_X_stepHappens_42 : decode b_X_stepHappens 42 = .ok (.putfield 94, 3) := by decide +kernel
theorem d_X_stepHappens_45 : decode b_X_stepHappens 45 = .ok (.iconst 1, 1) := by decide +kernel
theorem d_X_stepHappens_46 : decode b_X_stepHappens 46 = .ok (.ireturn, 1) := by decide +kernel
theorem d_X_storeWord_0 : decode b_X_storeWord 0 = .ok (.aload_n 0, 1) := by decide +kernel
theorem d_X_storeWord_1 : decode b_X_storeWord 1 = .ok (.invokevirtual 132, 3) := by decide +kernel
theorem d_X_storeWord_4 : decode b_X_storeWord 4 = .ok (.ifCond .ne 5, 3) := by decide +kernel
theorem d_X_storeWord_7 : decode b_X_storeWord 7 = .ok (.iconst 0, 1) := by decide +kernel
theorem d_X_storeWord_8 : decode b_X_storeWord 8 = .ok (.ireturn, 1) := by decide +kernel
theorem d_X_storeWord_9 : decode b_X_storeWord 9 = .ok (.aload_n 0, 1) := by decide +kernel
theorem d_X_storeWord_10 : decode b_X_storeWord 10 = .ok (.getfield 9, 3) := by decide +kernel
theorem d_X_storeWord_13 : decode b_X_storeWord 13 = .ok (.iload_n 1, 1) := by decide +kernel
theorem d_X_storeWord_14 : decode b_X_storeWord 14 = .ok (.iload_n 2, 1) := by decide +kernel
theorem d_X_storeWord_15 : decode b_X_storeWord 15 = .ok (.iastore, 1) := by decide +kernel
theorem d_X_storeWord_16 : decode b_X_storeWord 16 = .ok (.iconst 1, 1) := by decide +kernel
theorem d_X_storeWord_17 : decode b_X_storeWord 17 = .ok (.ireturn, 1) := by decide +kernel
theorem d_X_storeValue_0 : decode b_X_storeValue 0 = .ok (.aload_n 0, 1) := by decide +kernel
theorem d_X_storeValue_1 : decode b_X_storeValue 1 = .ok (.iload_n 1, 1) := by decide +kernel
theorem d_X_storeValue_2 : decode b_X_storeValue 2 = .ok (.lload_n 2, 1) := by decide +kernel
theorem d_X_storeValue_3 : decode b_X_storeValue 3 = .ok (.invokestatic 136, 3) := by decide +kernel
theorem d_X_storeValue_6 : decode b_X_storeValue 6 = .ok (.iload_n 1, 1) := by decide +kernel
theorem d_X_storeValue_7 : decode b_X_storeValue 7 = .ok (.iload 4, 2) := by decide +kernel
theorem d_X_storeValue_9 : decode b_X_storeValue 9 = .ok (.invokestatic 27, 3) := by decide +kernel
theorem d_X_storeValue_12 : decode b_X_storeValue 12 = .ok (.invokevirtual 140, 3) := by decide +kernel
theorem d_X_storeValue_15 : decode b_X_storeValue 15 = .ok (.ifCond .eq 29, 3) := by decide +kernel
theorem d_X_storeValue_18 : decode b_X_storeValue 18 = .ok (.aload_n 0, 1) := by decide +kernel
theorem d_X_storeValue_19 : decode b_X_storeValue 19 = .ok (.iload_n 1, 1) := by decide +kernel
theorem d_X_storeValue_20 : decode b_X_storeValue 20 = .ok (.iconst 1, 1) := by decide +kernel
theorem d_X_storeValue_21 : decode b_X_storeValue 21 = .ok (.iadd, 1) := by decide +kernel
theorem d_X_storeValue_22 : decode b_X_storeValue 22 = .ok (.lload_n 2, 1) := by decide +kernel
theorem d_X_storeValue_23 : decode b_X_storeValue 23 = .ok (.invokestatic 144, 3) := by decide +kernel
theorem d_X_storeValue_26 : decode b_X_storeValue 26 = .ok (.iload_n 1, 1) := by decide +kernel
theorem d_X_storeValue_27 : decode b_X_storeValue 27 = .ok (.iconst 1, 1) := by decide +kernel
theorem d_X_storeValue_28 : decode b_X_storeValue 28 = .ok (.iadd, 1) := by decide +kernel
theorem d_X_storeValue_29 : decode b_X_storeValue 29 = .ok (.iload 4, 2) := by decide +kernel
theorem d_X_storeValue_31 : decode b_X_storeValue 31 = .ok (.invokestatic 27, 3) := by decide +kernel
theorem d_X_storeValue_34 : decode b_X_storeValue 34 = .ok (.invokevirtual 140, 3) := by decide +kernel
theorem d_X_storeValue_37 : decode b_X_storeValue 37 = .ok (.ifCond .eq 7, 3) := by decide +kernel
theorem d_X_storeValue_40 : decode b_X_storeValue 40 = .ok (.iconst 1, 1) := by decide +kernel
theorem d_X_storeValue_41 : decode b_X_storeValue 41 = .ok (.goto 4, 3) := by decide +kernel
theorem d_X_storeValue_44 : decode b_X_storeValue 44 = .ok (.iconst 0, 1) := by decide +kernel
theorem d_X_storeValue_45 : decode b_X_storeValue 45 = .ok (.ireturn, 1) := by decide +kernel
theorem d_X_changeSeal_0 : decode b_X_changeSeal 0 = .ok (.aload_n 0, 1) := by decide +kernel
theorem d_X_changeSeal_1 : decode b_X_changeSeal 1 = .ok (.invokevirtual 132, 3) := by decide +kernel
theorem d_X_changeSeal_4 : decode b_X_changeSeal 4 = .ok (.ifCond .ne 5, 3) := by decide +kernel
theorem d_X_changeSeal_7 : decode b_X_changeSeal 7 = .ok (.iconst 0, 1) := by decide +kernel
theorem d_X_changeSeal_8 : decode b_X_changeSeal 8 = .ok (.ireturn, 1) := by decide +kernel
theorem d_X_changeSeal_9 : decode b_X_changeSeal 9 = .ok (.aload_n 0, 1) := by decide +kernel
theorem d_X_changeSeal_10 : decode b_X_changeSeal 10 = .ok (.iload_n 1, 1) := by decide +kernel
theorem d_X_changeSeal_11 : decode b_X_changeSeal 11 = .ok (.putfield 81, 3) := by decide +kernel
theorem d_X_changeSeal_14 : decode b_X_changeSeal 14 = .ok (.aload_n 0, 1) := by decide +kernel
theorem d_X_changeSeal_15 : decode b_X_changeSeal 15 = .ok (.iload_n 2, 1) := by decide +kernel
theorem d_X_changeSeal_16 : decode b_X_changeSeal 16 = .ok (.putfield 24, 3) := by decide +kernel
theorem d_X_changeSeal_19 : decode b_X_changeSeal 19 = .ok (.aload_n 0, 1) := by decide +kernel
theorem d_X_changeSeal_20 : decode b_X_changeSeal 20 = .ok (.iload_n 3, 1) := by decide +kernel
theorem d_X_changeSeal_21 : decode b_X_changeSeal 21 = .ok (.putfield 38, 3) := by decide +kernel
theorem d_X_changeSeal_24 : decode b_X_changeSeal 24 = .ok (.aload_n 0, 1) := by decide +kernel
theorem d_X_changeSeal_25 : decode b_X_changeSeal 25 = .ok (.iload 4, 2) := by decide +kernel
theorem d_X_changeSeal_27 : decode b_X_changeSeal 27 = .ok (.putfield 47, 3) := by decide +kernel
theorem d_X_changeSeal_30 : decode b_X_changeSeal 30 = .ok (.iconst 1, 1) := by decide +kernel
theorem d_X_changeSeal_31 : decode b_X_changeSeal 31 = .ok (.ireturn, 1) := by decide +kernel
theorem d_X_storeRecord_0 : decode b_X_storeRecord 0 = .ok (.aload_n 0, 1) := by decide +kernel
theorem d_X_storeRecord_1 : decode b_X_storeRecord 1 = .ok (.getfield 81, 3) := by decide +kernel
theorem d_X_storeRecord_4 : decode b_X_storeRecord 4 = .ok (.aload_n 0, 1) := by decide +kernel
theorem d_X_storeRecord_5 : decode b_X_storeRecord 5 = .ok (.getfield 44, 3) := by decide +kernel
theorem d_X_storeRecord_8 : decode b_X_storeRecord 8 = .ok (.invokestatic 123, 3) := by decide +kernel
theorem d_X_storeRecord_11 : decode b_X_storeRecord 11 = .ok (.istore 4, 2) := by decide +kernel
theorem d_X_storeRecord_13 : decode b_X_storeRecord 13 = .ok (.aload_n 0, 1) := by decide +kernel
theorem d_X_storeRecord_14 : decode b_X_storeRecord 14 = .ok (.iload 4, 2) := by decide +kernel
theorem d_X_storeRecord_16 : decode b_X_storeRecord 16 = .ok (.iload_n 1, 1) := by decide +kernel
theorem d_X_storeRecord_17 : decode b_X_storeRecord 17 = .ok (.iload 4, 2) := by decide +kernel
theorem d_X_storeRecord_19 : decode b_X_storeRecord 19 = .ok (.aload_n 0, 1) := by decide +kernel
theorem d_X_storeRecord_20 : decode b_X_storeRecord 20 = .ok (.getfield 24, 3) := by decide +kernel
theorem d_X_storeRecord_23 : decode b_X_storeRecord 23 = .ok (.invokestatic 27, 3) := by decide +kernel
theorem d_X_storeRecord_26 : decode b_X_storeRecord 26 = .ok (.invokevirtual 140, 3) := by decide +kernel
theorem d_X_storeRecord_29 : decode b_X_storeRecord 29 = .ok (.ifCond .eq 19, 3) := by decide +kernel
theorem d_X_storeRecord_32 : decode b_X_storeRecord 32 = .ok (.aload_n 0, 1) := by decide +kernel
theorem d_X_storeRecord_33 : decode b_X_storeRecord 33 = .ok (.iload 4, 2) := by decide +kernel
theorem d_X_storeRecord_35 : decode b_X_storeRecord 35 = .ok (.iconst 1, 1) := by decide +kernel
theorem d_X_storeRecord_36 : decode b_X_storeRecord 36 = .ok (.iadd, 1) := by decide +kernel
theorem d_X_storeRecord_37 : decode b_X_storeRecord 37 = .ok (.lload_n 2, 1) := by decide +kernel
theorem d_X_storeRecord_38 : decode b_X_storeRecord 38 = .ok (.aload_n 0, 1) := by decide +kernel
theorem d_X_storeRecord_39 : decode b_X_storeRecord 39 = .ok (.getfield 24, 3) := by decide +kernel
theorem d_X_storeRecord_42 : decode b_X_storeRecord 42 = .ok (.invokevirtual 147, 3) := by decide +kernel
theorem d_X_storeRecord_45 : decode b_X_storeRecord 45 = .ok (.ifCond .ne 5, 3) := by decide +kernel
theorem d_X_storeRecord_48 : decode b_X_storeRecord 48 = .ok (.iconst 0, 1) := by decide +kernel
theorem d_X_storeRecord_49 : decode b_X_storeRecord 49 = .ok (.ireturn, 1) := by decide +kernel
theorem d_X_storeRecord_50 : decode b_X_storeRecord 50 = .ok (.aload_n 0, 1) := by decide +kernel
theorem d_X_storeRecord_51 : decode b_X_storeRecord 51 = .ok (.iload 4, 2) := by decide +kernel
theorem d_X_storeRecord_53 : decode b_X_storeRecord 53 = .ok (.invokevirtual 126, 3) := by decide +kernel
theorem d_X_storeRecord_56 : decode b_X_storeRecord 56 = .ok (.istore 5, 2) := by decide +kernel
theorem d_X_storeRecord_58 : decode b_X_storeRecord 58 = .ok (.aload_n 0, 1) := by decide +kernel
theorem d_X_storeRecord_59 : decode b_X_storeRecord 59 = .ok (.iload 4, 2) := by decide +kernel
theorem d_X_storeRecord_61 : decode b_X_storeRecord 61 = .ok (.iconst 3, 1) := by decide +kernel
theorem d_X_storeRecord_62 : decode b_X_storeRecord 62 = .ok (.iadd, 1) := by decide +kernel
theorem d_X_storeRecord_63 : decode b_X_storeRecord 63 = .ok (.iload 5, 2) := by decide +kernel
theorem d_X_storeRecord_65 : decode b_X_storeRecord 65 = .ok (.invokestatic 129, 3) := by decide +kernel
theorem d_X_storeRecord_68 : decode b_X_storeRecord 68 = .ok (.invokevirtual 140, 3) := by decide +kernel
theorem d_X_storeRecord_71 : decode b_X_storeRecord 71 = .ok (.ifCond .ne 5, 3) := by decide +kernel
theorem d_X_storeRecord_74 : decode b_X_storeRecord 74 = .ok (.iconst 0, 1) := by decide +kernel
theorem d_X_storeRecord_75 : decode b_X_storeRecord 75 = .ok (.ireturn, 1) := by decide +kernel
theorem d_X_storeRecord_76 : decode b_X_storeRecord 76 = .ok (.aload_n 0, 1) := by decide +kernel
theorem d_X_storeRecord_77 : decode b_X_storeRecord 77 = .ok (.iload 5, 2) := by decide +kernel
theorem d_X_storeRecord_79 : decode b_X_storeRecord 79 = .ok (.putfield 117, 3) := by decide +kernel
theorem d_X_storeRecord_82 : decode b_X_storeRecord 82 = .ok (.iconst 1, 1) := by decide +kernel
theorem d_X_storeRecord_83 : decode b_X_storeRecord 83 = .ok (.ireturn, 1) := by decide +kernel
theorem d_X_clearMarks_0 : decode b_X_clearMarks 0 = .ok (.iconst 0, 1) := by decide +kernel
theorem d_X_clearMarks_1 : decode b_X_clearMarks 1 = .ok (.istore_n 2, 1) := by decide +kernel
theorem d_X_clearMarks_2 : decode b_X_clearMarks 2 = .ok (.iload_n 2, 1) := by decide +kernel
theorem d_X_clearMarks_3 : decode b_X_clearMarks 3 = .ok (.iconst 5, 1) := by decide +kernel
theorem d_X_clearMarks_4 : decode b_X_clearMarks 4 = .ok (.if_icmp .ge 26, 3) := by decide +kernel
theorem d_X_clearMarks_7 : decode b_X_clearMarks 7 = .ok (.aload_n 0, 1) := by decide +kernel
theorem d_X_clearMarks_8 : decode b_X_clearMarks 8 = .ok (.iload_n 1, 1) := by decide +kernel
theorem d_X_clearMarks_9 : decode b_X_clearMarks 9 = .ok (.iload_n 2, 1) := by decide +kernel
theorem d_X_clearMarks_10 : decode b_X_clearMarks 10 = .ok (.invokestatic 123, 3) := by decide +kernel
theorem d_X_clearMarks_13 : decode b_X_clearMarks 13 = .ok (.iconst 3, 1) := by decide +kernel
theorem d_X_clearMarks_14 : decode b_X_clearMarks 14 = .ok (.iadd, 1) := by decide +kernel
theorem d_X_clearMarks_15 : decode b_X_clearMarks 15 = .ok (.iconst 0, 1) := by decide +kernel
theorem d_X_clearMarks_16 : decode b_X_clearMarks 16 = .ok (.invokevirtual 140, 3) := by decide +kernel
theorem d_X_clearMarks_19 : decode b_X_clearMarks 19 = .ok (.ifCond .ne 5, 3) := by decide +kernel
theorem d_X_clearMarks_22 : decode b_X_clearMarks 22 = .ok (.iconst 0, 1) := by decide +kernel
theorem d_X_clearMarks_23 : decode b_X_clearMarks 23 = .ok (.ireturn, 1) := by decide +kernel
theorem d_X_clearMarks_24 : decode b_X_clearMarks 24 = .ok (.iinc 2 1, 3) := by decide +kernel
theorem d_X_clearMarks_27 : decode b_X_clearMarks 27 = .ok (.goto (-25), 3) := by decide +kernel
theorem d_X_clearMarks_30 : decode b_X_clearMarks 30 = .ok (.iconst 1, 1) := by decide +kernel
theorem d_X_clearMarks_31 : decode b_X_clearMarks 31 = .ok (.ireturn, 1) := by decide +kernel
theorem d_X_storeSectors_0 : decode b_X_storeSectors 0 = .ok (.iconst 0, 1) := by decide +kernel
theorem d_X_storeSectors_1 : decode b_X_storeSectors 1 = .ok (.istore_n 3, 1) := by decide +kernel
theorem d_X_storeSectors_2 : decode b_X_storeSectors 2 = .ok (.iload_n 3, 1) := by decide +kernel
theorem d_X_storeSectors_3 : decode b_X_storeSectors 3 = .ok (.bipush 8, 2) := by decide +kernel
theorem d_X_storeSectors_5 : decode b_X_storeSectors 5 = .ok (.if_icmp .ge 29, 3) := by decide +kernel
theorem d_X_storeSectors_8 : decode b_X_storeSectors 8 = .ok (.aload_n 0, 1) := by decide +kernel
theorem d_X_storeSectors_9 : decode b_X_storeSectors 9 = .ok (.iload_n 1, 1) := by decide +kernel
theorem d_X_storeSectors_10 : decode b_X_storeSectors 10 = .ok (.iload_n 3, 1) := by decide +kernel
theorem d_X_storeSectors_11 : decode b_X_storeSectors 11 = .ok (.invokestatic 103, 3) := by decide +kernel
theorem d_X_storeSectors_14 : decode b_X_storeSectors 14 = .ok (.aload_n 0, 1) := by decide +kernel
theorem d_X_storeSectors_15 : decode b_X_storeSectors 15 = .ok (.iload_n 3, 1) := by decide +kernel
theorem d_X_storeSectors_16 : decode b_X_storeSectors 16 = .ok (.invokevirtual 77, 3) := by decide +kernel
theorem d_X_storeSectors_19 : decode b_X_storeSectors 19 = .ok (.iload_n 2, 1) := by decide +kernel
theorem d_X_storeSectors_20 : decode b_X_storeSectors 20 = .ok (.invokevirtual 147, 3) := by decide +kernel
theorem d_X_storeSectors_23 : decode b_X_storeSectors 23 = .ok (.ifCond .ne 5, 3) := by decide +kernel
theorem d_X_storeSectors_26 : decode b_X_storeSectors 26 = .ok (.iconst 0, 1) := by decide +kernel
theorem d_X_storeSectors_27 : decode b_X_storeSectors 27 = .ok (.ireturn, 1) := by decide +kernel
theorem d_X_storeSectors_28 : decode b_X_storeSectors 28 = .ok (.iinc 3 1, 3) := by decide +kernel
theorem d_X_storeSectors_31 : decode b_X_storeSectors 31 = .ok (.goto (-29), 3) := by decide +kernel
theorem d_X_storeSectors_34 : decode b_X_storeSectors 34 = .ok (.iconst 1, 1) := by decide +kernel
theorem d_X_storeSectors_35 : decode b_X_storeSectors 35 = .ok (.ireturn, 1) := by decide +kernel
theorem d_X_storeNodes_0 : decode b_X_storeNodes 0 = .ok (.bipush 15, 2) := by decide +kernel
theorem d_X_storeNodes_2 : decode b_X_storeNodes 2 = .ok (.istore_n 3, 1) := by decide +kernel
theorem d_X_storeNodes_3 : decode b_X_storeNodes 3 = .ok (.iload_n 3, 1) := by decide +kernel
theorem d_X_storeNodes_4 : decode b_X_storeNodes 4 = .ok (.iconst 1, 1) := by decide +kernel
theorem d_X_storeNodes_5 : decode b_X_storeNodes 5 = .ok (.if_icmp .lt 30, 3) := by decide +kernel
theorem d_X_storeNodes_8 : decode b_X_storeNodes 8 = .ok (.aload_n 0, 1) := by decide +kernel
theorem d_X_storeNodes_9 : decode b_X_storeNodes 9 = .ok (.iload_n 1, 1) := by decide +kernel
theorem d_X_storeNodes_10 : decode b_X_storeNodes 10 = .ok (.iload_n 3, 1) := by decide +kernel
theorem d_X_storeNodes_11 : decode b_X_storeNodes 11 = .ok (.invokestatic 31, 3) := by decide +kernel
theorem d_X_storeNodes_14 : decode b_X_storeNodes 14 = .ok (.aload_n 0, 1) := by decide +kernel
theorem d_X_storeNodes_15 : decode b_X_storeNodes 15 = .ok (.iload_n 1, 1) := by decide +kernel
theorem d_X_storeNodes_16 : decode b_X_storeNodes 16 = .ok (.iload_n 3, 1) := by decide +kernel
theorem d_X_storeNodes_17 : decode b_X_storeNodes 17 = .ok (.iload_n 2, 1) := by decide +kernel
theorem d_X_storeNodes_18 : decode b_X_storeNodes 18 = .ok (.invokevirtual 35, 3) := by decide +kernel
theorem d_X_storeNodes_21 : decode b_X_storeNodes 21 = .ok (.invokevirtual 140, 3) := by decide +kernel
theorem d_X_storeNodes_24 : decode b_X_storeNodes 24 = .ok (.ifCond .ne 5, 3) := by decide +kernel
theorem d_X_storeNodes_27 : decode b_X_storeNodes 27 = .ok (.iconst 0, 1) := by decide +kernel
theorem d_X_storeNodes_28 : decode b_X_storeNodes 28 = .ok (.ireturn, 1) := by decide +kernel
theorem d_X_storeNodes_29 : decode b_X_storeNodes 29 = .ok (.iinc 3 (-1), 3) := by decide +kernel
theorem d_X_storeNodes_32 : decode b_X_storeNodes 32 = .ok (.goto (-29), 3) := by decide +kernel
theorem d_X_storeNodes_35 : decode b_X_storeNodes 35 = .ok (.iconst 1, 1) := by decide +kernel
theorem d_X_storeNodes_36 : decode b_X_storeNodes 36 = .ok (.ireturn, 1) := by decide +kernel
theorem d_X_moveToOtherHalf_0 : decode b_X_moveToOtherHalf 0 = .ok (.aload_n 0, 1) := by decide +kernel
theorem d_X_moveToOtherHalf_1 : decode b_X_moveToOtherHalf 1 = .ok (.invokevirtual 91, 3) := by decide +kernel
theorem d_X_moveToOtherHalf_4 : decode b_X_moveToOtherHalf 4 = .ok (.sipush 255, 3) := by decide +kernel
theorem d_X_moveToOtherHalf_7 : decode b_X_moveToOtherHalf 7 = .ok (.if_icmp .eq 6, 3) := by decide +kernel
theorem d_X_moveToOtherHalf_10 : decode b_X_moveToOtherHalf 10 = .ok (.bipush (-3), 2) := by decide +kernel
theorem d_X_moveToOtherHalf_12 : decode b_X_moveToOtherHalf 12 = .ok (.ireturn, 1) := by decide +kernel
theorem d_X_moveToOtherHalf_13 : decode b_X_moveToOtherHalf 13 = .ok (.iconst 1, 1) := by decide +kernel
theorem d_X_moveToOtherHalf_14 : decode b_X_moveToOtherHalf 14 = .ok (.aload_n 0, 1) := by decide +kernel
theorem d_X_moveToOtherHalf_15 : decode b_X_moveToOtherHalf 15 = .ok (.getfield 81, 3) := by decide +kernel
theorem d_X_moveToOtherHalf_18 : decode b_X_moveToOtherHalf 18 = .ok (.isub, 1) := by decide +kernel
theorem d_X_moveToOtherHalf_19 : decode b_X_moveToOtherHalf 19 = .ok (.istore_n 1, 1) := by decide +kernel
theorem d_X_moveToOtherHalf_20 : decode b_X_moveToOtherHalf 20 = .ok (.aload_n 0, 1) := by decide +kernel
theorem d_X_moveToOtherHalf_21 : decode b_X_moveToOtherHalf 21 = .ok (.getfield 24, 3) := by decide +kernel
theorem d_X_moveToOtherHalf_24 : decode b_X_moveToOtherHalf 24 = .ok (.iconst 1, 1) := by decide +kernel
theorem d_X_moveToOtherHalf_25 : decode b_X_moveToOtherHalf 25 = .ok (.iadd, 1) := by decide +kernel
theorem d_X_moveToOtherHalf_26 : decode b_X_moveToOtherHalf 26 = .ok (.istore_n 2, 1) := by decide +kernel
theorem d_X_moveToOtherHalf_27 : decode b_X_moveToOtherHalf 27 = .ok (.aload_n 0, 1) := by decide +kernel
theorem d_X_moveToOtherHalf_28 : decode b_X_moveToOtherHalf 28 = .ok (.iload_n 1, 1) := by decide +kernel
theorem d_X_moveToOtherHalf_29 : decode b_X_moveToOtherHalf 29 = .ok (.invokevirtual 151, 3) := by decide +kernel
theorem d_X_moveToOtherHalf_32 : decode b_X_moveToOtherHalf 32 = .ok (.ifCond .eq 41, 3) := by decide +kernel
theorem d_X_moveToOtherHalf_35 : decode b_X_moveToOtherHalf 35 = .ok (.aload_n 0, 1) := by decide +kernel
theorem d_X_moveToOtherHalf_36 : decode b_X_moveToOtherHalf 36 = .ok (.iload_n 1, 1) := by decide +kernel
theorem d_X_moveToOtherHalf_37 : decode b_X_moveToOtherHalf 37 = .ok (.iload_n 2, 1) := by decide +kernel
theorem d_X_moveToOtherHalf_38 : decode b_X_moveToOtherHalf 38 = .ok (.invokevirtual 154, 3) := by decide +kernel
theorem d_X_moveToOtherHalf_41 : decode b_X_moveToOtherHalf 41 = .ok (.ifCond .eq 32, 3) := by decide +kernel
theorem d_X_moveToOtherHalf_44 : decode b_X_moveToOtherHalf 44 = .ok (.aload_n 0, 1) := by decide +kernel
theorem d_X_moveToOtherHalf_45 : decode b_X_moveToOtherHalf 45 = .ok (.iload_n 1, 1) := by decide +kernel
theorem d_X_moveToOtherHalf_46 : decode b_X_moveToOtherHalf 46 = .ok (.iload_n 2, 1) := by decide +kernel
theorem d_X_moveToOtherHalf_47 : decode b_X_moveToOtherHalf 47 = .ok (.invokevirtual 157, 3) := by decide +kernel
theorem d_X_moveToOtherHalf_50 : decode b_X_moveToOtherHalf 50 = .ok (.ifCond .eq 23, 3) := by decide +kernel
theorem d_X_moveToOtherHalf_53 : decode b_X_moveToOtherHalf 53 = .ok (.aload_n 0, 1) := by decide +kernel
theorem d_X_moveToOtherHalf_54 : decode b_X_moveToOtherHalf 54 = .ok (.iload_n 1, 1) := by decide +kernel
theorem d_X_moveToOtherHalf_55 : decode b_X_moveToOtherHalf 55 = .ok (.iload_n 2, 1) := by decide +kernel
theorem d_X_moveToOtherHalf_56 : decode b_X_moveToOtherHalf 56 = .ok (.aload_n 0, 1) := by decide +kernel
theorem d_X_moveToOtherHalf_57 : decode b_X_moveToOtherHalf 57 = .ok (.getfield 9, 3) := by decide +kernel
theorem d_X_moveToOtherHalf_60 : decode b_X_moveToOtherHalf 60 = .ok (.iload_n 1, 1) := by decide +kernel
theorem d_X_moveToOtherHalf_61 : decode b_X_moveToOtherHalf 61 = .ok (.iconst 1, 1) := by decide +kernel
theorem d_X_moveToOtherHalf_62 : decode b_X_moveToOtherHalf 62 = .ok (.invokestatic 31, 3) := by decide +kernel
theorem d_X_moveToOtherHalf_65 : decode b_X_moveToOtherHalf 65 = .ok (.iaload, 1) := by decide +kernel
theorem d_X_moveToOtherHalf_66 : decode b_X_moveToOtherHalf 66 = .ok (.iconst 0, 1) := by decide +kernel
theorem d_X_moveToOtherHalf_67 : decode b_X_moveToOtherHalf 67 = .ok (.invokevirtual 84, 3) := by decide +kernel
theorem d_X_moveToOtherHalf_70 : decode b_X_moveToOtherHalf 70 = .ok (.ifCond .ne 6, 3) := by decide +kernel
theorem d_X_moveToOtherHalf_73 : decode b_X_moveToOtherHalf 73 = .ok (.bipush (-4), 2) := by decide +kernel
theorem d_X_moveToOtherHalf_75 : decode b_X_moveToOtherHalf 75 = .ok (.ireturn, 1) := by decide +kernel
theorem d_X_moveToOtherHalf_76 : decode b_X_moveToOtherHalf 76 = .ok (.aload_n 0, 1) := by decide +kernel
theorem d_X_moveToOtherHalf_77 : decode b_X_moveToOtherHalf 77 = .ok (.invokevirtual 120, 3) := by decide +kernel
theorem d_X_moveToOtherHalf_80 : decode b_X_moveToOtherHalf 80 = .ok (.iload_n 2, 1) := by decide +kernel
theorem d_X_moveToOtherHalf_81 : decode b_X_moveToOtherHalf 81 = .ok (.ireturn, 1) := by decide +kernel
