theorem dX0_init_0 : decode cX0_init 0 = .ok (.aload_n 0, 1) := by decide +kernel
theorem dX0_init_1 : decode cX0_init 1 = .ok (.invokespecial 3, 3) := by decide +kernel
theorem dX0_init_4 : decode cX0_init 4 = .ok (.aload_n 0, 1) := by decide +kernel
theorem dX0_init_5 : decode cX0_init 5 = .ok (.new 9, 3) := by decide +kernel
theorem dX0_init_8 : decode cX0_init 8 = .ok (.dup, 1) := by decide +kernel
theorem dX0_init_9 : decode cX0_init 9 = .ok (.invokespecial 11, 3) := by decide +kernel
theorem dX0_init_12 : decode cX0_init 12 = .ok (.putfield 12, 3) := by decide +kernel
theorem dX0_init_15 : decode cX0_init 15 = .ok (.return_, 1) := by decide +kernel
theorem dX0_play_0 : decode cX0_play 0 = .ok (.aload_n 0, 1) := by decide +kernel
theorem dX0_play_1 : decode cX0_play 1 = .ok (.getfield 12, 3) := by decide +kernel
theorem dX0_play_4 : decode cX0_play 4 = .ok (.aload_n 2, 1) := by decide +kernel
theorem dX0_play_5 : decode cX0_play 5 = .ok (.invokevirtual 18, 3) := by decide +kernel
theorem dX0_play_8 : decode cX0_play 8 = .ok (.aload_n 0, 1) := by decide +kernel
theorem dX0_play_9 : decode cX0_play 9 = .ok (.iload_n 3, 1) := by decide +kernel
theorem dX0_play_10 : decode cX0_play 10 = .ok (.putfield 22, 3) := by decide +kernel
theorem dX0_play_13 : decode cX0_play 13 = .ok (.aload_n 0, 1) := by decide +kernel
theorem dX0_play_14 : decode cX0_play 14 = .ok (.iconst 0, 1) := by decide +kernel
theorem dX0_play_15 : decode cX0_play 15 = .ok (.putfield 26, 3) := by decide +kernel
theorem dX0_play_18 : decode cX0_play 18 = .ok (.aload_n 0, 1) := by decide +kernel
theorem dX0_play_19 : decode cX0_play 19 = .ok (.iconst 0, 1) := by decide +kernel
theorem dX0_play_20 : decode cX0_play 20 = .ok (.putfield 29, 3) := by decide +kernel
theorem dX0_play_23 : decode cX0_play 23 = .ok (.aload_n 0, 1) := by decide +kernel
theorem dX0_play_24 : decode cX0_play 24 = .ok (.iconst 0, 1) := by decide +kernel
theorem dX0_play_25 : decode cX0_play 25 = .ok (.putfield 32, 3) := by decide +kernel
theorem dX0_play_28 : decode cX0_play 28 = .ok (.aload_n 1, 1) := by decide +kernel
theorem dX0_play_29 : decode cX0_play 29 = .ok (.getfield 35, 3) := by decide +kernel
theorem dX0_play_32 : decode cX0_play 32 = .ok (.ifCond .le 57, 3) := by decide +kernel
theorem dX0_play_35 : decode cX0_play 35 = .ok (.aload_n 1, 1) := by decide +kernel
theorem dX0_play_36 : decode cX0_play 36 = .ok (.getfield 40, 3) := by decide +kernel
theorem dX0_play_39 : decode cX0_play 39 = .ok (.ifCond .le 50, 3) := by decide +kernel
theorem dX0_play_42 : decode cX0_play 42 = .ok (.aload_n 1, 1) := by decide +kernel
theorem dX0_play_43 : decode cX0_play 43 = .ok (.getfield 43, 3) := by decide +kernel
theorem dX0_play_46 : decode cX0_play 46 = .ok (.ifCond .le 43, 3) := by decide +kernel
theorem dX0_play_49 : decode cX0_play 49 = .ok (.iconst 1, 1) := by decide +kernel
theorem dX0_play_50 : decode cX0_play 50 = .ok (.istore 7, 2) := by decide +kernel
theorem dX0_play_52 : decode cX0_play 52 = .ok (.iload 7, 2) := by decide +kernel
theorem dX0_play_54 : decode cX0_play 54 = .ok (.iload 4, 2) := by decide +kernel
theorem dX0_play_56 : decode cX0_play 56 = .ok (.if_icmp .gt 33, 3) := by decide +kernel
theorem dX0_play_59 : decode cX0_play 59 = .ok (.aload_n 0, 1) := by decide +kernel
theorem dX0_play_60 : decode cX0_play 60 = .ok (.aload_n 1, 1) := by decide +kernel
theorem dX0_play_61 : decode cX0_play 61 = .ok (.iload 5, 2) := by decide +kernel
theorem dX0_play_63 : decode cX0_play 63 = .ok (.iload 6, 2) := by decide +kernel
theorem dX0_play_65 : decode cX0_play 65 = .ok (.invokevirtual 46, 3) := by decide +kernel
theorem dX0_play_68 : decode cX0_play 68 = .ok (.iload 7, 2) := by decide +kernel
theorem dX0_play_70 : decode cX0_play 70 = .ok (.iconst 4, 1) := by decide +kernel
theorem dX0_play_71 : decode cX0_play 71 = .ok (.irem, 1) := by decide +kernel
theorem dX0_play_72 : decode cX0_play 72 = .ok (.ifCond .ne 11, 3) := by decide +kernel
theorem dX0_play_75 : decode cX0_play 75 = .ok (.aload_n 0, 1) := by decide +kernel
theorem dX0_play_76 : decode cX0_play 76 = .ok (.getfield 12, 3) := by decide +kernel
theorem dX0_play_79 : decode cX0_play 79 = .ok (.aload_n 1, 1) := by decide +kernel
theorem dX0_play_80 : decode cX0_play 80 = .ok (.invokevirtual 50, 3) := by decide +kernel
theorem dX0_play_83 : decode cX0_play 83 = .ok (.iinc 7 1, 3) := by decide +kernel
theorem dX0_play_86 : decode cX0_play 86 = .ok (.goto (-34), 3) := by decide +kernel
theorem dX0_play_89 : decode cX0_play 89 = .ok (.aload_n 0, 1) := by decide +kernel
theorem dX0_play_90 : decode cX0_play 90 = .ok (.aload_n 0, 1) := by decide +kernel
theorem dX0_play_91 : decode cX0_play 91 = .ok (.getfield 12, 3) := by decide +kernel
theorem dX0_play_94 : decode cX0_play 94 = .ok (.aload_n 1, 1) := by decide +kernel
theorem dX0_play_95 : decode cX0_play 95 = .ok (.invokevirtual 54, 3) := by decide +kernel
theorem dX0_play_98 : decode cX0_play 98 = .ok (.putfield 58, 3) := by decide +kernel
theorem dX0_play_101 : decode cX0_play 101 = .ok (.return_, 1) := by decide +kernel
theorem dX0_playDawn_0 : decode cX0_playDawn 0 = .ok (.aload_n 0, 1) := by decide +kernel
theorem dX0_playDawn_1 : decode cX0_playDawn 1 = .ok (.aload_n 1, 1) := by decide +kernel
theorem dX0_playDawn_2 : decode cX0_playDawn 2 = .ok (.getfield 35, 3) := by decide +kernel
theorem dX0_playDawn_5 : decode cX0_playDawn 5 = .ok (.invokevirtual 61, 3) := by decide +kernel
theorem dX0_playDawn_8 : decode cX0_playDawn 8 = .ok (.istore 4, 2) := by decide +kernel
theorem dX0_playDawn_10 : decode cX0_playDawn 10 = .ok (.aload_n 0, 1) := by decide +kernel
theorem dX0_playDawn_11 : decode cX0_playDawn 11 = .ok (.aload_n 1, 1) := by decide +kernel
theorem dX0_playDawn_12 : decode cX0_playDawn 12 = .ok (.getfield 40, 3) := by decide +kernel
theorem dX0_playDawn_15 : decode cX0_playDawn 15 = .ok (.invokevirtual 61, 3) := by decide +kernel
theorem dX0_playDawn_18 : decode cX0_playDawn 18 = .ok (.istore 5, 2) := by decide +kernel
theorem dX0_playDawn_20 : decode cX0_playDawn 20 = .ok (.aload_n 0, 1) := by decide +kernel
theorem dX0_playDawn_21 : decode cX0_playDawn 21 = .ok (.aload_n 1, 1) := by decide +kernel
theorem dX0_playDawn_22 : decode cX0_playDawn 22 = .ok (.getfield 43, 3) := by decide +kernel
theorem dX0_playDawn_25 : decode cX0_playDawn 25 = .ok (.invokevirtual 61, 3) := by decide +kernel
theorem dX0_playDawn_28 : decode cX0_playDawn 28 = .ok (.istore 6, 2) := by decide +kernel
theorem dX0_playDawn_30 : decode cX0_playDawn 30 = .ok (.aload_n 0, 1) := by decide +kernel
theorem dX0_playDawn_31 : decode cX0_playDawn 31 = .ok (.getfield 12, 3) := by decide +kernel
theorem dX0_playDawn_34 : decode cX0_playDawn 34 = .ok (.aload_n 1, 1) := by decide +kernel
theorem dX0_playDawn_35 : decode cX0_playDawn 35 = .ok (.iload 4, 2) := by decide +kernel
theorem dX0_playDawn_37 : decode cX0_playDawn 37 = .ok (.iload 5, 2) := by decide +kernel
theorem dX0_playDawn_39 : decode cX0_playDawn 39 = .ok (.iload 6, 2) := by decide +kernel
theorem dX0_playDawn_41 : decode cX0_playDawn 41 = .ok (.invokevirtual 65, 3) := by decide +kernel
theorem dX0_playDawn_44 : decode cX0_playDawn 44 = .ok (.ifCond .eq 13, 3) := by decide +kernel
theorem dX0_playDawn_47 : decode cX0_playDawn 47 = .ok (.aload_n 0, 1) := by decide +kernel
theorem dX0_playDawn_48 : decode cX0_playDawn 48 = .ok (.dup, 1) := by decide +kernel
theorem dX0_playDawn_49 : decode cX0_playDawn 49 = .ok (.getfield 26, 3) := by decide +kernel
theorem dX0_playDawn_52 : decode cX0_playDawn 52 = .ok (.iconst 1, 1) := by decide +kernel
theorem dX0_playDawn_53 : decode cX0_playDawn 53 = .ok (.iadd, 1) := by decide +kernel
theorem dX0_playDawn_54 : decode cX0_playDawn 54 = .ok (.putfield 26, 3) := by decide +kernel
theorem dX0_playDawn_57 : decode cX0_playDawn 57 = .ok (.aload_n 0, 1) := by decide +kernel
theorem dX0_playDawn_58 : decode cX0_playDawn 58 = .ok (.bipush 16, 2) := by decide +kernel
theorem dX0_playDawn_60 : decode cX0_playDawn 60 = .ok (.invokevirtual 61, 3) := by decide +kernel
theorem dX0_playDawn_63 : decode cX0_playDawn 63 = .ok (.iload_n 2, 1) := by decide +kernel
theorem dX0_playDawn_64 : decode cX0_playDawn 64 = .ok (.if_icmp .ge 26, 3) := by decide +kernel
theorem dX0_playDawn_67 : decode cX0_playDawn 67 = .ok (.aload_n 0, 1) := by decide +kernel
theorem dX0_playDawn_68 : decode cX0_playDawn 68 = .ok (.getfield 12, 3) := by decide +kernel
theorem dX0_playDawn_71 : decode cX0_playDawn 71 = .ok (.aload_n 1, 1) := by decide +kernel
theorem dX0_playDawn_72 : decode cX0_playDawn 72 = .ok (.iload 5, 2) := by decide +kernel
theorem dX0_playDawn_74 : decode cX0_playDawn 74 = .ok (.invokevirtual 69, 3) := by decide +kernel
theorem dX0_playDawn_77 : decode cX0_playDawn 77 = .ok (.ifCond .eq 13, 3) := by decide +kernel
theorem dX0_playDawn_80 : decode cX0_playDawn 80 = .ok (.aload_n 0, 1) := by decide +kernel
theorem dX0_playDawn_81 : decode cX0_playDawn 81 = .ok (.dup, 1) := by decide +kernel
theorem dX0_playDawn_82 : decode cX0_playDawn 82 = .ok (.getfield 29, 3) := by decide +kernel
theorem dX0_playDawn_85 : decode cX0_playDawn 85 = .ok (.iconst 1, 1) := by decide +kernel
theorem dX0_playDawn_86 : decode cX0_playDawn 86 = .ok (.iadd, 1) := by decide +kernel
theorem dX0_playDawn_87 : decode cX0_playDawn 87 = .ok (.putfield 29, 3) := by decide +kernel
theorem dX0_playDawn_90 : decode cX0_playDawn 90 = .ok (.aload_n 0, 1) := by decide +kernel
theorem dX0_playDawn_91 : decode cX0_playDawn 91 = .ok (.bipush 16, 2) := by decide +kernel
theorem dX0_playDawn_93 : decode cX0_playDawn 93 = .ok (.invokevirtual 61, 3) := by decide +kernel
theorem dX0_playDawn_96 : decode cX0_playDawn 96 = .ok (.iload_n 3, 1) := by decide +kernel
theorem dX0_playDawn_97 : decode cX0_playDawn 97 = .ok (.if_icmp .ge 24, 3) := by decide +kernel
theorem dX0_playDawn_100 : decode cX0_playDawn 100 = .ok (.aload_n 0, 1) := by decide +kernel
theorem dX0_playDawn_101 : decode cX0_playDawn 101 = .ok (.getfield 12, 3) := by decide +kernel
theorem dX0_playDawn_104 : decode cX0_playDawn 104 = .ok (.iconst 1, 1) := by decide +kernel
theorem dX0_playDawn_105 : decode cX0_playDawn 105 = .ok (.invokevirtual 73, 3) := by decide +kernel
theorem dX0_playDawn_108 : decode cX0_playDawn 108 = .ok (.ifCond .eq 13, 3) := by decide +kernel
theorem dX0_playDawn_111 : decode cX0_playDawn 111 = .ok (.aload_n 0, 1) := by decide +kernel
theorem dX0_playDawn_112 : decode cX0_playDawn 112 = .ok (.dup, 1) := by decide +kernel
theorem dX0_playDawn_113 : decode cX0_playDawn 113 = .ok (.getfield 32, 3) := by decide +kernel
theorem dX0_playDawn_116 : decode cX0_playDawn 116 = .ok (.iconst 1, 1) := by decide +kernel
theorem dX0_playDawn_117 : decode cX0_playDawn 117 = .ok (.iadd, 1) := by decide +kernel
theorem dX0_playDawn_118 : decode cX0_playDawn 118 = .ok (.putfield 32, 3) := by decide +kernel
theorem dX0_playDawn_121 : decode cX0_playDawn 121 = .ok (.return_, 1) := by decide +kernel
theorem dX0_draw_0 : decode cX0_draw 0 = .ok (.aload_n 0, 1) := by decide +kernel
theorem dX0_draw_1 : decode cX0_draw 1 = .ok (.aload_n 0, 1) := by decide +kernel
theorem dX0_draw_2 : decode cX0_draw 2 = .ok (.getfield 22, 3) := by decide +kernel
theorem dX0_draw_5 : decode cX0_draw 5 = .ok (.ldc 77, 2) := by decide +kernel
theorem dX0_draw_7 : decode cX0_draw 7 = .ok (.imul, 1) := by decide +kernel
theorem dX0_draw_8 : decode cX0_draw 8 = .ok (.sipush 12345, 3) := by decide +kernel
theorem dX0_draw_11 : decode cX0_draw 11 = .ok (.iadd, 1) := by decide +kernel
theorem dX0_draw_12 : decode cX0_draw 12 = .ok (.putfield 22, 3) := by decide +kernel
theorem dX0_draw_15 : decode cX0_draw 15 = .ok (.aload_n 0, 1) := by decide +kernel
theorem dX0_draw_16 : decode cX0_draw 16 = .ok (.getfield 22, 3) := by decide +kernel
theorem dX0_draw_19 : decode cX0_draw 19 = .ok (.bipush 16, 2) := by decide +kernel
theorem dX0_draw_21 : decode cX0_draw 21 = .ok (.iushr, 1) := by decide +kernel
theorem dX0_draw_22 : decode cX0_draw 22 = .ok (.sipush 32767, 3) := by decide +kernel
theorem dX0_draw_25 : decode cX0_draw 25 = .ok (.iand, 1) := by decide +kernel
theorem dX0_draw_26 : decode cX0_draw 26 = .ok (.istore_n 2, 1) := by decide +kernel
theorem dX0_draw_27 : decode cX0_draw 27 = .ok (.iload_n 1, 1) := by decide +kernel
theorem dX0_draw_28 : decode cX0_draw 28 = .ok (.ifCond .le 9, 3) := by decide +kernel
theorem dX0_draw_31 : decode cX0_draw 31 = .ok (.iload_n 2, 1) := by decide +kernel
theorem dX0_draw_32 : decode cX0_draw 32 = .ok (.iload_n 1, 1) := by decide +kernel
theorem dX0_draw_33 : decode cX0_draw 33 = .ok (.irem, 1) := by decide +kernel
theorem dX0_draw_34 : decode cX0_draw 34 = .ok (.goto 4, 3) := by decide +kernel
theorem dX0_draw_37 : decode cX0_draw 37 = .ok (.iconst 0, 1) := by decide +kernel
theorem dX0_draw_38 : decode cX0_draw 38 = .ok (.ireturn, 1) := by decide +kernel
theorem dX1_init_0 : decode cX1_init 0 = .ok (.aload_n 0, 1) := by decide +kernel
theorem dX1_init_1 : decode cX1_init 1 = .ok (.invokespecial 3, 3) := by decide +kernel
theorem dX1_init_4 : decode cX1_init 4 = .ok (.return_, 1) := by decide +kernel
theorem dX1_clear_0 : decode cX1_clear 0 = .ok (.aload_n 0, 1) := by decide +kernel
theorem dX1_clear_1 : decode cX1_clear 1 = .ok (.iconst 0, 1) := by decide +kernel
theorem dX1_clear_2 : decode cX1_clear 2 = .ok (.putfield 9, 3) := by decide +kernel
theorem dX1_clear_5 : decode cX1_clear 5 = .ok (.aload_n 0, 1) := by decide +kernel
theorem dX1_clear_6 : decode cX1_clear 6 = .ok (.iconst 0, 1) := by decide +kernel
theorem dX1_clear_7 : decode cX1_clear 7 = .ok (.putfield 15, 3) := by decide +kernel
theorem dX1_clear_10 : decode cX1_clear 10 = .ok (.return_, 1) := by decide +kernel
theorem dX1_lines_0 : decode cX1_lines 0 = .ok (.aload_n 0, 1) := by decide +kernel
theorem dX1_lines_1 : decode cX1_lines 1 = .ok (.getfield 9, 3) := by decide +kernel
theorem dX1_lines_4 : decode cX1_lines 4 = .ok (.aload_n 0, 1) := by decide +kernel
theorem dX1_lines_5 : decode cX1_lines 5 = .ok (.getfield 15, 3) := by decide +kernel
theorem dX1_lines_8 : decode cX1_lines 8 = .ok (.ior, 1) := by decide +kernel
theorem dX1_lines_9 : decode cX1_lines 9 = .ok (.invokestatic 18, 3) := by decide +kernel
theorem dX1_lines_12 : decode cX1_lines 12 = .ok (.ireturn, 1) := by decide +kernel
theorem dX1_read_0 : decode cX1_read 0 = .ok (.aload_n 0, 1) := by decide +kernel
theorem dX1_read_1 : decode cX1_read 1 = .ok (.invokevirtual 24, 3) := by decide +kernel
theorem dX1_read_4 : decode cX1_read 4 = .ok (.iconst 0, 1) := by decide +kernel
theorem dX1_read_5 : decode cX1_read 5 = .ok (.istore_n 2, 1) := by decide +kernel
theorem dX1_read_6 : decode cX1_read 6 = .ok (.iload_n 2, 1) := by decide +kernel
theorem dX1_read_7 : decode cX1_read 7 = .ok (.bipush 10, 2) := by decide +kernel
theorem dX1_read_9 : decode cX1_read 9 = .ok (.if_icmp .gt 66, 3) := by decide +kernel
theorem dX1_read_12 : decode cX1_read 12 = .ok (.aload_n 1, 1) := by decide +kernel
theorem dX1_read_13 : decode cX1_read 13 = .ok (.invokevirtual 27, 3) := by decide +kernel
theorem dX1_read_16 : decode cX1_read 16 = .ok (.ifCond .eq 59, 3) := by decide +kernel
theorem dX1_read_19 : decode cX1_read 19 = .ok (.aload_n 1, 1) := by decide +kernel
theorem dX1_read_20 : decode cX1_read 20 = .ok (.invokevirtual 33, 3) := by decide +kernel
theorem dX1_read_23 : decode cX1_read 23 = .ok (.istore_n 3, 1) := by decide +kernel
theorem dX1_read_24 : decode cX1_read 24 = .ok (.aload_n 1, 1) := by decide +kernel
theorem dX1_read_25 : decode cX1_read 25 = .ok (.iconst 0, 1) := by decide +kernel
theorem dX1_read_26 : decode cX1_read 26 = .ok (.bipush 9, 2) := by decide +kernel
theorem dX1_read_28 : decode cX1_read 28 = .ok (.invokevirtual 37, 3) := by decide +kernel
theorem dX1_read_31 : decode cX1_read 31 = .ok (.istore 4, 2) := by decide +kernel
theorem dX1_read_33 : decode cX1_read 33 = .ok (.aload_n 0, 1) := by decide +kernel
theorem dX1_read_34 : decode cX1_read 34 = .ok (.getfield 9, 3) := by decide +kernel
theorem dX1_read_37 : decode cX1_read 37 = .ok (.aload_n 0, 1) := by decide +kernel
theorem dX1_read_38 : decode cX1_read 38 = .ok (.getfield 15, 3) := by decide +kernel
theorem dX1_read_41 : decode cX1_read 41 = .ok (.ior, 1) := by decide +kernel
theorem dX1_read_42 : decode cX1_read 42 = .ok (.iload 4, 2) := by decide +kernel
theorem dX1_read_44 : decode cX1_read 44 = .ok (.invokestatic 41, 3) := by decide +kernel
theorem dX1_read_47 : decode cX1_read 47 = .ok (.ifCond .eq 9, 3) := by decide +kernel
theorem dX1_read_50 : decode cX1_read 50 = .ok (.aload_n 1, 1) := by decide +kernel
theorem dX1_read_51 : decode cX1_read 51 = .ok (.iconst 2, 1) := by decide +kernel
theorem dX1_read_52 : decode cX1_read 52 = .ok (.iload_n 3, 1) := by decide +kernel
theorem dX1_read_53 : decode cX1_read 53 = .ok (.invokevirtual 45, 3) := by decide +kernel
theorem dX1_read_56 : decode cX1_read 56 = .ok (.aload_n 0, 1) := by decide +kernel
theorem dX1_read_57 : decode cX1_read 57 = .ok (.aload_n 1, 1) := by decide +kernel
theorem dX1_read_58 : decode cX1_read 58 = .ok (.iload 4, 2) := by decide +kernel
theorem dX1_read_60 : decode cX1_read 60 = .ok (.invokevirtual 49, 3) := by decide +kernel
theorem dX1_read_63 : decode cX1_read 63 = .ok (.aload_n 1, 1) := by decide +kernel
theorem dX1_read_64 : decode cX1_read 64 = .ok (.bipush 59, 2) := by decide +kernel
theorem dX1_read_66 : decode cX1_read 66 = .ok (.invokevirtual 53, 3) := by decide +kernel
theorem dX1_read_69 : decode cX1_read 69 = .ok (.iinc 2 1, 3) := by decide +kernel
theorem dX1_read_72 : decode cX1_read 72 = .ok (.goto (-66), 3) := by decide +kernel
theorem dX1_read_75 : decode cX1_read 75 = .ok (.return_, 1) := by decide +kernel
theorem dX1_add_0 : decode cX1_add 0 = .ok (.aload_n 1, 1) := by decide +kernel
theorem dX1_add_1 : decode cX1_add 1 = .ok (.iconst 0, 1) := by decide +kernel
theorem dX1_add_2 : decode cX1_add 2 = .ok (.iconst 1, 1) := by decide +kernel
theorem dX1_add_3 : decode cX1_add 3 = .ok (.invokevirtual 37, 3) := by decide +kernel
theorem dX1_add_6 : decode cX1_add 6 = .ok (.istore_n 3, 1) := by decide +kernel
theorem dX1_add_7 : decode cX1_add 7 = .ok (.aload_n 1, 1) := by decide +kernel
theorem dX1_add_8 : decode cX1_add 8 = .ok (.invokevirtual 57, 3) := by decide +kernel
theorem dX1_add_11 : decode cX1_add 11 = .ok (.ifCond .eq 23, 3) := by decide +kernel
theorem dX1_add_14 : decode cX1_add 14 = .ok (.iload_n 3, 1) := by decide +kernel
theorem dX1_add_15 : decode cX1_add 15 = .ok (.iconst 1, 1) := by decide +kernel
theorem dX1_add_16 : decode cX1_add 16 = .ok (.if_icmp .ne 18, 3) := by decide +kernel
theorem dX1_add_19 : decode cX1_add 19 = .ok (.aload_n 0, 1) := by decide +kernel
theorem dX1_add_20 : decode cX1_add 20 = .ok (.dup, 1) := by decide +kernel
theorem dX1_add_21 : decode cX1_add 21 = .ok (.getfield 9, 3) := by decide +kernel
theorem dX1_add_24 : decode cX1_add 24 = .ok (.iconst 1, 1) := by decide +kernel
theorem dX1_add_25 : decode cX1_add 25 = .ok (.iload_n 2, 1) := by decide +kernel
theorem dX1_add_26 : decode cX1_add 26 = .ok (.ishl, 1) := by decide +kernel
theorem dX1_add_27 : decode cX1_add 27 = .ok (.ior, 1) := by decide +kernel
theorem dX1_add_28 : decode cX1_add 28 = .ok (.putfield 9, 3) := by decide +kernel
theorem dX1_add_31 : decode cX1_add 31 = .ok (.goto 22, 3) := by decide +kernel
theorem dX1_add_34 : decode cX1_add 34 = .ok (.aload_n 1, 1) := by decide +kernel
theorem dX1_add_35 : decode cX1_add 35 = .ok (.invokevirtual 57, 3) := by decide +kernel
theorem dX1_add_38 : decode cX1_add 38 = .ok (.ifCond .eq 15, 3) := by decide +kernel
theorem dX1_add_41 : decode cX1_add 41 = .ok (.aload_n 0, 1) := by decide +kernel
theorem dX1_add_42 : decode cX1_add 42 = .ok (.dup, 1) := by decide +kernel
theorem dX1_add_43 : decode cX1_add 43 = .ok (.getfield 15, 3) := by decide +kernel
theorem dX1_add_46 : decode cX1_add 46 = .ok (.iconst 1, 1) := by decide +kernel
theorem dX1_add_47 : decode cX1_add 47 = .ok (.iload_n 2, 1) := by decide +kernel
theorem dX1_add_48 : decode cX1_add 48 = .ok (.ishl, 1) := by decide +kernel
theorem dX1_add_49 : decode cX1_add 49 = .ok (.ior, 1) := by decide +kernel
theorem dX1_add_50 : decode cX1_add 50 = .ok (.putfield 15, 3) := by decide +kernel
theorem dX1_add_53 : decode cX1_add 53 = .ok (.return_, 1) := by decide +kernel
theorem dX2_init_0 : decode cX2_init 0 = .ok (.aload_n 0, 1) := by decide +kernel
theorem dX2_init_1 : decode cX2_init 1 = .ok (.invokespecial 3, 3) := by decide +kernel
theorem dX2_init_4 : decode cX2_init 4 = .ok (.aload_n 0, 1) := by decide +kernel
theorem dX2_init_5 : decode cX2_init 5 = .ok (.iconst 4, 1) := by decide +kernel
theorem dX2_init_6 : decode cX2_init 6 = .ok (.newarray .int, 2) := by decide +kernel
theorem dX2_init_8 : decode cX2_init 8 = .ok (.putfield 9, 3) := by decide +kernel
theorem dX2_init_11 : decode cX2_init 11 = .ok (.aload_n 0, 1) := by decide +kernel
theorem dX2_init_12 : decode cX2_init 12 = .ok (.bipush 8, 2) := by decide +kernel
theorem dX2_init_14 : decode cX2_init 14 = .ok (.newarray .int, 2) := by decide +kernel
theorem dX2_init_16 : decode cX2_init 16 = .ok (.putfield 15, 3) := by decide +kernel
theorem dX2_init_19 : decode cX2_init 19 = .ok (.aload_n 0, 1) := by decide +kernel
theorem dX2_init_20 : decode cX2_init 20 = .ok (.bipush 8, 2) := by decide +kernel
theorem dX2_init_22 : decode cX2_init 22 = .ok (.newarray .int, 2) := by decide +kernel
theorem dX2_init_24 : decode cX2_init 24 = .ok (.putfield 18, 3) := by decide +kernel
theorem dX2_init_27 : decode cX2_init 27 = .ok (.aload_n 0, 1) := by decide +kernel
theorem dX2_init_28 : decode cX2_init 28 = .ok (.aconst_null, 1) := by decide +kernel
theorem dX2_init_29 : decode cX2_init 29 = .ok (.putfield 21, 3) := by decide +kernel
theorem dX2_init_32 : decode cX2_init 32 = .ok (.return_, 1) := by decide +kernel
theorem dX2_search_0 : decode cX2_search 0 = .ok (.aload_n 0, 1) := by decide +kernel
theorem dX2_search_1 : decode cX2_search 1 = .ok (.aload_n 1, 1) := by decide +kernel
theorem dX2_search_2 : decode cX2_search 2 = .ok (.putfield 21, 3) := by decide +kernel
theorem dX2_search_5 : decode cX2_search 5 = .ok (.aload_n 0, 1) := by decide +kernel
theorem dX2_search_6 : decode cX2_search 6 = .ok (.iconst 0, 1) := by decide +kernel
theorem dX2_search_7 : decode cX2_search 7 = .ok (.putfield 25, 3) := by decide +kernel
theorem dX2_search_10 : decode cX2_search 10 = .ok (.aload_n 0, 1) := by decide +kernel
theorem dX2_search_11 : decode cX2_search 11 = .ok (.iconst (-1), 1) := by decide +kernel
theorem dX2_search_12 : decode cX2_search 12 = .ok (.putfield 29, 3) := by decide +kernel
theorem dX2_search_15 : decode cX2_search 15 = .ok (.iconst 0, 1) := by decide +kernel
theorem dX2_search_16 : decode cX2_search 16 = .ok (.istore_n 3, 1) := by decide +kernel
theorem dX2_search_17 : decode cX2_search 17 = .ok (.iconst 0, 1) := by decide +kernel
theorem dX2_search_18 : decode cX2_search 18 = .ok (.istore 4, 2) := by decide +kernel
theorem dX2_search_20 : decode cX2_search 20 = .ok (.iload 4, 2) := by decide +kernel
theorem dX2_search_22 : decode cX2_search 22 = .ok (.aload_n 1, 1) := by decide +kernel
theorem dX2_search_23 : decode cX2_search 23 = .ok (.getfield 32, 3) := by decide +kernel
theorem dX2_search_26 : decode cX2_search 26 = .ok (.if_icmp .ge 35, 3) := by decide +kernel
theorem dX2_search_29 : decode cX2_search 29 = .ok (.aload_n 0, 1) := by decide +kernel
theorem dX2_search_30 : decode cX2_search 30 = .ok (.getfield 9, 3) := by decide +kernel
theorem dX2_search_33 : decode cX2_search 33 = .ok (.iload 4, 2) := by decide +kernel
theorem dX2_search_35 : decode cX2_search 35 = .ok (.aload_n 1, 1) := by decide +kernel
theorem dX2_search_36 : decode cX2_search 36 = .ok (.getfield 37, 3) := by decide +kernel
theorem dX2_search_39 : decode cX2_search 39 = .ok (.iload 4, 2) := by decide +kernel
theorem dX2_search_41 : decode cX2_search 41 = .ok (.iaload, 1) := by decide +kernel
theorem dX2_search_42 : decode cX2_search 42 = .ok (.iastore, 1) := by decide +kernel
theorem dX2_search_43 : decode cX2_search 43 = .ok (.iload_n 3, 1) := by decide +kernel
theorem dX2_search_44 : decode cX2_search 44 = .ok (.aload_n 0, 1) := by decide +kernel
theorem dX2_search_45 : decode cX2_search 45 = .ok (.getfield 9, 3) := by decide +kernel
theorem dX2_search_48 : decode cX2_search 48 = .ok (.iload 4, 2) := by decide +kernel
theorem dX2_search_50 : decode cX2_search 50 = .ok (.iaload, 1) := by decide +kernel
theorem dX2_search_51 : decode cX2_search 51 = .ok (.invokestatic 40, 3) := by decide +kernel
theorem dX2_search_54 : decode cX2_search 54 = .ok (.istore_n 3, 1) := by decide +kernel
theorem dX2_search_55 : decode cX2_search 55 = .ok (.iinc 4 1, 3) := by decide +kernel
theorem dX2_search_58 : decode cX2_search 58 = .ok (.goto (-38), 3) := by decide +kernel
theorem dX2_search_61 : decode cX2_search 61 = .ok (.iconst 0, 1) := by decide +kernel
theorem dX2_search_62 : decode cX2_search 62 = .ok (.istore 4, 2) := by decide +kernel
theorem dX2_search_64 : decode cX2_search 64 = .ok (.iconst 0, 1) := by decide +kernel
theorem dX2_search_65 : decode cX2_search 65 = .ok (.istore 5, 2) := by decide +kernel
theorem dX2_search_67 : decode cX2_search 67 = .ok (.iload 5, 2) := by decide +kernel
theorem dX2_search_69 : decode cX2_search 69 = .ok (.aload_n 1, 1) := by decide +kernel
theorem dX2_search_70 : decode cX2_search 70 = .ok (.getfield 46, 3) := by decide +kernel
theorem dX2_search_73 : decode cX2_search 73 = .ok (.if_icmp .ge 54, 3) := by decide +kernel
theorem dX2_search_76 : decode cX2_search 76 = .ok (.iload_n 2, 1) := by decide +kernel
theorem dX2_search_77 : decode cX2_search 77 = .ok (.iload 5, 2) := by decide +kernel
theorem dX2_search_79 : decode cX2_search 79 = .ok (.invokestatic 47, 3) := by decide +kernel
theorem dX2_search_82 : decode cX2_search 82 = .ok (.ifCond .eq 39, 3) := by decide +kernel
theorem dX2_search_85 : decode cX2_search 85 = .ok (.aload_n 1, 1) := by decide +kernel
theorem dX2_search_86 : decode cX2_search 86 = .ok (.getfield 51, 3) := by decide +kernel
theorem dX2_search_89 : decode cX2_search 89 = .ok (.iload 5, 2) := by decide +kernel
theorem dX2_search_91 : decode cX2_search 91 = .ok (.iaload, 1) := by decide +kernel
theorem dX2_search_92 : decode cX2_search 92 = .ok (.iload_n 3, 1) := by decide +kernel
theorem dX2_search_93 : decode cX2_search 93 = .ok (.if_icmp .gt 28, 3) := by decide +kernel
theorem dX2_search_96 : decode cX2_search 96 = .ok (.aload_n 0, 1) := by decide +kernel
theorem dX2_search_97 : decode cX2_search 97 = .ok (.dup, 1) := by decide +kernel
theorem dX2_search_98 : decode cX2_search 98 = .ok (.getfield 25, 3) := by decide +kernel
theorem dX2_search_101 : decode cX2_search 101 = .ok (.iconst 1, 1) := by decide +kernel
theorem dX2_search_102 : decode cX2_search 102 = .ok (.iload 5, 2) := by decide +kernel
theorem dX2_search_104 : decode cX2_search 104 = .ok (.ishl, 1) := by decide +kernel
theorem dX2_search_105 : decode cX2_search 105 = .ok (.ior, 1) := by decide +kernel
theorem dX2_search_106 : decode cX2_search 106 = .ok (.putfield 25, 3) := by decide +kernel
theorem dX2_search_109 : decode cX2_search 109 = .ok (.iload 4, 2) := by decide +kernel
theorem dX2_search_111 : decode cX2_search 111 = .ok (.aload_n 1, 1) := by decide +kernel
theorem dX2_search_112 : decode cX2_search 112 = .ok (.getfield 51, 3) := by decide +kernel
theorem dX2_search_115 : decode cX2_search 115 = .ok (.iload 5, 2) := by decide +kernel
theorem dX2_search_117 : decode cX2_search 117 = .ok (.iaload, 1) := by decide +kernel
theorem dX2_search_118 : decode cX2_search 118 = .ok (.iadd, 1) := by decide +kernel
theorem dX2_search_119 : decode cX2_search 119 = .ok (.istore 4, 2) := by decide +kernel
theorem dX2_search_121 : decode cX2_search 121 = .ok (.iinc 5 1, 3) := by decide +kernel
theorem dX2_search_124 : decode cX2_search 124 = .ok (.goto (-57), 3) := by decide +kernel
theorem dX2_search_127 : decode cX2_search 127 = .ok (.aload_n 0, 1) := by decide +kernel
theorem dX2_search_128 : decode cX2_search 128 = .ok (.iconst 0, 1) := by decide +kernel
theorem dX2_search_129 : decode cX2_search 129 = .ok (.iconst 0, 1) := by decide +kernel
theorem dX2_search_130 : decode cX2_search 130 = .ok (.iload 4, 2) := by decide +kernel
theorem dX2_search_132 : decode cX2_search 132 = .ok (.invokevirtual 54, 3) := by decide +kernel
theorem dX2_search_135 : decode cX2_search 135 = .ok (.return_, 1) := by decide +kernel
theorem dX2_place_0 : decode cX2_place 0 = .ok (.aload_n 0, 1) := by decide +kernel
theorem dX2_place_1 : decode cX2_place 1 = .ok (.getfield 21, 3) := by decide +kernel
theorem dX2_place_4 : decode cX2_place 4 = .ok (.ifnull 20, 3) := by decide +kernel
theorem dX2_place_7 : decode cX2_place 7 = .ok (.iload_n 2, 1) := by decide +kernel
theorem dX2_place_8 : decode cX2_place 8 = .ok (.iload_n 3, 1) := by decide +kernel
theorem dX2_place_9 : decode cX2_place 9 = .ok (.aload_n 0, 1) := by decide +kernel
theorem dX2_place_10 : decode cX2_place 10 = .ok (.invokevirtual 58, 3) := by decide +kernel
theorem dX2_place_13 : decode cX2_place 13 = .ok (.invokestatic 62, 3) := by decide +kernel
theorem dX2_place_16 : decode cX2_place 16 = .ok (.iadd, 1) := by decide +kernel
theorem dX2_place_17 : decode cX2_place 17 = .ok (.aload_n 0, 1) := by decide +kernel
theorem dX2_place_18 : decode cX2_place 18 = .ok (.getfield 29, 3) := by decide +kernel
theorem dX2_place_21 : decode cX2_place 21 = .ok (.if_icmp .gt 4, 3) := by decide +kernel
theorem dX2_place_24 : decode cX2_place 24 = .ok (.return_, 1) := by decide +kernel
theorem dX2_place_25 : decode cX2_place 25 = .ok (.iload_n 1, 1) := by decide +kernel
theorem dX2_place_26 : decode cX2_place 26 = .ok (.aload_n 0, 1) := by decide +kernel
theorem dX2_place_27 : decode cX2_place 27 = .ok (.getfield 21, 3) := by decide +kernel
theorem dX2_place_30 : decode cX2_place 30 = .ok (.getfield 46, 3) := by decide +kernel
theorem dX2_place_33 : decode cX2_place 33 = .ok (.if_icmp .lt 24, 3) := by decide +kernel
theorem dX2_place_36 : decode cX2_place 36 = .ok (.aload_n 0, 1) := by decide +kernel
theorem dX2_place_37 : decode cX2_place 37 = .ok (.iload_n 2, 1) := by decide +kernel
theorem dX2_place_38 : decode cX2_place 38 = .ok (.putfield 29, 3) := by decide +kernel
theorem dX2_place_41 : decode cX2_place 41 = .ok (.aload_n 0, 1) := by decide +kernel
theorem dX2_place_42 : decode cX2_place 42 = .ok (.getfield 15, 3) := by decide +kernel
theorem dX2_place_45 : decode cX2_place 45 = .ok (.iconst 0, 1) := by decide +kernel
theorem dX2_place_46 : decode cX2_place 46 = .ok (.aload_n 0, 1) := by decide +kernel
theorem dX2_place_47 : decode cX2_place 47 = .ok (.getfield 18, 3) := by decide +kernel
theorem dX2_place_50 : decode cX2_place 50 = .ok (.iconst 0, 1) := by decide +kernel
theorem dX2_place_51 : decode cX2_place 51 = .ok (.bipush 8, 2) := by decide +kernel
theorem dX2_place_53 : decode cX2_place 53 = .ok (.invokestatic 65, 3) := by decide +kernel
theorem dX2_place_56 : decode cX2_place 56 = .ok (.return_, 1) := by decide +kernel
theorem dX2_place_57 : decode cX2_place 57 = .ok (.aload_n 0, 1) := by decide +kernel
theorem dX2_place_58 : decode cX2_place 58 = .ok (.getfield 25, 3) := by decide +kernel
theorem dX2_place_61 : decode cX2_place 61 = .ok (.iload_n 1, 1) := by decide +kernel
theorem dX2_place_62 : decode cX2_place 62 = .ok (.invokestatic 47, 3) := by decide +kernel
theorem dX2_place_65 : decode cX2_place 65 = .ok (.ifCond .eq 15, 3) := by decide +kernel
theorem dX2_place_68 : decode cX2_place 68 = .ok (.aload_n 0, 1) := by decide +kernel
theorem dX2_place_69 : decode cX2_place 69 = .ok (.getfield 21, 3) := by decide +kernel
theorem dX2_place_72 : decode cX2_place 72 = .ok (.getfield 51, 3) := by decide +kernel
theorem dX2_place_75 : decode cX2_place 75 = .ok (.iload_n 1, 1) := by decide +kernel
theorem dX2_place_76 : decode cX2_place 76 = .ok (.iaload, 1) := by decide +kernel
theorem dX2_place_77 : decode cX2_place 77 = .ok (.goto 4, 3) := by decide +kernel
theorem dX2_place_80 : decode cX2_place 80 = .ok (.iconst 0, 1) := by decide +kernel
theorem dX2_place_81 : decode cX2_place 81 = .ok (.istore 4, 2) := by decide +kernel
theorem dX2_place_83 : decode cX2_place 83 = .ok (.iconst 0, 1) := by decide +kernel
theorem dX2_place_84 : decode cX2_place 84 = .ok (.istore 5, 2) := by decide +kernel
theorem dX2_place_86 : decode cX2_place 86 = .ok (.iload 5, 2) := by decide +kernel
theorem dX2_place_88 : decode cX2_place 88 = .ok (.aload_n 0, 1) := by decide +kernel
theorem dX2_place_89 : decode cX2_place 89 = .ok (.getfield 21, 3) := by decide +kernel
theorem dX2_place_92 : decode cX2_place 92 = .ok (.getfield 32, 3) := by decide +kernel
theorem dX2_place_95 : decode cX2_place 95 = .ok (.if_icmp .ge 82, 3) := by decide +kernel
theorem dX2_place_98 : decode cX2_place 98 = .ok (.iload 4, 2) := by decide +kernel
theorem dX2_place_100 : decode cX2_place 100 = .ok (.ifCond .le 77, 3) := by decide +kernel
theorem dX2_place_103 : decode cX2_place 103 = .ok (.iload 4, 2) := by decide +kernel
theorem dX2_place_105 : decode cX2_place 105 = .ok (.aload_n 0, 1) := by decide +kernel
theorem dX2_place_106 : decode cX2_place 106 = .ok (.getfield 9, 3) := by decide +kernel
theorem dX2_place_109 : decode cX2_place 109 = .ok (.iload 5, 2) := by decide +kernel
theorem dX2_place_111 : decode cX2_place 111 = .ok (.iaload, 1) := by decide +kernel
theorem dX2_place_112 : decode cX2_place 112 = .ok (.if_icmp .gt 59, 3) := by decide +kernel
theorem dX2_place_115 : decode cX2_place 115 = .ok (.aload_n 0, 1) := by decide +kernel
theorem dX2_place_116 : decode cX2_place 116 = .ok (.iload 5, 2) := by decide +kernel
theorem dX2_place_118 : decode cX2_place 118 = .ok (.invokevirtual 71, 3) := by decide +kernel
theorem dX2_place_121 : decode cX2_place 121 = .ok (.ifCond .ne 50, 3) := by decide +kernel
theorem dX2_place_124 : decode cX2_place 124 = .ok (.aload_n 0, 1) := by decide +kernel
theorem dX2_place_125 : decode cX2_place 125 = .ok (.getfield 9, 3) := by decide +kernel
theorem dX2_place_128 : decode cX2_place 128 = .ok (.iload 5, 2) := by decide +kernel
theorem dX2_place_130 : decode cX2_place 130 = .ok (.dup2, 1) := by decide +kernel
theorem dX2_place_131 : decode cX2_place 131 = .ok (.iaload, 1) := by decide +kernel
theorem dX2_place_132 : decode cX2_place 132 = .ok (.iload 4, 2) := by decide +kernel
theorem dX2_place_134 : decode cX2_place 134 = .ok (.isub, 1) := by decide +kernel
theorem dX2_place_135 : decode cX2_place 135 = .ok (.iastore, 1) := by decide +kernel
theorem dX2_place_136 : decode cX2_place 136 = .ok (.aload_n 0, 1) := by decide +kernel
theorem dX2_place_137 : decode cX2_place 137 = .ok (.getfield 15, 3) := by decide +kernel
theorem dX2_place_140 : decode cX2_place 140 = .ok (.iload_n 1, 1) := by decide +kernel
theorem dX2_place_141 : decode cX2_place 141 = .ok (.iload 5, 2) := by decide +kernel
theorem dX2_place_143 : decode cX2_place 143 = .ok (.iastore, 1) := by decide +kernel
theorem dX2_place_144 : decode cX2_place 144 = .ok (.aload_n 0, 1) := by decide +kernel
theorem dX2_place_145 : decode cX2_place 145 = .ok (.iload_n 1, 1) := by decide +kernel
theorem dX2_place_146 : decode cX2_place 146 = .ok (.iconst 1, 1) := by decide +kernel
theorem dX2_place_147 : decode cX2_place 147 = .ok (.iadd, 1) := by decide +kernel
theorem dX2_place_148 : decode cX2_place 148 = .ok (.iload_n 2, 1) := by decide +kernel
theorem dX2_place_149 : decode cX2_place 149 = .ok (.iload 4, 2) := by decide +kernel
theorem dX2_place_151 : decode cX2_place 151 = .ok (.iadd, 1) := by decide +kernel
theorem dX2_place_152 : decode cX2_place 152 = .ok (.iload_n 3, 1) := by decide +kernel
theorem dX2_place_153 : decode cX2_place 153 = .ok (.iload 4, 2) := by decide +kernel
theorem dX2_place_155 : decode cX2_place 155 = .ok (.isub, 1) := by decide +kernel
theorem dX2_place_156 : decode cX2_place 156 = .ok (.invokevirtual 54, 3) := by decide +kernel
theorem dX2_place_159 : decode cX2_place 159 = .ok (.aload_n 0, 1) := by decide +kernel
theorem dX2_place_160 : decode cX2_place 160 = .ok (.getfield 9, 3) := by decide +kernel
theorem dX2_place_163 : decode cX2_place 163 = .ok (.iload 5, 2) := by decide +kernel
theorem dX2_place_165 : decode cX2_place 165 = .ok (.dup2, 1) := by decide +kernel
theorem dX2_place_166 : decode cX2_place 166 = .ok (.iaload, 1) := by decide +kernel
theorem dX2_place_167 : decode cX2_place 167 = .ok (.iload 4, 2) := by decide +kernel
theorem dX2_place_169 : decode cX2_place 169 = .ok (.iadd, 1) := by decide +kernel
theorem dX2_place_170 : decode cX2_place 170 = .ok (.iastore, 1) := by decide +kernel
theorem dX2_place_171 : decode cX2_place 171 = .ok (.iinc 5 1, 3) := by decide +kernel
theorem dX2_place_174 : decode cX2_place 174 = .ok (.goto (-88), 3) := by decide +kernel
theorem dX2_place_177 : decode cX2_place 177 = .ok (.aload_n 0, 1) := by decide +kernel
theorem dX2_place_178 : decode cX2_place 178 = .ok (.getfield 15, 3) := by decide +kernel
theorem dX2_place_181 : decode cX2_place 181 = .ok (.iload_n 1, 1) := by decide +kernel
theorem dX2_place_182 : decode cX2_place 182 = .ok (.iconst (-1), 1) := by decide +kernel
theorem dX2_place_183 : decode cX2_place 183 = .ok (.iastore, 1) := by decide +kernel
theorem dX2_place_184 : decode cX2_place 184 = .ok (.aload_n 0, 1) := by decide +kernel
theorem dX2_place_185 : decode cX2_place 185 = .ok (.iload_n 1, 1) := by decide +kernel
theorem dX2_place_186 : decode cX2_place 186 = .ok (.iconst 1, 1) := by decide +kernel
theorem dX2_place_187 : decode cX2_place 187 = .ok (.iadd, 1) := by decide +kernel
theorem dX2_place_188 : decode cX2_place 188 = .ok (.iload_n 2, 1) := by decide +kernel
theorem dX2_place_189 : decode cX2_place 189 = .ok (.iload_n 3, 1) := by decide +kernel
theorem dX2_place_190 : decode cX2_place 190 = .ok (.iload 4, 2) := by decide +kernel
theorem dX2_place_192 : decode cX2_place 192 = .ok (.isub, 1) := by decide +kernel
theorem dX2_place_193 : decode cX2_place 193 = .ok (.invokevirtual 54, 3) := by decide +kernel
theorem dX2_place_196 : decode cX2_place 196 = .ok (.return_, 1) := by decide +kernel
theorem dX2_roomLeft_0 : decode cX2_roomLeft 0 = .ok (.iconst 0, 1) := by decide +kernel
theorem dX2_roomLeft_1 : decode cX2_roomLeft 1 = .ok (.istore_n 1, 1) := by decide +kernel
theorem dX2_roomLeft_2 : decode cX2_roomLeft 2 = .ok (.iconst 0, 1) := by decide +kernel
theorem dX2_roomLeft_3 : decode cX2_roomLeft 3 = .ok (.istore_n 2, 1) := by decide +kernel
theorem dX2_roomLeft_4 : decode cX2_roomLeft 4 = .ok (.iload_n 2, 1) := by decide +kernel
theorem dX2_roomLeft_5 : decode cX2_roomLeft 5 = .ok (.aload_n 0, 1) := by decide +kernel
theorem dX2_roomLeft_6 : decode cX2_roomLeft 6 = .ok (.getfield 21, 3) := by decide +kernel
theorem dX2_roomLeft_9 : decode cX2_roomLeft 9 = .ok (.getfield 32, 3) := by decide +kernel
theorem dX2_roomLeft_12 : decode cX2_roomLeft 12 = .ok (.if_icmp .ge 18, 3) := by decide +kernel
theorem dX2_roomLeft_15 : decode cX2_roomLeft 15 = .ok (.iload_n 1, 1) := by decide +kernel
theorem dX2_roomLeft_16 : decode cX2_roomLeft 16 = .ok (.aload_n 0, 1) := by decide +kernel
theorem dX2_roomLeft_17 : decode cX2_roomLeft 17 = .ok (.getfield 9, 3) := by decide +kernel
theorem dX2_roomLeft_20 : decode cX2_roomLeft 20 = .ok (.iload_n 2, 1) := by decide +kernel
theorem dX2_roomLeft_21 : decode cX2_roomLeft 21 = .ok (.iaload, 1) := by decide +kernel
theorem dX2_roomLeft_22 : decode cX2_roomLeft 22 = .ok (.iadd, 1) := by decide +kernel
theorem dX2_roomLeft_23 : decode cX2_roomLeft 23 = .ok (.istore_n 1, 1) := by decide +kernel
theorem dX2_roomLeft_24 : decode cX2_roomLeft 24 = .ok (.iinc 2 1, 3) := by decide +kernel
theorem dX2_roomLeft_27 : decode cX2_roomLeft 27 = .ok (.goto (-23), 3) := by decide +kernel
theorem dX2_roomLeft_30 : decode cX2_roomLeft 30 = .ok (.iload_n 1, 1) := by decide +kernel
theorem dX2_roomLeft_31 : decode cX2_roomLeft 31 = .ok (.ireturn, 1) := by decide +kernel
theorem dX2_isLikeLower_0 : decode cX2_isLikeLower 0 = .ok (.iconst 0, 1) := by decide +kernel
theorem dX2_isLikeLower_1 : decode cX2_isLikeLower 1 = .ok (.istore_n 2, 1) := by decide +kernel
theorem dX2_isLikeLower_2 : decode cX2_isLikeLower 2 = .ok (.iload_n 2, 1) := by decide +kernel
theorem dX2_isLikeLower_3 : decode cX2_isLikeLower 3 = .ok (.iload_n 1, 1) := by decide +kernel
theorem dX2_isLikeLower_4 : decode cX2_isLikeLower 4 = .ok (.if_icmp .ge 26, 3) := by decide +kernel
theorem dX2_isLikeLower_7 : decode cX2_isLikeLower 7 = .ok (.aload_n 0, 1) := by decide +kernel
theorem dX2_isLikeLower_8 : decode cX2_isLikeLower 8 = .ok (.getfield 9, 3) := by decide +kernel
theorem dX2_isLikeLower_11 : decode cX2_isLikeLower 11 = .ok (.iload_n 2, 1) := by decide +kernel
theorem dX2_isLikeLower_12 : decode cX2_isLikeLower 12 = .ok (.iaload, 1) := by decide +kernel
theorem dX2_isLikeLower_13 : decode cX2_isLikeLower 13 = .ok (.aload_n 0, 1) := by decide +kernel
theorem dX2_isLikeLower_14 : decode cX2_isLikeLower 14 = .ok (.getfield 9, 3) := by decide +kernel
theorem dX2_isLikeLower_17 : decode cX2_isLikeLower 17 = .ok (.iload_n 1, 1) := by decide +kernel
theorem dX2_isLikeLower_18 : decode cX2_isLikeLower 18 = .ok (.iaload, 1) := by decide +kernel
theorem dX2_isLikeLower_19 : decode cX2_isLikeLower 19 = .ok (.if_icmp .ne 5, 3) := by decide +kernel
theorem dX2_isLikeLower_22 : decode cX2_isLikeLower 22 = .ok (.iconst 1, 1) := by decide +kernel
theorem dX2_isLikeLower_23 : decode cX2_isLikeLower 23 = .ok (.ireturn, 1) := by decide +kernel
theorem dX2_isLikeLower_24 : decode cX2_isLikeLower 24 = .ok (.iinc 2 1, 3) := by decide +kernel
theorem dX2_isLikeLower_27 : decode cX2_isLikeLower 27 = .ok (.goto (-25), 3) := by decide +kernel
theorem dX2_isLikeLower_30 : decode cX2_isLikeLower 30 = .ok (.iconst 0, 1) := by decide +kernel
theorem dX2_isLikeLower_31 : decode cX2_isLikeLower 31 = .ok (.ireturn, 1) := by decide +kernel
theorem dX3_init_0 : decode cX3_init 0 = .ok (.aload_n 0, 1) := by decide +kernel
theorem dX3_init_1 : decode cX3_init 1 = .ok (.invokespecial 3, 3) := by decide +kernel
theorem dX3_init_4 : decode cX3_init 4 = .ok (.aload_n 0, 1) := by decide +kernel
theorem dX3_init_5 : decode cX3_init 5 = .ok (.bipush 16, 2) := by decide +kernel
theorem dX3_init_7 : decode cX3_init 7 = .ok (.anewarray 9, 3) := by decide +kernel
theorem dX3_init_10 : decode cX3_init 10 = .ok (.putfield 11, 3) := by decide +kernel
theorem dX3_init_13 : decode cX3_init 13 = .ok (.aload_n 0, 1) := by decide +kernel
theorem dX3_init_14 : decode cX3_init 14 = .ok (.aload_n 1, 1) := by decide +kernel
theorem dX3_init_15 : decode cX3_init 15 = .ok (.putfield 17, 3) := by decide +kernel
theorem dX3_init_18 : decode cX3_init 18 = .ok (.aload_n 0, 1) := by decide +kernel
theorem dX3_init_19 : decode cX3_init 19 = .ok (.iload_n 2, 1) := by decide +kernel
theorem dX3_init_20 : decode cX3_init 20 = .ok (.putfield 21, 3) := by decide +kernel
theorem dX3_init_23 : decode cX3_init 23 = .ok (.return_, 1) := by decide +kernel
theorem dX4_init_0 : decode cX4_init 0 = .ok (.aload_n 0, 1) := by decide +kernel
theorem dX4_init_1 : decode cX4_init 1 = .ok (.invokespecial 3, 3) := by decide +kernel
theorem dX4_init_4 : decode cX4_init 4 = .ok (.aload_n 0, 1) := by decide +kernel
theorem dX4_init_5 : decode cX4_init 5 = .ok (.bipush 10, 2) := by decide +kernel
theorem dX4_init_7 : decode cX4_init 7 = .ok (.newarray .int, 2) := by decide +kernel
theorem dX4_init_9 : decode cX4_init 9 = .ok (.putfield 9, 3) := by decide +kernel
theorem dX4_init_12 : decode cX4_init 12 = .ok (.return_, 1) := by decide +kernel
theorem dX4_hold_0 : decode cX4_hold 0 = .ok (.aload_n 0, 1) := by decide +kernel
theorem dX4_hold_1 : decode cX4_hold 1 = .ok (.iconst 0, 1) := by decide +kernel
theorem dX4_hold_2 : decode cX4_hold 2 = .ok (.putfield 15, 3) := by decide +kernel
theorem dX4_hold_5 : decode cX4_hold 5 = .ok (.aload_n 0, 1) := by decide +kernel
theorem dX4_hold_6 : decode cX4_hold 6 = .ok (.iconst (-1), 1) := by decide +kernel
theorem dX4_hold_7 : decode cX4_hold 7 = .ok (.putfield 19, 3) := by decide +kernel
theorem dX4_hold_10 : decode cX4_hold 10 = .ok (.aload_n 0, 1) := by decide +kernel
theorem dX4_hold_11 : decode cX4_hold 11 = .ok (.iconst 0, 1) := by decide +kernel
theorem dX4_hold_12 : decode cX4_hold 12 = .ok (.putfield 22, 3) := by decide +kernel
theorem dX4_hold_15 : decode cX4_hold 15 = .ok (.iconst 0, 1) := by decide +kernel
theorem dX4_hold_16 : decode cX4_hold 16 = .ok (.istore 4, 2) := by decide +kernel
theorem dX4_hold_18 : decode cX4_hold 18 = .ok (.iload 4, 2) := by decide +kernel
theorem dX4_hold_20 : decode cX4_hold 20 = .ok (.bipush 10, 2) := by decide +kernel
theorem dX4_hold_22 : decode cX4_hold 22 = .ok (.if_icmp .ge 17, 3) := by decide +kernel
theorem dX4_hold_25 : decode cX4_hold 25 = .ok (.aload_n 0, 1) := by decide +kernel
theorem dX4_hold_26 : decode cX4_hold 26 = .ok (.getfield 9, 3) := by decide +kernel
theorem dX4_hold_29 : decode cX4_hold 29 = .ok (.iload 4, 2) := by decide +kernel
theorem dX4_hold_31 : decode cX4_hold 31 = .ok (.iconst 0, 1) := by decide +kernel
theorem dX4_hold_32 : decode cX4_hold 32 = .ok (.iastore, 1) := by decide +kernel
theorem dX4_hold_33 : decode cX4_hold 33 = .ok (.iinc 4 1, 3) := by decide +kernel
theorem dX4_hold_36 : decode cX4_hold 36 = .ok (.goto (-18), 3) := by decide +kernel
theorem dX4_hold_39 : decode cX4_hold 39 = .ok (.iconst 0, 1) := by decide +kernel
theorem dX4_hold_40 : decode cX4_hold 40 = .ok (.istore 4, 2) := by decide +kernel
theorem dX4_hold_42 : decode cX4_hold 42 = .ok (.iload 4, 2) := by decide +kernel
theorem dX4_hold_44 : decode cX4_hold 44 = .ok (.iconst 1, 1) := by decide +kernel
theorem dX4_hold_45 : decode cX4_hold 45 = .ok (.iload_n 1, 1) := by decide +kernel
theorem dX4_hold_46 : decode cX4_hold 46 = .ok (.ishl, 1) := by decide +kernel
theorem dX4_hold_47 : decode cX4_hold 47 = .ok (.if_icmp .ge 50, 3) := by decide +kernel
theorem dX4_hold_50 : decode cX4_hold 50 = .ok (.iload 4, 2) := by decide +kernel
theorem dX4_hold_52 : decode cX4_hold 52 = .ok (.iload_n 1, 1) := by decide +kernel
theorem dX4_hold_53 : decode cX4_hold 53 = .ok (.aload_n 2, 1) := by decide +kernel
theorem dX4_hold_54 : decode cX4_hold 54 = .ok (.invokestatic 25, 3) := by decide +kernel
theorem dX4_hold_57 : decode cX4_hold 57 = .ok (.istore 5, 2) := by decide +kernel
theorem dX4_hold_59 : decode cX4_hold 59 = .ok (.iload 5, 2) := by decide +kernel
theorem dX4_hold_61 : decode cX4_hold 61 = .ok (.aload_n 3, 1) := by decide +kernel
theorem dX4_hold_62 : decode cX4_hold 62 = .ok (.getfield 29, 3) := by decide +kernel
theorem dX4_hold_65 : decode cX4_hold 65 = .ok (.iand, 1) := by decide +kernel
theorem dX4_hold_66 : decode cX4_hold 66 = .ok (.aload_n 3, 1) := by decide +kernel
theorem dX4_hold_67 : decode cX4_hold 67 = .ok (.getfield 29, 3) := by decide +kernel
theorem dX4_hold_70 : decode cX4_hold 70 = .ok (.if_icmp .ne 21, 3) := by decide +kernel
theorem dX4_hold_73 : decode cX4_hold 73 = .ok (.iload 5, 2) := by decide +kernel
theorem dX4_hold_75 : decode cX4_hold 75 = .ok (.aload_n 3, 1) := by decide +kernel
theorem dX4_hold_76 : decode cX4_hold 76 = .ok (.getfield 34, 3) := by decide +kernel
theorem dX4_hold_79 : decode cX4_hold 79 = .ok (.iand, 1) := by decide +kernel
theorem dX4_hold_80 : decode cX4_hold 80 = .ok (.ifCond .ne 11, 3) := by decide +kernel
theorem dX4_hold_83 : decode cX4_hold 83 = .ok (.aload_n 0, 1) := by decide +kernel
theorem dX4_hold_84 : decode cX4_hold 84 = .ok (.iload 4, 2) := by decide +kernel
theorem dX4_hold_86 : decode cX4_hold 86 = .ok (.iload 5, 2) := by decide +kernel
theorem dX4_hold_88 : decode cX4_hold 88 = .ok (.invokevirtual 37, 3) := by decide +kernel
theorem dX4_hold_91 : decode cX4_hold 91 = .ok (.iinc 4 1, 3) := by decide +kernel
theorem dX4_hold_94 : decode cX4_hold 94 = .ok (.goto (-52), 3) := by decide +kernel
theorem dX4_hold_97 : decode cX4_hold 97 = .ok (.return_, 1) := by decide +kernel
theorem dX4_addSet_0 : decode cX4_addSet 0 = .ok (.aload_n 0, 1) := by decide +kernel
theorem dX4_addSet_1 : decode cX4_addSet 1 = .ok (.getfield 15, 3) := by decide +kernel
theorem dX4_addSet_4 : decode cX4_addSet 4 = .ok (.ifCond .ne 13, 3) := by decide +kernel
theorem dX4_addSet_7 : decode cX4_addSet 7 = .ok (.aload_n 0, 1) := by decide +kernel
theorem dX4_addSet_8 : decode cX4_addSet 8 = .ok (.iload_n 1, 1) := by decide +kernel
theorem dX4_addSet_9 : decode cX4_addSet 9 = .ok (.putfield 19, 3) := by decide +kernel
theorem dX4_addSet_12 : decode cX4_addSet 12 = .ok (.aload_n 0, 1) := by decide +kernel
theorem dX4_addSet_13 : decode cX4_addSet 13 = .ok (.iload_n 1, 1) := by decide +kernel
theorem dX4_addSet_14 : decode cX4_addSet 14 = .ok (.putfield 22, 3) := by decide +kernel
theorem dX4_addSet_17 : decode cX4_addSet 17 = .ok (.aload_n 0, 1) := by decide +kernel
theorem dX4_addSet_18 : decode cX4_addSet 18 = .ok (.dup, 1) := by decide +kernel
theorem dX4_addSet_19 : decode cX4_addSet 19 = .ok (.getfield 22, 3) := by decide +kernel
theorem dX4_addSet_22 : decode cX4_addSet 22 = .ok (.iload_n 1, 1) := by decide +kernel
theorem dX4_addSet_23 : decode cX4_addSet 23 = .ok (.iand, 1) := by decide +kernel
theorem dX4_addSet_24 : decode cX4_addSet 24 = .ok (.putfield 22, 3) := by decide +kernel
theorem dX4_addSet_27 : decode cX4_addSet 27 = .ok (.aload_n 0, 1) := by decide +kernel
theorem dX4_addSet_28 : decode cX4_addSet 28 = .ok (.dup, 1) := by decide +kernel
theorem dX4_addSet_29 : decode cX4_addSet 29 = .ok (.getfield 15, 3) := by decide +kernel
theorem dX4_addSet_32 : decode cX4_addSet 32 = .ok (.iconst 1, 1) := by decide +kernel
theorem dX4_addSet_33 : decode cX4_addSet 33 = .ok (.iadd, 1) := by decide +kernel
theorem dX4_addSet_34 : decode cX4_addSet 34 = .ok (.putfield 15, 3) := by decide +kernel
theorem dX4_addSet_37 : decode cX4_addSet 37 = .ok (.iconst 0, 1) := by decide +kernel
theorem dX4_addSet_38 : decode cX4_addSet 38 = .ok (.istore_n 3, 1) := by decide +kernel
theorem dX4_addSet_39 : decode cX4_addSet 39 = .ok (.iload_n 3, 1) := by decide +kernel
theorem dX4_addSet_40 : decode cX4_addSet 40 = .ok (.bipush 10, 2) := by decide +kernel
theorem dX4_addSet_42 : decode cX4_addSet 42 = .ok (.if_icmp .ge 31, 3) := by decide +kernel
theorem dX4_addSet_45 : decode cX4_addSet 45 = .ok (.aload_n 0, 1) := by decide +kernel
theorem dX4_addSet_46 : decode cX4_addSet 46 = .ok (.getfield 9, 3) := by decide +kernel
theorem dX4_addSet_49 : decode cX4_addSet 49 = .ok (.iload_n 3, 1) := by decide +kernel
theorem dX4_addSet_50 : decode cX4_addSet 50 = .ok (.dup2, 1) := by decide +kernel
theorem dX4_addSet_51 : decode cX4_addSet 51 = .ok (.iaload, 1) := by decide +kernel
theorem dX4_addSet_52 : decode cX4_addSet 52 = .ok (.iload_n 2, 1) := by decide +kernel
theorem dX4_addSet_53 : decode cX4_addSet 53 = .ok (.iload_n 3, 1) := by decide +kernel
theorem dX4_addSet_54 : decode cX4_addSet 54 = .ok (.invokestatic 41, 3) := by decide +kernel
theorem dX4_addSet_57 : decode cX4_addSet 57 = .ok (.ifCond .eq 7, 3) := by decide +kernel
theorem dX4_addSet_60 : decode cX4_addSet 60 = .ok (.iconst 1, 1) := by decide +kernel
theorem dX4_addSet_61 : decode cX4_addSet 61 = .ok (.goto 4, 3) := by decide +kernel
theorem dX4_addSet_64 : decode cX4_addSet 64 = .ok (.iconst 0, 1) := by decide +kernel
theorem dX4_addSet_65 : decode cX4_addSet 65 = .ok (.iadd, 1) := by decide +kernel
theorem dX4_addSet_66 : decode cX4_addSet 66 = .ok (.iastore, 1) := by decide +kernel
theorem dX4_addSet_67 : decode cX4_addSet 67 = .ok (.iinc 3 1, 3) := by decide +kernel
theorem dX4_addSet_70 : decode cX4_addSet 70 = .ok (.goto (-31), 3) := by decide +kernel
theorem dX4_addSet_73 : decode cX4_addSet 73 = .ok (.return_, 1) := by decide +kernel
theorem dX4_actsOfSet_0 : decode cX4_actsOfSet 0 = .ok (.iconst 0, 1) := by decide +kernel
theorem dX4_actsOfSet_1 : decode cX4_actsOfSet 1 = .ok (.istore_n 3, 1) := by decide +kernel
theorem dX4_actsOfSet_2 : decode cX4_actsOfSet 2 = .ok (.iconst 0, 1) := by decide +kernel
theorem dX4_actsOfSet_3 : decode cX4_actsOfSet 3 = .ok (.istore 4, 2) := by decide +kernel
theorem dX4_actsOfSet_5 : decode cX4_actsOfSet 5 = .ok (.iload 4, 2) := by decide +kernel
theorem dX4_actsOfSet_7 : decode cX4_actsOfSet 7 = .ok (.iload_n 1, 1) := by decide +kernel
theorem dX4_actsOfSet_8 : decode cX4_actsOfSet 8 = .ok (.if_icmp .ge 34, 3) := by decide +kernel
theorem dX4_actsOfSet_11 : decode cX4_actsOfSet 11 = .ok (.iload 4, 2) := by decide +kernel
theorem dX4_actsOfSet_13 : decode cX4_actsOfSet 13 = .ok (.aload_n 2, 1) := by decide +kernel
theorem dX4_actsOfSet_14 : decode cX4_actsOfSet 14 = .ok (.arraylength, 1) := by decide +kernel
theorem dX4_actsOfSet_15 : decode cX4_actsOfSet 15 = .ok (.if_icmp .ge 27, 3) := by decide +kernel
theorem dX4_actsOfSet_18 : decode cX4_actsOfSet 18 = .ok (.iload_n 0, 1) := by decide +kernel
theorem dX4_actsOfSet_19 : decode cX4_actsOfSet 19 = .ok (.iload 4, 2) := by decide +kernel
theorem dX4_actsOfSet_21 : decode cX4_actsOfSet 21 = .ok (.invokestatic 41, 3) := by decide +kernel
theorem dX4_actsOfSet_24 : decode cX4_actsOfSet 24 = .ok (.ifCond .eq 12, 3) := by decide +kernel
theorem dX4_actsOfSet_27 : decode cX4_actsOfSet 27 = .ok (.iload_n 3, 1) := by decide +kernel
theorem dX4_actsOfSet_28 : decode cX4_actsOfSet 28 = .ok (.iconst 1, 1) := by decide +kernel
theorem dX4_actsOfSet_29 : decode cX4_actsOfSet 29 = .ok (.aload_n 2, 1) := by decide +kernel
theorem dX4_actsOfSet_30 : decode cX4_actsOfSet 30 = .ok (.iload 4, 2) := by decide +kernel
theorem dX4_actsOfSet_32 : decode cX4_actsOfSet 32 = .ok (.iaload, 1) := by decide +kernel
theorem dX4_actsOfSet_33 : decode cX4_actsOfSet 33 = .ok (.ishl, 1) := by decide +kernel
theorem dX4_actsOfSet_34 : decode cX4_actsOfSet 34 = .ok (.ior, 1) := by decide +kernel
theorem dX4_actsOfSet_35 : decode cX4_actsOfSet 35 = .ok (.istore_n 3, 1) := by decide +kernel
theorem dX4_actsOfSet_36 : decode cX4_actsOfSet 36 = .ok (.iinc 4 1, 3) := by decide +kernel
theorem dX4_actsOfSet_39 : decode cX4_actsOfSet 39 = .ok (.goto (-34), 3) := by decide +kernel
theorem dX4_actsOfSet_42 : decode cX4_actsOfSet 42 = .ok (.iload_n 3, 1) := by decide +kernel
theorem dX4_actsOfSet_43 : decode cX4_actsOfSet 43 = .ok (.ireturn, 1) := by decide +kernel
theorem dX4_leftAtWorst_0 : decode cX4_leftAtWorst 0 = .ok (.aload_n 0, 1) := by decide +kernel
theorem dX4_leftAtWorst_1 : decode cX4_leftAtWorst 1 = .ok (.getfield 9, 3) := by decide +kernel
theorem dX4_leftAtWorst_4 : decode cX4_leftAtWorst 4 = .ok (.iload_n 1, 1) := by decide +kernel
theorem dX4_leftAtWorst_5 : decode cX4_leftAtWorst 5 = .ok (.iaload, 1) := by decide +kernel
theorem dX4_leftAtWorst_6 : decode cX4_leftAtWorst 6 = .ok (.aload_n 0, 1) := by decide +kernel
theorem dX4_leftAtWorst_7 : decode cX4_leftAtWorst 7 = .ok (.getfield 15, 3) := by decide +kernel
theorem dX4_leftAtWorst_10 : decode cX4_leftAtWorst 10 = .ok (.aload_n 0, 1) := by decide +kernel
theorem dX4_leftAtWorst_11 : decode cX4_leftAtWorst 11 = .ok (.getfield 9, 3) := by decide +kernel
theorem dX4_leftAtWorst_14 : decode cX4_leftAtWorst 14 = .ok (.iload_n 1, 1) := by decide +kernel
theorem dX4_leftAtWorst_15 : decode cX4_leftAtWorst 15 = .ok (.iaload, 1) := by decide +kernel
theorem dX4_leftAtWorst_16 : decode cX4_leftAtWorst 16 = .ok (.isub, 1) := by decide +kernel
theorem dX4_leftAtWorst_17 : decode cX4_leftAtWorst 17 = .ok (.invokestatic 45, 3) := by decide +kernel
theorem dX4_leftAtWorst_20 : decode cX4_leftAtWorst 20 = .ok (.ireturn, 1) := by decide +kernel
theorem dX4_bestQuestion_0 : decode cX4_bestQuestion 0 = .ok (.iconst (-1), 1) := by decide +kernel
theorem dX4_bestQuestion_1 : decode cX4_bestQuestion 1 = .ok (.istore_n 2, 1) := by decide +kernel
theorem dX4_bestQuestion_2 : decode cX4_bestQuestion 2 = .ok (.iconst 0, 1) := by decide +kernel
theorem dX4_bestQuestion_3 : decode cX4_bestQuestion 3 = .ok (.istore_n 3, 1) := by decide +kernel
theorem dX4_bestQuestion_4 : decode cX4_bestQuestion 4 = .ok (.iload_n 3, 1) := by decide +kernel
theorem dX4_bestQuestion_5 : decode cX4_bestQuestion 5 = .ok (.bipush 10, 2) := by decide +kernel
theorem dX4_bestQuestion_7 : decode cX4_bestQuestion 7 = .ok (.if_icmp .ge 57, 3) := by decide +kernel
theorem dX4_bestQuestion_10 : decode cX4_bestQuestion 10 = .ok (.aload_n 1, 1) := by decide +kernel
theorem dX4_bestQuestion_11 : decode cX4_bestQuestion 11 = .ok (.getfield 29, 3) := by decide +kernel
theorem dX4_bestQuestion_14 : decode cX4_bestQuestion 14 = .ok (.aload_n 1, 1) := by decide +kernel
theorem dX4_bestQuestion_15 : decode cX4_bestQuestion 15 = .ok (.getfield 34, 3) := by decide +kernel
theorem dX4_bestQuestion_18 : decode cX4_bestQuestion 18 = .ok (.ior, 1) := by decide +kernel
theorem dX4_bestQuestion_19 : decode cX4_bestQuestion 19 = .ok (.iload_n 3, 1) := by decide +kernel
theorem dX4_bestQuestion_20 : decode cX4_bestQuestion 20 = .ok (.invokestatic 41, 3) := by decide +kernel
theorem dX4_bestQuestion_23 : decode cX4_bestQuestion 23 = .ok (.ifCond .ne 7, 3) := by decide +kernel
theorem dX4_bestQuestion_26 : decode cX4_bestQuestion 26 = .ok (.iconst 1, 1) := by decide +kernel
theorem dX4_bestQuestion_27 : decode cX4_bestQuestion 27 = .ok (.goto 4, 3) := by decide +kernel
theorem dX4_bestQuestion_30 : decode cX4_bestQuestion 30 = .ok (.iconst 0, 1) := by decide +kernel
theorem dX4_bestQuestion_31 : decode cX4_bestQuestion 31 = .ok (.istore 4, 2) := by decide +kernel
theorem dX4_bestQuestion_33 : decode cX4_bestQuestion 33 = .ok (.iload 4, 2) := by decide +kernel
theorem dX4_bestQuestion_35 : decode cX4_bestQuestion 35 = .ok (.ifCond .eq 23, 3) := by decide +kernel
theorem dX4_bestQuestion_38 : decode cX4_bestQuestion 38 = .ok (.iload_n 2, 1) := by decide +kernel
theorem dX4_bestQuestion_39 : decode cX4_bestQuestion 39 = .ok (.iconst (-1), 1) := by decide +kernel
theorem dX4_bestQuestion_40 : decode cX4_bestQuestion 40 = .ok (.if_icmp .eq 16, 3) := by decide +kernel
theorem dX4_bestQuestion_43 : decode cX4_bestQuestion 43 = .ok (.aload_n 0, 1) := by decide +kernel
theorem dX4_bestQuestion_44 : decode cX4_bestQuestion 44 = .ok (.iload_n 3, 1) := by decide +kernel
theorem dX4_bestQuestion_45 : decode cX4_bestQuestion 45 = .ok (.invokevirtual 51, 3) := by decide +kernel
theorem dX4_bestQuestion_48 : decode cX4_bestQuestion 48 = .ok (.aload_n 0, 1) := by decide +kernel
theorem dX4_bestQuestion_49 : decode cX4_bestQuestion 49 = .ok (.iload_n 2, 1) := by decide +kernel
theorem dX4_bestQuestion_50 : decode cX4_bestQuestion 50 = .ok (.invokevirtual 51, 3) := by decide +kernel
theorem dX4_bestQuestion_53 : decode cX4_bestQuestion 53 = .ok (.if_icmp .ge 5, 3) := by decide +kernel
theorem dX4_bestQuestion_56 : decode cX4_bestQuestion 56 = .ok (.iload_n 3, 1) := by decide +kernel
theorem dX4_bestQuestion_57 : decode cX4_bestQuestion 57 = .ok (.istore_n 2, 1) := by decide +kernel
theorem dX4_bestQuestion_58 : decode cX4_bestQuestion 58 = .ok (.iinc 3 1, 3) := by decide +kernel
theorem dX4_bestQuestion_61 : decode cX4_bestQuestion 61 = .ok (.goto (-57), 3) := by decide +kernel
theorem dX4_bestQuestion_64 : decode cX4_bestQuestion 64 = .ok (.iload_n 2, 1) := by decide +kernel
theorem dX4_bestQuestion_65 : decode cX4_bestQuestion 65 = .ok (.ireturn, 1) := by decide +kernel
theorem dX5_init_0 : decode cX5_init 0 = .ok (.aload_n 0, 1) := by decide +kernel
theorem dX5_init_1 : decode cX5_init 1 = .ok (.invokespecial 3, 3) := by decide +kernel
theorem dX5_init_4 : decode cX5_init 4 = .ok (.aload_n 0, 1) := by decide +kernel
theorem dX5_init_5 : decode cX5_init 5 = .ok (.sipush 150, 3) := by decide +kernel
theorem dX5_init_8 : decode cX5_init 8 = .ok (.newarray .int, 2) := by decide +kernel
theorem dX5_init_10 : decode cX5_init 10 = .ok (.putfield 9, 3) := by decide +kernel
theorem dX5_init_13 : decode cX5_init 13 = .ok (.aload_n 0, 1) := by decide +kernel
theorem dX5_init_14 : decode cX5_init 14 = .ok (.sipush 150, 3) := by decide +kernel
theorem dX5_init_17 : decode cX5_init 17 = .ok (.newarray .int, 2) := by decide +kernel
theorem dX5_init_19 : decode cX5_init 19 = .ok (.putfield 15, 3) := by decide +kernel
theorem dX5_init_22 : decode cX5_init 22 = .ok (.aload_n 0, 1) := by decide +kernel
theorem dX5_init_23 : decode cX5_init 23 = .ok (.invokevirtual 18, 3) := by decide +kernel
theorem dX5_init_26 : decode cX5_init 26 = .ok (.return_, 1) := by decide +kernel
theorem dX5_becomePlain_0 : decode cX5_becomePlain 0 = .ok (.aload_n 0, 1) := by decide +kernel
theorem dX5_becomePlain_1 : decode cX5_becomePlain 1 = .ok (.iconst 0, 1) := by decide +kernel
theorem dX5_becomePlain_2 : decode cX5_becomePlain 2 = .ok (.putfield 21, 3) := by decide +kernel
theorem dX5_becomePlain_5 : decode cX5_becomePlain 5 = .ok (.aload_n 0, 1) := by decide +kernel
theorem dX5_becomePlain_6 : decode cX5_becomePlain 6 = .ok (.sipush 1000, 3) := by decide +kernel
theorem dX5_becomePlain_9 : decode cX5_becomePlain 9 = .ok (.invokevirtual 25, 3) := by decide +kernel
theorem dX5_becomePlain_12 : decode cX5_becomePlain 12 = .ok (.aload_n 0, 1) := by decide +kernel
theorem dX5_becomePlain_13 : decode cX5_becomePlain 13 = .ok (.bipush 10, 2) := by decide +kernel
theorem dX5_becomePlain_15 : decode cX5_becomePlain 15 = .ok (.invokevirtual 25, 3) := by decide +kernel
theorem dX5_becomePlain_18 : decode cX5_becomePlain 18 = .ok (.aload_n 0, 1) := by decide +kernel
theorem dX5_becomePlain_19 : decode cX5_becomePlain 19 = .ok (.sipush 2002, 3) := by decide +kernel
theorem dX5_becomePlain_22 : decode cX5_becomePlain 22 = .ok (.invokevirtual 25, 3) := by decide +kernel
theorem dX5_becomePlain_25 : decode cX5_becomePlain 25 = .ok (.aload_n 0, 1) := by decide +kernel
theorem dX5_becomePlain_26 : decode cX5_becomePlain 26 = .ok (.sipush 1001, 3) := by decide +kernel
theorem dX5_becomePlain_29 : decode cX5_becomePlain 29 = .ok (.invokevirtual 25, 3) := by decide +kernel
theorem dX5_becomePlain_32 : decode cX5_becomePlain 32 = .ok (.aload_n 0, 1) := by decide +kernel
theorem dX5_becomePlain_33 : decode cX5_becomePlain 33 = .ok (.sipush 2000, 3) := by decide +kernel
theorem dX5_becomePlain_36 : decode cX5_becomePlain 36 = .ok (.invokevirtual 25, 3) := by decide +kernel
theorem dX5_becomePlain_39 : decode cX5_becomePlain 39 = .ok (.return_, 1) := by decide +kernel
theorem dX5_put_0 : decode cX5_put 0 = .ok (.aload_n 0, 1) := by decide +kernel
theorem dX5_put_1 : decode cX5_put 1 = .ok (.getfield 21, 3) := by decide +kernel
theorem dX5_put_4 : decode cX5_put 4 = .ok (.aload_n 0, 1) := by decide +kernel
theorem dX5_put_5 : decode cX5_put 5 = .ok (.getfield 9, 3) := by decide +kernel
theorem dX5_put_8 : decode cX5_put 8 = .ok (.arraylength, 1) := by decide +kernel
theorem dX5_put_9 : decode cX5_put 9 = .ok (.if_icmp .ge 23, 3) := by decide +kernel
theorem dX5_put_12 : decode cX5_put 12 = .ok (.aload_n 0, 1) := by decide +kernel
theorem dX5_put_13 : decode cX5_put 13 = .ok (.getfield 9, 3) := by decide +kernel
theorem dX5_put_16 : decode cX5_put 16 = .ok (.aload_n 0, 1) := by decide +kernel
theorem dX5_put_17 : decode cX5_put 17 = .ok (.getfield 21, 3) := by decide +kernel
theorem dX5_put_20 : decode cX5_put 20 = .ok (.iload_n 1, 1) := by decide +kernel
theorem dX5_put_21 : decode cX5_put 21 = .ok (.iastore, 1) := by decide +kernel
theorem dX5_put_22 : decode cX5_put 22 = .ok (.aload_n 0, 1) := by decide +kernel
theorem dX5_put_23 : decode cX5_put 23 = .ok (.dup, 1) := by decide +kernel
theorem dX5_put_24 : decode cX5_put 24 = .ok (.getfield 21, 3) := by decide +kernel
theorem dX5_put_27 : decode cX5_put 27 = .ok (.iconst 1, 1) := by decide +kernel
theorem dX5_put_28 : decode cX5_put 28 = .ok (.iadd, 1) := by decide +kernel
theorem dX5_put_29 : decode cX5_put 29 = .ok (.putfield 21, 3) := by decide +kernel
theorem dX5_put_32 : decode cX5_put 32 = .ok (.return_, 1) := by decide +kernel
theorem dX5_read_0 : decode cX5_read 0 = .ok (.aload_n 0, 1) := by decide +kernel
theorem dX5_read_1 : decode cX5_read 1 = .ok (.iconst 0, 1) := by decide +kernel
theorem dX5_read_2 : decode cX5_read 2 = .ok (.putfield 21, 3) := by decide +kernel
theorem dX5_read_5 : decode cX5_read 5 = .ok (.aload_n 0, 1) := by decide +kernel
theorem dX5_read_6 : decode cX5_read 6 = .ok (.aload_n 1, 1) := by decide +kernel
theorem dX5_read_7 : decode cX5_read 7 = .ok (.iconst 0, 1) := by decide +kernel
theorem dX5_read_8 : decode cX5_read 8 = .ok (.invokevirtual 29, 3) := by decide +kernel
theorem dX5_read_11 : decode cX5_read 11 = .ok (.aload_n 1, 1) := by decide +kernel
theorem dX5_read_12 : decode cX5_read 12 = .ok (.invokevirtual 33, 3) := by decide +kernel
theorem dX5_read_15 : decode cX5_read 15 = .ok (.ifCond .eq 12, 3) := by decide +kernel
theorem dX5_read_18 : decode cX5_read 18 = .ok (.aload_n 1, 1) := by decide +kernel
theorem dX5_read_19 : decode cX5_read 19 = .ok (.iconst 1, 1) := by decide +kernel
theorem dX5_read_20 : decode cX5_read 20 = .ok (.aload_n 1, 1) := by decide +kernel
theorem dX5_read_21 : decode cX5_read 21 = .ok (.invokevirtual 39, 3) := by decide +kernel
theorem dX5_read_24 : decode cX5_read 24 = .ok (.invokevirtual 43, 3) := by decide +kernel
theorem dX5_read_27 : decode cX5_read 27 = .ok (.return_, 1) := by decide +kernel
theorem dX5_readSum_0 : decode cX5_readSum 0 = .ok (.aload_n 0, 1) := by decide +kernel
theorem dX5_readSum_1 : decode cX5_readSum 1 = .ok (.aload_n 1, 1) := by decide +kernel
theorem dX5_readSum_2 : decode cX5_readSum 2 = .ok (.iload_n 2, 1) := by decide +kernel
theorem dX5_readSum_3 : decode cX5_readSum 3 = .ok (.invokevirtual 47, 3) := by decide +kernel
theorem dX5_readSum_6 : decode cX5_readSum 6 = .ok (.iconst 0, 1) := by decide +kernel
theorem dX5_readSum_7 : decode cX5_readSum 7 = .ok (.istore_n 3, 1) := by decide +kernel
theorem dX5_readSum_8 : decode cX5_readSum 8 = .ok (.iload_n 3, 1) := by decide +kernel
theorem dX5_readSum_9 : decode cX5_readSum 9 = .ok (.sipush 150, 3) := by decide +kernel
theorem dX5_readSum_12 : decode cX5_readSum 12 = .ok (.if_icmp .ge 61, 3) := by decide +kernel
theorem dX5_readSum_15 : decode cX5_readSum 15 = .ok (.aload_n 1, 1) := by decide +kernel
theorem dX5_readSum_16 : decode cX5_readSum 16 = .ok (.bipush 43, 2) := by decide +kernel
theorem dX5_readSum_18 : decode cX5_readSum 18 = .ok (.invokevirtual 50, 3) := by decide +kernel
theorem dX5_readSum_21 : decode cX5_readSum 21 = .ok (.ifCond .eq 9, 3) := by decide +kernel
theorem dX5_readSum_24 : decode cX5_readSum 24 = .ok (.sipush 2000, 3) := by decide +kernel
theorem dX5_readSum_27 : decode cX5_readSum 27 = .ok (.goto 19, 3) := by decide +kernel
theorem dX5_readSum_30 : decode cX5_readSum 30 = .ok (.aload_n 1, 1) := by decide +kernel
theorem dX5_readSum_31 : decode cX5_readSum 31 = .ok (.bipush 45, 2) := by decide +kernel
theorem dX5_readSum_33 : decode cX5_readSum 33 = .ok (.invokevirtual 50, 3) := by decide +kernel
theorem dX5_readSum_36 : decode cX5_readSum 36 = .ok (.ifCond .eq 9, 3) := by decide +kernel
theorem dX5_readSum_39 : decode cX5_readSum 39 = .ok (.sipush 2001, 3) := by decide +kernel
theorem dX5_readSum_42 : decode cX5_readSum 42 = .ok (.goto 4, 3) := by decide +kernel
theorem dX5_readSum_45 : decode cX5_readSum 45 = .ok (.iconst (-1), 1) := by decide +kernel
theorem dX5_readSum_46 : decode cX5_readSum 46 = .ok (.istore 4, 2) := by decide +kernel
theorem dX5_readSum_48 : decode cX5_readSum 48 = .ok (.iload 4, 2) := by decide +kernel
theorem dX5_readSum_50 : decode cX5_readSum 50 = .ok (.iconst (-1), 1) := by decide +kernel
theorem dX5_readSum_51 : decode cX5_readSum 51 = .ok (.if_icmp .ne 4, 3) := by decide +kernel
theorem dX5_readSum_54 : decode cX5_readSum 54 = .ok (.return_, 1) := by decide +kernel
theorem dX5_readSum_55 : decode cX5_readSum 55 = .ok (.aload_n 0, 1) := by decide +kernel
theorem dX5_readSum_56 : decode cX5_readSum 56 = .ok (.aload_n 1, 1) := by decide +kernel
theorem dX5_readSum_57 : decode cX5_readSum 57 = .ok (.iload_n 2, 1) := by decide +kernel
theorem dX5_readSum_58 : decode cX5_readSum 58 = .ok (.invokevirtual 47, 3) := by decide +kernel
theorem dX5_readSum_61 : decode cX5_readSum 61 = .ok (.aload_n 0, 1) := by decide +kernel
theorem dX5_readSum_62 : decode cX5_readSum 62 = .ok (.iload 4, 2) := by decide +kernel
theorem dX5_readSum_64 : decode cX5_readSum 64 = .ok (.invokevirtual 25, 3) := by decide +kernel
theorem dX5_readSum_67 : decode cX5_readSum 67 = .ok (.iinc 3 1, 3) := by decide +kernel
theorem dX5_readSum_70 : decode cX5_readSum 70 = .ok (.goto (-62), 3) := by decide +kernel
theorem dX5_readSum_73 : decode cX5_readSum 73 = .ok (.return_, 1) := by decide +kernel
theorem dX5_readProduct_0 : decode cX5_readProduct 0 = .ok (.aload_n 0, 1) := by decide +kernel
theorem dX5_readProduct_1 : decode cX5_readProduct 1 = .ok (.aload_n 1, 1) := by decide +kernel
theorem dX5_readProduct_2 : decode cX5_readProduct 2 = .ok (.iload_n 2, 1) := by decide +kernel
theorem dX5_readProduct_3 : decode cX5_readProduct 3 = .ok (.invokevirtual 54, 3) := by decide +kernel
theorem dX5_readProduct_6 : decode cX5_readProduct 6 = .ok (.iconst 0, 1) := by decide +kernel
theorem dX5_readProduct_7 : decode cX5_readProduct 7 = .ok (.istore_n 3, 1) := by decide +kernel
theorem dX5_readProduct_8 : decode cX5_readProduct 8 = .ok (.iload_n 3, 1) := by decide +kernel
theorem dX5_readProduct_9 : decode cX5_readProduct 9 = .ok (.sipush 150, 3) := by decide +kernel
theorem dX5_readProduct_12 : decode cX5_readProduct 12 = .ok (.if_icmp .ge 76, 3) := by decide +kernel
theorem dX5_readProduct_15 : decode cX5_readProduct 15 = .ok (.aload_n 1, 1) := by decide +kernel
theorem dX5_readProduct_16 : decode cX5_readProduct 16 = .ok (.bipush 42, 2) := by decide +kernel
theorem dX5_readProduct_18 : decode cX5_readProduct 18 = .ok (.invokevirtual 50, 3) := by decide +kernel
theorem dX5_readProduct_21 : decode cX5_readProduct 21 = .ok (.ifCond .eq 9, 3) := by decide +kernel
theorem dX5_readProduct_24 : decode cX5_readProduct 24 = .ok (.sipush 2002, 3) := by decide +kernel
theorem dX5_readProduct_27 : decode cX5_readProduct 27 = .ok (.goto 34, 3) := by decide +kernel
theorem dX5_readProduct_30 : decode cX5_readProduct 30 = .ok (.aload_n 1, 1) := by decide +kernel
theorem dX5_readProduct_31 : decode cX5_readProduct 31 = .ok (.bipush 47, 2) := by decide +kernel
theorem dX5_readProduct_33 : decode cX5_readProduct 33 = .ok (.invokevirtual 50, 3) := by decide +kernel
theorem dX5_readProduct_36 : decode cX5_readProduct 36 = .ok (.ifCond .eq 9, 3) := by decide +kernel
theorem dX5_readProduct_39 : decode cX5_readProduct 39 = .ok (.sipush 2003, 3) := by decide +kernel
theorem dX5_readProduct_42 : decode cX5_readProduct 42 = .ok (.goto 19, 3) := by decide +kernel
theorem dX5_readProduct_45 : decode cX5_readProduct 45 = .ok (.aload_n 1, 1) := by decide +kernel
theorem dX5_readProduct_46 : decode cX5_readProduct 46 = .ok (.bipush 37, 2) := by decide +kernel
theorem dX5_readProduct_48 : decode cX5_readProduct 48 = .ok (.invokevirtual 50, 3) := by decide +kernel
theorem dX5_readProduct_51 : decode cX5_readProduct 51 = .ok (.ifCond .eq 9, 3) := by decide +kernel
theorem dX5_readProduct_54 : decode cX5_readProduct 54 = .ok (.sipush 2004, 3) := by decide +kernel
theorem dX5_readProduct_57 : decode cX5_readProduct 57 = .ok (.goto 4, 3) := by decide +kernel
theorem dX5_readProduct_60 : decode cX5_readProduct 60 = .ok (.iconst (-1), 1) := by decide +kernel
theorem dX5_readProduct_61 : decode cX5_readProduct 61 = .ok (.istore 4, 2) := by decide +kernel
theorem dX5_readProduct_63 : decode cX5_readProduct 63 = .ok (.iload 4, 2) := by decide +kernel
theorem dX5_readProduct_65 : decode cX5_readProduct 65 = .ok (.iconst (-1), 1) := by decide +kernel
theorem dX5_readProduct_66 : decode cX5_readProduct 66 = .ok (.if_icmp .ne 4, 3) := by decide +kernel
theorem dX5_readProduct_69 : decode cX5_readProduct 69 = .ok (.return_, 1) := by decide +kernel
theorem dX5_readProduct_70 : decode cX5_readProduct 70 = .ok (.aload_n 0, 1) := by decide +kernel
theorem dX5_readProduct_71 : decode cX5_readProduct 71 = .ok (.aload_n 1, 1) := by decide +kernel
theorem dX5_readProduct_72 : decode cX5_readProduct 72 = .ok (.iload_n 2, 1) := by decide +kernel
theorem dX5_readProduct_73 : decode cX5_readProduct 73 = .ok (.invokevirtual 54, 3) := by decide +kernel
theorem dX5_readProduct_76 : decode cX5_readProduct 76 = .ok (.aload_n 0, 1) := by decide +kernel
theorem dX5_readProduct_77 : decode cX5_readProduct 77 = .ok (.iload 4, 2) := by decide +kernel
theorem dX5_readProduct_79 : decode cX5_readProduct 79 = .ok (.invokevirtual 25, 3) := by decide +kernel
theorem dX5_readProduct_82 : decode cX5_readProduct 82 = .ok (.iinc 3 1, 3) := by decide +kernel
theorem dX5_readProduct_85 : decode cX5_readProduct 85 = .ok (.goto (-77), 3) := by decide +kernel
theorem dX5_readProduct_88 : decode cX5_readProduct 88 = .ok (.return_, 1) := by decide +kernel
theorem dX5_readUnit_0 : decode cX5_readUnit 0 = .ok (.aload_n 1, 1) := by decide +kernel
theorem dX5_readUnit_1 : decode cX5_readUnit 1 = .ok (.invokevirtual 39, 3) := by decide +kernel
theorem dX5_readUnit_4 : decode cX5_readUnit 4 = .ok (.istore_n 3, 1) := by decide +kernel
theorem dX5_readUnit_5 : decode cX5_readUnit 5 = .ok (.aload_n 1, 1) := by decide +kernel
theorem dX5_readUnit_6 : decode cX5_readUnit 6 = .ok (.invokestatic 57, 3) := by decide +kernel
theorem dX5_readUnit_9 : decode cX5_readUnit 9 = .ok (.istore 4, 2) := by decide +kernel
theorem dX5_readUnit_11 : decode cX5_readUnit 11 = .ok (.iload 4, 2) := by decide +kernel
theorem dX5_readUnit_13 : decode cX5_readUnit 13 = .ok (.iconst (-1), 1) := by decide +kernel
theorem dX5_readUnit_14 : decode cX5_readUnit 14 = .ok (.if_icmp .eq 16, 3) := by decide +kernel
theorem dX5_readUnit_17 : decode cX5_readUnit 17 = .ok (.aload_n 0, 1) := by decide +kernel
theorem dX5_readUnit_18 : decode cX5_readUnit 18 = .ok (.sipush 1000, 3) := by decide +kernel
theorem dX5_readUnit_21 : decode cX5_readUnit 21 = .ok (.iload 4, 2) := by decide +kernel
theorem dX5_readUnit_23 : decode cX5_readUnit 23 = .ok (.iadd, 1) := by decide +kernel
theorem dX5_readUnit_24 : decode cX5_readUnit 24 = .ok (.invokevirtual 25, 3) := by decide +kernel
theorem dX5_readUnit_27 : decode cX5_readUnit 27 = .ok (.goto 32, 3) := by decide +kernel
theorem dX5_readUnit_30 : decode cX5_readUnit 30 = .ok (.aload_n 1, 1) := by decide +kernel
theorem dX5_readUnit_31 : decode cX5_readUnit 31 = .ok (.invokevirtual 61, 3) := by decide +kernel
theorem dX5_readUnit_34 : decode cX5_readUnit 34 = .ok (.ifCond .eq 18, 3) := by decide +kernel
theorem dX5_readUnit_37 : decode cX5_readUnit 37 = .ok (.aload_n 0, 1) := by decide +kernel
theorem dX5_readUnit_38 : decode cX5_readUnit 38 = .ok (.aload_n 1, 1) := by decide +kernel
theorem dX5_readUnit_39 : decode cX5_readUnit 39 = .ok (.iconst 0, 1) := by decide +kernel
theorem dX5_readUnit_40 : decode cX5_readUnit 40 = .ok (.sipush 999, 3) := by decide +kernel
theorem dX5_readUnit_43 : decode cX5_readUnit 43 = .ok (.invokevirtual 64, 3) := by decide +kernel
theorem dX5_readUnit_46 : decode cX5_readUnit 46 = .ok (.invokevirtual 25, 3) := by decide +kernel
theorem dX5_readUnit_49 : decode cX5_readUnit 49 = .ok (.goto 10, 3) := by decide +kernel
theorem dX5_readUnit_52 : decode cX5_readUnit 52 = .ok (.aload_n 0, 1) := by decide +kernel
theorem dX5_readUnit_53 : decode cX5_readUnit 53 = .ok (.aload_n 1, 1) := by decide +kernel
theorem dX5_readUnit_54 : decode cX5_readUnit 54 = .ok (.iload_n 2, 1) := by decide +kernel
theorem dX5_readUnit_55 : decode cX5_readUnit 55 = .ok (.iload_n 3, 1) := by decide +kernel
theorem dX5_readUnit_56 : decode cX5_readUnit 56 = .ok (.invokevirtual 68, 3) := by decide +kernel
theorem dX5_readUnit_59 : decode cX5_readUnit 59 = .ok (.return_, 1) := by decide +kernel
theorem dX5_readOpened_0 : decode cX5_readOpened 0 = .ok (.aload_n 1, 1) := by decide +kernel
theorem dX5_readOpened_1 : decode cX5_readOpened 1 = .ok (.bipush 40, 2) := by decide +kernel
theorem dX5_readOpened_3 : decode cX5_readOpened 3 = .ok (.invokevirtual 50, 3) := by decide +kernel
theorem dX5_readOpened_6 : decode cX5_readOpened 6 = .ok (.istore 4, 2) := by decide +kernel
theorem dX5_readOpened_8 : decode cX5_readOpened 8 = .ok (.iload 4, 2) := by decide +kernel
theorem dX5_readOpened_10 : decode cX5_readOpened 10 = .ok (.ifCond .ne 16, 3) := by decide +kernel
theorem dX5_readOpened_13 : decode cX5_readOpened 13 = .ok (.aload_n 1, 1) := by decide +kernel
theorem dX5_readOpened_14 : decode cX5_readOpened 14 = .ok (.ldc 72, 2) := by decide +kernel
theorem dX5_readOpened_16 : decode cX5_readOpened 16 = .ok (.invokevirtual 74, 3) := by decide +kernel
theorem dX5_readOpened_19 : decode cX5_readOpened 19 = .ok (.ifCond .eq 7, 3) := by decide +kernel
theorem dX5_readOpened_22 : decode cX5_readOpened 22 = .ok (.iconst 1, 1) := by decide +kernel
theorem dX5_readOpened_23 : decode cX5_readOpened 23 = .ok (.goto 4, 3) := by decide +kernel
theorem dX5_readOpened_26 : decode cX5_readOpened 26 = .ok (.iconst 0, 1) := by decide +kernel
theorem dX5_readOpened_27 : decode cX5_readOpened 27 = .ok (.istore 5, 2) := by decide +kernel
theorem dX5_readOpened_29 : decode cX5_readOpened 29 = .ok (.iload 4, 2) := by decide +kernel
theorem dX5_readOpened_31 : decode cX5_readOpened 31 = .ok (.ifCond .ne 26, 3) := by decide +kernel
theorem dX5_readOpened_34 : decode cX5_readOpened 34 = .ok (.iload 5, 2) := by decide +kernel
theorem dX5_readOpened_36 : decode cX5_readOpened 36 = .ok (.ifCond .ne 21, 3) := by decide +kernel
theorem dX5_readOpened_39 : decode cX5_readOpened 39 = .ok (.aload_n 1, 1) := by decide +kernel
theorem dX5_readOpened_40 : decode cX5_readOpened 40 = .ok (.ldc 78, 2) := by decide +kernel
theorem dX5_readOpened_42 : decode cX5_readOpened 42 = .ok (.invokevirtual 74, 3) := by decide +kernel
theorem dX5_readOpened_45 : decode cX5_readOpened 45 = .ok (.ifCond .ne 12, 3) := by decide +kernel
theorem dX5_readOpened_48 : decode cX5_readOpened 48 = .ok (.aload_n 1, 1) := by decide +kernel
theorem dX5_readOpened_49 : decode cX5_readOpened 49 = .ok (.iconst 1, 1) := by decide +kernel
theorem dX5_readOpened_50 : decode cX5_readOpened 50 = .ok (.iload_n 3, 1) := by decide +kernel
theorem dX5_readOpened_51 : decode cX5_readOpened 51 = .ok (.invokevirtual 43, 3) := by decide +kernel
theorem dX5_readOpened_54 : decode cX5_readOpened 54 = .ok (.goto 92, 3) := by decide +kernel
theorem dX5_readOpened_57 : decode cX5_readOpened 57 = .ok (.iload_n 2, 1) := by decide +kernel
theorem dX5_readOpened_58 : decode cX5_readOpened 58 = .ok (.bipush 6, 2) := by decide +kernel
theorem dX5_readOpened_60 : decode cX5_readOpened 60 = .ok (.if_icmp .lt 12, 3) := by decide +kernel
theorem dX5_readOpened_63 : decode cX5_readOpened 63 = .ok (.aload_n 1, 1) := by decide +kernel
theorem dX5_readOpened_64 : decode cX5_readOpened 64 = .ok (.iconst 3, 1) := by decide +kernel
theorem dX5_readOpened_65 : decode cX5_readOpened 65 = .ok (.iload_n 3, 1) := by decide +kernel
theorem dX5_readOpened_66 : decode cX5_readOpened 66 = .ok (.invokevirtual 43, 3) := by decide +kernel
theorem dX5_readOpened_69 : decode cX5_readOpened 69 = .ok (.goto 77, 3) := by decide +kernel
theorem dX5_readOpened_72 : decode cX5_readOpened 72 = .ok (.iload 4, 2) := by decide +kernel
theorem dX5_readOpened_74 : decode cX5_readOpened 74 = .ok (.ifCond .eq 20, 3) := by decide +kernel
theorem dX5_readOpened_77 : decode cX5_readOpened 77 = .ok (.aload_n 0, 1) := by decide +kernel
theorem dX5_readOpened_78 : decode cX5_readOpened 78 = .ok (.aload_n 1, 1) := by decide +kernel
theorem dX5_readOpened_79 : decode cX5_readOpened 79 = .ok (.iload_n 2, 1) := by decide +kernel
theorem dX5_readOpened_80 : decode cX5_readOpened 80 = .ok (.iconst 1, 1) := by decide +kernel
theorem dX5_readOpened_81 : decode cX5_readOpened 81 = .ok (.iadd, 1) := by decide +kernel
theorem dX5_readOpened_82 : decode cX5_readOpened 82 = .ok (.invokevirtual 29, 3) := by decide +kernel
theorem dX5_readOpened_85 : decode cX5_readOpened 85 = .ok (.aload_n 1, 1) := by decide +kernel
theorem dX5_readOpened_86 : decode cX5_readOpened 86 = .ok (.bipush 41, 2) := by decide +kernel
theorem dX5_readOpened_88 : decode cX5_readOpened 88 = .ok (.invokevirtual 80, 3) := by decide +kernel
theorem dX5_readOpened_91 : decode cX5_readOpened 91 = .ok (.goto 55, 3) := by decide +kernel
theorem dX5_readOpened_94 : decode cX5_readOpened 94 = .ok (.aload_n 1, 1) := by decide +kernel
theorem dX5_readOpened_95 : decode cX5_readOpened 95 = .ok (.bipush 91, 2) := by decide +kernel
theorem dX5_readOpened_97 : decode cX5_readOpened 97 = .ok (.invokevirtual 80, 3) := by decide +kernel
theorem dX5_readOpened_100 : decode cX5_readOpened 100 = .ok (.aload_n 0, 1) := by decide +kernel
theorem dX5_readOpened_101 : decode cX5_readOpened 101 = .ok (.aload_n 1, 1) := by decide +kernel
theorem dX5_readOpened_102 : decode cX5_readOpened 102 = .ok (.iload_n 2, 1) := by decide +kernel
theorem dX5_readOpened_103 : decode cX5_readOpened 103 = .ok (.iconst 1, 1) := by decide +kernel
theorem dX5_readOpened_104 : decode cX5_readOpened 104 = .ok (.iadd, 1) := by decide +kernel
theorem dX5_readOpened_105 : decode cX5_readOpened 105 = .ok (.invokevirtual 29, 3) := by decide +kernel
theorem dX5_readOpened_108 : decode cX5_readOpened 108 = .ok (.aload_n 1, 1) := by decide +kernel
theorem dX5_readOpened_109 : decode cX5_readOpened 109 = .ok (.bipush 44, 2) := by decide +kernel
theorem dX5_readOpened_111 : decode cX5_readOpened 111 = .ok (.invokevirtual 80, 3) := by decide +kernel
theorem dX5_readOpened_114 : decode cX5_readOpened 114 = .ok (.aload_n 0, 1) := by decide +kernel
theorem dX5_readOpened_115 : decode cX5_readOpened 115 = .ok (.aload_n 1, 1) := by decide +kernel
theorem dX5_readOpened_116 : decode cX5_readOpened 116 = .ok (.iload_n 2, 1) := by decide +kernel
theorem dX5_readOpened_117 : decode cX5_readOpened 117 = .ok (.iconst 1, 1) := by decide +kernel
theorem dX5_readOpened_118 : decode cX5_readOpened 118 = .ok (.iadd, 1) := by decide +kernel
theorem dX5_readOpened_119 : decode cX5_readOpened 119 = .ok (.invokevirtual 29, 3) := by decide +kernel
theorem dX5_readOpened_122 : decode cX5_readOpened 122 = .ok (.aload_n 1, 1) := by decide +kernel
theorem dX5_readOpened_123 : decode cX5_readOpened 123 = .ok (.bipush 93, 2) := by decide +kernel
theorem dX5_readOpened_125 : decode cX5_readOpened 125 = .ok (.invokevirtual 80, 3) := by decide +kernel
theorem dX5_readOpened_128 : decode cX5_readOpened 128 = .ok (.aload_n 0, 1) := by decide +kernel
theorem dX5_readOpened_129 : decode cX5_readOpened 129 = .ok (.iload 5, 2) := by decide +kernel
theorem dX5_readOpened_131 : decode cX5_readOpened 131 = .ok (.ifCond .eq 9, 3) := by decide +kernel
theorem dX5_readOpened_134 : decode cX5_readOpened 134 = .ok (.sipush 2005, 3) := by decide +kernel
theorem dX5_readOpened_137 : decode cX5_readOpened 137 = .ok (.goto 6, 3) := by decide +kernel
theorem dX5_readOpened_140 : decode cX5_readOpened 140 = .ok (.sipush 2006, 3) := by decide +kernel
theorem dX5_readOpened_143 : decode cX5_readOpened 143 = .ok (.invokevirtual 25, 3) := by decide +kernel
theorem dX5_readOpened_146 : decode cX5_readOpened 146 = .ok (.return_, 1) := by decide +kernel
theorem dX5_givenWord_0 : decode cX5_givenWord 0 = .ok (.aload_n 0, 1) := by decide +kernel
theorem dX5_givenWord_1 : decode cX5_givenWord 1 = .ok (.ldc 84, 2) := by decide +kernel
theorem dX5_givenWord_3 : decode cX5_givenWord 3 = .ok (.invokevirtual 74, 3) := by decide +kernel
theorem dX5_givenWord_6 : decode cX5_givenWord 6 = .ok (.ifCond .eq 5, 3) := by decide +kernel
theorem dX5_givenWord_9 : decode cX5_givenWord 9 = .ok (.iconst 0, 1) := by decide +kernel
theorem dX5_givenWord_10 : decode cX5_givenWord 10 = .ok (.ireturn, 1) := by decide +kernel
theorem dX5_givenWord_11 : decode cX5_givenWord 11 = .ok (.aload_n 0, 1) := by decide +kernel
theorem dX5_givenWord_12 : decode cX5_givenWord 12 = .ok (.ldc 86, 2) := by decide +kernel
theorem dX5_givenWord_14 : decode cX5_givenWord 14 = .ok (.invokevirtual 74, 3) := by decide +kernel
theorem dX5_givenWord_17 : decode cX5_givenWord 17 = .ok (.ifCond .eq 5, 3) := by decide +kernel
theorem dX5_givenWord_20 : decode cX5_givenWord 20 = .ok (.iconst 1, 1) := by decide +kernel
theorem dX5_givenWord_21 : decode cX5_givenWord 21 = .ok (.ireturn, 1) := by decide +kernel
theorem dX5_givenWord_22 : decode cX5_givenWord 22 = .ok (.aload_n 0, 1) := by decide +kernel
theorem dX5_givenWord_23 : decode cX5_givenWord 23 = .ok (.ldc 88, 2) := by decide +kernel
theorem dX5_givenWord_25 : decode cX5_givenWord 25 = .ok (.invokevirtual 74, 3) := by decide +kernel
theorem dX5_givenWord_28 : decode cX5_givenWord 28 = .ok (.ifCond .eq 5, 3) := by decide +kernel
theorem dX5_givenWord_31 : decode cX5_givenWord 31 = .ok (.iconst 2, 1) := by decide +kernel
theorem dX5_givenWord_32 : decode cX5_givenWord 32 = .ok (.ireturn, 1) := by decide +kernel
theorem dX5_givenWord_33 : decode cX5_givenWord 33 = .ok (.aload_n 0, 1) := by decide +kernel
theorem dX5_givenWord_34 : decode cX5_givenWord 34 = .ok (.ldc 90, 2) := by decide +kernel
theorem dX5_givenWord_36 : decode cX5_givenWord 36 = .ok (.invokevirtual 74, 3) := by decide +kernel
theorem dX5_givenWord_39 : decode cX5_givenWord 39 = .ok (.ifCond .eq 5, 3) := by decide +kernel
theorem dX5_givenWord_42 : decode cX5_givenWord 42 = .ok (.iconst 3, 1) := by decide +kernel
theorem dX5_givenWord_43 : decode cX5_givenWord 43 = .ok (.ireturn, 1) := by decide +kernel
theorem dX5_givenWord_44 : decode cX5_givenWord 44 = .ok (.aload_n 0, 1) := by decide +kernel
theorem dX5_givenWord_45 : decode cX5_givenWord 45 = .ok (.ldc 92, 2) := by decide +kernel
theorem dX5_givenWord_47 : decode cX5_givenWord 47 = .ok (.invokevirtual 74, 3) := by decide +kernel
theorem dX5_givenWord_50 : decode cX5_givenWord 50 = .ok (.ifCond .eq 5, 3) := by decide +kernel
theorem dX5_givenWord_53 : decode cX5_givenWord 53 = .ok (.iconst 4, 1) := by decide +kernel
theorem dX5_givenWord_54 : decode cX5_givenWord 54 = .ok (.ireturn, 1) := by decide +kernel
theorem dX5_givenWord_55 : decode cX5_givenWord 55 = .ok (.aload_n 0, 1) := by decide +kernel
theorem dX5_givenWord_56 : decode cX5_givenWord 56 = .ok (.ldc 94, 2) := by decide +kernel
theorem dX5_givenWord_58 : decode cX5_givenWord 58 = .ok (.invokevirtual 74, 3) := by decide +kernel
theorem dX5_givenWord_61 : decode cX5_givenWord 61 = .ok (.ifCond .eq 5, 3) := by decide +kernel
theorem dX5_givenWord_64 : decode cX5_givenWord 64 = .ok (.iconst 5, 1) := by decide +kernel
theorem dX5_givenWord_65 : decode cX5_givenWord 65 = .ok (.ireturn, 1) := by decide +kernel
theorem dX5_givenWord_66 : decode cX5_givenWord 66 = .ok (.aload_n 0, 1) := by decide +kernel
theorem dX5_givenWord_67 : decode cX5_givenWord 67 = .ok (.ldc 96, 2) := by decide +kernel
theorem dX5_givenWord_69 : decode cX5_givenWord 69 = .ok (.invokevirtual 74, 3) := by decide +kernel
theorem dX5_givenWord_72 : decode cX5_givenWord 72 = .ok (.ifCond .eq 6, 3) := by decide +kernel
theorem dX5_givenWord_75 : decode cX5_givenWord 75 = .ok (.bipush 6, 2) := by decide +kernel
theorem dX5_givenWord_77 : decode cX5_givenWord 77 = .ok (.ireturn, 1) := by decide +kernel
theorem dX5_givenWord_78 : decode cX5_givenWord 78 = .ok (.aload_n 0, 1) := by decide +kernel
theorem dX5_givenWord_79 : decode cX5_givenWord 79 = .ok (.ldc 98, 2) := by decide +kernel
theorem dX5_givenWord_81 : decode cX5_givenWord 81 = .ok (.invokevirtual 74, 3) := by decide +kernel
theorem dX5_givenWord_84 : decode cX5_givenWord 84 = .ok (.ifCond .eq 8, 3) := by decide +kernel
theorem dX5_givenWord_87 : decode cX5_givenWord 87 = .ok (.bipush 7, 2) := by decide +kernel
theorem dX5_givenWord_89 : decode cX5_givenWord 89 = .ok (.goto 4, 3) := by decide +kernel
theorem dX5_givenWord_92 : decode cX5_givenWord 92 = .ok (.iconst (-1), 1) := by decide +kernel
theorem dX5_givenWord_93 : decode cX5_givenWord 93 = .ok (.ireturn, 1) := by decide +kernel
theorem dX5_weigh_0 : decode cX5_weigh 0 = .ok (.iconst 0, 1) := by decide +kernel
theorem dX5_weigh_1 : decode cX5_weigh 1 = .ok (.istore_n 2, 1) := by decide +kernel
theorem dX5_weigh_2 : decode cX5_weigh 2 = .ok (.iconst 0, 1) := by decide +kernel
theorem dX5_weigh_3 : decode cX5_weigh 3 = .ok (.istore_n 3, 1) := by decide +kernel
theorem dX5_weigh_4 : decode cX5_weigh 4 = .ok (.iload_n 3, 1) := by decide +kernel
theorem dX5_weigh_5 : decode cX5_weigh 5 = .ok (.aload_n 0, 1) := by decide +kernel
theorem dX5_weigh_6 : decode cX5_weigh 6 = .ok (.getfield 21, 3) := by decide +kernel
theorem dX5_weigh_9 : decode cX5_weigh 9 = .ok (.if_icmp .ge 114, 3) := by decide +kernel
theorem dX5_weigh_12 : decode cX5_weigh 12 = .ok (.iload_n 2, 1) := by decide +kernel
theorem dX5_weigh_13 : decode cX5_weigh 13 = .ok (.aload_n 0, 1) := by decide +kernel
theorem dX5_weigh_14 : decode cX5_weigh 14 = .ok (.getfield 15, 3) := by decide +kernel
theorem dX5_weigh_17 : decode cX5_weigh 17 = .ok (.arraylength, 1) := by decide +kernel
theorem dX5_weigh_18 : decode cX5_weigh 18 = .ok (.if_icmp .ge 105, 3) := by decide +kernel
theorem dX5_weigh_21 : decode cX5_weigh 21 = .ok (.aload_n 0, 1) := by decide +kernel
theorem dX5_weigh_22 : decode cX5_weigh 22 = .ok (.getfield 9, 3) := by decide +kernel
theorem dX5_weigh_25 : decode cX5_weigh 25 = .ok (.iload_n 3, 1) := by decide +kernel
theorem dX5_weigh_26 : decode cX5_weigh 26 = .ok (.iaload, 1) := by decide +kernel
theorem dX5_weigh_27 : decode cX5_weigh 27 = .ok (.istore 4, 2) := by decide +kernel
theorem dX5_weigh_29 : decode cX5_weigh 29 = .ok (.iload 4, 2) := by decide +kernel
theorem dX5_weigh_31 : decode cX5_weigh 31 = .ok (.sipush 1000, 3) := by decide +kernel
theorem dX5_weigh_34 : decode cX5_weigh 34 = .ok (.if_icmp .ge 17, 3) := by decide +kernel
theorem dX5_weigh_37 : decode cX5_weigh 37 = .ok (.aload_n 0, 1) := by decide +kernel
theorem dX5_weigh_38 : decode cX5_weigh 38 = .ok (.getfield 15, 3) := by decide +kernel
theorem dX5_weigh_41 : decode cX5_weigh 41 = .ok (.iload_n 2, 1) := by decide +kernel
theorem dX5_weigh_42 : decode cX5_weigh 42 = .ok (.iload 4, 2) := by decide +kernel
theorem dX5_weigh_44 : decode cX5_weigh 44 = .ok (.iastore, 1) := by decide +kernel
theorem dX5_weigh_45 : decode cX5_weigh 45 = .ok (.iinc 2 1, 3) := by decide +kernel
theorem dX5_weigh_48 : decode cX5_weigh 48 = .ok (.goto 69, 3) := by decide +kernel
theorem dX5_weigh_51 : decode cX5_weigh 51 = .ok (.iload 4, 2) := by decide +kernel
theorem dX5_weigh_53 : decode cX5_weigh 53 = .ok (.sipush 1000, 3) := by decide +kernel
theorem dX5_weigh_56 : decode cX5_weigh 56 = .ok (.isub, 1) := by decide +kernel
theorem dX5_weigh_57 : decode cX5_weigh 57 = .ok (.aload_n 1, 1) := by decide +kernel
theorem dX5_weigh_58 : decode cX5_weigh 58 = .ok (.arraylength, 1) := by decide +kernel
theorem dX5_weigh_59 : decode cX5_weigh 59 = .ok (.if_icmp .ge 23, 3) := by decide +kernel
theorem dX5_weigh_62 : decode cX5_weigh 62 = .ok (.aload_n 0, 1) := by decide +kernel
theorem dX5_weigh_63 : decode cX5_weigh 63 = .ok (.getfield 15, 3) := by decide +kernel
theorem dX5_weigh_66 : decode cX5_weigh 66 = .ok (.iload_n 2, 1) := by decide +kernel
theorem dX5_weigh_67 : decode cX5_weigh 67 = .ok (.aload_n 1, 1) := by decide +kernel
theorem dX5_weigh_68 : decode cX5_weigh 68 = .ok (.iload 4, 2) := by decide +kernel
theorem dX5_weigh_70 : decode cX5_weigh 70 = .ok (.sipush 1000, 3) := by decide +kernel
theorem dX5_weigh_73 : decode cX5_weigh 73 = .ok (.isub, 1) := by decide +kernel
theorem dX5_weigh_74 : decode cX5_weigh 74 = .ok (.iaload, 1) := by decide +kernel
theorem dX5_weigh_75 : decode cX5_weigh 75 = .ok (.iastore, 1) := by decide +kernel
theorem dX5_weigh_76 : decode cX5_weigh 76 = .ok (.iinc 2 1, 3) := by decide +kernel
theorem dX5_weigh_79 : decode cX5_weigh 79 = .ok (.goto 38, 3) := by decide +kernel
theorem dX5_weigh_82 : decode cX5_weigh 82 = .ok (.iload_n 2, 1) := by decide +kernel
theorem dX5_weigh_83 : decode cX5_weigh 83 = .ok (.iconst 2, 1) := by decide +kernel
theorem dX5_weigh_84 : decode cX5_weigh 84 = .ok (.if_icmp .lt 33, 3) := by decide +kernel
theorem dX5_weigh_87 : decode cX5_weigh 87 = .ok (.iinc 2 (-1), 3) := by decide +kernel
theorem dX5_weigh_90 : decode cX5_weigh 90 = .ok (.aload_n 0, 1) := by decide +kernel
theorem dX5_weigh_91 : decode cX5_weigh 91 = .ok (.getfield 15, 3) := by decide +kernel
theorem dX5_weigh_94 : decode cX5_weigh 94 = .ok (.iload_n 2, 1) := by decide +kernel
theorem dX5_weigh_95 : decode cX5_weigh 95 = .ok (.iconst 1, 1) := by decide +kernel
theorem dX5_weigh_96 : decode cX5_weigh 96 = .ok (.isub, 1) := by decide +kernel
theorem dX5_weigh_97 : decode cX5_weigh 97 = .ok (.iload 4, 2) := by decide +kernel
theorem dX5_weigh_99 : decode cX5_weigh 99 = .ok (.aload_n 0, 1) := by decide +kernel
theorem dX5_weigh_100 : decode cX5_weigh 100 = .ok (.getfield 15, 3) := by decide +kernel
theorem dX5_weigh_103 : decode cX5_weigh 103 = .ok (.iload_n 2, 1) := by decide +kernel
theorem dX5_weigh_104 : decode cX5_weigh 104 = .ok (.iconst 1, 1) := by decide +kernel
theorem dX5_weigh_105 : decode cX5_weigh 105 = .ok (.isub, 1) := by decide +kernel
theorem dX5_weigh_106 : decode cX5_weigh 106 = .ok (.iaload, 1) := by decide +kernel
theorem dX5_weigh_107 : decode cX5_weigh 107 = .ok (.aload_n 0, 1) := by decide +kernel
theorem dX5_weigh_108 : decode cX5_weigh 108 = .ok (.getfield 15, 3) := by decide +kernel
theorem dX5_weigh_111 : decode cX5_weigh 111 = .ok (.iload_n 2, 1) := by decide +kernel
theorem dX5_weigh_112 : decode cX5_weigh 112 = .ok (.iaload, 1) := by decide +kernel
theorem dX5_weigh_113 : decode cX5_weigh 113 = .ok (.invokestatic 100, 3) := by decide +kernel
theorem dX5_weigh_116 : decode cX5_weigh 116 = .ok (.iastore, 1) := by decide +kernel
theorem dX5_weigh_117 : decode cX5_weigh 117 = .ok (.iinc 3 1, 3) := by decide +kernel
theorem dX5_weigh_120 : decode cX5_weigh 120 = .ok (.goto (-116), 3) := by decide +kernel
theorem dX5_weigh_123 : decode cX5_weigh 123 = .ok (.aload_n 0, 1) := by decide +kernel
theorem dX5_weigh_124 : decode cX5_weigh 124 = .ok (.getfield 15, 3) := by decide +kernel
theorem dX5_weigh_127 : decode cX5_weigh 127 = .ok (.iconst 0, 1) := by decide +kernel
theorem dX5_weigh_128 : decode cX5_weigh 128 = .ok (.iaload, 1) := by decide +kernel
theorem dX5_weigh_129 : decode cX5_weigh 129 = .ok (.ireturn, 1) := by decide +kernel
theorem dX5_joined_0 : decode cX5_joined 0 = .ok (.iload_n 0, 1) := by decide +kernel
theorem dX5_joined_1 : decode cX5_joined 1 = .ok (.tableswitch 81 2000 2005 #[39, 43, 47, 51, 63, 75], 39) := by decide +kernel
theorem dX5_joined_40 : decode cX5_joined 40 = .ok (.iload_n 1, 1) := by decide +kernel
theorem dX5_joined_41 : decode cX5_joined 41 = .ok (.iload_n 2, 1) := by decide +kernel
theorem dX5_joined_42 : decode cX5_joined 42 = .ok (.iadd, 1) := by decide +kernel
theorem dX5_joined_43 : decode cX5_joined 43 = .ok (.ireturn, 1) := by decide +kernel
theorem dX5_joined_44 : decode cX5_joined 44 = .ok (.iload_n 1, 1) := by decide +kernel
theorem dX5_joined_45 : decode cX5_joined 45 = .ok (.iload_n 2, 1) := by decide +kernel
theorem dX5_joined_46 : decode cX5_joined 46 = .ok (.isub, 1) := by decide +kernel
theorem dX5_joined_47 : decode cX5_joined 47 = .ok (.ireturn, 1) := by decide +kernel
theorem dX5_joined_48 : decode cX5_joined 48 = .ok (.iload_n 1, 1) := by decide +kernel
theorem dX5_joined_49 : decode cX5_joined 49 = .ok (.iload_n 2, 1) := by decide +kernel
theorem dX5_joined_50 : decode cX5_joined 50 = .ok (.imul, 1) := by decide +kernel
theorem dX5_joined_51 : decode cX5_joined 51 = .ok (.ireturn, 1) := by decide +kernel
theorem dX5_joined_52 : decode cX5_joined 52 = .ok (.iload_n 2, 1) := by decide +kernel
theorem dX5_joined_53 : decode cX5_joined 53 = .ok (.ifCond .ne 7, 3) := by decide +kernel
theorem dX5_joined_56 : decode cX5_joined 56 = .ok (.iconst 0, 1) := by decide +kernel
theorem dX5_joined_57 : decode cX5_joined 57 = .ok (.goto 6, 3) := by decide +kernel
theorem dX5_joined_60 : decode cX5_joined 60 = .ok (.iload_n 1, 1) := by decide +kernel
theorem dX5_joined_61 : decode cX5_joined 61 = .ok (.iload_n 2, 1) := by decide +kernel
theorem dX5_joined_62 : decode cX5_joined 62 = .ok (.idiv, 1) := by decide +kernel
theorem dX5_joined_63 : decode cX5_joined 63 = .ok (.ireturn, 1) := by decide +kernel
theorem dX5_joined_64 : decode cX5_joined 64 = .ok (.iload_n 2, 1) := by decide +kernel
theorem dX5_joined_65 : decode cX5_joined 65 = .ok (.ifCond .ne 7, 3) := by decide +kernel
theorem dX5_joined_68 : decode cX5_joined 68 = .ok (.iconst 0, 1) := by decide +kernel
theorem dX5_joined_69 : decode cX5_joined 69 = .ok (.goto 6, 3) := by decide +kernel
theorem dX5_joined_72 : decode cX5_joined 72 = .ok (.iload_n 1, 1) := by decide +kernel
theorem dX5_joined_73 : decode cX5_joined 73 = .ok (.iload_n 2, 1) := by decide +kernel
theorem dX5_joined_74 : decode cX5_joined 74 = .ok (.irem, 1) := by decide +kernel
theorem dX5_joined_75 : decode cX5_joined 75 = .ok (.ireturn, 1) := by decide +kernel
theorem dX5_joined_76 : decode cX5_joined 76 = .ok (.iload_n 1, 1) := by decide +kernel
theorem dX5_joined_77 : decode cX5_joined 77 = .ok (.iload_n 2, 1) := by decide +kernel
theorem dX5_joined_78 : decode cX5_joined 78 = .ok (.invokestatic 104, 3) := by decide +kernel
theorem dX5_joined_81 : decode cX5_joined 81 = .ok (.ireturn, 1) := by decide +kernel
theorem dX5_joined_82 : decode cX5_joined 82 = .ok (.iload_n 1, 1) := by decide +kernel
theorem dX5_joined_83 : decode cX5_joined 83 = .ok (.iload_n 2, 1) := by decide +kernel
theorem dX5_joined_84 : decode cX5_joined 84 = .ok (.invokestatic 109, 3) := by decide +kernel
theorem dX5_joined_87 : decode cX5_joined 87 = .ok (.ireturn, 1) := by decide +kernel
theorem dX6_init_0 : decode cX6_init 0 = .ok (.aload_n 0, 1) := by decide +kernel
theorem dX6_init_1 : decode cX6_init 1 = .ok (.invokespecial 3, 3) := by decide +kernel
theorem dX6_init_4 : decode cX6_init 4 = .ok (.aload_n 0, 1) := by decide +kernel
theorem dX6_init_5 : decode cX6_init 5 = .ok (.bipush 16, 2) := by decide +kernel
theorem dX6_init_7 : decode cX6_init 7 = .ok (.anewarray 9, 3) := by decide +kernel
theorem dX6_init_10 : decode cX6_init 10 = .ok (.putfield 11, 3) := by decide +kernel
theorem dX6_init_13 : decode cX6_init 13 = .ok (.aload_n 0, 1) := by decide +kernel
theorem dX6_init_14 : decode cX6_init 14 = .ok (.iconst 3, 1) := by decide +kernel
theorem dX6_init_15 : decode cX6_init 15 = .ok (.anewarray 17, 3) := by decide +kernel
theorem dX6_init_18 : decode cX6_init 18 = .ok (.putfield 19, 3) := by decide +kernel
theorem dX6_init_21 : decode cX6_init 21 = .ok (.return_, 1) := by decide +kernel
theorem dX6_clear_0 : decode cX6_clear 0 = .ok (.aload_n 0, 1) := by decide +kernel
theorem dX6_clear_1 : decode cX6_clear 1 = .ok (.iconst 0, 1) := by decide +kernel
theorem dX6_clear_2 : decode cX6_clear 2 = .ok (.putfield 23, 3) := by decide +kernel
theorem dX6_clear_5 : decode cX6_clear 5 = .ok (.aload_n 0, 1) := by decide +kernel
theorem dX6_clear_6 : decode cX6_clear 6 = .ok (.iconst 0, 1) := by decide +kernel
theorem dX6_clear_7 : decode cX6_clear 7 = .ok (.putfield 27, 3) := by decide +kernel
theorem dX6_clear_10 : decode cX6_clear 10 = .ok (.return_, 1) := by decide +kernel
theorem dX6_keepWork_0 : decode cX6_keepWork 0 = .ok (.aload_n 0, 1) := by decide +kernel
theorem dX6_keepWork_1 : decode cX6_keepWork 1 = .ok (.getfield 23, 3) := by decide +kernel
theorem dX6_keepWork_4 : decode cX6_keepWork 4 = .ok (.bipush 16, 2) := by decide +kernel
theorem dX6_keepWork_6 : decode cX6_keepWork 6 = .ok (.if_icmp .ge 26, 3) := by decide +kernel
theorem dX6_keepWork_9 : decode cX6_keepWork 9 = .ok (.aload_n 0, 1) := by decide +kernel
theorem dX6_keepWork_10 : decode cX6_keepWork 10 = .ok (.getfield 11, 3) := by decide +kernel
theorem dX6_keepWork_13 : decode cX6_keepWork 13 = .ok (.aload_n 0, 1) := by decide +kernel
theorem dX6_keepWork_14 : decode cX6_keepWork 14 = .ok (.getfield 23, 3) := by decide +kernel
theorem dX6_keepWork_17 : decode cX6_keepWork 17 = .ok (.aload_n 1, 1) := by decide +kernel
theorem dX6_keepWork_18 : decode cX6_keepWork 18 = .ok (.invokestatic 30, 3) := by decide +kernel
theorem dX6_keepWork_21 : decode cX6_keepWork 21 = .ok (.aastore, 1) := by decide +kernel
theorem dX6_keepWork_22 : decode cX6_keepWork 22 = .ok (.aload_n 0, 1) := by decide +kernel
theorem dX6_keepWork_23 : decode cX6_keepWork 23 = .ok (.dup, 1) := by decide +kernel
theorem dX6_keepWork_24 : decode cX6_keepWork 24 = .ok (.getfield 23, 3) := by decide +kernel
theorem dX6_keepWork_27 : decode cX6_keepWork 27 = .ok (.iconst 1, 1) := by decide +kernel
theorem dX6_keepWork_28 : decode cX6_keepWork 28 = .ok (.iadd, 1) := by decide +kernel
theorem dX6_keepWork_29 : decode cX6_keepWork 29 = .ok (.putfield 23, 3) := by decide +kernel
theorem dX6_keepWork_32 : decode cX6_keepWork 32 = .ok (.return_, 1) := by decide +kernel
theorem dX6_takeBackWork_0 : decode cX6_takeBackWork 0 = .ok (.aload_n 0, 1) := by decide +kernel
theorem dX6_takeBackWork_1 : decode cX6_takeBackWork 1 = .ok (.getfield 23, 3) := by decide +kernel
theorem dX6_takeBackWork_4 : decode cX6_takeBackWork 4 = .ok (.ifCond .le 17, 3) := by decide +kernel
theorem dX6_takeBackWork_7 : decode cX6_takeBackWork 7 = .ok (.aload_n 0, 1) := by decide +kernel
theorem dX6_takeBackWork_8 : decode cX6_takeBackWork 8 = .ok (.getfield 11, 3) := by decide +kernel
theorem dX6_takeBackWork_11 : decode cX6_takeBackWork 11 = .ok (.aload_n 0, 1) := by decide +kernel
theorem dX6_takeBackWork_12 : decode cX6_takeBackWork 12 = .ok (.getfield 23, 3) := by decide +kernel
theorem dX6_takeBackWork_15 : decode cX6_takeBackWork 15 = .ok (.iconst 1, 1) := by decide +kernel
theorem dX6_takeBackWork_16 : decode cX6_takeBackWork 16 = .ok (.isub, 1) := by decide +kernel
theorem dX6_takeBackWork_17 : decode cX6_takeBackWork 17 = .ok (.aaload, 1) := by decide +kernel
theorem dX6_takeBackWork_18 : decode cX6_takeBackWork 18 = .ok (.goto 4, 3) := by decide +kernel
theorem dX6_takeBackWork_21 : decode cX6_takeBackWork 21 = .ok (.aconst_null, 1) := by decide +kernel
theorem dX6_takeBackWork_22 : decode cX6_takeBackWork 22 = .ok (.astore_n 2, 1) := by decide +kernel
theorem dX6_takeBackWork_23 : decode cX6_takeBackWork 23 = .ok (.aload_n 2, 1) := by decide +kernel
theorem dX6_takeBackWork_24 : decode cX6_takeBackWork 24 = .ok (.ifnonnull 5, 3) := by decide +kernel
theorem dX6_takeBackWork_27 : decode cX6_takeBackWork 27 = .ok (.iconst 0, 1) := by decide +kernel
theorem dX6_takeBackWork_28 : decode cX6_takeBackWork 28 = .ok (.ireturn, 1) := by decide +kernel
theorem dX6_takeBackWork_29 : decode cX6_takeBackWork 29 = .ok (.aload_n 0, 1) := by decide +kernel
theorem dX6_takeBackWork_30 : decode cX6_takeBackWork 30 = .ok (.dup, 1) := by decide +kernel
theorem dX6_takeBackWork_31 : decode cX6_takeBackWork 31 = .ok (.getfield 23, 3) := by decide +kernel
theorem dX6_takeBackWork_34 : decode cX6_takeBackWork 34 = .ok (.iconst 1, 1) := by decide +kernel
theorem dX6_takeBackWork_35 : decode cX6_takeBackWork 35 = .ok (.isub, 1) := by decide +kernel
theorem dX6_takeBackWork_36 : decode cX6_takeBackWork 36 = .ok (.putfield 23, 3) := by decide +kernel
theorem dX6_takeBackWork_39 : decode cX6_takeBackWork 39 = .ok (.aload_n 1, 1) := by decide +kernel
theorem dX6_takeBackWork_40 : decode cX6_takeBackWork 40 = .ok (.aload_n 2, 1) := by decide +kernel
theorem dX6_takeBackWork_41 : decode cX6_takeBackWork 41 = .ok (.invokevirtual 34, 3) := by decide +kernel
theorem dX6_takeBackWork_44 : decode cX6_takeBackWork 44 = .ok (.iconst 1, 1) := by decide +kernel
theorem dX6_takeBackWork_45 : decode cX6_takeBackWork 45 = .ok (.ireturn, 1) := by decide +kernel
theorem dX6_keepImage_0 : decode cX6_keepImage 0 = .ok (.aload_n 0, 1) := by decide +kernel
theorem dX6_keepImage_1 : decode cX6_keepImage 1 = .ok (.getfield 27, 3) := by decide +kernel
theorem dX6_keepImage_4 : decode cX6_keepImage 4 = .ok (.iconst 3, 1) := by decide +kernel
theorem dX6_keepImage_5 : decode cX6_keepImage 5 = .ok (.if_icmp .ne 5, 3) := by decide +kernel
theorem dX6_keepImage_8 : decode cX6_keepImage 8 = .ok (.iconst 0, 1) := by decide +kernel
theorem dX6_keepImage_9 : decode cX6_keepImage 9 = .ok (.ireturn, 1) := by decide +kernel
theorem dX6_keepImage_10 : decode cX6_keepImage 10 = .ok (.new 17, 3) := by decide +kernel
theorem dX6_keepImage_13 : decode cX6_keepImage 13 = .ok (.dup, 1) := by decide +kernel
theorem dX6_keepImage_14 : decode cX6_keepImage 14 = .ok (.aload_n 1, 1) := by decide +kernel
theorem dX6_keepImage_15 : decode cX6_keepImage 15 = .ok (.invokestatic 30, 3) := by decide +kernel
theorem dX6_keepImage_18 : decode cX6_keepImage 18 = .ok (.aload_n 0, 1) := by decide +kernel
theorem dX6_keepImage_19 : decode cX6_keepImage 19 = .ok (.getfield 23, 3) := by decide +kernel
theorem dX6_keepImage_22 : decode cX6_keepImage 22 = .ok (.invokespecial 38, 3) := by decide +kernel
theorem dX6_keepImage_25 : decode cX6_keepImage 25 = .ok (.astore_n 2, 1) := by decide +kernel
theorem dX6_keepImage_26 : decode cX6_keepImage 26 = .ok (.aload_n 0, 1) := by decide +kernel
theorem dX6_keepImage_27 : decode cX6_keepImage 27 = .ok (.getfield 11, 3) := by decide +kernel
theorem dX6_keepImage_30 : decode cX6_keepImage 30 = .ok (.aload_n 2, 1) := by decide +kernel
theorem dX6_keepImage_31 : decode cX6_keepImage 31 = .ok (.getfield 41, 3) := by decide +kernel
theorem dX6_keepImage_34 : decode cX6_keepImage 34 = .ok (.aload_n 0, 1) := by decide +kernel
theorem dX6_keepImage_35 : decode cX6_keepImage 35 = .ok (.getfield 23, 3) := by decide +kernel
theorem dX6_keepImage_38 : decode cX6_keepImage 38 = .ok (.invokestatic 42, 3) := by decide +kernel
theorem dX6_keepImage_41 : decode cX6_keepImage 41 = .ok (.aload_n 0, 1) := by decide +kernel
theorem dX6_keepImage_42 : decode cX6_keepImage 42 = .ok (.getfield 19, 3) := by decide +kernel
theorem dX6_keepImage_45 : decode cX6_keepImage 45 = .ok (.aload_n 0, 1) := by decide +kernel
theorem dX6_keepImage_46 : decode cX6_keepImage 46 = .ok (.getfield 27, 3) := by decide +kernel
theorem dX6_keepImage_49 : decode cX6_keepImage 49 = .ok (.aload_n 2, 1) := by decide +kernel
theorem dX6_keepImage_50 : decode cX6_keepImage 50 = .ok (.aastore, 1) := by decide +kernel
theorem dX6_keepImage_51 : decode cX6_keepImage 51 = .ok (.aload_n 0, 1) := by decide +kernel
theorem dX6_keepImage_52 : decode cX6_keepImage 52 = .ok (.dup, 1) := by decide +kernel
theorem dX6_keepImage_53 : decode cX6_keepImage 53 = .ok (.getfield 27, 3) := by decide +kernel
theorem dX6_keepImage_56 : decode cX6_keepImage 56 = .ok (.iconst 1, 1) := by decide +kernel
theorem dX6_keepImage_57 : decode cX6_keepImage 57 = .ok (.iadd, 1) := by decide +kernel
theorem dX6_keepImage_58 : decode cX6_keepImage 58 = .ok (.putfield 27, 3) := by decide +kernel
theorem dX6_keepImage_61 : decode cX6_keepImage 61 = .ok (.iconst 1, 1) := by decide +kernel
theorem dX6_keepImage_62 : decode cX6_keepImage 62 = .ok (.ireturn, 1) := by decide +kernel
theorem dX6_takeImage_0 : decode cX6_takeImage 0 = .ok (.aload_n 0, 1) := by decide +kernel
theorem dX6_takeImage_1 : decode cX6_takeImage 1 = .ok (.getfield 27, 3) := by decide +kernel
theorem dX6_takeImage_4 : decode cX6_takeImage 4 = .ok (.ifCond .le 17, 3) := by decide +kernel
theorem dX6_takeImage_7 : decode cX6_takeImage 7 = .ok (.aload_n 0, 1) := by decide +kernel
theorem dX6_takeImage_8 : decode cX6_takeImage 8 = .ok (.getfield 19, 3) := by decide +kernel
theorem dX6_takeImage_11 : decode cX6_takeImage 11 = .ok (.aload_n 0, 1) := by decide +kernel
theorem dX6_takeImage_12 : decode cX6_takeImage 12 = .ok (.getfield 27, 3) := by decide +kernel
theorem dX6_takeImage_15 : decode cX6_takeImage 15 = .ok (.iconst 1, 1) := by decide +kernel
theorem dX6_takeImage_16 : decode cX6_takeImage 16 = .ok (.isub, 1) := by decide +kernel
theorem dX6_takeImage_17 : decode cX6_takeImage 17 = .ok (.aaload, 1) := by decide +kernel
theorem dX6_takeImage_18 : decode cX6_takeImage 18 = .ok (.goto 4, 3) := by decide +kernel
theorem dX6_takeImage_21 : decode cX6_takeImage 21 = .ok (.aconst_null, 1) := by decide +kernel
theorem dX6_takeImage_22 : decode cX6_takeImage 22 = .ok (.astore_n 2, 1) := by decide +kernel
theorem dX6_takeImage_23 : decode cX6_takeImage 23 = .ok (.aload_n 2, 1) := by decide +kernel
theorem dX6_takeImage_24 : decode cX6_takeImage 24 = .ok (.ifnonnull 5, 3) := by decide +kernel
theorem dX6_takeImage_27 : decode cX6_takeImage 27 = .ok (.iconst 0, 1) := by decide +kernel
theorem dX6_takeImage_28 : decode cX6_takeImage 28 = .ok (.ireturn, 1) := by decide +kernel
theorem dX6_takeImage_29 : decode cX6_takeImage 29 = .ok (.aload_n 0, 1) := by decide +kernel
theorem dX6_takeImage_30 : decode cX6_takeImage 30 = .ok (.dup, 1) := by decide +kernel
theorem dX6_takeImage_31 : decode cX6_takeImage 31 = .ok (.getfield 27, 3) := by decide +kernel
theorem dX6_takeImage_34 : decode cX6_takeImage 34 = .ok (.iconst 1, 1) := by decide +kernel
theorem dX6_takeImage_35 : decode cX6_takeImage 35 = .ok (.isub, 1) := by decide +kernel
theorem dX6_takeImage_36 : decode cX6_takeImage 36 = .ok (.putfield 27, 3) := by decide +kernel
theorem dX6_takeImage_39 : decode cX6_takeImage 39 = .ok (.aload_n 1, 1) := by decide +kernel
theorem dX6_takeImage_40 : decode cX6_takeImage 40 = .ok (.aload_n 2, 1) := by decide +kernel
theorem dX6_takeImage_41 : decode cX6_takeImage 41 = .ok (.getfield 46, 3) := by decide +kernel
theorem dX6_takeImage_44 : decode cX6_takeImage 44 = .ok (.invokevirtual 34, 3) := by decide +kernel
theorem dX6_takeImage_47 : decode cX6_takeImage 47 = .ok (.aload_n 0, 1) := by decide +kernel
theorem dX6_takeImage_48 : decode cX6_takeImage 48 = .ok (.aload_n 2, 1) := by decide +kernel
theorem dX6_takeImage_49 : decode cX6_takeImage 49 = .ok (.getfield 50, 3) := by decide +kernel
theorem dX6_takeImage_52 : decode cX6_takeImage 52 = .ok (.putfield 23, 3) := by decide +kernel
theorem dX6_takeImage_55 : decode cX6_takeImage 55 = .ok (.aload_n 2, 1) := by decide +kernel
theorem dX6_takeImage_56 : decode cX6_takeImage 56 = .ok (.getfield 41, 3) := by decide +kernel
theorem dX6_takeImage_59 : decode cX6_takeImage 59 = .ok (.aload_n 0, 1) := by decide +kernel
theorem dX6_takeImage_60 : decode cX6_takeImage 60 = .ok (.getfield 11, 3) := by decide +kernel
theorem dX6_takeImage_63 : decode cX6_takeImage 63 = .ok (.aload_n 0, 1) := by decide +kernel
theorem dX6_takeImage_64 : decode cX6_takeImage 64 = .ok (.getfield 23, 3) := by decide +kernel
theorem dX6_takeImage_67 : decode cX6_takeImage 67 = .ok (.invokestatic 42, 3) := by decide +kernel
theorem dX6_takeImage_70 : decode cX6_takeImage 70 = .ok (.iconst 1, 1) := by decide +kernel
theorem dX6_takeImage_71 : decode cX6_takeImage 71 = .ok (.ireturn, 1) := by decide +kernel
theorem dX6_copied_0 : decode cX6_copied 0 = .ok (.new 9, 3) := by decide +kernel
theorem dX6_copied_3 : decode cX6_copied 3 = .ok (.dup, 1) := by decide +kernel
theorem dX6_copied_4 : decode cX6_copied 4 = .ok (.invokespecial 51, 3) := by decide +kernel
theorem dX6_copied_7 : decode cX6_copied 7 = .ok (.astore_n 1, 1) := by decide +kernel
theorem dX6_copied_8 : decode cX6_copied 8 = .ok (.aload_n 1, 1) := by decide +kernel
theorem dX6_copied_9 : decode cX6_copied 9 = .ok (.aload_n 0, 1) := by decide +kernel
theorem dX6_copied_10 : decode cX6_copied 10 = .ok (.invokevirtual 34, 3) := by decide +kernel
theorem dX6_copied_13 : decode cX6_copied 13 = .ok (.aload_n 1, 1) := by decide +kernel
theorem dX6_copied_14 : decode cX6_copied 14 = .ok (.areturn, 1) := by decide +kernel
theorem dX6_copyWorks_0 : decode cX6_copyWorks 0 = .ok (.iconst 0, 1) := by decide +kernel
theorem dX6_copyWorks_1 : decode cX6_copyWorks 1 = .ok (.istore_n 3, 1) := by decide +kernel
theorem dX6_copyWorks_2 : decode cX6_copyWorks 2 = .ok (.iload_n 3, 1) := by decide +kernel
theorem dX6_copyWorks_3 : decode cX6_copyWorks 3 = .ok (.iload_n 2, 1) := by decide +kernel
theorem dX6_copyWorks_4 : decode cX6_copyWorks 4 = .ok (.if_icmp .ge 21, 3) := by decide +kernel
theorem dX6_copyWorks_7 : decode cX6_copyWorks 7 = .ok (.iload_n 3, 1) := by decide +kernel
theorem dX6_copyWorks_8 : decode cX6_copyWorks 8 = .ok (.bipush 16, 2) := by decide +kernel
theorem dX6_copyWorks_10 : decode cX6_copyWorks 10 = .ok (.if_icmp .ge 15, 3) := by decide +kernel
theorem dX6_copyWorks_13 : decode cX6_copyWorks 13 = .ok (.aload_n 1, 1) := by decide +kernel
theorem dX6_copyWorks_14 : decode cX6_copyWorks 14 = .ok (.iload_n 3, 1) := by decide +kernel
theorem dX6_copyWorks_15 : decode cX6_copyWorks 15 = .ok (.aload_n 0, 1) := by decide +kernel
theorem dX6_copyWorks_16 : decode cX6_copyWorks 16 = .ok (.iload_n 3, 1) := by decide +kernel
theorem dX6_copyWorks_17 : decode cX6_copyWorks 17 = .ok (.aaload, 1) := by decide +kernel
theorem dX6_copyWorks_18 : decode cX6_copyWorks 18 = .ok (.aastore, 1) := by decide +kernel
theorem dX6_copyWorks_19 : decode cX6_copyWorks 19 = .ok (.iinc 3 1, 3) := by decide +kernel
theorem dX6_copyWorks_22 : decode cX6_copyWorks 22 = .ok (.goto (-20), 3) := by decide +kernel
theorem dX6_copyWorks_25 : decode cX6_copyWorks 25 = .ok (.return_, 1) := by decide +kernel
theorem dX7_init_0 : decode cX7_init 0 = .ok (.aload_n 0, 1) := by decide +kernel
theorem dX7_init_1 : decode cX7_init 1 = .ok (.invokespecial 3, 3) := by decide +kernel
theorem dX7_init_4 : decode cX7_init 4 = .ok (.aload_n 0, 1) := by decide +kernel
theorem dX7_init_5 : decode cX7_init 5 = .ok (.bipush 25, 2) := by decide +kernel
theorem dX7_init_7 : decode cX7_init 7 = .ok (.newarray .int, 2) := by decide +kernel
theorem dX7_init_9 : decode cX7_init 9 = .ok (.putfield 11, 3) := by decide +kernel
theorem dX7_init_12 : decode cX7_init 12 = .ok (.aload_n 0, 1) := by decide +kernel
theorem dX7_init_13 : decode cX7_init 13 = .ok (.bipush 25, 2) := by decide +kernel
theorem dX7_init_15 : decode cX7_init 15 = .ok (.newarray .int, 2) := by decide +kernel
theorem dX7_init_17 : decode cX7_init 17 = .ok (.putfield 15, 3) := by decide +kernel
theorem dX7_init_20 : decode cX7_init 20 = .ok (.aload_n 0, 1) := by decide +kernel
theorem dX7_init_21 : decode cX7_init 21 = .ok (.bipush 25, 2) := by decide +kernel
theorem dX7_init_23 : decode cX7_init 23 = .ok (.newarray .int, 2) := by decide +kernel
theorem dX7_init_25 : decode cX7_init 25 = .ok (.putfield 18, 3) := by decide +kernel
theorem dX7_init_28 : decode cX7_init 28 = .ok (.aload_n 0, 1) := by decide +kernel
theorem dX7_init_29 : decode cX7_init 29 = .ok (.bipush 25, 2) := by decide +kernel
theorem dX7_init_31 : decode cX7_init 31 = .ok (.newarray .int, 2) := by decide +kernel
theorem dX7_init_33 : decode cX7_init 33 = .ok (.putfield 21, 3) := by decide +kernel
theorem dX7_init_36 : decode cX7_init 36 = .ok (.return_, 1) := by decide +kernel
theorem dX7_read_0 : decode cX7_read 0 = .ok (.aload_n 0, 1) := by decide +kernel
theorem dX7_read_1 : decode cX7_read 1 = .ok (.iconst 0, 1) := by decide +kernel
theorem dX7_read_2 : decode cX7_read 2 = .ok (.putfield 24, 3) := by decide +kernel
theorem dX7_read_5 : decode cX7_read 5 = .ok (.aload_n 0, 1) := by decide +kernel
theorem dX7_read_6 : decode cX7_read 6 = .ok (.aload_n 1, 1) := by decide +kernel
theorem dX7_read_7 : decode cX7_read 7 = .ok (.aload_n 2, 1) := by decide +kernel
theorem dX7_read_8 : decode cX7_read 8 = .ok (.iconst 0, 1) := by decide +kernel
theorem dX7_read_9 : decode cX7_read 9 = .ok (.invokevirtual 28, 3) := by decide +kernel
theorem dX7_read_12 : decode cX7_read 12 = .ok (.return_, 1) := by decide +kernel
theorem dX7_readSteps_0 : decode cX7_readSteps 0 = .ok (.iconst 0, 1) := by decide +kernel
theorem dX7_readSteps_1 : decode cX7_readSteps 1 = .ok (.istore 4, 2) := by decide +kernel
theorem dX7_readSteps_3 : decode cX7_readSteps 3 = .ok (.iload 4, 2) := by decide +kernel
theorem dX7_readSteps_5 : decode cX7_readSteps 5 = .ok (.sipush 150, 3) := by decide +kernel
theorem dX7_readSteps_8 : decode cX7_readSteps 8 = .ok (.if_icmp .ge 62, 3) := by decide +kernel
theorem dX7_readSteps_11 : decode cX7_readSteps 11 = .ok (.aload_n 1, 1) := by decide +kernel
theorem dX7_readSteps_12 : decode cX7_readSteps 12 = .ok (.invokevirtual 32, 3) := by decide +kernel
theorem dX7_readSteps_15 : decode cX7_readSteps 15 = .ok (.ifCond .eq 55, 3) := by decide +kernel
theorem dX7_readSteps_18 : decode cX7_readSteps 18 = .ok (.iload_n 3, 1) := by decide +kernel
theorem dX7_readSteps_19 : decode cX7_readSteps 19 = .ok (.ifCond .ne 18, 3) := by decide +kernel
theorem dX7_readSteps_22 : decode cX7_readSteps 22 = .ok (.aload_n 1, 1) := by decide +kernel
theorem dX7_readSteps_23 : decode cX7_readSteps 23 = .ok (.invokevirtual 38, 3) := by decide +kernel
theorem dX7_readSteps_26 : decode cX7_readSteps 26 = .ok (.ifCond .ne 7, 3) := by decide +kernel
theorem dX7_readSteps_29 : decode cX7_readSteps 29 = .ok (.iconst 1, 1) := by decide +kernel
theorem dX7_readSteps_30 : decode cX7_readSteps 30 = .ok (.goto 13, 3) := by decide +kernel
theorem dX7_readSteps_33 : decode cX7_readSteps 33 = .ok (.iconst 0, 1) := by decide +kernel
theorem dX7_readSteps_34 : decode cX7_readSteps 34 = .ok (.goto 9, 3) := by decide +kernel
theorem dX7_readSteps_37 : decode cX7_readSteps 37 = .ok (.aload_n 1, 1) := by decide +kernel
theorem dX7_readSteps_38 : decode cX7_readSteps 38 = .ok (.bipush 93, 2) := by decide +kernel
theorem dX7_readSteps_40 : decode cX7_readSteps 40 = .ok (.invokevirtual 41, 3) := by decide +kernel
theorem dX7_readSteps_43 : decode cX7_readSteps 43 = .ok (.istore 5, 2) := by decide +kernel
theorem dX7_readSteps_45 : decode cX7_readSteps 45 = .ok (.iload 5, 2) := by decide +kernel
theorem dX7_readSteps_47 : decode cX7_readSteps 47 = .ok (.ifCond .eq 4, 3) := by decide +kernel
theorem dX7_readSteps_50 : decode cX7_readSteps 50 = .ok (.return_, 1) := by decide +kernel
theorem dX7_readSteps_51 : decode cX7_readSteps 51 = .ok (.aload_n 0, 1) := by decide +kernel
theorem dX7_readSteps_52 : decode cX7_readSteps 52 = .ok (.aload_n 1, 1) := by decide +kernel
theorem dX7_readSteps_53 : decode cX7_readSteps 53 = .ok (.aload_n 2, 1) := by decide +kernel
theorem dX7_readSteps_54 : decode cX7_readSteps 54 = .ok (.iload_n 3, 1) := by decide +kernel
theorem dX7_readSteps_55 : decode cX7_readSteps 55 = .ok (.invokevirtual 45, 3) := by decide +kernel
theorem dX7_readSteps_58 : decode cX7_readSteps 58 = .ok (.aload_n 1, 1) := by decide +kernel
theorem dX7_readSteps_59 : decode cX7_readSteps 59 = .ok (.bipush 59, 2) := by decide +kernel
theorem dX7_readSteps_61 : decode cX7_readSteps 61 = .ok (.invokevirtual 48, 3) := by decide +kernel
theorem dX7_readSteps_64 : decode cX7_readSteps 64 = .ok (.iinc 4 1, 3) := by decide +kernel
theorem dX7_readSteps_67 : decode cX7_readSteps 67 = .ok (.goto (-64), 3) := by decide +kernel
theorem dX7_readSteps_70 : decode cX7_readSteps 70 = .ok (.return_, 1) := by decide +kernel
theorem dX7_readStep_0 : decode cX7_readStep 0 = .ok (.aload_n 1, 1) := by decide +kernel
theorem dX7_readStep_1 : decode cX7_readStep 1 = .ok (.invokevirtual 52, 3) := by decide +kernel
theorem dX7_readStep_4 : decode cX7_readStep 4 = .ok (.istore 4, 2) := by decide +kernel
theorem dX7_readStep_6 : decode cX7_readStep 6 = .ok (.aload_n 1, 1) := by decide +kernel
theorem dX7_readStep_7 : decode cX7_readStep 7 = .ok (.ldc 56, 2) := by decide +kernel
theorem dX7_readStep_9 : decode cX7_readStep 9 = .ok (.invokevirtual 58, 3) := by decide +kernel
theorem dX7_readStep_12 : decode cX7_readStep 12 = .ok (.ifCond .eq 45, 3) := by decide +kernel
theorem dX7_readStep_15 : decode cX7_readStep 15 = .ok (.aload_n 0, 1) := by decide +kernel
theorem dX7_readStep_16 : decode cX7_readStep 16 = .ok (.aload_n 1, 1) := by decide +kernel
theorem dX7_readStep_17 : decode cX7_readStep 17 = .ok (.iconst 0, 1) := by decide +kernel
theorem dX7_readStep_18 : decode cX7_readStep 18 = .ok (.aload_n 1, 1) := by decide +kernel
theorem dX7_readStep_19 : decode cX7_readStep 19 = .ok (.iconst 0, 1) := by decide +kernel
theorem dX7_readStep_20 : decode cX7_readStep 20 = .ok (.aload_n 2, 1) := by decide +kernel
theorem dX7_readStep_21 : decode cX7_readStep 21 = .ok (.getfield 62, 3) := by decide +kernel
theorem dX7_readStep_24 : decode cX7_readStep 24 = .ok (.iconst 1, 1) := by decide +kernel
theorem dX7_readStep_25 : decode cX7_readStep 25 = .ok (.isub, 1) := by decide +kernel
theorem dX7_readStep_26 : decode cX7_readStep 26 = .ok (.invokevirtual 67, 3) := by decide +kernel
theorem dX7_readStep_29 : decode cX7_readStep 29 = .ok (.aload_n 1, 1) := by decide +kernel
theorem dX7_readStep_30 : decode cX7_readStep 30 = .ok (.iconst 0, 1) := by decide +kernel
theorem dX7_readStep_31 : decode cX7_readStep 31 = .ok (.aload_n 2, 1) := by decide +kernel
theorem dX7_readStep_32 : decode cX7_readStep 32 = .ok (.getfield 71, 3) := by decide +kernel
theorem dX7_readStep_35 : decode cX7_readStep 35 = .ok (.iconst 1, 1) := by decide +kernel
theorem dX7_readStep_36 : decode cX7_readStep 36 = .ok (.isub, 1) := by decide +kernel
theorem dX7_readStep_37 : decode cX7_readStep 37 = .ok (.invokevirtual 67, 3) := by decide +kernel
theorem dX7_readStep_40 : decode cX7_readStep 40 = .ok (.aload_n 1, 1) := by decide +kernel
theorem dX7_readStep_41 : decode cX7_readStep 41 = .ok (.iconst 0, 1) := by decide +kernel
theorem dX7_readStep_42 : decode cX7_readStep 42 = .ok (.aload_n 2, 1) := by decide +kernel
theorem dX7_readStep_43 : decode cX7_readStep 43 = .ok (.getfield 74, 3) := by decide +kernel
theorem dX7_readStep_46 : decode cX7_readStep 46 = .ok (.iconst 1, 1) := by decide +kernel
theorem dX7_readStep_47 : decode cX7_readStep 47 = .ok (.isub, 1) := by decide +kernel
theorem dX7_readStep_48 : decode cX7_readStep 48 = .ok (.invokevirtual 67, 3) := by decide +kernel
theorem dX7_readStep_51 : decode cX7_readStep 51 = .ok (.invokevirtual 77, 3) := by decide +kernel
theorem dX7_readStep_54 : decode cX7_readStep 54 = .ok (.goto 125, 3) := by decide +kernel
theorem dX7_readStep_57 : decode cX7_readStep 57 = .ok (.aload_n 1, 1) := by decide +kernel
theorem dX7_readStep_58 : decode cX7_readStep 58 = .ok (.ldc 81, 2) := by decide +kernel
theorem dX7_readStep_60 : decode cX7_readStep 60 = .ok (.invokevirtual 58, 3) := by decide +kernel
theorem dX7_readStep_63 : decode cX7_readStep 63 = .ok (.ifCond .eq 25, 3) := by decide +kernel
theorem dX7_readStep_66 : decode cX7_readStep 66 = .ok (.aload_n 0, 1) := by decide +kernel
theorem dX7_readStep_67 : decode cX7_readStep 67 = .ok (.aload_n 1, 1) := by decide +kernel
theorem dX7_readStep_68 : decode cX7_readStep 68 = .ok (.iconst 1, 1) := by decide +kernel
theorem dX7_readStep_69 : decode cX7_readStep 69 = .ok (.aload_n 1, 1) := by decide +kernel
theorem dX7_readStep_70 : decode cX7_readStep 70 = .ok (.iconst 0, 1) := by decide +kernel
theorem dX7_readStep_71 : decode cX7_readStep 71 = .ok (.aload_n 2, 1) := by decide +kernel
theorem dX7_readStep_72 : decode cX7_readStep 72 = .ok (.getfield 71, 3) := by decide +kernel
theorem dX7_readStep_75 : decode cX7_readStep 75 = .ok (.iconst 1, 1) := by decide +kernel
theorem dX7_readStep_76 : decode cX7_readStep 76 = .ok (.isub, 1) := by decide +kernel
theorem dX7_readStep_77 : decode cX7_readStep 77 = .ok (.invokevirtual 67, 3) := by decide +kernel
theorem dX7_readStep_80 : decode cX7_readStep 80 = .ok (.iconst 0, 1) := by decide +kernel
theorem dX7_readStep_81 : decode cX7_readStep 81 = .ok (.iconst 0, 1) := by decide +kernel
theorem dX7_readStep_82 : decode cX7_readStep 82 = .ok (.invokevirtual 77, 3) := by decide +kernel
theorem dX7_readStep_85 : decode cX7_readStep 85 = .ok (.goto 94, 3) := by decide +kernel
theorem dX7_readStep_88 : decode cX7_readStep 88 = .ok (.aload_n 1, 1) := by decide +kernel
theorem dX7_readStep_89 : decode cX7_readStep 89 = .ok (.ldc 83, 2) := by decide +kernel
theorem dX7_readStep_91 : decode cX7_readStep 91 = .ok (.invokevirtual 58, 3) := by decide +kernel
theorem dX7_readStep_94 : decode cX7_readStep 94 = .ok (.ifCond .eq 20, 3) := by decide +kernel
theorem dX7_readStep_97 : decode cX7_readStep 97 = .ok (.aload_n 0, 1) := by decide +kernel
theorem dX7_readStep_98 : decode cX7_readStep 98 = .ok (.aload_n 1, 1) := by decide +kernel
theorem dX7_readStep_99 : decode cX7_readStep 99 = .ok (.iconst 2, 1) := by decide +kernel
theorem dX7_readStep_100 : decode cX7_readStep 100 = .ok (.aload_n 1, 1) := by decide +kernel
theorem dX7_readStep_101 : decode cX7_readStep 101 = .ok (.iconst 1, 1) := by decide +kernel
theorem dX7_readStep_102 : decode cX7_readStep 102 = .ok (.iconst 4, 1) := by decide +kernel
theorem dX7_readStep_103 : decode cX7_readStep 103 = .ok (.invokevirtual 67, 3) := by decide +kernel
theorem dX7_readStep_106 : decode cX7_readStep 106 = .ok (.iconst 0, 1) := by decide +kernel
theorem dX7_readStep_107 : decode cX7_readStep 107 = .ok (.iconst 0, 1) := by decide +kernel
theorem dX7_readStep_108 : decode cX7_readStep 108 = .ok (.invokevirtual 77, 3) := by decide +kernel
theorem dX7_readStep_111 : decode cX7_readStep 111 = .ok (.goto 68, 3) := by decide +kernel
theorem dX7_readStep_114 : decode cX7_readStep 114 = .ok (.aload_n 1, 1) := by decide +kernel
theorem dX7_readStep_115 : decode cX7_readStep 115 = .ok (.ldc 85, 2) := by decide +kernel
theorem dX7_readStep_117 : decode cX7_readStep 117 = .ok (.invokevirtual 58, 3) := by decide +kernel
theorem dX7_readStep_120 : decode cX7_readStep 120 = .ok (.ifCond .eq 15, 3) := by decide +kernel
theorem dX7_readStep_123 : decode cX7_readStep 123 = .ok (.aload_n 0, 1) := by decide +kernel
theorem dX7_readStep_124 : decode cX7_readStep 124 = .ok (.aload_n 1, 1) := by decide +kernel
theorem dX7_readStep_125 : decode cX7_readStep 125 = .ok (.iconst 3, 1) := by decide +kernel
theorem dX7_readStep_126 : decode cX7_readStep 126 = .ok (.iconst 0, 1) := by decide +kernel
theorem dX7_readStep_127 : decode cX7_readStep 127 = .ok (.iconst 0, 1) := by decide +kernel
theorem dX7_readStep_128 : decode cX7_readStep 128 = .ok (.iconst 0, 1) := by decide +kernel
theorem dX7_readStep_129 : decode cX7_readStep 129 = .ok (.invokevirtual 77, 3) := by decide +kernel
theorem dX7_readStep_132 : decode cX7_readStep 132 = .ok (.goto 47, 3) := by decide +kernel
theorem dX7_readStep_135 : decode cX7_readStep 135 = .ok (.aload_n 1, 1) := by decide +kernel
theorem dX7_readStep_136 : decode cX7_readStep 136 = .ok (.ldc 87, 2) := by decide +kernel
theorem dX7_readStep_138 : decode cX7_readStep 138 = .ok (.invokevirtual 58, 3) := by decide +kernel
theorem dX7_readStep_141 : decode cX7_readStep 141 = .ok (.ifCond .ne 13, 3) := by decide +kernel
theorem dX7_readStep_144 : decode cX7_readStep 144 = .ok (.aload_n 1, 1) := by decide +kernel
theorem dX7_readStep_145 : decode cX7_readStep 145 = .ok (.iconst 1, 1) := by decide +kernel
theorem dX7_readStep_146 : decode cX7_readStep 146 = .ok (.iload 4, 2) := by decide +kernel
theorem dX7_readStep_148 : decode cX7_readStep 148 = .ok (.invokevirtual 89, 3) := by decide +kernel
theorem dX7_readStep_151 : decode cX7_readStep 151 = .ok (.goto 28, 3) := by decide +kernel
theorem dX7_readStep_154 : decode cX7_readStep 154 = .ok (.iload_n 3, 1) := by decide +kernel
theorem dX7_readStep_155 : decode cX7_readStep 155 = .ok (.bipush 6, 2) := by decide +kernel
theorem dX7_readStep_157 : decode cX7_readStep 157 = .ok (.if_icmp .lt 13, 3) := by decide +kernel
theorem dX7_readStep_160 : decode cX7_readStep 160 = .ok (.aload_n 1, 1) := by decide +kernel
theorem dX7_readStep_161 : decode cX7_readStep 161 = .ok (.iconst 3, 1) := by decide +kernel
theorem dX7_readStep_162 : decode cX7_readStep 162 = .ok (.iload 4, 2) := by decide +kernel
theorem dX7_readStep_164 : decode cX7_readStep 164 = .ok (.invokevirtual 89, 3) := by decide +kernel
theorem dX7_readStep_167 : decode cX7_readStep 167 = .ok (.goto 12, 3) := by decide +kernel
theorem dX7_readStep_170 : decode cX7_readStep 170 = .ok (.aload_n 0, 1) := by decide +kernel
theorem dX7_readStep_171 : decode cX7_readStep 171 = .ok (.aload_n 1, 1) := by decide +kernel
theorem dX7_readStep_172 : decode cX7_readStep 172 = .ok (.aload_n 2, 1) := by decide +kernel
theorem dX7_readStep_173 : decode cX7_readStep 173 = .ok (.iload_n 3, 1) := by decide +kernel
theorem dX7_readStep_174 : decode cX7_readStep 174 = .ok (.iconst 1, 1) := by decide +kernel
theorem dX7_readStep_175 : decode cX7_readStep 175 = .ok (.iadd, 1) := by decide +kernel
theorem dX7_readStep_176 : decode cX7_readStep 176 = .ok (.invokevirtual 93, 3) := by decide +kernel
theorem dX7_readStep_179 : decode cX7_readStep 179 = .ok (.return_, 1) := by decide +kernel
theorem dX7_readAgain_0 : decode cX7_readAgain 0 = .ok (.aload_n 0, 1) := by decide +kernel
theorem dX7_readAgain_1 : decode cX7_readAgain 1 = .ok (.getfield 24, 3) := by decide +kernel
theorem dX7_readAgain_4 : decode cX7_readAgain 4 = .ok (.istore 4, 2) := by decide +kernel
theorem dX7_readAgain_6 : decode cX7_readAgain 6 = .ok (.aload_n 1, 1) := by decide +kernel
theorem dX7_readAgain_7 : decode cX7_readAgain 7 = .ok (.iconst 0, 1) := by decide +kernel
theorem dX7_readAgain_8 : decode cX7_readAgain 8 = .ok (.bipush 30, 2) := by decide +kernel
theorem dX7_readAgain_10 : decode cX7_readAgain 10 = .ok (.invokevirtual 67, 3) := by decide +kernel
theorem dX7_readAgain_13 : decode cX7_readAgain 13 = .ok (.istore 5, 2) := by decide +kernel
theorem dX7_readAgain_15 : decode cX7_readAgain 15 = .ok (.aload_n 1, 1) := by decide +kernel
theorem dX7_readAgain_16 : decode cX7_readAgain 16 = .ok (.bipush 91, 2) := by decide +kernel
theorem dX7_readAgain_18 : decode cX7_readAgain 18 = .ok (.invokevirtual 48, 3) := by decide +kernel
theorem dX7_readAgain_21 : decode cX7_readAgain 21 = .ok (.aload_n 0, 1) := by decide +kernel
theorem dX7_readAgain_22 : decode cX7_readAgain 22 = .ok (.aload_n 1, 1) := by decide +kernel
theorem dX7_readAgain_23 : decode cX7_readAgain 23 = .ok (.iconst 4, 1) := by decide +kernel
theorem dX7_readAgain_24 : decode cX7_readAgain 24 = .ok (.iload 5, 2) := by decide +kernel
theorem dX7_readAgain_26 : decode cX7_readAgain 26 = .ok (.iconst 0, 1) := by decide +kernel
theorem dX7_readAgain_27 : decode cX7_readAgain 27 = .ok (.iconst 0, 1) := by decide +kernel
theorem dX7_readAgain_28 : decode cX7_readAgain 28 = .ok (.invokevirtual 77, 3) := by decide +kernel
theorem dX7_readAgain_31 : decode cX7_readAgain 31 = .ok (.aload_n 0, 1) := by decide +kernel
theorem dX7_readAgain_32 : decode cX7_readAgain 32 = .ok (.aload_n 1, 1) := by decide +kernel
theorem dX7_readAgain_33 : decode cX7_readAgain 33 = .ok (.aload_n 2, 1) := by decide +kernel
theorem dX7_readAgain_34 : decode cX7_readAgain 34 = .ok (.iload_n 3, 1) := by decide +kernel
theorem dX7_readAgain_35 : decode cX7_readAgain 35 = .ok (.invokevirtual 28, 3) := by decide +kernel
theorem dX7_readAgain_38 : decode cX7_readAgain 38 = .ok (.aload_n 1, 1) := by decide +kernel
theorem dX7_readAgain_39 : decode cX7_readAgain 39 = .ok (.invokevirtual 32, 3) := by decide +kernel
theorem dX7_readAgain_42 : decode cX7_readAgain 42 = .ok (.ifCond .eq 23, 3) := by decide +kernel
theorem dX7_readAgain_45 : decode cX7_readAgain 45 = .ok (.iload 4, 2) := by decide +kernel
theorem dX7_readAgain_47 : decode cX7_readAgain 47 = .ok (.aload_n 0, 1) := by decide +kernel
theorem dX7_readAgain_48 : decode cX7_readAgain 48 = .ok (.getfield 24, 3) := by decide +kernel
theorem dX7_readAgain_51 : decode cX7_readAgain 51 = .ok (.if_icmp .ge 14, 3) := by decide +kernel
theorem dX7_readAgain_54 : decode cX7_readAgain 54 = .ok (.aload_n 0, 1) := by decide +kernel
theorem dX7_readAgain_55 : decode cX7_readAgain 55 = .ok (.getfield 18, 3) := by decide +kernel
theorem dX7_readAgain_58 : decode cX7_readAgain 58 = .ok (.iload 4, 2) := by decide +kernel
theorem dX7_readAgain_60 : decode cX7_readAgain 60 = .ok (.aload_n 0, 1) := by decide +kernel
theorem dX7_readAgain_61 : decode cX7_readAgain 61 = .ok (.getfield 24, 3) := by decide +kernel
theorem dX7_readAgain_64 : decode cX7_readAgain 64 = .ok (.iastore, 1) := by decide +kernel
theorem dX7_readAgain_65 : decode cX7_readAgain 65 = .ok (.return_, 1) := by decide +kernel
theorem dX7_put_0 : decode cX7_put 0 = .ok (.aload_n 1, 1) := by decide +kernel
theorem dX7_put_1 : decode cX7_put 1 = .ok (.invokevirtual 32, 3) := by decide +kernel
theorem dX7_put_4 : decode cX7_put 4 = .ok (.ifCond .eq 64, 3) := by decide +kernel
theorem dX7_put_7 : decode cX7_put 7 = .ok (.aload_n 0, 1) := by decide +kernel
theorem dX7_put_8 : decode cX7_put 8 = .ok (.getfield 24, 3) := by decide +kernel
theorem dX7_put_11 : decode cX7_put 11 = .ok (.bipush 25, 2) := by decide +kernel
theorem dX7_put_13 : decode cX7_put 13 = .ok (.if_icmp .ge 55, 3) := by decide +kernel
theorem dX7_put_16 : decode cX7_put 16 = .ok (.aload_n 0, 1) := by decide +kernel
theorem dX7_put_17 : decode cX7_put 17 = .ok (.getfield 11, 3) := by decide +kernel
theorem dX7_put_20 : decode cX7_put 20 = .ok (.aload_n 0, 1) := by decide +kernel
theorem dX7_put_21 : decode cX7_put 21 = .ok (.getfield 24, 3) := by decide +kernel
theorem dX7_put_24 : decode cX7_put 24 = .ok (.iload_n 2, 1) := by decide +kernel
theorem dX7_put_25 : decode cX7_put 25 = .ok (.iastore, 1) := by decide +kernel
theorem dX7_put_26 : decode cX7_put 26 = .ok (.aload_n 0, 1) := by decide +kernel
theorem dX7_put_27 : decode cX7_put 27 = .ok (.getfield 15, 3) := by decide +kernel
theorem dX7_put_30 : decode cX7_put 30 = .ok (.aload_n 0, 1) := by decide +kernel
theorem dX7_put_31 : decode cX7_put 31 = .ok (.getfield 24, 3) := by decide +kernel
theorem dX7_put_34 : decode cX7_put 34 = .ok (.iload_n 3, 1) := by decide +kernel
theorem dX7_put_35 : decode cX7_put 35 = .ok (.iastore, 1) := by decide +kernel
theorem dX7_put_36 : decode cX7_put 36 = .ok (.aload_n 0, 1) := by decide +kernel
theorem dX7_put_37 : decode cX7_put 37 = .ok (.getfield 18, 3) := by decide +kernel
theorem dX7_put_40 : decode cX7_put 40 = .ok (.aload_n 0, 1) := by decide +kernel
theorem dX7_put_41 : decode cX7_put 41 = .ok (.getfield 24, 3) := by decide +kernel
theorem dX7_put_44 : decode cX7_put 44 = .ok (.iload 4, 2) := by decide +kernel
theorem dX7_put_46 : decode cX7_put 46 = .ok (.iastore, 1) := by decide +kernel
theorem dX7_put_47 : decode cX7_put 47 = .ok (.aload_n 0, 1) := by decide +kernel
theorem dX7_put_48 : decode cX7_put 48 = .ok (.getfield 21, 3) := by decide +kernel
theorem dX7_put_51 : decode cX7_put 51 = .ok (.aload_n 0, 1) := by decide +kernel
theorem dX7_put_52 : decode cX7_put 52 = .ok (.getfield 24, 3) := by decide +kernel
theorem dX7_put_55 : decode cX7_put 55 = .ok (.iload 5, 2) := by decide +kernel
theorem dX7_put_57 : decode cX7_put 57 = .ok (.iastore, 1) := by decide +kernel
theorem dX7_put_58 : decode cX7_put 58 = .ok (.aload_n 0, 1) := by decide +kernel
theorem dX7_put_59 : decode cX7_put 59 = .ok (.dup, 1) := by decide +kernel
theorem dX7_put_60 : decode cX7_put 60 = .ok (.getfield 24, 3) := by decide +kernel
theorem dX7_put_63 : decode cX7_put 63 = .ok (.iconst 1, 1) := by decide +kernel
theorem dX7_put_64 : decode cX7_put 64 = .ok (.iadd, 1) := by decide +kernel
theorem dX7_put_65 : decode cX7_put 65 = .ok (.putfield 24, 3) := by decide +kernel
theorem dX7_put_68 : decode cX7_put 68 = .ok (.return_, 1) := by decide +kernel
theorem dX7_carryOut_0 : decode cX7_carryOut 0 = .ok (.aload_n 0, 1) := by decide +kernel
theorem dX7_carryOut_1 : decode cX7_carryOut 1 = .ok (.iconst 0, 1) := by decide +kernel
theorem dX7_carryOut_2 : decode cX7_carryOut 2 = .ok (.putfield 96, 3) := by decide +kernel
theorem dX7_carryOut_5 : decode cX7_carryOut 5 = .ok (.aload_n 0, 1) := by decide +kernel
theorem dX7_carryOut_6 : decode cX7_carryOut 6 = .ok (.iconst 0, 1) := by decide +kernel
theorem dX7_carryOut_7 : decode cX7_carryOut 7 = .ok (.putfield 99, 3) := by decide +kernel
theorem dX7_carryOut_10 : decode cX7_carryOut 10 = .ok (.aload_n 0, 1) := by decide +kernel
theorem dX7_carryOut_11 : decode cX7_carryOut 11 = .ok (.iconst 0, 1) := by decide +kernel
theorem dX7_carryOut_12 : decode cX7_carryOut 12 = .ok (.putfield 102, 3) := by decide +kernel
theorem dX7_carryOut_15 : decode cX7_carryOut 15 = .ok (.aload_n 0, 1) := by decide +kernel
theorem dX7_carryOut_16 : decode cX7_carryOut 16 = .ok (.aload_n 1, 1) := by decide +kernel
theorem dX7_carryOut_17 : decode cX7_carryOut 17 = .ok (.aload_n 2, 1) := by decide +kernel
theorem dX7_carryOut_18 : decode cX7_carryOut 18 = .ok (.iconst 0, 1) := by decide +kernel
theorem dX7_carryOut_19 : decode cX7_carryOut 19 = .ok (.aload_n 0, 1) := by decide +kernel
theorem dX7_carryOut_20 : decode cX7_carryOut 20 = .ok (.getfield 24, 3) := by decide +kernel
theorem dX7_carryOut_23 : decode cX7_carryOut 23 = .ok (.iconst 0, 1) := by decide +kernel
theorem dX7_carryOut_24 : decode cX7_carryOut 24 = .ok (.invokevirtual 105, 3) := by decide +kernel
theorem dX7_carryOut_27 : decode cX7_carryOut 27 = .ok (.return_, 1) := by decide +kernel
theorem dX7_doSteps_0 : decode cX7_doSteps 0 = .ok (.iload_n 3, 1) := by decide +kernel
theorem dX7_doSteps_1 : decode cX7_doSteps 1 = .ok (.istore 6, 2) := by decide +kernel
theorem dX7_doSteps_3 : decode cX7_doSteps 3 = .ok (.iload 6, 2) := by decide +kernel
theorem dX7_doSteps_5 : decode cX7_doSteps 5 = .ok (.iload 4, 2) := by decide +kernel
theorem dX7_doSteps_7 : decode cX7_doSteps 7 = .ok (.if_icmp .ge 135, 3) := by decide +kernel
theorem dX7_doSteps_10 : decode cX7_doSteps 10 = .ok (.aload_n 0, 1) := by decide +kernel
theorem dX7_doSteps_11 : decode cX7_doSteps 11 = .ok (.getfield 96, 3) := by decide +kernel
theorem dX7_doSteps_14 : decode cX7_doSteps 14 = .ok (.sipush 200, 3) := by decide +kernel
theorem dX7_doSteps_17 : decode cX7_doSteps 17 = .ok (.if_icmp .ge 125, 3) := by decide +kernel
theorem dX7_doSteps_20 : decode cX7_doSteps 20 = .ok (.aload_n 0, 1) := by decide +kernel
theorem dX7_doSteps_21 : decode cX7_doSteps 21 = .ok (.dup, 1) := by decide +kernel
theorem dX7_doSteps_22 : decode cX7_doSteps 22 = .ok (.getfield 96, 3) := by decide +kernel
theorem dX7_doSteps_25 : decode cX7_doSteps 25 = .ok (.iconst 1, 1) := by decide +kernel
theorem dX7_doSteps_26 : decode cX7_doSteps 26 = .ok (.iadd, 1) := by decide +kernel
theorem dX7_doSteps_27 : decode cX7_doSteps 27 = .ok (.putfield 96, 3) := by decide +kernel
theorem dX7_doSteps_30 : decode cX7_doSteps 30 = .ok (.aload_n 0, 1) := by decide +kernel
theorem dX7_doSteps_31 : decode cX7_doSteps 31 = .ok (.getfield 11, 3) := by decide +kernel
theorem dX7_doSteps_34 : decode cX7_doSteps 34 = .ok (.iload 6, 2) := by decide +kernel
theorem dX7_doSteps_36 : decode cX7_doSteps 36 = .ok (.iaload, 1) := by decide +kernel
theorem dX7_doSteps_37 : decode cX7_doSteps 37 = .ok (.iconst 4, 1) := by decide +kernel
theorem dX7_doSteps_38 : decode cX7_doSteps 38 = .ok (.if_icmp .ne 64, 3) := by decide +kernel
theorem dX7_doSteps_41 : decode cX7_doSteps 41 = .ok (.iconst 0, 1) := by decide +kernel
theorem dX7_doSteps_42 : decode cX7_doSteps 42 = .ok (.istore 7, 2) := by decide +kernel
theorem dX7_doSteps_44 : decode cX7_doSteps 44 = .ok (.iload 7, 2) := by decide +kernel
theorem dX7_doSteps_46 : decode cX7_doSteps 46 = .ok (.aload_n 0, 1) := by decide +kernel
theorem dX7_doSteps_47 : decode cX7_doSteps 47 = .ok (.getfield 15, 3) := by decide +kernel
theorem dX7_doSteps_50 : decode cX7_doSteps 50 = .ok (.iload 6, 2) := by decide +kernel
theorem dX7_doSteps_52 : decode cX7_doSteps 52 = .ok (.iaload, 1) := by decide +kernel
theorem dX7_doSteps_53 : decode cX7_doSteps 53 = .ok (.if_icmp .ge 37, 3) := by decide +kernel
theorem dX7_doSteps_56 : decode cX7_doSteps 56 = .ok (.iload 5, 2) := by decide +kernel
theorem dX7_doSteps_58 : decode cX7_doSteps 58 = .ok (.bipush 6, 2) := by decide +kernel
theorem dX7_doSteps_60 : decode cX7_doSteps 60 = .ok (.if_icmp .ge 30, 3) := by decide +kernel
theorem dX7_doSteps_63 : decode cX7_doSteps 63 = .ok (.aload_n 0, 1) := by decide +kernel
theorem dX7_doSteps_64 : decode cX7_doSteps 64 = .ok (.aload_n 1, 1) := by decide +kernel
theorem dX7_doSteps_65 : decode cX7_doSteps 65 = .ok (.aload_n 2, 1) := by decide +kernel
theorem dX7_doSteps_66 : decode cX7_doSteps 66 = .ok (.iload 6, 2) := by decide +kernel
theorem dX7_doSteps_68 : decode cX7_doSteps 68 = .ok (.iconst 1, 1) := by decide +kernel
theorem dX7_doSteps_69 : decode cX7_doSteps 69 = .ok (.iadd, 1) := by decide +kernel
theorem dX7_doSteps_70 : decode cX7_doSteps 70 = .ok (.aload_n 0, 1) := by decide +kernel
theorem dX7_doSteps_71 : decode cX7_doSteps 71 = .ok (.getfield 18, 3) := by decide +kernel
theorem dX7_doSteps_74 : decode cX7_doSteps 74 = .ok (.iload 6, 2) := by decide +kernel
theorem dX7_doSteps_76 : decode cX7_doSteps 76 = .ok (.iaload, 1) := by decide +kernel
theorem dX7_doSteps_77 : decode cX7_doSteps 77 = .ok (.iload 5, 2) := by decide +kernel
theorem dX7_doSteps_79 : decode cX7_doSteps 79 = .ok (.iconst 1, 1) := by decide +kernel
theorem dX7_doSteps_80 : decode cX7_doSteps 80 = .ok (.iadd, 1) := by decide +kernel
theorem dX7_doSteps_81 : decode cX7_doSteps 81 = .ok (.invokevirtual 105, 3) := by decide +kernel
theorem dX7_doSteps_84 : decode cX7_doSteps 84 = .ok (.iinc 7 1, 3) := by decide +kernel
theorem dX7_doSteps_87 : decode cX7_doSteps 87 = .ok (.goto (-43), 3) := by decide +kernel
theorem dX7_doSteps_90 : decode cX7_doSteps 90 = .ok (.aload_n 0, 1) := by decide +kernel
theorem dX7_doSteps_91 : decode cX7_doSteps 91 = .ok (.getfield 18, 3) := by decide +kernel
theorem dX7_doSteps_94 : decode cX7_doSteps 94 = .ok (.iload 6, 2) := by decide +kernel
theorem dX7_doSteps_96 : decode cX7_doSteps 96 = .ok (.iaload, 1) := by decide +kernel
theorem dX7_doSteps_97 : decode cX7_doSteps 97 = .ok (.istore 6, 2) := by decide +kernel
theorem dX7_doSteps_99 : decode cX7_doSteps 99 = .ok (.goto (-96), 3) := by decide +kernel
theorem dX7_doSteps_102 : decode cX7_doSteps 102 = .ok (.aload_n 0, 1) := by decide +kernel
theorem dX7_doSteps_103 : decode cX7_doSteps 103 = .ok (.aload_n 1, 1) := by decide +kernel
theorem dX7_doSteps_104 : decode cX7_doSteps 104 = .ok (.aload_n 2, 1) := by decide +kernel
theorem dX7_doSteps_105 : decode cX7_doSteps 105 = .ok (.iload 6, 2) := by decide +kernel
theorem dX7_doSteps_107 : decode cX7_doSteps 107 = .ok (.invokevirtual 109, 3) := by decide +kernel
theorem dX7_doSteps_110 : decode cX7_doSteps 110 = .ok (.ifCond .eq 16, 3) := by decide +kernel
theorem dX7_doSteps_113 : decode cX7_doSteps 113 = .ok (.aload_n 0, 1) := by decide +kernel
theorem dX7_doSteps_114 : decode cX7_doSteps 114 = .ok (.dup, 1) := by decide +kernel
theorem dX7_doSteps_115 : decode cX7_doSteps 115 = .ok (.getfield 99, 3) := by decide +kernel
theorem dX7_doSteps_118 : decode cX7_doSteps 118 = .ok (.iconst 1, 1) := by decide +kernel
theorem dX7_doSteps_119 : decode cX7_doSteps 119 = .ok (.iadd, 1) := by decide +kernel
theorem dX7_doSteps_120 : decode cX7_doSteps 120 = .ok (.putfield 99, 3) := by decide +kernel
theorem dX7_doSteps_123 : decode cX7_doSteps 123 = .ok (.goto 13, 3) := by decide +kernel
theorem dX7_doSteps_126 : decode cX7_doSteps 126 = .ok (.aload_n 0, 1) := by decide +kernel
theorem dX7_doSteps_127 : decode cX7_doSteps 127 = .ok (.dup, 1) := by decide +kernel
theorem dX7_doSteps_128 : decode cX7_doSteps 128 = .ok (.getfield 102, 3) := by decide +kernel
theorem dX7_doSteps_131 : decode cX7_doSteps 131 = .ok (.iconst 1, 1) := by decide +kernel
theorem dX7_doSteps_132 : decode cX7_doSteps 132 = .ok (.iadd, 1) := by decide +kernel
theorem dX7_doSteps_133 : decode cX7_doSteps 133 = .ok (.putfield 102, 3) := by decide +kernel
theorem dX7_doSteps_136 : decode cX7_doSteps 136 = .ok (.iinc 6 1, 3) := by decide +kernel
theorem dX7_doSteps_139 : decode cX7_doSteps 139 = .ok (.goto (-136), 3) := by decide +kernel
theorem dX7_doSteps_142 : decode cX7_doSteps 142 = .ok (.return_, 1) := by decide +kernel
theorem dX7_attempt_0 : decode cX7_attempt 0 = .ok (.aload_n 0, 1) := by decide +kernel
theorem dX7_attempt_1 : decode cX7_attempt 1 = .ok (.getfield 11, 3) := by decide +kernel
theorem dX7_attempt_4 : decode cX7_attempt 4 = .ok (.iload_n 3, 1) := by decide +kernel
theorem dX7_attempt_5 : decode cX7_attempt 5 = .ok (.iaload, 1) := by decide +kernel
theorem dX7_attempt_6 : decode cX7_attempt 6 = .ok (.tableswitch 73 0 2 #[26, 50, 62], 26) := by decide +kernel
theorem dX7_attempt_32 : decode cX7_attempt 32 = .ok (.aload_n 1, 1) := by decide +kernel
theorem dX7_attempt_33 : decode cX7_attempt 33 = .ok (.aload_n 2, 1) := by decide +kernel
theorem dX7_attempt_34 : decode cX7_attempt 34 = .ok (.aload_n 0, 1) := by decide +kernel
theorem dX7_attempt_35 : decode cX7_attempt 35 = .ok (.getfield 15, 3) := by decide +kernel
theorem dX7_attempt_38 : decode cX7_attempt 38 = .ok (.iload_n 3, 1) := by decide +kernel
theorem dX7_attempt_39 : decode cX7_attempt 39 = .ok (.iaload, 1) := by decide +kernel
theorem dX7_attempt_40 : decode cX7_attempt 40 = .ok (.aload_n 0, 1) := by decide +kernel
theorem dX7_attempt_41 : decode cX7_attempt 41 = .ok (.getfield 18, 3) := by decide +kernel
theorem dX7_attempt_44 : decode cX7_attempt 44 = .ok (.iload_n 3, 1) := by decide +kernel
theorem dX7_attempt_45 : decode cX7_attempt 45 = .ok (.iaload, 1) := by decide +kernel
theorem dX7_attempt_46 : decode cX7_attempt 46 = .ok (.aload_n 0, 1) := by decide +kernel
theorem dX7_attempt_47 : decode cX7_attempt 47 = .ok (.getfield 21, 3) := by decide +kernel
theorem dX7_attempt_50 : decode cX7_attempt 50 = .ok (.iload_n 3, 1) := by decide +kernel
theorem dX7_attempt_51 : decode cX7_attempt 51 = .ok (.iaload, 1) := by decide +kernel
theorem dX7_attempt_52 : decode cX7_attempt 52 = .ok (.invokevirtual 113, 3) := by decide +kernel
theorem dX7_attempt_55 : decode cX7_attempt 55 = .ok (.ireturn, 1) := by decide +kernel
theorem dX7_attempt_56 : decode cX7_attempt 56 = .ok (.aload_n 1, 1) := by decide +kernel
theorem dX7_attempt_57 : decode cX7_attempt 57 = .ok (.aload_n 2, 1) := by decide +kernel
theorem dX7_attempt_58 : decode cX7_attempt 58 = .ok (.aload_n 0, 1) := by decide +kernel
theorem dX7_attempt_59 : decode cX7_attempt 59 = .ok (.getfield 15, 3) := by decide +kernel
theorem dX7_attempt_62 : decode cX7_attempt 62 = .ok (.iload_n 3, 1) := by decide +kernel
theorem dX7_attempt_63 : decode cX7_attempt 63 = .ok (.iaload, 1) := by decide +kernel
theorem dX7_attempt_64 : decode cX7_attempt 64 = .ok (.invokevirtual 118, 3) := by decide +kernel
theorem dX7_attempt_67 : decode cX7_attempt 67 = .ok (.ireturn, 1) := by decide +kernel
theorem dX7_attempt_68 : decode cX7_attempt 68 = .ok (.aload_n 1, 1) := by decide +kernel
theorem dX7_attempt_69 : decode cX7_attempt 69 = .ok (.aload_n 0, 1) := by decide +kernel
theorem dX7_attempt_70 : decode cX7_attempt 70 = .ok (.getfield 15, 3) := by decide +kernel
theorem dX7_attempt_73 : decode cX7_attempt 73 = .ok (.iload_n 3, 1) := by decide +kernel
theorem dX7_attempt_74 : decode cX7_attempt 74 = .ok (.iaload, 1) := by decide +kernel
theorem dX7_attempt_75 : decode cX7_attempt 75 = .ok (.invokevirtual 121, 3) := by decide +kernel
theorem dX7_attempt_78 : decode cX7_attempt 78 = .ok (.ireturn, 1) := by decide +kernel
theorem dX7_attempt_79 : decode cX7_attempt 79 = .ok (.aload_n 1, 1) := by decide +kernel
theorem dX7_attempt_80 : decode cX7_attempt 80 = .ok (.aload_n 2, 1) := by decide +kernel
theorem dX7_attempt_81 : decode cX7_attempt 81 = .ok (.invokevirtual 124, 3) := by decide +kernel
theorem dX7_attempt_84 : decode cX7_attempt 84 = .ok (.ireturn, 1) := by decide +kernel
theorem dX8_init_0 : decode cX8_init 0 = .ok (.aload_n 0, 1) := by decide +kernel
theorem dX8_init_1 : decode cX8_init 1 = .ok (.invokespecial 3, 3) := by decide +kernel
theorem dX8_init_4 : decode cX8_init 4 = .ok (.aload_n 0, 1) := by decide +kernel
theorem dX8_init_5 : decode cX8_init 5 = .ok (.iconst 4, 1) := by decide +kernel
theorem dX8_init_6 : decode cX8_init 6 = .ok (.newarray .int, 2) := by decide +kernel
theorem dX8_init_8 : decode cX8_init 8 = .ok (.putfield 9, 3) := by decide +kernel
theorem dX8_init_11 : decode cX8_init 11 = .ok (.aload_n 0, 1) := by decide +kernel
theorem dX8_init_12 : decode cX8_init 12 = .ok (.bipush 8, 2) := by decide +kernel
theorem dX8_init_14 : decode cX8_init 14 = .ok (.newarray .int, 2) := by decide +kernel
theorem dX8_init_16 : decode cX8_init 16 = .ok (.putfield 15, 3) := by decide +kernel
theorem dX8_init_19 : decode cX8_init 19 = .ok (.aload_n 0, 1) := by decide +kernel
theorem dX8_init_20 : decode cX8_init 20 = .ok (.bipush 8, 2) := by decide +kernel
theorem dX8_init_22 : decode cX8_init 22 = .ok (.newarray .int, 2) := by decide +kernel
theorem dX8_init_24 : decode cX8_init 24 = .ok (.putfield 18, 3) := by decide +kernel
theorem dX8_init_27 : decode cX8_init 27 = .ok (.aload_n 0, 1) := by decide +kernel
theorem dX8_init_28 : decode cX8_init 28 = .ok (.bipush 6, 2) := by decide +kernel
theorem dX8_init_30 : decode cX8_init 30 = .ok (.newarray .int, 2) := by decide +kernel
theorem dX8_init_32 : decode cX8_init 32 = .ok (.putfield 21, 3) := by decide +kernel
theorem dX8_init_35 : decode cX8_init 35 = .ok (.aload_n 0, 1) := by decide +kernel
theorem dX8_init_36 : decode cX8_init 36 = .ok (.bipush 6, 2) := by decide +kernel
theorem dX8_init_38 : decode cX8_init 38 = .ok (.newarray .int, 2) := by decide +kernel
theorem dX8_init_40 : decode cX8_init 40 = .ok (.putfield 24, 3) := by decide +kernel
theorem dX8_init_43 : decode cX8_init 43 = .ok (.aload_n 0, 1) := by decide +kernel
theorem dX8_init_44 : decode cX8_init 44 = .ok (.bipush 6, 2) := by decide +kernel
theorem dX8_init_46 : decode cX8_init 46 = .ok (.newarray .int, 2) := by decide +kernel
theorem dX8_init_48 : decode cX8_init 48 = .ok (.putfield 27, 3) := by decide +kernel
theorem dX8_init_51 : decode cX8_init 51 = .ok (.aload_n 0, 1) := by decide +kernel
theorem dX8_init_52 : decode cX8_init 52 = .ok (.bipush 10, 2) := by decide +kernel
theorem dX8_init_54 : decode cX8_init 54 = .ok (.newarray .int, 2) := by decide +kernel
theorem dX8_init_56 : decode cX8_init 56 = .ok (.putfield 30, 3) := by decide +kernel
theorem dX8_init_59 : decode cX8_init 59 = .ok (.aload_n 0, 1) := by decide +kernel
theorem dX8_init_60 : decode cX8_init 60 = .ok (.invokevirtual 33, 3) := by decide +kernel
theorem dX8_init_63 : decode cX8_init 63 = .ok (.return_, 1) := by decide +kernel
theorem dX8_clear_0 : decode cX8_clear 0 = .ok (.aload_n 0, 1) := by decide +kernel
theorem dX8_clear_1 : decode cX8_clear 1 = .ok (.iconst 0, 1) := by decide +kernel
theorem dX8_clear_2 : decode cX8_clear 2 = .ok (.putfield 36, 3) := by decide +kernel
theorem dX8_clear_5 : decode cX8_clear 5 = .ok (.aload_n 0, 1) := by decide +kernel
theorem dX8_clear_6 : decode cX8_clear 6 = .ok (.iconst 0, 1) := by decide +kernel
theorem dX8_clear_7 : decode cX8_clear 7 = .ok (.putfield 40, 3) := by decide +kernel
theorem dX8_clear_10 : decode cX8_clear 10 = .ok (.aload_n 0, 1) := by decide +kernel
theorem dX8_clear_11 : decode cX8_clear 11 = .ok (.iconst 0, 1) := by decide +kernel
theorem dX8_clear_12 : decode cX8_clear 12 = .ok (.putfield 43, 3) := by decide +kernel
theorem dX8_clear_15 : decode cX8_clear 15 = .ok (.iconst 0, 1) := by decide +kernel
theorem dX8_clear_16 : decode cX8_clear 16 = .ok (.istore_n 1, 1) := by decide +kernel
theorem dX8_clear_17 : decode cX8_clear 17 = .ok (.iload_n 1, 1) := by decide +kernel
theorem dX8_clear_18 : decode cX8_clear 18 = .ok (.bipush 10, 2) := by decide +kernel
theorem dX8_clear_20 : decode cX8_clear 20 = .ok (.if_icmp .ge 16, 3) := by decide +kernel
theorem dX8_clear_23 : decode cX8_clear 23 = .ok (.aload_n 0, 1) := by decide +kernel
theorem dX8_clear_24 : decode cX8_clear 24 = .ok (.getfield 30, 3) := by decide +kernel
theorem dX8_clear_27 : decode cX8_clear 27 = .ok (.iload_n 1, 1) := by decide +kernel
theorem dX8_clear_28 : decode cX8_clear 28 = .ok (.iconst (-1), 1) := by decide +kernel
theorem dX8_clear_29 : decode cX8_clear 29 = .ok (.iastore, 1) := by decide +kernel
theorem dX8_clear_30 : decode cX8_clear 30 = .ok (.iinc 1 1, 3) := by decide +kernel
theorem dX8_clear_33 : decode cX8_clear 33 = .ok (.goto (-16), 3) := by decide +kernel
theorem dX8_clear_36 : decode cX8_clear 36 = .ok (.return_, 1) := by decide +kernel
theorem dX8_read_0 : decode cX8_read 0 = .ok (.aload_n 0, 1) := by decide +kernel
theorem dX8_read_1 : decode cX8_read 1 = .ok (.invokevirtual 33, 3) := by decide +kernel
theorem dX8_read_4 : decode cX8_read 4 = .ok (.iconst 0, 1) := by decide +kernel
theorem dX8_read_5 : decode cX8_read 5 = .ok (.istore_n 2, 1) := by decide +kernel
theorem dX8_read_6 : decode cX8_read 6 = .ok (.iload_n 2, 1) := by decide +kernel
theorem dX8_read_7 : decode cX8_read 7 = .ok (.bipush 60, 2) := by decide +kernel
theorem dX8_read_9 : decode cX8_read 9 = .ok (.if_icmp .gt 28, 3) := by decide +kernel
theorem dX8_read_12 : decode cX8_read 12 = .ok (.aload_n 1, 1) := by decide +kernel
theorem dX8_read_13 : decode cX8_read 13 = .ok (.invokevirtual 46, 3) := by decide +kernel
theorem dX8_read_16 : decode cX8_read 16 = .ok (.ifCond .eq 21, 3) := by decide +kernel
theorem dX8_read_19 : decode cX8_read 19 = .ok (.aload_n 0, 1) := by decide +kernel
theorem dX8_read_20 : decode cX8_read 20 = .ok (.aload_n 1, 1) := by decide +kernel
theorem dX8_read_21 : decode cX8_read 21 = .ok (.iload_n 2, 1) := by decide +kernel
theorem dX8_read_22 : decode cX8_read 22 = .ok (.invokevirtual 52, 3) := by decide +kernel
theorem dX8_read_25 : decode cX8_read 25 = .ok (.aload_n 1, 1) := by decide +kernel
theorem dX8_read_26 : decode cX8_read 26 = .ok (.bipush 59, 2) := by decide +kernel
theorem dX8_read_28 : decode cX8_read 28 = .ok (.invokevirtual 56, 3) := by decide +kernel
theorem dX8_read_31 : decode cX8_read 31 = .ok (.iinc 2 1, 3) := by decide +kernel
theorem dX8_read_34 : decode cX8_read 34 = .ok (.goto (-28), 3) := by decide +kernel
theorem dX8_read_37 : decode cX8_read 37 = .ok (.return_, 1) := by decide +kernel
theorem dX8_readClause_0 : decode cX8_readClause 0 = .ok (.aload_n 1, 1) := by decide +kernel
theorem dX8_readClause_1 : decode cX8_readClause 1 = .ok (.invokevirtual 60, 3) := by decide +kernel
theorem dX8_readClause_4 : decode cX8_readClause 4 = .ok (.istore_n 3, 1) := by decide +kernel
theorem dX8_readClause_5 : decode cX8_readClause 5 = .ok (.aload_n 1, 1) := by decide +kernel
theorem dX8_readClause_6 : decode cX8_readClause 6 = .ok (.invokestatic 64, 3) := by decide +kernel
theorem dX8_readClause_9 : decode cX8_readClause 9 = .ok (.istore 4, 2) := by decide +kernel
theorem dX8_readClause_11 : decode cX8_readClause 11 = .ok (.iload 4, 2) := by decide +kernel
theorem dX8_readClause_13 : decode cX8_readClause 13 = .ok (.iconst (-1), 1) := by decide +kernel
theorem dX8_readClause_14 : decode cX8_readClause 14 = .ok (.if_icmp .ne 12, 3) := by decide +kernel
theorem dX8_readClause_17 : decode cX8_readClause 17 = .ok (.aload_n 1, 1) := by decide +kernel
theorem dX8_readClause_18 : decode cX8_readClause 18 = .ok (.iconst 1, 1) := by decide +kernel
theorem dX8_readClause_19 : decode cX8_readClause 19 = .ok (.iload_n 3, 1) := by decide +kernel
theorem dX8_readClause_20 : decode cX8_readClause 20 = .ok (.invokevirtual 68, 3) := by decide +kernel
theorem dX8_readClause_23 : decode cX8_readClause 23 = .ok (.goto 48, 3) := by decide +kernel
theorem dX8_readClause_26 : decode cX8_readClause 26 = .ok (.iload_n 2, 1) := by decide +kernel
theorem dX8_readClause_27 : decode cX8_readClause 27 = .ok (.bipush 60, 2) := by decide +kernel
theorem dX8_readClause_29 : decode cX8_readClause 29 = .ok (.if_icmp .eq 12, 3) := by decide +kernel
theorem dX8_readClause_32 : decode cX8_readClause 32 = .ok (.aload_n 0, 1) := by decide +kernel
theorem dX8_readClause_33 : decode cX8_readClause 33 = .ok (.iload 4, 2) := by decide +kernel
theorem dX8_readClause_35 : decode cX8_readClause 35 = .ok (.invokevirtual 72, 3) := by decide +kernel
theorem dX8_readClause_38 : decode cX8_readClause 38 = .ok (.ifCond .eq 12, 3) := by decide +kernel
theorem dX8_readClause_41 : decode cX8_readClause 41 = .ok (.aload_n 1, 1) := by decide +kernel
theorem dX8_readClause_42 : decode cX8_readClause 42 = .ok (.iconst 3, 1) := by decide +kernel
theorem dX8_readClause_43 : decode cX8_readClause 43 = .ok (.iload_n 3, 1) := by decide +kernel
theorem dX8_readClause_44 : decode cX8_readClause 44 = .ok (.invokevirtual 68, 3) := by decide +kernel
theorem dX8_readClause_47 : decode cX8_readClause 47 = .ok (.goto 24, 3) := by decide +kernel
theorem dX8_readClause_50 : decode cX8_readClause 50 = .ok (.iload 4, 2) := by decide +kernel
theorem dX8_readClause_52 : decode cX8_readClause 52 = .ok (.iconst 2, 1) := by decide +kernel
theorem dX8_readClause_53 : decode cX8_readClause 53 = .ok (.if_icmp .ne 11, 3) := by decide +kernel
theorem dX8_readClause_56 : decode cX8_readClause 56 = .ok (.aload_n 0, 1) := by decide +kernel
theorem dX8_readClause_57 : decode cX8_readClause 57 = .ok (.aload_n 1, 1) := by decide +kernel
theorem dX8_readClause_58 : decode cX8_readClause 58 = .ok (.invokevirtual 76, 3) := by decide +kernel
theorem dX8_readClause_61 : decode cX8_readClause 61 = .ok (.goto 10, 3) := by decide +kernel
theorem dX8_readClause_64 : decode cX8_readClause 64 = .ok (.aload_n 0, 1) := by decide +kernel
theorem dX8_readClause_65 : decode cX8_readClause 65 = .ok (.aload_n 1, 1) := by decide +kernel
theorem dX8_readClause_66 : decode cX8_readClause 66 = .ok (.iload 4, 2) := by decide +kernel
theorem dX8_readClause_68 : decode cX8_readClause 68 = .ok (.invokevirtual 80, 3) := by decide +kernel
theorem dX8_readClause_71 : decode cX8_readClause 71 = .ok (.return_, 1) := by decide +kernel
theorem dX8_clauseWord_0 : decode cX8_clauseWord 0 = .ok (.aload_n 0, 1) := by decide +kernel
theorem dX8_clauseWord_1 : decode cX8_clauseWord 1 = .ok (.ldc 83, 2) := by decide +kernel
theorem dX8_clauseWord_3 : decode cX8_clauseWord 3 = .ok (.invokevirtual 85, 3) := by decide +kernel
theorem dX8_clauseWord_6 : decode cX8_clauseWord 6 = .ok (.ifCond .eq 5, 3) := by decide +kernel
theorem dX8_clauseWord_9 : decode cX8_clauseWord 9 = .ok (.iconst 0, 1) := by decide +kernel
theorem dX8_clauseWord_10 : decode cX8_clauseWord 10 = .ok (.ireturn, 1) := by decide +kernel
theorem dX8_clauseWord_11 : decode cX8_clauseWord 11 = .ok (.aload_n 0, 1) := by decide +kernel
theorem dX8_clauseWord_12 : decode cX8_clauseWord 12 = .ok (.ldc 89, 2) := by decide +kernel
theorem dX8_clauseWord_14 : decode cX8_clauseWord 14 = .ok (.invokevirtual 85, 3) := by decide +kernel
theorem dX8_clauseWord_17 : decode cX8_clauseWord 17 = .ok (.ifCond .eq 5, 3) := by decide +kernel
theorem dX8_clauseWord_20 : decode cX8_clauseWord 20 = .ok (.iconst 1, 1) := by decide +kernel
theorem dX8_clauseWord_21 : decode cX8_clauseWord 21 = .ok (.ireturn, 1) := by decide +kernel
theorem dX8_clauseWord_22 : decode cX8_clauseWord 22 = .ok (.aload_n 0, 1) := by decide +kernel
theorem dX8_clauseWord_23 : decode cX8_clauseWord 23 = .ok (.ldc 91, 2) := by decide +kernel
theorem dX8_clauseWord_25 : decode cX8_clauseWord 25 = .ok (.invokevirtual 85, 3) := by decide +kernel
theorem dX8_clauseWord_28 : decode cX8_clauseWord 28 = .ok (.ifCond .eq 5, 3) := by decide +kernel
theorem dX8_clauseWord_31 : decode cX8_clauseWord 31 = .ok (.iconst 2, 1) := by decide +kernel
theorem dX8_clauseWord_32 : decode cX8_clauseWord 32 = .ok (.ireturn, 1) := by decide +kernel
theorem dX8_clauseWord_33 : decode cX8_clauseWord 33 = .ok (.aload_n 0, 1) := by decide +kernel
theorem dX8_clauseWord_34 : decode cX8_clauseWord 34 = .ok (.ldc 92, 2) := by decide +kernel
theorem dX8_clauseWord_36 : decode cX8_clauseWord 36 = .ok (.invokevirtual 85, 3) := by decide +kernel
theorem dX8_clauseWord_39 : decode cX8_clauseWord 39 = .ok (.ifCond .eq 5, 3) := by decide +kernel
theorem dX8_clauseWord_42 : decode cX8_clauseWord 42 = .ok (.iconst 3, 1) := by decide +kernel
theorem dX8_clauseWord_43 : decode cX8_clauseWord 43 = .ok (.ireturn, 1) := by decide +kernel
theorem dX8_clauseWord_44 : decode cX8_clauseWord 44 = .ok (.aload_n 0, 1) := by decide +kernel
theorem dX8_clauseWord_45 : decode cX8_clauseWord 45 = .ok (.ldc 94, 2) := by decide +kernel
theorem dX8_clauseWord_47 : decode cX8_clauseWord 47 = .ok (.invokevirtual 85, 3) := by decide +kernel
theorem dX8_clauseWord_50 : decode cX8_clauseWord 50 = .ok (.ifCond .eq 7, 3) := by decide +kernel
theorem dX8_clauseWord_53 : decode cX8_clauseWord 53 = .ok (.iconst 4, 1) := by decide +kernel
theorem dX8_clauseWord_54 : decode cX8_clauseWord 54 = .ok (.goto 4, 3) := by decide +kernel
theorem dX8_clauseWord_57 : decode cX8_clauseWord 57 = .ok (.iconst (-1), 1) := by decide +kernel
theorem dX8_clauseWord_58 : decode cX8_clauseWord 58 = .ok (.ireturn, 1) := by decide +kernel
theorem dX8_isFull_0 : decode cX8_isFull 0 = .ok (.iload_n 1, 1) := by decide +kernel
theorem dX8_isFull_1 : decode cX8_isFull 1 = .ok (.tableswitch 75 0 3 #[31, 45, 75, 60], 31) := by decide +kernel
theorem dX8_isFull_32 : decode cX8_isFull 32 = .ok (.aload_n 0, 1) := by decide +kernel
theorem dX8_isFull_33 : decode cX8_isFull 33 = .ok (.getfield 36, 3) := by decide +kernel
theorem dX8_isFull_36 : decode cX8_isFull 36 = .ok (.iconst 4, 1) := by decide +kernel
theorem dX8_isFull_37 : decode cX8_isFull 37 = .ok (.if_icmp .lt 7, 3) := by decide +kernel
theorem dX8_isFull_40 : decode cX8_isFull 40 = .ok (.iconst 1, 1) := by decide +kernel
theorem dX8_isFull_41 : decode cX8_isFull 41 = .ok (.goto 4, 3) := by decide +kernel
theorem dX8_isFull_44 : decode cX8_isFull 44 = .ok (.iconst 0, 1) := by decide +kernel
theorem dX8_isFull_45 : decode cX8_isFull 45 = .ok (.ireturn, 1) := by decide +kernel
theorem dX8_isFull_46 : decode cX8_isFull 46 = .ok (.aload_n 0, 1) := by decide +kernel
theorem dX8_isFull_47 : decode cX8_isFull 47 = .ok (.getfield 40, 3) := by decide +kernel
theorem dX8_isFull_50 : decode cX8_isFull 50 = .ok (.bipush 8, 2) := by decide +kernel
theorem dX8_isFull_52 : decode cX8_isFull 52 = .ok (.if_icmp .lt 7, 3) := by decide +kernel
theorem dX8_isFull_55 : decode cX8_isFull 55 = .ok (.iconst 1, 1) := by decide +kernel
theorem dX8_isFull_56 : decode cX8_isFull 56 = .ok (.goto 4, 3) := by decide +kernel
theorem dX8_isFull_59 : decode cX8_isFull 59 = .ok (.iconst 0, 1) := by decide +kernel
theorem dX8_isFull_60 : decode cX8_isFull 60 = .ok (.ireturn, 1) := by decide +kernel
theorem dX8_isFull_61 : decode cX8_isFull 61 = .ok (.aload_n 0, 1) := by decide +kernel
theorem dX8_isFull_62 : decode cX8_isFull 62 = .ok (.getfield 43, 3) := by decide +kernel
theorem dX8_isFull_65 : decode cX8_isFull 65 = .ok (.bipush 6, 2) := by decide +kernel
theorem dX8_isFull_67 : decode cX8_isFull 67 = .ok (.if_icmp .lt 7, 3) := by decide +kernel
theorem dX8_isFull_70 : decode cX8_isFull 70 = .ok (.iconst 1, 1) := by decide +kernel
theorem dX8_isFull_71 : decode cX8_isFull 71 = .ok (.goto 4, 3) := by decide +kernel
theorem dX8_isFull_74 : decode cX8_isFull 74 = .ok (.iconst 0, 1) := by decide +kernel
theorem dX8_isFull_75 : decode cX8_isFull 75 = .ok (.ireturn, 1) := by decide +kernel
theorem dX8_isFull_76 : decode cX8_isFull 76 = .ok (.iconst 0, 1) := by decide +kernel
theorem dX8_isFull_77 : decode cX8_isFull 77 = .ok (.ireturn, 1) := by decide +kernel
theorem dX8_readKin_0 : decode cX8_readKin 0 = .ok (.aload_n 1, 1) := by decide +kernel
theorem dX8_readKin_1 : decode cX8_readKin 1 = .ok (.iconst 0, 1) := by decide +kernel
theorem dX8_readKin_2 : decode cX8_readKin 2 = .ok (.bipush 9, 2) := by decide +kernel
theorem dX8_readKin_4 : decode cX8_readKin 4 = .ok (.invokevirtual 95, 3) := by decide +kernel
theorem dX8_readKin_7 : decode cX8_readKin 7 = .ok (.istore_n 2, 1) := by decide +kernel
theorem dX8_readKin_8 : decode cX8_readKin 8 = .ok (.aload_n 1, 1) := by decide +kernel
theorem dX8_readKin_9 : decode cX8_readKin 9 = .ok (.invokevirtual 60, 3) := by decide +kernel
theorem dX8_readKin_12 : decode cX8_readKin 12 = .ok (.istore_n 3, 1) := by decide +kernel
theorem dX8_readKin_13 : decode cX8_readKin 13 = .ok (.aload_n 1, 1) := by decide +kernel
theorem dX8_readKin_14 : decode cX8_readKin 14 = .ok (.iconst 0, 1) := by decide +kernel
theorem dX8_readKin_15 : decode cX8_readKin 15 = .ok (.bipush 9, 2) := by decide +kernel
theorem dX8_readKin_17 : decode cX8_readKin 17 = .ok (.invokevirtual 95, 3) := by decide +kernel
theorem dX8_readKin_20 : decode cX8_readKin 20 = .ok (.istore 4, 2) := by decide +kernel
theorem dX8_readKin_22 : decode cX8_readKin 22 = .ok (.iload 4, 2) := by decide +kernel
theorem dX8_readKin_24 : decode cX8_readKin 24 = .ok (.iload_n 2, 1) := by decide +kernel
theorem dX8_readKin_25 : decode cX8_readKin 25 = .ok (.if_icmp .ne 9, 3) := by decide +kernel
theorem dX8_readKin_28 : decode cX8_readKin 28 = .ok (.aload_n 1, 1) := by decide +kernel
theorem dX8_readKin_29 : decode cX8_readKin 29 = .ok (.iconst 2, 1) := by decide +kernel
theorem dX8_readKin_30 : decode cX8_readKin 30 = .ok (.iload_n 3, 1) := by decide +kernel
theorem dX8_readKin_31 : decode cX8_readKin 31 = .ok (.invokevirtual 68, 3) := by decide +kernel
theorem dX8_readKin_34 : decode cX8_readKin 34 = .ok (.aload_n 1, 1) := by decide +kernel
theorem dX8_readKin_35 : decode cX8_readKin 35 = .ok (.invokevirtual 99, 3) := by decide +kernel
theorem dX8_readKin_38 : decode cX8_readKin 38 = .ok (.ifCond .eq 11, 3) := by decide +kernel
theorem dX8_readKin_41 : decode cX8_readKin 41 = .ok (.aload_n 0, 1) := by decide +kernel
theorem dX8_readKin_42 : decode cX8_readKin 42 = .ok (.getfield 30, 3) := by decide +kernel
theorem dX8_readKin_45 : decode cX8_readKin 45 = .ok (.iload_n 2, 1) := by decide +kernel
theorem dX8_readKin_46 : decode cX8_readKin 46 = .ok (.iload 4, 2) := by decide +kernel
theorem dX8_readKin_48 : decode cX8_readKin 48 = .ok (.iastore, 1) := by decide +kernel
theorem dX8_readKin_49 : decode cX8_readKin 49 = .ok (.return_, 1) := by decide +kernel
theorem dX8_readTold_0 : decode cX8_readTold 0 = .ok (.iload_n 2, 1) := by decide +kernel
theorem dX8_readTold_1 : decode cX8_readTold 1 = .ok (.tableswitch 89 0 3 #[31, 46, 89, 68], 31) := by decide +kernel
theorem dX8_readTold_32 : decode cX8_readTold 32 = .ok (.aload_n 0, 1) := by decide +kernel
theorem dX8_readTold_33 : decode cX8_readTold 33 = .ok (.aload_n 1, 1) := by decide +kernel
theorem dX8_readTold_34 : decode cX8_readTold 34 = .ok (.aload_n 1, 1) := by decide +kernel
theorem dX8_readTold_35 : decode cX8_readTold 35 = .ok (.iconst 1, 1) := by decide +kernel
theorem dX8_readTold_36 : decode cX8_readTold 36 = .ok (.bipush 30, 2) := by decide +kernel
theorem dX8_readTold_38 : decode cX8_readTold 38 = .ok (.invokevirtual 95, 3) := by decide +kernel
theorem dX8_readTold_41 : decode cX8_readTold 41 = .ok (.invokevirtual 102, 3) := by decide +kernel
theorem dX8_readTold_44 : decode cX8_readTold 44 = .ok (.goto 73, 3) := by decide +kernel
theorem dX8_readTold_47 : decode cX8_readTold 47 = .ok (.aload_n 0, 1) := by decide +kernel
theorem dX8_readTold_48 : decode cX8_readTold 48 = .ok (.aload_n 1, 1) := by decide +kernel
theorem dX8_readTold_49 : decode cX8_readTold 49 = .ok (.aload_n 1, 1) := by decide +kernel
theorem dX8_readTold_50 : decode cX8_readTold 50 = .ok (.iconst 0, 1) := by decide +kernel
theorem dX8_readTold_51 : decode cX8_readTold 51 = .ok (.bipush 9, 2) := by decide +kernel
theorem dX8_readTold_53 : decode cX8_readTold 53 = .ok (.invokevirtual 95, 3) := by decide +kernel
theorem dX8_readTold_56 : decode cX8_readTold 56 = .ok (.aload_n 1, 1) := by decide +kernel
theorem dX8_readTold_57 : decode cX8_readTold 57 = .ok (.iconst 1, 1) := by decide +kernel
theorem dX8_readTold_58 : decode cX8_readTold 58 = .ok (.bipush 15, 2) := by decide +kernel
theorem dX8_readTold_60 : decode cX8_readTold 60 = .ok (.invokevirtual 95, 3) := by decide +kernel
theorem dX8_readTold_63 : decode cX8_readTold 63 = .ok (.invokevirtual 105, 3) := by decide +kernel
theorem dX8_readTold_66 : decode cX8_readTold 66 = .ok (.goto 51, 3) := by decide +kernel
theorem dX8_readTold_69 : decode cX8_readTold 69 = .ok (.aload_n 0, 1) := by decide +kernel
theorem dX8_readTold_70 : decode cX8_readTold 70 = .ok (.aload_n 1, 1) := by decide +kernel
theorem dX8_readTold_71 : decode cX8_readTold 71 = .ok (.aload_n 1, 1) := by decide +kernel
theorem dX8_readTold_72 : decode cX8_readTold 72 = .ok (.iconst 0, 1) := by decide +kernel
theorem dX8_readTold_73 : decode cX8_readTold 73 = .ok (.iconst 3, 1) := by decide +kernel
theorem dX8_readTold_74 : decode cX8_readTold 74 = .ok (.invokevirtual 95, 3) := by decide +kernel
theorem dX8_readTold_77 : decode cX8_readTold 77 = .ok (.aload_n 1, 1) := by decide +kernel
theorem dX8_readTold_78 : decode cX8_readTold 78 = .ok (.iconst 1, 1) := by decide +kernel
theorem dX8_readTold_79 : decode cX8_readTold 79 = .ok (.bipush 60, 2) := by decide +kernel
theorem dX8_readTold_81 : decode cX8_readTold 81 = .ok (.invokevirtual 95, 3) := by decide +kernel
theorem dX8_readTold_84 : decode cX8_readTold 84 = .ok (.invokevirtual 109, 3) := by decide +kernel
theorem dX8_readTold_87 : decode cX8_readTold 87 = .ok (.goto 30, 3) := by decide +kernel
theorem dX8_readTold_90 : decode cX8_readTold 90 = .ok (.aload_n 0, 1) := by decide +kernel
theorem dX8_readTold_91 : decode cX8_readTold 91 = .ok (.aload_n 1, 1) := by decide +kernel
theorem dX8_readTold_92 : decode cX8_readTold 92 = .ok (.aload_n 1, 1) := by decide +kernel
theorem dX8_readTold_93 : decode cX8_readTold 93 = .ok (.iconst 0, 1) := by decide +kernel
theorem dX8_readTold_94 : decode cX8_readTold 94 = .ok (.aload_n 0, 1) := by decide +kernel
theorem dX8_readTold_95 : decode cX8_readTold 95 = .ok (.getfield 43, 3) := by decide +kernel
theorem dX8_readTold_98 : decode cX8_readTold 98 = .ok (.iconst 1, 1) := by decide +kernel
theorem dX8_readTold_99 : decode cX8_readTold 99 = .ok (.isub, 1) := by decide +kernel
theorem dX8_readTold_100 : decode cX8_readTold 100 = .ok (.invokevirtual 95, 3) := by decide +kernel
theorem dX8_readTold_103 : decode cX8_readTold 103 = .ok (.aload_n 1, 1) := by decide +kernel
theorem dX8_readTold_104 : decode cX8_readTold 104 = .ok (.iconst 0, 1) := by decide +kernel
theorem dX8_readTold_105 : decode cX8_readTold 105 = .ok (.aload_n 0, 1) := by decide +kernel
theorem dX8_readTold_106 : decode cX8_readTold 106 = .ok (.getfield 40, 3) := by decide +kernel
theorem dX8_readTold_109 : decode cX8_readTold 109 = .ok (.iconst 1, 1) := by decide +kernel
theorem dX8_readTold_110 : decode cX8_readTold 110 = .ok (.isub, 1) := by decide +kernel
theorem dX8_readTold_111 : decode cX8_readTold 111 = .ok (.invokevirtual 95, 3) := by decide +kernel
theorem dX8_readTold_114 : decode cX8_readTold 114 = .ok (.invokevirtual 112, 3) := by decide +kernel
theorem dX8_readTold_117 : decode cX8_readTold 117 = .ok (.return_, 1) := by decide +kernel
theorem dX8_addRow_0 : decode cX8_addRow 0 = .ok (.aload_n 1, 1) := by decide +kernel
theorem dX8_addRow_1 : decode cX8_addRow 1 = .ok (.invokevirtual 99, 3) := by decide +kernel
theorem dX8_addRow_4 : decode cX8_addRow 4 = .ok (.ifCond .eq 23, 3) := by decide +kernel
theorem dX8_addRow_7 : decode cX8_addRow 7 = .ok (.aload_n 0, 1) := by decide +kernel
theorem dX8_addRow_8 : decode cX8_addRow 8 = .ok (.getfield 9, 3) := by decide +kernel
theorem dX8_addRow_11 : decode cX8_addRow 11 = .ok (.aload_n 0, 1) := by decide +kernel
theorem dX8_addRow_12 : decode cX8_addRow 12 = .ok (.getfield 36, 3) := by decide +kernel
theorem dX8_addRow_15 : decode cX8_addRow 15 = .ok (.iload_n 2, 1) := by decide +kernel
theorem dX8_addRow_16 : decode cX8_addRow 16 = .ok (.iastore, 1) := by decide +kernel
theorem dX8_addRow_17 : decode cX8_addRow 17 = .ok (.aload_n 0, 1) := by decide +kernel
theorem dX8_addRow_18 : decode cX8_addRow 18 = .ok (.dup, 1) := by decide +kernel
theorem dX8_addRow_19 : decode cX8_addRow 19 = .ok (.getfield 36, 3) := by decide +kernel
theorem dX8_addRow_22 : decode cX8_addRow 22 = .ok (.iconst 1, 1) := by decide +kernel
theorem dX8_addRow_23 : decode cX8_addRow 23 = .ok (.iadd, 1) := by decide +kernel
theorem dX8_addRow_24 : decode cX8_addRow 24 = .ok (.putfield 36, 3) := by decide +kernel
theorem dX8_addRow_27 : decode cX8_addRow 27 = .ok (.return_, 1) := by decide +kernel
theorem dX8_addBid_0 : decode cX8_addBid 0 = .ok (.aload_n 1, 1) := by decide +kernel
theorem dX8_addBid_1 : decode cX8_addBid 1 = .ok (.invokevirtual 99, 3) := by decide +kernel
theorem dX8_addBid_4 : decode cX8_addBid 4 = .ok (.ifCond .eq 33, 3) := by decide +kernel
theorem dX8_addBid_7 : decode cX8_addBid 7 = .ok (.aload_n 0, 1) := by decide +kernel
theorem dX8_addBid_8 : decode cX8_addBid 8 = .ok (.getfield 15, 3) := by decide +kernel
theorem dX8_addBid_11 : decode cX8_addBid 11 = .ok (.aload_n 0, 1) := by decide +kernel
theorem dX8_addBid_12 : decode cX8_addBid 12 = .ok (.getfield 40, 3) := by decide +kernel
theorem dX8_addBid_15 : decode cX8_addBid 15 = .ok (.iload_n 2, 1) := by decide +kernel
theorem dX8_addBid_16 : decode cX8_addBid 16 = .ok (.iastore, 1) := by decide +kernel
theorem dX8_addBid_17 : decode cX8_addBid 17 = .ok (.aload_n 0, 1) := by decide +kernel
theorem dX8_addBid_18 : decode cX8_addBid 18 = .ok (.getfield 18, 3) := by decide +kernel
theorem dX8_addBid_21 : decode cX8_addBid 21 = .ok (.aload_n 0, 1) := by decide +kernel
theorem dX8_addBid_22 : decode cX8_addBid 22 = .ok (.getfield 40, 3) := by decide +kernel
theorem dX8_addBid_25 : decode cX8_addBid 25 = .ok (.iload_n 3, 1) := by decide +kernel
theorem dX8_addBid_26 : decode cX8_addBid 26 = .ok (.iastore, 1) := by decide +kernel
theorem dX8_addBid_27 : decode cX8_addBid 27 = .ok (.aload_n 0, 1) := by decide +kernel
theorem dX8_addBid_28 : decode cX8_addBid 28 = .ok (.dup, 1) := by decide +kernel
theorem dX8_addBid_29 : decode cX8_addBid 29 = .ok (.getfield 40, 3) := by decide +kernel
theorem dX8_addBid_32 : decode cX8_addBid 32 = .ok (.iconst 1, 1) := by decide +kernel
theorem dX8_addBid_33 : decode cX8_addBid 33 = .ok (.iadd, 1) := by decide +kernel
theorem dX8_addBid_34 : decode cX8_addBid 34 = .ok (.putfield 40, 3) := by decide +kernel
theorem dX8_addBid_37 : decode cX8_addBid 37 = .ok (.return_, 1) := by decide +kernel
theorem dX8_addWriter_0 : decode cX8_addWriter 0 = .ok (.aload_n 1, 1) := by decide +kernel
theorem dX8_addWriter_1 : decode cX8_addWriter 1 = .ok (.invokevirtual 99, 3) := by decide +kernel
theorem dX8_addWriter_4 : decode cX8_addWriter 4 = .ok (.ifCond .eq 43, 3) := by decide +kernel
theorem dX8_addWriter_7 : decode cX8_addWriter 7 = .ok (.aload_n 0, 1) := by decide +kernel
theorem dX8_addWriter_8 : decode cX8_addWriter 8 = .ok (.getfield 21, 3) := by decide +kernel
theorem dX8_addWriter_11 : decode cX8_addWriter 11 = .ok (.aload_n 0, 1) := by decide +kernel
theorem dX8_addWriter_12 : decode cX8_addWriter 12 = .ok (.getfield 43, 3) := by decide +kernel
theorem dX8_addWriter_15 : decode cX8_addWriter 15 = .ok (.iload_n 2, 1) := by decide +kernel
theorem dX8_addWriter_16 : decode cX8_addWriter 16 = .ok (.iastore, 1) := by decide +kernel
theorem dX8_addWriter_17 : decode cX8_addWriter 17 = .ok (.aload_n 0, 1) := by decide +kernel
theorem dX8_addWriter_18 : decode cX8_addWriter 18 = .ok (.getfield 24, 3) := by decide +kernel
theorem dX8_addWriter_21 : decode cX8_addWriter 21 = .ok (.aload_n 0, 1) := by decide +kernel
theorem dX8_addWriter_22 : decode cX8_addWriter 22 = .ok (.getfield 43, 3) := by decide +kernel
theorem dX8_addWriter_25 : decode cX8_addWriter 25 = .ok (.iload_n 3, 1) := by decide +kernel
theorem dX8_addWriter_26 : decode cX8_addWriter 26 = .ok (.iastore, 1) := by decide +kernel
theorem dX8_addWriter_27 : decode cX8_addWriter 27 = .ok (.aload_n 0, 1) := by decide +kernel
theorem dX8_addWriter_28 : decode cX8_addWriter 28 = .ok (.getfield 27, 3) := by decide +kernel
theorem dX8_addWriter_31 : decode cX8_addWriter 31 = .ok (.aload_n 0, 1) := by decide +kernel
theorem dX8_addWriter_32 : decode cX8_addWriter 32 = .ok (.getfield 43, 3) := by decide +kernel
theorem dX8_addWriter_35 : decode cX8_addWriter 35 = .ok (.iconst 0, 1) := by decide +kernel
theorem dX8_addWriter_36 : decode cX8_addWriter 36 = .ok (.iastore, 1) := by decide +kernel
theorem dX8_addWriter_37 : decode cX8_addWriter 37 = .ok (.aload_n 0, 1) := by decide +kernel
theorem dX8_addWriter_38 : decode cX8_addWriter 38 = .ok (.dup, 1) := by decide +kernel
theorem dX8_addWriter_39 : decode cX8_addWriter 39 = .ok (.getfield 43, 3) := by decide +kernel
theorem dX8_addWriter_42 : decode cX8_addWriter 42 = .ok (.iconst 1, 1) := by decide +kernel
theorem dX8_addWriter_43 : decode cX8_addWriter 43 = .ok (.iadd, 1) := by decide +kernel
theorem dX8_addWriter_44 : decode cX8_addWriter 44 = .ok (.putfield 43, 3) := by decide +kernel
theorem dX8_addWriter_47 : decode cX8_addWriter 47 = .ok (.return_, 1) := by decide +kernel
theorem dX8_addKnown_0 : decode cX8_addKnown 0 = .ok (.aload_n 1, 1) := by decide +kernel
theorem dX8_addKnown_1 : decode cX8_addKnown 1 = .ok (.invokevirtual 99, 3) := by decide +kernel
theorem dX8_addKnown_4 : decode cX8_addKnown 4 = .ok (.ifCond .eq 15, 3) := by decide +kernel
theorem dX8_addKnown_7 : decode cX8_addKnown 7 = .ok (.aload_n 0, 1) := by decide +kernel
theorem dX8_addKnown_8 : decode cX8_addKnown 8 = .ok (.getfield 27, 3) := by decide +kernel
theorem dX8_addKnown_11 : decode cX8_addKnown 11 = .ok (.iload_n 2, 1) := by decide +kernel
theorem dX8_addKnown_12 : decode cX8_addKnown 12 = .ok (.dup2, 1) := by decide +kernel
theorem dX8_addKnown_13 : decode cX8_addKnown 13 = .ok (.iaload, 1) := by decide +kernel
theorem dX8_addKnown_14 : decode cX8_addKnown 14 = .ok (.iconst 1, 1) := by decide +kernel
theorem dX8_addKnown_15 : decode cX8_addKnown 15 = .ok (.iload_n 3, 1) := by decide +kernel
theorem dX8_addKnown_16 : decode cX8_addKnown 16 = .ok (.ishl, 1) := by decide +kernel
theorem dX8_addKnown_17 : decode cX8_addKnown 17 = .ok (.ior, 1) := by decide +kernel
theorem dX8_addKnown_18 : decode cX8_addKnown 18 = .ok (.iastore, 1) := by decide +kernel
theorem dX8_addKnown_19 : decode cX8_addKnown 19 = .ok (.return_, 1) := by decide +kernel
theorem dX8_whoKnows_0 : decode cX8_whoKnows 0 = .ok (.iconst 0, 1) := by decide +kernel
theorem dX8_whoKnows_1 : decode cX8_whoKnows 1 = .ok (.istore_n 2, 1) := by decide +kernel
theorem dX8_whoKnows_2 : decode cX8_whoKnows 2 = .ok (.iconst 0, 1) := by decide +kernel
theorem dX8_whoKnows_3 : decode cX8_whoKnows 3 = .ok (.istore_n 3, 1) := by decide +kernel
theorem dX8_whoKnows_4 : decode cX8_whoKnows 4 = .ok (.iload_n 3, 1) := by decide +kernel
theorem dX8_whoKnows_5 : decode cX8_whoKnows 5 = .ok (.aload_n 0, 1) := by decide +kernel
theorem dX8_whoKnows_6 : decode cX8_whoKnows 6 = .ok (.getfield 43, 3) := by decide +kernel
theorem dX8_whoKnows_9 : decode cX8_whoKnows 9 = .ok (.if_icmp .ge 28, 3) := by decide +kernel
theorem dX8_whoKnows_12 : decode cX8_whoKnows 12 = .ok (.aload_n 0, 1) := by decide +kernel
theorem dX8_whoKnows_13 : decode cX8_whoKnows 13 = .ok (.getfield 27, 3) := by decide +kernel
theorem dX8_whoKnows_16 : decode cX8_whoKnows 16 = .ok (.iload_n 3, 1) := by decide +kernel
theorem dX8_whoKnows_17 : decode cX8_whoKnows 17 = .ok (.iaload, 1) := by decide +kernel
theorem dX8_whoKnows_18 : decode cX8_whoKnows 18 = .ok (.iload_n 1, 1) := by decide +kernel
theorem dX8_whoKnows_19 : decode cX8_whoKnows 19 = .ok (.invokestatic 115, 3) := by decide +kernel
theorem dX8_whoKnows_22 : decode cX8_whoKnows 22 = .ok (.ifCond .eq 9, 3) := by decide +kernel
theorem dX8_whoKnows_25 : decode cX8_whoKnows 25 = .ok (.iload_n 2, 1) := by decide +kernel
theorem dX8_whoKnows_26 : decode cX8_whoKnows 26 = .ok (.iconst 1, 1) := by decide +kernel
theorem dX8_whoKnows_27 : decode cX8_whoKnows 27 = .ok (.iload_n 3, 1) := by decide +kernel
theorem dX8_whoKnows_28 : decode cX8_whoKnows 28 = .ok (.ishl, 1) := by decide +kernel
theorem dX8_whoKnows_29 : decode cX8_whoKnows 29 = .ok (.ior, 1) := by decide +kernel
theorem dX8_whoKnows_30 : decode cX8_whoKnows 30 = .ok (.istore_n 2, 1) := by decide +kernel
theorem dX8_whoKnows_31 : decode cX8_whoKnows 31 = .ok (.iinc 3 1, 3) := by decide +kernel
theorem dX8_whoKnows_34 : decode cX8_whoKnows 34 = .ok (.goto (-30), 3) := by decide +kernel
theorem dX8_whoKnows_37 : decode cX8_whoKnows 37 = .ok (.iload_n 2, 1) := by decide +kernel
theorem dX8_whoKnows_38 : decode cX8_whoKnows 38 = .ok (.ireturn, 1) := by decide +kernel
theorem dX8_knownTo_0 : decode cX8_knownTo 0 = .ok (.iconst 0, 1) := by decide +kernel
theorem dX8_knownTo_1 : decode cX8_knownTo 1 = .ok (.istore_n 2, 1) := by decide +kernel
theorem dX8_knownTo_2 : decode cX8_knownTo 2 = .ok (.iconst 0, 1) := by decide +kernel
theorem dX8_knownTo_3 : decode cX8_knownTo 3 = .ok (.istore_n 3, 1) := by decide +kernel
theorem dX8_knownTo_4 : decode cX8_knownTo 4 = .ok (.iload_n 3, 1) := by decide +kernel
theorem dX8_knownTo_5 : decode cX8_knownTo 5 = .ok (.aload_n 0, 1) := by decide +kernel
theorem dX8_knownTo_6 : decode cX8_knownTo 6 = .ok (.getfield 43, 3) := by decide +kernel
theorem dX8_knownTo_9 : decode cX8_knownTo 9 = .ok (.if_icmp .ge 26, 3) := by decide +kernel
theorem dX8_knownTo_12 : decode cX8_knownTo 12 = .ok (.iload_n 1, 1) := by decide +kernel
theorem dX8_knownTo_13 : decode cX8_knownTo 13 = .ok (.iload_n 3, 1) := by decide +kernel
theorem dX8_knownTo_14 : decode cX8_knownTo 14 = .ok (.invokestatic 115, 3) := by decide +kernel
theorem dX8_knownTo_17 : decode cX8_knownTo 17 = .ok (.ifCond .eq 12, 3) := by decide +kernel
theorem dX8_knownTo_20 : decode cX8_knownTo 20 = .ok (.iload_n 2, 1) := by decide +kernel
theorem dX8_knownTo_21 : decode cX8_knownTo 21 = .ok (.aload_n 0, 1) := by decide +kernel
theorem dX8_knownTo_22 : decode cX8_knownTo 22 = .ok (.getfield 27, 3) := by decide +kernel
theorem dX8_knownTo_25 : decode cX8_knownTo 25 = .ok (.iload_n 3, 1) := by decide +kernel
theorem dX8_knownTo_26 : decode cX8_knownTo 26 = .ok (.iaload, 1) := by decide +kernel
theorem dX8_knownTo_27 : decode cX8_knownTo 27 = .ok (.ior, 1) := by decide +kernel
theorem dX8_knownTo_28 : decode cX8_knownTo 28 = .ok (.istore_n 2, 1) := by decide +kernel
theorem dX8_knownTo_29 : decode cX8_knownTo 29 = .ok (.iinc 3 1, 3) := by decide +kernel
theorem dX8_knownTo_32 : decode cX8_knownTo 32 = .ok (.goto (-28), 3) := by decide +kernel
theorem dX8_knownTo_35 : decode cX8_knownTo 35 = .ok (.iload_n 2, 1) := by decide +kernel
theorem dX8_knownTo_36 : decode cX8_knownTo 36 = .ok (.ireturn, 1) := by decide +kernel
theorem dX8_givenBy_0 : decode cX8_givenBy 0 = .ok (.iconst 0, 1) := by decide +kernel
theorem dX8_givenBy_1 : decode cX8_givenBy 1 = .ok (.istore_n 3, 1) := by decide +kernel
theorem dX8_givenBy_2 : decode cX8_givenBy 2 = .ok (.iconst 0, 1) := by decide +kernel
theorem dX8_givenBy_3 : decode cX8_givenBy 3 = .ok (.istore 4, 2) := by decide +kernel
theorem dX8_givenBy_5 : decode cX8_givenBy 5 = .ok (.iload 4, 2) := by decide +kernel
theorem dX8_givenBy_7 : decode cX8_givenBy 7 = .ok (.aload_n 0, 1) := by decide +kernel
theorem dX8_givenBy_8 : decode cX8_givenBy 8 = .ok (.getfield 43, 3) := by decide +kernel
theorem dX8_givenBy_11 : decode cX8_givenBy 11 = .ok (.if_icmp .ge 32, 3) := by decide +kernel
theorem dX8_givenBy_14 : decode cX8_givenBy 14 = .ok (.iload_n 1, 1) := by decide +kernel
theorem dX8_givenBy_15 : decode cX8_givenBy 15 = .ok (.iload 4, 2) := by decide +kernel
theorem dX8_givenBy_17 : decode cX8_givenBy 17 = .ok (.invokestatic 115, 3) := by decide +kernel
theorem dX8_givenBy_20 : decode cX8_givenBy 20 = .ok (.ifCond .eq 17, 3) := by decide +kernel
theorem dX8_givenBy_23 : decode cX8_givenBy 23 = .ok (.iload_n 3, 1) := by decide +kernel
theorem dX8_givenBy_24 : decode cX8_givenBy 24 = .ok (.iload_n 2, 1) := by decide +kernel
theorem dX8_givenBy_25 : decode cX8_givenBy 25 = .ok (.aload_n 0, 1) := by decide +kernel
theorem dX8_givenBy_26 : decode cX8_givenBy 26 = .ok (.getfield 24, 3) := by decide +kernel
theorem dX8_givenBy_29 : decode cX8_givenBy 29 = .ok (.iload 4, 2) := by decide +kernel
theorem dX8_givenBy_31 : decode cX8_givenBy 31 = .ok (.iaload, 1) := by decide +kernel
theorem dX8_givenBy_32 : decode cX8_givenBy 32 = .ok (.invokestatic 119, 3) := by decide +kernel
theorem dX8_givenBy_35 : decode cX8_givenBy 35 = .ok (.iadd, 1) := by decide +kernel
theorem dX8_givenBy_36 : decode cX8_givenBy 36 = .ok (.istore_n 3, 1) := by decide +kernel
theorem dX8_givenBy_37 : decode cX8_givenBy 37 = .ok (.iinc 4 1, 3) := by decide +kernel
theorem dX8_givenBy_40 : decode cX8_givenBy 40 = .ok (.goto (-35), 3) := by decide +kernel
theorem dX8_givenBy_43 : decode cX8_givenBy 43 = .ok (.iload_n 3, 1) := by decide +kernel
theorem dX8_givenBy_44 : decode cX8_givenBy 44 = .ok (.ireturn, 1) := by decide +kernel
theorem dX8_crewHas_0 : decode cX8_crewHas 0 = .ok (.iload_n 1, 1) := by decide +kernel
theorem dX8_crewHas_1 : decode cX8_crewHas 1 = .ok (.iload_n 2, 1) := by decide +kernel
theorem dX8_crewHas_2 : decode cX8_crewHas 2 = .ok (.if_icmp .ne 14, 3) := by decide +kernel
theorem dX8_crewHas_5 : decode cX8_crewHas 5 = .ok (.aload_n 0, 1) := by decide +kernel
theorem dX8_crewHas_6 : decode cX8_crewHas 6 = .ok (.getfield 9, 3) := by decide +kernel
theorem dX8_crewHas_9 : decode cX8_crewHas 9 = .ok (.iload_n 1, 1) := by decide +kernel
theorem dX8_crewHas_10 : decode cX8_crewHas 10 = .ok (.iaload, 1) := by decide +kernel
theorem dX8_crewHas_11 : decode cX8_crewHas 11 = .ok (.iconst 2, 1) := by decide +kernel
theorem dX8_crewHas_12 : decode cX8_crewHas 12 = .ok (.idiv, 1) := by decide +kernel
theorem dX8_crewHas_13 : decode cX8_crewHas 13 = .ok (.iload_n 3, 1) := by decide +kernel
theorem dX8_crewHas_14 : decode cX8_crewHas 14 = .ok (.isub, 1) := by decide +kernel
theorem dX8_crewHas_15 : decode cX8_crewHas 15 = .ok (.ireturn, 1) := by decide +kernel
theorem dX8_crewHas_16 : decode cX8_crewHas 16 = .ok (.iload_n 1, 1) := by decide +kernel
theorem dX8_crewHas_17 : decode cX8_crewHas 17 = .ok (.iload_n 2, 1) := by decide +kernel
theorem dX8_crewHas_18 : decode cX8_crewHas 18 = .ok (.if_icmp .le 15, 3) := by decide +kernel
theorem dX8_crewHas_21 : decode cX8_crewHas 21 = .ok (.aload_n 0, 1) := by decide +kernel
theorem dX8_crewHas_22 : decode cX8_crewHas 22 = .ok (.getfield 9, 3) := by decide +kernel
theorem dX8_crewHas_25 : decode cX8_crewHas 25 = .ok (.iload_n 1, 1) := by decide +kernel
theorem dX8_crewHas_26 : decode cX8_crewHas 26 = .ok (.iaload, 1) := by decide +kernel
theorem dX8_crewHas_27 : decode cX8_crewHas 27 = .ok (.iload 4, 2) := by decide +kernel
theorem dX8_crewHas_29 : decode cX8_crewHas 29 = .ok (.iadd, 1) := by decide +kernel
theorem dX8_crewHas_30 : decode cX8_crewHas 30 = .ok (.goto 9, 3) := by decide +kernel
theorem dX8_crewHas_33 : decode cX8_crewHas 33 = .ok (.aload_n 0, 1) := by decide +kernel
theorem dX8_crewHas_34 : decode cX8_crewHas 34 = .ok (.getfield 9, 3) := by decide +kernel
theorem dX8_crewHas_37 : decode cX8_crewHas 37 = .ok (.iload_n 1, 1) := by decide +kernel
theorem dX8_crewHas_38 : decode cX8_crewHas 38 = .ok (.iaload, 1) := by decide +kernel
theorem dX8_crewHas_39 : decode cX8_crewHas 39 = .ok (.ireturn, 1) := by decide +kernel
theorem dX9_init_0 : decode cX9_init 0 = .ok (.aload_n 0, 1) := by decide +kernel
theorem dX9_init_1 : decode cX9_init 1 = .ok (.invokespecial 3, 3) := by decide +kernel
theorem dX9_init_4 : decode cX9_init 4 = .ok (.aload_n 0, 1) := by decide +kernel
theorem dX9_init_5 : decode cX9_init 5 = .ok (.sipush 600, 3) := by decide +kernel
theorem dX9_init_8 : decode cX9_init 8 = .ok (.newarray .int, 2) := by decide +kernel
theorem dX9_init_10 : decode cX9_init 10 = .ok (.putfield 9, 3) := by decide +kernel
theorem dX9_init_13 : decode cX9_init 13 = .ok (.aload_n 0, 1) := by decide +kernel
theorem dX9_init_14 : decode cX9_init 14 = .ok (.iconst (-1), 1) := by decide +kernel
theorem dX9_init_15 : decode cX9_init 15 = .ok (.putfield 15, 3) := by decide +kernel
theorem dX9_init_18 : decode cX9_init 18 = .ok (.return_, 1) := by decide +kernel
theorem dX9_hasRoom_0 : decode cX9_hasRoom 0 = .ok (.aload_n 0, 1) := by decide +kernel
theorem dX9_hasRoom_1 : decode cX9_hasRoom 1 = .ok (.getfield 19, 3) := by decide +kernel
theorem dX9_hasRoom_4 : decode cX9_hasRoom 4 = .ok (.bipush 20, 2) := by decide +kernel
theorem dX9_hasRoom_6 : decode cX9_hasRoom 6 = .ok (.iadd, 1) := by decide +kernel
theorem dX9_hasRoom_7 : decode cX9_hasRoom 7 = .ok (.sipush 600, 3) := by decide +kernel
theorem dX9_hasRoom_10 : decode cX9_hasRoom 10 = .ok (.if_icmp .gt 7, 3) := by decide +kernel
theorem dX9_hasRoom_13 : decode cX9_hasRoom 13 = .ok (.iconst 1, 1) := by decide +kernel
theorem dX9_hasRoom_14 : decode cX9_hasRoom 14 = .ok (.goto 4, 3) := by decide +kernel
theorem dX9_hasRoom_17 : decode cX9_hasRoom 17 = .ok (.iconst 0, 1) := by decide +kernel
theorem dX9_hasRoom_18 : decode cX9_hasRoom 18 = .ok (.ireturn, 1) := by decide +kernel
theorem dX9_put_0 : decode cX9_put 0 = .ok (.bipush 24, 2) := by decide +kernel
theorem dX9_put_2 : decode cX9_put 2 = .ok (.istore_n 2, 1) := by decide +kernel
theorem dX9_put_3 : decode cX9_put 3 = .ok (.iload_n 2, 1) := by decide +kernel
theorem dX9_put_4 : decode cX9_put 4 = .ok (.ifCond .lt 47, 3) := by decide +kernel
theorem dX9_put_7 : decode cX9_put 7 = .ok (.aload_n 0, 1) := by decide +kernel
theorem dX9_put_8 : decode cX9_put 8 = .ok (.getfield 19, 3) := by decide +kernel
theorem dX9_put_11 : decode cX9_put 11 = .ok (.aload_n 0, 1) := by decide +kernel
theorem dX9_put_12 : decode cX9_put 12 = .ok (.getfield 9, 3) := by decide +kernel
theorem dX9_put_15 : decode cX9_put 15 = .ok (.arraylength, 1) := by decide +kernel
theorem dX9_put_16 : decode cX9_put 16 = .ok (.if_icmp .ge 35, 3) := by decide +kernel
theorem dX9_put_19 : decode cX9_put 19 = .ok (.aload_n 0, 1) := by decide +kernel
theorem dX9_put_20 : decode cX9_put 20 = .ok (.getfield 9, 3) := by decide +kernel
theorem dX9_put_23 : decode cX9_put 23 = .ok (.aload_n 0, 1) := by decide +kernel
theorem dX9_put_24 : decode cX9_put 24 = .ok (.getfield 19, 3) := by decide +kernel
theorem dX9_put_27 : decode cX9_put 27 = .ok (.iload_n 1, 1) := by decide +kernel
theorem dX9_put_28 : decode cX9_put 28 = .ok (.iload_n 2, 1) := by decide +kernel
theorem dX9_put_29 : decode cX9_put 29 = .ok (.ishr, 1) := by decide +kernel
theorem dX9_put_30 : decode cX9_put 30 = .ok (.sipush 255, 3) := by decide +kernel
theorem dX9_put_33 : decode cX9_put 33 = .ok (.iand, 1) := by decide +kernel
theorem dX9_put_34 : decode cX9_put 34 = .ok (.iastore, 1) := by decide +kernel
theorem dX9_put_35 : decode cX9_put 35 = .ok (.aload_n 0, 1) := by decide +kernel
theorem dX9_put_36 : decode cX9_put 36 = .ok (.dup, 1) := by decide +kernel
theorem dX9_put_37 : decode cX9_put 37 = .ok (.getfield 19, 3) := by decide +kernel
theorem dX9_put_40 : decode cX9_put 40 = .ok (.iconst 1, 1) := by decide +kernel
theorem dX9_put_41 : decode cX9_put 41 = .ok (.iadd, 1) := by decide +kernel
theorem dX9_put_42 : decode cX9_put 42 = .ok (.putfield 19, 3) := by decide +kernel
theorem dX9_put_45 : decode cX9_put 45 = .ok (.iinc 2 (-8), 3) := by decide +kernel
theorem dX9_put_48 : decode cX9_put 48 = .ok (.goto (-45), 3) := by decide +kernel
theorem dX9_put_51 : decode cX9_put 51 = .ok (.return_, 1) := by decide +kernel
theorem dX9_open_0 : decode cX9_open 0 = .ok (.aload_n 0, 1) := by decide +kernel
theorem dX9_open_1 : decode cX9_open 1 = .ok (.iload_n 1, 1) := by decide +kernel
theorem dX9_open_2 : decode cX9_open 2 = .ok (.aload_n 0, 1) := by decide +kernel
theorem dX9_open_3 : decode cX9_open 3 = .ok (.getfield 9, 3) := by decide +kernel
theorem dX9_open_6 : decode cX9_open 6 = .ok (.arraylength, 1) := by decide +kernel
theorem dX9_open_7 : decode cX9_open 7 = .ok (.invokestatic 22, 3) := by decide +kernel
theorem dX9_open_10 : decode cX9_open 10 = .ok (.putfield 28, 3) := by decide +kernel
theorem dX9_open_13 : decode cX9_open 13 = .ok (.aload_n 0, 1) := by decide +kernel
theorem dX9_open_14 : decode cX9_open 14 = .ok (.iconst 0, 1) := by decide +kernel
theorem dX9_open_15 : decode cX9_open 15 = .ok (.putfield 19, 3) := by decide +kernel
theorem dX9_open_18 : decode cX9_open 18 = .ok (.aload_n 0, 1) := by decide +kernel
theorem dX9_open_19 : decode cX9_open 19 = .ok (.iconst 0, 1) := by decide +kernel
theorem dX9_open_20 : decode cX9_open 20 = .ok (.putfield 31, 3) := by decide +kernel
theorem dX9_open_23 : decode cX9_open 23 = .ok (.aload_n 0, 1) := by decide +kernel
theorem dX9_open_24 : decode cX9_open 24 = .ok (.iconst 0, 1) := by decide +kernel
theorem dX9_open_25 : decode cX9_open 25 = .ok (.putfield 34, 3) := by decide +kernel
theorem dX9_open_28 : decode cX9_open 28 = .ok (.aload_n 0, 1) := by decide +kernel
theorem dX9_open_29 : decode cX9_open 29 = .ok (.iconst (-1), 1) := by decide +kernel
theorem dX9_open_30 : decode cX9_open 30 = .ok (.putfield 15, 3) := by decide +kernel
theorem dX9_open_33 : decode cX9_open 33 = .ok (.return_, 1) := by decide +kernel
theorem dX9_isFine_0 : decode cX9_isFine 0 = .ok (.aload_n 0, 1) := by decide +kernel
theorem dX9_isFine_1 : decode cX9_isFine 1 = .ok (.getfield 34, 3) := by decide +kernel
theorem dX9_isFine_4 : decode cX9_isFine 4 = .ok (.ifCond .ne 7, 3) := by decide +kernel
theorem dX9_isFine_7 : decode cX9_isFine 7 = .ok (.iconst 1, 1) := by decide +kernel
theorem dX9_isFine_8 : decode cX9_isFine 8 = .ok (.goto 4, 3) := by decide +kernel
theorem dX9_isFine_11 : decode cX9_isFine 11 = .ok (.iconst 0, 1) := by decide +kernel
theorem dX9_isFine_12 : decode cX9_isFine 12 = .ok (.ireturn, 1) := by decide +kernel
theorem dX9_faultAnswer_0 : decode cX9_faultAnswer 0 = .ok (.aload_n 0, 1) := by decide +kernel
theorem dX9_faultAnswer_1 : decode cX9_faultAnswer 1 = .ok (.getfield 34, 3) := by decide +kernel
theorem dX9_faultAnswer_4 : decode cX9_faultAnswer 4 = .ok (.bipush 10, 2) := by decide +kernel
theorem dX9_faultAnswer_6 : decode cX9_faultAnswer 6 = .ok (.isub, 1) := by decide +kernel
theorem dX9_faultAnswer_7 : decode cX9_faultAnswer 7 = .ok (.ireturn, 1) := by decide +kernel
theorem dX9_wrong_0 : decode cX9_wrong 0 = .ok (.aload_n 0, 1) := by decide +kernel
theorem dX9_wrong_1 : decode cX9_wrong 1 = .ok (.getfield 34, 3) := by decide +kernel
theorem dX9_wrong_4 : decode cX9_wrong 4 = .ok (.ifCond .ne 13, 3) := by decide +kernel
theorem dX9_wrong_7 : decode cX9_wrong 7 = .ok (.aload_n 0, 1) := by decide +kernel
theorem dX9_wrong_8 : decode cX9_wrong 8 = .ok (.iload_n 1, 1) := by decide +kernel
theorem dX9_wrong_9 : decode cX9_wrong 9 = .ok (.putfield 34, 3) := by decide +kernel
theorem dX9_wrong_12 : decode cX9_wrong 12 = .ok (.aload_n 0, 1) := by decide +kernel
theorem dX9_wrong_13 : decode cX9_wrong 13 = .ok (.iload_n 2, 1) := by decide +kernel
theorem dX9_wrong_14 : decode cX9_wrong 14 = .ok (.putfield 15, 3) := by decide +kernel
theorem dX9_wrong_17 : decode cX9_wrong 17 = .ok (.return_, 1) := by decide +kernel
theorem dX9_next_0 : decode cX9_next 0 = .ok (.aload_n 0, 1) := by decide +kernel
theorem dX9_next_1 : decode cX9_next 1 = .ok (.getfield 31, 3) := by decide +kernel
theorem dX9_next_4 : decode cX9_next 4 = .ok (.aload_n 0, 1) := by decide +kernel
theorem dX9_next_5 : decode cX9_next 5 = .ok (.getfield 28, 3) := by decide +kernel
theorem dX9_next_8 : decode cX9_next 8 = .ok (.if_icmp .ge 30, 3) := by decide +kernel
theorem dX9_next_11 : decode cX9_next 11 = .ok (.aload_n 0, 1) := by decide +kernel
theorem dX9_next_12 : decode cX9_next 12 = .ok (.getfield 9, 3) := by decide +kernel
theorem dX9_next_15 : decode cX9_next 15 = .ok (.aload_n 0, 1) := by decide +kernel
theorem dX9_next_16 : decode cX9_next 16 = .ok (.getfield 31, 3) := by decide +kernel
theorem dX9_next_19 : decode cX9_next 19 = .ok (.iaload, 1) := by decide +kernel
theorem dX9_next_20 : decode cX9_next 20 = .ok (.bipush 32, 2) := by decide +kernel
theorem dX9_next_22 : decode cX9_next 22 = .ok (.if_icmp .ne 16, 3) := by decide +kernel
theorem dX9_next_25 : decode cX9_next 25 = .ok (.aload_n 0, 1) := by decide +kernel
theorem dX9_next_26 : decode cX9_next 26 = .ok (.dup, 1) := by decide +kernel
theorem dX9_next_27 : decode cX9_next 27 = .ok (.getfield 31, 3) := by decide +kernel
theorem dX9_next_30 : decode cX9_next 30 = .ok (.iconst 1, 1) := by decide +kernel
theorem dX9_next_31 : decode cX9_next 31 = .ok (.iadd, 1) := by decide +kernel
theorem dX9_next_32 : decode cX9_next 32 = .ok (.putfield 31, 3) := by decide +kernel
theorem dX9_next_35 : decode cX9_next 35 = .ok (.goto (-35), 3) := by decide +kernel
theorem dX9_next_38 : decode cX9_next 38 = .ok (.aload_n 0, 1) := by decide +kernel
theorem dX9_next_39 : decode cX9_next 39 = .ok (.getfield 31, 3) := by decide +kernel
theorem dX9_next_42 : decode cX9_next 42 = .ok (.ireturn, 1) := by decide +kernel
theorem dX9_hasMore_0 : decode cX9_hasMore 0 = .ok (.aload_n 0, 1) := by decide +kernel
theorem dX9_hasMore_1 : decode cX9_hasMore 1 = .ok (.getfield 34, 3) := by decide +kernel
theorem dX9_hasMore_4 : decode cX9_hasMore 4 = .ok (.ifCond .ne 18, 3) := by decide +kernel
theorem dX9_hasMore_7 : decode cX9_hasMore 7 = .ok (.aload_n 0, 1) := by decide +kernel
theorem dX9_hasMore_8 : decode cX9_hasMore 8 = .ok (.invokevirtual 37, 3) := by decide +kernel
theorem dX9_hasMore_11 : decode cX9_hasMore 11 = .ok (.aload_n 0, 1) := by decide +kernel
theorem dX9_hasMore_12 : decode cX9_hasMore 12 = .ok (.getfield 28, 3) := by decide +kernel
theorem dX9_hasMore_15 : decode cX9_hasMore 15 = .ok (.if_icmp .ge 7, 3) := by decide +kernel
theorem dX9_hasMore_18 : decode cX9_hasMore 18 = .ok (.iconst 1, 1) := by decide +kernel
theorem dX9_hasMore_19 : decode cX9_hasMore 19 = .ok (.goto 4, 3) := by decide +kernel
theorem dX9_hasMore_22 : decode cX9_hasMore 22 = .ok (.iconst 0, 1) := by decide +kernel
theorem dX9_hasMore_23 : decode cX9_hasMore 23 = .ok (.ireturn, 1) := by decide +kernel
theorem dX9_comesNumber_0 : decode cX9_comesNumber 0 = .ok (.aload_n 0, 1) := by decide +kernel
theorem dX9_comesNumber_1 : decode cX9_comesNumber 1 = .ok (.getfield 34, 3) := by decide +kernel
theorem dX9_comesNumber_4 : decode cX9_comesNumber 4 = .ok (.ifCond .ne 33, 3) := by decide +kernel
theorem dX9_comesNumber_7 : decode cX9_comesNumber 7 = .ok (.aload_n 0, 1) := by decide +kernel
theorem dX9_comesNumber_8 : decode cX9_comesNumber 8 = .ok (.invokevirtual 37, 3) := by decide +kernel
theorem dX9_comesNumber_11 : decode cX9_comesNumber 11 = .ok (.aload_n 0, 1) := by decide +kernel
theorem dX9_comesNumber_12 : decode cX9_comesNumber 12 = .ok (.getfield 28, 3) := by decide +kernel
theorem dX9_comesNumber_15 : decode cX9_comesNumber 15 = .ok (.if_icmp .ge 22, 3) := by decide +kernel
theorem dX9_comesNumber_18 : decode cX9_comesNumber 18 = .ok (.aload_n 0, 1) := by decide +kernel
theorem dX9_comesNumber_19 : decode cX9_comesNumber 19 = .ok (.getfield 9, 3) := by decide +kernel
theorem dX9_comesNumber_22 : decode cX9_comesNumber 22 = .ok (.aload_n 0, 1) := by decide +kernel
theorem dX9_comesNumber_23 : decode cX9_comesNumber 23 = .ok (.getfield 31, 3) := by decide +kernel
theorem dX9_comesNumber_26 : decode cX9_comesNumber 26 = .ok (.iaload, 1) := by decide +kernel
theorem dX9_comesNumber_27 : decode cX9_comesNumber 27 = .ok (.invokestatic 41, 3) := by decide +kernel
theorem dX9_comesNumber_30 : decode cX9_comesNumber 30 = .ok (.ifCond .eq 7, 3) := by decide +kernel
theorem dX9_comesNumber_33 : decode cX9_comesNumber 33 = .ok (.iconst 1, 1) := by decide +kernel
theorem dX9_comesNumber_34 : decode cX9_comesNumber 34 = .ok (.goto 4, 3) := by decide +kernel
theorem dX9_comesNumber_37 : decode cX9_comesNumber 37 = .ok (.iconst 0, 1) := by decide +kernel
theorem dX9_comesNumber_38 : decode cX9_comesNumber 38 = .ok (.ireturn, 1) := by decide +kernel
theorem dX9_takesSign_0 : decode cX9_takesSign 0 = .ok (.aload_n 0, 1) := by decide +kernel
theorem dX9_takesSign_1 : decode cX9_takesSign 1 = .ok (.getfield 34, 3) := by decide +kernel
theorem dX9_takesSign_4 : decode cX9_takesSign 4 = .ok (.ifCond .ne 31, 3) := by decide +kernel
theorem dX9_takesSign_7 : decode cX9_takesSign 7 = .ok (.aload_n 0, 1) := by decide +kernel
theorem dX9_takesSign_8 : decode cX9_takesSign 8 = .ok (.invokevirtual 37, 3) := by decide +kernel
theorem dX9_takesSign_11 : decode cX9_takesSign 11 = .ok (.aload_n 0, 1) := by decide +kernel
theorem dX9_takesSign_12 : decode cX9_takesSign 12 = .ok (.getfield 28, 3) := by decide +kernel
theorem dX9_takesSign_15 : decode cX9_takesSign 15 = .ok (.if_icmp .ge 20, 3) := by decide +kernel
theorem dX9_takesSign_18 : decode cX9_takesSign 18 = .ok (.aload_n 0, 1) := by decide +kernel
theorem dX9_takesSign_19 : decode cX9_takesSign 19 = .ok (.getfield 9, 3) := by decide +kernel
theorem dX9_takesSign_22 : decode cX9_takesSign 22 = .ok (.aload_n 0, 1) := by decide +kernel
theorem dX9_takesSign_23 : decode cX9_takesSign 23 = .ok (.getfield 31, 3) := by decide +kernel
theorem dX9_takesSign_26 : decode cX9_takesSign 26 = .ok (.iaload, 1) := by decide +kernel
theorem dX9_takesSign_27 : decode cX9_takesSign 27 = .ok (.iload_n 1, 1) := by decide +kernel
theorem dX9_takesSign_28 : decode cX9_takesSign 28 = .ok (.if_icmp .ne 7, 3) := by decide +kernel
theorem dX9_takesSign_31 : decode cX9_takesSign 31 = .ok (.iconst 1, 1) := by decide +kernel
theorem dX9_takesSign_32 : decode cX9_takesSign 32 = .ok (.goto 4, 3) := by decide +kernel
theorem dX9_takesSign_35 : decode cX9_takesSign 35 = .ok (.iconst 0, 1) := by decide +kernel
theorem dX9_takesSign_36 : decode cX9_takesSign 36 = .ok (.istore_n 2, 1) := by decide +kernel
theorem dX9_takesSign_37 : decode cX9_takesSign 37 = .ok (.iload_n 2, 1) := by decide +kernel
theorem dX9_takesSign_38 : decode cX9_takesSign 38 = .ok (.ifCond .eq 13, 3) := by decide +kernel
theorem dX9_takesSign_41 : decode cX9_takesSign 41 = .ok (.aload_n 0, 1) := by decide +kernel
theorem dX9_takesSign_42 : decode cX9_takesSign 42 = .ok (.dup, 1) := by decide +kernel
theorem dX9_takesSign_43 : decode cX9_takesSign 43 = .ok (.getfield 31, 3) := by decide +kernel
theorem dX9_takesSign_46 : decode cX9_takesSign 46 = .ok (.iconst 1, 1) := by decide +kernel
theorem dX9_takesSign_47 : decode cX9_takesSign 47 = .ok (.iadd, 1) := by decide +kernel
theorem dX9_takesSign_48 : decode cX9_takesSign 48 = .ok (.putfield 31, 3) := by decide +kernel
theorem dX9_takesSign_51 : decode cX9_takesSign 51 = .ok (.iload_n 2, 1) := by decide +kernel
theorem dX9_takesSign_52 : decode cX9_takesSign 52 = .ok (.ireturn, 1) := by decide +kernel
theorem dX9_needSign_0 : decode cX9_needSign 0 = .ok (.aload_n 0, 1) := by decide +kernel
theorem dX9_needSign_1 : decode cX9_needSign 1 = .ok (.getfield 34, 3) := by decide +kernel
theorem dX9_needSign_4 : decode cX9_needSign 4 = .ok (.ifCond .ne 40, 3) := by decide +kernel
theorem dX9_needSign_7 : decode cX9_needSign 7 = .ok (.aload_n 0, 1) := by decide +kernel
theorem dX9_needSign_8 : decode cX9_needSign 8 = .ok (.invokevirtual 37, 3) := by decide +kernel
theorem dX9_needSign_11 : decode cX9_needSign 11 = .ok (.aload_n 0, 1) := by decide +kernel
theorem dX9_needSign_12 : decode cX9_needSign 12 = .ok (.getfield 28, 3) := by decide +kernel
theorem dX9_needSign_15 : decode cX9_needSign 15 = .ok (.if_icmp .ge 29, 3) := by decide +kernel
theorem dX9_needSign_18 : decode cX9_needSign 18 = .ok (.aload_n 0, 1) := by decide +kernel
theorem dX9_needSign_19 : decode cX9_needSign 19 = .ok (.getfield 9, 3) := by decide +kernel
theorem dX9_needSign_22 : decode cX9_needSign 22 = .ok (.aload_n 0, 1) := by decide +kernel
theorem dX9_needSign_23 : decode cX9_needSign 23 = .ok (.getfield 31, 3) := by decide +kernel
theorem dX9_needSign_26 : decode cX9_needSign 26 = .ok (.iaload, 1) := by decide +kernel
theorem dX9_needSign_27 : decode cX9_needSign 27 = .ok (.iload_n 1, 1) := by decide +kernel
theorem dX9_needSign_28 : decode cX9_needSign 28 = .ok (.if_icmp .ne 16, 3) := by decide +kernel
theorem dX9_needSign_31 : decode cX9_needSign 31 = .ok (.aload_n 0, 1) := by decide +kernel
theorem dX9_needSign_32 : decode cX9_needSign 32 = .ok (.dup, 1) := by decide +kernel
theorem dX9_needSign_33 : decode cX9_needSign 33 = .ok (.getfield 31, 3) := by decide +kernel
theorem dX9_needSign_36 : decode cX9_needSign 36 = .ok (.iconst 1, 1) := by decide +kernel
theorem dX9_needSign_37 : decode cX9_needSign 37 = .ok (.iadd, 1) := by decide +kernel
theorem dX9_needSign_38 : decode cX9_needSign 38 = .ok (.putfield 31, 3) := by decide +kernel
theorem dX9_needSign_41 : decode cX9_needSign 41 = .ok (.goto 12, 3) := by decide +kernel
theorem dX9_needSign_44 : decode cX9_needSign 44 = .ok (.aload_n 0, 1) := by decide +kernel
theorem dX9_needSign_45 : decode cX9_needSign 45 = .ok (.iconst 1, 1) := by decide +kernel
theorem dX9_needSign_46 : decode cX9_needSign 46 = .ok (.aload_n 0, 1) := by decide +kernel
theorem dX9_needSign_47 : decode cX9_needSign 47 = .ok (.getfield 31, 3) := by decide +kernel
theorem dX9_needSign_50 : decode cX9_needSign 50 = .ok (.invokevirtual 45, 3) := by decide +kernel
theorem dX9_needSign_53 : decode cX9_needSign 53 = .ok (.return_, 1) := by decide +kernel
theorem dX9_takesWord_0 : decode cX9_takesWord 0 = .ok (.aload_n 0, 1) := by decide +kernel
theorem dX9_takesWord_1 : decode cX9_takesWord 1 = .ok (.getfield 34, 3) := by decide +kernel
theorem dX9_takesWord_4 : decode cX9_takesWord 4 = .ok (.ifCond .ne 14, 3) := by decide +kernel
theorem dX9_takesWord_7 : decode cX9_takesWord 7 = .ok (.aload_n 0, 1) := by decide +kernel
theorem dX9_takesWord_8 : decode cX9_takesWord 8 = .ok (.invokevirtual 37, 3) := by decide +kernel
theorem dX9_takesWord_11 : decode cX9_takesWord 11 = .ok (.aload_n 0, 1) := by decide +kernel
theorem dX9_takesWord_12 : decode cX9_takesWord 12 = .ok (.getfield 28, 3) := by decide +kernel
theorem dX9_takesWord_15 : decode cX9_takesWord 15 = .ok (.if_icmp .lt 5, 3) := by decide +kernel
theorem dX9_takesWord_18 : decode cX9_takesWord 18 = .ok (.iconst 0, 1) := by decide +kernel
theorem dX9_takesWord_19 : decode cX9_takesWord 19 = .ok (.ireturn, 1) := by decide +kernel
theorem dX9_takesWord_20 : decode cX9_takesWord 20 = .ok (.aload_n 0, 1) := by decide +kernel
theorem dX9_takesWord_21 : decode cX9_takesWord 21 = .ok (.getfield 31, 3) := by decide +kernel
theorem dX9_takesWord_24 : decode cX9_takesWord 24 = .ok (.istore_n 2, 1) := by decide +kernel
theorem dX9_takesWord_25 : decode cX9_takesWord 25 = .ok (.iload_n 2, 1) := by decide +kernel
theorem dX9_takesWord_26 : decode cX9_takesWord 26 = .ok (.aload_n 0, 1) := by decide +kernel
theorem dX9_takesWord_27 : decode cX9_takesWord 27 = .ok (.getfield 28, 3) := by decide +kernel
theorem dX9_takesWord_30 : decode cX9_takesWord 30 = .ok (.if_icmp .ge 21, 3) := by decide +kernel
theorem dX9_takesWord_33 : decode cX9_takesWord 33 = .ok (.aload_n 0, 1) := by decide +kernel
theorem dX9_takesWord_34 : decode cX9_takesWord 34 = .ok (.getfield 9, 3) := by decide +kernel
theorem dX9_takesWord_37 : decode cX9_takesWord 37 = .ok (.iload_n 2, 1) := by decide +kernel
theorem dX9_takesWord_38 : decode cX9_takesWord 38 = .ok (.iaload, 1) := by decide +kernel
theorem dX9_takesWord_39 : decode cX9_takesWord 39 = .ok (.invokestatic 49, 3) := by decide +kernel
theorem dX9_takesWord_42 : decode cX9_takesWord 42 = .ok (.ifCond .eq 9, 3) := by decide +kernel
theorem dX9_takesWord_45 : decode cX9_takesWord 45 = .ok (.iinc 2 1, 3) := by decide +kernel
theorem dX9_takesWord_48 : decode cX9_takesWord 48 = .ok (.goto (-23), 3) := by decide +kernel
theorem dX9_takesWord_51 : decode cX9_takesWord 51 = .ok (.iload_n 2, 1) := by decide +kernel
theorem dX9_takesWord_52 : decode cX9_takesWord 52 = .ok (.aload_n 0, 1) := by decide +kernel
theorem dX9_takesWord_53 : decode cX9_takesWord 53 = .ok (.getfield 31, 3) := by decide +kernel
theorem dX9_takesWord_56 : decode cX9_takesWord 56 = .ok (.isub, 1) := by decide +kernel
theorem dX9_takesWord_57 : decode cX9_takesWord 57 = .ok (.aload_n 1, 1) := by decide +kernel
theorem dX9_takesWord_58 : decode cX9_takesWord 58 = .ok (.invokevirtual 52, 3) := by decide +kernel
theorem dX9_takesWord_61 : decode cX9_takesWord 61 = .ok (.if_icmp .eq 5, 3) := by decide +kernel
theorem dX9_takesWord_64 : decode cX9_takesWord 64 = .ok (.iconst 0, 1) := by decide +kernel
theorem dX9_takesWord_65 : decode cX9_takesWord 65 = .ok (.ireturn, 1) := by decide +kernel
theorem dX9_takesWord_66 : decode cX9_takesWord 66 = .ok (.iconst 0, 1) := by decide +kernel
theorem dX9_takesWord_67 : decode cX9_takesWord 67 = .ok (.istore_n 3, 1) := by decide +kernel
theorem dX9_takesWord_68 : decode cX9_takesWord 68 = .ok (.iload_n 3, 1) := by decide +kernel
theorem dX9_takesWord_69 : decode cX9_takesWord 69 = .ok (.aload_n 1, 1) := by decide +kernel
theorem dX9_takesWord_70 : decode cX9_takesWord 70 = .ok (.invokevirtual 52, 3) := by decide +kernel
theorem dX9_takesWord_73 : decode cX9_takesWord 73 = .ok (.if_icmp .ge 30, 3) := by decide +kernel
theorem dX9_takesWord_76 : decode cX9_takesWord 76 = .ok (.aload_n 0, 1) := by decide +kernel
theorem dX9_takesWord_77 : decode cX9_takesWord 77 = .ok (.getfield 9, 3) := by decide +kernel
theorem dX9_takesWord_80 : decode cX9_takesWord 80 = .ok (.aload_n 0, 1) := by decide +kernel
theorem dX9_takesWord_81 : decode cX9_takesWord 81 = .ok (.getfield 31, 3) := by decide +kernel
theorem dX9_takesWord_84 : decode cX9_takesWord 84 = .ok (.iload_n 3, 1) := by decide +kernel
theorem dX9_takesWord_85 : decode cX9_takesWord 85 = .ok (.iadd, 1) := by decide +kernel
theorem dX9_takesWord_86 : decode cX9_takesWord 86 = .ok (.iaload, 1) := by decide +kernel
theorem dX9_takesWord_87 : decode cX9_takesWord 87 = .ok (.aload_n 1, 1) := by decide +kernel
theorem dX9_takesWord_88 : decode cX9_takesWord 88 = .ok (.iload_n 3, 1) := by decide +kernel
theorem dX9_takesWord_89 : decode cX9_takesWord 89 = .ok (.invokevirtual 57, 3) := by decide +kernel
theorem dX9_takesWord_92 : decode cX9_takesWord 92 = .ok (.if_icmp .eq 5, 3) := by decide +kernel
theorem dX9_takesWord_95 : decode cX9_takesWord 95 = .ok (.iconst 0, 1) := by decide +kernel
theorem dX9_takesWord_96 : decode cX9_takesWord 96 = .ok (.ireturn, 1) := by decide +kernel
theorem dX9_takesWord_97 : decode cX9_takesWord 97 = .ok (.iinc 3 1, 3) := by decide +kernel
theorem dX9_takesWord_100 : decode cX9_takesWord 100 = .ok (.goto (-32), 3) := by decide +kernel
theorem dX9_takesWord_103 : decode cX9_takesWord 103 = .ok (.aload_n 0, 1) := by decide +kernel
theorem dX9_takesWord_104 : decode cX9_takesWord 104 = .ok (.iload_n 2, 1) := by decide +kernel
theorem dX9_takesWord_105 : decode cX9_takesWord 105 = .ok (.putfield 31, 3) := by decide +kernel
theorem dX9_takesWord_108 : decode cX9_takesWord 108 = .ok (.iconst 1, 1) := by decide +kernel
theorem dX9_takesWord_109 : decode cX9_takesWord 109 = .ok (.ireturn, 1) := by decide +kernel
theorem dX9_number_0 : decode cX9_number 0 = .ok (.aload_n 0, 1) := by decide +kernel
theorem dX9_number_1 : decode cX9_number 1 = .ok (.invokevirtual 37, 3) := by decide +kernel
theorem dX9_number_4 : decode cX9_number 4 = .ok (.istore_n 3, 1) := by decide +kernel
theorem dX9_number_5 : decode cX9_number 5 = .ok (.iconst 0, 1) := by decide +kernel
theorem dX9_number_6 : decode cX9_number 6 = .ok (.istore 4, 2) := by decide +kernel
theorem dX9_number_8 : decode cX9_number 8 = .ok (.aload_n 0, 1) := by decide +kernel
theorem dX9_number_9 : decode cX9_number 9 = .ok (.getfield 31, 3) := by decide +kernel
theorem dX9_number_12 : decode cX9_number 12 = .ok (.aload_n 0, 1) := by decide +kernel
theorem dX9_number_13 : decode cX9_number 13 = .ok (.getfield 28, 3) := by decide +kernel
theorem dX9_number_16 : decode cX9_number 16 = .ok (.if_icmp .ge 58, 3) := by decide +kernel
theorem dX9_number_19 : decode cX9_number 19 = .ok (.aload_n 0, 1) := by decide +kernel
theorem dX9_number_20 : decode cX9_number 20 = .ok (.getfield 9, 3) := by decide +kernel
theorem dX9_number_23 : decode cX9_number 23 = .ok (.aload_n 0, 1) := by decide +kernel
theorem dX9_number_24 : decode cX9_number 24 = .ok (.getfield 31, 3) := by decide +kernel
theorem dX9_number_27 : decode cX9_number 27 = .ok (.iaload, 1) := by decide +kernel
theorem dX9_number_28 : decode cX9_number 28 = .ok (.invokestatic 41, 3) := by decide +kernel
theorem dX9_number_31 : decode cX9_number 31 = .ok (.ifCond .eq 43, 3) := by decide +kernel
theorem dX9_number_34 : decode cX9_number 34 = .ok (.iload 4, 2) := by decide +kernel
theorem dX9_number_36 : decode cX9_number 36 = .ok (.ldc 61, 2) := by decide +kernel
theorem dX9_number_38 : decode cX9_number 38 = .ok (.if_icmp .ge 23, 3) := by decide +kernel
theorem dX9_number_41 : decode cX9_number 41 = .ok (.iload 4, 2) := by decide +kernel
theorem dX9_number_43 : decode cX9_number 43 = .ok (.bipush 10, 2) := by decide +kernel
theorem dX9_number_45 : decode cX9_number 45 = .ok (.imul, 1) := by decide +kernel
theorem dX9_number_46 : decode cX9_number 46 = .ok (.aload_n 0, 1) := by decide +kernel
theorem dX9_number_47 : decode cX9_number 47 = .ok (.getfield 9, 3) := by decide +kernel
theorem dX9_number_50 : decode cX9_number 50 = .ok (.aload_n 0, 1) := by decide +kernel
theorem dX9_number_51 : decode cX9_number 51 = .ok (.getfield 31, 3) := by decide +kernel
theorem dX9_number_54 : decode cX9_number 54 = .ok (.iaload, 1) := by decide +kernel
theorem dX9_number_55 : decode cX9_number 55 = .ok (.iadd, 1) := by decide +kernel
theorem dX9_number_56 : decode cX9_number 56 = .ok (.bipush 48, 2) := by decide +kernel
theorem dX9_number_58 : decode cX9_number 58 = .ok (.isub, 1) := by decide +kernel
theorem dX9_number_59 : decode cX9_number 59 = .ok (.istore 4, 2) := by decide +kernel
theorem dX9_number_61 : decode cX9_number 61 = .ok (.aload_n 0, 1) := by decide +kernel
theorem dX9_number_62 : decode cX9_number 62 = .ok (.dup, 1) := by decide +kernel
theorem dX9_number_63 : decode cX9_number 63 = .ok (.getfield 31, 3) := by decide +kernel
theorem dX9_number_66 : decode cX9_number 66 = .ok (.iconst 1, 1) := by decide +kernel
theorem dX9_number_67 : decode cX9_number 67 = .ok (.iadd, 1) := by decide +kernel
theorem dX9_number_68 : decode cX9_number 68 = .ok (.putfield 31, 3) := by decide +kernel
theorem dX9_number_71 : decode cX9_number 71 = .ok (.goto (-63), 3) := by decide +kernel
theorem dX9_number_74 : decode cX9_number 74 = .ok (.aload_n 0, 1) := by decide +kernel
theorem dX9_number_75 : decode cX9_number 75 = .ok (.getfield 31, 3) := by decide +kernel
theorem dX9_number_78 : decode cX9_number 78 = .ok (.iload_n 3, 1) := by decide +kernel
theorem dX9_number_79 : decode cX9_number 79 = .ok (.if_icmp .ne 12, 3) := by decide +kernel
theorem dX9_number_82 : decode cX9_number 82 = .ok (.aload_n 0, 1) := by decide +kernel
theorem dX9_number_83 : decode cX9_number 83 = .ok (.iconst 1, 1) := by decide +kernel
theorem dX9_number_84 : decode cX9_number 84 = .ok (.iload_n 3, 1) := by decide +kernel
theorem dX9_number_85 : decode cX9_number 85 = .ok (.invokevirtual 45, 3) := by decide +kernel
theorem dX9_number_88 : decode cX9_number 88 = .ok (.goto 21, 3) := by decide +kernel
theorem dX9_number_91 : decode cX9_number 91 = .ok (.iload 4, 2) := by decide +kernel
theorem dX9_number_93 : decode cX9_number 93 = .ok (.iload_n 1, 1) := by decide +kernel
theorem dX9_number_94 : decode cX9_number 94 = .ok (.if_icmp .lt 9, 3) := by decide +kernel
theorem dX9_number_97 : decode cX9_number 97 = .ok (.iload 4, 2) := by decide +kernel
theorem dX9_number_99 : decode cX9_number 99 = .ok (.iload_n 2, 1) := by decide +kernel
theorem dX9_number_100 : decode cX9_number 100 = .ok (.if_icmp .le 9, 3) := by decide +kernel
theorem dX9_number_103 : decode cX9_number 103 = .ok (.aload_n 0, 1) := by decide +kernel
theorem dX9_number_104 : decode cX9_number 104 = .ok (.iconst 2, 1) := by decide +kernel
theorem dX9_number_105 : decode cX9_number 105 = .ok (.iload_n 3, 1) := by decide +kernel
theorem dX9_number_106 : decode cX9_number 106 = .ok (.invokevirtual 45, 3) := by decide +kernel
theorem dX9_number_109 : decode cX9_number 109 = .ok (.iload 4, 2) := by decide +kernel
theorem dX9_number_111 : decode cX9_number 111 = .ok (.ireturn, 1) := by decide +kernel
theorem dX9_isDigit_0 : decode cX9_isDigit 0 = .ok (.iload_n 0, 1) := by decide +kernel
theorem dX9_isDigit_1 : decode cX9_isDigit 1 = .ok (.bipush 48, 2) := by decide +kernel
theorem dX9_isDigit_3 : decode cX9_isDigit 3 = .ok (.if_icmp .lt 13, 3) := by decide +kernel
theorem dX9_isDigit_6 : decode cX9_isDigit 6 = .ok (.iload_n 0, 1) := by decide +kernel
theorem dX9_isDigit_7 : decode cX9_isDigit 7 = .ok (.bipush 57, 2) := by decide +kernel
theorem dX9_isDigit_9 : decode cX9_isDigit 9 = .ok (.if_icmp .gt 7, 3) := by decide +kernel
theorem dX9_isDigit_12 : decode cX9_isDigit 12 = .ok (.iconst 1, 1) := by decide +kernel
theorem dX9_isDigit_13 : decode cX9_isDigit 13 = .ok (.goto 4, 3) := by decide +kernel
theorem dX9_isDigit_16 : decode cX9_isDigit 16 = .ok (.iconst 0, 1) := by decide +kernel
theorem dX9_isDigit_17 : decode cX9_isDigit 17 = .ok (.ireturn, 1) := by decide +kernel
theorem dX9_isSmallLetter_0 : decode cX9_isSmallLetter 0 = .ok (.iload_n 0, 1) := by decide +kernel
theorem dX9_isSmallLetter_1 : decode cX9_isSmallLetter 1 = .ok (.bipush 97, 2) := by decide +kernel
theorem dX9_isSmallLetter_3 : decode cX9_isSmallLetter 3 = .ok (.if_icmp .lt 13, 3) := by decide +kernel
theorem dX9_isSmallLetter_6 : decode cX9_isSmallLetter 6 = .ok (.iload_n 0, 1) := by decide +kernel
theorem dX9_isSmallLetter_7 : decode cX9_isSmallLetter 7 = .ok (.bipush 122, 2) := by decide +kernel
theorem dX9_isSmallLetter_9 : decode cX9_isSmallLetter 9 = .ok (.if_icmp .gt 7, 3) := by decide +kernel
theorem dX9_isSmallLetter_12 : decode cX9_isSmallLetter 12 = .ok (.iconst 1, 1) := by decide +kernel
theorem dX9_isSmallLetter_13 : decode cX9_isSmallLetter 13 = .ok (.goto 4, 3) := by decide +kernel
theorem dX9_isSmallLetter_16 : decode cX9_isSmallLetter 16 = .ok (.iconst 0, 1) := by decide +kernel
theorem dX9_isSmallLetter_17 : decode cX9_isSmallLetter 17 = .ok (.ireturn, 1) := by decide +kernel
theorem dX10_init_0 : decode cX10_init 0 = .ok (.aload_n 0, 1) := by decide +kernel
theorem dX10_init_1 : decode cX10_init 1 = .ok (.invokespecial 3, 3) := by decide +kernel
theorem dX10_init_4 : decode cX10_init 4 = .ok (.aload_n 0, 1) := by decide +kernel
theorem dX10_init_5 : decode cX10_init 5 = .ok (.bipush 20, 2) := by decide +kernel
theorem dX10_init_7 : decode cX10_init 7 = .ok (.newarray .int, 2) := by decide +kernel
theorem dX10_init_9 : decode cX10_init 9 = .ok (.putfield 9, 3) := by decide +kernel
theorem dX10_init_12 : decode cX10_init 12 = .ok (.aload_n 0, 1) := by decide +kernel
theorem dX10_init_13 : decode cX10_init 13 = .ok (.bipush 20, 2) := by decide +kernel
theorem dX10_init_15 : decode cX10_init 15 = .ok (.newarray .int, 2) := by decide +kernel
theorem dX10_init_17 : decode cX10_init 17 = .ok (.putfield 15, 3) := by decide +kernel
theorem dX10_init_20 : decode cX10_init 20 = .ok (.aload_n 0, 1) := by decide +kernel
theorem dX10_init_21 : decode cX10_init 21 = .ok (.bipush 20, 2) := by decide +kernel
theorem dX10_init_23 : decode cX10_init 23 = .ok (.newarray .int, 2) := by decide +kernel
theorem dX10_init_25 : decode cX10_init 25 = .ok (.putfield 18, 3) := by decide +kernel
theorem dX10_init_28 : decode cX10_init 28 = .ok (.aload_n 0, 1) := by decide +kernel
theorem dX10_init_29 : decode cX10_init 29 = .ok (.bipush 20, 2) := by decide +kernel
theorem dX10_init_31 : decode cX10_init 31 = .ok (.newarray .int, 2) := by decide +kernel
theorem dX10_init_33 : decode cX10_init 33 = .ok (.putfield 21, 3) := by decide +kernel
theorem dX10_init_36 : decode cX10_init 36 = .ok (.aload_n 0, 1) := by decide +kernel
theorem dX10_init_37 : decode cX10_init 37 = .ok (.bipush 8, 2) := by decide +kernel
theorem dX10_init_39 : decode cX10_init 39 = .ok (.newarray .int, 2) := by decide +kernel
theorem dX10_init_41 : decode cX10_init 41 = .ok (.putfield 24, 3) := by decide +kernel
theorem dX10_init_44 : decode cX10_init 44 = .ok (.aload_n 0, 1) := by decide +kernel
theorem dX10_init_45 : decode cX10_init 45 = .ok (.bipush 8, 2) := by decide +kernel
theorem dX10_init_47 : decode cX10_init 47 = .ok (.newarray .int, 2) := by decide +kernel
theorem dX10_init_49 : decode cX10_init 49 = .ok (.putfield 27, 3) := by decide +kernel
theorem dX10_init_52 : decode cX10_init 52 = .ok (.aload_n 0, 1) := by decide +kernel
theorem dX10_init_53 : decode cX10_init 53 = .ok (.bipush 6, 2) := by decide +kernel
theorem dX10_init_55 : decode cX10_init 55 = .ok (.newarray .int, 2) := by decide +kernel
theorem dX10_init_57 : decode cX10_init 57 = .ok (.putfield 30, 3) := by decide +kernel
theorem dX10_init_60 : decode cX10_init 60 = .ok (.return_, 1) := by decide +kernel
theorem dX10_begin_0 : decode cX10_begin 0 = .ok (.aload_n 0, 1) := by decide +kernel
theorem dX10_begin_1 : decode cX10_begin 1 = .ok (.iconst 0, 1) := by decide +kernel
theorem dX10_begin_2 : decode cX10_begin 2 = .ok (.putfield 33, 3) := by decide +kernel
theorem dX10_begin_5 : decode cX10_begin 5 = .ok (.aload_n 0, 1) := by decide +kernel
theorem dX10_begin_6 : decode cX10_begin 6 = .ok (.iconst 0, 1) := by decide +kernel
theorem dX10_begin_7 : decode cX10_begin 7 = .ok (.putfield 37, 3) := by decide +kernel
theorem dX10_begin_10 : decode cX10_begin 10 = .ok (.iconst 0, 1) := by decide +kernel
theorem dX10_begin_11 : decode cX10_begin 11 = .ok (.istore_n 2, 1) := by decide +kernel
theorem dX10_begin_12 : decode cX10_begin 12 = .ok (.iload_n 2, 1) := by decide +kernel
theorem dX10_begin_13 : decode cX10_begin 13 = .ok (.aload_n 1, 1) := by decide +kernel
theorem dX10_begin_14 : decode cX10_begin 14 = .ok (.getfield 40, 3) := by decide +kernel
theorem dX10_begin_17 : decode cX10_begin 17 = .ok (.if_icmp .ge 28, 3) := by decide +kernel
theorem dX10_begin_20 : decode cX10_begin 20 = .ok (.aload_n 0, 1) := by decide +kernel
theorem dX10_begin_21 : decode cX10_begin 21 = .ok (.getfield 24, 3) := by decide +kernel
theorem dX10_begin_24 : decode cX10_begin 24 = .ok (.iload_n 2, 1) := by decide +kernel
theorem dX10_begin_25 : decode cX10_begin 25 = .ok (.aload_n 1, 1) := by decide +kernel
theorem dX10_begin_26 : decode cX10_begin 26 = .ok (.getfield 45, 3) := by decide +kernel
theorem dX10_begin_29 : decode cX10_begin 29 = .ok (.iload_n 2, 1) := by decide +kernel
theorem dX10_begin_30 : decode cX10_begin 30 = .ok (.iaload, 1) := by decide +kernel
theorem dX10_begin_31 : decode cX10_begin 31 = .ok (.iastore, 1) := by decide +kernel
theorem dX10_begin_32 : decode cX10_begin 32 = .ok (.aload_n 0, 1) := by decide +kernel
theorem dX10_begin_33 : decode cX10_begin 33 = .ok (.getfield 27, 3) := by decide +kernel
theorem dX10_begin_36 : decode cX10_begin 36 = .ok (.iload_n 2, 1) := by decide +kernel
theorem dX10_begin_37 : decode cX10_begin 37 = .ok (.iconst 0, 1) := by decide +kernel
theorem dX10_begin_38 : decode cX10_begin 38 = .ok (.iastore, 1) := by decide +kernel
theorem dX10_begin_39 : decode cX10_begin 39 = .ok (.iinc 2 1, 3) := by decide +kernel
theorem dX10_begin_42 : decode cX10_begin 42 = .ok (.goto (-30), 3) := by decide +kernel
theorem dX10_begin_45 : decode cX10_begin 45 = .ok (.aload_n 0, 1) := by decide +kernel
theorem dX10_begin_46 : decode cX10_begin 46 = .ok (.aload_n 1, 1) := by decide +kernel
theorem dX10_begin_47 : decode cX10_begin 47 = .ok (.invokevirtual 46, 3) := by decide +kernel
theorem dX10_begin_50 : decode cX10_begin 50 = .ok (.return_, 1) := by decide +kernel
theorem dX10_become_0 : decode cX10_become 0 = .ok (.aload_n 0, 1) := by decide +kernel
theorem dX10_become_1 : decode cX10_become 1 = .ok (.aload_n 1, 1) := by decide +kernel
theorem dX10_become_2 : decode cX10_become 2 = .ok (.getfield 33, 3) := by decide +kernel
theorem dX10_become_5 : decode cX10_become 5 = .ok (.putfield 33, 3) := by decide +kernel
theorem dX10_become_8 : decode cX10_become 8 = .ok (.aload_n 0, 1) := by decide +kernel
theorem dX10_become_9 : decode cX10_become 9 = .ok (.aload_n 1, 1) := by decide +kernel
theorem dX10_become_10 : decode cX10_become 10 = .ok (.getfield 37, 3) := by decide +kernel
theorem dX10_become_13 : decode cX10_become 13 = .ok (.putfield 37, 3) := by decide +kernel
theorem dX10_become_16 : decode cX10_become 16 = .ok (.aload_n 0, 1) := by decide +kernel
theorem dX10_become_17 : decode cX10_become 17 = .ok (.aload_n 1, 1) := by decide +kernel
theorem dX10_become_18 : decode cX10_become 18 = .ok (.getfield 50, 3) := by decide +kernel
theorem dX10_become_21 : decode cX10_become 21 = .ok (.putfield 50, 3) := by decide +kernel
theorem dX10_become_24 : decode cX10_become 24 = .ok (.aload_n 1, 1) := by decide +kernel
theorem dX10_become_25 : decode cX10_become 25 = .ok (.getfield 9, 3) := by decide +kernel
theorem dX10_become_28 : decode cX10_become 28 = .ok (.iconst 0, 1) := by decide +kernel
theorem dX10_become_29 : decode cX10_become 29 = .ok (.aload_n 0, 1) := by decide +kernel
theorem dX10_become_30 : decode cX10_become 30 = .ok (.getfield 9, 3) := by decide +kernel
theorem dX10_become_33 : decode cX10_become 33 = .ok (.iconst 0, 1) := by decide +kernel
theorem dX10_become_34 : decode cX10_become 34 = .ok (.bipush 20, 2) := by decide +kernel
theorem dX10_become_36 : decode cX10_become 36 = .ok (.invokestatic 53, 3) := by decide +kernel
theorem dX10_become_39 : decode cX10_become 39 = .ok (.aload_n 1, 1) := by decide +kernel
theorem dX10_become_40 : decode cX10_become 40 = .ok (.getfield 15, 3) := by decide +kernel
theorem dX10_become_43 : decode cX10_become 43 = .ok (.iconst 0, 1) := by decide +kernel
theorem dX10_become_44 : decode cX10_become 44 = .ok (.aload_n 0, 1) := by decide +kernel
theorem dX10_become_45 : decode cX10_become 45 = .ok (.getfield 15, 3) := by decide +kernel
theorem dX10_become_48 : decode cX10_become 48 = .ok (.iconst 0, 1) := by decide +kernel
theorem dX10_become_49 : decode cX10_become 49 = .ok (.bipush 20, 2) := by decide +kernel
theorem dX10_become_51 : decode cX10_become 51 = .ok (.invokestatic 53, 3) := by decide +kernel
theorem dX10_become_54 : decode cX10_become 54 = .ok (.aload_n 1, 1) := by decide +kernel
theorem dX10_become_55 : decode cX10_become 55 = .ok (.getfield 18, 3) := by decide +kernel
theorem dX10_become_58 : decode cX10_become 58 = .ok (.iconst 0, 1) := by decide +kernel
theorem dX10_become_59 : decode cX10_become 59 = .ok (.aload_n 0, 1) := by decide +kernel
theorem dX10_become_60 : decode cX10_become 60 = .ok (.getfield 18, 3) := by decide +kernel
theorem dX10_become_63 : decode cX10_become 63 = .ok (.iconst 0, 1) := by decide +kernel
theorem dX10_become_64 : decode cX10_become 64 = .ok (.bipush 20, 2) := by decide +kernel
theorem dX10_become_66 : decode cX10_become 66 = .ok (.invokestatic 53, 3) := by decide +kernel
theorem dX10_become_69 : decode cX10_become 69 = .ok (.aload_n 1, 1) := by decide +kernel
theorem dX10_become_70 : decode cX10_become 70 = .ok (.getfield 21, 3) := by decide +kernel
theorem dX10_become_73 : decode cX10_become 73 = .ok (.iconst 0, 1) := by decide +kernel
theorem dX10_become_74 : decode cX10_become 74 = .ok (.aload_n 0, 1) := by decide +kernel
theorem dX10_become_75 : decode cX10_become 75 = .ok (.getfield 21, 3) := by decide +kernel
theorem dX10_become_78 : decode cX10_become 78 = .ok (.iconst 0, 1) := by decide +kernel
theorem dX10_become_79 : decode cX10_become 79 = .ok (.bipush 20, 2) := by decide +kernel
theorem dX10_become_81 : decode cX10_become 81 = .ok (.invokestatic 53, 3) := by decide +kernel
theorem dX10_become_84 : decode cX10_become 84 = .ok (.aload_n 1, 1) := by decide +kernel
theorem dX10_become_85 : decode cX10_become 85 = .ok (.getfield 24, 3) := by decide +kernel
theorem dX10_become_88 : decode cX10_become 88 = .ok (.iconst 0, 1) := by decide +kernel
theorem dX10_become_89 : decode cX10_become 89 = .ok (.aload_n 0, 1) := by decide +kernel
theorem dX10_become_90 : decode cX10_become 90 = .ok (.getfield 24, 3) := by decide +kernel
theorem dX10_become_93 : decode cX10_become 93 = .ok (.iconst 0, 1) := by decide +kernel
theorem dX10_become_94 : decode cX10_become 94 = .ok (.bipush 8, 2) := by decide +kernel
theorem dX10_become_96 : decode cX10_become 96 = .ok (.invokestatic 53, 3) := by decide +kernel
theorem dX10_become_99 : decode cX10_become 99 = .ok (.aload_n 1, 1) := by decide +kernel
theorem dX10_become_100 : decode cX10_become 100 = .ok (.getfield 27, 3) := by decide +kernel
theorem dX10_become_103 : decode cX10_become 103 = .ok (.iconst 0, 1) := by decide +kernel
theorem dX10_become_104 : decode cX10_become 104 = .ok (.aload_n 0, 1) := by decide +kernel
theorem dX10_become_105 : decode cX10_become 105 = .ok (.getfield 27, 3) := by decide +kernel
theorem dX10_become_108 : decode cX10_become 108 = .ok (.iconst 0, 1) := by decide +kernel
theorem dX10_become_109 : decode cX10_become 109 = .ok (.bipush 8, 2) := by decide +kernel
theorem dX10_become_111 : decode cX10_become 111 = .ok (.invokestatic 53, 3) := by decide +kernel
theorem dX10_become_114 : decode cX10_become 114 = .ok (.aload_n 1, 1) := by decide +kernel
theorem dX10_become_115 : decode cX10_become 115 = .ok (.getfield 30, 3) := by decide +kernel
theorem dX10_become_118 : decode cX10_become 118 = .ok (.iconst 0, 1) := by decide +kernel
theorem dX10_become_119 : decode cX10_become 119 = .ok (.aload_n 0, 1) := by decide +kernel
theorem dX10_become_120 : decode cX10_become 120 = .ok (.getfield 30, 3) := by decide +kernel
theorem dX10_become_123 : decode cX10_become 123 = .ok (.iconst 0, 1) := by decide +kernel
theorem dX10_become_124 : decode cX10_become 124 = .ok (.bipush 6, 2) := by decide +kernel
theorem dX10_become_126 : decode cX10_become 126 = .ok (.invokestatic 53, 3) := by decide +kernel
theorem dX10_become_129 : decode cX10_become 129 = .ok (.return_, 1) := by decide +kernel
theorem dX10_whiten_0 : decode cX10_whiten 0 = .ok (.aload_n 0, 1) := by decide +kernel
theorem dX10_whiten_1 : decode cX10_whiten 1 = .ok (.iconst 0, 1) := by decide +kernel
theorem dX10_whiten_2 : decode cX10_whiten 2 = .ok (.putfield 50, 3) := by decide +kernel
theorem dX10_whiten_5 : decode cX10_whiten 5 = .ok (.iconst 0, 1) := by decide +kernel
theorem dX10_whiten_6 : decode cX10_whiten 6 = .ok (.istore_n 2, 1) := by decide +kernel
theorem dX10_whiten_7 : decode cX10_whiten 7 = .ok (.iload_n 2, 1) := by decide +kernel
theorem dX10_whiten_8 : decode cX10_whiten 8 = .ok (.aload_n 1, 1) := by decide +kernel
theorem dX10_whiten_9 : decode cX10_whiten 9 = .ok (.getfield 59, 3) := by decide +kernel
theorem dX10_whiten_12 : decode cX10_whiten 12 = .ok (.if_icmp .ge 21, 3) := by decide +kernel
theorem dX10_whiten_15 : decode cX10_whiten 15 = .ok (.aload_n 0, 1) := by decide +kernel
theorem dX10_whiten_16 : decode cX10_whiten 16 = .ok (.getfield 30, 3) := by decide +kernel
theorem dX10_whiten_19 : decode cX10_whiten 19 = .ok (.iload_n 2, 1) := by decide +kernel
theorem dX10_whiten_20 : decode cX10_whiten 20 = .ok (.aload_n 1, 1) := by decide +kernel
theorem dX10_whiten_21 : decode cX10_whiten 21 = .ok (.getfield 62, 3) := by decide +kernel
theorem dX10_whiten_24 : decode cX10_whiten 24 = .ok (.iload_n 2, 1) := by decide +kernel
theorem dX10_whiten_25 : decode cX10_whiten 25 = .ok (.iaload, 1) := by decide +kernel
theorem dX10_whiten_26 : decode cX10_whiten 26 = .ok (.iastore, 1) := by decide +kernel
theorem dX10_whiten_27 : decode cX10_whiten 27 = .ok (.iinc 2 1, 3) := by decide +kernel
theorem dX10_whiten_30 : decode cX10_whiten 30 = .ok (.goto (-23), 3) := by decide +kernel
theorem dX10_whiten_33 : decode cX10_whiten 33 = .ok (.return_, 1) := by decide +kernel
theorem dX10_mayWrite_0 : decode cX10_mayWrite 0 = .ok (.aload_n 1, 1) := by decide +kernel
theorem dX10_mayWrite_1 : decode cX10_mayWrite 1 = .ok (.getfield 63, 3) := by decide +kernel
theorem dX10_mayWrite_4 : decode cX10_mayWrite 4 = .ok (.iload_n 3, 1) := by decide +kernel
theorem dX10_mayWrite_5 : decode cX10_mayWrite 5 = .ok (.iaload, 1) := by decide +kernel
theorem dX10_mayWrite_6 : decode cX10_mayWrite 6 = .ok (.istore 5, 2) := by decide +kernel
theorem dX10_mayWrite_8 : decode cX10_mayWrite 8 = .ok (.aload_n 1, 1) := by decide +kernel
theorem dX10_mayWrite_9 : decode cX10_mayWrite 9 = .ok (.getfield 66, 3) := by decide +kernel
theorem dX10_mayWrite_12 : decode cX10_mayWrite 12 = .ok (.iload_n 2, 1) := by decide +kernel
theorem dX10_mayWrite_13 : decode cX10_mayWrite 13 = .ok (.iaload, 1) := by decide +kernel
theorem dX10_mayWrite_14 : decode cX10_mayWrite 14 = .ok (.iload_n 3, 1) := by decide +kernel
theorem dX10_mayWrite_15 : decode cX10_mayWrite 15 = .ok (.invokestatic 69, 3) := by decide +kernel
theorem dX10_mayWrite_18 : decode cX10_mayWrite 18 = .ok (.ifCond .eq 50, 3) := by decide +kernel
theorem dX10_mayWrite_21 : decode cX10_mayWrite 21 = .ok (.iload 4, 2) := by decide +kernel
theorem dX10_mayWrite_23 : decode cX10_mayWrite 23 = .ok (.aload_n 1, 1) := by decide +kernel
theorem dX10_mayWrite_24 : decode cX10_mayWrite 24 = .ok (.getfield 73, 3) := by decide +kernel
theorem dX10_mayWrite_27 : decode cX10_mayWrite 27 = .ok (.iload_n 2, 1) := by decide +kernel
theorem dX10_mayWrite_28 : decode cX10_mayWrite 28 = .ok (.iaload, 1) := by decide +kernel
theorem dX10_mayWrite_29 : decode cX10_mayWrite 29 = .ok (.if_icmp .gt 39, 3) := by decide +kernel
theorem dX10_mayWrite_32 : decode cX10_mayWrite 32 = .ok (.iload 5, 2) := by decide +kernel
theorem dX10_mayWrite_34 : decode cX10_mayWrite 34 = .ok (.aload_n 0, 1) := by decide +kernel
theorem dX10_mayWrite_35 : decode cX10_mayWrite 35 = .ok (.aload_n 1, 1) := by decide +kernel
theorem dX10_mayWrite_36 : decode cX10_mayWrite 36 = .ok (.iload 4, 2) := by decide +kernel
theorem dX10_mayWrite_38 : decode cX10_mayWrite 38 = .ok (.invokevirtual 76, 3) := by decide +kernel
theorem dX10_mayWrite_41 : decode cX10_mayWrite 41 = .ok (.if_icmp .gt 27, 3) := by decide +kernel
theorem dX10_mayWrite_44 : decode cX10_mayWrite 44 = .ok (.iload 5, 2) := by decide +kernel
theorem dX10_mayWrite_46 : decode cX10_mayWrite 46 = .ok (.aload_n 0, 1) := by decide +kernel
theorem dX10_mayWrite_47 : decode cX10_mayWrite 47 = .ok (.getfield 30, 3) := by decide +kernel
theorem dX10_mayWrite_50 : decode cX10_mayWrite 50 = .ok (.iload_n 2, 1) := by decide +kernel
theorem dX10_mayWrite_51 : decode cX10_mayWrite 51 = .ok (.iaload, 1) := by decide +kernel
theorem dX10_mayWrite_52 : decode cX10_mayWrite 52 = .ok (.if_icmp .gt 16, 3) := by decide +kernel
theorem dX10_mayWrite_55 : decode cX10_mayWrite 55 = .ok (.aload_n 0, 1) := by decide +kernel
theorem dX10_mayWrite_56 : decode cX10_mayWrite 56 = .ok (.getfield 50, 3) := by decide +kernel
theorem dX10_mayWrite_59 : decode cX10_mayWrite 59 = .ok (.bipush 20, 2) := by decide +kernel
theorem dX10_mayWrite_61 : decode cX10_mayWrite 61 = .ok (.if_icmp .ge 7, 3) := by decide +kernel
theorem dX10_mayWrite_64 : decode cX10_mayWrite 64 = .ok (.iconst 1, 1) := by decide +kernel
theorem dX10_mayWrite_65 : decode cX10_mayWrite 65 = .ok (.goto 4, 3) := by decide +kernel
theorem dX10_mayWrite_68 : decode cX10_mayWrite 68 = .ok (.iconst 0, 1) := by decide +kernel
theorem dX10_mayWrite_69 : decode cX10_mayWrite 69 = .ok (.ireturn, 1) := by decide +kernel
theorem dX10_mayWriteAny_0 : decode cX10_mayWriteAny 0 = .ok (.iconst 0, 1) := by decide +kernel
theorem dX10_mayWriteAny_1 : decode cX10_mayWriteAny 1 = .ok (.istore_n 3, 1) := by decide +kernel
theorem dX10_mayWriteAny_2 : decode cX10_mayWriteAny 2 = .ok (.iload_n 3, 1) := by decide +kernel
theorem dX10_mayWriteAny_3 : decode cX10_mayWriteAny 3 = .ok (.aload_n 1, 1) := by decide +kernel
theorem dX10_mayWriteAny_4 : decode cX10_mayWriteAny 4 = .ok (.getfield 40, 3) := by decide +kernel
theorem dX10_mayWriteAny_7 : decode cX10_mayWriteAny 7 = .ok (.if_icmp .ge 41, 3) := by decide +kernel
theorem dX10_mayWriteAny_10 : decode cX10_mayWriteAny 10 = .ok (.iconst 0, 1) := by decide +kernel
theorem dX10_mayWriteAny_11 : decode cX10_mayWriteAny 11 = .ok (.istore 4, 2) := by decide +kernel
theorem dX10_mayWriteAny_13 : decode cX10_mayWriteAny 13 = .ok (.iload 4, 2) := by decide +kernel
theorem dX10_mayWriteAny_15 : decode cX10_mayWriteAny 15 = .ok (.aload_n 1, 1) := by decide +kernel
theorem dX10_mayWriteAny_16 : decode cX10_mayWriteAny 16 = .ok (.getfield 80, 3) := by decide +kernel
theorem dX10_mayWriteAny_19 : decode cX10_mayWriteAny 19 = .ok (.if_icmp .ge 23, 3) := by decide +kernel
theorem dX10_mayWriteAny_22 : decode cX10_mayWriteAny 22 = .ok (.aload_n 0, 1) := by decide +kernel
theorem dX10_mayWriteAny_23 : decode cX10_mayWriteAny 23 = .ok (.aload_n 1, 1) := by decide +kernel
theorem dX10_mayWriteAny_24 : decode cX10_mayWriteAny 24 = .ok (.iload_n 2, 1) := by decide +kernel
theorem dX10_mayWriteAny_25 : decode cX10_mayWriteAny 25 = .ok (.iload_n 3, 1) := by decide +kernel
theorem dX10_mayWriteAny_26 : decode cX10_mayWriteAny 26 = .ok (.iload 4, 2) := by decide +kernel
theorem dX10_mayWriteAny_28 : decode cX10_mayWriteAny 28 = .ok (.invokevirtual 83, 3) := by decide +kernel
theorem dX10_mayWriteAny_31 : decode cX10_mayWriteAny 31 = .ok (.ifCond .eq 5, 3) := by decide +kernel
theorem dX10_mayWriteAny_34 : decode cX10_mayWriteAny 34 = .ok (.iconst 1, 1) := by decide +kernel
theorem dX10_mayWriteAny_35 : decode cX10_mayWriteAny 35 = .ok (.ireturn, 1) := by decide +kernel
theorem dX10_mayWriteAny_36 : decode cX10_mayWriteAny 36 = .ok (.iinc 4 1, 3) := by decide +kernel
theorem dX10_mayWriteAny_39 : decode cX10_mayWriteAny 39 = .ok (.goto (-26), 3) := by decide +kernel
theorem dX10_mayWriteAny_42 : decode cX10_mayWriteAny 42 = .ok (.iinc 3 1, 3) := by decide +kernel
theorem dX10_mayWriteAny_45 : decode cX10_mayWriteAny 45 = .ok (.goto (-43), 3) := by decide +kernel
theorem dX10_mayWriteAny_48 : decode cX10_mayWriteAny 48 = .ok (.iconst 0, 1) := by decide +kernel
theorem dX10_mayWriteAny_49 : decode cX10_mayWriteAny 49 = .ok (.ireturn, 1) := by decide +kernel
theorem dX10_write_0 : decode cX10_write 0 = .ok (.aload_n 0, 1) := by decide +kernel
theorem dX10_write_1 : decode cX10_write 1 = .ok (.aload_n 1, 1) := by decide +kernel
theorem dX10_write_2 : decode cX10_write 2 = .ok (.iload_n 2, 1) := by decide +kernel
theorem dX10_write_3 : decode cX10_write 3 = .ok (.iload_n 3, 1) := by decide +kernel
theorem dX10_write_4 : decode cX10_write 4 = .ok (.iload 4, 2) := by decide +kernel
theorem dX10_write_6 : decode cX10_write 6 = .ok (.invokevirtual 83, 3) := by decide +kernel
theorem dX10_write_9 : decode cX10_write 9 = .ok (.ifCond .ne 5, 3) := by decide +kernel
theorem dX10_write_12 : decode cX10_write 12 = .ok (.iconst 0, 1) := by decide +kernel
theorem dX10_write_13 : decode cX10_write 13 = .ok (.ireturn, 1) := by decide +kernel
theorem dX10_write_14 : decode cX10_write 14 = .ok (.aload_n 0, 1) := by decide +kernel
theorem dX10_write_15 : decode cX10_write 15 = .ok (.getfield 9, 3) := by decide +kernel
theorem dX10_write_18 : decode cX10_write 18 = .ok (.aload_n 0, 1) := by decide +kernel
theorem dX10_write_19 : decode cX10_write 19 = .ok (.getfield 50, 3) := by decide +kernel
theorem dX10_write_22 : decode cX10_write 22 = .ok (.iload_n 3, 1) := by decide +kernel
theorem dX10_write_23 : decode cX10_write 23 = .ok (.iastore, 1) := by decide +kernel
theorem dX10_write_24 : decode cX10_write 24 = .ok (.aload_n 0, 1) := by decide +kernel
theorem dX10_write_25 : decode cX10_write 25 = .ok (.getfield 15, 3) := by decide +kernel
theorem dX10_write_28 : decode cX10_write 28 = .ok (.aload_n 0, 1) := by decide +kernel
theorem dX10_write_29 : decode cX10_write 29 = .ok (.getfield 50, 3) := by decide +kernel
theorem dX10_write_32 : decode cX10_write 32 = .ok (.aload_n 0, 1) := by decide +kernel
theorem dX10_write_33 : decode cX10_write 33 = .ok (.getfield 24, 3) := by decide +kernel
theorem dX10_write_36 : decode cX10_write 36 = .ok (.iload_n 3, 1) := by decide +kernel
theorem dX10_write_37 : decode cX10_write 37 = .ok (.iaload, 1) := by decide +kernel
theorem dX10_write_38 : decode cX10_write 38 = .ok (.iastore, 1) := by decide +kernel
theorem dX10_write_39 : decode cX10_write 39 = .ok (.aload_n 0, 1) := by decide +kernel
theorem dX10_write_40 : decode cX10_write 40 = .ok (.getfield 18, 3) := by decide +kernel
theorem dX10_write_43 : decode cX10_write 43 = .ok (.aload_n 0, 1) := by decide +kernel
theorem dX10_write_44 : decode cX10_write 44 = .ok (.getfield 50, 3) := by decide +kernel
theorem dX10_write_47 : decode cX10_write 47 = .ok (.iload 4, 2) := by decide +kernel
theorem dX10_write_49 : decode cX10_write 49 = .ok (.iastore, 1) := by decide +kernel
theorem dX10_write_50 : decode cX10_write 50 = .ok (.aload_n 0, 1) := by decide +kernel
theorem dX10_write_51 : decode cX10_write 51 = .ok (.getfield 21, 3) := by decide +kernel
theorem dX10_write_54 : decode cX10_write 54 = .ok (.aload_n 0, 1) := by decide +kernel
theorem dX10_write_55 : decode cX10_write 55 = .ok (.getfield 50, 3) := by decide +kernel
theorem dX10_write_58 : decode cX10_write 58 = .ok (.iload_n 2, 1) := by decide +kernel
theorem dX10_write_59 : decode cX10_write 59 = .ok (.iastore, 1) := by decide +kernel
theorem dX10_write_60 : decode cX10_write 60 = .ok (.aload_n 0, 1) := by decide +kernel
theorem dX10_write_61 : decode cX10_write 61 = .ok (.dup, 1) := by decide +kernel
theorem dX10_write_62 : decode cX10_write 62 = .ok (.getfield 50, 3) := by decide +kernel
theorem dX10_write_65 : decode cX10_write 65 = .ok (.iconst 1, 1) := by decide +kernel
theorem dX10_write_66 : decode cX10_write 66 = .ok (.iadd, 1) := by decide +kernel
theorem dX10_write_67 : decode cX10_write 67 = .ok (.putfield 50, 3) := by decide +kernel
theorem dX10_write_70 : decode cX10_write 70 = .ok (.aload_n 0, 1) := by decide +kernel
theorem dX10_write_71 : decode cX10_write 71 = .ok (.dup, 1) := by decide +kernel
theorem dX10_write_72 : decode cX10_write 72 = .ok (.getfield 37, 3) := by decide +kernel
theorem dX10_write_75 : decode cX10_write 75 = .ok (.iconst 1, 1) := by decide +kernel
theorem dX10_write_76 : decode cX10_write 76 = .ok (.iadd, 1) := by decide +kernel
theorem dX10_write_77 : decode cX10_write 77 = .ok (.putfield 37, 3) := by decide +kernel
theorem dX10_write_80 : decode cX10_write 80 = .ok (.aload_n 0, 1) := by decide +kernel
theorem dX10_write_81 : decode cX10_write 81 = .ok (.getfield 30, 3) := by decide +kernel
theorem dX10_write_84 : decode cX10_write 84 = .ok (.iload_n 2, 1) := by decide +kernel
theorem dX10_write_85 : decode cX10_write 85 = .ok (.dup2, 1) := by decide +kernel
theorem dX10_write_86 : decode cX10_write 86 = .ok (.iaload, 1) := by decide +kernel
theorem dX10_write_87 : decode cX10_write 87 = .ok (.aload_n 1, 1) := by decide +kernel
theorem dX10_write_88 : decode cX10_write 88 = .ok (.getfield 63, 3) := by decide +kernel
theorem dX10_write_91 : decode cX10_write 91 = .ok (.iload_n 3, 1) := by decide +kernel
theorem dX10_write_92 : decode cX10_write 92 = .ok (.iaload, 1) := by decide +kernel
theorem dX10_write_93 : decode cX10_write 93 = .ok (.isub, 1) := by decide +kernel
theorem dX10_write_94 : decode cX10_write 94 = .ok (.iastore, 1) := by decide +kernel
theorem dX10_write_95 : decode cX10_write 95 = .ok (.iconst 1, 1) := by decide +kernel
theorem dX10_write_96 : decode cX10_write 96 = .ok (.ireturn, 1) := by decide +kernel
theorem dX10_slip_0 : decode cX10_slip 0 = .ok (.aload_n 1, 1) := by decide +kernel
theorem dX10_slip_1 : decode cX10_slip 1 = .ok (.getfield 87, 3) := by decide +kernel
theorem dX10_slip_4 : decode cX10_slip 4 = .ok (.aload_n 0, 1) := by decide +kernel
theorem dX10_slip_5 : decode cX10_slip 5 = .ok (.getfield 24, 3) := by decide +kernel
theorem dX10_slip_8 : decode cX10_slip 8 = .ok (.iload_n 2, 1) := by decide +kernel
theorem dX10_slip_9 : decode cX10_slip 9 = .ok (.iaload, 1) := by decide +kernel
theorem dX10_slip_10 : decode cX10_slip 10 = .ok (.iaload, 1) := by decide +kernel
theorem dX10_slip_11 : decode cX10_slip 11 = .ok (.istore_n 3, 1) := by decide +kernel
theorem dX10_slip_12 : decode cX10_slip 12 = .ok (.iload_n 3, 1) := by decide +kernel
theorem dX10_slip_13 : decode cX10_slip 13 = .ok (.iconst (-1), 1) := by decide +kernel
theorem dX10_slip_14 : decode cX10_slip 14 = .ok (.if_icmp .ne 5, 3) := by decide +kernel
theorem dX10_slip_17 : decode cX10_slip 17 = .ok (.iconst 0, 1) := by decide +kernel
theorem dX10_slip_18 : decode cX10_slip 18 = .ok (.ireturn, 1) := by decide +kernel
theorem dX10_slip_19 : decode cX10_slip 19 = .ok (.aload_n 0, 1) := by decide +kernel
theorem dX10_slip_20 : decode cX10_slip 20 = .ok (.getfield 24, 3) := by decide +kernel
theorem dX10_slip_23 : decode cX10_slip 23 = .ok (.iload_n 2, 1) := by decide +kernel
theorem dX10_slip_24 : decode cX10_slip 24 = .ok (.iload_n 3, 1) := by decide +kernel
theorem dX10_slip_25 : decode cX10_slip 25 = .ok (.iastore, 1) := by decide +kernel
theorem dX10_slip_26 : decode cX10_slip 26 = .ok (.aload_n 0, 1) := by decide +kernel
theorem dX10_slip_27 : decode cX10_slip 27 = .ok (.getfield 27, 3) := by decide +kernel
theorem dX10_slip_30 : decode cX10_slip 30 = .ok (.iload_n 2, 1) := by decide +kernel
theorem dX10_slip_31 : decode cX10_slip 31 = .ok (.dup2, 1) := by decide +kernel
theorem dX10_slip_32 : decode cX10_slip 32 = .ok (.iaload, 1) := by decide +kernel
theorem dX10_slip_33 : decode cX10_slip 33 = .ok (.iconst 1, 1) := by decide +kernel
theorem dX10_slip_34 : decode cX10_slip 34 = .ok (.iadd, 1) := by decide +kernel
theorem dX10_slip_35 : decode cX10_slip 35 = .ok (.iastore, 1) := by decide +kernel
theorem dX10_slip_36 : decode cX10_slip 36 = .ok (.iconst 1, 1) := by decide +kernel
theorem dX10_slip_37 : decode cX10_slip 37 = .ok (.ireturn, 1) := by decide +kernel
theorem dX10_rain_0 : decode cX10_rain 0 = .ok (.iconst 0, 1) := by decide +kernel
theorem dX10_rain_1 : decode cX10_rain 1 = .ok (.istore_n 2, 1) := by decide +kernel
theorem dX10_rain_2 : decode cX10_rain 2 = .ok (.iconst 0, 1) := by decide +kernel
theorem dX10_rain_3 : decode cX10_rain 3 = .ok (.istore_n 3, 1) := by decide +kernel
theorem dX10_rain_4 : decode cX10_rain 4 = .ok (.iload_n 3, 1) := by decide +kernel
theorem dX10_rain_5 : decode cX10_rain 5 = .ok (.aload_n 0, 1) := by decide +kernel
theorem dX10_rain_6 : decode cX10_rain 6 = .ok (.getfield 50, 3) := by decide +kernel
theorem dX10_rain_9 : decode cX10_rain 9 = .ok (.if_icmp .ge 70, 3) := by decide +kernel
theorem dX10_rain_12 : decode cX10_rain 12 = .ok (.aload_n 0, 1) := by decide +kernel
theorem dX10_rain_13 : decode cX10_rain 13 = .ok (.getfield 18, 3) := by decide +kernel
theorem dX10_rain_16 : decode cX10_rain 16 = .ok (.iload_n 3, 1) := by decide +kernel
theorem dX10_rain_17 : decode cX10_rain 17 = .ok (.iaload, 1) := by decide +kernel
theorem dX10_rain_18 : decode cX10_rain 18 = .ok (.iload_n 1, 1) := by decide +kernel
theorem dX10_rain_19 : decode cX10_rain 19 = .ok (.if_icmp .lt 54, 3) := by decide +kernel
theorem dX10_rain_22 : decode cX10_rain 22 = .ok (.aload_n 0, 1) := by decide +kernel
theorem dX10_rain_23 : decode cX10_rain 23 = .ok (.getfield 9, 3) := by decide +kernel
theorem dX10_rain_26 : decode cX10_rain 26 = .ok (.iload_n 2, 1) := by decide +kernel
theorem dX10_rain_27 : decode cX10_rain 27 = .ok (.aload_n 0, 1) := by decide +kernel
theorem dX10_rain_28 : decode cX10_rain 28 = .ok (.getfield 9, 3) := by decide +kernel
theorem dX10_rain_31 : decode cX10_rain 31 = .ok (.iload_n 3, 1) := by decide +kernel
theorem dX10_rain_32 : decode cX10_rain 32 = .ok (.iaload, 1) := by decide +kernel
theorem dX10_rain_33 : decode cX10_rain 33 = .ok (.iastore, 1) := by decide +kernel
theorem dX10_rain_34 : decode cX10_rain 34 = .ok (.aload_n 0, 1) := by decide +kernel
theorem dX10_rain_35 : decode cX10_rain 35 = .ok (.getfield 15, 3) := by decide +kernel
theorem dX10_rain_38 : decode cX10_rain 38 = .ok (.iload_n 2, 1) := by decide +kernel
theorem dX10_rain_39 : decode cX10_rain 39 = .ok (.aload_n 0, 1) := by decide +kernel
theorem dX10_rain_40 : decode cX10_rain 40 = .ok (.getfield 15, 3) := by decide +kernel
theorem dX10_rain_43 : decode cX10_rain 43 = .ok (.iload_n 3, 1) := by decide +kernel
theorem dX10_rain_44 : decode cX10_rain 44 = .ok (.iaload, 1) := by decide +kernel
theorem dX10_rain_45 : decode cX10_rain 45 = .ok (.iastore, 1) := by decide +kernel
theorem dX10_rain_46 : decode cX10_rain 46 = .ok (.aload_n 0, 1) := by decide +kernel
theorem dX10_rain_47 : decode cX10_rain 47 = .ok (.getfield 18, 3) := by decide +kernel
theorem dX10_rain_50 : decode cX10_rain 50 = .ok (.iload_n 2, 1) := by decide +kernel
theorem dX10_rain_51 : decode cX10_rain 51 = .ok (.aload_n 0, 1) := by decide +kernel
theorem dX10_rain_52 : decode cX10_rain 52 = .ok (.getfield 18, 3) := by decide +kernel
theorem dX10_rain_55 : decode cX10_rain 55 = .ok (.iload_n 3, 1) := by decide +kernel
theorem dX10_rain_56 : decode cX10_rain 56 = .ok (.iaload, 1) := by decide +kernel
theorem dX10_rain_57 : decode cX10_rain 57 = .ok (.iastore, 1) := by decide +kernel
theorem dX10_rain_58 : decode cX10_rain 58 = .ok (.aload_n 0, 1) := by decide +kernel
theorem dX10_rain_59 : decode cX10_rain 59 = .ok (.getfield 21, 3) := by decide +kernel
theorem dX10_rain_62 : decode cX10_rain 62 = .ok (.iload_n 2, 1) := by decide +kernel
theorem dX10_rain_63 : decode cX10_rain 63 = .ok (.aload_n 0, 1) := by decide +kernel
theorem dX10_rain_64 : decode cX10_rain 64 = .ok (.getfield 21, 3) := by decide +kernel
theorem dX10_rain_67 : decode cX10_rain 67 = .ok (.iload_n 3, 1) := by decide +kernel
theorem dX10_rain_68 : decode cX10_rain 68 = .ok (.iaload, 1) := by decide +kernel
theorem dX10_rain_69 : decode cX10_rain 69 = .ok (.iastore, 1) := by decide +kernel
theorem dX10_rain_70 : decode cX10_rain 70 = .ok (.iinc 2 1, 3) := by decide +kernel
theorem dX10_rain_73 : decode cX10_rain 73 = .ok (.iinc 3 1, 3) := by decide +kernel
theorem dX10_rain_76 : decode cX10_rain 76 = .ok (.goto (-72), 3) := by decide +kernel
theorem dX10_rain_79 : decode cX10_rain 79 = .ok (.iload_n 2, 1) := by decide +kernel
theorem dX10_rain_80 : decode cX10_rain 80 = .ok (.aload_n 0, 1) := by decide +kernel
theorem dX10_rain_81 : decode cX10_rain 81 = .ok (.getfield 50, 3) := by decide +kernel
theorem dX10_rain_84 : decode cX10_rain 84 = .ok (.if_icmp .ge 7, 3) := by decide +kernel
theorem dX10_rain_87 : decode cX10_rain 87 = .ok (.iconst 1, 1) := by decide +kernel
theorem dX10_rain_88 : decode cX10_rain 88 = .ok (.goto 4, 3) := by decide +kernel
theorem dX10_rain_91 : decode cX10_rain 91 = .ok (.iconst 0, 1) := by decide +kernel
theorem dX10_rain_92 : decode cX10_rain 92 = .ok (.istore_n 3, 1) := by decide +kernel
theorem dX10_rain_93 : decode cX10_rain 93 = .ok (.aload_n 0, 1) := by decide +kernel
theorem dX10_rain_94 : decode cX10_rain 94 = .ok (.iload_n 2, 1) := by decide +kernel
theorem dX10_rain_95 : decode cX10_rain 95 = .ok (.putfield 50, 3) := by decide +kernel
theorem dX10_rain_98 : decode cX10_rain 98 = .ok (.iload_n 3, 1) := by decide +kernel
theorem dX10_rain_99 : decode cX10_rain 99 = .ok (.ireturn, 1) := by decide +kernel
theorem dX10_night_0 : decode cX10_night 0 = .ok (.aload_n 0, 1) := by decide +kernel
theorem dX10_night_1 : decode cX10_night 1 = .ok (.getfield 33, 3) := by decide +kernel
theorem dX10_night_4 : decode cX10_night 4 = .ok (.sipush 500, 3) := by decide +kernel
theorem dX10_night_7 : decode cX10_night 7 = .ok (.if_icmp .lt 5, 3) := by decide +kernel
theorem dX10_night_10 : decode cX10_night 10 = .ok (.iconst 0, 1) := by decide +kernel
theorem dX10_night_11 : decode cX10_night 11 = .ok (.ireturn, 1) := by decide +kernel
theorem dX10_night_12 : decode cX10_night 12 = .ok (.aload_n 0, 1) := by decide +kernel
theorem dX10_night_13 : decode cX10_night 13 = .ok (.aload_n 1, 1) := by decide +kernel
theorem dX10_night_14 : decode cX10_night 14 = .ok (.invokevirtual 90, 3) := by decide +kernel
theorem dX10_night_17 : decode cX10_night 17 = .ok (.iconst 1, 1) := by decide +kernel
theorem dX10_night_18 : decode cX10_night 18 = .ok (.ireturn, 1) := by decide +kernel
theorem dX10_turnDay_0 : decode cX10_turnDay 0 = .ok (.aload_n 0, 1) := by decide +kernel
theorem dX10_turnDay_1 : decode cX10_turnDay 1 = .ok (.aload_n 1, 1) := by decide +kernel
theorem dX10_turnDay_2 : decode cX10_turnDay 2 = .ok (.invokevirtual 46, 3) := by decide +kernel
theorem dX10_turnDay_5 : decode cX10_turnDay 5 = .ok (.aload_n 0, 1) := by decide +kernel
theorem dX10_turnDay_6 : decode cX10_turnDay 6 = .ok (.dup, 1) := by decide +kernel
theorem dX10_turnDay_7 : decode cX10_turnDay 7 = .ok (.getfield 33, 3) := by decide +kernel
theorem dX10_turnDay_10 : decode cX10_turnDay 10 = .ok (.iconst 1, 1) := by decide +kernel
theorem dX10_turnDay_11 : decode cX10_turnDay 11 = .ok (.iadd, 1) := by decide +kernel
theorem dX10_turnDay_12 : decode cX10_turnDay 12 = .ok (.putfield 33, 3) := by decide +kernel
theorem dX10_turnDay_15 : decode cX10_turnDay 15 = .ok (.return_, 1) := by decide +kernel
theorem dX10_lettersOn_0 : decode cX10_lettersOn 0 = .ok (.iconst 0, 1) := by decide +kernel
theorem dX10_lettersOn_1 : decode cX10_lettersOn 1 = .ok (.istore_n 3, 1) := by decide +kernel
theorem dX10_lettersOn_2 : decode cX10_lettersOn 2 = .ok (.iconst 0, 1) := by decide +kernel
theorem dX10_lettersOn_3 : decode cX10_lettersOn 3 = .ok (.istore 4, 2) := by decide +kernel
theorem dX10_lettersOn_5 : decode cX10_lettersOn 5 = .ok (.iload 4, 2) := by decide +kernel
theorem dX10_lettersOn_7 : decode cX10_lettersOn 7 = .ok (.aload_n 0, 1) := by decide +kernel
theorem dX10_lettersOn_8 : decode cX10_lettersOn 8 = .ok (.getfield 50, 3) := by decide +kernel
theorem dX10_lettersOn_11 : decode cX10_lettersOn 11 = .ok (.if_icmp .ge 35, 3) := by decide +kernel
theorem dX10_lettersOn_14 : decode cX10_lettersOn 14 = .ok (.aload_n 0, 1) := by decide +kernel
theorem dX10_lettersOn_15 : decode cX10_lettersOn 15 = .ok (.getfield 18, 3) := by decide +kernel
