theorem dX12_send_14 : decode cX12_send 14 = .ok (.iconst 1, 1) := by decide +kernel
theorem dX12_send_15 : decode cX12_send 15 = .ok (.goto 4, 3) := by decide +kernel
theorem dX12_send_18 : decode cX12_send 18 = .ok (.iconst 0, 1) := by decide +kernel
theorem dX12_send_19 : decode cX12_send 19 = .ok (.iconst 1, 1) := by decide +kernel
theorem dX12_send_20 : decode cX12_send 20 = .ok (.iconst 1, 1) := by decide +kernel
theorem dX12_send_21 : decode cX12_send 21 = .ok (.invokevirtual 192, 3) := by decide +kernel
theorem dX12_send_24 : decode cX12_send 24 = .ok (.ifCond .eq 5, 3) := by decide +kernel
theorem dX12_send_27 : decode cX12_send 27 = .ok (.iconst 0, 1) := by decide +kernel
theorem dX12_send_28 : decode cX12_send 28 = .ok (.ireturn, 1) := by decide +kernel
theorem dX12_send_29 : decode cX12_send 29 = .ok (.iconst (-1), 1) := by decide +kernel
theorem dX12_send_30 : decode cX12_send 30 = .ok (.istore_n 2, 1) := by decide +kernel
theorem dX12_send_31 : decode cX12_send 31 = .ok (.iconst 1, 1) := by decide +kernel
theorem dX12_send_32 : decode cX12_send 32 = .ok (.aload_n 0, 1) := by decide +kernel
theorem dX12_send_33 : decode cX12_send 33 = .ok (.getfield 23, 3) := by decide +kernel
theorem dX12_send_36 : decode cX12_send 36 = .ok (.iconst 2, 1) := by decide +kernel
theorem dX12_send_37 : decode cX12_send 37 = .ok (.iaload, 1) := by decide +kernel
theorem dX12_send_38 : decode cX12_send 38 = .ok (.ishl, 1) := by decide +kernel
theorem dX12_send_39 : decode cX12_send 39 = .ok (.iconst 1, 1) := by decide +kernel
theorem dX12_send_40 : decode cX12_send 40 = .ok (.isub, 1) := by decide +kernel
theorem dX12_send_41 : decode cX12_send 41 = .ok (.istore_n 3, 1) := by decide +kernel
theorem dX12_send_42 : decode cX12_send 42 = .ok (.iload_n 3, 1) := by decide +kernel
theorem dX12_send_43 : decode cX12_send 43 = .ok (.ifCond .lt 43, 3) := by decide +kernel
theorem dX12_send_46 : decode cX12_send 46 = .ok (.iload_n 1, 1) := by decide +kernel
theorem dX12_send_47 : decode cX12_send 47 = .ok (.aload_n 0, 1) := by decide +kernel
theorem dX12_send_48 : decode cX12_send 48 = .ok (.iload_n 3, 1) := by decide +kernel
theorem dX12_send_49 : decode cX12_send 49 = .ok (.invokevirtual 358, 3) := by decide +kernel
theorem dX12_send_52 : decode cX12_send 52 = .ok (.iconst (-1), 1) := by decide +kernel
theorem dX12_send_53 : decode cX12_send 53 = .ok (.ixor, 1) := by decide +kernel
theorem dX12_send_54 : decode cX12_send 54 = .ok (.iand, 1) := by decide +kernel
theorem dX12_send_55 : decode cX12_send 55 = .ok (.ifCond .ne 23, 3) := by decide +kernel
theorem dX12_send_58 : decode cX12_send 58 = .ok (.iload_n 2, 1) := by decide +kernel
theorem dX12_send_59 : decode cX12_send 59 = .ok (.iconst (-1), 1) := by decide +kernel
theorem dX12_send_60 : decode cX12_send 60 = .ok (.if_icmp .eq 14, 3) := by decide +kernel
theorem dX12_send_63 : decode cX12_send 63 = .ok (.iload_n 3, 1) := by decide +kernel
theorem dX12_send_64 : decode cX12_send 64 = .ok (.invokestatic 361, 3) := by decide +kernel
theorem dX12_send_67 : decode cX12_send 67 = .ok (.iload_n 2, 1) := by decide +kernel
theorem dX12_send_68 : decode cX12_send 68 = .ok (.invokestatic 361, 3) := by decide +kernel
theorem dX12_send_71 : decode cX12_send 71 = .ok (.if_icmp .gt 7, 3) := by decide +kernel
theorem dX12_send_74 : decode cX12_send 74 = .ok (.iload_n 3, 1) := by decide +kernel
theorem dX12_send_75 : decode cX12_send 75 = .ok (.goto 4, 3) := by decide +kernel
theorem dX12_send_78 : decode cX12_send 78 = .ok (.iload_n 2, 1) := by decide +kernel
theorem dX12_send_79 : decode cX12_send 79 = .ok (.istore_n 2, 1) := by decide +kernel
theorem dX12_send_80 : decode cX12_send 80 = .ok (.iinc 3 (-1), 3) := by decide +kernel
theorem dX12_send_83 : decode cX12_send 83 = .ok (.goto (-41), 3) := by decide +kernel
theorem dX12_send_86 : decode cX12_send 86 = .ok (.iload_n 2, 1) := by decide +kernel
theorem dX12_send_87 : decode cX12_send 87 = .ok (.ireturn, 1) := by decide +kernel
theorem dX12_lost_0 : decode cX12_lost 0 = .ok (.aload_n 0, 1) := by decide +kernel
theorem dX12_lost_1 : decode cX12_lost 1 = .ok (.iconst 0, 1) := by decide +kernel
theorem dX12_lost_2 : decode cX12_lost 2 = .ok (.putfield 116, 3) := by decide +kernel
theorem dX12_lost_5 : decode cX12_lost 5 = .ok (.aload_n 0, 1) := by decide +kernel
theorem dX12_lost_6 : decode cX12_lost 6 = .ok (.aload_n 0, 1) := by decide +kernel
theorem dX12_lost_7 : decode cX12_lost 7 = .ok (.iload_n 1, 1) := by decide +kernel
theorem dX12_lost_8 : decode cX12_lost 8 = .ok (.invokevirtual 355, 3) := by decide +kernel
theorem dX12_lost_11 : decode cX12_lost 11 = .ok (.ifCond .ne 7, 3) := by decide +kernel
theorem dX12_lost_14 : decode cX12_lost 14 = .ok (.iconst 1, 1) := by decide +kernel
theorem dX12_lost_15 : decode cX12_lost 15 = .ok (.goto 4, 3) := by decide +kernel
theorem dX12_lost_18 : decode cX12_lost 18 = .ok (.iconst 0, 1) := by decide +kernel
theorem dX12_lost_19 : decode cX12_lost 19 = .ok (.iconst 1, 1) := by decide +kernel
theorem dX12_lost_20 : decode cX12_lost 20 = .ok (.iconst 1, 1) := by decide +kernel
theorem dX12_lost_21 : decode cX12_lost 21 = .ok (.invokevirtual 192, 3) := by decide +kernel
theorem dX12_lost_24 : decode cX12_lost 24 = .ok (.ifCond .eq 5, 3) := by decide +kernel
theorem dX12_lost_27 : decode cX12_lost 27 = .ok (.iconst 0, 1) := by decide +kernel
theorem dX12_lost_28 : decode cX12_lost 28 = .ok (.ireturn, 1) := by decide +kernel
theorem dX12_lost_29 : decode cX12_lost 29 = .ok (.aload_n 0, 1) := by decide +kernel
theorem dX12_lost_30 : decode cX12_lost 30 = .ok (.iconst 1, 1) := by decide +kernel
theorem dX12_lost_31 : decode cX12_lost 31 = .ok (.aload_n 0, 1) := by decide +kernel
theorem dX12_lost_32 : decode cX12_lost 32 = .ok (.getfield 23, 3) := by decide +kernel
theorem dX12_lost_35 : decode cX12_lost 35 = .ok (.iconst 2, 1) := by decide +kernel
theorem dX12_lost_36 : decode cX12_lost 36 = .ok (.iaload, 1) := by decide +kernel
theorem dX12_lost_37 : decode cX12_lost 37 = .ok (.ishl, 1) := by decide +kernel
theorem dX12_lost_38 : decode cX12_lost 38 = .ok (.iconst 1, 1) := by decide +kernel
theorem dX12_lost_39 : decode cX12_lost 39 = .ok (.isub, 1) := by decide +kernel
theorem dX12_lost_40 : decode cX12_lost 40 = .ok (.invokevirtual 358, 3) := by decide +kernel
theorem dX12_lost_43 : decode cX12_lost 43 = .ok (.istore_n 2, 1) := by decide +kernel
theorem dX12_lost_44 : decode cX12_lost 44 = .ok (.iconst 0, 1) := by decide +kernel
theorem dX12_lost_45 : decode cX12_lost 45 = .ok (.istore_n 3, 1) := by decide +kernel
theorem dX12_lost_46 : decode cX12_lost 46 = .ok (.iload_n 3, 1) := by decide +kernel
theorem dX12_lost_47 : decode cX12_lost 47 = .ok (.aload_n 0, 1) := by decide +kernel
theorem dX12_lost_48 : decode cX12_lost 48 = .ok (.getfield 23, 3) := by decide +kernel
theorem dX12_lost_51 : decode cX12_lost 51 = .ok (.iconst 1, 1) := by decide +kernel
theorem dX12_lost_52 : decode cX12_lost 52 = .ok (.iaload, 1) := by decide +kernel
theorem dX12_lost_53 : decode cX12_lost 53 = .ok (.if_icmp .ge 27, 3) := by decide +kernel
theorem dX12_lost_56 : decode cX12_lost 56 = .ok (.iload_n 1, 1) := by decide +kernel
theorem dX12_lost_57 : decode cX12_lost 57 = .ok (.iload_n 3, 1) := by decide +kernel
theorem dX12_lost_58 : decode cX12_lost 58 = .ok (.invokestatic 278, 3) := by decide +kernel
theorem dX12_lost_61 : decode cX12_lost 61 = .ok (.ifCond .eq 13, 3) := by decide +kernel
theorem dX12_lost_64 : decode cX12_lost 64 = .ok (.iload_n 2, 1) := by decide +kernel
theorem dX12_lost_65 : decode cX12_lost 65 = .ok (.iload_n 3, 1) := by decide +kernel
theorem dX12_lost_66 : decode cX12_lost 66 = .ok (.invokestatic 278, 3) := by decide +kernel
theorem dX12_lost_69 : decode cX12_lost 69 = .ok (.ifCond .ne 5, 3) := by decide +kernel
theorem dX12_lost_72 : decode cX12_lost 72 = .ok (.iload_n 3, 1) := by decide +kernel
theorem dX12_lost_73 : decode cX12_lost 73 = .ok (.ireturn, 1) := by decide +kernel
theorem dX12_lost_74 : decode cX12_lost 74 = .ok (.iinc 3 1, 3) := by decide +kernel
theorem dX12_lost_77 : decode cX12_lost 77 = .ok (.goto (-31), 3) := by decide +kernel
theorem dX12_lost_80 : decode cX12_lost 80 = .ok (.iconst (-1), 1) := by decide +kernel
theorem dX12_lost_81 : decode cX12_lost 81 = .ok (.ireturn, 1) := by decide +kernel
theorem dX12_path_0 : decode cX12_path 0 = .ok (.aload_n 0, 1) := by decide +kernel
theorem dX12_path_1 : decode cX12_path 1 = .ok (.iconst 0, 1) := by decide +kernel
theorem dX12_path_2 : decode cX12_path 2 = .ok (.putfield 116, 3) := by decide +kernel
theorem dX12_path_5 : decode cX12_path 5 = .ok (.aload_n 0, 1) := by decide +kernel
theorem dX12_path_6 : decode cX12_path 6 = .ok (.iload_n 1, 1) := by decide +kernel
theorem dX12_path_7 : decode cX12_path 7 = .ok (.invokestatic 352, 3) := by decide +kernel
theorem dX12_path_10 : decode cX12_path 10 = .ok (.ifCond .eq 10, 3) := by decide +kernel
theorem dX12_path_13 : decode cX12_path 13 = .ok (.iload_n 2, 1) := by decide +kernel
theorem dX12_path_14 : decode cX12_path 14 = .ok (.invokestatic 352, 3) := by decide +kernel
theorem dX12_path_17 : decode cX12_path 17 = .ok (.ifCond .ne 7, 3) := by decide +kernel
theorem dX12_path_20 : decode cX12_path 20 = .ok (.iconst 1, 1) := by decide +kernel
theorem dX12_path_21 : decode cX12_path 21 = .ok (.goto 4, 3) := by decide +kernel
theorem dX12_path_24 : decode cX12_path 24 = .ok (.iconst 0, 1) := by decide +kernel
theorem dX12_path_25 : decode cX12_path 25 = .ok (.iconst 1, 1) := by decide +kernel
theorem dX12_path_26 : decode cX12_path 26 = .ok (.iconst 1, 1) := by decide +kernel
theorem dX12_path_27 : decode cX12_path 27 = .ok (.invokevirtual 192, 3) := by decide +kernel
theorem dX12_path_30 : decode cX12_path 30 = .ok (.ifCond .eq 5, 3) := by decide +kernel
theorem dX12_path_33 : decode cX12_path 33 = .ok (.iconst 0, 1) := by decide +kernel
theorem dX12_path_34 : decode cX12_path 34 = .ok (.ireturn, 1) := by decide +kernel
theorem dX12_path_35 : decode cX12_path 35 = .ok (.iload_n 1, 1) := by decide +kernel
theorem dX12_path_36 : decode cX12_path 36 = .ok (.istore_n 3, 1) := by decide +kernel
theorem dX12_path_37 : decode cX12_path 37 = .ok (.iconst 0, 1) := by decide +kernel
theorem dX12_path_38 : decode cX12_path 38 = .ok (.istore 4, 2) := by decide +kernel
theorem dX12_path_40 : decode cX12_path 40 = .ok (.iload 4, 2) := by decide +kernel
theorem dX12_path_42 : decode cX12_path 42 = .ok (.bipush 10, 2) := by decide +kernel
theorem dX12_path_44 : decode cX12_path 44 = .ok (.if_icmp .ge 29, 3) := by decide +kernel
theorem dX12_path_47 : decode cX12_path 47 = .ok (.iload_n 3, 1) := by decide +kernel
theorem dX12_path_48 : decode cX12_path 48 = .ok (.iconst (-1), 1) := by decide +kernel
theorem dX12_path_49 : decode cX12_path 49 = .ok (.if_icmp .eq 24, 3) := by decide +kernel
theorem dX12_path_52 : decode cX12_path 52 = .ok (.iload_n 3, 1) := by decide +kernel
theorem dX12_path_53 : decode cX12_path 53 = .ok (.iload_n 2, 1) := by decide +kernel
theorem dX12_path_54 : decode cX12_path 54 = .ok (.if_icmp .ne 6, 3) := by decide +kernel
theorem dX12_path_57 : decode cX12_path 57 = .ok (.iload 4, 2) := by decide +kernel
theorem dX12_path_59 : decode cX12_path 59 = .ok (.ireturn, 1) := by decide +kernel
theorem dX12_path_60 : decode cX12_path 60 = .ok (.aload_n 0, 1) := by decide +kernel
theorem dX12_path_61 : decode cX12_path 61 = .ok (.getfield 35, 3) := by decide +kernel
theorem dX12_path_64 : decode cX12_path 64 = .ok (.iload_n 3, 1) := by decide +kernel
theorem dX12_path_65 : decode cX12_path 65 = .ok (.iaload, 1) := by decide +kernel
theorem dX12_path_66 : decode cX12_path 66 = .ok (.istore_n 3, 1) := by decide +kernel
theorem dX12_path_67 : decode cX12_path 67 = .ok (.iinc 4 1, 3) := by decide +kernel
theorem dX12_path_70 : decode cX12_path 70 = .ok (.goto (-30), 3) := by decide +kernel
theorem dX12_path_73 : decode cX12_path 73 = .ok (.iconst (-1), 1) := by decide +kernel
theorem dX12_path_74 : decode cX12_path 74 = .ok (.ireturn, 1) := by decide +kernel
theorem dX12_comes_0 : decode cX12_comes 0 = .ok (.aload_n 0, 1) := by decide +kernel
theorem dX12_comes_1 : decode cX12_comes 1 = .ok (.iconst 0, 1) := by decide +kernel
theorem dX12_comes_2 : decode cX12_comes 2 = .ok (.putfield 116, 3) := by decide +kernel
theorem dX12_comes_5 : decode cX12_comes 5 = .ok (.aload_n 0, 1) := by decide +kernel
theorem dX12_comes_6 : decode cX12_comes 6 = .ok (.iload_n 1, 1) := by decide +kernel
theorem dX12_comes_7 : decode cX12_comes 7 = .ok (.invokestatic 352, 3) := by decide +kernel
theorem dX12_comes_10 : decode cX12_comes 10 = .ok (.ifCond .ne 7, 3) := by decide +kernel
theorem dX12_comes_13 : decode cX12_comes 13 = .ok (.iconst 1, 1) := by decide +kernel
theorem dX12_comes_14 : decode cX12_comes 14 = .ok (.goto 4, 3) := by decide +kernel
theorem dX12_comes_17 : decode cX12_comes 17 = .ok (.iconst 0, 1) := by decide +kernel
theorem dX12_comes_18 : decode cX12_comes 18 = .ok (.iconst 1, 1) := by decide +kernel
theorem dX12_comes_19 : decode cX12_comes 19 = .ok (.iconst 1, 1) := by decide +kernel
theorem dX12_comes_20 : decode cX12_comes 20 = .ok (.invokevirtual 192, 3) := by decide +kernel
theorem dX12_comes_23 : decode cX12_comes 23 = .ok (.ifCond .eq 5, 3) := by decide +kernel
theorem dX12_comes_26 : decode cX12_comes 26 = .ok (.iconst 0, 1) := by decide +kernel
theorem dX12_comes_27 : decode cX12_comes 27 = .ok (.ireturn, 1) := by decide +kernel
theorem dX12_comes_28 : decode cX12_comes 28 = .ok (.iconst 0, 1) := by decide +kernel
theorem dX12_comes_29 : decode cX12_comes 29 = .ok (.istore_n 2, 1) := by decide +kernel
theorem dX12_comes_30 : decode cX12_comes 30 = .ok (.iload_n 1, 1) := by decide +kernel
theorem dX12_comes_31 : decode cX12_comes 31 = .ok (.istore_n 3, 1) := by decide +kernel
theorem dX12_comes_32 : decode cX12_comes 32 = .ok (.iload_n 3, 1) := by decide +kernel
theorem dX12_comes_33 : decode cX12_comes 33 = .ok (.iconst (-1), 1) := by decide +kernel
theorem dX12_comes_34 : decode cX12_comes 34 = .ok (.if_icmp .eq 27, 3) := by decide +kernel
theorem dX12_comes_37 : decode cX12_comes 37 = .ok (.iload_n 2, 1) := by decide +kernel
theorem dX12_comes_38 : decode cX12_comes 38 = .ok (.iload_n 3, 1) := by decide +kernel
theorem dX12_comes_39 : decode cX12_comes 39 = .ok (.invokestatic 278, 3) := by decide +kernel
theorem dX12_comes_42 : decode cX12_comes 42 = .ok (.ifCond .ne 19, 3) := by decide +kernel
theorem dX12_comes_45 : decode cX12_comes 45 = .ok (.iload_n 2, 1) := by decide +kernel
theorem dX12_comes_46 : decode cX12_comes 46 = .ok (.iconst 1, 1) := by decide +kernel
theorem dX12_comes_47 : decode cX12_comes 47 = .ok (.iload_n 3, 1) := by decide +kernel
theorem dX12_comes_48 : decode cX12_comes 48 = .ok (.ishl, 1) := by decide +kernel
theorem dX12_comes_49 : decode cX12_comes 49 = .ok (.ior, 1) := by decide +kernel
theorem dX12_comes_50 : decode cX12_comes 50 = .ok (.istore_n 2, 1) := by decide +kernel
theorem dX12_comes_51 : decode cX12_comes 51 = .ok (.aload_n 0, 1) := by decide +kernel
theorem dX12_comes_52 : decode cX12_comes 52 = .ok (.getfield 35, 3) := by decide +kernel
theorem dX12_comes_55 : decode cX12_comes 55 = .ok (.iload_n 3, 1) := by decide +kernel
theorem dX12_comes_56 : decode cX12_comes 56 = .ok (.iaload, 1) := by decide +kernel
theorem dX12_comes_57 : decode cX12_comes 57 = .ok (.istore_n 3, 1) := by decide +kernel
theorem dX12_comes_58 : decode cX12_comes 58 = .ok (.goto (-26), 3) := by decide +kernel
theorem dX12_comes_61 : decode cX12_comes 61 = .ok (.iload_n 2, 1) := by decide +kernel
theorem dX12_comes_62 : decode cX12_comes 62 = .ok (.ireturn, 1) := by decide +kernel
theorem dX12_writesFrom_0 : decode cX12_writesFrom 0 = .ok (.iload_n 3, 1) := by decide +kernel
theorem dX12_writesFrom_1 : decode cX12_writesFrom 1 = .ok (.aload_n 0, 1) := by decide +kernel
theorem dX12_writesFrom_2 : decode cX12_writesFrom 2 = .ok (.getfield 100, 3) := by decide +kernel
theorem dX12_writesFrom_5 : decode cX12_writesFrom 5 = .ok (.iload_n 2, 1) := by decide +kernel
theorem dX12_writesFrom_6 : decode cX12_writesFrom 6 = .ok (.iaload, 1) := by decide +kernel
theorem dX12_writesFrom_7 : decode cX12_writesFrom 7 = .ok (.iadd, 1) := by decide +kernel
theorem dX12_writesFrom_8 : decode cX12_writesFrom 8 = .ok (.aload_n 0, 1) := by decide +kernel
theorem dX12_writesFrom_9 : decode cX12_writesFrom 9 = .ok (.getfield 364, 3) := by decide +kernel
theorem dX12_writesFrom_12 : decode cX12_writesFrom 12 = .ok (.if_icmp .gt 4, 3) := by decide +kernel
theorem dX12_writesFrom_15 : decode cX12_writesFrom 15 = .ok (.return_, 1) := by decide +kernel
theorem dX12_writesFrom_16 : decode cX12_writesFrom 16 = .ok (.iload_n 2, 1) := by decide +kernel
theorem dX12_writesFrom_17 : decode cX12_writesFrom 17 = .ok (.aload_n 0, 1) := by decide +kernel
theorem dX12_writesFrom_18 : decode cX12_writesFrom 18 = .ok (.getfield 23, 3) := by decide +kernel
theorem dX12_writesFrom_21 : decode cX12_writesFrom 21 = .ok (.iconst 1, 1) := by decide +kernel
theorem dX12_writesFrom_22 : decode cX12_writesFrom 22 = .ok (.iaload, 1) := by decide +kernel
theorem dX12_writesFrom_23 : decode cX12_writesFrom 23 = .ok (.if_icmp .ne 38, 3) := by decide +kernel
theorem dX12_writesFrom_26 : decode cX12_writesFrom 26 = .ok (.aload_n 0, 1) := by decide +kernel
theorem dX12_writesFrom_27 : decode cX12_writesFrom 27 = .ok (.iload_n 3, 1) := by decide +kernel
theorem dX12_writesFrom_28 : decode cX12_writesFrom 28 = .ok (.putfield 364, 3) := by decide +kernel
theorem dX12_writesFrom_31 : decode cX12_writesFrom 31 = .ok (.iconst 0, 1) := by decide +kernel
theorem dX12_writesFrom_32 : decode cX12_writesFrom 32 = .ok (.istore 4, 2) := by decide +kernel
theorem dX12_writesFrom_34 : decode cX12_writesFrom 34 = .ok (.iload 4, 2) := by decide +kernel
theorem dX12_writesFrom_36 : decode cX12_writesFrom 36 = .ok (.iload_n 2, 1) := by decide +kernel
theorem dX12_writesFrom_37 : decode cX12_writesFrom 37 = .ok (.if_icmp .ge 23, 3) := by decide +kernel
theorem dX12_writesFrom_40 : decode cX12_writesFrom 40 = .ok (.aload_n 0, 1) := by decide +kernel
theorem dX12_writesFrom_41 : decode cX12_writesFrom 41 = .ok (.getfield 94, 3) := by decide +kernel
theorem dX12_writesFrom_44 : decode cX12_writesFrom 44 = .ok (.iload 4, 2) := by decide +kernel
theorem dX12_writesFrom_46 : decode cX12_writesFrom 46 = .ok (.aload_n 0, 1) := by decide +kernel
theorem dX12_writesFrom_47 : decode cX12_writesFrom 47 = .ok (.getfield 91, 3) := by decide +kernel
theorem dX12_writesFrom_50 : decode cX12_writesFrom 50 = .ok (.iload 4, 2) := by decide +kernel
theorem dX12_writesFrom_52 : decode cX12_writesFrom 52 = .ok (.iaload, 1) := by decide +kernel
theorem dX12_writesFrom_53 : decode cX12_writesFrom 53 = .ok (.iastore, 1) := by decide +kernel
theorem dX12_writesFrom_54 : decode cX12_writesFrom 54 = .ok (.iinc 4 1, 3) := by decide +kernel
theorem dX12_writesFrom_57 : decode cX12_writesFrom 57 = .ok (.goto (-23), 3) := by decide +kernel
theorem dX12_writesFrom_60 : decode cX12_writesFrom 60 = .ok (.return_, 1) := by decide +kernel
theorem dX12_writesFrom_61 : decode cX12_writesFrom 61 = .ok (.iconst 0, 1) := by decide +kernel
theorem dX12_writesFrom_62 : decode cX12_writesFrom 62 = .ok (.istore 4, 2) := by decide +kernel
theorem dX12_writesFrom_64 : decode cX12_writesFrom 64 = .ok (.iload 4, 2) := by decide +kernel
theorem dX12_writesFrom_66 : decode cX12_writesFrom 66 = .ok (.aload_n 0, 1) := by decide +kernel
theorem dX12_writesFrom_67 : decode cX12_writesFrom 67 = .ok (.getfield 23, 3) := by decide +kernel
theorem dX12_writesFrom_70 : decode cX12_writesFrom 70 = .ok (.iconst 0, 1) := by decide +kernel
theorem dX12_writesFrom_71 : decode cX12_writesFrom 71 = .ok (.iaload, 1) := by decide +kernel
theorem dX12_writesFrom_72 : decode cX12_writesFrom 72 = .ok (.if_icmp .ge 100, 3) := by decide +kernel
theorem dX12_writesFrom_75 : decode cX12_writesFrom 75 = .ok (.iload_n 1, 1) := by decide +kernel
theorem dX12_writesFrom_76 : decode cX12_writesFrom 76 = .ok (.iload_n 2, 1) := by decide +kernel
theorem dX12_writesFrom_77 : decode cX12_writesFrom 77 = .ok (.invokestatic 278, 3) := by decide +kernel
theorem dX12_writesFrom_80 : decode cX12_writesFrom 80 = .ok (.ifCond .eq 92, 3) := by decide +kernel
theorem dX12_writesFrom_83 : decode cX12_writesFrom 83 = .ok (.aload_n 0, 1) := by decide +kernel
theorem dX12_writesFrom_84 : decode cX12_writesFrom 84 = .ok (.getfield 97, 3) := by decide +kernel
theorem dX12_writesFrom_87 : decode cX12_writesFrom 87 = .ok (.iload 4, 2) := by decide +kernel
theorem dX12_writesFrom_89 : decode cX12_writesFrom 89 = .ok (.iaload, 1) := by decide +kernel
theorem dX12_writesFrom_90 : decode cX12_writesFrom 90 = .ok (.aload_n 0, 1) := by decide +kernel
theorem dX12_writesFrom_91 : decode cX12_writesFrom 91 = .ok (.getfield 49, 3) := by decide +kernel
theorem dX12_writesFrom_94 : decode cX12_writesFrom 94 = .ok (.iload_n 2, 1) := by decide +kernel
theorem dX12_writesFrom_95 : decode cX12_writesFrom 95 = .ok (.aaload, 1) := by decide +kernel
theorem dX12_writesFrom_96 : decode cX12_writesFrom 96 = .ok (.iconst 1, 1) := by decide +kernel
theorem dX12_writesFrom_97 : decode cX12_writesFrom 97 = .ok (.iaload, 1) := by decide +kernel
theorem dX12_writesFrom_98 : decode cX12_writesFrom 98 = .ok (.if_icmp .ge 6, 3) := by decide +kernel
theorem dX12_writesFrom_101 : decode cX12_writesFrom 101 = .ok (.goto 65, 3) := by decide +kernel
theorem dX12_writesFrom_104 : decode cX12_writesFrom 104 = .ok (.aload_n 0, 1) := by decide +kernel
theorem dX12_writesFrom_105 : decode cX12_writesFrom 105 = .ok (.getfield 91, 3) := by decide +kernel
theorem dX12_writesFrom_108 : decode cX12_writesFrom 108 = .ok (.iload_n 2, 1) := by decide +kernel
theorem dX12_writesFrom_109 : decode cX12_writesFrom 109 = .ok (.iload 4, 2) := by decide +kernel
theorem dX12_writesFrom_111 : decode cX12_writesFrom 111 = .ok (.iastore, 1) := by decide +kernel
theorem dX12_writesFrom_112 : decode cX12_writesFrom 112 = .ok (.aload_n 0, 1) := by decide +kernel
theorem dX12_writesFrom_113 : decode cX12_writesFrom 113 = .ok (.getfield 97, 3) := by decide +kernel
theorem dX12_writesFrom_116 : decode cX12_writesFrom 116 = .ok (.iload 4, 2) := by decide +kernel
theorem dX12_writesFrom_118 : decode cX12_writesFrom 118 = .ok (.dup2, 1) := by decide +kernel
theorem dX12_writesFrom_119 : decode cX12_writesFrom 119 = .ok (.iaload, 1) := by decide +kernel
theorem dX12_writesFrom_120 : decode cX12_writesFrom 120 = .ok (.aload_n 0, 1) := by decide +kernel
theorem dX12_writesFrom_121 : decode cX12_writesFrom 121 = .ok (.getfield 49, 3) := by decide +kernel
theorem dX12_writesFrom_124 : decode cX12_writesFrom 124 = .ok (.iload_n 2, 1) := by decide +kernel
theorem dX12_writesFrom_125 : decode cX12_writesFrom 125 = .ok (.aaload, 1) := by decide +kernel
theorem dX12_writesFrom_126 : decode cX12_writesFrom 126 = .ok (.iconst 1, 1) := by decide +kernel
theorem dX12_writesFrom_127 : decode cX12_writesFrom 127 = .ok (.iaload, 1) := by decide +kernel
theorem dX12_writesFrom_128 : decode cX12_writesFrom 128 = .ok (.isub, 1) := by decide +kernel
theorem dX12_writesFrom_129 : decode cX12_writesFrom 129 = .ok (.iastore, 1) := by decide +kernel
theorem dX12_writesFrom_130 : decode cX12_writesFrom 130 = .ok (.aload_n 0, 1) := by decide +kernel
theorem dX12_writesFrom_131 : decode cX12_writesFrom 131 = .ok (.iload_n 1, 1) := by decide +kernel
theorem dX12_writesFrom_132 : decode cX12_writesFrom 132 = .ok (.iload_n 2, 1) := by decide +kernel
theorem dX12_writesFrom_133 : decode cX12_writesFrom 133 = .ok (.iconst 1, 1) := by decide +kernel
theorem dX12_writesFrom_134 : decode cX12_writesFrom 134 = .ok (.iadd, 1) := by decide +kernel
theorem dX12_writesFrom_135 : decode cX12_writesFrom 135 = .ok (.iload_n 3, 1) := by decide +kernel
theorem dX12_writesFrom_136 : decode cX12_writesFrom 136 = .ok (.aload_n 0, 1) := by decide +kernel
theorem dX12_writesFrom_137 : decode cX12_writesFrom 137 = .ok (.getfield 49, 3) := by decide +kernel
theorem dX12_writesFrom_140 : decode cX12_writesFrom 140 = .ok (.iload_n 2, 1) := by decide +kernel
theorem dX12_writesFrom_141 : decode cX12_writesFrom 141 = .ok (.aaload, 1) := by decide +kernel
theorem dX12_writesFrom_142 : decode cX12_writesFrom 142 = .ok (.iconst 1, 1) := by decide +kernel
theorem dX12_writesFrom_143 : decode cX12_writesFrom 143 = .ok (.iaload, 1) := by decide +kernel
theorem dX12_writesFrom_144 : decode cX12_writesFrom 144 = .ok (.iadd, 1) := by decide +kernel
theorem dX12_writesFrom_145 : decode cX12_writesFrom 145 = .ok (.invokevirtual 367, 3) := by decide +kernel
theorem dX12_writesFrom_148 : decode cX12_writesFrom 148 = .ok (.aload_n 0, 1) := by decide +kernel
theorem dX12_writesFrom_149 : decode cX12_writesFrom 149 = .ok (.getfield 97, 3) := by decide +kernel
theorem dX12_writesFrom_152 : decode cX12_writesFrom 152 = .ok (.iload 4, 2) := by decide +kernel
theorem dX12_writesFrom_154 : decode cX12_writesFrom 154 = .ok (.dup2, 1) := by decide +kernel
theorem dX12_writesFrom_155 : decode cX12_writesFrom 155 = .ok (.iaload, 1) := by decide +kernel
theorem dX12_writesFrom_156 : decode cX12_writesFrom 156 = .ok (.aload_n 0, 1) := by decide +kernel
theorem dX12_writesFrom_157 : decode cX12_writesFrom 157 = .ok (.getfield 49, 3) := by decide +kernel
theorem dX12_writesFrom_160 : decode cX12_writesFrom 160 = .ok (.iload_n 2, 1) := by decide +kernel
theorem dX12_writesFrom_161 : decode cX12_writesFrom 161 = .ok (.aaload, 1) := by decide +kernel
theorem dX12_writesFrom_162 : decode cX12_writesFrom 162 = .ok (.iconst 1, 1) := by decide +kernel
theorem dX12_writesFrom_163 : decode cX12_writesFrom 163 = .ok (.iaload, 1) := by decide +kernel
theorem dX12_writesFrom_164 : decode cX12_writesFrom 164 = .ok (.iadd, 1) := by decide +kernel
theorem dX12_writesFrom_165 : decode cX12_writesFrom 165 = .ok (.iastore, 1) := by decide +kernel
theorem dX12_writesFrom_166 : decode cX12_writesFrom 166 = .ok (.iinc 4 1, 3) := by decide +kernel
theorem dX12_writesFrom_169 : decode cX12_writesFrom 169 = .ok (.goto (-105), 3) := by decide +kernel
theorem dX12_writesFrom_172 : decode cX12_writesFrom 172 = .ok (.aload_n 0, 1) := by decide +kernel
theorem dX12_writesFrom_173 : decode cX12_writesFrom 173 = .ok (.getfield 91, 3) := by decide +kernel
theorem dX12_writesFrom_176 : decode cX12_writesFrom 176 = .ok (.iload_n 2, 1) := by decide +kernel
theorem dX12_writesFrom_177 : decode cX12_writesFrom 177 = .ok (.iconst (-1), 1) := by decide +kernel
theorem dX12_writesFrom_178 : decode cX12_writesFrom 178 = .ok (.iastore, 1) := by decide +kernel
theorem dX12_writesFrom_179 : decode cX12_writesFrom 179 = .ok (.aload_n 0, 1) := by decide +kernel
theorem dX12_writesFrom_180 : decode cX12_writesFrom 180 = .ok (.iload_n 1, 1) := by decide +kernel
theorem dX12_writesFrom_181 : decode cX12_writesFrom 181 = .ok (.iload_n 2, 1) := by decide +kernel
theorem dX12_writesFrom_182 : decode cX12_writesFrom 182 = .ok (.iconst 1, 1) := by decide +kernel
theorem dX12_writesFrom_183 : decode cX12_writesFrom 183 = .ok (.iadd, 1) := by decide +kernel
theorem dX12_writesFrom_184 : decode cX12_writesFrom 184 = .ok (.iload_n 3, 1) := by decide +kernel
theorem dX12_writesFrom_185 : decode cX12_writesFrom 185 = .ok (.invokevirtual 367, 3) := by decide +kernel
theorem dX12_writesFrom_188 : decode cX12_writesFrom 188 = .ok (.return_, 1) := by decide +kernel
theorem dX12_laysFits_0 : decode cX12_laysFits 0 = .ok (.aload_n 0, 1) := by decide +kernel
theorem dX12_laysFits_1 : decode cX12_laysFits 1 = .ok (.iconst (-1), 1) := by decide +kernel
theorem dX12_laysFits_2 : decode cX12_laysFits 2 = .ok (.putfield 364, 3) := by decide +kernel
theorem dX12_laysFits_5 : decode cX12_laysFits 5 = .ok (.aload_n 0, 1) := by decide +kernel
theorem dX12_laysFits_6 : decode cX12_laysFits 6 = .ok (.getfield 100, 3) := by decide +kernel
theorem dX12_laysFits_9 : decode cX12_laysFits 9 = .ok (.aload_n 0, 1) := by decide +kernel
theorem dX12_laysFits_10 : decode cX12_laysFits 10 = .ok (.getfield 23, 3) := by decide +kernel
theorem dX12_laysFits_13 : decode cX12_laysFits 13 = .ok (.iconst 1, 1) := by decide +kernel
theorem dX12_laysFits_14 : decode cX12_laysFits 14 = .ok (.iaload, 1) := by decide +kernel
theorem dX12_laysFits_15 : decode cX12_laysFits 15 = .ok (.iconst 0, 1) := by decide +kernel
theorem dX12_laysFits_16 : decode cX12_laysFits 16 = .ok (.iastore, 1) := by decide +kernel
theorem dX12_laysFits_17 : decode cX12_laysFits 17 = .ok (.aload_n 0, 1) := by decide +kernel
theorem dX12_laysFits_18 : decode cX12_laysFits 18 = .ok (.getfield 23, 3) := by decide +kernel
theorem dX12_laysFits_21 : decode cX12_laysFits 21 = .ok (.iconst 1, 1) := by decide +kernel
theorem dX12_laysFits_22 : decode cX12_laysFits 22 = .ok (.iaload, 1) := by decide +kernel
theorem dX12_laysFits_23 : decode cX12_laysFits 23 = .ok (.iconst 1, 1) := by decide +kernel
theorem dX12_laysFits_24 : decode cX12_laysFits 24 = .ok (.isub, 1) := by decide +kernel
theorem dX12_laysFits_25 : decode cX12_laysFits 25 = .ok (.istore_n 2, 1) := by decide +kernel
theorem dX12_laysFits_26 : decode cX12_laysFits 26 = .ok (.iload_n 2, 1) := by decide +kernel
theorem dX12_laysFits_27 : decode cX12_laysFits 27 = .ok (.ifCond .lt 44, 3) := by decide +kernel
theorem dX12_laysFits_30 : decode cX12_laysFits 30 = .ok (.aload_n 0, 1) := by decide +kernel
theorem dX12_laysFits_31 : decode cX12_laysFits 31 = .ok (.getfield 100, 3) := by decide +kernel
theorem dX12_laysFits_34 : decode cX12_laysFits 34 = .ok (.iload_n 2, 1) := by decide +kernel
theorem dX12_laysFits_35 : decode cX12_laysFits 35 = .ok (.aload_n 0, 1) := by decide +kernel
theorem dX12_laysFits_36 : decode cX12_laysFits 36 = .ok (.getfield 100, 3) := by decide +kernel
theorem dX12_laysFits_39 : decode cX12_laysFits 39 = .ok (.iload_n 2, 1) := by decide +kernel
theorem dX12_laysFits_40 : decode cX12_laysFits 40 = .ok (.iconst 1, 1) := by decide +kernel
theorem dX12_laysFits_41 : decode cX12_laysFits 41 = .ok (.iadd, 1) := by decide +kernel
theorem dX12_laysFits_42 : decode cX12_laysFits 42 = .ok (.iaload, 1) := by decide +kernel
theorem dX12_laysFits_43 : decode cX12_laysFits 43 = .ok (.iload_n 1, 1) := by decide +kernel
theorem dX12_laysFits_44 : decode cX12_laysFits 44 = .ok (.iload_n 2, 1) := by decide +kernel
theorem dX12_laysFits_45 : decode cX12_laysFits 45 = .ok (.invokestatic 278, 3) := by decide +kernel
theorem dX12_laysFits_48 : decode cX12_laysFits 48 = .ok (.ifCond .eq 14, 3) := by decide +kernel
theorem dX12_laysFits_51 : decode cX12_laysFits 51 = .ok (.aload_n 0, 1) := by decide +kernel
theorem dX12_laysFits_52 : decode cX12_laysFits 52 = .ok (.getfield 49, 3) := by decide +kernel
theorem dX12_laysFits_55 : decode cX12_laysFits 55 = .ok (.iload_n 2, 1) := by decide +kernel
theorem dX12_laysFits_56 : decode cX12_laysFits 56 = .ok (.aaload, 1) := by decide +kernel
theorem dX12_laysFits_57 : decode cX12_laysFits 57 = .ok (.iconst 1, 1) := by decide +kernel
theorem dX12_laysFits_58 : decode cX12_laysFits 58 = .ok (.iaload, 1) := by decide +kernel
theorem dX12_laysFits_59 : decode cX12_laysFits 59 = .ok (.goto 4, 3) := by decide +kernel
theorem dX12_laysFits_62 : decode cX12_laysFits 62 = .ok (.iconst 0, 1) := by decide +kernel
theorem dX12_laysFits_63 : decode cX12_laysFits 63 = .ok (.iadd, 1) := by decide +kernel
theorem dX12_laysFits_64 : decode cX12_laysFits 64 = .ok (.iastore, 1) := by decide +kernel
theorem dX12_laysFits_65 : decode cX12_laysFits 65 = .ok (.iinc 2 (-1), 3) := by decide +kernel
theorem dX12_laysFits_68 : decode cX12_laysFits 68 = .ok (.goto (-42), 3) := by decide +kernel
theorem dX12_laysFits_71 : decode cX12_laysFits 71 = .ok (.iconst 0, 1) := by decide +kernel
theorem dX12_laysFits_72 : decode cX12_laysFits 72 = .ok (.istore_n 2, 1) := by decide +kernel
theorem dX12_laysFits_73 : decode cX12_laysFits 73 = .ok (.iload_n 2, 1) := by decide +kernel
theorem dX12_laysFits_74 : decode cX12_laysFits 74 = .ok (.aload_n 0, 1) := by decide +kernel
theorem dX12_laysFits_75 : decode cX12_laysFits 75 = .ok (.getfield 23, 3) := by decide +kernel
theorem dX12_laysFits_78 : decode cX12_laysFits 78 = .ok (.iconst 0, 1) := by decide +kernel
theorem dX12_laysFits_79 : decode cX12_laysFits 79 = .ok (.iaload, 1) := by decide +kernel
theorem dX12_laysFits_80 : decode cX12_laysFits 80 = .ok (.if_icmp .ge 21, 3) := by decide +kernel
theorem dX12_laysFits_83 : decode cX12_laysFits 83 = .ok (.aload_n 0, 1) := by decide +kernel
theorem dX12_laysFits_84 : decode cX12_laysFits 84 = .ok (.getfield 97, 3) := by decide +kernel
theorem dX12_laysFits_87 : decode cX12_laysFits 87 = .ok (.iload_n 2, 1) := by decide +kernel
theorem dX12_laysFits_88 : decode cX12_laysFits 88 = .ok (.aload_n 0, 1) := by decide +kernel
theorem dX12_laysFits_89 : decode cX12_laysFits 89 = .ok (.getfield 29, 3) := by decide +kernel
theorem dX12_laysFits_92 : decode cX12_laysFits 92 = .ok (.iload_n 2, 1) := by decide +kernel
theorem dX12_laysFits_93 : decode cX12_laysFits 93 = .ok (.iaload, 1) := by decide +kernel
theorem dX12_laysFits_94 : decode cX12_laysFits 94 = .ok (.iastore, 1) := by decide +kernel
theorem dX12_laysFits_95 : decode cX12_laysFits 95 = .ok (.iinc 2 1, 3) := by decide +kernel
theorem dX12_laysFits_98 : decode cX12_laysFits 98 = .ok (.goto (-25), 3) := by decide +kernel
theorem dX12_laysFits_101 : decode cX12_laysFits 101 = .ok (.aload_n 0, 1) := by decide +kernel
theorem dX12_laysFits_102 : decode cX12_laysFits 102 = .ok (.iload_n 1, 1) := by decide +kernel
theorem dX12_laysFits_103 : decode cX12_laysFits 103 = .ok (.iconst 0, 1) := by decide +kernel
theorem dX12_laysFits_104 : decode cX12_laysFits 104 = .ok (.iconst 0, 1) := by decide +kernel
theorem dX12_laysFits_105 : decode cX12_laysFits 105 = .ok (.invokevirtual 367, 3) := by decide +kernel
theorem dX12_laysFits_108 : decode cX12_laysFits 108 = .ok (.return_, 1) := by decide +kernel
theorem dX12_fits_0 : decode cX12_fits 0 = .ok (.aload_n 0, 1) := by decide +kernel
theorem dX12_fits_1 : decode cX12_fits 1 = .ok (.iconst 0, 1) := by decide +kernel
theorem dX12_fits_2 : decode cX12_fits 2 = .ok (.putfield 116, 3) := by decide +kernel
theorem dX12_fits_5 : decode cX12_fits 5 = .ok (.aload_n 0, 1) := by decide +kernel
theorem dX12_fits_6 : decode cX12_fits 6 = .ok (.aload_n 0, 1) := by decide +kernel
theorem dX12_fits_7 : decode cX12_fits 7 = .ok (.iload_n 1, 1) := by decide +kernel
theorem dX12_fits_8 : decode cX12_fits 8 = .ok (.invokevirtual 355, 3) := by decide +kernel
theorem dX12_fits_11 : decode cX12_fits 11 = .ok (.ifCond .ne 7, 3) := by decide +kernel
theorem dX12_fits_14 : decode cX12_fits 14 = .ok (.iconst 1, 1) := by decide +kernel
theorem dX12_fits_15 : decode cX12_fits 15 = .ok (.goto 4, 3) := by decide +kernel
theorem dX12_fits_18 : decode cX12_fits 18 = .ok (.iconst 0, 1) := by decide +kernel
theorem dX12_fits_19 : decode cX12_fits 19 = .ok (.iconst 1, 1) := by decide +kernel
theorem dX12_fits_20 : decode cX12_fits 20 = .ok (.iconst 1, 1) := by decide +kernel
theorem dX12_fits_21 : decode cX12_fits 21 = .ok (.invokevirtual 192, 3) := by decide +kernel
theorem dX12_fits_24 : decode cX12_fits 24 = .ok (.ifCond .eq 5, 3) := by decide +kernel
theorem dX12_fits_27 : decode cX12_fits 27 = .ok (.iconst 0, 1) := by decide +kernel
theorem dX12_fits_28 : decode cX12_fits 28 = .ok (.ireturn, 1) := by decide +kernel
theorem dX12_fits_29 : decode cX12_fits 29 = .ok (.aload_n 0, 1) := by decide +kernel
theorem dX12_fits_30 : decode cX12_fits 30 = .ok (.iload_n 1, 1) := by decide +kernel
theorem dX12_fits_31 : decode cX12_fits 31 = .ok (.invokevirtual 371, 3) := by decide +kernel
theorem dX12_fits_34 : decode cX12_fits 34 = .ok (.aload_n 0, 1) := by decide +kernel
theorem dX12_fits_35 : decode cX12_fits 35 = .ok (.getfield 364, 3) := by decide +kernel
theorem dX12_fits_38 : decode cX12_fits 38 = .ok (.ireturn, 1) := by decide +kernel
theorem dX12_fitted_0 : decode cX12_fitted 0 = .ok (.aload_n 0, 1) := by decide +kernel
theorem dX12_fitted_1 : decode cX12_fitted 1 = .ok (.iconst 0, 1) := by decide +kernel
theorem dX12_fitted_2 : decode cX12_fitted 2 = .ok (.putfield 116, 3) := by decide +kernel
theorem dX12_fitted_5 : decode cX12_fitted 5 = .ok (.aload_n 0, 1) := by decide +kernel
theorem dX12_fitted_6 : decode cX12_fitted 6 = .ok (.aload_n 0, 1) := by decide +kernel
theorem dX12_fitted_7 : decode cX12_fitted 7 = .ok (.iload_n 2, 1) := by decide +kernel
theorem dX12_fitted_8 : decode cX12_fitted 8 = .ok (.invokevirtual 346, 3) := by decide +kernel
theorem dX12_fitted_11 : decode cX12_fitted 11 = .ok (.ifCond .ne 7, 3) := by decide +kernel
theorem dX12_fitted_14 : decode cX12_fitted 14 = .ok (.iconst 1, 1) := by decide +kernel
theorem dX12_fitted_15 : decode cX12_fitted 15 = .ok (.goto 4, 3) := by decide +kernel
theorem dX12_fitted_18 : decode cX12_fitted 18 = .ok (.iconst 0, 1) := by decide +kernel
theorem dX12_fitted_19 : decode cX12_fitted 19 = .ok (.iconst 1, 1) := by decide +kernel
theorem dX12_fitted_20 : decode cX12_fitted 20 = .ok (.iconst 0, 1) := by decide +kernel
theorem dX12_fitted_21 : decode cX12_fitted 21 = .ok (.invokevirtual 192, 3) := by decide +kernel
theorem dX12_fitted_24 : decode cX12_fitted 24 = .ok (.ifCond .ne 25, 3) := by decide +kernel
theorem dX12_fitted_27 : decode cX12_fitted 27 = .ok (.aload_n 0, 1) := by decide +kernel
theorem dX12_fitted_28 : decode cX12_fitted 28 = .ok (.aload_n 0, 1) := by decide +kernel
theorem dX12_fitted_29 : decode cX12_fitted 29 = .ok (.iload_n 1, 1) := by decide +kernel
theorem dX12_fitted_30 : decode cX12_fitted 30 = .ok (.invokevirtual 355, 3) := by decide +kernel
theorem dX12_fitted_33 : decode cX12_fitted 33 = .ok (.ifCond .ne 7, 3) := by decide +kernel
theorem dX12_fitted_36 : decode cX12_fitted 36 = .ok (.iconst 1, 1) := by decide +kernel
theorem dX12_fitted_37 : decode cX12_fitted 37 = .ok (.goto 4, 3) := by decide +kernel
theorem dX12_fitted_40 : decode cX12_fitted 40 = .ok (.iconst 0, 1) := by decide +kernel
theorem dX12_fitted_41 : decode cX12_fitted 41 = .ok (.iconst 2, 1) := by decide +kernel
theorem dX12_fitted_42 : decode cX12_fitted 42 = .ok (.iconst 1, 1) := by decide +kernel
theorem dX12_fitted_43 : decode cX12_fitted 43 = .ok (.invokevirtual 192, 3) := by decide +kernel
theorem dX12_fitted_46 : decode cX12_fitted 46 = .ok (.ifCond .eq 5, 3) := by decide +kernel
theorem dX12_fitted_49 : decode cX12_fitted 49 = .ok (.iconst 0, 1) := by decide +kernel
theorem dX12_fitted_50 : decode cX12_fitted 50 = .ok (.ireturn, 1) := by decide +kernel
theorem dX12_fitted_51 : decode cX12_fitted 51 = .ok (.aload_n 0, 1) := by decide +kernel
theorem dX12_fitted_52 : decode cX12_fitted 52 = .ok (.iload_n 1, 1) := by decide +kernel
theorem dX12_fitted_53 : decode cX12_fitted 53 = .ok (.invokevirtual 371, 3) := by decide +kernel
theorem dX12_fitted_56 : decode cX12_fitted 56 = .ok (.aload_n 0, 1) := by decide +kernel
theorem dX12_fitted_57 : decode cX12_fitted 57 = .ok (.getfield 94, 3) := by decide +kernel
theorem dX12_fitted_60 : decode cX12_fitted 60 = .ok (.iload_n 2, 1) := by decide +kernel
theorem dX12_fitted_61 : decode cX12_fitted 61 = .ok (.iaload, 1) := by decide +kernel
theorem dX12_fitted_62 : decode cX12_fitted 62 = .ok (.ireturn, 1) := by decide +kernel
theorem dX12_actsOf_0 : decode cX12_actsOf 0 = .ok (.iconst 0, 1) := by decide +kernel
theorem dX12_actsOf_1 : decode cX12_actsOf 1 = .ok (.istore_n 2, 1) := by decide +kernel
theorem dX12_actsOf_2 : decode cX12_actsOf 2 = .ok (.iconst 0, 1) := by decide +kernel
theorem dX12_actsOf_3 : decode cX12_actsOf 3 = .ok (.istore_n 3, 1) := by decide +kernel
theorem dX12_actsOf_4 : decode cX12_actsOf 4 = .ok (.iload_n 3, 1) := by decide +kernel
theorem dX12_actsOf_5 : decode cX12_actsOf 5 = .ok (.aload_n 0, 1) := by decide +kernel
theorem dX12_actsOf_6 : decode cX12_actsOf 6 = .ok (.getfield 23, 3) := by decide +kernel
theorem dX12_actsOf_9 : decode cX12_actsOf 9 = .ok (.iconst 1, 1) := by decide +kernel
theorem dX12_actsOf_10 : decode cX12_actsOf 10 = .ok (.iaload, 1) := by decide +kernel
theorem dX12_actsOf_11 : decode cX12_actsOf 11 = .ok (.if_icmp .ge 34, 3) := by decide +kernel
theorem dX12_actsOf_14 : decode cX12_actsOf 14 = .ok (.iload_n 2, 1) := by decide +kernel
theorem dX12_actsOf_15 : decode cX12_actsOf 15 = .ok (.iload_n 1, 1) := by decide +kernel
theorem dX12_actsOf_16 : decode cX12_actsOf 16 = .ok (.iload_n 3, 1) := by decide +kernel
theorem dX12_actsOf_17 : decode cX12_actsOf 17 = .ok (.invokestatic 278, 3) := by decide +kernel
theorem dX12_actsOf_20 : decode cX12_actsOf 20 = .ok (.ifCond .eq 16, 3) := by decide +kernel
theorem dX12_actsOf_23 : decode cX12_actsOf 23 = .ok (.iconst 1, 1) := by decide +kernel
theorem dX12_actsOf_24 : decode cX12_actsOf 24 = .ok (.aload_n 0, 1) := by decide +kernel
theorem dX12_actsOf_25 : decode cX12_actsOf 25 = .ok (.getfield 79, 3) := by decide +kernel
theorem dX12_actsOf_28 : decode cX12_actsOf 28 = .ok (.iconst 0, 1) := by decide +kernel
theorem dX12_actsOf_29 : decode cX12_actsOf 29 = .ok (.iload_n 3, 1) := by decide +kernel
theorem dX12_actsOf_30 : decode cX12_actsOf 30 = .ok (.iadd, 1) := by decide +kernel
theorem dX12_actsOf_31 : decode cX12_actsOf 31 = .ok (.iaload, 1) := by decide +kernel
theorem dX12_actsOf_32 : decode cX12_actsOf 32 = .ok (.ishl, 1) := by decide +kernel
theorem dX12_actsOf_33 : decode cX12_actsOf 33 = .ok (.goto 4, 3) := by decide +kernel
theorem dX12_actsOf_36 : decode cX12_actsOf 36 = .ok (.iconst 0, 1) := by decide +kernel
theorem dX12_actsOf_37 : decode cX12_actsOf 37 = .ok (.ior, 1) := by decide +kernel
theorem dX12_actsOf_38 : decode cX12_actsOf 38 = .ok (.istore_n 2, 1) := by decide +kernel
theorem dX12_actsOf_39 : decode cX12_actsOf 39 = .ok (.iinc 3 1, 3) := by decide +kernel
theorem dX12_actsOf_42 : decode cX12_actsOf 42 = .ok (.goto (-38), 3) := by decide +kernel
theorem dX12_actsOf_45 : decode cX12_actsOf 45 = .ok (.iload_n 2, 1) := by decide +kernel
theorem dX12_actsOf_46 : decode cX12_actsOf 46 = .ok (.ireturn, 1) := by decide +kernel
theorem dX12_isRight_0 : decode cX12_isRight 0 = .ok (.aload_n 0, 1) := by decide +kernel
theorem dX12_isRight_1 : decode cX12_isRight 1 = .ok (.iload_n 1, 1) := by decide +kernel
theorem dX12_isRight_2 : decode cX12_isRight 2 = .ok (.invokevirtual 374, 3) := by decide +kernel
theorem dX12_isRight_5 : decode cX12_isRight 5 = .ok (.istore_n 2, 1) := by decide +kernel
theorem dX12_isRight_6 : decode cX12_isRight 6 = .ok (.iconst 0, 1) := by decide +kernel
theorem dX12_isRight_7 : decode cX12_isRight 7 = .ok (.istore_n 3, 1) := by decide +kernel
theorem dX12_isRight_8 : decode cX12_isRight 8 = .ok (.iload_n 3, 1) := by decide +kernel
theorem dX12_isRight_9 : decode cX12_isRight 9 = .ok (.aload_n 0, 1) := by decide +kernel
theorem dX12_isRight_10 : decode cX12_isRight 10 = .ok (.getfield 216, 3) := by decide +kernel
theorem dX12_isRight_13 : decode cX12_isRight 13 = .ok (.if_icmp .ge 43, 3) := by decide +kernel
theorem dX12_isRight_16 : decode cX12_isRight 16 = .ok (.iload_n 2, 1) := by decide +kernel
theorem dX12_isRight_17 : decode cX12_isRight 17 = .ok (.aload_n 0, 1) := by decide +kernel
theorem dX12_isRight_18 : decode cX12_isRight 18 = .ok (.getfield 64, 3) := by decide +kernel
theorem dX12_isRight_21 : decode cX12_isRight 21 = .ok (.iload_n 3, 1) := by decide +kernel
theorem dX12_isRight_22 : decode cX12_isRight 22 = .ok (.aaload, 1) := by decide +kernel
theorem dX12_isRight_23 : decode cX12_isRight 23 = .ok (.iconst 0, 1) := by decide +kernel
theorem dX12_isRight_24 : decode cX12_isRight 24 = .ok (.iaload, 1) := by decide +kernel
theorem dX12_isRight_25 : decode cX12_isRight 25 = .ok (.invokestatic 278, 3) := by decide +kernel
theorem dX12_isRight_28 : decode cX12_isRight 28 = .ok (.aload_n 0, 1) := by decide +kernel
theorem dX12_isRight_29 : decode cX12_isRight 29 = .ok (.getfield 64, 3) := by decide +kernel
theorem dX12_isRight_32 : decode cX12_isRight 32 = .ok (.iload_n 3, 1) := by decide +kernel
theorem dX12_isRight_33 : decode cX12_isRight 33 = .ok (.aaload, 1) := by decide +kernel
theorem dX12_isRight_34 : decode cX12_isRight 34 = .ok (.iconst 1, 1) := by decide +kernel
theorem dX12_isRight_35 : decode cX12_isRight 35 = .ok (.iaload, 1) := by decide +kernel
theorem dX12_isRight_36 : decode cX12_isRight 36 = .ok (.iconst 1, 1) := by decide +kernel
theorem dX12_isRight_37 : decode cX12_isRight 37 = .ok (.if_icmp .ne 7, 3) := by decide +kernel
theorem dX12_isRight_40 : decode cX12_isRight 40 = .ok (.iconst 1, 1) := by decide +kernel
theorem dX12_isRight_41 : decode cX12_isRight 41 = .ok (.goto 4, 3) := by decide +kernel
theorem dX12_isRight_44 : decode cX12_isRight 44 = .ok (.iconst 0, 1) := by decide +kernel
theorem dX12_isRight_45 : decode cX12_isRight 45 = .ok (.if_icmp .eq 5, 3) := by decide +kernel
theorem dX12_isRight_48 : decode cX12_isRight 48 = .ok (.iconst 0, 1) := by decide +kernel
theorem dX12_isRight_49 : decode cX12_isRight 49 = .ok (.ireturn, 1) := by decide +kernel
theorem dX12_isRight_50 : decode cX12_isRight 50 = .ok (.iinc 3 1, 3) := by decide +kernel
theorem dX12_isRight_53 : decode cX12_isRight 53 = .ok (.goto (-45), 3) := by decide +kernel
theorem dX12_isRight_56 : decode cX12_isRight 56 = .ok (.iconst 1, 1) := by decide +kernel
theorem dX12_isRight_57 : decode cX12_isRight 57 = .ok (.ireturn, 1) := by decide +kernel
theorem dX12_stood_0 : decode cX12_stood 0 = .ok (.aload_n 0, 1) := by decide +kernel
theorem dX12_stood_1 : decode cX12_stood 1 = .ok (.iconst 0, 1) := by decide +kernel
theorem dX12_stood_2 : decode cX12_stood 2 = .ok (.putfield 116, 3) := by decide +kernel
theorem dX12_stood_5 : decode cX12_stood 5 = .ok (.aload_n 0, 1) := by decide +kernel
theorem dX12_stood_6 : decode cX12_stood 6 = .ok (.iload_n 1, 1) := by decide +kernel
theorem dX12_stood_7 : decode cX12_stood 7 = .ok (.iconst 0, 1) := by decide +kernel
theorem dX12_stood_8 : decode cX12_stood 8 = .ok (.iconst 2, 1) := by decide +kernel
theorem dX12_stood_9 : decode cX12_stood 9 = .ok (.invokestatic 150, 3) := by decide +kernel
theorem dX12_stood_12 : decode cX12_stood 12 = .ok (.ifCond .ne 7, 3) := by decide +kernel
theorem dX12_stood_15 : decode cX12_stood 15 = .ok (.iconst 1, 1) := by decide +kernel
theorem dX12_stood_16 : decode cX12_stood 16 = .ok (.goto 4, 3) := by decide +kernel
theorem dX12_stood_19 : decode cX12_stood 19 = .ok (.iconst 0, 1) := by decide +kernel
theorem dX12_stood_20 : decode cX12_stood 20 = .ok (.iconst 1, 1) := by decide +kernel
theorem dX12_stood_21 : decode cX12_stood 21 = .ok (.iconst 1, 1) := by decide +kernel
theorem dX12_stood_22 : decode cX12_stood 22 = .ok (.invokevirtual 192, 3) := by decide +kernel
theorem dX12_stood_25 : decode cX12_stood 25 = .ok (.ifCond .eq 5, 3) := by decide +kernel
theorem dX12_stood_28 : decode cX12_stood 28 = .ok (.iconst 0, 1) := by decide +kernel
theorem dX12_stood_29 : decode cX12_stood 29 = .ok (.ireturn, 1) := by decide +kernel
theorem dX12_stood_30 : decode cX12_stood 30 = .ok (.iconst 0, 1) := by decide +kernel
theorem dX12_stood_31 : decode cX12_stood 31 = .ok (.istore_n 2, 1) := by decide +kernel
theorem dX12_stood_32 : decode cX12_stood 32 = .ok (.iconst (-1), 1) := by decide +kernel
theorem dX12_stood_33 : decode cX12_stood 33 = .ok (.istore_n 3, 1) := by decide +kernel
theorem dX12_stood_34 : decode cX12_stood 34 = .ok (.iconst 1, 1) := by decide +kernel
theorem dX12_stood_35 : decode cX12_stood 35 = .ok (.aload_n 0, 1) := by decide +kernel
theorem dX12_stood_36 : decode cX12_stood 36 = .ok (.getfield 23, 3) := by decide +kernel
theorem dX12_stood_39 : decode cX12_stood 39 = .ok (.iconst 1, 1) := by decide +kernel
theorem dX12_stood_40 : decode cX12_stood 40 = .ok (.iaload, 1) := by decide +kernel
theorem dX12_stood_41 : decode cX12_stood 41 = .ok (.ishl, 1) := by decide +kernel
theorem dX12_stood_42 : decode cX12_stood 42 = .ok (.iconst 1, 1) := by decide +kernel
theorem dX12_stood_43 : decode cX12_stood 43 = .ok (.isub, 1) := by decide +kernel
theorem dX12_stood_44 : decode cX12_stood 44 = .ok (.istore 4, 2) := by decide +kernel
theorem dX12_stood_46 : decode cX12_stood 46 = .ok (.iconst 0, 1) := by decide +kernel
theorem dX12_stood_47 : decode cX12_stood 47 = .ok (.istore 5, 2) := by decide +kernel
theorem dX12_stood_49 : decode cX12_stood 49 = .ok (.iload 5, 2) := by decide +kernel
theorem dX12_stood_51 : decode cX12_stood 51 = .ok (.iconst 1, 1) := by decide +kernel
theorem dX12_stood_52 : decode cX12_stood 52 = .ok (.aload_n 0, 1) := by decide +kernel
theorem dX12_stood_53 : decode cX12_stood 53 = .ok (.getfield 23, 3) := by decide +kernel
theorem dX12_stood_56 : decode cX12_stood 56 = .ok (.iconst 1, 1) := by decide +kernel
theorem dX12_stood_57 : decode cX12_stood 57 = .ok (.iaload, 1) := by decide +kernel
theorem dX12_stood_58 : decode cX12_stood 58 = .ok (.ishl, 1) := by decide +kernel
theorem dX12_stood_59 : decode cX12_stood 59 = .ok (.if_icmp .ge 42, 3) := by decide +kernel
theorem dX12_stood_62 : decode cX12_stood 62 = .ok (.aload_n 0, 1) := by decide +kernel
theorem dX12_stood_63 : decode cX12_stood 63 = .ok (.iload 5, 2) := by decide +kernel
theorem dX12_stood_65 : decode cX12_stood 65 = .ok (.invokevirtual 377, 3) := by decide +kernel
theorem dX12_stood_68 : decode cX12_stood 68 = .ok (.ifCond .ne 6, 3) := by decide +kernel
theorem dX12_stood_71 : decode cX12_stood 71 = .ok (.goto 24, 3) := by decide +kernel
theorem dX12_stood_74 : decode cX12_stood 74 = .ok (.iload_n 2, 1) := by decide +kernel
theorem dX12_stood_75 : decode cX12_stood 75 = .ok (.ifCond .ne 8, 3) := by decide +kernel
theorem dX12_stood_78 : decode cX12_stood 78 = .ok (.iload 5, 2) := by decide +kernel
theorem dX12_stood_80 : decode cX12_stood 80 = .ok (.goto 4, 3) := by decide +kernel
theorem dX12_stood_83 : decode cX12_stood 83 = .ok (.iload_n 3, 1) := by decide +kernel
theorem dX12_stood_84 : decode cX12_stood 84 = .ok (.istore_n 3, 1) := by decide +kernel
theorem dX12_stood_85 : decode cX12_stood 85 = .ok (.iload 4, 2) := by decide +kernel
theorem dX12_stood_87 : decode cX12_stood 87 = .ok (.iload 5, 2) := by decide +kernel
theorem dX12_stood_89 : decode cX12_stood 89 = .ok (.iand, 1) := by decide +kernel
theorem dX12_stood_90 : decode cX12_stood 90 = .ok (.istore 4, 2) := by decide +kernel
theorem dX12_stood_92 : decode cX12_stood 92 = .ok (.iinc 2 1, 3) := by decide +kernel
theorem dX12_stood_95 : decode cX12_stood 95 = .ok (.iinc 5 1, 3) := by decide +kernel
theorem dX12_stood_98 : decode cX12_stood 98 = .ok (.goto (-49), 3) := by decide +kernel
theorem dX12_stood_101 : decode cX12_stood 101 = .ok (.iload_n 1, 1) := by decide +kernel
theorem dX12_stood_102 : decode cX12_stood 102 = .ok (.ifCond .ne 7, 3) := by decide +kernel
theorem dX12_stood_105 : decode cX12_stood 105 = .ok (.iload_n 2, 1) := by decide +kernel
theorem dX12_stood_106 : decode cX12_stood 106 = .ok (.goto 22, 3) := by decide +kernel
theorem dX12_stood_109 : decode cX12_stood 109 = .ok (.iload_n 1, 1) := by decide +kernel
theorem dX12_stood_110 : decode cX12_stood 110 = .ok (.iconst 1, 1) := by decide +kernel
theorem dX12_stood_111 : decode cX12_stood 111 = .ok (.if_icmp .ne 7, 3) := by decide +kernel
theorem dX12_stood_114 : decode cX12_stood 114 = .ok (.iload_n 3, 1) := by decide +kernel
theorem dX12_stood_115 : decode cX12_stood 115 = .ok (.goto 13, 3) := by decide +kernel
theorem dX12_stood_118 : decode cX12_stood 118 = .ok (.iload_n 2, 1) := by decide +kernel
theorem dX12_stood_119 : decode cX12_stood 119 = .ok (.ifCond .ne 7, 3) := by decide +kernel
theorem dX12_stood_122 : decode cX12_stood 122 = .ok (.iconst 0, 1) := by decide +kernel
theorem dX12_stood_123 : decode cX12_stood 123 = .ok (.goto 5, 3) := by decide +kernel
theorem dX12_stood_126 : decode cX12_stood 126 = .ok (.iload 4, 2) := by decide +kernel
theorem dX12_stood_128 : decode cX12_stood 128 = .ok (.ireturn, 1) := by decide +kernel
theorem dX12_isTold_0 : decode cX12_isTold 0 = .ok (.iconst 0, 1) := by decide +kernel
theorem dX12_isTold_1 : decode cX12_isTold 1 = .ok (.istore_n 2, 1) := by decide +kernel
theorem dX12_isTold_2 : decode cX12_isTold 2 = .ok (.iload_n 2, 1) := by decide +kernel
theorem dX12_isTold_3 : decode cX12_isTold 3 = .ok (.aload_n 0, 1) := by decide +kernel
theorem dX12_isTold_4 : decode cX12_isTold 4 = .ok (.getfield 216, 3) := by decide +kernel
theorem dX12_isTold_7 : decode cX12_isTold 7 = .ok (.if_icmp .ge 23, 3) := by decide +kernel
theorem dX12_isTold_10 : decode cX12_isTold 10 = .ok (.aload_n 0, 1) := by decide +kernel
theorem dX12_isTold_11 : decode cX12_isTold 11 = .ok (.getfield 64, 3) := by decide +kernel
theorem dX12_isTold_14 : decode cX12_isTold 14 = .ok (.iload_n 2, 1) := by decide +kernel
theorem dX12_isTold_15 : decode cX12_isTold 15 = .ok (.aaload, 1) := by decide +kernel
theorem dX12_isTold_16 : decode cX12_isTold 16 = .ok (.iconst 0, 1) := by decide +kernel
theorem dX12_isTold_17 : decode cX12_isTold 17 = .ok (.iaload, 1) := by decide +kernel
theorem dX12_isTold_18 : decode cX12_isTold 18 = .ok (.iload_n 1, 1) := by decide +kernel
theorem dX12_isTold_19 : decode cX12_isTold 19 = .ok (.if_icmp .ne 5, 3) := by decide +kernel
theorem dX12_isTold_22 : decode cX12_isTold 22 = .ok (.iconst 1, 1) := by decide +kernel
theorem dX12_isTold_23 : decode cX12_isTold 23 = .ok (.ireturn, 1) := by decide +kernel
theorem dX12_isTold_24 : decode cX12_isTold 24 = .ok (.iinc 2 1, 3) := by decide +kernel
theorem dX12_isTold_27 : decode cX12_isTold 27 = .ok (.goto (-25), 3) := by decide +kernel
theorem dX12_isTold_30 : decode cX12_isTold 30 = .ok (.iconst 0, 1) := by decide +kernel
theorem dX12_isTold_31 : decode cX12_isTold 31 = .ok (.ireturn, 1) := by decide +kernel
theorem dX12_ask_0 : decode cX12_ask 0 = .ok (.aload_n 0, 1) := by decide +kernel
theorem dX12_ask_1 : decode cX12_ask 1 = .ok (.iconst 0, 1) := by decide +kernel
theorem dX12_ask_2 : decode cX12_ask 2 = .ok (.putfield 116, 3) := by decide +kernel
theorem dX12_ask_5 : decode cX12_ask 5 = .ok (.aload_n 0, 1) := by decide +kernel
theorem dX12_ask_6 : decode cX12_ask 6 = .ok (.iload_n 1, 1) := by decide +kernel
theorem dX12_ask_7 : decode cX12_ask 7 = .ok (.iconst 0, 1) := by decide +kernel
theorem dX12_ask_8 : decode cX12_ask 8 = .ok (.iconst 1, 1) := by decide +kernel
theorem dX12_ask_9 : decode cX12_ask 9 = .ok (.invokestatic 150, 3) := by decide +kernel
theorem dX12_ask_12 : decode cX12_ask 12 = .ok (.ifCond .ne 7, 3) := by decide +kernel
theorem dX12_ask_15 : decode cX12_ask 15 = .ok (.iconst 1, 1) := by decide +kernel
theorem dX12_ask_16 : decode cX12_ask 16 = .ok (.goto 4, 3) := by decide +kernel
theorem dX12_ask_19 : decode cX12_ask 19 = .ok (.iconst 0, 1) := by decide +kernel
theorem dX12_ask_20 : decode cX12_ask 20 = .ok (.iconst 1, 1) := by decide +kernel
theorem dX12_ask_21 : decode cX12_ask 21 = .ok (.iconst 1, 1) := by decide +kernel
theorem dX12_ask_22 : decode cX12_ask 22 = .ok (.invokevirtual 192, 3) := by decide +kernel
theorem dX12_ask_25 : decode cX12_ask 25 = .ok (.ifCond .eq 5, 3) := by decide +kernel
theorem dX12_ask_28 : decode cX12_ask 28 = .ok (.iconst 0, 1) := by decide +kernel
theorem dX12_ask_29 : decode cX12_ask 29 = .ok (.ireturn, 1) := by decide +kernel
theorem dX12_ask_30 : decode cX12_ask 30 = .ok (.iconst (-1), 1) := by decide +kernel
theorem dX12_ask_31 : decode cX12_ask 31 = .ok (.istore_n 2, 1) := by decide +kernel
theorem dX12_ask_32 : decode cX12_ask 32 = .ok (.iconst (-1), 1) := by decide +kernel
theorem dX12_ask_33 : decode cX12_ask 33 = .ok (.istore_n 3, 1) := by decide +kernel
theorem dX12_ask_34 : decode cX12_ask 34 = .ok (.iconst 0, 1) := by decide +kernel
theorem dX12_ask_35 : decode cX12_ask 35 = .ok (.istore 4, 2) := by decide +kernel
theorem dX12_ask_37 : decode cX12_ask 37 = .ok (.iload 4, 2) := by decide +kernel
theorem dX12_ask_39 : decode cX12_ask 39 = .ok (.bipush 10, 2) := by decide +kernel
theorem dX12_ask_41 : decode cX12_ask 41 = .ok (.if_icmp .ge 113, 3) := by decide +kernel
theorem dX12_ask_44 : decode cX12_ask 44 = .ok (.aload_n 0, 1) := by decide +kernel
theorem dX12_ask_45 : decode cX12_ask 45 = .ok (.iload 4, 2) := by decide +kernel
theorem dX12_ask_47 : decode cX12_ask 47 = .ok (.invokevirtual 380, 3) := by decide +kernel
theorem dX12_ask_50 : decode cX12_ask 50 = .ok (.ifCond .eq 6, 3) := by decide +kernel
theorem dX12_ask_53 : decode cX12_ask 53 = .ok (.goto 95, 3) := by decide +kernel
theorem dX12_ask_56 : decode cX12_ask 56 = .ok (.iconst 0, 1) := by decide +kernel
theorem dX12_ask_57 : decode cX12_ask 57 = .ok (.istore 5, 2) := by decide +kernel
theorem dX12_ask_59 : decode cX12_ask 59 = .ok (.iconst 0, 1) := by decide +kernel
theorem dX12_ask_60 : decode cX12_ask 60 = .ok (.istore 6, 2) := by decide +kernel
theorem dX12_ask_62 : decode cX12_ask 62 = .ok (.iconst 0, 1) := by decide +kernel
theorem dX12_ask_63 : decode cX12_ask 63 = .ok (.istore 7, 2) := by decide +kernel
theorem dX12_ask_65 : decode cX12_ask 65 = .ok (.iload 7, 2) := by decide +kernel
theorem dX12_ask_67 : decode cX12_ask 67 = .ok (.iconst 1, 1) := by decide +kernel
theorem dX12_ask_68 : decode cX12_ask 68 = .ok (.aload_n 0, 1) := by decide +kernel
theorem dX12_ask_69 : decode cX12_ask 69 = .ok (.getfield 23, 3) := by decide +kernel
theorem dX12_ask_72 : decode cX12_ask 72 = .ok (.iconst 1, 1) := by decide +kernel
theorem dX12_ask_73 : decode cX12_ask 73 = .ok (.iaload, 1) := by decide +kernel
theorem dX12_ask_74 : decode cX12_ask 74 = .ok (.ishl, 1) := by decide +kernel
theorem dX12_ask_75 : decode cX12_ask 75 = .ok (.if_icmp .ge 44, 3) := by decide +kernel
theorem dX12_ask_78 : decode cX12_ask 78 = .ok (.aload_n 0, 1) := by decide +kernel
theorem dX12_ask_79 : decode cX12_ask 79 = .ok (.iload 7, 2) := by decide +kernel
theorem dX12_ask_81 : decode cX12_ask 81 = .ok (.invokevirtual 377, 3) := by decide +kernel
theorem dX12_ask_84 : decode cX12_ask 84 = .ok (.ifCond .ne 6, 3) := by decide +kernel
theorem dX12_ask_87 : decode cX12_ask 87 = .ok (.goto 26, 3) := by decide +kernel
theorem dX12_ask_90 : decode cX12_ask 90 = .ok (.aload_n 0, 1) := by decide +kernel
theorem dX12_ask_91 : decode cX12_ask 91 = .ok (.iload 7, 2) := by decide +kernel
theorem dX12_ask_93 : decode cX12_ask 93 = .ok (.invokevirtual 374, 3) := by decide +kernel
theorem dX12_ask_96 : decode cX12_ask 96 = .ok (.iload 4, 2) := by decide +kernel
theorem dX12_ask_98 : decode cX12_ask 98 = .ok (.invokestatic 278, 3) := by decide +kernel
theorem dX12_ask_101 : decode cX12_ask 101 = .ok (.ifCond .eq 9, 3) := by decide +kernel
theorem dX12_ask_104 : decode cX12_ask 104 = .ok (.iinc 5 1, 3) := by decide +kernel
theorem dX12_ask_107 : decode cX12_ask 107 = .ok (.goto 6, 3) := by decide +kernel
theorem dX12_ask_110 : decode cX12_ask 110 = .ok (.iinc 6 1, 3) := by decide +kernel
theorem dX12_ask_113 : decode cX12_ask 113 = .ok (.iinc 7 1, 3) := by decide +kernel
theorem dX12_ask_116 : decode cX12_ask 116 = .ok (.goto (-51), 3) := by decide +kernel
theorem dX12_ask_119 : decode cX12_ask 119 = .ok (.iload 5, 2) := by decide +kernel
theorem dX12_ask_121 : decode cX12_ask 121 = .ok (.iload 6, 2) := by decide +kernel
theorem dX12_ask_123 : decode cX12_ask 123 = .ok (.invokestatic 262, 3) := by decide +kernel
theorem dX12_ask_126 : decode cX12_ask 126 = .ok (.istore 7, 2) := by decide +kernel
theorem dX12_ask_128 : decode cX12_ask 128 = .ok (.iload_n 2, 1) := by decide +kernel
theorem dX12_ask_129 : decode cX12_ask 129 = .ok (.iconst (-1), 1) := by decide +kernel
theorem dX12_ask_130 : decode cX12_ask 130 = .ok (.if_icmp .eq 12, 3) := by decide +kernel
theorem dX12_ask_133 : decode cX12_ask 133 = .ok (.iload 7, 2) := by decide +kernel
theorem dX12_ask_135 : decode cX12_ask 135 = .ok (.iload_n 3, 1) := by decide +kernel
theorem dX12_ask_136 : decode cX12_ask 136 = .ok (.if_icmp .lt 6, 3) := by decide +kernel
theorem dX12_ask_139 : decode cX12_ask 139 = .ok (.goto 9, 3) := by decide +kernel
theorem dX12_ask_142 : decode cX12_ask 142 = .ok (.iload 4, 2) := by decide +kernel
theorem dX12_ask_144 : decode cX12_ask 144 = .ok (.istore_n 2, 1) := by decide +kernel
theorem dX12_ask_145 : decode cX12_ask 145 = .ok (.iload 7, 2) := by decide +kernel
theorem dX12_ask_147 : decode cX12_ask 147 = .ok (.istore_n 3, 1) := by decide +kernel
theorem dX12_ask_148 : decode cX12_ask 148 = .ok (.iinc 4 1, 3) := by decide +kernel
theorem dX12_ask_151 : decode cX12_ask 151 = .ok (.goto (-114), 3) := by decide +kernel
theorem dX12_ask_154 : decode cX12_ask 154 = .ok (.iload_n 1, 1) := by decide +kernel
theorem dX12_ask_155 : decode cX12_ask 155 = .ok (.ifCond .ne 7, 3) := by decide +kernel
theorem dX12_ask_158 : decode cX12_ask 158 = .ok (.iload_n 2, 1) := by decide +kernel
theorem dX12_ask_159 : decode cX12_ask 159 = .ok (.goto 4, 3) := by decide +kernel
theorem dX12_ask_162 : decode cX12_ask 162 = .ok (.iload_n 3, 1) := by decide +kernel
theorem dX12_ask_163 : decode cX12_ask 163 = .ok (.ireturn, 1) := by decide +kernel
theorem dX12_still_0 : decode cX12_still 0 = .ok (.aload_n 0, 1) := by decide +kernel
theorem dX12_still_1 : decode cX12_still 1 = .ok (.iconst 0, 1) := by decide +kernel
theorem dX12_still_2 : decode cX12_still 2 = .ok (.putfield 116, 3) := by decide +kernel
theorem dX12_still_5 : decode cX12_still 5 = .ok (.aload_n 0, 1) := by decide +kernel
theorem dX12_still_6 : decode cX12_still 6 = .ok (.aload_n 0, 1) := by decide +kernel
theorem dX12_still_7 : decode cX12_still 7 = .ok (.iload_n 1, 1) := by decide +kernel
theorem dX12_still_8 : decode cX12_still 8 = .ok (.invokevirtual 346, 3) := by decide +kernel
theorem dX12_still_11 : decode cX12_still 11 = .ok (.ifCond .ne 7, 3) := by decide +kernel
theorem dX12_still_14 : decode cX12_still 14 = .ok (.iconst 1, 1) := by decide +kernel
theorem dX12_still_15 : decode cX12_still 15 = .ok (.goto 4, 3) := by decide +kernel
theorem dX12_still_18 : decode cX12_still 18 = .ok (.iconst 0, 1) := by decide +kernel
theorem dX12_still_19 : decode cX12_still 19 = .ok (.iconst 1, 1) := by decide +kernel
theorem dX12_still_20 : decode cX12_still 20 = .ok (.iconst 0, 1) := by decide +kernel
theorem dX12_still_21 : decode cX12_still 21 = .ok (.invokevirtual 192, 3) := by decide +kernel
theorem dX12_still_24 : decode cX12_still 24 = .ok (.ifCond .ne 55, 3) := by decide +kernel
theorem dX12_still_27 : decode cX12_still 27 = .ok (.aload_n 0, 1) := by decide +kernel
theorem dX12_still_28 : decode cX12_still 28 = .ok (.iload_n 2, 1) := by decide +kernel
theorem dX12_still_29 : decode cX12_still 29 = .ok (.iconst 0, 1) := by decide +kernel
theorem dX12_still_30 : decode cX12_still 30 = .ok (.bipush 16, 2) := by decide +kernel
theorem dX12_still_32 : decode cX12_still 32 = .ok (.invokestatic 150, 3) := by decide +kernel
theorem dX12_still_35 : decode cX12_still 35 = .ok (.ifCond .eq 31, 3) := by decide +kernel
theorem dX12_still_38 : decode cX12_still 38 = .ok (.iload_n 3, 1) := by decide +kernel
theorem dX12_still_39 : decode cX12_still 39 = .ok (.iconst 0, 1) := by decide +kernel
theorem dX12_still_40 : decode cX12_still 40 = .ok (.bipush 12, 2) := by decide +kernel
theorem dX12_still_42 : decode cX12_still 42 = .ok (.invokestatic 150, 3) := by decide +kernel
theorem dX12_still_45 : decode cX12_still 45 = .ok (.ifCond .eq 21, 3) := by decide +kernel
theorem dX12_still_48 : decode cX12_still 48 = .ok (.iload 4, 2) := by decide +kernel
theorem dX12_still_50 : decode cX12_still 50 = .ok (.invokestatic 352, 3) := by decide +kernel
theorem dX12_still_53 : decode cX12_still 53 = .ok (.ifCond .eq 13, 3) := by decide +kernel
theorem dX12_still_56 : decode cX12_still 56 = .ok (.iload 5, 2) := by decide +kernel
theorem dX12_still_58 : decode cX12_still 58 = .ok (.iconst 0, 1) := by decide +kernel
theorem dX12_still_59 : decode cX12_still 59 = .ok (.iconst 1, 1) := by decide +kernel
theorem dX12_still_60 : decode cX12_still 60 = .ok (.invokestatic 150, 3) := by decide +kernel
theorem dX12_still_63 : decode cX12_still 63 = .ok (.ifCond .ne 7, 3) := by decide +kernel
theorem dX12_still_66 : decode cX12_still 66 = .ok (.iconst 1, 1) := by decide +kernel
theorem dX12_still_67 : decode cX12_still 67 = .ok (.goto 4, 3) := by decide +kernel
theorem dX12_still_70 : decode cX12_still 70 = .ok (.iconst 0, 1) := by decide +kernel
theorem dX12_still_71 : decode cX12_still 71 = .ok (.iconst 2, 1) := by decide +kernel
theorem dX12_still_72 : decode cX12_still 72 = .ok (.iconst 1, 1) := by decide +kernel
theorem dX12_still_73 : decode cX12_still 73 = .ok (.invokevirtual 192, 3) := by decide +kernel
theorem dX12_still_76 : decode cX12_still 76 = .ok (.ifCond .eq 5, 3) := by decide +kernel
theorem dX12_still_79 : decode cX12_still 79 = .ok (.lconst 0, 1) := by decide +kernel
theorem dX12_still_80 : decode cX12_still 80 = .ok (.lreturn, 1) := by decide +kernel
theorem dX12_still_81 : decode cX12_still 81 = .ok (.iconst 0, 1) := by decide +kernel
theorem dX12_still_82 : decode cX12_still 82 = .ok (.istore 6, 2) := by decide +kernel
theorem dX12_still_84 : decode cX12_still 84 = .ok (.iload 6, 2) := by decide +kernel
theorem dX12_still_86 : decode cX12_still 86 = .ok (.bipush 10, 2) := by decide +kernel
theorem dX12_still_88 : decode cX12_still 88 = .ok (.if_icmp .ge 34, 3) := by decide +kernel
theorem dX12_still_91 : decode cX12_still 91 = .ok (.aload_n 0, 1) := by decide +kernel
theorem dX12_still_92 : decode cX12_still 92 = .ok (.getfield 103, 3) := by decide +kernel
theorem dX12_still_95 : decode cX12_still 95 = .ok (.iload 6, 2) := by decide +kernel
theorem dX12_still_97 : decode cX12_still 97 = .ok (.iload 6, 2) := by decide +kernel
theorem dX12_still_99 : decode cX12_still 99 = .ok (.aload_n 0, 1) := by decide +kernel
theorem dX12_still_100 : decode cX12_still 100 = .ok (.getfield 79, 3) := by decide +kernel
theorem dX12_still_103 : decode cX12_still 103 = .ok (.iconst 0, 1) := by decide +kernel
theorem dX12_still_104 : decode cX12_still 104 = .ok (.iload_n 1, 1) := by decide +kernel
theorem dX12_still_105 : decode cX12_still 105 = .ok (.iadd, 1) := by decide +kernel
theorem dX12_still_106 : decode cX12_still 106 = .ok (.iaload, 1) := by decide +kernel
theorem dX12_still_107 : decode cX12_still 107 = .ok (.if_icmp .ne 7, 3) := by decide +kernel
theorem dX12_still_110 : decode cX12_still 110 = .ok (.lconst 1, 1) := by decide +kernel
theorem dX12_still_111 : decode cX12_still 111 = .ok (.goto 4, 3) := by decide +kernel
theorem dX12_still_114 : decode cX12_still 114 = .ok (.lconst 0, 1) := by decide +kernel
theorem dX12_still_115 : decode cX12_still 115 = .ok (.lastore, 1) := by decide +kernel
theorem dX12_still_116 : decode cX12_still 116 = .ok (.iinc 6 1, 3) := by decide +kernel
theorem dX12_still_119 : decode cX12_still 119 = .ok (.goto (-35), 3) := by decide +kernel
theorem dX12_still_122 : decode cX12_still 122 = .ok (.iconst 0, 1) := by decide +kernel
theorem dX12_still_123 : decode cX12_still 123 = .ok (.istore 6, 2) := by decide +kernel
theorem dX12_still_125 : decode cX12_still 125 = .ok (.iload 6, 2) := by decide +kernel
theorem dX12_still_127 : decode cX12_still 127 = .ok (.iload_n 3, 1) := by decide +kernel
theorem dX12_still_128 : decode cX12_still 128 = .ok (.if_icmp .ge 154, 3) := by decide +kernel
theorem dX12_still_131 : decode cX12_still 131 = .ok (.iconst 0, 1) := by decide +kernel
theorem dX12_still_132 : decode cX12_still 132 = .ok (.istore 7, 2) := by decide +kernel
theorem dX12_still_134 : decode cX12_still 134 = .ok (.iload 7, 2) := by decide +kernel
theorem dX12_still_136 : decode cX12_still 136 = .ok (.bipush 10, 2) := by decide +kernel
theorem dX12_still_138 : decode cX12_still 138 = .ok (.if_icmp .ge 17, 3) := by decide +kernel
theorem dX12_still_141 : decode cX12_still 141 = .ok (.aload_n 0, 1) := by decide +kernel
theorem dX12_still_142 : decode cX12_still 142 = .ok (.getfield 107, 3) := by decide +kernel
theorem dX12_still_145 : decode cX12_still 145 = .ok (.iload 7, 2) := by decide +kernel
theorem dX12_still_147 : decode cX12_still 147 = .ok (.lconst 0, 1) := by decide +kernel
theorem dX12_still_148 : decode cX12_still 148 = .ok (.lastore, 1) := by decide +kernel
theorem dX12_still_149 : decode cX12_still 149 = .ok (.iinc 7 1, 3) := by decide +kernel
theorem dX12_still_152 : decode cX12_still 152 = .ok (.goto (-18), 3) := by decide +kernel
theorem dX12_still_155 : decode cX12_still 155 = .ok (.iconst 0, 1) := by decide +kernel
theorem dX12_still_156 : decode cX12_still 156 = .ok (.istore 7, 2) := by decide +kernel
theorem dX12_still_158 : decode cX12_still 158 = .ok (.iload 7, 2) := by decide +kernel
theorem dX12_still_160 : decode cX12_still 160 = .ok (.bipush 10, 2) := by decide +kernel
theorem dX12_still_162 : decode cX12_still 162 = .ok (.if_icmp .ge 84, 3) := by decide +kernel
theorem dX12_still_165 : decode cX12_still 165 = .ok (.aload_n 0, 1) := by decide +kernel
theorem dX12_still_166 : decode cX12_still 166 = .ok (.getfield 107, 3) := by decide +kernel
theorem dX12_still_169 : decode cX12_still 169 = .ok (.iload 7, 2) := by decide +kernel
theorem dX12_still_171 : decode cX12_still 171 = .ok (.dup2, 1) := by decide +kernel
theorem dX12_still_172 : decode cX12_still 172 = .ok (.laload, 1) := by decide +kernel
theorem dX12_still_173 : decode cX12_still 173 = .ok (.aload_n 0, 1) := by decide +kernel
theorem dX12_still_174 : decode cX12_still 174 = .ok (.getfield 103, 3) := by decide +kernel
theorem dX12_still_177 : decode cX12_still 177 = .ok (.iload 7, 2) := by decide +kernel
theorem dX12_still_179 : decode cX12_still 179 = .ok (.laload, 1) := by decide +kernel
theorem dX12_still_180 : decode cX12_still 180 = .ok (.aload_n 0, 1) := by decide +kernel
theorem dX12_still_181 : decode cX12_still 181 = .ok (.getfield 35, 3) := by decide +kernel
theorem dX12_still_184 : decode cX12_still 184 = .ok (.iload 7, 2) := by decide +kernel
theorem dX12_still_186 : decode cX12_still 186 = .ok (.iaload, 1) := by decide +kernel
theorem dX12_still_187 : decode cX12_still 187 = .ok (.iconst (-1), 1) := by decide +kernel
theorem dX12_still_188 : decode cX12_still 188 = .ok (.if_icmp .ne 8, 3) := by decide +kernel
theorem dX12_still_191 : decode cX12_still 191 = .ok (.bipush 16, 2) := by decide +kernel
theorem dX12_still_193 : decode cX12_still 193 = .ok (.goto 7, 3) := by decide +kernel
theorem dX12_still_196 : decode cX12_still 196 = .ok (.bipush 16, 2) := by decide +kernel
theorem dX12_still_198 : decode cX12_still 198 = .ok (.iload_n 2, 1) := by decide +kernel
theorem dX12_still_199 : decode cX12_still 199 = .ok (.isub, 1) := by decide +kernel
theorem dX12_still_200 : decode cX12_still 200 = .ok (.i2l, 1) := by decide +kernel
theorem dX12_still_201 : decode cX12_still 201 = .ok (.lmul, 1) := by decide +kernel
theorem dX12_still_202 : decode cX12_still 202 = .ok (.ladd, 1) := by decide +kernel
theorem dX12_still_203 : decode cX12_still 203 = .ok (.lastore, 1) := by decide +kernel
theorem dX12_still_204 : decode cX12_still 204 = .ok (.aload_n 0, 1) := by decide +kernel
theorem dX12_still_205 : decode cX12_still 205 = .ok (.getfield 35, 3) := by decide +kernel
theorem dX12_still_208 : decode cX12_still 208 = .ok (.iload 7, 2) := by decide +kernel
theorem dX12_still_210 : decode cX12_still 210 = .ok (.iaload, 1) := by decide +kernel
theorem dX12_still_211 : decode cX12_still 211 = .ok (.iconst (-1), 1) := by decide +kernel
theorem dX12_still_212 : decode cX12_still 212 = .ok (.if_icmp .eq 28, 3) := by decide +kernel
theorem dX12_still_215 : decode cX12_still 215 = .ok (.aload_n 0, 1) := by decide +kernel
theorem dX12_still_216 : decode cX12_still 216 = .ok (.getfield 107, 3) := by decide +kernel
theorem dX12_still_219 : decode cX12_still 219 = .ok (.aload_n 0, 1) := by decide +kernel
theorem dX12_still_220 : decode cX12_still 220 = .ok (.getfield 35, 3) := by decide +kernel
theorem dX12_still_223 : decode cX12_still 223 = .ok (.iload 7, 2) := by decide +kernel
theorem dX12_still_225 : decode cX12_still 225 = .ok (.iaload, 1) := by decide +kernel
theorem dX12_still_226 : decode cX12_still 226 = .ok (.dup2, 1) := by decide +kernel
theorem dX12_still_227 : decode cX12_still 227 = .ok (.laload, 1) := by decide +kernel
theorem dX12_still_228 : decode cX12_still 228 = .ok (.aload_n 0, 1) := by decide +kernel
theorem dX12_still_229 : decode cX12_still 229 = .ok (.getfield 103, 3) := by decide +kernel
theorem dX12_still_232 : decode cX12_still 232 = .ok (.iload 7, 2) := by decide +kernel
theorem dX12_still_234 : decode cX12_still 234 = .ok (.laload, 1) := by decide +kernel
theorem dX12_still_235 : decode cX12_still 235 = .ok (.iload_n 2, 1) := by decide +kernel
theorem dX12_still_236 : decode cX12_still 236 = .ok (.i2l, 1) := by decide +kernel
theorem dX12_still_237 : decode cX12_still 237 = .ok (.lmul, 1) := by decide +kernel
theorem dX12_still_238 : decode cX12_still 238 = .ok (.ladd, 1) := by decide +kernel
theorem dX12_still_239 : decode cX12_still 239 = .ok (.lastore, 1) := by decide +kernel
theorem dX12_still_240 : decode cX12_still 240 = .ok (.iinc 7 1, 3) := by decide +kernel
theorem dX12_still_243 : decode cX12_still 243 = .ok (.goto (-85), 3) := by decide +kernel
theorem dX12_still_246 : decode cX12_still 246 = .ok (.iconst 0, 1) := by decide +kernel
theorem dX12_still_247 : decode cX12_still 247 = .ok (.istore 7, 2) := by decide +kernel
theorem dX12_still_249 : decode cX12_still 249 = .ok (.iload 7, 2) := by decide +kernel
theorem dX12_still_251 : decode cX12_still 251 = .ok (.bipush 10, 2) := by decide +kernel
theorem dX12_still_253 : decode cX12_still 253 = .ok (.if_icmp .ge 23, 3) := by decide +kernel
theorem dX12_still_256 : decode cX12_still 256 = .ok (.aload_n 0, 1) := by decide +kernel
theorem dX12_still_257 : decode cX12_still 257 = .ok (.getfield 103, 3) := by decide +kernel
theorem dX12_still_260 : decode cX12_still 260 = .ok (.iload 7, 2) := by decide +kernel
theorem dX12_still_262 : decode cX12_still 262 = .ok (.aload_n 0, 1) := by decide +kernel
theorem dX12_still_263 : decode cX12_still 263 = .ok (.getfield 107, 3) := by decide +kernel
theorem dX12_still_266 : decode cX12_still 266 = .ok (.iload 7, 2) := by decide +kernel
theorem dX12_still_268 : decode cX12_still 268 = .ok (.laload, 1) := by decide +kernel
theorem dX12_still_269 : decode cX12_still 269 = .ok (.lastore, 1) := by decide +kernel
theorem dX12_still_270 : decode cX12_still 270 = .ok (.iinc 7 1, 3) := by decide +kernel
theorem dX12_still_273 : decode cX12_still 273 = .ok (.goto (-24), 3) := by decide +kernel
theorem dX12_still_276 : decode cX12_still 276 = .ok (.iinc 6 1, 3) := by decide +kernel
theorem dX12_still_279 : decode cX12_still 279 = .ok (.goto (-154), 3) := by decide +kernel
theorem dX12_still_282 : decode cX12_still 282 = .ok (.lconst 1, 1) := by decide +kernel
theorem dX12_still_283 : decode cX12_still 283 = .ok (.iconst 4, 1) := by decide +kernel
theorem dX12_still_284 : decode cX12_still 284 = .ok (.iload_n 3, 1) := by decide +kernel
theorem dX12_still_285 : decode cX12_still 285 = .ok (.imul, 1) := by decide +kernel
theorem dX12_still_286 : decode cX12_still 286 = .ok (.lshl, 1) := by decide +kernel
theorem dX12_still_287 : decode cX12_still 287 = .ok (.lstore 6, 2) := by decide +kernel
theorem dX12_still_289 : decode cX12_still 289 = .ok (.lload 6, 2) := by decide +kernel
theorem dX12_still_291 : decode cX12_still 291 = .ok (.lstore 8, 2) := by decide +kernel
theorem dX12_still_293 : decode cX12_still 293 = .ok (.aload_n 0, 1) := by decide +kernel
theorem dX12_still_294 : decode cX12_still 294 = .ok (.getfield 103, 3) := by decide +kernel
theorem dX12_still_297 : decode cX12_still 297 = .ok (.iload 4, 2) := by decide +kernel
theorem dX12_still_299 : decode cX12_still 299 = .ok (.laload, 1) := by decide +kernel
theorem dX12_still_300 : decode cX12_still 300 = .ok (.lstore 10, 2) := by decide +kernel
theorem dX12_still_302 : decode cX12_still 302 = .ok (.lload 10, 2) := by decide +kernel
theorem dX12_still_304 : decode cX12_still 304 = .ok (.lconst 0, 1) := by decide +kernel
theorem dX12_still_305 : decode cX12_still 305 = .ok (.lcmp, 1) := by decide +kernel
theorem dX12_still_306 : decode cX12_still 306 = .ok (.ifCond .eq 21, 3) := by decide +kernel
theorem dX12_still_309 : decode cX12_still 309 = .ok (.lload 8, 2) := by decide +kernel
theorem dX12_still_311 : decode cX12_still 311 = .ok (.lload 10, 2) := by decide +kernel
theorem dX12_still_313 : decode cX12_still 313 = .ok (.lrem, 1) := by decide +kernel
theorem dX12_still_314 : decode cX12_still 314 = .ok (.lstore 12, 2) := by decide +kernel
theorem dX12_still_316 : decode cX12_still 316 = .ok (.lload 10, 2) := by decide +kernel
theorem dX12_still_318 : decode cX12_still 318 = .ok (.lstore 8, 2) := by decide +kernel
theorem dX12_still_320 : decode cX12_still 320 = .ok (.lload 12, 2) := by decide +kernel
theorem dX12_still_322 : decode cX12_still 322 = .ok (.lstore 10, 2) := by decide +kernel
theorem dX12_still_324 : decode cX12_still 324 = .ok (.goto (-22), 3) := by decide +kernel
theorem dX12_still_327 : decode cX12_still 327 = .ok (.iload 5, 2) := by decide +kernel
theorem dX12_still_329 : decode cX12_still 329 = .ok (.ifCond .ne 16, 3) := by decide +kernel
theorem dX12_still_332 : decode cX12_still 332 = .ok (.aload_n 0, 1) := by decide +kernel
theorem dX12_still_333 : decode cX12_still 333 = .ok (.getfield 103, 3) := by decide +kernel
theorem dX12_still_336 : decode cX12_still 336 = .ok (.iload 4, 2) := by decide +kernel
theorem dX12_still_338 : decode cX12_still 338 = .ok (.laload, 1) := by decide +kernel
theorem dX12_still_339 : decode cX12_still 339 = .ok (.lload 8, 2) := by decide +kernel
theorem dX12_still_341 : decode cX12_still 341 = .ok (.ldiv, 1) := by decide +kernel
theorem dX12_still_342 : decode cX12_still 342 = .ok (.goto 8, 3) := by decide +kernel
theorem dX12_still_345 : decode cX12_still 345 = .ok (.lload 6, 2) := by decide +kernel
theorem dX12_still_347 : decode cX12_still 347 = .ok (.lload 8, 2) := by decide +kernel
theorem dX12_still_349 : decode cX12_still 349 = .ok (.ldiv, 1) := by decide +kernel
theorem dX12_still_350 : decode cX12_still 350 = .ok (.lreturn, 1) := by decide +kernel
theorem dX12_hasBy_0 : decode cX12_hasBy 0 = .ok (.iload_n 1, 1) := by decide +kernel
theorem dX12_hasBy_1 : decode cX12_hasBy 1 = .ok (.iload_n 2, 1) := by decide +kernel
theorem dX12_hasBy_2 : decode cX12_hasBy 2 = .ok (.if_icmp .ne 16, 3) := by decide +kernel
theorem dX12_hasBy_5 : decode cX12_hasBy 5 = .ok (.aload_n 0, 1) := by decide +kernel
theorem dX12_hasBy_6 : decode cX12_hasBy 6 = .ok (.getfield 29, 3) := by decide +kernel
theorem dX12_hasBy_9 : decode cX12_hasBy 9 = .ok (.iload_n 1, 1) := by decide +kernel
theorem dX12_hasBy_10 : decode cX12_hasBy 10 = .ok (.iaload, 1) := by decide +kernel
theorem dX12_hasBy_11 : decode cX12_hasBy 11 = .ok (.iconst 2, 1) := by decide +kernel
theorem dX12_hasBy_12 : decode cX12_hasBy 12 = .ok (.idiv, 1) := by decide +kernel
theorem dX12_hasBy_13 : decode cX12_hasBy 13 = .ok (.iload_n 3, 1) := by decide +kernel
theorem dX12_hasBy_14 : decode cX12_hasBy 14 = .ok (.isub, 1) := by decide +kernel
theorem dX12_hasBy_15 : decode cX12_hasBy 15 = .ok (.goto 26, 3) := by decide +kernel
theorem dX12_hasBy_18 : decode cX12_hasBy 18 = .ok (.iload_n 1, 1) := by decide +kernel
theorem dX12_hasBy_19 : decode cX12_hasBy 19 = .ok (.iload_n 2, 1) := by decide +kernel
theorem dX12_hasBy_20 : decode cX12_hasBy 20 = .ok (.if_icmp .le 15, 3) := by decide +kernel
theorem dX12_hasBy_23 : decode cX12_hasBy 23 = .ok (.aload_n 0, 1) := by decide +kernel
theorem dX12_hasBy_24 : decode cX12_hasBy 24 = .ok (.getfield 29, 3) := by decide +kernel
theorem dX12_hasBy_27 : decode cX12_hasBy 27 = .ok (.iload_n 1, 1) := by decide +kernel
theorem dX12_hasBy_28 : decode cX12_hasBy 28 = .ok (.iaload, 1) := by decide +kernel
theorem dX12_hasBy_29 : decode cX12_hasBy 29 = .ok (.iload 4, 2) := by decide +kernel
theorem dX12_hasBy_31 : decode cX12_hasBy 31 = .ok (.iadd, 1) := by decide +kernel
theorem dX12_hasBy_32 : decode cX12_hasBy 32 = .ok (.goto 9, 3) := by decide +kernel
theorem dX12_hasBy_35 : decode cX12_hasBy 35 = .ok (.aload_n 0, 1) := by decide +kernel
theorem dX12_hasBy_36 : decode cX12_hasBy 36 = .ok (.getfield 29, 3) := by decide +kernel
theorem dX12_hasBy_39 : decode cX12_hasBy 39 = .ok (.iload_n 1, 1) := by decide +kernel
theorem dX12_hasBy_40 : decode cX12_hasBy 40 = .ok (.iaload, 1) := by decide +kernel
theorem dX12_hasBy_41 : decode cX12_hasBy 41 = .ok (.ireturn, 1) := by decide +kernel
theorem dX12_isBest_0 : decode cX12_isBest 0 = .ok (.iconst 0, 1) := by decide +kernel
theorem dX12_isBest_1 : decode cX12_isBest 1 = .ok (.istore 5, 2) := by decide +kernel
theorem dX12_isBest_3 : decode cX12_isBest 3 = .ok (.iload 5, 2) := by decide +kernel
theorem dX12_isBest_5 : decode cX12_isBest 5 = .ok (.aload_n 0, 1) := by decide +kernel
theorem dX12_isBest_6 : decode cX12_isBest 6 = .ok (.getfield 23, 3) := by decide +kernel
theorem dX12_isBest_9 : decode cX12_isBest 9 = .ok (.iconst 0, 1) := by decide +kernel
theorem dX12_isBest_10 : decode cX12_isBest 10 = .ok (.iaload, 1) := by decide +kernel
theorem dX12_isBest_11 : decode cX12_isBest 11 = .ok (.if_icmp .ge 33, 3) := by decide +kernel
theorem dX12_isBest_14 : decode cX12_isBest 14 = .ok (.aload_n 0, 1) := by decide +kernel
theorem dX12_isBest_15 : decode cX12_isBest 15 = .ok (.iload 5, 2) := by decide +kernel
theorem dX12_isBest_17 : decode cX12_isBest 17 = .ok (.iload_n 2, 1) := by decide +kernel
theorem dX12_isBest_18 : decode cX12_isBest 18 = .ok (.iload_n 3, 1) := by decide +kernel
theorem dX12_isBest_19 : decode cX12_isBest 19 = .ok (.iload 4, 2) := by decide +kernel
theorem dX12_isBest_21 : decode cX12_isBest 21 = .ok (.invokevirtual 383, 3) := by decide +kernel
theorem dX12_isBest_24 : decode cX12_isBest 24 = .ok (.aload_n 0, 1) := by decide +kernel
theorem dX12_isBest_25 : decode cX12_isBest 25 = .ok (.iload_n 1, 1) := by decide +kernel
theorem dX12_isBest_26 : decode cX12_isBest 26 = .ok (.iload_n 2, 1) := by decide +kernel
theorem dX12_isBest_27 : decode cX12_isBest 27 = .ok (.iload_n 3, 1) := by decide +kernel
theorem dX12_isBest_28 : decode cX12_isBest 28 = .ok (.iload 4, 2) := by decide +kernel
theorem dX12_isBest_30 : decode cX12_isBest 30 = .ok (.invokevirtual 383, 3) := by decide +kernel
theorem dX12_isBest_33 : decode cX12_isBest 33 = .ok (.if_icmp .le 5, 3) := by decide +kernel
theorem dX12_isBest_36 : decode cX12_isBest 36 = .ok (.iconst 0, 1) := by decide +kernel
theorem dX12_isBest_37 : decode cX12_isBest 37 = .ok (.ireturn, 1) := by decide +kernel
theorem dX12_isBest_38 : decode cX12_isBest 38 = .ok (.iinc 5 1, 3) := by decide +kernel
theorem dX12_isBest_41 : decode cX12_isBest 41 = .ok (.goto (-38), 3) := by decide +kernel
theorem dX12_isBest_44 : decode cX12_isBest 44 = .ok (.iconst 1, 1) := by decide +kernel
theorem dX12_isBest_45 : decode cX12_isBest 45 = .ok (.ireturn, 1) := by decide +kernel
theorem dX12_crews_0 : decode cX12_crews 0 = .ok (.aload_n 0, 1) := by decide +kernel
theorem dX12_crews_1 : decode cX12_crews 1 = .ok (.iconst 0, 1) := by decide +kernel
theorem dX12_crews_2 : decode cX12_crews 2 = .ok (.putfield 116, 3) := by decide +kernel
theorem dX12_crews_5 : decode cX12_crews 5 = .ok (.aload_n 0, 1) := by decide +kernel
theorem dX12_crews_6 : decode cX12_crews 6 = .ok (.iload_n 1, 1) := by decide +kernel
theorem dX12_crews_7 : decode cX12_crews 7 = .ok (.iconst 0, 1) := by decide +kernel
theorem dX12_crews_8 : decode cX12_crews 8 = .ok (.bipush 20, 2) := by decide +kernel
theorem dX12_crews_10 : decode cX12_crews 10 = .ok (.invokestatic 150, 3) := by decide +kernel
theorem dX12_crews_13 : decode cX12_crews 13 = .ok (.ifCond .eq 22, 3) := by decide +kernel
theorem dX12_crews_16 : decode cX12_crews 16 = .ok (.iload_n 2, 1) := by decide +kernel
theorem dX12_crews_17 : decode cX12_crews 17 = .ok (.iconst 0, 1) := by decide +kernel
theorem dX12_crews_18 : decode cX12_crews 18 = .ok (.bipush 20, 2) := by decide +kernel
theorem dX12_crews_20 : decode cX12_crews 20 = .ok (.invokestatic 150, 3) := by decide +kernel
theorem dX12_crews_23 : decode cX12_crews 23 = .ok (.ifCond .eq 12, 3) := by decide +kernel
theorem dX12_crews_26 : decode cX12_crews 26 = .ok (.iload_n 3, 1) := by decide +kernel
theorem dX12_crews_27 : decode cX12_crews 27 = .ok (.iconst 0, 1) := by decide +kernel
theorem dX12_crews_28 : decode cX12_crews 28 = .ok (.iconst 2, 1) := by decide +kernel
theorem dX12_crews_29 : decode cX12_crews 29 = .ok (.invokestatic 150, 3) := by decide +kernel
theorem dX12_crews_32 : decode cX12_crews 32 = .ok (.ifCond .ne 7, 3) := by decide +kernel
theorem dX12_crews_35 : decode cX12_crews 35 = .ok (.iconst 1, 1) := by decide +kernel
theorem dX12_crews_36 : decode cX12_crews 36 = .ok (.goto 4, 3) := by decide +kernel
theorem dX12_crews_39 : decode cX12_crews 39 = .ok (.iconst 0, 1) := by decide +kernel
theorem dX12_crews_40 : decode cX12_crews 40 = .ok (.iconst 1, 1) := by decide +kernel
theorem dX12_crews_41 : decode cX12_crews 41 = .ok (.iconst 1, 1) := by decide +kernel
theorem dX12_crews_42 : decode cX12_crews 42 = .ok (.invokevirtual 192, 3) := by decide +kernel
theorem dX12_crews_45 : decode cX12_crews 45 = .ok (.ifCond .eq 5, 3) := by decide +kernel
theorem dX12_crews_48 : decode cX12_crews 48 = .ok (.iconst 0, 1) := by decide +kernel
theorem dX12_crews_49 : decode cX12_crews 49 = .ok (.ireturn, 1) := by decide +kernel
theorem dX12_crews_50 : decode cX12_crews 50 = .ok (.iconst 0, 1) := by decide +kernel
theorem dX12_crews_51 : decode cX12_crews 51 = .ok (.istore 4, 2) := by decide +kernel
theorem dX12_crews_53 : decode cX12_crews 53 = .ok (.iconst (-1), 1) := by decide +kernel
theorem dX12_crews_54 : decode cX12_crews 54 = .ok (.istore 5, 2) := by decide +kernel
theorem dX12_crews_56 : decode cX12_crews 56 = .ok (.iconst 0, 1) := by decide +kernel
theorem dX12_crews_57 : decode cX12_crews 57 = .ok (.istore 6, 2) := by decide +kernel
theorem dX12_crews_59 : decode cX12_crews 59 = .ok (.iconst 0, 1) := by decide +kernel
theorem dX12_crews_60 : decode cX12_crews 60 = .ok (.istore 7, 2) := by decide +kernel
theorem dX12_crews_62 : decode cX12_crews 62 = .ok (.iload 7, 2) := by decide +kernel
theorem dX12_crews_64 : decode cX12_crews 64 = .ok (.aload_n 0, 1) := by decide +kernel
theorem dX12_crews_65 : decode cX12_crews 65 = .ok (.getfield 23, 3) := by decide +kernel
theorem dX12_crews_68 : decode cX12_crews 68 = .ok (.iconst 0, 1) := by decide +kernel
theorem dX12_crews_69 : decode cX12_crews 69 = .ok (.iaload, 1) := by decide +kernel
theorem dX12_crews_70 : decode cX12_crews 70 = .ok (.if_icmp .ge 114, 3) := by decide +kernel
theorem dX12_crews_73 : decode cX12_crews 73 = .ok (.iconst 0, 1) := by decide +kernel
theorem dX12_crews_74 : decode cX12_crews 74 = .ok (.istore 8, 2) := by decide +kernel
theorem dX12_crews_76 : decode cX12_crews 76 = .ok (.iload 8, 2) := by decide +kernel
theorem dX12_crews_78 : decode cX12_crews 78 = .ok (.aload_n 0, 1) := by decide +kernel
theorem dX12_crews_79 : decode cX12_crews 79 = .ok (.getfield 23, 3) := by decide +kernel
theorem dX12_crews_82 : decode cX12_crews 82 = .ok (.iconst 0, 1) := by decide +kernel
theorem dX12_crews_83 : decode cX12_crews 83 = .ok (.iaload, 1) := by decide +kernel
theorem dX12_crews_84 : decode cX12_crews 84 = .ok (.if_icmp .ge 94, 3) := by decide +kernel
theorem dX12_crews_87 : decode cX12_crews 87 = .ok (.aload_n 0, 1) := by decide +kernel
theorem dX12_crews_88 : decode cX12_crews 88 = .ok (.iload 7, 2) := by decide +kernel
theorem dX12_crews_90 : decode cX12_crews 90 = .ok (.iload 8, 2) := by decide +kernel
theorem dX12_crews_92 : decode cX12_crews 92 = .ok (.iload_n 1, 1) := by decide +kernel
theorem dX12_crews_93 : decode cX12_crews 93 = .ok (.iload_n 2, 1) := by decide +kernel
theorem dX12_crews_94 : decode cX12_crews 94 = .ok (.invokevirtual 387, 3) := by decide +kernel
theorem dX12_crews_97 : decode cX12_crews 97 = .ok (.ifCond .eq 75, 3) := by decide +kernel
theorem dX12_crews_100 : decode cX12_crews 100 = .ok (.aload_n 0, 1) := by decide +kernel
theorem dX12_crews_101 : decode cX12_crews 101 = .ok (.iload 8, 2) := by decide +kernel
theorem dX12_crews_103 : decode cX12_crews 103 = .ok (.iload 7, 2) := by decide +kernel
theorem dX12_crews_105 : decode cX12_crews 105 = .ok (.iload_n 1, 1) := by decide +kernel
theorem dX12_crews_106 : decode cX12_crews 106 = .ok (.iload_n 2, 1) := by decide +kernel
theorem dX12_crews_107 : decode cX12_crews 107 = .ok (.invokevirtual 387, 3) := by decide +kernel
theorem dX12_crews_110 : decode cX12_crews 110 = .ok (.ifCond .ne 6, 3) := by decide +kernel
theorem dX12_crews_113 : decode cX12_crews 113 = .ok (.goto 59, 3) := by decide +kernel
theorem dX12_crews_116 : decode cX12_crews 116 = .ok (.iload 4, 2) := by decide +kernel
theorem dX12_crews_118 : decode cX12_crews 118 = .ok (.ifCond .ne 14, 3) := by decide +kernel
theorem dX12_crews_121 : decode cX12_crews 121 = .ok (.bipush 10, 2) := by decide +kernel
theorem dX12_crews_123 : decode cX12_crews 123 = .ok (.iload 7, 2) := by decide +kernel
theorem dX12_crews_125 : decode cX12_crews 125 = .ok (.imul, 1) := by decide +kernel
theorem dX12_crews_126 : decode cX12_crews 126 = .ok (.iload 8, 2) := by decide +kernel
theorem dX12_crews_128 : decode cX12_crews 128 = .ok (.iadd, 1) := by decide +kernel
theorem dX12_crews_129 : decode cX12_crews 129 = .ok (.goto 5, 3) := by decide +kernel
theorem dX12_crews_132 : decode cX12_crews 132 = .ok (.iload 5, 2) := by decide +kernel
theorem dX12_crews_134 : decode cX12_crews 134 = .ok (.istore 5, 2) := by decide +kernel
theorem dX12_crews_136 : decode cX12_crews 136 = .ok (.iload 4, 2) := by decide +kernel
theorem dX12_crews_138 : decode cX12_crews 138 = .ok (.ifCond .ne 27, 3) := by decide +kernel
theorem dX12_crews_141 : decode cX12_crews 141 = .ok (.aload_n 0, 1) := by decide +kernel
theorem dX12_crews_142 : decode cX12_crews 142 = .ok (.iload 7, 2) := by decide +kernel
theorem dX12_crews_144 : decode cX12_crews 144 = .ok (.iload 8, 2) := by decide +kernel
theorem dX12_crews_146 : decode cX12_crews 146 = .ok (.iload_n 1, 1) := by decide +kernel
theorem dX12_crews_147 : decode cX12_crews 147 = .ok (.iload_n 2, 1) := by decide +kernel
theorem dX12_crews_148 : decode cX12_crews 148 = .ok (.invokevirtual 383, 3) := by decide +kernel
theorem dX12_crews_151 : decode cX12_crews 151 = .ok (.aload_n 0, 1) := by decide +kernel
theorem dX12_crews_152 : decode cX12_crews 152 = .ok (.iload 8, 2) := by decide +kernel
theorem dX12_crews_154 : decode cX12_crews 154 = .ok (.iload 7, 2) := by decide +kernel
theorem dX12_crews_156 : decode cX12_crews 156 = .ok (.iload_n 1, 1) := by decide +kernel
theorem dX12_crews_157 : decode cX12_crews 157 = .ok (.iload_n 2, 1) := by decide +kernel
theorem dX12_crews_158 : decode cX12_crews 158 = .ok (.invokevirtual 383, 3) := by decide +kernel
theorem dX12_crews_161 : decode cX12_crews 161 = .ok (.iadd, 1) := by decide +kernel
theorem dX12_crews_162 : decode cX12_crews 162 = .ok (.goto 5, 3) := by decide +kernel
theorem dX12_crews_165 : decode cX12_crews 165 = .ok (.iload 6, 2) := by decide +kernel
theorem dX12_crews_167 : decode cX12_crews 167 = .ok (.istore 6, 2) := by decide +kernel
theorem dX12_crews_169 : decode cX12_crews 169 = .ok (.iinc 4 1, 3) := by decide +kernel
theorem dX12_crews_172 : decode cX12_crews 172 = .ok (.iinc 8 1, 3) := by decide +kernel
theorem dX12_crews_175 : decode cX12_crews 175 = .ok (.goto (-99), 3) := by decide +kernel
theorem dX12_crews_178 : decode cX12_crews 178 = .ok (.iinc 7 1, 3) := by decide +kernel
theorem dX12_crews_181 : decode cX12_crews 181 = .ok (.goto (-119), 3) := by decide +kernel
theorem dX12_crews_184 : decode cX12_crews 184 = .ok (.iload_n 3, 1) := by decide +kernel
theorem dX12_crews_185 : decode cX12_crews 185 = .ok (.ifCond .ne 8, 3) := by decide +kernel
theorem dX12_crews_188 : decode cX12_crews 188 = .ok (.iload 4, 2) := by decide +kernel
theorem dX12_crews_190 : decode cX12_crews 190 = .ok (.goto 15, 3) := by decide +kernel
theorem dX12_crews_193 : decode cX12_crews 193 = .ok (.iload_n 3, 1) := by decide +kernel
theorem dX12_crews_194 : decode cX12_crews 194 = .ok (.iconst 1, 1) := by decide +kernel
theorem dX12_crews_195 : decode cX12_crews 195 = .ok (.if_icmp .ne 8, 3) := by decide +kernel
theorem dX12_crews_198 : decode cX12_crews 198 = .ok (.iload 5, 2) := by decide +kernel
theorem dX12_crews_200 : decode cX12_crews 200 = .ok (.goto 5, 3) := by decide +kernel
theorem dX12_crews_203 : decode cX12_crews 203 = .ok (.iload 6, 2) := by decide +kernel
theorem dX12_crews_205 : decode cX12_crews 205 = .ok (.ireturn, 1) := by decide +kernel
theorem dX12_givenBy_0 : decode cX12_givenBy 0 = .ok (.iconst 0, 1) := by decide +kernel
theorem dX12_givenBy_1 : decode cX12_givenBy 1 = .ok (.istore_n 3, 1) := by decide +kernel
theorem dX12_givenBy_2 : decode cX12_givenBy 2 = .ok (.iconst 0, 1) := by decide +kernel
theorem dX12_givenBy_3 : decode cX12_givenBy 3 = .ok (.istore 4, 2) := by decide +kernel
theorem dX12_givenBy_5 : decode cX12_givenBy 5 = .ok (.iload 4, 2) := by decide +kernel
theorem dX12_givenBy_7 : decode cX12_givenBy 7 = .ok (.aload_n 0, 1) := by decide +kernel
theorem dX12_givenBy_8 : decode cX12_givenBy 8 = .ok (.getfield 23, 3) := by decide +kernel
theorem dX12_givenBy_11 : decode cX12_givenBy 11 = .ok (.iconst 2, 1) := by decide +kernel
theorem dX12_givenBy_12 : decode cX12_givenBy 12 = .ok (.iaload, 1) := by decide +kernel
theorem dX12_givenBy_13 : decode cX12_givenBy 13 = .ok (.if_icmp .ge 38, 3) := by decide +kernel
theorem dX12_givenBy_16 : decode cX12_givenBy 16 = .ok (.iload_n 3, 1) := by decide +kernel
theorem dX12_givenBy_17 : decode cX12_givenBy 17 = .ok (.iload_n 1, 1) := by decide +kernel
theorem dX12_givenBy_18 : decode cX12_givenBy 18 = .ok (.iload 4, 2) := by decide +kernel
theorem dX12_givenBy_20 : decode cX12_givenBy 20 = .ok (.invokestatic 278, 3) := by decide +kernel
theorem dX12_givenBy_23 : decode cX12_givenBy 23 = .ok (.ifCond .eq 19, 3) := by decide +kernel
theorem dX12_givenBy_26 : decode cX12_givenBy 26 = .ok (.iload_n 2, 1) := by decide +kernel
theorem dX12_givenBy_27 : decode cX12_givenBy 27 = .ok (.aload_n 0, 1) := by decide +kernel
theorem dX12_givenBy_28 : decode cX12_givenBy 28 = .ok (.getfield 55, 3) := by decide +kernel
theorem dX12_givenBy_31 : decode cX12_givenBy 31 = .ok (.iload 4, 2) := by decide +kernel
theorem dX12_givenBy_33 : decode cX12_givenBy 33 = .ok (.aaload, 1) := by decide +kernel
theorem dX12_givenBy_34 : decode cX12_givenBy 34 = .ok (.iconst 1, 1) := by decide +kernel
theorem dX12_givenBy_35 : decode cX12_givenBy 35 = .ok (.iaload, 1) := by decide +kernel
theorem dX12_givenBy_36 : decode cX12_givenBy 36 = .ok (.invokestatic 259, 3) := by decide +kernel
theorem dX12_givenBy_39 : decode cX12_givenBy 39 = .ok (.goto 4, 3) := by decide +kernel
theorem dX12_givenBy_42 : decode cX12_givenBy 42 = .ok (.iconst 0, 1) := by decide +kernel
theorem dX12_givenBy_43 : decode cX12_givenBy 43 = .ok (.iadd, 1) := by decide +kernel
theorem dX12_givenBy_44 : decode cX12_givenBy 44 = .ok (.istore_n 3, 1) := by decide +kernel
theorem dX12_givenBy_45 : decode cX12_givenBy 45 = .ok (.iinc 4 1, 3) := by decide +kernel
theorem dX12_givenBy_48 : decode cX12_givenBy 48 = .ok (.goto (-43), 3) := by decide +kernel
theorem dX12_givenBy_51 : decode cX12_givenBy 51 = .ok (.iload_n 3, 1) := by decide +kernel
theorem dX12_givenBy_52 : decode cX12_givenBy 52 = .ok (.ireturn, 1) := by decide +kernel
theorem dX12_share_0 : decode cX12_share 0 = .ok (.aload_n 0, 1) := by decide +kernel
theorem dX12_share_1 : decode cX12_share 1 = .ok (.iconst 0, 1) := by decide +kernel
theorem dX12_share_2 : decode cX12_share 2 = .ok (.putfield 116, 3) := by decide +kernel
theorem dX12_share_5 : decode cX12_share 5 = .ok (.aload_n 0, 1) := by decide +kernel
theorem dX12_share_6 : decode cX12_share 6 = .ok (.aload_n 0, 1) := by decide +kernel
theorem dX12_share_7 : decode cX12_share 7 = .ok (.iload_n 1, 1) := by decide +kernel
theorem dX12_share_8 : decode cX12_share 8 = .ok (.invokevirtual 349, 3) := by decide +kernel
theorem dX12_share_11 : decode cX12_share 11 = .ok (.ifCond .ne 7, 3) := by decide +kernel
theorem dX12_share_14 : decode cX12_share 14 = .ok (.iconst 1, 1) := by decide +kernel
theorem dX12_share_15 : decode cX12_share 15 = .ok (.goto 4, 3) := by decide +kernel
theorem dX12_share_18 : decode cX12_share 18 = .ok (.iconst 0, 1) := by decide +kernel
theorem dX12_share_19 : decode cX12_share 19 = .ok (.iconst 1, 1) := by decide +kernel
theorem dX12_share_20 : decode cX12_share 20 = .ok (.iconst 0, 1) := by decide +kernel
theorem dX12_share_21 : decode cX12_share 21 = .ok (.invokevirtual 192, 3) := by decide +kernel
theorem dX12_share_24 : decode cX12_share 24 = .ok (.ifCond .ne 46, 3) := by decide +kernel
theorem dX12_share_27 : decode cX12_share 27 = .ok (.aload_n 0, 1) := by decide +kernel
theorem dX12_share_28 : decode cX12_share 28 = .ok (.iload_n 2, 1) := by decide +kernel
theorem dX12_share_29 : decode cX12_share 29 = .ok (.iconst 0, 1) := by decide +kernel
theorem dX12_share_30 : decode cX12_share 30 = .ok (.iconst 1, 1) := by decide +kernel
theorem dX12_share_31 : decode cX12_share 31 = .ok (.aload_n 0, 1) := by decide +kernel
theorem dX12_share_32 : decode cX12_share 32 = .ok (.getfield 23, 3) := by decide +kernel
theorem dX12_share_35 : decode cX12_share 35 = .ok (.iconst 2, 1) := by decide +kernel
theorem dX12_share_36 : decode cX12_share 36 = .ok (.iaload, 1) := by decide +kernel
theorem dX12_share_37 : decode cX12_share 37 = .ok (.ishl, 1) := by decide +kernel
theorem dX12_share_38 : decode cX12_share 38 = .ok (.iconst 1, 1) := by decide +kernel
theorem dX12_share_39 : decode cX12_share 39 = .ok (.isub, 1) := by decide +kernel
theorem dX12_share_40 : decode cX12_share 40 = .ok (.invokestatic 150, 3) := by decide +kernel
theorem dX12_share_43 : decode cX12_share 43 = .ok (.ifCond .eq 14, 3) := by decide +kernel
theorem dX12_share_46 : decode cX12_share 46 = .ok (.iload_n 3, 1) := by decide +kernel
theorem dX12_share_47 : decode cX12_share 47 = .ok (.iconst 0, 1) := by decide +kernel
theorem dX12_share_48 : decode cX12_share 48 = .ok (.sipush 400, 3) := by decide +kernel
theorem dX12_share_51 : decode cX12_share 51 = .ok (.invokestatic 150, 3) := by decide +kernel
theorem dX12_share_54 : decode cX12_share 54 = .ok (.ifCond .ne 7, 3) := by decide +kernel
theorem dX12_share_57 : decode cX12_share 57 = .ok (.iconst 1, 1) := by decide +kernel
theorem dX12_share_58 : decode cX12_share 58 = .ok (.goto 4, 3) := by decide +kernel
theorem dX12_share_61 : decode cX12_share 61 = .ok (.iconst 0, 1) := by decide +kernel
theorem dX12_share_62 : decode cX12_share 62 = .ok (.iconst 2, 1) := by decide +kernel
theorem dX12_share_63 : decode cX12_share 63 = .ok (.iconst 1, 1) := by decide +kernel
theorem dX12_share_64 : decode cX12_share 64 = .ok (.invokevirtual 192, 3) := by decide +kernel
theorem dX12_share_67 : decode cX12_share 67 = .ok (.ifCond .eq 5, 3) := by decide +kernel
theorem dX12_share_70 : decode cX12_share 70 = .ok (.iconst 0, 1) := by decide +kernel
theorem dX12_share_71 : decode cX12_share 71 = .ok (.ireturn, 1) := by decide +kernel
theorem dX12_share_72 : decode cX12_share 72 = .ok (.iconst 0, 1) := by decide +kernel
theorem dX12_share_73 : decode cX12_share 73 = .ok (.istore 4, 2) := by decide +kernel
theorem dX12_share_75 : decode cX12_share 75 = .ok (.iload 4, 2) := by decide +kernel
theorem dX12_share_77 : decode cX12_share 77 = .ok (.bipush 60, 2) := by decide +kernel
theorem dX12_share_79 : decode cX12_share 79 = .ok (.if_icmp .ge 22, 3) := by decide +kernel
theorem dX12_share_82 : decode cX12_share 82 = .ok (.aload_n 0, 1) := by decide +kernel
theorem dX12_share_83 : decode cX12_share 83 = .ok (.iload_n 2, 1) := by decide +kernel
theorem dX12_share_84 : decode cX12_share 84 = .ok (.iload 4, 2) := by decide +kernel
theorem dX12_share_86 : decode cX12_share 86 = .ok (.iconst 1, 1) := by decide +kernel
theorem dX12_share_87 : decode cX12_share 87 = .ok (.iadd, 1) := by decide +kernel
theorem dX12_share_88 : decode cX12_share 88 = .ok (.invokevirtual 391, 3) := by decide +kernel
theorem dX12_share_91 : decode cX12_share 91 = .ok (.iload_n 3, 1) := by decide +kernel
theorem dX12_share_92 : decode cX12_share 92 = .ok (.if_icmp .gt 9, 3) := by decide +kernel
theorem dX12_share_95 : decode cX12_share 95 = .ok (.iinc 4 1, 3) := by decide +kernel
theorem dX12_share_98 : decode cX12_share 98 = .ok (.goto (-23), 3) := by decide +kernel
theorem dX12_share_101 : decode cX12_share 101 = .ok (.iload_n 2, 1) := by decide +kernel
theorem dX12_share_102 : decode cX12_share 102 = .ok (.iload_n 1, 1) := by decide +kernel
theorem dX12_share_103 : decode cX12_share 103 = .ok (.invokestatic 278, 3) := by decide +kernel
theorem dX12_share_106 : decode cX12_share 106 = .ok (.ifCond .eq 19, 3) := by decide +kernel
theorem dX12_share_109 : decode cX12_share 109 = .ok (.iload 4, 2) := by decide +kernel
theorem dX12_share_111 : decode cX12_share 111 = .ok (.aload_n 0, 1) := by decide +kernel
theorem dX12_share_112 : decode cX12_share 112 = .ok (.getfield 55, 3) := by decide +kernel
theorem dX12_share_115 : decode cX12_share 115 = .ok (.iload_n 1, 1) := by decide +kernel
theorem dX12_share_116 : decode cX12_share 116 = .ok (.aaload, 1) := by decide +kernel
theorem dX12_share_117 : decode cX12_share 117 = .ok (.iconst 1, 1) := by decide +kernel
theorem dX12_share_118 : decode cX12_share 118 = .ok (.iaload, 1) := by decide +kernel
theorem dX12_share_119 : decode cX12_share 119 = .ok (.invokestatic 259, 3) := by decide +kernel
theorem dX12_share_122 : decode cX12_share 122 = .ok (.goto 4, 3) := by decide +kernel
theorem dX12_share_125 : decode cX12_share 125 = .ok (.iconst 0, 1) := by decide +kernel
theorem dX12_share_126 : decode cX12_share 126 = .ok (.ireturn, 1) := by decide +kernel
theorem dX12_above_0 : decode cX12_above 0 = .ok (.aload_n 0, 1) := by decide +kernel
theorem dX12_above_1 : decode cX12_above 1 = .ok (.iconst 0, 1) := by decide +kernel
theorem dX12_above_2 : decode cX12_above 2 = .ok (.putfield 116, 3) := by decide +kernel
theorem dX12_above_5 : decode cX12_above 5 = .ok (.aload_n 0, 1) := by decide +kernel
theorem dX12_above_6 : decode cX12_above 6 = .ok (.iload_n 1, 1) := by decide +kernel
theorem dX12_above_7 : decode cX12_above 7 = .ok (.iconst 0, 1) := by decide +kernel
theorem dX12_above_8 : decode cX12_above 8 = .ok (.iconst 4, 1) := by decide +kernel
theorem dX12_above_9 : decode cX12_above 9 = .ok (.invokestatic 150, 3) := by decide +kernel
theorem dX12_above_12 : decode cX12_above 12 = .ok (.ifCond .ne 7, 3) := by decide +kernel
theorem dX12_above_15 : decode cX12_above 15 = .ok (.iconst 1, 1) := by decide +kernel
theorem dX12_above_16 : decode cX12_above 16 = .ok (.goto 4, 3) := by decide +kernel
theorem dX12_above_19 : decode cX12_above 19 = .ok (.iconst 0, 1) := by decide +kernel
theorem dX12_above_20 : decode cX12_above 20 = .ok (.iconst 1, 1) := by decide +kernel
theorem dX12_above_21 : decode cX12_above 21 = .ok (.iconst 1, 1) := by decide +kernel
theorem dX12_above_22 : decode cX12_above 22 = .ok (.invokevirtual 192, 3) := by decide +kernel
theorem dX12_above_25 : decode cX12_above 25 = .ok (.ifCond .eq 5, 3) := by decide +kernel
theorem dX12_above_28 : decode cX12_above 28 = .ok (.iconst 0, 1) := by decide +kernel
theorem dX12_above_29 : decode cX12_above 29 = .ok (.ireturn, 1) := by decide +kernel
theorem dX12_above_30 : decode cX12_above 30 = .ok (.aload_n 0, 1) := by decide +kernel
theorem dX12_above_31 : decode cX12_above 31 = .ok (.iload_n 1, 1) := by decide +kernel
theorem dX12_above_32 : decode cX12_above 32 = .ok (.invokevirtual 334, 3) := by decide +kernel
theorem dX12_above_35 : decode cX12_above 35 = .ok (.ireturn, 1) := by decide +kernel
theorem dX12_mightiest_0 : decode cX12_mightiest 0 = .ok (.aload_n 0, 1) := by decide +kernel
theorem dX12_mightiest_1 : decode cX12_mightiest 1 = .ok (.iconst 0, 1) := by decide +kernel
theorem dX12_mightiest_2 : decode cX12_mightiest 2 = .ok (.putfield 116, 3) := by decide +kernel
theorem dX12_mightiest_5 : decode cX12_mightiest 5 = .ok (.aload_n 0, 1) := by decide +kernel
theorem dX12_mightiest_6 : decode cX12_mightiest 6 = .ok (.iload_n 1, 1) := by decide +kernel
theorem dX12_mightiest_7 : decode cX12_mightiest 7 = .ok (.iconst 0, 1) := by decide +kernel
theorem dX12_mightiest_8 : decode cX12_mightiest 8 = .ok (.iconst 1, 1) := by decide +kernel
theorem dX12_mightiest_9 : decode cX12_mightiest 9 = .ok (.invokestatic 150, 3) := by decide +kernel
theorem dX12_mightiest_12 : decode cX12_mightiest 12 = .ok (.ifCond .ne 7, 3) := by decide +kernel
theorem dX12_mightiest_15 : decode cX12_mightiest 15 = .ok (.iconst 1, 1) := by decide +kernel
theorem dX12_mightiest_16 : decode cX12_mightiest 16 = .ok (.goto 4, 3) := by decide +kernel
theorem dX12_mightiest_19 : decode cX12_mightiest 19 = .ok (.iconst 0, 1) := by decide +kernel
theorem dX12_mightiest_20 : decode cX12_mightiest 20 = .ok (.iconst 1, 1) := by decide +kernel
theorem dX12_mightiest_21 : decode cX12_mightiest 21 = .ok (.iconst 1, 1) := by decide +kernel
theorem dX12_mightiest_22 : decode cX12_mightiest 22 = .ok (.invokevirtual 192, 3) := by decide +kernel
theorem dX12_mightiest_25 : decode cX12_mightiest 25 = .ok (.ifCond .eq 5, 3) := by decide +kernel
theorem dX12_mightiest_28 : decode cX12_mightiest 28 = .ok (.iconst 0, 1) := by decide +kernel
theorem dX12_mightiest_29 : decode cX12_mightiest 29 = .ok (.ireturn, 1) := by decide +kernel
theorem dX12_mightiest_30 : decode cX12_mightiest 30 = .ok (.iconst (-1), 1) := by decide +kernel
theorem dX12_mightiest_31 : decode cX12_mightiest 31 = .ok (.istore_n 2, 1) := by decide +kernel
theorem dX12_mightiest_32 : decode cX12_mightiest 32 = .ok (.iconst 0, 1) := by decide +kernel
theorem dX12_mightiest_33 : decode cX12_mightiest 33 = .ok (.istore_n 3, 1) := by decide +kernel
theorem dX12_mightiest_34 : decode cX12_mightiest 34 = .ok (.iconst 0, 1) := by decide +kernel
theorem dX12_mightiest_35 : decode cX12_mightiest 35 = .ok (.istore 4, 2) := by decide +kernel
theorem dX12_mightiest_37 : decode cX12_mightiest 37 = .ok (.iload 4, 2) := by decide +kernel
theorem dX12_mightiest_39 : decode cX12_mightiest 39 = .ok (.aload_n 0, 1) := by decide +kernel
theorem dX12_mightiest_40 : decode cX12_mightiest 40 = .ok (.getfield 79, 3) := by decide +kernel
theorem dX12_mightiest_43 : decode cX12_mightiest 43 = .ok (.bipush 23, 2) := by decide +kernel
theorem dX12_mightiest_45 : decode cX12_mightiest 45 = .ok (.iaload, 1) := by decide +kernel
theorem dX12_mightiest_46 : decode cX12_mightiest 46 = .ok (.if_icmp .ge 37, 3) := by decide +kernel
theorem dX12_mightiest_49 : decode cX12_mightiest 49 = .ok (.aload_n 0, 1) := by decide +kernel
theorem dX12_mightiest_50 : decode cX12_mightiest 50 = .ok (.iload 4, 2) := by decide +kernel
theorem dX12_mightiest_52 : decode cX12_mightiest 52 = .ok (.invokevirtual 331, 3) := by decide +kernel
theorem dX12_mightiest_55 : decode cX12_mightiest 55 = .ok (.istore 5, 2) := by decide +kernel
theorem dX12_mightiest_57 : decode cX12_mightiest 57 = .ok (.iload_n 2, 1) := by decide +kernel
theorem dX12_mightiest_58 : decode cX12_mightiest 58 = .ok (.iconst (-1), 1) := by decide +kernel
theorem dX12_mightiest_59 : decode cX12_mightiest 59 = .ok (.if_icmp .eq 12, 3) := by decide +kernel
theorem dX12_mightiest_62 : decode cX12_mightiest 62 = .ok (.iload 5, 2) := by decide +kernel
theorem dX12_mightiest_64 : decode cX12_mightiest 64 = .ok (.iload_n 3, 1) := by decide +kernel
theorem dX12_mightiest_65 : decode cX12_mightiest 65 = .ok (.if_icmp .gt 6, 3) := by decide +kernel
theorem dX12_mightiest_68 : decode cX12_mightiest 68 = .ok (.goto 9, 3) := by decide +kernel
theorem dX12_mightiest_71 : decode cX12_mightiest 71 = .ok (.iload 4, 2) := by decide +kernel
theorem dX12_mightiest_73 : decode cX12_mightiest 73 = .ok (.istore_n 2, 1) := by decide +kernel
theorem dX12_mightiest_74 : decode cX12_mightiest 74 = .ok (.iload 5, 2) := by decide +kernel
theorem dX12_mightiest_76 : decode cX12_mightiest 76 = .ok (.istore_n 3, 1) := by decide +kernel
theorem dX12_mightiest_77 : decode cX12_mightiest 77 = .ok (.iinc 4 1, 3) := by decide +kernel
theorem dX12_mightiest_80 : decode cX12_mightiest 80 = .ok (.goto (-43), 3) := by decide +kernel
theorem dX12_mightiest_83 : decode cX12_mightiest 83 = .ok (.iload_n 1, 1) := by decide +kernel
theorem dX12_mightiest_84 : decode cX12_mightiest 84 = .ok (.ifCond .ne 7, 3) := by decide +kernel
theorem dX12_mightiest_87 : decode cX12_mightiest 87 = .ok (.iload_n 2, 1) := by decide +kernel
theorem dX12_mightiest_88 : decode cX12_mightiest 88 = .ok (.goto 4, 3) := by decide +kernel
theorem dX12_mightiest_91 : decode cX12_mightiest 91 = .ok (.iload_n 3, 1) := by decide +kernel
theorem dX12_mightiest_92 : decode cX12_mightiest 92 = .ok (.ireturn, 1) := by decide +kernel
theorem dX12_idle_0 : decode cX12_idle 0 = .ok (.aload_n 0, 1) := by decide +kernel
theorem dX12_idle_1 : decode cX12_idle 1 = .ok (.iconst 0, 1) := by decide +kernel
theorem dX12_idle_2 : decode cX12_idle 2 = .ok (.putfield 116, 3) := by decide +kernel
theorem dX12_idle_5 : decode cX12_idle 5 = .ok (.iconst 1, 1) := by decide +kernel
theorem dX12_idle_6 : decode cX12_idle 6 = .ok (.aload_n 0, 1) := by decide +kernel
theorem dX12_idle_7 : decode cX12_idle 7 = .ok (.getfield 23, 3) := by decide +kernel
theorem dX12_idle_10 : decode cX12_idle 10 = .ok (.iconst 2, 1) := by decide +kernel
theorem dX12_idle_11 : decode cX12_idle 11 = .ok (.iaload, 1) := by decide +kernel
theorem dX12_idle_12 : decode cX12_idle 12 = .ok (.ishl, 1) := by decide +kernel
theorem dX12_idle_13 : decode cX12_idle 13 = .ok (.iconst 1, 1) := by decide +kernel
theorem dX12_idle_14 : decode cX12_idle 14 = .ok (.isub, 1) := by decide +kernel
theorem dX12_idle_15 : decode cX12_idle 15 = .ok (.istore_n 1, 1) := by decide +kernel
theorem dX12_idle_16 : decode cX12_idle 16 = .ok (.iconst 0, 1) := by decide +kernel
theorem dX12_idle_17 : decode cX12_idle 17 = .ok (.istore_n 2, 1) := by decide +kernel
theorem dX12_idle_18 : decode cX12_idle 18 = .ok (.iload_n 2, 1) := by decide +kernel
theorem dX12_idle_19 : decode cX12_idle 19 = .ok (.aload_n 0, 1) := by decide +kernel
theorem dX12_idle_20 : decode cX12_idle 20 = .ok (.getfield 23, 3) := by decide +kernel
theorem dX12_idle_23 : decode cX12_idle 23 = .ok (.iconst 2, 1) := by decide +kernel
theorem dX12_idle_24 : decode cX12_idle 24 = .ok (.iaload, 1) := by decide +kernel
theorem dX12_idle_25 : decode cX12_idle 25 = .ok (.if_icmp .ge 74, 3) := by decide +kernel
theorem dX12_idle_28 : decode cX12_idle 28 = .ok (.iconst 0, 1) := by decide +kernel
theorem dX12_idle_29 : decode cX12_idle 29 = .ok (.istore_n 3, 1) := by decide +kernel
theorem dX12_idle_30 : decode cX12_idle 30 = .ok (.iload_n 3, 1) := by decide +kernel
theorem dX12_idle_31 : decode cX12_idle 31 = .ok (.aload_n 0, 1) := by decide +kernel
theorem dX12_idle_32 : decode cX12_idle 32 = .ok (.getfield 23, 3) := by decide +kernel
theorem dX12_idle_35 : decode cX12_idle 35 = .ok (.iconst 1, 1) := by decide +kernel
theorem dX12_idle_36 : decode cX12_idle 36 = .ok (.iaload, 1) := by decide +kernel
theorem dX12_idle_37 : decode cX12_idle 37 = .ok (.if_icmp .ge 56, 3) := by decide +kernel
theorem dX12_idle_40 : decode cX12_idle 40 = .ok (.iconst 0, 1) := by decide +kernel
theorem dX12_idle_41 : decode cX12_idle 41 = .ok (.istore 4, 2) := by decide +kernel
theorem dX12_idle_43 : decode cX12_idle 43 = .ok (.iload 4, 2) := by decide +kernel
theorem dX12_idle_45 : decode cX12_idle 45 = .ok (.aload_n 0, 1) := by decide +kernel
theorem dX12_idle_46 : decode cX12_idle 46 = .ok (.getfield 23, 3) := by decide +kernel
theorem dX12_idle_49 : decode cX12_idle 49 = .ok (.iconst 0, 1) := by decide +kernel
theorem dX12_idle_50 : decode cX12_idle 50 = .ok (.iaload, 1) := by decide +kernel
theorem dX12_idle_51 : decode cX12_idle 51 = .ok (.if_icmp .ge 36, 3) := by decide +kernel
theorem dX12_idle_54 : decode cX12_idle 54 = .ok (.iload_n 1, 1) := by decide +kernel
theorem dX12_idle_55 : decode cX12_idle 55 = .ok (.aload_n 0, 1) := by decide +kernel
theorem dX12_idle_56 : decode cX12_idle 56 = .ok (.aload_n 0, 1) := by decide +kernel
theorem dX12_idle_57 : decode cX12_idle 57 = .ok (.getfield 79, 3) := by decide +kernel
theorem dX12_idle_60 : decode cX12_idle 60 = .ok (.iload_n 2, 1) := by decide +kernel
theorem dX12_idle_61 : decode cX12_idle 61 = .ok (.iload_n 3, 1) := by decide +kernel
theorem dX12_idle_62 : decode cX12_idle 62 = .ok (.iload 4, 2) := by decide +kernel
theorem dX12_idle_64 : decode cX12_idle 64 = .ok (.invokevirtual 290, 3) := by decide +kernel
theorem dX12_idle_67 : decode cX12_idle 67 = .ok (.ifCond .eq 11, 3) := by decide +kernel
theorem dX12_idle_70 : decode cX12_idle 70 = .ok (.iconst 1, 1) := by decide +kernel
theorem dX12_idle_71 : decode cX12_idle 71 = .ok (.iload_n 2, 1) := by decide +kernel
theorem dX12_idle_72 : decode cX12_idle 72 = .ok (.ishl, 1) := by decide +kernel
theorem dX12_idle_73 : decode cX12_idle 73 = .ok (.iconst (-1), 1) := by decide +kernel
theorem dX12_idle_74 : decode cX12_idle 74 = .ok (.ixor, 1) := by decide +kernel
theorem dX12_idle_75 : decode cX12_idle 75 = .ok (.goto 4, 3) := by decide +kernel
theorem dX12_idle_78 : decode cX12_idle 78 = .ok (.iload_n 1, 1) := by decide +kernel
theorem dX12_idle_79 : decode cX12_idle 79 = .ok (.iand, 1) := by decide +kernel
theorem dX12_idle_80 : decode cX12_idle 80 = .ok (.istore_n 1, 1) := by decide +kernel
theorem dX12_idle_81 : decode cX12_idle 81 = .ok (.iinc 4 1, 3) := by decide +kernel
theorem dX12_idle_84 : decode cX12_idle 84 = .ok (.goto (-41), 3) := by decide +kernel
theorem dX12_idle_87 : decode cX12_idle 87 = .ok (.iinc 3 1, 3) := by decide +kernel
theorem dX12_idle_90 : decode cX12_idle 90 = .ok (.goto (-60), 3) := by decide +kernel
theorem dX12_idle_93 : decode cX12_idle 93 = .ok (.iinc 2 1, 3) := by decide +kernel
theorem dX12_idle_96 : decode cX12_idle 96 = .ok (.goto (-78), 3) := by decide +kernel
theorem dX12_idle_99 : decode cX12_idle 99 = .ok (.iload_n 1, 1) := by decide +kernel
theorem dX12_idle_100 : decode cX12_idle 100 = .ok (.ireturn, 1) := by decide +kernel
theorem dX12_ends_0 : decode cX12_ends 0 = .ok (.aload_n 0, 1) := by decide +kernel
theorem dX12_ends_1 : decode cX12_ends 1 = .ok (.iconst 0, 1) := by decide +kernel
theorem dX12_ends_2 : decode cX12_ends 2 = .ok (.putfield 116, 3) := by decide +kernel
theorem dX12_ends_5 : decode cX12_ends 5 = .ok (.aload_n 0, 1) := by decide +kernel
theorem dX12_ends_6 : decode cX12_ends 6 = .ok (.aload_n 0, 1) := by decide +kernel
theorem dX12_ends_7 : decode cX12_ends 7 = .ok (.iload_n 1, 1) := by decide +kernel
theorem dX12_ends_8 : decode cX12_ends 8 = .ok (.invokevirtual 340, 3) := by decide +kernel
theorem dX12_ends_11 : decode cX12_ends 11 = .ok (.ifCond .ne 7, 3) := by decide +kernel
theorem dX12_ends_14 : decode cX12_ends 14 = .ok (.iconst 1, 1) := by decide +kernel
theorem dX12_ends_15 : decode cX12_ends 15 = .ok (.goto 4, 3) := by decide +kernel
theorem dX12_ends_18 : decode cX12_ends 18 = .ok (.iconst 0, 1) := by decide +kernel
theorem dX12_ends_19 : decode cX12_ends 19 = .ok (.iconst 1, 1) := by decide +kernel
theorem dX12_ends_20 : decode cX12_ends 20 = .ok (.iconst 0, 1) := by decide +kernel
theorem dX12_ends_21 : decode cX12_ends 21 = .ok (.invokevirtual 192, 3) := by decide +kernel
theorem dX12_ends_24 : decode cX12_ends 24 = .ok (.ifCond .ne 26, 3) := by decide +kernel
theorem dX12_ends_27 : decode cX12_ends 27 = .ok (.aload_n 0, 1) := by decide +kernel
theorem dX12_ends_28 : decode cX12_ends 28 = .ok (.iload_n 2, 1) := by decide +kernel
theorem dX12_ends_29 : decode cX12_ends 29 = .ok (.iconst 0, 1) := by decide +kernel
theorem dX12_ends_30 : decode cX12_ends 30 = .ok (.iconst 1, 1) := by decide +kernel
theorem dX12_ends_31 : decode cX12_ends 31 = .ok (.invokestatic 150, 3) := by decide +kernel
theorem dX12_ends_34 : decode cX12_ends 34 = .ok (.ifCond .ne 7, 3) := by decide +kernel
theorem dX12_ends_37 : decode cX12_ends 37 = .ok (.iconst 1, 1) := by decide +kernel
theorem dX12_ends_38 : decode cX12_ends 38 = .ok (.goto 4, 3) := by decide +kernel
theorem dX12_ends_41 : decode cX12_ends 41 = .ok (.iconst 0, 1) := by decide +kernel
theorem dX12_ends_42 : decode cX12_ends 42 = .ok (.iconst 2, 1) := by decide +kernel
theorem dX12_ends_43 : decode cX12_ends 43 = .ok (.iconst 1, 1) := by decide +kernel
theorem dX12_ends_44 : decode cX12_ends 44 = .ok (.invokevirtual 192, 3) := by decide +kernel
theorem dX12_ends_47 : decode cX12_ends 47 = .ok (.ifCond .eq 5, 3) := by decide +kernel
theorem dX12_ends_50 : decode cX12_ends 50 = .ok (.iconst 0, 1) := by decide +kernel
theorem dX12_ends_51 : decode cX12_ends 51 = .ok (.ireturn, 1) := by decide +kernel
theorem dX12_ends_52 : decode cX12_ends 52 = .ok (.iconst (-1), 1) := by decide +kernel
theorem dX12_ends_53 : decode cX12_ends 53 = .ok (.istore_n 3, 1) := by decide +kernel
theorem dX12_ends_54 : decode cX12_ends 54 = .ok (.iconst (-1), 1) := by decide +kernel
theorem dX12_ends_55 : decode cX12_ends 55 = .ok (.istore 4, 2) := by decide +kernel
theorem dX12_ends_57 : decode cX12_ends 57 = .ok (.iconst 0, 1) := by decide +kernel
theorem dX12_ends_58 : decode cX12_ends 58 = .ok (.istore 5, 2) := by decide +kernel
theorem dX12_ends_60 : decode cX12_ends 60 = .ok (.iload 5, 2) := by decide +kernel
theorem dX12_ends_62 : decode cX12_ends 62 = .ok (.aload_n 0, 1) := by decide +kernel
theorem dX12_ends_63 : decode cX12_ends 63 = .ok (.getfield 79, 3) := by decide +kernel
theorem dX12_ends_66 : decode cX12_ends 66 = .ok (.bipush 23, 2) := by decide +kernel
theorem dX12_ends_68 : decode cX12_ends 68 = .ok (.iaload, 1) := by decide +kernel
theorem dX12_ends_69 : decode cX12_ends 69 = .ok (.if_icmp .ge 42, 3) := by decide +kernel
theorem dX12_ends_72 : decode cX12_ends 72 = .ok (.aload_n 0, 1) := by decide +kernel
theorem dX12_ends_73 : decode cX12_ends 73 = .ok (.getfield 79, 3) := by decide +kernel
theorem dX12_ends_76 : decode cX12_ends 76 = .ok (.iload 5, 2) := by decide +kernel
theorem dX12_ends_78 : decode cX12_ends 78 = .ok (.iconst 2, 1) := by decide +kernel
theorem dX12_ends_79 : decode cX12_ends 79 = .ok (.invokestatic 282, 3) := by decide +kernel
theorem dX12_ends_82 : decode cX12_ends 82 = .ok (.iload_n 1, 1) := by decide +kernel
theorem dX12_ends_83 : decode cX12_ends 83 = .ok (.if_icmp .eq 6, 3) := by decide +kernel
theorem dX12_ends_86 : decode cX12_ends 86 = .ok (.goto 19, 3) := by decide +kernel
theorem dX12_ends_89 : decode cX12_ends 89 = .ok (.iload_n 3, 1) := by decide +kernel
theorem dX12_ends_90 : decode cX12_ends 90 = .ok (.iconst (-1), 1) := by decide +kernel
theorem dX12_ends_91 : decode cX12_ends 91 = .ok (.if_icmp .ne 8, 3) := by decide +kernel
theorem dX12_ends_94 : decode cX12_ends 94 = .ok (.iload 5, 2) := by decide +kernel
theorem dX12_ends_96 : decode cX12_ends 96 = .ok (.goto 4, 3) := by decide +kernel
theorem dX12_ends_99 : decode cX12_ends 99 = .ok (.iload_n 3, 1) := by decide +kernel
theorem dX12_ends_100 : decode cX12_ends 100 = .ok (.istore_n 3, 1) := by decide +kernel
theorem dX12_ends_101 : decode cX12_ends 101 = .ok (.iload 5, 2) := by decide +kernel
theorem dX12_ends_103 : decode cX12_ends 103 = .ok (.istore 4, 2) := by decide +kernel
theorem dX12_ends_105 : decode cX12_ends 105 = .ok (.iinc 5 1, 3) := by decide +kernel
theorem dX12_ends_108 : decode cX12_ends 108 = .ok (.goto (-48), 3) := by decide +kernel
theorem dX12_ends_111 : decode cX12_ends 111 = .ok (.iload_n 2, 1) := by decide +kernel
theorem dX12_ends_112 : decode cX12_ends 112 = .ok (.ifCond .ne 7, 3) := by decide +kernel
theorem dX12_ends_115 : decode cX12_ends 115 = .ok (.iload_n 3, 1) := by decide +kernel
theorem dX12_ends_116 : decode cX12_ends 116 = .ok (.goto 5, 3) := by decide +kernel
theorem dX12_ends_119 : decode cX12_ends 119 = .ok (.iload 4, 2) := by decide +kernel
theorem dX12_ends_121 : decode cX12_ends 121 = .ok (.ireturn, 1) := by decide +kernel
theorem dX12_loud_0 : decode cX12_loud 0 = .ok (.aload_n 0, 1) := by decide +kernel
theorem dX12_loud_1 : decode cX12_loud 1 = .ok (.iconst 0, 1) := by decide +kernel
theorem dX12_loud_2 : decode cX12_loud 2 = .ok (.putfield 116, 3) := by decide +kernel
theorem dX12_loud_5 : decode cX12_loud 5 = .ok (.aload_n 0, 1) := by decide +kernel
theorem dX12_loud_6 : decode cX12_loud 6 = .ok (.aload_n 0, 1) := by decide +kernel
theorem dX12_loud_7 : decode cX12_loud 7 = .ok (.iload_n 1, 1) := by decide +kernel
theorem dX12_loud_8 : decode cX12_loud 8 = .ok (.invokevirtual 349, 3) := by decide +kernel
theorem dX12_loud_11 : decode cX12_loud 11 = .ok (.ifCond .ne 7, 3) := by decide +kernel
theorem dX12_loud_14 : decode cX12_loud 14 = .ok (.iconst 1, 1) := by decide +kernel
theorem dX12_loud_15 : decode cX12_loud 15 = .ok (.goto 4, 3) := by decide +kernel
theorem dX12_loud_18 : decode cX12_loud 18 = .ok (.iconst 0, 1) := by decide +kernel
theorem dX12_loud_19 : decode cX12_loud 19 = .ok (.iconst 1, 1) := by decide +kernel
theorem dX12_loud_20 : decode cX12_loud 20 = .ok (.iconst 0, 1) := by decide +kernel
theorem dX12_loud_21 : decode cX12_loud 21 = .ok (.invokevirtual 192, 3) := by decide +kernel
theorem dX12_loud_24 : decode cX12_loud 24 = .ok (.ifCond .eq 5, 3) := by decide +kernel
theorem dX12_loud_27 : decode cX12_loud 27 = .ok (.iconst 0, 1) := by decide +kernel
theorem dX12_loud_28 : decode cX12_loud 28 = .ok (.ireturn, 1) := by decide +kernel
theorem dX12_loud_29 : decode cX12_loud 29 = .ok (.iconst 0, 1) := by decide +kernel
theorem dX12_loud_30 : decode cX12_loud 30 = .ok (.istore_n 2, 1) := by decide +kernel
theorem dX12_loud_31 : decode cX12_loud 31 = .ok (.iconst 0, 1) := by decide +kernel
theorem dX12_loud_32 : decode cX12_loud 32 = .ok (.istore_n 3, 1) := by decide +kernel
theorem dX12_loud_33 : decode cX12_loud 33 = .ok (.iload_n 3, 1) := by decide +kernel
theorem dX12_loud_34 : decode cX12_loud 34 = .ok (.aload_n 0, 1) := by decide +kernel
theorem dX12_loud_35 : decode cX12_loud 35 = .ok (.getfield 79, 3) := by decide +kernel
theorem dX12_loud_38 : decode cX12_loud 38 = .ok (.bipush 23, 2) := by decide +kernel
theorem dX12_loud_40 : decode cX12_loud 40 = .ok (.iaload, 1) := by decide +kernel
theorem dX12_loud_41 : decode cX12_loud 41 = .ok (.if_icmp .ge 34, 3) := by decide +kernel
theorem dX12_loud_44 : decode cX12_loud 44 = .ok (.iload_n 2, 1) := by decide +kernel
theorem dX12_loud_45 : decode cX12_loud 45 = .ok (.aload_n 0, 1) := by decide +kernel
theorem dX12_loud_46 : decode cX12_loud 46 = .ok (.getfield 79, 3) := by decide +kernel
theorem dX12_loud_49 : decode cX12_loud 49 = .ok (.iload_n 3, 1) := by decide +kernel
theorem dX12_loud_50 : decode cX12_loud 50 = .ok (.iconst 3, 1) := by decide +kernel
theorem dX12_loud_51 : decode cX12_loud 51 = .ok (.invokestatic 282, 3) := by decide +kernel
theorem dX12_loud_54 : decode cX12_loud 54 = .ok (.iload_n 1, 1) := by decide +kernel
theorem dX12_loud_55 : decode cX12_loud 55 = .ok (.if_icmp .ne 11, 3) := by decide +kernel
theorem dX12_loud_58 : decode cX12_loud 58 = .ok (.aload_n 0, 1) := by decide +kernel
theorem dX12_loud_59 : decode cX12_loud 59 = .ok (.iload_n 3, 1) := by decide +kernel
theorem dX12_loud_60 : decode cX12_loud 60 = .ok (.invokevirtual 331, 3) := by decide +kernel
theorem dX12_loud_63 : decode cX12_loud 63 = .ok (.goto 4, 3) := by decide +kernel
theorem dX12_loud_66 : decode cX12_loud 66 = .ok (.iconst 0, 1) := by decide +kernel
theorem dX12_loud_67 : decode cX12_loud 67 = .ok (.iadd, 1) := by decide +kernel
theorem dX12_loud_68 : decode cX12_loud 68 = .ok (.istore_n 2, 1) := by decide +kernel
theorem dX12_loud_69 : decode cX12_loud 69 = .ok (.iinc 3 1, 3) := by decide +kernel
theorem dX12_loud_72 : decode cX12_loud 72 = .ok (.goto (-39), 3) := by decide +kernel
theorem dX12_loud_75 : decode cX12_loud 75 = .ok (.iload_n 2, 1) := by decide +kernel
theorem dX12_loud_76 : decode cX12_loud 76 = .ok (.ireturn, 1) := by decide +kernel
theorem dX12_missing_0 : decode cX12_missing 0 = .ok (.aload_n 0, 1) := by decide +kernel
theorem dX12_missing_1 : decode cX12_missing 1 = .ok (.iconst 0, 1) := by decide +kernel
theorem dX12_missing_2 : decode cX12_missing 2 = .ok (.putfield 116, 3) := by decide +kernel
theorem dX12_missing_5 : decode cX12_missing 5 = .ok (.iconst 1, 1) := by decide +kernel
theorem dX12_missing_6 : decode cX12_missing 6 = .ok (.aload_n 0, 1) := by decide +kernel
theorem dX12_missing_7 : decode cX12_missing 7 = .ok (.getfield 23, 3) := by decide +kernel
theorem dX12_missing_10 : decode cX12_missing 10 = .ok (.iconst 1, 1) := by decide +kernel
theorem dX12_missing_11 : decode cX12_missing 11 = .ok (.iaload, 1) := by decide +kernel
theorem dX12_missing_12 : decode cX12_missing 12 = .ok (.ishl, 1) := by decide +kernel
theorem dX12_missing_13 : decode cX12_missing 13 = .ok (.iconst 1, 1) := by decide +kernel
theorem dX12_missing_14 : decode cX12_missing 14 = .ok (.isub, 1) := by decide +kernel
theorem dX12_missing_15 : decode cX12_missing 15 = .ok (.istore_n 1, 1) := by decide +kernel
theorem dX12_missing_16 : decode cX12_missing 16 = .ok (.iconst 0, 1) := by decide +kernel
theorem dX12_missing_17 : decode cX12_missing 17 = .ok (.istore_n 2, 1) := by decide +kernel
theorem dX12_missing_18 : decode cX12_missing 18 = .ok (.iload_n 2, 1) := by decide +kernel
theorem dX12_missing_19 : decode cX12_missing 19 = .ok (.aload_n 0, 1) := by decide +kernel
theorem dX12_missing_20 : decode cX12_missing 20 = .ok (.getfield 79, 3) := by decide +kernel
theorem dX12_missing_23 : decode cX12_missing 23 = .ok (.bipush 23, 2) := by decide +kernel
theorem dX12_missing_25 : decode cX12_missing 25 = .ok (.iaload, 1) := by decide +kernel
theorem dX12_missing_26 : decode cX12_missing 26 = .ok (.if_icmp .ge 51, 3) := by decide +kernel
theorem dX12_missing_29 : decode cX12_missing 29 = .ok (.aload_n 0, 1) := by decide +kernel
theorem dX12_missing_30 : decode cX12_missing 30 = .ok (.getfield 79, 3) := by decide +kernel
theorem dX12_missing_33 : decode cX12_missing 33 = .ok (.iload_n 2, 1) := by decide +kernel
theorem dX12_missing_34 : decode cX12_missing 34 = .ok (.iconst 0, 1) := by decide +kernel
theorem dX12_missing_35 : decode cX12_missing 35 = .ok (.invokestatic 282, 3) := by decide +kernel
theorem dX12_missing_38 : decode cX12_missing 38 = .ok (.istore_n 3, 1) := by decide +kernel
theorem dX12_missing_39 : decode cX12_missing 39 = .ok (.iload_n 1, 1) := by decide +kernel
theorem dX12_missing_40 : decode cX12_missing 40 = .ok (.aload_n 0, 1) := by decide +kernel
theorem dX12_missing_41 : decode cX12_missing 41 = .ok (.getfield 79, 3) := by decide +kernel
theorem dX12_missing_44 : decode cX12_missing 44 = .ok (.iload_n 2, 1) := by decide +kernel
theorem dX12_missing_45 : decode cX12_missing 45 = .ok (.iconst 1, 1) := by decide +kernel
theorem dX12_missing_46 : decode cX12_missing 46 = .ok (.invokestatic 282, 3) := by decide +kernel
theorem dX12_missing_49 : decode cX12_missing 49 = .ok (.aload_n 0, 1) := by decide +kernel
theorem dX12_missing_50 : decode cX12_missing 50 = .ok (.getfield 49, 3) := by decide +kernel
theorem dX12_missing_53 : decode cX12_missing 53 = .ok (.iload_n 3, 1) := by decide +kernel
theorem dX12_missing_54 : decode cX12_missing 54 = .ok (.aaload, 1) := by decide +kernel
theorem dX12_missing_55 : decode cX12_missing 55 = .ok (.iconst 0, 1) := by decide +kernel
theorem dX12_missing_56 : decode cX12_missing 56 = .ok (.iaload, 1) := by decide +kernel
theorem dX12_missing_57 : decode cX12_missing 57 = .ok (.if_icmp .ne 11, 3) := by decide +kernel
theorem dX12_missing_60 : decode cX12_missing 60 = .ok (.iconst 1, 1) := by decide +kernel
theorem dX12_missing_61 : decode cX12_missing 61 = .ok (.iload_n 3, 1) := by decide +kernel
theorem dX12_missing_62 : decode cX12_missing 62 = .ok (.ishl, 1) := by decide +kernel
theorem dX12_missing_63 : decode cX12_missing 63 = .ok (.iconst (-1), 1) := by decide +kernel
theorem dX12_missing_64 : decode cX12_missing 64 = .ok (.ixor, 1) := by decide +kernel
theorem dX12_missing_65 : decode cX12_missing 65 = .ok (.goto 4, 3) := by decide +kernel
theorem dX12_missing_68 : decode cX12_missing 68 = .ok (.iload_n 1, 1) := by decide +kernel
theorem dX12_missing_69 : decode cX12_missing 69 = .ok (.iand, 1) := by decide +kernel
theorem dX12_missing_70 : decode cX12_missing 70 = .ok (.istore_n 1, 1) := by decide +kernel
theorem dX12_missing_71 : decode cX12_missing 71 = .ok (.iinc 2 1, 3) := by decide +kernel
theorem dX12_missing_74 : decode cX12_missing 74 = .ok (.goto (-56), 3) := by decide +kernel
theorem dX12_missing_77 : decode cX12_missing 77 = .ok (.iload_n 1, 1) := by decide +kernel
theorem dX12_missing_78 : decode cX12_missing 78 = .ok (.ireturn, 1) := by decide +kernel
theorem dX12_draw_0 : decode cX12_draw 0 = .ok (.aload_n 0, 1) := by decide +kernel
theorem dX12_draw_1 : decode cX12_draw 1 = .ok (.aload_n 0, 1) := by decide +kernel
theorem dX12_draw_2 : decode cX12_draw 2 = .ok (.getfield 394, 3) := by decide +kernel
theorem dX12_draw_5 : decode cX12_draw 5 = .ok (.ldc_w 397, 3) := by decide +kernel
theorem dX12_draw_8 : decode cX12_draw 8 = .ok (.imul, 1) := by decide +kernel
theorem dX12_draw_9 : decode cX12_draw 9 = .ok (.sipush 12345, 3) := by decide +kernel
theorem dX12_draw_12 : decode cX12_draw 12 = .ok (.iadd, 1) := by decide +kernel
theorem dX12_draw_13 : decode cX12_draw 13 = .ok (.putfield 394, 3) := by decide +kernel
theorem dX12_draw_16 : decode cX12_draw 16 = .ok (.aload_n 0, 1) := by decide +kernel
theorem dX12_draw_17 : decode cX12_draw 17 = .ok (.getfield 394, 3) := by decide +kernel
theorem dX12_draw_20 : decode cX12_draw 20 = .ok (.bipush 16, 2) := by decide +kernel
theorem dX12_draw_22 : decode cX12_draw 22 = .ok (.ishr, 1) := by decide +kernel
theorem dX12_draw_23 : decode cX12_draw 23 = .ok (.sipush 32767, 3) := by decide +kernel
theorem dX12_draw_26 : decode cX12_draw 26 = .ok (.iand, 1) := by decide +kernel
theorem dX12_draw_27 : decode cX12_draw 27 = .ok (.iload_n 1, 1) := by decide +kernel
theorem dX12_draw_28 : decode cX12_draw 28 = .ok (.irem, 1) := by decide +kernel
theorem dX12_draw_29 : decode cX12_draw 29 = .ok (.ireturn, 1) := by decide +kernel
theorem dX12_yearsBy_0 : decode cX12_yearsBy 0 = .ok (.aload_n 0, 1) := by decide +kernel
theorem dX12_yearsBy_1 : decode cX12_yearsBy 1 = .ok (.getfield 79, 3) := by decide +kernel
theorem dX12_yearsBy_4 : decode cX12_yearsBy 4 = .ok (.aload_n 0, 1) := by decide +kernel
theorem dX12_yearsBy_5 : decode cX12_yearsBy 5 = .ok (.getfield 82, 3) := by decide +kernel
theorem dX12_yearsBy_8 : decode cX12_yearsBy 8 = .ok (.invokestatic 320, 3) := by decide +kernel
theorem dX12_yearsBy_11 : decode cX12_yearsBy 11 = .ok (.aload_n 0, 1) := by decide +kernel
theorem dX12_yearsBy_12 : decode cX12_yearsBy 12 = .ok (.iload_n 1, 1) := by decide +kernel
theorem dX12_yearsBy_13 : decode cX12_yearsBy 13 = .ok (.putfield 394, 3) := by decide +kernel
theorem dX12_yearsBy_16 : decode cX12_yearsBy 16 = .ok (.aload_n 0, 1) := by decide +kernel
theorem dX12_yearsBy_17 : decode cX12_yearsBy 17 = .ok (.iconst 0, 1) := by decide +kernel
theorem dX12_yearsBy_18 : decode cX12_yearsBy 18 = .ok (.putfield 398, 3) := by decide +kernel
theorem dX12_yearsBy_21 : decode cX12_yearsBy 21 = .ok (.aload_n 0, 1) := by decide +kernel
theorem dX12_yearsBy_22 : decode cX12_yearsBy 22 = .ok (.iconst 0, 1) := by decide +kernel
theorem dX12_yearsBy_23 : decode cX12_yearsBy 23 = .ok (.putfield 401, 3) := by decide +kernel
theorem dX12_yearsBy_26 : decode cX12_yearsBy 26 = .ok (.aload_n 0, 1) := by decide +kernel
theorem dX12_yearsBy_27 : decode cX12_yearsBy 27 = .ok (.getfield 23, 3) := by decide +kernel
theorem dX12_yearsBy_30 : decode cX12_yearsBy 30 = .ok (.iconst 0, 1) := by decide +kernel
theorem dX12_yearsBy_31 : decode cX12_yearsBy 31 = .ok (.iaload, 1) := by decide +kernel
theorem dX12_yearsBy_32 : decode cX12_yearsBy 32 = .ok (.ifCond .eq 21, 3) := by decide +kernel
theorem dX12_yearsBy_35 : decode cX12_yearsBy 35 = .ok (.aload_n 0, 1) := by decide +kernel
theorem dX12_yearsBy_36 : decode cX12_yearsBy 36 = .ok (.getfield 23, 3) := by decide +kernel
theorem dX12_yearsBy_39 : decode cX12_yearsBy 39 = .ok (.iconst 1, 1) := by decide +kernel
theorem dX12_yearsBy_40 : decode cX12_yearsBy 40 = .ok (.iaload, 1) := by decide +kernel
theorem dX12_yearsBy_41 : decode cX12_yearsBy 41 = .ok (.ifCond .eq 12, 3) := by decide +kernel
theorem dX12_yearsBy_44 : decode cX12_yearsBy 44 = .ok (.aload_n 0, 1) := by decide +kernel
theorem dX12_yearsBy_45 : decode cX12_yearsBy 45 = .ok (.getfield 23, 3) := by decide +kernel
theorem dX12_yearsBy_48 : decode cX12_yearsBy 48 = .ok (.iconst 2, 1) := by decide +kernel
theorem dX12_yearsBy_49 : decode cX12_yearsBy 49 = .ok (.iaload, 1) := by decide +kernel
theorem dX12_yearsBy_50 : decode cX12_yearsBy 50 = .ok (.ifCond .ne 4, 3) := by decide +kernel
theorem dX12_yearsBy_53 : decode cX12_yearsBy 53 = .ok (.return_, 1) := by decide +kernel
theorem dX12_yearsBy_54 : decode cX12_yearsBy 54 = .ok (.iconst 1, 1) := by decide +kernel
theorem dX12_yearsBy_55 : decode cX12_yearsBy 55 = .ok (.istore 5, 2) := by decide +kernel
theorem dX12_yearsBy_57 : decode cX12_yearsBy 57 = .ok (.iload 5, 2) := by decide +kernel
theorem dX12_yearsBy_59 : decode cX12_yearsBy 59 = .ok (.iload_n 2, 1) := by decide +kernel
theorem dX12_yearsBy_60 : decode cX12_yearsBy 60 = .ok (.if_icmp .gt 148, 3) := by decide +kernel
theorem dX12_yearsBy_63 : decode cX12_yearsBy 63 = .ok (.aload_n 0, 1) := by decide +kernel
theorem dX12_yearsBy_64 : decode cX12_yearsBy 64 = .ok (.aload_n 0, 1) := by decide +kernel
theorem dX12_yearsBy_65 : decode cX12_yearsBy 65 = .ok (.getfield 23, 3) := by decide +kernel
theorem dX12_yearsBy_68 : decode cX12_yearsBy 68 = .ok (.iconst 2, 1) := by decide +kernel
theorem dX12_yearsBy_69 : decode cX12_yearsBy 69 = .ok (.iaload, 1) := by decide +kernel
theorem dX12_yearsBy_70 : decode cX12_yearsBy 70 = .ok (.invokevirtual 404, 3) := by decide +kernel
theorem dX12_yearsBy_73 : decode cX12_yearsBy 73 = .ok (.istore 6, 2) := by decide +kernel
theorem dX12_yearsBy_75 : decode cX12_yearsBy 75 = .ok (.aload_n 0, 1) := by decide +kernel
theorem dX12_yearsBy_76 : decode cX12_yearsBy 76 = .ok (.aload_n 0, 1) := by decide +kernel
theorem dX12_yearsBy_77 : decode cX12_yearsBy 77 = .ok (.getfield 23, 3) := by decide +kernel
theorem dX12_yearsBy_80 : decode cX12_yearsBy 80 = .ok (.iconst 1, 1) := by decide +kernel
theorem dX12_yearsBy_81 : decode cX12_yearsBy 81 = .ok (.iaload, 1) := by decide +kernel
theorem dX12_yearsBy_82 : decode cX12_yearsBy 82 = .ok (.invokevirtual 404, 3) := by decide +kernel
theorem dX12_yearsBy_85 : decode cX12_yearsBy 85 = .ok (.istore 7, 2) := by decide +kernel
theorem dX12_yearsBy_87 : decode cX12_yearsBy 87 = .ok (.aload_n 0, 1) := by decide +kernel
theorem dX12_yearsBy_88 : decode cX12_yearsBy 88 = .ok (.aload_n 0, 1) := by decide +kernel
theorem dX12_yearsBy_89 : decode cX12_yearsBy 89 = .ok (.getfield 23, 3) := by decide +kernel
theorem dX12_yearsBy_92 : decode cX12_yearsBy 92 = .ok (.iconst 0, 1) := by decide +kernel
theorem dX12_yearsBy_93 : decode cX12_yearsBy 93 = .ok (.iaload, 1) := by decide +kernel
theorem dX12_yearsBy_94 : decode cX12_yearsBy 94 = .ok (.invokevirtual 404, 3) := by decide +kernel
theorem dX12_yearsBy_97 : decode cX12_yearsBy 97 = .ok (.istore 8, 2) := by decide +kernel
theorem dX12_yearsBy_99 : decode cX12_yearsBy 99 = .ok (.aload_n 0, 1) := by decide +kernel
theorem dX12_yearsBy_100 : decode cX12_yearsBy 100 = .ok (.aload_n 0, 1) := by decide +kernel
theorem dX12_yearsBy_101 : decode cX12_yearsBy 101 = .ok (.getfield 82, 3) := by decide +kernel
theorem dX12_yearsBy_104 : decode cX12_yearsBy 104 = .ok (.iload 6, 2) := by decide +kernel
theorem dX12_yearsBy_106 : decode cX12_yearsBy 106 = .ok (.iload 7, 2) := by decide +kernel
theorem dX12_yearsBy_108 : decode cX12_yearsBy 108 = .ok (.iload 8, 2) := by decide +kernel
theorem dX12_yearsBy_110 : decode cX12_yearsBy 110 = .ok (.invokevirtual 294, 3) := by decide +kernel
theorem dX12_yearsBy_113 : decode cX12_yearsBy 113 = .ok (.pop, 1) := by decide +kernel
theorem dX12_yearsBy_114 : decode cX12_yearsBy 114 = .ok (.aload_n 0, 1) := by decide +kernel
theorem dX12_yearsBy_115 : decode cX12_yearsBy 115 = .ok (.bipush 16, 2) := by decide +kernel
theorem dX12_yearsBy_117 : decode cX12_yearsBy 117 = .ok (.invokevirtual 404, 3) := by decide +kernel
theorem dX12_yearsBy_120 : decode cX12_yearsBy 120 = .ok (.iload_n 3, 1) := by decide +kernel
theorem dX12_yearsBy_121 : decode cX12_yearsBy 121 = .ok (.if_icmp .ge 30, 3) := by decide +kernel
theorem dX12_yearsBy_124 : decode cX12_yearsBy 124 = .ok (.aload_n 0, 1) := by decide +kernel
theorem dX12_yearsBy_125 : decode cX12_yearsBy 125 = .ok (.dup, 1) := by decide +kernel
theorem dX12_yearsBy_126 : decode cX12_yearsBy 126 = .ok (.getfield 398, 3) := by decide +kernel
theorem dX12_yearsBy_129 : decode cX12_yearsBy 129 = .ok (.aload_n 0, 1) := by decide +kernel
theorem dX12_yearsBy_130 : decode cX12_yearsBy 130 = .ok (.aload_n 0, 1) := by decide +kernel
theorem dX12_yearsBy_131 : decode cX12_yearsBy 131 = .ok (.getfield 82, 3) := by decide +kernel
theorem dX12_yearsBy_134 : decode cX12_yearsBy 134 = .ok (.iload 7, 2) := by decide +kernel
theorem dX12_yearsBy_136 : decode cX12_yearsBy 136 = .ok (.invokevirtual 297, 3) := by decide +kernel
theorem dX12_yearsBy_139 : decode cX12_yearsBy 139 = .ok (.ifCond .eq 7, 3) := by decide +kernel
theorem dX12_yearsBy_142 : decode cX12_yearsBy 142 = .ok (.iconst 1, 1) := by decide +kernel
theorem dX12_yearsBy_143 : decode cX12_yearsBy 143 = .ok (.goto 4, 3) := by decide +kernel
theorem dX12_yearsBy_146 : decode cX12_yearsBy 146 = .ok (.iconst 0, 1) := by decide +kernel
theorem dX12_yearsBy_147 : decode cX12_yearsBy 147 = .ok (.iadd, 1) := by decide +kernel
theorem dX12_yearsBy_148 : decode cX12_yearsBy 148 = .ok (.putfield 398, 3) := by decide +kernel
theorem dX12_yearsBy_151 : decode cX12_yearsBy 151 = .ok (.aload_n 0, 1) := by decide +kernel
theorem dX12_yearsBy_152 : decode cX12_yearsBy 152 = .ok (.bipush 16, 2) := by decide +kernel
theorem dX12_yearsBy_154 : decode cX12_yearsBy 154 = .ok (.invokevirtual 404, 3) := by decide +kernel
theorem dX12_yearsBy_157 : decode cX12_yearsBy 157 = .ok (.iload 4, 2) := by decide +kernel
theorem dX12_yearsBy_159 : decode cX12_yearsBy 159 = .ok (.if_icmp .ge 28, 3) := by decide +kernel
theorem dX12_yearsBy_162 : decode cX12_yearsBy 162 = .ok (.aload_n 0, 1) := by decide +kernel
theorem dX12_yearsBy_163 : decode cX12_yearsBy 163 = .ok (.dup, 1) := by decide +kernel
theorem dX12_yearsBy_164 : decode cX12_yearsBy 164 = .ok (.getfield 401, 3) := by decide +kernel
theorem dX12_yearsBy_167 : decode cX12_yearsBy 167 = .ok (.aload_n 0, 1) := by decide +kernel
theorem dX12_yearsBy_168 : decode cX12_yearsBy 168 = .ok (.getfield 82, 3) := by decide +kernel
theorem dX12_yearsBy_171 : decode cX12_yearsBy 171 = .ok (.iconst 1, 1) := by decide +kernel
theorem dX12_yearsBy_172 : decode cX12_yearsBy 172 = .ok (.invokestatic 301, 3) := by decide +kernel
theorem dX12_yearsBy_175 : decode cX12_yearsBy 175 = .ok (.ifCond .eq 7, 3) := by decide +kernel
theorem dX12_yearsBy_178 : decode cX12_yearsBy 178 = .ok (.iconst 1, 1) := by decide +kernel
theorem dX12_yearsBy_179 : decode cX12_yearsBy 179 = .ok (.goto 4, 3) := by decide +kernel
theorem dX12_yearsBy_182 : decode cX12_yearsBy 182 = .ok (.iconst 0, 1) := by decide +kernel
theorem dX12_yearsBy_183 : decode cX12_yearsBy 183 = .ok (.iadd, 1) := by decide +kernel
theorem dX12_yearsBy_184 : decode cX12_yearsBy 184 = .ok (.putfield 401, 3) := by decide +kernel
theorem dX12_yearsBy_187 : decode cX12_yearsBy 187 = .ok (.iload 5, 2) := by decide +kernel
theorem dX12_yearsBy_189 : decode cX12_yearsBy 189 = .ok (.iconst 4, 1) := by decide +kernel
theorem dX12_yearsBy_190 : decode cX12_yearsBy 190 = .ok (.irem, 1) := by decide +kernel
theorem dX12_yearsBy_191 : decode cX12_yearsBy 191 = .ok (.ifCond .ne 11, 3) := by decide +kernel
theorem dX12_yearsBy_194 : decode cX12_yearsBy 194 = .ok (.aload_n 0, 1) := by decide +kernel
theorem dX12_yearsBy_195 : decode cX12_yearsBy 195 = .ok (.aload_n 0, 1) := by decide +kernel
theorem dX12_yearsBy_196 : decode cX12_yearsBy 196 = .ok (.getfield 82, 3) := by decide +kernel
theorem dX12_yearsBy_199 : decode cX12_yearsBy 199 = .ok (.invokevirtual 304, 3) := by decide +kernel
theorem dX12_yearsBy_202 : decode cX12_yearsBy 202 = .ok (.iinc 5 1, 3) := by decide +kernel
theorem dX12_yearsBy_205 : decode cX12_yearsBy 205 = .ok (.goto (-148), 3) := by decide +kernel
theorem dX12_yearsBy_208 : decode cX12_yearsBy 208 = .ok (.return_, 1) := by decide +kernel
theorem dX12_areYears_0 : decode cX12_areYears 0 = .ok (.iload_n 0, 1) := by decide +kernel
theorem dX12_areYears_1 : decode cX12_areYears 1 = .ok (.iconst 1, 1) := by decide +kernel
theorem dX12_areYears_2 : decode cX12_areYears 2 = .ok (.bipush 96, 2) := by decide +kernel
theorem dX12_areYears_4 : decode cX12_areYears 4 = .ok (.invokestatic 150, 3) := by decide +kernel
theorem dX12_areYears_7 : decode cX12_areYears 7 = .ok (.ifCond .eq 27, 3) := by decide +kernel
theorem dX12_areYears_10 : decode cX12_areYears 10 = .ok (.iload_n 1, 1) := by decide +kernel
theorem dX12_areYears_11 : decode cX12_areYears 11 = .ok (.iconst 0, 1) := by decide +kernel
theorem dX12_areYears_12 : decode cX12_areYears 12 = .ok (.bipush 16, 2) := by decide +kernel
theorem dX12_areYears_14 : decode cX12_areYears 14 = .ok (.invokestatic 150, 3) := by decide +kernel
theorem dX12_areYears_17 : decode cX12_areYears 17 = .ok (.ifCond .eq 17, 3) := by decide +kernel
theorem dX12_areYears_20 : decode cX12_areYears 20 = .ok (.iload_n 2, 1) := by decide +kernel
theorem dX12_areYears_21 : decode cX12_areYears 21 = .ok (.iconst 0, 1) := by decide +kernel
theorem dX12_areYears_22 : decode cX12_areYears 22 = .ok (.bipush 16, 2) := by decide +kernel
theorem dX12_areYears_24 : decode cX12_areYears 24 = .ok (.invokestatic 150, 3) := by decide +kernel
theorem dX12_areYears_27 : decode cX12_areYears 27 = .ok (.ifCond .eq 7, 3) := by decide +kernel
theorem dX12_areYears_30 : decode cX12_areYears 30 = .ok (.iconst 1, 1) := by decide +kernel
theorem dX12_areYears_31 : decode cX12_areYears 31 = .ok (.goto 4, 3) := by decide +kernel
theorem dX12_areYears_34 : decode cX12_areYears 34 = .ok (.iconst 0, 1) := by decide +kernel
theorem dX12_areYears_35 : decode cX12_areYears 35 = .ok (.ireturn, 1) := by decide +kernel
theorem dX12_keptIn_0 : decode cX12_keptIn 0 = .ok (.iconst 0, 1) := by decide +kernel
theorem dX12_keptIn_1 : decode cX12_keptIn 1 = .ok (.istore_n 2, 1) := by decide +kernel
theorem dX12_keptIn_2 : decode cX12_keptIn 2 = .ok (.iconst 0, 1) := by decide +kernel
theorem dX12_keptIn_3 : decode cX12_keptIn 3 = .ok (.istore_n 3, 1) := by decide +kernel
theorem dX12_keptIn_4 : decode cX12_keptIn 4 = .ok (.iload_n 3, 1) := by decide +kernel
theorem dX12_keptIn_5 : decode cX12_keptIn 5 = .ok (.aload_n 0, 1) := by decide +kernel
theorem dX12_keptIn_6 : decode cX12_keptIn 6 = .ok (.getfield 23, 3) := by decide +kernel
theorem dX12_keptIn_9 : decode cX12_keptIn 9 = .ok (.iconst 1, 1) := by decide +kernel
theorem dX12_keptIn_10 : decode cX12_keptIn 10 = .ok (.iaload, 1) := by decide +kernel
theorem dX12_keptIn_11 : decode cX12_keptIn 11 = .ok (.if_icmp .ge 35, 3) := by decide +kernel
theorem dX12_keptIn_14 : decode cX12_keptIn 14 = .ok (.iload_n 2, 1) := by decide +kernel
theorem dX12_keptIn_15 : decode cX12_keptIn 15 = .ok (.aload_n 1, 1) := by decide +kernel
theorem dX12_keptIn_16 : decode cX12_keptIn 16 = .ok (.iconst 0, 1) := by decide +kernel
theorem dX12_keptIn_17 : decode cX12_keptIn 17 = .ok (.iload_n 3, 1) := by decide +kernel
theorem dX12_keptIn_18 : decode cX12_keptIn 18 = .ok (.iadd, 1) := by decide +kernel
theorem dX12_keptIn_19 : decode cX12_keptIn 19 = .ok (.iaload, 1) := by decide +kernel
theorem dX12_keptIn_20 : decode cX12_keptIn 20 = .ok (.aload_n 0, 1) := by decide +kernel
theorem dX12_keptIn_21 : decode cX12_keptIn 21 = .ok (.getfield 49, 3) := by decide +kernel
theorem dX12_keptIn_24 : decode cX12_keptIn 24 = .ok (.iload_n 3, 1) := by decide +kernel
theorem dX12_keptIn_25 : decode cX12_keptIn 25 = .ok (.aaload, 1) := by decide +kernel
theorem dX12_keptIn_26 : decode cX12_keptIn 26 = .ok (.iconst 0, 1) := by decide +kernel
theorem dX12_keptIn_27 : decode cX12_keptIn 27 = .ok (.iaload, 1) := by decide +kernel
theorem dX12_keptIn_28 : decode cX12_keptIn 28 = .ok (.if_icmp .ne 9, 3) := by decide +kernel
theorem dX12_keptIn_31 : decode cX12_keptIn 31 = .ok (.iconst 1, 1) := by decide +kernel
theorem dX12_keptIn_32 : decode cX12_keptIn 32 = .ok (.iload_n 3, 1) := by decide +kernel
theorem dX12_keptIn_33 : decode cX12_keptIn 33 = .ok (.ishl, 1) := by decide +kernel
theorem dX12_keptIn_34 : decode cX12_keptIn 34 = .ok (.goto 4, 3) := by decide +kernel
theorem dX12_keptIn_37 : decode cX12_keptIn 37 = .ok (.iconst 0, 1) := by decide +kernel
theorem dX12_keptIn_38 : decode cX12_keptIn 38 = .ok (.ior, 1) := by decide +kernel
theorem dX12_keptIn_39 : decode cX12_keptIn 39 = .ok (.istore_n 2, 1) := by decide +kernel
theorem dX12_keptIn_40 : decode cX12_keptIn 40 = .ok (.iinc 3 1, 3) := by decide +kernel
theorem dX12_keptIn_43 : decode cX12_keptIn 43 = .ok (.goto (-39), 3) := by decide +kernel
theorem dX12_keptIn_46 : decode cX12_keptIn 46 = .ok (.iload_n 2, 1) := by decide +kernel
theorem dX12_keptIn_47 : decode cX12_keptIn 47 = .ok (.ireturn, 1) := by decide +kernel
theorem dX12_years_0 : decode cX12_years 0 = .ok (.aload_n 0, 1) := by decide +kernel
theorem dX12_years_1 : decode cX12_years 1 = .ok (.iconst 0, 1) := by decide +kernel
theorem dX12_years_2 : decode cX12_years 2 = .ok (.putfield 116, 3) := by decide +kernel
theorem dX12_years_5 : decode cX12_years 5 = .ok (.aload_n 0, 1) := by decide +kernel
theorem dX12_years_6 : decode cX12_years 6 = .ok (.iload_n 2, 1) := by decide +kernel
theorem dX12_years_7 : decode cX12_years 7 = .ok (.iload_n 3, 1) := by decide +kernel
theorem dX12_years_8 : decode cX12_years 8 = .ok (.iload 4, 2) := by decide +kernel
theorem dX12_years_10 : decode cX12_years 10 = .ok (.invokestatic 407, 3) := by decide +kernel
theorem dX12_years_13 : decode cX12_years 13 = .ok (.ifCond .eq 13, 3) := by decide +kernel
theorem dX12_years_16 : decode cX12_years 16 = .ok (.iload 5, 2) := by decide +kernel
theorem dX12_years_18 : decode cX12_years 18 = .ok (.iconst 0, 1) := by decide +kernel
theorem dX12_years_19 : decode cX12_years 19 = .ok (.iconst 3, 1) := by decide +kernel
theorem dX12_years_20 : decode cX12_years 20 = .ok (.invokestatic 150, 3) := by decide +kernel
theorem dX12_years_23 : decode cX12_years 23 = .ok (.ifCond .ne 7, 3) := by decide +kernel
theorem dX12_years_26 : decode cX12_years 26 = .ok (.iconst 1, 1) := by decide +kernel
theorem dX12_years_27 : decode cX12_years 27 = .ok (.goto 4, 3) := by decide +kernel
theorem dX12_years_30 : decode cX12_years 30 = .ok (.iconst 0, 1) := by decide +kernel
theorem dX12_years_31 : decode cX12_years 31 = .ok (.iconst 1, 1) := by decide +kernel
theorem dX12_years_32 : decode cX12_years 32 = .ok (.iconst 1, 1) := by decide +kernel
theorem dX12_years_33 : decode cX12_years 33 = .ok (.invokevirtual 192, 3) := by decide +kernel
theorem dX12_years_36 : decode cX12_years 36 = .ok (.ifCond .eq 5, 3) := by decide +kernel
theorem dX12_years_39 : decode cX12_years 39 = .ok (.iconst 0, 1) := by decide +kernel
theorem dX12_years_40 : decode cX12_years 40 = .ok (.ireturn, 1) := by decide +kernel
theorem dX12_years_41 : decode cX12_years 41 = .ok (.aload_n 0, 1) := by decide +kernel
theorem dX12_years_42 : decode cX12_years 42 = .ok (.iload_n 1, 1) := by decide +kernel
theorem dX12_years_43 : decode cX12_years 43 = .ok (.iload_n 2, 1) := by decide +kernel
theorem dX12_years_44 : decode cX12_years 44 = .ok (.iload_n 3, 1) := by decide +kernel
theorem dX12_years_45 : decode cX12_years 45 = .ok (.iload 4, 2) := by decide +kernel
theorem dX12_years_47 : decode cX12_years 47 = .ok (.invokevirtual 410, 3) := by decide +kernel
theorem dX12_years_50 : decode cX12_years 50 = .ok (.iload 5, 2) := by decide +kernel
theorem dX12_years_52 : decode cX12_years 52 = .ok (.tableswitch 54 0 2 #[28, 44, 49], 28) := by decide +kernel
theorem dX12_years_80 : decode cX12_years 80 = .ok (.aload_n 0, 1) := by decide +kernel
theorem dX12_years_81 : decode cX12_years 81 = .ok (.getfield 82, 3) := by decide +kernel
theorem dX12_years_84 : decode cX12_years 84 = .ok (.bipush 24, 2) := by decide +kernel
theorem dX12_years_86 : decode cX12_years 86 = .ok (.iaload, 1) := by decide +kernel
theorem dX12_years_87 : decode cX12_years 87 = .ok (.aload_n 0, 1) := by decide +kernel
theorem dX12_years_88 : decode cX12_years 88 = .ok (.getfield 79, 3) := by decide +kernel
theorem dX12_years_91 : decode cX12_years 91 = .ok (.bipush 24, 2) := by decide +kernel
theorem dX12_years_93 : decode cX12_years 93 = .ok (.iaload, 1) := by decide +kernel
theorem dX12_years_94 : decode cX12_years 94 = .ok (.isub, 1) := by decide +kernel
theorem dX12_years_95 : decode cX12_years 95 = .ok (.ireturn, 1) := by decide +kernel
theorem dX12_years_96 : decode cX12_years 96 = .ok (.aload_n 0, 1) := by decide +kernel
theorem dX12_years_97 : decode cX12_years 97 = .ok (.getfield 398, 3) := by decide +kernel
theorem dX12_years_100 : decode cX12_years 100 = .ok (.ireturn, 1) := by decide +kernel
theorem dX12_years_101 : decode cX12_years 101 = .ok (.aload_n 0, 1) := by decide +kernel
theorem dX12_years_102 : decode cX12_years 102 = .ok (.getfield 401, 3) := by decide +kernel
theorem dX12_years_105 : decode cX12_years 105 = .ok (.ireturn, 1) := by decide +kernel
theorem dX12_years_106 : decode cX12_years 106 = .ok (.aload_n 0, 1) := by decide +kernel
theorem dX12_years_107 : decode cX12_years 107 = .ok (.aload_n 0, 1) := by decide +kernel
theorem dX12_years_108 : decode cX12_years 108 = .ok (.getfield 82, 3) := by decide +kernel
theorem dX12_years_111 : decode cX12_years 111 = .ok (.invokevirtual 414, 3) := by decide +kernel
theorem dX12_years_114 : decode cX12_years 114 = .ok (.ireturn, 1) := by decide +kernel
theorem dX12_span_0 : decode cX12_span 0 = .ok (.aload_n 0, 1) := by decide +kernel
theorem dX12_span_1 : decode cX12_span 1 = .ok (.iconst 0, 1) := by decide +kernel
theorem dX12_span_2 : decode cX12_span 2 = .ok (.putfield 116, 3) := by decide +kernel
theorem dX12_span_5 : decode cX12_span 5 = .ok (.aload_n 0, 1) := by decide +kernel
theorem dX12_span_6 : decode cX12_span 6 = .ok (.iload_n 2, 1) := by decide +kernel
theorem dX12_span_7 : decode cX12_span 7 = .ok (.iconst 1, 1) := by decide +kernel
theorem dX12_span_8 : decode cX12_span 8 = .ok (.bipush 20, 2) := by decide +kernel
theorem dX12_span_10 : decode cX12_span 10 = .ok (.invokestatic 150, 3) := by decide +kernel
theorem dX12_span_13 : decode cX12_span 13 = .ok (.ifCond .eq 33, 3) := by decide +kernel
theorem dX12_span_16 : decode cX12_span 16 = .ok (.iload_n 3, 1) := by decide +kernel
theorem dX12_span_17 : decode cX12_span 17 = .ok (.iload 4, 2) := by decide +kernel
theorem dX12_span_19 : decode cX12_span 19 = .ok (.iload 5, 2) := by decide +kernel
theorem dX12_span_21 : decode cX12_span 21 = .ok (.invokestatic 407, 3) := by decide +kernel
theorem dX12_span_24 : decode cX12_span 24 = .ok (.ifCond .eq 22, 3) := by decide +kernel
theorem dX12_span_27 : decode cX12_span 27 = .ok (.iload 6, 2) := by decide +kernel
theorem dX12_span_29 : decode cX12_span 29 = .ok (.iconst 0, 1) := by decide +kernel
theorem dX12_span_30 : decode cX12_span 30 = .ok (.iconst 2, 1) := by decide +kernel
theorem dX12_span_31 : decode cX12_span 31 = .ok (.invokestatic 150, 3) := by decide +kernel
theorem dX12_span_34 : decode cX12_span 34 = .ok (.ifCond .eq 12, 3) := by decide +kernel
theorem dX12_span_37 : decode cX12_span 37 = .ok (.aload_n 0, 1) := by decide +kernel
theorem dX12_span_38 : decode cX12_span 38 = .ok (.iload 7, 2) := by decide +kernel
theorem dX12_span_40 : decode cX12_span 40 = .ok (.invokevirtual 346, 3) := by decide +kernel
theorem dX12_span_43 : decode cX12_span 43 = .ok (.ifCond .ne 7, 3) := by decide +kernel
theorem dX12_span_46 : decode cX12_span 46 = .ok (.iconst 1, 1) := by decide +kernel
theorem dX12_span_47 : decode cX12_span 47 = .ok (.goto 4, 3) := by decide +kernel
theorem dX12_span_50 : decode cX12_span 50 = .ok (.iconst 0, 1) := by decide +kernel
theorem dX12_span_51 : decode cX12_span 51 = .ok (.iconst 1, 1) := by decide +kernel
theorem dX12_span_52 : decode cX12_span 52 = .ok (.iconst 1, 1) := by decide +kernel
theorem dX12_span_53 : decode cX12_span 53 = .ok (.invokevirtual 192, 3) := by decide +kernel
theorem dX12_span_56 : decode cX12_span 56 = .ok (.ifCond .eq 5, 3) := by decide +kernel
theorem dX12_span_59 : decode cX12_span 59 = .ok (.iconst 0, 1) := by decide +kernel
theorem dX12_span_60 : decode cX12_span 60 = .ok (.ireturn, 1) := by decide +kernel
theorem dX12_span_61 : decode cX12_span 61 = .ok (.iconst (-1), 1) := by decide +kernel
theorem dX12_span_62 : decode cX12_span 62 = .ok (.istore 8, 2) := by decide +kernel
theorem dX12_span_64 : decode cX12_span 64 = .ok (.iconst 0, 1) := by decide +kernel
theorem dX12_span_65 : decode cX12_span 65 = .ok (.istore 9, 2) := by decide +kernel
theorem dX12_span_67 : decode cX12_span 67 = .ok (.iconst 0, 1) := by decide +kernel
theorem dX12_span_68 : decode cX12_span 68 = .ok (.istore 10, 2) := by decide +kernel
theorem dX12_span_70 : decode cX12_span 70 = .ok (.iconst 0, 1) := by decide +kernel
theorem dX12_span_71 : decode cX12_span 71 = .ok (.istore 11, 2) := by decide +kernel
theorem dX12_span_73 : decode cX12_span 73 = .ok (.iload 11, 2) := by decide +kernel
theorem dX12_span_75 : decode cX12_span 75 = .ok (.iload_n 2, 1) := by decide +kernel
theorem dX12_span_76 : decode cX12_span 76 = .ok (.if_icmp .ge 90, 3) := by decide +kernel
theorem dX12_span_79 : decode cX12_span 79 = .ok (.aload_n 0, 1) := by decide +kernel
theorem dX12_span_80 : decode cX12_span 80 = .ok (.iload_n 1, 1) := by decide +kernel
theorem dX12_span_81 : decode cX12_span 81 = .ok (.iload 11, 2) := by decide +kernel
theorem dX12_span_83 : decode cX12_span 83 = .ok (.iadd, 1) := by decide +kernel
theorem dX12_span_84 : decode cX12_span 84 = .ok (.iload_n 3, 1) := by decide +kernel
theorem dX12_span_85 : decode cX12_span 85 = .ok (.iload 4, 2) := by decide +kernel
theorem dX12_span_87 : decode cX12_span 87 = .ok (.iload 5, 2) := by decide +kernel
theorem dX12_span_89 : decode cX12_span 89 = .ok (.invokevirtual 410, 3) := by decide +kernel
theorem dX12_span_92 : decode cX12_span 92 = .ok (.aload_n 0, 1) := by decide +kernel
theorem dX12_span_93 : decode cX12_span 93 = .ok (.aload_n 0, 1) := by decide +kernel
theorem dX12_span_94 : decode cX12_span 94 = .ok (.getfield 82, 3) := by decide +kernel
theorem dX12_span_97 : decode cX12_span 97 = .ok (.invokevirtual 414, 3) := by decide +kernel
theorem dX12_span_100 : decode cX12_span 100 = .ok (.invokestatic 361, 3) := by decide +kernel
theorem dX12_span_103 : decode cX12_span 103 = .ok (.istore 12, 2) := by decide +kernel
theorem dX12_span_105 : decode cX12_span 105 = .ok (.iload 8, 2) := by decide +kernel
theorem dX12_span_107 : decode cX12_span 107 = .ok (.iconst (-1), 1) := by decide +kernel
theorem dX12_span_108 : decode cX12_span 108 = .ok (.if_icmp .ne 8, 3) := by decide +kernel
theorem dX12_span_111 : decode cX12_span 111 = .ok (.iload 12, 2) := by decide +kernel
theorem dX12_span_113 : decode cX12_span 113 = .ok (.goto 10, 3) := by decide +kernel
theorem dX12_span_116 : decode cX12_span 116 = .ok (.iload 8, 2) := by decide +kernel
theorem dX12_span_118 : decode cX12_span 118 = .ok (.iload 12, 2) := by decide +kernel
theorem dX12_span_120 : decode cX12_span 120 = .ok (.invokestatic 259, 3) := by decide +kernel
theorem dX12_span_123 : decode cX12_span 123 = .ok (.istore 8, 2) := by decide +kernel
theorem dX12_span_125 : decode cX12_span 125 = .ok (.iload 9, 2) := by decide +kernel
theorem dX12_span_127 : decode cX12_span 127 = .ok (.iload 12, 2) := by decide +kernel
theorem dX12_span_129 : decode cX12_span 129 = .ok (.invokestatic 262, 3) := by decide +kernel
theorem dX12_span_132 : decode cX12_span 132 = .ok (.istore 9, 2) := by decide +kernel
theorem dX12_span_134 : decode cX12_span 134 = .ok (.iload 10, 2) := by decide +kernel
theorem dX12_span_136 : decode cX12_span 136 = .ok (.aload_n 0, 1) := by decide +kernel
theorem dX12_span_137 : decode cX12_span 137 = .ok (.aload_n 0, 1) := by decide +kernel
theorem dX12_span_138 : decode cX12_span 138 = .ok (.getfield 82, 3) := by decide +kernel
theorem dX12_span_141 : decode cX12_span 141 = .ok (.invokevirtual 414, 3) := by decide +kernel
theorem dX12_span_144 : decode cX12_span 144 = .ok (.iload 7, 2) := by decide +kernel
theorem dX12_span_146 : decode cX12_span 146 = .ok (.invokestatic 278, 3) := by decide +kernel
theorem dX12_span_149 : decode cX12_span 149 = .ok (.ifCond .eq 7, 3) := by decide +kernel
theorem dX12_span_152 : decode cX12_span 152 = .ok (.iconst 1, 1) := by decide +kernel
theorem dX12_span_153 : decode cX12_span 153 = .ok (.goto 4, 3) := by decide +kernel
theorem dX12_span_156 : decode cX12_span 156 = .ok (.iconst 0, 1) := by decide +kernel
theorem dX12_span_157 : decode cX12_span 157 = .ok (.iadd, 1) := by decide +kernel
theorem dX12_span_158 : decode cX12_span 158 = .ok (.istore 10, 2) := by decide +kernel
theorem dX12_span_160 : decode cX12_span 160 = .ok (.iinc 11 1, 3) := by decide +kernel
theorem dX12_span_163 : decode cX12_span 163 = .ok (.goto (-90), 3) := by decide +kernel
theorem dX12_span_166 : decode cX12_span 166 = .ok (.iload 6, 2) := by decide +kernel
theorem dX12_span_168 : decode cX12_span 168 = .ok (.ifCond .ne 8, 3) := by decide +kernel
theorem dX12_span_171 : decode cX12_span 171 = .ok (.iload 8, 2) := by decide +kernel
theorem dX12_span_173 : decode cX12_span 173 = .ok (.goto 16, 3) := by decide +kernel
theorem dX12_span_176 : decode cX12_span 176 = .ok (.iload 6, 2) := by decide +kernel
theorem dX12_span_178 : decode cX12_span 178 = .ok (.iconst 1, 1) := by decide +kernel
theorem dX12_span_179 : decode cX12_span 179 = .ok (.if_icmp .ne 8, 3) := by decide +kernel
theorem dX12_span_182 : decode cX12_span 182 = .ok (.iload 9, 2) := by decide +kernel
theorem dX12_span_184 : decode cX12_span 184 = .ok (.goto 5, 3) := by decide +kernel
theorem dX12_span_187 : decode cX12_span 187 = .ok (.iload 10, 2) := by decide +kernel
theorem dX12_span_189 : decode cX12_span 189 = .ok (.ireturn, 1) := by decide +kernel
theorem dX12_puts_0 : decode cX12_puts 0 = .ok (.iload_n 3, 1) := by decide +kernel
theorem dX12_puts_1 : decode cX12_puts 1 = .ok (.ifCond .ne 10, 3) := by decide +kernel
theorem dX12_puts_4 : decode cX12_puts 4 = .ok (.aload_n 1, 1) := by decide +kernel
theorem dX12_puts_5 : decode cX12_puts 5 = .ok (.aload_n 0, 1) := by decide +kernel
theorem dX12_puts_6 : decode cX12_puts 6 = .ok (.getfield 418, 3) := by decide +kernel
theorem dX12_puts_9 : decode cX12_puts 9 = .ok (.iload_n 2, 1) := by decide +kernel
theorem dX12_puts_10 : decode cX12_puts 10 = .ok (.iastore, 1) := by decide +kernel
theorem dX12_puts_11 : decode cX12_puts 11 = .ok (.aload_n 0, 1) := by decide +kernel
theorem dX12_puts_12 : decode cX12_puts 12 = .ok (.dup, 1) := by decide +kernel
theorem dX12_puts_13 : decode cX12_puts 13 = .ok (.getfield 418, 3) := by decide +kernel
theorem dX12_puts_16 : decode cX12_puts 16 = .ok (.iconst 1, 1) := by decide +kernel
theorem dX12_puts_17 : decode cX12_puts 17 = .ok (.iadd, 1) := by decide +kernel
theorem dX12_puts_18 : decode cX12_puts 18 = .ok (.putfield 418, 3) := by decide +kernel
theorem dX12_puts_21 : decode cX12_puts 21 = .ok (.aload_n 1, 1) := by decide +kernel
theorem dX12_puts_22 : decode cX12_puts 22 = .ok (.aload_n 0, 1) := by decide +kernel
theorem dX12_puts_23 : decode cX12_puts 23 = .ok (.getfield 418, 3) := by decide +kernel
theorem dX12_puts_26 : decode cX12_puts 26 = .ok (.iconst 1, 1) := by decide +kernel
theorem dX12_puts_27 : decode cX12_puts 27 = .ok (.isub, 1) := by decide +kernel
theorem dX12_puts_28 : decode cX12_puts 28 = .ok (.iaload, 1) := by decide +kernel
theorem dX12_puts_29 : decode cX12_puts 29 = .ok (.ireturn, 1) := by decide +kernel
theorem dX12_putsAll_0 : decode cX12_putsAll 0 = .ok (.aload_n 0, 1) := by decide +kernel
theorem dX12_putsAll_1 : decode cX12_putsAll 1 = .ok (.iconst 0, 1) := by decide +kernel
theorem dX12_putsAll_2 : decode cX12_putsAll 2 = .ok (.putfield 418, 3) := by decide +kernel
theorem dX12_putsAll_5 : decode cX12_putsAll 5 = .ok (.aload_n 0, 1) := by decide +kernel
theorem dX12_putsAll_6 : decode cX12_putsAll 6 = .ok (.aload_n 0, 1) := by decide +kernel
theorem dX12_putsAll_7 : decode cX12_putsAll 7 = .ok (.aload_n 1, 1) := by decide +kernel
theorem dX12_putsAll_8 : decode cX12_putsAll 8 = .ok (.aload_n 0, 1) := by decide +kernel
theorem dX12_putsAll_9 : decode cX12_putsAll 9 = .ok (.getfield 219, 3) := by decide +kernel
theorem dX12_putsAll_12 : decode cX12_putsAll 12 = .ok (.iload_n 2, 1) := by decide +kernel
theorem dX12_putsAll_13 : decode cX12_putsAll 13 = .ok (.invokevirtual 421, 3) := by decide +kernel
theorem dX12_putsAll_16 : decode cX12_putsAll 16 = .ok (.putfield 219, 3) := by decide +kernel
theorem dX12_putsAll_19 : decode cX12_putsAll 19 = .ok (.iconst 0, 1) := by decide +kernel
theorem dX12_putsAll_20 : decode cX12_putsAll 20 = .ok (.istore_n 3, 1) := by decide +kernel
theorem dX12_putsAll_21 : decode cX12_putsAll 21 = .ok (.iload_n 3, 1) := by decide +kernel
theorem dX12_putsAll_22 : decode cX12_putsAll 22 = .ok (.bipush 105, 2) := by decide +kernel
theorem dX12_putsAll_24 : decode cX12_putsAll 24 = .ok (.if_icmp .ge 27, 3) := by decide +kernel
theorem dX12_putsAll_27 : decode cX12_putsAll 27 = .ok (.aload_n 0, 1) := by decide +kernel
theorem dX12_putsAll_28 : decode cX12_putsAll 28 = .ok (.getfield 79, 3) := by decide +kernel
theorem dX12_putsAll_31 : decode cX12_putsAll 31 = .ok (.iload_n 3, 1) := by decide +kernel
theorem dX12_putsAll_32 : decode cX12_putsAll 32 = .ok (.aload_n 0, 1) := by decide +kernel
theorem dX12_putsAll_33 : decode cX12_putsAll 33 = .ok (.aload_n 1, 1) := by decide +kernel
theorem dX12_putsAll_34 : decode cX12_putsAll 34 = .ok (.aload_n 0, 1) := by decide +kernel
theorem dX12_putsAll_35 : decode cX12_putsAll 35 = .ok (.getfield 79, 3) := by decide +kernel
theorem dX12_putsAll_38 : decode cX12_putsAll 38 = .ok (.iload_n 3, 1) := by decide +kernel
theorem dX12_putsAll_39 : decode cX12_putsAll 39 = .ok (.iaload, 1) := by decide +kernel
theorem dX12_putsAll_40 : decode cX12_putsAll 40 = .ok (.iload_n 2, 1) := by decide +kernel
theorem dX12_putsAll_41 : decode cX12_putsAll 41 = .ok (.invokevirtual 421, 3) := by decide +kernel
theorem dX12_putsAll_44 : decode cX12_putsAll 44 = .ok (.iastore, 1) := by decide +kernel
theorem dX12_putsAll_45 : decode cX12_putsAll 45 = .ok (.iinc 3 1, 3) := by decide +kernel
theorem dX12_putsAll_48 : decode cX12_putsAll 48 = .ok (.goto (-27), 3) := by decide +kernel
theorem dX12_putsAll_51 : decode cX12_putsAll 51 = .ok (.iconst 0, 1) := by decide +kernel
theorem dX12_putsAll_52 : decode cX12_putsAll 52 = .ok (.istore_n 3, 1) := by decide +kernel
theorem dX12_putsAll_53 : decode cX12_putsAll 53 = .ok (.iload_n 3, 1) := by decide +kernel
theorem dX12_putsAll_54 : decode cX12_putsAll 54 = .ok (.bipush 16, 2) := by decide +kernel
theorem dX12_putsAll_56 : decode cX12_putsAll 56 = .ok (.if_icmp .ge 49, 3) := by decide +kernel
theorem dX12_putsAll_59 : decode cX12_putsAll 59 = .ok (.iconst 0, 1) := by decide +kernel
theorem dX12_putsAll_60 : decode cX12_putsAll 60 = .ok (.istore 4, 2) := by decide +kernel
theorem dX12_putsAll_62 : decode cX12_putsAll 62 = .ok (.iload 4, 2) := by decide +kernel
theorem dX12_putsAll_64 : decode cX12_putsAll 64 = .ok (.bipush 105, 2) := by decide +kernel
theorem dX12_putsAll_66 : decode cX12_putsAll 66 = .ok (.if_icmp .ge 33, 3) := by decide +kernel
theorem dX12_putsAll_69 : decode cX12_putsAll 69 = .ok (.aload_n 0, 1) := by decide +kernel
theorem dX12_putsAll_70 : decode cX12_putsAll 70 = .ok (.getfield 85, 3) := by decide +kernel
theorem dX12_putsAll_73 : decode cX12_putsAll 73 = .ok (.iload_n 3, 1) := by decide +kernel
theorem dX12_putsAll_74 : decode cX12_putsAll 74 = .ok (.aaload, 1) := by decide +kernel
theorem dX12_putsAll_75 : decode cX12_putsAll 75 = .ok (.iload 4, 2) := by decide +kernel
theorem dX12_putsAll_77 : decode cX12_putsAll 77 = .ok (.aload_n 0, 1) := by decide +kernel
theorem dX12_putsAll_78 : decode cX12_putsAll 78 = .ok (.aload_n 1, 1) := by decide +kernel
theorem dX12_putsAll_79 : decode cX12_putsAll 79 = .ok (.aload_n 0, 1) := by decide +kernel
theorem dX12_putsAll_80 : decode cX12_putsAll 80 = .ok (.getfield 85, 3) := by decide +kernel
theorem dX12_putsAll_83 : decode cX12_putsAll 83 = .ok (.iload_n 3, 1) := by decide +kernel
theorem dX12_putsAll_84 : decode cX12_putsAll 84 = .ok (.aaload, 1) := by decide +kernel
theorem dX12_putsAll_85 : decode cX12_putsAll 85 = .ok (.iload 4, 2) := by decide +kernel
theorem dX12_putsAll_87 : decode cX12_putsAll 87 = .ok (.iaload, 1) := by decide +kernel
theorem dX12_putsAll_88 : decode cX12_putsAll 88 = .ok (.iload_n 2, 1) := by decide +kernel
theorem dX12_putsAll_89 : decode cX12_putsAll 89 = .ok (.invokevirtual 421, 3) := by decide +kernel
theorem dX12_putsAll_92 : decode cX12_putsAll 92 = .ok (.iastore, 1) := by decide +kernel
theorem dX12_putsAll_93 : decode cX12_putsAll 93 = .ok (.iinc 4 1, 3) := by decide +kernel
theorem dX12_putsAll_96 : decode cX12_putsAll 96 = .ok (.goto (-34), 3) := by decide +kernel
theorem dX12_putsAll_99 : decode cX12_putsAll 99 = .ok (.iinc 3 1, 3) := by decide +kernel
theorem dX12_putsAll_102 : decode cX12_putsAll 102 = .ok (.goto (-49), 3) := by decide +kernel
theorem dX12_putsAll_105 : decode cX12_putsAll 105 = .ok (.return_, 1) := by decide +kernel
theorem dX12_image_0 : decode cX12_image 0 = .ok (.aload_n 0, 1) := by decide +kernel
theorem dX12_image_1 : decode cX12_image 1 = .ok (.iconst 0, 1) := by decide +kernel
theorem dX12_image_2 : decode cX12_image 2 = .ok (.putfield 116, 3) := by decide +kernel
theorem dX12_image_5 : decode cX12_image 5 = .ok (.aload_n 0, 1) := by decide +kernel
theorem dX12_image_6 : decode cX12_image 6 = .ok (.getfield 225, 3) := by decide +kernel
theorem dX12_image_9 : decode cX12_image 9 = .ok (.iconst 3, 1) := by decide +kernel
theorem dX12_image_10 : decode cX12_image 10 = .ok (.if_icmp .ne 5, 3) := by decide +kernel
theorem dX12_image_13 : decode cX12_image 13 = .ok (.iconst (-1), 1) := by decide +kernel
theorem dX12_image_14 : decode cX12_image 14 = .ok (.ireturn, 1) := by decide +kernel
theorem dX12_image_15 : decode cX12_image 15 = .ok (.aload_n 0, 1) := by decide +kernel
theorem dX12_image_16 : decode cX12_image 16 = .ok (.aload_n 0, 1) := by decide +kernel
theorem dX12_image_17 : decode cX12_image 17 = .ok (.getfield 88, 3) := by decide +kernel
theorem dX12_image_20 : decode cX12_image 20 = .ok (.aload_n 0, 1) := by decide +kernel
theorem dX12_image_21 : decode cX12_image 21 = .ok (.getfield 225, 3) := by decide +kernel
theorem dX12_image_24 : decode cX12_image 24 = .ok (.aaload, 1) := by decide +kernel
theorem dX12_image_25 : decode cX12_image 25 = .ok (.iconst 0, 1) := by decide +kernel
theorem dX12_image_26 : decode cX12_image 26 = .ok (.invokevirtual 425, 3) := by decide +kernel
theorem dX12_image_29 : decode cX12_image 29 = .ok (.aload_n 0, 1) := by decide +kernel
theorem dX12_image_30 : decode cX12_image 30 = .ok (.dup, 1) := by decide +kernel
theorem dX12_image_31 : decode cX12_image 31 = .ok (.getfield 225, 3) := by decide +kernel
theorem dX12_image_34 : decode cX12_image 34 = .ok (.iconst 1, 1) := by decide +kernel
theorem dX12_image_35 : decode cX12_image 35 = .ok (.iadd, 1) := by decide +kernel
theorem dX12_image_36 : decode cX12_image 36 = .ok (.putfield 225, 3) := by decide +kernel
theorem dX12_image_39 : decode cX12_image 39 = .ok (.aload_n 0, 1) := by decide +kernel
theorem dX12_image_40 : decode cX12_image 40 = .ok (.getfield 225, 3) := by decide +kernel
theorem dX12_image_43 : decode cX12_image 43 = .ok (.ireturn, 1) := by decide +kernel
theorem dX12_restore_0 : decode cX12_restore 0 = .ok (.aload_n 0, 1) := by decide +kernel
theorem dX12_restore_1 : decode cX12_restore 1 = .ok (.iconst 0, 1) := by decide +kernel
theorem dX12_restore_2 : decode cX12_restore 2 = .ok (.putfield 116, 3) := by decide +kernel
theorem dX12_restore_5 : decode cX12_restore 5 = .ok (.aload_n 0, 1) := by decide +kernel
theorem dX12_restore_6 : decode cX12_restore 6 = .ok (.getfield 225, 3) := by decide +kernel
theorem dX12_restore_9 : decode cX12_restore 9 = .ok (.ifCond .ne 5, 3) := by decide +kernel
theorem dX12_restore_12 : decode cX12_restore 12 = .ok (.iconst (-1), 1) := by decide +kernel
theorem dX12_restore_13 : decode cX12_restore 13 = .ok (.ireturn, 1) := by decide +kernel
theorem dX12_restore_14 : decode cX12_restore 14 = .ok (.aload_n 0, 1) := by decide +kernel
theorem dX12_restore_15 : decode cX12_restore 15 = .ok (.dup, 1) := by decide +kernel
theorem dX12_restore_16 : decode cX12_restore 16 = .ok (.getfield 225, 3) := by decide +kernel
theorem dX12_restore_19 : decode cX12_restore 19 = .ok (.iconst 1, 1) := by decide +kernel
theorem dX12_restore_20 : decode cX12_restore 20 = .ok (.isub, 1) := by decide +kernel
theorem dX12_restore_21 : decode cX12_restore 21 = .ok (.putfield 225, 3) := by decide +kernel
theorem dX12_restore_24 : decode cX12_restore 24 = .ok (.aload_n 0, 1) := by decide +kernel
theorem dX12_restore_25 : decode cX12_restore 25 = .ok (.aload_n 0, 1) := by decide +kernel
theorem dX12_restore_26 : decode cX12_restore 26 = .ok (.getfield 88, 3) := by decide +kernel
theorem dX12_restore_29 : decode cX12_restore 29 = .ok (.aload_n 0, 1) := by decide +kernel
theorem dX12_restore_30 : decode cX12_restore 30 = .ok (.getfield 225, 3) := by decide +kernel
theorem dX12_restore_33 : decode cX12_restore 33 = .ok (.aaload, 1) := by decide +kernel
theorem dX12_restore_34 : decode cX12_restore 34 = .ok (.iconst 1, 1) := by decide +kernel
theorem dX12_restore_35 : decode cX12_restore 35 = .ok (.invokevirtual 425, 3) := by decide +kernel
theorem dX12_restore_38 : decode cX12_restore 38 = .ok (.aload_n 0, 1) := by decide +kernel
theorem dX12_restore_39 : decode cX12_restore 39 = .ok (.iconst 0, 1) := by decide +kernel
theorem dX12_restore_40 : decode cX12_restore 40 = .ok (.putfield 222, 3) := by decide +kernel
theorem dX12_restore_43 : decode cX12_restore 43 = .ok (.aload_n 0, 1) := by decide +kernel
theorem dX12_restore_44 : decode cX12_restore 44 = .ok (.getfield 225, 3) := by decide +kernel
theorem dX12_restore_47 : decode cX12_restore 47 = .ok (.ireturn, 1) := by decide +kernel
theorem dX12_status_0 : decode cX12_status 0 = .ok (.aload_n 0, 1) := by decide +kernel
theorem dX12_status_1 : decode cX12_status 1 = .ok (.iconst 0, 1) := by decide +kernel
theorem dX12_status_2 : decode cX12_status 2 = .ok (.putfield 116, 3) := by decide +kernel
theorem dX12_status_5 : decode cX12_status 5 = .ok (.iload_n 1, 1) := by decide +kernel
theorem dX12_status_6 : decode cX12_status 6 = .ok (.iconst 0, 1) := by decide +kernel
theorem dX12_status_7 : decode cX12_status 7 = .ok (.iconst 1, 1) := by decide +kernel
theorem dX12_status_8 : decode cX12_status 8 = .ok (.invokestatic 150, 3) := by decide +kernel
theorem dX12_status_11 : decode cX12_status 11 = .ok (.ifCond .eq 12, 3) := by decide +kernel
theorem dX12_status_14 : decode cX12_status 14 = .ok (.aload_n 0, 1) := by decide +kernel
theorem dX12_status_15 : decode cX12_status 15 = .ok (.getfield 17, 3) := by decide +kernel
theorem dX12_status_18 : decode cX12_status 18 = .ok (.iload_n 1, 1) := by decide +kernel
theorem dX12_status_19 : decode cX12_status 19 = .ok (.iaload, 1) := by decide +kernel
theorem dX12_status_20 : decode cX12_status 20 = .ok (.goto 4, 3) := by decide +kernel
theorem dX12_status_23 : decode cX12_status 23 = .ok (.iconst (-1), 1) := by decide +kernel
theorem dX12_status_24 : decode cX12_status 24 = .ok (.ireturn, 1) := by decide +kernel
theorem dX12_count_0 : decode cX12_count 0 = .ok (.aload_n 0, 1) := by decide +kernel
theorem dX12_count_1 : decode cX12_count 1 = .ok (.iconst 0, 1) := by decide +kernel
theorem dX12_count_2 : decode cX12_count 2 = .ok (.putfield 116, 3) := by decide +kernel
theorem dX12_count_5 : decode cX12_count 5 = .ok (.iload_n 1, 1) := by decide +kernel
theorem dX12_count_6 : decode cX12_count 6 = .ok (.ifCond .ne 10, 3) := by decide +kernel
theorem dX12_count_9 : decode cX12_count 9 = .ok (.aload_n 0, 1) := by decide +kernel
theorem dX12_count_10 : decode cX12_count 10 = .ok (.getfield 225, 3) := by decide +kernel
theorem dX12_count_13 : decode cX12_count 13 = .ok (.goto 28, 3) := by decide +kernel
theorem dX12_count_16 : decode cX12_count 16 = .ok (.iload_n 1, 1) := by decide +kernel
theorem dX12_count_17 : decode cX12_count 17 = .ok (.iconst 1, 1) := by decide +kernel
theorem dX12_count_18 : decode cX12_count 18 = .ok (.if_icmp .ne 10, 3) := by decide +kernel
theorem dX12_count_21 : decode cX12_count 21 = .ok (.aload_n 0, 1) := by decide +kernel
theorem dX12_count_22 : decode cX12_count 22 = .ok (.getfield 119, 3) := by decide +kernel
theorem dX12_count_25 : decode cX12_count 25 = .ok (.goto 16, 3) := by decide +kernel
theorem dX12_count_28 : decode cX12_count 28 = .ok (.iload_n 1, 1) := by decide +kernel
theorem dX12_count_29 : decode cX12_count 29 = .ok (.iconst 2, 1) := by decide +kernel
theorem dX12_count_30 : decode cX12_count 30 = .ok (.if_icmp .ne 10, 3) := by decide +kernel
theorem dX12_count_33 : decode cX12_count 33 = .ok (.aload_n 0, 1) := by decide +kernel
theorem dX12_count_34 : decode cX12_count 34 = .ok (.getfield 219, 3) := by decide +kernel
theorem dX12_count_37 : decode cX12_count 37 = .ok (.goto 4, 3) := by decide +kernel
theorem dX12_count_40 : decode cX12_count 40 = .ok (.iconst (-1), 1) := by decide +kernel
theorem dX12_count_41 : decode cX12_count 41 = .ok (.ireturn, 1) := by decide +kernel
theorem dJ6_bitCount_0f7a4_0 : decode cJ6_bitCount_0f7a4 0 = .ok (.iload_n 0, 1) := by decide +kernel
theorem dJ6_bitCount_0f7a4_1 : decode cJ6_bitCount_0f7a4 1 = .ok (.iload_n 0, 1) := by decide +kernel
theorem dJ6_bitCount_0f7a4_2 : decode cJ6_bitCount_0f7a4 2 = .ok (.iconst 1, 1) := by decide +kernel
theorem dJ6_bitCount_0f7a4_3 : decode cJ6_bitCount_0f7a4 3 = .ok (.iushr, 1) := by decide +kernel
theorem dJ6_bitCount_0f7a4_4 : decode cJ6_bitCount_0f7a4 4 = .ok (.ldc_w 265, 3) := by decide +kernel
theorem dJ6_bitCount_0f7a4_7 : decode cJ6_bitCount_0f7a4 7 = .ok (.iand, 1) := by decide +kernel
theorem dJ6_bitCount_0f7a4_8 : decode cJ6_bitCount_0f7a4 8 = .ok (.isub, 1) := by decide +kernel
theorem dJ6_bitCount_0f7a4_9 : decode cJ6_bitCount_0f7a4 9 = .ok (.istore_n 0, 1) := by decide +kernel
theorem dJ6_bitCount_0f7a4_10 : decode cJ6_bitCount_0f7a4 10 = .ok (.iload_n 0, 1) := by decide +kernel
theorem dJ6_bitCount_0f7a4_11 : decode cJ6_bitCount_0f7a4 11 = .ok (.ldc_w 266, 3) := by decide +kernel
theorem dJ6_bitCount_0f7a4_14 : decode cJ6_bitCount_0f7a4 14 = .ok (.iand, 1) := by decide +kernel
theorem dJ6_bitCount_0f7a4_15 : decode cJ6_bitCount_0f7a4 15 = .ok (.iload_n 0, 1) := by decide +kernel
theorem dJ6_bitCount_0f7a4_16 : decode cJ6_bitCount_0f7a4 16 = .ok (.iconst 2, 1) := by decide +kernel
theorem dJ6_bitCount_0f7a4_17 : decode cJ6_bitCount_0f7a4 17 = .ok (.iushr, 1) := by decide +kernel
theorem dJ6_bitCount_0f7a4_18 : decode cJ6_bitCount_0f7a4 18 = .ok (.ldc_w 266, 3) := by decide +kernel
theorem dJ6_bitCount_0f7a4_21 : decode cJ6_bitCount_0f7a4 21 = .ok (.iand, 1) := by decide +kernel
theorem dJ6_bitCount_0f7a4_22 : decode cJ6_bitCount_0f7a4 22 = .ok (.iadd, 1) := by decide +kernel
theorem dJ6_bitCount_0f7a4_23 : decode cJ6_bitCount_0f7a4 23 = .ok (.istore_n 0, 1) := by decide +kernel
theorem dJ6_bitCount_0f7a4_24 : decode cJ6_bitCount_0f7a4 24 = .ok (.iload_n 0, 1) := by decide +kernel
theorem dJ6_bitCount_0f7a4_25 : decode cJ6_bitCount_0f7a4 25 = .ok (.iload_n 0, 1) := by decide +kernel
theorem dJ6_bitCount_0f7a4_26 : decode cJ6_bitCount_0f7a4 26 = .ok (.iconst 4, 1) := by decide +kernel
theorem dJ6_bitCount_0f7a4_27 : decode cJ6_bitCount_0f7a4 27 = .ok (.iushr, 1) := by decide +kernel
theorem dJ6_bitCount_0f7a4_28 : decode cJ6_bitCount_0f7a4 28 = .ok (.iadd, 1) := by decide +kernel
theorem dJ6_bitCount_0f7a4_29 : decode cJ6_bitCount_0f7a4 29 = .ok (.ldc_w 267, 3) := by decide +kernel
theorem dJ6_bitCount_0f7a4_32 : decode cJ6_bitCount_0f7a4 32 = .ok (.iand, 1) := by decide +kernel
theorem dJ6_bitCount_0f7a4_33 : decode cJ6_bitCount_0f7a4 33 = .ok (.istore_n 0, 1) := by decide +kernel
theorem dJ6_bitCount_0f7a4_34 : decode cJ6_bitCount_0f7a4 34 = .ok (.iload_n 0, 1) := by decide +kernel
theorem dJ6_bitCount_0f7a4_35 : decode cJ6_bitCount_0f7a4 35 = .ok (.iload_n 0, 1) := by decide +kernel
theorem dJ6_bitCount_0f7a4_36 : decode cJ6_bitCount_0f7a4 36 = .ok (.bipush 8, 2) := by decide +kernel
theorem dJ6_bitCount_0f7a4_38 : decode cJ6_bitCount_0f7a4 38 = .ok (.iushr, 1) := by decide +kernel
theorem dJ6_bitCount_0f7a4_39 : decode cJ6_bitCount_0f7a4 39 = .ok (.iadd, 1) := by decide +kernel
theorem dJ6_bitCount_0f7a4_40 : decode cJ6_bitCount_0f7a4 40 = .ok (.istore_n 0, 1) := by decide +kernel
theorem dJ6_bitCount_0f7a4_41 : decode cJ6_bitCount_0f7a4 41 = .ok (.iload_n 0, 1) := by decide +kernel
theorem dJ6_bitCount_0f7a4_42 : decode cJ6_bitCount_0f7a4 42 = .ok (.iload_n 0, 1) := by decide +kernel
theorem dJ6_bitCount_0f7a4_43 : decode cJ6_bitCount_0f7a4 43 = .ok (.bipush 16, 2) := by decide +kernel
theorem dJ6_bitCount_0f7a4_45 : decode cJ6_bitCount_0f7a4 45 = .ok (.iushr, 1) := by decide +kernel
theorem dJ6_bitCount_0f7a4_46 : decode cJ6_bitCount_0f7a4 46 = .ok (.iadd, 1) := by decide +kernel
theorem dJ6_bitCount_0f7a4_47 : decode cJ6_bitCount_0f7a4 47 = .ok (.istore_n 0, 1) := by decide +kernel
theorem dJ6_bitCount_0f7a4_48 : decode cJ6_bitCount_0f7a4 48 = .ok (.iload_n 0, 1) := by decide +kernel
theorem dJ6_bitCount_0f7a4_49 : decode cJ6_bitCount_0f7a4 49 = .ok (.bipush 63, 2) := by decide +kernel
theorem dJ6_bitCount_0f7a4_51 : decode cJ6_bitCount_0f7a4 51 = .ok (.iand, 1) := by decide +kernel
theorem dJ6_bitCount_0f7a4_52 : decode cJ6_bitCount_0f7a4 52 = .ok (.ireturn, 1) := by decide +kernel
theorem dJ9_max_7cf53_0 : decode cJ9_max_7cf53 0 = .ok (.iload_n 0, 1) := by decide +kernel
theorem dJ9_max_7cf53_1 : decode cJ9_max_7cf53 1 = .ok (.iload_n 1, 1) := by decide +kernel
theorem dJ9_max_7cf53_2 : decode cJ9_max_7cf53 2 = .ok (.if_icmp .lt 7, 3) := by decide +kernel
theorem dJ9_max_7cf53_5 : decode cJ9_max_7cf53 5 = .ok (.iload_n 0, 1) := by decide +kernel
theorem dJ9_max_7cf53_6 : decode cJ9_max_7cf53 6 = .ok (.goto 4, 3) := by decide +kernel
theorem dJ9_max_7cf53_9 : decode cJ9_max_7cf53 9 = .ok (.iload_n 1, 1) := by decide +kernel
theorem dJ9_max_7cf53_10 : decode cJ9_max_7cf53 10 = .ok (.ireturn, 1) := by decide +kernel
theorem dJ9_min_7cf53_0 : decode cJ9_min_7cf53 0 = .ok (.iload_n 0, 1) := by decide +kernel
theorem dJ9_min_7cf53_1 : decode cJ9_min_7cf53 1 = .ok (.iload_n 1, 1) := by decide +kernel
theorem dJ9_min_7cf53_2 : decode cJ9_min_7cf53 2 = .ok (.if_icmp .gt 7, 3) := by decide +kernel
theorem dJ9_min_7cf53_5 : decode cJ9_min_7cf53 5 = .ok (.iload_n 0, 1) := by decide +kernel
theorem dJ9_min_7cf53_6 : decode cJ9_min_7cf53 6 = .ok (.goto 4, 3) := by decide +kernel
theorem dJ9_min_7cf53_9 : decode cJ9_min_7cf53 9 = .ok (.iload_n 1, 1) := by decide +kernel
theorem dJ9_min_7cf53_10 : decode cJ9_min_7cf53 10 = .ok (.ireturn, 1) := by decide +kernel
theorem dJ0_length_8abf5_0 : decode cJ0_length_8abf5 0 = .ok (.aload_n 0, 1) := by decide +kernel
theorem dJ0_length_8abf5_1 : decode cJ0_length_8abf5 1 = .ok (.getfield 9, 3) := by decide +kernel
theorem dJ0_length_8abf5_4 : decode cJ0_length_8abf5 4 = .ok (.arraylength, 1) := by decide +kernel
theorem dJ0_length_8abf5_5 : decode cJ0_length_8abf5 5 = .ok (.aload_n 0, 1) := by decide +kernel
theorem dJ0_length_8abf5_6 : decode cJ0_length_8abf5 6 = .ok (.invokevirtual 335, 3) := by decide +kernel
theorem dJ0_length_8abf5_9 : decode cJ0_length_8abf5 9 = .ok (.ishr, 1) := by decide +kernel
theorem dJ0_length_8abf5_10 : decode cJ0_length_8abf5 10 = .ok (.ireturn, 1) := by decide +kernel
theorem dJ0_charAt_5068e_0 : decode cJ0_charAt_5068e 0 = .ok (.aload_n 0, 1) := by decide +kernel
theorem dJ0_charAt_5068e_1 : decode cJ0_charAt_5068e 1 = .ok (.invokevirtual 492, 3) := by decide +kernel
theorem dJ0_charAt_5068e_4 : decode cJ0_charAt_5068e 4 = .ok (.ifCond .eq 12, 3) := by decide +kernel
theorem dJ0_charAt_5068e_7 : decode cJ0_charAt_5068e 7 = .ok (.aload_n 0, 1) := by decide +kernel
theorem dJ0_charAt_5068e_8 : decode cJ0_charAt_5068e 8 = .ok (.getfield 9, 3) := by decide +kernel
theorem dJ0_charAt_5068e_11 : decode cJ0_charAt_5068e 11 = .ok (.iload_n 1, 1) := by decide +kernel
theorem dJ0_charAt_5068e_12 : decode cJ0_charAt_5068e 12 = .ok (.invokestatic 495, 3) := by decide +kernel
theorem dJ0_charAt_5068e_15 : decode cJ0_charAt_5068e 15 = .ok (.ireturn, 1) := by decide +kernel
theorem dJ0_charAt_5068e_16 : decode cJ0_charAt_5068e 16 = .ok (.aload_n 0, 1) := by decide +kernel
theorem dJ0_charAt_5068e_17 : decode cJ0_charAt_5068e 17 = .ok (.getfield 9, 3) := by decide +kernel
theorem dJ0_charAt_5068e_20 : decode cJ0_charAt_5068e 20 = .ok (.iload_n 1, 1) := by decide +kernel
theorem dJ0_charAt_5068e_21 : decode cJ0_charAt_5068e 21 = .ok (.invokestatic 498, 3) := by decide +kernel
theorem dJ0_charAt_5068e_24 : decode cJ0_charAt_5068e 24 = .ok (.ireturn, 1) := by decide +kernel
theorem dJ0_coder_7d493_0 : decode cJ0_coder_7d493 0 = .ok (.getstatic 38, 3) := by decide +kernel
theorem dJ0_coder_7d493_3 : decode cJ0_coder_7d493 3 = .ok (.ifCond .eq 10, 3) := by decide +kernel
theorem dJ0_coder_7d493_6 : decode cJ0_coder_7d493 6 = .ok (.aload_n 0, 1) := by decide +kernel
theorem dJ0_coder_7d493_7 : decode cJ0_coder_7d493 7 = .ok (.getfield 15, 3) := by decide +kernel
theorem dJ0_coder_7d493_10 : decode cJ0_coder_7d493 10 = .ok (.goto 4, 3) := by decide +kernel
theorem dJ0_coder_7d493_13 : decode cJ0_coder_7d493 13 = .ok (.iconst 1, 1) := by decide +kernel
theorem dJ0_coder_7d493_14 : decode cJ0_coder_7d493 14 = .ok (.ireturn, 1) := by decide +kernel
theorem dJ0_isLatin1_aae02_0 : decode cJ0_isLatin1_aae02 0 = .ok (.getstatic 38, 3) := by decide +kernel
theorem dJ0_isLatin1_aae02_3 : decode cJ0_isLatin1_aae02 3 = .ok (.ifCond .eq 14, 3) := by decide +kernel
theorem dJ0_isLatin1_aae02_6 : decode cJ0_isLatin1_aae02 6 = .ok (.aload_n 0, 1) := by decide +kernel
theorem dJ0_isLatin1_aae02_7 : decode cJ0_isLatin1_aae02 7 = .ok (.getfield 15, 3) := by decide +kernel
theorem dJ0_isLatin1_aae02_10 : decode cJ0_isLatin1_aae02 10 = .ok (.ifCond .ne 7, 3) := by decide +kernel
theorem dJ0_isLatin1_aae02_13 : decode cJ0_isLatin1_aae02 13 = .ok (.iconst 1, 1) := by decide +kernel
theorem dJ0_isLatin1_aae02_14 : decode cJ0_isLatin1_aae02 14 = .ok (.goto 4, 3) := by decide +kernel
theorem dJ0_isLatin1_aae02_17 : decode cJ0_isLatin1_aae02 17 = .ok (.iconst 0, 1) := by decide +kernel
theorem dJ0_isLatin1_aae02_18 : decode cJ0_isLatin1_aae02 18 = .ok (.ireturn, 1) := by decide +kernel
theorem dJ0_checkIndex_df160_0 : decode cJ0_checkIndex_df160 0 = .ok (.iload_n 0, 1) := by decide +kernel
theorem dJ0_checkIndex_df160_1 : decode cJ0_checkIndex_df160 1 = .ok (.iload_n 1, 1) := by decide +kernel
theorem dJ0_checkIndex_df160_2 : decode cJ0_checkIndex_df160 2 = .ok (.getstatic 1053, 3) := by decide +kernel
theorem dJ0_checkIndex_df160_5 : decode cJ0_checkIndex_df160 5 = .ok (.invokestatic 1059, 3) := by decide +kernel
theorem dJ0_checkIndex_df160_8 : decode cJ0_checkIndex_df160 8 = .ok (.pop, 1) := by decide +kernel
theorem dJ0_checkIndex_df160_9 : decode cJ0_checkIndex_df160 9 = .ok (.return_, 1) := by decide +kernel
theorem dJ1_charAt_3b067_0 : decode cJ1_charAt_3b067 0 = .ok (.iload_n 1, 1) := by decide +kernel
theorem dJ1_charAt_3b067_1 : decode cJ1_charAt_3b067 1 = .ok (.aload_n 0, 1) := by decide +kernel
theorem dJ1_charAt_3b067_2 : decode cJ1_charAt_3b067 2 = .ok (.arraylength, 1) := by decide +kernel
theorem dJ1_charAt_3b067_3 : decode cJ1_charAt_3b067 3 = .ok (.invokestatic 9, 3) := by decide +kernel
theorem dJ1_charAt_3b067_6 : decode cJ1_charAt_3b067 6 = .ok (.aload_n 0, 1) := by decide +kernel
theorem dJ1_charAt_3b067_7 : decode cJ1_charAt_3b067 7 = .ok (.iload_n 1, 1) := by decide +kernel
theorem dJ1_charAt_3b067_8 : decode cJ1_charAt_3b067 8 = .ok (.baload, 1) := by decide +kernel
theorem dJ1_charAt_3b067_9 : decode cJ1_charAt_3b067 9 = .ok (.sipush 255, 3) := by decide +kernel
theorem dJ1_charAt_3b067_12 : decode cJ1_charAt_3b067 12 = .ok (.iand, 1) := by decide +kernel
theorem dJ1_charAt_3b067_13 : decode cJ1_charAt_3b067 13 = .ok (.i2c, 1) := by decide +kernel
theorem dJ1_charAt_3b067_14 : decode cJ1_charAt_3b067 14 = .ok (.ireturn, 1) := by decide +kernel
theorem dJ2_getChar_3b067_0 : decode cJ2_getChar_3b067 0 = .ok (.getstatic 44, 3) := by decide +kernel
theorem dJ2_getChar_3b067_3 : decode cJ2_getChar_3b067 3 = .ok (.ifCond .ne 25, 3) := by decide +kernel
theorem dJ2_getChar_3b067_6 : decode cJ2_getChar_3b067 6 = .ok (.iload_n 1, 1) := by decide +kernel
theorem dJ2_getChar_3b067_7 : decode cJ2_getChar_3b067 7 = .ok (.ifCond .lt 11, 3) := by decide +kernel
theorem dJ2_getChar_3b067_10 : decode cJ2_getChar_3b067 10 = .ok (.iload_n 1, 1) := by decide +kernel
theorem dJ2_getChar_3b067_11 : decode cJ2_getChar_3b067 11 = .ok (.aload_n 0, 1) := by decide +kernel
theorem dJ2_getChar_3b067_12 : decode cJ2_getChar_3b067 12 = .ok (.invokestatic 48, 3) := by decide +kernel
theorem dJ2_getChar_3b067_15 : decode cJ2_getChar_3b067 15 = .ok (.if_icmp .lt 13, 3) := by decide +kernel
theorem dJ2_getChar_3b067_18 : decode cJ2_getChar_3b067 18 = .ok (.new 52, 3) := by decide +kernel
theorem dJ2_getChar_3b067_21 : decode cJ2_getChar_3b067 21 = .ok (.dup, 1) := by decide +kernel
theorem dJ2_getChar_3b067_22 : decode cJ2_getChar_3b067 22 = .ok (.ldc 54, 2) := by decide +kernel
theorem dJ2_getChar_3b067_24 : decode cJ2_getChar_3b067 24 = .ok (.invokespecial 56, 3) := by decide +kernel
theorem dJ2_getChar_3b067_27 : decode cJ2_getChar_3b067 27 = .ok (.athrow, 1) := by decide +kernel
theorem dJ2_getChar_3b067_28 : decode cJ2_getChar_3b067 28 = .ok (.iload_n 1, 1) := by decide +kernel
theorem dJ2_getChar_3b067_29 : decode cJ2_getChar_3b067 29 = .ok (.iconst 1, 1) := by decide +kernel
theorem dJ2_getChar_3b067_30 : decode cJ2_getChar_3b067 30 = .ok (.ishl, 1) := by decide +kernel
theorem dJ2_getChar_3b067_31 : decode cJ2_getChar_3b067 31 = .ok (.istore_n 1, 1) := by decide +kernel
theorem dJ2_getChar_3b067_32 : decode cJ2_getChar_3b067 32 = .ok (.aload_n 0, 1) := by decide +kernel
theorem dJ2_getChar_3b067_33 : decode cJ2_getChar_3b067 33 = .ok (.iload_n 1, 1) := by decide +kernel
theorem dJ2_getChar_3b067_34 : decode cJ2_getChar_3b067 34 = .ok (.iinc 1 1, 3) := by decide +kernel
theorem dJ2_getChar_3b067_37 : decode cJ2_getChar_3b067 37 = .ok (.baload, 1) := by decide +kernel
theorem dJ2_getChar_3b067_38 : decode cJ2_getChar_3b067 38 = .ok (.sipush 255, 3) := by decide +kernel
theorem dJ2_getChar_3b067_41 : decode cJ2_getChar_3b067 41 = .ok (.iand, 1) := by decide +kernel
theorem dJ2_getChar_3b067_42 : decode cJ2_getChar_3b067 42 = .ok (.getstatic 59, 3) := by decide +kernel
theorem dJ2_getChar_3b067_45 : decode cJ2_getChar_3b067 45 = .ok (.ishl, 1) := by decide +kernel
theorem dJ2_getChar_3b067_46 : decode cJ2_getChar_3b067 46 = .ok (.aload_n 0, 1) := by decide +kernel
theorem dJ2_getChar_3b067_47 : decode cJ2_getChar_3b067 47 = .ok (.iload_n 1, 1) := by decide +kernel
theorem dJ2_getChar_3b067_48 : decode cJ2_getChar_3b067 48 = .ok (.baload, 1) := by decide +kernel
theorem dJ2_getChar_3b067_49 : decode cJ2_getChar_3b067 49 = .ok (.sipush 255, 3) := by decide +kernel
theorem dJ2_getChar_3b067_52 : decode cJ2_getChar_3b067 52 = .ok (.iand, 1) := by decide +kernel
theorem dJ2_getChar_3b067_53 : decode cJ2_getChar_3b067 53 = .ok (.getstatic 63, 3) := by decide +kernel
theorem dJ2_getChar_3b067_56 : decode cJ2_getChar_3b067 56 = .ok (.ishl, 1) := by decide +kernel
theorem dJ2_getChar_3b067_57 : decode cJ2_getChar_3b067 57 = .ok (.ior, 1) := by decide +kernel
theorem dJ2_getChar_3b067_58 : decode cJ2_getChar_3b067 58 = .ok (.i2c, 1) := by decide +kernel
theorem dJ2_getChar_3b067_59 : decode cJ2_getChar_3b067 59 = .ok (.ireturn, 1) := by decide +kernel
theorem dJ2_length_9d52b_0 : decode cJ2_length_9d52b 0 = .ok (.aload_n 0, 1) := by decide +kernel
theorem dJ2_length_9d52b_1 : decode cJ2_length_9d52b 1 = .ok (.arraylength, 1) := by decide +kernel
theorem dJ2_length_9d52b_2 : decode cJ2_length_9d52b 2 = .ok (.iconst 1, 1) := by decide +kernel
theorem dJ2_length_9d52b_3 : decode cJ2_length_9d52b 3 = .ok (.ishr, 1) := by decide +kernel
theorem dJ2_length_9d52b_4 : decode cJ2_length_9d52b 4 = .ok (.ireturn, 1) := by decide +kernel
theorem dJ2_charAt_3b067_0 : decode cJ2_charAt_3b067 0 = .ok (.iload_n 1, 1) := by decide +kernel
theorem dJ2_charAt_3b067_1 : decode cJ2_charAt_3b067 1 = .ok (.aload_n 0, 1) := by decide +kernel
theorem dJ2_charAt_3b067_2 : decode cJ2_charAt_3b067 2 = .ok (.invokestatic 67, 3) := by decide +kernel
theorem dJ2_charAt_3b067_5 : decode cJ2_charAt_3b067 5 = .ok (.aload_n 0, 1) := by decide +kernel
theorem dJ2_charAt_3b067_6 : decode cJ2_charAt_3b067 6 = .ok (.iload_n 1, 1) := by decide +kernel
theorem dJ2_charAt_3b067_7 : decode cJ2_charAt_3b067 7 = .ok (.invokestatic 71, 3) := by decide +kernel
theorem dJ2_charAt_3b067_10 : decode cJ2_charAt_3b067 10 = .ok (.ireturn, 1) := by decide +kernel
theorem dJ2_checkIndex_2214a_0 : decode cJ2_checkIndex_2214a 0 = .ok (.iload_n 0, 1) := by decide +kernel
theorem dJ2_checkIndex_2214a_1 : decode cJ2_checkIndex_2214a 1 = .ok (.aload_n 1, 1) := by decide +kernel
theorem dJ2_checkIndex_2214a_2 : decode cJ2_checkIndex_2214a 2 = .ok (.invokestatic 48, 3) := by decide +kernel
theorem dJ2_checkIndex_2214a_5 : decode cJ2_checkIndex_2214a 5 = .ok (.invokestatic 414, 3) := by decide +kernel
theorem dJ2_checkIndex_2214a_8 : decode cJ2_checkIndex_2214a 8 = .ok (.return_, 1) := by decide +kernel
theorem dJ3_checkIndex_8e157_0 : decode cJ3_checkIndex_8e157 0 = .ok (.iload_n 0, 1) := by decide +kernel
theorem dJ3_checkIndex_8e157_1 : decode cJ3_checkIndex_8e157 1 = .ok (.ifCond .lt 8, 3) := by decide +kernel
theorem dJ3_checkIndex_8e157_4 : decode cJ3_checkIndex_8e157 4 = .ok (.iload_n 0, 1) := by decide +kernel
theorem dJ3_checkIndex_8e157_5 : decode cJ3_checkIndex_8e157 5 = .ok (.iload_n 1, 1) := by decide +kernel
theorem dJ3_checkIndex_8e157_6 : decode cJ3_checkIndex_8e157 6 = .ok (.if_icmp .lt 10, 3) := by decide +kernel
theorem dJ3_checkIndex_8e157_9 : decode cJ3_checkIndex_8e157 9 = .ok (.aload_n 2, 1) := by decide +kernel
theorem dJ3_checkIndex_8e157_10 : decode cJ3_checkIndex_8e157 10 = .ok (.iload_n 0, 1) := by decide +kernel
theorem dJ3_checkIndex_8e157_11 : decode cJ3_checkIndex_8e157 11 = .ok (.iload_n 1, 1) := by decide +kernel
theorem dJ3_checkIndex_8e157_12 : decode cJ3_checkIndex_8e157 12 = .ok (.invokestatic 95, 3) := by decide +kernel
theorem dJ3_checkIndex_8e157_15 : decode cJ3_checkIndex_8e157 15 = .ok (.athrow, 1) := by decide +kernel
theorem dJ3_checkIndex_8e157_16 : decode cJ3_checkIndex_8e157 16 = .ok (.iload_n 0, 1) := by decide +kernel
theorem dJ3_checkIndex_8e157_17 : decode cJ3_checkIndex_8e157 17 = .ok (.ireturn, 1) := by decide +kernel
theorem dL_port_0 : decode cL_port 0 = .ok (.aload_n 2, 1) := by decide +kernel
theorem dL_port_1 : decode cL_port 1 = .ok (.iconst 0, 1) := by decide +kernel
theorem dL_port_2 : decode cL_port 2 = .ok (.aload_n 0, 1) := by decide +kernel
theorem dL_port_3 : decode cL_port 3 = .ok (.iload_n 1, 1) := by decide +kernel
theorem dL_port_4 : decode cL_port 4 = .ok (.invokevirtual 7, 3) := by decide +kernel
theorem dL_port_7 : decode cL_port 7 = .ok (.i2l, 1) := by decide +kernel
theorem dL_port_8 : decode cL_port 8 = .ok (.lastore, 1) := by decide +kernel
theorem dL_port_9 : decode cL_port 9 = .ok (.goto 6, 3) := by decide +kernel
theorem dL_port_12 : decode cL_port 12 = .ok (.astore_n 3, 1) := by decide +kernel
theorem dL_port_13 : decode cL_port 13 = .ok (.iconst 1, 1) := by decide +kernel
theorem dL_port_14 : decode cL_port 14 = .ok (.ireturn, 1) := by decide +kernel
theorem dL_port_15 : decode cL_port 15 = .ok (.iconst 0, 1) := by decide +kernel
theorem dL_port_16 : decode cL_port 16 = .ok (.ireturn, 1) := by decide +kernel
theorem dL_law_0 : decode cL_law 0 = .ok (.aload_n 2, 1) := by decide +kernel
theorem dL_law_1 : decode cL_law 1 = .ok (.iconst 0, 1) := by decide +kernel
theorem dL_law_2 : decode cL_law 2 = .ok (.aload_n 0, 1) := by decide +kernel
theorem dL_law_3 : decode cL_law 3 = .ok (.iload_n 1, 1) := by decide +kernel
theorem dL_law_4 : decode cL_law 4 = .ok (.invokevirtual 15, 3) := by decide +kernel
theorem dL_law_7 : decode cL_law 7 = .ok (.i2l, 1) := by decide +kernel
theorem dL_law_8 : decode cL_law 8 = .ok (.lastore, 1) := by decide +kernel
theorem dL_law_9 : decode cL_law 9 = .ok (.goto 6, 3) := by decide +kernel
theorem dL_law_12 : decode cL_law 12 = .ok (.astore_n 3, 1) := by decide +kernel
theorem dL_law_13 : decode cL_law 13 = .ok (.iconst 1, 1) := by decide +kernel
theorem dL_law_14 : decode cL_law 14 = .ok (.ireturn, 1) := by decide +kernel
theorem dL_law_15 : decode cL_law 15 = .ok (.iconst 0, 1) := by decide +kernel
theorem dL_law_16 : decode cL_law 16 = .ok (.ireturn, 1) := by decide +kernel
theorem dL_work_0 : decode cL_work 0 = .ok (.aload_n 2, 1) := by decide +kernel
theorem dL_work_1 : decode cL_work 1 = .ok (.iconst 0, 1) := by decide +kernel
theorem dL_work_2 : decode cL_work 2 = .ok (.aload_n 0, 1) := by decide +kernel
theorem dL_work_3 : decode cL_work 3 = .ok (.iload_n 1, 1) := by decide +kernel
theorem dL_work_4 : decode cL_work 4 = .ok (.invokevirtual 18, 3) := by decide +kernel
theorem dL_work_7 : decode cL_work 7 = .ok (.i2l, 1) := by decide +kernel
theorem dL_work_8 : decode cL_work 8 = .ok (.lastore, 1) := by decide +kernel
theorem dL_work_9 : decode cL_work 9 = .ok (.goto 6, 3) := by decide +kernel
theorem dL_work_12 : decode cL_work 12 = .ok (.astore_n 3, 1) := by decide +kernel
theorem dL_work_13 : decode cL_work 13 = .ok (.iconst 1, 1) := by decide +kernel
theorem dL_work_14 : decode cL_work 14 = .ok (.ireturn, 1) := by decide +kernel
theorem dL_work_15 : decode cL_work 15 = .ok (.iconst 0, 1) := by decide +kernel
theorem dL_work_16 : decode cL_work 16 = .ok (.ireturn, 1) := by decide +kernel
theorem dL_deeds_0 : decode cL_deeds 0 = .ok (.aload_n 2, 1) := by decide +kernel
theorem dL_deeds_1 : decode cL_deeds 1 = .ok (.iconst 0, 1) := by decide +kernel
theorem dL_deeds_2 : decode cL_deeds 2 = .ok (.aload_n 0, 1) := by decide +kernel
theorem dL_deeds_3 : decode cL_deeds 3 = .ok (.iload_n 1, 1) := by decide +kernel
theorem dL_deeds_4 : decode cL_deeds 4 = .ok (.invokevirtual 21, 3) := by decide +kernel
theorem dL_deeds_7 : decode cL_deeds 7 = .ok (.i2l, 1) := by decide +kernel
theorem dL_deeds_8 : decode cL_deeds 8 = .ok (.lastore, 1) := by decide +kernel
theorem dL_deeds_9 : decode cL_deeds 9 = .ok (.goto 6, 3) := by decide +kernel
theorem dL_deeds_12 : decode cL_deeds 12 = .ok (.astore_n 3, 1) := by decide +kernel
theorem dL_deeds_13 : decode cL_deeds 13 = .ok (.iconst 1, 1) := by decide +kernel
theorem dL_deeds_14 : decode cL_deeds 14 = .ok (.ireturn, 1) := by decide +kernel
theorem dL_deeds_15 : decode cL_deeds 15 = .ok (.iconst 0, 1) := by decide +kernel
theorem dL_deeds_16 : decode cL_deeds 16 = .ok (.ireturn, 1) := by decide +kernel
theorem dL_told_0 : decode cL_told 0 = .ok (.aload_n 2, 1) := by decide +kernel
theorem dL_told_1 : decode cL_told 1 = .ok (.iconst 0, 1) := by decide +kernel
theorem dL_told_2 : decode cL_told 2 = .ok (.aload_n 0, 1) := by decide +kernel
theorem dL_told_3 : decode cL_told 3 = .ok (.iload_n 1, 1) := by decide +kernel
theorem dL_told_4 : decode cL_told 4 = .ok (.invokevirtual 24, 3) := by decide +kernel
theorem dL_told_7 : decode cL_told 7 = .ok (.i2l, 1) := by decide +kernel
theorem dL_told_8 : decode cL_told 8 = .ok (.lastore, 1) := by decide +kernel
theorem dL_told_9 : decode cL_told 9 = .ok (.goto 6, 3) := by decide +kernel
theorem dL_told_12 : decode cL_told 12 = .ok (.astore_n 3, 1) := by decide +kernel
theorem dL_told_13 : decode cL_told 13 = .ok (.iconst 1, 1) := by decide +kernel
theorem dL_told_14 : decode cL_told 14 = .ok (.ireturn, 1) := by decide +kernel
theorem dL_told_15 : decode cL_told 15 = .ok (.iconst 0, 1) := by decide +kernel
theorem dL_told_16 : decode cL_told 16 = .ok (.ireturn, 1) := by decide +kernel
theorem dL_row_0 : decode cL_row 0 = .ok (.aload_n 3, 1) := by decide +kernel
theorem dL_row_1 : decode cL_row 1 = .ok (.iconst 0, 1) := by decide +kernel
theorem dL_row_2 : decode cL_row 2 = .ok (.aload_n 0, 1) := by decide +kernel
theorem dL_row_3 : decode cL_row 3 = .ok (.iload_n 1, 1) := by decide +kernel
theorem dL_row_4 : decode cL_row 4 = .ok (.iload_n 2, 1) := by decide +kernel
theorem dL_row_5 : decode cL_row 5 = .ok (.invokevirtual 27, 3) := by decide +kernel
theorem dL_row_8 : decode cL_row 8 = .ok (.i2l, 1) := by decide +kernel
theorem dL_row_9 : decode cL_row 9 = .ok (.lastore, 1) := by decide +kernel
theorem dL_row_10 : decode cL_row 10 = .ok (.goto 11, 3) := by decide +kernel
theorem dL_row_13 : decode cL_row 13 = .ok (.astore 4, 2) := by decide +kernel
theorem dL_row_15 : decode cL_row 15 = .ok (.iconst 1, 1) := by decide +kernel
theorem dL_row_16 : decode cL_row 16 = .ok (.ireturn, 1) := by decide +kernel
theorem dL_row_17 : decode cL_row 17 = .ok (.astore 4, 2) := by decide +kernel
theorem dL_row_19 : decode cL_row 19 = .ok (.iconst 2, 1) := by decide +kernel
theorem dL_row_20 : decode cL_row 20 = .ok (.ireturn, 1) := by decide +kernel
theorem dL_row_21 : decode cL_row 21 = .ok (.iconst 0, 1) := by decide +kernel
theorem dL_row_22 : decode cL_row 22 = .ok (.ireturn, 1) := by decide +kernel
theorem dL_bid_0 : decode cL_bid 0 = .ok (.aload_n 3, 1) := by decide +kernel
theorem dL_bid_1 : decode cL_bid 1 = .ok (.iconst 0, 1) := by decide +kernel
theorem dL_bid_2 : decode cL_bid 2 = .ok (.aload_n 0, 1) := by decide +kernel
theorem dL_bid_3 : decode cL_bid 3 = .ok (.iload_n 1, 1) := by decide +kernel
theorem dL_bid_4 : decode cL_bid 4 = .ok (.iload_n 2, 1) := by decide +kernel
theorem dL_bid_5 : decode cL_bid 5 = .ok (.invokevirtual 33, 3) := by decide +kernel
theorem dL_bid_8 : decode cL_bid 8 = .ok (.i2l, 1) := by decide +kernel
theorem dL_bid_9 : decode cL_bid 9 = .ok (.lastore, 1) := by decide +kernel
theorem dL_bid_10 : decode cL_bid 10 = .ok (.goto 11, 3) := by decide +kernel
theorem dL_bid_13 : decode cL_bid 13 = .ok (.astore 4, 2) := by decide +kernel
theorem dL_bid_15 : decode cL_bid 15 = .ok (.iconst 1, 1) := by decide +kernel
theorem dL_bid_16 : decode cL_bid 16 = .ok (.ireturn, 1) := by decide +kernel
theorem dL_bid_17 : decode cL_bid 17 = .ok (.astore 4, 2) := by decide +kernel
theorem dL_bid_19 : decode cL_bid 19 = .ok (.iconst 2, 1) := by decide +kernel
theorem dL_bid_20 : decode cL_bid 20 = .ok (.ireturn, 1) := by decide +kernel
theorem dL_bid_21 : decode cL_bid 21 = .ok (.iconst 0, 1) := by decide +kernel
theorem dL_bid_22 : decode cL_bid 22 = .ok (.ireturn, 1) := by decide +kernel
theorem dL_writer_0 : decode cL_writer 0 = .ok (.aload_n 3, 1) := by decide +kernel
theorem dL_writer_1 : decode cL_writer 1 = .ok (.iconst 0, 1) := by decide +kernel
theorem dL_writer_2 : decode cL_writer 2 = .ok (.aload_n 0, 1) := by decide +kernel
theorem dL_writer_3 : decode cL_writer 3 = .ok (.iload_n 1, 1) := by decide +kernel
theorem dL_writer_4 : decode cL_writer 4 = .ok (.iload_n 2, 1) := by decide +kernel
theorem dL_writer_5 : decode cL_writer 5 = .ok (.invokevirtual 36, 3) := by decide +kernel
theorem dL_writer_8 : decode cL_writer 8 = .ok (.i2l, 1) := by decide +kernel
theorem dL_writer_9 : decode cL_writer 9 = .ok (.lastore, 1) := by decide +kernel
theorem dL_writer_10 : decode cL_writer 10 = .ok (.goto 11, 3) := by decide +kernel
theorem dL_writer_13 : decode cL_writer 13 = .ok (.astore 4, 2) := by decide +kernel
theorem dL_writer_15 : decode cL_writer 15 = .ok (.iconst 1, 1) := by decide +kernel
theorem dL_writer_16 : decode cL_writer 16 = .ok (.ireturn, 1) := by decide +kernel
theorem dL_writer_17 : decode cL_writer 17 = .ok (.astore 4, 2) := by decide +kernel
theorem dL_writer_19 : decode cL_writer 19 = .ok (.iconst 2, 1) := by decide +kernel
theorem dL_writer_20 : decode cL_writer 20 = .ok (.ireturn, 1) := by decide +kernel
theorem dL_writer_21 : decode cL_writer 21 = .ok (.iconst 0, 1) := by decide +kernel
theorem dL_writer_22 : decode cL_writer 22 = .ok (.ireturn, 1) := by decide +kernel
theorem dL_line_0 : decode cL_line 0 = .ok (.aload_n 3, 1) := by decide +kernel
theorem dL_line_1 : decode cL_line 1 = .ok (.iconst 0, 1) := by decide +kernel
theorem dL_line_2 : decode cL_line 2 = .ok (.aload_n 0, 1) := by decide +kernel
theorem dL_line_3 : decode cL_line 3 = .ok (.iload_n 1, 1) := by decide +kernel
theorem dL_line_4 : decode cL_line 4 = .ok (.iload_n 2, 1) := by decide +kernel
theorem dL_line_5 : decode cL_line 5 = .ok (.invokevirtual 39, 3) := by decide +kernel
theorem dL_line_8 : decode cL_line 8 = .ok (.i2l, 1) := by decide +kernel
theorem dL_line_9 : decode cL_line 9 = .ok (.lastore, 1) := by decide +kernel
theorem dL_line_10 : decode cL_line 10 = .ok (.goto 11, 3) := by decide +kernel
theorem dL_line_13 : decode cL_line 13 = .ok (.astore 4, 2) := by decide +kernel
theorem dL_line_15 : decode cL_line 15 = .ok (.iconst 1, 1) := by decide +kernel
theorem dL_line_16 : decode cL_line 16 = .ok (.ireturn, 1) := by decide +kernel
theorem dL_line_17 : decode cL_line 17 = .ok (.astore 4, 2) := by decide +kernel
theorem dL_line_19 : decode cL_line 19 = .ok (.iconst 2, 1) := by decide +kernel
theorem dL_line_20 : decode cL_line 20 = .ok (.ireturn, 1) := by decide +kernel
theorem dL_line_21 : decode cL_line 21 = .ok (.iconst 0, 1) := by decide +kernel
theorem dL_line_22 : decode cL_line 22 = .ok (.ireturn, 1) := by decide +kernel
theorem dL_kin_0 : decode cL_kin 0 = .ok (.aload_n 2, 1) := by decide +kernel
theorem dL_kin_1 : decode cL_kin 1 = .ok (.iconst 0, 1) := by decide +kernel
theorem dL_kin_2 : decode cL_kin 2 = .ok (.aload_n 0, 1) := by decide +kernel
theorem dL_kin_3 : decode cL_kin 3 = .ok (.iload_n 1, 1) := by decide +kernel
theorem dL_kin_4 : decode cL_kin 4 = .ok (.invokevirtual 42, 3) := by decide +kernel
theorem dL_kin_7 : decode cL_kin 7 = .ok (.i2l, 1) := by decide +kernel
theorem dL_kin_8 : decode cL_kin 8 = .ok (.lastore, 1) := by decide +kernel
theorem dL_kin_9 : decode cL_kin 9 = .ok (.goto 6, 3) := by decide +kernel
theorem dL_kin_12 : decode cL_kin 12 = .ok (.astore_n 3, 1) := by decide +kernel
theorem dL_kin_13 : decode cL_kin 13 = .ok (.iconst 1, 1) := by decide +kernel
theorem dL_kin_14 : decode cL_kin 14 = .ok (.ireturn, 1) := by decide +kernel
theorem dL_kin_15 : decode cL_kin 15 = .ok (.iconst 0, 1) := by decide +kernel
theorem dL_kin_16 : decode cL_kin 16 = .ok (.ireturn, 1) := by decide +kernel
theorem dL_would_0 : decode cL_would 0 = .ok (.aload 9, 2) := by decide +kernel
theorem dL_would_2 : decode cL_would 2 = .ok (.iconst 0, 1) := by decide +kernel
theorem dL_would_3 : decode cL_would 3 = .ok (.aload_n 0, 1) := by decide +kernel
theorem dL_would_4 : decode cL_would 4 = .ok (.iload_n 1, 1) := by decide +kernel
theorem dL_would_5 : decode cL_would 5 = .ok (.iload_n 2, 1) := by decide +kernel
theorem dL_would_6 : decode cL_would 6 = .ok (.iload_n 3, 1) := by decide +kernel
theorem dL_would_7 : decode cL_would 7 = .ok (.iload 4, 2) := by decide +kernel
theorem dL_would_9 : decode cL_would 9 = .ok (.iload 5, 2) := by decide +kernel
theorem dL_would_11 : decode cL_would 11 = .ok (.iload 6, 2) := by decide +kernel
theorem dL_would_13 : decode cL_would 13 = .ok (.iload 7, 2) := by decide +kernel
theorem dL_would_15 : decode cL_would 15 = .ok (.iload 8, 2) := by decide +kernel
theorem dL_would_17 : decode cL_would 17 = .ok (.invokevirtual 45, 3) := by decide +kernel
theorem dL_would_20 : decode cL_would 20 = .ok (.i2l, 1) := by decide +kernel
theorem dL_would_21 : decode cL_would 21 = .ok (.lastore, 1) := by decide +kernel
theorem dL_would_22 : decode cL_would 22 = .ok (.goto 7, 3) := by decide +kernel
theorem dL_would_25 : decode cL_would 25 = .ok (.astore 10, 2) := by decide +kernel
theorem dL_would_27 : decode cL_would 27 = .ok (.iconst 1, 1) := by decide +kernel
theorem dL_would_28 : decode cL_would 28 = .ok (.ireturn, 1) := by decide +kernel
theorem dL_would_29 : decode cL_would 29 = .ok (.iconst 0, 1) := by decide +kernel
theorem dL_would_30 : decode cL_would 30 = .ok (.ireturn, 1) := by decide +kernel
theorem dL_force_0 : decode cL_force 0 = .ok (.aload_n 3, 1) := by decide +kernel
theorem dL_force_1 : decode cL_force 1 = .ok (.iconst 0, 1) := by decide +kernel
theorem dL_force_2 : decode cL_force 2 = .ok (.aload_n 0, 1) := by decide +kernel
theorem dL_force_3 : decode cL_force 3 = .ok (.iload_n 1, 1) := by decide +kernel
theorem dL_force_4 : decode cL_force 4 = .ok (.iload_n 2, 1) := by decide +kernel
theorem dL_force_5 : decode cL_force 5 = .ok (.invokevirtual 49, 3) := by decide +kernel
theorem dL_force_8 : decode cL_force 8 = .ok (.i2l, 1) := by decide +kernel
theorem dL_force_9 : decode cL_force 9 = .ok (.lastore, 1) := by decide +kernel
theorem dL_force_10 : decode cL_force 10 = .ok (.goto 7, 3) := by decide +kernel
theorem dL_force_13 : decode cL_force 13 = .ok (.astore 4, 2) := by decide +kernel
theorem dL_force_15 : decode cL_force 15 = .ok (.iconst 1, 1) := by decide +kernel
theorem dL_force_16 : decode cL_force 16 = .ok (.ireturn, 1) := by decide +kernel
theorem dL_force_17 : decode cL_force 17 = .ok (.iconst 0, 1) := by decide +kernel
theorem dL_force_18 : decode cL_force 18 = .ok (.ireturn, 1) := by decide +kernel
theorem dL_can_0 : decode cL_can 0 = .ok (.aload 4, 2) := by decide +kernel
theorem dL_can_2 : decode cL_can 2 = .ok (.iconst 0, 1) := by decide +kernel
theorem dL_can_3 : decode cL_can 3 = .ok (.aload_n 0, 1) := by decide +kernel
theorem dL_can_4 : decode cL_can 4 = .ok (.iload_n 1, 1) := by decide +kernel
theorem dL_can_5 : decode cL_can 5 = .ok (.iload_n 2, 1) := by decide +kernel
theorem dL_can_6 : decode cL_can 6 = .ok (.iload_n 3, 1) := by decide +kernel
theorem dL_can_7 : decode cL_can 7 = .ok (.invokevirtual 52, 3) := by decide +kernel
theorem dL_can_10 : decode cL_can 10 = .ok (.ifCond .eq 7, 3) := by decide +kernel
theorem dL_can_13 : decode cL_can 13 = .ok (.lconst 1, 1) := by decide +kernel
theorem dL_can_14 : decode cL_can 14 = .ok (.goto 4, 3) := by decide +kernel
theorem dL_can_17 : decode cL_can 17 = .ok (.lconst 0, 1) := by decide +kernel
theorem dL_can_18 : decode cL_can 18 = .ok (.lastore, 1) := by decide +kernel
theorem dL_can_19 : decode cL_can 19 = .ok (.goto 7, 3) := by decide +kernel
theorem dL_can_22 : decode cL_can 22 = .ok (.astore 5, 2) := by decide +kernel
theorem dL_can_24 : decode cL_can 24 = .ok (.iconst 1, 1) := by decide +kernel
theorem dL_can_25 : decode cL_can 25 = .ok (.ireturn, 1) := by decide +kernel
theorem dL_can_26 : decode cL_can 26 = .ok (.iconst 0, 1) := by decide +kernel
theorem dL_can_27 : decode cL_can 27 = .ok (.ireturn, 1) := by decide +kernel
theorem dL_send_0 : decode cL_send 0 = .ok (.aload_n 2, 1) := by decide +kernel
theorem dL_send_1 : decode cL_send 1 = .ok (.iconst 0, 1) := by decide +kernel
theorem dL_send_2 : decode cL_send 2 = .ok (.aload_n 0, 1) := by decide +kernel
theorem dL_send_3 : decode cL_send 3 = .ok (.iload_n 1, 1) := by decide +kernel
theorem dL_send_4 : decode cL_send 4 = .ok (.invokevirtual 56, 3) := by decide +kernel
theorem dL_send_7 : decode cL_send 7 = .ok (.i2l, 1) := by decide +kernel
theorem dL_send_8 : decode cL_send 8 = .ok (.lastore, 1) := by decide +kernel
theorem dL_send_9 : decode cL_send 9 = .ok (.goto 6, 3) := by decide +kernel
theorem dL_send_12 : decode cL_send 12 = .ok (.astore_n 3, 1) := by decide +kernel
theorem dL_send_13 : decode cL_send 13 = .ok (.iconst 1, 1) := by decide +kernel
theorem dL_send_14 : decode cL_send 14 = .ok (.ireturn, 1) := by decide +kernel
theorem dL_send_15 : decode cL_send 15 = .ok (.iconst 0, 1) := by decide +kernel
theorem dL_send_16 : decode cL_send 16 = .ok (.ireturn, 1) := by decide +kernel
theorem dL_lost_0 : decode cL_lost 0 = .ok (.aload_n 2, 1) := by decide +kernel
theorem dL_lost_1 : decode cL_lost 1 = .ok (.iconst 0, 1) := by decide +kernel
theorem dL_lost_2 : decode cL_lost 2 = .ok (.aload_n 0, 1) := by decide +kernel
theorem dL_lost_3 : decode cL_lost 3 = .ok (.iload_n 1, 1) := by decide +kernel
theorem dL_lost_4 : decode cL_lost 4 = .ok (.invokevirtual 59, 3) := by decide +kernel
theorem dL_lost_7 : decode cL_lost 7 = .ok (.i2l, 1) := by decide +kernel
theorem dL_lost_8 : decode cL_lost 8 = .ok (.lastore, 1) := by decide +kernel
theorem dL_lost_9 : decode cL_lost 9 = .ok (.goto 6, 3) := by decide +kernel
theorem dL_lost_12 : decode cL_lost 12 = .ok (.astore_n 3, 1) := by decide +kernel
theorem dL_lost_13 : decode cL_lost 13 = .ok (.iconst 1, 1) := by decide +kernel
theorem dL_lost_14 : decode cL_lost 14 = .ok (.ireturn, 1) := by decide +kernel
theorem dL_lost_15 : decode cL_lost 15 = .ok (.iconst 0, 1) := by decide +kernel
theorem dL_lost_16 : decode cL_lost 16 = .ok (.ireturn, 1) := by decide +kernel
theorem dL_path_0 : decode cL_path 0 = .ok (.aload_n 3, 1) := by decide +kernel
theorem dL_path_1 : decode cL_path 1 = .ok (.iconst 0, 1) := by decide +kernel
theorem dL_path_2 : decode cL_path 2 = .ok (.aload_n 0, 1) := by decide +kernel
theorem dL_path_3 : decode cL_path 3 = .ok (.iload_n 1, 1) := by decide +kernel
theorem dL_path_4 : decode cL_path 4 = .ok (.iload_n 2, 1) := by decide +kernel
theorem dL_path_5 : decode cL_path 5 = .ok (.invokevirtual 62, 3) := by decide +kernel
theorem dL_path_8 : decode cL_path 8 = .ok (.i2l, 1) := by decide +kernel
theorem dL_path_9 : decode cL_path 9 = .ok (.lastore, 1) := by decide +kernel
theorem dL_path_10 : decode cL_path 10 = .ok (.goto 7, 3) := by decide +kernel
theorem dL_path_13 : decode cL_path 13 = .ok (.astore 4, 2) := by decide +kernel
theorem dL_path_15 : decode cL_path 15 = .ok (.iconst 1, 1) := by decide +kernel
theorem dL_path_16 : decode cL_path 16 = .ok (.ireturn, 1) := by decide +kernel
theorem dL_path_17 : decode cL_path 17 = .ok (.iconst 0, 1) := by decide +kernel
theorem dL_path_18 : decode cL_path 18 = .ok (.ireturn, 1) := by decide +kernel
theorem dL_comes_0 : decode cL_comes 0 = .ok (.aload_n 2, 1) := by decide +kernel
theorem dL_comes_1 : decode cL_comes 1 = .ok (.iconst 0, 1) := by decide +kernel
theorem dL_comes_2 : decode cL_comes 2 = .ok (.aload_n 0, 1) := by decide +kernel
theorem dL_comes_3 : decode cL_comes 3 = .ok (.iload_n 1, 1) := by decide +kernel
theorem dL_comes_4 : decode cL_comes 4 = .ok (.invokevirtual 65, 3) := by decide +kernel
theorem dL_comes_7 : decode cL_comes 7 = .ok (.i2l, 1) := by decide +kernel
theorem dL_comes_8 : decode cL_comes 8 = .ok (.lastore, 1) := by decide +kernel
theorem dL_comes_9 : decode cL_comes 9 = .ok (.goto 6, 3) := by decide +kernel
theorem dL_comes_12 : decode cL_comes 12 = .ok (.astore_n 3, 1) := by decide +kernel
theorem dL_comes_13 : decode cL_comes 13 = .ok (.iconst 1, 1) := by decide +kernel
theorem dL_comes_14 : decode cL_comes 14 = .ok (.ireturn, 1) := by decide +kernel
theorem dL_comes_15 : decode cL_comes 15 = .ok (.iconst 0, 1) := by decide +kernel
theorem dL_comes_16 : decode cL_comes 16 = .ok (.ireturn, 1) := by decide +kernel
theorem dL_fits_0 : decode cL_fits 0 = .ok (.aload_n 2, 1) := by decide +kernel
theorem dL_fits_1 : decode cL_fits 1 = .ok (.iconst 0, 1) := by decide +kernel
theorem dL_fits_2 : decode cL_fits 2 = .ok (.aload_n 0, 1) := by decide +kernel
theorem dL_fits_3 : decode cL_fits 3 = .ok (.iload_n 1, 1) := by decide +kernel
theorem dL_fits_4 : decode cL_fits 4 = .ok (.invokevirtual 68, 3) := by decide +kernel
theorem dL_fits_7 : decode cL_fits 7 = .ok (.i2l, 1) := by decide +kernel
theorem dL_fits_8 : decode cL_fits 8 = .ok (.lastore, 1) := by decide +kernel
theorem dL_fits_9 : decode cL_fits 9 = .ok (.goto 6, 3) := by decide +kernel
theorem dL_fits_12 : decode cL_fits 12 = .ok (.astore_n 3, 1) := by decide +kernel
theorem dL_fits_13 : decode cL_fits 13 = .ok (.iconst 1, 1) := by decide +kernel
theorem dL_fits_14 : decode cL_fits 14 = .ok (.ireturn, 1) := by decide +kernel
theorem dL_fits_15 : decode cL_fits 15 = .ok (.iconst 0, 1) := by decide +kernel
theorem dL_fits_16 : decode cL_fits 16 = .ok (.ireturn, 1) := by decide +kernel
theorem dL_fitted_0 : decode cL_fitted 0 = .ok (.aload_n 3, 1) := by decide +kernel
theorem dL_fitted_1 : decode cL_fitted 1 = .ok (.iconst 0, 1) := by decide +kernel
theorem dL_fitted_2 : decode cL_fitted 2 = .ok (.aload_n 0, 1) := by decide +kernel
theorem dL_fitted_3 : decode cL_fitted 3 = .ok (.iload_n 1, 1) := by decide +kernel
theorem dL_fitted_4 : decode cL_fitted 4 = .ok (.iload_n 2, 1) := by decide +kernel
theorem dL_fitted_5 : decode cL_fitted 5 = .ok (.invokevirtual 71, 3) := by decide +kernel
theorem dL_fitted_8 : decode cL_fitted 8 = .ok (.i2l, 1) := by decide +kernel
theorem dL_fitted_9 : decode cL_fitted 9 = .ok (.lastore, 1) := by decide +kernel
theorem dL_fitted_10 : decode cL_fitted 10 = .ok (.goto 11, 3) := by decide +kernel
theorem dL_fitted_13 : decode cL_fitted 13 = .ok (.astore 4, 2) := by decide +kernel
theorem dL_fitted_15 : decode cL_fitted 15 = .ok (.iconst 1, 1) := by decide +kernel
theorem dL_fitted_16 : decode cL_fitted 16 = .ok (.ireturn, 1) := by decide +kernel
theorem dL_fitted_17 : decode cL_fitted 17 = .ok (.astore 4, 2) := by decide +kernel
theorem dL_fitted_19 : decode cL_fitted 19 = .ok (.iconst 2, 1) := by decide +kernel
theorem dL_fitted_20 : decode cL_fitted 20 = .ok (.ireturn, 1) := by decide +kernel
theorem dL_fitted_21 : decode cL_fitted 21 = .ok (.iconst 0, 1) := by decide +kernel
theorem dL_fitted_22 : decode cL_fitted 22 = .ok (.ireturn, 1) := by decide +kernel
theorem dL_stood_0 : decode cL_stood 0 = .ok (.aload_n 2, 1) := by decide +kernel
theorem dL_stood_1 : decode cL_stood 1 = .ok (.iconst 0, 1) := by decide +kernel
theorem dL_stood_2 : decode cL_stood 2 = .ok (.aload_n 0, 1) := by decide +kernel
theorem dL_stood_3 : decode cL_stood 3 = .ok (.iload_n 1, 1) := by decide +kernel
theorem dL_stood_4 : decode cL_stood 4 = .ok (.invokevirtual 74, 3) := by decide +kernel
theorem dL_stood_7 : decode cL_stood 7 = .ok (.i2l, 1) := by decide +kernel
theorem dL_stood_8 : decode cL_stood 8 = .ok (.lastore, 1) := by decide +kernel
theorem dL_stood_9 : decode cL_stood 9 = .ok (.goto 6, 3) := by decide +kernel
theorem dL_stood_12 : decode cL_stood 12 = .ok (.astore_n 3, 1) := by decide +kernel
theorem dL_stood_13 : decode cL_stood 13 = .ok (.iconst 1, 1) := by decide +kernel
theorem dL_stood_14 : decode cL_stood 14 = .ok (.ireturn, 1) := by decide +kernel
theorem dL_stood_15 : decode cL_stood 15 = .ok (.iconst 0, 1) := by decide +kernel
theorem dL_stood_16 : decode cL_stood 16 = .ok (.ireturn, 1) := by decide +kernel
theorem dL_ask_0 : decode cL_ask 0 = .ok (.aload_n 2, 1) := by decide +kernel
theorem dL_ask_1 : decode cL_ask 1 = .ok (.iconst 0, 1) := by decide +kernel
theorem dL_ask_2 : decode cL_ask 2 = .ok (.aload_n 0, 1) := by decide +kernel
theorem dL_ask_3 : decode cL_ask 3 = .ok (.iload_n 1, 1) := by decide +kernel
theorem dL_ask_4 : decode cL_ask 4 = .ok (.invokevirtual 77, 3) := by decide +kernel
theorem dL_ask_7 : decode cL_ask 7 = .ok (.i2l, 1) := by decide +kernel
theorem dL_ask_8 : decode cL_ask 8 = .ok (.lastore, 1) := by decide +kernel
theorem dL_ask_9 : decode cL_ask 9 = .ok (.goto 6, 3) := by decide +kernel
theorem dL_ask_12 : decode cL_ask 12 = .ok (.astore_n 3, 1) := by decide +kernel
theorem dL_ask_13 : decode cL_ask 13 = .ok (.iconst 1, 1) := by decide +kernel
theorem dL_ask_14 : decode cL_ask 14 = .ok (.ireturn, 1) := by decide +kernel
theorem dL_ask_15 : decode cL_ask 15 = .ok (.iconst 0, 1) := by decide +kernel
theorem dL_ask_16 : decode cL_ask 16 = .ok (.ireturn, 1) := by decide +kernel
theorem dL_still_0 : decode cL_still 0 = .ok (.aload 6, 2) := by decide +kernel
theorem dL_still_2 : decode cL_still 2 = .ok (.iconst 0, 1) := by decide +kernel
theorem dL_still_3 : decode cL_still 3 = .ok (.aload_n 0, 1) := by decide +kernel
theorem dL_still_4 : decode cL_still 4 = .ok (.iload_n 1, 1) := by decide +kernel
theorem dL_still_5 : decode cL_still 5 = .ok (.iload_n 2, 1) := by decide +kernel
theorem dL_still_6 : decode cL_still 6 = .ok (.iload_n 3, 1) := by decide +kernel
theorem dL_still_7 : decode cL_still 7 = .ok (.iload 4, 2) := by decide +kernel
theorem dL_still_9 : decode cL_still 9 = .ok (.iload 5, 2) := by decide +kernel
theorem dL_still_11 : decode cL_still 11 = .ok (.invokevirtual 80, 3) := by decide +kernel
theorem dL_still_14 : decode cL_still 14 = .ok (.lastore, 1) := by decide +kernel
theorem dL_still_15 : decode cL_still 15 = .ok (.goto 11, 3) := by decide +kernel
theorem dL_still_18 : decode cL_still 18 = .ok (.astore 7, 2) := by decide +kernel
theorem dL_still_20 : decode cL_still 20 = .ok (.iconst 1, 1) := by decide +kernel
theorem dL_still_21 : decode cL_still 21 = .ok (.ireturn, 1) := by decide +kernel
theorem dL_still_22 : decode cL_still 22 = .ok (.astore 7, 2) := by decide +kernel
theorem dL_still_24 : decode cL_still 24 = .ok (.iconst 2, 1) := by decide +kernel
theorem dL_still_25 : decode cL_still 25 = .ok (.ireturn, 1) := by decide +kernel
theorem dL_still_26 : decode cL_still 26 = .ok (.iconst 0, 1) := by decide +kernel
theorem dL_still_27 : decode cL_still 27 = .ok (.ireturn, 1) := by decide +kernel
theorem dL_crews_0 : decode cL_crews 0 = .ok (.aload 4, 2) := by decide +kernel
theorem dL_crews_2 : decode cL_crews 2 = .ok (.iconst 0, 1) := by decide +kernel
theorem dL_crews_3 : decode cL_crews 3 = .ok (.aload_n 0, 1) := by decide +kernel
theorem dL_crews_4 : decode cL_crews 4 = .ok (.iload_n 1, 1) := by decide +kernel
theorem dL_crews_5 : decode cL_crews 5 = .ok (.iload_n 2, 1) := by decide +kernel
theorem dL_crews_6 : decode cL_crews 6 = .ok (.iload_n 3, 1) := by decide +kernel
theorem dL_crews_7 : decode cL_crews 7 = .ok (.invokevirtual 84, 3) := by decide +kernel
theorem dL_crews_10 : decode cL_crews 10 = .ok (.i2l, 1) := by decide +kernel
theorem dL_crews_11 : decode cL_crews 11 = .ok (.lastore, 1) := by decide +kernel
theorem dL_crews_12 : decode cL_crews 12 = .ok (.goto 7, 3) := by decide +kernel
theorem dL_crews_15 : decode cL_crews 15 = .ok (.astore 5, 2) := by decide +kernel
theorem dL_crews_17 : decode cL_crews 17 = .ok (.iconst 1, 1) := by decide +kernel
theorem dL_crews_18 : decode cL_crews 18 = .ok (.ireturn, 1) := by decide +kernel
theorem dL_crews_19 : decode cL_crews 19 = .ok (.iconst 0, 1) := by decide +kernel
theorem dL_crews_20 : decode cL_crews 20 = .ok (.ireturn, 1) := by decide +kernel
theorem dL_share_0 : decode cL_share 0 = .ok (.aload 4, 2) := by decide +kernel
theorem dL_share_2 : decode cL_share 2 = .ok (.iconst 0, 1) := by decide +kernel
theorem dL_share_3 : decode cL_share 3 = .ok (.aload_n 0, 1) := by decide +kernel
theorem dL_share_4 : decode cL_share 4 = .ok (.iload_n 1, 1) := by decide +kernel
theorem dL_share_5 : decode cL_share 5 = .ok (.iload_n 2, 1) := by decide +kernel
theorem dL_share_6 : decode cL_share 6 = .ok (.iload_n 3, 1) := by decide +kernel
theorem dL_share_7 : decode cL_share 7 = .ok (.invokevirtual 88, 3) := by decide +kernel
theorem dL_share_10 : decode cL_share 10 = .ok (.i2l, 1) := by decide +kernel
theorem dL_share_11 : decode cL_share 11 = .ok (.lastore, 1) := by decide +kernel
theorem dL_share_12 : decode cL_share 12 = .ok (.goto 11, 3) := by decide +kernel
theorem dL_share_15 : decode cL_share 15 = .ok (.astore 5, 2) := by decide +kernel
theorem dL_share_17 : decode cL_share 17 = .ok (.iconst 1, 1) := by decide +kernel
theorem dL_share_18 : decode cL_share 18 = .ok (.ireturn, 1) := by decide +kernel
theorem dL_share_19 : decode cL_share 19 = .ok (.astore 5, 2) := by decide +kernel
theorem dL_share_21 : decode cL_share 21 = .ok (.iconst 2, 1) := by decide +kernel
theorem dL_share_22 : decode cL_share 22 = .ok (.ireturn, 1) := by decide +kernel
theorem dL_share_23 : decode cL_share 23 = .ok (.iconst 0, 1) := by decide +kernel
theorem dL_share_24 : decode cL_share 24 = .ok (.ireturn, 1) := by decide +kernel
theorem dL_above_0 : decode cL_above 0 = .ok (.aload_n 2, 1) := by decide +kernel
theorem dL_above_1 : decode cL_above 1 = .ok (.iconst 0, 1) := by decide +kernel
theorem dL_above_2 : decode cL_above 2 = .ok (.aload_n 0, 1) := by decide +kernel
theorem dL_above_3 : decode cL_above 3 = .ok (.iload_n 1, 1) := by decide +kernel
theorem dL_above_4 : decode cL_above 4 = .ok (.invokevirtual 91, 3) := by decide +kernel
theorem dL_above_7 : decode cL_above 7 = .ok (.i2l, 1) := by decide +kernel
theorem dL_above_8 : decode cL_above 8 = .ok (.lastore, 1) := by decide +kernel
theorem dL_above_9 : decode cL_above 9 = .ok (.goto 6, 3) := by decide +kernel
theorem dL_above_12 : decode cL_above 12 = .ok (.astore_n 3, 1) := by decide +kernel
theorem dL_above_13 : decode cL_above 13 = .ok (.iconst 1, 1) := by decide +kernel
theorem dL_above_14 : decode cL_above 14 = .ok (.ireturn, 1) := by decide +kernel
theorem dL_above_15 : decode cL_above 15 = .ok (.iconst 0, 1) := by decide +kernel
theorem dL_above_16 : decode cL_above 16 = .ok (.ireturn, 1) := by decide +kernel
theorem dL_mightiest_0 : decode cL_mightiest 0 = .ok (.aload_n 2, 1) := by decide +kernel
theorem dL_mightiest_1 : decode cL_mightiest 1 = .ok (.iconst 0, 1) := by decide +kernel
theorem dL_mightiest_2 : decode cL_mightiest 2 = .ok (.aload_n 0, 1) := by decide +kernel
theorem dL_mightiest_3 : decode cL_mightiest 3 = .ok (.iload_n 1, 1) := by decide +kernel
theorem dL_mightiest_4 : decode cL_mightiest 4 = .ok (.invokevirtual 94, 3) := by decide +kernel
theorem dL_mightiest_7 : decode cL_mightiest 7 = .ok (.i2l, 1) := by decide +kernel
theorem dL_mightiest_8 : decode cL_mightiest 8 = .ok (.lastore, 1) := by decide +kernel
theorem dL_mightiest_9 : decode cL_mightiest 9 = .ok (.goto 6, 3) := by decide +kernel
theorem dL_mightiest_12 : decode cL_mightiest 12 = .ok (.astore_n 3, 1) := by decide +kernel
theorem dL_mightiest_13 : decode cL_mightiest 13 = .ok (.iconst 1, 1) := by decide +kernel
theorem dL_mightiest_14 : decode cL_mightiest 14 = .ok (.ireturn, 1) := by decide +kernel
theorem dL_mightiest_15 : decode cL_mightiest 15 = .ok (.iconst 0, 1) := by decide +kernel
theorem dL_mightiest_16 : decode cL_mightiest 16 = .ok (.ireturn, 1) := by decide +kernel
theorem dL_ends_0 : decode cL_ends 0 = .ok (.aload_n 3, 1) := by decide +kernel
theorem dL_ends_1 : decode cL_ends 1 = .ok (.iconst 0, 1) := by decide +kernel
theorem dL_ends_2 : decode cL_ends 2 = .ok (.aload_n 0, 1) := by decide +kernel
theorem dL_ends_3 : decode cL_ends 3 = .ok (.iload_n 1, 1) := by decide +kernel
theorem dL_ends_4 : decode cL_ends 4 = .ok (.iload_n 2, 1) := by decide +kernel
theorem dL_ends_5 : decode cL_ends 5 = .ok (.invokevirtual 97, 3) := by decide +kernel
theorem dL_ends_8 : decode cL_ends 8 = .ok (.i2l, 1) := by decide +kernel
theorem dL_ends_9 : decode cL_ends 9 = .ok (.lastore, 1) := by decide +kernel
theorem dL_ends_10 : decode cL_ends 10 = .ok (.goto 11, 3) := by decide +kernel
theorem dL_ends_13 : decode cL_ends 13 = .ok (.astore 4, 2) := by decide +kernel
theorem dL_ends_15 : decode cL_ends 15 = .ok (.iconst 1, 1) := by decide +kernel
theorem dL_ends_16 : decode cL_ends 16 = .ok (.ireturn, 1) := by decide +kernel
theorem dL_ends_17 : decode cL_ends 17 = .ok (.astore 4, 2) := by decide +kernel
theorem dL_ends_19 : decode cL_ends 19 = .ok (.iconst 2, 1) := by decide +kernel
theorem dL_ends_20 : decode cL_ends 20 = .ok (.ireturn, 1) := by decide +kernel
theorem dL_ends_21 : decode cL_ends 21 = .ok (.iconst 0, 1) := by decide +kernel
theorem dL_ends_22 : decode cL_ends 22 = .ok (.ireturn, 1) := by decide +kernel
theorem dL_loud_0 : decode cL_loud 0 = .ok (.aload_n 2, 1) := by decide +kernel
theorem dL_loud_1 : decode cL_loud 1 = .ok (.iconst 0, 1) := by decide +kernel
theorem dL_loud_2 : decode cL_loud 2 = .ok (.aload_n 0, 1) := by decide +kernel
theorem dL_loud_3 : decode cL_loud 3 = .ok (.iload_n 1, 1) := by decide +kernel
theorem dL_loud_4 : decode cL_loud 4 = .ok (.invokevirtual 100, 3) := by decide +kernel
theorem dL_loud_7 : decode cL_loud 7 = .ok (.i2l, 1) := by decide +kernel
theorem dL_loud_8 : decode cL_loud 8 = .ok (.lastore, 1) := by decide +kernel
theorem dL_loud_9 : decode cL_loud 9 = .ok (.goto 6, 3) := by decide +kernel
theorem dL_loud_12 : decode cL_loud 12 = .ok (.astore_n 3, 1) := by decide +kernel
theorem dL_loud_13 : decode cL_loud 13 = .ok (.iconst 1, 1) := by decide +kernel
theorem dL_loud_14 : decode cL_loud 14 = .ok (.ireturn, 1) := by decide +kernel
theorem dL_loud_15 : decode cL_loud 15 = .ok (.iconst 0, 1) := by decide +kernel
theorem dL_loud_16 : decode cL_loud 16 = .ok (.ireturn, 1) := by decide +kernel
theorem dL_years_0 : decode cL_years 0 = .ok (.aload 6, 2) := by decide +kernel
theorem dL_years_2 : decode cL_years 2 = .ok (.iconst 0, 1) := by decide +kernel
theorem dL_years_3 : decode cL_years 3 = .ok (.aload_n 0, 1) := by decide +kernel
theorem dL_years_4 : decode cL_years 4 = .ok (.iload_n 1, 1) := by decide +kernel
theorem dL_years_5 : decode cL_years 5 = .ok (.iload_n 2, 1) := by decide +kernel
theorem dL_years_6 : decode cL_years 6 = .ok (.iload_n 3, 1) := by decide +kernel
theorem dL_years_7 : decode cL_years 7 = .ok (.iload 4, 2) := by decide +kernel
theorem dL_years_9 : decode cL_years 9 = .ok (.iload 5, 2) := by decide +kernel
theorem dL_years_11 : decode cL_years 11 = .ok (.invokevirtual 103, 3) := by decide +kernel
theorem dL_years_14 : decode cL_years 14 = .ok (.i2l, 1) := by decide +kernel
theorem dL_years_15 : decode cL_years 15 = .ok (.lastore, 1) := by decide +kernel
theorem dL_years_16 : decode cL_years 16 = .ok (.goto 7, 3) := by decide +kernel
theorem dL_years_19 : decode cL_years 19 = .ok (.astore 7, 2) := by decide +kernel
theorem dL_years_21 : decode cL_years 21 = .ok (.iconst 1, 1) := by decide +kernel
theorem dL_years_22 : decode cL_years 22 = .ok (.ireturn, 1) := by decide +kernel
theorem dL_years_23 : decode cL_years 23 = .ok (.iconst 0, 1) := by decide +kernel
theorem dL_years_24 : decode cL_years 24 = .ok (.ireturn, 1) := by decide +kernel
theorem dL_span_0 : decode cL_span 0 = .ok (.aload 8, 2) := by decide +kernel
theorem dL_span_2 : decode cL_span 2 = .ok (.iconst 0, 1) := by decide +kernel
theorem dL_span_3 : decode cL_span 3 = .ok (.aload_n 0, 1) := by decide +kernel
theorem dL_span_4 : decode cL_span 4 = .ok (.iload_n 1, 1) := by decide +kernel
theorem dL_span_5 : decode cL_span 5 = .ok (.iload_n 2, 1) := by decide +kernel
theorem dL_span_6 : decode cL_span 6 = .ok (.iload_n 3, 1) := by decide +kernel
theorem dL_span_7 : decode cL_span 7 = .ok (.iload 4, 2) := by decide +kernel
theorem dL_span_9 : decode cL_span 9 = .ok (.iload 5, 2) := by decide +kernel
theorem dL_span_11 : decode cL_span 11 = .ok (.iload 6, 2) := by decide +kernel
theorem dL_span_13 : decode cL_span 13 = .ok (.iload 7, 2) := by decide +kernel
theorem dL_span_15 : decode cL_span 15 = .ok (.invokevirtual 107, 3) := by decide +kernel
theorem dL_span_18 : decode cL_span 18 = .ok (.i2l, 1) := by decide +kernel
theorem dL_span_19 : decode cL_span 19 = .ok (.lastore, 1) := by decide +kernel
theorem dL_span_20 : decode cL_span 20 = .ok (.goto 7, 3) := by decide +kernel
theorem dL_span_23 : decode cL_span 23 = .ok (.astore 9, 2) := by decide +kernel
theorem dL_span_25 : decode cL_span 25 = .ok (.iconst 1, 1) := by decide +kernel
theorem dL_span_26 : decode cL_span 26 = .ok (.ireturn, 1) := by decide +kernel
theorem dL_span_27 : decode cL_span 27 = .ok (.iconst 0, 1) := by decide +kernel
theorem dL_span_28 : decode cL_span 28 = .ok (.ireturn, 1) := by decide +kernel
