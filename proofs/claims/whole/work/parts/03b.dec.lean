theorem dX10_lettersOn_18 : decode cX10_lettersOn 18 = .ok (.iload 4, 2) := by decide +kernel
theorem dX10_lettersOn_20 : decode cX10_lettersOn 20 = .ok (.iaload, 1) := by decide +kernel
theorem dX10_lettersOn_21 : decode cX10_lettersOn 21 = .ok (.iload_n 2, 1) := by decide +kernel
theorem dX10_lettersOn_22 : decode cX10_lettersOn 22 = .ok (.if_icmp .ne 18, 3) := by decide +kernel
theorem dX10_lettersOn_25 : decode cX10_lettersOn 25 = .ok (.iload_n 3, 1) := by decide +kernel
theorem dX10_lettersOn_26 : decode cX10_lettersOn 26 = .ok (.aload_n 1, 1) := by decide +kernel
theorem dX10_lettersOn_27 : decode cX10_lettersOn 27 = .ok (.getfield 63, 3) := by decide +kernel
theorem dX10_lettersOn_30 : decode cX10_lettersOn 30 = .ok (.aload_n 0, 1) := by decide +kernel
theorem dX10_lettersOn_31 : decode cX10_lettersOn 31 = .ok (.getfield 9, 3) := by decide +kernel
theorem dX10_lettersOn_34 : decode cX10_lettersOn 34 = .ok (.iload 4, 2) := by decide +kernel
theorem dX10_lettersOn_36 : decode cX10_lettersOn 36 = .ok (.iaload, 1) := by decide +kernel
theorem dX10_lettersOn_37 : decode cX10_lettersOn 37 = .ok (.iaload, 1) := by decide +kernel
theorem dX10_lettersOn_38 : decode cX10_lettersOn 38 = .ok (.iadd, 1) := by decide +kernel
theorem dX10_lettersOn_39 : decode cX10_lettersOn 39 = .ok (.istore_n 3, 1) := by decide +kernel
theorem dX10_lettersOn_40 : decode cX10_lettersOn 40 = .ok (.iinc 4 1, 3) := by decide +kernel
theorem dX10_lettersOn_43 : decode cX10_lettersOn 43 = .ok (.goto (-38), 3) := by decide +kernel
theorem dX10_lettersOn_46 : decode cX10_lettersOn 46 = .ok (.iload_n 3, 1) := by decide +kernel
theorem dX10_lettersOn_47 : decode cX10_lettersOn 47 = .ok (.ireturn, 1) := by decide +kernel
theorem dX10_lettersFrom_0 : decode cX10_lettersFrom 0 = .ok (.iconst 0, 1) := by decide +kernel
theorem dX10_lettersFrom_1 : decode cX10_lettersFrom 1 = .ok (.istore_n 3, 1) := by decide +kernel
theorem dX10_lettersFrom_2 : decode cX10_lettersFrom 2 = .ok (.iload_n 2, 1) := by decide +kernel
theorem dX10_lettersFrom_3 : decode cX10_lettersFrom 3 = .ok (.istore 4, 2) := by decide +kernel
theorem dX10_lettersFrom_5 : decode cX10_lettersFrom 5 = .ok (.iload 4, 2) := by decide +kernel
theorem dX10_lettersFrom_7 : decode cX10_lettersFrom 7 = .ok (.aload_n 1, 1) := by decide +kernel
theorem dX10_lettersFrom_8 : decode cX10_lettersFrom 8 = .ok (.getfield 80, 3) := by decide +kernel
theorem dX10_lettersFrom_11 : decode cX10_lettersFrom 11 = .ok (.if_icmp .ge 19, 3) := by decide +kernel
theorem dX10_lettersFrom_14 : decode cX10_lettersFrom 14 = .ok (.iload_n 3, 1) := by decide +kernel
theorem dX10_lettersFrom_15 : decode cX10_lettersFrom 15 = .ok (.aload_n 0, 1) := by decide +kernel
theorem dX10_lettersFrom_16 : decode cX10_lettersFrom 16 = .ok (.aload_n 1, 1) := by decide +kernel
theorem dX10_lettersFrom_17 : decode cX10_lettersFrom 17 = .ok (.iload 4, 2) := by decide +kernel
theorem dX10_lettersFrom_19 : decode cX10_lettersFrom 19 = .ok (.invokevirtual 93, 3) := by decide +kernel
theorem dX10_lettersFrom_22 : decode cX10_lettersFrom 22 = .ok (.iadd, 1) := by decide +kernel
theorem dX10_lettersFrom_23 : decode cX10_lettersFrom 23 = .ok (.istore_n 3, 1) := by decide +kernel
theorem dX10_lettersFrom_24 : decode cX10_lettersFrom 24 = .ok (.iinc 4 1, 3) := by decide +kernel
theorem dX10_lettersFrom_27 : decode cX10_lettersFrom 27 = .ok (.goto (-22), 3) := by decide +kernel
theorem dX10_lettersFrom_30 : decode cX10_lettersFrom 30 = .ok (.iload_n 3, 1) := by decide +kernel
theorem dX10_lettersFrom_31 : decode cX10_lettersFrom 31 = .ok (.ireturn, 1) := by decide +kernel
theorem dX10_roomOn_0 : decode cX10_roomOn 0 = .ok (.aload_n 1, 1) := by decide +kernel
theorem dX10_roomOn_1 : decode cX10_roomOn 1 = .ok (.getfield 96, 3) := by decide +kernel
theorem dX10_roomOn_4 : decode cX10_roomOn 4 = .ok (.iload_n 2, 1) := by decide +kernel
theorem dX10_roomOn_5 : decode cX10_roomOn 5 = .ok (.iaload, 1) := by decide +kernel
theorem dX10_roomOn_6 : decode cX10_roomOn 6 = .ok (.aload_n 0, 1) := by decide +kernel
theorem dX10_roomOn_7 : decode cX10_roomOn 7 = .ok (.aload_n 1, 1) := by decide +kernel
theorem dX10_roomOn_8 : decode cX10_roomOn 8 = .ok (.iload_n 2, 1) := by decide +kernel
theorem dX10_roomOn_9 : decode cX10_roomOn 9 = .ok (.invokevirtual 93, 3) := by decide +kernel
theorem dX10_roomOn_12 : decode cX10_roomOn 12 = .ok (.isub, 1) := by decide +kernel
theorem dX10_roomOn_13 : decode cX10_roomOn 13 = .ok (.ireturn, 1) := by decide +kernel
theorem dX10_linesOn_0 : decode cX10_linesOn 0 = .ok (.aload_n 0, 1) := by decide +kernel
theorem dX10_linesOn_1 : decode cX10_linesOn 1 = .ok (.getfield 18, 3) := by decide +kernel
theorem dX10_linesOn_4 : decode cX10_linesOn 4 = .ok (.aload_n 0, 1) := by decide +kernel
theorem dX10_linesOn_5 : decode cX10_linesOn 5 = .ok (.getfield 50, 3) := by decide +kernel
theorem dX10_linesOn_8 : decode cX10_linesOn 8 = .ok (.iload_n 1, 1) := by decide +kernel
theorem dX10_linesOn_9 : decode cX10_linesOn 9 = .ok (.invokestatic 99, 3) := by decide +kernel
theorem dX10_linesOn_12 : decode cX10_linesOn 12 = .ok (.ireturn, 1) := by decide +kernel
theorem dX10_linesOfBid_0 : decode cX10_linesOfBid 0 = .ok (.aload_n 0, 1) := by decide +kernel
theorem dX10_linesOfBid_1 : decode cX10_linesOfBid 1 = .ok (.getfield 9, 3) := by decide +kernel
theorem dX10_linesOfBid_4 : decode cX10_linesOfBid 4 = .ok (.aload_n 0, 1) := by decide +kernel
theorem dX10_linesOfBid_5 : decode cX10_linesOfBid 5 = .ok (.getfield 50, 3) := by decide +kernel
theorem dX10_linesOfBid_8 : decode cX10_linesOfBid 8 = .ok (.iload_n 1, 1) := by decide +kernel
theorem dX10_linesOfBid_9 : decode cX10_linesOfBid 9 = .ok (.invokestatic 99, 3) := by decide +kernel
theorem dX10_linesOfBid_12 : decode cX10_linesOfBid 12 = .ok (.ireturn, 1) := by decide +kernel
theorem dX10_linesBy_0 : decode cX10_linesBy 0 = .ok (.aload_n 0, 1) := by decide +kernel
theorem dX10_linesBy_1 : decode cX10_linesBy 1 = .ok (.getfield 21, 3) := by decide +kernel
theorem dX10_linesBy_4 : decode cX10_linesBy 4 = .ok (.aload_n 0, 1) := by decide +kernel
theorem dX10_linesBy_5 : decode cX10_linesBy 5 = .ok (.getfield 50, 3) := by decide +kernel
theorem dX10_linesBy_8 : decode cX10_linesBy 8 = .ok (.iload_n 1, 1) := by decide +kernel
theorem dX10_linesBy_9 : decode cX10_linesBy 9 = .ok (.invokestatic 99, 3) := by decide +kernel
theorem dX10_linesBy_12 : decode cX10_linesBy 12 = .ok (.ireturn, 1) := by decide +kernel
theorem dX10_timesIn_0 : decode cX10_timesIn 0 = .ok (.iconst 0, 1) := by decide +kernel
theorem dX10_timesIn_1 : decode cX10_timesIn 1 = .ok (.istore_n 3, 1) := by decide +kernel
theorem dX10_timesIn_2 : decode cX10_timesIn 2 = .ok (.iconst 0, 1) := by decide +kernel
theorem dX10_timesIn_3 : decode cX10_timesIn 3 = .ok (.istore 4, 2) := by decide +kernel
theorem dX10_timesIn_5 : decode cX10_timesIn 5 = .ok (.iload 4, 2) := by decide +kernel
theorem dX10_timesIn_7 : decode cX10_timesIn 7 = .ok (.iload_n 1, 1) := by decide +kernel
theorem dX10_timesIn_8 : decode cX10_timesIn 8 = .ok (.if_icmp .ge 27, 3) := by decide +kernel
theorem dX10_timesIn_11 : decode cX10_timesIn 11 = .ok (.iload 4, 2) := by decide +kernel
theorem dX10_timesIn_13 : decode cX10_timesIn 13 = .ok (.aload_n 0, 1) := by decide +kernel
theorem dX10_timesIn_14 : decode cX10_timesIn 14 = .ok (.arraylength, 1) := by decide +kernel
theorem dX10_timesIn_15 : decode cX10_timesIn 15 = .ok (.if_icmp .ge 20, 3) := by decide +kernel
theorem dX10_timesIn_18 : decode cX10_timesIn 18 = .ok (.aload_n 0, 1) := by decide +kernel
theorem dX10_timesIn_19 : decode cX10_timesIn 19 = .ok (.iload 4, 2) := by decide +kernel
theorem dX10_timesIn_21 : decode cX10_timesIn 21 = .ok (.iaload, 1) := by decide +kernel
theorem dX10_timesIn_22 : decode cX10_timesIn 22 = .ok (.iload_n 2, 1) := by decide +kernel
theorem dX10_timesIn_23 : decode cX10_timesIn 23 = .ok (.if_icmp .ne 6, 3) := by decide +kernel
theorem dX10_timesIn_26 : decode cX10_timesIn 26 = .ok (.iinc 3 1, 3) := by decide +kernel
theorem dX10_timesIn_29 : decode cX10_timesIn 29 = .ok (.iinc 4 1, 3) := by decide +kernel
theorem dX10_timesIn_32 : decode cX10_timesIn 32 = .ok (.goto (-27), 3) := by decide +kernel
theorem dX10_timesIn_35 : decode cX10_timesIn 35 = .ok (.iload_n 3, 1) := by decide +kernel
theorem dX10_timesIn_36 : decode cX10_timesIn 36 = .ok (.ireturn, 1) := by decide +kernel
theorem dX10_actsOn_0 : decode cX10_actsOn 0 = .ok (.iconst 0, 1) := by decide +kernel
theorem dX10_actsOn_1 : decode cX10_actsOn 1 = .ok (.istore_n 2, 1) := by decide +kernel
theorem dX10_actsOn_2 : decode cX10_actsOn 2 = .ok (.iconst 0, 1) := by decide +kernel
theorem dX10_actsOn_3 : decode cX10_actsOn 3 = .ok (.istore_n 3, 1) := by decide +kernel
theorem dX10_actsOn_4 : decode cX10_actsOn 4 = .ok (.iload_n 3, 1) := by decide +kernel
theorem dX10_actsOn_5 : decode cX10_actsOn 5 = .ok (.aload_n 0, 1) := by decide +kernel
theorem dX10_actsOn_6 : decode cX10_actsOn 6 = .ok (.getfield 50, 3) := by decide +kernel
theorem dX10_actsOn_9 : decode cX10_actsOn 9 = .ok (.if_icmp .ge 30, 3) := by decide +kernel
theorem dX10_actsOn_12 : decode cX10_actsOn 12 = .ok (.aload_n 0, 1) := by decide +kernel
theorem dX10_actsOn_13 : decode cX10_actsOn 13 = .ok (.getfield 18, 3) := by decide +kernel
theorem dX10_actsOn_16 : decode cX10_actsOn 16 = .ok (.iload_n 3, 1) := by decide +kernel
theorem dX10_actsOn_17 : decode cX10_actsOn 17 = .ok (.iaload, 1) := by decide +kernel
theorem dX10_actsOn_18 : decode cX10_actsOn 18 = .ok (.iload_n 1, 1) := by decide +kernel
theorem dX10_actsOn_19 : decode cX10_actsOn 19 = .ok (.if_icmp .ne 14, 3) := by decide +kernel
theorem dX10_actsOn_22 : decode cX10_actsOn 22 = .ok (.iload_n 2, 1) := by decide +kernel
theorem dX10_actsOn_23 : decode cX10_actsOn 23 = .ok (.iconst 1, 1) := by decide +kernel
theorem dX10_actsOn_24 : decode cX10_actsOn 24 = .ok (.aload_n 0, 1) := by decide +kernel
theorem dX10_actsOn_25 : decode cX10_actsOn 25 = .ok (.getfield 15, 3) := by decide +kernel
theorem dX10_actsOn_28 : decode cX10_actsOn 28 = .ok (.iload_n 3, 1) := by decide +kernel
theorem dX10_actsOn_29 : decode cX10_actsOn 29 = .ok (.iaload, 1) := by decide +kernel
theorem dX10_actsOn_30 : decode cX10_actsOn 30 = .ok (.ishl, 1) := by decide +kernel
theorem dX10_actsOn_31 : decode cX10_actsOn 31 = .ok (.ior, 1) := by decide +kernel
theorem dX10_actsOn_32 : decode cX10_actsOn 32 = .ok (.istore_n 2, 1) := by decide +kernel
theorem dX10_actsOn_33 : decode cX10_actsOn 33 = .ok (.iinc 3 1, 3) := by decide +kernel
theorem dX10_actsOn_36 : decode cX10_actsOn 36 = .ok (.goto (-32), 3) := by decide +kernel
theorem dX10_actsOn_39 : decode cX10_actsOn 39 = .ok (.iload_n 2, 1) := by decide +kernel
theorem dX10_actsOn_40 : decode cX10_actsOn 40 = .ok (.ireturn, 1) := by decide +kernel
theorem dX10_actsStanding_0 : decode cX10_actsStanding 0 = .ok (.iconst 0, 1) := by decide +kernel
theorem dX10_actsStanding_1 : decode cX10_actsStanding 1 = .ok (.istore_n 1, 1) := by decide +kernel
theorem dX10_actsStanding_2 : decode cX10_actsStanding 2 = .ok (.iconst 0, 1) := by decide +kernel
theorem dX10_actsStanding_3 : decode cX10_actsStanding 3 = .ok (.istore_n 2, 1) := by decide +kernel
theorem dX10_actsStanding_4 : decode cX10_actsStanding 4 = .ok (.iload_n 2, 1) := by decide +kernel
theorem dX10_actsStanding_5 : decode cX10_actsStanding 5 = .ok (.aload_n 0, 1) := by decide +kernel
theorem dX10_actsStanding_6 : decode cX10_actsStanding 6 = .ok (.getfield 50, 3) := by decide +kernel
theorem dX10_actsStanding_9 : decode cX10_actsStanding 9 = .ok (.if_icmp .ge 20, 3) := by decide +kernel
theorem dX10_actsStanding_12 : decode cX10_actsStanding 12 = .ok (.iload_n 1, 1) := by decide +kernel
theorem dX10_actsStanding_13 : decode cX10_actsStanding 13 = .ok (.iconst 1, 1) := by decide +kernel
theorem dX10_actsStanding_14 : decode cX10_actsStanding 14 = .ok (.aload_n 0, 1) := by decide +kernel
theorem dX10_actsStanding_15 : decode cX10_actsStanding 15 = .ok (.getfield 15, 3) := by decide +kernel
theorem dX10_actsStanding_18 : decode cX10_actsStanding 18 = .ok (.iload_n 2, 1) := by decide +kernel
theorem dX10_actsStanding_19 : decode cX10_actsStanding 19 = .ok (.iaload, 1) := by decide +kernel
theorem dX10_actsStanding_20 : decode cX10_actsStanding 20 = .ok (.ishl, 1) := by decide +kernel
theorem dX10_actsStanding_21 : decode cX10_actsStanding 21 = .ok (.ior, 1) := by decide +kernel
theorem dX10_actsStanding_22 : decode cX10_actsStanding 22 = .ok (.istore_n 1, 1) := by decide +kernel
theorem dX10_actsStanding_23 : decode cX10_actsStanding 23 = .ok (.iinc 2 1, 3) := by decide +kernel
theorem dX10_actsStanding_26 : decode cX10_actsStanding 26 = .ok (.goto (-22), 3) := by decide +kernel
theorem dX10_actsStanding_29 : decode cX10_actsStanding 29 = .ok (.iload_n 1, 1) := by decide +kernel
theorem dX10_actsStanding_30 : decode cX10_actsStanding 30 = .ok (.ireturn, 1) := by decide +kernel
theorem dX10_bearsAsTold_0 : decode cX10_bearsAsTold 0 = .ok (.iconst 0, 1) := by decide +kernel
theorem dX10_bearsAsTold_1 : decode cX10_bearsAsTold 1 = .ok (.istore_n 3, 1) := by decide +kernel
theorem dX10_bearsAsTold_2 : decode cX10_bearsAsTold 2 = .ok (.iload_n 3, 1) := by decide +kernel
theorem dX10_bearsAsTold_3 : decode cX10_bearsAsTold 3 = .ok (.aload_n 0, 1) := by decide +kernel
theorem dX10_bearsAsTold_4 : decode cX10_bearsAsTold 4 = .ok (.getfield 50, 3) := by decide +kernel
theorem dX10_bearsAsTold_7 : decode cX10_bearsAsTold 7 = .ok (.if_icmp .ge 36, 3) := by decide +kernel
theorem dX10_bearsAsTold_10 : decode cX10_bearsAsTold 10 = .ok (.aload_n 0, 1) := by decide +kernel
theorem dX10_bearsAsTold_11 : decode cX10_bearsAsTold 11 = .ok (.getfield 9, 3) := by decide +kernel
theorem dX10_bearsAsTold_14 : decode cX10_bearsAsTold 14 = .ok (.iload_n 3, 1) := by decide +kernel
theorem dX10_bearsAsTold_15 : decode cX10_bearsAsTold 15 = .ok (.iaload, 1) := by decide +kernel
theorem dX10_bearsAsTold_16 : decode cX10_bearsAsTold 16 = .ok (.iload_n 2, 1) := by decide +kernel
theorem dX10_bearsAsTold_17 : decode cX10_bearsAsTold 17 = .ok (.if_icmp .ne 20, 3) := by decide +kernel
theorem dX10_bearsAsTold_20 : decode cX10_bearsAsTold 20 = .ok (.aload_n 0, 1) := by decide +kernel
theorem dX10_bearsAsTold_21 : decode cX10_bearsAsTold 21 = .ok (.getfield 15, 3) := by decide +kernel
theorem dX10_bearsAsTold_24 : decode cX10_bearsAsTold 24 = .ok (.iload_n 3, 1) := by decide +kernel
theorem dX10_bearsAsTold_25 : decode cX10_bearsAsTold 25 = .ok (.iaload, 1) := by decide +kernel
theorem dX10_bearsAsTold_26 : decode cX10_bearsAsTold 26 = .ok (.aload_n 1, 1) := by decide +kernel
theorem dX10_bearsAsTold_27 : decode cX10_bearsAsTold 27 = .ok (.getfield 45, 3) := by decide +kernel
theorem dX10_bearsAsTold_30 : decode cX10_bearsAsTold 30 = .ok (.iload_n 2, 1) := by decide +kernel
theorem dX10_bearsAsTold_31 : decode cX10_bearsAsTold 31 = .ok (.iaload, 1) := by decide +kernel
theorem dX10_bearsAsTold_32 : decode cX10_bearsAsTold 32 = .ok (.if_icmp .ne 5, 3) := by decide +kernel
theorem dX10_bearsAsTold_35 : decode cX10_bearsAsTold 35 = .ok (.iconst 1, 1) := by decide +kernel
theorem dX10_bearsAsTold_36 : decode cX10_bearsAsTold 36 = .ok (.ireturn, 1) := by decide +kernel
theorem dX10_bearsAsTold_37 : decode cX10_bearsAsTold 37 = .ok (.iinc 3 1, 3) := by decide +kernel
theorem dX10_bearsAsTold_40 : decode cX10_bearsAsTold 40 = .ok (.goto (-38), 3) := by decide +kernel
theorem dX10_bearsAsTold_43 : decode cX10_bearsAsTold 43 = .ok (.iconst 0, 1) := by decide +kernel
theorem dX10_bearsAsTold_44 : decode cX10_bearsAsTold 44 = .ok (.ireturn, 1) := by decide +kernel
theorem dX10_keptAsTold_0 : decode cX10_keptAsTold 0 = .ok (.iconst 0, 1) := by decide +kernel
theorem dX10_keptAsTold_1 : decode cX10_keptAsTold 1 = .ok (.istore_n 2, 1) := by decide +kernel
theorem dX10_keptAsTold_2 : decode cX10_keptAsTold 2 = .ok (.iconst 0, 1) := by decide +kernel
theorem dX10_keptAsTold_3 : decode cX10_keptAsTold 3 = .ok (.istore_n 3, 1) := by decide +kernel
theorem dX10_keptAsTold_4 : decode cX10_keptAsTold 4 = .ok (.iload_n 3, 1) := by decide +kernel
theorem dX10_keptAsTold_5 : decode cX10_keptAsTold 5 = .ok (.aload_n 1, 1) := by decide +kernel
theorem dX10_keptAsTold_6 : decode cX10_keptAsTold 6 = .ok (.getfield 40, 3) := by decide +kernel
theorem dX10_keptAsTold_9 : decode cX10_keptAsTold 9 = .ok (.if_icmp .ge 30, 3) := by decide +kernel
theorem dX10_keptAsTold_12 : decode cX10_keptAsTold 12 = .ok (.aload_n 0, 1) := by decide +kernel
theorem dX10_keptAsTold_13 : decode cX10_keptAsTold 13 = .ok (.getfield 24, 3) := by decide +kernel
theorem dX10_keptAsTold_16 : decode cX10_keptAsTold 16 = .ok (.iload_n 3, 1) := by decide +kernel
theorem dX10_keptAsTold_17 : decode cX10_keptAsTold 17 = .ok (.iaload, 1) := by decide +kernel
theorem dX10_keptAsTold_18 : decode cX10_keptAsTold 18 = .ok (.aload_n 1, 1) := by decide +kernel
theorem dX10_keptAsTold_19 : decode cX10_keptAsTold 19 = .ok (.getfield 45, 3) := by decide +kernel
theorem dX10_keptAsTold_22 : decode cX10_keptAsTold 22 = .ok (.iload_n 3, 1) := by decide +kernel
theorem dX10_keptAsTold_23 : decode cX10_keptAsTold 23 = .ok (.iaload, 1) := by decide +kernel
theorem dX10_keptAsTold_24 : decode cX10_keptAsTold 24 = .ok (.if_icmp .ne 9, 3) := by decide +kernel
theorem dX10_keptAsTold_27 : decode cX10_keptAsTold 27 = .ok (.iload_n 2, 1) := by decide +kernel
theorem dX10_keptAsTold_28 : decode cX10_keptAsTold 28 = .ok (.iconst 1, 1) := by decide +kernel
theorem dX10_keptAsTold_29 : decode cX10_keptAsTold 29 = .ok (.iload_n 3, 1) := by decide +kernel
theorem dX10_keptAsTold_30 : decode cX10_keptAsTold 30 = .ok (.ishl, 1) := by decide +kernel
theorem dX10_keptAsTold_31 : decode cX10_keptAsTold 31 = .ok (.ior, 1) := by decide +kernel
theorem dX10_keptAsTold_32 : decode cX10_keptAsTold 32 = .ok (.istore_n 2, 1) := by decide +kernel
theorem dX10_keptAsTold_33 : decode cX10_keptAsTold 33 = .ok (.iinc 3 1, 3) := by decide +kernel
theorem dX10_keptAsTold_36 : decode cX10_keptAsTold 36 = .ok (.goto (-32), 3) := by decide +kernel
theorem dX10_keptAsTold_39 : decode cX10_keptAsTold 39 = .ok (.iload_n 2, 1) := by decide +kernel
theorem dX10_keptAsTold_40 : decode cX10_keptAsTold 40 = .ok (.ireturn, 1) := by decide +kernel
theorem dX10_describe_0 : decode cX10_describe 0 = .ok (.aload_n 3, 1) := by decide +kernel
theorem dX10_describe_1 : decode cX10_describe 1 = .ok (.iconst 0, 1) := by decide +kernel
theorem dX10_describe_2 : decode cX10_describe 2 = .ok (.aload_n 0, 1) := by decide +kernel
theorem dX10_describe_3 : decode cX10_describe 3 = .ok (.getfield 18, 3) := by decide +kernel
theorem dX10_describe_6 : decode cX10_describe 6 = .ok (.iload_n 2, 1) := by decide +kernel
theorem dX10_describe_7 : decode cX10_describe 7 = .ok (.iaload, 1) := by decide +kernel
theorem dX10_describe_8 : decode cX10_describe 8 = .ok (.iastore, 1) := by decide +kernel
theorem dX10_describe_9 : decode cX10_describe 9 = .ok (.aload_n 3, 1) := by decide +kernel
theorem dX10_describe_10 : decode cX10_describe 10 = .ok (.iconst 1, 1) := by decide +kernel
theorem dX10_describe_11 : decode cX10_describe 11 = .ok (.aload_n 1, 1) := by decide +kernel
theorem dX10_describe_12 : decode cX10_describe 12 = .ok (.getfield 63, 3) := by decide +kernel
theorem dX10_describe_15 : decode cX10_describe 15 = .ok (.aload_n 0, 1) := by decide +kernel
theorem dX10_describe_16 : decode cX10_describe 16 = .ok (.getfield 9, 3) := by decide +kernel
theorem dX10_describe_19 : decode cX10_describe 19 = .ok (.iload_n 2, 1) := by decide +kernel
theorem dX10_describe_20 : decode cX10_describe 20 = .ok (.iaload, 1) := by decide +kernel
theorem dX10_describe_21 : decode cX10_describe 21 = .ok (.iaload, 1) := by decide +kernel
theorem dX10_describe_22 : decode cX10_describe 22 = .ok (.iastore, 1) := by decide +kernel
theorem dX10_describe_23 : decode cX10_describe 23 = .ok (.aload_n 3, 1) := by decide +kernel
theorem dX10_describe_24 : decode cX10_describe 24 = .ok (.iconst 2, 1) := by decide +kernel
theorem dX10_describe_25 : decode cX10_describe 25 = .ok (.aload_n 0, 1) := by decide +kernel
theorem dX10_describe_26 : decode cX10_describe 26 = .ok (.getfield 18, 3) := by decide +kernel
theorem dX10_describe_29 : decode cX10_describe 29 = .ok (.iload_n 2, 1) := by decide +kernel
theorem dX10_describe_30 : decode cX10_describe 30 = .ok (.aload_n 0, 1) := by decide +kernel
theorem dX10_describe_31 : decode cX10_describe 31 = .ok (.getfield 18, 3) := by decide +kernel
theorem dX10_describe_34 : decode cX10_describe 34 = .ok (.iload_n 2, 1) := by decide +kernel
theorem dX10_describe_35 : decode cX10_describe 35 = .ok (.iaload, 1) := by decide +kernel
theorem dX10_describe_36 : decode cX10_describe 36 = .ok (.invokestatic 99, 3) := by decide +kernel
theorem dX10_describe_39 : decode cX10_describe 39 = .ok (.iastore, 1) := by decide +kernel
theorem dX10_describe_40 : decode cX10_describe 40 = .ok (.aload_n 3, 1) := by decide +kernel
theorem dX10_describe_41 : decode cX10_describe 41 = .ok (.iconst 3, 1) := by decide +kernel
theorem dX10_describe_42 : decode cX10_describe 42 = .ok (.aload_n 0, 1) := by decide +kernel
theorem dX10_describe_43 : decode cX10_describe 43 = .ok (.getfield 21, 3) := by decide +kernel
theorem dX10_describe_46 : decode cX10_describe 46 = .ok (.iload_n 2, 1) := by decide +kernel
theorem dX10_describe_47 : decode cX10_describe 47 = .ok (.iaload, 1) := by decide +kernel
theorem dX10_describe_48 : decode cX10_describe 48 = .ok (.iastore, 1) := by decide +kernel
theorem dX10_describe_49 : decode cX10_describe 49 = .ok (.aload_n 3, 1) := by decide +kernel
theorem dX10_describe_50 : decode cX10_describe 50 = .ok (.iconst 4, 1) := by decide +kernel
theorem dX10_describe_51 : decode cX10_describe 51 = .ok (.aload_n 0, 1) := by decide +kernel
theorem dX10_describe_52 : decode cX10_describe 52 = .ok (.getfield 15, 3) := by decide +kernel
theorem dX10_describe_55 : decode cX10_describe 55 = .ok (.iload_n 2, 1) := by decide +kernel
theorem dX10_describe_56 : decode cX10_describe 56 = .ok (.iaload, 1) := by decide +kernel
theorem dX10_describe_57 : decode cX10_describe 57 = .ok (.iastore, 1) := by decide +kernel
theorem dX10_describe_58 : decode cX10_describe 58 = .ok (.aload_n 3, 1) := by decide +kernel
theorem dX10_describe_59 : decode cX10_describe 59 = .ok (.iconst 5, 1) := by decide +kernel
theorem dX10_describe_60 : decode cX10_describe 60 = .ok (.aload_n 0, 1) := by decide +kernel
theorem dX10_describe_61 : decode cX10_describe 61 = .ok (.getfield 33, 3) := by decide +kernel
theorem dX10_describe_64 : decode cX10_describe 64 = .ok (.iastore, 1) := by decide +kernel
theorem dX10_describe_65 : decode cX10_describe 65 = .ok (.aload_n 3, 1) := by decide +kernel
theorem dX10_describe_66 : decode cX10_describe 66 = .ok (.bipush 6, 2) := by decide +kernel
theorem dX10_describe_68 : decode cX10_describe 68 = .ok (.aload_n 1, 1) := by decide +kernel
theorem dX10_describe_69 : decode cX10_describe 69 = .ok (.getfield 73, 3) := by decide +kernel
theorem dX10_describe_72 : decode cX10_describe 72 = .ok (.aload_n 0, 1) := by decide +kernel
theorem dX10_describe_73 : decode cX10_describe 73 = .ok (.getfield 21, 3) := by decide +kernel
theorem dX10_describe_76 : decode cX10_describe 76 = .ok (.iload_n 2, 1) := by decide +kernel
theorem dX10_describe_77 : decode cX10_describe 77 = .ok (.iaload, 1) := by decide +kernel
theorem dX10_describe_78 : decode cX10_describe 78 = .ok (.iaload, 1) := by decide +kernel
theorem dX10_describe_79 : decode cX10_describe 79 = .ok (.iastore, 1) := by decide +kernel
theorem dX10_describe_80 : decode cX10_describe 80 = .ok (.aload_n 3, 1) := by decide +kernel
theorem dX10_describe_81 : decode cX10_describe 81 = .ok (.bipush 7, 2) := by decide +kernel
theorem dX10_describe_83 : decode cX10_describe 83 = .ok (.iload_n 2, 1) := by decide +kernel
theorem dX10_describe_84 : decode cX10_describe 84 = .ok (.iastore, 1) := by decide +kernel
theorem dX10_describe_85 : decode cX10_describe 85 = .ok (.return_, 1) := by decide +kernel
theorem dX11_init_0 : decode cX11_init 0 = .ok (.aload_n 0, 1) := by decide +kernel
theorem dX11_init_1 : decode cX11_init 1 = .ok (.invokespecial 1, 3) := by decide +kernel
theorem dX11_init_4 : decode cX11_init 4 = .ok (.aload_n 0, 1) := by decide +kernel
theorem dX11_init_5 : decode cX11_init 5 = .ok (.new 7, 3) := by decide +kernel
theorem dX11_init_8 : decode cX11_init 8 = .ok (.dup, 1) := by decide +kernel
theorem dX11_init_9 : decode cX11_init 9 = .ok (.invokespecial 9, 3) := by decide +kernel
theorem dX11_init_12 : decode cX11_init 12 = .ok (.putfield 10, 3) := by decide +kernel
theorem dX11_init_15 : decode cX11_init 15 = .ok (.aload_n 0, 1) := by decide +kernel
theorem dX11_init_16 : decode cX11_init 16 = .ok (.new 16, 3) := by decide +kernel
theorem dX11_init_19 : decode cX11_init 19 = .ok (.dup, 1) := by decide +kernel
theorem dX11_init_20 : decode cX11_init 20 = .ok (.invokespecial 18, 3) := by decide +kernel
theorem dX11_init_23 : decode cX11_init 23 = .ok (.putfield 19, 3) := by decide +kernel
theorem dX11_init_26 : decode cX11_init 26 = .ok (.aload_n 0, 1) := by decide +kernel
theorem dX11_init_27 : decode cX11_init 27 = .ok (.new 23, 3) := by decide +kernel
theorem dX11_init_30 : decode cX11_init 30 = .ok (.dup, 1) := by decide +kernel
theorem dX11_init_31 : decode cX11_init 31 = .ok (.invokespecial 25, 3) := by decide +kernel
theorem dX11_init_34 : decode cX11_init 34 = .ok (.putfield 26, 3) := by decide +kernel
theorem dX11_init_37 : decode cX11_init 37 = .ok (.aload_n 0, 1) := by decide +kernel
theorem dX11_init_38 : decode cX11_init 38 = .ok (.new 30, 3) := by decide +kernel
theorem dX11_init_41 : decode cX11_init 41 = .ok (.dup, 1) := by decide +kernel
theorem dX11_init_42 : decode cX11_init 42 = .ok (.invokespecial 32, 3) := by decide +kernel
theorem dX11_init_45 : decode cX11_init 45 = .ok (.putfield 33, 3) := by decide +kernel
theorem dX11_init_48 : decode cX11_init 48 = .ok (.aload_n 0, 1) := by decide +kernel
theorem dX11_init_49 : decode cX11_init 49 = .ok (.new 37, 3) := by decide +kernel
theorem dX11_init_52 : decode cX11_init 52 = .ok (.dup, 1) := by decide +kernel
theorem dX11_init_53 : decode cX11_init 53 = .ok (.invokespecial 39, 3) := by decide +kernel
theorem dX11_init_56 : decode cX11_init 56 = .ok (.putfield 40, 3) := by decide +kernel
theorem dX11_init_59 : decode cX11_init 59 = .ok (.aload_n 0, 1) := by decide +kernel
theorem dX11_init_60 : decode cX11_init 60 = .ok (.new 44, 3) := by decide +kernel
theorem dX11_init_63 : decode cX11_init 63 = .ok (.dup, 1) := by decide +kernel
theorem dX11_init_64 : decode cX11_init 64 = .ok (.invokespecial 46, 3) := by decide +kernel
theorem dX11_init_67 : decode cX11_init 67 = .ok (.putfield 47, 3) := by decide +kernel
theorem dX11_init_70 : decode cX11_init 70 = .ok (.aload_n 0, 1) := by decide +kernel
theorem dX11_init_71 : decode cX11_init 71 = .ok (.new 51, 3) := by decide +kernel
theorem dX11_init_74 : decode cX11_init 74 = .ok (.dup, 1) := by decide +kernel
theorem dX11_init_75 : decode cX11_init 75 = .ok (.invokespecial 53, 3) := by decide +kernel
theorem dX11_init_78 : decode cX11_init 78 = .ok (.putfield 54, 3) := by decide +kernel
theorem dX11_init_81 : decode cX11_init 81 = .ok (.aload_n 0, 1) := by decide +kernel
theorem dX11_init_82 : decode cX11_init 82 = .ok (.bipush 8, 2) := by decide +kernel
theorem dX11_init_84 : decode cX11_init 84 = .ok (.newarray .int, 2) := by decide +kernel
theorem dX11_init_86 : decode cX11_init 86 = .ok (.putfield 58, 3) := by decide +kernel
theorem dX11_init_89 : decode cX11_init 89 = .ok (.aload_n 0, 1) := by decide +kernel
theorem dX11_init_90 : decode cX11_init 90 = .ok (.bipush 10, 2) := by decide +kernel
theorem dX11_init_92 : decode cX11_init 92 = .ok (.newarray .long, 2) := by decide +kernel
theorem dX11_init_94 : decode cX11_init 94 = .ok (.putfield 62, 3) := by decide +kernel
theorem dX11_init_97 : decode cX11_init 97 = .ok (.aload_n 0, 1) := by decide +kernel
theorem dX11_init_98 : decode cX11_init 98 = .ok (.bipush 10, 2) := by decide +kernel
theorem dX11_init_100 : decode cX11_init 100 = .ok (.newarray .long, 2) := by decide +kernel
theorem dX11_init_102 : decode cX11_init 102 = .ok (.putfield 66, 3) := by decide +kernel
theorem dX11_init_105 : decode cX11_init 105 = .ok (.aload_n 0, 1) := by decide +kernel
theorem dX11_init_106 : decode cX11_init 106 = .ok (.new 69, 3) := by decide +kernel
theorem dX11_init_109 : decode cX11_init 109 = .ok (.dup, 1) := by decide +kernel
theorem dX11_init_110 : decode cX11_init 110 = .ok (.invokespecial 71, 3) := by decide +kernel
theorem dX11_init_113 : decode cX11_init 113 = .ok (.putfield 72, 3) := by decide +kernel
theorem dX11_init_116 : decode cX11_init 116 = .ok (.aload_n 0, 1) := by decide +kernel
theorem dX11_init_117 : decode cX11_init 117 = .ok (.new 69, 3) := by decide +kernel
theorem dX11_init_120 : decode cX11_init 120 = .ok (.dup, 1) := by decide +kernel
theorem dX11_init_121 : decode cX11_init 121 = .ok (.invokespecial 71, 3) := by decide +kernel
theorem dX11_init_124 : decode cX11_init 124 = .ok (.putfield 76, 3) := by decide +kernel
theorem dX11_init_127 : decode cX11_init 127 = .ok (.aload_n 0, 1) := by decide +kernel
theorem dX11_init_128 : decode cX11_init 128 = .ok (.new 79, 3) := by decide +kernel
theorem dX11_init_131 : decode cX11_init 131 = .ok (.dup, 1) := by decide +kernel
theorem dX11_init_132 : decode cX11_init 132 = .ok (.invokespecial 81, 3) := by decide +kernel
theorem dX11_init_135 : decode cX11_init 135 = .ok (.putfield 82, 3) := by decide +kernel
theorem dX11_init_138 : decode cX11_init 138 = .ok (.aload_n 0, 1) := by decide +kernel
theorem dX11_init_139 : decode cX11_init 139 = .ok (.new 79, 3) := by decide +kernel
theorem dX11_init_142 : decode cX11_init 142 = .ok (.dup, 1) := by decide +kernel
theorem dX11_init_143 : decode cX11_init 143 = .ok (.invokespecial 81, 3) := by decide +kernel
theorem dX11_init_146 : decode cX11_init 146 = .ok (.putfield 86, 3) := by decide +kernel
theorem dX11_init_149 : decode cX11_init 149 = .ok (.aload_n 0, 1) := by decide +kernel
theorem dX11_init_150 : decode cX11_init 150 = .ok (.new 89, 3) := by decide +kernel
theorem dX11_init_153 : decode cX11_init 153 = .ok (.dup, 1) := by decide +kernel
theorem dX11_init_154 : decode cX11_init 154 = .ok (.invokespecial 91, 3) := by decide +kernel
theorem dX11_init_157 : decode cX11_init 157 = .ok (.putfield 92, 3) := by decide +kernel
theorem dX11_init_160 : decode cX11_init 160 = .ok (.aload_n 0, 1) := by decide +kernel
theorem dX11_init_161 : decode cX11_init 161 = .ok (.new 89, 3) := by decide +kernel
theorem dX11_init_164 : decode cX11_init 164 = .ok (.dup, 1) := by decide +kernel
theorem dX11_init_165 : decode cX11_init 165 = .ok (.invokespecial 91, 3) := by decide +kernel
theorem dX11_init_168 : decode cX11_init 168 = .ok (.putfield 96, 3) := by decide +kernel
theorem dX11_init_171 : decode cX11_init 171 = .ok (.aload_n 0, 1) := by decide +kernel
theorem dX11_init_172 : decode cX11_init 172 = .ok (.getfield 26, 3) := by decide +kernel
theorem dX11_init_175 : decode cX11_init 175 = .ok (.aload_n 0, 1) := by decide +kernel
theorem dX11_init_176 : decode cX11_init 176 = .ok (.getfield 72, 3) := by decide +kernel
theorem dX11_init_179 : decode cX11_init 179 = .ok (.invokevirtual 99, 3) := by decide +kernel
theorem dX11_init_182 : decode cX11_init 182 = .ok (.return_, 1) := by decide +kernel
theorem dX11_feed_0 : decode cX11_feed 0 = .ok (.aload_n 0, 1) := by decide +kernel
theorem dX11_feed_1 : decode cX11_feed 1 = .ok (.getfield 10, 3) := by decide +kernel
theorem dX11_feed_4 : decode cX11_feed 4 = .ok (.invokevirtual 103, 3) := by decide +kernel
theorem dX11_feed_7 : decode cX11_feed 7 = .ok (.ifCond .ne 5, 3) := by decide +kernel
theorem dX11_feed_10 : decode cX11_feed 10 = .ok (.iconst (-1), 1) := by decide +kernel
theorem dX11_feed_11 : decode cX11_feed 11 = .ok (.ireturn, 1) := by decide +kernel
theorem dX11_feed_12 : decode cX11_feed 12 = .ok (.aload_n 0, 1) := by decide +kernel
theorem dX11_feed_13 : decode cX11_feed 13 = .ok (.getfield 10, 3) := by decide +kernel
theorem dX11_feed_16 : decode cX11_feed 16 = .ok (.iload_n 1, 1) := by decide +kernel
theorem dX11_feed_17 : decode cX11_feed 17 = .ok (.invokevirtual 107, 3) := by decide +kernel
theorem dX11_feed_20 : decode cX11_feed 20 = .ok (.aload_n 0, 1) := by decide +kernel
theorem dX11_feed_21 : decode cX11_feed 21 = .ok (.getfield 10, 3) := by decide +kernel
theorem dX11_feed_24 : decode cX11_feed 24 = .ok (.iload_n 2, 1) := by decide +kernel
theorem dX11_feed_25 : decode cX11_feed 25 = .ok (.invokevirtual 107, 3) := by decide +kernel
theorem dX11_feed_28 : decode cX11_feed 28 = .ok (.aload_n 0, 1) := by decide +kernel
theorem dX11_feed_29 : decode cX11_feed 29 = .ok (.getfield 10, 3) := by decide +kernel
theorem dX11_feed_32 : decode cX11_feed 32 = .ok (.iload_n 3, 1) := by decide +kernel
theorem dX11_feed_33 : decode cX11_feed 33 = .ok (.invokevirtual 107, 3) := by decide +kernel
theorem dX11_feed_36 : decode cX11_feed 36 = .ok (.aload_n 0, 1) := by decide +kernel
theorem dX11_feed_37 : decode cX11_feed 37 = .ok (.getfield 10, 3) := by decide +kernel
theorem dX11_feed_40 : decode cX11_feed 40 = .ok (.iload 4, 2) := by decide +kernel
theorem dX11_feed_42 : decode cX11_feed 42 = .ok (.invokevirtual 107, 3) := by decide +kernel
theorem dX11_feed_45 : decode cX11_feed 45 = .ok (.aload_n 0, 1) := by decide +kernel
theorem dX11_feed_46 : decode cX11_feed 46 = .ok (.getfield 10, 3) := by decide +kernel
theorem dX11_feed_49 : decode cX11_feed 49 = .ok (.iload 5, 2) := by decide +kernel
theorem dX11_feed_51 : decode cX11_feed 51 = .ok (.invokevirtual 107, 3) := by decide +kernel
theorem dX11_feed_54 : decode cX11_feed 54 = .ok (.aload_n 0, 1) := by decide +kernel
theorem dX11_feed_55 : decode cX11_feed 55 = .ok (.getfield 10, 3) := by decide +kernel
theorem dX11_feed_58 : decode cX11_feed 58 = .ok (.getfield 111, 3) := by decide +kernel
theorem dX11_feed_61 : decode cX11_feed 61 = .ok (.ireturn, 1) := by decide +kernel
theorem dX11_port_0 : decode cX11_port 0 = .ok (.aload_n 0, 1) := by decide +kernel
theorem dX11_port_1 : decode cX11_port 1 = .ok (.iload_n 1, 1) := by decide +kernel
theorem dX11_port_2 : decode cX11_port 2 = .ok (.iconst 0, 1) := by decide +kernel
theorem dX11_port_3 : decode cX11_port 3 = .ok (.aload_n 0, 1) := by decide +kernel
theorem dX11_port_4 : decode cX11_port 4 = .ok (.getfield 10, 3) := by decide +kernel
theorem dX11_port_7 : decode cX11_port 7 = .ok (.getfield 111, 3) := by decide +kernel
theorem dX11_port_10 : decode cX11_port 10 = .ok (.invokestatic 115, 3) := by decide +kernel
theorem dX11_port_13 : decode cX11_port 13 = .ok (.invokevirtual 119, 3) := by decide +kernel
theorem dX11_port_16 : decode cX11_port 16 = .ok (.aload_n 0, 1) := by decide +kernel
theorem dX11_port_17 : decode cX11_port 17 = .ok (.getfield 10, 3) := by decide +kernel
theorem dX11_port_20 : decode cX11_port 20 = .ok (.iload_n 1, 1) := by decide +kernel
theorem dX11_port_21 : decode cX11_port 21 = .ok (.invokevirtual 123, 3) := by decide +kernel
theorem dX11_port_24 : decode cX11_port 24 = .ok (.aload_n 0, 1) := by decide +kernel
theorem dX11_port_25 : decode cX11_port 25 = .ok (.getfield 76, 3) := by decide +kernel
theorem dX11_port_28 : decode cX11_port 28 = .ok (.aload_n 0, 1) := by decide +kernel
theorem dX11_port_29 : decode cX11_port 29 = .ok (.getfield 10, 3) := by decide +kernel
theorem dX11_port_32 : decode cX11_port 32 = .ok (.invokevirtual 126, 3) := by decide +kernel
theorem dX11_port_35 : decode cX11_port 35 = .ok (.aload_n 0, 1) := by decide +kernel
theorem dX11_port_36 : decode cX11_port 36 = .ok (.getfield 10, 3) := by decide +kernel
theorem dX11_port_39 : decode cX11_port 39 = .ok (.invokevirtual 130, 3) := by decide +kernel
theorem dX11_port_42 : decode cX11_port 42 = .ok (.ifCond .ne 11, 3) := by decide +kernel
theorem dX11_port_45 : decode cX11_port 45 = .ok (.aload_n 0, 1) := by decide +kernel
theorem dX11_port_46 : decode cX11_port 46 = .ok (.getfield 10, 3) := by decide +kernel
theorem dX11_port_49 : decode cX11_port 49 = .ok (.invokevirtual 133, 3) := by decide +kernel
theorem dX11_port_52 : decode cX11_port 52 = .ok (.ireturn, 1) := by decide +kernel
theorem dX11_port_53 : decode cX11_port 53 = .ok (.aload_n 0, 1) := by decide +kernel
theorem dX11_port_54 : decode cX11_port 54 = .ok (.getfield 72, 3) := by decide +kernel
theorem dX11_port_57 : decode cX11_port 57 = .ok (.astore_n 2, 1) := by decide +kernel
theorem dX11_port_58 : decode cX11_port 58 = .ok (.aload_n 0, 1) := by decide +kernel
theorem dX11_port_59 : decode cX11_port 59 = .ok (.aload_n 0, 1) := by decide +kernel
theorem dX11_port_60 : decode cX11_port 60 = .ok (.getfield 76, 3) := by decide +kernel
theorem dX11_port_63 : decode cX11_port 63 = .ok (.putfield 72, 3) := by decide +kernel
theorem dX11_port_66 : decode cX11_port 66 = .ok (.aload_n 0, 1) := by decide +kernel
theorem dX11_port_67 : decode cX11_port 67 = .ok (.aload_n 2, 1) := by decide +kernel
theorem dX11_port_68 : decode cX11_port 68 = .ok (.putfield 76, 3) := by decide +kernel
theorem dX11_port_71 : decode cX11_port 71 = .ok (.aload_n 0, 1) := by decide +kernel
theorem dX11_port_72 : decode cX11_port 72 = .ok (.getfield 82, 3) := by decide +kernel
theorem dX11_port_75 : decode cX11_port 75 = .ok (.invokevirtual 137, 3) := by decide +kernel
theorem dX11_port_78 : decode cX11_port 78 = .ok (.aload_n 0, 1) := by decide +kernel
theorem dX11_port_79 : decode cX11_port 79 = .ok (.getfield 92, 3) := by decide +kernel
theorem dX11_port_82 : decode cX11_port 82 = .ok (.invokevirtual 140, 3) := by decide +kernel
theorem dX11_port_85 : decode cX11_port 85 = .ok (.aload_n 0, 1) := by decide +kernel
theorem dX11_port_86 : decode cX11_port 86 = .ok (.getfield 33, 3) := by decide +kernel
theorem dX11_port_89 : decode cX11_port 89 = .ok (.invokevirtual 143, 3) := by decide +kernel
theorem dX11_port_92 : decode cX11_port 92 = .ok (.aload_n 0, 1) := by decide +kernel
theorem dX11_port_93 : decode cX11_port 93 = .ok (.getfield 26, 3) := by decide +kernel
theorem dX11_port_96 : decode cX11_port 96 = .ok (.aload_n 0, 1) := by decide +kernel
theorem dX11_port_97 : decode cX11_port 97 = .ok (.getfield 72, 3) := by decide +kernel
theorem dX11_port_100 : decode cX11_port 100 = .ok (.invokevirtual 99, 3) := by decide +kernel
theorem dX11_port_103 : decode cX11_port 103 = .ok (.aload_n 0, 1) := by decide +kernel
theorem dX11_port_104 : decode cX11_port 104 = .ok (.iconst 0, 1) := by decide +kernel
theorem dX11_port_105 : decode cX11_port 105 = .ok (.putfield 144, 3) := by decide +kernel
theorem dX11_port_108 : decode cX11_port 108 = .ok (.aload_n 0, 1) := by decide +kernel
theorem dX11_port_109 : decode cX11_port 109 = .ok (.getfield 72, 3) := by decide +kernel
theorem dX11_port_112 : decode cX11_port 112 = .ok (.getfield 147, 3) := by decide +kernel
theorem dX11_port_115 : decode cX11_port 115 = .ok (.ireturn, 1) := by decide +kernel
theorem dX11_law_0 : decode cX11_law 0 = .ok (.aload_n 0, 1) := by decide +kernel
theorem dX11_law_1 : decode cX11_law 1 = .ok (.iload_n 1, 1) := by decide +kernel
theorem dX11_law_2 : decode cX11_law 2 = .ok (.iconst 0, 1) := by decide +kernel
theorem dX11_law_3 : decode cX11_law 3 = .ok (.sipush 150, 3) := by decide +kernel
theorem dX11_law_6 : decode cX11_law 6 = .ok (.aload_n 0, 1) := by decide +kernel
theorem dX11_law_7 : decode cX11_law 7 = .ok (.getfield 10, 3) := by decide +kernel
theorem dX11_law_10 : decode cX11_law 10 = .ok (.getfield 111, 3) := by decide +kernel
theorem dX11_law_13 : decode cX11_law 13 = .ok (.invokestatic 150, 3) := by decide +kernel
theorem dX11_law_16 : decode cX11_law 16 = .ok (.invokestatic 115, 3) := by decide +kernel
theorem dX11_law_19 : decode cX11_law 19 = .ok (.invokevirtual 119, 3) := by decide +kernel
theorem dX11_law_22 : decode cX11_law 22 = .ok (.aload_n 0, 1) := by decide +kernel
theorem dX11_law_23 : decode cX11_law 23 = .ok (.getfield 10, 3) := by decide +kernel
theorem dX11_law_26 : decode cX11_law 26 = .ok (.iload_n 1, 1) := by decide +kernel
theorem dX11_law_27 : decode cX11_law 27 = .ok (.invokevirtual 123, 3) := by decide +kernel
theorem dX11_law_30 : decode cX11_law 30 = .ok (.aload_n 0, 1) := by decide +kernel
theorem dX11_law_31 : decode cX11_law 31 = .ok (.getfield 86, 3) := by decide +kernel
theorem dX11_law_34 : decode cX11_law 34 = .ok (.aload_n 0, 1) := by decide +kernel
theorem dX11_law_35 : decode cX11_law 35 = .ok (.getfield 10, 3) := by decide +kernel
theorem dX11_law_38 : decode cX11_law 38 = .ok (.invokevirtual 156, 3) := by decide +kernel
theorem dX11_law_41 : decode cX11_law 41 = .ok (.aload_n 0, 1) := by decide +kernel
theorem dX11_law_42 : decode cX11_law 42 = .ok (.getfield 10, 3) := by decide +kernel
theorem dX11_law_45 : decode cX11_law 45 = .ok (.invokevirtual 130, 3) := by decide +kernel
theorem dX11_law_48 : decode cX11_law 48 = .ok (.ifCond .ne 11, 3) := by decide +kernel
theorem dX11_law_51 : decode cX11_law 51 = .ok (.aload_n 0, 1) := by decide +kernel
theorem dX11_law_52 : decode cX11_law 52 = .ok (.getfield 10, 3) := by decide +kernel
theorem dX11_law_55 : decode cX11_law 55 = .ok (.invokevirtual 133, 3) := by decide +kernel
theorem dX11_law_58 : decode cX11_law 58 = .ok (.ireturn, 1) := by decide +kernel
theorem dX11_law_59 : decode cX11_law 59 = .ok (.aload_n 0, 1) := by decide +kernel
theorem dX11_law_60 : decode cX11_law 60 = .ok (.getfield 82, 3) := by decide +kernel
theorem dX11_law_63 : decode cX11_law 63 = .ok (.astore_n 2, 1) := by decide +kernel
theorem dX11_law_64 : decode cX11_law 64 = .ok (.aload_n 0, 1) := by decide +kernel
theorem dX11_law_65 : decode cX11_law 65 = .ok (.aload_n 0, 1) := by decide +kernel
theorem dX11_law_66 : decode cX11_law 66 = .ok (.getfield 86, 3) := by decide +kernel
theorem dX11_law_69 : decode cX11_law 69 = .ok (.putfield 82, 3) := by decide +kernel
theorem dX11_law_72 : decode cX11_law 72 = .ok (.aload_n 0, 1) := by decide +kernel
theorem dX11_law_73 : decode cX11_law 73 = .ok (.aload_n 2, 1) := by decide +kernel
theorem dX11_law_74 : decode cX11_law 74 = .ok (.putfield 86, 3) := by decide +kernel
theorem dX11_law_77 : decode cX11_law 77 = .ok (.iconst 1, 1) := by decide +kernel
theorem dX11_law_78 : decode cX11_law 78 = .ok (.ireturn, 1) := by decide +kernel
theorem dX11_work_0 : decode cX11_work 0 = .ok (.aload_n 0, 1) := by decide +kernel
theorem dX11_work_1 : decode cX11_work 1 = .ok (.iload_n 1, 1) := by decide +kernel
theorem dX11_work_2 : decode cX11_work 2 = .ok (.iconst 0, 1) := by decide +kernel
theorem dX11_work_3 : decode cX11_work 3 = .ok (.sipush 150, 3) := by decide +kernel
theorem dX11_work_6 : decode cX11_work 6 = .ok (.aload_n 0, 1) := by decide +kernel
theorem dX11_work_7 : decode cX11_work 7 = .ok (.getfield 10, 3) := by decide +kernel
theorem dX11_work_10 : decode cX11_work 10 = .ok (.getfield 111, 3) := by decide +kernel
theorem dX11_work_13 : decode cX11_work 13 = .ok (.invokestatic 150, 3) := by decide +kernel
theorem dX11_work_16 : decode cX11_work 16 = .ok (.invokestatic 115, 3) := by decide +kernel
theorem dX11_work_19 : decode cX11_work 19 = .ok (.invokevirtual 119, 3) := by decide +kernel
theorem dX11_work_22 : decode cX11_work 22 = .ok (.aload_n 0, 1) := by decide +kernel
theorem dX11_work_23 : decode cX11_work 23 = .ok (.getfield 33, 3) := by decide +kernel
theorem dX11_work_26 : decode cX11_work 26 = .ok (.getfield 157, 3) := by decide +kernel
theorem dX11_work_29 : decode cX11_work 29 = .ok (.bipush 16, 2) := by decide +kernel
theorem dX11_work_31 : decode cX11_work 31 = .ok (.if_icmp .ne 14, 3) := by decide +kernel
theorem dX11_work_34 : decode cX11_work 34 = .ok (.aload_n 0, 1) := by decide +kernel
theorem dX11_work_35 : decode cX11_work 35 = .ok (.getfield 10, 3) := by decide +kernel
theorem dX11_work_38 : decode cX11_work 38 = .ok (.iconst 0, 1) := by decide +kernel
theorem dX11_work_39 : decode cX11_work 39 = .ok (.invokevirtual 123, 3) := by decide +kernel
theorem dX11_work_42 : decode cX11_work 42 = .ok (.bipush (-20), 2) := by decide +kernel
theorem dX11_work_44 : decode cX11_work 44 = .ok (.ireturn, 1) := by decide +kernel
theorem dX11_work_45 : decode cX11_work 45 = .ok (.aload_n 0, 1) := by decide +kernel
theorem dX11_work_46 : decode cX11_work 46 = .ok (.getfield 10, 3) := by decide +kernel
theorem dX11_work_49 : decode cX11_work 49 = .ok (.iload_n 1, 1) := by decide +kernel
theorem dX11_work_50 : decode cX11_work 50 = .ok (.invokevirtual 123, 3) := by decide +kernel
theorem dX11_work_53 : decode cX11_work 53 = .ok (.aload_n 0, 1) := by decide +kernel
theorem dX11_work_54 : decode cX11_work 54 = .ok (.getfield 19, 3) := by decide +kernel
theorem dX11_work_57 : decode cX11_work 57 = .ok (.aload_n 0, 1) := by decide +kernel
theorem dX11_work_58 : decode cX11_work 58 = .ok (.getfield 10, 3) := by decide +kernel
theorem dX11_work_61 : decode cX11_work 61 = .ok (.aload_n 0, 1) := by decide +kernel
theorem dX11_work_62 : decode cX11_work 62 = .ok (.getfield 72, 3) := by decide +kernel
theorem dX11_work_65 : decode cX11_work 65 = .ok (.invokevirtual 160, 3) := by decide +kernel
theorem dX11_work_68 : decode cX11_work 68 = .ok (.aload_n 0, 1) := by decide +kernel
theorem dX11_work_69 : decode cX11_work 69 = .ok (.getfield 10, 3) := by decide +kernel
theorem dX11_work_72 : decode cX11_work 72 = .ok (.invokevirtual 130, 3) := by decide +kernel
theorem dX11_work_75 : decode cX11_work 75 = .ok (.ifCond .ne 11, 3) := by decide +kernel
theorem dX11_work_78 : decode cX11_work 78 = .ok (.aload_n 0, 1) := by decide +kernel
theorem dX11_work_79 : decode cX11_work 79 = .ok (.getfield 10, 3) := by decide +kernel
theorem dX11_work_82 : decode cX11_work 82 = .ok (.invokevirtual 133, 3) := by decide +kernel
theorem dX11_work_85 : decode cX11_work 85 = .ok (.ireturn, 1) := by decide +kernel
theorem dX11_work_86 : decode cX11_work 86 = .ok (.aload_n 0, 1) := by decide +kernel
theorem dX11_work_87 : decode cX11_work 87 = .ok (.getfield 33, 3) := by decide +kernel
theorem dX11_work_90 : decode cX11_work 90 = .ok (.aload_n 0, 1) := by decide +kernel
theorem dX11_work_91 : decode cX11_work 91 = .ok (.getfield 26, 3) := by decide +kernel
theorem dX11_work_94 : decode cX11_work 94 = .ok (.invokevirtual 163, 3) := by decide +kernel
theorem dX11_work_97 : decode cX11_work 97 = .ok (.aload_n 0, 1) := by decide +kernel
theorem dX11_work_98 : decode cX11_work 98 = .ok (.getfield 19, 3) := by decide +kernel
theorem dX11_work_101 : decode cX11_work 101 = .ok (.aload_n 0, 1) := by decide +kernel
theorem dX11_work_102 : decode cX11_work 102 = .ok (.getfield 26, 3) := by decide +kernel
theorem dX11_work_105 : decode cX11_work 105 = .ok (.aload_n 0, 1) := by decide +kernel
theorem dX11_work_106 : decode cX11_work 106 = .ok (.getfield 72, 3) := by decide +kernel
theorem dX11_work_109 : decode cX11_work 109 = .ok (.invokevirtual 167, 3) := by decide +kernel
theorem dX11_work_112 : decode cX11_work 112 = .ok (.aload_n 0, 1) := by decide +kernel
theorem dX11_work_113 : decode cX11_work 113 = .ok (.aload_n 0, 1) := by decide +kernel
theorem dX11_work_114 : decode cX11_work 114 = .ok (.getfield 19, 3) := by decide +kernel
theorem dX11_work_117 : decode cX11_work 117 = .ok (.getfield 171, 3) := by decide +kernel
theorem dX11_work_120 : decode cX11_work 120 = .ok (.putfield 144, 3) := by decide +kernel
theorem dX11_work_123 : decode cX11_work 123 = .ok (.aload_n 0, 1) := by decide +kernel
theorem dX11_work_124 : decode cX11_work 124 = .ok (.getfield 19, 3) := by decide +kernel
theorem dX11_work_127 : decode cX11_work 127 = .ok (.getfield 174, 3) := by decide +kernel
theorem dX11_work_130 : decode cX11_work 130 = .ok (.ireturn, 1) := by decide +kernel
theorem dX11_deeds_0 : decode cX11_deeds 0 = .ok (.aload_n 0, 1) := by decide +kernel
theorem dX11_deeds_1 : decode cX11_deeds 1 = .ok (.iload_n 1, 1) := by decide +kernel
theorem dX11_deeds_2 : decode cX11_deeds 2 = .ok (.iconst 0, 1) := by decide +kernel
theorem dX11_deeds_3 : decode cX11_deeds 3 = .ok (.bipush 60, 2) := by decide +kernel
theorem dX11_deeds_5 : decode cX11_deeds 5 = .ok (.aload_n 0, 1) := by decide +kernel
theorem dX11_deeds_6 : decode cX11_deeds 6 = .ok (.getfield 10, 3) := by decide +kernel
theorem dX11_deeds_9 : decode cX11_deeds 9 = .ok (.getfield 111, 3) := by decide +kernel
theorem dX11_deeds_12 : decode cX11_deeds 12 = .ok (.invokestatic 150, 3) := by decide +kernel
theorem dX11_deeds_15 : decode cX11_deeds 15 = .ok (.invokestatic 115, 3) := by decide +kernel
theorem dX11_deeds_18 : decode cX11_deeds 18 = .ok (.invokevirtual 119, 3) := by decide +kernel
theorem dX11_deeds_21 : decode cX11_deeds 21 = .ok (.aload_n 0, 1) := by decide +kernel
theorem dX11_deeds_22 : decode cX11_deeds 22 = .ok (.getfield 10, 3) := by decide +kernel
theorem dX11_deeds_25 : decode cX11_deeds 25 = .ok (.iload_n 1, 1) := by decide +kernel
theorem dX11_deeds_26 : decode cX11_deeds 26 = .ok (.invokevirtual 123, 3) := by decide +kernel
theorem dX11_deeds_29 : decode cX11_deeds 29 = .ok (.aload_n 0, 1) := by decide +kernel
theorem dX11_deeds_30 : decode cX11_deeds 30 = .ok (.getfield 96, 3) := by decide +kernel
theorem dX11_deeds_33 : decode cX11_deeds 33 = .ok (.aload_n 0, 1) := by decide +kernel
theorem dX11_deeds_34 : decode cX11_deeds 34 = .ok (.getfield 10, 3) := by decide +kernel
theorem dX11_deeds_37 : decode cX11_deeds 37 = .ok (.invokevirtual 177, 3) := by decide +kernel
theorem dX11_deeds_40 : decode cX11_deeds 40 = .ok (.aload_n 0, 1) := by decide +kernel
theorem dX11_deeds_41 : decode cX11_deeds 41 = .ok (.getfield 10, 3) := by decide +kernel
theorem dX11_deeds_44 : decode cX11_deeds 44 = .ok (.invokevirtual 130, 3) := by decide +kernel
theorem dX11_deeds_47 : decode cX11_deeds 47 = .ok (.ifCond .ne 11, 3) := by decide +kernel
theorem dX11_deeds_50 : decode cX11_deeds 50 = .ok (.aload_n 0, 1) := by decide +kernel
theorem dX11_deeds_51 : decode cX11_deeds 51 = .ok (.getfield 10, 3) := by decide +kernel
theorem dX11_deeds_54 : decode cX11_deeds 54 = .ok (.invokevirtual 133, 3) := by decide +kernel
theorem dX11_deeds_57 : decode cX11_deeds 57 = .ok (.ireturn, 1) := by decide +kernel
theorem dX11_deeds_58 : decode cX11_deeds 58 = .ok (.aload_n 0, 1) := by decide +kernel
theorem dX11_deeds_59 : decode cX11_deeds 59 = .ok (.getfield 92, 3) := by decide +kernel
theorem dX11_deeds_62 : decode cX11_deeds 62 = .ok (.astore_n 2, 1) := by decide +kernel
theorem dX11_deeds_63 : decode cX11_deeds 63 = .ok (.aload_n 0, 1) := by decide +kernel
theorem dX11_deeds_64 : decode cX11_deeds 64 = .ok (.aload_n 0, 1) := by decide +kernel
theorem dX11_deeds_65 : decode cX11_deeds 65 = .ok (.getfield 96, 3) := by decide +kernel
theorem dX11_deeds_68 : decode cX11_deeds 68 = .ok (.putfield 92, 3) := by decide +kernel
theorem dX11_deeds_71 : decode cX11_deeds 71 = .ok (.aload_n 0, 1) := by decide +kernel
theorem dX11_deeds_72 : decode cX11_deeds 72 = .ok (.aload_n 2, 1) := by decide +kernel
theorem dX11_deeds_73 : decode cX11_deeds 73 = .ok (.putfield 96, 3) := by decide +kernel
theorem dX11_deeds_76 : decode cX11_deeds 76 = .ok (.aload_n 0, 1) := by decide +kernel
theorem dX11_deeds_77 : decode cX11_deeds 77 = .ok (.getfield 92, 3) := by decide +kernel
theorem dX11_deeds_80 : decode cX11_deeds 80 = .ok (.invokevirtual 178, 3) := by decide +kernel
theorem dX11_deeds_83 : decode cX11_deeds 83 = .ok (.ireturn, 1) := by decide +kernel
theorem dX11_fault_0 : decode cX11_fault 0 = .ok (.aload_n 0, 1) := by decide +kernel
theorem dX11_fault_1 : decode cX11_fault 1 = .ok (.getfield 10, 3) := by decide +kernel
theorem dX11_fault_4 : decode cX11_fault 4 = .ok (.getfield 181, 3) := by decide +kernel
theorem dX11_fault_7 : decode cX11_fault 7 = .ok (.ireturn, 1) := by decide +kernel
theorem dX11_undo_0 : decode cX11_undo 0 = .ok (.aload_n 0, 1) := by decide +kernel
theorem dX11_undo_1 : decode cX11_undo 1 = .ok (.getfield 33, 3) := by decide +kernel
theorem dX11_undo_4 : decode cX11_undo 4 = .ok (.aload_n 0, 1) := by decide +kernel
theorem dX11_undo_5 : decode cX11_undo 5 = .ok (.getfield 26, 3) := by decide +kernel
theorem dX11_undo_8 : decode cX11_undo 8 = .ok (.invokevirtual 184, 3) := by decide +kernel
theorem dX11_undo_11 : decode cX11_undo 11 = .ok (.ifCond .ne 5, 3) := by decide +kernel
theorem dX11_undo_14 : decode cX11_undo 14 = .ok (.iconst (-1), 1) := by decide +kernel
theorem dX11_undo_15 : decode cX11_undo 15 = .ok (.ireturn, 1) := by decide +kernel
theorem dX11_undo_16 : decode cX11_undo 16 = .ok (.aload_n 0, 1) := by decide +kernel
theorem dX11_undo_17 : decode cX11_undo 17 = .ok (.iconst 0, 1) := by decide +kernel
theorem dX11_undo_18 : decode cX11_undo 18 = .ok (.putfield 144, 3) := by decide +kernel
theorem dX11_undo_21 : decode cX11_undo 21 = .ok (.aload_n 0, 1) := by decide +kernel
theorem dX11_undo_22 : decode cX11_undo 22 = .ok (.getfield 33, 3) := by decide +kernel
theorem dX11_undo_25 : decode cX11_undo 25 = .ok (.getfield 157, 3) := by decide +kernel
theorem dX11_undo_28 : decode cX11_undo 28 = .ok (.ireturn, 1) := by decide +kernel
theorem dX11_told_0 : decode cX11_told 0 = .ok (.aload_n 0, 1) := by decide +kernel
theorem dX11_told_1 : decode cX11_told 1 = .ok (.iload_n 1, 1) := by decide +kernel
theorem dX11_told_2 : decode cX11_told 2 = .ok (.iconst 0, 1) := by decide +kernel
theorem dX11_told_3 : decode cX11_told 3 = .ok (.bipush 9, 2) := by decide +kernel
theorem dX11_told_5 : decode cX11_told 5 = .ok (.invokestatic 115, 3) := by decide +kernel
theorem dX11_told_8 : decode cX11_told 8 = .ok (.invokevirtual 119, 3) := by decide +kernel
theorem dX11_told_11 : decode cX11_told 11 = .ok (.iload_n 1, 1) := by decide +kernel
theorem dX11_told_12 : decode cX11_told 12 = .ok (.tableswitch 123 0 8 #[52, 60, 68, 76, 84, 92, 105, 110, 118], 52) := by decide +kernel
theorem dX11_told_64 : decode cX11_told 64 = .ok (.aload_n 0, 1) := by decide +kernel
theorem dX11_told_65 : decode cX11_told 65 = .ok (.getfield 72, 3) := by decide +kernel
theorem dX11_told_68 : decode cX11_told 68 = .ok (.getfield 188, 3) := by decide +kernel
theorem dX11_told_71 : decode cX11_told 71 = .ok (.ireturn, 1) := by decide +kernel
theorem dX11_told_72 : decode cX11_told 72 = .ok (.aload_n 0, 1) := by decide +kernel
theorem dX11_told_73 : decode cX11_told 73 = .ok (.getfield 72, 3) := by decide +kernel
theorem dX11_told_76 : decode cX11_told 76 = .ok (.getfield 147, 3) := by decide +kernel
theorem dX11_told_79 : decode cX11_told 79 = .ok (.ireturn, 1) := by decide +kernel
theorem dX11_told_80 : decode cX11_told 80 = .ok (.aload_n 0, 1) := by decide +kernel
theorem dX11_told_81 : decode cX11_told 81 = .ok (.getfield 72, 3) := by decide +kernel
theorem dX11_told_84 : decode cX11_told 84 = .ok (.getfield 191, 3) := by decide +kernel
theorem dX11_told_87 : decode cX11_told 87 = .ok (.ireturn, 1) := by decide +kernel
theorem dX11_told_88 : decode cX11_told 88 = .ok (.aload_n 0, 1) := by decide +kernel
theorem dX11_told_89 : decode cX11_told 89 = .ok (.getfield 26, 3) := by decide +kernel
theorem dX11_told_92 : decode cX11_told 92 = .ok (.getfield 194, 3) := by decide +kernel
theorem dX11_told_95 : decode cX11_told 95 = .ok (.ireturn, 1) := by decide +kernel
theorem dX11_told_96 : decode cX11_told 96 = .ok (.aload_n 0, 1) := by decide +kernel
theorem dX11_told_97 : decode cX11_told 97 = .ok (.getfield 26, 3) := by decide +kernel
theorem dX11_told_100 : decode cX11_told 100 = .ok (.getfield 197, 3) := by decide +kernel
theorem dX11_told_103 : decode cX11_told 103 = .ok (.ireturn, 1) := by decide +kernel
theorem dX11_told_104 : decode cX11_told 104 = .ok (.aload_n 0, 1) := by decide +kernel
theorem dX11_told_105 : decode cX11_told 105 = .ok (.getfield 26, 3) := by decide +kernel
theorem dX11_told_108 : decode cX11_told 108 = .ok (.aload_n 0, 1) := by decide +kernel
theorem dX11_told_109 : decode cX11_told 109 = .ok (.getfield 72, 3) := by decide +kernel
theorem dX11_told_112 : decode cX11_told 112 = .ok (.iconst 0, 1) := by decide +kernel
theorem dX11_told_113 : decode cX11_told 113 = .ok (.invokevirtual 199, 3) := by decide +kernel
theorem dX11_told_116 : decode cX11_told 116 = .ok (.ireturn, 1) := by decide +kernel
theorem dX11_told_117 : decode cX11_told 117 = .ok (.aload_n 0, 1) := by decide +kernel
theorem dX11_told_118 : decode cX11_told 118 = .ok (.invokevirtual 203, 3) := by decide +kernel
theorem dX11_told_121 : decode cX11_told 121 = .ok (.ireturn, 1) := by decide +kernel
theorem dX11_told_122 : decode cX11_told 122 = .ok (.aload_n 0, 1) := by decide +kernel
theorem dX11_told_123 : decode cX11_told 123 = .ok (.getfield 92, 3) := by decide +kernel
theorem dX11_told_126 : decode cX11_told 126 = .ok (.invokevirtual 178, 3) := by decide +kernel
theorem dX11_told_129 : decode cX11_told 129 = .ok (.ireturn, 1) := by decide +kernel
theorem dX11_told_130 : decode cX11_told 130 = .ok (.aload_n 0, 1) := by decide +kernel
theorem dX11_told_131 : decode cX11_told 131 = .ok (.getfield 144, 3) := by decide +kernel
theorem dX11_told_134 : decode cX11_told 134 = .ok (.ireturn, 1) := by decide +kernel
theorem dX11_told_135 : decode cX11_told 135 = .ok (.aload_n 0, 1) := by decide +kernel
theorem dX11_told_136 : decode cX11_told 136 = .ok (.getfield 26, 3) := by decide +kernel
theorem dX11_told_139 : decode cX11_told 139 = .ok (.getfield 206, 3) := by decide +kernel
theorem dX11_told_142 : decode cX11_told 142 = .ok (.ireturn, 1) := by decide +kernel
theorem dX11_row_0 : decode cX11_row 0 = .ok (.aload_n 0, 1) := by decide +kernel
theorem dX11_row_1 : decode cX11_row 1 = .ok (.iload_n 1, 1) := by decide +kernel
theorem dX11_row_2 : decode cX11_row 2 = .ok (.aload_n 0, 1) := by decide +kernel
theorem dX11_row_3 : decode cX11_row 3 = .ok (.getfield 72, 3) := by decide +kernel
theorem dX11_row_6 : decode cX11_row 6 = .ok (.getfield 188, 3) := by decide +kernel
theorem dX11_row_9 : decode cX11_row 9 = .ok (.invokestatic 209, 3) := by decide +kernel
theorem dX11_row_12 : decode cX11_row 12 = .ok (.invokevirtual 213, 3) := by decide +kernel
theorem dX11_row_15 : decode cX11_row 15 = .ok (.aload_n 0, 1) := by decide +kernel
theorem dX11_row_16 : decode cX11_row 16 = .ok (.iload_n 2, 1) := by decide +kernel
theorem dX11_row_17 : decode cX11_row 17 = .ok (.iconst 0, 1) := by decide +kernel
theorem dX11_row_18 : decode cX11_row 18 = .ok (.iconst 3, 1) := by decide +kernel
theorem dX11_row_19 : decode cX11_row 19 = .ok (.invokestatic 115, 3) := by decide +kernel
theorem dX11_row_22 : decode cX11_row 22 = .ok (.invokevirtual 119, 3) := by decide +kernel
theorem dX11_row_25 : decode cX11_row 25 = .ok (.iload_n 2, 1) := by decide +kernel
theorem dX11_row_26 : decode cX11_row 26 = .ok (.tableswitch 58 0 2 #[26, 36, 49], 26) := by decide +kernel
theorem dX11_row_52 : decode cX11_row 52 = .ok (.aload_n 0, 1) := by decide +kernel
theorem dX11_row_53 : decode cX11_row 53 = .ok (.getfield 72, 3) := by decide +kernel
theorem dX11_row_56 : decode cX11_row 56 = .ok (.getfield 216, 3) := by decide +kernel
theorem dX11_row_59 : decode cX11_row 59 = .ok (.iload_n 1, 1) := by decide +kernel
theorem dX11_row_60 : decode cX11_row 60 = .ok (.iaload, 1) := by decide +kernel
theorem dX11_row_61 : decode cX11_row 61 = .ok (.ireturn, 1) := by decide +kernel
theorem dX11_row_62 : decode cX11_row 62 = .ok (.aload_n 0, 1) := by decide +kernel
theorem dX11_row_63 : decode cX11_row 63 = .ok (.getfield 26, 3) := by decide +kernel
theorem dX11_row_66 : decode cX11_row 66 = .ok (.aload_n 0, 1) := by decide +kernel
theorem dX11_row_67 : decode cX11_row 67 = .ok (.getfield 72, 3) := by decide +kernel
theorem dX11_row_70 : decode cX11_row 70 = .ok (.iload_n 1, 1) := by decide +kernel
theorem dX11_row_71 : decode cX11_row 71 = .ok (.invokevirtual 219, 3) := by decide +kernel
theorem dX11_row_74 : decode cX11_row 74 = .ok (.ireturn, 1) := by decide +kernel
theorem dX11_row_75 : decode cX11_row 75 = .ok (.aload_n 0, 1) := by decide +kernel
theorem dX11_row_76 : decode cX11_row 76 = .ok (.getfield 26, 3) := by decide +kernel
theorem dX11_row_79 : decode cX11_row 79 = .ok (.iload_n 1, 1) := by decide +kernel
theorem dX11_row_80 : decode cX11_row 80 = .ok (.invokevirtual 222, 3) := by decide +kernel
theorem dX11_row_83 : decode cX11_row 83 = .ok (.ireturn, 1) := by decide +kernel
theorem dX11_row_84 : decode cX11_row 84 = .ok (.aload_n 0, 1) := by decide +kernel
theorem dX11_row_85 : decode cX11_row 85 = .ok (.getfield 26, 3) := by decide +kernel
theorem dX11_row_88 : decode cX11_row 88 = .ok (.iload_n 1, 1) := by decide +kernel
theorem dX11_row_89 : decode cX11_row 89 = .ok (.invokevirtual 226, 3) := by decide +kernel
theorem dX11_row_92 : decode cX11_row 92 = .ok (.ireturn, 1) := by decide +kernel
theorem dX11_bid_0 : decode cX11_bid 0 = .ok (.aload_n 0, 1) := by decide +kernel
theorem dX11_bid_1 : decode cX11_bid 1 = .ok (.iload_n 1, 1) := by decide +kernel
theorem dX11_bid_2 : decode cX11_bid 2 = .ok (.aload_n 0, 1) := by decide +kernel
theorem dX11_bid_3 : decode cX11_bid 3 = .ok (.getfield 72, 3) := by decide +kernel
theorem dX11_bid_6 : decode cX11_bid 6 = .ok (.getfield 147, 3) := by decide +kernel
theorem dX11_bid_9 : decode cX11_bid 9 = .ok (.invokestatic 209, 3) := by decide +kernel
theorem dX11_bid_12 : decode cX11_bid 12 = .ok (.invokevirtual 213, 3) := by decide +kernel
theorem dX11_bid_15 : decode cX11_bid 15 = .ok (.aload_n 0, 1) := by decide +kernel
theorem dX11_bid_16 : decode cX11_bid 16 = .ok (.iload_n 2, 1) := by decide +kernel
theorem dX11_bid_17 : decode cX11_bid 17 = .ok (.iconst 0, 1) := by decide +kernel
theorem dX11_bid_18 : decode cX11_bid 18 = .ok (.iconst 5, 1) := by decide +kernel
theorem dX11_bid_19 : decode cX11_bid 19 = .ok (.invokestatic 115, 3) := by decide +kernel
theorem dX11_bid_22 : decode cX11_bid 22 = .ok (.invokevirtual 119, 3) := by decide +kernel
theorem dX11_bid_25 : decode cX11_bid 25 = .ok (.iload_n 2, 1) := by decide +kernel
theorem dX11_bid_26 : decode cX11_bid 26 = .ok (.tableswitch 83 0 4 #[34, 44, 54, 64, 74], 34) := by decide +kernel
theorem dX11_bid_60 : decode cX11_bid 60 = .ok (.aload_n 0, 1) := by decide +kernel
theorem dX11_bid_61 : decode cX11_bid 61 = .ok (.getfield 26, 3) := by decide +kernel
theorem dX11_bid_64 : decode cX11_bid 64 = .ok (.getfield 229, 3) := by decide +kernel
theorem dX11_bid_67 : decode cX11_bid 67 = .ok (.iload_n 1, 1) := by decide +kernel
theorem dX11_bid_68 : decode cX11_bid 68 = .ok (.iaload, 1) := by decide +kernel
theorem dX11_bid_69 : decode cX11_bid 69 = .ok (.ireturn, 1) := by decide +kernel
theorem dX11_bid_70 : decode cX11_bid 70 = .ok (.aload_n 0, 1) := by decide +kernel
theorem dX11_bid_71 : decode cX11_bid 71 = .ok (.getfield 72, 3) := by decide +kernel
theorem dX11_bid_74 : decode cX11_bid 74 = .ok (.getfield 232, 3) := by decide +kernel
theorem dX11_bid_77 : decode cX11_bid 77 = .ok (.iload_n 1, 1) := by decide +kernel
theorem dX11_bid_78 : decode cX11_bid 78 = .ok (.iaload, 1) := by decide +kernel
theorem dX11_bid_79 : decode cX11_bid 79 = .ok (.ireturn, 1) := by decide +kernel
theorem dX11_bid_80 : decode cX11_bid 80 = .ok (.aload_n 0, 1) := by decide +kernel
theorem dX11_bid_81 : decode cX11_bid 81 = .ok (.getfield 72, 3) := by decide +kernel
theorem dX11_bid_84 : decode cX11_bid 84 = .ok (.getfield 235, 3) := by decide +kernel
theorem dX11_bid_87 : decode cX11_bid 87 = .ok (.iload_n 1, 1) := by decide +kernel
theorem dX11_bid_88 : decode cX11_bid 88 = .ok (.iaload, 1) := by decide +kernel
theorem dX11_bid_89 : decode cX11_bid 89 = .ok (.ireturn, 1) := by decide +kernel
theorem dX11_bid_90 : decode cX11_bid 90 = .ok (.aload_n 0, 1) := by decide +kernel
theorem dX11_bid_91 : decode cX11_bid 91 = .ok (.getfield 26, 3) := by decide +kernel
theorem dX11_bid_94 : decode cX11_bid 94 = .ok (.getfield 236, 3) := by decide +kernel
theorem dX11_bid_97 : decode cX11_bid 97 = .ok (.iload_n 1, 1) := by decide +kernel
theorem dX11_bid_98 : decode cX11_bid 98 = .ok (.iaload, 1) := by decide +kernel
theorem dX11_bid_99 : decode cX11_bid 99 = .ok (.ireturn, 1) := by decide +kernel
theorem dX11_bid_100 : decode cX11_bid 100 = .ok (.aload_n 0, 1) := by decide +kernel
theorem dX11_bid_101 : decode cX11_bid 101 = .ok (.getfield 72, 3) := by decide +kernel
theorem dX11_bid_104 : decode cX11_bid 104 = .ok (.iload_n 1, 1) := by decide +kernel
theorem dX11_bid_105 : decode cX11_bid 105 = .ok (.invokevirtual 239, 3) := by decide +kernel
theorem dX11_bid_108 : decode cX11_bid 108 = .ok (.ireturn, 1) := by decide +kernel
theorem dX11_bid_109 : decode cX11_bid 109 = .ok (.aload_n 0, 1) := by decide +kernel
theorem dX11_bid_110 : decode cX11_bid 110 = .ok (.getfield 26, 3) := by decide +kernel
theorem dX11_bid_113 : decode cX11_bid 113 = .ok (.iload_n 1, 1) := by decide +kernel
theorem dX11_bid_114 : decode cX11_bid 114 = .ok (.invokevirtual 242, 3) := by decide +kernel
theorem dX11_bid_117 : decode cX11_bid 117 = .ok (.ireturn, 1) := by decide +kernel
theorem dX11_writer_0 : decode cX11_writer 0 = .ok (.aload_n 0, 1) := by decide +kernel
theorem dX11_writer_1 : decode cX11_writer 1 = .ok (.iload_n 1, 1) := by decide +kernel
theorem dX11_writer_2 : decode cX11_writer 2 = .ok (.aload_n 0, 1) := by decide +kernel
theorem dX11_writer_3 : decode cX11_writer 3 = .ok (.getfield 72, 3) := by decide +kernel
theorem dX11_writer_6 : decode cX11_writer 6 = .ok (.getfield 191, 3) := by decide +kernel
theorem dX11_writer_9 : decode cX11_writer 9 = .ok (.invokestatic 209, 3) := by decide +kernel
theorem dX11_writer_12 : decode cX11_writer 12 = .ok (.invokevirtual 213, 3) := by decide +kernel
theorem dX11_writer_15 : decode cX11_writer 15 = .ok (.aload_n 0, 1) := by decide +kernel
theorem dX11_writer_16 : decode cX11_writer 16 = .ok (.iload_n 2, 1) := by decide +kernel
theorem dX11_writer_17 : decode cX11_writer 17 = .ok (.iconst 0, 1) := by decide +kernel
theorem dX11_writer_18 : decode cX11_writer 18 = .ok (.iconst 4, 1) := by decide +kernel
theorem dX11_writer_19 : decode cX11_writer 19 = .ok (.invokestatic 115, 3) := by decide +kernel
theorem dX11_writer_22 : decode cX11_writer 22 = .ok (.invokevirtual 119, 3) := by decide +kernel
theorem dX11_writer_25 : decode cX11_writer 25 = .ok (.iload_n 2, 1) := by decide +kernel
theorem dX11_writer_26 : decode cX11_writer 26 = .ok (.tableswitch 70 0 3 #[30, 40, 50, 60], 30) := by decide +kernel
theorem dX11_writer_56 : decode cX11_writer 56 = .ok (.aload_n 0, 1) := by decide +kernel
theorem dX11_writer_57 : decode cX11_writer 57 = .ok (.getfield 72, 3) := by decide +kernel
theorem dX11_writer_60 : decode cX11_writer 60 = .ok (.getfield 245, 3) := by decide +kernel
theorem dX11_writer_63 : decode cX11_writer 63 = .ok (.iload_n 1, 1) := by decide +kernel
theorem dX11_writer_64 : decode cX11_writer 64 = .ok (.iaload, 1) := by decide +kernel
theorem dX11_writer_65 : decode cX11_writer 65 = .ok (.ireturn, 1) := by decide +kernel
theorem dX11_writer_66 : decode cX11_writer 66 = .ok (.aload_n 0, 1) := by decide +kernel
theorem dX11_writer_67 : decode cX11_writer 67 = .ok (.getfield 72, 3) := by decide +kernel
theorem dX11_writer_70 : decode cX11_writer 70 = .ok (.getfield 248, 3) := by decide +kernel
theorem dX11_writer_73 : decode cX11_writer 73 = .ok (.iload_n 1, 1) := by decide +kernel
theorem dX11_writer_74 : decode cX11_writer 74 = .ok (.iaload, 1) := by decide +kernel
theorem dX11_writer_75 : decode cX11_writer 75 = .ok (.ireturn, 1) := by decide +kernel
theorem dX11_writer_76 : decode cX11_writer 76 = .ok (.aload_n 0, 1) := by decide +kernel
theorem dX11_writer_77 : decode cX11_writer 77 = .ok (.getfield 26, 3) := by decide +kernel
theorem dX11_writer_80 : decode cX11_writer 80 = .ok (.getfield 251, 3) := by decide +kernel
theorem dX11_writer_83 : decode cX11_writer 83 = .ok (.iload_n 1, 1) := by decide +kernel
theorem dX11_writer_84 : decode cX11_writer 84 = .ok (.iaload, 1) := by decide +kernel
theorem dX11_writer_85 : decode cX11_writer 85 = .ok (.ireturn, 1) := by decide +kernel
theorem dX11_writer_86 : decode cX11_writer 86 = .ok (.aload_n 0, 1) := by decide +kernel
theorem dX11_writer_87 : decode cX11_writer 87 = .ok (.getfield 72, 3) := by decide +kernel
theorem dX11_writer_90 : decode cX11_writer 90 = .ok (.getfield 252, 3) := by decide +kernel
theorem dX11_writer_93 : decode cX11_writer 93 = .ok (.iload_n 1, 1) := by decide +kernel
theorem dX11_writer_94 : decode cX11_writer 94 = .ok (.iaload, 1) := by decide +kernel
theorem dX11_writer_95 : decode cX11_writer 95 = .ok (.ireturn, 1) := by decide +kernel
theorem dX11_writer_96 : decode cX11_writer 96 = .ok (.aload_n 0, 1) := by decide +kernel
theorem dX11_writer_97 : decode cX11_writer 97 = .ok (.getfield 26, 3) := by decide +kernel
theorem dX11_writer_100 : decode cX11_writer 100 = .ok (.iload_n 1, 1) := by decide +kernel
theorem dX11_writer_101 : decode cX11_writer 101 = .ok (.invokevirtual 255, 3) := by decide +kernel
theorem dX11_writer_104 : decode cX11_writer 104 = .ok (.ireturn, 1) := by decide +kernel
theorem dX11_line_0 : decode cX11_line 0 = .ok (.aload_n 0, 1) := by decide +kernel
theorem dX11_line_1 : decode cX11_line 1 = .ok (.iload_n 1, 1) := by decide +kernel
theorem dX11_line_2 : decode cX11_line 2 = .ok (.aload_n 0, 1) := by decide +kernel
theorem dX11_line_3 : decode cX11_line 3 = .ok (.getfield 26, 3) := by decide +kernel
theorem dX11_line_6 : decode cX11_line 6 = .ok (.getfield 197, 3) := by decide +kernel
theorem dX11_line_9 : decode cX11_line 9 = .ok (.invokestatic 209, 3) := by decide +kernel
theorem dX11_line_12 : decode cX11_line 12 = .ok (.invokevirtual 213, 3) := by decide +kernel
theorem dX11_line_15 : decode cX11_line 15 = .ok (.aload_n 0, 1) := by decide +kernel
theorem dX11_line_16 : decode cX11_line 16 = .ok (.iload_n 2, 1) := by decide +kernel
theorem dX11_line_17 : decode cX11_line 17 = .ok (.iconst 0, 1) := by decide +kernel
theorem dX11_line_18 : decode cX11_line 18 = .ok (.iconst 4, 1) := by decide +kernel
theorem dX11_line_19 : decode cX11_line 19 = .ok (.invokestatic 115, 3) := by decide +kernel
theorem dX11_line_22 : decode cX11_line 22 = .ok (.invokevirtual 119, 3) := by decide +kernel
theorem dX11_line_25 : decode cX11_line 25 = .ok (.iload_n 2, 1) := by decide +kernel
theorem dX11_line_26 : decode cX11_line 26 = .ok (.tableswitch 70 0 3 #[30, 40, 50, 60], 30) := by decide +kernel
theorem dX11_line_56 : decode cX11_line 56 = .ok (.aload_n 0, 1) := by decide +kernel
theorem dX11_line_57 : decode cX11_line 57 = .ok (.getfield 26, 3) := by decide +kernel
theorem dX11_line_60 : decode cX11_line 60 = .ok (.getfield 258, 3) := by decide +kernel
theorem dX11_line_63 : decode cX11_line 63 = .ok (.iload_n 1, 1) := by decide +kernel
theorem dX11_line_64 : decode cX11_line 64 = .ok (.iaload, 1) := by decide +kernel
theorem dX11_line_65 : decode cX11_line 65 = .ok (.ireturn, 1) := by decide +kernel
theorem dX11_line_66 : decode cX11_line 66 = .ok (.aload_n 0, 1) := by decide +kernel
theorem dX11_line_67 : decode cX11_line 67 = .ok (.getfield 26, 3) := by decide +kernel
theorem dX11_line_70 : decode cX11_line 70 = .ok (.getfield 261, 3) := by decide +kernel
theorem dX11_line_73 : decode cX11_line 73 = .ok (.iload_n 1, 1) := by decide +kernel
theorem dX11_line_74 : decode cX11_line 74 = .ok (.iaload, 1) := by decide +kernel
theorem dX11_line_75 : decode cX11_line 75 = .ok (.ireturn, 1) := by decide +kernel
theorem dX11_line_76 : decode cX11_line 76 = .ok (.aload_n 0, 1) := by decide +kernel
theorem dX11_line_77 : decode cX11_line 77 = .ok (.getfield 26, 3) := by decide +kernel
theorem dX11_line_80 : decode cX11_line 80 = .ok (.getfield 264, 3) := by decide +kernel
theorem dX11_line_83 : decode cX11_line 83 = .ok (.iload_n 1, 1) := by decide +kernel
theorem dX11_line_84 : decode cX11_line 84 = .ok (.iaload, 1) := by decide +kernel
theorem dX11_line_85 : decode cX11_line 85 = .ok (.ireturn, 1) := by decide +kernel
theorem dX11_line_86 : decode cX11_line 86 = .ok (.aload_n 0, 1) := by decide +kernel
theorem dX11_line_87 : decode cX11_line 87 = .ok (.getfield 26, 3) := by decide +kernel
theorem dX11_line_90 : decode cX11_line 90 = .ok (.getfield 267, 3) := by decide +kernel
theorem dX11_line_93 : decode cX11_line 93 = .ok (.iload_n 1, 1) := by decide +kernel
theorem dX11_line_94 : decode cX11_line 94 = .ok (.iaload, 1) := by decide +kernel
theorem dX11_line_95 : decode cX11_line 95 = .ok (.ireturn, 1) := by decide +kernel
theorem dX11_line_96 : decode cX11_line 96 = .ok (.aload_n 0, 1) := by decide +kernel
theorem dX11_line_97 : decode cX11_line 97 = .ok (.iload_n 1, 1) := by decide +kernel
theorem dX11_line_98 : decode cX11_line 98 = .ok (.invokevirtual 270, 3) := by decide +kernel
theorem dX11_line_101 : decode cX11_line 101 = .ok (.ireturn, 1) := by decide +kernel
theorem dX11_kin_0 : decode cX11_kin 0 = .ok (.aload_n 0, 1) := by decide +kernel
theorem dX11_kin_1 : decode cX11_kin 1 = .ok (.iload_n 1, 1) := by decide +kernel
theorem dX11_kin_2 : decode cX11_kin 2 = .ok (.bipush 10, 2) := by decide +kernel
theorem dX11_kin_4 : decode cX11_kin 4 = .ok (.invokestatic 209, 3) := by decide +kernel
theorem dX11_kin_7 : decode cX11_kin 7 = .ok (.invokevirtual 119, 3) := by decide +kernel
theorem dX11_kin_10 : decode cX11_kin 10 = .ok (.aload_n 0, 1) := by decide +kernel
theorem dX11_kin_11 : decode cX11_kin 11 = .ok (.getfield 72, 3) := by decide +kernel
theorem dX11_kin_14 : decode cX11_kin 14 = .ok (.getfield 273, 3) := by decide +kernel
theorem dX11_kin_17 : decode cX11_kin 17 = .ok (.iload_n 1, 1) := by decide +kernel
theorem dX11_kin_18 : decode cX11_kin 18 = .ok (.iaload, 1) := by decide +kernel
theorem dX11_kin_19 : decode cX11_kin 19 = .ok (.ireturn, 1) := by decide +kernel
theorem dX11_would_0 : decode cX11_would 0 = .ok (.aload_n 0, 1) := by decide +kernel
theorem dX11_would_1 : decode cX11_would 1 = .ok (.iload_n 1, 1) := by decide +kernel
theorem dX11_would_2 : decode cX11_would 2 = .ok (.iconst 4, 1) := by decide +kernel
theorem dX11_would_3 : decode cX11_would 3 = .ok (.invokestatic 209, 3) := by decide +kernel
theorem dX11_would_6 : decode cX11_would 6 = .ok (.ifCond .eq 78, 3) := by decide +kernel
theorem dX11_would_9 : decode cX11_would 9 = .ok (.iload_n 2, 1) := by decide +kernel
theorem dX11_would_10 : decode cX11_would 10 = .ok (.iconst 1, 1) := by decide +kernel
theorem dX11_would_11 : decode cX11_would 11 = .ok (.bipush 15, 2) := by decide +kernel
theorem dX11_would_13 : decode cX11_would 13 = .ok (.invokestatic 115, 3) := by decide +kernel
theorem dX11_would_16 : decode cX11_would 16 = .ok (.ifCond .eq 68, 3) := by decide +kernel
theorem dX11_would_19 : decode cX11_would 19 = .ok (.iload_n 3, 1) := by decide +kernel
theorem dX11_would_20 : decode cX11_would 20 = .ok (.bipush 20, 2) := by decide +kernel
theorem dX11_would_22 : decode cX11_would 22 = .ok (.invokestatic 209, 3) := by decide +kernel
theorem dX11_would_25 : decode cX11_would 25 = .ok (.ifCond .eq 59, 3) := by decide +kernel
theorem dX11_would_28 : decode cX11_would 28 = .ok (.iload 4, 2) := by decide +kernel
theorem dX11_would_30 : decode cX11_would 30 = .ok (.bipush 6, 2) := by decide +kernel
theorem dX11_would_32 : decode cX11_would 32 = .ok (.invokestatic 209, 3) := by decide +kernel
theorem dX11_would_35 : decode cX11_would 35 = .ok (.ifCond .eq 49, 3) := by decide +kernel
theorem dX11_would_38 : decode cX11_would 38 = .ok (.iload 5, 2) := by decide +kernel
theorem dX11_would_40 : decode cX11_would 40 = .ok (.bipush 10, 2) := by decide +kernel
theorem dX11_would_42 : decode cX11_would 42 = .ok (.invokestatic 209, 3) := by decide +kernel
theorem dX11_would_45 : decode cX11_would 45 = .ok (.ifCond .eq 39, 3) := by decide +kernel
theorem dX11_would_48 : decode cX11_would 48 = .ok (.iload 6, 2) := by decide +kernel
theorem dX11_would_50 : decode cX11_would 50 = .ok (.iconst 0, 1) := by decide +kernel
theorem dX11_would_51 : decode cX11_would 51 = .ok (.sipush 500, 3) := by decide +kernel
theorem dX11_would_54 : decode cX11_would 54 = .ok (.invokestatic 115, 3) := by decide +kernel
theorem dX11_would_57 : decode cX11_would 57 = .ok (.ifCond .eq 27, 3) := by decide +kernel
theorem dX11_would_60 : decode cX11_would 60 = .ok (.iload 7, 2) := by decide +kernel
theorem dX11_would_62 : decode cX11_would 62 = .ok (.iconst 0, 1) := by decide +kernel
theorem dX11_would_63 : decode cX11_would 63 = .ok (.iconst 3, 1) := by decide +kernel
theorem dX11_would_64 : decode cX11_would 64 = .ok (.invokestatic 115, 3) := by decide +kernel
theorem dX11_would_67 : decode cX11_would 67 = .ok (.ifCond .eq 17, 3) := by decide +kernel
theorem dX11_would_70 : decode cX11_would 70 = .ok (.iload 8, 2) := by decide +kernel
theorem dX11_would_72 : decode cX11_would 72 = .ok (.bipush 20, 2) := by decide +kernel
theorem dX11_would_74 : decode cX11_would 74 = .ok (.invokestatic 209, 3) := by decide +kernel
theorem dX11_would_77 : decode cX11_would 77 = .ok (.ifCond .eq 7, 3) := by decide +kernel
theorem dX11_would_80 : decode cX11_would 80 = .ok (.iconst 1, 1) := by decide +kernel
theorem dX11_would_81 : decode cX11_would 81 = .ok (.goto 4, 3) := by decide +kernel
theorem dX11_would_84 : decode cX11_would 84 = .ok (.iconst 0, 1) := by decide +kernel
theorem dX11_would_85 : decode cX11_would 85 = .ok (.invokevirtual 119, 3) := by decide +kernel
theorem dX11_would_88 : decode cX11_would 88 = .ok (.aload_n 0, 1) := by decide +kernel
theorem dX11_would_89 : decode cX11_would 89 = .ok (.getfield 58, 3) := by decide +kernel
theorem dX11_would_92 : decode cX11_would 92 = .ok (.iconst 0, 1) := by decide +kernel
theorem dX11_would_93 : decode cX11_would 93 = .ok (.iload_n 1, 1) := by decide +kernel
theorem dX11_would_94 : decode cX11_would 94 = .ok (.iastore, 1) := by decide +kernel
theorem dX11_would_95 : decode cX11_would 95 = .ok (.aload_n 0, 1) := by decide +kernel
theorem dX11_would_96 : decode cX11_would 96 = .ok (.getfield 58, 3) := by decide +kernel
theorem dX11_would_99 : decode cX11_would 99 = .ok (.iconst 1, 1) := by decide +kernel
theorem dX11_would_100 : decode cX11_would 100 = .ok (.iload_n 2, 1) := by decide +kernel
theorem dX11_would_101 : decode cX11_would 101 = .ok (.iastore, 1) := by decide +kernel
theorem dX11_would_102 : decode cX11_would 102 = .ok (.aload_n 0, 1) := by decide +kernel
theorem dX11_would_103 : decode cX11_would 103 = .ok (.getfield 58, 3) := by decide +kernel
theorem dX11_would_106 : decode cX11_would 106 = .ok (.iconst 2, 1) := by decide +kernel
theorem dX11_would_107 : decode cX11_would 107 = .ok (.iload_n 3, 1) := by decide +kernel
theorem dX11_would_108 : decode cX11_would 108 = .ok (.iastore, 1) := by decide +kernel
theorem dX11_would_109 : decode cX11_would 109 = .ok (.aload_n 0, 1) := by decide +kernel
theorem dX11_would_110 : decode cX11_would 110 = .ok (.getfield 58, 3) := by decide +kernel
theorem dX11_would_113 : decode cX11_would 113 = .ok (.iconst 3, 1) := by decide +kernel
theorem dX11_would_114 : decode cX11_would 114 = .ok (.iload 4, 2) := by decide +kernel
theorem dX11_would_116 : decode cX11_would 116 = .ok (.iastore, 1) := by decide +kernel
theorem dX11_would_117 : decode cX11_would 117 = .ok (.aload_n 0, 1) := by decide +kernel
theorem dX11_would_118 : decode cX11_would 118 = .ok (.getfield 58, 3) := by decide +kernel
theorem dX11_would_121 : decode cX11_would 121 = .ok (.iconst 4, 1) := by decide +kernel
theorem dX11_would_122 : decode cX11_would 122 = .ok (.iload 5, 2) := by decide +kernel
theorem dX11_would_124 : decode cX11_would 124 = .ok (.iastore, 1) := by decide +kernel
theorem dX11_would_125 : decode cX11_would 125 = .ok (.aload_n 0, 1) := by decide +kernel
theorem dX11_would_126 : decode cX11_would 126 = .ok (.getfield 58, 3) := by decide +kernel
theorem dX11_would_129 : decode cX11_would 129 = .ok (.iconst 5, 1) := by decide +kernel
theorem dX11_would_130 : decode cX11_would 130 = .ok (.iload 6, 2) := by decide +kernel
theorem dX11_would_132 : decode cX11_would 132 = .ok (.iastore, 1) := by decide +kernel
theorem dX11_would_133 : decode cX11_would 133 = .ok (.aload_n 0, 1) := by decide +kernel
theorem dX11_would_134 : decode cX11_would 134 = .ok (.getfield 58, 3) := by decide +kernel
theorem dX11_would_137 : decode cX11_would 137 = .ok (.bipush 6, 2) := by decide +kernel
theorem dX11_would_139 : decode cX11_would 139 = .ok (.iload 7, 2) := by decide +kernel
theorem dX11_would_141 : decode cX11_would 141 = .ok (.iastore, 1) := by decide +kernel
theorem dX11_would_142 : decode cX11_would 142 = .ok (.aload_n 0, 1) := by decide +kernel
theorem dX11_would_143 : decode cX11_would 143 = .ok (.getfield 58, 3) := by decide +kernel
theorem dX11_would_146 : decode cX11_would 146 = .ok (.bipush 7, 2) := by decide +kernel
theorem dX11_would_148 : decode cX11_would 148 = .ok (.iload 8, 2) := by decide +kernel
theorem dX11_would_150 : decode cX11_would 150 = .ok (.iastore, 1) := by decide +kernel
theorem dX11_would_151 : decode cX11_would 151 = .ok (.aload_n 0, 1) := by decide +kernel
theorem dX11_would_152 : decode cX11_would 152 = .ok (.getfield 82, 3) := by decide +kernel
theorem dX11_would_155 : decode cX11_would 155 = .ok (.aload_n 0, 1) := by decide +kernel
theorem dX11_would_156 : decode cX11_would 156 = .ok (.getfield 58, 3) := by decide +kernel
theorem dX11_would_159 : decode cX11_would 159 = .ok (.invokevirtual 276, 3) := by decide +kernel
theorem dX11_would_162 : decode cX11_would 162 = .ok (.ireturn, 1) := by decide +kernel
theorem dX11_force_0 : decode cX11_force 0 = .ok (.aload_n 0, 1) := by decide +kernel
theorem dX11_force_1 : decode cX11_force 1 = .ok (.iload_n 1, 1) := by decide +kernel
theorem dX11_force_2 : decode cX11_force 2 = .ok (.iconst 5, 1) := by decide +kernel
theorem dX11_force_3 : decode cX11_force 3 = .ok (.invokestatic 209, 3) := by decide +kernel
theorem dX11_force_6 : decode cX11_force 6 = .ok (.ifCond .eq 16, 3) := by decide +kernel
theorem dX11_force_9 : decode cX11_force 9 = .ok (.iload_n 2, 1) := by decide +kernel
theorem dX11_force_10 : decode cX11_force 10 = .ok (.iconst 0, 1) := by decide +kernel
theorem dX11_force_11 : decode cX11_force 11 = .ok (.iconst 1, 1) := by decide +kernel
theorem dX11_force_12 : decode cX11_force 12 = .ok (.invokestatic 115, 3) := by decide +kernel
theorem dX11_force_15 : decode cX11_force 15 = .ok (.ifCond .eq 7, 3) := by decide +kernel
theorem dX11_force_18 : decode cX11_force 18 = .ok (.iconst 1, 1) := by decide +kernel
theorem dX11_force_19 : decode cX11_force 19 = .ok (.goto 4, 3) := by decide +kernel
theorem dX11_force_22 : decode cX11_force 22 = .ok (.iconst 0, 1) := by decide +kernel
theorem dX11_force_23 : decode cX11_force 23 = .ok (.invokevirtual 119, 3) := by decide +kernel
theorem dX11_force_26 : decode cX11_force 26 = .ok (.aload_n 0, 1) := by decide +kernel
theorem dX11_force_27 : decode cX11_force 27 = .ok (.iload_n 1, 1) := by decide +kernel
theorem dX11_force_28 : decode cX11_force 28 = .ok (.invokevirtual 280, 3) := by decide +kernel
theorem dX11_force_31 : decode cX11_force 31 = .ok (.istore_n 3, 1) := by decide +kernel
theorem dX11_force_32 : decode cX11_force 32 = .ok (.iload_n 3, 1) := by decide +kernel
theorem dX11_force_33 : decode cX11_force 33 = .ok (.iconst (-1), 1) := by decide +kernel
theorem dX11_force_34 : decode cX11_force 34 = .ok (.if_icmp .ne 5, 3) := by decide +kernel
theorem dX11_force_37 : decode cX11_force 37 = .ok (.iconst (-1), 1) := by decide +kernel
theorem dX11_force_38 : decode cX11_force 38 = .ok (.ireturn, 1) := by decide +kernel
theorem dX11_force_39 : decode cX11_force 39 = .ok (.iload_n 2, 1) := by decide +kernel
theorem dX11_force_40 : decode cX11_force 40 = .ok (.ifCond .ne 15, 3) := by decide +kernel
theorem dX11_force_43 : decode cX11_force 43 = .ok (.aload_n 0, 1) := by decide +kernel
theorem dX11_force_44 : decode cX11_force 44 = .ok (.getfield 26, 3) := by decide +kernel
theorem dX11_force_47 : decode cX11_force 47 = .ok (.getfield 261, 3) := by decide +kernel
theorem dX11_force_50 : decode cX11_force 50 = .ok (.iload_n 3, 1) := by decide +kernel
theorem dX11_force_51 : decode cX11_force 51 = .ok (.iaload, 1) := by decide +kernel
theorem dX11_force_52 : decode cX11_force 52 = .ok (.goto 4, 3) := by decide +kernel
theorem dX11_force_55 : decode cX11_force 55 = .ok (.iload_n 3, 1) := by decide +kernel
theorem dX11_force_56 : decode cX11_force 56 = .ok (.ireturn, 1) := by decide +kernel
theorem dX11_torn_0 : decode cX11_torn 0 = .ok (.aload_n 0, 1) := by decide +kernel
theorem dX11_torn_1 : decode cX11_torn 1 = .ok (.getfield 26, 3) := by decide +kernel
theorem dX11_torn_4 : decode cX11_torn 4 = .ok (.invokevirtual 283, 3) := by decide +kernel
theorem dX11_torn_7 : decode cX11_torn 7 = .ok (.istore_n 1, 1) := by decide +kernel
theorem dX11_torn_8 : decode cX11_torn 8 = .ok (.iconst 0, 1) := by decide +kernel
theorem dX11_torn_9 : decode cX11_torn 9 = .ok (.istore_n 2, 1) := by decide +kernel
theorem dX11_torn_10 : decode cX11_torn 10 = .ok (.iconst 0, 1) := by decide +kernel
theorem dX11_torn_11 : decode cX11_torn 11 = .ok (.istore_n 3, 1) := by decide +kernel
theorem dX11_torn_12 : decode cX11_torn 12 = .ok (.iload_n 3, 1) := by decide +kernel
theorem dX11_torn_13 : decode cX11_torn 13 = .ok (.iconst 5, 1) := by decide +kernel
theorem dX11_torn_14 : decode cX11_torn 14 = .ok (.if_icmp .ge 26, 3) := by decide +kernel
theorem dX11_torn_17 : decode cX11_torn 17 = .ok (.iload_n 1, 1) := by decide +kernel
theorem dX11_torn_18 : decode cX11_torn 18 = .ok (.iconst 2, 1) := by decide +kernel
theorem dX11_torn_19 : decode cX11_torn 19 = .ok (.iload_n 3, 1) := by decide +kernel
theorem dX11_torn_20 : decode cX11_torn 20 = .ok (.imul, 1) := by decide +kernel
theorem dX11_torn_21 : decode cX11_torn 21 = .ok (.ishr, 1) := by decide +kernel
theorem dX11_torn_22 : decode cX11_torn 22 = .ok (.iconst 3, 1) := by decide +kernel
theorem dX11_torn_23 : decode cX11_torn 23 = .ok (.iand, 1) := by decide +kernel
theorem dX11_torn_24 : decode cX11_torn 24 = .ok (.iconst 3, 1) := by decide +kernel
theorem dX11_torn_25 : decode cX11_torn 25 = .ok (.if_icmp .ne 9, 3) := by decide +kernel
theorem dX11_torn_28 : decode cX11_torn 28 = .ok (.iload_n 2, 1) := by decide +kernel
theorem dX11_torn_29 : decode cX11_torn 29 = .ok (.iconst 1, 1) := by decide +kernel
theorem dX11_torn_30 : decode cX11_torn 30 = .ok (.iload_n 3, 1) := by decide +kernel
theorem dX11_torn_31 : decode cX11_torn 31 = .ok (.ishl, 1) := by decide +kernel
theorem dX11_torn_32 : decode cX11_torn 32 = .ok (.ior, 1) := by decide +kernel
theorem dX11_torn_33 : decode cX11_torn 33 = .ok (.istore_n 2, 1) := by decide +kernel
theorem dX11_torn_34 : decode cX11_torn 34 = .ok (.iinc 3 1, 3) := by decide +kernel
theorem dX11_torn_37 : decode cX11_torn 37 = .ok (.goto (-25), 3) := by decide +kernel
theorem dX11_torn_40 : decode cX11_torn 40 = .ok (.iload_n 2, 1) := by decide +kernel
theorem dX11_torn_41 : decode cX11_torn 41 = .ok (.ireturn, 1) := by decide +kernel
theorem dX11_can_0 : decode cX11_can 0 = .ok (.aload_n 0, 1) := by decide +kernel
theorem dX11_can_1 : decode cX11_can 1 = .ok (.iload_n 1, 1) := by decide +kernel
theorem dX11_can_2 : decode cX11_can 2 = .ok (.aload_n 0, 1) := by decide +kernel
theorem dX11_can_3 : decode cX11_can 3 = .ok (.getfield 72, 3) := by decide +kernel
theorem dX11_can_6 : decode cX11_can 6 = .ok (.getfield 191, 3) := by decide +kernel
theorem dX11_can_9 : decode cX11_can 9 = .ok (.invokestatic 209, 3) := by decide +kernel
theorem dX11_can_12 : decode cX11_can 12 = .ok (.ifCond .eq 35, 3) := by decide +kernel
theorem dX11_can_15 : decode cX11_can 15 = .ok (.iload_n 2, 1) := by decide +kernel
theorem dX11_can_16 : decode cX11_can 16 = .ok (.aload_n 0, 1) := by decide +kernel
theorem dX11_can_17 : decode cX11_can 17 = .ok (.getfield 72, 3) := by decide +kernel
theorem dX11_can_20 : decode cX11_can 20 = .ok (.getfield 147, 3) := by decide +kernel
theorem dX11_can_23 : decode cX11_can 23 = .ok (.invokestatic 209, 3) := by decide +kernel
theorem dX11_can_26 : decode cX11_can 26 = .ok (.ifCond .eq 21, 3) := by decide +kernel
theorem dX11_can_29 : decode cX11_can 29 = .ok (.iload_n 3, 1) := by decide +kernel
theorem dX11_can_30 : decode cX11_can 30 = .ok (.aload_n 0, 1) := by decide +kernel
theorem dX11_can_31 : decode cX11_can 31 = .ok (.getfield 72, 3) := by decide +kernel
theorem dX11_can_34 : decode cX11_can 34 = .ok (.getfield 188, 3) := by decide +kernel
theorem dX11_can_37 : decode cX11_can 37 = .ok (.invokestatic 209, 3) := by decide +kernel
theorem dX11_can_40 : decode cX11_can 40 = .ok (.ifCond .eq 7, 3) := by decide +kernel
theorem dX11_can_43 : decode cX11_can 43 = .ok (.iconst 1, 1) := by decide +kernel
theorem dX11_can_44 : decode cX11_can 44 = .ok (.goto 4, 3) := by decide +kernel
theorem dX11_can_47 : decode cX11_can 47 = .ok (.iconst 0, 1) := by decide +kernel
theorem dX11_can_48 : decode cX11_can 48 = .ok (.invokevirtual 213, 3) := by decide +kernel
theorem dX11_can_51 : decode cX11_can 51 = .ok (.aload_n 0, 1) := by decide +kernel
theorem dX11_can_52 : decode cX11_can 52 = .ok (.getfield 26, 3) := by decide +kernel
theorem dX11_can_55 : decode cX11_can 55 = .ok (.aload_n 0, 1) := by decide +kernel
theorem dX11_can_56 : decode cX11_can 56 = .ok (.getfield 72, 3) := by decide +kernel
theorem dX11_can_59 : decode cX11_can 59 = .ok (.iload_n 1, 1) := by decide +kernel
theorem dX11_can_60 : decode cX11_can 60 = .ok (.iload_n 2, 1) := by decide +kernel
theorem dX11_can_61 : decode cX11_can 61 = .ok (.iload_n 3, 1) := by decide +kernel
theorem dX11_can_62 : decode cX11_can 62 = .ok (.invokevirtual 286, 3) := by decide +kernel
theorem dX11_can_65 : decode cX11_can 65 = .ok (.ireturn, 1) := by decide +kernel
theorem dX11_send_0 : decode cX11_send 0 = .ok (.aload_n 0, 1) := by decide +kernel
theorem dX11_send_1 : decode cX11_send 1 = .ok (.iload_n 1, 1) := by decide +kernel
theorem dX11_send_2 : decode cX11_send 2 = .ok (.aload_n 0, 1) := by decide +kernel
theorem dX11_send_3 : decode cX11_send 3 = .ok (.getfield 72, 3) := by decide +kernel
theorem dX11_send_6 : decode cX11_send 6 = .ok (.getfield 147, 3) := by decide +kernel
theorem dX11_send_9 : decode cX11_send 9 = .ok (.invokestatic 290, 3) := by decide +kernel
theorem dX11_send_12 : decode cX11_send 12 = .ok (.invokevirtual 119, 3) := by decide +kernel
theorem dX11_send_15 : decode cX11_send 15 = .ok (.iconst (-1), 1) := by decide +kernel
theorem dX11_send_16 : decode cX11_send 16 = .ok (.istore_n 2, 1) := by decide +kernel
theorem dX11_send_17 : decode cX11_send 17 = .ok (.iconst 0, 1) := by decide +kernel
theorem dX11_send_18 : decode cX11_send 18 = .ok (.istore_n 3, 1) := by decide +kernel
theorem dX11_send_19 : decode cX11_send 19 = .ok (.iload_n 3, 1) := by decide +kernel
theorem dX11_send_20 : decode cX11_send 20 = .ok (.iconst 1, 1) := by decide +kernel
theorem dX11_send_21 : decode cX11_send 21 = .ok (.aload_n 0, 1) := by decide +kernel
theorem dX11_send_22 : decode cX11_send 22 = .ok (.getfield 72, 3) := by decide +kernel
theorem dX11_send_25 : decode cX11_send 25 = .ok (.getfield 191, 3) := by decide +kernel
theorem dX11_send_28 : decode cX11_send 28 = .ok (.ishl, 1) := by decide +kernel
theorem dX11_send_29 : decode cX11_send 29 = .ok (.if_icmp .ge 53, 3) := by decide +kernel
theorem dX11_send_32 : decode cX11_send 32 = .ok (.iload_n 2, 1) := by decide +kernel
theorem dX11_send_33 : decode cX11_send 33 = .ok (.iconst (-1), 1) := by decide +kernel
theorem dX11_send_34 : decode cX11_send 34 = .ok (.if_icmp .eq 14, 3) := by decide +kernel
theorem dX11_send_37 : decode cX11_send 37 = .ok (.iload_n 3, 1) := by decide +kernel
theorem dX11_send_38 : decode cX11_send 38 = .ok (.invokestatic 293, 3) := by decide +kernel
theorem dX11_send_41 : decode cX11_send 41 = .ok (.iload_n 2, 1) := by decide +kernel
theorem dX11_send_42 : decode cX11_send 42 = .ok (.invokestatic 293, 3) := by decide +kernel
theorem dX11_send_45 : decode cX11_send 45 = .ok (.if_icmp .ge 7, 3) := by decide +kernel
theorem dX11_send_48 : decode cX11_send 48 = .ok (.iconst 1, 1) := by decide +kernel
theorem dX11_send_49 : decode cX11_send 49 = .ok (.goto 4, 3) := by decide +kernel
theorem dX11_send_52 : decode cX11_send 52 = .ok (.iconst 0, 1) := by decide +kernel
theorem dX11_send_53 : decode cX11_send 53 = .ok (.istore 4, 2) := by decide +kernel
theorem dX11_send_55 : decode cX11_send 55 = .ok (.iload 4, 2) := by decide +kernel
theorem dX11_send_57 : decode cX11_send 57 = .ok (.ifCond .eq 19, 3) := by decide +kernel
theorem dX11_send_60 : decode cX11_send 60 = .ok (.aload_n 0, 1) := by decide +kernel
theorem dX11_send_61 : decode cX11_send 61 = .ok (.getfield 72, 3) := by decide +kernel
theorem dX11_send_64 : decode cX11_send 64 = .ok (.iload_n 3, 1) := by decide +kernel
theorem dX11_send_65 : decode cX11_send 65 = .ok (.invokevirtual 298, 3) := by decide +kernel
theorem dX11_send_68 : decode cX11_send 68 = .ok (.iload_n 1, 1) := by decide +kernel
theorem dX11_send_69 : decode cX11_send 69 = .ok (.iand, 1) := by decide +kernel
theorem dX11_send_70 : decode cX11_send 70 = .ok (.iload_n 1, 1) := by decide +kernel
theorem dX11_send_71 : decode cX11_send 71 = .ok (.if_icmp .ne 5, 3) := by decide +kernel
theorem dX11_send_74 : decode cX11_send 74 = .ok (.iload_n 3, 1) := by decide +kernel
theorem dX11_send_75 : decode cX11_send 75 = .ok (.istore_n 2, 1) := by decide +kernel
theorem dX11_send_76 : decode cX11_send 76 = .ok (.iinc 3 1, 3) := by decide +kernel
theorem dX11_send_79 : decode cX11_send 79 = .ok (.goto (-60), 3) := by decide +kernel
theorem dX11_send_82 : decode cX11_send 82 = .ok (.iload_n 2, 1) := by decide +kernel
theorem dX11_send_83 : decode cX11_send 83 = .ok (.ireturn, 1) := by decide +kernel
theorem dX11_lost_0 : decode cX11_lost 0 = .ok (.aload_n 0, 1) := by decide +kernel
theorem dX11_lost_1 : decode cX11_lost 1 = .ok (.iload_n 1, 1) := by decide +kernel
theorem dX11_lost_2 : decode cX11_lost 2 = .ok (.aload_n 0, 1) := by decide +kernel
theorem dX11_lost_3 : decode cX11_lost 3 = .ok (.getfield 72, 3) := by decide +kernel
theorem dX11_lost_6 : decode cX11_lost 6 = .ok (.getfield 147, 3) := by decide +kernel
theorem dX11_lost_9 : decode cX11_lost 9 = .ok (.invokestatic 290, 3) := by decide +kernel
theorem dX11_lost_12 : decode cX11_lost 12 = .ok (.invokevirtual 119, 3) := by decide +kernel
theorem dX11_lost_15 : decode cX11_lost 15 = .ok (.iconst 0, 1) := by decide +kernel
theorem dX11_lost_16 : decode cX11_lost 16 = .ok (.istore_n 2, 1) := by decide +kernel
theorem dX11_lost_17 : decode cX11_lost 17 = .ok (.iload_n 2, 1) := by decide +kernel
theorem dX11_lost_18 : decode cX11_lost 18 = .ok (.aload_n 0, 1) := by decide +kernel
theorem dX11_lost_19 : decode cX11_lost 19 = .ok (.getfield 72, 3) := by decide +kernel
theorem dX11_lost_22 : decode cX11_lost 22 = .ok (.getfield 147, 3) := by decide +kernel
theorem dX11_lost_25 : decode cX11_lost 25 = .ok (.if_icmp .ge 30, 3) := by decide +kernel
theorem dX11_lost_28 : decode cX11_lost 28 = .ok (.iload_n 1, 1) := by decide +kernel
theorem dX11_lost_29 : decode cX11_lost 29 = .ok (.iload_n 2, 1) := by decide +kernel
theorem dX11_lost_30 : decode cX11_lost 30 = .ok (.invokestatic 301, 3) := by decide +kernel
theorem dX11_lost_33 : decode cX11_lost 33 = .ok (.ifCond .eq 16, 3) := by decide +kernel
theorem dX11_lost_36 : decode cX11_lost 36 = .ok (.aload_n 0, 1) := by decide +kernel
theorem dX11_lost_37 : decode cX11_lost 37 = .ok (.getfield 72, 3) := by decide +kernel
theorem dX11_lost_40 : decode cX11_lost 40 = .ok (.iload_n 2, 1) := by decide +kernel
theorem dX11_lost_41 : decode cX11_lost 41 = .ok (.invokevirtual 239, 3) := by decide +kernel
theorem dX11_lost_44 : decode cX11_lost 44 = .ok (.ifCond .ne 5, 3) := by decide +kernel
theorem dX11_lost_47 : decode cX11_lost 47 = .ok (.iload_n 2, 1) := by decide +kernel
theorem dX11_lost_48 : decode cX11_lost 48 = .ok (.ireturn, 1) := by decide +kernel
theorem dX11_lost_49 : decode cX11_lost 49 = .ok (.iinc 2 1, 3) := by decide +kernel
theorem dX11_lost_52 : decode cX11_lost 52 = .ok (.goto (-35), 3) := by decide +kernel
theorem dX11_lost_55 : decode cX11_lost 55 = .ok (.iconst (-1), 1) := by decide +kernel
theorem dX11_lost_56 : decode cX11_lost 56 = .ok (.ireturn, 1) := by decide +kernel
theorem dX11_path_0 : decode cX11_path 0 = .ok (.aload_n 0, 1) := by decide +kernel
theorem dX11_path_1 : decode cX11_path 1 = .ok (.iload_n 1, 1) := by decide +kernel
theorem dX11_path_2 : decode cX11_path 2 = .ok (.bipush 10, 2) := by decide +kernel
theorem dX11_path_4 : decode cX11_path 4 = .ok (.invokestatic 209, 3) := by decide +kernel
theorem dX11_path_7 : decode cX11_path 7 = .ok (.ifCond .eq 16, 3) := by decide +kernel
theorem dX11_path_10 : decode cX11_path 10 = .ok (.iload_n 2, 1) := by decide +kernel
theorem dX11_path_11 : decode cX11_path 11 = .ok (.bipush 10, 2) := by decide +kernel
theorem dX11_path_13 : decode cX11_path 13 = .ok (.invokestatic 209, 3) := by decide +kernel
theorem dX11_path_16 : decode cX11_path 16 = .ok (.ifCond .eq 7, 3) := by decide +kernel
theorem dX11_path_19 : decode cX11_path 19 = .ok (.iconst 1, 1) := by decide +kernel
theorem dX11_path_20 : decode cX11_path 20 = .ok (.goto 4, 3) := by decide +kernel
theorem dX11_path_23 : decode cX11_path 23 = .ok (.iconst 0, 1) := by decide +kernel
theorem dX11_path_24 : decode cX11_path 24 = .ok (.invokevirtual 119, 3) := by decide +kernel
theorem dX11_path_27 : decode cX11_path 27 = .ok (.iload_n 1, 1) := by decide +kernel
theorem dX11_path_28 : decode cX11_path 28 = .ok (.istore_n 3, 1) := by decide +kernel
theorem dX11_path_29 : decode cX11_path 29 = .ok (.iconst 0, 1) := by decide +kernel
theorem dX11_path_30 : decode cX11_path 30 = .ok (.istore 4, 2) := by decide +kernel
theorem dX11_path_32 : decode cX11_path 32 = .ok (.iload 4, 2) := by decide +kernel
theorem dX11_path_34 : decode cX11_path 34 = .ok (.bipush 10, 2) := by decide +kernel
theorem dX11_path_36 : decode cX11_path 36 = .ok (.if_icmp .ge 32, 3) := by decide +kernel
theorem dX11_path_39 : decode cX11_path 39 = .ok (.iload_n 3, 1) := by decide +kernel
theorem dX11_path_40 : decode cX11_path 40 = .ok (.iconst (-1), 1) := by decide +kernel
theorem dX11_path_41 : decode cX11_path 41 = .ok (.if_icmp .eq 27, 3) := by decide +kernel
theorem dX11_path_44 : decode cX11_path 44 = .ok (.iload_n 3, 1) := by decide +kernel
theorem dX11_path_45 : decode cX11_path 45 = .ok (.iload_n 2, 1) := by decide +kernel
theorem dX11_path_46 : decode cX11_path 46 = .ok (.if_icmp .ne 6, 3) := by decide +kernel
theorem dX11_path_49 : decode cX11_path 49 = .ok (.iload 4, 2) := by decide +kernel
theorem dX11_path_51 : decode cX11_path 51 = .ok (.ireturn, 1) := by decide +kernel
theorem dX11_path_52 : decode cX11_path 52 = .ok (.aload_n 0, 1) := by decide +kernel
theorem dX11_path_53 : decode cX11_path 53 = .ok (.getfield 72, 3) := by decide +kernel
theorem dX11_path_56 : decode cX11_path 56 = .ok (.getfield 273, 3) := by decide +kernel
theorem dX11_path_59 : decode cX11_path 59 = .ok (.iload_n 3, 1) := by decide +kernel
theorem dX11_path_60 : decode cX11_path 60 = .ok (.iaload, 1) := by decide +kernel
theorem dX11_path_61 : decode cX11_path 61 = .ok (.istore_n 3, 1) := by decide +kernel
theorem dX11_path_62 : decode cX11_path 62 = .ok (.iinc 4 1, 3) := by decide +kernel
theorem dX11_path_65 : decode cX11_path 65 = .ok (.goto (-33), 3) := by decide +kernel
theorem dX11_path_68 : decode cX11_path 68 = .ok (.iconst (-1), 1) := by decide +kernel
theorem dX11_path_69 : decode cX11_path 69 = .ok (.ireturn, 1) := by decide +kernel
theorem dX11_comes_0 : decode cX11_comes 0 = .ok (.aload_n 0, 1) := by decide +kernel
theorem dX11_comes_1 : decode cX11_comes 1 = .ok (.iload_n 1, 1) := by decide +kernel
theorem dX11_comes_2 : decode cX11_comes 2 = .ok (.bipush 10, 2) := by decide +kernel
theorem dX11_comes_4 : decode cX11_comes 4 = .ok (.invokestatic 209, 3) := by decide +kernel
theorem dX11_comes_7 : decode cX11_comes 7 = .ok (.invokevirtual 119, 3) := by decide +kernel
theorem dX11_comes_10 : decode cX11_comes 10 = .ok (.iconst 0, 1) := by decide +kernel
theorem dX11_comes_11 : decode cX11_comes 11 = .ok (.istore_n 2, 1) := by decide +kernel
theorem dX11_comes_12 : decode cX11_comes 12 = .ok (.iload_n 1, 1) := by decide +kernel
theorem dX11_comes_13 : decode cX11_comes 13 = .ok (.istore_n 3, 1) := by decide +kernel
theorem dX11_comes_14 : decode cX11_comes 14 = .ok (.iconst 0, 1) := by decide +kernel
theorem dX11_comes_15 : decode cX11_comes 15 = .ok (.istore 4, 2) := by decide +kernel
theorem dX11_comes_17 : decode cX11_comes 17 = .ok (.iload 4, 2) := by decide +kernel
theorem dX11_comes_19 : decode cX11_comes 19 = .ok (.bipush 10, 2) := by decide +kernel
theorem dX11_comes_21 : decode cX11_comes 21 = .ok (.if_icmp .ge 30, 3) := by decide +kernel
theorem dX11_comes_24 : decode cX11_comes 24 = .ok (.iload_n 3, 1) := by decide +kernel
theorem dX11_comes_25 : decode cX11_comes 25 = .ok (.iconst (-1), 1) := by decide +kernel
theorem dX11_comes_26 : decode cX11_comes 26 = .ok (.if_icmp .eq 25, 3) := by decide +kernel
theorem dX11_comes_29 : decode cX11_comes 29 = .ok (.iload_n 2, 1) := by decide +kernel
theorem dX11_comes_30 : decode cX11_comes 30 = .ok (.iconst 1, 1) := by decide +kernel
theorem dX11_comes_31 : decode cX11_comes 31 = .ok (.iload_n 3, 1) := by decide +kernel
theorem dX11_comes_32 : decode cX11_comes 32 = .ok (.ishl, 1) := by decide +kernel
theorem dX11_comes_33 : decode cX11_comes 33 = .ok (.ior, 1) := by decide +kernel
theorem dX11_comes_34 : decode cX11_comes 34 = .ok (.istore_n 2, 1) := by decide +kernel
theorem dX11_comes_35 : decode cX11_comes 35 = .ok (.aload_n 0, 1) := by decide +kernel
theorem dX11_comes_36 : decode cX11_comes 36 = .ok (.getfield 72, 3) := by decide +kernel
theorem dX11_comes_39 : decode cX11_comes 39 = .ok (.getfield 273, 3) := by decide +kernel
theorem dX11_comes_42 : decode cX11_comes 42 = .ok (.iload_n 3, 1) := by decide +kernel
theorem dX11_comes_43 : decode cX11_comes 43 = .ok (.iaload, 1) := by decide +kernel
theorem dX11_comes_44 : decode cX11_comes 44 = .ok (.istore_n 3, 1) := by decide +kernel
theorem dX11_comes_45 : decode cX11_comes 45 = .ok (.iinc 4 1, 3) := by decide +kernel
theorem dX11_comes_48 : decode cX11_comes 48 = .ok (.goto (-31), 3) := by decide +kernel
theorem dX11_comes_51 : decode cX11_comes 51 = .ok (.iload_n 2, 1) := by decide +kernel
theorem dX11_comes_52 : decode cX11_comes 52 = .ok (.ireturn, 1) := by decide +kernel
theorem dX11_fits_0 : decode cX11_fits 0 = .ok (.aload_n 0, 1) := by decide +kernel
theorem dX11_fits_1 : decode cX11_fits 1 = .ok (.iload_n 1, 1) := by decide +kernel
theorem dX11_fits_2 : decode cX11_fits 2 = .ok (.aload_n 0, 1) := by decide +kernel
theorem dX11_fits_3 : decode cX11_fits 3 = .ok (.getfield 72, 3) := by decide +kernel
theorem dX11_fits_6 : decode cX11_fits 6 = .ok (.getfield 147, 3) := by decide +kernel
theorem dX11_fits_9 : decode cX11_fits 9 = .ok (.invokestatic 290, 3) := by decide +kernel
theorem dX11_fits_12 : decode cX11_fits 12 = .ok (.invokevirtual 119, 3) := by decide +kernel
theorem dX11_fits_15 : decode cX11_fits 15 = .ok (.aload_n 0, 1) := by decide +kernel
theorem dX11_fits_16 : decode cX11_fits 16 = .ok (.getfield 40, 3) := by decide +kernel
theorem dX11_fits_19 : decode cX11_fits 19 = .ok (.aload_n 0, 1) := by decide +kernel
theorem dX11_fits_20 : decode cX11_fits 20 = .ok (.getfield 72, 3) := by decide +kernel
theorem dX11_fits_23 : decode cX11_fits 23 = .ok (.iload_n 1, 1) := by decide +kernel
theorem dX11_fits_24 : decode cX11_fits 24 = .ok (.invokevirtual 304, 3) := by decide +kernel
theorem dX11_fits_27 : decode cX11_fits 27 = .ok (.aload_n 0, 1) := by decide +kernel
theorem dX11_fits_28 : decode cX11_fits 28 = .ok (.getfield 40, 3) := by decide +kernel
theorem dX11_fits_31 : decode cX11_fits 31 = .ok (.getfield 308, 3) := by decide +kernel
theorem dX11_fits_34 : decode cX11_fits 34 = .ok (.ireturn, 1) := by decide +kernel
theorem dX11_fitted_0 : decode cX11_fitted 0 = .ok (.aload_n 0, 1) := by decide +kernel
theorem dX11_fitted_1 : decode cX11_fitted 1 = .ok (.iload_n 2, 1) := by decide +kernel
theorem dX11_fitted_2 : decode cX11_fitted 2 = .ok (.aload_n 0, 1) := by decide +kernel
theorem dX11_fitted_3 : decode cX11_fitted 3 = .ok (.getfield 72, 3) := by decide +kernel
theorem dX11_fitted_6 : decode cX11_fitted 6 = .ok (.getfield 147, 3) := by decide +kernel
theorem dX11_fitted_9 : decode cX11_fitted 9 = .ok (.invokestatic 209, 3) := by decide +kernel
theorem dX11_fitted_12 : decode cX11_fitted 12 = .ok (.invokevirtual 213, 3) := by decide +kernel
theorem dX11_fitted_15 : decode cX11_fitted 15 = .ok (.aload_n 0, 1) := by decide +kernel
theorem dX11_fitted_16 : decode cX11_fitted 16 = .ok (.iload_n 1, 1) := by decide +kernel
theorem dX11_fitted_17 : decode cX11_fitted 17 = .ok (.aload_n 0, 1) := by decide +kernel
theorem dX11_fitted_18 : decode cX11_fitted 18 = .ok (.getfield 72, 3) := by decide +kernel
theorem dX11_fitted_21 : decode cX11_fitted 21 = .ok (.getfield 147, 3) := by decide +kernel
theorem dX11_fitted_24 : decode cX11_fitted 24 = .ok (.invokestatic 290, 3) := by decide +kernel
theorem dX11_fitted_27 : decode cX11_fitted 27 = .ok (.invokevirtual 119, 3) := by decide +kernel
theorem dX11_fitted_30 : decode cX11_fitted 30 = .ok (.aload_n 0, 1) := by decide +kernel
theorem dX11_fitted_31 : decode cX11_fitted 31 = .ok (.getfield 40, 3) := by decide +kernel
theorem dX11_fitted_34 : decode cX11_fitted 34 = .ok (.aload_n 0, 1) := by decide +kernel
theorem dX11_fitted_35 : decode cX11_fitted 35 = .ok (.getfield 72, 3) := by decide +kernel
theorem dX11_fitted_38 : decode cX11_fitted 38 = .ok (.iload_n 1, 1) := by decide +kernel
theorem dX11_fitted_39 : decode cX11_fitted 39 = .ok (.invokevirtual 304, 3) := by decide +kernel
theorem dX11_fitted_42 : decode cX11_fitted 42 = .ok (.aload_n 0, 1) := by decide +kernel
theorem dX11_fitted_43 : decode cX11_fitted 43 = .ok (.getfield 40, 3) := by decide +kernel
theorem dX11_fitted_46 : decode cX11_fitted 46 = .ok (.getfield 311, 3) := by decide +kernel
theorem dX11_fitted_49 : decode cX11_fitted 49 = .ok (.iload_n 2, 1) := by decide +kernel
theorem dX11_fitted_50 : decode cX11_fitted 50 = .ok (.iaload, 1) := by decide +kernel
theorem dX11_fitted_51 : decode cX11_fitted 51 = .ok (.ireturn, 1) := by decide +kernel
theorem dX11_stood_0 : decode cX11_stood 0 = .ok (.aload_n 0, 1) := by decide +kernel
theorem dX11_stood_1 : decode cX11_stood 1 = .ok (.iload_n 1, 1) := by decide +kernel
theorem dX11_stood_2 : decode cX11_stood 2 = .ok (.iconst 0, 1) := by decide +kernel
theorem dX11_stood_3 : decode cX11_stood 3 = .ok (.iconst 2, 1) := by decide +kernel
theorem dX11_stood_4 : decode cX11_stood 4 = .ok (.invokestatic 115, 3) := by decide +kernel
theorem dX11_stood_7 : decode cX11_stood 7 = .ok (.invokevirtual 119, 3) := by decide +kernel
theorem dX11_stood_10 : decode cX11_stood 10 = .ok (.aload_n 0, 1) := by decide +kernel
theorem dX11_stood_11 : decode cX11_stood 11 = .ok (.getfield 47, 3) := by decide +kernel
theorem dX11_stood_14 : decode cX11_stood 14 = .ok (.aload_n 0, 1) := by decide +kernel
theorem dX11_stood_15 : decode cX11_stood 15 = .ok (.getfield 72, 3) := by decide +kernel
theorem dX11_stood_18 : decode cX11_stood 18 = .ok (.getfield 147, 3) := by decide +kernel
theorem dX11_stood_21 : decode cX11_stood 21 = .ok (.aload_n 0, 1) := by decide +kernel
theorem dX11_stood_22 : decode cX11_stood 22 = .ok (.getfield 26, 3) := by decide +kernel
theorem dX11_stood_25 : decode cX11_stood 25 = .ok (.getfield 229, 3) := by decide +kernel
theorem dX11_stood_28 : decode cX11_stood 28 = .ok (.aload_n 0, 1) := by decide +kernel
theorem dX11_stood_29 : decode cX11_stood 29 = .ok (.getfield 92, 3) := by decide +kernel
theorem dX11_stood_32 : decode cX11_stood 32 = .ok (.invokevirtual 314, 3) := by decide +kernel
theorem dX11_stood_35 : decode cX11_stood 35 = .ok (.iload_n 1, 1) := by decide +kernel
theorem dX11_stood_36 : decode cX11_stood 36 = .ok (.lookupswitch 44 #[(0, 28), (1, 36)], 28) := by decide +kernel
theorem dX11_stood_64 : decode cX11_stood 64 = .ok (.aload_n 0, 1) := by decide +kernel
theorem dX11_stood_65 : decode cX11_stood 65 = .ok (.getfield 47, 3) := by decide +kernel
theorem dX11_stood_68 : decode cX11_stood 68 = .ok (.getfield 318, 3) := by decide +kernel
theorem dX11_stood_71 : decode cX11_stood 71 = .ok (.ireturn, 1) := by decide +kernel
theorem dX11_stood_72 : decode cX11_stood 72 = .ok (.aload_n 0, 1) := by decide +kernel
theorem dX11_stood_73 : decode cX11_stood 73 = .ok (.getfield 47, 3) := by decide +kernel
theorem dX11_stood_76 : decode cX11_stood 76 = .ok (.getfield 321, 3) := by decide +kernel
theorem dX11_stood_79 : decode cX11_stood 79 = .ok (.ireturn, 1) := by decide +kernel
theorem dX11_stood_80 : decode cX11_stood 80 = .ok (.aload_n 0, 1) := by decide +kernel
theorem dX11_stood_81 : decode cX11_stood 81 = .ok (.getfield 47, 3) := by decide +kernel
theorem dX11_stood_84 : decode cX11_stood 84 = .ok (.getfield 324, 3) := by decide +kernel
theorem dX11_stood_87 : decode cX11_stood 87 = .ok (.ireturn, 1) := by decide +kernel
theorem dX11_ask_0 : decode cX11_ask 0 = .ok (.aload_n 0, 1) := by decide +kernel
theorem dX11_ask_1 : decode cX11_ask 1 = .ok (.iload_n 1, 1) := by decide +kernel
theorem dX11_ask_2 : decode cX11_ask 2 = .ok (.iconst 0, 1) := by decide +kernel
theorem dX11_ask_3 : decode cX11_ask 3 = .ok (.iconst 1, 1) := by decide +kernel
theorem dX11_ask_4 : decode cX11_ask 4 = .ok (.invokestatic 115, 3) := by decide +kernel
theorem dX11_ask_7 : decode cX11_ask 7 = .ok (.invokevirtual 119, 3) := by decide +kernel
theorem dX11_ask_10 : decode cX11_ask 10 = .ok (.aload_n 0, 1) := by decide +kernel
theorem dX11_ask_11 : decode cX11_ask 11 = .ok (.getfield 47, 3) := by decide +kernel
theorem dX11_ask_14 : decode cX11_ask 14 = .ok (.aload_n 0, 1) := by decide +kernel
theorem dX11_ask_15 : decode cX11_ask 15 = .ok (.getfield 72, 3) := by decide +kernel
theorem dX11_ask_18 : decode cX11_ask 18 = .ok (.getfield 147, 3) := by decide +kernel
theorem dX11_ask_21 : decode cX11_ask 21 = .ok (.aload_n 0, 1) := by decide +kernel
theorem dX11_ask_22 : decode cX11_ask 22 = .ok (.getfield 26, 3) := by decide +kernel
theorem dX11_ask_25 : decode cX11_ask 25 = .ok (.getfield 229, 3) := by decide +kernel
theorem dX11_ask_28 : decode cX11_ask 28 = .ok (.aload_n 0, 1) := by decide +kernel
theorem dX11_ask_29 : decode cX11_ask 29 = .ok (.getfield 92, 3) := by decide +kernel
theorem dX11_ask_32 : decode cX11_ask 32 = .ok (.invokevirtual 314, 3) := by decide +kernel
theorem dX11_ask_35 : decode cX11_ask 35 = .ok (.aload_n 0, 1) := by decide +kernel
theorem dX11_ask_36 : decode cX11_ask 36 = .ok (.getfield 47, 3) := by decide +kernel
theorem dX11_ask_39 : decode cX11_ask 39 = .ok (.aload_n 0, 1) := by decide +kernel
theorem dX11_ask_40 : decode cX11_ask 40 = .ok (.getfield 92, 3) := by decide +kernel
theorem dX11_ask_43 : decode cX11_ask 43 = .ok (.invokevirtual 327, 3) := by decide +kernel
theorem dX11_ask_46 : decode cX11_ask 46 = .ok (.istore_n 2, 1) := by decide +kernel
theorem dX11_ask_47 : decode cX11_ask 47 = .ok (.iload_n 2, 1) := by decide +kernel
theorem dX11_ask_48 : decode cX11_ask 48 = .ok (.iconst (-1), 1) := by decide +kernel
theorem dX11_ask_49 : decode cX11_ask 49 = .ok (.if_icmp .eq 7, 3) := by decide +kernel
theorem dX11_ask_52 : decode cX11_ask 52 = .ok (.iload_n 1, 1) := by decide +kernel
theorem dX11_ask_53 : decode cX11_ask 53 = .ok (.ifCond .ne 5, 3) := by decide +kernel
theorem dX11_ask_56 : decode cX11_ask 56 = .ok (.iload_n 2, 1) := by decide +kernel
theorem dX11_ask_57 : decode cX11_ask 57 = .ok (.ireturn, 1) := by decide +kernel
theorem dX11_ask_58 : decode cX11_ask 58 = .ok (.aload_n 0, 1) := by decide +kernel
theorem dX11_ask_59 : decode cX11_ask 59 = .ok (.getfield 47, 3) := by decide +kernel
theorem dX11_ask_62 : decode cX11_ask 62 = .ok (.iload_n 2, 1) := by decide +kernel
theorem dX11_ask_63 : decode cX11_ask 63 = .ok (.invokevirtual 331, 3) := by decide +kernel
theorem dX11_ask_66 : decode cX11_ask 66 = .ok (.ireturn, 1) := by decide +kernel
theorem dX11_still_0 : decode cX11_still 0 = .ok (.aload_n 0, 1) := by decide +kernel
theorem dX11_still_1 : decode cX11_still 1 = .ok (.iload_n 1, 1) := by decide +kernel
theorem dX11_still_2 : decode cX11_still 2 = .ok (.aload_n 0, 1) := by decide +kernel
theorem dX11_still_3 : decode cX11_still 3 = .ok (.getfield 72, 3) := by decide +kernel
theorem dX11_still_6 : decode cX11_still 6 = .ok (.getfield 147, 3) := by decide +kernel
theorem dX11_still_9 : decode cX11_still 9 = .ok (.invokestatic 209, 3) := by decide +kernel
theorem dX11_still_12 : decode cX11_still 12 = .ok (.invokevirtual 213, 3) := by decide +kernel
theorem dX11_still_15 : decode cX11_still 15 = .ok (.aload_n 0, 1) := by decide +kernel
theorem dX11_still_16 : decode cX11_still 16 = .ok (.iload_n 2, 1) := by decide +kernel
theorem dX11_still_17 : decode cX11_still 17 = .ok (.iconst 0, 1) := by decide +kernel
theorem dX11_still_18 : decode cX11_still 18 = .ok (.bipush 16, 2) := by decide +kernel
theorem dX11_still_20 : decode cX11_still 20 = .ok (.invokestatic 115, 3) := by decide +kernel
theorem dX11_still_23 : decode cX11_still 23 = .ok (.ifCond .eq 37, 3) := by decide +kernel
theorem dX11_still_26 : decode cX11_still 26 = .ok (.iload_n 3, 1) := by decide +kernel
theorem dX11_still_27 : decode cX11_still 27 = .ok (.iconst 0, 1) := by decide +kernel
theorem dX11_still_28 : decode cX11_still 28 = .ok (.bipush 12, 2) := by decide +kernel
theorem dX11_still_30 : decode cX11_still 30 = .ok (.invokestatic 115, 3) := by decide +kernel
theorem dX11_still_33 : decode cX11_still 33 = .ok (.ifCond .eq 27, 3) := by decide +kernel
theorem dX11_still_36 : decode cX11_still 36 = .ok (.iload 4, 2) := by decide +kernel
theorem dX11_still_38 : decode cX11_still 38 = .ok (.bipush 10, 2) := by decide +kernel
theorem dX11_still_40 : decode cX11_still 40 = .ok (.invokestatic 209, 3) := by decide +kernel
theorem dX11_still_43 : decode cX11_still 43 = .ok (.ifCond .eq 17, 3) := by decide +kernel
theorem dX11_still_46 : decode cX11_still 46 = .ok (.iload 5, 2) := by decide +kernel
theorem dX11_still_48 : decode cX11_still 48 = .ok (.iconst 0, 1) := by decide +kernel
theorem dX11_still_49 : decode cX11_still 49 = .ok (.iconst 1, 1) := by decide +kernel
theorem dX11_still_50 : decode cX11_still 50 = .ok (.invokestatic 115, 3) := by decide +kernel
theorem dX11_still_53 : decode cX11_still 53 = .ok (.ifCond .eq 7, 3) := by decide +kernel
theorem dX11_still_56 : decode cX11_still 56 = .ok (.iconst 1, 1) := by decide +kernel
theorem dX11_still_57 : decode cX11_still 57 = .ok (.goto 4, 3) := by decide +kernel
theorem dX11_still_60 : decode cX11_still 60 = .ok (.iconst 0, 1) := by decide +kernel
theorem dX11_still_61 : decode cX11_still 61 = .ok (.invokevirtual 119, 3) := by decide +kernel
theorem dX11_still_64 : decode cX11_still 64 = .ok (.aload_n 0, 1) := by decide +kernel
theorem dX11_still_65 : decode cX11_still 65 = .ok (.aload_n 0, 1) := by decide +kernel
theorem dX11_still_66 : decode cX11_still 66 = .ok (.getfield 26, 3) := by decide +kernel
theorem dX11_still_69 : decode cX11_still 69 = .ok (.getfield 229, 3) := by decide +kernel
theorem dX11_still_72 : decode cX11_still 72 = .ok (.iload_n 1, 1) := by decide +kernel
theorem dX11_still_73 : decode cX11_still 73 = .ok (.iaload, 1) := by decide +kernel
theorem dX11_still_74 : decode cX11_still 74 = .ok (.iload_n 2, 1) := by decide +kernel
theorem dX11_still_75 : decode cX11_still 75 = .ok (.iload_n 3, 1) := by decide +kernel
theorem dX11_still_76 : decode cX11_still 76 = .ok (.iload 4, 2) := by decide +kernel
theorem dX11_still_78 : decode cX11_still 78 = .ok (.invokevirtual 334, 3) := by decide +kernel
theorem dX11_still_81 : decode cX11_still 81 = .ok (.lstore 6, 2) := by decide +kernel
theorem dX11_still_83 : decode cX11_still 83 = .ok (.lconst 1, 1) := by decide +kernel
theorem dX11_still_84 : decode cX11_still 84 = .ok (.iconst 4, 1) := by decide +kernel
theorem dX11_still_85 : decode cX11_still 85 = .ok (.iload_n 3, 1) := by decide +kernel
theorem dX11_still_86 : decode cX11_still 86 = .ok (.imul, 1) := by decide +kernel
theorem dX11_still_87 : decode cX11_still 87 = .ok (.lshl, 1) := by decide +kernel
theorem dX11_still_88 : decode cX11_still 88 = .ok (.lstore 8, 2) := by decide +kernel
theorem dX11_still_90 : decode cX11_still 90 = .ok (.iconst 0, 1) := by decide +kernel
theorem dX11_still_91 : decode cX11_still 91 = .ok (.istore 10, 2) := by decide +kernel
theorem dX11_still_93 : decode cX11_still 93 = .ok (.iload 10, 2) := by decide +kernel
theorem dX11_still_95 : decode cX11_still 95 = .ok (.iconst 4, 1) := by decide +kernel
theorem dX11_still_96 : decode cX11_still 96 = .ok (.iload_n 3, 1) := by decide +kernel
theorem dX11_still_97 : decode cX11_still 97 = .ok (.imul, 1) := by decide +kernel
theorem dX11_still_98 : decode cX11_still 98 = .ok (.if_icmp .ge 36, 3) := by decide +kernel
theorem dX11_still_101 : decode cX11_still 101 = .ok (.lload 6, 2) := by decide +kernel
theorem dX11_still_103 : decode cX11_still 103 = .ok (.ldc2_w 338, 3) := by decide +kernel
theorem dX11_still_106 : decode cX11_still 106 = .ok (.lrem, 1) := by decide +kernel
theorem dX11_still_107 : decode cX11_still 107 = .ok (.lconst 0, 1) := by decide +kernel
theorem dX11_still_108 : decode cX11_still 108 = .ok (.lcmp, 1) := by decide +kernel
theorem dX11_still_109 : decode cX11_still 109 = .ok (.ifCond .ne 25, 3) := by decide +kernel
theorem dX11_still_112 : decode cX11_still 112 = .ok (.lload 6, 2) := by decide +kernel
theorem dX11_still_114 : decode cX11_still 114 = .ok (.ldc2_w 338, 3) := by decide +kernel
theorem dX11_still_117 : decode cX11_still 117 = .ok (.ldiv, 1) := by decide +kernel
theorem dX11_still_118 : decode cX11_still 118 = .ok (.lstore 6, 2) := by decide +kernel
theorem dX11_still_120 : decode cX11_still 120 = .ok (.lload 8, 2) := by decide +kernel
theorem dX11_still_122 : decode cX11_still 122 = .ok (.ldc2_w 338, 3) := by decide +kernel
theorem dX11_still_125 : decode cX11_still 125 = .ok (.ldiv, 1) := by decide +kernel
theorem dX11_still_126 : decode cX11_still 126 = .ok (.lstore 8, 2) := by decide +kernel
theorem dX11_still_128 : decode cX11_still 128 = .ok (.iinc 10 1, 3) := by decide +kernel
theorem dX11_still_131 : decode cX11_still 131 = .ok (.goto (-38), 3) := by decide +kernel
theorem dX11_still_134 : decode cX11_still 134 = .ok (.iload 5, 2) := by decide +kernel
theorem dX11_still_136 : decode cX11_still 136 = .ok (.ifCond .ne 8, 3) := by decide +kernel
theorem dX11_still_139 : decode cX11_still 139 = .ok (.lload 6, 2) := by decide +kernel
theorem dX11_still_141 : decode cX11_still 141 = .ok (.goto 5, 3) := by decide +kernel
theorem dX11_still_144 : decode cX11_still 144 = .ok (.lload 8, 2) := by decide +kernel
theorem dX11_still_146 : decode cX11_still 146 = .ok (.lreturn, 1) := by decide +kernel
theorem dX11_crews_0 : decode cX11_crews 0 = .ok (.aload_n 0, 1) := by decide +kernel
theorem dX11_crews_1 : decode cX11_crews 1 = .ok (.iload_n 1, 1) := by decide +kernel
theorem dX11_crews_2 : decode cX11_crews 2 = .ok (.iconst 0, 1) := by decide +kernel
theorem dX11_crews_3 : decode cX11_crews 3 = .ok (.bipush 20, 2) := by decide +kernel
theorem dX11_crews_5 : decode cX11_crews 5 = .ok (.invokestatic 115, 3) := by decide +kernel
theorem dX11_crews_8 : decode cX11_crews 8 = .ok (.ifCond .eq 26, 3) := by decide +kernel
theorem dX11_crews_11 : decode cX11_crews 11 = .ok (.iload_n 2, 1) := by decide +kernel
theorem dX11_crews_12 : decode cX11_crews 12 = .ok (.iconst 0, 1) := by decide +kernel
theorem dX11_crews_13 : decode cX11_crews 13 = .ok (.bipush 20, 2) := by decide +kernel
theorem dX11_crews_15 : decode cX11_crews 15 = .ok (.invokestatic 115, 3) := by decide +kernel
theorem dX11_crews_18 : decode cX11_crews 18 = .ok (.ifCond .eq 16, 3) := by decide +kernel
theorem dX11_crews_21 : decode cX11_crews 21 = .ok (.iload_n 3, 1) := by decide +kernel
theorem dX11_crews_22 : decode cX11_crews 22 = .ok (.iconst 0, 1) := by decide +kernel
theorem dX11_crews_23 : decode cX11_crews 23 = .ok (.iconst 2, 1) := by decide +kernel
theorem dX11_crews_24 : decode cX11_crews 24 = .ok (.invokestatic 115, 3) := by decide +kernel
theorem dX11_crews_27 : decode cX11_crews 27 = .ok (.ifCond .eq 7, 3) := by decide +kernel
theorem dX11_crews_30 : decode cX11_crews 30 = .ok (.iconst 1, 1) := by decide +kernel
theorem dX11_crews_31 : decode cX11_crews 31 = .ok (.goto 4, 3) := by decide +kernel
theorem dX11_crews_34 : decode cX11_crews 34 = .ok (.iconst 0, 1) := by decide +kernel
theorem dX11_crews_35 : decode cX11_crews 35 = .ok (.invokevirtual 119, 3) := by decide +kernel
theorem dX11_crews_38 : decode cX11_crews 38 = .ok (.iconst 0, 1) := by decide +kernel
theorem dX11_crews_39 : decode cX11_crews 39 = .ok (.istore 4, 2) := by decide +kernel
theorem dX11_crews_41 : decode cX11_crews 41 = .ok (.iconst (-1), 1) := by decide +kernel
theorem dX11_crews_42 : decode cX11_crews 42 = .ok (.istore 5, 2) := by decide +kernel
theorem dX11_crews_44 : decode cX11_crews 44 = .ok (.iconst 0, 1) := by decide +kernel
theorem dX11_crews_45 : decode cX11_crews 45 = .ok (.istore 6, 2) := by decide +kernel
theorem dX11_crews_47 : decode cX11_crews 47 = .ok (.iconst 0, 1) := by decide +kernel
theorem dX11_crews_48 : decode cX11_crews 48 = .ok (.istore 7, 2) := by decide +kernel
theorem dX11_crews_50 : decode cX11_crews 50 = .ok (.iload 7, 2) := by decide +kernel
theorem dX11_crews_52 : decode cX11_crews 52 = .ok (.aload_n 0, 1) := by decide +kernel
theorem dX11_crews_53 : decode cX11_crews 53 = .ok (.getfield 72, 3) := by decide +kernel
theorem dX11_crews_56 : decode cX11_crews 56 = .ok (.getfield 188, 3) := by decide +kernel
theorem dX11_crews_59 : decode cX11_crews 59 = .ok (.if_icmp .ge 90, 3) := by decide +kernel
theorem dX11_crews_62 : decode cX11_crews 62 = .ok (.iconst 0, 1) := by decide +kernel
theorem dX11_crews_63 : decode cX11_crews 63 = .ok (.istore 8, 2) := by decide +kernel
theorem dX11_crews_65 : decode cX11_crews 65 = .ok (.iload 8, 2) := by decide +kernel
theorem dX11_crews_67 : decode cX11_crews 67 = .ok (.aload_n 0, 1) := by decide +kernel
theorem dX11_crews_68 : decode cX11_crews 68 = .ok (.getfield 72, 3) := by decide +kernel
theorem dX11_crews_71 : decode cX11_crews 71 = .ok (.getfield 188, 3) := by decide +kernel
theorem dX11_crews_74 : decode cX11_crews 74 = .ok (.if_icmp .ge 69, 3) := by decide +kernel
theorem dX11_crews_77 : decode cX11_crews 77 = .ok (.aload_n 0, 1) := by decide +kernel
theorem dX11_crews_78 : decode cX11_crews 78 = .ok (.iload 7, 2) := by decide +kernel
theorem dX11_crews_80 : decode cX11_crews 80 = .ok (.iload 8, 2) := by decide +kernel
theorem dX11_crews_82 : decode cX11_crews 82 = .ok (.iload_n 1, 1) := by decide +kernel
theorem dX11_crews_83 : decode cX11_crews 83 = .ok (.iload_n 2, 1) := by decide +kernel
theorem dX11_crews_84 : decode cX11_crews 84 = .ok (.invokevirtual 340, 3) := by decide +kernel
theorem dX11_crews_87 : decode cX11_crews 87 = .ok (.ifCond .eq 50, 3) := by decide +kernel
theorem dX11_crews_90 : decode cX11_crews 90 = .ok (.iload 4, 2) := by decide +kernel
theorem dX11_crews_92 : decode cX11_crews 92 = .ok (.ifCond .ne 42, 3) := by decide +kernel
theorem dX11_crews_95 : decode cX11_crews 95 = .ok (.bipush 10, 2) := by decide +kernel
theorem dX11_crews_97 : decode cX11_crews 97 = .ok (.iload 7, 2) := by decide +kernel
theorem dX11_crews_99 : decode cX11_crews 99 = .ok (.imul, 1) := by decide +kernel
theorem dX11_crews_100 : decode cX11_crews 100 = .ok (.iload 8, 2) := by decide +kernel
theorem dX11_crews_102 : decode cX11_crews 102 = .ok (.iadd, 1) := by decide +kernel
theorem dX11_crews_103 : decode cX11_crews 103 = .ok (.istore 5, 2) := by decide +kernel
theorem dX11_crews_105 : decode cX11_crews 105 = .ok (.aload_n 0, 1) := by decide +kernel
theorem dX11_crews_106 : decode cX11_crews 106 = .ok (.getfield 72, 3) := by decide +kernel
theorem dX11_crews_109 : decode cX11_crews 109 = .ok (.iload 7, 2) := by decide +kernel
theorem dX11_crews_111 : decode cX11_crews 111 = .ok (.iload 8, 2) := by decide +kernel
theorem dX11_crews_113 : decode cX11_crews 113 = .ok (.iload_n 1, 1) := by decide +kernel
theorem dX11_crews_114 : decode cX11_crews 114 = .ok (.iload_n 2, 1) := by decide +kernel
theorem dX11_crews_115 : decode cX11_crews 115 = .ok (.invokevirtual 344, 3) := by decide +kernel
theorem dX11_crews_118 : decode cX11_crews 118 = .ok (.aload_n 0, 1) := by decide +kernel
theorem dX11_crews_119 : decode cX11_crews 119 = .ok (.getfield 72, 3) := by decide +kernel
theorem dX11_crews_122 : decode cX11_crews 122 = .ok (.iload 8, 2) := by decide +kernel
theorem dX11_crews_124 : decode cX11_crews 124 = .ok (.iload 7, 2) := by decide +kernel
theorem dX11_crews_126 : decode cX11_crews 126 = .ok (.iload_n 1, 1) := by decide +kernel
theorem dX11_crews_127 : decode cX11_crews 127 = .ok (.iload_n 2, 1) := by decide +kernel
theorem dX11_crews_128 : decode cX11_crews 128 = .ok (.invokevirtual 344, 3) := by decide +kernel
theorem dX11_crews_131 : decode cX11_crews 131 = .ok (.iadd, 1) := by decide +kernel
theorem dX11_crews_132 : decode cX11_crews 132 = .ok (.istore 6, 2) := by decide +kernel
theorem dX11_crews_134 : decode cX11_crews 134 = .ok (.iinc 4 1, 3) := by decide +kernel
theorem dX11_crews_137 : decode cX11_crews 137 = .ok (.iinc 8 1, 3) := by decide +kernel
theorem dX11_crews_140 : decode cX11_crews 140 = .ok (.goto (-75), 3) := by decide +kernel
theorem dX11_crews_143 : decode cX11_crews 143 = .ok (.iinc 7 1, 3) := by decide +kernel
theorem dX11_crews_146 : decode cX11_crews 146 = .ok (.goto (-96), 3) := by decide +kernel
theorem dX11_crews_149 : decode cX11_crews 149 = .ok (.iload_n 3, 1) := by decide +kernel
theorem dX11_crews_150 : decode cX11_crews 150 = .ok (.lookupswitch 32 #[(0, 26), (1, 29)], 26) := by decide +kernel
theorem dX11_crews_176 : decode cX11_crews 176 = .ok (.iload 4, 2) := by decide +kernel
theorem dX11_crews_178 : decode cX11_crews 178 = .ok (.ireturn, 1) := by decide +kernel
theorem dX11_crews_179 : decode cX11_crews 179 = .ok (.iload 5, 2) := by decide +kernel
theorem dX11_crews_181 : decode cX11_crews 181 = .ok (.ireturn, 1) := by decide +kernel
theorem dX11_crews_182 : decode cX11_crews 182 = .ok (.iload 6, 2) := by decide +kernel
theorem dX11_crews_184 : decode cX11_crews 184 = .ok (.ireturn, 1) := by decide +kernel
theorem dX11_share_0 : decode cX11_share 0 = .ok (.aload_n 0, 1) := by decide +kernel
theorem dX11_share_1 : decode cX11_share 1 = .ok (.iload_n 1, 1) := by decide +kernel
theorem dX11_share_2 : decode cX11_share 2 = .ok (.aload_n 0, 1) := by decide +kernel
theorem dX11_share_3 : decode cX11_share 3 = .ok (.getfield 72, 3) := by decide +kernel
theorem dX11_share_6 : decode cX11_share 6 = .ok (.getfield 191, 3) := by decide +kernel
theorem dX11_share_9 : decode cX11_share 9 = .ok (.invokestatic 209, 3) := by decide +kernel
theorem dX11_share_12 : decode cX11_share 12 = .ok (.invokevirtual 213, 3) := by decide +kernel
theorem dX11_share_15 : decode cX11_share 15 = .ok (.aload_n 0, 1) := by decide +kernel
theorem dX11_share_16 : decode cX11_share 16 = .ok (.iload_n 2, 1) := by decide +kernel
theorem dX11_share_17 : decode cX11_share 17 = .ok (.aload_n 0, 1) := by decide +kernel
theorem dX11_share_18 : decode cX11_share 18 = .ok (.getfield 72, 3) := by decide +kernel
theorem dX11_share_21 : decode cX11_share 21 = .ok (.getfield 191, 3) := by decide +kernel
theorem dX11_share_24 : decode cX11_share 24 = .ok (.invokestatic 290, 3) := by decide +kernel
theorem dX11_share_27 : decode cX11_share 27 = .ok (.ifCond .eq 18, 3) := by decide +kernel
theorem dX11_share_30 : decode cX11_share 30 = .ok (.iload_n 3, 1) := by decide +kernel
theorem dX11_share_31 : decode cX11_share 31 = .ok (.iconst 0, 1) := by decide +kernel
theorem dX11_share_32 : decode cX11_share 32 = .ok (.sipush 400, 3) := by decide +kernel
theorem dX11_share_35 : decode cX11_share 35 = .ok (.invokestatic 115, 3) := by decide +kernel
theorem dX11_share_38 : decode cX11_share 38 = .ok (.ifCond .eq 7, 3) := by decide +kernel
theorem dX11_share_41 : decode cX11_share 41 = .ok (.iconst 1, 1) := by decide +kernel
theorem dX11_share_42 : decode cX11_share 42 = .ok (.goto 4, 3) := by decide +kernel
theorem dX11_share_45 : decode cX11_share 45 = .ok (.iconst 0, 1) := by decide +kernel
theorem dX11_share_46 : decode cX11_share 46 = .ok (.invokevirtual 119, 3) := by decide +kernel
theorem dX11_share_49 : decode cX11_share 49 = .ok (.iload_n 2, 1) := by decide +kernel
theorem dX11_share_50 : decode cX11_share 50 = .ok (.iload_n 1, 1) := by decide +kernel
theorem dX11_share_51 : decode cX11_share 51 = .ok (.invokestatic 301, 3) := by decide +kernel
theorem dX11_share_54 : decode cX11_share 54 = .ok (.ifCond .ne 5, 3) := by decide +kernel
theorem dX11_share_57 : decode cX11_share 57 = .ok (.iconst 0, 1) := by decide +kernel
theorem dX11_share_58 : decode cX11_share 58 = .ok (.ireturn, 1) := by decide +kernel
theorem dX11_share_59 : decode cX11_share 59 = .ok (.iconst 0, 1) := by decide +kernel
theorem dX11_share_60 : decode cX11_share 60 = .ok (.istore 4, 2) := by decide +kernel
theorem dX11_share_62 : decode cX11_share 62 = .ok (.iload 4, 2) := by decide +kernel
theorem dX11_share_64 : decode cX11_share 64 = .ok (.bipush 60, 2) := by decide +kernel
theorem dX11_share_66 : decode cX11_share 66 = .ok (.if_icmp .ge 25, 3) := by decide +kernel
theorem dX11_share_69 : decode cX11_share 69 = .ok (.aload_n 0, 1) := by decide +kernel
theorem dX11_share_70 : decode cX11_share 70 = .ok (.getfield 72, 3) := by decide +kernel
theorem dX11_share_73 : decode cX11_share 73 = .ok (.iload_n 2, 1) := by decide +kernel
theorem dX11_share_74 : decode cX11_share 74 = .ok (.iload 4, 2) := by decide +kernel
theorem dX11_share_76 : decode cX11_share 76 = .ok (.iconst 1, 1) := by decide +kernel
theorem dX11_share_77 : decode cX11_share 77 = .ok (.iadd, 1) := by decide +kernel
theorem dX11_share_78 : decode cX11_share 78 = .ok (.invokevirtual 348, 3) := by decide +kernel
theorem dX11_share_81 : decode cX11_share 81 = .ok (.iload_n 3, 1) := by decide +kernel
theorem dX11_share_82 : decode cX11_share 82 = .ok (.if_icmp .gt 9, 3) := by decide +kernel
theorem dX11_share_85 : decode cX11_share 85 = .ok (.iinc 4 1, 3) := by decide +kernel
theorem dX11_share_88 : decode cX11_share 88 = .ok (.goto (-26), 3) := by decide +kernel
theorem dX11_share_91 : decode cX11_share 91 = .ok (.iload 4, 2) := by decide +kernel
theorem dX11_share_93 : decode cX11_share 93 = .ok (.aload_n 0, 1) := by decide +kernel
theorem dX11_share_94 : decode cX11_share 94 = .ok (.getfield 72, 3) := by decide +kernel
theorem dX11_share_97 : decode cX11_share 97 = .ok (.getfield 248, 3) := by decide +kernel
theorem dX11_share_100 : decode cX11_share 100 = .ok (.iload_n 1, 1) := by decide +kernel
theorem dX11_share_101 : decode cX11_share 101 = .ok (.iaload, 1) := by decide +kernel
theorem dX11_share_102 : decode cX11_share 102 = .ok (.invokestatic 150, 3) := by decide +kernel
theorem dX11_share_105 : decode cX11_share 105 = .ok (.ireturn, 1) := by decide +kernel
theorem dX11_above_0 : decode cX11_above 0 = .ok (.aload_n 0, 1) := by decide +kernel
theorem dX11_above_1 : decode cX11_above 1 = .ok (.iload_n 1, 1) := by decide +kernel
theorem dX11_above_2 : decode cX11_above 2 = .ok (.iconst 0, 1) := by decide +kernel
theorem dX11_above_3 : decode cX11_above 3 = .ok (.iconst 4, 1) := by decide +kernel
theorem dX11_above_4 : decode cX11_above 4 = .ok (.invokestatic 115, 3) := by decide +kernel
theorem dX11_above_7 : decode cX11_above 7 = .ok (.invokevirtual 119, 3) := by decide +kernel
theorem dX11_above_10 : decode cX11_above 10 = .ok (.aload_n 0, 1) := by decide +kernel
theorem dX11_above_11 : decode cX11_above 11 = .ok (.getfield 26, 3) := by decide +kernel
theorem dX11_above_14 : decode cX11_above 14 = .ok (.aload_n 0, 1) := by decide +kernel
theorem dX11_above_15 : decode cX11_above 15 = .ok (.getfield 72, 3) := by decide +kernel
theorem dX11_above_18 : decode cX11_above 18 = .ok (.iload_n 1, 1) := by decide +kernel
theorem dX11_above_19 : decode cX11_above 19 = .ok (.invokevirtual 199, 3) := by decide +kernel
theorem dX11_above_22 : decode cX11_above 22 = .ok (.ireturn, 1) := by decide +kernel
theorem dX11_mightiest_0 : decode cX11_mightiest 0 = .ok (.aload_n 0, 1) := by decide +kernel
theorem dX11_mightiest_1 : decode cX11_mightiest 1 = .ok (.iload_n 1, 1) := by decide +kernel
theorem dX11_mightiest_2 : decode cX11_mightiest 2 = .ok (.iconst 0, 1) := by decide +kernel
theorem dX11_mightiest_3 : decode cX11_mightiest 3 = .ok (.iconst 1, 1) := by decide +kernel
theorem dX11_mightiest_4 : decode cX11_mightiest 4 = .ok (.invokestatic 115, 3) := by decide +kernel
theorem dX11_mightiest_7 : decode cX11_mightiest 7 = .ok (.invokevirtual 119, 3) := by decide +kernel
theorem dX11_mightiest_10 : decode cX11_mightiest 10 = .ok (.iconst (-1), 1) := by decide +kernel
theorem dX11_mightiest_11 : decode cX11_mightiest 11 = .ok (.istore_n 2, 1) := by decide +kernel
theorem dX11_mightiest_12 : decode cX11_mightiest 12 = .ok (.iconst 0, 1) := by decide +kernel
theorem dX11_mightiest_13 : decode cX11_mightiest 13 = .ok (.istore_n 3, 1) := by decide +kernel
theorem dX11_mightiest_14 : decode cX11_mightiest 14 = .ok (.iconst 0, 1) := by decide +kernel
theorem dX11_mightiest_15 : decode cX11_mightiest 15 = .ok (.istore 4, 2) := by decide +kernel
theorem dX11_mightiest_17 : decode cX11_mightiest 17 = .ok (.iload 4, 2) := by decide +kernel
theorem dX11_mightiest_19 : decode cX11_mightiest 19 = .ok (.aload_n 0, 1) := by decide +kernel
theorem dX11_mightiest_20 : decode cX11_mightiest 20 = .ok (.getfield 26, 3) := by decide +kernel
theorem dX11_mightiest_23 : decode cX11_mightiest 23 = .ok (.getfield 197, 3) := by decide +kernel
theorem dX11_mightiest_26 : decode cX11_mightiest 26 = .ok (.if_icmp .ge 34, 3) := by decide +kernel
theorem dX11_mightiest_29 : decode cX11_mightiest 29 = .ok (.aload_n 0, 1) := by decide +kernel
theorem dX11_mightiest_30 : decode cX11_mightiest 30 = .ok (.iload 4, 2) := by decide +kernel
theorem dX11_mightiest_32 : decode cX11_mightiest 32 = .ok (.invokevirtual 270, 3) := by decide +kernel
theorem dX11_mightiest_35 : decode cX11_mightiest 35 = .ok (.istore 5, 2) := by decide +kernel
theorem dX11_mightiest_37 : decode cX11_mightiest 37 = .ok (.iload_n 2, 1) := by decide +kernel
theorem dX11_mightiest_38 : decode cX11_mightiest 38 = .ok (.iconst (-1), 1) := by decide +kernel
theorem dX11_mightiest_39 : decode cX11_mightiest 39 = .ok (.if_icmp .eq 9, 3) := by decide +kernel
theorem dX11_mightiest_42 : decode cX11_mightiest 42 = .ok (.iload 5, 2) := by decide +kernel
theorem dX11_mightiest_44 : decode cX11_mightiest 44 = .ok (.iload_n 3, 1) := by decide +kernel
theorem dX11_mightiest_45 : decode cX11_mightiest 45 = .ok (.if_icmp .le 9, 3) := by decide +kernel
theorem dX11_mightiest_48 : decode cX11_mightiest 48 = .ok (.iload 4, 2) := by decide +kernel
theorem dX11_mightiest_50 : decode cX11_mightiest 50 = .ok (.istore_n 2, 1) := by decide +kernel
theorem dX11_mightiest_51 : decode cX11_mightiest 51 = .ok (.iload 5, 2) := by decide +kernel
theorem dX11_mightiest_53 : decode cX11_mightiest 53 = .ok (.istore_n 3, 1) := by decide +kernel
theorem dX11_mightiest_54 : decode cX11_mightiest 54 = .ok (.iinc 4 1, 3) := by decide +kernel
theorem dX11_mightiest_57 : decode cX11_mightiest 57 = .ok (.goto (-40), 3) := by decide +kernel
theorem dX11_mightiest_60 : decode cX11_mightiest 60 = .ok (.iload_n 1, 1) := by decide +kernel
theorem dX11_mightiest_61 : decode cX11_mightiest 61 = .ok (.ifCond .ne 7, 3) := by decide +kernel
theorem dX11_mightiest_64 : decode cX11_mightiest 64 = .ok (.iload_n 2, 1) := by decide +kernel
theorem dX11_mightiest_65 : decode cX11_mightiest 65 = .ok (.goto 4, 3) := by decide +kernel
theorem dX11_mightiest_68 : decode cX11_mightiest 68 = .ok (.iload_n 3, 1) := by decide +kernel
theorem dX11_mightiest_69 : decode cX11_mightiest 69 = .ok (.ireturn, 1) := by decide +kernel
theorem dX11_missing_0 : decode cX11_missing 0 = .ok (.iconst 0, 1) := by decide +kernel
theorem dX11_missing_1 : decode cX11_missing 1 = .ok (.istore_n 1, 1) := by decide +kernel
theorem dX11_missing_2 : decode cX11_missing 2 = .ok (.iconst 0, 1) := by decide +kernel
theorem dX11_missing_3 : decode cX11_missing 3 = .ok (.istore_n 2, 1) := by decide +kernel
theorem dX11_missing_4 : decode cX11_missing 4 = .ok (.iload_n 2, 1) := by decide +kernel
theorem dX11_missing_5 : decode cX11_missing 5 = .ok (.aload_n 0, 1) := by decide +kernel
theorem dX11_missing_6 : decode cX11_missing 6 = .ok (.getfield 72, 3) := by decide +kernel
theorem dX11_missing_9 : decode cX11_missing 9 = .ok (.getfield 147, 3) := by decide +kernel
theorem dX11_missing_12 : decode cX11_missing 12 = .ok (.if_icmp .ge 30, 3) := by decide +kernel
theorem dX11_missing_15 : decode cX11_missing 15 = .ok (.aload_n 0, 1) := by decide +kernel
theorem dX11_missing_16 : decode cX11_missing 16 = .ok (.getfield 26, 3) := by decide +kernel
theorem dX11_missing_19 : decode cX11_missing 19 = .ok (.aload_n 0, 1) := by decide +kernel
theorem dX11_missing_20 : decode cX11_missing 20 = .ok (.getfield 72, 3) := by decide +kernel
theorem dX11_missing_23 : decode cX11_missing 23 = .ok (.iload_n 2, 1) := by decide +kernel
theorem dX11_missing_24 : decode cX11_missing 24 = .ok (.invokevirtual 351, 3) := by decide +kernel
theorem dX11_missing_27 : decode cX11_missing 27 = .ok (.ifCond .ne 9, 3) := by decide +kernel
theorem dX11_missing_30 : decode cX11_missing 30 = .ok (.iload_n 1, 1) := by decide +kernel
theorem dX11_missing_31 : decode cX11_missing 31 = .ok (.iconst 1, 1) := by decide +kernel
theorem dX11_missing_32 : decode cX11_missing 32 = .ok (.iload_n 2, 1) := by decide +kernel
theorem dX11_missing_33 : decode cX11_missing 33 = .ok (.ishl, 1) := by decide +kernel
theorem dX11_missing_34 : decode cX11_missing 34 = .ok (.ior, 1) := by decide +kernel
theorem dX11_missing_35 : decode cX11_missing 35 = .ok (.istore_n 1, 1) := by decide +kernel
theorem dX11_missing_36 : decode cX11_missing 36 = .ok (.iinc 2 1, 3) := by decide +kernel
theorem dX11_missing_39 : decode cX11_missing 39 = .ok (.goto (-35), 3) := by decide +kernel
theorem dX11_missing_42 : decode cX11_missing 42 = .ok (.iload_n 1, 1) := by decide +kernel
theorem dX11_missing_43 : decode cX11_missing 43 = .ok (.ireturn, 1) := by decide +kernel
theorem dX11_idle_0 : decode cX11_idle 0 = .ok (.iconst 0, 1) := by decide +kernel
theorem dX11_idle_1 : decode cX11_idle 1 = .ok (.istore_n 1, 1) := by decide +kernel
theorem dX11_idle_2 : decode cX11_idle 2 = .ok (.iconst 0, 1) := by decide +kernel
theorem dX11_idle_3 : decode cX11_idle 3 = .ok (.istore_n 2, 1) := by decide +kernel
theorem dX11_idle_4 : decode cX11_idle 4 = .ok (.iload_n 2, 1) := by decide +kernel
theorem dX11_idle_5 : decode cX11_idle 5 = .ok (.aload_n 0, 1) := by decide +kernel
theorem dX11_idle_6 : decode cX11_idle 6 = .ok (.getfield 72, 3) := by decide +kernel
theorem dX11_idle_9 : decode cX11_idle 9 = .ok (.getfield 191, 3) := by decide +kernel
theorem dX11_idle_12 : decode cX11_idle 12 = .ok (.if_icmp .ge 30, 3) := by decide +kernel
theorem dX11_idle_15 : decode cX11_idle 15 = .ok (.aload_n 0, 1) := by decide +kernel
theorem dX11_idle_16 : decode cX11_idle 16 = .ok (.getfield 26, 3) := by decide +kernel
theorem dX11_idle_19 : decode cX11_idle 19 = .ok (.aload_n 0, 1) := by decide +kernel
theorem dX11_idle_20 : decode cX11_idle 20 = .ok (.getfield 72, 3) := by decide +kernel
theorem dX11_idle_23 : decode cX11_idle 23 = .ok (.iload_n 2, 1) := by decide +kernel
theorem dX11_idle_24 : decode cX11_idle 24 = .ok (.invokevirtual 355, 3) := by decide +kernel
theorem dX11_idle_27 : decode cX11_idle 27 = .ok (.ifCond .ne 9, 3) := by decide +kernel
theorem dX11_idle_30 : decode cX11_idle 30 = .ok (.iload_n 1, 1) := by decide +kernel
theorem dX11_idle_31 : decode cX11_idle 31 = .ok (.iconst 1, 1) := by decide +kernel
theorem dX11_idle_32 : decode cX11_idle 32 = .ok (.iload_n 2, 1) := by decide +kernel
theorem dX11_idle_33 : decode cX11_idle 33 = .ok (.ishl, 1) := by decide +kernel
theorem dX11_idle_34 : decode cX11_idle 34 = .ok (.ior, 1) := by decide +kernel
theorem dX11_idle_35 : decode cX11_idle 35 = .ok (.istore_n 1, 1) := by decide +kernel
theorem dX11_idle_36 : decode cX11_idle 36 = .ok (.iinc 2 1, 3) := by decide +kernel
theorem dX11_idle_39 : decode cX11_idle 39 = .ok (.goto (-35), 3) := by decide +kernel
theorem dX11_idle_42 : decode cX11_idle 42 = .ok (.iload_n 1, 1) := by decide +kernel
theorem dX11_idle_43 : decode cX11_idle 43 = .ok (.ireturn, 1) := by decide +kernel
theorem dX11_ends_0 : decode cX11_ends 0 = .ok (.aload_n 0, 1) := by decide +kernel
theorem dX11_ends_1 : decode cX11_ends 1 = .ok (.iload_n 1, 1) := by decide +kernel
theorem dX11_ends_2 : decode cX11_ends 2 = .ok (.aload_n 0, 1) := by decide +kernel
theorem dX11_ends_3 : decode cX11_ends 3 = .ok (.getfield 72, 3) := by decide +kernel
theorem dX11_ends_6 : decode cX11_ends 6 = .ok (.getfield 188, 3) := by decide +kernel
theorem dX11_ends_9 : decode cX11_ends 9 = .ok (.invokestatic 209, 3) := by decide +kernel
theorem dX11_ends_12 : decode cX11_ends 12 = .ok (.invokevirtual 213, 3) := by decide +kernel
theorem dX11_ends_15 : decode cX11_ends 15 = .ok (.aload_n 0, 1) := by decide +kernel
theorem dX11_ends_16 : decode cX11_ends 16 = .ok (.iload_n 2, 1) := by decide +kernel
theorem dX11_ends_17 : decode cX11_ends 17 = .ok (.iconst 0, 1) := by decide +kernel
theorem dX11_ends_18 : decode cX11_ends 18 = .ok (.iconst 1, 1) := by decide +kernel
theorem dX11_ends_19 : decode cX11_ends 19 = .ok (.invokestatic 115, 3) := by decide +kernel
theorem dX11_ends_22 : decode cX11_ends 22 = .ok (.invokevirtual 119, 3) := by decide +kernel
theorem dX11_ends_25 : decode cX11_ends 25 = .ok (.iconst (-1), 1) := by decide +kernel
theorem dX11_ends_26 : decode cX11_ends 26 = .ok (.istore_n 3, 1) := by decide +kernel
theorem dX11_ends_27 : decode cX11_ends 27 = .ok (.iconst 0, 1) := by decide +kernel
theorem dX11_ends_28 : decode cX11_ends 28 = .ok (.istore 4, 2) := by decide +kernel
theorem dX11_ends_30 : decode cX11_ends 30 = .ok (.iload 4, 2) := by decide +kernel
theorem dX11_ends_32 : decode cX11_ends 32 = .ok (.aload_n 0, 1) := by decide +kernel
theorem dX11_ends_33 : decode cX11_ends 33 = .ok (.getfield 26, 3) := by decide +kernel
theorem dX11_ends_36 : decode cX11_ends 36 = .ok (.getfield 197, 3) := by decide +kernel
theorem dX11_ends_39 : decode cX11_ends 39 = .ok (.if_icmp .ge 36, 3) := by decide +kernel
theorem dX11_ends_42 : decode cX11_ends 42 = .ok (.aload_n 0, 1) := by decide +kernel
theorem dX11_ends_43 : decode cX11_ends 43 = .ok (.getfield 26, 3) := by decide +kernel
theorem dX11_ends_46 : decode cX11_ends 46 = .ok (.getfield 264, 3) := by decide +kernel
theorem dX11_ends_49 : decode cX11_ends 49 = .ok (.iload 4, 2) := by decide +kernel
theorem dX11_ends_51 : decode cX11_ends 51 = .ok (.iaload, 1) := by decide +kernel
theorem dX11_ends_52 : decode cX11_ends 52 = .ok (.iload_n 1, 1) := by decide +kernel
theorem dX11_ends_53 : decode cX11_ends 53 = .ok (.if_icmp .ne 16, 3) := by decide +kernel
theorem dX11_ends_56 : decode cX11_ends 56 = .ok (.iload_n 3, 1) := by decide +kernel
theorem dX11_ends_57 : decode cX11_ends 57 = .ok (.iconst (-1), 1) := by decide +kernel
theorem dX11_ends_58 : decode cX11_ends 58 = .ok (.if_icmp .eq 8, 3) := by decide +kernel
theorem dX11_ends_61 : decode cX11_ends 61 = .ok (.iload_n 2, 1) := by decide +kernel
theorem dX11_ends_62 : decode cX11_ends 62 = .ok (.iconst 1, 1) := by decide +kernel
theorem dX11_ends_63 : decode cX11_ends 63 = .ok (.if_icmp .ne 6, 3) := by decide +kernel
theorem dX11_ends_66 : decode cX11_ends 66 = .ok (.iload 4, 2) := by decide +kernel
theorem dX11_ends_68 : decode cX11_ends 68 = .ok (.istore_n 3, 1) := by decide +kernel
theorem dX11_ends_69 : decode cX11_ends 69 = .ok (.iinc 4 1, 3) := by decide +kernel
theorem dX11_ends_72 : decode cX11_ends 72 = .ok (.goto (-42), 3) := by decide +kernel
theorem dX11_ends_75 : decode cX11_ends 75 = .ok (.iload_n 3, 1) := by decide +kernel
theorem dX11_ends_76 : decode cX11_ends 76 = .ok (.ireturn, 1) := by decide +kernel
theorem dX11_loud_0 : decode cX11_loud 0 = .ok (.aload_n 0, 1) := by decide +kernel
theorem dX11_loud_1 : decode cX11_loud 1 = .ok (.iload_n 1, 1) := by decide +kernel
theorem dX11_loud_2 : decode cX11_loud 2 = .ok (.aload_n 0, 1) := by decide +kernel
theorem dX11_loud_3 : decode cX11_loud 3 = .ok (.getfield 72, 3) := by decide +kernel
theorem dX11_loud_6 : decode cX11_loud 6 = .ok (.getfield 191, 3) := by decide +kernel
theorem dX11_loud_9 : decode cX11_loud 9 = .ok (.invokestatic 209, 3) := by decide +kernel
theorem dX11_loud_12 : decode cX11_loud 12 = .ok (.invokevirtual 213, 3) := by decide +kernel
theorem dX11_loud_15 : decode cX11_loud 15 = .ok (.iconst 0, 1) := by decide +kernel
theorem dX11_loud_16 : decode cX11_loud 16 = .ok (.istore_n 2, 1) := by decide +kernel
theorem dX11_loud_17 : decode cX11_loud 17 = .ok (.iconst 0, 1) := by decide +kernel
theorem dX11_loud_18 : decode cX11_loud 18 = .ok (.istore_n 3, 1) := by decide +kernel
theorem dX11_loud_19 : decode cX11_loud 19 = .ok (.iload_n 3, 1) := by decide +kernel
theorem dX11_loud_20 : decode cX11_loud 20 = .ok (.aload_n 0, 1) := by decide +kernel
theorem dX11_loud_21 : decode cX11_loud 21 = .ok (.getfield 26, 3) := by decide +kernel
theorem dX11_loud_24 : decode cX11_loud 24 = .ok (.getfield 197, 3) := by decide +kernel
theorem dX11_loud_27 : decode cX11_loud 27 = .ok (.if_icmp .ge 30, 3) := by decide +kernel
theorem dX11_loud_30 : decode cX11_loud 30 = .ok (.aload_n 0, 1) := by decide +kernel
theorem dX11_loud_31 : decode cX11_loud 31 = .ok (.getfield 26, 3) := by decide +kernel
theorem dX11_loud_34 : decode cX11_loud 34 = .ok (.getfield 267, 3) := by decide +kernel
theorem dX11_loud_37 : decode cX11_loud 37 = .ok (.iload_n 3, 1) := by decide +kernel
theorem dX11_loud_38 : decode cX11_loud 38 = .ok (.iaload, 1) := by decide +kernel
theorem dX11_loud_39 : decode cX11_loud 39 = .ok (.iload_n 1, 1) := by decide +kernel
theorem dX11_loud_40 : decode cX11_loud 40 = .ok (.if_icmp .ne 11, 3) := by decide +kernel
theorem dX11_loud_43 : decode cX11_loud 43 = .ok (.iload_n 2, 1) := by decide +kernel
theorem dX11_loud_44 : decode cX11_loud 44 = .ok (.aload_n 0, 1) := by decide +kernel
theorem dX11_loud_45 : decode cX11_loud 45 = .ok (.iload_n 3, 1) := by decide +kernel
theorem dX11_loud_46 : decode cX11_loud 46 = .ok (.invokevirtual 270, 3) := by decide +kernel
theorem dX11_loud_49 : decode cX11_loud 49 = .ok (.iadd, 1) := by decide +kernel
theorem dX11_loud_50 : decode cX11_loud 50 = .ok (.istore_n 2, 1) := by decide +kernel
theorem dX11_loud_51 : decode cX11_loud 51 = .ok (.iinc 3 1, 3) := by decide +kernel
theorem dX11_loud_54 : decode cX11_loud 54 = .ok (.goto (-35), 3) := by decide +kernel
theorem dX11_loud_57 : decode cX11_loud 57 = .ok (.iload_n 2, 1) := by decide +kernel
theorem dX11_loud_58 : decode cX11_loud 58 = .ok (.ireturn, 1) := by decide +kernel
theorem dX11_years_0 : decode cX11_years 0 = .ok (.aload_n 0, 1) := by decide +kernel
theorem dX11_years_1 : decode cX11_years 1 = .ok (.iload_n 2, 1) := by decide +kernel
theorem dX11_years_2 : decode cX11_years 2 = .ok (.iload_n 3, 1) := by decide +kernel
theorem dX11_years_3 : decode cX11_years 3 = .ok (.iload 4, 2) := by decide +kernel
theorem dX11_years_5 : decode cX11_years 5 = .ok (.invokestatic 358, 3) := by decide +kernel
theorem dX11_years_8 : decode cX11_years 8 = .ok (.ifCond .eq 17, 3) := by decide +kernel
theorem dX11_years_11 : decode cX11_years 11 = .ok (.iload 5, 2) := by decide +kernel
theorem dX11_years_13 : decode cX11_years 13 = .ok (.iconst 0, 1) := by decide +kernel
theorem dX11_years_14 : decode cX11_years 14 = .ok (.iconst 3, 1) := by decide +kernel
theorem dX11_years_15 : decode cX11_years 15 = .ok (.invokestatic 115, 3) := by decide +kernel
theorem dX11_years_18 : decode cX11_years 18 = .ok (.ifCond .eq 7, 3) := by decide +kernel
theorem dX11_years_21 : decode cX11_years 21 = .ok (.iconst 1, 1) := by decide +kernel
theorem dX11_years_22 : decode cX11_years 22 = .ok (.goto 4, 3) := by decide +kernel
theorem dX11_years_25 : decode cX11_years 25 = .ok (.iconst 0, 1) := by decide +kernel
theorem dX11_years_26 : decode cX11_years 26 = .ok (.invokevirtual 119, 3) := by decide +kernel
theorem dX11_years_29 : decode cX11_years 29 = .ok (.aload_n 0, 1) := by decide +kernel
theorem dX11_years_30 : decode cX11_years 30 = .ok (.getfield 54, 3) := by decide +kernel
theorem dX11_years_33 : decode cX11_years 33 = .ok (.aload_n 0, 1) := by decide +kernel
theorem dX11_years_34 : decode cX11_years 34 = .ok (.getfield 72, 3) := by decide +kernel
theorem dX11_years_37 : decode cX11_years 37 = .ok (.aload_n 0, 1) := by decide +kernel
theorem dX11_years_38 : decode cX11_years 38 = .ok (.getfield 26, 3) := by decide +kernel
theorem dX11_years_41 : decode cX11_years 41 = .ok (.iload_n 1, 1) := by decide +kernel
theorem dX11_years_42 : decode cX11_years 42 = .ok (.iload_n 2, 1) := by decide +kernel
theorem dX11_years_43 : decode cX11_years 43 = .ok (.iload_n 3, 1) := by decide +kernel
theorem dX11_years_44 : decode cX11_years 44 = .ok (.iload 4, 2) := by decide +kernel
theorem dX11_years_46 : decode cX11_years 46 = .ok (.invokevirtual 361, 3) := by decide +kernel
theorem dX11_years_49 : decode cX11_years 49 = .ok (.iload 5, 2) := by decide +kernel
theorem dX11_years_51 : decode cX11_years 51 = .ok (.tableswitch 49 0 2 #[25, 33, 41], 25) := by decide +kernel
theorem dX11_years_76 : decode cX11_years 76 = .ok (.aload_n 0, 1) := by decide +kernel
theorem dX11_years_77 : decode cX11_years 77 = .ok (.getfield 54, 3) := by decide +kernel
theorem dX11_years_80 : decode cX11_years 80 = .ok (.getfield 365, 3) := by decide +kernel
theorem dX11_years_83 : decode cX11_years 83 = .ok (.ireturn, 1) := by decide +kernel
theorem dX11_years_84 : decode cX11_years 84 = .ok (.aload_n 0, 1) := by decide +kernel
theorem dX11_years_85 : decode cX11_years 85 = .ok (.getfield 54, 3) := by decide +kernel
theorem dX11_years_88 : decode cX11_years 88 = .ok (.getfield 366, 3) := by decide +kernel
theorem dX11_years_91 : decode cX11_years 91 = .ok (.ireturn, 1) := by decide +kernel
theorem dX11_years_92 : decode cX11_years 92 = .ok (.aload_n 0, 1) := by decide +kernel
theorem dX11_years_93 : decode cX11_years 93 = .ok (.getfield 54, 3) := by decide +kernel
theorem dX11_years_96 : decode cX11_years 96 = .ok (.getfield 368, 3) := by decide +kernel
theorem dX11_years_99 : decode cX11_years 99 = .ok (.ireturn, 1) := by decide +kernel
theorem dX11_years_100 : decode cX11_years 100 = .ok (.aload_n 0, 1) := by decide +kernel
theorem dX11_years_101 : decode cX11_years 101 = .ok (.getfield 54, 3) := by decide +kernel
theorem dX11_years_104 : decode cX11_years 104 = .ok (.getfield 371, 3) := by decide +kernel
theorem dX11_years_107 : decode cX11_years 107 = .ok (.ireturn, 1) := by decide +kernel
theorem dX11_span_0 : decode cX11_span 0 = .ok (.aload_n 0, 1) := by decide +kernel
theorem dX11_span_1 : decode cX11_span 1 = .ok (.iload_n 2, 1) := by decide +kernel
theorem dX11_span_2 : decode cX11_span 2 = .ok (.iconst 1, 1) := by decide +kernel
theorem dX11_span_3 : decode cX11_span 3 = .ok (.bipush 20, 2) := by decide +kernel
theorem dX11_span_5 : decode cX11_span 5 = .ok (.invokestatic 115, 3) := by decide +kernel
theorem dX11_span_8 : decode cX11_span 8 = .ok (.ifCond .eq 43, 3) := by decide +kernel
theorem dX11_span_11 : decode cX11_span 11 = .ok (.iload_n 3, 1) := by decide +kernel
theorem dX11_span_12 : decode cX11_span 12 = .ok (.iload 4, 2) := by decide +kernel
theorem dX11_span_14 : decode cX11_span 14 = .ok (.iload 5, 2) := by decide +kernel
theorem dX11_span_16 : decode cX11_span 16 = .ok (.invokestatic 358, 3) := by decide +kernel
theorem dX11_span_19 : decode cX11_span 19 = .ok (.ifCond .eq 32, 3) := by decide +kernel
theorem dX11_span_22 : decode cX11_span 22 = .ok (.iload 6, 2) := by decide +kernel
theorem dX11_span_24 : decode cX11_span 24 = .ok (.iconst 0, 1) := by decide +kernel
theorem dX11_span_25 : decode cX11_span 25 = .ok (.iconst 2, 1) := by decide +kernel
theorem dX11_span_26 : decode cX11_span 26 = .ok (.invokestatic 115, 3) := by decide +kernel
theorem dX11_span_29 : decode cX11_span 29 = .ok (.ifCond .eq 22, 3) := by decide +kernel
theorem dX11_span_32 : decode cX11_span 32 = .ok (.iload 7, 2) := by decide +kernel
theorem dX11_span_34 : decode cX11_span 34 = .ok (.aload_n 0, 1) := by decide +kernel
theorem dX11_span_35 : decode cX11_span 35 = .ok (.getfield 72, 3) := by decide +kernel
theorem dX11_span_38 : decode cX11_span 38 = .ok (.getfield 147, 3) := by decide +kernel
theorem dX11_span_41 : decode cX11_span 41 = .ok (.invokestatic 209, 3) := by decide +kernel
theorem dX11_span_44 : decode cX11_span 44 = .ok (.ifCond .eq 7, 3) := by decide +kernel
theorem dX11_span_47 : decode cX11_span 47 = .ok (.iconst 1, 1) := by decide +kernel
theorem dX11_span_48 : decode cX11_span 48 = .ok (.goto 4, 3) := by decide +kernel
theorem dX11_span_51 : decode cX11_span 51 = .ok (.iconst 0, 1) := by decide +kernel
theorem dX11_span_52 : decode cX11_span 52 = .ok (.invokevirtual 119, 3) := by decide +kernel
theorem dX11_span_55 : decode cX11_span 55 = .ok (.bipush 8, 2) := by decide +kernel
theorem dX11_span_57 : decode cX11_span 57 = .ok (.istore 8, 2) := by decide +kernel
theorem dX11_span_59 : decode cX11_span 59 = .ok (.iconst 0, 1) := by decide +kernel
theorem dX11_span_60 : decode cX11_span 60 = .ok (.istore 9, 2) := by decide +kernel
theorem dX11_span_62 : decode cX11_span 62 = .ok (.iconst 0, 1) := by decide +kernel
theorem dX11_span_63 : decode cX11_span 63 = .ok (.istore 10, 2) := by decide +kernel
theorem dX11_span_65 : decode cX11_span 65 = .ok (.iconst 0, 1) := by decide +kernel
theorem dX11_span_66 : decode cX11_span 66 = .ok (.istore 11, 2) := by decide +kernel
theorem dX11_span_68 : decode cX11_span 68 = .ok (.iload 11, 2) := by decide +kernel
theorem dX11_span_70 : decode cX11_span 70 = .ok (.iload_n 2, 1) := by decide +kernel
theorem dX11_span_71 : decode cX11_span 71 = .ok (.if_icmp .ge 88, 3) := by decide +kernel
theorem dX11_span_74 : decode cX11_span 74 = .ok (.aload_n 0, 1) := by decide +kernel
theorem dX11_span_75 : decode cX11_span 75 = .ok (.getfield 54, 3) := by decide +kernel
theorem dX11_span_78 : decode cX11_span 78 = .ok (.aload_n 0, 1) := by decide +kernel
theorem dX11_span_79 : decode cX11_span 79 = .ok (.getfield 72, 3) := by decide +kernel
theorem dX11_span_82 : decode cX11_span 82 = .ok (.aload_n 0, 1) := by decide +kernel
theorem dX11_span_83 : decode cX11_span 83 = .ok (.getfield 26, 3) := by decide +kernel
theorem dX11_span_86 : decode cX11_span 86 = .ok (.iload_n 1, 1) := by decide +kernel
theorem dX11_span_87 : decode cX11_span 87 = .ok (.iload 11, 2) := by decide +kernel
theorem dX11_span_89 : decode cX11_span 89 = .ok (.iadd, 1) := by decide +kernel
theorem dX11_span_90 : decode cX11_span 90 = .ok (.iload_n 3, 1) := by decide +kernel
theorem dX11_span_91 : decode cX11_span 91 = .ok (.iload 4, 2) := by decide +kernel
theorem dX11_span_93 : decode cX11_span 93 = .ok (.iload 5, 2) := by decide +kernel
theorem dX11_span_95 : decode cX11_span 95 = .ok (.invokevirtual 361, 3) := by decide +kernel
theorem dX11_span_98 : decode cX11_span 98 = .ok (.aload_n 0, 1) := by decide +kernel
theorem dX11_span_99 : decode cX11_span 99 = .ok (.getfield 54, 3) := by decide +kernel
theorem dX11_span_102 : decode cX11_span 102 = .ok (.getfield 371, 3) := by decide +kernel
theorem dX11_span_105 : decode cX11_span 105 = .ok (.invokestatic 293, 3) := by decide +kernel
theorem dX11_span_108 : decode cX11_span 108 = .ok (.istore 12, 2) := by decide +kernel
theorem dX11_span_110 : decode cX11_span 110 = .ok (.iload 8, 2) := by decide +kernel
theorem dX11_span_112 : decode cX11_span 112 = .ok (.iload 12, 2) := by decide +kernel
theorem dX11_span_114 : decode cX11_span 114 = .ok (.invokestatic 150, 3) := by decide +kernel
theorem dX11_span_117 : decode cX11_span 117 = .ok (.istore 8, 2) := by decide +kernel
theorem dX11_span_119 : decode cX11_span 119 = .ok (.iload 9, 2) := by decide +kernel
theorem dX11_span_121 : decode cX11_span 121 = .ok (.iload 12, 2) := by decide +kernel
theorem dX11_span_123 : decode cX11_span 123 = .ok (.invokestatic 374, 3) := by decide +kernel
theorem dX11_span_126 : decode cX11_span 126 = .ok (.istore 9, 2) := by decide +kernel
theorem dX11_span_128 : decode cX11_span 128 = .ok (.iload 10, 2) := by decide +kernel
theorem dX11_span_130 : decode cX11_span 130 = .ok (.aload_n 0, 1) := by decide +kernel
theorem dX11_span_131 : decode cX11_span 131 = .ok (.getfield 54, 3) := by decide +kernel
theorem dX11_span_134 : decode cX11_span 134 = .ok (.getfield 371, 3) := by decide +kernel
theorem dX11_span_137 : decode cX11_span 137 = .ok (.iload 7, 2) := by decide +kernel
theorem dX11_span_139 : decode cX11_span 139 = .ok (.invokestatic 301, 3) := by decide +kernel
theorem dX11_span_142 : decode cX11_span 142 = .ok (.ifCond .eq 7, 3) := by decide +kernel
theorem dX11_span_145 : decode cX11_span 145 = .ok (.iconst 1, 1) := by decide +kernel
theorem dX11_span_146 : decode cX11_span 146 = .ok (.goto 4, 3) := by decide +kernel
theorem dX11_span_149 : decode cX11_span 149 = .ok (.iconst 0, 1) := by decide +kernel
theorem dX11_span_150 : decode cX11_span 150 = .ok (.iadd, 1) := by decide +kernel
theorem dX11_span_151 : decode cX11_span 151 = .ok (.istore 10, 2) := by decide +kernel
theorem dX11_span_153 : decode cX11_span 153 = .ok (.iinc 11 1, 3) := by decide +kernel
theorem dX11_span_156 : decode cX11_span 156 = .ok (.goto (-88), 3) := by decide +kernel
theorem dX11_span_159 : decode cX11_span 159 = .ok (.iload 6, 2) := by decide +kernel
theorem dX11_span_161 : decode cX11_span 161 = .ok (.lookupswitch 33 #[(0, 27), (1, 30)], 27) := by decide +kernel
theorem dX11_span_188 : decode cX11_span 188 = .ok (.iload 8, 2) := by decide +kernel
theorem dX11_span_190 : decode cX11_span 190 = .ok (.ireturn, 1) := by decide +kernel
theorem dX11_span_191 : decode cX11_span 191 = .ok (.iload 9, 2) := by decide +kernel
theorem dX11_span_193 : decode cX11_span 193 = .ok (.ireturn, 1) := by decide +kernel
theorem dX11_span_194 : decode cX11_span 194 = .ok (.iload 10, 2) := by decide +kernel
theorem dX11_span_196 : decode cX11_span 196 = .ok (.ireturn, 1) := by decide +kernel
theorem dX11_image_0 : decode cX11_image 0 = .ok (.aload_n 0, 1) := by decide +kernel
theorem dX11_image_1 : decode cX11_image 1 = .ok (.getfield 33, 3) := by decide +kernel
theorem dX11_image_4 : decode cX11_image 4 = .ok (.aload_n 0, 1) := by decide +kernel
theorem dX11_image_5 : decode cX11_image 5 = .ok (.getfield 26, 3) := by decide +kernel
theorem dX11_image_8 : decode cX11_image 8 = .ok (.invokevirtual 377, 3) := by decide +kernel
theorem dX11_image_11 : decode cX11_image 11 = .ok (.ifCond .eq 13, 3) := by decide +kernel
theorem dX11_image_14 : decode cX11_image 14 = .ok (.aload_n 0, 1) := by decide +kernel
theorem dX11_image_15 : decode cX11_image 15 = .ok (.getfield 33, 3) := by decide +kernel
theorem dX11_image_18 : decode cX11_image 18 = .ok (.getfield 380, 3) := by decide +kernel
theorem dX11_image_21 : decode cX11_image 21 = .ok (.goto 4, 3) := by decide +kernel
theorem dX11_image_24 : decode cX11_image 24 = .ok (.iconst (-1), 1) := by decide +kernel
theorem dX11_image_25 : decode cX11_image 25 = .ok (.ireturn, 1) := by decide +kernel
theorem dX11_restore_0 : decode cX11_restore 0 = .ok (.aload_n 0, 1) := by decide +kernel
theorem dX11_restore_1 : decode cX11_restore 1 = .ok (.getfield 33, 3) := by decide +kernel
theorem dX11_restore_4 : decode cX11_restore 4 = .ok (.aload_n 0, 1) := by decide +kernel
theorem dX11_restore_5 : decode cX11_restore 5 = .ok (.getfield 26, 3) := by decide +kernel
theorem dX11_restore_8 : decode cX11_restore 8 = .ok (.invokevirtual 383, 3) := by decide +kernel
theorem dX11_restore_11 : decode cX11_restore 11 = .ok (.ifCond .ne 5, 3) := by decide +kernel
theorem dX11_restore_14 : decode cX11_restore 14 = .ok (.iconst (-1), 1) := by decide +kernel
theorem dX11_restore_15 : decode cX11_restore 15 = .ok (.ireturn, 1) := by decide +kernel
theorem dX11_restore_16 : decode cX11_restore 16 = .ok (.aload_n 0, 1) := by decide +kernel
theorem dX11_restore_17 : decode cX11_restore 17 = .ok (.iconst 0, 1) := by decide +kernel
theorem dX11_restore_18 : decode cX11_restore 18 = .ok (.putfield 144, 3) := by decide +kernel
theorem dX11_restore_21 : decode cX11_restore 21 = .ok (.aload_n 0, 1) := by decide +kernel
theorem dX11_restore_22 : decode cX11_restore 22 = .ok (.getfield 33, 3) := by decide +kernel
theorem dX11_restore_25 : decode cX11_restore 25 = .ok (.getfield 380, 3) := by decide +kernel
theorem dX11_restore_28 : decode cX11_restore 28 = .ok (.ireturn, 1) := by decide +kernel
theorem dX11_status_0 : decode cX11_status 0 = .ok (.iload_n 1, 1) := by decide +kernel
theorem dX11_status_1 : decode cX11_status 1 = .ok (.lookupswitch 37 #[(0, 27), (1, 32)], 27) := by decide +kernel
theorem dX11_status_28 : decode cX11_status 28 = .ok (.aload_n 0, 1) := by decide +kernel
theorem dX11_status_29 : decode cX11_status 29 = .ok (.getfield 386, 3) := by decide +kernel
theorem dX11_status_32 : decode cX11_status 32 = .ok (.ireturn, 1) := by decide +kernel
theorem dX11_status_33 : decode cX11_status 33 = .ok (.aload_n 0, 1) := by decide +kernel
theorem dX11_status_34 : decode cX11_status 34 = .ok (.getfield 389, 3) := by decide +kernel
theorem dX11_status_37 : decode cX11_status 37 = .ok (.ireturn, 1) := by decide +kernel
theorem dX11_status_38 : decode cX11_status 38 = .ok (.iconst (-1), 1) := by decide +kernel
theorem dX11_status_39 : decode cX11_status 39 = .ok (.ireturn, 1) := by decide +kernel
theorem dX11_count_0 : decode cX11_count 0 = .ok (.iload_n 1, 1) := by decide +kernel
theorem dX11_count_1 : decode cX11_count 1 = .ok (.tableswitch 51 0 2 #[27, 35, 43], 27) := by decide +kernel
theorem dX11_count_28 : decode cX11_count 28 = .ok (.aload_n 0, 1) := by decide +kernel
theorem dX11_count_29 : decode cX11_count 29 = .ok (.getfield 33, 3) := by decide +kernel
theorem dX11_count_32 : decode cX11_count 32 = .ok (.getfield 380, 3) := by decide +kernel
theorem dX11_count_35 : decode cX11_count 35 = .ok (.ireturn, 1) := by decide +kernel
theorem dX11_count_36 : decode cX11_count 36 = .ok (.aload_n 0, 1) := by decide +kernel
theorem dX11_count_37 : decode cX11_count 37 = .ok (.getfield 10, 3) := by decide +kernel
theorem dX11_count_40 : decode cX11_count 40 = .ok (.getfield 111, 3) := by decide +kernel
theorem dX11_count_43 : decode cX11_count 43 = .ok (.ireturn, 1) := by decide +kernel
theorem dX11_count_44 : decode cX11_count 44 = .ok (.aload_n 0, 1) := by decide +kernel
theorem dX11_count_45 : decode cX11_count 45 = .ok (.getfield 33, 3) := by decide +kernel
theorem dX11_count_48 : decode cX11_count 48 = .ok (.getfield 157, 3) := by decide +kernel
theorem dX11_count_51 : decode cX11_count 51 = .ok (.ireturn, 1) := by decide +kernel
theorem dX11_count_52 : decode cX11_count 52 = .ok (.iconst (-1), 1) := by decide +kernel
theorem dX11_count_53 : decode cX11_count 53 = .ok (.ireturn, 1) := by decide +kernel
theorem dX11_mustExist_0 : decode cX11_mustExist 0 = .ok (.iload_n 1, 1) := by decide +kernel
theorem dX11_mustExist_1 : decode cX11_mustExist 1 = .ok (.ifCond .ne 24, 3) := by decide +kernel
theorem dX11_mustExist_4 : decode cX11_mustExist 4 = .ok (.aload_n 0, 1) := by decide +kernel
theorem dX11_mustExist_5 : decode cX11_mustExist 5 = .ok (.dup, 1) := by decide +kernel
theorem dX11_mustExist_6 : decode cX11_mustExist 6 = .ok (.getfield 386, 3) := by decide +kernel
theorem dX11_mustExist_9 : decode cX11_mustExist 9 = .ok (.iconst 1, 1) := by decide +kernel
theorem dX11_mustExist_10 : decode cX11_mustExist 10 = .ok (.iadd, 1) := by decide +kernel
theorem dX11_mustExist_11 : decode cX11_mustExist 11 = .ok (.putfield 386, 3) := by decide +kernel
theorem dX11_mustExist_14 : decode cX11_mustExist 14 = .ok (.new 392, 3) := by decide +kernel
theorem dX11_mustExist_17 : decode cX11_mustExist 17 = .ok (.dup, 1) := by decide +kernel
theorem dX11_mustExist_18 : decode cX11_mustExist 18 = .ok (.ldc_w 394, 3) := by decide +kernel
theorem dX11_mustExist_21 : decode cX11_mustExist 21 = .ok (.invokespecial 396, 3) := by decide +kernel
theorem dX11_mustExist_24 : decode cX11_mustExist 24 = .ok (.athrow, 1) := by decide +kernel
theorem dX11_mustExist_25 : decode cX11_mustExist 25 = .ok (.return_, 1) := by decide +kernel
theorem dX11_mustBe_0 : decode cX11_mustBe 0 = .ok (.iload_n 1, 1) := by decide +kernel
theorem dX11_mustBe_1 : decode cX11_mustBe 1 = .ok (.ifCond .ne 24, 3) := by decide +kernel
theorem dX11_mustBe_4 : decode cX11_mustBe 4 = .ok (.aload_n 0, 1) := by decide +kernel
theorem dX11_mustBe_5 : decode cX11_mustBe 5 = .ok (.dup, 1) := by decide +kernel
theorem dX11_mustBe_6 : decode cX11_mustBe 6 = .ok (.getfield 389, 3) := by decide +kernel
theorem dX11_mustBe_9 : decode cX11_mustBe 9 = .ok (.iconst 1, 1) := by decide +kernel
theorem dX11_mustBe_10 : decode cX11_mustBe 10 = .ok (.iadd, 1) := by decide +kernel
theorem dX11_mustBe_11 : decode cX11_mustBe 11 = .ok (.putfield 389, 3) := by decide +kernel
theorem dX11_mustBe_14 : decode cX11_mustBe 14 = .ok (.new 399, 3) := by decide +kernel
theorem dX11_mustBe_17 : decode cX11_mustBe 17 = .ok (.dup, 1) := by decide +kernel
theorem dX11_mustBe_18 : decode cX11_mustBe 18 = .ok (.ldc_w 401, 3) := by decide +kernel
theorem dX11_mustBe_21 : decode cX11_mustBe 21 = .ok (.invokespecial 403, 3) := by decide +kernel
theorem dX11_mustBe_24 : decode cX11_mustBe 24 = .ok (.athrow, 1) := by decide +kernel
theorem dX11_mustBe_25 : decode cX11_mustBe 25 = .ok (.return_, 1) := by decide +kernel
theorem dX11_isBelow_0 : decode cX11_isBelow 0 = .ok (.iload_n 0, 1) := by decide +kernel
theorem dX11_isBelow_1 : decode cX11_isBelow 1 = .ok (.ifCond .lt 12, 3) := by decide +kernel
theorem dX11_isBelow_4 : decode cX11_isBelow 4 = .ok (.iload_n 0, 1) := by decide +kernel
theorem dX11_isBelow_5 : decode cX11_isBelow 5 = .ok (.iload_n 1, 1) := by decide +kernel
theorem dX11_isBelow_6 : decode cX11_isBelow 6 = .ok (.if_icmp .ge 7, 3) := by decide +kernel
theorem dX11_isBelow_9 : decode cX11_isBelow 9 = .ok (.iconst 1, 1) := by decide +kernel
theorem dX11_isBelow_10 : decode cX11_isBelow 10 = .ok (.goto 4, 3) := by decide +kernel
theorem dX11_isBelow_13 : decode cX11_isBelow 13 = .ok (.iconst 0, 1) := by decide +kernel
theorem dX11_isBelow_14 : decode cX11_isBelow 14 = .ok (.ireturn, 1) := by decide +kernel
theorem dX11_isWithin_0 : decode cX11_isWithin 0 = .ok (.iload_n 0, 1) := by decide +kernel
theorem dX11_isWithin_1 : decode cX11_isWithin 1 = .ok (.iload_n 1, 1) := by decide +kernel
theorem dX11_isWithin_2 : decode cX11_isWithin 2 = .ok (.if_icmp .lt 12, 3) := by decide +kernel
theorem dX11_isWithin_5 : decode cX11_isWithin 5 = .ok (.iload_n 0, 1) := by decide +kernel
theorem dX11_isWithin_6 : decode cX11_isWithin 6 = .ok (.iload_n 2, 1) := by decide +kernel
theorem dX11_isWithin_7 : decode cX11_isWithin 7 = .ok (.if_icmp .gt 7, 3) := by decide +kernel
theorem dX11_isWithin_10 : decode cX11_isWithin 10 = .ok (.iconst 1, 1) := by decide +kernel
theorem dX11_isWithin_11 : decode cX11_isWithin 11 = .ok (.goto 4, 3) := by decide +kernel
theorem dX11_isWithin_14 : decode cX11_isWithin 14 = .ok (.iconst 0, 1) := by decide +kernel
theorem dX11_isWithin_15 : decode cX11_isWithin 15 = .ok (.ireturn, 1) := by decide +kernel
theorem dX11_areBits_0 : decode cX11_areBits 0 = .ok (.iload_n 0, 1) := by decide +kernel
theorem dX11_areBits_1 : decode cX11_areBits 1 = .ok (.ifCond .lt 14, 3) := by decide +kernel
theorem dX11_areBits_4 : decode cX11_areBits 4 = .ok (.iload_n 0, 1) := by decide +kernel
theorem dX11_areBits_5 : decode cX11_areBits 5 = .ok (.iconst 1, 1) := by decide +kernel
theorem dX11_areBits_6 : decode cX11_areBits 6 = .ok (.iload_n 1, 1) := by decide +kernel
theorem dX11_areBits_7 : decode cX11_areBits 7 = .ok (.ishl, 1) := by decide +kernel
theorem dX11_areBits_8 : decode cX11_areBits 8 = .ok (.if_icmp .ge 7, 3) := by decide +kernel
theorem dX11_areBits_11 : decode cX11_areBits 11 = .ok (.iconst 1, 1) := by decide +kernel
theorem dX11_areBits_12 : decode cX11_areBits 12 = .ok (.goto 4, 3) := by decide +kernel
theorem dX11_areBits_15 : decode cX11_areBits 15 = .ok (.iconst 0, 1) := by decide +kernel
theorem dX11_areBits_16 : decode cX11_areBits 16 = .ok (.ireturn, 1) := by decide +kernel
theorem dX11_hasBit_0 : decode cX11_hasBit 0 = .ok (.iload_n 0, 1) := by decide +kernel
theorem dX11_hasBit_1 : decode cX11_hasBit 1 = .ok (.iload_n 1, 1) := by decide +kernel
theorem dX11_hasBit_2 : decode cX11_hasBit 2 = .ok (.ishr, 1) := by decide +kernel
theorem dX11_hasBit_3 : decode cX11_hasBit 3 = .ok (.iconst 1, 1) := by decide +kernel
theorem dX11_hasBit_4 : decode cX11_hasBit 4 = .ok (.iand, 1) := by decide +kernel
theorem dX11_hasBit_5 : decode cX11_hasBit 5 = .ok (.iconst 1, 1) := by decide +kernel
theorem dX11_hasBit_6 : decode cX11_hasBit 6 = .ok (.if_icmp .ne 7, 3) := by decide +kernel
theorem dX11_hasBit_9 : decode cX11_hasBit 9 = .ok (.iconst 1, 1) := by decide +kernel
theorem dX11_hasBit_10 : decode cX11_hasBit 10 = .ok (.goto 4, 3) := by decide +kernel
theorem dX11_hasBit_13 : decode cX11_hasBit 13 = .ok (.iconst 0, 1) := by decide +kernel
theorem dX11_hasBit_14 : decode cX11_hasBit 14 = .ok (.ireturn, 1) := by decide +kernel
theorem dX11_areYears_0 : decode cX11_areYears 0 = .ok (.iload_n 0, 1) := by decide +kernel
theorem dX11_areYears_1 : decode cX11_areYears 1 = .ok (.iconst 1, 1) := by decide +kernel
theorem dX11_areYears_2 : decode cX11_areYears 2 = .ok (.bipush 96, 2) := by decide +kernel
theorem dX11_areYears_4 : decode cX11_areYears 4 = .ok (.invokestatic 115, 3) := by decide +kernel
theorem dX11_areYears_7 : decode cX11_areYears 7 = .ok (.ifCond .eq 27, 3) := by decide +kernel
theorem dX11_areYears_10 : decode cX11_areYears 10 = .ok (.iload_n 1, 1) := by decide +kernel
theorem dX11_areYears_11 : decode cX11_areYears 11 = .ok (.iconst 0, 1) := by decide +kernel
theorem dX11_areYears_12 : decode cX11_areYears 12 = .ok (.bipush 16, 2) := by decide +kernel
theorem dX11_areYears_14 : decode cX11_areYears 14 = .ok (.invokestatic 115, 3) := by decide +kernel
theorem dX11_areYears_17 : decode cX11_areYears 17 = .ok (.ifCond .eq 17, 3) := by decide +kernel
theorem dX11_areYears_20 : decode cX11_areYears 20 = .ok (.iload_n 2, 1) := by decide +kernel
theorem dX11_areYears_21 : decode cX11_areYears 21 = .ok (.iconst 0, 1) := by decide +kernel
theorem dX11_areYears_22 : decode cX11_areYears 22 = .ok (.bipush 16, 2) := by decide +kernel
theorem dX11_areYears_24 : decode cX11_areYears 24 = .ok (.invokestatic 115, 3) := by decide +kernel
theorem dX11_areYears_27 : decode cX11_areYears 27 = .ok (.ifCond .eq 7, 3) := by decide +kernel
theorem dX11_areYears_30 : decode cX11_areYears 30 = .ok (.iconst 1, 1) := by decide +kernel
theorem dX11_areYears_31 : decode cX11_areYears 31 = .ok (.goto 4, 3) := by decide +kernel
theorem dX11_areYears_34 : decode cX11_areYears 34 = .ok (.iconst 0, 1) := by decide +kernel
theorem dX11_areYears_35 : decode cX11_areYears 35 = .ok (.ireturn, 1) := by decide +kernel
theorem dX11_forceOf_0 : decode cX11_forceOf 0 = .ok (.aload_n 0, 1) := by decide +kernel
theorem dX11_forceOf_1 : decode cX11_forceOf 1 = .ok (.getfield 26, 3) := by decide +kernel
theorem dX11_forceOf_4 : decode cX11_forceOf 4 = .ok (.aload_n 0, 1) := by decide +kernel
theorem dX11_forceOf_5 : decode cX11_forceOf 5 = .ok (.getfield 72, 3) := by decide +kernel
theorem dX11_forceOf_8 : decode cX11_forceOf 8 = .ok (.iload_n 1, 1) := by decide +kernel
theorem dX11_forceOf_9 : decode cX11_forceOf 9 = .ok (.aload_n 0, 1) := by decide +kernel
theorem dX11_forceOf_10 : decode cX11_forceOf 10 = .ok (.getfield 58, 3) := by decide +kernel
theorem dX11_forceOf_13 : decode cX11_forceOf 13 = .ok (.invokevirtual 404, 3) := by decide +kernel
theorem dX11_forceOf_16 : decode cX11_forceOf 16 = .ok (.aload_n 0, 1) := by decide +kernel
theorem dX11_forceOf_17 : decode cX11_forceOf 17 = .ok (.getfield 82, 3) := by decide +kernel
theorem dX11_forceOf_20 : decode cX11_forceOf 20 = .ok (.aload_n 0, 1) := by decide +kernel
theorem dX11_forceOf_21 : decode cX11_forceOf 21 = .ok (.getfield 58, 3) := by decide +kernel
theorem dX11_forceOf_24 : decode cX11_forceOf 24 = .ok (.invokevirtual 276, 3) := by decide +kernel
theorem dX11_forceOf_27 : decode cX11_forceOf 27 = .ok (.ireturn, 1) := by decide +kernel
theorem dX11_lineInForce_0 : decode cX11_lineInForce 0 = .ok (.iconst (-1), 1) := by decide +kernel
theorem dX11_lineInForce_1 : decode cX11_lineInForce 1 = .ok (.istore_n 2, 1) := by decide +kernel
theorem dX11_lineInForce_2 : decode cX11_lineInForce 2 = .ok (.iconst 0, 1) := by decide +kernel
theorem dX11_lineInForce_3 : decode cX11_lineInForce 3 = .ok (.istore_n 3, 1) := by decide +kernel
theorem dX11_lineInForce_4 : decode cX11_lineInForce 4 = .ok (.iconst 0, 1) := by decide +kernel
theorem dX11_lineInForce_5 : decode cX11_lineInForce 5 = .ok (.istore 4, 2) := by decide +kernel
theorem dX11_lineInForce_7 : decode cX11_lineInForce 7 = .ok (.iload 4, 2) := by decide +kernel
theorem dX11_lineInForce_9 : decode cX11_lineInForce 9 = .ok (.aload_n 0, 1) := by decide +kernel
theorem dX11_lineInForce_10 : decode cX11_lineInForce 10 = .ok (.getfield 26, 3) := by decide +kernel
theorem dX11_lineInForce_13 : decode cX11_lineInForce 13 = .ok (.getfield 197, 3) := by decide +kernel
theorem dX11_lineInForce_16 : decode cX11_lineInForce 16 = .ok (.if_icmp .ge 45, 3) := by decide +kernel
theorem dX11_lineInForce_19 : decode cX11_lineInForce 19 = .ok (.aload_n 0, 1) := by decide +kernel
theorem dX11_lineInForce_20 : decode cX11_lineInForce 20 = .ok (.getfield 26, 3) := by decide +kernel
theorem dX11_lineInForce_23 : decode cX11_lineInForce 23 = .ok (.getfield 261, 3) := by decide +kernel
theorem dX11_lineInForce_26 : decode cX11_lineInForce 26 = .ok (.iload 4, 2) := by decide +kernel
theorem dX11_lineInForce_28 : decode cX11_lineInForce 28 = .ok (.iaload, 1) := by decide +kernel
theorem dX11_lineInForce_29 : decode cX11_lineInForce 29 = .ok (.iconst 2, 1) := by decide +kernel
theorem dX11_lineInForce_30 : decode cX11_lineInForce 30 = .ok (.idiv, 1) := by decide +kernel
theorem dX11_lineInForce_31 : decode cX11_lineInForce 31 = .ok (.iload_n 1, 1) := by decide +kernel
theorem dX11_lineInForce_32 : decode cX11_lineInForce 32 = .ok (.if_icmp .ne 23, 3) := by decide +kernel
theorem dX11_lineInForce_35 : decode cX11_lineInForce 35 = .ok (.aload_n 0, 1) := by decide +kernel
theorem dX11_lineInForce_36 : decode cX11_lineInForce 36 = .ok (.iload 4, 2) := by decide +kernel
theorem dX11_lineInForce_38 : decode cX11_lineInForce 38 = .ok (.invokevirtual 270, 3) := by decide +kernel
theorem dX11_lineInForce_41 : decode cX11_lineInForce 41 = .ok (.istore 5, 2) := by decide +kernel
theorem dX11_lineInForce_43 : decode cX11_lineInForce 43 = .ok (.iload 5, 2) := by decide +kernel
theorem dX11_lineInForce_45 : decode cX11_lineInForce 45 = .ok (.iload_n 3, 1) := by decide +kernel
theorem dX11_lineInForce_46 : decode cX11_lineInForce 46 = .ok (.if_icmp .le 9, 3) := by decide +kernel
theorem dX11_lineInForce_49 : decode cX11_lineInForce 49 = .ok (.iload 4, 2) := by decide +kernel
theorem dX11_lineInForce_51 : decode cX11_lineInForce 51 = .ok (.istore_n 2, 1) := by decide +kernel
theorem dX11_lineInForce_52 : decode cX11_lineInForce 52 = .ok (.iload 5, 2) := by decide +kernel
theorem dX11_lineInForce_54 : decode cX11_lineInForce 54 = .ok (.istore_n 3, 1) := by decide +kernel
theorem dX11_lineInForce_55 : decode cX11_lineInForce 55 = .ok (.iinc 4 1, 3) := by decide +kernel
theorem dX11_lineInForce_58 : decode cX11_lineInForce 58 = .ok (.goto (-51), 3) := by decide +kernel
theorem dX11_lineInForce_61 : decode cX11_lineInForce 61 = .ok (.iload_n 2, 1) := by decide +kernel
theorem dX11_lineInForce_62 : decode cX11_lineInForce 62 = .ok (.ireturn, 1) := by decide +kernel
theorem dX11_actsInForce_0 : decode cX11_actsInForce 0 = .ok (.iconst 0, 1) := by decide +kernel
theorem dX11_actsInForce_1 : decode cX11_actsInForce 1 = .ok (.istore_n 1, 1) := by decide +kernel
theorem dX11_actsInForce_2 : decode cX11_actsInForce 2 = .ok (.iconst 0, 1) := by decide +kernel
theorem dX11_actsInForce_3 : decode cX11_actsInForce 3 = .ok (.istore_n 2, 1) := by decide +kernel
theorem dX11_actsInForce_4 : decode cX11_actsInForce 4 = .ok (.iload_n 2, 1) := by decide +kernel
theorem dX11_actsInForce_5 : decode cX11_actsInForce 5 = .ok (.iconst 5, 1) := by decide +kernel
theorem dX11_actsInForce_6 : decode cX11_actsInForce 6 = .ok (.if_icmp .ge 34, 3) := by decide +kernel
theorem dX11_actsInForce_9 : decode cX11_actsInForce 9 = .ok (.aload_n 0, 1) := by decide +kernel
theorem dX11_actsInForce_10 : decode cX11_actsInForce 10 = .ok (.iload_n 2, 1) := by decide +kernel
theorem dX11_actsInForce_11 : decode cX11_actsInForce 11 = .ok (.invokevirtual 280, 3) := by decide +kernel
theorem dX11_actsInForce_14 : decode cX11_actsInForce 14 = .ok (.istore_n 3, 1) := by decide +kernel
theorem dX11_actsInForce_15 : decode cX11_actsInForce 15 = .ok (.iload_n 3, 1) := by decide +kernel
theorem dX11_actsInForce_16 : decode cX11_actsInForce 16 = .ok (.iconst (-1), 1) := by decide +kernel
theorem dX11_actsInForce_17 : decode cX11_actsInForce 17 = .ok (.if_icmp .eq 17, 3) := by decide +kernel
theorem dX11_actsInForce_20 : decode cX11_actsInForce 20 = .ok (.iload_n 1, 1) := by decide +kernel
theorem dX11_actsInForce_21 : decode cX11_actsInForce 21 = .ok (.iconst 1, 1) := by decide +kernel
theorem dX11_actsInForce_22 : decode cX11_actsInForce 22 = .ok (.aload_n 0, 1) := by decide +kernel
theorem dX11_actsInForce_23 : decode cX11_actsInForce 23 = .ok (.getfield 26, 3) := by decide +kernel
theorem dX11_actsInForce_26 : decode cX11_actsInForce 26 = .ok (.getfield 261, 3) := by decide +kernel
theorem dX11_actsInForce_29 : decode cX11_actsInForce 29 = .ok (.iload_n 3, 1) := by decide +kernel
theorem dX11_actsInForce_30 : decode cX11_actsInForce 30 = .ok (.iaload, 1) := by decide +kernel
theorem dX11_actsInForce_31 : decode cX11_actsInForce 31 = .ok (.ishl, 1) := by decide +kernel
theorem dX11_actsInForce_32 : decode cX11_actsInForce 32 = .ok (.ior, 1) := by decide +kernel
theorem dX11_actsInForce_33 : decode cX11_actsInForce 33 = .ok (.istore_n 1, 1) := by decide +kernel
theorem dX11_actsInForce_34 : decode cX11_actsInForce 34 = .ok (.iinc 2 1, 3) := by decide +kernel
theorem dX11_actsInForce_37 : decode cX11_actsInForce 37 = .ok (.goto (-33), 3) := by decide +kernel
theorem dX11_actsInForce_40 : decode cX11_actsInForce 40 = .ok (.iload_n 1, 1) := by decide +kernel
theorem dX11_actsInForce_41 : decode cX11_actsInForce 41 = .ok (.ireturn, 1) := by decide +kernel
theorem dX11_chanceAfter_0 : decode cX11_chanceAfter 0 = .ok (.iconst 0, 1) := by decide +kernel
theorem dX11_chanceAfter_1 : decode cX11_chanceAfter 1 = .ok (.istore 5, 2) := by decide +kernel
theorem dX11_chanceAfter_3 : decode cX11_chanceAfter 3 = .ok (.iload 5, 2) := by decide +kernel
theorem dX11_chanceAfter_5 : decode cX11_chanceAfter 5 = .ok (.bipush 10, 2) := by decide +kernel
theorem dX11_chanceAfter_7 : decode cX11_chanceAfter 7 = .ok (.if_icmp .ge 27, 3) := by decide +kernel
theorem dX11_chanceAfter_10 : decode cX11_chanceAfter 10 = .ok (.aload_n 0, 1) := by decide +kernel
theorem dX11_chanceAfter_11 : decode cX11_chanceAfter 11 = .ok (.getfield 62, 3) := by decide +kernel
theorem dX11_chanceAfter_14 : decode cX11_chanceAfter 14 = .ok (.iload 5, 2) := by decide +kernel
theorem dX11_chanceAfter_16 : decode cX11_chanceAfter 16 = .ok (.iload 5, 2) := by decide +kernel
theorem dX11_chanceAfter_18 : decode cX11_chanceAfter 18 = .ok (.iload_n 1, 1) := by decide +kernel
theorem dX11_chanceAfter_19 : decode cX11_chanceAfter 19 = .ok (.if_icmp .ne 7, 3) := by decide +kernel
theorem dX11_chanceAfter_22 : decode cX11_chanceAfter 22 = .ok (.lconst 1, 1) := by decide +kernel
theorem dX11_chanceAfter_23 : decode cX11_chanceAfter 23 = .ok (.goto 4, 3) := by decide +kernel
theorem dX11_chanceAfter_26 : decode cX11_chanceAfter 26 = .ok (.lconst 0, 1) := by decide +kernel
theorem dX11_chanceAfter_27 : decode cX11_chanceAfter 27 = .ok (.lastore, 1) := by decide +kernel
theorem dX11_chanceAfter_28 : decode cX11_chanceAfter 28 = .ok (.iinc 5 1, 3) := by decide +kernel
theorem dX11_chanceAfter_31 : decode cX11_chanceAfter 31 = .ok (.goto (-28), 3) := by decide +kernel
theorem dX11_chanceAfter_34 : decode cX11_chanceAfter 34 = .ok (.iconst 0, 1) := by decide +kernel
theorem dX11_chanceAfter_35 : decode cX11_chanceAfter 35 = .ok (.istore 5, 2) := by decide +kernel
theorem dX11_chanceAfter_37 : decode cX11_chanceAfter 37 = .ok (.iload 5, 2) := by decide +kernel
theorem dX11_chanceAfter_39 : decode cX11_chanceAfter 39 = .ok (.iload_n 3, 1) := by decide +kernel
theorem dX11_chanceAfter_40 : decode cX11_chanceAfter 40 = .ok (.if_icmp .ge 138, 3) := by decide +kernel
theorem dX11_chanceAfter_43 : decode cX11_chanceAfter 43 = .ok (.iconst 0, 1) := by decide +kernel
theorem dX11_chanceAfter_44 : decode cX11_chanceAfter 44 = .ok (.istore 6, 2) := by decide +kernel
theorem dX11_chanceAfter_46 : decode cX11_chanceAfter 46 = .ok (.iload 6, 2) := by decide +kernel
theorem dX11_chanceAfter_48 : decode cX11_chanceAfter 48 = .ok (.bipush 10, 2) := by decide +kernel
theorem dX11_chanceAfter_50 : decode cX11_chanceAfter 50 = .ok (.if_icmp .ge 17, 3) := by decide +kernel
theorem dX11_chanceAfter_53 : decode cX11_chanceAfter 53 = .ok (.aload_n 0, 1) := by decide +kernel
theorem dX11_chanceAfter_54 : decode cX11_chanceAfter 54 = .ok (.getfield 66, 3) := by decide +kernel
theorem dX11_chanceAfter_57 : decode cX11_chanceAfter 57 = .ok (.iload 6, 2) := by decide +kernel
theorem dX11_chanceAfter_59 : decode cX11_chanceAfter 59 = .ok (.lconst 0, 1) := by decide +kernel
theorem dX11_chanceAfter_60 : decode cX11_chanceAfter 60 = .ok (.lastore, 1) := by decide +kernel
theorem dX11_chanceAfter_61 : decode cX11_chanceAfter 61 = .ok (.iinc 6 1, 3) := by decide +kernel
theorem dX11_chanceAfter_64 : decode cX11_chanceAfter 64 = .ok (.goto (-18), 3) := by decide +kernel
theorem dX11_chanceAfter_67 : decode cX11_chanceAfter 67 = .ok (.iconst 0, 1) := by decide +kernel
theorem dX11_chanceAfter_68 : decode cX11_chanceAfter 68 = .ok (.istore 6, 2) := by decide +kernel
theorem dX11_chanceAfter_70 : decode cX11_chanceAfter 70 = .ok (.iload 6, 2) := by decide +kernel
theorem dX11_chanceAfter_72 : decode cX11_chanceAfter 72 = .ok (.bipush 10, 2) := by decide +kernel
theorem dX11_chanceAfter_74 : decode cX11_chanceAfter 74 = .ok (.if_icmp .ge 83, 3) := by decide +kernel
theorem dX11_chanceAfter_77 : decode cX11_chanceAfter 77 = .ok (.aload_n 0, 1) := by decide +kernel
theorem dX11_chanceAfter_78 : decode cX11_chanceAfter 78 = .ok (.getfield 72, 3) := by decide +kernel
theorem dX11_chanceAfter_81 : decode cX11_chanceAfter 81 = .ok (.getfield 273, 3) := by decide +kernel
theorem dX11_chanceAfter_84 : decode cX11_chanceAfter 84 = .ok (.iload 6, 2) := by decide +kernel
theorem dX11_chanceAfter_86 : decode cX11_chanceAfter 86 = .ok (.iaload, 1) := by decide +kernel
theorem dX11_chanceAfter_87 : decode cX11_chanceAfter 87 = .ok (.iconst (-1), 1) := by decide +kernel
theorem dX11_chanceAfter_88 : decode cX11_chanceAfter 88 = .ok (.if_icmp .ne 8, 3) := by decide +kernel
theorem dX11_chanceAfter_91 : decode cX11_chanceAfter 91 = .ok (.iload 6, 2) := by decide +kernel
theorem dX11_chanceAfter_93 : decode cX11_chanceAfter 93 = .ok (.goto 13, 3) := by decide +kernel
theorem dX11_chanceAfter_96 : decode cX11_chanceAfter 96 = .ok (.aload_n 0, 1) := by decide +kernel
theorem dX11_chanceAfter_97 : decode cX11_chanceAfter 97 = .ok (.getfield 72, 3) := by decide +kernel
theorem dX11_chanceAfter_100 : decode cX11_chanceAfter 100 = .ok (.getfield 273, 3) := by decide +kernel
theorem dX11_chanceAfter_103 : decode cX11_chanceAfter 103 = .ok (.iload 6, 2) := by decide +kernel
theorem dX11_chanceAfter_105 : decode cX11_chanceAfter 105 = .ok (.iaload, 1) := by decide +kernel
theorem dX11_chanceAfter_106 : decode cX11_chanceAfter 106 = .ok (.istore 7, 2) := by decide +kernel
theorem dX11_chanceAfter_108 : decode cX11_chanceAfter 108 = .ok (.aload_n 0, 1) := by decide +kernel
theorem dX11_chanceAfter_109 : decode cX11_chanceAfter 109 = .ok (.getfield 66, 3) := by decide +kernel
theorem dX11_chanceAfter_112 : decode cX11_chanceAfter 112 = .ok (.iload 6, 2) := by decide +kernel
theorem dX11_chanceAfter_114 : decode cX11_chanceAfter 114 = .ok (.dup2, 1) := by decide +kernel
theorem dX11_chanceAfter_115 : decode cX11_chanceAfter 115 = .ok (.laload, 1) := by decide +kernel
theorem dX11_chanceAfter_116 : decode cX11_chanceAfter 116 = .ok (.aload_n 0, 1) := by decide +kernel
theorem dX11_chanceAfter_117 : decode cX11_chanceAfter 117 = .ok (.getfield 62, 3) := by decide +kernel
theorem dX11_chanceAfter_120 : decode cX11_chanceAfter 120 = .ok (.iload 6, 2) := by decide +kernel
theorem dX11_chanceAfter_122 : decode cX11_chanceAfter 122 = .ok (.laload, 1) := by decide +kernel
theorem dX11_chanceAfter_123 : decode cX11_chanceAfter 123 = .ok (.bipush 16, 2) := by decide +kernel
theorem dX11_chanceAfter_125 : decode cX11_chanceAfter 125 = .ok (.iload_n 2, 1) := by decide +kernel
theorem dX11_chanceAfter_126 : decode cX11_chanceAfter 126 = .ok (.isub, 1) := by decide +kernel
theorem dX11_chanceAfter_127 : decode cX11_chanceAfter 127 = .ok (.i2l, 1) := by decide +kernel
theorem dX11_chanceAfter_128 : decode cX11_chanceAfter 128 = .ok (.lmul, 1) := by decide +kernel
theorem dX11_chanceAfter_129 : decode cX11_chanceAfter 129 = .ok (.ladd, 1) := by decide +kernel
theorem dX11_chanceAfter_130 : decode cX11_chanceAfter 130 = .ok (.lastore, 1) := by decide +kernel
theorem dX11_chanceAfter_131 : decode cX11_chanceAfter 131 = .ok (.aload_n 0, 1) := by decide +kernel
theorem dX11_chanceAfter_132 : decode cX11_chanceAfter 132 = .ok (.getfield 66, 3) := by decide +kernel
theorem dX11_chanceAfter_135 : decode cX11_chanceAfter 135 = .ok (.iload 7, 2) := by decide +kernel
theorem dX11_chanceAfter_137 : decode cX11_chanceAfter 137 = .ok (.dup2, 1) := by decide +kernel
theorem dX11_chanceAfter_138 : decode cX11_chanceAfter 138 = .ok (.laload, 1) := by decide +kernel
theorem dX11_chanceAfter_139 : decode cX11_chanceAfter 139 = .ok (.aload_n 0, 1) := by decide +kernel
theorem dX11_chanceAfter_140 : decode cX11_chanceAfter 140 = .ok (.getfield 62, 3) := by decide +kernel
theorem dX11_chanceAfter_143 : decode cX11_chanceAfter 143 = .ok (.iload 6, 2) := by decide +kernel
theorem dX11_chanceAfter_145 : decode cX11_chanceAfter 145 = .ok (.laload, 1) := by decide +kernel
theorem dX11_chanceAfter_146 : decode cX11_chanceAfter 146 = .ok (.iload_n 2, 1) := by decide +kernel
theorem dX11_chanceAfter_147 : decode cX11_chanceAfter 147 = .ok (.i2l, 1) := by decide +kernel
theorem dX11_chanceAfter_148 : decode cX11_chanceAfter 148 = .ok (.lmul, 1) := by decide +kernel
theorem dX11_chanceAfter_149 : decode cX11_chanceAfter 149 = .ok (.ladd, 1) := by decide +kernel
theorem dX11_chanceAfter_150 : decode cX11_chanceAfter 150 = .ok (.lastore, 1) := by decide +kernel
theorem dX11_chanceAfter_151 : decode cX11_chanceAfter 151 = .ok (.iinc 6 1, 3) := by decide +kernel
theorem dX11_chanceAfter_154 : decode cX11_chanceAfter 154 = .ok (.goto (-84), 3) := by decide +kernel
theorem dX11_chanceAfter_157 : decode cX11_chanceAfter 157 = .ok (.aload_n 0, 1) := by decide +kernel
theorem dX11_chanceAfter_158 : decode cX11_chanceAfter 158 = .ok (.getfield 66, 3) := by decide +kernel
theorem dX11_chanceAfter_161 : decode cX11_chanceAfter 161 = .ok (.iconst 0, 1) := by decide +kernel
theorem dX11_chanceAfter_162 : decode cX11_chanceAfter 162 = .ok (.aload_n 0, 1) := by decide +kernel
theorem dX11_chanceAfter_163 : decode cX11_chanceAfter 163 = .ok (.getfield 62, 3) := by decide +kernel
theorem dX11_chanceAfter_166 : decode cX11_chanceAfter 166 = .ok (.iconst 0, 1) := by decide +kernel
theorem dX11_chanceAfter_167 : decode cX11_chanceAfter 167 = .ok (.bipush 10, 2) := by decide +kernel
theorem dX11_chanceAfter_169 : decode cX11_chanceAfter 169 = .ok (.invokestatic 408, 3) := by decide +kernel
theorem dX11_chanceAfter_172 : decode cX11_chanceAfter 172 = .ok (.iinc 5 1, 3) := by decide +kernel
theorem dX11_chanceAfter_175 : decode cX11_chanceAfter 175 = .ok (.goto (-138), 3) := by decide +kernel
theorem dX11_chanceAfter_178 : decode cX11_chanceAfter 178 = .ok (.aload_n 0, 1) := by decide +kernel
theorem dX11_chanceAfter_179 : decode cX11_chanceAfter 179 = .ok (.getfield 62, 3) := by decide +kernel
theorem dX11_chanceAfter_182 : decode cX11_chanceAfter 182 = .ok (.iload 4, 2) := by decide +kernel
theorem dX11_chanceAfter_184 : decode cX11_chanceAfter 184 = .ok (.laload, 1) := by decide +kernel
theorem dX11_chanceAfter_185 : decode cX11_chanceAfter 185 = .ok (.lreturn, 1) := by decide +kernel
theorem dX11_isRest_0 : decode cX11_isRest 0 = .ok (.aload_n 0, 1) := by decide +kernel
theorem dX11_isRest_1 : decode cX11_isRest 1 = .ok (.getfield 72, 3) := by decide +kernel
theorem dX11_isRest_4 : decode cX11_isRest 4 = .ok (.iload_n 1, 1) := by decide +kernel
theorem dX11_isRest_5 : decode cX11_isRest 5 = .ok (.iload_n 2, 1) := by decide +kernel
theorem dX11_isRest_6 : decode cX11_isRest 6 = .ok (.iload_n 3, 1) := by decide +kernel
theorem dX11_isRest_7 : decode cX11_isRest 7 = .ok (.iload 4, 2) := by decide +kernel
theorem dX11_isRest_9 : decode cX11_isRest 9 = .ok (.invokevirtual 344, 3) := by decide +kernel
theorem dX11_isRest_12 : decode cX11_isRest 12 = .ok (.istore 5, 2) := by decide +kernel
theorem dX11_isRest_14 : decode cX11_isRest 14 = .ok (.aload_n 0, 1) := by decide +kernel
theorem dX11_isRest_15 : decode cX11_isRest 15 = .ok (.getfield 72, 3) := by decide +kernel
theorem dX11_isRest_18 : decode cX11_isRest 18 = .ok (.iload_n 2, 1) := by decide +kernel
theorem dX11_isRest_19 : decode cX11_isRest 19 = .ok (.iload_n 1, 1) := by decide +kernel
theorem dX11_isRest_20 : decode cX11_isRest 20 = .ok (.iload_n 3, 1) := by decide +kernel
theorem dX11_isRest_21 : decode cX11_isRest 21 = .ok (.iload 4, 2) := by decide +kernel
theorem dX11_isRest_23 : decode cX11_isRest 23 = .ok (.invokevirtual 344, 3) := by decide +kernel
theorem dX11_isRest_26 : decode cX11_isRest 26 = .ok (.istore 6, 2) := by decide +kernel
theorem dX11_isRest_28 : decode cX11_isRest 28 = .ok (.iconst 0, 1) := by decide +kernel
theorem dX11_isRest_29 : decode cX11_isRest 29 = .ok (.istore 7, 2) := by decide +kernel
theorem dX11_isRest_31 : decode cX11_isRest 31 = .ok (.iload 7, 2) := by decide +kernel
theorem dX11_isRest_33 : decode cX11_isRest 33 = .ok (.aload_n 0, 1) := by decide +kernel
theorem dX11_isRest_34 : decode cX11_isRest 34 = .ok (.getfield 72, 3) := by decide +kernel
theorem dX11_isRest_37 : decode cX11_isRest 37 = .ok (.getfield 188, 3) := by decide +kernel
theorem dX11_isRest_40 : decode cX11_isRest 40 = .ok (.if_icmp .ge 47, 3) := by decide +kernel
theorem dX11_isRest_43 : decode cX11_isRest 43 = .ok (.aload_n 0, 1) := by decide +kernel
theorem dX11_isRest_44 : decode cX11_isRest 44 = .ok (.getfield 72, 3) := by decide +kernel
theorem dX11_isRest_47 : decode cX11_isRest 47 = .ok (.iload 7, 2) := by decide +kernel
theorem dX11_isRest_49 : decode cX11_isRest 49 = .ok (.iload_n 2, 1) := by decide +kernel
theorem dX11_isRest_50 : decode cX11_isRest 50 = .ok (.iload_n 3, 1) := by decide +kernel
theorem dX11_isRest_51 : decode cX11_isRest 51 = .ok (.iload 4, 2) := by decide +kernel
theorem dX11_isRest_53 : decode cX11_isRest 53 = .ok (.invokevirtual 344, 3) := by decide +kernel
theorem dX11_isRest_56 : decode cX11_isRest 56 = .ok (.iload 5, 2) := by decide +kernel
theorem dX11_isRest_58 : decode cX11_isRest 58 = .ok (.if_icmp .gt 21, 3) := by decide +kernel
theorem dX11_isRest_61 : decode cX11_isRest 61 = .ok (.aload_n 0, 1) := by decide +kernel
theorem dX11_isRest_62 : decode cX11_isRest 62 = .ok (.getfield 72, 3) := by decide +kernel
theorem dX11_isRest_65 : decode cX11_isRest 65 = .ok (.iload 7, 2) := by decide +kernel
theorem dX11_isRest_67 : decode cX11_isRest 67 = .ok (.iload_n 1, 1) := by decide +kernel
theorem dX11_isRest_68 : decode cX11_isRest 68 = .ok (.iload_n 3, 1) := by decide +kernel
theorem dX11_isRest_69 : decode cX11_isRest 69 = .ok (.iload 4, 2) := by decide +kernel
theorem dX11_isRest_71 : decode cX11_isRest 71 = .ok (.invokevirtual 344, 3) := by decide +kernel
theorem dX11_isRest_74 : decode cX11_isRest 74 = .ok (.iload 6, 2) := by decide +kernel
theorem dX11_isRest_76 : decode cX11_isRest 76 = .ok (.if_icmp .le 5, 3) := by decide +kernel
theorem dX11_isRest_79 : decode cX11_isRest 79 = .ok (.iconst 0, 1) := by decide +kernel
theorem dX11_isRest_80 : decode cX11_isRest 80 = .ok (.ireturn, 1) := by decide +kernel
theorem dX11_isRest_81 : decode cX11_isRest 81 = .ok (.iinc 7 1, 3) := by decide +kernel
theorem dX11_isRest_84 : decode cX11_isRest 84 = .ok (.goto (-53), 3) := by decide +kernel
theorem dX11_isRest_87 : decode cX11_isRest 87 = .ok (.iconst 1, 1) := by decide +kernel
theorem dX11_isRest_88 : decode cX11_isRest 88 = .ok (.ireturn, 1) := by decide +kernel
theorem dX12_init_0 : decode cX12_init 0 = .ok (.aload_n 0, 1) := by decide +kernel
theorem dX12_init_1 : decode cX12_init 1 = .ok (.invokespecial 1, 3) := by decide +kernel
theorem dX12_init_4 : decode cX12_init 4 = .ok (.aload_n 0, 1) := by decide +kernel
theorem dX12_init_5 : decode cX12_init 5 = .ok (.iconst (-1), 1) := by decide +kernel
theorem dX12_init_6 : decode cX12_init 6 = .ok (.putfield 9, 3) := by decide +kernel
theorem dX12_init_9 : decode cX12_init 9 = .ok (.aload_n 0, 1) := by decide +kernel
theorem dX12_init_10 : decode cX12_init 10 = .ok (.sipush 600, 3) := by decide +kernel
theorem dX12_init_13 : decode cX12_init 13 = .ok (.newarray .int, 2) := by decide +kernel
theorem dX12_init_15 : decode cX12_init 15 = .ok (.putfield 13, 3) := by decide +kernel
theorem dX12_init_18 : decode cX12_init 18 = .ok (.aload_n 0, 1) := by decide +kernel
theorem dX12_init_19 : decode cX12_init 19 = .ok (.iconst 2, 1) := by decide +kernel
theorem dX12_init_20 : decode cX12_init 20 = .ok (.newarray .int, 2) := by decide +kernel
theorem dX12_init_22 : decode cX12_init 22 = .ok (.putfield 17, 3) := by decide +kernel
theorem dX12_init_25 : decode cX12_init 25 = .ok (.aload_n 0, 1) := by decide +kernel
theorem dX12_init_26 : decode cX12_init 26 = .ok (.iconst 3, 1) := by decide +kernel
theorem dX12_init_27 : decode cX12_init 27 = .ok (.newarray .int, 2) := by decide +kernel
theorem dX12_init_29 : decode cX12_init 29 = .ok (.putfield 20, 3) := by decide +kernel
theorem dX12_init_32 : decode cX12_init 32 = .ok (.aload_n 0, 1) := by decide +kernel
theorem dX12_init_33 : decode cX12_init 33 = .ok (.iconst 3, 1) := by decide +kernel
theorem dX12_init_34 : decode cX12_init 34 = .ok (.newarray .int, 2) := by decide +kernel
theorem dX12_init_36 : decode cX12_init 36 = .ok (.putfield 23, 3) := by decide +kernel
theorem dX12_init_39 : decode cX12_init 39 = .ok (.aload_n 0, 1) := by decide +kernel
theorem dX12_init_40 : decode cX12_init 40 = .ok (.iconst 4, 1) := by decide +kernel
theorem dX12_init_41 : decode cX12_init 41 = .ok (.newarray .int, 2) := by decide +kernel
theorem dX12_init_43 : decode cX12_init 43 = .ok (.putfield 26, 3) := by decide +kernel
theorem dX12_init_46 : decode cX12_init 46 = .ok (.aload_n 0, 1) := by decide +kernel
theorem dX12_init_47 : decode cX12_init 47 = .ok (.iconst 4, 1) := by decide +kernel
theorem dX12_init_48 : decode cX12_init 48 = .ok (.newarray .int, 2) := by decide +kernel
theorem dX12_init_50 : decode cX12_init 50 = .ok (.putfield 29, 3) := by decide +kernel
theorem dX12_init_53 : decode cX12_init 53 = .ok (.aload_n 0, 1) := by decide +kernel
theorem dX12_init_54 : decode cX12_init 54 = .ok (.bipush 10, 2) := by decide +kernel
theorem dX12_init_56 : decode cX12_init 56 = .ok (.newarray .int, 2) := by decide +kernel
theorem dX12_init_58 : decode cX12_init 58 = .ok (.putfield 32, 3) := by decide +kernel
theorem dX12_init_61 : decode cX12_init 61 = .ok (.aload_n 0, 1) := by decide +kernel
theorem dX12_init_62 : decode cX12_init 62 = .ok (.bipush 10, 2) := by decide +kernel
theorem dX12_init_64 : decode cX12_init 64 = .ok (.newarray .int, 2) := by decide +kernel
theorem dX12_init_66 : decode cX12_init 66 = .ok (.putfield 35, 3) := by decide +kernel
theorem dX12_init_69 : decode cX12_init 69 = .ok (.aload_n 0, 1) := by decide +kernel
theorem dX12_init_70 : decode cX12_init 70 = .ok (.bipush 6, 2) := by decide +kernel
theorem dX12_init_72 : decode cX12_init 72 = .ok (.newarray .int, 2) := by decide +kernel
theorem dX12_init_74 : decode cX12_init 74 = .ok (.putfield 38, 3) := by decide +kernel
theorem dX12_init_77 : decode cX12_init 77 = .ok (.aload_n 0, 1) := by decide +kernel
theorem dX12_init_78 : decode cX12_init 78 = .ok (.bipush 6, 2) := by decide +kernel
theorem dX12_init_80 : decode cX12_init 80 = .ok (.newarray .int, 2) := by decide +kernel
theorem dX12_init_82 : decode cX12_init 82 = .ok (.putfield 41, 3) := by decide +kernel
theorem dX12_init_85 : decode cX12_init 85 = .ok (.aload_n 0, 1) := by decide +kernel
theorem dX12_init_86 : decode cX12_init 86 = .ok (.bipush 8, 2) := by decide +kernel
theorem dX12_init_88 : decode cX12_init 88 = .ok (.iconst 2, 1) := by decide +kernel
theorem dX12_init_89 : decode cX12_init 89 = .ok (.multianewarray 44 2, 4) := by decide +kernel
theorem dX12_init_93 : decode cX12_init 93 = .ok (.putfield 46, 3) := by decide +kernel
theorem dX12_init_96 : decode cX12_init 96 = .ok (.aload_n 0, 1) := by decide +kernel
theorem dX12_init_97 : decode cX12_init 97 = .ok (.bipush 8, 2) := by decide +kernel
theorem dX12_init_99 : decode cX12_init 99 = .ok (.iconst 2, 1) := by decide +kernel
theorem dX12_init_100 : decode cX12_init 100 = .ok (.multianewarray 44 2, 4) := by decide +kernel
theorem dX12_init_104 : decode cX12_init 104 = .ok (.putfield 49, 3) := by decide +kernel
theorem dX12_init_107 : decode cX12_init 107 = .ok (.aload_n 0, 1) := by decide +kernel
theorem dX12_init_108 : decode cX12_init 108 = .ok (.bipush 6, 2) := by decide +kernel
theorem dX12_init_110 : decode cX12_init 110 = .ok (.iconst 2, 1) := by decide +kernel
theorem dX12_init_111 : decode cX12_init 111 = .ok (.multianewarray 44 2, 4) := by decide +kernel
theorem dX12_init_115 : decode cX12_init 115 = .ok (.putfield 52, 3) := by decide +kernel
theorem dX12_init_118 : decode cX12_init 118 = .ok (.aload_n 0, 1) := by decide +kernel
theorem dX12_init_119 : decode cX12_init 119 = .ok (.bipush 6, 2) := by decide +kernel
theorem dX12_init_121 : decode cX12_init 121 = .ok (.iconst 2, 1) := by decide +kernel
theorem dX12_init_122 : decode cX12_init 122 = .ok (.multianewarray 44 2, 4) := by decide +kernel
theorem dX12_init_126 : decode cX12_init 126 = .ok (.putfield 55, 3) := by decide +kernel
theorem dX12_init_129 : decode cX12_init 129 = .ok (.aload_n 0, 1) := by decide +kernel
theorem dX12_init_130 : decode cX12_init 130 = .ok (.sipush 160, 3) := by decide +kernel
theorem dX12_init_133 : decode cX12_init 133 = .ok (.iconst 2, 1) := by decide +kernel
theorem dX12_init_134 : decode cX12_init 134 = .ok (.multianewarray 44 2, 4) := by decide +kernel
theorem dX12_init_138 : decode cX12_init 138 = .ok (.putfield 58, 3) := by decide +kernel
theorem dX12_init_141 : decode cX12_init 141 = .ok (.aload_n 0, 1) := by decide +kernel
theorem dX12_init_142 : decode cX12_init 142 = .ok (.sipush 160, 3) := by decide +kernel
theorem dX12_init_145 : decode cX12_init 145 = .ok (.iconst 2, 1) := by decide +kernel
theorem dX12_init_146 : decode cX12_init 146 = .ok (.multianewarray 44 2, 4) := by decide +kernel
theorem dX12_init_150 : decode cX12_init 150 = .ok (.putfield 61, 3) := by decide +kernel
theorem dX12_init_153 : decode cX12_init 153 = .ok (.aload_n 0, 1) := by decide +kernel
theorem dX12_init_154 : decode cX12_init 154 = .ok (.bipush 10, 2) := by decide +kernel
theorem dX12_init_156 : decode cX12_init 156 = .ok (.iconst 2, 1) := by decide +kernel
theorem dX12_init_157 : decode cX12_init 157 = .ok (.multianewarray 44 2, 4) := by decide +kernel
theorem dX12_init_161 : decode cX12_init 161 = .ok (.putfield 64, 3) := by decide +kernel
theorem dX12_init_164 : decode cX12_init 164 = .ok (.aload_n 0, 1) := by decide +kernel
theorem dX12_init_165 : decode cX12_init 165 = .ok (.bipush 10, 2) := by decide +kernel
theorem dX12_init_167 : decode cX12_init 167 = .ok (.iconst 2, 1) := by decide +kernel
theorem dX12_init_168 : decode cX12_init 168 = .ok (.multianewarray 44 2, 4) := by decide +kernel
theorem dX12_init_172 : decode cX12_init 172 = .ok (.putfield 67, 3) := by decide +kernel
theorem dX12_init_175 : decode cX12_init 175 = .ok (.aload_n 0, 1) := by decide +kernel
theorem dX12_init_176 : decode cX12_init 176 = .ok (.sipush 160, 3) := by decide +kernel
theorem dX12_init_179 : decode cX12_init 179 = .ok (.newarray .int, 2) := by decide +kernel
theorem dX12_init_181 : decode cX12_init 181 = .ok (.putfield 70, 3) := by decide +kernel
theorem dX12_init_184 : decode cX12_init 184 = .ok (.aload_n 0, 1) := by decide +kernel
theorem dX12_init_185 : decode cX12_init 185 = .ok (.bipush 8, 2) := by decide +kernel
theorem dX12_init_187 : decode cX12_init 187 = .ok (.newarray .int, 2) := by decide +kernel
theorem dX12_init_189 : decode cX12_init 189 = .ok (.putfield 73, 3) := by decide +kernel
theorem dX12_init_192 : decode cX12_init 192 = .ok (.aload_n 0, 1) := by decide +kernel
theorem dX12_init_193 : decode cX12_init 193 = .ok (.bipush 80, 2) := by decide +kernel
theorem dX12_init_195 : decode cX12_init 195 = .ok (.iconst 5, 1) := by decide +kernel
theorem dX12_init_196 : decode cX12_init 196 = .ok (.multianewarray 44 2, 4) := by decide +kernel
theorem dX12_init_200 : decode cX12_init 200 = .ok (.putfield 76, 3) := by decide +kernel
theorem dX12_init_203 : decode cX12_init 203 = .ok (.aload_n 0, 1) := by decide +kernel
theorem dX12_init_204 : decode cX12_init 204 = .ok (.bipush 105, 2) := by decide +kernel
theorem dX12_init_206 : decode cX12_init 206 = .ok (.newarray .int, 2) := by decide +kernel
theorem dX12_init_208 : decode cX12_init 208 = .ok (.putfield 79, 3) := by decide +kernel
theorem dX12_init_211 : decode cX12_init 211 = .ok (.aload_n 0, 1) := by decide +kernel
theorem dX12_init_212 : decode cX12_init 212 = .ok (.bipush 105, 2) := by decide +kernel
theorem dX12_init_214 : decode cX12_init 214 = .ok (.newarray .int, 2) := by decide +kernel
theorem dX12_init_216 : decode cX12_init 216 = .ok (.putfield 82, 3) := by decide +kernel
theorem dX12_init_219 : decode cX12_init 219 = .ok (.aload_n 0, 1) := by decide +kernel
theorem dX12_init_220 : decode cX12_init 220 = .ok (.bipush 16, 2) := by decide +kernel
theorem dX12_init_222 : decode cX12_init 222 = .ok (.bipush 105, 2) := by decide +kernel
theorem dX12_init_224 : decode cX12_init 224 = .ok (.multianewarray 44 2, 4) := by decide +kernel
theorem dX12_init_228 : decode cX12_init 228 = .ok (.putfield 85, 3) := by decide +kernel
theorem dX12_init_231 : decode cX12_init 231 = .ok (.aload_n 0, 1) := by decide +kernel
theorem dX12_init_232 : decode cX12_init 232 = .ok (.iconst 3, 1) := by decide +kernel
theorem dX12_init_233 : decode cX12_init 233 = .ok (.sipush 1786, 3) := by decide +kernel
theorem dX12_init_236 : decode cX12_init 236 = .ok (.multianewarray 44 2, 4) := by decide +kernel
theorem dX12_init_240 : decode cX12_init 240 = .ok (.putfield 88, 3) := by decide +kernel
theorem dX12_init_243 : decode cX12_init 243 = .ok (.aload_n 0, 1) := by decide +kernel
theorem dX12_init_244 : decode cX12_init 244 = .ok (.bipush 8, 2) := by decide +kernel
theorem dX12_init_246 : decode cX12_init 246 = .ok (.newarray .int, 2) := by decide +kernel
theorem dX12_init_248 : decode cX12_init 248 = .ok (.putfield 91, 3) := by decide +kernel
theorem dX12_init_251 : decode cX12_init 251 = .ok (.aload_n 0, 1) := by decide +kernel
theorem dX12_init_252 : decode cX12_init 252 = .ok (.bipush 8, 2) := by decide +kernel
theorem dX12_init_254 : decode cX12_init 254 = .ok (.newarray .int, 2) := by decide +kernel
theorem dX12_init_256 : decode cX12_init 256 = .ok (.putfield 94, 3) := by decide +kernel
theorem dX12_init_259 : decode cX12_init 259 = .ok (.aload_n 0, 1) := by decide +kernel
theorem dX12_init_260 : decode cX12_init 260 = .ok (.iconst 4, 1) := by decide +kernel
theorem dX12_init_261 : decode cX12_init 261 = .ok (.newarray .int, 2) := by decide +kernel
theorem dX12_init_263 : decode cX12_init 263 = .ok (.putfield 97, 3) := by decide +kernel
theorem dX12_init_266 : decode cX12_init 266 = .ok (.aload_n 0, 1) := by decide +kernel
theorem dX12_init_267 : decode cX12_init 267 = .ok (.bipush 9, 2) := by decide +kernel
theorem dX12_init_269 : decode cX12_init 269 = .ok (.newarray .int, 2) := by decide +kernel
theorem dX12_init_271 : decode cX12_init 271 = .ok (.putfield 100, 3) := by decide +kernel
theorem dX12_init_274 : decode cX12_init 274 = .ok (.aload_n 0, 1) := by decide +kernel
theorem dX12_init_275 : decode cX12_init 275 = .ok (.bipush 10, 2) := by decide +kernel
theorem dX12_init_277 : decode cX12_init 277 = .ok (.newarray .long, 2) := by decide +kernel
theorem dX12_init_279 : decode cX12_init 279 = .ok (.putfield 103, 3) := by decide +kernel
theorem dX12_init_282 : decode cX12_init 282 = .ok (.aload_n 0, 1) := by decide +kernel
theorem dX12_init_283 : decode cX12_init 283 = .ok (.bipush 10, 2) := by decide +kernel
theorem dX12_init_285 : decode cX12_init 285 = .ok (.newarray .long, 2) := by decide +kernel
theorem dX12_init_287 : decode cX12_init 287 = .ok (.putfield 107, 3) := by decide +kernel
theorem dX12_init_290 : decode cX12_init 290 = .ok (.aload_n 0, 1) := by decide +kernel
theorem dX12_init_291 : decode cX12_init 291 = .ok (.invokevirtual 110, 3) := by decide +kernel
theorem dX12_init_294 : decode cX12_init 294 = .ok (.aload_n 0, 1) := by decide +kernel
theorem dX12_init_295 : decode cX12_init 295 = .ok (.invokevirtual 113, 3) := by decide +kernel
theorem dX12_init_298 : decode cX12_init 298 = .ok (.return_, 1) := by decide +kernel
theorem dX12_tellsNothing_0 : decode cX12_tellsNothing 0 = .ok (.iconst 0, 1) := by decide +kernel
theorem dX12_tellsNothing_1 : decode cX12_tellsNothing 1 = .ok (.istore_n 1, 1) := by decide +kernel
theorem dX12_tellsNothing_2 : decode cX12_tellsNothing 2 = .ok (.iload_n 1, 1) := by decide +kernel
theorem dX12_tellsNothing_3 : decode cX12_tellsNothing 3 = .ok (.iconst 3, 1) := by decide +kernel
theorem dX12_tellsNothing_4 : decode cX12_tellsNothing 4 = .ok (.if_icmp .ge 16, 3) := by decide +kernel
theorem dX12_tellsNothing_7 : decode cX12_tellsNothing 7 = .ok (.aload_n 0, 1) := by decide +kernel
theorem dX12_tellsNothing_8 : decode cX12_tellsNothing 8 = .ok (.getfield 20, 3) := by decide +kernel
theorem dX12_tellsNothing_11 : decode cX12_tellsNothing 11 = .ok (.iload_n 1, 1) := by decide +kernel
theorem dX12_tellsNothing_12 : decode cX12_tellsNothing 12 = .ok (.iconst 0, 1) := by decide +kernel
theorem dX12_tellsNothing_13 : decode cX12_tellsNothing 13 = .ok (.iastore, 1) := by decide +kernel
theorem dX12_tellsNothing_14 : decode cX12_tellsNothing 14 = .ok (.iinc 1 1, 3) := by decide +kernel
theorem dX12_tellsNothing_17 : decode cX12_tellsNothing 17 = .ok (.goto (-15), 3) := by decide +kernel
theorem dX12_tellsNothing_20 : decode cX12_tellsNothing 20 = .ok (.iconst 0, 1) := by decide +kernel
theorem dX12_tellsNothing_21 : decode cX12_tellsNothing 21 = .ok (.istore_n 1, 1) := by decide +kernel
theorem dX12_tellsNothing_22 : decode cX12_tellsNothing 22 = .ok (.iload_n 1, 1) := by decide +kernel
theorem dX12_tellsNothing_23 : decode cX12_tellsNothing 23 = .ok (.bipush 10, 2) := by decide +kernel
theorem dX12_tellsNothing_25 : decode cX12_tellsNothing 25 = .ok (.if_icmp .ge 16, 3) := by decide +kernel
theorem dX12_tellsNothing_28 : decode cX12_tellsNothing 28 = .ok (.aload_n 0, 1) := by decide +kernel
theorem dX12_tellsNothing_29 : decode cX12_tellsNothing 29 = .ok (.getfield 32, 3) := by decide +kernel
theorem dX12_tellsNothing_32 : decode cX12_tellsNothing 32 = .ok (.iload_n 1, 1) := by decide +kernel
theorem dX12_tellsNothing_33 : decode cX12_tellsNothing 33 = .ok (.iconst (-1), 1) := by decide +kernel
theorem dX12_tellsNothing_34 : decode cX12_tellsNothing 34 = .ok (.iastore, 1) := by decide +kernel
theorem dX12_tellsNothing_35 : decode cX12_tellsNothing 35 = .ok (.iinc 1 1, 3) := by decide +kernel
theorem dX12_tellsNothing_38 : decode cX12_tellsNothing 38 = .ok (.goto (-16), 3) := by decide +kernel
theorem dX12_tellsNothing_41 : decode cX12_tellsNothing 41 = .ok (.iconst 0, 1) := by decide +kernel
theorem dX12_tellsNothing_42 : decode cX12_tellsNothing 42 = .ok (.istore_n 1, 1) := by decide +kernel
theorem dX12_tellsNothing_43 : decode cX12_tellsNothing 43 = .ok (.iload_n 1, 1) := by decide +kernel
theorem dX12_tellsNothing_44 : decode cX12_tellsNothing 44 = .ok (.bipush 6, 2) := by decide +kernel
theorem dX12_tellsNothing_46 : decode cX12_tellsNothing 46 = .ok (.if_icmp .ge 16, 3) := by decide +kernel
theorem dX12_tellsNothing_49 : decode cX12_tellsNothing 49 = .ok (.aload_n 0, 1) := by decide +kernel
theorem dX12_tellsNothing_50 : decode cX12_tellsNothing 50 = .ok (.getfield 38, 3) := by decide +kernel
theorem dX12_tellsNothing_53 : decode cX12_tellsNothing 53 = .ok (.iload_n 1, 1) := by decide +kernel
theorem dX12_tellsNothing_54 : decode cX12_tellsNothing 54 = .ok (.iconst 0, 1) := by decide +kernel
theorem dX12_tellsNothing_55 : decode cX12_tellsNothing 55 = .ok (.iastore, 1) := by decide +kernel
theorem dX12_tellsNothing_56 : decode cX12_tellsNothing 56 = .ok (.iinc 1 1, 3) := by decide +kernel
theorem dX12_tellsNothing_59 : decode cX12_tellsNothing 59 = .ok (.goto (-16), 3) := by decide +kernel
theorem dX12_tellsNothing_62 : decode cX12_tellsNothing 62 = .ok (.return_, 1) := by decide +kernel
theorem dX12_thrown_0 : decode cX12_thrown 0 = .ok (.aload_n 0, 1) := by decide +kernel
theorem dX12_thrown_1 : decode cX12_thrown 1 = .ok (.getfield 116, 3) := by decide +kernel
theorem dX12_thrown_4 : decode cX12_thrown 4 = .ok (.ireturn, 1) := by decide +kernel
theorem dX12_bad_0 : decode cX12_bad 0 = .ok (.iload_n 1, 1) := by decide +kernel
theorem dX12_bad_1 : decode cX12_bad 1 = .ok (.ifCond .eq 25, 3) := by decide +kernel
theorem dX12_bad_4 : decode cX12_bad 4 = .ok (.aload_n 0, 1) := by decide +kernel
theorem dX12_bad_5 : decode cX12_bad 5 = .ok (.getfield 116, 3) := by decide +kernel
theorem dX12_bad_8 : decode cX12_bad 8 = .ok (.ifCond .ne 18, 3) := by decide +kernel
theorem dX12_bad_11 : decode cX12_bad 11 = .ok (.aload_n 0, 1) := by decide +kernel
theorem dX12_bad_12 : decode cX12_bad 12 = .ok (.iload_n 2, 1) := by decide +kernel
theorem dX12_bad_13 : decode cX12_bad 13 = .ok (.putfield 116, 3) := by decide +kernel
theorem dX12_bad_16 : decode cX12_bad 16 = .ok (.aload_n 0, 1) := by decide +kernel
theorem dX12_bad_17 : decode cX12_bad 17 = .ok (.getfield 17, 3) := by decide +kernel
theorem dX12_bad_20 : decode cX12_bad 20 = .ok (.iload_n 3, 1) := by decide +kernel
theorem dX12_bad_21 : decode cX12_bad 21 = .ok (.dup2, 1) := by decide +kernel
theorem dX12_bad_22 : decode cX12_bad 22 = .ok (.iaload, 1) := by decide +kernel
theorem dX12_bad_23 : decode cX12_bad 23 = .ok (.iconst 1, 1) := by decide +kernel
theorem dX12_bad_24 : decode cX12_bad 24 = .ok (.iadd, 1) := by decide +kernel
theorem dX12_bad_25 : decode cX12_bad 25 = .ok (.iastore, 1) := by decide +kernel
theorem dX12_bad_26 : decode cX12_bad 26 = .ok (.aload_n 0, 1) := by decide +kernel
theorem dX12_bad_27 : decode cX12_bad 27 = .ok (.getfield 116, 3) := by decide +kernel
theorem dX12_bad_30 : decode cX12_bad 30 = .ok (.ifCond .eq 7, 3) := by decide +kernel
theorem dX12_bad_33 : decode cX12_bad 33 = .ok (.iconst 1, 1) := by decide +kernel
theorem dX12_bad_34 : decode cX12_bad 34 = .ok (.goto 4, 3) := by decide +kernel
theorem dX12_bad_37 : decode cX12_bad 37 = .ok (.iconst 0, 1) := by decide +kernel
theorem dX12_bad_38 : decode cX12_bad 38 = .ok (.ireturn, 1) := by decide +kernel
theorem dX12_in_0 : decode cX12_in 0 = .ok (.iload_n 0, 1) := by decide +kernel
theorem dX12_in_1 : decode cX12_in 1 = .ok (.iload_n 1, 1) := by decide +kernel
theorem dX12_in_2 : decode cX12_in 2 = .ok (.if_icmp .lt 12, 3) := by decide +kernel
theorem dX12_in_5 : decode cX12_in 5 = .ok (.iload_n 0, 1) := by decide +kernel
theorem dX12_in_6 : decode cX12_in 6 = .ok (.iload_n 2, 1) := by decide +kernel
theorem dX12_in_7 : decode cX12_in 7 = .ok (.if_icmp .gt 7, 3) := by decide +kernel
theorem dX12_in_10 : decode cX12_in 10 = .ok (.iconst 1, 1) := by decide +kernel
theorem dX12_in_11 : decode cX12_in 11 = .ok (.goto 4, 3) := by decide +kernel
theorem dX12_in_14 : decode cX12_in 14 = .ok (.iconst 0, 1) := by decide +kernel
theorem dX12_in_15 : decode cX12_in 15 = .ok (.ireturn, 1) := by decide +kernel
theorem dX12_less_0 : decode cX12_less 0 = .ok (.iload_n 0, 1) := by decide +kernel
theorem dX12_less_1 : decode cX12_less 1 = .ok (.iload_n 1, 1) := by decide +kernel
theorem dX12_less_2 : decode cX12_less 2 = .ok (.if_icmp .ge 7, 3) := by decide +kernel
theorem dX12_less_5 : decode cX12_less 5 = .ok (.iload_n 0, 1) := by decide +kernel
theorem dX12_less_6 : decode cX12_less 6 = .ok (.goto 4, 3) := by decide +kernel
theorem dX12_less_9 : decode cX12_less 9 = .ok (.iload_n 1, 1) := by decide +kernel
theorem dX12_less_10 : decode cX12_less 10 = .ok (.ireturn, 1) := by decide +kernel
theorem dX12_more_0 : decode cX12_more 0 = .ok (.iload_n 0, 1) := by decide +kernel
theorem dX12_more_1 : decode cX12_more 1 = .ok (.iload_n 1, 1) := by decide +kernel
theorem dX12_more_2 : decode cX12_more 2 = .ok (.if_icmp .le 7, 3) := by decide +kernel
theorem dX12_more_5 : decode cX12_more 5 = .ok (.iload_n 0, 1) := by decide +kernel
theorem dX12_more_6 : decode cX12_more 6 = .ok (.goto 4, 3) := by decide +kernel
theorem dX12_more_9 : decode cX12_more 9 = .ok (.iload_n 1, 1) := by decide +kernel
theorem dX12_more_10 : decode cX12_more 10 = .ok (.ireturn, 1) := by decide +kernel
theorem dX12_has_0 : decode cX12_has 0 = .ok (.iload_n 0, 1) := by decide +kernel
theorem dX12_has_1 : decode cX12_has 1 = .ok (.iload_n 1, 1) := by decide +kernel
theorem dX12_has_2 : decode cX12_has 2 = .ok (.ishr, 1) := by decide +kernel
theorem dX12_has_3 : decode cX12_has 3 = .ok (.iconst 1, 1) := by decide +kernel
theorem dX12_has_4 : decode cX12_has 4 = .ok (.iand, 1) := by decide +kernel
theorem dX12_has_5 : decode cX12_has 5 = .ok (.iconst 1, 1) := by decide +kernel
theorem dX12_has_6 : decode cX12_has 6 = .ok (.if_icmp .ne 7, 3) := by decide +kernel
theorem dX12_has_9 : decode cX12_has 9 = .ok (.iconst 1, 1) := by decide +kernel
theorem dX12_has_10 : decode cX12_has 10 = .ok (.goto 4, 3) := by decide +kernel
theorem dX12_has_13 : decode cX12_has 13 = .ok (.iconst 0, 1) := by decide +kernel
theorem dX12_has_14 : decode cX12_has 14 = .ok (.ireturn, 1) := by decide +kernel
theorem dX12_feed_0 : decode cX12_feed 0 = .ok (.aload_n 0, 1) := by decide +kernel
theorem dX12_feed_1 : decode cX12_feed 1 = .ok (.iconst 0, 1) := by decide +kernel
theorem dX12_feed_2 : decode cX12_feed 2 = .ok (.putfield 116, 3) := by decide +kernel
theorem dX12_feed_5 : decode cX12_feed 5 = .ok (.aload_n 0, 1) := by decide +kernel
theorem dX12_feed_6 : decode cX12_feed 6 = .ok (.getfield 119, 3) := by decide +kernel
theorem dX12_feed_9 : decode cX12_feed 9 = .ok (.bipush 20, 2) := by decide +kernel
theorem dX12_feed_11 : decode cX12_feed 11 = .ok (.iadd, 1) := by decide +kernel
theorem dX12_feed_12 : decode cX12_feed 12 = .ok (.sipush 600, 3) := by decide +kernel
theorem dX12_feed_15 : decode cX12_feed 15 = .ok (.if_icmp .le 5, 3) := by decide +kernel
theorem dX12_feed_18 : decode cX12_feed 18 = .ok (.iconst (-1), 1) := by decide +kernel
theorem dX12_feed_19 : decode cX12_feed 19 = .ok (.ireturn, 1) := by decide +kernel
theorem dX12_feed_20 : decode cX12_feed 20 = .ok (.iconst 0, 1) := by decide +kernel
theorem dX12_feed_21 : decode cX12_feed 21 = .ok (.istore 6, 2) := by decide +kernel
theorem dX12_feed_23 : decode cX12_feed 23 = .ok (.iload 6, 2) := by decide +kernel
theorem dX12_feed_25 : decode cX12_feed 25 = .ok (.bipush 20, 2) := by decide +kernel
theorem dX12_feed_27 : decode cX12_feed 27 = .ok (.if_icmp .ge 93, 3) := by decide +kernel
theorem dX12_feed_30 : decode cX12_feed 30 = .ok (.iload 6, 2) := by decide +kernel
theorem dX12_feed_32 : decode cX12_feed 32 = .ok (.iconst 4, 1) := by decide +kernel
theorem dX12_feed_33 : decode cX12_feed 33 = .ok (.if_icmp .ge 7, 3) := by decide +kernel
theorem dX12_feed_36 : decode cX12_feed 36 = .ok (.iload_n 1, 1) := by decide +kernel
theorem dX12_feed_37 : decode cX12_feed 37 = .ok (.goto 39, 3) := by decide +kernel
theorem dX12_feed_40 : decode cX12_feed 40 = .ok (.iload 6, 2) := by decide +kernel
theorem dX12_feed_42 : decode cX12_feed 42 = .ok (.bipush 8, 2) := by decide +kernel
theorem dX12_feed_44 : decode cX12_feed 44 = .ok (.if_icmp .ge 7, 3) := by decide +kernel
theorem dX12_feed_47 : decode cX12_feed 47 = .ok (.iload_n 2, 1) := by decide +kernel
theorem dX12_feed_48 : decode cX12_feed 48 = .ok (.goto 28, 3) := by decide +kernel
theorem dX12_feed_51 : decode cX12_feed 51 = .ok (.iload 6, 2) := by decide +kernel
theorem dX12_feed_53 : decode cX12_feed 53 = .ok (.bipush 12, 2) := by decide +kernel
theorem dX12_feed_55 : decode cX12_feed 55 = .ok (.if_icmp .ge 7, 3) := by decide +kernel
theorem dX12_feed_58 : decode cX12_feed 58 = .ok (.iload_n 3, 1) := by decide +kernel
theorem dX12_feed_59 : decode cX12_feed 59 = .ok (.goto 17, 3) := by decide +kernel
theorem dX12_feed_62 : decode cX12_feed 62 = .ok (.iload 6, 2) := by decide +kernel
theorem dX12_feed_64 : decode cX12_feed 64 = .ok (.bipush 16, 2) := by decide +kernel
theorem dX12_feed_66 : decode cX12_feed 66 = .ok (.if_icmp .ge 8, 3) := by decide +kernel
theorem dX12_feed_69 : decode cX12_feed 69 = .ok (.iload 4, 2) := by decide +kernel
theorem dX12_feed_71 : decode cX12_feed 71 = .ok (.goto 5, 3) := by decide +kernel
theorem dX12_feed_74 : decode cX12_feed 74 = .ok (.iload 5, 2) := by decide +kernel
theorem dX12_feed_76 : decode cX12_feed 76 = .ok (.istore 7, 2) := by decide +kernel
theorem dX12_feed_78 : decode cX12_feed 78 = .ok (.aload_n 0, 1) := by decide +kernel
theorem dX12_feed_79 : decode cX12_feed 79 = .ok (.getfield 13, 3) := by decide +kernel
theorem dX12_feed_82 : decode cX12_feed 82 = .ok (.aload_n 0, 1) := by decide +kernel
theorem dX12_feed_83 : decode cX12_feed 83 = .ok (.getfield 119, 3) := by decide +kernel
theorem dX12_feed_86 : decode cX12_feed 86 = .ok (.iload 7, 2) := by decide +kernel
theorem dX12_feed_88 : decode cX12_feed 88 = .ok (.bipush 24, 2) := by decide +kernel
theorem dX12_feed_90 : decode cX12_feed 90 = .ok (.bipush 8, 2) := by decide +kernel
theorem dX12_feed_92 : decode cX12_feed 92 = .ok (.iload 6, 2) := by decide +kernel
theorem dX12_feed_94 : decode cX12_feed 94 = .ok (.iconst 4, 1) := by decide +kernel
theorem dX12_feed_95 : decode cX12_feed 95 = .ok (.irem, 1) := by decide +kernel
theorem dX12_feed_96 : decode cX12_feed 96 = .ok (.imul, 1) := by decide +kernel
theorem dX12_feed_97 : decode cX12_feed 97 = .ok (.isub, 1) := by decide +kernel
theorem dX12_feed_98 : decode cX12_feed 98 = .ok (.ishr, 1) := by decide +kernel
theorem dX12_feed_99 : decode cX12_feed 99 = .ok (.sipush 255, 3) := by decide +kernel
theorem dX12_feed_102 : decode cX12_feed 102 = .ok (.iand, 1) := by decide +kernel
theorem dX12_feed_103 : decode cX12_feed 103 = .ok (.iastore, 1) := by decide +kernel
theorem dX12_feed_104 : decode cX12_feed 104 = .ok (.aload_n 0, 1) := by decide +kernel
theorem dX12_feed_105 : decode cX12_feed 105 = .ok (.dup, 1) := by decide +kernel
theorem dX12_feed_106 : decode cX12_feed 106 = .ok (.getfield 119, 3) := by decide +kernel
theorem dX12_feed_109 : decode cX12_feed 109 = .ok (.iconst 1, 1) := by decide +kernel
theorem dX12_feed_110 : decode cX12_feed 110 = .ok (.iadd, 1) := by decide +kernel
theorem dX12_feed_111 : decode cX12_feed 111 = .ok (.putfield 119, 3) := by decide +kernel
theorem dX12_feed_114 : decode cX12_feed 114 = .ok (.iinc 6 1, 3) := by decide +kernel
theorem dX12_feed_117 : decode cX12_feed 117 = .ok (.goto (-94), 3) := by decide +kernel
theorem dX12_feed_120 : decode cX12_feed 120 = .ok (.aload_n 0, 1) := by decide +kernel
theorem dX12_feed_121 : decode cX12_feed 121 = .ok (.getfield 119, 3) := by decide +kernel
theorem dX12_feed_124 : decode cX12_feed 124 = .ok (.ireturn, 1) := by decide +kernel
theorem dX12_byteAt_0 : decode cX12_byteAt 0 = .ok (.iload_n 1, 1) := by decide +kernel
theorem dX12_byteAt_1 : decode cX12_byteAt 1 = .ok (.aload_n 0, 1) := by decide +kernel
theorem dX12_byteAt_2 : decode cX12_byteAt 2 = .ok (.getfield 122, 3) := by decide +kernel
theorem dX12_byteAt_5 : decode cX12_byteAt 5 = .ok (.if_icmp .lt 7, 3) := by decide +kernel
theorem dX12_byteAt_8 : decode cX12_byteAt 8 = .ok (.iconst (-1), 1) := by decide +kernel
theorem dX12_byteAt_9 : decode cX12_byteAt 9 = .ok (.goto 9, 3) := by decide +kernel
theorem dX12_byteAt_12 : decode cX12_byteAt 12 = .ok (.aload_n 0, 1) := by decide +kernel
theorem dX12_byteAt_13 : decode cX12_byteAt 13 = .ok (.getfield 13, 3) := by decide +kernel
theorem dX12_byteAt_16 : decode cX12_byteAt 16 = .ok (.iload_n 1, 1) := by decide +kernel
theorem dX12_byteAt_17 : decode cX12_byteAt 17 = .ok (.iaload, 1) := by decide +kernel
theorem dX12_byteAt_18 : decode cX12_byteAt 18 = .ok (.ireturn, 1) := by decide +kernel
theorem dX12_blanks_0 : decode cX12_blanks 0 = .ok (.aload_n 0, 1) := by decide +kernel
theorem dX12_blanks_1 : decode cX12_blanks 1 = .ok (.aload_n 0, 1) := by decide +kernel
theorem dX12_blanks_2 : decode cX12_blanks 2 = .ok (.getfield 125, 3) := by decide +kernel
theorem dX12_blanks_5 : decode cX12_blanks 5 = .ok (.invokevirtual 128, 3) := by decide +kernel
theorem dX12_blanks_8 : decode cX12_blanks 8 = .ok (.bipush 32, 2) := by decide +kernel
theorem dX12_blanks_10 : decode cX12_blanks 10 = .ok (.if_icmp .ne 16, 3) := by decide +kernel
theorem dX12_blanks_13 : decode cX12_blanks 13 = .ok (.aload_n 0, 1) := by decide +kernel
theorem dX12_blanks_14 : decode cX12_blanks 14 = .ok (.dup, 1) := by decide +kernel
theorem dX12_blanks_15 : decode cX12_blanks 15 = .ok (.getfield 125, 3) := by decide +kernel
theorem dX12_blanks_18 : decode cX12_blanks 18 = .ok (.iconst 1, 1) := by decide +kernel
theorem dX12_blanks_19 : decode cX12_blanks 19 = .ok (.iadd, 1) := by decide +kernel
theorem dX12_blanks_20 : decode cX12_blanks 20 = .ok (.putfield 125, 3) := by decide +kernel
theorem dX12_blanks_23 : decode cX12_blanks 23 = .ok (.goto (-23), 3) := by decide +kernel
theorem dX12_blanks_26 : decode cX12_blanks 26 = .ok (.return_, 1) := by decide +kernel
theorem dX12_wrong_0 : decode cX12_wrong 0 = .ok (.aload_n 0, 1) := by decide +kernel
theorem dX12_wrong_1 : decode cX12_wrong 1 = .ok (.getfield 132, 3) := by decide +kernel
theorem dX12_wrong_4 : decode cX12_wrong 4 = .ok (.ifCond .ne 13, 3) := by decide +kernel
theorem dX12_wrong_7 : decode cX12_wrong 7 = .ok (.aload_n 0, 1) := by decide +kernel
theorem dX12_wrong_8 : decode cX12_wrong 8 = .ok (.iload_n 1, 1) := by decide +kernel
theorem dX12_wrong_9 : decode cX12_wrong 9 = .ok (.putfield 132, 3) := by decide +kernel
theorem dX12_wrong_12 : decode cX12_wrong 12 = .ok (.aload_n 0, 1) := by decide +kernel
theorem dX12_wrong_13 : decode cX12_wrong 13 = .ok (.iload_n 2, 1) := by decide +kernel
theorem dX12_wrong_14 : decode cX12_wrong 14 = .ok (.putfield 135, 3) := by decide +kernel
theorem dX12_wrong_17 : decode cX12_wrong 17 = .ok (.return_, 1) := by decide +kernel
theorem dX12_isDigit_0 : decode cX12_isDigit 0 = .ok (.iload_n 0, 1) := by decide +kernel
theorem dX12_isDigit_1 : decode cX12_isDigit 1 = .ok (.bipush 48, 2) := by decide +kernel
theorem dX12_isDigit_3 : decode cX12_isDigit 3 = .ok (.if_icmp .lt 13, 3) := by decide +kernel
theorem dX12_isDigit_6 : decode cX12_isDigit 6 = .ok (.iload_n 0, 1) := by decide +kernel
theorem dX12_isDigit_7 : decode cX12_isDigit 7 = .ok (.bipush 57, 2) := by decide +kernel
theorem dX12_isDigit_9 : decode cX12_isDigit 9 = .ok (.if_icmp .gt 7, 3) := by decide +kernel
theorem dX12_isDigit_12 : decode cX12_isDigit 12 = .ok (.iconst 1, 1) := by decide +kernel
theorem dX12_isDigit_13 : decode cX12_isDigit 13 = .ok (.goto 4, 3) := by decide +kernel
theorem dX12_isDigit_16 : decode cX12_isDigit 16 = .ok (.iconst 0, 1) := by decide +kernel
theorem dX12_isDigit_17 : decode cX12_isDigit 17 = .ok (.ireturn, 1) := by decide +kernel
theorem dX12_isSmall_0 : decode cX12_isSmall 0 = .ok (.iload_n 0, 1) := by decide +kernel
theorem dX12_isSmall_1 : decode cX12_isSmall 1 = .ok (.bipush 97, 2) := by decide +kernel
theorem dX12_isSmall_3 : decode cX12_isSmall 3 = .ok (.if_icmp .lt 13, 3) := by decide +kernel
theorem dX12_isSmall_6 : decode cX12_isSmall 6 = .ok (.iload_n 0, 1) := by decide +kernel
theorem dX12_isSmall_7 : decode cX12_isSmall 7 = .ok (.bipush 122, 2) := by decide +kernel
theorem dX12_isSmall_9 : decode cX12_isSmall 9 = .ok (.if_icmp .gt 7, 3) := by decide +kernel
theorem dX12_isSmall_12 : decode cX12_isSmall 12 = .ok (.iconst 1, 1) := by decide +kernel
theorem dX12_isSmall_13 : decode cX12_isSmall 13 = .ok (.goto 4, 3) := by decide +kernel
theorem dX12_isSmall_16 : decode cX12_isSmall 16 = .ok (.iconst 0, 1) := by decide +kernel
theorem dX12_isSmall_17 : decode cX12_isSmall 17 = .ok (.ireturn, 1) := by decide +kernel
theorem dX12_number_0 : decode cX12_number 0 = .ok (.aload_n 0, 1) := by decide +kernel
theorem dX12_number_1 : decode cX12_number 1 = .ok (.getfield 132, 3) := by decide +kernel
theorem dX12_number_4 : decode cX12_number 4 = .ok (.ifCond .eq 5, 3) := by decide +kernel
theorem dX12_number_7 : decode cX12_number 7 = .ok (.iconst 0, 1) := by decide +kernel
theorem dX12_number_8 : decode cX12_number 8 = .ok (.ireturn, 1) := by decide +kernel
theorem dX12_number_9 : decode cX12_number 9 = .ok (.aload_n 0, 1) := by decide +kernel
theorem dX12_number_10 : decode cX12_number 10 = .ok (.invokevirtual 138, 3) := by decide +kernel
theorem dX12_number_13 : decode cX12_number 13 = .ok (.aload_n 0, 1) := by decide +kernel
theorem dX12_number_14 : decode cX12_number 14 = .ok (.getfield 125, 3) := by decide +kernel
theorem dX12_number_17 : decode cX12_number 17 = .ok (.istore_n 3, 1) := by decide +kernel
theorem dX12_number_18 : decode cX12_number 18 = .ok (.iconst 0, 1) := by decide +kernel
theorem dX12_number_19 : decode cX12_number 19 = .ok (.istore 4, 2) := by decide +kernel
theorem dX12_number_21 : decode cX12_number 21 = .ok (.aload_n 0, 1) := by decide +kernel
theorem dX12_number_22 : decode cX12_number 22 = .ok (.aload_n 0, 1) := by decide +kernel
theorem dX12_number_23 : decode cX12_number 23 = .ok (.getfield 125, 3) := by decide +kernel
theorem dX12_number_26 : decode cX12_number 26 = .ok (.invokevirtual 128, 3) := by decide +kernel
theorem dX12_number_29 : decode cX12_number 29 = .ok (.invokestatic 141, 3) := by decide +kernel
theorem dX12_number_32 : decode cX12_number 32 = .ok (.ifCond .ne 12, 3) := by decide +kernel
theorem dX12_number_35 : decode cX12_number 35 = .ok (.aload_n 0, 1) := by decide +kernel
theorem dX12_number_36 : decode cX12_number 36 = .ok (.iconst 1, 1) := by decide +kernel
theorem dX12_number_37 : decode cX12_number 37 = .ok (.aload_n 0, 1) := by decide +kernel
theorem dX12_number_38 : decode cX12_number 38 = .ok (.getfield 125, 3) := by decide +kernel
theorem dX12_number_41 : decode cX12_number 41 = .ok (.invokevirtual 145, 3) := by decide +kernel
theorem dX12_number_44 : decode cX12_number 44 = .ok (.aload_n 0, 1) := by decide +kernel
theorem dX12_number_45 : decode cX12_number 45 = .ok (.aload_n 0, 1) := by decide +kernel
theorem dX12_number_46 : decode cX12_number 46 = .ok (.getfield 125, 3) := by decide +kernel
theorem dX12_number_49 : decode cX12_number 49 = .ok (.invokevirtual 128, 3) := by decide +kernel
theorem dX12_number_52 : decode cX12_number 52 = .ok (.invokestatic 141, 3) := by decide +kernel
theorem dX12_number_55 : decode cX12_number 55 = .ok (.ifCond .eq 51, 3) := by decide +kernel
theorem dX12_number_58 : decode cX12_number 58 = .ok (.bipush 10, 2) := by decide +kernel
theorem dX12_number_60 : decode cX12_number 60 = .ok (.iload 4, 2) := by decide +kernel
theorem dX12_number_62 : decode cX12_number 62 = .ok (.imul, 1) := by decide +kernel
theorem dX12_number_63 : decode cX12_number 63 = .ok (.aload_n 0, 1) := by decide +kernel
theorem dX12_number_64 : decode cX12_number 64 = .ok (.aload_n 0, 1) := by decide +kernel
theorem dX12_number_65 : decode cX12_number 65 = .ok (.getfield 125, 3) := by decide +kernel
theorem dX12_number_68 : decode cX12_number 68 = .ok (.invokevirtual 128, 3) := by decide +kernel
theorem dX12_number_71 : decode cX12_number 71 = .ok (.iadd, 1) := by decide +kernel
theorem dX12_number_72 : decode cX12_number 72 = .ok (.bipush 48, 2) := by decide +kernel
theorem dX12_number_74 : decode cX12_number 74 = .ok (.isub, 1) := by decide +kernel
theorem dX12_number_75 : decode cX12_number 75 = .ok (.istore 4, 2) := by decide +kernel
theorem dX12_number_77 : decode cX12_number 77 = .ok (.iload 4, 2) := by decide +kernel
theorem dX12_number_79 : decode cX12_number 79 = .ok (.ldc 149, 2) := by decide +kernel
theorem dX12_number_81 : decode cX12_number 81 = .ok (.if_icmp .le 8, 3) := by decide +kernel
theorem dX12_number_84 : decode cX12_number 84 = .ok (.ldc 149, 2) := by decide +kernel
theorem dX12_number_86 : decode cX12_number 86 = .ok (.goto 5, 3) := by decide +kernel
theorem dX12_number_89 : decode cX12_number 89 = .ok (.iload 4, 2) := by decide +kernel
theorem dX12_number_91 : decode cX12_number 91 = .ok (.istore 4, 2) := by decide +kernel
theorem dX12_number_93 : decode cX12_number 93 = .ok (.aload_n 0, 1) := by decide +kernel
theorem dX12_number_94 : decode cX12_number 94 = .ok (.dup, 1) := by decide +kernel
theorem dX12_number_95 : decode cX12_number 95 = .ok (.getfield 125, 3) := by decide +kernel
theorem dX12_number_98 : decode cX12_number 98 = .ok (.iconst 1, 1) := by decide +kernel
theorem dX12_number_99 : decode cX12_number 99 = .ok (.iadd, 1) := by decide +kernel
theorem dX12_number_100 : decode cX12_number 100 = .ok (.putfield 125, 3) := by decide +kernel
theorem dX12_number_103 : decode cX12_number 103 = .ok (.goto (-59), 3) := by decide +kernel
theorem dX12_number_106 : decode cX12_number 106 = .ok (.iload 4, 2) := by decide +kernel
theorem dX12_number_108 : decode cX12_number 108 = .ok (.iload_n 1, 1) := by decide +kernel
theorem dX12_number_109 : decode cX12_number 109 = .ok (.iload_n 2, 1) := by decide +kernel
theorem dX12_number_110 : decode cX12_number 110 = .ok (.invokestatic 150, 3) := by decide +kernel
theorem dX12_number_113 : decode cX12_number 113 = .ok (.ifCond .ne 9, 3) := by decide +kernel
theorem dX12_number_116 : decode cX12_number 116 = .ok (.aload_n 0, 1) := by decide +kernel
theorem dX12_number_117 : decode cX12_number 117 = .ok (.iconst 2, 1) := by decide +kernel
theorem dX12_number_118 : decode cX12_number 118 = .ok (.iload_n 3, 1) := by decide +kernel
theorem dX12_number_119 : decode cX12_number 119 = .ok (.invokevirtual 145, 3) := by decide +kernel
theorem dX12_number_122 : decode cX12_number 122 = .ok (.aload_n 0, 1) := by decide +kernel
theorem dX12_number_123 : decode cX12_number 123 = .ok (.getfield 132, 3) := by decide +kernel
theorem dX12_number_126 : decode cX12_number 126 = .ok (.ifCond .ne 8, 3) := by decide +kernel
theorem dX12_number_129 : decode cX12_number 129 = .ok (.iload 4, 2) := by decide +kernel
theorem dX12_number_131 : decode cX12_number 131 = .ok (.goto 4, 3) := by decide +kernel
theorem dX12_number_134 : decode cX12_number 134 = .ok (.iconst 0, 1) := by decide +kernel
theorem dX12_number_135 : decode cX12_number 135 = .ok (.ireturn, 1) := by decide +kernel
theorem dX12_wordHere_0 : decode cX12_wordHere 0 = .ok (.aload_n 0, 1) := by decide +kernel
theorem dX12_wordHere_1 : decode cX12_wordHere 1 = .ok (.invokevirtual 138, 3) := by decide +kernel
theorem dX12_wordHere_4 : decode cX12_wordHere 4 = .ok (.iconst 0, 1) := by decide +kernel
theorem dX12_wordHere_5 : decode cX12_wordHere 5 = .ok (.istore_n 1, 1) := by decide +kernel
theorem dX12_wordHere_6 : decode cX12_wordHere 6 = .ok (.iconst 0, 1) := by decide +kernel
theorem dX12_wordHere_7 : decode cX12_wordHere 7 = .ok (.istore_n 2, 1) := by decide +kernel
theorem dX12_wordHere_8 : decode cX12_wordHere 8 = .ok (.aload_n 0, 1) := by decide +kernel
theorem dX12_wordHere_9 : decode cX12_wordHere 9 = .ok (.aload_n 0, 1) := by decide +kernel
theorem dX12_wordHere_10 : decode cX12_wordHere 10 = .ok (.getfield 125, 3) := by decide +kernel
theorem dX12_wordHere_13 : decode cX12_wordHere 13 = .ok (.iload_n 2, 1) := by decide +kernel
theorem dX12_wordHere_14 : decode cX12_wordHere 14 = .ok (.iadd, 1) := by decide +kernel
theorem dX12_wordHere_15 : decode cX12_wordHere 15 = .ok (.invokevirtual 128, 3) := by decide +kernel
theorem dX12_wordHere_18 : decode cX12_wordHere 18 = .ok (.invokestatic 154, 3) := by decide +kernel
theorem dX12_wordHere_21 : decode cX12_wordHere 21 = .ok (.ifCond .eq 40, 3) := by decide +kernel
theorem dX12_wordHere_24 : decode cX12_wordHere 24 = .ok (.iload_n 2, 1) := by decide +kernel
theorem dX12_wordHere_25 : decode cX12_wordHere 25 = .ok (.bipush 6, 2) := by decide +kernel
theorem dX12_wordHere_27 : decode cX12_wordHere 27 = .ok (.if_icmp .ge 26, 3) := by decide +kernel
theorem dX12_wordHere_30 : decode cX12_wordHere 30 = .ok (.bipush 27, 2) := by decide +kernel
theorem dX12_wordHere_32 : decode cX12_wordHere 32 = .ok (.iload_n 1, 1) := by decide +kernel
theorem dX12_wordHere_33 : decode cX12_wordHere 33 = .ok (.imul, 1) := by decide +kernel
theorem dX12_wordHere_34 : decode cX12_wordHere 34 = .ok (.aload_n 0, 1) := by decide +kernel
theorem dX12_wordHere_35 : decode cX12_wordHere 35 = .ok (.aload_n 0, 1) := by decide +kernel
theorem dX12_wordHere_36 : decode cX12_wordHere 36 = .ok (.getfield 125, 3) := by decide +kernel
theorem dX12_wordHere_39 : decode cX12_wordHere 39 = .ok (.iload_n 2, 1) := by decide +kernel
theorem dX12_wordHere_40 : decode cX12_wordHere 40 = .ok (.iadd, 1) := by decide +kernel
theorem dX12_wordHere_41 : decode cX12_wordHere 41 = .ok (.invokevirtual 128, 3) := by decide +kernel
theorem dX12_wordHere_44 : decode cX12_wordHere 44 = .ok (.iadd, 1) := by decide +kernel
theorem dX12_wordHere_45 : decode cX12_wordHere 45 = .ok (.bipush 97, 2) := by decide +kernel
theorem dX12_wordHere_47 : decode cX12_wordHere 47 = .ok (.isub, 1) := by decide +kernel
theorem dX12_wordHere_48 : decode cX12_wordHere 48 = .ok (.iconst 1, 1) := by decide +kernel
theorem dX12_wordHere_49 : decode cX12_wordHere 49 = .ok (.iadd, 1) := by decide +kernel
theorem dX12_wordHere_50 : decode cX12_wordHere 50 = .ok (.goto 4, 3) := by decide +kernel
theorem dX12_wordHere_53 : decode cX12_wordHere 53 = .ok (.iload_n 1, 1) := by decide +kernel
theorem dX12_wordHere_54 : decode cX12_wordHere 54 = .ok (.istore_n 1, 1) := by decide +kernel
theorem dX12_wordHere_55 : decode cX12_wordHere 55 = .ok (.iinc 2 1, 3) := by decide +kernel
theorem dX12_wordHere_58 : decode cX12_wordHere 58 = .ok (.goto (-50), 3) := by decide +kernel
theorem dX12_wordHere_61 : decode cX12_wordHere 61 = .ok (.iload_n 2, 1) := by decide +kernel
theorem dX12_wordHere_62 : decode cX12_wordHere 62 = .ok (.bipush 6, 2) := by decide +kernel
theorem dX12_wordHere_64 : decode cX12_wordHere 64 = .ok (.if_icmp .le 7, 3) := by decide +kernel
theorem dX12_wordHere_67 : decode cX12_wordHere 67 = .ok (.iconst (-1), 1) := by decide +kernel
theorem dX12_wordHere_68 : decode cX12_wordHere 68 = .ok (.goto 4, 3) := by decide +kernel
theorem dX12_wordHere_71 : decode cX12_wordHere 71 = .ok (.iload_n 1, 1) := by decide +kernel
theorem dX12_wordHere_72 : decode cX12_wordHere 72 = .ok (.ireturn, 1) := by decide +kernel
theorem dX12_six_0 : decode cX12_six 0 = .ok (.bipush 27, 2) := by decide +kernel
theorem dX12_six_2 : decode cX12_six 2 = .ok (.bipush 27, 2) := by decide +kernel
theorem dX12_six_4 : decode cX12_six 4 = .ok (.iload_n 0, 1) := by decide +kernel
theorem dX12_six_5 : decode cX12_six 5 = .ok (.imul, 1) := by decide +kernel
theorem dX12_six_6 : decode cX12_six 6 = .ok (.iload_n 1, 1) := by decide +kernel
theorem dX12_six_7 : decode cX12_six 7 = .ok (.iadd, 1) := by decide +kernel
theorem dX12_six_8 : decode cX12_six 8 = .ok (.imul, 1) := by decide +kernel
theorem dX12_six_9 : decode cX12_six 9 = .ok (.iload_n 2, 1) := by decide +kernel
theorem dX12_six_10 : decode cX12_six 10 = .ok (.iadd, 1) := by decide +kernel
theorem dX12_six_11 : decode cX12_six 11 = .ok (.istore 6, 2) := by decide +kernel
theorem dX12_six_13 : decode cX12_six 13 = .ok (.iload_n 3, 1) := by decide +kernel
theorem dX12_six_14 : decode cX12_six 14 = .ok (.ifCond .ne 8, 3) := by decide +kernel
theorem dX12_six_17 : decode cX12_six 17 = .ok (.iload 6, 2) := by decide +kernel
theorem dX12_six_19 : decode cX12_six 19 = .ok (.goto 10, 3) := by decide +kernel
theorem dX12_six_22 : decode cX12_six 22 = .ok (.bipush 27, 2) := by decide +kernel
theorem dX12_six_24 : decode cX12_six 24 = .ok (.iload 6, 2) := by decide +kernel
theorem dX12_six_26 : decode cX12_six 26 = .ok (.imul, 1) := by decide +kernel
theorem dX12_six_27 : decode cX12_six 27 = .ok (.iload_n 3, 1) := by decide +kernel
theorem dX12_six_28 : decode cX12_six 28 = .ok (.iadd, 1) := by decide +kernel
theorem dX12_six_29 : decode cX12_six 29 = .ok (.istore 6, 2) := by decide +kernel
theorem dX12_six_31 : decode cX12_six 31 = .ok (.iload 4, 2) := by decide +kernel
theorem dX12_six_33 : decode cX12_six 33 = .ok (.ifCond .ne 8, 3) := by decide +kernel
theorem dX12_six_36 : decode cX12_six 36 = .ok (.iload 6, 2) := by decide +kernel
theorem dX12_six_38 : decode cX12_six 38 = .ok (.goto 11, 3) := by decide +kernel
theorem dX12_six_41 : decode cX12_six 41 = .ok (.bipush 27, 2) := by decide +kernel
theorem dX12_six_43 : decode cX12_six 43 = .ok (.iload 6, 2) := by decide +kernel
theorem dX12_six_45 : decode cX12_six 45 = .ok (.imul, 1) := by decide +kernel
theorem dX12_six_46 : decode cX12_six 46 = .ok (.iload 4, 2) := by decide +kernel
theorem dX12_six_48 : decode cX12_six 48 = .ok (.iadd, 1) := by decide +kernel
theorem dX12_six_49 : decode cX12_six 49 = .ok (.istore 6, 2) := by decide +kernel
theorem dX12_six_51 : decode cX12_six 51 = .ok (.iload 5, 2) := by decide +kernel
theorem dX12_six_53 : decode cX12_six 53 = .ok (.ifCond .ne 8, 3) := by decide +kernel
theorem dX12_six_56 : decode cX12_six 56 = .ok (.iload 6, 2) := by decide +kernel
theorem dX12_six_58 : decode cX12_six 58 = .ok (.goto 11, 3) := by decide +kernel
theorem dX12_six_61 : decode cX12_six 61 = .ok (.bipush 27, 2) := by decide +kernel
theorem dX12_six_63 : decode cX12_six 63 = .ok (.iload 6, 2) := by decide +kernel
theorem dX12_six_65 : decode cX12_six 65 = .ok (.imul, 1) := by decide +kernel
theorem dX12_six_66 : decode cX12_six 66 = .ok (.iload 5, 2) := by decide +kernel
theorem dX12_six_68 : decode cX12_six 68 = .ok (.iadd, 1) := by decide +kernel
theorem dX12_six_69 : decode cX12_six 69 = .ok (.ireturn, 1) := by decide +kernel
theorem dX12_isWord_0 : decode cX12_isWord 0 = .ok (.aload_n 0, 1) := by decide +kernel
theorem dX12_isWord_1 : decode cX12_isWord 1 = .ok (.getfield 132, 3) := by decide +kernel
theorem dX12_isWord_4 : decode cX12_isWord 4 = .ok (.ifCond .ne 26, 3) := by decide +kernel
theorem dX12_isWord_7 : decode cX12_isWord 7 = .ok (.aload_n 0, 1) := by decide +kernel
theorem dX12_isWord_8 : decode cX12_isWord 8 = .ok (.invokevirtual 157, 3) := by decide +kernel
theorem dX12_isWord_11 : decode cX12_isWord 11 = .ok (.iload_n 1, 1) := by decide +kernel
theorem dX12_isWord_12 : decode cX12_isWord 12 = .ok (.iload_n 2, 1) := by decide +kernel
theorem dX12_isWord_13 : decode cX12_isWord 13 = .ok (.iload_n 3, 1) := by decide +kernel
theorem dX12_isWord_14 : decode cX12_isWord 14 = .ok (.iload 4, 2) := by decide +kernel
theorem dX12_isWord_16 : decode cX12_isWord 16 = .ok (.iload 5, 2) := by decide +kernel
theorem dX12_isWord_18 : decode cX12_isWord 18 = .ok (.iload 6, 2) := by decide +kernel
theorem dX12_isWord_20 : decode cX12_isWord 20 = .ok (.invokestatic 161, 3) := by decide +kernel
theorem dX12_isWord_23 : decode cX12_isWord 23 = .ok (.if_icmp .ne 7, 3) := by decide +kernel
theorem dX12_isWord_26 : decode cX12_isWord 26 = .ok (.iconst 1, 1) := by decide +kernel
theorem dX12_isWord_27 : decode cX12_isWord 27 = .ok (.goto 4, 3) := by decide +kernel
theorem dX12_isWord_30 : decode cX12_isWord 30 = .ok (.iconst 0, 1) := by decide +kernel
theorem dX12_isWord_31 : decode cX12_isWord 31 = .ok (.ireturn, 1) := by decide +kernel
theorem dX12_skipWord_0 : decode cX12_skipWord 0 = .ok (.aload_n 0, 1) := by decide +kernel
theorem dX12_skipWord_1 : decode cX12_skipWord 1 = .ok (.aload_n 0, 1) := by decide +kernel
theorem dX12_skipWord_2 : decode cX12_skipWord 2 = .ok (.getfield 125, 3) := by decide +kernel
theorem dX12_skipWord_5 : decode cX12_skipWord 5 = .ok (.invokevirtual 128, 3) := by decide +kernel
theorem dX12_skipWord_8 : decode cX12_skipWord 8 = .ok (.invokestatic 154, 3) := by decide +kernel
theorem dX12_skipWord_11 : decode cX12_skipWord 11 = .ok (.ifCond .eq 16, 3) := by decide +kernel
theorem dX12_skipWord_14 : decode cX12_skipWord 14 = .ok (.aload_n 0, 1) := by decide +kernel
theorem dX12_skipWord_15 : decode cX12_skipWord 15 = .ok (.dup, 1) := by decide +kernel
theorem dX12_skipWord_16 : decode cX12_skipWord 16 = .ok (.getfield 125, 3) := by decide +kernel
theorem dX12_skipWord_19 : decode cX12_skipWord 19 = .ok (.iconst 1, 1) := by decide +kernel
theorem dX12_skipWord_20 : decode cX12_skipWord 20 = .ok (.iadd, 1) := by decide +kernel
theorem dX12_skipWord_21 : decode cX12_skipWord 21 = .ok (.putfield 125, 3) := by decide +kernel
theorem dX12_skipWord_24 : decode cX12_skipWord 24 = .ok (.goto (-24), 3) := by decide +kernel
theorem dX12_skipWord_27 : decode cX12_skipWord 27 = .ok (.return_, 1) := by decide +kernel
theorem dX12_takes_0 : decode cX12_takes 0 = .ok (.aload_n 0, 1) := by decide +kernel
theorem dX12_takes_1 : decode cX12_takes 1 = .ok (.iload_n 1, 1) := by decide +kernel
theorem dX12_takes_2 : decode cX12_takes 2 = .ok (.iload_n 2, 1) := by decide +kernel
theorem dX12_takes_3 : decode cX12_takes 3 = .ok (.iload_n 3, 1) := by decide +kernel
theorem dX12_takes_4 : decode cX12_takes 4 = .ok (.iload 4, 2) := by decide +kernel
theorem dX12_takes_6 : decode cX12_takes 6 = .ok (.iload 5, 2) := by decide +kernel
theorem dX12_takes_8 : decode cX12_takes 8 = .ok (.iload 6, 2) := by decide +kernel
theorem dX12_takes_10 : decode cX12_takes 10 = .ok (.invokevirtual 165, 3) := by decide +kernel
theorem dX12_takes_13 : decode cX12_takes 13 = .ok (.istore 7, 2) := by decide +kernel
theorem dX12_takes_15 : decode cX12_takes 15 = .ok (.iload 7, 2) := by decide +kernel
theorem dX12_takes_17 : decode cX12_takes 17 = .ok (.ifCond .eq 7, 3) := by decide +kernel
theorem dX12_takes_20 : decode cX12_takes 20 = .ok (.aload_n 0, 1) := by decide +kernel
theorem dX12_takes_21 : decode cX12_takes 21 = .ok (.invokevirtual 169, 3) := by decide +kernel
theorem dX12_takes_24 : decode cX12_takes 24 = .ok (.iload 7, 2) := by decide +kernel
theorem dX12_takes_26 : decode cX12_takes 26 = .ok (.ireturn, 1) := by decide +kernel
theorem dX12_sign_0 : decode cX12_sign 0 = .ok (.aload_n 0, 1) := by decide +kernel
theorem dX12_sign_1 : decode cX12_sign 1 = .ok (.getfield 132, 3) := by decide +kernel
theorem dX12_sign_4 : decode cX12_sign 4 = .ok (.ifCond .eq 4, 3) := by decide +kernel
theorem dX12_sign_7 : decode cX12_sign 7 = .ok (.return_, 1) := by decide +kernel
theorem dX12_sign_8 : decode cX12_sign 8 = .ok (.aload_n 0, 1) := by decide +kernel
theorem dX12_sign_9 : decode cX12_sign 9 = .ok (.invokevirtual 138, 3) := by decide +kernel
theorem dX12_sign_12 : decode cX12_sign 12 = .ok (.aload_n 0, 1) := by decide +kernel
theorem dX12_sign_13 : decode cX12_sign 13 = .ok (.aload_n 0, 1) := by decide +kernel
theorem dX12_sign_14 : decode cX12_sign 14 = .ok (.getfield 125, 3) := by decide +kernel
theorem dX12_sign_17 : decode cX12_sign 17 = .ok (.invokevirtual 128, 3) := by decide +kernel
theorem dX12_sign_20 : decode cX12_sign 20 = .ok (.iload_n 1, 1) := by decide +kernel
theorem dX12_sign_21 : decode cX12_sign 21 = .ok (.if_icmp .ne 16, 3) := by decide +kernel
theorem dX12_sign_24 : decode cX12_sign 24 = .ok (.aload_n 0, 1) := by decide +kernel
theorem dX12_sign_25 : decode cX12_sign 25 = .ok (.dup, 1) := by decide +kernel
theorem dX12_sign_26 : decode cX12_sign 26 = .ok (.getfield 125, 3) := by decide +kernel
theorem dX12_sign_29 : decode cX12_sign 29 = .ok (.iconst 1, 1) := by decide +kernel
theorem dX12_sign_30 : decode cX12_sign 30 = .ok (.iadd, 1) := by decide +kernel
theorem dX12_sign_31 : decode cX12_sign 31 = .ok (.putfield 125, 3) := by decide +kernel
theorem dX12_sign_34 : decode cX12_sign 34 = .ok (.goto 12, 3) := by decide +kernel
theorem dX12_sign_37 : decode cX12_sign 37 = .ok (.aload_n 0, 1) := by decide +kernel
theorem dX12_sign_38 : decode cX12_sign 38 = .ok (.iconst 1, 1) := by decide +kernel
theorem dX12_sign_39 : decode cX12_sign 39 = .ok (.aload_n 0, 1) := by decide +kernel
theorem dX12_sign_40 : decode cX12_sign 40 = .ok (.getfield 125, 3) := by decide +kernel
theorem dX12_sign_43 : decode cX12_sign 43 = .ok (.invokevirtual 145, 3) := by decide +kernel
theorem dX12_sign_46 : decode cX12_sign 46 = .ok (.return_, 1) := by decide +kernel
theorem dX12_takesSign_0 : decode cX12_takesSign 0 = .ok (.aload_n 0, 1) := by decide +kernel
theorem dX12_takesSign_1 : decode cX12_takesSign 1 = .ok (.getfield 132, 3) := by decide +kernel
theorem dX12_takesSign_4 : decode cX12_takesSign 4 = .ok (.ifCond .eq 5, 3) := by decide +kernel
theorem dX12_takesSign_7 : decode cX12_takesSign 7 = .ok (.iconst 0, 1) := by decide +kernel
theorem dX12_takesSign_8 : decode cX12_takesSign 8 = .ok (.ireturn, 1) := by decide +kernel
theorem dX12_takesSign_9 : decode cX12_takesSign 9 = .ok (.aload_n 0, 1) := by decide +kernel
theorem dX12_takesSign_10 : decode cX12_takesSign 10 = .ok (.invokevirtual 138, 3) := by decide +kernel
theorem dX12_takesSign_13 : decode cX12_takesSign 13 = .ok (.aload_n 0, 1) := by decide +kernel
theorem dX12_takesSign_14 : decode cX12_takesSign 14 = .ok (.aload_n 0, 1) := by decide +kernel
theorem dX12_takesSign_15 : decode cX12_takesSign 15 = .ok (.getfield 125, 3) := by decide +kernel
theorem dX12_takesSign_18 : decode cX12_takesSign 18 = .ok (.invokevirtual 128, 3) := by decide +kernel
theorem dX12_takesSign_21 : decode cX12_takesSign 21 = .ok (.iload_n 1, 1) := by decide +kernel
theorem dX12_takesSign_22 : decode cX12_takesSign 22 = .ok (.if_icmp .ne 7, 3) := by decide +kernel
theorem dX12_takesSign_25 : decode cX12_takesSign 25 = .ok (.iconst 1, 1) := by decide +kernel
theorem dX12_takesSign_26 : decode cX12_takesSign 26 = .ok (.goto 4, 3) := by decide +kernel
theorem dX12_takesSign_29 : decode cX12_takesSign 29 = .ok (.iconst 0, 1) := by decide +kernel
theorem dX12_takesSign_30 : decode cX12_takesSign 30 = .ok (.istore_n 2, 1) := by decide +kernel
theorem dX12_takesSign_31 : decode cX12_takesSign 31 = .ok (.iload_n 2, 1) := by decide +kernel
theorem dX12_takesSign_32 : decode cX12_takesSign 32 = .ok (.ifCond .eq 13, 3) := by decide +kernel
theorem dX12_takesSign_35 : decode cX12_takesSign 35 = .ok (.aload_n 0, 1) := by decide +kernel
theorem dX12_takesSign_36 : decode cX12_takesSign 36 = .ok (.dup, 1) := by decide +kernel
theorem dX12_takesSign_37 : decode cX12_takesSign 37 = .ok (.getfield 125, 3) := by decide +kernel
theorem dX12_takesSign_40 : decode cX12_takesSign 40 = .ok (.iconst 1, 1) := by decide +kernel
theorem dX12_takesSign_41 : decode cX12_takesSign 41 = .ok (.iadd, 1) := by decide +kernel
theorem dX12_takesSign_42 : decode cX12_takesSign 42 = .ok (.putfield 125, 3) := by decide +kernel
theorem dX12_takesSign_45 : decode cX12_takesSign 45 = .ok (.iload_n 2, 1) := by decide +kernel
theorem dX12_takesSign_46 : decode cX12_takesSign 46 = .ok (.ireturn, 1) := by decide +kernel
theorem dX12_starts_0 : decode cX12_starts 0 = .ok (.aload_n 0, 1) := by decide +kernel
theorem dX12_starts_1 : decode cX12_starts 1 = .ok (.iconst 0, 1) := by decide +kernel
theorem dX12_starts_2 : decode cX12_starts 2 = .ok (.putfield 119, 3) := by decide +kernel
theorem dX12_starts_5 : decode cX12_starts 5 = .ok (.aload_n 0, 1) := by decide +kernel
theorem dX12_starts_6 : decode cX12_starts 6 = .ok (.iload_n 1, 1) := by decide +kernel
theorem dX12_starts_7 : decode cX12_starts 7 = .ok (.putfield 122, 3) := by decide +kernel
theorem dX12_starts_10 : decode cX12_starts 10 = .ok (.aload_n 0, 1) := by decide +kernel
theorem dX12_starts_11 : decode cX12_starts 11 = .ok (.iconst 0, 1) := by decide +kernel
theorem dX12_starts_12 : decode cX12_starts 12 = .ok (.putfield 125, 3) := by decide +kernel
theorem dX12_starts_15 : decode cX12_starts 15 = .ok (.aload_n 0, 1) := by decide +kernel
theorem dX12_starts_16 : decode cX12_starts 16 = .ok (.iconst 0, 1) := by decide +kernel
theorem dX12_starts_17 : decode cX12_starts 17 = .ok (.putfield 132, 3) := by decide +kernel
theorem dX12_starts_20 : decode cX12_starts 20 = .ok (.aload_n 0, 1) := by decide +kernel
theorem dX12_starts_21 : decode cX12_starts 21 = .ok (.iconst (-1), 1) := by decide +kernel
theorem dX12_starts_22 : decode cX12_starts 22 = .ok (.putfield 135, 3) := by decide +kernel
theorem dX12_starts_25 : decode cX12_starts 25 = .ok (.aload_n 0, 1) := by decide +kernel
theorem dX12_starts_26 : decode cX12_starts 26 = .ok (.iconst 0, 1) := by decide +kernel
theorem dX12_starts_27 : decode cX12_starts 27 = .ok (.putfield 172, 3) := by decide +kernel
theorem dX12_starts_30 : decode cX12_starts 30 = .ok (.aload_n 0, 1) := by decide +kernel
theorem dX12_starts_31 : decode cX12_starts 31 = .ok (.iconst 0, 1) := by decide +kernel
theorem dX12_starts_32 : decode cX12_starts 32 = .ok (.putfield 175, 3) := by decide +kernel
theorem dX12_starts_35 : decode cX12_starts 35 = .ok (.aload_n 0, 1) := by decide +kernel
theorem dX12_starts_36 : decode cX12_starts 36 = .ok (.invokevirtual 138, 3) := by decide +kernel
theorem dX12_starts_39 : decode cX12_starts 39 = .ok (.return_, 1) := by decide +kernel
theorem dX12_faulty_0 : decode cX12_faulty 0 = .ok (.aload_n 0, 1) := by decide +kernel
theorem dX12_faulty_1 : decode cX12_faulty 1 = .ok (.aload_n 0, 1) := by decide +kernel
theorem dX12_faulty_2 : decode cX12_faulty 2 = .ok (.getfield 135, 3) := by decide +kernel
theorem dX12_faulty_5 : decode cX12_faulty 5 = .ok (.putfield 9, 3) := by decide +kernel
theorem dX12_faulty_8 : decode cX12_faulty 8 = .ok (.aload_n 0, 1) := by decide +kernel
theorem dX12_faulty_9 : decode cX12_faulty 9 = .ok (.getfield 132, 3) := by decide +kernel
theorem dX12_faulty_12 : decode cX12_faulty 12 = .ok (.bipush 10, 2) := by decide +kernel
theorem dX12_faulty_14 : decode cX12_faulty 14 = .ok (.isub, 1) := by decide +kernel
theorem dX12_faulty_15 : decode cX12_faulty 15 = .ok (.ireturn, 1) := by decide +kernel
theorem dX12_kindHere_0 : decode cX12_kindHere 0 = .ok (.aload_n 0, 1) := by decide +kernel
theorem dX12_kindHere_1 : decode cX12_kindHere 1 = .ok (.bipush 18, 2) := by decide +kernel
theorem dX12_kindHere_3 : decode cX12_kindHere 3 = .ok (.bipush 15, 2) := by decide +kernel
theorem dX12_kindHere_5 : decode cX12_kindHere 5 = .ok (.bipush 23, 2) := by decide +kernel
theorem dX12_kindHere_7 : decode cX12_kindHere 7 = .ok (.iconst 0, 1) := by decide +kernel
theorem dX12_kindHere_8 : decode cX12_kindHere 8 = .ok (.iconst 0, 1) := by decide +kernel
theorem dX12_kindHere_9 : decode cX12_kindHere 9 = .ok (.iconst 0, 1) := by decide +kernel
theorem dX12_kindHere_10 : decode cX12_kindHere 10 = .ok (.invokevirtual 165, 3) := by decide +kernel
theorem dX12_kindHere_13 : decode cX12_kindHere 13 = .ok (.ifCond .eq 5, 3) := by decide +kernel
theorem dX12_kindHere_16 : decode cX12_kindHere 16 = .ok (.iconst 0, 1) := by decide +kernel
theorem dX12_kindHere_17 : decode cX12_kindHere 17 = .ok (.ireturn, 1) := by decide +kernel
theorem dX12_kindHere_18 : decode cX12_kindHere 18 = .ok (.aload_n 0, 1) := by decide +kernel
