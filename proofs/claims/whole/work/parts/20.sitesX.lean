theorem s0_0 : am_S 0 0 1 (.aload_n 0, 0, 0, 0, 0) := ⟨by decide +kernel, rfl⟩
theorem s0_1 : am_S 0 1 4 (.invokespecial 3, 0, 0, 130, 0) := ⟨by decide +kernel, rfl⟩
theorem s0_4 : am_S 0 4 5 (.aload_n 0, 0, 0, 0, 0) := ⟨by decide +kernel, rfl⟩
theorem s0_5 : am_S 0 5 8 (.sipush 192, 0, 0, 0, 0) := ⟨by decide +kernel, rfl⟩
theorem s0_8 : am_S 0 8 10 (.newarray .byte, 0, 0, 0, 0) := ⟨by decide +kernel, rfl⟩
theorem s0_10 : am_S 0 10 13 (.putfield 9, 1, 0, 131, 0) := ⟨by decide +kernel, rfl⟩
theorem s0_13 : am_S 0 13 14 (.aload_n 0, 0, 0, 0, 0) := ⟨by decide +kernel, rfl⟩
theorem s0_14 : am_S 0 14 16 (.bipush 16, 0, 0, 0, 0) := ⟨by decide +kernel, rfl⟩
theorem s0_16 : am_S 0 16 18 (.newarray .int, 0, 0, 0, 0) := ⟨by decide +kernel, rfl⟩
theorem s0_18 : am_S 0 18 21 (.putfield 15, 1, 1, 132, 0) := ⟨by decide +kernel, rfl⟩
theorem s0_21 : am_S 0 21 22 (.aload_n 0, 0, 0, 0, 0) := ⟨by decide +kernel, rfl⟩
theorem s0_22 : am_S 0 22 23 (.iconst 0, 0, 0, 0, 0) := ⟨by decide +kernel, rfl⟩
theorem s0_23 : am_S 0 23 26 (.putfield 19, 1, 2, 133, 0) := ⟨by decide +kernel, rfl⟩
theorem s0_26 : am_S 0 26 27 (.return_, 0, 0, 0, 0) := ⟨by decide +kernel, rfl⟩
theorem s1_0 : am_S 1 0 1 (.aload_n 0, 0, 0, 0, 0) := ⟨by decide +kernel, rfl⟩
theorem s1_1 : am_S 1 1 2 (.iconst 0, 0, 0, 0, 0) := ⟨by decide +kernel, rfl⟩
theorem s1_2 : am_S 1 2 5 (.putfield 19, 1, 2, 133, 0) := ⟨by decide +kernel, rfl⟩
theorem s1_5 : am_S 1 5 6 (.iconst 0, 0, 0, 0, 0) := ⟨by decide +kernel, rfl⟩
theorem s1_6 : am_S 1 6 7 (.istore_n 2, 0, 0, 0, 0) := ⟨by decide +kernel, rfl⟩
theorem s1_7 : am_S 1 7 8 (.iload_n 2, 0, 0, 0, 0) := ⟨by decide +kernel, rfl⟩
theorem s1_8 : am_S 1 8 9 (.aload_n 1, 0, 0, 0, 0) := ⟨by decide +kernel, rfl⟩
theorem s1_9 : am_S 1 9 12 (.getfield 23, 7, 1, 117, 1) := ⟨by decide +kernel, rfl⟩
theorem s1_12 : am_S 1 12 15 (.if_icmp .ge 47, 0, 0, 0, 0) := ⟨by decide +kernel, rfl⟩
theorem s1_15 : am_S 1 15 16 (.aload_n 0, 0, 0, 0, 0) := ⟨by decide +kernel, rfl⟩
theorem s1_16 : am_S 1 16 19 (.getfield 19, 1, 2, 133, 0) := ⟨by decide +kernel, rfl⟩
theorem s1_19 : am_S 1 19 21 (.bipush 16, 0, 0, 0, 0) := ⟨by decide +kernel, rfl⟩
theorem s1_21 : am_S 1 21 24 (.if_icmp .ge 38, 0, 0, 0, 0) := ⟨by decide +kernel, rfl⟩
theorem s1_24 : am_S 1 24 25 (.aload_n 1, 0, 0, 0, 0) := ⟨by decide +kernel, rfl⟩
theorem s1_25 : am_S 1 25 26 (.iload_n 2, 0, 0, 0, 0) := ⟨by decide +kernel, rfl⟩
theorem s1_26 : am_S 1 26 29 (.invokevirtual 28, 38, 1, 463, 0) := ⟨by decide +kernel, rfl⟩
theorem s1_29 : am_S 1 29 32 (.ifCond .eq 24, 0, 0, 0, 0) := ⟨by decide +kernel, rfl⟩
theorem s1_32 : am_S 1 32 33 (.aload_n 1, 0, 0, 0, 0) := ⟨by decide +kernel, rfl⟩
theorem s1_33 : am_S 1 33 34 (.iload_n 2, 0, 0, 0, 0) := ⟨by decide +kernel, rfl⟩
theorem s1_34 : am_S 1 34 37 (.invokevirtual 32, 39, 1, 464, 0) := ⟨by decide +kernel, rfl⟩
theorem s1_37 : am_S 1 37 39 (.bipush 12, 0, 0, 0, 0) := ⟨by decide +kernel, rfl⟩
theorem s1_39 : am_S 1 39 42 (.if_icmp .gt 14, 0, 0, 0, 0) := ⟨by decide +kernel, rfl⟩
theorem s1_42 : am_S 1 42 43 (.aload_n 0, 0, 0, 0, 0) := ⟨by decide +kernel, rfl⟩
theorem s1_43 : am_S 1 43 44 (.aload_n 1, 0, 0, 0, 0) := ⟨by decide +kernel, rfl⟩
theorem s1_44 : am_S 1 44 45 (.iload_n 2, 0, 0, 0, 0) := ⟨by decide +kernel, rfl⟩
theorem s1_45 : am_S 1 45 46 (.aload_n 1, 0, 0, 0, 0) := ⟨by decide +kernel, rfl⟩
theorem s1_46 : am_S 1 46 47 (.iload_n 2, 0, 0, 0, 0) := ⟨by decide +kernel, rfl⟩
theorem s1_47 : am_S 1 47 50 (.invokevirtual 32, 39, 1, 464, 0) := ⟨by decide +kernel, rfl⟩
theorem s1_50 : am_S 1 50 53 (.invokevirtual 36, 13, 3, 465, 0) := ⟨by decide +kernel, rfl⟩
theorem s1_53 : am_S 1 53 56 (.iinc 2 1, 0, 0, 0, 0) := ⟨by decide +kernel, rfl⟩
theorem s1_56 : am_S 1 56 59 (.goto (-49), 0, 0, 0, 0) := ⟨by decide +kernel, rfl⟩
theorem s1_59 : am_S 1 59 60 (.return_, 0, 0, 0, 0) := ⟨by decide +kernel, rfl⟩
theorem s2_0 : am_S 2 0 1 (.iconst 0, 0, 0, 0, 0) := ⟨by decide +kernel, rfl⟩
theorem s2_1 : am_S 2 1 2 (.istore_n 2, 0, 0, 0, 0) := ⟨by decide +kernel, rfl⟩
theorem s2_2 : am_S 2 2 3 (.iload_n 2, 0, 0, 0, 0) := ⟨by decide +kernel, rfl⟩
theorem s2_3 : am_S 2 3 4 (.aload_n 1, 0, 0, 0, 0) := ⟨by decide +kernel, rfl⟩
theorem s2_4 : am_S 2 4 7 (.getfield 23, 7, 1, 117, 1) := ⟨by decide +kernel, rfl⟩
theorem s2_7 : am_S 2 7 10 (.if_icmp .ge 33, 0, 0, 0, 0) := ⟨by decide +kernel, rfl⟩
theorem s2_10 : am_S 2 10 11 (.aload_n 1, 0, 0, 0, 0) := ⟨by decide +kernel, rfl⟩
theorem s2_11 : am_S 2 11 12 (.iload_n 2, 0, 0, 0, 0) := ⟨by decide +kernel, rfl⟩
theorem s2_12 : am_S 2 12 15 (.invokevirtual 28, 38, 1, 463, 0) := ⟨by decide +kernel, rfl⟩
theorem s2_15 : am_S 2 15 18 (.ifCond .eq 19, 0, 0, 0, 0) := ⟨by decide +kernel, rfl⟩
theorem s2_18 : am_S 2 18 19 (.aload_n 0, 0, 0, 0, 0) := ⟨by decide +kernel, rfl⟩
theorem s2_19 : am_S 2 19 20 (.aload_n 1, 0, 0, 0, 0) := ⟨by decide +kernel, rfl⟩
theorem s2_20 : am_S 2 20 21 (.iload_n 2, 0, 0, 0, 0) := ⟨by decide +kernel, rfl⟩
theorem s2_21 : am_S 2 21 22 (.aload_n 1, 0, 0, 0, 0) := ⟨by decide +kernel, rfl⟩
theorem s2_22 : am_S 2 22 23 (.iload_n 2, 0, 0, 0, 0) := ⟨by decide +kernel, rfl⟩
theorem s2_23 : am_S 2 23 26 (.invokevirtual 32, 39, 1, 464, 0) := ⟨by decide +kernel, rfl⟩
theorem s2_26 : am_S 2 26 29 (.invokevirtual 40, 14, 3, 480, 0) := ⟨by decide +kernel, rfl⟩
theorem s2_29 : am_S 2 29 32 (.ifCond .eq 5, 0, 0, 0, 0) := ⟨by decide +kernel, rfl⟩
theorem s2_32 : am_S 2 32 33 (.iload_n 2, 0, 0, 0, 0) := ⟨by decide +kernel, rfl⟩
theorem s2_33 : am_S 2 33 34 (.ireturn, 0, 0, 0, 0) := ⟨by decide +kernel, rfl⟩
theorem s2_34 : am_S 2 34 37 (.iinc 2 1, 0, 0, 0, 0) := ⟨by decide +kernel, rfl⟩
theorem s2_37 : am_S 2 37 40 (.goto (-35), 0, 0, 0, 0) := ⟨by decide +kernel, rfl⟩
theorem s2_40 : am_S 2 40 42 (.bipush (-9), 0, 0, 0, 0) := ⟨by decide +kernel, rfl⟩
theorem s2_42 : am_S 2 42 43 (.ireturn, 0, 0, 0, 0) := ⟨by decide +kernel, rfl⟩
theorem s3_0 : am_S 3 0 1 (.iconst 0, 0, 0, 0, 0) := ⟨by decide +kernel, rfl⟩
theorem s3_1 : am_S 3 1 3 (.istore 4, 0, 0, 0, 0) := ⟨by decide +kernel, rfl⟩
theorem s3_3 : am_S 3 3 5 (.iload 4, 0, 0, 0, 0) := ⟨by decide +kernel, rfl⟩
theorem s3_5 : am_S 3 5 6 (.iload_n 3, 0, 0, 0, 0) := ⟨by decide +kernel, rfl⟩
theorem s3_6 : am_S 3 6 9 (.if_icmp .ge 37, 0, 0, 0, 0) := ⟨by decide +kernel, rfl⟩
theorem s3_9 : am_S 3 9 10 (.aload_n 0, 0, 0, 0, 0) := ⟨by decide +kernel, rfl⟩
theorem s3_10 : am_S 3 10 13 (.getfield 9, 1, 0, 131, 0) := ⟨by decide +kernel, rfl⟩
theorem s3_13 : am_S 3 13 14 (.aload_n 0, 0, 0, 0, 0) := ⟨by decide +kernel, rfl⟩
theorem s3_14 : am_S 3 14 17 (.getfield 19, 1, 2, 133, 0) := ⟨by decide +kernel, rfl⟩
theorem s3_17 : am_S 3 17 19 (.bipush 12, 0, 0, 0, 0) := ⟨by decide +kernel, rfl⟩
theorem s3_19 : am_S 3 19 20 (.imul, 0, 0, 0, 0) := ⟨by decide +kernel, rfl⟩
theorem s3_20 : am_S 3 20 22 (.iload 4, 0, 0, 0, 0) := ⟨by decide +kernel, rfl⟩
theorem s3_22 : am_S 3 22 23 (.iadd, 0, 0, 0, 0) := ⟨by decide +kernel, rfl⟩
theorem s3_23 : am_S 3 23 24 (.aload_n 1, 0, 0, 0, 0) := ⟨by decide +kernel, rfl⟩
theorem s3_24 : am_S 3 24 27 (.getfield 44, 7, 0, 114, 1) := ⟨by decide +kernel, rfl⟩
theorem s3_27 : am_S 3 27 28 (.iload_n 2, 0, 0, 0, 0) := ⟨by decide +kernel, rfl⟩
theorem s3_28 : am_S 3 28 30 (.iload 4, 0, 0, 0, 0) := ⟨by decide +kernel, rfl⟩
theorem s3_30 : am_S 3 30 31 (.iadd, 0, 0, 0, 0) := ⟨by decide +kernel, rfl⟩
theorem s3_31 : am_S 3 31 32 (.baload, 0, 0, 0, 0) := ⟨by decide +kernel, rfl⟩
theorem s3_32 : am_S 3 32 35 (.invokestatic 45, 44, 1, 469, 0) := ⟨by decide +kernel, rfl⟩
theorem s3_35 : am_S 3 35 36 (.i2b, 0, 0, 0, 0) := ⟨by decide +kernel, rfl⟩
theorem s3_36 : am_S 3 36 37 (.bastore, 0, 0, 0, 0) := ⟨by decide +kernel, rfl⟩
theorem s3_37 : am_S 3 37 40 (.iinc 4 1, 0, 0, 0, 0) := ⟨by decide +kernel, rfl⟩
theorem s3_40 : am_S 3 40 43 (.goto (-37), 0, 0, 0, 0) := ⟨by decide +kernel, rfl⟩
theorem s3_43 : am_S 3 43 44 (.aload_n 0, 0, 0, 0, 0) := ⟨by decide +kernel, rfl⟩
theorem s3_44 : am_S 3 44 47 (.getfield 15, 1, 1, 132, 0) := ⟨by decide +kernel, rfl⟩
theorem s3_47 : am_S 3 47 48 (.aload_n 0, 0, 0, 0, 0) := ⟨by decide +kernel, rfl⟩
theorem s3_48 : am_S 3 48 51 (.getfield 19, 1, 2, 133, 0) := ⟨by decide +kernel, rfl⟩
theorem s3_51 : am_S 3 51 52 (.iload_n 3, 0, 0, 0, 0) := ⟨by decide +kernel, rfl⟩
theorem s3_52 : am_S 3 52 53 (.iastore, 0, 0, 0, 0) := ⟨by decide +kernel, rfl⟩
theorem s3_53 : am_S 3 53 54 (.aload_n 0, 0, 0, 0, 0) := ⟨by decide +kernel, rfl⟩
theorem s3_54 : am_S 3 54 55 (.dup, 0, 0, 0, 0) := ⟨by decide +kernel, rfl⟩
theorem s3_55 : am_S 3 55 58 (.getfield 19, 1, 2, 133, 0) := ⟨by decide +kernel, rfl⟩
theorem s3_58 : am_S 3 58 59 (.iconst 1, 0, 0, 0, 0) := ⟨by decide +kernel, rfl⟩
theorem s3_59 : am_S 3 59 60 (.iadd, 0, 0, 0, 0) := ⟨by decide +kernel, rfl⟩
theorem s3_60 : am_S 3 60 63 (.putfield 19, 1, 2, 133, 0) := ⟨by decide +kernel, rfl⟩
theorem s3_63 : am_S 3 63 64 (.return_, 0, 0, 0, 0) := ⟨by decide +kernel, rfl⟩
theorem s4_0 : am_S 4 0 1 (.iconst 0, 0, 0, 0, 0) := ⟨by decide +kernel, rfl⟩
theorem s4_1 : am_S 4 1 3 (.istore 4, 0, 0, 0, 0) := ⟨by decide +kernel, rfl⟩
theorem s4_3 : am_S 4 3 5 (.iload 4, 0, 0, 0, 0) := ⟨by decide +kernel, rfl⟩
theorem s4_5 : am_S 4 5 6 (.aload_n 0, 0, 0, 0, 0) := ⟨by decide +kernel, rfl⟩
theorem s4_6 : am_S 4 6 9 (.getfield 19, 1, 2, 133, 0) := ⟨by decide +kernel, rfl⟩
theorem s4_9 : am_S 4 9 12 (.if_icmp .ge 33, 0, 0, 0, 0) := ⟨by decide +kernel, rfl⟩
theorem s4_12 : am_S 4 12 13 (.aload_n 0, 0, 0, 0, 0) := ⟨by decide +kernel, rfl⟩
theorem s4_13 : am_S 4 13 16 (.getfield 15, 1, 1, 132, 0) := ⟨by decide +kernel, rfl⟩
theorem s4_16 : am_S 4 16 18 (.iload 4, 0, 0, 0, 0) := ⟨by decide +kernel, rfl⟩
theorem s4_18 : am_S 4 18 19 (.iaload, 0, 0, 0, 0) := ⟨by decide +kernel, rfl⟩
theorem s4_19 : am_S 4 19 20 (.iload_n 3, 0, 0, 0, 0) := ⟨by decide +kernel, rfl⟩
theorem s4_20 : am_S 4 20 23 (.if_icmp .ne 16, 0, 0, 0, 0) := ⟨by decide +kernel, rfl⟩
theorem s4_23 : am_S 4 23 24 (.aload_n 0, 0, 0, 0, 0) := ⟨by decide +kernel, rfl⟩
theorem s4_24 : am_S 4 24 26 (.iload 4, 0, 0, 0, 0) := ⟨by decide +kernel, rfl⟩
theorem s4_26 : am_S 4 26 27 (.aload_n 1, 0, 0, 0, 0) := ⟨by decide +kernel, rfl⟩
theorem s4_27 : am_S 4 27 28 (.iload_n 2, 0, 0, 0, 0) := ⟨by decide +kernel, rfl⟩
theorem s4_28 : am_S 4 28 31 (.invokevirtual 48, 15, 3, 484, 0) := ⟨by decide +kernel, rfl⟩
theorem s4_31 : am_S 4 31 34 (.ifCond .eq 5, 0, 0, 0, 0) := ⟨by decide +kernel, rfl⟩
theorem s4_34 : am_S 4 34 35 (.iconst 1, 0, 0, 0, 0) := ⟨by decide +kernel, rfl⟩
theorem s4_35 : am_S 4 35 36 (.ireturn, 0, 0, 0, 0) := ⟨by decide +kernel, rfl⟩
theorem s4_36 : am_S 4 36 39 (.iinc 4 1, 0, 0, 0, 0) := ⟨by decide +kernel, rfl⟩
theorem s4_39 : am_S 4 39 42 (.goto (-36), 0, 0, 0, 0) := ⟨by decide +kernel, rfl⟩
theorem s4_42 : am_S 4 42 43 (.iconst 0, 0, 0, 0, 0) := ⟨by decide +kernel, rfl⟩
theorem s4_43 : am_S 4 43 44 (.ireturn, 0, 0, 0, 0) := ⟨by decide +kernel, rfl⟩
theorem s5_0 : am_S 5 0 1 (.iconst 0, 0, 0, 0, 0) := ⟨by decide +kernel, rfl⟩
theorem s5_1 : am_S 5 1 3 (.istore 4, 0, 0, 0, 0) := ⟨by decide +kernel, rfl⟩
theorem s5_3 : am_S 5 3 5 (.iload 4, 0, 0, 0, 0) := ⟨by decide +kernel, rfl⟩
theorem s5_5 : am_S 5 5 6 (.aload_n 0, 0, 0, 0, 0) := ⟨by decide +kernel, rfl⟩
theorem s5_6 : am_S 5 6 9 (.getfield 15, 1, 1, 132, 0) := ⟨by decide +kernel, rfl⟩
theorem s5_9 : am_S 5 9 10 (.iload_n 1, 0, 0, 0, 0) := ⟨by decide +kernel, rfl⟩
theorem s5_10 : am_S 5 10 11 (.iaload, 0, 0, 0, 0) := ⟨by decide +kernel, rfl⟩
theorem s5_11 : am_S 5 11 14 (.if_icmp .ge 38, 0, 0, 0, 0) := ⟨by decide +kernel, rfl⟩
theorem s5_14 : am_S 5 14 15 (.aload_n 0, 0, 0, 0, 0) := ⟨by decide +kernel, rfl⟩
theorem s5_15 : am_S 5 15 18 (.getfield 9, 1, 0, 131, 0) := ⟨by decide +kernel, rfl⟩
theorem s5_18 : am_S 5 18 19 (.iload_n 1, 0, 0, 0, 0) := ⟨by decide +kernel, rfl⟩
theorem s5_19 : am_S 5 19 21 (.bipush 12, 0, 0, 0, 0) := ⟨by decide +kernel, rfl⟩
theorem s5_21 : am_S 5 21 22 (.imul, 0, 0, 0, 0) := ⟨by decide +kernel, rfl⟩
theorem s5_22 : am_S 5 22 24 (.iload 4, 0, 0, 0, 0) := ⟨by decide +kernel, rfl⟩
theorem s5_24 : am_S 5 24 25 (.iadd, 0, 0, 0, 0) := ⟨by decide +kernel, rfl⟩
theorem s5_25 : am_S 5 25 26 (.baload, 0, 0, 0, 0) := ⟨by decide +kernel, rfl⟩
theorem s5_26 : am_S 5 26 27 (.aload_n 2, 0, 0, 0, 0) := ⟨by decide +kernel, rfl⟩
theorem s5_27 : am_S 5 27 30 (.getfield 44, 7, 0, 114, 1) := ⟨by decide +kernel, rfl⟩
theorem s5_30 : am_S 5 30 31 (.iload_n 3, 0, 0, 0, 0) := ⟨by decide +kernel, rfl⟩
theorem s5_31 : am_S 5 31 33 (.iload 4, 0, 0, 0, 0) := ⟨by decide +kernel, rfl⟩
theorem s5_33 : am_S 5 33 34 (.iadd, 0, 0, 0, 0) := ⟨by decide +kernel, rfl⟩
theorem s5_34 : am_S 5 34 35 (.baload, 0, 0, 0, 0) := ⟨by decide +kernel, rfl⟩
theorem s5_35 : am_S 5 35 38 (.invokestatic 45, 44, 1, 469, 0) := ⟨by decide +kernel, rfl⟩
theorem s5_38 : am_S 5 38 41 (.if_icmp .eq 5, 0, 0, 0, 0) := ⟨by decide +kernel, rfl⟩
theorem s5_41 : am_S 5 41 42 (.iconst 0, 0, 0, 0, 0) := ⟨by decide +kernel, rfl⟩
theorem s5_42 : am_S 5 42 43 (.ireturn, 0, 0, 0, 0) := ⟨by decide +kernel, rfl⟩
theorem s5_43 : am_S 5 43 46 (.iinc 4 1, 0, 0, 0, 0) := ⟨by decide +kernel, rfl⟩
theorem s5_46 : am_S 5 46 49 (.goto (-43), 0, 0, 0, 0) := ⟨by decide +kernel, rfl⟩
theorem s5_49 : am_S 5 49 50 (.iconst 1, 0, 0, 0, 0) := ⟨by decide +kernel, rfl⟩
theorem s5_50 : am_S 5 50 51 (.ireturn, 0, 0, 0, 0) := ⟨by decide +kernel, rfl⟩
theorem s6_0 : am_S 6 0 1 (.aload_n 0, 0, 0, 0, 0) := ⟨by decide +kernel, rfl⟩
theorem s6_1 : am_S 6 1 4 (.invokespecial 1, 0, 0, 617, 0) := ⟨by decide +kernel, rfl⟩
theorem s6_4 : am_S 6 4 5 (.aload_n 0, 0, 0, 0, 0) := ⟨by decide +kernel, rfl⟩
theorem s6_5 : am_S 6 5 6 (.iload_n 1, 0, 0, 0, 0) := ⟨by decide +kernel, rfl⟩
theorem s6_6 : am_S 6 6 9 (.putfield 7, 2, 0, 618, 0) := ⟨by decide +kernel, rfl⟩
theorem s6_9 : am_S 6 9 10 (.aload_n 0, 0, 0, 0, 0) := ⟨by decide +kernel, rfl⟩
theorem s6_10 : am_S 6 10 11 (.iconst 0, 0, 0, 0, 0) := ⟨by decide +kernel, rfl⟩
theorem s6_11 : am_S 6 11 14 (.putfield 13, 2, 1, 620, 0) := ⟨by decide +kernel, rfl⟩
theorem s6_14 : am_S 6 14 15 (.return_, 0, 0, 0, 0) := ⟨by decide +kernel, rfl⟩
theorem s7_0 : am_S 7 0 1 (.aload_n 0, 0, 0, 0, 0) := ⟨by decide +kernel, rfl⟩
theorem s7_1 : am_S 7 1 2 (.iload_n 1, 0, 0, 0, 0) := ⟨by decide +kernel, rfl⟩
theorem s7_2 : am_S 7 2 5 (.putfield 7, 2, 0, 618, 0) := ⟨by decide +kernel, rfl⟩
theorem s7_5 : am_S 7 5 6 (.aload_n 0, 0, 0, 0, 0) := ⟨by decide +kernel, rfl⟩
theorem s7_6 : am_S 7 6 7 (.iload_n 2, 0, 0, 0, 0) := ⟨by decide +kernel, rfl⟩
theorem s7_7 : am_S 7 7 10 (.putfield 13, 2, 1, 620, 0) := ⟨by decide +kernel, rfl⟩
theorem s7_10 : am_S 7 10 11 (.return_, 0, 0, 0, 0) := ⟨by decide +kernel, rfl⟩
theorem s8_0 : am_S 8 0 1 (.aload_n 0, 0, 0, 0, 0) := ⟨by decide +kernel, rfl⟩
theorem s8_1 : am_S 8 1 4 (.invokespecial 1, 0, 0, 668, 0) := ⟨by decide +kernel, rfl⟩
theorem s8_4 : am_S 8 4 5 (.aload_n 0, 0, 0, 0, 0) := ⟨by decide +kernel, rfl⟩
theorem s8_5 : am_S 8 5 6 (.iload_n 1, 0, 0, 0, 0) := ⟨by decide +kernel, rfl⟩
theorem s8_6 : am_S 8 6 9 (.putfield 7, 3, 0, 669, 0) := ⟨by decide +kernel, rfl⟩
theorem s8_9 : am_S 8 9 10 (.aload_n 0, 0, 0, 0, 0) := ⟨by decide +kernel, rfl⟩
theorem s8_10 : am_S 8 10 11 (.iload_n 2, 0, 0, 0, 0) := ⟨by decide +kernel, rfl⟩
theorem s8_11 : am_S 8 11 14 (.putfield 13, 3, 1, 671, 0) := ⟨by decide +kernel, rfl⟩
theorem s8_14 : am_S 8 14 15 (.aload_n 0, 0, 0, 0, 0) := ⟨by decide +kernel, rfl⟩
theorem s8_15 : am_S 8 15 16 (.iload_n 3, 0, 0, 0, 0) := ⟨by decide +kernel, rfl⟩
theorem s8_16 : am_S 8 16 19 (.putfield 16, 3, 2, 673, 0) := ⟨by decide +kernel, rfl⟩
theorem s8_19 : am_S 8 19 20 (.aload_n 0, 0, 0, 0, 0) := ⟨by decide +kernel, rfl⟩
theorem s8_20 : am_S 8 20 22 (.iload 4, 0, 0, 0, 0) := ⟨by decide +kernel, rfl⟩
theorem s8_22 : am_S 8 22 25 (.putfield 19, 3, 3, 675, 0) := ⟨by decide +kernel, rfl⟩
theorem s8_25 : am_S 8 25 26 (.aload_n 0, 0, 0, 0, 0) := ⟨by decide +kernel, rfl⟩
theorem s8_26 : am_S 8 26 28 (.iload 5, 0, 0, 0, 0) := ⟨by decide +kernel, rfl⟩
theorem s8_28 : am_S 8 28 31 (.putfield 22, 3, 4, 677, 0) := ⟨by decide +kernel, rfl⟩
theorem s8_31 : am_S 8 31 32 (.aload_n 0, 0, 0, 0, 0) := ⟨by decide +kernel, rfl⟩
theorem s8_32 : am_S 8 32 34 (.iload 6, 0, 0, 0, 0) := ⟨by decide +kernel, rfl⟩
theorem s8_34 : am_S 8 34 37 (.putfield 25, 3, 5, 679, 0) := ⟨by decide +kernel, rfl⟩
theorem s8_37 : am_S 8 37 38 (.return_, 0, 0, 0, 0) := ⟨by decide +kernel, rfl⟩
theorem s9_0 : am_S 9 0 1 (.aload_n 0, 0, 0, 0, 0) := ⟨by decide +kernel, rfl⟩
theorem s9_1 : am_S 9 1 4 (.invokespecial 1, 0, 0, 357, 0) := ⟨by decide +kernel, rfl⟩
theorem s9_4 : am_S 9 4 5 (.aload_n 0, 0, 0, 0, 0) := ⟨by decide +kernel, rfl⟩
theorem s9_5 : am_S 9 5 6 (.iload_n 1, 0, 0, 0, 0) := ⟨by decide +kernel, rfl⟩
theorem s9_6 : am_S 9 6 9 (.putfield 7, 4, 0, 358, 0) := ⟨by decide +kernel, rfl⟩
theorem s9_9 : am_S 9 9 10 (.aload_n 0, 0, 0, 0, 0) := ⟨by decide +kernel, rfl⟩
theorem s9_10 : am_S 9 10 11 (.iload_n 2, 0, 0, 0, 0) := ⟨by decide +kernel, rfl⟩
theorem s9_11 : am_S 9 11 14 (.putfield 13, 4, 1, 360, 0) := ⟨by decide +kernel, rfl⟩
theorem s9_14 : am_S 9 14 15 (.aload_n 0, 0, 0, 0, 0) := ⟨by decide +kernel, rfl⟩
theorem s9_15 : am_S 9 15 16 (.iload_n 3, 0, 0, 0, 0) := ⟨by decide +kernel, rfl⟩
theorem s9_16 : am_S 9 16 19 (.putfield 16, 4, 2, 362, 0) := ⟨by decide +kernel, rfl⟩
theorem s9_19 : am_S 9 19 20 (.aload_n 0, 0, 0, 0, 0) := ⟨by decide +kernel, rfl⟩
theorem s9_20 : am_S 9 20 22 (.iload 4, 0, 0, 0, 0) := ⟨by decide +kernel, rfl⟩
theorem s9_22 : am_S 9 22 25 (.putfield 19, 4, 3, 364, 0) := ⟨by decide +kernel, rfl⟩
theorem s9_25 : am_S 9 25 26 (.return_, 0, 0, 0, 0) := ⟨by decide +kernel, rfl⟩
theorem s10_0 : am_S 10 0 1 (.aload_n 0, 0, 0, 0, 0) := ⟨by decide +kernel, rfl⟩
theorem s10_1 : am_S 10 1 4 (.invokespecial 3, 0, 0, 512, 0) := ⟨by decide +kernel, rfl⟩
theorem s10_4 : am_S 10 4 5 (.aload_n 0, 0, 0, 0, 0) := ⟨by decide +kernel, rfl⟩
theorem s10_5 : am_S 10 5 7 (.bipush 10, 0, 0, 0, 0) := ⟨by decide +kernel, rfl⟩
theorem s10_7 : am_S 10 7 9 (.newarray .int, 0, 0, 0, 0) := ⟨by decide +kernel, rfl⟩
theorem s10_9 : am_S 10 9 12 (.putfield 9, 5, 6, 526, 0) := ⟨by decide +kernel, rfl⟩
theorem s10_12 : am_S 10 12 13 (.aload_n 0, 0, 0, 0, 0) := ⟨by decide +kernel, rfl⟩
theorem s10_13 : am_S 10 13 15 (.bipush 10, 0, 0, 0, 0) := ⟨by decide +kernel, rfl⟩
theorem s10_15 : am_S 10 15 17 (.newarray .int, 0, 0, 0, 0) := ⟨by decide +kernel, rfl⟩
theorem s10_17 : am_S 10 17 20 (.putfield 15, 5, 7, 528, 0) := ⟨by decide +kernel, rfl⟩
theorem s10_20 : am_S 10 20 21 (.aload_n 0, 0, 0, 0, 0) := ⟨by decide +kernel, rfl⟩
theorem s10_21 : am_S 10 21 22 (.iconst 0, 0, 0, 0, 0) := ⟨by decide +kernel, rfl⟩
theorem s10_22 : am_S 10 22 25 (.putfield 18, 5, 8, 530, 0) := ⟨by decide +kernel, rfl⟩
theorem s10_25 : am_S 10 25 26 (.aload_n 0, 0, 0, 0, 0) := ⟨by decide +kernel, rfl⟩
theorem s10_26 : am_S 10 26 27 (.iload_n 1, 0, 0, 0, 0) := ⟨by decide +kernel, rfl⟩
theorem s10_27 : am_S 10 27 30 (.putfield 22, 5, 0, 514, 0) := ⟨by decide +kernel, rfl⟩
theorem s10_30 : am_S 10 30 31 (.aload_n 0, 0, 0, 0, 0) := ⟨by decide +kernel, rfl⟩
theorem s10_31 : am_S 10 31 32 (.iload_n 2, 0, 0, 0, 0) := ⟨by decide +kernel, rfl⟩
theorem s10_32 : am_S 10 32 35 (.putfield 26, 5, 1, 516, 0) := ⟨by decide +kernel, rfl⟩
theorem s10_35 : am_S 10 35 36 (.aload_n 0, 0, 0, 0, 0) := ⟨by decide +kernel, rfl⟩
theorem s10_36 : am_S 10 36 37 (.iload_n 3, 0, 0, 0, 0) := ⟨by decide +kernel, rfl⟩
theorem s10_37 : am_S 10 37 40 (.putfield 29, 5, 2, 518, 0) := ⟨by decide +kernel, rfl⟩
theorem s10_40 : am_S 10 40 41 (.aload_n 0, 0, 0, 0, 0) := ⟨by decide +kernel, rfl⟩
theorem s10_41 : am_S 10 41 43 (.iload 4, 0, 0, 0, 0) := ⟨by decide +kernel, rfl⟩
theorem s10_43 : am_S 10 43 46 (.putfield 32, 5, 3, 520, 0) := ⟨by decide +kernel, rfl⟩
theorem s10_46 : am_S 10 46 47 (.aload_n 0, 0, 0, 0, 0) := ⟨by decide +kernel, rfl⟩
theorem s10_47 : am_S 10 47 49 (.iload 5, 0, 0, 0, 0) := ⟨by decide +kernel, rfl⟩
theorem s10_49 : am_S 10 49 52 (.putfield 35, 5, 4, 522, 0) := ⟨by decide +kernel, rfl⟩
theorem s10_52 : am_S 10 52 53 (.aload_n 0, 0, 0, 0, 0) := ⟨by decide +kernel, rfl⟩
theorem s10_53 : am_S 10 53 55 (.iload 6, 0, 0, 0, 0) := ⟨by decide +kernel, rfl⟩
theorem s10_55 : am_S 10 55 58 (.putfield 38, 5, 5, 524, 0) := ⟨by decide +kernel, rfl⟩
theorem s10_58 : am_S 10 58 59 (.aload_n 0, 0, 0, 0, 0) := ⟨by decide +kernel, rfl⟩
theorem s10_59 : am_S 10 59 62 (.getfield 15, 5, 7, 528, 0) := ⟨by decide +kernel, rfl⟩
theorem s10_62 : am_S 10 62 64 (.bipush (-9), 0, 0, 0, 0) := ⟨by decide +kernel, rfl⟩
theorem s10_64 : am_S 10 64 67 (.invokestatic 41, 197, 2, 513, 0) := ⟨by decide +kernel, rfl⟩
theorem s10_67 : am_S 10 67 68 (.return_, 0, 0, 0, 0) := ⟨by decide +kernel, rfl⟩
theorem s11_0 : am_S 11 0 1 (.aload_n 0, 0, 0, 0, 0) := ⟨by decide +kernel, rfl⟩
theorem s11_1 : am_S 11 1 4 (.getfield 29, 5, 2, 518, 0) := ⟨by decide +kernel, rfl⟩
theorem s11_4 : am_S 11 4 5 (.iload_n 1, 0, 0, 0, 0) := ⟨by decide +kernel, rfl⟩
theorem s11_5 : am_S 11 5 6 (.ishr, 0, 0, 0, 0) := ⟨by decide +kernel, rfl⟩
theorem s11_6 : am_S 11 6 7 (.iconst 1, 0, 0, 0, 0) := ⟨by decide +kernel, rfl⟩
theorem s11_7 : am_S 11 7 8 (.iand, 0, 0, 0, 0) := ⟨by decide +kernel, rfl⟩
theorem s11_8 : am_S 11 8 9 (.iconst 1, 0, 0, 0, 0) := ⟨by decide +kernel, rfl⟩
theorem s11_9 : am_S 11 9 12 (.if_icmp .ne 20, 0, 0, 0, 0) := ⟨by decide +kernel, rfl⟩
theorem s11_12 : am_S 11 12 13 (.aload_n 0, 0, 0, 0, 0) := ⟨by decide +kernel, rfl⟩
theorem s11_13 : am_S 11 13 16 (.getfield 9, 5, 6, 526, 0) := ⟨by decide +kernel, rfl⟩
theorem s11_16 : am_S 11 16 17 (.iload_n 1, 0, 0, 0, 0) := ⟨by decide +kernel, rfl⟩
theorem s11_17 : am_S 11 17 18 (.iaload, 0, 0, 0, 0) := ⟨by decide +kernel, rfl⟩
theorem s11_18 : am_S 11 18 19 (.aload_n 0, 0, 0, 0, 0) := ⟨by decide +kernel, rfl⟩
theorem s11_19 : am_S 11 19 22 (.getfield 32, 5, 3, 520, 0) := ⟨by decide +kernel, rfl⟩
theorem s11_22 : am_S 11 22 25 (.if_icmp .ge 7, 0, 0, 0, 0) := ⟨by decide +kernel, rfl⟩
theorem s11_25 : am_S 11 25 26 (.iconst 1, 0, 0, 0, 0) := ⟨by decide +kernel, rfl⟩
theorem s11_26 : am_S 11 26 29 (.goto 4, 0, 0, 0, 0) := ⟨by decide +kernel, rfl⟩
theorem s11_29 : am_S 11 29 30 (.iconst 0, 0, 0, 0, 0) := ⟨by decide +kernel, rfl⟩
theorem s11_30 : am_S 11 30 31 (.ireturn, 0, 0, 0, 0) := ⟨by decide +kernel, rfl⟩
theorem s12_0 : am_S 12 0 1 (.iconst 0, 0, 0, 0, 0) := ⟨by decide +kernel, rfl⟩
theorem s12_1 : am_S 12 1 2 (.istore_n 1, 0, 0, 0, 0) := ⟨by decide +kernel, rfl⟩
theorem s12_2 : am_S 12 2 3 (.iconst 0, 0, 0, 0, 0) := ⟨by decide +kernel, rfl⟩
theorem s12_3 : am_S 12 3 4 (.istore_n 2, 0, 0, 0, 0) := ⟨by decide +kernel, rfl⟩
theorem s12_4 : am_S 12 4 5 (.iload_n 2, 0, 0, 0, 0) := ⟨by decide +kernel, rfl⟩
theorem s12_5 : am_S 12 5 7 (.bipush 10, 0, 0, 0, 0) := ⟨by decide +kernel, rfl⟩
theorem s12_7 : am_S 12 7 10 (.if_icmp .ge 20, 0, 0, 0, 0) := ⟨by decide +kernel, rfl⟩
theorem s12_10 : am_S 12 10 11 (.aload_n 0, 0, 0, 0, 0) := ⟨by decide +kernel, rfl⟩
theorem s12_11 : am_S 12 11 12 (.iload_n 2, 0, 0, 0, 0) := ⟨by decide +kernel, rfl⟩
theorem s12_12 : am_S 12 12 15 (.invokevirtual 47, 21, 1, 567, 0) := ⟨by decide +kernel, rfl⟩
theorem s12_15 : am_S 12 15 18 (.ifCond .eq 6, 0, 0, 0, 0) := ⟨by decide +kernel, rfl⟩
theorem s12_18 : am_S 12 18 21 (.iinc 1 1, 0, 0, 0, 0) := ⟨by decide +kernel, rfl⟩
theorem s12_21 : am_S 12 21 24 (.iinc 2 1, 0, 0, 0, 0) := ⟨by decide +kernel, rfl⟩
theorem s12_24 : am_S 12 24 27 (.goto (-20), 0, 0, 0, 0) := ⟨by decide +kernel, rfl⟩
theorem s12_27 : am_S 12 27 28 (.iload_n 1, 0, 0, 0, 0) := ⟨by decide +kernel, rfl⟩
theorem s12_28 : am_S 12 28 29 (.ireturn, 0, 0, 0, 0) := ⟨by decide +kernel, rfl⟩
theorem s13_0 : am_S 13 0 1 (.aload_n 0, 0, 0, 0, 0) := ⟨by decide +kernel, rfl⟩
theorem s13_1 : am_S 13 1 4 (.invokevirtual 51, 22, 0, 563, 0) := ⟨by decide +kernel, rfl⟩
theorem s13_4 : am_S 13 4 7 (.ifCond .ne 7, 0, 0, 0, 0) := ⟨by decide +kernel, rfl⟩
theorem s13_7 : am_S 13 7 8 (.iconst 1, 0, 0, 0, 0) := ⟨by decide +kernel, rfl⟩
theorem s13_8 : am_S 13 8 11 (.goto 4, 0, 0, 0, 0) := ⟨by decide +kernel, rfl⟩
theorem s13_11 : am_S 13 11 12 (.iconst 0, 0, 0, 0, 0) := ⟨by decide +kernel, rfl⟩
theorem s13_12 : am_S 13 12 13 (.ireturn, 0, 0, 0, 0) := ⟨by decide +kernel, rfl⟩
theorem s14_0 : am_S 14 0 1 (.iconst 0, 0, 0, 0, 0) := ⟨by decide +kernel, rfl⟩
theorem s14_1 : am_S 14 1 2 (.istore_n 1, 0, 0, 0, 0) := ⟨by decide +kernel, rfl⟩
theorem s14_2 : am_S 14 2 3 (.iconst 0, 0, 0, 0, 0) := ⟨by decide +kernel, rfl⟩
theorem s14_3 : am_S 14 3 4 (.istore_n 2, 0, 0, 0, 0) := ⟨by decide +kernel, rfl⟩
theorem s14_4 : am_S 14 4 5 (.iload_n 2, 0, 0, 0, 0) := ⟨by decide +kernel, rfl⟩
theorem s14_5 : am_S 14 5 7 (.bipush 10, 0, 0, 0, 0) := ⟨by decide +kernel, rfl⟩
theorem s14_7 : am_S 14 7 10 (.if_icmp .ge 18, 0, 0, 0, 0) := ⟨by decide +kernel, rfl⟩
theorem s14_10 : am_S 14 10 11 (.iload_n 1, 0, 0, 0, 0) := ⟨by decide +kernel, rfl⟩
theorem s14_11 : am_S 14 11 12 (.aload_n 0, 0, 0, 0, 0) := ⟨by decide +kernel, rfl⟩
theorem s14_12 : am_S 14 12 15 (.getfield 9, 5, 6, 526, 0) := ⟨by decide +kernel, rfl⟩
theorem s14_15 : am_S 14 15 16 (.iload_n 2, 0, 0, 0, 0) := ⟨by decide +kernel, rfl⟩
theorem s14_16 : am_S 14 16 17 (.iaload, 0, 0, 0, 0) := ⟨by decide +kernel, rfl⟩
theorem s14_17 : am_S 14 17 18 (.iadd, 0, 0, 0, 0) := ⟨by decide +kernel, rfl⟩
theorem s14_18 : am_S 14 18 19 (.istore_n 1, 0, 0, 0, 0) := ⟨by decide +kernel, rfl⟩
theorem s14_19 : am_S 14 19 22 (.iinc 2 1, 0, 0, 0, 0) := ⟨by decide +kernel, rfl⟩
theorem s14_22 : am_S 14 22 25 (.goto (-18), 0, 0, 0, 0) := ⟨by decide +kernel, rfl⟩
theorem s14_25 : am_S 14 25 26 (.iload_n 1, 0, 0, 0, 0) := ⟨by decide +kernel, rfl⟩
theorem s14_26 : am_S 14 26 27 (.ireturn, 0, 0, 0, 0) := ⟨by decide +kernel, rfl⟩
theorem s15_0 : am_S 15 0 1 (.aload_n 0, 0, 0, 0, 0) := ⟨by decide +kernel, rfl⟩
theorem s15_1 : am_S 15 1 4 (.getfield 26, 5, 1, 516, 0) := ⟨by decide +kernel, rfl⟩
theorem s15_4 : am_S 15 4 6 (.bipush 10, 0, 0, 0, 0) := ⟨by decide +kernel, rfl⟩
theorem s15_6 : am_S 15 6 7 (.iadd, 0, 0, 0, 0) := ⟨by decide +kernel, rfl⟩
theorem s15_7 : am_S 15 7 8 (.iconst 1, 0, 0, 0, 0) := ⟨by decide +kernel, rfl⟩
theorem s15_8 : am_S 15 8 9 (.isub, 0, 0, 0, 0) := ⟨by decide +kernel, rfl⟩
theorem s15_9 : am_S 15 9 11 (.bipush 10, 0, 0, 0, 0) := ⟨by decide +kernel, rfl⟩
theorem s15_11 : am_S 15 11 12 (.idiv, 0, 0, 0, 0) := ⟨by decide +kernel, rfl⟩
theorem s15_12 : am_S 15 12 13 (.ireturn, 0, 0, 0, 0) := ⟨by decide +kernel, rfl⟩
theorem s16_0 : am_S 16 0 1 (.aload_n 0, 0, 0, 0, 0) := ⟨by decide +kernel, rfl⟩
theorem s16_1 : am_S 16 1 4 (.getfield 9, 5, 6, 526, 0) := ⟨by decide +kernel, rfl⟩
theorem s16_4 : am_S 16 4 5 (.iload_n 1, 0, 0, 0, 0) := ⟨by decide +kernel, rfl⟩
theorem s16_5 : am_S 16 5 6 (.dup2, 0, 0, 0, 0) := ⟨by decide +kernel, rfl⟩
theorem s16_6 : am_S 16 6 7 (.iaload, 0, 0, 0, 0) := ⟨by decide +kernel, rfl⟩
theorem s16_7 : am_S 16 7 8 (.iconst 1, 0, 0, 0, 0) := ⟨by decide +kernel, rfl⟩
theorem s16_8 : am_S 16 8 9 (.iadd, 0, 0, 0, 0) := ⟨by decide +kernel, rfl⟩
theorem s16_9 : am_S 16 9 10 (.iastore, 0, 0, 0, 0) := ⟨by decide +kernel, rfl⟩
theorem s16_10 : am_S 16 10 11 (.aload_n 0, 0, 0, 0, 0) := ⟨by decide +kernel, rfl⟩
theorem s16_11 : am_S 16 11 14 (.getfield 15, 5, 7, 528, 0) := ⟨by decide +kernel, rfl⟩
theorem s16_14 : am_S 16 14 15 (.iload_n 1, 0, 0, 0, 0) := ⟨by decide +kernel, rfl⟩
theorem s16_15 : am_S 16 15 16 (.iload_n 2, 0, 0, 0, 0) := ⟨by decide +kernel, rfl⟩
theorem s16_16 : am_S 16 16 17 (.iastore, 0, 0, 0, 0) := ⟨by decide +kernel, rfl⟩
theorem s16_17 : am_S 16 17 18 (.return_, 0, 0, 0, 0) := ⟨by decide +kernel, rfl⟩
theorem s17_0 : am_S 17 0 1 (.aload_n 0, 0, 0, 0, 0) := ⟨by decide +kernel, rfl⟩
theorem s17_1 : am_S 17 1 4 (.invokespecial 3, 0, 0, 148, 0) := ⟨by decide +kernel, rfl⟩
theorem s17_4 : am_S 17 4 5 (.aload_n 0, 0, 0, 0, 0) := ⟨by decide +kernel, rfl⟩
theorem s17_5 : am_S 17 5 7 (.bipush 10, 0, 0, 0, 0) := ⟨by decide +kernel, rfl⟩
theorem s17_7 : am_S 17 7 9 (.newarray .int, 0, 0, 0, 0) := ⟨by decide +kernel, rfl⟩
theorem s17_9 : am_S 17 9 12 (.putfield 9, 6, 0, 149, 0) := ⟨by decide +kernel, rfl⟩
theorem s17_12 : am_S 17 12 13 (.aload_n 0, 0, 0, 0, 0) := ⟨by decide +kernel, rfl⟩
theorem s17_13 : am_S 17 13 14 (.iconst 0, 0, 0, 0, 0) := ⟨by decide +kernel, rfl⟩
theorem s17_14 : am_S 17 14 17 (.putfield 15, 6, 1, 150, 0) := ⟨by decide +kernel, rfl⟩
theorem s17_17 : am_S 17 17 18 (.aload_n 0, 0, 0, 0, 0) := ⟨by decide +kernel, rfl⟩
theorem s17_18 : am_S 17 18 19 (.iconst 0, 0, 0, 0, 0) := ⟨by decide +kernel, rfl⟩
theorem s17_19 : am_S 17 19 21 (.newarray .int, 0, 0, 0, 0) := ⟨by decide +kernel, rfl⟩
theorem s17_21 : am_S 17 21 24 (.putfield 19, 6, 2, 151, 0) := ⟨by decide +kernel, rfl⟩
theorem s17_24 : am_S 17 24 25 (.aload_n 0, 0, 0, 0, 0) := ⟨by decide +kernel, rfl⟩
theorem s17_25 : am_S 17 25 26 (.iconst 0, 0, 0, 0, 0) := ⟨by decide +kernel, rfl⟩
theorem s17_26 : am_S 17 26 29 (.putfield 22, 6, 3, 152, 0) := ⟨by decide +kernel, rfl⟩
theorem s17_29 : am_S 17 29 30 (.return_, 0, 0, 0, 0) := ⟨by decide +kernel, rfl⟩
theorem s18_0 : am_S 18 0 1 (.iload_n 1, 0, 0, 0, 0) := ⟨by decide +kernel, rfl⟩
theorem s18_1 : am_S 18 1 4 (.ifCond .lt 20, 0, 0, 0, 0) := ⟨by decide +kernel, rfl⟩
theorem s18_4 : am_S 18 4 5 (.iload_n 1, 0, 0, 0, 0) := ⟨by decide +kernel, rfl⟩
theorem s18_5 : am_S 18 5 6 (.aload_n 0, 0, 0, 0, 0) := ⟨by decide +kernel, rfl⟩
theorem s18_6 : am_S 18 6 9 (.getfield 15, 6, 1, 150, 0) := ⟨by decide +kernel, rfl⟩
theorem s18_9 : am_S 18 9 12 (.if_icmp .ge 12, 0, 0, 0, 0) := ⟨by decide +kernel, rfl⟩
theorem s18_12 : am_S 18 12 13 (.aload_n 0, 0, 0, 0, 0) := ⟨by decide +kernel, rfl⟩
theorem s18_13 : am_S 18 13 16 (.getfield 9, 6, 0, 149, 0) := ⟨by decide +kernel, rfl⟩
theorem s18_16 : am_S 18 16 17 (.iload_n 1, 0, 0, 0, 0) := ⟨by decide +kernel, rfl⟩
theorem s18_17 : am_S 18 17 18 (.iaload, 0, 0, 0, 0) := ⟨by decide +kernel, rfl⟩
theorem s18_18 : am_S 18 18 21 (.goto 5, 0, 0, 0, 0) := ⟨by decide +kernel, rfl⟩
theorem s18_21 : am_S 18 21 23 (.bipush (-9), 0, 0, 0, 0) := ⟨by decide +kernel, rfl⟩
theorem s18_23 : am_S 18 23 24 (.ireturn, 0, 0, 0, 0) := ⟨by decide +kernel, rfl⟩
theorem s19_0 : am_S 19 0 1 (.aload_n 0, 0, 0, 0, 0) := ⟨by decide +kernel, rfl⟩
theorem s19_1 : am_S 19 1 4 (.getfield 22, 6, 3, 152, 0) := ⟨by decide +kernel, rfl⟩
theorem s19_4 : am_S 19 4 5 (.aload_n 1, 0, 0, 0, 0) := ⟨by decide +kernel, rfl⟩
theorem s19_5 : am_S 19 5 8 (.invokevirtual 25, 191, 0, 776, 0) := ⟨by decide +kernel, rfl⟩
theorem s19_8 : am_S 19 8 11 (.if_icmp .eq 8, 0, 0, 0, 0) := ⟨by decide +kernel, rfl⟩
theorem s19_11 : am_S 19 11 12 (.aload_n 0, 0, 0, 0, 0) := ⟨by decide +kernel, rfl⟩
theorem s19_12 : am_S 19 12 13 (.aload_n 1, 0, 0, 0, 0) := ⟨by decide +kernel, rfl⟩
theorem s19_13 : am_S 19 13 16 (.invokevirtual 31, 30, 1, 777, 0) := ⟨by decide +kernel, rfl⟩
theorem s19_16 : am_S 19 16 17 (.iload_n 3, 0, 0, 0, 0) := ⟨by decide +kernel, rfl⟩
theorem s19_17 : am_S 19 17 19 (.istore 4, 0, 0, 0, 0) := ⟨by decide +kernel, rfl⟩
theorem s19_19 : am_S 19 19 20 (.iload_n 2, 0, 0, 0, 0) := ⟨by decide +kernel, rfl⟩
theorem s19_20 : am_S 19 20 22 (.istore 5, 0, 0, 0, 0) := ⟨by decide +kernel, rfl⟩
theorem s19_22 : am_S 19 22 23 (.iconst 0, 0, 0, 0, 0) := ⟨by decide +kernel, rfl⟩
theorem s19_23 : am_S 19 23 25 (.istore 6, 0, 0, 0, 0) := ⟨by decide +kernel, rfl⟩
theorem s19_25 : am_S 19 25 26 (.aload_n 0, 0, 0, 0, 0) := ⟨by decide +kernel, rfl⟩
theorem s19_26 : am_S 19 26 27 (.iload_n 3, 0, 0, 0, 0) := ⟨by decide +kernel, rfl⟩
theorem s19_27 : am_S 19 27 30 (.invokestatic 35, 185, 1, 792, 0) := ⟨by decide +kernel, rfl⟩
theorem s19_30 : am_S 19 30 33 (.putfield 15, 6, 1, 150, 0) := ⟨by decide +kernel, rfl⟩
theorem s19_33 : am_S 19 33 34 (.iconst 0, 0, 0, 0, 0) := ⟨by decide +kernel, rfl⟩
theorem s19_34 : am_S 19 34 36 (.istore 7, 0, 0, 0, 0) := ⟨by decide +kernel, rfl⟩
theorem s19_36 : am_S 19 36 38 (.iload 7, 0, 0, 0, 0) := ⟨by decide +kernel, rfl⟩
theorem s19_38 : am_S 19 38 39 (.aload_n 0, 0, 0, 0, 0) := ⟨by decide +kernel, rfl⟩
theorem s19_39 : am_S 19 39 42 (.getfield 15, 6, 1, 150, 0) := ⟨by decide +kernel, rfl⟩
theorem s19_42 : am_S 19 42 45 (.if_icmp .ge 68, 0, 0, 0, 0) := ⟨by decide +kernel, rfl⟩
theorem s19_45 : am_S 19 45 46 (.aload_n 0, 0, 0, 0, 0) := ⟨by decide +kernel, rfl⟩
theorem s19_46 : am_S 19 46 47 (.aload_n 1, 0, 0, 0, 0) := ⟨by decide +kernel, rfl⟩
theorem s19_47 : am_S 19 47 49 (.iload 5, 0, 0, 0, 0) := ⟨by decide +kernel, rfl⟩
theorem s19_49 : am_S 19 49 51 (.iload 4, 0, 0, 0, 0) := ⟨by decide +kernel, rfl⟩
theorem s19_51 : am_S 19 51 54 (.invokevirtual 41, 31, 3, 781, 0) := ⟨by decide +kernel, rfl⟩
theorem s19_54 : am_S 19 54 56 (.istore 8, 0, 0, 0, 0) := ⟨by decide +kernel, rfl⟩
theorem s19_56 : am_S 19 56 58 (.iload 6, 0, 0, 0, 0) := ⟨by decide +kernel, rfl⟩
theorem s19_58 : am_S 19 58 59 (.aload_n 1, 0, 0, 0, 0) := ⟨by decide +kernel, rfl⟩
theorem s19_59 : am_S 19 59 61 (.iload 5, 0, 0, 0, 0) := ⟨by decide +kernel, rfl⟩
theorem s19_61 : am_S 19 61 64 (.invokevirtual 45, 194, 1, 789, 0) := ⟨by decide +kernel, rfl⟩
theorem s19_64 : am_S 19 64 67 (.checkcast 49, 8, 0, 790, 0) := ⟨by decide +kernel, rfl⟩
theorem s19_67 : am_S 19 67 68 (.aload_n 1, 0, 0, 0, 0) := ⟨by decide +kernel, rfl⟩
theorem s19_68 : am_S 19 68 70 (.iload 8, 0, 0, 0, 0) := ⟨by decide +kernel, rfl⟩
theorem s19_70 : am_S 19 70 73 (.invokevirtual 45, 194, 1, 789, 0) := ⟨by decide +kernel, rfl⟩
theorem s19_73 : am_S 19 73 76 (.checkcast 49, 8, 0, 790, 0) := ⟨by decide +kernel, rfl⟩
theorem s19_76 : am_S 19 76 79 (.invokevirtual 51, 46, 1, 791, 0) := ⟨by decide +kernel, rfl⟩
theorem s19_79 : am_S 19 79 80 (.iadd, 0, 0, 0, 0) := ⟨by decide +kernel, rfl⟩
theorem s19_80 : am_S 19 80 82 (.istore 6, 0, 0, 0, 0) := ⟨by decide +kernel, rfl⟩
theorem s19_82 : am_S 19 82 83 (.aload_n 0, 0, 0, 0, 0) := ⟨by decide +kernel, rfl⟩
theorem s19_83 : am_S 19 83 86 (.getfield 9, 6, 0, 149, 0) := ⟨by decide +kernel, rfl⟩
theorem s19_86 : am_S 19 86 88 (.iload 7, 0, 0, 0, 0) := ⟨by decide +kernel, rfl⟩
theorem s19_88 : am_S 19 88 90 (.iload 8, 0, 0, 0, 0) := ⟨by decide +kernel, rfl⟩
theorem s19_90 : am_S 19 90 91 (.iastore, 0, 0, 0, 0) := ⟨by decide +kernel, rfl⟩
theorem s19_91 : am_S 19 91 93 (.iload 4, 0, 0, 0, 0) := ⟨by decide +kernel, rfl⟩
theorem s19_93 : am_S 19 93 94 (.iconst 1, 0, 0, 0, 0) := ⟨by decide +kernel, rfl⟩
theorem s19_94 : am_S 19 94 96 (.iload 8, 0, 0, 0, 0) := ⟨by decide +kernel, rfl⟩
theorem s19_96 : am_S 19 96 97 (.ishl, 0, 0, 0, 0) := ⟨by decide +kernel, rfl⟩
theorem s19_97 : am_S 19 97 98 (.ixor, 0, 0, 0, 0) := ⟨by decide +kernel, rfl⟩
theorem s19_98 : am_S 19 98 100 (.istore 4, 0, 0, 0, 0) := ⟨by decide +kernel, rfl⟩
theorem s19_100 : am_S 19 100 102 (.iload 8, 0, 0, 0, 0) := ⟨by decide +kernel, rfl⟩
theorem s19_102 : am_S 19 102 104 (.istore 5, 0, 0, 0, 0) := ⟨by decide +kernel, rfl⟩
theorem s19_104 : am_S 19 104 107 (.iinc 7 1, 0, 0, 0, 0) := ⟨by decide +kernel, rfl⟩
theorem s19_107 : am_S 19 107 110 (.goto (-71), 0, 0, 0, 0) := ⟨by decide +kernel, rfl⟩
theorem s19_110 : am_S 19 110 112 (.iload 6, 0, 0, 0, 0) := ⟨by decide +kernel, rfl⟩
theorem s19_112 : am_S 19 112 113 (.ireturn, 0, 0, 0, 0) := ⟨by decide +kernel, rfl⟩
theorem s20_0 : am_S 20 0 1 (.aload_n 0, 0, 0, 0, 0) := ⟨by decide +kernel, rfl⟩
theorem s20_1 : am_S 20 1 2 (.aload_n 1, 0, 0, 0, 0) := ⟨by decide +kernel, rfl⟩
theorem s20_2 : am_S 20 2 5 (.invokevirtual 25, 191, 0, 776, 0) := ⟨by decide +kernel, rfl⟩
theorem s20_5 : am_S 20 5 8 (.putfield 22, 6, 3, 152, 0) := ⟨by decide +kernel, rfl⟩
theorem s20_8 : am_S 20 8 9 (.aload_n 0, 0, 0, 0, 0) := ⟨by decide +kernel, rfl⟩
theorem s20_9 : am_S 20 9 10 (.iconst 1, 0, 0, 0, 0) := ⟨by decide +kernel, rfl⟩
theorem s20_10 : am_S 20 10 11 (.aload_n 0, 0, 0, 0, 0) := ⟨by decide +kernel, rfl⟩
theorem s20_11 : am_S 20 11 14 (.getfield 22, 6, 3, 152, 0) := ⟨by decide +kernel, rfl⟩
theorem s20_14 : am_S 20 14 15 (.ishl, 0, 0, 0, 0) := ⟨by decide +kernel, rfl⟩
theorem s20_15 : am_S 20 15 17 (.bipush 10, 0, 0, 0, 0) := ⟨by decide +kernel, rfl⟩
theorem s20_17 : am_S 20 17 18 (.imul, 0, 0, 0, 0) := ⟨by decide +kernel, rfl⟩
theorem s20_18 : am_S 20 18 20 (.newarray .int, 0, 0, 0, 0) := ⟨by decide +kernel, rfl⟩
theorem s20_20 : am_S 20 20 23 (.putfield 19, 6, 2, 151, 0) := ⟨by decide +kernel, rfl⟩
theorem s20_23 : am_S 20 23 24 (.iconst 1, 0, 0, 0, 0) := ⟨by decide +kernel, rfl⟩
theorem s20_24 : am_S 20 24 25 (.istore_n 2, 0, 0, 0, 0) := ⟨by decide +kernel, rfl⟩
theorem s20_25 : am_S 20 25 26 (.iload_n 2, 0, 0, 0, 0) := ⟨by decide +kernel, rfl⟩
theorem s20_26 : am_S 20 26 27 (.iconst 1, 0, 0, 0, 0) := ⟨by decide +kernel, rfl⟩
theorem s20_27 : am_S 20 27 28 (.aload_n 0, 0, 0, 0, 0) := ⟨by decide +kernel, rfl⟩
theorem s20_28 : am_S 20 28 31 (.getfield 22, 6, 3, 152, 0) := ⟨by decide +kernel, rfl⟩
theorem s20_31 : am_S 20 31 32 (.ishl, 0, 0, 0, 0) := ⟨by decide +kernel, rfl⟩
theorem s20_32 : am_S 20 32 35 (.if_icmp .ge 62, 0, 0, 0, 0) := ⟨by decide +kernel, rfl⟩
theorem s20_35 : am_S 20 35 36 (.iconst 0, 0, 0, 0, 0) := ⟨by decide +kernel, rfl⟩
theorem s20_36 : am_S 20 36 37 (.istore_n 3, 0, 0, 0, 0) := ⟨by decide +kernel, rfl⟩
theorem s20_37 : am_S 20 37 38 (.iload_n 3, 0, 0, 0, 0) := ⟨by decide +kernel, rfl⟩
theorem s20_38 : am_S 20 38 39 (.aload_n 0, 0, 0, 0, 0) := ⟨by decide +kernel, rfl⟩
theorem s20_39 : am_S 20 39 42 (.getfield 22, 6, 3, 152, 0) := ⟨by decide +kernel, rfl⟩
theorem s20_42 : am_S 20 42 45 (.if_icmp .ge 46, 0, 0, 0, 0) := ⟨by decide +kernel, rfl⟩
theorem s20_45 : am_S 20 45 46 (.iload_n 2, 0, 0, 0, 0) := ⟨by decide +kernel, rfl⟩
theorem s20_46 : am_S 20 46 47 (.iload_n 3, 0, 0, 0, 0) := ⟨by decide +kernel, rfl⟩
theorem s20_47 : am_S 20 47 48 (.ishr, 0, 0, 0, 0) := ⟨by decide +kernel, rfl⟩
theorem s20_48 : am_S 20 48 49 (.iconst 1, 0, 0, 0, 0) := ⟨by decide +kernel, rfl⟩
theorem s20_49 : am_S 20 49 50 (.iand, 0, 0, 0, 0) := ⟨by decide +kernel, rfl⟩
theorem s20_50 : am_S 20 50 53 (.ifCond .ne 32, 0, 0, 0, 0) := ⟨by decide +kernel, rfl⟩
theorem s20_53 : am_S 20 53 54 (.aload_n 0, 0, 0, 0, 0) := ⟨by decide +kernel, rfl⟩
theorem s20_54 : am_S 20 54 55 (.aload_n 1, 0, 0, 0, 0) := ⟨by decide +kernel, rfl⟩
theorem s20_55 : am_S 20 55 56 (.iload_n 3, 0, 0, 0, 0) := ⟨by decide +kernel, rfl⟩
theorem s20_56 : am_S 20 56 57 (.iload_n 2, 0, 0, 0, 0) := ⟨by decide +kernel, rfl⟩
theorem s20_57 : am_S 20 57 60 (.invokevirtual 41, 31, 3, 781, 0) := ⟨by decide +kernel, rfl⟩
theorem s20_60 : am_S 20 60 62 (.istore 4, 0, 0, 0, 0) := ⟨by decide +kernel, rfl⟩
theorem s20_62 : am_S 20 62 63 (.aload_n 0, 0, 0, 0, 0) := ⟨by decide +kernel, rfl⟩
theorem s20_63 : am_S 20 63 66 (.getfield 19, 6, 2, 151, 0) := ⟨by decide +kernel, rfl⟩
theorem s20_66 : am_S 20 66 67 (.iload_n 2, 0, 0, 0, 0) := ⟨by decide +kernel, rfl⟩
theorem s20_67 : am_S 20 67 69 (.bipush 10, 0, 0, 0, 0) := ⟨by decide +kernel, rfl⟩
theorem s20_69 : am_S 20 69 70 (.imul, 0, 0, 0, 0) := ⟨by decide +kernel, rfl⟩
theorem s20_70 : am_S 20 70 71 (.iload_n 3, 0, 0, 0, 0) := ⟨by decide +kernel, rfl⟩
theorem s20_71 : am_S 20 71 72 (.iadd, 0, 0, 0, 0) := ⟨by decide +kernel, rfl⟩
theorem s20_72 : am_S 20 72 73 (.aload_n 0, 0, 0, 0, 0) := ⟨by decide +kernel, rfl⟩
theorem s20_73 : am_S 20 73 74 (.aload_n 1, 0, 0, 0, 0) := ⟨by decide +kernel, rfl⟩
theorem s20_74 : am_S 20 74 75 (.iload_n 3, 0, 0, 0, 0) := ⟨by decide +kernel, rfl⟩
theorem s20_75 : am_S 20 75 77 (.iload 4, 0, 0, 0, 0) := ⟨by decide +kernel, rfl⟩
theorem s20_77 : am_S 20 77 78 (.iload_n 2, 0, 0, 0, 0) := ⟨by decide +kernel, rfl⟩
theorem s20_78 : am_S 20 78 81 (.invokevirtual 55, 32, 4, 785, 0) := ⟨by decide +kernel, rfl⟩
theorem s20_81 : am_S 20 81 82 (.iastore, 0, 0, 0, 0) := ⟨by decide +kernel, rfl⟩
theorem s20_82 : am_S 20 82 85 (.iinc 3 1, 0, 0, 0, 0) := ⟨by decide +kernel, rfl⟩
theorem s20_85 : am_S 20 85 88 (.goto (-48), 0, 0, 0, 0) := ⟨by decide +kernel, rfl⟩
theorem s20_88 : am_S 20 88 91 (.iinc 2 1, 0, 0, 0, 0) := ⟨by decide +kernel, rfl⟩
theorem s20_91 : am_S 20 91 94 (.goto (-66), 0, 0, 0, 0) := ⟨by decide +kernel, rfl⟩
theorem s20_94 : am_S 20 94 95 (.return_, 0, 0, 0, 0) := ⟨by decide +kernel, rfl⟩
theorem s21_0 : am_S 21 0 3 (.sipush 1201, 0, 0, 0, 0) := ⟨by decide +kernel, rfl⟩
theorem s21_3 : am_S 21 3 5 (.istore 4, 0, 0, 0, 0) := ⟨by decide +kernel, rfl⟩
theorem s21_5 : am_S 21 5 6 (.iconst 0, 0, 0, 0, 0) := ⟨by decide +kernel, rfl⟩
theorem s21_6 : am_S 21 6 8 (.istore 5, 0, 0, 0, 0) := ⟨by decide +kernel, rfl⟩
theorem s21_8 : am_S 21 8 9 (.iconst 0, 0, 0, 0, 0) := ⟨by decide +kernel, rfl⟩
theorem s21_9 : am_S 21 9 11 (.istore 6, 0, 0, 0, 0) := ⟨by decide +kernel, rfl⟩
theorem s21_11 : am_S 21 11 13 (.iload 6, 0, 0, 0, 0) := ⟨by decide +kernel, rfl⟩
theorem s21_13 : am_S 21 13 14 (.aload_n 0, 0, 0, 0, 0) := ⟨by decide +kernel, rfl⟩
theorem s21_14 : am_S 21 14 17 (.getfield 22, 6, 3, 152, 0) := ⟨by decide +kernel, rfl⟩
theorem s21_17 : am_S 21 17 20 (.if_icmp .ge 45, 0, 0, 0, 0) := ⟨by decide +kernel, rfl⟩
theorem s21_20 : am_S 21 20 21 (.iload_n 3, 0, 0, 0, 0) := ⟨by decide +kernel, rfl⟩
theorem s21_21 : am_S 21 21 23 (.iload 6, 0, 0, 0, 0) := ⟨by decide +kernel, rfl⟩
theorem s21_23 : am_S 21 23 24 (.ishr, 0, 0, 0, 0) := ⟨by decide +kernel, rfl⟩
theorem s21_24 : am_S 21 24 25 (.iconst 1, 0, 0, 0, 0) := ⟨by decide +kernel, rfl⟩
theorem s21_25 : am_S 21 25 26 (.iand, 0, 0, 0, 0) := ⟨by decide +kernel, rfl⟩
theorem s21_26 : am_S 21 26 27 (.iconst 1, 0, 0, 0, 0) := ⟨by decide +kernel, rfl⟩
theorem s21_27 : am_S 21 27 30 (.if_icmp .ne 29, 0, 0, 0, 0) := ⟨by decide +kernel, rfl⟩
theorem s21_30 : am_S 21 30 31 (.aload_n 0, 0, 0, 0, 0) := ⟨by decide +kernel, rfl⟩
theorem s21_31 : am_S 21 31 32 (.aload_n 1, 0, 0, 0, 0) := ⟨by decide +kernel, rfl⟩
theorem s21_32 : am_S 21 32 33 (.iload_n 2, 0, 0, 0, 0) := ⟨by decide +kernel, rfl⟩
theorem s21_33 : am_S 21 33 35 (.iload 6, 0, 0, 0, 0) := ⟨by decide +kernel, rfl⟩
theorem s21_35 : am_S 21 35 36 (.iload_n 3, 0, 0, 0, 0) := ⟨by decide +kernel, rfl⟩
theorem s21_36 : am_S 21 36 39 (.invokevirtual 55, 32, 4, 785, 0) := ⟨by decide +kernel, rfl⟩
theorem s21_39 : am_S 21 39 41 (.istore 7, 0, 0, 0, 0) := ⟨by decide +kernel, rfl⟩
theorem s21_41 : am_S 21 41 43 (.iload 7, 0, 0, 0, 0) := ⟨by decide +kernel, rfl⟩
theorem s21_43 : am_S 21 43 45 (.iload 4, 0, 0, 0, 0) := ⟨by decide +kernel, rfl⟩
theorem s21_45 : am_S 21 45 48 (.if_icmp .ge 11, 0, 0, 0, 0) := ⟨by decide +kernel, rfl⟩
theorem s21_48 : am_S 21 48 50 (.iload 7, 0, 0, 0, 0) := ⟨by decide +kernel, rfl⟩
theorem s21_50 : am_S 21 50 52 (.istore 4, 0, 0, 0, 0) := ⟨by decide +kernel, rfl⟩
theorem s21_52 : am_S 21 52 54 (.iload 6, 0, 0, 0, 0) := ⟨by decide +kernel, rfl⟩
theorem s21_54 : am_S 21 54 56 (.istore 5, 0, 0, 0, 0) := ⟨by decide +kernel, rfl⟩
theorem s21_56 : am_S 21 56 59 (.iinc 6 1, 0, 0, 0, 0) := ⟨by decide +kernel, rfl⟩
theorem s21_59 : am_S 21 59 62 (.goto (-48), 0, 0, 0, 0) := ⟨by decide +kernel, rfl⟩
theorem s21_62 : am_S 21 62 64 (.iload 5, 0, 0, 0, 0) := ⟨by decide +kernel, rfl⟩
theorem s21_64 : am_S 21 64 65 (.ireturn, 0, 0, 0, 0) := ⟨by decide +kernel, rfl⟩
theorem s22_0 : am_S 22 0 1 (.aload_n 1, 0, 0, 0, 0) := ⟨by decide +kernel, rfl⟩
theorem s22_1 : am_S 22 1 2 (.iload_n 2, 0, 0, 0, 0) := ⟨by decide +kernel, rfl⟩
theorem s22_2 : am_S 22 2 5 (.invokevirtual 45, 194, 1, 789, 0) := ⟨by decide +kernel, rfl⟩
theorem s22_5 : am_S 22 5 8 (.checkcast 49, 8, 0, 790, 0) := ⟨by decide +kernel, rfl⟩
theorem s22_8 : am_S 22 8 9 (.aload_n 1, 0, 0, 0, 0) := ⟨by decide +kernel, rfl⟩
theorem s22_9 : am_S 22 9 10 (.iload_n 3, 0, 0, 0, 0) := ⟨by decide +kernel, rfl⟩
theorem s22_10 : am_S 22 10 13 (.invokevirtual 45, 194, 1, 789, 0) := ⟨by decide +kernel, rfl⟩
theorem s22_13 : am_S 22 13 16 (.checkcast 49, 8, 0, 790, 0) := ⟨by decide +kernel, rfl⟩
theorem s22_16 : am_S 22 16 19 (.invokevirtual 51, 46, 1, 791, 0) := ⟨by decide +kernel, rfl⟩
theorem s22_19 : am_S 22 19 20 (.aload_n 0, 0, 0, 0, 0) := ⟨by decide +kernel, rfl⟩
theorem s22_20 : am_S 22 20 23 (.getfield 19, 6, 2, 151, 0) := ⟨by decide +kernel, rfl⟩
theorem s22_23 : am_S 22 23 25 (.iload 4, 0, 0, 0, 0) := ⟨by decide +kernel, rfl⟩
theorem s22_25 : am_S 22 25 26 (.iconst 1, 0, 0, 0, 0) := ⟨by decide +kernel, rfl⟩
theorem s22_26 : am_S 22 26 27 (.iload_n 3, 0, 0, 0, 0) := ⟨by decide +kernel, rfl⟩
theorem s22_27 : am_S 22 27 28 (.ishl, 0, 0, 0, 0) := ⟨by decide +kernel, rfl⟩
theorem s22_28 : am_S 22 28 29 (.ixor, 0, 0, 0, 0) := ⟨by decide +kernel, rfl⟩
theorem s22_29 : am_S 22 29 31 (.bipush 10, 0, 0, 0, 0) := ⟨by decide +kernel, rfl⟩
theorem s22_31 : am_S 22 31 32 (.imul, 0, 0, 0, 0) := ⟨by decide +kernel, rfl⟩
theorem s22_32 : am_S 22 32 33 (.iload_n 3, 0, 0, 0, 0) := ⟨by decide +kernel, rfl⟩
theorem s22_33 : am_S 22 33 34 (.iadd, 0, 0, 0, 0) := ⟨by decide +kernel, rfl⟩
theorem s22_34 : am_S 22 34 35 (.iaload, 0, 0, 0, 0) := ⟨by decide +kernel, rfl⟩
theorem s22_35 : am_S 22 35 36 (.iadd, 0, 0, 0, 0) := ⟨by decide +kernel, rfl⟩
theorem s22_36 : am_S 22 36 37 (.ireturn, 0, 0, 0, 0) := ⟨by decide +kernel, rfl⟩
theorem s23_0 : am_S 23 0 1 (.aload_n 0, 0, 0, 0, 0) := ⟨by decide +kernel, rfl⟩
theorem s23_1 : am_S 23 1 4 (.invokespecial 3, 0, 0, 112, 0) := ⟨by decide +kernel, rfl⟩
theorem s23_4 : am_S 23 4 5 (.aload_n 0, 0, 0, 0, 0) := ⟨by decide +kernel, rfl⟩
theorem s23_5 : am_S 23 5 7 (.bipush 80, 0, 0, 0, 0) := ⟨by decide +kernel, rfl⟩
theorem s23_7 : am_S 23 7 9 (.newarray .byte, 0, 0, 0, 0) := ⟨by decide +kernel, rfl⟩
theorem s23_9 : am_S 23 9 12 (.putfield 9, 7, 0, 113, 0) := ⟨by decide +kernel, rfl⟩
theorem s23_12 : am_S 23 12 13 (.aload_n 0, 0, 0, 0, 0) := ⟨by decide +kernel, rfl⟩
theorem s23_13 : am_S 23 13 14 (.iconst (-1), 0, 0, 0, 0) := ⟨by decide +kernel, rfl⟩
theorem s23_14 : am_S 23 14 17 (.putfield 15, 7, 1, 116, 0) := ⟨by decide +kernel, rfl⟩
theorem s23_17 : am_S 23 17 18 (.return_, 0, 0, 0, 0) := ⟨by decide +kernel, rfl⟩
theorem s24_0 : am_S 24 0 1 (.aload_n 0, 0, 0, 0, 0) := ⟨by decide +kernel, rfl⟩
theorem s24_1 : am_S 24 1 4 (.getfield 15, 7, 1, 116, 0) := ⟨by decide +kernel, rfl⟩
theorem s24_4 : am_S 24 4 5 (.iconst (-1), 0, 0, 0, 0) := ⟨by decide +kernel, rfl⟩
theorem s24_5 : am_S 24 5 8 (.if_icmp .ne 7, 0, 0, 0, 0) := ⟨by decide +kernel, rfl⟩
theorem s24_8 : am_S 24 8 9 (.iconst 1, 0, 0, 0, 0) := ⟨by decide +kernel, rfl⟩
theorem s24_9 : am_S 24 9 12 (.goto 4, 0, 0, 0, 0) := ⟨by decide +kernel, rfl⟩
theorem s24_12 : am_S 24 12 13 (.iconst 0, 0, 0, 0, 0) := ⟨by decide +kernel, rfl⟩
theorem s24_13 : am_S 24 13 14 (.ireturn, 0, 0, 0, 0) := ⟨by decide +kernel, rfl⟩
theorem s25_0 : am_S 25 0 1 (.aload_n 0, 0, 0, 0, 0) := ⟨by decide +kernel, rfl⟩
theorem s25_1 : am_S 25 1 2 (.iconst (-1), 0, 0, 0, 0) := ⟨by decide +kernel, rfl⟩
theorem s25_2 : am_S 25 2 5 (.putfield 15, 7, 1, 116, 0) := ⟨by decide +kernel, rfl⟩
theorem s25_5 : am_S 25 5 6 (.return_, 0, 0, 0, 0) := ⟨by decide +kernel, rfl⟩
theorem s26_0 : am_S 26 0 1 (.aload_n 0, 0, 0, 0, 0) := ⟨by decide +kernel, rfl⟩
theorem s26_1 : am_S 26 1 4 (.getfield 9, 7, 0, 113, 0) := ⟨by decide +kernel, rfl⟩
theorem s26_4 : am_S 26 4 5 (.iconst 0, 0, 0, 0, 0) := ⟨by decide +kernel, rfl⟩
theorem s26_5 : am_S 26 5 8 (.invokestatic 19, 198, 2, 405, 0) := ⟨by decide +kernel, rfl⟩
theorem s26_8 : am_S 26 8 9 (.aload_n 0, 0, 0, 0, 0) := ⟨by decide +kernel, rfl⟩
theorem s26_9 : am_S 26 9 10 (.iload_n 1, 0, 0, 0, 0) := ⟨by decide +kernel, rfl⟩
theorem s26_10 : am_S 26 10 13 (.putfield 15, 7, 1, 116, 0) := ⟨by decide +kernel, rfl⟩
theorem s26_13 : am_S 26 13 14 (.return_, 0, 0, 0, 0) := ⟨by decide +kernel, rfl⟩
theorem s27_0 : am_S 27 0 1 (.iload_n 1, 0, 0, 0, 0) := ⟨by decide +kernel, rfl⟩
theorem s27_1 : am_S 27 1 4 (.ifCond .lt 25, 0, 0, 0, 0) := ⟨by decide +kernel, rfl⟩
theorem s27_4 : am_S 27 4 5 (.iload_n 2, 0, 0, 0, 0) := ⟨by decide +kernel, rfl⟩
theorem s27_5 : am_S 27 5 6 (.aload_n 0, 0, 0, 0, 0) := ⟨by decide +kernel, rfl⟩
theorem s27_6 : am_S 27 6 9 (.getfield 15, 7, 1, 116, 0) := ⟨by decide +kernel, rfl⟩
theorem s27_9 : am_S 27 9 12 (.if_icmp .gt 17, 0, 0, 0, 0) := ⟨by decide +kernel, rfl⟩
theorem s27_12 : am_S 27 12 13 (.iload_n 1, 0, 0, 0, 0) := ⟨by decide +kernel, rfl⟩
theorem s27_13 : am_S 27 13 14 (.aload_n 0, 0, 0, 0, 0) := ⟨by decide +kernel, rfl⟩
theorem s27_14 : am_S 27 14 17 (.getfield 15, 7, 1, 116, 0) := ⟨by decide +kernel, rfl⟩
theorem s27_17 : am_S 27 17 18 (.iload_n 2, 0, 0, 0, 0) := ⟨by decide +kernel, rfl⟩
theorem s27_18 : am_S 27 18 19 (.isub, 0, 0, 0, 0) := ⟨by decide +kernel, rfl⟩
theorem s27_19 : am_S 27 19 22 (.if_icmp .gt 7, 0, 0, 0, 0) := ⟨by decide +kernel, rfl⟩
theorem s27_22 : am_S 27 22 23 (.iconst 1, 0, 0, 0, 0) := ⟨by decide +kernel, rfl⟩
theorem s27_23 : am_S 27 23 26 (.goto 4, 0, 0, 0, 0) := ⟨by decide +kernel, rfl⟩
theorem s27_26 : am_S 27 26 27 (.iconst 0, 0, 0, 0, 0) := ⟨by decide +kernel, rfl⟩
theorem s27_27 : am_S 27 27 28 (.ireturn, 0, 0, 0, 0) := ⟨by decide +kernel, rfl⟩
theorem s28_0 : am_S 28 0 1 (.aload_n 0, 0, 0, 0, 0) := ⟨by decide +kernel, rfl⟩
theorem s28_1 : am_S 28 1 4 (.getfield 9, 7, 0, 113, 0) := ⟨by decide +kernel, rfl⟩
theorem s28_4 : am_S 28 4 5 (.iload_n 1, 0, 0, 0, 0) := ⟨by decide +kernel, rfl⟩
theorem s28_5 : am_S 28 5 6 (.baload, 0, 0, 0, 0) := ⟨by decide +kernel, rfl⟩
theorem s28_6 : am_S 28 6 9 (.invokestatic 25, 43, 1, 445, 0) := ⟨by decide +kernel, rfl⟩
theorem s28_9 : am_S 28 9 12 (.ifCond .eq 25, 0, 0, 0, 0) := ⟨by decide +kernel, rfl⟩
theorem s28_12 : am_S 28 12 13 (.iload_n 1, 0, 0, 0, 0) := ⟨by decide +kernel, rfl⟩
theorem s28_13 : am_S 28 13 16 (.ifCond .eq 17, 0, 0, 0, 0) := ⟨by decide +kernel, rfl⟩
theorem s28_16 : am_S 28 16 17 (.aload_n 0, 0, 0, 0, 0) := ⟨by decide +kernel, rfl⟩
theorem s28_17 : am_S 28 17 20 (.getfield 9, 7, 0, 113, 0) := ⟨by decide +kernel, rfl⟩
theorem s28_20 : am_S 28 20 21 (.iload_n 1, 0, 0, 0, 0) := ⟨by decide +kernel, rfl⟩
theorem s28_21 : am_S 28 21 22 (.iconst 1, 0, 0, 0, 0) := ⟨by decide +kernel, rfl⟩
theorem s28_22 : am_S 28 22 23 (.isub, 0, 0, 0, 0) := ⟨by decide +kernel, rfl⟩
theorem s28_23 : am_S 28 23 24 (.baload, 0, 0, 0, 0) := ⟨by decide +kernel, rfl⟩
theorem s28_24 : am_S 28 24 27 (.invokestatic 25, 43, 1, 445, 0) := ⟨by decide +kernel, rfl⟩
theorem s28_27 : am_S 28 27 30 (.ifCond .ne 7, 0, 0, 0, 0) := ⟨by decide +kernel, rfl⟩
theorem s28_30 : am_S 28 30 31 (.iconst 1, 0, 0, 0, 0) := ⟨by decide +kernel, rfl⟩
theorem s28_31 : am_S 28 31 34 (.goto 4, 0, 0, 0, 0) := ⟨by decide +kernel, rfl⟩
theorem s28_34 : am_S 28 34 35 (.iconst 0, 0, 0, 0, 0) := ⟨by decide +kernel, rfl⟩
theorem s28_35 : am_S 28 35 36 (.ireturn, 0, 0, 0, 0) := ⟨by decide +kernel, rfl⟩
theorem s29_0 : am_S 29 0 1 (.iload_n 1, 0, 0, 0, 0) := ⟨by decide +kernel, rfl⟩
theorem s29_1 : am_S 29 1 2 (.istore_n 2, 0, 0, 0, 0) := ⟨by decide +kernel, rfl⟩
theorem s29_2 : am_S 29 2 3 (.iload_n 2, 0, 0, 0, 0) := ⟨by decide +kernel, rfl⟩
theorem s29_3 : am_S 29 3 4 (.aload_n 0, 0, 0, 0, 0) := ⟨by decide +kernel, rfl⟩
theorem s29_4 : am_S 29 4 7 (.getfield 15, 7, 1, 116, 0) := ⟨by decide +kernel, rfl⟩
theorem s29_7 : am_S 29 7 10 (.if_icmp .ge 21, 0, 0, 0, 0) := ⟨by decide +kernel, rfl⟩
theorem s29_10 : am_S 29 10 11 (.aload_n 0, 0, 0, 0, 0) := ⟨by decide +kernel, rfl⟩
theorem s29_11 : am_S 29 11 14 (.getfield 9, 7, 0, 113, 0) := ⟨by decide +kernel, rfl⟩
theorem s29_14 : am_S 29 14 15 (.iload_n 2, 0, 0, 0, 0) := ⟨by decide +kernel, rfl⟩
theorem s29_15 : am_S 29 15 16 (.baload, 0, 0, 0, 0) := ⟨by decide +kernel, rfl⟩
theorem s29_16 : am_S 29 16 19 (.invokestatic 25, 43, 1, 445, 0) := ⟨by decide +kernel, rfl⟩
theorem s29_19 : am_S 29 19 22 (.ifCond .eq 9, 0, 0, 0, 0) := ⟨by decide +kernel, rfl⟩
theorem s29_22 : am_S 29 22 25 (.iinc 2 1, 0, 0, 0, 0) := ⟨by decide +kernel, rfl⟩
theorem s29_25 : am_S 29 25 28 (.goto (-23), 0, 0, 0, 0) := ⟨by decide +kernel, rfl⟩
theorem s29_28 : am_S 29 28 29 (.iload_n 2, 0, 0, 0, 0) := ⟨by decide +kernel, rfl⟩
theorem s29_29 : am_S 29 29 30 (.iload_n 1, 0, 0, 0, 0) := ⟨by decide +kernel, rfl⟩
theorem s29_30 : am_S 29 30 31 (.isub, 0, 0, 0, 0) := ⟨by decide +kernel, rfl⟩
theorem s29_31 : am_S 29 31 32 (.ireturn, 0, 0, 0, 0) := ⟨by decide +kernel, rfl⟩
theorem s30_0 : am_S 30 0 1 (.iconst 0, 0, 0, 0, 0) := ⟨by decide +kernel, rfl⟩
theorem s30_1 : am_S 30 1 2 (.istore_n 1, 0, 0, 0, 0) := ⟨by decide +kernel, rfl⟩
theorem s30_2 : am_S 30 2 3 (.iconst 0, 0, 0, 0, 0) := ⟨by decide +kernel, rfl⟩
theorem s30_3 : am_S 30 3 4 (.istore_n 2, 0, 0, 0, 0) := ⟨by decide +kernel, rfl⟩
theorem s30_4 : am_S 30 4 5 (.iload_n 2, 0, 0, 0, 0) := ⟨by decide +kernel, rfl⟩
theorem s30_5 : am_S 30 5 6 (.aload_n 0, 0, 0, 0, 0) := ⟨by decide +kernel, rfl⟩
theorem s30_6 : am_S 30 6 9 (.getfield 15, 7, 1, 116, 0) := ⟨by decide +kernel, rfl⟩
theorem s30_9 : am_S 30 9 12 (.if_icmp .ge 45, 0, 0, 0, 0) := ⟨by decide +kernel, rfl⟩
theorem s30_12 : am_S 30 12 13 (.aload_n 0, 0, 0, 0, 0) := ⟨by decide +kernel, rfl⟩
theorem s30_13 : am_S 30 13 14 (.iload_n 2, 0, 0, 0, 0) := ⟨by decide +kernel, rfl⟩
theorem s30_14 : am_S 30 14 17 (.invokevirtual 29, 38, 1, 441, 0) := ⟨by decide +kernel, rfl⟩
theorem s30_17 : am_S 30 17 20 (.ifCond .eq 31, 0, 0, 0, 0) := ⟨by decide +kernel, rfl⟩
theorem s30_20 : am_S 30 20 21 (.iload_n 1, 0, 0, 0, 0) := ⟨by decide +kernel, rfl⟩
theorem s30_21 : am_S 30 21 22 (.aload_n 0, 0, 0, 0, 0) := ⟨by decide +kernel, rfl⟩
theorem s30_22 : am_S 30 22 25 (.getfield 9, 7, 0, 113, 0) := ⟨by decide +kernel, rfl⟩
theorem s30_25 : am_S 30 25 26 (.iload_n 2, 0, 0, 0, 0) := ⟨by decide +kernel, rfl⟩
theorem s30_26 : am_S 30 26 27 (.baload, 0, 0, 0, 0) := ⟨by decide +kernel, rfl⟩
theorem s30_27 : am_S 30 27 30 (.invokestatic 32, 42, 1, 448, 0) := ⟨by decide +kernel, rfl⟩
theorem s30_30 : am_S 30 30 33 (.ifCond .eq 15, 0, 0, 0, 0) := ⟨by decide +kernel, rfl⟩
theorem s30_33 : am_S 30 33 34 (.aload_n 0, 0, 0, 0, 0) := ⟨by decide +kernel, rfl⟩
theorem s30_34 : am_S 30 34 35 (.iload_n 2, 0, 0, 0, 0) := ⟨by decide +kernel, rfl⟩
theorem s30_35 : am_S 30 35 38 (.invokevirtual 35, 39, 1, 451, 0) := ⟨by decide +kernel, rfl⟩
theorem s30_38 : am_S 30 38 39 (.iconst 2, 0, 0, 0, 0) := ⟨by decide +kernel, rfl⟩
theorem s30_39 : am_S 30 39 40 (.iadd, 0, 0, 0, 0) := ⟨by decide +kernel, rfl⟩
theorem s30_40 : am_S 30 40 41 (.iconst 3, 0, 0, 0, 0) := ⟨by decide +kernel, rfl⟩
theorem s30_41 : am_S 30 41 42 (.idiv, 0, 0, 0, 0) := ⟨by decide +kernel, rfl⟩
theorem s30_42 : am_S 30 42 45 (.goto 4, 0, 0, 0, 0) := ⟨by decide +kernel, rfl⟩
theorem s30_45 : am_S 30 45 46 (.iconst 1, 0, 0, 0, 0) := ⟨by decide +kernel, rfl⟩
theorem s30_46 : am_S 30 46 47 (.iadd, 0, 0, 0, 0) := ⟨by decide +kernel, rfl⟩
theorem s30_47 : am_S 30 47 48 (.istore_n 1, 0, 0, 0, 0) := ⟨by decide +kernel, rfl⟩
theorem s30_48 : am_S 30 48 51 (.iinc 2 1, 0, 0, 0, 0) := ⟨by decide +kernel, rfl⟩
theorem s30_51 : am_S 30 51 54 (.goto (-47), 0, 0, 0, 0) := ⟨by decide +kernel, rfl⟩
theorem s30_54 : am_S 30 54 55 (.iload_n 1, 0, 0, 0, 0) := ⟨by decide +kernel, rfl⟩
theorem s30_55 : am_S 30 55 56 (.ireturn, 0, 0, 0, 0) := ⟨by decide +kernel, rfl⟩
theorem s31_0 : am_S 31 0 3 (.ldc2_w 39, 0, 0, 830, 31) := ⟨by decide +kernel, rfl⟩
theorem s31_3 : am_S 31 3 4 (.lload_n 1, 0, 0, 0, 0) := ⟨by decide +kernel, rfl⟩
theorem s31_4 : am_S 31 4 5 (.lmul, 0, 0, 0, 0) := ⟨by decide +kernel, rfl⟩
theorem s31_5 : am_S 31 5 6 (.aload_n 0, 0, 0, 0, 0) := ⟨by decide +kernel, rfl⟩
theorem s31_6 : am_S 31 6 9 (.getfield 15, 7, 1, 116, 0) := ⟨by decide +kernel, rfl⟩
theorem s31_9 : am_S 31 9 10 (.i2l, 0, 0, 0, 0) := ⟨by decide +kernel, rfl⟩
theorem s31_10 : am_S 31 10 11 (.ladd, 0, 0, 0, 0) := ⟨by decide +kernel, rfl⟩
theorem s31_11 : am_S 31 11 12 (.lstore_n 3, 0, 0, 0, 0) := ⟨by decide +kernel, rfl⟩
theorem s31_12 : am_S 31 12 13 (.iconst 0, 0, 0, 0, 0) := ⟨by decide +kernel, rfl⟩
theorem s31_13 : am_S 31 13 15 (.istore 5, 0, 0, 0, 0) := ⟨by decide +kernel, rfl⟩
theorem s31_15 : am_S 31 15 17 (.iload 5, 0, 0, 0, 0) := ⟨by decide +kernel, rfl⟩
theorem s31_17 : am_S 31 17 18 (.aload_n 0, 0, 0, 0, 0) := ⟨by decide +kernel, rfl⟩
theorem s31_18 : am_S 31 18 21 (.getfield 15, 7, 1, 116, 0) := ⟨by decide +kernel, rfl⟩
theorem s31_21 : am_S 31 21 24 (.if_icmp .ge 24, 0, 0, 0, 0) := ⟨by decide +kernel, rfl⟩
theorem s31_24 : am_S 31 24 27 (.ldc2_w 39, 0, 0, 830, 31) := ⟨by decide +kernel, rfl⟩
theorem s31_27 : am_S 31 27 28 (.lload_n 3, 0, 0, 0, 0) := ⟨by decide +kernel, rfl⟩
theorem s31_28 : am_S 31 28 29 (.lmul, 0, 0, 0, 0) := ⟨by decide +kernel, rfl⟩
theorem s31_29 : am_S 31 29 30 (.aload_n 0, 0, 0, 0, 0) := ⟨by decide +kernel, rfl⟩
theorem s31_30 : am_S 31 30 33 (.getfield 9, 7, 0, 113, 0) := ⟨by decide +kernel, rfl⟩
theorem s31_33 : am_S 31 33 35 (.iload 5, 0, 0, 0, 0) := ⟨by decide +kernel, rfl⟩
theorem s31_35 : am_S 31 35 36 (.baload, 0, 0, 0, 0) := ⟨by decide +kernel, rfl⟩
theorem s31_36 : am_S 31 36 37 (.i2l, 0, 0, 0, 0) := ⟨by decide +kernel, rfl⟩
theorem s31_37 : am_S 31 37 38 (.ladd, 0, 0, 0, 0) := ⟨by decide +kernel, rfl⟩
theorem s31_38 : am_S 31 38 39 (.lstore_n 3, 0, 0, 0, 0) := ⟨by decide +kernel, rfl⟩
theorem s31_39 : am_S 31 39 42 (.iinc 5 1, 0, 0, 0, 0) := ⟨by decide +kernel, rfl⟩
theorem s31_42 : am_S 31 42 45 (.goto (-27), 0, 0, 0, 0) := ⟨by decide +kernel, rfl⟩
theorem s31_45 : am_S 31 45 46 (.lload_n 3, 0, 0, 0, 0) := ⟨by decide +kernel, rfl⟩
theorem s31_46 : am_S 31 46 47 (.lreturn, 0, 0, 0, 0) := ⟨by decide +kernel, rfl⟩
theorem s32_0 : am_S 32 0 1 (.iload_n 0, 0, 0, 0, 0) := ⟨by decide +kernel, rfl⟩
theorem s32_1 : am_S 32 1 3 (.bipush 48, 0, 0, 0, 0) := ⟨by decide +kernel, rfl⟩
theorem s32_3 : am_S 32 3 6 (.if_icmp .lt 13, 0, 0, 0, 0) := ⟨by decide +kernel, rfl⟩
theorem s32_6 : am_S 32 6 7 (.iload_n 0, 0, 0, 0, 0) := ⟨by decide +kernel, rfl⟩
theorem s32_7 : am_S 32 7 9 (.bipush 57, 0, 0, 0, 0) := ⟨by decide +kernel, rfl⟩
theorem s32_9 : am_S 32 9 12 (.if_icmp .gt 7, 0, 0, 0, 0) := ⟨by decide +kernel, rfl⟩
theorem s32_12 : am_S 32 12 13 (.iconst 1, 0, 0, 0, 0) := ⟨by decide +kernel, rfl⟩
theorem s32_13 : am_S 32 13 16 (.goto 4, 0, 0, 0, 0) := ⟨by decide +kernel, rfl⟩
theorem s32_16 : am_S 32 16 17 (.iconst 0, 0, 0, 0, 0) := ⟨by decide +kernel, rfl⟩
theorem s32_17 : am_S 32 17 18 (.ireturn, 0, 0, 0, 0) := ⟨by decide +kernel, rfl⟩
theorem s33_0 : am_S 33 0 1 (.iload_n 0, 0, 0, 0, 0) := ⟨by decide +kernel, rfl⟩
theorem s33_1 : am_S 33 1 4 (.invokestatic 32, 42, 1, 448, 0) := ⟨by decide +kernel, rfl⟩
theorem s33_4 : am_S 33 4 7 (.ifCond .ne 27, 0, 0, 0, 0) := ⟨by decide +kernel, rfl⟩
theorem s33_7 : am_S 33 7 8 (.iload_n 0, 0, 0, 0, 0) := ⟨by decide +kernel, rfl⟩
theorem s33_8 : am_S 33 8 10 (.bipush 97, 0, 0, 0, 0) := ⟨by decide +kernel, rfl⟩
theorem s33_10 : am_S 33 10 13 (.if_icmp .lt 9, 0, 0, 0, 0) := ⟨by decide +kernel, rfl⟩
theorem s33_13 : am_S 33 13 14 (.iload_n 0, 0, 0, 0, 0) := ⟨by decide +kernel, rfl⟩
theorem s33_14 : am_S 33 14 16 (.bipush 122, 0, 0, 0, 0) := ⟨by decide +kernel, rfl⟩
theorem s33_16 : am_S 33 16 19 (.if_icmp .le 15, 0, 0, 0, 0) := ⟨by decide +kernel, rfl⟩
theorem s33_19 : am_S 33 19 20 (.iload_n 0, 0, 0, 0, 0) := ⟨by decide +kernel, rfl⟩
theorem s33_20 : am_S 33 20 22 (.bipush 65, 0, 0, 0, 0) := ⟨by decide +kernel, rfl⟩
theorem s33_22 : am_S 33 22 25 (.if_icmp .lt 13, 0, 0, 0, 0) := ⟨by decide +kernel, rfl⟩
theorem s33_25 : am_S 33 25 26 (.iload_n 0, 0, 0, 0, 0) := ⟨by decide +kernel, rfl⟩
theorem s33_26 : am_S 33 26 28 (.bipush 90, 0, 0, 0, 0) := ⟨by decide +kernel, rfl⟩
theorem s33_28 : am_S 33 28 31 (.if_icmp .gt 7, 0, 0, 0, 0) := ⟨by decide +kernel, rfl⟩
theorem s33_31 : am_S 33 31 32 (.iconst 1, 0, 0, 0, 0) := ⟨by decide +kernel, rfl⟩
theorem s33_32 : am_S 33 32 35 (.goto 4, 0, 0, 0, 0) := ⟨by decide +kernel, rfl⟩
theorem s33_35 : am_S 33 35 36 (.iconst 0, 0, 0, 0, 0) := ⟨by decide +kernel, rfl⟩
theorem s33_36 : am_S 33 36 37 (.ireturn, 0, 0, 0, 0) := ⟨by decide +kernel, rfl⟩
theorem s34_0 : am_S 34 0 1 (.iload_n 0, 0, 0, 0, 0) := ⟨by decide +kernel, rfl⟩
theorem s34_1 : am_S 34 1 3 (.bipush 65, 0, 0, 0, 0) := ⟨by decide +kernel, rfl⟩
theorem s34_3 : am_S 34 3 6 (.if_icmp .lt 19, 0, 0, 0, 0) := ⟨by decide +kernel, rfl⟩
theorem s34_6 : am_S 34 6 7 (.iload_n 0, 0, 0, 0, 0) := ⟨by decide +kernel, rfl⟩
theorem s34_7 : am_S 34 7 9 (.bipush 90, 0, 0, 0, 0) := ⟨by decide +kernel, rfl⟩
theorem s34_9 : am_S 34 9 12 (.if_icmp .gt 13, 0, 0, 0, 0) := ⟨by decide +kernel, rfl⟩
theorem s34_12 : am_S 34 12 13 (.iload_n 0, 0, 0, 0, 0) := ⟨by decide +kernel, rfl⟩
theorem s34_13 : am_S 34 13 15 (.bipush 65, 0, 0, 0, 0) := ⟨by decide +kernel, rfl⟩
theorem s34_15 : am_S 34 15 16 (.isub, 0, 0, 0, 0) := ⟨by decide +kernel, rfl⟩
theorem s34_16 : am_S 34 16 18 (.bipush 97, 0, 0, 0, 0) := ⟨by decide +kernel, rfl⟩
theorem s34_18 : am_S 34 18 19 (.iadd, 0, 0, 0, 0) := ⟨by decide +kernel, rfl⟩
theorem s34_19 : am_S 34 19 22 (.goto 4, 0, 0, 0, 0) := ⟨by decide +kernel, rfl⟩
theorem s34_22 : am_S 34 22 23 (.iload_n 0, 0, 0, 0, 0) := ⟨by decide +kernel, rfl⟩
theorem s34_23 : am_S 34 23 24 (.ireturn, 0, 0, 0, 0) := ⟨by decide +kernel, rfl⟩
theorem s35_0 : am_S 35 0 1 (.aload_n 0, 0, 0, 0, 0) := ⟨by decide +kernel, rfl⟩
theorem s35_1 : am_S 35 1 4 (.invokespecial 1, 0, 0, 224, 0) := ⟨by decide +kernel, rfl⟩
theorem s35_4 : am_S 35 4 5 (.aload_n 0, 0, 0, 0, 0) := ⟨by decide +kernel, rfl⟩
theorem s35_5 : am_S 35 5 6 (.iload_n 1, 0, 0, 0, 0) := ⟨by decide +kernel, rfl⟩
theorem s35_6 : am_S 35 6 9 (.putfield 7, 8, 0, 225, 0) := ⟨by decide +kernel, rfl⟩
theorem s35_9 : am_S 35 9 10 (.aload_n 0, 0, 0, 0, 0) := ⟨by decide +kernel, rfl⟩
theorem s35_10 : am_S 35 10 11 (.iload_n 2, 0, 0, 0, 0) := ⟨by decide +kernel, rfl⟩
theorem s35_11 : am_S 35 11 14 (.putfield 13, 8, 1, 226, 0) := ⟨by decide +kernel, rfl⟩
theorem s35_14 : am_S 35 14 15 (.aload_n 0, 0, 0, 0, 0) := ⟨by decide +kernel, rfl⟩
theorem s35_15 : am_S 35 15 16 (.iload_n 3, 0, 0, 0, 0) := ⟨by decide +kernel, rfl⟩
theorem s35_16 : am_S 35 16 19 (.putfield 16, 8, 2, 227, 0) := ⟨by decide +kernel, rfl⟩
theorem s35_19 : am_S 35 19 20 (.return_, 0, 0, 0, 0) := ⟨by decide +kernel, rfl⟩
theorem s36_0 : am_S 36 0 1 (.aload_n 0, 0, 0, 0, 0) := ⟨by decide +kernel, rfl⟩
theorem s36_1 : am_S 36 1 4 (.getfield 7, 8, 0, 225, 0) := ⟨by decide +kernel, rfl⟩
theorem s36_4 : am_S 36 4 5 (.aload_n 1, 0, 0, 0, 0) := ⟨by decide +kernel, rfl⟩
theorem s36_5 : am_S 36 5 8 (.getfield 7, 8, 0, 225, 0) := ⟨by decide +kernel, rfl⟩
theorem s36_8 : am_S 36 8 9 (.isub, 0, 0, 0, 0) := ⟨by decide +kernel, rfl⟩
theorem s36_9 : am_S 36 9 12 (.invokestatic 19, 4, 0, 324, 0) := ⟨by decide +kernel, rfl⟩
theorem s36_12 : am_S 36 12 13 (.aload_n 0, 0, 0, 0, 0) := ⟨by decide +kernel, rfl⟩
theorem s36_13 : am_S 36 13 16 (.getfield 13, 8, 1, 226, 0) := ⟨by decide +kernel, rfl⟩
theorem s36_16 : am_S 36 16 17 (.aload_n 1, 0, 0, 0, 0) := ⟨by decide +kernel, rfl⟩
theorem s36_17 : am_S 36 17 20 (.getfield 13, 8, 1, 226, 0) := ⟨by decide +kernel, rfl⟩
theorem s36_20 : am_S 36 20 21 (.isub, 0, 0, 0, 0) := ⟨by decide +kernel, rfl⟩
theorem s36_21 : am_S 36 21 24 (.invokestatic 19, 4, 0, 324, 0) := ⟨by decide +kernel, rfl⟩
theorem s36_24 : am_S 36 24 25 (.iadd, 0, 0, 0, 0) := ⟨by decide +kernel, rfl⟩
theorem s36_25 : am_S 36 25 26 (.ireturn, 0, 0, 0, 0) := ⟨by decide +kernel, rfl⟩
theorem s37_0 : am_S 37 0 1 (.aload_n 0, 0, 0, 0, 0) := ⟨by decide +kernel, rfl⟩
theorem s37_1 : am_S 37 1 4 (.getfield 16, 8, 2, 227, 0) := ⟨by decide +kernel, rfl⟩
theorem s37_4 : am_S 37 4 5 (.iload_n 1, 0, 0, 0, 0) := ⟨by decide +kernel, rfl⟩
theorem s37_5 : am_S 37 5 7 (.bipush 7, 0, 0, 0, 0) := ⟨by decide +kernel, rfl⟩
theorem s37_7 : am_S 37 7 8 (.irem, 0, 0, 0, 0) := ⟨by decide +kernel, rfl⟩
theorem s37_8 : am_S 37 8 9 (.ishr, 0, 0, 0, 0) := ⟨by decide +kernel, rfl⟩
theorem s37_9 : am_S 37 9 10 (.iconst 1, 0, 0, 0, 0) := ⟨by decide +kernel, rfl⟩
theorem s37_10 : am_S 37 10 11 (.iand, 0, 0, 0, 0) := ⟨by decide +kernel, rfl⟩
theorem s37_11 : am_S 37 11 12 (.iconst 1, 0, 0, 0, 0) := ⟨by decide +kernel, rfl⟩
theorem s37_12 : am_S 37 12 15 (.if_icmp .ne 7, 0, 0, 0, 0) := ⟨by decide +kernel, rfl⟩
theorem s37_15 : am_S 37 15 16 (.iconst 1, 0, 0, 0, 0) := ⟨by decide +kernel, rfl⟩
theorem s37_16 : am_S 37 16 19 (.goto 4, 0, 0, 0, 0) := ⟨by decide +kernel, rfl⟩
theorem s37_19 : am_S 37 19 20 (.iconst 0, 0, 0, 0, 0) := ⟨by decide +kernel, rfl⟩
theorem s37_20 : am_S 37 20 21 (.ireturn, 0, 0, 0, 0) := ⟨by decide +kernel, rfl⟩
theorem s38_0 : am_S 38 0 1 (.aload_n 0, 0, 0, 0, 0) := ⟨by decide +kernel, rfl⟩
theorem s38_1 : am_S 38 1 4 (.invokespecial 1, 0, 0, 730, 0) := ⟨by decide +kernel, rfl⟩
theorem s38_4 : am_S 38 4 5 (.aload_n 0, 0, 0, 0, 0) := ⟨by decide +kernel, rfl⟩
theorem s38_5 : am_S 38 5 6 (.iload_n 1, 0, 0, 0, 0) := ⟨by decide +kernel, rfl⟩
theorem s38_6 : am_S 38 6 9 (.putfield 7, 9, 0, 731, 0) := ⟨by decide +kernel, rfl⟩
theorem s38_9 : am_S 38 9 10 (.aload_n 0, 0, 0, 0, 0) := ⟨by decide +kernel, rfl⟩
theorem s38_10 : am_S 38 10 11 (.iload_n 2, 0, 0, 0, 0) := ⟨by decide +kernel, rfl⟩
theorem s38_11 : am_S 38 11 14 (.putfield 13, 9, 1, 733, 0) := ⟨by decide +kernel, rfl⟩
theorem s38_14 : am_S 38 14 15 (.aload_n 0, 0, 0, 0, 0) := ⟨by decide +kernel, rfl⟩
theorem s38_15 : am_S 38 15 16 (.iload_n 3, 0, 0, 0, 0) := ⟨by decide +kernel, rfl⟩
theorem s38_16 : am_S 38 16 19 (.putfield 16, 9, 2, 735, 0) := ⟨by decide +kernel, rfl⟩
theorem s38_19 : am_S 38 19 20 (.aload_n 0, 0, 0, 0, 0) := ⟨by decide +kernel, rfl⟩
theorem s38_20 : am_S 38 20 22 (.iload 4, 0, 0, 0, 0) := ⟨by decide +kernel, rfl⟩
theorem s38_22 : am_S 38 22 25 (.putfield 19, 9, 3, 737, 0) := ⟨by decide +kernel, rfl⟩
theorem s38_25 : am_S 38 25 26 (.aload_n 0, 0, 0, 0, 0) := ⟨by decide +kernel, rfl⟩
theorem s38_26 : am_S 38 26 28 (.iload 5, 0, 0, 0, 0) := ⟨by decide +kernel, rfl⟩
theorem s38_28 : am_S 38 28 31 (.putfield 22, 9, 4, 739, 0) := ⟨by decide +kernel, rfl⟩
theorem s38_31 : am_S 38 31 32 (.return_, 0, 0, 0, 0) := ⟨by decide +kernel, rfl⟩
theorem s39_0 : am_S 39 0 1 (.aload_n 0, 0, 0, 0, 0) := ⟨by decide +kernel, rfl⟩
theorem s39_1 : am_S 39 1 4 (.invokespecial 1, 0, 0, 77, 0) := ⟨by decide +kernel, rfl⟩
theorem s39_4 : am_S 39 4 5 (.aload_n 0, 0, 0, 0, 0) := ⟨by decide +kernel, rfl⟩
theorem s39_5 : am_S 39 5 8 (.new 7, 0, 81, 80, 54) := ⟨by decide +kernel, rfl⟩
theorem s39_8 : am_S 39 8 9 (.dup, 0, 0, 0, 0) := ⟨by decide +kernel, rfl⟩
theorem s39_9 : am_S 39 9 12 (.invokespecial 9, 188, 0, 82, 0) := ⟨by decide +kernel, rfl⟩
theorem s39_12 : am_S 39 12 15 (.putfield 10, 10, 0, 165, 0) := ⟨by decide +kernel, rfl⟩
theorem s39_15 : am_S 39 15 16 (.aload_n 0, 0, 0, 0, 0) := ⟨by decide +kernel, rfl⟩
theorem s39_16 : am_S 39 16 19 (.new 7, 0, 81, 80, 54) := ⟨by decide +kernel, rfl⟩
theorem s39_19 : am_S 39 19 20 (.dup, 0, 0, 0, 0) := ⟨by decide +kernel, rfl⟩
theorem s39_20 : am_S 39 20 23 (.invokespecial 9, 188, 0, 82, 0) := ⟨by decide +kernel, rfl⟩
theorem s39_23 : am_S 39 23 26 (.putfield 16, 10, 1, 166, 0) := ⟨by decide +kernel, rfl⟩
theorem s39_26 : am_S 39 26 27 (.aload_n 0, 0, 0, 0, 0) := ⟨by decide +kernel, rfl⟩
theorem s39_27 : am_S 39 27 30 (.new 7, 0, 81, 80, 54) := ⟨by decide +kernel, rfl⟩
theorem s39_30 : am_S 39 30 31 (.dup, 0, 0, 0, 0) := ⟨by decide +kernel, rfl⟩
theorem s39_31 : am_S 39 31 34 (.invokespecial 9, 188, 0, 82, 0) := ⟨by decide +kernel, rfl⟩
theorem s39_34 : am_S 39 34 37 (.putfield 19, 10, 2, 167, 0) := ⟨by decide +kernel, rfl⟩
theorem s39_37 : am_S 39 37 38 (.aload_n 0, 0, 0, 0, 0) := ⟨by decide +kernel, rfl⟩
theorem s39_38 : am_S 39 38 41 (.new 7, 0, 81, 80, 54) := ⟨by decide +kernel, rfl⟩
theorem s39_41 : am_S 39 41 42 (.dup, 0, 0, 0, 0) := ⟨by decide +kernel, rfl⟩
theorem s39_42 : am_S 39 42 45 (.invokespecial 9, 188, 0, 82, 0) := ⟨by decide +kernel, rfl⟩
theorem s39_45 : am_S 39 45 48 (.putfield 22, 10, 3, 168, 0) := ⟨by decide +kernel, rfl⟩
theorem s39_48 : am_S 39 48 49 (.aload_n 0, 0, 0, 0, 0) := ⟨by decide +kernel, rfl⟩
theorem s39_49 : am_S 39 49 52 (.new 7, 0, 81, 80, 54) := ⟨by decide +kernel, rfl⟩
theorem s39_52 : am_S 39 52 53 (.dup, 0, 0, 0, 0) := ⟨by decide +kernel, rfl⟩
theorem s39_53 : am_S 39 53 56 (.invokespecial 9, 188, 0, 82, 0) := ⟨by decide +kernel, rfl⟩
theorem s39_56 : am_S 39 56 59 (.putfield 25, 10, 4, 169, 0) := ⟨by decide +kernel, rfl⟩
theorem s39_59 : am_S 39 59 60 (.aload_n 0, 0, 0, 0, 0) := ⟨by decide +kernel, rfl⟩
theorem s39_60 : am_S 39 60 63 (.new 7, 0, 81, 80, 54) := ⟨by decide +kernel, rfl⟩
theorem s39_63 : am_S 39 63 64 (.dup, 0, 0, 0, 0) := ⟨by decide +kernel, rfl⟩
theorem s39_64 : am_S 39 64 67 (.invokespecial 9, 188, 0, 82, 0) := ⟨by decide +kernel, rfl⟩
theorem s39_67 : am_S 39 67 70 (.putfield 28, 10, 5, 170, 0) := ⟨by decide +kernel, rfl⟩
theorem s39_70 : am_S 39 70 71 (.aload_n 0, 0, 0, 0, 0) := ⟨by decide +kernel, rfl⟩
theorem s39_71 : am_S 39 71 72 (.iconst 4, 0, 0, 0, 0) := ⟨by decide +kernel, rfl⟩
theorem s39_72 : am_S 39 72 75 (.anewarray 31, 4, 0, 106, 0) := ⟨by decide +kernel, rfl⟩
theorem s39_75 : am_S 39 75 78 (.putfield 33, 10, 6, 171, 0) := ⟨by decide +kernel, rfl⟩
theorem s39_78 : am_S 39 78 79 (.iconst 0, 0, 0, 0, 0) := ⟨by decide +kernel, rfl⟩
theorem s39_79 : am_S 39 79 80 (.istore_n 1, 0, 0, 0, 0) := ⟨by decide +kernel, rfl⟩
theorem s39_80 : am_S 39 80 81 (.iload_n 1, 0, 0, 0, 0) := ⟨by decide +kernel, rfl⟩
theorem s39_81 : am_S 39 81 82 (.iconst 4, 0, 0, 0, 0) := ⟨by decide +kernel, rfl⟩
theorem s39_82 : am_S 39 82 85 (.if_icmp .ge 22, 0, 0, 0, 0) := ⟨by decide +kernel, rfl⟩
theorem s39_85 : am_S 39 85 86 (.aload_n 0, 0, 0, 0, 0) := ⟨by decide +kernel, rfl⟩
theorem s39_86 : am_S 39 86 89 (.getfield 33, 10, 6, 171, 0) := ⟨by decide +kernel, rfl⟩
theorem s39_89 : am_S 39 89 90 (.iload_n 1, 0, 0, 0, 0) := ⟨by decide +kernel, rfl⟩
theorem s39_90 : am_S 39 90 93 (.new 31, 7, 108, 106, 55) := ⟨by decide +kernel, rfl⟩
theorem s39_93 : am_S 39 93 94 (.dup, 0, 0, 0, 0) := ⟨by decide +kernel, rfl⟩
theorem s39_94 : am_S 39 94 97 (.invokespecial 37, 33, 0, 109, 1) := ⟨by decide +kernel, rfl⟩
theorem s39_97 : am_S 39 97 98 (.aastore, 0, 0, 0, 0) := ⟨by decide +kernel, rfl⟩
theorem s39_98 : am_S 39 98 101 (.iinc 1 1, 0, 0, 0, 0) := ⟨by decide +kernel, rfl⟩
theorem s39_101 : am_S 39 101 104 (.goto (-21), 0, 0, 0, 0) := ⟨by decide +kernel, rfl⟩
theorem s39_104 : am_S 39 104 105 (.aload_n 0, 0, 0, 0, 0) := ⟨by decide +kernel, rfl⟩
theorem s39_105 : am_S 39 105 108 (.new 38, 1, 126, 125, 56) := ⟨by decide +kernel, rfl⟩
theorem s39_108 : am_S 39 108 109 (.dup, 0, 0, 0, 0) := ⟨by decide +kernel, rfl⟩
theorem s39_109 : am_S 39 109 112 (.invokespecial 40, 10, 0, 127, 1) := ⟨by decide +kernel, rfl⟩
theorem s39_112 : am_S 39 112 115 (.putfield 41, 10, 7, 172, 0) := ⟨by decide +kernel, rfl⟩
theorem s39_115 : am_S 39 115 116 (.aload_n 0, 0, 0, 0, 0) := ⟨by decide +kernel, rfl⟩
theorem s39_116 : am_S 39 116 119 (.new 45, 6, 144, 143, 57) := ⟨by decide +kernel, rfl⟩
theorem s39_119 : am_S 39 119 120 (.dup, 0, 0, 0, 0) := ⟨by decide +kernel, rfl⟩
theorem s39_120 : am_S 39 120 123 (.invokespecial 47, 27, 0, 145, 1) := ⟨by decide +kernel, rfl⟩
theorem s39_123 : am_S 39 123 126 (.putfield 48, 10, 8, 173, 0) := ⟨by decide +kernel, rfl⟩
theorem s39_126 : am_S 39 126 127 (.aload_n 0, 0, 0, 0, 0) := ⟨by decide +kernel, rfl⟩
theorem s39_127 : am_S 39 127 129 (.bipush 6, 0, 0, 0, 0) := ⟨by decide +kernel, rfl⟩
theorem s39_129 : am_S 39 129 131 (.newarray .int, 0, 0, 0, 0) := ⟨by decide +kernel, rfl⟩
theorem s39_131 : am_S 39 131 134 (.putfield 52, 10, 9, 174, 0) := ⟨by decide +kernel, rfl⟩
theorem s39_134 : am_S 39 134 135 (.aload_n 0, 0, 0, 0, 0) := ⟨by decide +kernel, rfl⟩
theorem s39_135 : am_S 39 135 138 (.getfield 52, 10, 9, 174, 0) := ⟨by decide +kernel, rfl⟩
theorem s39_138 : am_S 39 138 139 (.iconst 1, 0, 0, 0, 0) := ⟨by decide +kernel, rfl⟩
theorem s39_139 : am_S 39 139 142 (.invokestatic 56, 197, 2, 162, 0) := ⟨by decide +kernel, rfl⟩
theorem s39_142 : am_S 39 142 143 (.aload_n 0, 0, 0, 0, 0) := ⟨by decide +kernel, rfl⟩
theorem s39_143 : am_S 39 143 145 (.bipush 6, 0, 0, 0, 0) := ⟨by decide +kernel, rfl⟩
theorem s39_145 : am_S 39 145 147 (.newarray .int, 0, 0, 0, 0) := ⟨by decide +kernel, rfl⟩
theorem s39_147 : am_S 39 147 150 (.putfield 62, 10, 10, 175, 0) := ⟨by decide +kernel, rfl⟩
theorem s39_150 : am_S 39 150 151 (.aload_n 0, 0, 0, 0, 0) := ⟨by decide +kernel, rfl⟩
theorem s39_151 : am_S 39 151 152 (.iconst 0, 0, 0, 0, 0) := ⟨by decide +kernel, rfl⟩
theorem s39_152 : am_S 39 152 155 (.putfield 65, 10, 11, 176, 0) := ⟨by decide +kernel, rfl⟩
theorem s39_155 : am_S 39 155 156 (.aload_n 0, 0, 0, 0, 0) := ⟨by decide +kernel, rfl⟩
theorem s39_156 : am_S 39 156 157 (.iconst 0, 0, 0, 0, 0) := ⟨by decide +kernel, rfl⟩
theorem s39_157 : am_S 39 157 160 (.putfield 69, 10, 12, 177, 0) := ⟨by decide +kernel, rfl⟩
theorem s39_160 : am_S 39 160 161 (.aload_n 0, 0, 0, 0, 0) := ⟨by decide +kernel, rfl⟩
theorem s39_161 : am_S 39 161 162 (.iconst 5, 0, 0, 0, 0) := ⟨by decide +kernel, rfl⟩
theorem s39_162 : am_S 39 162 165 (.putfield 72, 10, 13, 178, 0) := ⟨by decide +kernel, rfl⟩
theorem s39_165 : am_S 39 165 166 (.return_, 0, 0, 0, 0) := ⟨by decide +kernel, rfl⟩
theorem s40_0 : am_S 40 0 1 (.iload_n 1, 0, 0, 0, 0) := ⟨by decide +kernel, rfl⟩
theorem s40_1 : am_S 40 1 2 (.iconst 0, 0, 0, 0, 0) := ⟨by decide +kernel, rfl⟩
theorem s40_2 : am_S 40 2 4 (.bipush 60, 0, 0, 0, 0) := ⟨by decide +kernel, rfl⟩
theorem s40_4 : am_S 40 4 7 (.invokestatic 75, 87, 3, 212, 0) := ⟨by decide +kernel, rfl⟩
theorem s40_7 : am_S 40 7 10 (.ifCond .eq 23, 0, 0, 0, 0) := ⟨by decide +kernel, rfl⟩
theorem s40_10 : am_S 40 10 11 (.iload_n 2, 0, 0, 0, 0) := ⟨by decide +kernel, rfl⟩
theorem s40_11 : am_S 40 11 12 (.iconst 0, 0, 0, 0, 0) := ⟨by decide +kernel, rfl⟩
theorem s40_12 : am_S 40 12 14 (.bipush 60, 0, 0, 0, 0) := ⟨by decide +kernel, rfl⟩
theorem s40_14 : am_S 40 14 17 (.invokestatic 75, 87, 3, 212, 0) := ⟨by decide +kernel, rfl⟩
theorem s40_17 : am_S 40 17 20 (.ifCond .eq 13, 0, 0, 0, 0) := ⟨by decide +kernel, rfl⟩
theorem s40_20 : am_S 40 20 21 (.iload_n 3, 0, 0, 0, 0) := ⟨by decide +kernel, rfl⟩
theorem s40_21 : am_S 40 21 22 (.iconst 0, 0, 0, 0, 0) := ⟨by decide +kernel, rfl⟩
theorem s40_22 : am_S 40 22 24 (.bipush 127, 0, 0, 0, 0) := ⟨by decide +kernel, rfl⟩
theorem s40_24 : am_S 40 24 27 (.invokestatic 75, 87, 3, 212, 0) := ⟨by decide +kernel, rfl⟩
theorem s40_27 : am_S 40 27 30 (.ifCond .ne 5, 0, 0, 0, 0) := ⟨by decide +kernel, rfl⟩
theorem s40_30 : am_S 40 30 31 (.iconst (-1), 0, 0, 0, 0) := ⟨by decide +kernel, rfl⟩
theorem s40_31 : am_S 40 31 32 (.ireturn, 0, 0, 0, 0) := ⟨by decide +kernel, rfl⟩
theorem s40_32 : am_S 40 32 33 (.aload_n 0, 0, 0, 0, 0) := ⟨by decide +kernel, rfl⟩
theorem s40_33 : am_S 40 33 36 (.getfield 10, 10, 0, 165, 0) := ⟨by decide +kernel, rfl⟩
theorem s40_36 : am_S 40 36 39 (.invokevirtual 79, 191, 0, 215, 0) := ⟨by decide +kernel, rfl⟩
theorem s40_39 : am_S 40 39 41 (.bipush 10, 0, 0, 0, 0) := ⟨by decide +kernel, rfl⟩
theorem s40_41 : am_S 40 41 44 (.if_icmp .lt 6, 0, 0, 0, 0) := ⟨by decide +kernel, rfl⟩
theorem s40_44 : am_S 40 44 46 (.bipush (-2), 0, 0, 0, 0) := ⟨by decide +kernel, rfl⟩
theorem s40_46 : am_S 40 46 47 (.ireturn, 0, 0, 0, 0) := ⟨by decide +kernel, rfl⟩
theorem s40_47 : am_S 40 47 48 (.aload_n 0, 0, 0, 0, 0) := ⟨by decide +kernel, rfl⟩
theorem s40_48 : am_S 40 48 51 (.getfield 10, 10, 0, 165, 0) := ⟨by decide +kernel, rfl⟩
theorem s40_51 : am_S 40 51 54 (.new 83, 8, 220, 219, 60) := ⟨by decide +kernel, rfl⟩
theorem s40_54 : am_S 40 54 55 (.dup, 0, 0, 0, 0) := ⟨by decide +kernel, rfl⟩
theorem s40_55 : am_S 40 55 56 (.iload_n 1, 0, 0, 0, 0) := ⟨by decide +kernel, rfl⟩
theorem s40_56 : am_S 40 56 57 (.iload_n 2, 0, 0, 0, 0) := ⟨by decide +kernel, rfl⟩
theorem s40_57 : am_S 40 57 58 (.iload_n 3, 0, 0, 0, 0) := ⟨by decide +kernel, rfl⟩
theorem s40_58 : am_S 40 58 61 (.invokespecial 85, 45, 3, 221, 0) := ⟨by decide +kernel, rfl⟩
theorem s40_61 : am_S 40 61 64 (.invokevirtual 88, 196, 1, 235, 0) := ⟨by decide +kernel, rfl⟩
theorem s40_64 : am_S 40 64 65 (.pop, 0, 0, 0, 0) := ⟨by decide +kernel, rfl⟩
theorem s40_65 : am_S 40 65 66 (.aload_n 0, 0, 0, 0, 0) := ⟨by decide +kernel, rfl⟩
theorem s40_66 : am_S 40 66 69 (.getfield 10, 10, 0, 165, 0) := ⟨by decide +kernel, rfl⟩
theorem s40_69 : am_S 40 69 72 (.invokevirtual 79, 191, 0, 215, 0) := ⟨by decide +kernel, rfl⟩
theorem s40_72 : am_S 40 72 73 (.iconst 1, 0, 0, 0, 0) := ⟨by decide +kernel, rfl⟩
theorem s40_73 : am_S 40 73 74 (.isub, 0, 0, 0, 0) := ⟨by decide +kernel, rfl⟩
theorem s40_74 : am_S 40 74 75 (.ireturn, 0, 0, 0, 0) := ⟨by decide +kernel, rfl⟩
theorem s41_0 : am_S 41 0 1 (.aload_n 0, 0, 0, 0, 0) := ⟨by decide +kernel, rfl⟩
theorem s41_1 : am_S 41 1 2 (.iload_n 1, 0, 0, 0, 0) := ⟨by decide +kernel, rfl⟩
theorem s41_2 : am_S 41 2 5 (.invokevirtual 92, 93, 1, 298, 0) := ⟨by decide +kernel, rfl⟩
theorem s41_5 : am_S 41 5 8 (.ifCond .eq 11, 0, 0, 0, 0) := ⟨by decide +kernel, rfl⟩
theorem s41_8 : am_S 41 8 9 (.aload_n 0, 0, 0, 0, 0) := ⟨by decide +kernel, rfl⟩
theorem s41_9 : am_S 41 9 10 (.iload_n 2, 0, 0, 0, 0) := ⟨by decide +kernel, rfl⟩
theorem s41_10 : am_S 41 10 13 (.invokevirtual 92, 93, 1, 298, 0) := ⟨by decide +kernel, rfl⟩
theorem s41_13 : am_S 41 13 16 (.ifCond .ne 5, 0, 0, 0, 0) := ⟨by decide +kernel, rfl⟩
theorem s41_16 : am_S 41 16 17 (.iconst (-1), 0, 0, 0, 0) := ⟨by decide +kernel, rfl⟩
theorem s41_17 : am_S 41 17 18 (.ireturn, 0, 0, 0, 0) := ⟨by decide +kernel, rfl⟩
theorem s41_18 : am_S 41 18 19 (.aload_n 0, 0, 0, 0, 0) := ⟨by decide +kernel, rfl⟩
theorem s41_19 : am_S 41 19 20 (.iload_n 1, 0, 0, 0, 0) := ⟨by decide +kernel, rfl⟩
theorem s41_20 : am_S 41 20 21 (.iload_n 2, 0, 0, 0, 0) := ⟨by decide +kernel, rfl⟩
theorem s41_21 : am_S 41 21 24 (.invokevirtual 96, 100, 2, 302, 0) := ⟨by decide +kernel, rfl⟩
theorem s41_24 : am_S 41 24 25 (.ireturn, 0, 0, 0, 0) := ⟨by decide +kernel, rfl⟩
theorem s42_0 : am_S 42 0 1 (.iload_n 1, 0, 0, 0, 0) := ⟨by decide +kernel, rfl⟩
theorem s42_1 : am_S 42 1 2 (.iconst 0, 0, 0, 0, 0) := ⟨by decide +kernel, rfl⟩
theorem s42_2 : am_S 42 2 4 (.bipush 60, 0, 0, 0, 0) := ⟨by decide +kernel, rfl⟩
theorem s42_4 : am_S 42 4 7 (.invokestatic 75, 87, 3, 212, 0) := ⟨by decide +kernel, rfl⟩
theorem s42_7 : am_S 42 7 10 (.ifCond .ne 5, 0, 0, 0, 0) := ⟨by decide +kernel, rfl⟩
theorem s42_10 : am_S 42 10 11 (.iconst (-1), 0, 0, 0, 0) := ⟨by decide +kernel, rfl⟩
theorem s42_11 : am_S 42 11 12 (.ireturn, 0, 0, 0, 0) := ⟨by decide +kernel, rfl⟩
theorem s42_12 : am_S 42 12 13 (.aload_n 0, 0, 0, 0, 0) := ⟨by decide +kernel, rfl⟩
theorem s42_13 : am_S 42 13 16 (.invokevirtual 100, 102, 0, 331, 0) := ⟨by decide +kernel, rfl⟩
theorem s42_16 : am_S 42 16 19 (.ifCond .eq 6, 0, 0, 0, 0) := ⟨by decide +kernel, rfl⟩
theorem s42_19 : am_S 42 19 21 (.bipush (-4), 0, 0, 0, 0) := ⟨by decide +kernel, rfl⟩
theorem s42_21 : am_S 42 21 22 (.ireturn, 0, 0, 0, 0) := ⟨by decide +kernel, rfl⟩
theorem s42_22 : am_S 42 22 23 (.aload_n 0, 0, 0, 0, 0) := ⟨by decide +kernel, rfl⟩
theorem s42_23 : am_S 42 23 26 (.getfield 72, 10, 13, 178, 0) := ⟨by decide +kernel, rfl⟩
theorem s42_26 : am_S 42 26 27 (.istore_n 2, 0, 0, 0, 0) := ⟨by decide +kernel, rfl⟩
theorem s42_27 : am_S 42 27 28 (.aload_n 0, 0, 0, 0, 0) := ⟨by decide +kernel, rfl⟩
theorem s42_28 : am_S 42 28 29 (.iload_n 1, 0, 0, 0, 0) := ⟨by decide +kernel, rfl⟩
theorem s42_29 : am_S 42 29 32 (.putfield 72, 10, 13, 178, 0) := ⟨by decide +kernel, rfl⟩
theorem s42_32 : am_S 42 32 33 (.iload_n 2, 0, 0, 0, 0) := ⟨by decide +kernel, rfl⟩
theorem s42_33 : am_S 42 33 34 (.ireturn, 0, 0, 0, 0) := ⟨by decide +kernel, rfl⟩
theorem s43_0 : am_S 43 0 1 (.iload_n 1, 0, 0, 0, 0) := ⟨by decide +kernel, rfl⟩
theorem s43_1 : am_S 43 1 2 (.iconst 1, 0, 0, 0, 0) := ⟨by decide +kernel, rfl⟩
theorem s43_2 : am_S 43 2 5 (.sipush 400, 0, 0, 0, 0) := ⟨by decide +kernel, rfl⟩
theorem s43_5 : am_S 43 5 8 (.invokestatic 75, 87, 3, 212, 0) := ⟨by decide +kernel, rfl⟩
theorem s43_8 : am_S 43 8 11 (.ifCond .eq 15, 0, 0, 0, 0) := ⟨by decide +kernel, rfl⟩
theorem s43_11 : am_S 43 11 12 (.aload_n 0, 0, 0, 0, 0) := ⟨by decide +kernel, rfl⟩
theorem s43_12 : am_S 43 12 15 (.getfield 69, 10, 12, 177, 0) := ⟨by decide +kernel, rfl⟩
theorem s43_15 : am_S 43 15 16 (.iload_n 1, 0, 0, 0, 0) := ⟨by decide +kernel, rfl⟩
theorem s43_16 : am_S 43 16 17 (.iadd, 0, 0, 0, 0) := ⟨by decide +kernel, rfl⟩
theorem s43_17 : am_S 43 17 20 (.sipush 400, 0, 0, 0, 0) := ⟨by decide +kernel, rfl⟩
theorem s43_20 : am_S 43 20 23 (.if_icmp .le 5, 0, 0, 0, 0) := ⟨by decide +kernel, rfl⟩
theorem s43_23 : am_S 43 23 24 (.iconst (-1), 0, 0, 0, 0) := ⟨by decide +kernel, rfl⟩
theorem s43_24 : am_S 43 24 25 (.ireturn, 0, 0, 0, 0) := ⟨by decide +kernel, rfl⟩
theorem s43_25 : am_S 43 25 26 (.aload_n 0, 0, 0, 0, 0) := ⟨by decide +kernel, rfl⟩
theorem s43_26 : am_S 43 26 27 (.dup, 0, 0, 0, 0) := ⟨by decide +kernel, rfl⟩
theorem s43_27 : am_S 43 27 30 (.getfield 69, 10, 12, 177, 0) := ⟨by decide +kernel, rfl⟩
theorem s43_30 : am_S 43 30 31 (.iload_n 1, 0, 0, 0, 0) := ⟨by decide +kernel, rfl⟩
theorem s43_31 : am_S 43 31 32 (.iadd, 0, 0, 0, 0) := ⟨by decide +kernel, rfl⟩
theorem s43_32 : am_S 43 32 35 (.putfield 69, 10, 12, 177, 0) := ⟨by decide +kernel, rfl⟩
theorem s43_35 : am_S 43 35 36 (.iconst 0, 0, 0, 0, 0) := ⟨by decide +kernel, rfl⟩
theorem s43_36 : am_S 43 36 37 (.istore_n 2, 0, 0, 0, 0) := ⟨by decide +kernel, rfl⟩
theorem s43_37 : am_S 43 37 38 (.iload_n 2, 0, 0, 0, 0) := ⟨by decide +kernel, rfl⟩
theorem s43_38 : am_S 43 38 39 (.aload_n 0, 0, 0, 0, 0) := ⟨by decide +kernel, rfl⟩
theorem s43_39 : am_S 43 39 42 (.getfield 22, 10, 3, 168, 0) := ⟨by decide +kernel, rfl⟩
theorem s43_42 : am_S 43 42 45 (.invokevirtual 79, 191, 0, 215, 0) := ⟨by decide +kernel, rfl⟩
theorem s43_45 : am_S 43 45 48 (.if_icmp .ge 24, 0, 0, 0, 0) := ⟨by decide +kernel, rfl⟩
theorem s43_48 : am_S 43 48 49 (.aload_n 0, 0, 0, 0, 0) := ⟨by decide +kernel, rfl⟩
theorem s43_49 : am_S 43 49 52 (.getfield 22, 10, 3, 168, 0) := ⟨by decide +kernel, rfl⟩
theorem s43_52 : am_S 43 52 53 (.iload_n 2, 0, 0, 0, 0) := ⟨by decide +kernel, rfl⟩
theorem s43_53 : am_S 43 53 56 (.invokevirtual 104, 194, 1, 306, 0) := ⟨by decide +kernel, rfl⟩
theorem s43_56 : am_S 43 56 59 (.checkcast 108, 2, 0, 344, 0) := ⟨by decide +kernel, rfl⟩
theorem s43_59 : am_S 43 59 60 (.iconst 0, 0, 0, 0, 0) := ⟨by decide +kernel, rfl⟩
theorem s43_60 : am_S 43 60 63 (.putfield 110, 2, 1, 621, 1) := ⟨by decide +kernel, rfl⟩
theorem s43_63 : am_S 43 63 66 (.iinc 2 1, 0, 0, 0, 0) := ⟨by decide +kernel, rfl⟩
theorem s43_66 : am_S 43 66 69 (.goto (-29), 0, 0, 0, 0) := ⟨by decide +kernel, rfl⟩
theorem s43_69 : am_S 43 69 70 (.aload_n 0, 0, 0, 0, 0) := ⟨by decide +kernel, rfl⟩
theorem s43_70 : am_S 43 70 73 (.getfield 69, 10, 12, 177, 0) := ⟨by decide +kernel, rfl⟩
theorem s43_73 : am_S 43 73 74 (.ireturn, 0, 0, 0, 0) := ⟨by decide +kernel, rfl⟩
theorem s44_0 : am_S 44 0 1 (.aload_n 0, 0, 0, 0, 0) := ⟨by decide +kernel, rfl⟩
theorem s44_1 : am_S 44 1 2 (.iload_n 1, 0, 0, 0, 0) := ⟨by decide +kernel, rfl⟩
theorem s44_2 : am_S 44 2 5 (.invokevirtual 92, 93, 1, 298, 0) := ⟨by decide +kernel, rfl⟩
theorem s44_5 : am_S 44 5 8 (.ifCond .eq 30, 0, 0, 0, 0) := ⟨by decide +kernel, rfl⟩
theorem s44_8 : am_S 44 8 9 (.iload_n 2, 0, 0, 0, 0) := ⟨by decide +kernel, rfl⟩
theorem s44_9 : am_S 44 9 12 (.invokestatic 113, 88, 1, 349, 0) := ⟨by decide +kernel, rfl⟩
theorem s44_12 : am_S 44 12 15 (.ifCond .eq 23, 0, 0, 0, 0) := ⟨by decide +kernel, rfl⟩
theorem s44_15 : am_S 44 15 16 (.iload_n 3, 0, 0, 0, 0) := ⟨by decide +kernel, rfl⟩
theorem s44_16 : am_S 44 16 19 (.invokestatic 113, 88, 1, 349, 0) := ⟨by decide +kernel, rfl⟩
theorem s44_19 : am_S 44 19 22 (.ifCond .eq 16, 0, 0, 0, 0) := ⟨by decide +kernel, rfl⟩
theorem s44_22 : am_S 44 22 24 (.iload 4, 0, 0, 0, 0) := ⟨by decide +kernel, rfl⟩
theorem s44_24 : am_S 44 24 27 (.invokestatic 113, 88, 1, 349, 0) := ⟨by decide +kernel, rfl⟩
theorem s44_27 : am_S 44 27 30 (.ifCond .eq 8, 0, 0, 0, 0) := ⟨by decide +kernel, rfl⟩
theorem s44_30 : am_S 44 30 31 (.iload_n 2, 0, 0, 0, 0) := ⟨by decide +kernel, rfl⟩
theorem s44_31 : am_S 44 31 32 (.iload_n 3, 0, 0, 0, 0) := ⟨by decide +kernel, rfl⟩
theorem s44_32 : am_S 44 32 35 (.if_icmp .ne 5, 0, 0, 0, 0) := ⟨by decide +kernel, rfl⟩
theorem s44_35 : am_S 44 35 36 (.iconst (-1), 0, 0, 0, 0) := ⟨by decide +kernel, rfl⟩
theorem s44_36 : am_S 44 36 37 (.ireturn, 0, 0, 0, 0) := ⟨by decide +kernel, rfl⟩
theorem s44_37 : am_S 44 37 38 (.aload_n 0, 0, 0, 0, 0) := ⟨by decide +kernel, rfl⟩
theorem s44_38 : am_S 44 38 41 (.getfield 16, 10, 1, 166, 0) := ⟨by decide +kernel, rfl⟩
theorem s44_41 : am_S 44 41 44 (.invokevirtual 79, 191, 0, 215, 0) := ⟨by decide +kernel, rfl⟩
theorem s44_44 : am_S 44 44 46 (.bipush 40, 0, 0, 0, 0) := ⟨by decide +kernel, rfl⟩
theorem s44_46 : am_S 44 46 49 (.if_icmp .lt 6, 0, 0, 0, 0) := ⟨by decide +kernel, rfl⟩
theorem s44_49 : am_S 44 49 51 (.bipush (-2), 0, 0, 0, 0) := ⟨by decide +kernel, rfl⟩
theorem s44_51 : am_S 44 51 52 (.ireturn, 0, 0, 0, 0) := ⟨by decide +kernel, rfl⟩
theorem s44_52 : am_S 44 52 54 (.iload 4, 0, 0, 0, 0) := ⟨by decide +kernel, rfl⟩
theorem s44_54 : am_S 44 54 55 (.aload_n 0, 0, 0, 0, 0) := ⟨by decide +kernel, rfl⟩
theorem s44_55 : am_S 44 55 58 (.getfield 69, 10, 12, 177, 0) := ⟨by decide +kernel, rfl⟩
theorem s44_58 : am_S 44 58 61 (.if_icmp .ge 6, 0, 0, 0, 0) := ⟨by decide +kernel, rfl⟩
theorem s44_61 : am_S 44 61 63 (.bipush (-4), 0, 0, 0, 0) := ⟨by decide +kernel, rfl⟩
theorem s44_63 : am_S 44 63 64 (.ireturn, 0, 0, 0, 0) := ⟨by decide +kernel, rfl⟩
theorem s44_64 : am_S 44 64 65 (.aload_n 0, 0, 0, 0, 0) := ⟨by decide +kernel, rfl⟩
theorem s44_65 : am_S 44 65 68 (.getfield 16, 10, 1, 166, 0) := ⟨by decide +kernel, rfl⟩
theorem s44_68 : am_S 44 68 71 (.new 116, 4, 353, 352, 66) := ⟨by decide +kernel, rfl⟩
theorem s44_71 : am_S 44 71 72 (.dup, 0, 0, 0, 0) := ⟨by decide +kernel, rfl⟩
theorem s44_72 : am_S 44 72 73 (.iload_n 1, 0, 0, 0, 0) := ⟨by decide +kernel, rfl⟩
theorem s44_73 : am_S 44 73 74 (.iload_n 2, 0, 0, 0, 0) := ⟨by decide +kernel, rfl⟩
theorem s44_74 : am_S 44 74 75 (.iload_n 3, 0, 0, 0, 0) := ⟨by decide +kernel, rfl⟩
theorem s44_75 : am_S 44 75 77 (.iload 4, 0, 0, 0, 0) := ⟨by decide +kernel, rfl⟩
theorem s44_77 : am_S 44 77 80 (.invokespecial 118, 19, 4, 354, 0) := ⟨by decide +kernel, rfl⟩
theorem s44_80 : am_S 44 80 83 (.invokevirtual 88, 196, 1, 235, 0) := ⟨by decide +kernel, rfl⟩
theorem s44_83 : am_S 44 83 84 (.pop, 0, 0, 0, 0) := ⟨by decide +kernel, rfl⟩
theorem s44_84 : am_S 44 84 85 (.aload_n 0, 0, 0, 0, 0) := ⟨by decide +kernel, rfl⟩
theorem s44_85 : am_S 44 85 88 (.getfield 16, 10, 1, 166, 0) := ⟨by decide +kernel, rfl⟩
theorem s44_88 : am_S 44 88 91 (.invokevirtual 79, 191, 0, 215, 0) := ⟨by decide +kernel, rfl⟩
theorem s44_91 : am_S 44 91 92 (.ireturn, 0, 0, 0, 0) := ⟨by decide +kernel, rfl⟩
theorem s45_0 : am_S 45 0 1 (.aload_n 0, 0, 0, 0, 0) := ⟨by decide +kernel, rfl⟩
theorem s45_1 : am_S 45 1 2 (.iload_n 1, 0, 0, 0, 0) := ⟨by decide +kernel, rfl⟩
theorem s45_2 : am_S 45 2 5 (.invokevirtual 92, 93, 1, 298, 0) := ⟨by decide +kernel, rfl⟩
theorem s45_5 : am_S 45 5 8 (.ifCond .eq 17, 0, 0, 0, 0) := ⟨by decide +kernel, rfl⟩
theorem s45_8 : am_S 45 8 9 (.iload_n 2, 0, 0, 0, 0) := ⟨by decide +kernel, rfl⟩
theorem s45_9 : am_S 45 9 12 (.invokestatic 113, 88, 1, 349, 0) := ⟨by decide +kernel, rfl⟩
theorem s45_12 : am_S 45 12 15 (.ifCond .eq 10, 0, 0, 0, 0) := ⟨by decide +kernel, rfl⟩
theorem s45_15 : am_S 45 15 16 (.iload_n 3, 0, 0, 0, 0) := ⟨by decide +kernel, rfl⟩
theorem s45_16 : am_S 45 16 19 (.invokestatic 113, 88, 1, 349, 0) := ⟨by decide +kernel, rfl⟩
theorem s45_19 : am_S 45 19 22 (.ifCond .ne 5, 0, 0, 0, 0) := ⟨by decide +kernel, rfl⟩
theorem s45_22 : am_S 45 22 23 (.iconst (-1), 0, 0, 0, 0) := ⟨by decide +kernel, rfl⟩
theorem s45_23 : am_S 45 23 24 (.ireturn, 0, 0, 0, 0) := ⟨by decide +kernel, rfl⟩
theorem s45_24 : am_S 45 24 25 (.aload_n 0, 0, 0, 0, 0) := ⟨by decide +kernel, rfl⟩
theorem s45_25 : am_S 45 25 26 (.iload_n 1, 0, 0, 0, 0) := ⟨by decide +kernel, rfl⟩
theorem s45_26 : am_S 45 26 27 (.iload_n 2, 0, 0, 0, 0) := ⟨by decide +kernel, rfl⟩
theorem s45_27 : am_S 45 27 28 (.iload_n 3, 0, 0, 0, 0) := ⟨by decide +kernel, rfl⟩
theorem s45_28 : am_S 45 28 31 (.invokevirtual 121, 103, 3, 379, 0) := ⟨by decide +kernel, rfl⟩
theorem s45_31 : am_S 45 31 34 (.invokestatic 124, 98, 1, 387, 0) := ⟨by decide +kernel, rfl⟩
theorem s45_34 : am_S 45 34 35 (.ireturn, 0, 0, 0, 0) := ⟨by decide +kernel, rfl⟩
theorem s46_0 : am_S 46 0 1 (.iload_n 1, 0, 0, 0, 0) := ⟨by decide +kernel, rfl⟩
theorem s46_1 : am_S 46 1 4 (.invokestatic 128, 90, 1, 394, 0) := ⟨by decide +kernel, rfl⟩
theorem s46_4 : am_S 46 4 7 (.ifCond .eq 9, 0, 0, 0, 0) := ⟨by decide +kernel, rfl⟩
theorem s46_7 : am_S 46 7 8 (.iload_n 2, 0, 0, 0, 0) := ⟨by decide +kernel, rfl⟩
theorem s46_8 : am_S 46 8 10 (.bipush 80, 0, 0, 0, 0) := ⟨by decide +kernel, rfl⟩
theorem s46_10 : am_S 46 10 13 (.if_icmp .le 5, 0, 0, 0, 0) := ⟨by decide +kernel, rfl⟩
theorem s46_13 : am_S 46 13 14 (.iconst (-1), 0, 0, 0, 0) := ⟨by decide +kernel, rfl⟩
theorem s46_14 : am_S 46 14 15 (.ireturn, 0, 0, 0, 0) := ⟨by decide +kernel, rfl⟩
theorem s46_15 : am_S 46 15 16 (.iload_n 2, 0, 0, 0, 0) := ⟨by decide +kernel, rfl⟩
theorem s46_16 : am_S 46 16 19 (.ifCond .ge 9, 0, 0, 0, 0) := ⟨by decide +kernel, rfl⟩
theorem s46_19 : am_S 46 19 20 (.aload_n 0, 0, 0, 0, 0) := ⟨by decide +kernel, rfl⟩
theorem s46_20 : am_S 46 20 21 (.iconst 5, 0, 0, 0, 0) := ⟨by decide +kernel, rfl⟩
theorem s46_21 : am_S 46 21 24 (.invokevirtual 131, 99, 1, 397, 0) := ⟨by decide +kernel, rfl⟩
theorem s46_24 : am_S 46 24 25 (.ireturn, 0, 0, 0, 0) := ⟨by decide +kernel, rfl⟩
theorem s46_25 : am_S 46 25 26 (.aload_n 0, 0, 0, 0, 0) := ⟨by decide +kernel, rfl⟩
theorem s46_26 : am_S 46 26 29 (.getfield 33, 10, 6, 171, 0) := ⟨by decide +kernel, rfl⟩
theorem s46_29 : am_S 46 29 30 (.iload_n 1, 0, 0, 0, 0) := ⟨by decide +kernel, rfl⟩
theorem s46_30 : am_S 46 30 31 (.aaload, 0, 0, 0, 0) := ⟨by decide +kernel, rfl⟩
theorem s46_31 : am_S 46 31 32 (.iload_n 2, 0, 0, 0, 0) := ⟨by decide +kernel, rfl⟩
theorem s46_32 : am_S 46 32 35 (.invokevirtual 135, 36, 1, 401, 0) := ⟨by decide +kernel, rfl⟩
theorem s46_35 : am_S 46 35 36 (.iload_n 2, 0, 0, 0, 0) := ⟨by decide +kernel, rfl⟩
theorem s46_36 : am_S 46 36 37 (.ireturn, 0, 0, 0, 0) := ⟨by decide +kernel, rfl⟩
theorem s47_0 : am_S 47 0 1 (.iload_n 1, 0, 0, 0, 0) := ⟨by decide +kernel, rfl⟩
theorem s47_1 : am_S 47 1 4 (.invokestatic 128, 90, 1, 394, 0) := ⟨by decide +kernel, rfl⟩
theorem s47_4 : am_S 47 4 7 (.ifCond .ne 5, 0, 0, 0, 0) := ⟨by decide +kernel, rfl⟩
theorem s47_7 : am_S 47 7 8 (.iconst (-1), 0, 0, 0, 0) := ⟨by decide +kernel, rfl⟩
theorem s47_8 : am_S 47 8 9 (.ireturn, 0, 0, 0, 0) := ⟨by decide +kernel, rfl⟩
theorem s47_9 : am_S 47 9 10 (.aload_n 0, 0, 0, 0, 0) := ⟨by decide +kernel, rfl⟩
theorem s47_10 : am_S 47 10 13 (.getfield 33, 10, 6, 171, 0) := ⟨by decide +kernel, rfl⟩
theorem s47_13 : am_S 47 13 14 (.iload_n 1, 0, 0, 0, 0) := ⟨by decide +kernel, rfl⟩
theorem s47_14 : am_S 47 14 15 (.aaload, 0, 0, 0, 0) := ⟨by decide +kernel, rfl⟩
theorem s47_15 : am_S 47 15 17 (.astore 4, 0, 0, 0, 0) := ⟨by decide +kernel, rfl⟩
theorem s47_17 : am_S 47 17 19 (.aload 4, 0, 0, 0, 0) := ⟨by decide +kernel, rfl⟩
theorem s47_19 : am_S 47 19 22 (.invokevirtual 139, 34, 0, 412, 0) := ⟨by decide +kernel, rfl⟩
theorem s47_22 : am_S 47 22 25 (.ifCond .eq 9, 0, 0, 0, 0) := ⟨by decide +kernel, rfl⟩
theorem s47_25 : am_S 47 25 26 (.aload_n 0, 0, 0, 0, 0) := ⟨by decide +kernel, rfl⟩
theorem s47_26 : am_S 47 26 27 (.iconst 1, 0, 0, 0, 0) := ⟨by decide +kernel, rfl⟩
theorem s47_27 : am_S 47 27 30 (.invokevirtual 131, 99, 1, 397, 0) := ⟨by decide +kernel, rfl⟩
theorem s47_30 : am_S 47 30 31 (.ireturn, 0, 0, 0, 0) := ⟨by decide +kernel, rfl⟩
theorem s47_31 : am_S 47 31 32 (.iload_n 2, 0, 0, 0, 0) := ⟨by decide +kernel, rfl⟩
theorem s47_32 : am_S 47 32 35 (.ifCond .lt 12, 0, 0, 0, 0) := ⟨by decide +kernel, rfl⟩
theorem s47_35 : am_S 47 35 36 (.iload_n 2, 0, 0, 0, 0) := ⟨by decide +kernel, rfl⟩
theorem s47_36 : am_S 47 36 38 (.aload 4, 0, 0, 0, 0) := ⟨by decide +kernel, rfl⟩
theorem s47_38 : am_S 47 38 41 (.getfield 142, 7, 1, 118, 1) := ⟨by decide +kernel, rfl⟩
theorem s47_41 : am_S 47 41 44 (.if_icmp .lt 9, 0, 0, 0, 0) := ⟨by decide +kernel, rfl⟩
theorem s47_44 : am_S 47 44 45 (.aload_n 0, 0, 0, 0, 0) := ⟨by decide +kernel, rfl⟩
theorem s47_45 : am_S 47 45 46 (.iconst 2, 0, 0, 0, 0) := ⟨by decide +kernel, rfl⟩
theorem s47_46 : am_S 47 46 49 (.invokevirtual 131, 99, 1, 397, 0) := ⟨by decide +kernel, rfl⟩
theorem s47_49 : am_S 47 49 50 (.ireturn, 0, 0, 0, 0) := ⟨by decide +kernel, rfl⟩
theorem s47_50 : am_S 47 50 52 (.aload 4, 0, 0, 0, 0) := ⟨by decide +kernel, rfl⟩
theorem s47_52 : am_S 47 52 55 (.getfield 144, 7, 0, 115, 1) := ⟨by decide +kernel, rfl⟩
theorem s47_55 : am_S 47 55 56 (.iload_n 2, 0, 0, 0, 0) := ⟨by decide +kernel, rfl⟩
theorem s47_56 : am_S 47 56 57 (.baload, 0, 0, 0, 0) := ⟨by decide +kernel, rfl⟩
theorem s47_57 : am_S 47 57 59 (.istore 5, 0, 0, 0, 0) := ⟨by decide +kernel, rfl⟩
theorem s47_59 : am_S 47 59 61 (.aload 4, 0, 0, 0, 0) := ⟨by decide +kernel, rfl⟩
theorem s47_61 : am_S 47 61 64 (.getfield 144, 7, 0, 115, 1) := ⟨by decide +kernel, rfl⟩
theorem s47_64 : am_S 47 64 65 (.iload_n 2, 0, 0, 0, 0) := ⟨by decide +kernel, rfl⟩
theorem s47_65 : am_S 47 65 66 (.iload_n 3, 0, 0, 0, 0) := ⟨by decide +kernel, rfl⟩
theorem s47_66 : am_S 47 66 67 (.i2b, 0, 0, 0, 0) := ⟨by decide +kernel, rfl⟩
theorem s47_67 : am_S 47 67 68 (.bastore, 0, 0, 0, 0) := ⟨by decide +kernel, rfl⟩
theorem s47_68 : am_S 47 68 70 (.iload 5, 0, 0, 0, 0) := ⟨by decide +kernel, rfl⟩
theorem s47_70 : am_S 47 70 73 (.sipush 1000, 0, 0, 0, 0) := ⟨by decide +kernel, rfl⟩
theorem s47_73 : am_S 47 73 74 (.iadd, 0, 0, 0, 0) := ⟨by decide +kernel, rfl⟩
theorem s47_74 : am_S 47 74 75 (.ireturn, 0, 0, 0, 0) := ⟨by decide +kernel, rfl⟩
theorem s48_0 : am_S 48 0 1 (.iload_n 1, 0, 0, 0, 0) := ⟨by decide +kernel, rfl⟩
theorem s48_1 : am_S 48 1 4 (.invokestatic 128, 90, 1, 394, 0) := ⟨by decide +kernel, rfl⟩
theorem s48_4 : am_S 48 4 7 (.ifCond .ne 5, 0, 0, 0, 0) := ⟨by decide +kernel, rfl⟩
theorem s48_7 : am_S 48 7 8 (.iconst (-1), 0, 0, 0, 0) := ⟨by decide +kernel, rfl⟩
theorem s48_8 : am_S 48 8 9 (.ireturn, 0, 0, 0, 0) := ⟨by decide +kernel, rfl⟩
theorem s48_9 : am_S 48 9 10 (.aload_n 0, 0, 0, 0, 0) := ⟨by decide +kernel, rfl⟩
theorem s48_10 : am_S 48 10 13 (.getfield 33, 10, 6, 171, 0) := ⟨by decide +kernel, rfl⟩
theorem s48_13 : am_S 48 13 14 (.iload_n 1, 0, 0, 0, 0) := ⟨by decide +kernel, rfl⟩
theorem s48_14 : am_S 48 14 15 (.aaload, 0, 0, 0, 0) := ⟨by decide +kernel, rfl⟩
theorem s48_15 : am_S 48 15 18 (.invokevirtual 139, 34, 0, 412, 0) := ⟨by decide +kernel, rfl⟩
theorem s48_18 : am_S 48 18 21 (.ifCond .eq 9, 0, 0, 0, 0) := ⟨by decide +kernel, rfl⟩
theorem s48_21 : am_S 48 21 22 (.aload_n 0, 0, 0, 0, 0) := ⟨by decide +kernel, rfl⟩
theorem s48_22 : am_S 48 22 23 (.iconst 1, 0, 0, 0, 0) := ⟨by decide +kernel, rfl⟩
theorem s48_23 : am_S 48 23 26 (.invokevirtual 131, 99, 1, 397, 0) := ⟨by decide +kernel, rfl⟩
theorem s48_26 : am_S 48 26 27 (.ireturn, 0, 0, 0, 0) := ⟨by decide +kernel, rfl⟩
theorem s48_27 : am_S 48 27 28 (.aload_n 0, 0, 0, 0, 0) := ⟨by decide +kernel, rfl⟩
theorem s48_28 : am_S 48 28 31 (.getfield 33, 10, 6, 171, 0) := ⟨by decide +kernel, rfl⟩
theorem s48_31 : am_S 48 31 32 (.iload_n 1, 0, 0, 0, 0) := ⟨by decide +kernel, rfl⟩
theorem s48_32 : am_S 48 32 33 (.aaload, 0, 0, 0, 0) := ⟨by decide +kernel, rfl⟩
theorem s48_33 : am_S 48 33 36 (.invokevirtual 148, 35, 0, 420, 0) := ⟨by decide +kernel, rfl⟩
theorem s48_36 : am_S 48 36 37 (.iconst 1, 0, 0, 0, 0) := ⟨by decide +kernel, rfl⟩
theorem s48_37 : am_S 48 37 38 (.ireturn, 0, 0, 0, 0) := ⟨by decide +kernel, rfl⟩
theorem s49_0 : am_S 49 0 1 (.iload_n 1, 0, 0, 0, 0) := ⟨by decide +kernel, rfl⟩
theorem s49_1 : am_S 49 1 4 (.invokestatic 128, 90, 1, 394, 0) := ⟨by decide +kernel, rfl⟩
theorem s49_4 : am_S 49 4 7 (.ifCond .eq 10, 0, 0, 0, 0) := ⟨by decide +kernel, rfl⟩
theorem s49_7 : am_S 49 7 8 (.iload_n 3, 0, 0, 0, 0) := ⟨by decide +kernel, rfl⟩
theorem s49_8 : am_S 49 8 11 (.invokestatic 128, 90, 1, 394, 0) := ⟨by decide +kernel, rfl⟩
theorem s49_11 : am_S 49 11 14 (.ifCond .ne 5, 0, 0, 0, 0) := ⟨by decide +kernel, rfl⟩
theorem s49_14 : am_S 49 14 15 (.iconst (-1), 0, 0, 0, 0) := ⟨by decide +kernel, rfl⟩
theorem s49_15 : am_S 49 15 16 (.ireturn, 0, 0, 0, 0) := ⟨by decide +kernel, rfl⟩
theorem s49_16 : am_S 49 16 18 (.iload 5, 0, 0, 0, 0) := ⟨by decide +kernel, rfl⟩
theorem s49_18 : am_S 49 18 21 (.ifCond .ge 9, 0, 0, 0, 0) := ⟨by decide +kernel, rfl⟩
theorem s49_21 : am_S 49 21 22 (.aload_n 0, 0, 0, 0, 0) := ⟨by decide +kernel, rfl⟩
theorem s49_22 : am_S 49 22 23 (.iconst 5, 0, 0, 0, 0) := ⟨by decide +kernel, rfl⟩
theorem s49_23 : am_S 49 23 26 (.invokevirtual 131, 99, 1, 397, 0) := ⟨by decide +kernel, rfl⟩
theorem s49_26 : am_S 49 26 27 (.ireturn, 0, 0, 0, 0) := ⟨by decide +kernel, rfl⟩
theorem s49_27 : am_S 49 27 28 (.aload_n 0, 0, 0, 0, 0) := ⟨by decide +kernel, rfl⟩
theorem s49_28 : am_S 49 28 31 (.getfield 33, 10, 6, 171, 0) := ⟨by decide +kernel, rfl⟩
theorem s49_31 : am_S 49 31 32 (.iload_n 1, 0, 0, 0, 0) := ⟨by decide +kernel, rfl⟩
theorem s49_32 : am_S 49 32 33 (.aaload, 0, 0, 0, 0) := ⟨by decide +kernel, rfl⟩
theorem s49_33 : am_S 49 33 36 (.invokevirtual 139, 34, 0, 412, 0) := ⟨by decide +kernel, rfl⟩
theorem s49_36 : am_S 49 36 39 (.ifCond .ne 15, 0, 0, 0, 0) := ⟨by decide +kernel, rfl⟩
theorem s49_39 : am_S 49 39 40 (.aload_n 0, 0, 0, 0, 0) := ⟨by decide +kernel, rfl⟩
theorem s49_40 : am_S 49 40 43 (.getfield 33, 10, 6, 171, 0) := ⟨by decide +kernel, rfl⟩
theorem s49_43 : am_S 49 43 44 (.iload_n 3, 0, 0, 0, 0) := ⟨by decide +kernel, rfl⟩
theorem s49_44 : am_S 49 44 45 (.aaload, 0, 0, 0, 0) := ⟨by decide +kernel, rfl⟩
theorem s49_45 : am_S 49 45 48 (.invokevirtual 139, 34, 0, 412, 0) := ⟨by decide +kernel, rfl⟩
theorem s49_48 : am_S 49 48 51 (.ifCond .eq 9, 0, 0, 0, 0) := ⟨by decide +kernel, rfl⟩
theorem s49_51 : am_S 49 51 52 (.aload_n 0, 0, 0, 0, 0) := ⟨by decide +kernel, rfl⟩
theorem s49_52 : am_S 49 52 53 (.iconst 1, 0, 0, 0, 0) := ⟨by decide +kernel, rfl⟩
theorem s49_53 : am_S 49 53 56 (.invokevirtual 131, 99, 1, 397, 0) := ⟨by decide +kernel, rfl⟩
theorem s49_56 : am_S 49 56 57 (.ireturn, 0, 0, 0, 0) := ⟨by decide +kernel, rfl⟩
theorem s49_57 : am_S 49 57 58 (.aload_n 0, 0, 0, 0, 0) := ⟨by decide +kernel, rfl⟩
theorem s49_58 : am_S 49 58 61 (.getfield 33, 10, 6, 171, 0) := ⟨by decide +kernel, rfl⟩
theorem s49_61 : am_S 49 61 62 (.iload_n 1, 0, 0, 0, 0) := ⟨by decide +kernel, rfl⟩
theorem s49_62 : am_S 49 62 63 (.aaload, 0, 0, 0, 0) := ⟨by decide +kernel, rfl⟩
theorem s49_63 : am_S 49 63 64 (.iload_n 2, 0, 0, 0, 0) := ⟨by decide +kernel, rfl⟩
theorem s49_64 : am_S 49 64 66 (.iload 5, 0, 0, 0, 0) := ⟨by decide +kernel, rfl⟩
theorem s49_66 : am_S 49 66 69 (.invokevirtual 151, 37, 2, 428, 0) := ⟨by decide +kernel, rfl⟩
theorem s49_69 : am_S 49 69 72 (.ifCond .eq 19, 0, 0, 0, 0) := ⟨by decide +kernel, rfl⟩
theorem s49_72 : am_S 49 72 73 (.aload_n 0, 0, 0, 0, 0) := ⟨by decide +kernel, rfl⟩
theorem s49_73 : am_S 49 73 76 (.getfield 33, 10, 6, 171, 0) := ⟨by decide +kernel, rfl⟩
theorem s49_76 : am_S 49 76 77 (.iload_n 3, 0, 0, 0, 0) := ⟨by decide +kernel, rfl⟩
theorem s49_77 : am_S 49 77 78 (.aaload, 0, 0, 0, 0) := ⟨by decide +kernel, rfl⟩
theorem s49_78 : am_S 49 78 80 (.iload 4, 0, 0, 0, 0) := ⟨by decide +kernel, rfl⟩
theorem s49_80 : am_S 49 80 82 (.iload 5, 0, 0, 0, 0) := ⟨by decide +kernel, rfl⟩
theorem s49_82 : am_S 49 82 85 (.invokevirtual 151, 37, 2, 428, 0) := ⟨by decide +kernel, rfl⟩
theorem s49_85 : am_S 49 85 88 (.ifCond .ne 9, 0, 0, 0, 0) := ⟨by decide +kernel, rfl⟩
theorem s49_88 : am_S 49 88 89 (.aload_n 0, 0, 0, 0, 0) := ⟨by decide +kernel, rfl⟩
theorem s49_89 : am_S 49 89 90 (.iconst 2, 0, 0, 0, 0) := ⟨by decide +kernel, rfl⟩
theorem s49_90 : am_S 49 90 93 (.invokevirtual 131, 99, 1, 397, 0) := ⟨by decide +kernel, rfl⟩
theorem s49_93 : am_S 49 93 94 (.ireturn, 0, 0, 0, 0) := ⟨by decide +kernel, rfl⟩
theorem s49_94 : am_S 49 94 95 (.aload_n 0, 0, 0, 0, 0) := ⟨by decide +kernel, rfl⟩
theorem s49_95 : am_S 49 95 98 (.getfield 33, 10, 6, 171, 0) := ⟨by decide +kernel, rfl⟩
theorem s49_98 : am_S 49 98 99 (.iload_n 1, 0, 0, 0, 0) := ⟨by decide +kernel, rfl⟩
theorem s49_99 : am_S 49 99 100 (.aaload, 0, 0, 0, 0) := ⟨by decide +kernel, rfl⟩
theorem s49_100 : am_S 49 100 103 (.getfield 144, 7, 0, 115, 1) := ⟨by decide +kernel, rfl⟩
theorem s49_103 : am_S 49 103 104 (.iload_n 2, 0, 0, 0, 0) := ⟨by decide +kernel, rfl⟩
theorem s49_104 : am_S 49 104 105 (.aload_n 0, 0, 0, 0, 0) := ⟨by decide +kernel, rfl⟩
theorem s49_105 : am_S 49 105 108 (.getfield 33, 10, 6, 171, 0) := ⟨by decide +kernel, rfl⟩
theorem s49_108 : am_S 49 108 109 (.iload_n 3, 0, 0, 0, 0) := ⟨by decide +kernel, rfl⟩
theorem s49_109 : am_S 49 109 110 (.aaload, 0, 0, 0, 0) := ⟨by decide +kernel, rfl⟩
theorem s49_110 : am_S 49 110 113 (.getfield 144, 7, 0, 115, 1) := ⟨by decide +kernel, rfl⟩
theorem s49_113 : am_S 49 113 115 (.iload 4, 0, 0, 0, 0) := ⟨by decide +kernel, rfl⟩
theorem s49_115 : am_S 49 115 117 (.iload 5, 0, 0, 0, 0) := ⟨by decide +kernel, rfl⟩
theorem s49_117 : am_S 49 117 120 (.invokestatic 155, 3, 0, 432, 0) := ⟨by decide +kernel, rfl⟩
theorem s49_120 : am_S 49 120 121 (.iconst 1, 0, 0, 0, 0) := ⟨by decide +kernel, rfl⟩
theorem s49_121 : am_S 49 121 122 (.ireturn, 0, 0, 0, 0) := ⟨by decide +kernel, rfl⟩
theorem s50_0 : am_S 50 0 1 (.iload_n 1, 0, 0, 0, 0) := ⟨by decide +kernel, rfl⟩
theorem s50_1 : am_S 50 1 4 (.invokestatic 128, 90, 1, 394, 0) := ⟨by decide +kernel, rfl⟩
theorem s50_4 : am_S 50 4 7 (.ifCond .ne 5, 0, 0, 0, 0) := ⟨by decide +kernel, rfl⟩
theorem s50_7 : am_S 50 7 8 (.iconst (-1), 0, 0, 0, 0) := ⟨by decide +kernel, rfl⟩
theorem s50_8 : am_S 50 8 9 (.ireturn, 0, 0, 0, 0) := ⟨by decide +kernel, rfl⟩
theorem s50_9 : am_S 50 9 10 (.aload_n 0, 0, 0, 0, 0) := ⟨by decide +kernel, rfl⟩
theorem s50_10 : am_S 50 10 13 (.getfield 33, 10, 6, 171, 0) := ⟨by decide +kernel, rfl⟩
theorem s50_13 : am_S 50 13 14 (.iload_n 1, 0, 0, 0, 0) := ⟨by decide +kernel, rfl⟩
theorem s50_14 : am_S 50 14 15 (.aaload, 0, 0, 0, 0) := ⟨by decide +kernel, rfl⟩
theorem s50_15 : am_S 50 15 18 (.invokevirtual 139, 34, 0, 412, 0) := ⟨by decide +kernel, rfl⟩
theorem s50_18 : am_S 50 18 21 (.ifCond .eq 9, 0, 0, 0, 0) := ⟨by decide +kernel, rfl⟩
theorem s50_21 : am_S 50 21 22 (.aload_n 0, 0, 0, 0, 0) := ⟨by decide +kernel, rfl⟩
theorem s50_22 : am_S 50 22 23 (.iconst 1, 0, 0, 0, 0) := ⟨by decide +kernel, rfl⟩
theorem s50_23 : am_S 50 23 26 (.invokevirtual 131, 99, 1, 397, 0) := ⟨by decide +kernel, rfl⟩
theorem s50_26 : am_S 50 26 27 (.ireturn, 0, 0, 0, 0) := ⟨by decide +kernel, rfl⟩
theorem s50_27 : am_S 50 27 28 (.aload_n 0, 0, 0, 0, 0) := ⟨by decide +kernel, rfl⟩
theorem s50_28 : am_S 50 28 31 (.getfield 33, 10, 6, 171, 0) := ⟨by decide +kernel, rfl⟩
theorem s50_31 : am_S 50 31 32 (.iload_n 1, 0, 0, 0, 0) := ⟨by decide +kernel, rfl⟩
theorem s50_32 : am_S 50 32 33 (.aaload, 0, 0, 0, 0) := ⟨by decide +kernel, rfl⟩
theorem s50_33 : am_S 50 33 36 (.invokevirtual 161, 40, 0, 437, 0) := ⟨by decide +kernel, rfl⟩
theorem s50_36 : am_S 50 36 37 (.ireturn, 0, 0, 0, 0) := ⟨by decide +kernel, rfl⟩
theorem s51_0 : am_S 51 0 1 (.iload_n 1, 0, 0, 0, 0) := ⟨by decide +kernel, rfl⟩
theorem s51_1 : am_S 51 1 4 (.invokestatic 128, 90, 1, 394, 0) := ⟨by decide +kernel, rfl⟩
theorem s51_4 : am_S 51 4 7 (.ifCond .ne 5, 0, 0, 0, 0) := ⟨by decide +kernel, rfl⟩
theorem s51_7 : am_S 51 7 8 (.iconst (-1), 0, 0, 0, 0) := ⟨by decide +kernel, rfl⟩
theorem s51_8 : am_S 51 8 9 (.ireturn, 0, 0, 0, 0) := ⟨by decide +kernel, rfl⟩
theorem s51_9 : am_S 51 9 10 (.aload_n 0, 0, 0, 0, 0) := ⟨by decide +kernel, rfl⟩
theorem s51_10 : am_S 51 10 13 (.getfield 33, 10, 6, 171, 0) := ⟨by decide +kernel, rfl⟩
theorem s51_13 : am_S 51 13 14 (.iload_n 1, 0, 0, 0, 0) := ⟨by decide +kernel, rfl⟩
theorem s51_14 : am_S 51 14 15 (.aaload, 0, 0, 0, 0) := ⟨by decide +kernel, rfl⟩
theorem s51_15 : am_S 51 15 18 (.invokevirtual 139, 34, 0, 412, 0) := ⟨by decide +kernel, rfl⟩
theorem s51_18 : am_S 51 18 21 (.ifCond .eq 9, 0, 0, 0, 0) := ⟨by decide +kernel, rfl⟩
theorem s51_21 : am_S 51 21 22 (.aload_n 0, 0, 0, 0, 0) := ⟨by decide +kernel, rfl⟩
theorem s51_22 : am_S 51 22 23 (.iconst 1, 0, 0, 0, 0) := ⟨by decide +kernel, rfl⟩
theorem s51_23 : am_S 51 23 26 (.invokevirtual 131, 99, 1, 397, 0) := ⟨by decide +kernel, rfl⟩
theorem s51_26 : am_S 51 26 27 (.ireturn, 0, 0, 0, 0) := ⟨by decide +kernel, rfl⟩
theorem s51_27 : am_S 51 27 28 (.aload_n 0, 0, 0, 0, 0) := ⟨by decide +kernel, rfl⟩
theorem s51_28 : am_S 51 28 31 (.getfield 41, 10, 7, 172, 0) := ⟨by decide +kernel, rfl⟩
theorem s51_31 : am_S 51 31 32 (.aload_n 0, 0, 0, 0, 0) := ⟨by decide +kernel, rfl⟩
theorem s51_32 : am_S 51 32 35 (.getfield 33, 10, 6, 171, 0) := ⟨by decide +kernel, rfl⟩
theorem s51_35 : am_S 51 35 36 (.iload_n 1, 0, 0, 0, 0) := ⟨by decide +kernel, rfl⟩
theorem s51_36 : am_S 51 36 37 (.aaload, 0, 0, 0, 0) := ⟨by decide +kernel, rfl⟩
theorem s51_37 : am_S 51 37 40 (.invokevirtual 164, 11, 1, 459, 0) := ⟨by decide +kernel, rfl⟩
theorem s51_40 : am_S 51 40 41 (.aload_n 0, 0, 0, 0, 0) := ⟨by decide +kernel, rfl⟩
theorem s51_41 : am_S 51 41 44 (.getfield 41, 10, 7, 172, 0) := ⟨by decide +kernel, rfl⟩
theorem s51_44 : am_S 51 44 47 (.getfield 168, 1, 2, 134, 1) := ⟨by decide +kernel, rfl⟩
theorem s51_47 : am_S 51 47 48 (.ireturn, 0, 0, 0, 0) := ⟨by decide +kernel, rfl⟩
theorem s52_0 : am_S 52 0 1 (.iload_n 1, 0, 0, 0, 0) := ⟨by decide +kernel, rfl⟩
theorem s52_1 : am_S 52 1 4 (.invokestatic 128, 90, 1, 394, 0) := ⟨by decide +kernel, rfl⟩
theorem s52_4 : am_S 52 4 7 (.ifCond .ne 5, 0, 0, 0, 0) := ⟨by decide +kernel, rfl⟩
theorem s52_7 : am_S 52 7 8 (.iconst (-1), 0, 0, 0, 0) := ⟨by decide +kernel, rfl⟩
theorem s52_8 : am_S 52 8 9 (.ireturn, 0, 0, 0, 0) := ⟨by decide +kernel, rfl⟩
theorem s52_9 : am_S 52 9 10 (.aload_n 0, 0, 0, 0, 0) := ⟨by decide +kernel, rfl⟩
theorem s52_10 : am_S 52 10 13 (.getfield 33, 10, 6, 171, 0) := ⟨by decide +kernel, rfl⟩
theorem s52_13 : am_S 52 13 14 (.iload_n 1, 0, 0, 0, 0) := ⟨by decide +kernel, rfl⟩
theorem s52_14 : am_S 52 14 15 (.aaload, 0, 0, 0, 0) := ⟨by decide +kernel, rfl⟩
theorem s52_15 : am_S 52 15 18 (.invokevirtual 139, 34, 0, 412, 0) := ⟨by decide +kernel, rfl⟩
theorem s52_18 : am_S 52 18 21 (.ifCond .eq 9, 0, 0, 0, 0) := ⟨by decide +kernel, rfl⟩
theorem s52_21 : am_S 52 21 22 (.aload_n 0, 0, 0, 0, 0) := ⟨by decide +kernel, rfl⟩
theorem s52_22 : am_S 52 22 23 (.iconst 1, 0, 0, 0, 0) := ⟨by decide +kernel, rfl⟩
theorem s52_23 : am_S 52 23 26 (.invokevirtual 131, 99, 1, 397, 0) := ⟨by decide +kernel, rfl⟩
theorem s52_26 : am_S 52 26 27 (.ireturn, 0, 0, 0, 0) := ⟨by decide +kernel, rfl⟩
theorem s52_27 : am_S 52 27 28 (.aload_n 0, 0, 0, 0, 0) := ⟨by decide +kernel, rfl⟩
theorem s52_28 : am_S 52 28 31 (.getfield 41, 10, 7, 172, 0) := ⟨by decide +kernel, rfl⟩
theorem s52_31 : am_S 52 31 32 (.aload_n 0, 0, 0, 0, 0) := ⟨by decide +kernel, rfl⟩
theorem s52_32 : am_S 52 32 35 (.getfield 33, 10, 6, 171, 0) := ⟨by decide +kernel, rfl⟩
theorem s52_35 : am_S 52 35 36 (.iload_n 1, 0, 0, 0, 0) := ⟨by decide +kernel, rfl⟩
theorem s52_36 : am_S 52 36 37 (.aaload, 0, 0, 0, 0) := ⟨by decide +kernel, rfl⟩
theorem s52_37 : am_S 52 37 40 (.invokevirtual 171, 12, 1, 476, 0) := ⟨by decide +kernel, rfl⟩
theorem s52_40 : am_S 52 40 41 (.ireturn, 0, 0, 0, 0) := ⟨by decide +kernel, rfl⟩
theorem s53_0 : am_S 53 0 1 (.iload_n 1, 0, 0, 0, 0) := ⟨by decide +kernel, rfl⟩
theorem s53_1 : am_S 53 1 4 (.invokestatic 175, 91, 1, 492, 0) := ⟨by decide +kernel, rfl⟩
theorem s53_4 : am_S 53 4 7 (.ifCond .eq 14, 0, 0, 0, 0) := ⟨by decide +kernel, rfl⟩
theorem s53_7 : am_S 53 7 8 (.iload_n 2, 0, 0, 0, 0) := ⟨by decide +kernel, rfl⟩
theorem s53_8 : am_S 53 8 9 (.iconst 0, 0, 0, 0, 0) := ⟨by decide +kernel, rfl⟩
theorem s53_9 : am_S 53 9 12 (.sipush 1000, 0, 0, 0, 0) := ⟨by decide +kernel, rfl⟩
theorem s53_12 : am_S 53 12 15 (.invokestatic 75, 87, 3, 212, 0) := ⟨by decide +kernel, rfl⟩
theorem s53_15 : am_S 53 15 18 (.ifCond .ne 5, 0, 0, 0, 0) := ⟨by decide +kernel, rfl⟩
theorem s53_18 : am_S 53 18 19 (.iconst (-1), 0, 0, 0, 0) := ⟨by decide +kernel, rfl⟩
theorem s53_19 : am_S 53 19 20 (.ireturn, 0, 0, 0, 0) := ⟨by decide +kernel, rfl⟩
theorem s53_20 : am_S 53 20 21 (.aload_n 0, 0, 0, 0, 0) := ⟨by decide +kernel, rfl⟩
theorem s53_21 : am_S 53 21 24 (.getfield 52, 10, 9, 174, 0) := ⟨by decide +kernel, rfl⟩
theorem s53_24 : am_S 53 24 25 (.iload_n 1, 0, 0, 0, 0) := ⟨by decide +kernel, rfl⟩
theorem s53_25 : am_S 53 25 26 (.iaload, 0, 0, 0, 0) := ⟨by decide +kernel, rfl⟩
theorem s53_26 : am_S 53 26 27 (.istore_n 3, 0, 0, 0, 0) := ⟨by decide +kernel, rfl⟩
theorem s53_27 : am_S 53 27 28 (.aload_n 0, 0, 0, 0, 0) := ⟨by decide +kernel, rfl⟩
theorem s53_28 : am_S 53 28 31 (.getfield 52, 10, 9, 174, 0) := ⟨by decide +kernel, rfl⟩
theorem s53_31 : am_S 53 31 32 (.iload_n 1, 0, 0, 0, 0) := ⟨by decide +kernel, rfl⟩
theorem s53_32 : am_S 53 32 33 (.iload_n 2, 0, 0, 0, 0) := ⟨by decide +kernel, rfl⟩
theorem s53_33 : am_S 53 33 34 (.iastore, 0, 0, 0, 0) := ⟨by decide +kernel, rfl⟩
theorem s53_34 : am_S 53 34 35 (.iload_n 3, 0, 0, 0, 0) := ⟨by decide +kernel, rfl⟩
theorem s53_35 : am_S 53 35 36 (.ireturn, 0, 0, 0, 0) := ⟨by decide +kernel, rfl⟩
theorem s54_0 : am_S 54 0 1 (.iload_n 1, 0, 0, 0, 0) := ⟨by decide +kernel, rfl⟩
theorem s54_1 : am_S 54 1 4 (.invokestatic 175, 91, 1, 492, 0) := ⟨by decide +kernel, rfl⟩
theorem s54_4 : am_S 54 4 7 (.ifCond .eq 44, 0, 0, 0, 0) := ⟨by decide +kernel, rfl⟩
theorem s54_7 : am_S 54 7 8 (.iload_n 2, 0, 0, 0, 0) := ⟨by decide +kernel, rfl⟩
theorem s54_8 : am_S 54 8 11 (.invokestatic 128, 90, 1, 394, 0) := ⟨by decide +kernel, rfl⟩
theorem s54_11 : am_S 54 11 14 (.ifCond .eq 37, 0, 0, 0, 0) := ⟨by decide +kernel, rfl⟩
theorem s54_14 : am_S 54 14 15 (.aload_n 0, 0, 0, 0, 0) := ⟨by decide +kernel, rfl⟩
theorem s54_15 : am_S 54 15 16 (.iload_n 3, 0, 0, 0, 0) := ⟨by decide +kernel, rfl⟩
theorem s54_16 : am_S 54 16 19 (.invokevirtual 178, 96, 1, 499, 0) := ⟨by decide +kernel, rfl⟩
theorem s54_19 : am_S 54 19 22 (.ifCond .eq 29, 0, 0, 0, 0) := ⟨by decide +kernel, rfl⟩
theorem s54_22 : am_S 54 22 23 (.iload_n 3, 0, 0, 0, 0) := ⟨by decide +kernel, rfl⟩
theorem s54_23 : am_S 54 23 26 (.ifCond .eq 25, 0, 0, 0, 0) := ⟨by decide +kernel, rfl⟩
theorem s54_26 : am_S 54 26 28 (.iload 4, 0, 0, 0, 0) := ⟨by decide +kernel, rfl⟩
theorem s54_28 : am_S 54 28 29 (.iconst 1, 0, 0, 0, 0) := ⟨by decide +kernel, rfl⟩
theorem s54_29 : am_S 54 29 31 (.bipush 9, 0, 0, 0, 0) := ⟨by decide +kernel, rfl⟩
theorem s54_31 : am_S 54 31 34 (.invokestatic 75, 87, 3, 212, 0) := ⟨by decide +kernel, rfl⟩
theorem s54_34 : am_S 54 34 37 (.ifCond .eq 14, 0, 0, 0, 0) := ⟨by decide +kernel, rfl⟩
theorem s54_37 : am_S 54 37 39 (.iload 5, 0, 0, 0, 0) := ⟨by decide +kernel, rfl⟩
theorem s54_39 : am_S 54 39 40 (.iconst 0, 0, 0, 0, 0) := ⟨by decide +kernel, rfl⟩
theorem s54_40 : am_S 54 40 42 (.ldc 181, 0, 0, 503, 65535) := ⟨by decide +kernel, rfl⟩
theorem s54_42 : am_S 54 42 45 (.invokestatic 75, 87, 3, 212, 0) := ⟨by decide +kernel, rfl⟩
theorem s54_45 : am_S 54 45 48 (.ifCond .ne 5, 0, 0, 0, 0) := ⟨by decide +kernel, rfl⟩
theorem s54_48 : am_S 54 48 49 (.iconst (-1), 0, 0, 0, 0) := ⟨by decide +kernel, rfl⟩
theorem s54_49 : am_S 54 49 50 (.ireturn, 0, 0, 0, 0) := ⟨by decide +kernel, rfl⟩
theorem s54_50 : am_S 54 50 51 (.aload_n 0, 0, 0, 0, 0) := ⟨by decide +kernel, rfl⟩
theorem s54_51 : am_S 54 51 54 (.getfield 19, 10, 2, 167, 0) := ⟨by decide +kernel, rfl⟩
theorem s54_54 : am_S 54 54 57 (.invokevirtual 79, 191, 0, 215, 0) := ⟨by decide +kernel, rfl⟩
theorem s54_57 : am_S 54 57 59 (.bipush 40, 0, 0, 0, 0) := ⟨by decide +kernel, rfl⟩
theorem s54_59 : am_S 54 59 62 (.if_icmp .lt 6, 0, 0, 0, 0) := ⟨by decide +kernel, rfl⟩
theorem s54_62 : am_S 54 62 64 (.bipush (-2), 0, 0, 0, 0) := ⟨by decide +kernel, rfl⟩
theorem s54_64 : am_S 54 64 65 (.ireturn, 0, 0, 0, 0) := ⟨by decide +kernel, rfl⟩
theorem s54_65 : am_S 54 65 66 (.aload_n 0, 0, 0, 0, 0) := ⟨by decide +kernel, rfl⟩
theorem s54_66 : am_S 54 66 69 (.getfield 33, 10, 6, 171, 0) := ⟨by decide +kernel, rfl⟩
theorem s54_69 : am_S 54 69 70 (.iload_n 2, 0, 0, 0, 0) := ⟨by decide +kernel, rfl⟩
theorem s54_70 : am_S 54 70 71 (.aaload, 0, 0, 0, 0) := ⟨by decide +kernel, rfl⟩
theorem s54_71 : am_S 54 71 73 (.astore 6, 0, 0, 0, 0) := ⟨by decide +kernel, rfl⟩
theorem s54_73 : am_S 54 73 75 (.aload 6, 0, 0, 0, 0) := ⟨by decide +kernel, rfl⟩
theorem s54_75 : am_S 54 75 78 (.invokevirtual 139, 34, 0, 412, 0) := ⟨by decide +kernel, rfl⟩
theorem s54_78 : am_S 54 78 81 (.ifCond .eq 9, 0, 0, 0, 0) := ⟨by decide +kernel, rfl⟩
theorem s54_81 : am_S 54 81 82 (.aload_n 0, 0, 0, 0, 0) := ⟨by decide +kernel, rfl⟩
theorem s54_82 : am_S 54 82 83 (.iconst 1, 0, 0, 0, 0) := ⟨by decide +kernel, rfl⟩
theorem s54_83 : am_S 54 83 86 (.invokevirtual 131, 99, 1, 397, 0) := ⟨by decide +kernel, rfl⟩
theorem s54_86 : am_S 54 86 87 (.ireturn, 0, 0, 0, 0) := ⟨by decide +kernel, rfl⟩
theorem s54_87 : am_S 54 87 88 (.aload_n 0, 0, 0, 0, 0) := ⟨by decide +kernel, rfl⟩
theorem s54_88 : am_S 54 88 91 (.getfield 41, 10, 7, 172, 0) := ⟨by decide +kernel, rfl⟩
theorem s54_91 : am_S 54 91 93 (.aload 6, 0, 0, 0, 0) := ⟨by decide +kernel, rfl⟩
theorem s54_93 : am_S 54 93 96 (.invokevirtual 171, 12, 1, 476, 0) := ⟨by decide +kernel, rfl⟩
theorem s54_96 : am_S 54 96 98 (.bipush (-9), 0, 0, 0, 0) := ⟨by decide +kernel, rfl⟩
theorem s54_98 : am_S 54 98 101 (.if_icmp .eq 6, 0, 0, 0, 0) := ⟨by decide +kernel, rfl⟩
theorem s54_101 : am_S 54 101 103 (.bipush (-5), 0, 0, 0, 0) := ⟨by decide +kernel, rfl⟩
theorem s54_103 : am_S 54 103 104 (.ireturn, 0, 0, 0, 0) := ⟨by decide +kernel, rfl⟩
theorem s54_104 : am_S 54 104 106 (.aload 6, 0, 0, 0, 0) := ⟨by decide +kernel, rfl⟩
theorem s54_106 : am_S 54 106 109 (.invokevirtual 161, 40, 0, 437, 0) := ⟨by decide +kernel, rfl⟩
theorem s54_109 : am_S 54 109 111 (.istore 7, 0, 0, 0, 0) := ⟨by decide +kernel, rfl⟩
theorem s54_111 : am_S 54 111 113 (.iload 7, 0, 0, 0, 0) := ⟨by decide +kernel, rfl⟩
theorem s54_113 : am_S 54 113 116 (.ifCond .ne 9, 0, 0, 0, 0) := ⟨by decide +kernel, rfl⟩
theorem s54_116 : am_S 54 116 117 (.aload_n 0, 0, 0, 0, 0) := ⟨by decide +kernel, rfl⟩
theorem s54_117 : am_S 54 117 118 (.iconst 5, 0, 0, 0, 0) := ⟨by decide +kernel, rfl⟩
theorem s54_118 : am_S 54 118 121 (.invokevirtual 131, 99, 1, 397, 0) := ⟨by decide +kernel, rfl⟩
theorem s54_121 : am_S 54 121 122 (.ireturn, 0, 0, 0, 0) := ⟨by decide +kernel, rfl⟩
theorem s54_122 : am_S 54 122 123 (.iload_n 1, 0, 0, 0, 0) := ⟨by decide +kernel, rfl⟩
theorem s54_123 : am_S 54 123 124 (.iconst 1, 0, 0, 0, 0) := ⟨by decide +kernel, rfl⟩
theorem s54_124 : am_S 54 124 127 (.invokestatic 182, 97, 2, 504, 0) := ⟨by decide +kernel, rfl⟩
theorem s54_127 : am_S 54 127 130 (.ifCond .eq 7, 0, 0, 0, 0) := ⟨by decide +kernel, rfl⟩
theorem s54_130 : am_S 54 130 131 (.iconst 3, 0, 0, 0, 0) := ⟨by decide +kernel, rfl⟩
theorem s54_131 : am_S 54 131 134 (.goto 5, 0, 0, 0, 0) := ⟨by decide +kernel, rfl⟩
theorem s54_134 : am_S 54 134 136 (.iload 4, 0, 0, 0, 0) := ⟨by decide +kernel, rfl⟩
theorem s54_136 : am_S 54 136 138 (.istore 8, 0, 0, 0, 0) := ⟨by decide +kernel, rfl⟩
theorem s54_138 : am_S 54 138 139 (.iload_n 1, 0, 0, 0, 0) := ⟨by decide +kernel, rfl⟩
theorem s54_139 : am_S 54 139 140 (.iconst 4, 0, 0, 0, 0) := ⟨by decide +kernel, rfl⟩
theorem s54_140 : am_S 54 140 143 (.invokestatic 182, 97, 2, 504, 0) := ⟨by decide +kernel, rfl⟩
theorem s54_143 : am_S 54 143 146 (.ifCond .eq 8, 0, 0, 0, 0) := ⟨by decide +kernel, rfl⟩
theorem s54_146 : am_S 54 146 148 (.iload 5, 0, 0, 0, 0) := ⟨by decide +kernel, rfl⟩
theorem s54_148 : am_S 54 148 151 (.goto 4, 0, 0, 0, 0) := ⟨by decide +kernel, rfl⟩
theorem s54_151 : am_S 54 151 152 (.iconst 0, 0, 0, 0, 0) := ⟨by decide +kernel, rfl⟩
theorem s54_152 : am_S 54 152 154 (.istore 9, 0, 0, 0, 0) := ⟨by decide +kernel, rfl⟩
theorem s54_154 : am_S 54 154 155 (.aload_n 0, 0, 0, 0, 0) := ⟨by decide +kernel, rfl⟩
theorem s54_155 : am_S 54 155 158 (.getfield 19, 10, 2, 167, 0) := ⟨by decide +kernel, rfl⟩
theorem s54_158 : am_S 54 158 161 (.new 185, 5, 508, 507, 67) := ⟨by decide +kernel, rfl⟩
theorem s54_161 : am_S 54 161 162 (.dup, 0, 0, 0, 0) := ⟨by decide +kernel, rfl⟩
theorem s54_162 : am_S 54 162 163 (.iload_n 1, 0, 0, 0, 0) := ⟨by decide +kernel, rfl⟩
theorem s54_163 : am_S 54 163 165 (.iload 7, 0, 0, 0, 0) := ⟨by decide +kernel, rfl⟩
theorem s54_165 : am_S 54 165 166 (.iload_n 3, 0, 0, 0, 0) := ⟨by decide +kernel, rfl⟩
theorem s54_166 : am_S 54 166 168 (.iload 8, 0, 0, 0, 0) := ⟨by decide +kernel, rfl⟩
theorem s54_168 : am_S 54 168 170 (.iload 9, 0, 0, 0, 0) := ⟨by decide +kernel, rfl⟩
theorem s54_170 : am_S 54 170 171 (.aload_n 0, 0, 0, 0, 0) := ⟨by decide +kernel, rfl⟩
theorem s54_171 : am_S 54 171 174 (.getfield 69, 10, 12, 177, 0) := ⟨by decide +kernel, rfl⟩
theorem s54_174 : am_S 54 174 177 (.invokespecial 187, 20, 6, 509, 0) := ⟨by decide +kernel, rfl⟩
theorem s54_177 : am_S 54 177 180 (.invokevirtual 88, 196, 1, 235, 0) := ⟨by decide +kernel, rfl⟩
theorem s54_180 : am_S 54 180 181 (.pop, 0, 0, 0, 0) := ⟨by decide +kernel, rfl⟩
theorem s54_181 : am_S 54 181 182 (.aload_n 0, 0, 0, 0, 0) := ⟨by decide +kernel, rfl⟩
theorem s54_182 : am_S 54 182 185 (.getfield 19, 10, 2, 167, 0) := ⟨by decide +kernel, rfl⟩
theorem s54_185 : am_S 54 185 188 (.invokevirtual 79, 191, 0, 215, 0) := ⟨by decide +kernel, rfl⟩
theorem s54_188 : am_S 54 188 189 (.iconst 1, 0, 0, 0, 0) := ⟨by decide +kernel, rfl⟩
theorem s54_189 : am_S 54 189 190 (.isub, 0, 0, 0, 0) := ⟨by decide +kernel, rfl⟩
theorem s54_190 : am_S 54 190 191 (.ireturn, 0, 0, 0, 0) := ⟨by decide +kernel, rfl⟩
theorem s55_0 : am_S 55 0 1 (.aload_n 0, 0, 0, 0, 0) := ⟨by decide +kernel, rfl⟩
theorem s55_1 : am_S 55 1 2 (.iload_n 1, 0, 0, 0, 0) := ⟨by decide +kernel, rfl⟩
theorem s55_2 : am_S 55 2 5 (.invokevirtual 190, 94, 1, 555, 0) := ⟨by decide +kernel, rfl⟩
theorem s55_5 : am_S 55 5 8 (.ifCond .ne 5, 0, 0, 0, 0) := ⟨by decide +kernel, rfl⟩
theorem s55_8 : am_S 55 8 9 (.iconst (-1), 0, 0, 0, 0) := ⟨by decide +kernel, rfl⟩
theorem s55_9 : am_S 55 9 10 (.ireturn, 0, 0, 0, 0) := ⟨by decide +kernel, rfl⟩
theorem s55_10 : am_S 55 10 11 (.aload_n 0, 0, 0, 0, 0) := ⟨by decide +kernel, rfl⟩
theorem s55_11 : am_S 55 11 14 (.getfield 19, 10, 2, 167, 0) := ⟨by decide +kernel, rfl⟩
theorem s55_14 : am_S 55 14 15 (.iload_n 1, 0, 0, 0, 0) := ⟨by decide +kernel, rfl⟩
theorem s55_15 : am_S 55 15 18 (.invokevirtual 104, 194, 1, 306, 0) := ⟨by decide +kernel, rfl⟩
theorem s55_18 : am_S 55 18 21 (.checkcast 185, 5, 0, 507, 0) := ⟨by decide +kernel, rfl⟩
theorem s55_21 : am_S 55 21 22 (.astore_n 3, 0, 0, 0, 0) := ⟨by decide +kernel, rfl⟩
theorem s55_22 : am_S 55 22 23 (.iload_n 2, 0, 0, 0, 0) := ⟨by decide +kernel, rfl⟩
theorem s55_23 : am_S 55 23 24 (.tableswitch 82 0 6 #[41, 46, 51, 56, 61, 66, 74], 0, 0, 0, 0) := ⟨by decide +kernel, rfl⟩
theorem s55_64 : am_S 55 64 65 (.aload_n 3, 0, 0, 0, 0) := ⟨by decide +kernel, rfl⟩
theorem s55_65 : am_S 55 65 68 (.getfield 193, 5, 0, 515, 1) := ⟨by decide +kernel, rfl⟩
theorem s55_68 : am_S 55 68 69 (.ireturn, 0, 0, 0, 0) := ⟨by decide +kernel, rfl⟩
theorem s55_69 : am_S 55 69 70 (.aload_n 3, 0, 0, 0, 0) := ⟨by decide +kernel, rfl⟩
theorem s55_70 : am_S 55 70 73 (.getfield 196, 5, 1, 517, 1) := ⟨by decide +kernel, rfl⟩
theorem s55_73 : am_S 55 73 74 (.ireturn, 0, 0, 0, 0) := ⟨by decide +kernel, rfl⟩
theorem s55_74 : am_S 55 74 75 (.aload_n 3, 0, 0, 0, 0) := ⟨by decide +kernel, rfl⟩
theorem s55_75 : am_S 55 75 78 (.getfield 199, 5, 2, 519, 1) := ⟨by decide +kernel, rfl⟩
theorem s55_78 : am_S 55 78 79 (.ireturn, 0, 0, 0, 0) := ⟨by decide +kernel, rfl⟩
theorem s55_79 : am_S 55 79 80 (.aload_n 3, 0, 0, 0, 0) := ⟨by decide +kernel, rfl⟩
theorem s55_80 : am_S 55 80 83 (.getfield 201, 5, 3, 521, 1) := ⟨by decide +kernel, rfl⟩
theorem s55_83 : am_S 55 83 84 (.ireturn, 0, 0, 0, 0) := ⟨by decide +kernel, rfl⟩
theorem s55_84 : am_S 55 84 85 (.aload_n 3, 0, 0, 0, 0) := ⟨by decide +kernel, rfl⟩
theorem s55_85 : am_S 55 85 88 (.getfield 204, 5, 5, 525, 1) := ⟨by decide +kernel, rfl⟩
theorem s55_88 : am_S 55 88 89 (.ireturn, 0, 0, 0, 0) := ⟨by decide +kernel, rfl⟩
theorem s55_89 : am_S 55 89 90 (.aload_n 3, 0, 0, 0, 0) := ⟨by decide +kernel, rfl⟩
theorem s55_90 : am_S 55 90 93 (.getfield 207, 5, 8, 531, 1) := ⟨by decide +kernel, rfl⟩
theorem s55_93 : am_S 55 93 96 (.invokestatic 124, 98, 1, 387, 0) := ⟨by decide +kernel, rfl⟩
theorem s55_96 : am_S 55 96 97 (.ireturn, 0, 0, 0, 0) := ⟨by decide +kernel, rfl⟩
theorem s55_97 : am_S 55 97 98 (.aload_n 3, 0, 0, 0, 0) := ⟨by decide +kernel, rfl⟩
theorem s55_98 : am_S 55 98 101 (.invokevirtual 211, 23, 0, 559, 0) := ⟨by decide +kernel, rfl⟩
theorem s55_101 : am_S 55 101 104 (.invokestatic 124, 98, 1, 387, 0) := ⟨by decide +kernel, rfl⟩
theorem s55_104 : am_S 55 104 105 (.ireturn, 0, 0, 0, 0) := ⟨by decide +kernel, rfl⟩
theorem s55_105 : am_S 55 105 106 (.iconst (-1), 0, 0, 0, 0) := ⟨by decide +kernel, rfl⟩
theorem s55_106 : am_S 55 106 107 (.ireturn, 0, 0, 0, 0) := ⟨by decide +kernel, rfl⟩
theorem s56_0 : am_S 56 0 1 (.aload_n 0, 0, 0, 0, 0) := ⟨by decide +kernel, rfl⟩
theorem s56_1 : am_S 56 1 2 (.iload_n 1, 0, 0, 0, 0) := ⟨by decide +kernel, rfl⟩
theorem s56_2 : am_S 56 2 5 (.invokevirtual 190, 94, 1, 555, 0) := ⟨by decide +kernel, rfl⟩
theorem s56_5 : am_S 56 5 8 (.ifCond .eq 14, 0, 0, 0, 0) := ⟨by decide +kernel, rfl⟩
theorem s56_8 : am_S 56 8 9 (.iload_n 2, 0, 0, 0, 0) := ⟨by decide +kernel, rfl⟩
theorem s56_9 : am_S 56 9 12 (.invokestatic 175, 91, 1, 492, 0) := ⟨by decide +kernel, rfl⟩
theorem s56_12 : am_S 56 12 15 (.ifCond .eq 7, 0, 0, 0, 0) := ⟨by decide +kernel, rfl⟩
theorem s56_15 : am_S 56 15 16 (.iload_n 2, 0, 0, 0, 0) := ⟨by decide +kernel, rfl⟩
theorem s56_16 : am_S 56 16 19 (.ifCond .ne 5, 0, 0, 0, 0) := ⟨by decide +kernel, rfl⟩
theorem s56_19 : am_S 56 19 20 (.iconst (-1), 0, 0, 0, 0) := ⟨by decide +kernel, rfl⟩
theorem s56_20 : am_S 56 20 21 (.ireturn, 0, 0, 0, 0) := ⟨by decide +kernel, rfl⟩
theorem s56_21 : am_S 56 21 22 (.aload_n 0, 0, 0, 0, 0) := ⟨by decide +kernel, rfl⟩
theorem s56_22 : am_S 56 22 25 (.getfield 19, 10, 2, 167, 0) := ⟨by decide +kernel, rfl⟩
theorem s56_25 : am_S 56 25 26 (.iload_n 1, 0, 0, 0, 0) := ⟨by decide +kernel, rfl⟩
theorem s56_26 : am_S 56 26 29 (.invokevirtual 104, 194, 1, 306, 0) := ⟨by decide +kernel, rfl⟩
theorem s56_29 : am_S 56 29 32 (.checkcast 185, 5, 0, 507, 0) := ⟨by decide +kernel, rfl⟩
theorem s56_32 : am_S 56 32 33 (.astore_n 3, 0, 0, 0, 0) := ⟨by decide +kernel, rfl⟩
theorem s56_33 : am_S 56 33 34 (.aload_n 3, 0, 0, 0, 0) := ⟨by decide +kernel, rfl⟩
theorem s56_34 : am_S 56 34 37 (.getfield 193, 5, 0, 515, 1) := ⟨by decide +kernel, rfl⟩
theorem s56_37 : am_S 56 37 38 (.iload_n 2, 0, 0, 0, 0) := ⟨by decide +kernel, rfl⟩
theorem s56_38 : am_S 56 38 41 (.invokestatic 182, 97, 2, 504, 0) := ⟨by decide +kernel, rfl⟩
theorem s56_41 : am_S 56 41 44 (.ifCond .ne 9, 0, 0, 0, 0) := ⟨by decide +kernel, rfl⟩
theorem s56_44 : am_S 56 44 45 (.aload_n 0, 0, 0, 0, 0) := ⟨by decide +kernel, rfl⟩
theorem s56_45 : am_S 56 45 46 (.iconst 3, 0, 0, 0, 0) := ⟨by decide +kernel, rfl⟩
theorem s56_46 : am_S 56 46 49 (.invokevirtual 131, 99, 1, 397, 0) := ⟨by decide +kernel, rfl⟩
theorem s56_49 : am_S 56 49 50 (.ireturn, 0, 0, 0, 0) := ⟨by decide +kernel, rfl⟩
theorem s56_50 : am_S 56 50 51 (.iload_n 2, 0, 0, 0, 0) := ⟨by decide +kernel, rfl⟩
theorem s56_51 : am_S 56 51 52 (.tableswitch 50 1 4 #[29, 34, 39, 45], 0, 0, 0, 0) := ⟨by decide +kernel, rfl⟩
theorem s56_80 : am_S 56 80 81 (.aload_n 3, 0, 0, 0, 0) := ⟨by decide +kernel, rfl⟩
theorem s56_81 : am_S 56 81 84 (.invokevirtual 214, 22, 0, 575, 0) := ⟨by decide +kernel, rfl⟩
theorem s56_84 : am_S 56 84 85 (.ireturn, 0, 0, 0, 0) := ⟨by decide +kernel, rfl⟩
theorem s56_85 : am_S 56 85 86 (.aload_n 3, 0, 0, 0, 0) := ⟨by decide +kernel, rfl⟩
theorem s56_86 : am_S 56 86 89 (.invokevirtual 217, 24, 0, 576, 0) := ⟨by decide +kernel, rfl⟩
theorem s56_89 : am_S 56 89 90 (.ireturn, 0, 0, 0, 0) := ⟨by decide +kernel, rfl⟩
theorem s56_90 : am_S 56 90 91 (.aload_n 0, 0, 0, 0, 0) := ⟨by decide +kernel, rfl⟩
theorem s56_91 : am_S 56 91 92 (.aload_n 3, 0, 0, 0, 0) := ⟨by decide +kernel, rfl⟩
theorem s56_92 : am_S 56 92 95 (.invokevirtual 220, 104, 1, 580, 0) := ⟨by decide +kernel, rfl⟩
theorem s56_95 : am_S 56 95 96 (.ireturn, 0, 0, 0, 0) := ⟨by decide +kernel, rfl⟩
theorem s56_96 : am_S 56 96 97 (.aload_n 3, 0, 0, 0, 0) := ⟨by decide +kernel, rfl⟩
theorem s56_97 : am_S 56 97 100 (.getfield 224, 5, 4, 523, 1) := ⟨by decide +kernel, rfl⟩
theorem s56_100 : am_S 56 100 101 (.ireturn, 0, 0, 0, 0) := ⟨by decide +kernel, rfl⟩
theorem s56_101 : am_S 56 101 102 (.aload_n 0, 0, 0, 0, 0) := ⟨by decide +kernel, rfl⟩
theorem s56_102 : am_S 56 102 103 (.aload_n 3, 0, 0, 0, 0) := ⟨by decide +kernel, rfl⟩
theorem s56_103 : am_S 56 103 106 (.invokevirtual 227, 111, 1, 590, 0) := ⟨by decide +kernel, rfl⟩
theorem s56_106 : am_S 56 106 107 (.ireturn, 0, 0, 0, 0) := ⟨by decide +kernel, rfl⟩
theorem s57_0 : am_S 57 0 1 (.aload_n 0, 0, 0, 0, 0) := ⟨by decide +kernel, rfl⟩
theorem s57_1 : am_S 57 1 2 (.iload_n 1, 0, 0, 0, 0) := ⟨by decide +kernel, rfl⟩
theorem s57_2 : am_S 57 2 5 (.invokevirtual 190, 94, 1, 555, 0) := ⟨by decide +kernel, rfl⟩
theorem s57_5 : am_S 57 5 8 (.ifCond .ne 5, 0, 0, 0, 0) := ⟨by decide +kernel, rfl⟩
theorem s57_8 : am_S 57 8 9 (.iconst (-1), 0, 0, 0, 0) := ⟨by decide +kernel, rfl⟩
theorem s57_9 : am_S 57 9 10 (.ireturn, 0, 0, 0, 0) := ⟨by decide +kernel, rfl⟩
theorem s57_10 : am_S 57 10 11 (.aload_n 0, 0, 0, 0, 0) := ⟨by decide +kernel, rfl⟩
theorem s57_11 : am_S 57 11 12 (.aload_n 0, 0, 0, 0, 0) := ⟨by decide +kernel, rfl⟩
theorem s57_12 : am_S 57 12 15 (.getfield 19, 10, 2, 167, 0) := ⟨by decide +kernel, rfl⟩
theorem s57_15 : am_S 57 15 16 (.iload_n 1, 0, 0, 0, 0) := ⟨by decide +kernel, rfl⟩
theorem s57_16 : am_S 57 16 19 (.invokevirtual 104, 194, 1, 306, 0) := ⟨by decide +kernel, rfl⟩
theorem s57_19 : am_S 57 19 22 (.checkcast 185, 5, 0, 507, 0) := ⟨by decide +kernel, rfl⟩
theorem s57_22 : am_S 57 22 25 (.invokevirtual 220, 104, 1, 580, 0) := ⟨by decide +kernel, rfl⟩
theorem s57_25 : am_S 57 25 26 (.ireturn, 0, 0, 0, 0) := ⟨by decide +kernel, rfl⟩
theorem s58_0 : am_S 58 0 1 (.iconst 0, 0, 0, 0, 0) := ⟨by decide +kernel, rfl⟩
theorem s58_1 : am_S 58 1 2 (.istore_n 1, 0, 0, 0, 0) := ⟨by decide +kernel, rfl⟩
theorem s58_2 : am_S 58 2 3 (.iconst 0, 0, 0, 0, 0) := ⟨by decide +kernel, rfl⟩
theorem s58_3 : am_S 58 3 4 (.istore_n 2, 0, 0, 0, 0) := ⟨by decide +kernel, rfl⟩
theorem s58_4 : am_S 58 4 5 (.iconst 0, 0, 0, 0, 0) := ⟨by decide +kernel, rfl⟩
theorem s58_5 : am_S 58 5 6 (.istore_n 3, 0, 0, 0, 0) := ⟨by decide +kernel, rfl⟩
theorem s58_6 : am_S 58 6 7 (.iload_n 3, 0, 0, 0, 0) := ⟨by decide +kernel, rfl⟩
theorem s58_7 : am_S 58 7 8 (.aload_n 0, 0, 0, 0, 0) := ⟨by decide +kernel, rfl⟩
theorem s58_8 : am_S 58 8 11 (.getfield 19, 10, 2, 167, 0) := ⟨by decide +kernel, rfl⟩
theorem s58_11 : am_S 58 11 14 (.invokevirtual 79, 191, 0, 215, 0) := ⟨by decide +kernel, rfl⟩
theorem s58_14 : am_S 58 14 17 (.if_icmp .ge 42, 0, 0, 0, 0) := ⟨by decide +kernel, rfl⟩
theorem s58_17 : am_S 58 17 18 (.aload_n 0, 0, 0, 0, 0) := ⟨by decide +kernel, rfl⟩
theorem s58_18 : am_S 58 18 21 (.getfield 19, 10, 2, 167, 0) := ⟨by decide +kernel, rfl⟩
theorem s58_21 : am_S 58 21 22 (.iload_n 3, 0, 0, 0, 0) := ⟨by decide +kernel, rfl⟩
theorem s58_22 : am_S 58 22 25 (.invokevirtual 104, 194, 1, 306, 0) := ⟨by decide +kernel, rfl⟩
theorem s58_25 : am_S 58 25 28 (.checkcast 185, 5, 0, 507, 0) := ⟨by decide +kernel, rfl⟩
theorem s58_28 : am_S 58 28 30 (.astore 4, 0, 0, 0, 0) := ⟨by decide +kernel, rfl⟩
theorem s58_30 : am_S 58 30 32 (.aload 4, 0, 0, 0, 0) := ⟨by decide +kernel, rfl⟩
theorem s58_32 : am_S 58 32 35 (.getfield 207, 5, 8, 531, 1) := ⟨by decide +kernel, rfl⟩
theorem s58_35 : am_S 58 35 38 (.ifCond .ne 15, 0, 0, 0, 0) := ⟨by decide +kernel, rfl⟩
theorem s58_38 : am_S 58 38 39 (.iload_n 1, 0, 0, 0, 0) := ⟨by decide +kernel, rfl⟩
theorem s58_39 : am_S 58 39 40 (.aload_n 0, 0, 0, 0, 0) := ⟨by decide +kernel, rfl⟩
theorem s58_40 : am_S 58 40 42 (.aload 4, 0, 0, 0, 0) := ⟨by decide +kernel, rfl⟩
theorem s58_42 : am_S 58 42 45 (.invokevirtual 220, 104, 1, 580, 0) := ⟨by decide +kernel, rfl⟩
theorem s58_45 : am_S 58 45 46 (.iadd, 0, 0, 0, 0) := ⟨by decide +kernel, rfl⟩
theorem s58_46 : am_S 58 46 47 (.istore_n 1, 0, 0, 0, 0) := ⟨by decide +kernel, rfl⟩
theorem s58_47 : am_S 58 47 50 (.iinc 2 1, 0, 0, 0, 0) := ⟨by decide +kernel, rfl⟩
theorem s58_50 : am_S 58 50 53 (.iinc 3 1, 0, 0, 0, 0) := ⟨by decide +kernel, rfl⟩
theorem s58_53 : am_S 58 53 56 (.goto (-47), 0, 0, 0, 0) := ⟨by decide +kernel, rfl⟩
theorem s58_56 : am_S 58 56 57 (.iload_n 2, 0, 0, 0, 0) := ⟨by decide +kernel, rfl⟩
theorem s58_57 : am_S 58 57 60 (.ifCond .ne 9, 0, 0, 0, 0) := ⟨by decide +kernel, rfl⟩
theorem s58_60 : am_S 58 60 61 (.aload_n 0, 0, 0, 0, 0) := ⟨by decide +kernel, rfl⟩
theorem s58_61 : am_S 58 61 62 (.iconst 4, 0, 0, 0, 0) := ⟨by decide +kernel, rfl⟩
theorem s58_62 : am_S 58 62 65 (.invokevirtual 131, 99, 1, 397, 0) := ⟨by decide +kernel, rfl⟩
theorem s58_65 : am_S 58 65 66 (.ireturn, 0, 0, 0, 0) := ⟨by decide +kernel, rfl⟩
theorem s58_66 : am_S 58 66 67 (.iload_n 1, 0, 0, 0, 0) := ⟨by decide +kernel, rfl⟩
theorem s58_67 : am_S 58 67 68 (.iload_n 2, 0, 0, 0, 0) := ⟨by decide +kernel, rfl⟩
theorem s58_68 : am_S 58 68 69 (.idiv, 0, 0, 0, 0) := ⟨by decide +kernel, rfl⟩
theorem s58_69 : am_S 58 69 70 (.ireturn, 0, 0, 0, 0) := ⟨by decide +kernel, rfl⟩
theorem s59_0 : am_S 59 0 1 (.aload_n 0, 0, 0, 0, 0) := ⟨by decide +kernel, rfl⟩
theorem s59_1 : am_S 59 1 2 (.iload_n 1, 0, 0, 0, 0) := ⟨by decide +kernel, rfl⟩
theorem s59_2 : am_S 59 2 5 (.invokevirtual 190, 94, 1, 555, 0) := ⟨by decide +kernel, rfl⟩
theorem s59_5 : am_S 59 5 8 (.ifCond .ne 5, 0, 0, 0, 0) := ⟨by decide +kernel, rfl⟩
theorem s59_8 : am_S 59 8 9 (.iconst (-1), 0, 0, 0, 0) := ⟨by decide +kernel, rfl⟩
theorem s59_9 : am_S 59 9 10 (.ireturn, 0, 0, 0, 0) := ⟨by decide +kernel, rfl⟩
theorem s59_10 : am_S 59 10 11 (.aload_n 0, 0, 0, 0, 0) := ⟨by decide +kernel, rfl⟩
theorem s59_11 : am_S 59 11 14 (.getfield 19, 10, 2, 167, 0) := ⟨by decide +kernel, rfl⟩
theorem s59_14 : am_S 59 14 15 (.iload_n 1, 0, 0, 0, 0) := ⟨by decide +kernel, rfl⟩
theorem s59_15 : am_S 59 15 18 (.invokevirtual 104, 194, 1, 306, 0) := ⟨by decide +kernel, rfl⟩
theorem s59_18 : am_S 59 18 21 (.checkcast 185, 5, 0, 507, 0) := ⟨by decide +kernel, rfl⟩
theorem s59_21 : am_S 59 21 22 (.astore_n 2, 0, 0, 0, 0) := ⟨by decide +kernel, rfl⟩
theorem s59_22 : am_S 59 22 23 (.aload_n 2, 0, 0, 0, 0) := ⟨by decide +kernel, rfl⟩
theorem s59_23 : am_S 59 23 26 (.getfield 207, 5, 8, 531, 1) := ⟨by decide +kernel, rfl⟩
theorem s59_26 : am_S 59 26 29 (.ifCond .ne 10, 0, 0, 0, 0) := ⟨by decide +kernel, rfl⟩
theorem s59_29 : am_S 59 29 30 (.aload_n 2, 0, 0, 0, 0) := ⟨by decide +kernel, rfl⟩
theorem s59_30 : am_S 59 30 33 (.invokevirtual 211, 23, 0, 559, 0) := ⟨by decide +kernel, rfl⟩
theorem s59_33 : am_S 59 33 36 (.ifCond .eq 6, 0, 0, 0, 0) := ⟨by decide +kernel, rfl⟩
theorem s59_36 : am_S 59 36 38 (.bipush (-4), 0, 0, 0, 0) := ⟨by decide +kernel, rfl⟩
theorem s59_38 : am_S 59 38 39 (.ireturn, 0, 0, 0, 0) := ⟨by decide +kernel, rfl⟩
theorem s59_39 : am_S 59 39 40 (.aload_n 2, 0, 0, 0, 0) := ⟨by decide +kernel, rfl⟩
theorem s59_40 : am_S 59 40 41 (.iconst 1, 0, 0, 0, 0) := ⟨by decide +kernel, rfl⟩
theorem s59_41 : am_S 59 41 44 (.putfield 207, 5, 8, 531, 1) := ⟨by decide +kernel, rfl⟩
theorem s59_44 : am_S 59 44 45 (.iconst 1, 0, 0, 0, 0) := ⟨by decide +kernel, rfl⟩
theorem s59_45 : am_S 59 45 46 (.ireturn, 0, 0, 0, 0) := ⟨by decide +kernel, rfl⟩
theorem s60_0 : am_S 60 0 1 (.aload_n 0, 0, 0, 0, 0) := ⟨by decide +kernel, rfl⟩
theorem s60_1 : am_S 60 1 2 (.iload_n 1, 0, 0, 0, 0) := ⟨by decide +kernel, rfl⟩
theorem s60_2 : am_S 60 2 5 (.invokevirtual 92, 93, 1, 298, 0) := ⟨by decide +kernel, rfl⟩
theorem s60_5 : am_S 60 5 8 (.ifCond .ne 5, 0, 0, 0, 0) := ⟨by decide +kernel, rfl⟩
theorem s60_8 : am_S 60 8 9 (.iconst (-1), 0, 0, 0, 0) := ⟨by decide +kernel, rfl⟩
theorem s60_9 : am_S 60 9 10 (.ireturn, 0, 0, 0, 0) := ⟨by decide +kernel, rfl⟩
theorem s60_10 : am_S 60 10 11 (.aload_n 0, 0, 0, 0, 0) := ⟨by decide +kernel, rfl⟩
theorem s60_11 : am_S 60 11 14 (.getfield 22, 10, 3, 168, 0) := ⟨by decide +kernel, rfl⟩
theorem s60_14 : am_S 60 14 17 (.invokevirtual 79, 191, 0, 215, 0) := ⟨by decide +kernel, rfl⟩
theorem s60_17 : am_S 60 17 19 (.bipush 6, 0, 0, 0, 0) := ⟨by decide +kernel, rfl⟩
theorem s60_19 : am_S 60 19 22 (.if_icmp .lt 6, 0, 0, 0, 0) := ⟨by decide +kernel, rfl⟩
theorem s60_22 : am_S 60 22 24 (.bipush (-2), 0, 0, 0, 0) := ⟨by decide +kernel, rfl⟩
theorem s60_24 : am_S 60 24 25 (.ireturn, 0, 0, 0, 0) := ⟨by decide +kernel, rfl⟩
theorem s60_25 : am_S 60 25 26 (.aload_n 0, 0, 0, 0, 0) := ⟨by decide +kernel, rfl⟩
theorem s60_26 : am_S 60 26 29 (.getfield 22, 10, 3, 168, 0) := ⟨by decide +kernel, rfl⟩
theorem s60_29 : am_S 60 29 32 (.new 108, 2, 613, 344, 69) := ⟨by decide +kernel, rfl⟩
theorem s60_32 : am_S 60 32 33 (.dup, 0, 0, 0, 0) := ⟨by decide +kernel, rfl⟩
theorem s60_33 : am_S 60 33 34 (.iload_n 1, 0, 0, 0, 0) := ⟨by decide +kernel, rfl⟩
theorem s60_34 : am_S 60 34 37 (.invokespecial 230, 16, 1, 614, 0) := ⟨by decide +kernel, rfl⟩
theorem s60_37 : am_S 60 37 40 (.invokevirtual 88, 196, 1, 235, 0) := ⟨by decide +kernel, rfl⟩
theorem s60_40 : am_S 60 40 41 (.pop, 0, 0, 0, 0) := ⟨by decide +kernel, rfl⟩
theorem s60_41 : am_S 60 41 42 (.aload_n 0, 0, 0, 0, 0) := ⟨by decide +kernel, rfl⟩
theorem s60_42 : am_S 60 42 45 (.getfield 22, 10, 3, 168, 0) := ⟨by decide +kernel, rfl⟩
theorem s60_45 : am_S 60 45 48 (.invokevirtual 79, 191, 0, 215, 0) := ⟨by decide +kernel, rfl⟩
theorem s60_48 : am_S 60 48 49 (.iconst 1, 0, 0, 0, 0) := ⟨by decide +kernel, rfl⟩
theorem s60_49 : am_S 60 49 50 (.isub, 0, 0, 0, 0) := ⟨by decide +kernel, rfl⟩
theorem s60_50 : am_S 60 50 51 (.ireturn, 0, 0, 0, 0) := ⟨by decide +kernel, rfl⟩
theorem s61_0 : am_S 61 0 1 (.aload_n 0, 0, 0, 0, 0) := ⟨by decide +kernel, rfl⟩
theorem s61_1 : am_S 61 1 2 (.iload_n 1, 0, 0, 0, 0) := ⟨by decide +kernel, rfl⟩
theorem s61_2 : am_S 61 2 5 (.invokevirtual 232, 95, 1, 631, 0) := ⟨by decide +kernel, rfl⟩
theorem s61_5 : am_S 61 5 8 (.ifCond .eq 11, 0, 0, 0, 0) := ⟨by decide +kernel, rfl⟩
theorem s61_8 : am_S 61 8 9 (.aload_n 0, 0, 0, 0, 0) := ⟨by decide +kernel, rfl⟩
theorem s61_9 : am_S 61 9 10 (.iload_n 2, 0, 0, 0, 0) := ⟨by decide +kernel, rfl⟩
theorem s61_10 : am_S 61 10 13 (.invokevirtual 92, 93, 1, 298, 0) := ⟨by decide +kernel, rfl⟩
theorem s61_13 : am_S 61 13 16 (.ifCond .ne 5, 0, 0, 0, 0) := ⟨by decide +kernel, rfl⟩
theorem s61_16 : am_S 61 16 17 (.iconst (-1), 0, 0, 0, 0) := ⟨by decide +kernel, rfl⟩
theorem s61_17 : am_S 61 17 18 (.ireturn, 0, 0, 0, 0) := ⟨by decide +kernel, rfl⟩
theorem s61_18 : am_S 61 18 19 (.aload_n 0, 0, 0, 0, 0) := ⟨by decide +kernel, rfl⟩
theorem s61_19 : am_S 61 19 20 (.aload_n 0, 0, 0, 0, 0) := ⟨by decide +kernel, rfl⟩
theorem s61_20 : am_S 61 20 23 (.getfield 22, 10, 3, 168, 0) := ⟨by decide +kernel, rfl⟩
theorem s61_23 : am_S 61 23 24 (.iload_n 1, 0, 0, 0, 0) := ⟨by decide +kernel, rfl⟩
theorem s61_24 : am_S 61 24 27 (.invokevirtual 104, 194, 1, 306, 0) := ⟨by decide +kernel, rfl⟩
theorem s61_27 : am_S 61 27 30 (.checkcast 108, 2, 0, 344, 0) := ⟨by decide +kernel, rfl⟩
theorem s61_30 : am_S 61 30 31 (.iload_n 2, 0, 0, 0, 0) := ⟨by decide +kernel, rfl⟩
theorem s61_31 : am_S 61 31 34 (.invokevirtual 235, 105, 2, 635, 0) := ⟨by decide +kernel, rfl⟩
theorem s61_34 : am_S 61 34 35 (.ireturn, 0, 0, 0, 0) := ⟨by decide +kernel, rfl⟩
theorem s62_0 : am_S 62 0 1 (.aload_n 0, 0, 0, 0, 0) := ⟨by decide +kernel, rfl⟩
theorem s62_1 : am_S 62 1 2 (.iload_n 1, 0, 0, 0, 0) := ⟨by decide +kernel, rfl⟩
theorem s62_2 : am_S 62 2 5 (.invokevirtual 190, 94, 1, 555, 0) := ⟨by decide +kernel, rfl⟩
theorem s62_5 : am_S 62 5 8 (.ifCond .eq 27, 0, 0, 0, 0) := ⟨by decide +kernel, rfl⟩
theorem s62_8 : am_S 62 8 9 (.aload_n 0, 0, 0, 0, 0) := ⟨by decide +kernel, rfl⟩
theorem s62_9 : am_S 62 9 10 (.iload_n 2, 0, 0, 0, 0) := ⟨by decide +kernel, rfl⟩
theorem s62_10 : am_S 62 10 13 (.invokevirtual 232, 95, 1, 631, 0) := ⟨by decide +kernel, rfl⟩
theorem s62_13 : am_S 62 13 16 (.ifCond .eq 19, 0, 0, 0, 0) := ⟨by decide +kernel, rfl⟩
theorem s62_16 : am_S 62 16 17 (.aload_n 0, 0, 0, 0, 0) := ⟨by decide +kernel, rfl⟩
theorem s62_17 : am_S 62 17 18 (.iload_n 3, 0, 0, 0, 0) := ⟨by decide +kernel, rfl⟩
theorem s62_18 : am_S 62 18 21 (.invokevirtual 92, 93, 1, 298, 0) := ⟨by decide +kernel, rfl⟩
theorem s62_21 : am_S 62 21 24 (.ifCond .eq 11, 0, 0, 0, 0) := ⟨by decide +kernel, rfl⟩
theorem s62_24 : am_S 62 24 26 (.iload 4, 0, 0, 0, 0) := ⟨by decide +kernel, rfl⟩
theorem s62_26 : am_S 62 26 29 (.invokestatic 239, 89, 1, 643, 0) := ⟨by decide +kernel, rfl⟩
theorem s62_29 : am_S 62 29 32 (.ifCond .ne 5, 0, 0, 0, 0) := ⟨by decide +kernel, rfl⟩
theorem s62_32 : am_S 62 32 33 (.iconst (-1), 0, 0, 0, 0) := ⟨by decide +kernel, rfl⟩
theorem s62_33 : am_S 62 33 34 (.ireturn, 0, 0, 0, 0) := ⟨by decide +kernel, rfl⟩
theorem s62_34 : am_S 62 34 35 (.aload_n 0, 0, 0, 0, 0) := ⟨by decide +kernel, rfl⟩
theorem s62_35 : am_S 62 35 38 (.getfield 25, 10, 4, 169, 0) := ⟨by decide +kernel, rfl⟩
theorem s62_38 : am_S 62 38 41 (.invokevirtual 79, 191, 0, 215, 0) := ⟨by decide +kernel, rfl⟩
theorem s62_41 : am_S 62 41 44 (.sipush 400, 0, 0, 0, 0) := ⟨by decide +kernel, rfl⟩
theorem s62_44 : am_S 62 44 47 (.if_icmp .lt 6, 0, 0, 0, 0) := ⟨by decide +kernel, rfl⟩
theorem s62_47 : am_S 62 47 49 (.bipush (-2), 0, 0, 0, 0) := ⟨by decide +kernel, rfl⟩
theorem s62_49 : am_S 62 49 50 (.ireturn, 0, 0, 0, 0) := ⟨by decide +kernel, rfl⟩
theorem s62_50 : am_S 62 50 51 (.aload_n 0, 0, 0, 0, 0) := ⟨by decide +kernel, rfl⟩
theorem s62_51 : am_S 62 51 52 (.aload_n 0, 0, 0, 0, 0) := ⟨by decide +kernel, rfl⟩
theorem s62_52 : am_S 62 52 55 (.getfield 22, 10, 3, 168, 0) := ⟨by decide +kernel, rfl⟩
theorem s62_55 : am_S 62 55 56 (.iload_n 2, 0, 0, 0, 0) := ⟨by decide +kernel, rfl⟩
theorem s62_56 : am_S 62 56 59 (.invokevirtual 104, 194, 1, 306, 0) := ⟨by decide +kernel, rfl⟩
theorem s62_59 : am_S 62 59 62 (.checkcast 108, 2, 0, 344, 0) := ⟨by decide +kernel, rfl⟩
theorem s62_62 : am_S 62 62 63 (.iload_n 3, 0, 0, 0, 0) := ⟨by decide +kernel, rfl⟩
theorem s62_63 : am_S 62 63 66 (.invokevirtual 235, 105, 2, 635, 0) := ⟨by decide +kernel, rfl⟩
theorem s62_66 : am_S 62 66 68 (.iload 4, 0, 0, 0, 0) := ⟨by decide +kernel, rfl⟩
theorem s62_68 : am_S 62 68 71 (.if_icmp .le 6, 0, 0, 0, 0) := ⟨by decide +kernel, rfl⟩
theorem s62_71 : am_S 62 71 73 (.bipush (-4), 0, 0, 0, 0) := ⟨by decide +kernel, rfl⟩
theorem s62_73 : am_S 62 73 74 (.ireturn, 0, 0, 0, 0) := ⟨by decide +kernel, rfl⟩
theorem s62_74 : am_S 62 74 75 (.aload_n 0, 0, 0, 0, 0) := ⟨by decide +kernel, rfl⟩
theorem s62_75 : am_S 62 75 76 (.iload_n 2, 0, 0, 0, 0) := ⟨by decide +kernel, rfl⟩
theorem s62_76 : am_S 62 76 77 (.iload_n 3, 0, 0, 0, 0) := ⟨by decide +kernel, rfl⟩
theorem s62_77 : am_S 62 77 79 (.iload 4, 0, 0, 0, 0) := ⟨by decide +kernel, rfl⟩
theorem s62_79 : am_S 62 79 82 (.invokevirtual 242, 106, 3, 646, 0) := ⟨by decide +kernel, rfl⟩
theorem s62_82 : am_S 62 82 85 (.ifCond .eq 6, 0, 0, 0, 0) := ⟨by decide +kernel, rfl⟩
theorem s62_85 : am_S 62 85 87 (.bipush (-5), 0, 0, 0, 0) := ⟨by decide +kernel, rfl⟩
theorem s62_87 : am_S 62 87 88 (.ireturn, 0, 0, 0, 0) := ⟨by decide +kernel, rfl⟩
theorem s62_88 : am_S 62 88 89 (.aload_n 0, 0, 0, 0, 0) := ⟨by decide +kernel, rfl⟩
theorem s62_89 : am_S 62 89 92 (.getfield 19, 10, 2, 167, 0) := ⟨by decide +kernel, rfl⟩
theorem s62_92 : am_S 62 92 93 (.iload_n 1, 0, 0, 0, 0) := ⟨by decide +kernel, rfl⟩
theorem s62_93 : am_S 62 93 96 (.invokevirtual 104, 194, 1, 306, 0) := ⟨by decide +kernel, rfl⟩
theorem s62_96 : am_S 62 96 99 (.checkcast 185, 5, 0, 507, 0) := ⟨by decide +kernel, rfl⟩
theorem s62_99 : am_S 62 99 101 (.astore 5, 0, 0, 0, 0) := ⟨by decide +kernel, rfl⟩
theorem s62_101 : am_S 62 101 102 (.aload_n 0, 0, 0, 0, 0) := ⟨by decide +kernel, rfl⟩
theorem s62_102 : am_S 62 102 104 (.aload 5, 0, 0, 0, 0) := ⟨by decide +kernel, rfl⟩
theorem s62_104 : am_S 62 104 105 (.iload_n 3, 0, 0, 0, 0) := ⟨by decide +kernel, rfl⟩
theorem s62_105 : am_S 62 105 108 (.invokevirtual 245, 107, 2, 655, 0) := ⟨by decide +kernel, rfl⟩
theorem s62_108 : am_S 62 108 110 (.istore 6, 0, 0, 0, 0) := ⟨by decide +kernel, rfl⟩
theorem s62_110 : am_S 62 110 112 (.iload 6, 0, 0, 0, 0) := ⟨by decide +kernel, rfl⟩
theorem s62_112 : am_S 62 112 115 (.ifCond .eq 13, 0, 0, 0, 0) := ⟨by decide +kernel, rfl⟩
theorem s62_115 : am_S 62 115 117 (.aload 5, 0, 0, 0, 0) := ⟨by decide +kernel, rfl⟩
theorem s62_117 : am_S 62 117 118 (.iload_n 3, 0, 0, 0, 0) := ⟨by decide +kernel, rfl⟩
theorem s62_118 : am_S 62 118 119 (.aload_n 0, 0, 0, 0, 0) := ⟨by decide +kernel, rfl⟩
theorem s62_119 : am_S 62 119 122 (.getfield 69, 10, 12, 177, 0) := ⟨by decide +kernel, rfl⟩
theorem s62_122 : am_S 62 122 125 (.invokevirtual 249, 26, 2, 660, 0) := ⟨by decide +kernel, rfl⟩
theorem s62_125 : am_S 62 125 126 (.aload_n 0, 0, 0, 0, 0) := ⟨by decide +kernel, rfl⟩
theorem s62_126 : am_S 62 126 129 (.getfield 25, 10, 4, 169, 0) := ⟨by decide +kernel, rfl⟩
theorem s62_129 : am_S 62 129 132 (.new 253, 3, 664, 339, 70) := ⟨by decide +kernel, rfl⟩
theorem s62_132 : am_S 62 132 133 (.dup, 0, 0, 0, 0) := ⟨by decide +kernel, rfl⟩
theorem s62_133 : am_S 62 133 134 (.iload_n 1, 0, 0, 0, 0) := ⟨by decide +kernel, rfl⟩
theorem s62_134 : am_S 62 134 135 (.iload_n 2, 0, 0, 0, 0) := ⟨by decide +kernel, rfl⟩
theorem s62_135 : am_S 62 135 136 (.iload_n 3, 0, 0, 0, 0) := ⟨by decide +kernel, rfl⟩
theorem s62_136 : am_S 62 136 137 (.aload_n 0, 0, 0, 0, 0) := ⟨by decide +kernel, rfl⟩
theorem s62_137 : am_S 62 137 140 (.getfield 69, 10, 12, 177, 0) := ⟨by decide +kernel, rfl⟩
theorem s62_140 : am_S 62 140 142 (.iload 4, 0, 0, 0, 0) := ⟨by decide +kernel, rfl⟩
theorem s62_142 : am_S 62 142 144 (.iload 6, 0, 0, 0, 0) := ⟨by decide +kernel, rfl⟩
theorem s62_144 : am_S 62 144 147 (.invokespecial 255, 18, 6, 665, 0) := ⟨by decide +kernel, rfl⟩
theorem s62_147 : am_S 62 147 150 (.invokevirtual 88, 196, 1, 235, 0) := ⟨by decide +kernel, rfl⟩
theorem s62_150 : am_S 62 150 151 (.pop, 0, 0, 0, 0) := ⟨by decide +kernel, rfl⟩
theorem s62_151 : am_S 62 151 152 (.aload_n 0, 0, 0, 0, 0) := ⟨by decide +kernel, rfl⟩
theorem s62_152 : am_S 62 152 155 (.getfield 22, 10, 3, 168, 0) := ⟨by decide +kernel, rfl⟩
theorem s62_155 : am_S 62 155 156 (.iload_n 2, 0, 0, 0, 0) := ⟨by decide +kernel, rfl⟩
theorem s62_156 : am_S 62 156 159 (.invokevirtual 104, 194, 1, 306, 0) := ⟨by decide +kernel, rfl⟩
theorem s62_159 : am_S 62 159 162 (.checkcast 108, 2, 0, 344, 0) := ⟨by decide +kernel, rfl⟩
theorem s62_162 : am_S 62 162 163 (.iload_n 3, 0, 0, 0, 0) := ⟨by decide +kernel, rfl⟩
theorem s62_163 : am_S 62 163 165 (.iload 4, 0, 0, 0, 0) := ⟨by decide +kernel, rfl⟩
theorem s62_165 : am_S 62 165 167 (.aload 5, 0, 0, 0, 0) := ⟨by decide +kernel, rfl⟩
theorem s62_167 : am_S 62 167 170 (.invokevirtual 258, 25, 0, 694, 0) := ⟨by decide +kernel, rfl⟩
theorem s62_170 : am_S 62 170 171 (.iadd, 0, 0, 0, 0) := ⟨by decide +kernel, rfl⟩
theorem s62_171 : am_S 62 171 174 (.invokevirtual 261, 17, 2, 698, 0) := ⟨by decide +kernel, rfl⟩
theorem s62_174 : am_S 62 174 176 (.iload 6, 0, 0, 0, 0) := ⟨by decide +kernel, rfl⟩
theorem s62_176 : am_S 62 176 179 (.invokestatic 124, 98, 1, 387, 0) := ⟨by decide +kernel, rfl⟩
theorem s62_179 : am_S 62 179 180 (.ireturn, 0, 0, 0, 0) := ⟨by decide +kernel, rfl⟩
theorem s63_0 : am_S 63 0 1 (.aload_n 0, 0, 0, 0, 0) := ⟨by decide +kernel, rfl⟩
theorem s63_1 : am_S 63 1 2 (.iload_n 1, 0, 0, 0, 0) := ⟨by decide +kernel, rfl⟩
theorem s63_2 : am_S 63 2 5 (.invokevirtual 190, 94, 1, 555, 0) := ⟨by decide +kernel, rfl⟩
theorem s63_5 : am_S 63 5 8 (.ifCond .eq 11, 0, 0, 0, 0) := ⟨by decide +kernel, rfl⟩
theorem s63_8 : am_S 63 8 9 (.aload_n 0, 0, 0, 0, 0) := ⟨by decide +kernel, rfl⟩
theorem s63_9 : am_S 63 9 10 (.iload_n 2, 0, 0, 0, 0) := ⟨by decide +kernel, rfl⟩
theorem s63_10 : am_S 63 10 13 (.invokevirtual 92, 93, 1, 298, 0) := ⟨by decide +kernel, rfl⟩
theorem s63_13 : am_S 63 13 16 (.ifCond .ne 5, 0, 0, 0, 0) := ⟨by decide +kernel, rfl⟩
theorem s63_16 : am_S 63 16 17 (.iconst (-1), 0, 0, 0, 0) := ⟨by decide +kernel, rfl⟩
theorem s63_17 : am_S 63 17 18 (.ireturn, 0, 0, 0, 0) := ⟨by decide +kernel, rfl⟩
theorem s63_18 : am_S 63 18 19 (.aload_n 0, 0, 0, 0, 0) := ⟨by decide +kernel, rfl⟩
theorem s63_19 : am_S 63 19 22 (.getfield 19, 10, 2, 167, 0) := ⟨by decide +kernel, rfl⟩
theorem s63_22 : am_S 63 22 23 (.iload_n 1, 0, 0, 0, 0) := ⟨by decide +kernel, rfl⟩
theorem s63_23 : am_S 63 23 26 (.invokevirtual 104, 194, 1, 306, 0) := ⟨by decide +kernel, rfl⟩
theorem s63_26 : am_S 63 26 29 (.checkcast 185, 5, 0, 507, 0) := ⟨by decide +kernel, rfl⟩
theorem s63_29 : am_S 63 29 32 (.getfield 264, 5, 6, 527, 1) := ⟨by decide +kernel, rfl⟩
theorem s63_32 : am_S 63 32 33 (.iload_n 2, 0, 0, 0, 0) := ⟨by decide +kernel, rfl⟩
theorem s63_33 : am_S 63 33 34 (.iaload, 0, 0, 0, 0) := ⟨by decide +kernel, rfl⟩
theorem s63_34 : am_S 63 34 35 (.ireturn, 0, 0, 0, 0) := ⟨by decide +kernel, rfl⟩
theorem s64_0 : am_S 64 0 1 (.iload_n 2, 0, 0, 0, 0) := ⟨by decide +kernel, rfl⟩
theorem s64_1 : am_S 64 1 2 (.iconst 0, 0, 0, 0, 0) := ⟨by decide +kernel, rfl⟩
theorem s64_2 : am_S 64 2 3 (.iconst 5, 0, 0, 0, 0) := ⟨by decide +kernel, rfl⟩
theorem s64_3 : am_S 64 3 6 (.invokestatic 75, 87, 3, 212, 0) := ⟨by decide +kernel, rfl⟩
theorem s64_6 : am_S 64 6 9 (.ifCond .ne 5, 0, 0, 0, 0) := ⟨by decide +kernel, rfl⟩
theorem s64_9 : am_S 64 9 10 (.iconst (-1), 0, 0, 0, 0) := ⟨by decide +kernel, rfl⟩
theorem s64_10 : am_S 64 10 11 (.ireturn, 0, 0, 0, 0) := ⟨by decide +kernel, rfl⟩
theorem s64_11 : am_S 64 11 12 (.iload_n 1, 0, 0, 0, 0) := ⟨by decide +kernel, rfl⟩
theorem s64_12 : am_S 64 12 15 (.ifCond .lt 14, 0, 0, 0, 0) := ⟨by decide +kernel, rfl⟩
theorem s64_15 : am_S 64 15 16 (.iload_n 1, 0, 0, 0, 0) := ⟨by decide +kernel, rfl⟩
theorem s64_16 : am_S 64 16 17 (.aload_n 0, 0, 0, 0, 0) := ⟨by decide +kernel, rfl⟩
theorem s64_17 : am_S 64 17 20 (.getfield 25, 10, 4, 169, 0) := ⟨by decide +kernel, rfl⟩
theorem s64_20 : am_S 64 20 23 (.invokevirtual 79, 191, 0, 215, 0) := ⟨by decide +kernel, rfl⟩
theorem s64_23 : am_S 64 23 26 (.if_icmp .lt 6, 0, 0, 0, 0) := ⟨by decide +kernel, rfl⟩
theorem s64_26 : am_S 64 26 28 (.bipush (-9), 0, 0, 0, 0) := ⟨by decide +kernel, rfl⟩
theorem s64_28 : am_S 64 28 29 (.ireturn, 0, 0, 0, 0) := ⟨by decide +kernel, rfl⟩
theorem s64_29 : am_S 64 29 30 (.aload_n 0, 0, 0, 0, 0) := ⟨by decide +kernel, rfl⟩
theorem s64_30 : am_S 64 30 33 (.getfield 25, 10, 4, 169, 0) := ⟨by decide +kernel, rfl⟩
theorem s64_33 : am_S 64 33 34 (.iload_n 1, 0, 0, 0, 0) := ⟨by decide +kernel, rfl⟩
theorem s64_34 : am_S 64 34 37 (.invokevirtual 104, 194, 1, 306, 0) := ⟨by decide +kernel, rfl⟩
theorem s64_37 : am_S 64 37 40 (.checkcast 253, 3, 0, 339, 0) := ⟨by decide +kernel, rfl⟩
theorem s64_40 : am_S 64 40 41 (.astore_n 3, 0, 0, 0, 0) := ⟨by decide +kernel, rfl⟩
theorem s64_41 : am_S 64 41 42 (.iload_n 2, 0, 0, 0, 0) := ⟨by decide +kernel, rfl⟩
theorem s64_42 : am_S 64 42 43 (.tableswitch 59 0 4 #[34, 39, 44, 49, 54], 0, 0, 0, 0) := ⟨by decide +kernel, rfl⟩
theorem s64_76 : am_S 64 76 77 (.aload_n 3, 0, 0, 0, 0) := ⟨by decide +kernel, rfl⟩
theorem s64_77 : am_S 64 77 80 (.getfield 267, 3, 0, 670, 1) := ⟨by decide +kernel, rfl⟩
theorem s64_80 : am_S 64 80 81 (.ireturn, 0, 0, 0, 0) := ⟨by decide +kernel, rfl⟩
theorem s64_81 : am_S 64 81 82 (.aload_n 3, 0, 0, 0, 0) := ⟨by decide +kernel, rfl⟩
theorem s64_82 : am_S 64 82 85 (.getfield 270, 3, 1, 672, 1) := ⟨by decide +kernel, rfl⟩
theorem s64_85 : am_S 64 85 86 (.ireturn, 0, 0, 0, 0) := ⟨by decide +kernel, rfl⟩
theorem s64_86 : am_S 64 86 87 (.aload_n 3, 0, 0, 0, 0) := ⟨by decide +kernel, rfl⟩
theorem s64_87 : am_S 64 87 90 (.getfield 273, 3, 2, 674, 1) := ⟨by decide +kernel, rfl⟩
theorem s64_90 : am_S 64 90 91 (.ireturn, 0, 0, 0, 0) := ⟨by decide +kernel, rfl⟩
theorem s64_91 : am_S 64 91 92 (.aload_n 3, 0, 0, 0, 0) := ⟨by decide +kernel, rfl⟩
theorem s64_92 : am_S 64 92 95 (.getfield 276, 3, 3, 676, 1) := ⟨by decide +kernel, rfl⟩
theorem s64_95 : am_S 64 95 96 (.ireturn, 0, 0, 0, 0) := ⟨by decide +kernel, rfl⟩
theorem s64_96 : am_S 64 96 97 (.aload_n 3, 0, 0, 0, 0) := ⟨by decide +kernel, rfl⟩
theorem s64_97 : am_S 64 97 100 (.getfield 277, 3, 4, 678, 1) := ⟨by decide +kernel, rfl⟩
theorem s64_100 : am_S 64 100 101 (.ireturn, 0, 0, 0, 0) := ⟨by decide +kernel, rfl⟩
theorem s64_101 : am_S 64 101 102 (.aload_n 3, 0, 0, 0, 0) := ⟨by decide +kernel, rfl⟩
theorem s64_102 : am_S 64 102 105 (.getfield 280, 3, 5, 680, 1) := ⟨by decide +kernel, rfl⟩
theorem s64_105 : am_S 64 105 108 (.invokestatic 124, 98, 1, 387, 0) := ⟨by decide +kernel, rfl⟩
theorem s64_108 : am_S 64 108 109 (.ireturn, 0, 0, 0, 0) := ⟨by decide +kernel, rfl⟩
theorem s65_0 : am_S 65 0 1 (.aload_n 0, 0, 0, 0, 0) := ⟨by decide +kernel, rfl⟩
theorem s65_1 : am_S 65 1 2 (.iload_n 1, 0, 0, 0, 0) := ⟨by decide +kernel, rfl⟩
theorem s65_2 : am_S 65 2 5 (.invokevirtual 92, 93, 1, 298, 0) := ⟨by decide +kernel, rfl⟩
theorem s65_5 : am_S 65 5 8 (.ifCond .ne 5, 0, 0, 0, 0) := ⟨by decide +kernel, rfl⟩
theorem s65_8 : am_S 65 8 9 (.iconst (-1), 0, 0, 0, 0) := ⟨by decide +kernel, rfl⟩
theorem s65_9 : am_S 65 9 10 (.ireturn, 0, 0, 0, 0) := ⟨by decide +kernel, rfl⟩
theorem s65_10 : am_S 65 10 11 (.iconst 0, 0, 0, 0, 0) := ⟨by decide +kernel, rfl⟩
theorem s65_11 : am_S 65 11 12 (.istore_n 2, 0, 0, 0, 0) := ⟨by decide +kernel, rfl⟩
theorem s65_12 : am_S 65 12 13 (.iconst 0, 0, 0, 0, 0) := ⟨by decide +kernel, rfl⟩
theorem s65_13 : am_S 65 13 14 (.istore_n 3, 0, 0, 0, 0) := ⟨by decide +kernel, rfl⟩
theorem s65_14 : am_S 65 14 15 (.iload_n 3, 0, 0, 0, 0) := ⟨by decide +kernel, rfl⟩
theorem s65_15 : am_S 65 15 16 (.aload_n 0, 0, 0, 0, 0) := ⟨by decide +kernel, rfl⟩
theorem s65_16 : am_S 65 16 19 (.getfield 19, 10, 2, 167, 0) := ⟨by decide +kernel, rfl⟩
theorem s65_19 : am_S 65 19 22 (.invokevirtual 79, 191, 0, 215, 0) := ⟨by decide +kernel, rfl⟩
theorem s65_22 : am_S 65 22 25 (.if_icmp .ge 31, 0, 0, 0, 0) := ⟨by decide +kernel, rfl⟩
theorem s65_25 : am_S 65 25 26 (.aload_n 0, 0, 0, 0, 0) := ⟨by decide +kernel, rfl⟩
theorem s65_26 : am_S 65 26 27 (.aload_n 0, 0, 0, 0, 0) := ⟨by decide +kernel, rfl⟩
theorem s65_27 : am_S 65 27 30 (.getfield 19, 10, 2, 167, 0) := ⟨by decide +kernel, rfl⟩
theorem s65_30 : am_S 65 30 31 (.iload_n 3, 0, 0, 0, 0) := ⟨by decide +kernel, rfl⟩
theorem s65_31 : am_S 65 31 34 (.invokevirtual 104, 194, 1, 306, 0) := ⟨by decide +kernel, rfl⟩
theorem s65_34 : am_S 65 34 37 (.checkcast 185, 5, 0, 507, 0) := ⟨by decide +kernel, rfl⟩
theorem s65_37 : am_S 65 37 38 (.iload_n 1, 0, 0, 0, 0) := ⟨by decide +kernel, rfl⟩
theorem s65_38 : am_S 65 38 41 (.invokevirtual 245, 107, 2, 655, 0) := ⟨by decide +kernel, rfl⟩
theorem s65_41 : am_S 65 41 44 (.ifCond .eq 6, 0, 0, 0, 0) := ⟨by decide +kernel, rfl⟩
theorem s65_44 : am_S 65 44 47 (.iinc 2 1, 0, 0, 0, 0) := ⟨by decide +kernel, rfl⟩
theorem s65_47 : am_S 65 47 50 (.iinc 3 1, 0, 0, 0, 0) := ⟨by decide +kernel, rfl⟩
theorem s65_50 : am_S 65 50 53 (.goto (-36), 0, 0, 0, 0) := ⟨by decide +kernel, rfl⟩
theorem s65_53 : am_S 65 53 54 (.iload_n 2, 0, 0, 0, 0) := ⟨by decide +kernel, rfl⟩
theorem s65_54 : am_S 65 54 55 (.ireturn, 0, 0, 0, 0) := ⟨by decide +kernel, rfl⟩
theorem s66_0 : am_S 66 0 1 (.aload_n 0, 0, 0, 0, 0) := ⟨by decide +kernel, rfl⟩
theorem s66_1 : am_S 66 1 2 (.iload_n 1, 0, 0, 0, 0) := ⟨by decide +kernel, rfl⟩
theorem s66_2 : am_S 66 2 5 (.invokevirtual 92, 93, 1, 298, 0) := ⟨by decide +kernel, rfl⟩
theorem s66_5 : am_S 66 5 8 (.ifCond .ne 5, 0, 0, 0, 0) := ⟨by decide +kernel, rfl⟩
theorem s66_8 : am_S 66 8 9 (.iconst (-1), 0, 0, 0, 0) := ⟨by decide +kernel, rfl⟩
theorem s66_9 : am_S 66 9 10 (.ireturn, 0, 0, 0, 0) := ⟨by decide +kernel, rfl⟩
theorem s66_10 : am_S 66 10 11 (.iconst 0, 0, 0, 0, 0) := ⟨by decide +kernel, rfl⟩
theorem s66_11 : am_S 66 11 12 (.istore_n 3, 0, 0, 0, 0) := ⟨by decide +kernel, rfl⟩
theorem s66_12 : am_S 66 12 13 (.iconst 0, 0, 0, 0, 0) := ⟨by decide +kernel, rfl⟩
theorem s66_13 : am_S 66 13 15 (.istore 4, 0, 0, 0, 0) := ⟨by decide +kernel, rfl⟩
theorem s66_15 : am_S 66 15 17 (.iload 4, 0, 0, 0, 0) := ⟨by decide +kernel, rfl⟩
theorem s66_17 : am_S 66 17 18 (.aload_n 0, 0, 0, 0, 0) := ⟨by decide +kernel, rfl⟩
theorem s66_18 : am_S 66 18 21 (.getfield 19, 10, 2, 167, 0) := ⟨by decide +kernel, rfl⟩
theorem s66_21 : am_S 66 21 24 (.invokevirtual 79, 191, 0, 215, 0) := ⟨by decide +kernel, rfl⟩
theorem s66_24 : am_S 66 24 27 (.if_icmp .ge 40, 0, 0, 0, 0) := ⟨by decide +kernel, rfl⟩
theorem s66_27 : am_S 66 27 28 (.aload_n 0, 0, 0, 0, 0) := ⟨by decide +kernel, rfl⟩
theorem s66_28 : am_S 66 28 29 (.aload_n 0, 0, 0, 0, 0) := ⟨by decide +kernel, rfl⟩
theorem s66_29 : am_S 66 29 32 (.getfield 19, 10, 2, 167, 0) := ⟨by decide +kernel, rfl⟩
theorem s66_32 : am_S 66 32 34 (.iload 4, 0, 0, 0, 0) := ⟨by decide +kernel, rfl⟩
theorem s66_34 : am_S 66 34 37 (.invokevirtual 104, 194, 1, 306, 0) := ⟨by decide +kernel, rfl⟩
theorem s66_37 : am_S 66 37 40 (.checkcast 185, 5, 0, 507, 0) := ⟨by decide +kernel, rfl⟩
theorem s66_40 : am_S 66 40 41 (.iload_n 1, 0, 0, 0, 0) := ⟨by decide +kernel, rfl⟩
theorem s66_41 : am_S 66 41 44 (.invokevirtual 245, 107, 2, 655, 0) := ⟨by decide +kernel, rfl⟩
theorem s66_44 : am_S 66 44 47 (.ifCond .eq 14, 0, 0, 0, 0) := ⟨by decide +kernel, rfl⟩
theorem s66_47 : am_S 66 47 48 (.iload_n 3, 0, 0, 0, 0) := ⟨by decide +kernel, rfl⟩
theorem s66_48 : am_S 66 48 49 (.iload_n 2, 0, 0, 0, 0) := ⟨by decide +kernel, rfl⟩
theorem s66_49 : am_S 66 49 52 (.if_icmp .ne 6, 0, 0, 0, 0) := ⟨by decide +kernel, rfl⟩
theorem s66_52 : am_S 66 52 54 (.iload 4, 0, 0, 0, 0) := ⟨by decide +kernel, rfl⟩
theorem s66_54 : am_S 66 54 55 (.ireturn, 0, 0, 0, 0) := ⟨by decide +kernel, rfl⟩
theorem s66_55 : am_S 66 55 58 (.iinc 3 1, 0, 0, 0, 0) := ⟨by decide +kernel, rfl⟩
theorem s66_58 : am_S 66 58 61 (.iinc 4 1, 0, 0, 0, 0) := ⟨by decide +kernel, rfl⟩
theorem s66_61 : am_S 66 61 64 (.goto (-46), 0, 0, 0, 0) := ⟨by decide +kernel, rfl⟩
theorem s66_64 : am_S 66 64 66 (.bipush (-9), 0, 0, 0, 0) := ⟨by decide +kernel, rfl⟩
theorem s66_66 : am_S 66 66 67 (.ireturn, 0, 0, 0, 0) := ⟨by decide +kernel, rfl⟩
theorem s67_0 : am_S 67 0 1 (.iload_n 1, 0, 0, 0, 0) := ⟨by decide +kernel, rfl⟩
theorem s67_1 : am_S 67 1 4 (.invokestatic 283, 92, 1, 722, 0) := ⟨by decide +kernel, rfl⟩
theorem s67_4 : am_S 67 4 7 (.ifCond .eq 32, 0, 0, 0, 0) := ⟨by decide +kernel, rfl⟩
theorem s67_7 : am_S 67 7 8 (.aload_n 0, 0, 0, 0, 0) := ⟨by decide +kernel, rfl⟩
theorem s67_8 : am_S 67 8 9 (.iload_n 2, 0, 0, 0, 0) := ⟨by decide +kernel, rfl⟩
theorem s67_9 : am_S 67 9 12 (.invokevirtual 92, 93, 1, 298, 0) := ⟨by decide +kernel, rfl⟩
theorem s67_12 : am_S 67 12 15 (.ifCond .eq 24, 0, 0, 0, 0) := ⟨by decide +kernel, rfl⟩
theorem s67_15 : am_S 67 15 16 (.iload_n 3, 0, 0, 0, 0) := ⟨by decide +kernel, rfl⟩
theorem s67_16 : am_S 67 16 19 (.invokestatic 239, 89, 1, 643, 0) := ⟨by decide +kernel, rfl⟩
theorem s67_19 : am_S 67 19 22 (.ifCond .eq 17, 0, 0, 0, 0) := ⟨by decide +kernel, rfl⟩
theorem s67_22 : am_S 67 22 24 (.iload 4, 0, 0, 0, 0) := ⟨by decide +kernel, rfl⟩
theorem s67_24 : am_S 67 24 27 (.invokestatic 239, 89, 1, 643, 0) := ⟨by decide +kernel, rfl⟩
theorem s67_27 : am_S 67 27 30 (.ifCond .eq 9, 0, 0, 0, 0) := ⟨by decide +kernel, rfl⟩
theorem s67_30 : am_S 67 30 31 (.iload_n 3, 0, 0, 0, 0) := ⟨by decide +kernel, rfl⟩
theorem s67_31 : am_S 67 31 33 (.iload 4, 0, 0, 0, 0) := ⟨by decide +kernel, rfl⟩
theorem s67_33 : am_S 67 33 36 (.if_icmp .le 5, 0, 0, 0, 0) := ⟨by decide +kernel, rfl⟩
theorem s67_36 : am_S 67 36 37 (.iconst (-1), 0, 0, 0, 0) := ⟨by decide +kernel, rfl⟩
theorem s67_37 : am_S 67 37 38 (.ireturn, 0, 0, 0, 0) := ⟨by decide +kernel, rfl⟩
theorem s67_38 : am_S 67 38 39 (.aload_n 0, 0, 0, 0, 0) := ⟨by decide +kernel, rfl⟩
theorem s67_39 : am_S 67 39 42 (.getfield 28, 10, 5, 170, 0) := ⟨by decide +kernel, rfl⟩
theorem s67_42 : am_S 67 42 45 (.invokevirtual 79, 191, 0, 215, 0) := ⟨by decide +kernel, rfl⟩
theorem s67_45 : am_S 67 45 47 (.bipush 60, 0, 0, 0, 0) := ⟨by decide +kernel, rfl⟩
theorem s67_47 : am_S 67 47 50 (.if_icmp .lt 6, 0, 0, 0, 0) := ⟨by decide +kernel, rfl⟩
theorem s67_50 : am_S 67 50 52 (.bipush (-2), 0, 0, 0, 0) := ⟨by decide +kernel, rfl⟩
theorem s67_52 : am_S 67 52 53 (.ireturn, 0, 0, 0, 0) := ⟨by decide +kernel, rfl⟩
theorem s67_53 : am_S 67 53 54 (.aload_n 0, 0, 0, 0, 0) := ⟨by decide +kernel, rfl⟩
theorem s67_54 : am_S 67 54 57 (.getfield 28, 10, 5, 170, 0) := ⟨by decide +kernel, rfl⟩
theorem s67_57 : am_S 67 57 60 (.new 286, 9, 726, 725, 71) := ⟨by decide +kernel, rfl⟩
theorem s67_60 : am_S 67 60 61 (.dup, 0, 0, 0, 0) := ⟨by decide +kernel, rfl⟩
theorem s67_61 : am_S 67 61 62 (.iload_n 1, 0, 0, 0, 0) := ⟨by decide +kernel, rfl⟩
theorem s67_62 : am_S 67 62 63 (.iload_n 2, 0, 0, 0, 0) := ⟨by decide +kernel, rfl⟩
theorem s67_63 : am_S 67 63 64 (.aload_n 0, 0, 0, 0, 0) := ⟨by decide +kernel, rfl⟩
theorem s67_64 : am_S 67 64 67 (.getfield 69, 10, 12, 177, 0) := ⟨by decide +kernel, rfl⟩
theorem s67_67 : am_S 67 67 68 (.iload_n 3, 0, 0, 0, 0) := ⟨by decide +kernel, rfl⟩
theorem s67_68 : am_S 67 68 70 (.iload 4, 0, 0, 0, 0) := ⟨by decide +kernel, rfl⟩
theorem s67_70 : am_S 67 70 73 (.invokespecial 288, 48, 5, 727, 0) := ⟨by decide +kernel, rfl⟩
theorem s67_73 : am_S 67 73 76 (.invokevirtual 88, 196, 1, 235, 0) := ⟨by decide +kernel, rfl⟩
theorem s67_76 : am_S 67 76 77 (.pop, 0, 0, 0, 0) := ⟨by decide +kernel, rfl⟩
theorem s67_77 : am_S 67 77 78 (.aload_n 0, 0, 0, 0, 0) := ⟨by decide +kernel, rfl⟩
theorem s67_78 : am_S 67 78 81 (.getfield 28, 10, 5, 170, 0) := ⟨by decide +kernel, rfl⟩
theorem s67_81 : am_S 67 81 84 (.invokevirtual 79, 191, 0, 215, 0) := ⟨by decide +kernel, rfl⟩
theorem s67_84 : am_S 67 84 85 (.ireturn, 0, 0, 0, 0) := ⟨by decide +kernel, rfl⟩
theorem s68_0 : am_S 68 0 1 (.iload_n 1, 0, 0, 0, 0) := ⟨by decide +kernel, rfl⟩
theorem s68_1 : am_S 68 1 4 (.invokestatic 283, 92, 1, 722, 0) := ⟨by decide +kernel, rfl⟩
theorem s68_4 : am_S 68 4 7 (.ifCond .eq 11, 0, 0, 0, 0) := ⟨by decide +kernel, rfl⟩
theorem s68_7 : am_S 68 7 8 (.aload_n 0, 0, 0, 0, 0) := ⟨by decide +kernel, rfl⟩
theorem s68_8 : am_S 68 8 9 (.iload_n 2, 0, 0, 0, 0) := ⟨by decide +kernel, rfl⟩
theorem s68_9 : am_S 68 9 12 (.invokevirtual 190, 94, 1, 555, 0) := ⟨by decide +kernel, rfl⟩
theorem s68_12 : am_S 68 12 15 (.ifCond .ne 5, 0, 0, 0, 0) := ⟨by decide +kernel, rfl⟩
theorem s68_15 : am_S 68 15 16 (.iconst (-1), 0, 0, 0, 0) := ⟨by decide +kernel, rfl⟩
theorem s68_16 : am_S 68 16 17 (.ireturn, 0, 0, 0, 0) := ⟨by decide +kernel, rfl⟩
theorem s68_17 : am_S 68 17 18 (.aload_n 0, 0, 0, 0, 0) := ⟨by decide +kernel, rfl⟩
theorem s68_18 : am_S 68 18 19 (.iload_n 1, 0, 0, 0, 0) := ⟨by decide +kernel, rfl⟩
theorem s68_19 : am_S 68 19 20 (.iload_n 2, 0, 0, 0, 0) := ⟨by decide +kernel, rfl⟩
theorem s68_20 : am_S 68 20 23 (.invokevirtual 291, 108, 2, 756, 0) := ⟨by decide +kernel, rfl⟩
theorem s68_23 : am_S 68 23 24 (.ireturn, 0, 0, 0, 0) := ⟨by decide +kernel, rfl⟩
theorem s69_0 : am_S 69 0 1 (.aload_n 0, 0, 0, 0, 0) := ⟨by decide +kernel, rfl⟩
theorem s69_1 : am_S 69 1 2 (.iload_n 1, 0, 0, 0, 0) := ⟨by decide +kernel, rfl⟩
theorem s69_2 : am_S 69 2 5 (.invokevirtual 190, 94, 1, 555, 0) := ⟨by decide +kernel, rfl⟩
theorem s69_5 : am_S 69 5 8 (.ifCond .eq 13, 0, 0, 0, 0) := ⟨by decide +kernel, rfl⟩
theorem s69_8 : am_S 69 8 9 (.iload_n 2, 0, 0, 0, 0) := ⟨by decide +kernel, rfl⟩
theorem s69_9 : am_S 69 9 10 (.iconst 1, 0, 0, 0, 0) := ⟨by decide +kernel, rfl⟩
theorem s69_10 : am_S 69 10 12 (.bipush 9, 0, 0, 0, 0) := ⟨by decide +kernel, rfl⟩
theorem s69_12 : am_S 69 12 15 (.invokestatic 75, 87, 3, 212, 0) := ⟨by decide +kernel, rfl⟩
theorem s69_15 : am_S 69 15 18 (.ifCond .ne 5, 0, 0, 0, 0) := ⟨by decide +kernel, rfl⟩
theorem s69_18 : am_S 69 18 19 (.iconst (-1), 0, 0, 0, 0) := ⟨by decide +kernel, rfl⟩
theorem s69_19 : am_S 69 19 20 (.ireturn, 0, 0, 0, 0) := ⟨by decide +kernel, rfl⟩
theorem s69_20 : am_S 69 20 21 (.iconst 0, 0, 0, 0, 0) := ⟨by decide +kernel, rfl⟩
theorem s69_21 : am_S 69 21 22 (.istore_n 3, 0, 0, 0, 0) := ⟨by decide +kernel, rfl⟩
theorem s69_22 : am_S 69 22 23 (.iconst 0, 0, 0, 0, 0) := ⟨by decide +kernel, rfl⟩
theorem s69_23 : am_S 69 23 25 (.istore 4, 0, 0, 0, 0) := ⟨by decide +kernel, rfl⟩
theorem s69_25 : am_S 69 25 27 (.iload 4, 0, 0, 0, 0) := ⟨by decide +kernel, rfl⟩
theorem s69_27 : am_S 69 27 29 (.bipush 10, 0, 0, 0, 0) := ⟨by decide +kernel, rfl⟩
theorem s69_29 : am_S 69 29 32 (.if_icmp .ge 27, 0, 0, 0, 0) := ⟨by decide +kernel, rfl⟩
theorem s69_32 : am_S 69 32 33 (.aload_n 0, 0, 0, 0, 0) := ⟨by decide +kernel, rfl⟩
theorem s69_33 : am_S 69 33 35 (.iload 4, 0, 0, 0, 0) := ⟨by decide +kernel, rfl⟩
theorem s69_35 : am_S 69 35 36 (.iload_n 1, 0, 0, 0, 0) := ⟨by decide +kernel, rfl⟩
theorem s69_36 : am_S 69 36 39 (.invokevirtual 291, 108, 2, 756, 0) := ⟨by decide +kernel, rfl⟩
theorem s69_39 : am_S 69 39 40 (.iload_n 2, 0, 0, 0, 0) := ⟨by decide +kernel, rfl⟩
theorem s69_40 : am_S 69 40 43 (.if_icmp .lt 10, 0, 0, 0, 0) := ⟨by decide +kernel, rfl⟩
theorem s69_43 : am_S 69 43 44 (.iload_n 3, 0, 0, 0, 0) := ⟨by decide +kernel, rfl⟩
theorem s69_44 : am_S 69 44 45 (.iconst 1, 0, 0, 0, 0) := ⟨by decide +kernel, rfl⟩
theorem s69_45 : am_S 69 45 47 (.iload 4, 0, 0, 0, 0) := ⟨by decide +kernel, rfl⟩
theorem s69_47 : am_S 69 47 48 (.ishl, 0, 0, 0, 0) := ⟨by decide +kernel, rfl⟩
theorem s69_48 : am_S 69 48 49 (.ior, 0, 0, 0, 0) := ⟨by decide +kernel, rfl⟩
theorem s69_49 : am_S 69 49 50 (.istore_n 3, 0, 0, 0, 0) := ⟨by decide +kernel, rfl⟩
theorem s69_50 : am_S 69 50 53 (.iinc 4 1, 0, 0, 0, 0) := ⟨by decide +kernel, rfl⟩
theorem s69_53 : am_S 69 53 56 (.goto (-28), 0, 0, 0, 0) := ⟨by decide +kernel, rfl⟩
theorem s69_56 : am_S 69 56 57 (.iload_n 3, 0, 0, 0, 0) := ⟨by decide +kernel, rfl⟩
theorem s69_57 : am_S 69 57 58 (.ireturn, 0, 0, 0, 0) := ⟨by decide +kernel, rfl⟩
theorem s70_0 : am_S 70 0 1 (.aload_n 0, 0, 0, 0, 0) := ⟨by decide +kernel, rfl⟩
theorem s70_1 : am_S 70 1 2 (.iload_n 1, 0, 0, 0, 0) := ⟨by decide +kernel, rfl⟩
theorem s70_2 : am_S 70 2 5 (.invokevirtual 232, 95, 1, 631, 0) := ⟨by decide +kernel, rfl⟩
theorem s70_5 : am_S 70 5 8 (.ifCond .eq 11, 0, 0, 0, 0) := ⟨by decide +kernel, rfl⟩
theorem s70_8 : am_S 70 8 9 (.aload_n 0, 0, 0, 0, 0) := ⟨by decide +kernel, rfl⟩
theorem s70_9 : am_S 70 9 10 (.iload_n 2, 0, 0, 0, 0) := ⟨by decide +kernel, rfl⟩
theorem s70_10 : am_S 70 10 13 (.invokevirtual 178, 96, 1, 499, 0) := ⟨by decide +kernel, rfl⟩
theorem s70_13 : am_S 70 13 16 (.ifCond .ne 5, 0, 0, 0, 0) := ⟨by decide +kernel, rfl⟩
theorem s70_16 : am_S 70 16 17 (.iconst (-1), 0, 0, 0, 0) := ⟨by decide +kernel, rfl⟩
theorem s70_17 : am_S 70 17 18 (.ireturn, 0, 0, 0, 0) := ⟨by decide +kernel, rfl⟩
theorem s70_18 : am_S 70 18 19 (.aload_n 0, 0, 0, 0, 0) := ⟨by decide +kernel, rfl⟩
theorem s70_19 : am_S 70 19 22 (.getfield 48, 10, 8, 173, 0) := ⟨by decide +kernel, rfl⟩
theorem s70_22 : am_S 70 22 23 (.aload_n 0, 0, 0, 0, 0) := ⟨by decide +kernel, rfl⟩
theorem s70_23 : am_S 70 23 26 (.getfield 10, 10, 0, 165, 0) := ⟨by decide +kernel, rfl⟩
theorem s70_26 : am_S 70 26 27 (.aload_n 0, 0, 0, 0, 0) := ⟨by decide +kernel, rfl⟩
theorem s70_27 : am_S 70 27 30 (.getfield 22, 10, 3, 168, 0) := ⟨by decide +kernel, rfl⟩
theorem s70_30 : am_S 70 30 31 (.iload_n 1, 0, 0, 0, 0) := ⟨by decide +kernel, rfl⟩
theorem s70_31 : am_S 70 31 34 (.invokevirtual 104, 194, 1, 306, 0) := ⟨by decide +kernel, rfl⟩
theorem s70_34 : am_S 70 34 37 (.checkcast 108, 2, 0, 344, 0) := ⟨by decide +kernel, rfl⟩
theorem s70_37 : am_S 70 37 40 (.getfield 294, 2, 0, 619, 1) := ⟨by decide +kernel, rfl⟩
theorem s70_40 : am_S 70 40 41 (.iload_n 2, 0, 0, 0, 0) := ⟨by decide +kernel, rfl⟩
theorem s70_41 : am_S 70 41 44 (.invokevirtual 295, 29, 3, 772, 0) := ⟨by decide +kernel, rfl⟩
theorem s70_44 : am_S 70 44 45 (.ireturn, 0, 0, 0, 0) := ⟨by decide +kernel, rfl⟩
theorem s71_0 : am_S 71 0 1 (.aload_n 0, 0, 0, 0, 0) := ⟨by decide +kernel, rfl⟩
theorem s71_1 : am_S 71 1 4 (.getfield 48, 10, 8, 173, 0) := ⟨by decide +kernel, rfl⟩
theorem s71_4 : am_S 71 4 5 (.iload_n 1, 0, 0, 0, 0) := ⟨by decide +kernel, rfl⟩
theorem s71_5 : am_S 71 5 8 (.invokevirtual 299, 28, 1, 797, 0) := ⟨by decide +kernel, rfl⟩
theorem s71_8 : am_S 71 8 9 (.ireturn, 0, 0, 0, 0) := ⟨by decide +kernel, rfl⟩
theorem s72_0 : am_S 72 0 1 (.aload_n 0, 0, 0, 0, 0) := ⟨by decide +kernel, rfl⟩
theorem s72_1 : am_S 72 1 2 (.iload_n 1, 0, 0, 0, 0) := ⟨by decide +kernel, rfl⟩
theorem s72_2 : am_S 72 2 5 (.invokevirtual 190, 94, 1, 555, 0) := ⟨by decide +kernel, rfl⟩
theorem s72_5 : am_S 72 5 8 (.ifCond .eq 13, 0, 0, 0, 0) := ⟨by decide +kernel, rfl⟩
theorem s72_8 : am_S 72 8 9 (.iload_n 2, 0, 0, 0, 0) := ⟨by decide +kernel, rfl⟩
theorem s72_9 : am_S 72 9 10 (.iconst 1, 0, 0, 0, 0) := ⟨by decide +kernel, rfl⟩
theorem s72_10 : am_S 72 10 12 (.bipush 16, 0, 0, 0, 0) := ⟨by decide +kernel, rfl⟩
theorem s72_12 : am_S 72 12 15 (.invokestatic 75, 87, 3, 212, 0) := ⟨by decide +kernel, rfl⟩
theorem s72_15 : am_S 72 15 18 (.ifCond .ne 5, 0, 0, 0, 0) := ⟨by decide +kernel, rfl⟩
theorem s72_18 : am_S 72 18 19 (.iconst (-1), 0, 0, 0, 0) := ⟨by decide +kernel, rfl⟩
theorem s72_19 : am_S 72 19 20 (.ireturn, 0, 0, 0, 0) := ⟨by decide +kernel, rfl⟩
theorem s72_20 : am_S 72 20 21 (.aload_n 0, 0, 0, 0, 0) := ⟨by decide +kernel, rfl⟩
theorem s72_21 : am_S 72 21 24 (.getfield 19, 10, 2, 167, 0) := ⟨by decide +kernel, rfl⟩
theorem s72_24 : am_S 72 24 25 (.iload_n 1, 0, 0, 0, 0) := ⟨by decide +kernel, rfl⟩
theorem s72_25 : am_S 72 25 28 (.invokevirtual 104, 194, 1, 306, 0) := ⟨by decide +kernel, rfl⟩
theorem s72_28 : am_S 72 28 31 (.checkcast 185, 5, 0, 507, 0) := ⟨by decide +kernel, rfl⟩
theorem s72_31 : am_S 72 31 33 (.astore 4, 0, 0, 0, 0) := ⟨by decide +kernel, rfl⟩
theorem s72_33 : am_S 72 33 35 (.aload 4, 0, 0, 0, 0) := ⟨by decide +kernel, rfl⟩
theorem s72_35 : am_S 72 35 38 (.getfield 193, 5, 0, 515, 1) := ⟨by decide +kernel, rfl⟩
theorem s72_38 : am_S 72 38 39 (.iconst 4, 0, 0, 0, 0) := ⟨by decide +kernel, rfl⟩
theorem s72_39 : am_S 72 39 42 (.if_icmp .eq 9, 0, 0, 0, 0) := ⟨by decide +kernel, rfl⟩
theorem s72_42 : am_S 72 42 43 (.aload_n 0, 0, 0, 0, 0) := ⟨by decide +kernel, rfl⟩
theorem s72_43 : am_S 72 43 44 (.iconst 3, 0, 0, 0, 0) := ⟨by decide +kernel, rfl⟩
theorem s72_44 : am_S 72 44 47 (.invokevirtual 131, 99, 1, 397, 0) := ⟨by decide +kernel, rfl⟩
theorem s72_47 : am_S 72 47 48 (.ireturn, 0, 0, 0, 0) := ⟨by decide +kernel, rfl⟩
theorem s72_48 : am_S 72 48 49 (.iconst 0, 0, 0, 0, 0) := ⟨by decide +kernel, rfl⟩
theorem s72_49 : am_S 72 49 51 (.istore 5, 0, 0, 0, 0) := ⟨by decide +kernel, rfl⟩
theorem s72_51 : am_S 72 51 52 (.iconst 0, 0, 0, 0, 0) := ⟨by decide +kernel, rfl⟩
theorem s72_52 : am_S 72 52 54 (.istore 6, 0, 0, 0, 0) := ⟨by decide +kernel, rfl⟩
theorem s72_54 : am_S 72 54 56 (.iload 6, 0, 0, 0, 0) := ⟨by decide +kernel, rfl⟩
theorem s72_56 : am_S 72 56 57 (.aload_n 0, 0, 0, 0, 0) := ⟨by decide +kernel, rfl⟩
theorem s72_57 : am_S 72 57 60 (.getfield 19, 10, 2, 167, 0) := ⟨by decide +kernel, rfl⟩
theorem s72_60 : am_S 72 60 63 (.invokevirtual 79, 191, 0, 215, 0) := ⟨by decide +kernel, rfl⟩
theorem s72_63 : am_S 72 63 66 (.if_icmp .ge 42, 0, 0, 0, 0) := ⟨by decide +kernel, rfl⟩
theorem s72_66 : am_S 72 66 68 (.aload 4, 0, 0, 0, 0) := ⟨by decide +kernel, rfl⟩
theorem s72_68 : am_S 72 68 69 (.aload_n 0, 0, 0, 0, 0) := ⟨by decide +kernel, rfl⟩
theorem s72_69 : am_S 72 69 72 (.getfield 19, 10, 2, 167, 0) := ⟨by decide +kernel, rfl⟩
theorem s72_72 : am_S 72 72 74 (.iload 6, 0, 0, 0, 0) := ⟨by decide +kernel, rfl⟩
theorem s72_74 : am_S 72 74 77 (.invokevirtual 104, 194, 1, 306, 0) := ⟨by decide +kernel, rfl⟩
theorem s72_77 : am_S 72 77 80 (.checkcast 185, 5, 0, 507, 0) := ⟨by decide +kernel, rfl⟩
theorem s72_80 : am_S 72 80 81 (.iload_n 2, 0, 0, 0, 0) := ⟨by decide +kernel, rfl⟩
theorem s72_81 : am_S 72 81 84 (.invokestatic 302, 110, 3, 594, 0) := ⟨by decide +kernel, rfl⟩
theorem s72_84 : am_S 72 84 87 (.ifCond .eq 15, 0, 0, 0, 0) := ⟨by decide +kernel, rfl⟩
theorem s72_87 : am_S 72 87 89 (.iload 5, 0, 0, 0, 0) := ⟨by decide +kernel, rfl⟩
theorem s72_89 : am_S 72 89 90 (.iload_n 3, 0, 0, 0, 0) := ⟨by decide +kernel, rfl⟩
theorem s72_90 : am_S 72 90 93 (.if_icmp .ne 6, 0, 0, 0, 0) := ⟨by decide +kernel, rfl⟩
theorem s72_93 : am_S 72 93 95 (.iload 6, 0, 0, 0, 0) := ⟨by decide +kernel, rfl⟩
theorem s72_95 : am_S 72 95 96 (.ireturn, 0, 0, 0, 0) := ⟨by decide +kernel, rfl⟩
theorem s72_96 : am_S 72 96 99 (.iinc 5 1, 0, 0, 0, 0) := ⟨by decide +kernel, rfl⟩
theorem s72_99 : am_S 72 99 102 (.iinc 6 1, 0, 0, 0, 0) := ⟨by decide +kernel, rfl⟩
theorem s72_102 : am_S 72 102 105 (.goto (-48), 0, 0, 0, 0) := ⟨by decide +kernel, rfl⟩
theorem s72_105 : am_S 72 105 107 (.bipush (-9), 0, 0, 0, 0) := ⟨by decide +kernel, rfl⟩
theorem s72_107 : am_S 72 107 108 (.ireturn, 0, 0, 0, 0) := ⟨by decide +kernel, rfl⟩
theorem s73_0 : am_S 73 0 1 (.iload_n 1, 0, 0, 0, 0) := ⟨by decide +kernel, rfl⟩
theorem s73_1 : am_S 73 1 2 (.tableswitch 96 0 6 #[43, 51, 59, 67, 75, 80, 88], 0, 0, 0, 0) := ⟨by decide +kernel, rfl⟩
theorem s73_44 : am_S 73 44 45 (.aload_n 0, 0, 0, 0, 0) := ⟨by decide +kernel, rfl⟩
theorem s73_45 : am_S 73 45 48 (.getfield 10, 10, 0, 165, 0) := ⟨by decide +kernel, rfl⟩
theorem s73_48 : am_S 73 48 51 (.invokevirtual 79, 191, 0, 215, 0) := ⟨by decide +kernel, rfl⟩
theorem s73_51 : am_S 73 51 52 (.ireturn, 0, 0, 0, 0) := ⟨by decide +kernel, rfl⟩
theorem s73_52 : am_S 73 52 53 (.aload_n 0, 0, 0, 0, 0) := ⟨by decide +kernel, rfl⟩
theorem s73_53 : am_S 73 53 56 (.getfield 22, 10, 3, 168, 0) := ⟨by decide +kernel, rfl⟩
theorem s73_56 : am_S 73 56 59 (.invokevirtual 79, 191, 0, 215, 0) := ⟨by decide +kernel, rfl⟩
theorem s73_59 : am_S 73 59 60 (.ireturn, 0, 0, 0, 0) := ⟨by decide +kernel, rfl⟩
theorem s73_60 : am_S 73 60 61 (.aload_n 0, 0, 0, 0, 0) := ⟨by decide +kernel, rfl⟩
theorem s73_61 : am_S 73 61 64 (.getfield 19, 10, 2, 167, 0) := ⟨by decide +kernel, rfl⟩
theorem s73_64 : am_S 73 64 67 (.invokevirtual 79, 191, 0, 215, 0) := ⟨by decide +kernel, rfl⟩
theorem s73_67 : am_S 73 67 68 (.ireturn, 0, 0, 0, 0) := ⟨by decide +kernel, rfl⟩
theorem s73_68 : am_S 73 68 69 (.aload_n 0, 0, 0, 0, 0) := ⟨by decide +kernel, rfl⟩
theorem s73_69 : am_S 73 69 72 (.getfield 25, 10, 4, 169, 0) := ⟨by decide +kernel, rfl⟩
theorem s73_72 : am_S 73 72 75 (.invokevirtual 79, 191, 0, 215, 0) := ⟨by decide +kernel, rfl⟩
theorem s73_75 : am_S 73 75 76 (.ireturn, 0, 0, 0, 0) := ⟨by decide +kernel, rfl⟩
theorem s73_76 : am_S 73 76 77 (.aload_n 0, 0, 0, 0, 0) := ⟨by decide +kernel, rfl⟩
theorem s73_77 : am_S 73 77 80 (.getfield 69, 10, 12, 177, 0) := ⟨by decide +kernel, rfl⟩
theorem s73_80 : am_S 73 80 81 (.ireturn, 0, 0, 0, 0) := ⟨by decide +kernel, rfl⟩
theorem s73_81 : am_S 73 81 82 (.aload_n 0, 0, 0, 0, 0) := ⟨by decide +kernel, rfl⟩
theorem s73_82 : am_S 73 82 85 (.getfield 16, 10, 1, 166, 0) := ⟨by decide +kernel, rfl⟩
theorem s73_85 : am_S 73 85 88 (.invokevirtual 79, 191, 0, 215, 0) := ⟨by decide +kernel, rfl⟩
theorem s73_88 : am_S 73 88 89 (.ireturn, 0, 0, 0, 0) := ⟨by decide +kernel, rfl⟩
theorem s73_89 : am_S 73 89 90 (.aload_n 0, 0, 0, 0, 0) := ⟨by decide +kernel, rfl⟩
theorem s73_90 : am_S 73 90 93 (.getfield 41, 10, 7, 172, 0) := ⟨by decide +kernel, rfl⟩
theorem s73_93 : am_S 73 93 96 (.getfield 168, 1, 2, 134, 1) := ⟨by decide +kernel, rfl⟩
theorem s73_96 : am_S 73 96 97 (.ireturn, 0, 0, 0, 0) := ⟨by decide +kernel, rfl⟩
theorem s73_97 : am_S 73 97 98 (.iconst (-1), 0, 0, 0, 0) := ⟨by decide +kernel, rfl⟩
theorem s73_98 : am_S 73 98 99 (.ireturn, 0, 0, 0, 0) := ⟨by decide +kernel, rfl⟩
theorem s74_0 : am_S 74 0 1 (.aload_n 0, 0, 0, 0, 0) := ⟨by decide +kernel, rfl⟩
theorem s74_1 : am_S 74 1 4 (.getfield 65, 10, 11, 176, 0) := ⟨by decide +kernel, rfl⟩
theorem s74_4 : am_S 74 4 5 (.ireturn, 0, 0, 0, 0) := ⟨by decide +kernel, rfl⟩
theorem s75_0 : am_S 75 0 1 (.iload_n 1, 0, 0, 0, 0) := ⟨by decide +kernel, rfl⟩
theorem s75_1 : am_S 75 1 2 (.iconst 1, 0, 0, 0, 0) := ⟨by decide +kernel, rfl⟩
theorem s75_2 : am_S 75 2 3 (.iconst 5, 0, 0, 0, 0) := ⟨by decide +kernel, rfl⟩
theorem s75_3 : am_S 75 3 6 (.invokestatic 75, 87, 3, 212, 0) := ⟨by decide +kernel, rfl⟩
theorem s75_6 : am_S 75 6 9 (.ifCond .ne 5, 0, 0, 0, 0) := ⟨by decide +kernel, rfl⟩
theorem s75_9 : am_S 75 9 10 (.iconst (-1), 0, 0, 0, 0) := ⟨by decide +kernel, rfl⟩
theorem s75_10 : am_S 75 10 11 (.ireturn, 0, 0, 0, 0) := ⟨by decide +kernel, rfl⟩
theorem s75_11 : am_S 75 11 12 (.aload_n 0, 0, 0, 0, 0) := ⟨by decide +kernel, rfl⟩
theorem s75_12 : am_S 75 12 15 (.getfield 62, 10, 10, 175, 0) := ⟨by decide +kernel, rfl⟩
theorem s75_15 : am_S 75 15 16 (.iload_n 1, 0, 0, 0, 0) := ⟨by decide +kernel, rfl⟩
theorem s75_16 : am_S 75 16 17 (.iaload, 0, 0, 0, 0) := ⟨by decide +kernel, rfl⟩
theorem s75_17 : am_S 75 17 18 (.ireturn, 0, 0, 0, 0) := ⟨by decide +kernel, rfl⟩
theorem s76_0 : am_S 76 0 3 (.ldc2_w 306, 0, 0, 821, 17) := ⟨by decide +kernel, rfl⟩
theorem s76_3 : am_S 76 3 4 (.lstore_n 1, 0, 0, 0, 0) := ⟨by decide +kernel, rfl⟩
theorem s76_4 : am_S 76 4 5 (.iconst 0, 0, 0, 0, 0) := ⟨by decide +kernel, rfl⟩
theorem s76_5 : am_S 76 5 6 (.istore_n 3, 0, 0, 0, 0) := ⟨by decide +kernel, rfl⟩
theorem s76_6 : am_S 76 6 7 (.iload_n 3, 0, 0, 0, 0) := ⟨by decide +kernel, rfl⟩
theorem s76_7 : am_S 76 7 9 (.bipush 6, 0, 0, 0, 0) := ⟨by decide +kernel, rfl⟩
theorem s76_9 : am_S 76 9 12 (.if_icmp .gt 22, 0, 0, 0, 0) := ⟨by decide +kernel, rfl⟩
theorem s76_12 : am_S 76 12 15 (.ldc2_w 308, 0, 0, 822, 31) := ⟨by decide +kernel, rfl⟩
theorem s76_15 : am_S 76 15 16 (.lload_n 1, 0, 0, 0, 0) := ⟨by decide +kernel, rfl⟩
theorem s76_16 : am_S 76 16 17 (.lmul, 0, 0, 0, 0) := ⟨by decide +kernel, rfl⟩
theorem s76_17 : am_S 76 17 18 (.aload_n 0, 0, 0, 0, 0) := ⟨by decide +kernel, rfl⟩
theorem s76_18 : am_S 76 18 19 (.iload_n 3, 0, 0, 0, 0) := ⟨by decide +kernel, rfl⟩
theorem s76_19 : am_S 76 19 22 (.invokevirtual 310, 83, 1, 823, 0) := ⟨by decide +kernel, rfl⟩
theorem s76_22 : am_S 76 22 23 (.i2l, 0, 0, 0, 0) := ⟨by decide +kernel, rfl⟩
theorem s76_23 : am_S 76 23 24 (.ladd, 0, 0, 0, 0) := ⟨by decide +kernel, rfl⟩
theorem s76_24 : am_S 76 24 25 (.lstore_n 1, 0, 0, 0, 0) := ⟨by decide +kernel, rfl⟩
theorem s76_25 : am_S 76 25 28 (.iinc 3 1, 0, 0, 0, 0) := ⟨by decide +kernel, rfl⟩
theorem s76_28 : am_S 76 28 31 (.goto (-22), 0, 0, 0, 0) := ⟨by decide +kernel, rfl⟩
theorem s76_31 : am_S 76 31 32 (.iconst 0, 0, 0, 0, 0) := ⟨by decide +kernel, rfl⟩
theorem s76_32 : am_S 76 32 33 (.istore_n 3, 0, 0, 0, 0) := ⟨by decide +kernel, rfl⟩
theorem s76_33 : am_S 76 33 34 (.iload_n 3, 0, 0, 0, 0) := ⟨by decide +kernel, rfl⟩
theorem s76_34 : am_S 76 34 35 (.aload_n 0, 0, 0, 0, 0) := ⟨by decide +kernel, rfl⟩
theorem s76_35 : am_S 76 35 38 (.getfield 19, 10, 2, 167, 0) := ⟨by decide +kernel, rfl⟩
theorem s76_38 : am_S 76 38 41 (.invokevirtual 79, 191, 0, 215, 0) := ⟨by decide +kernel, rfl⟩
theorem s76_41 : am_S 76 41 44 (.if_icmp .ge 40, 0, 0, 0, 0) := ⟨by decide +kernel, rfl⟩
theorem s76_44 : am_S 76 44 45 (.iconst 0, 0, 0, 0, 0) := ⟨by decide +kernel, rfl⟩
theorem s76_45 : am_S 76 45 47 (.istore 4, 0, 0, 0, 0) := ⟨by decide +kernel, rfl⟩
theorem s76_47 : am_S 76 47 49 (.iload 4, 0, 0, 0, 0) := ⟨by decide +kernel, rfl⟩
theorem s76_49 : am_S 76 49 51 (.bipush 6, 0, 0, 0, 0) := ⟨by decide +kernel, rfl⟩
theorem s76_51 : am_S 76 51 54 (.if_icmp .gt 24, 0, 0, 0, 0) := ⟨by decide +kernel, rfl⟩
theorem s76_54 : am_S 76 54 57 (.ldc2_w 308, 0, 0, 822, 31) := ⟨by decide +kernel, rfl⟩
theorem s76_57 : am_S 76 57 58 (.lload_n 1, 0, 0, 0, 0) := ⟨by decide +kernel, rfl⟩
theorem s76_58 : am_S 76 58 59 (.lmul, 0, 0, 0, 0) := ⟨by decide +kernel, rfl⟩
theorem s76_59 : am_S 76 59 60 (.aload_n 0, 0, 0, 0, 0) := ⟨by decide +kernel, rfl⟩
theorem s76_60 : am_S 76 60 61 (.iload_n 3, 0, 0, 0, 0) := ⟨by decide +kernel, rfl⟩
theorem s76_61 : am_S 76 61 63 (.iload 4, 0, 0, 0, 0) := ⟨by decide +kernel, rfl⟩
theorem s76_63 : am_S 76 63 66 (.invokevirtual 312, 65, 2, 824, 0) := ⟨by decide +kernel, rfl⟩
theorem s76_66 : am_S 76 66 67 (.i2l, 0, 0, 0, 0) := ⟨by decide +kernel, rfl⟩
theorem s76_67 : am_S 76 67 68 (.ladd, 0, 0, 0, 0) := ⟨by decide +kernel, rfl⟩
theorem s76_68 : am_S 76 68 69 (.lstore_n 1, 0, 0, 0, 0) := ⟨by decide +kernel, rfl⟩
theorem s76_69 : am_S 76 69 72 (.iinc 4 1, 0, 0, 0, 0) := ⟨by decide +kernel, rfl⟩
theorem s76_72 : am_S 76 72 75 (.goto (-25), 0, 0, 0, 0) := ⟨by decide +kernel, rfl⟩
theorem s76_75 : am_S 76 75 78 (.iinc 3 1, 0, 0, 0, 0) := ⟨by decide +kernel, rfl⟩
theorem s76_78 : am_S 76 78 81 (.goto (-45), 0, 0, 0, 0) := ⟨by decide +kernel, rfl⟩
theorem s76_81 : am_S 76 81 82 (.iconst 0, 0, 0, 0, 0) := ⟨by decide +kernel, rfl⟩
theorem s76_82 : am_S 76 82 83 (.istore_n 3, 0, 0, 0, 0) := ⟨by decide +kernel, rfl⟩
theorem s76_83 : am_S 76 83 84 (.iload_n 3, 0, 0, 0, 0) := ⟨by decide +kernel, rfl⟩
theorem s76_84 : am_S 76 84 85 (.aload_n 0, 0, 0, 0, 0) := ⟨by decide +kernel, rfl⟩
theorem s76_85 : am_S 76 85 88 (.getfield 25, 10, 4, 169, 0) := ⟨by decide +kernel, rfl⟩
theorem s76_88 : am_S 76 88 91 (.invokevirtual 79, 191, 0, 215, 0) := ⟨by decide +kernel, rfl⟩
theorem s76_91 : am_S 76 91 94 (.if_icmp .ge 39, 0, 0, 0, 0) := ⟨by decide +kernel, rfl⟩
theorem s76_94 : am_S 76 94 95 (.iconst 0, 0, 0, 0, 0) := ⟨by decide +kernel, rfl⟩
theorem s76_95 : am_S 76 95 97 (.istore 4, 0, 0, 0, 0) := ⟨by decide +kernel, rfl⟩
theorem s76_97 : am_S 76 97 99 (.iload 4, 0, 0, 0, 0) := ⟨by decide +kernel, rfl⟩
theorem s76_99 : am_S 76 99 100 (.iconst 5, 0, 0, 0, 0) := ⟨by decide +kernel, rfl⟩
theorem s76_100 : am_S 76 100 103 (.if_icmp .gt 24, 0, 0, 0, 0) := ⟨by decide +kernel, rfl⟩
theorem s76_103 : am_S 76 103 106 (.ldc2_w 308, 0, 0, 822, 31) := ⟨by decide +kernel, rfl⟩
theorem s76_106 : am_S 76 106 107 (.lload_n 1, 0, 0, 0, 0) := ⟨by decide +kernel, rfl⟩
theorem s76_107 : am_S 76 107 108 (.lmul, 0, 0, 0, 0) := ⟨by decide +kernel, rfl⟩
theorem s76_108 : am_S 76 108 109 (.aload_n 0, 0, 0, 0, 0) := ⟨by decide +kernel, rfl⟩
theorem s76_109 : am_S 76 109 110 (.iload_n 3, 0, 0, 0, 0) := ⟨by decide +kernel, rfl⟩
theorem s76_110 : am_S 76 110 112 (.iload 4, 0, 0, 0, 0) := ⟨by decide +kernel, rfl⟩
theorem s76_112 : am_S 76 112 115 (.invokevirtual 315, 74, 2, 825, 0) := ⟨by decide +kernel, rfl⟩
theorem s76_115 : am_S 76 115 116 (.i2l, 0, 0, 0, 0) := ⟨by decide +kernel, rfl⟩
theorem s76_116 : am_S 76 116 117 (.ladd, 0, 0, 0, 0) := ⟨by decide +kernel, rfl⟩
theorem s76_117 : am_S 76 117 118 (.lstore_n 1, 0, 0, 0, 0) := ⟨by decide +kernel, rfl⟩
theorem s76_118 : am_S 76 118 121 (.iinc 4 1, 0, 0, 0, 0) := ⟨by decide +kernel, rfl⟩
theorem s76_121 : am_S 76 121 124 (.goto (-24), 0, 0, 0, 0) := ⟨by decide +kernel, rfl⟩
theorem s76_124 : am_S 76 124 127 (.iinc 3 1, 0, 0, 0, 0) := ⟨by decide +kernel, rfl⟩
theorem s76_127 : am_S 76 127 130 (.goto (-44), 0, 0, 0, 0) := ⟨by decide +kernel, rfl⟩
theorem s76_130 : am_S 76 130 131 (.iconst 0, 0, 0, 0, 0) := ⟨by decide +kernel, rfl⟩
theorem s76_131 : am_S 76 131 132 (.istore_n 3, 0, 0, 0, 0) := ⟨by decide +kernel, rfl⟩
theorem s76_132 : am_S 76 132 133 (.iload_n 3, 0, 0, 0, 0) := ⟨by decide +kernel, rfl⟩
theorem s76_133 : am_S 76 133 134 (.aload_n 0, 0, 0, 0, 0) := ⟨by decide +kernel, rfl⟩
theorem s76_134 : am_S 76 134 137 (.getfield 22, 10, 3, 168, 0) := ⟨by decide +kernel, rfl⟩
theorem s76_137 : am_S 76 137 140 (.invokevirtual 79, 191, 0, 215, 0) := ⟨by decide +kernel, rfl⟩
theorem s76_140 : am_S 76 140 143 (.if_icmp .ge 53, 0, 0, 0, 0) := ⟨by decide +kernel, rfl⟩
theorem s76_143 : am_S 76 143 146 (.ldc2_w 308, 0, 0, 822, 31) := ⟨by decide +kernel, rfl⟩
theorem s76_146 : am_S 76 146 147 (.lload_n 1, 0, 0, 0, 0) := ⟨by decide +kernel, rfl⟩
theorem s76_147 : am_S 76 147 148 (.lmul, 0, 0, 0, 0) := ⟨by decide +kernel, rfl⟩
theorem s76_148 : am_S 76 148 149 (.aload_n 0, 0, 0, 0, 0) := ⟨by decide +kernel, rfl⟩
theorem s76_149 : am_S 76 149 152 (.getfield 22, 10, 3, 168, 0) := ⟨by decide +kernel, rfl⟩
theorem s76_152 : am_S 76 152 153 (.iload_n 3, 0, 0, 0, 0) := ⟨by decide +kernel, rfl⟩
theorem s76_153 : am_S 76 153 156 (.invokevirtual 104, 194, 1, 306, 0) := ⟨by decide +kernel, rfl⟩
theorem s76_156 : am_S 76 156 159 (.checkcast 108, 2, 0, 344, 0) := ⟨by decide +kernel, rfl⟩
theorem s76_159 : am_S 76 159 162 (.getfield 294, 2, 0, 619, 1) := ⟨by decide +kernel, rfl⟩
theorem s76_162 : am_S 76 162 163 (.i2l, 0, 0, 0, 0) := ⟨by decide +kernel, rfl⟩
theorem s76_163 : am_S 76 163 164 (.ladd, 0, 0, 0, 0) := ⟨by decide +kernel, rfl⟩
theorem s76_164 : am_S 76 164 165 (.lstore_n 1, 0, 0, 0, 0) := ⟨by decide +kernel, rfl⟩
theorem s76_165 : am_S 76 165 168 (.ldc2_w 308, 0, 0, 822, 31) := ⟨by decide +kernel, rfl⟩
theorem s76_168 : am_S 76 168 169 (.lload_n 1, 0, 0, 0, 0) := ⟨by decide +kernel, rfl⟩
theorem s76_169 : am_S 76 169 170 (.lmul, 0, 0, 0, 0) := ⟨by decide +kernel, rfl⟩
theorem s76_170 : am_S 76 170 171 (.aload_n 0, 0, 0, 0, 0) := ⟨by decide +kernel, rfl⟩
theorem s76_171 : am_S 76 171 174 (.getfield 22, 10, 3, 168, 0) := ⟨by decide +kernel, rfl⟩
theorem s76_174 : am_S 76 174 175 (.iload_n 3, 0, 0, 0, 0) := ⟨by decide +kernel, rfl⟩
theorem s76_175 : am_S 76 175 178 (.invokevirtual 104, 194, 1, 306, 0) := ⟨by decide +kernel, rfl⟩
theorem s76_178 : am_S 76 178 181 (.checkcast 108, 2, 0, 344, 0) := ⟨by decide +kernel, rfl⟩
theorem s76_181 : am_S 76 181 184 (.getfield 110, 2, 1, 621, 1) := ⟨by decide +kernel, rfl⟩
theorem s76_184 : am_S 76 184 185 (.i2l, 0, 0, 0, 0) := ⟨by decide +kernel, rfl⟩
theorem s76_185 : am_S 76 185 186 (.ladd, 0, 0, 0, 0) := ⟨by decide +kernel, rfl⟩
theorem s76_186 : am_S 76 186 187 (.lstore_n 1, 0, 0, 0, 0) := ⟨by decide +kernel, rfl⟩
theorem s76_187 : am_S 76 187 190 (.iinc 3 1, 0, 0, 0, 0) := ⟨by decide +kernel, rfl⟩
theorem s76_190 : am_S 76 190 193 (.goto (-58), 0, 0, 0, 0) := ⟨by decide +kernel, rfl⟩
theorem s76_193 : am_S 76 193 194 (.iconst 0, 0, 0, 0, 0) := ⟨by decide +kernel, rfl⟩
theorem s76_194 : am_S 76 194 195 (.istore_n 3, 0, 0, 0, 0) := ⟨by decide +kernel, rfl⟩
theorem s76_195 : am_S 76 195 196 (.iload_n 3, 0, 0, 0, 0) := ⟨by decide +kernel, rfl⟩
theorem s76_196 : am_S 76 196 197 (.iconst 4, 0, 0, 0, 0) := ⟨by decide +kernel, rfl⟩
theorem s76_197 : am_S 76 197 200 (.if_icmp .ge 20, 0, 0, 0, 0) := ⟨by decide +kernel, rfl⟩
theorem s76_200 : am_S 76 200 201 (.aload_n 0, 0, 0, 0, 0) := ⟨by decide +kernel, rfl⟩
theorem s76_201 : am_S 76 201 204 (.getfield 33, 10, 6, 171, 0) := ⟨by decide +kernel, rfl⟩
theorem s76_204 : am_S 76 204 205 (.iload_n 3, 0, 0, 0, 0) := ⟨by decide +kernel, rfl⟩
theorem s76_205 : am_S 76 205 206 (.aaload, 0, 0, 0, 0) := ⟨by decide +kernel, rfl⟩
theorem s76_206 : am_S 76 206 207 (.lload_n 1, 0, 0, 0, 0) := ⟨by decide +kernel, rfl⟩
theorem s76_207 : am_S 76 207 210 (.invokevirtual 318, 41, 1, 826, 0) := ⟨by decide +kernel, rfl⟩
theorem s76_210 : am_S 76 210 211 (.lstore_n 1, 0, 0, 0, 0) := ⟨by decide +kernel, rfl⟩
theorem s76_211 : am_S 76 211 214 (.iinc 3 1, 0, 0, 0, 0) := ⟨by decide +kernel, rfl⟩
theorem s76_214 : am_S 76 214 217 (.goto (-19), 0, 0, 0, 0) := ⟨by decide +kernel, rfl⟩
theorem s76_217 : am_S 76 217 218 (.lload_n 1, 0, 0, 0, 0) := ⟨by decide +kernel, rfl⟩
theorem s76_218 : am_S 76 218 219 (.lreturn, 0, 0, 0, 0) := ⟨by decide +kernel, rfl⟩
theorem s77_0 : am_S 77 0 1 (.iload_n 0, 0, 0, 0, 0) := ⟨by decide +kernel, rfl⟩
theorem s77_1 : am_S 77 1 2 (.iload_n 1, 0, 0, 0, 0) := ⟨by decide +kernel, rfl⟩
theorem s77_2 : am_S 77 2 5 (.if_icmp .lt 12, 0, 0, 0, 0) := ⟨by decide +kernel, rfl⟩
theorem s77_5 : am_S 77 5 6 (.iload_n 0, 0, 0, 0, 0) := ⟨by decide +kernel, rfl⟩
theorem s77_6 : am_S 77 6 7 (.iload_n 2, 0, 0, 0, 0) := ⟨by decide +kernel, rfl⟩
theorem s77_7 : am_S 77 7 10 (.if_icmp .gt 7, 0, 0, 0, 0) := ⟨by decide +kernel, rfl⟩
theorem s77_10 : am_S 77 10 11 (.iconst 1, 0, 0, 0, 0) := ⟨by decide +kernel, rfl⟩
theorem s77_11 : am_S 77 11 14 (.goto 4, 0, 0, 0, 0) := ⟨by decide +kernel, rfl⟩
theorem s77_14 : am_S 77 14 15 (.iconst 0, 0, 0, 0, 0) := ⟨by decide +kernel, rfl⟩
theorem s77_15 : am_S 77 15 16 (.ireturn, 0, 0, 0, 0) := ⟨by decide +kernel, rfl⟩
theorem s78_0 : am_S 78 0 1 (.iload_n 0, 0, 0, 0, 0) := ⟨by decide +kernel, rfl⟩
theorem s78_1 : am_S 78 1 2 (.iconst 0, 0, 0, 0, 0) := ⟨by decide +kernel, rfl⟩
theorem s78_2 : am_S 78 2 5 (.sipush 500, 0, 0, 0, 0) := ⟨by decide +kernel, rfl⟩
theorem s78_5 : am_S 78 5 8 (.invokestatic 75, 87, 3, 212, 0) := ⟨by decide +kernel, rfl⟩
theorem s78_8 : am_S 78 8 9 (.ireturn, 0, 0, 0, 0) := ⟨by decide +kernel, rfl⟩
theorem s79_0 : am_S 79 0 1 (.iload_n 0, 0, 0, 0, 0) := ⟨by decide +kernel, rfl⟩
theorem s79_1 : am_S 79 1 2 (.iconst 0, 0, 0, 0, 0) := ⟨by decide +kernel, rfl⟩
theorem s79_2 : am_S 79 2 5 (.sipush 1439, 0, 0, 0, 0) := ⟨by decide +kernel, rfl⟩
theorem s79_5 : am_S 79 5 8 (.invokestatic 75, 87, 3, 212, 0) := ⟨by decide +kernel, rfl⟩
theorem s79_8 : am_S 79 8 9 (.ireturn, 0, 0, 0, 0) := ⟨by decide +kernel, rfl⟩
theorem s80_0 : am_S 80 0 1 (.iload_n 0, 0, 0, 0, 0) := ⟨by decide +kernel, rfl⟩
theorem s80_1 : am_S 80 1 2 (.iconst 0, 0, 0, 0, 0) := ⟨by decide +kernel, rfl⟩
theorem s80_2 : am_S 80 2 3 (.iconst 3, 0, 0, 0, 0) := ⟨by decide +kernel, rfl⟩
theorem s80_3 : am_S 80 3 6 (.invokestatic 75, 87, 3, 212, 0) := ⟨by decide +kernel, rfl⟩
theorem s80_6 : am_S 80 6 7 (.ireturn, 0, 0, 0, 0) := ⟨by decide +kernel, rfl⟩
theorem s81_0 : am_S 81 0 1 (.iload_n 0, 0, 0, 0, 0) := ⟨by decide +kernel, rfl⟩
theorem s81_1 : am_S 81 1 2 (.iconst 0, 0, 0, 0, 0) := ⟨by decide +kernel, rfl⟩
theorem s81_2 : am_S 81 2 3 (.iconst 5, 0, 0, 0, 0) := ⟨by decide +kernel, rfl⟩
theorem s81_3 : am_S 81 3 6 (.invokestatic 75, 87, 3, 212, 0) := ⟨by decide +kernel, rfl⟩
theorem s81_6 : am_S 81 6 7 (.ireturn, 0, 0, 0, 0) := ⟨by decide +kernel, rfl⟩
theorem s82_0 : am_S 82 0 1 (.iload_n 0, 0, 0, 0, 0) := ⟨by decide +kernel, rfl⟩
theorem s82_1 : am_S 82 1 2 (.iconst 0, 0, 0, 0, 0) := ⟨by decide +kernel, rfl⟩
theorem s82_2 : am_S 82 2 4 (.bipush 9, 0, 0, 0, 0) := ⟨by decide +kernel, rfl⟩
theorem s82_4 : am_S 82 4 7 (.invokestatic 75, 87, 3, 212, 0) := ⟨by decide +kernel, rfl⟩
theorem s82_7 : am_S 82 7 8 (.ireturn, 0, 0, 0, 0) := ⟨by decide +kernel, rfl⟩
theorem s83_0 : am_S 83 0 1 (.iload_n 1, 0, 0, 0, 0) := ⟨by decide +kernel, rfl⟩
theorem s83_1 : am_S 83 1 4 (.ifCond .lt 18, 0, 0, 0, 0) := ⟨by decide +kernel, rfl⟩
theorem s83_4 : am_S 83 4 5 (.iload_n 1, 0, 0, 0, 0) := ⟨by decide +kernel, rfl⟩
theorem s83_5 : am_S 83 5 6 (.aload_n 0, 0, 0, 0, 0) := ⟨by decide +kernel, rfl⟩
theorem s83_6 : am_S 83 6 9 (.getfield 10, 10, 0, 165, 0) := ⟨by decide +kernel, rfl⟩
theorem s83_9 : am_S 83 9 12 (.invokevirtual 79, 191, 0, 215, 0) := ⟨by decide +kernel, rfl⟩
theorem s83_12 : am_S 83 12 15 (.if_icmp .ge 7, 0, 0, 0, 0) := ⟨by decide +kernel, rfl⟩
theorem s83_15 : am_S 83 15 16 (.iconst 1, 0, 0, 0, 0) := ⟨by decide +kernel, rfl⟩
theorem s83_16 : am_S 83 16 19 (.goto 4, 0, 0, 0, 0) := ⟨by decide +kernel, rfl⟩
theorem s83_19 : am_S 83 19 20 (.iconst 0, 0, 0, 0, 0) := ⟨by decide +kernel, rfl⟩
theorem s83_20 : am_S 83 20 21 (.ireturn, 0, 0, 0, 0) := ⟨by decide +kernel, rfl⟩
theorem s84_0 : am_S 84 0 1 (.iload_n 1, 0, 0, 0, 0) := ⟨by decide +kernel, rfl⟩
theorem s84_1 : am_S 84 1 4 (.ifCond .lt 18, 0, 0, 0, 0) := ⟨by decide +kernel, rfl⟩
theorem s84_4 : am_S 84 4 5 (.iload_n 1, 0, 0, 0, 0) := ⟨by decide +kernel, rfl⟩
theorem s84_5 : am_S 84 5 6 (.aload_n 0, 0, 0, 0, 0) := ⟨by decide +kernel, rfl⟩
theorem s84_6 : am_S 84 6 9 (.getfield 19, 10, 2, 167, 0) := ⟨by decide +kernel, rfl⟩
theorem s84_9 : am_S 84 9 12 (.invokevirtual 79, 191, 0, 215, 0) := ⟨by decide +kernel, rfl⟩
theorem s84_12 : am_S 84 12 15 (.if_icmp .ge 7, 0, 0, 0, 0) := ⟨by decide +kernel, rfl⟩
theorem s84_15 : am_S 84 15 16 (.iconst 1, 0, 0, 0, 0) := ⟨by decide +kernel, rfl⟩
theorem s84_16 : am_S 84 16 19 (.goto 4, 0, 0, 0, 0) := ⟨by decide +kernel, rfl⟩
theorem s84_19 : am_S 84 19 20 (.iconst 0, 0, 0, 0, 0) := ⟨by decide +kernel, rfl⟩
theorem s84_20 : am_S 84 20 21 (.ireturn, 0, 0, 0, 0) := ⟨by decide +kernel, rfl⟩
theorem s85_0 : am_S 85 0 1 (.iload_n 1, 0, 0, 0, 0) := ⟨by decide +kernel, rfl⟩
theorem s85_1 : am_S 85 1 4 (.ifCond .lt 18, 0, 0, 0, 0) := ⟨by decide +kernel, rfl⟩
theorem s85_4 : am_S 85 4 5 (.iload_n 1, 0, 0, 0, 0) := ⟨by decide +kernel, rfl⟩
theorem s85_5 : am_S 85 5 6 (.aload_n 0, 0, 0, 0, 0) := ⟨by decide +kernel, rfl⟩
theorem s85_6 : am_S 85 6 9 (.getfield 22, 10, 3, 168, 0) := ⟨by decide +kernel, rfl⟩
theorem s85_9 : am_S 85 9 12 (.invokevirtual 79, 191, 0, 215, 0) := ⟨by decide +kernel, rfl⟩
theorem s85_12 : am_S 85 12 15 (.if_icmp .ge 7, 0, 0, 0, 0) := ⟨by decide +kernel, rfl⟩
theorem s85_15 : am_S 85 15 16 (.iconst 1, 0, 0, 0, 0) := ⟨by decide +kernel, rfl⟩
theorem s85_16 : am_S 85 16 19 (.goto 4, 0, 0, 0, 0) := ⟨by decide +kernel, rfl⟩
theorem s85_19 : am_S 85 19 20 (.iconst 0, 0, 0, 0, 0) := ⟨by decide +kernel, rfl⟩
theorem s85_20 : am_S 85 20 21 (.ireturn, 0, 0, 0, 0) := ⟨by decide +kernel, rfl⟩
theorem s86_0 : am_S 86 0 1 (.iload_n 1, 0, 0, 0, 0) := ⟨by decide +kernel, rfl⟩
theorem s86_1 : am_S 86 1 4 (.ifCond .lt 20, 0, 0, 0, 0) := ⟨by decide +kernel, rfl⟩
theorem s86_4 : am_S 86 4 5 (.iload_n 1, 0, 0, 0, 0) := ⟨by decide +kernel, rfl⟩
theorem s86_5 : am_S 86 5 6 (.iconst 1, 0, 0, 0, 0) := ⟨by decide +kernel, rfl⟩
theorem s86_6 : am_S 86 6 7 (.aload_n 0, 0, 0, 0, 0) := ⟨by decide +kernel, rfl⟩
theorem s86_7 : am_S 86 7 10 (.getfield 10, 10, 0, 165, 0) := ⟨by decide +kernel, rfl⟩
theorem s86_10 : am_S 86 10 13 (.invokevirtual 79, 191, 0, 215, 0) := ⟨by decide +kernel, rfl⟩
theorem s86_13 : am_S 86 13 14 (.ishl, 0, 0, 0, 0) := ⟨by decide +kernel, rfl⟩
theorem s86_14 : am_S 86 14 17 (.if_icmp .ge 7, 0, 0, 0, 0) := ⟨by decide +kernel, rfl⟩
theorem s86_17 : am_S 86 17 18 (.iconst 1, 0, 0, 0, 0) := ⟨by decide +kernel, rfl⟩
theorem s86_18 : am_S 86 18 21 (.goto 4, 0, 0, 0, 0) := ⟨by decide +kernel, rfl⟩
theorem s86_21 : am_S 86 21 22 (.iconst 0, 0, 0, 0, 0) := ⟨by decide +kernel, rfl⟩
theorem s86_22 : am_S 86 22 23 (.ireturn, 0, 0, 0, 0) := ⟨by decide +kernel, rfl⟩
theorem s87_0 : am_S 87 0 1 (.iload_n 0, 0, 0, 0, 0) := ⟨by decide +kernel, rfl⟩
theorem s87_1 : am_S 87 1 2 (.iload_n 1, 0, 0, 0, 0) := ⟨by decide +kernel, rfl⟩
theorem s87_2 : am_S 87 2 5 (.if_icmp .eq 23, 0, 0, 0, 0) := ⟨by decide +kernel, rfl⟩
theorem s87_5 : am_S 87 5 6 (.iload_n 0, 0, 0, 0, 0) := ⟨by decide +kernel, rfl⟩
theorem s87_6 : am_S 87 6 7 (.iconst 2, 0, 0, 0, 0) := ⟨by decide +kernel, rfl⟩
theorem s87_7 : am_S 87 7 10 (.if_icmp .ne 8, 0, 0, 0, 0) := ⟨by decide +kernel, rfl⟩
theorem s87_10 : am_S 87 10 11 (.iload_n 1, 0, 0, 0, 0) := ⟨by decide +kernel, rfl⟩
theorem s87_11 : am_S 87 11 12 (.iconst 1, 0, 0, 0, 0) := ⟨by decide +kernel, rfl⟩
theorem s87_12 : am_S 87 12 15 (.if_icmp .eq 13, 0, 0, 0, 0) := ⟨by decide +kernel, rfl⟩
theorem s87_15 : am_S 87 15 16 (.iload_n 0, 0, 0, 0, 0) := ⟨by decide +kernel, rfl⟩
theorem s87_16 : am_S 87 16 17 (.iconst 5, 0, 0, 0, 0) := ⟨by decide +kernel, rfl⟩
theorem s87_17 : am_S 87 17 20 (.if_icmp .ne 12, 0, 0, 0, 0) := ⟨by decide +kernel, rfl⟩
theorem s87_20 : am_S 87 20 21 (.iload_n 1, 0, 0, 0, 0) := ⟨by decide +kernel, rfl⟩
theorem s87_21 : am_S 87 21 22 (.iconst 4, 0, 0, 0, 0) := ⟨by decide +kernel, rfl⟩
theorem s87_22 : am_S 87 22 25 (.if_icmp .ne 7, 0, 0, 0, 0) := ⟨by decide +kernel, rfl⟩
theorem s87_25 : am_S 87 25 26 (.iconst 1, 0, 0, 0, 0) := ⟨by decide +kernel, rfl⟩
theorem s87_26 : am_S 87 26 29 (.goto 4, 0, 0, 0, 0) := ⟨by decide +kernel, rfl⟩
theorem s87_29 : am_S 87 29 30 (.iconst 0, 0, 0, 0, 0) := ⟨by decide +kernel, rfl⟩
theorem s87_30 : am_S 87 30 31 (.ireturn, 0, 0, 0, 0) := ⟨by decide +kernel, rfl⟩
theorem s88_0 : am_S 88 0 1 (.iload_n 0, 0, 0, 0, 0) := ⟨by decide +kernel, rfl⟩
theorem s88_1 : am_S 88 1 4 (.ifCond .eq 7, 0, 0, 0, 0) := ⟨by decide +kernel, rfl⟩
theorem s88_4 : am_S 88 4 5 (.iconst 1, 0, 0, 0, 0) := ⟨by decide +kernel, rfl⟩
theorem s88_5 : am_S 88 5 8 (.goto 4, 0, 0, 0, 0) := ⟨by decide +kernel, rfl⟩
theorem s88_8 : am_S 88 8 9 (.iconst 0, 0, 0, 0, 0) := ⟨by decide +kernel, rfl⟩
theorem s88_9 : am_S 88 9 10 (.ireturn, 0, 0, 0, 0) := ⟨by decide +kernel, rfl⟩
theorem s89_0 : am_S 89 0 1 (.aload_n 0, 0, 0, 0, 0) := ⟨by decide +kernel, rfl⟩
theorem s89_1 : am_S 89 1 2 (.iload_n 1, 0, 0, 0, 0) := ⟨by decide +kernel, rfl⟩
theorem s89_2 : am_S 89 2 5 (.putfield 65, 10, 11, 176, 0) := ⟨by decide +kernel, rfl⟩
theorem s89_5 : am_S 89 5 6 (.aload_n 0, 0, 0, 0, 0) := ⟨by decide +kernel, rfl⟩
theorem s89_6 : am_S 89 6 9 (.getfield 62, 10, 10, 175, 0) := ⟨by decide +kernel, rfl⟩
theorem s89_9 : am_S 89 9 10 (.iload_n 1, 0, 0, 0, 0) := ⟨by decide +kernel, rfl⟩
theorem s89_10 : am_S 89 10 11 (.dup2, 0, 0, 0, 0) := ⟨by decide +kernel, rfl⟩
theorem s89_11 : am_S 89 11 12 (.iaload, 0, 0, 0, 0) := ⟨by decide +kernel, rfl⟩
theorem s89_12 : am_S 89 12 13 (.iconst 1, 0, 0, 0, 0) := ⟨by decide +kernel, rfl⟩
theorem s89_13 : am_S 89 13 14 (.iadd, 0, 0, 0, 0) := ⟨by decide +kernel, rfl⟩
theorem s89_14 : am_S 89 14 15 (.iastore, 0, 0, 0, 0) := ⟨by decide +kernel, rfl⟩
theorem s89_15 : am_S 89 15 17 (.bipush (-3), 0, 0, 0, 0) := ⟨by decide +kernel, rfl⟩
theorem s89_17 : am_S 89 17 18 (.ireturn, 0, 0, 0, 0) := ⟨by decide +kernel, rfl⟩
theorem s90_0 : am_S 90 0 1 (.aload_n 0, 0, 0, 0, 0) := ⟨by decide +kernel, rfl⟩
theorem s90_1 : am_S 90 1 4 (.getfield 10, 10, 0, 165, 0) := ⟨by decide +kernel, rfl⟩
theorem s90_4 : am_S 90 4 5 (.iload_n 1, 0, 0, 0, 0) := ⟨by decide +kernel, rfl⟩
theorem s90_5 : am_S 90 5 8 (.invokevirtual 104, 194, 1, 306, 0) := ⟨by decide +kernel, rfl⟩
theorem s90_8 : am_S 90 8 11 (.checkcast 83, 8, 0, 219, 0) := ⟨by decide +kernel, rfl⟩
theorem s90_11 : am_S 90 11 12 (.aload_n 0, 0, 0, 0, 0) := ⟨by decide +kernel, rfl⟩
theorem s90_12 : am_S 90 12 15 (.getfield 10, 10, 0, 165, 0) := ⟨by decide +kernel, rfl⟩
theorem s90_15 : am_S 90 15 16 (.iload_n 2, 0, 0, 0, 0) := ⟨by decide +kernel, rfl⟩
theorem s90_16 : am_S 90 16 19 (.invokevirtual 104, 194, 1, 306, 0) := ⟨by decide +kernel, rfl⟩
theorem s90_19 : am_S 90 19 22 (.checkcast 83, 8, 0, 219, 0) := ⟨by decide +kernel, rfl⟩
theorem s90_22 : am_S 90 22 25 (.invokevirtual 322, 46, 1, 320, 0) := ⟨by decide +kernel, rfl⟩
theorem s90_25 : am_S 90 25 26 (.ireturn, 0, 0, 0, 0) := ⟨by decide +kernel, rfl⟩
theorem s91_0 : am_S 91 0 1 (.aload_n 0, 0, 0, 0, 0) := ⟨by decide +kernel, rfl⟩
theorem s91_1 : am_S 91 1 2 (.iload_n 1, 0, 0, 0, 0) := ⟨by decide +kernel, rfl⟩
theorem s91_2 : am_S 91 2 3 (.iload_n 2, 0, 0, 0, 0) := ⟨by decide +kernel, rfl⟩
theorem s91_3 : am_S 91 3 6 (.invokevirtual 96, 100, 2, 302, 0) := ⟨by decide +kernel, rfl⟩
theorem s91_6 : am_S 91 6 7 (.aload_n 0, 0, 0, 0, 0) := ⟨by decide +kernel, rfl⟩
theorem s91_7 : am_S 91 7 10 (.getfield 72, 10, 13, 178, 0) := ⟨by decide +kernel, rfl⟩
theorem s91_10 : am_S 91 10 13 (.if_icmp .gt 7, 0, 0, 0, 0) := ⟨by decide +kernel, rfl⟩
theorem s91_13 : am_S 91 13 14 (.iconst 1, 0, 0, 0, 0) := ⟨by decide +kernel, rfl⟩
theorem s91_14 : am_S 91 14 17 (.goto 4, 0, 0, 0, 0) := ⟨by decide +kernel, rfl⟩
theorem s91_17 : am_S 91 17 18 (.iconst 0, 0, 0, 0, 0) := ⟨by decide +kernel, rfl⟩
theorem s91_18 : am_S 91 18 19 (.ireturn, 0, 0, 0, 0) := ⟨by decide +kernel, rfl⟩
theorem s92_0 : am_S 92 0 1 (.aload_n 0, 0, 0, 0, 0) := ⟨by decide +kernel, rfl⟩
theorem s92_1 : am_S 92 1 4 (.getfield 25, 10, 4, 169, 0) := ⟨by decide +kernel, rfl⟩
theorem s92_4 : am_S 92 4 7 (.invokevirtual 326, 192, 0, 335, 0) := ⟨by decide +kernel, rfl⟩
theorem s92_7 : am_S 92 7 10 (.ifCond .ne 36, 0, 0, 0, 0) := ⟨by decide +kernel, rfl⟩
theorem s92_10 : am_S 92 10 11 (.aload_n 0, 0, 0, 0, 0) := ⟨by decide +kernel, rfl⟩
theorem s92_11 : am_S 92 11 14 (.getfield 25, 10, 4, 169, 0) := ⟨by decide +kernel, rfl⟩
theorem s92_14 : am_S 92 14 15 (.aload_n 0, 0, 0, 0, 0) := ⟨by decide +kernel, rfl⟩
theorem s92_15 : am_S 92 15 18 (.getfield 25, 10, 4, 169, 0) := ⟨by decide +kernel, rfl⟩
theorem s92_18 : am_S 92 18 21 (.invokevirtual 79, 191, 0, 215, 0) := ⟨by decide +kernel, rfl⟩
theorem s92_21 : am_S 92 21 22 (.iconst 1, 0, 0, 0, 0) := ⟨by decide +kernel, rfl⟩
theorem s92_22 : am_S 92 22 23 (.isub, 0, 0, 0, 0) := ⟨by decide +kernel, rfl⟩
theorem s92_23 : am_S 92 23 26 (.invokevirtual 104, 194, 1, 306, 0) := ⟨by decide +kernel, rfl⟩
theorem s92_26 : am_S 92 26 29 (.checkcast 253, 3, 0, 339, 0) := ⟨by decide +kernel, rfl⟩
theorem s92_29 : am_S 92 29 32 (.getfield 276, 3, 3, 676, 1) := ⟨by decide +kernel, rfl⟩
theorem s92_32 : am_S 92 32 33 (.aload_n 0, 0, 0, 0, 0) := ⟨by decide +kernel, rfl⟩
theorem s92_33 : am_S 92 33 36 (.getfield 69, 10, 12, 177, 0) := ⟨by decide +kernel, rfl⟩
theorem s92_36 : am_S 92 36 39 (.if_icmp .ne 7, 0, 0, 0, 0) := ⟨by decide +kernel, rfl⟩
theorem s92_39 : am_S 92 39 40 (.iconst 1, 0, 0, 0, 0) := ⟨by decide +kernel, rfl⟩
theorem s92_40 : am_S 92 40 43 (.goto 4, 0, 0, 0, 0) := ⟨by decide +kernel, rfl⟩
theorem s92_43 : am_S 92 43 44 (.iconst 0, 0, 0, 0, 0) := ⟨by decide +kernel, rfl⟩
theorem s92_44 : am_S 92 44 45 (.ireturn, 0, 0, 0, 0) := ⟨by decide +kernel, rfl⟩
theorem s93_0 : am_S 93 0 1 (.aload_n 0, 0, 0, 0, 0) := ⟨by decide +kernel, rfl⟩
theorem s93_1 : am_S 93 1 4 (.getfield 10, 10, 0, 165, 0) := ⟨by decide +kernel, rfl⟩
theorem s93_4 : am_S 93 4 5 (.iload_n 1, 0, 0, 0, 0) := ⟨by decide +kernel, rfl⟩
theorem s93_5 : am_S 93 5 8 (.invokevirtual 104, 194, 1, 306, 0) := ⟨by decide +kernel, rfl⟩
theorem s93_8 : am_S 93 8 11 (.checkcast 83, 8, 0, 219, 0) := ⟨by decide +kernel, rfl⟩
theorem s93_11 : am_S 93 11 12 (.iload_n 2, 0, 0, 0, 0) := ⟨by decide +kernel, rfl⟩
theorem s93_12 : am_S 93 12 15 (.invokevirtual 329, 47, 1, 383, 0) := ⟨by decide +kernel, rfl⟩
theorem s93_15 : am_S 93 15 17 (.istore 4, 0, 0, 0, 0) := ⟨by decide +kernel, rfl⟩
theorem s93_17 : am_S 93 17 18 (.iconst 0, 0, 0, 0, 0) := ⟨by decide +kernel, rfl⟩
theorem s93_18 : am_S 93 18 20 (.istore 5, 0, 0, 0, 0) := ⟨by decide +kernel, rfl⟩
theorem s93_20 : am_S 93 20 22 (.iload 5, 0, 0, 0, 0) := ⟨by decide +kernel, rfl⟩
theorem s93_22 : am_S 93 22 23 (.aload_n 0, 0, 0, 0, 0) := ⟨by decide +kernel, rfl⟩
theorem s93_23 : am_S 93 23 26 (.getfield 16, 10, 1, 166, 0) := ⟨by decide +kernel, rfl⟩
theorem s93_26 : am_S 93 26 29 (.invokevirtual 79, 191, 0, 215, 0) := ⟨by decide +kernel, rfl⟩
theorem s93_29 : am_S 93 29 32 (.if_icmp .ge 65, 0, 0, 0, 0) := ⟨by decide +kernel, rfl⟩
theorem s93_32 : am_S 93 32 33 (.aload_n 0, 0, 0, 0, 0) := ⟨by decide +kernel, rfl⟩
theorem s93_33 : am_S 93 33 36 (.getfield 16, 10, 1, 166, 0) := ⟨by decide +kernel, rfl⟩
theorem s93_36 : am_S 93 36 38 (.iload 5, 0, 0, 0, 0) := ⟨by decide +kernel, rfl⟩
theorem s93_38 : am_S 93 38 41 (.invokevirtual 104, 194, 1, 306, 0) := ⟨by decide +kernel, rfl⟩
theorem s93_41 : am_S 93 41 44 (.checkcast 116, 4, 0, 352, 0) := ⟨by decide +kernel, rfl⟩
theorem s93_44 : am_S 93 44 46 (.astore 6, 0, 0, 0, 0) := ⟨by decide +kernel, rfl⟩
theorem s93_46 : am_S 93 46 48 (.aload 6, 0, 0, 0, 0) := ⟨by decide +kernel, rfl⟩
theorem s93_48 : am_S 93 48 51 (.getfield 332, 4, 0, 359, 1) := ⟨by decide +kernel, rfl⟩
theorem s93_51 : am_S 93 51 52 (.iload_n 1, 0, 0, 0, 0) := ⟨by decide +kernel, rfl⟩
theorem s93_52 : am_S 93 52 55 (.if_icmp .ne 36, 0, 0, 0, 0) := ⟨by decide +kernel, rfl⟩
theorem s93_55 : am_S 93 55 57 (.aload 6, 0, 0, 0, 0) := ⟨by decide +kernel, rfl⟩
theorem s93_57 : am_S 93 57 60 (.getfield 333, 4, 3, 365, 1) := ⟨by decide +kernel, rfl⟩
theorem s93_60 : am_S 93 60 61 (.iload_n 3, 0, 0, 0, 0) := ⟨by decide +kernel, rfl⟩
theorem s93_61 : am_S 93 61 64 (.if_icmp .gt 27, 0, 0, 0, 0) := ⟨by decide +kernel, rfl⟩
theorem s93_64 : am_S 93 64 66 (.aload 6, 0, 0, 0, 0) := ⟨by decide +kernel, rfl⟩
theorem s93_66 : am_S 93 66 69 (.getfield 336, 4, 1, 361, 1) := ⟨by decide +kernel, rfl⟩
theorem s93_69 : am_S 93 69 70 (.iload_n 2, 0, 0, 0, 0) := ⟨by decide +kernel, rfl⟩
theorem s93_70 : am_S 93 70 73 (.if_icmp .ne 6, 0, 0, 0, 0) := ⟨by decide +kernel, rfl⟩
theorem s93_73 : am_S 93 73 74 (.iconst 0, 0, 0, 0, 0) := ⟨by decide +kernel, rfl⟩
theorem s93_74 : am_S 93 74 76 (.istore 4, 0, 0, 0, 0) := ⟨by decide +kernel, rfl⟩
theorem s93_76 : am_S 93 76 78 (.aload 6, 0, 0, 0, 0) := ⟨by decide +kernel, rfl⟩
theorem s93_78 : am_S 93 78 81 (.getfield 339, 4, 2, 363, 1) := ⟨by decide +kernel, rfl⟩
theorem s93_81 : am_S 93 81 82 (.iload_n 2, 0, 0, 0, 0) := ⟨by decide +kernel, rfl⟩
theorem s93_82 : am_S 93 82 85 (.if_icmp .ne 6, 0, 0, 0, 0) := ⟨by decide +kernel, rfl⟩
theorem s93_85 : am_S 93 85 86 (.iconst 1, 0, 0, 0, 0) := ⟨by decide +kernel, rfl⟩
theorem s93_86 : am_S 93 86 88 (.istore 4, 0, 0, 0, 0) := ⟨by decide +kernel, rfl⟩
theorem s93_88 : am_S 93 88 91 (.iinc 5 1, 0, 0, 0, 0) := ⟨by decide +kernel, rfl⟩
theorem s93_91 : am_S 93 91 94 (.goto (-71), 0, 0, 0, 0) := ⟨by decide +kernel, rfl⟩
theorem s93_94 : am_S 93 94 96 (.iload 4, 0, 0, 0, 0) := ⟨by decide +kernel, rfl⟩
theorem s93_96 : am_S 93 96 97 (.ireturn, 0, 0, 0, 0) := ⟨by decide +kernel, rfl⟩
theorem s94_0 : am_S 94 0 1 (.aload_n 1, 0, 0, 0, 0) := ⟨by decide +kernel, rfl⟩
theorem s94_1 : am_S 94 1 4 (.getfield 196, 5, 1, 517, 1) := ⟨by decide +kernel, rfl⟩
theorem s94_4 : am_S 94 4 5 (.aload_n 0, 0, 0, 0, 0) := ⟨by decide +kernel, rfl⟩
theorem s94_5 : am_S 94 5 8 (.getfield 52, 10, 9, 174, 0) := ⟨by decide +kernel, rfl⟩
theorem s94_8 : am_S 94 8 9 (.aload_n 1, 0, 0, 0, 0) := ⟨by decide +kernel, rfl⟩
theorem s94_9 : am_S 94 9 12 (.getfield 193, 5, 0, 515, 1) := ⟨by decide +kernel, rfl⟩
theorem s94_12 : am_S 94 12 13 (.iaload, 0, 0, 0, 0) := ⟨by decide +kernel, rfl⟩
theorem s94_13 : am_S 94 13 14 (.imul, 0, 0, 0, 0) := ⟨by decide +kernel, rfl⟩
theorem s94_14 : am_S 94 14 15 (.aload_n 1, 0, 0, 0, 0) := ⟨by decide +kernel, rfl⟩
theorem s94_15 : am_S 94 15 18 (.getfield 199, 5, 2, 519, 1) := ⟨by decide +kernel, rfl⟩
theorem s94_18 : am_S 94 18 21 (.invokestatic 342, 185, 1, 584, 0) := ⟨by decide +kernel, rfl⟩
theorem s94_21 : am_S 94 21 22 (.imul, 0, 0, 0, 0) := ⟨by decide +kernel, rfl⟩
theorem s94_22 : am_S 94 22 23 (.aload_n 1, 0, 0, 0, 0) := ⟨by decide +kernel, rfl⟩
theorem s94_23 : am_S 94 23 26 (.getfield 201, 5, 3, 521, 1) := ⟨by decide +kernel, rfl⟩
theorem s94_26 : am_S 94 26 27 (.imul, 0, 0, 0, 0) := ⟨by decide +kernel, rfl⟩
theorem s94_27 : am_S 94 27 28 (.ireturn, 0, 0, 0, 0) := ⟨by decide +kernel, rfl⟩
theorem s95_0 : am_S 95 0 1 (.aload_n 1, 0, 0, 0, 0) := ⟨by decide +kernel, rfl⟩
theorem s95_1 : am_S 95 1 4 (.getfield 110, 2, 1, 621, 1) := ⟨by decide +kernel, rfl⟩
theorem s95_4 : am_S 95 4 5 (.aload_n 0, 0, 0, 0, 0) := ⟨by decide +kernel, rfl⟩
theorem s95_5 : am_S 95 5 6 (.aload_n 1, 0, 0, 0, 0) := ⟨by decide +kernel, rfl⟩
theorem s95_6 : am_S 95 6 9 (.getfield 294, 2, 0, 619, 1) := ⟨by decide +kernel, rfl⟩
theorem s95_9 : am_S 95 9 10 (.iload_n 2, 0, 0, 0, 0) := ⟨by decide +kernel, rfl⟩
theorem s95_10 : am_S 95 10 13 (.invokevirtual 96, 100, 2, 302, 0) := ⟨by decide +kernel, rfl⟩
theorem s95_13 : am_S 95 13 14 (.iadd, 0, 0, 0, 0) := ⟨by decide +kernel, rfl⟩
theorem s95_14 : am_S 95 14 15 (.ireturn, 0, 0, 0, 0) := ⟨by decide +kernel, rfl⟩
theorem s96_0 : am_S 96 0 1 (.iconst 0, 0, 0, 0, 0) := ⟨by decide +kernel, rfl⟩
theorem s96_1 : am_S 96 1 3 (.istore 4, 0, 0, 0, 0) := ⟨by decide +kernel, rfl⟩
theorem s96_3 : am_S 96 3 5 (.iload 4, 0, 0, 0, 0) := ⟨by decide +kernel, rfl⟩
theorem s96_5 : am_S 96 5 6 (.aload_n 0, 0, 0, 0, 0) := ⟨by decide +kernel, rfl⟩
theorem s96_6 : am_S 96 6 9 (.getfield 25, 10, 4, 169, 0) := ⟨by decide +kernel, rfl⟩
theorem s96_9 : am_S 96 9 12 (.invokevirtual 79, 191, 0, 215, 0) := ⟨by decide +kernel, rfl⟩
theorem s96_12 : am_S 96 12 15 (.if_icmp .ge 73, 0, 0, 0, 0) := ⟨by decide +kernel, rfl⟩
theorem s96_15 : am_S 96 15 16 (.aload_n 0, 0, 0, 0, 0) := ⟨by decide +kernel, rfl⟩
theorem s96_16 : am_S 96 16 19 (.getfield 25, 10, 4, 169, 0) := ⟨by decide +kernel, rfl⟩
theorem s96_19 : am_S 96 19 21 (.iload 4, 0, 0, 0, 0) := ⟨by decide +kernel, rfl⟩
theorem s96_21 : am_S 96 21 24 (.invokevirtual 104, 194, 1, 306, 0) := ⟨by decide +kernel, rfl⟩
theorem s96_24 : am_S 96 24 27 (.checkcast 253, 3, 0, 339, 0) := ⟨by decide +kernel, rfl⟩
theorem s96_27 : am_S 96 27 29 (.astore 5, 0, 0, 0, 0) := ⟨by decide +kernel, rfl⟩
theorem s96_29 : am_S 96 29 31 (.aload 5, 0, 0, 0, 0) := ⟨by decide +kernel, rfl⟩
theorem s96_31 : am_S 96 31 34 (.getfield 276, 3, 3, 676, 1) := ⟨by decide +kernel, rfl⟩
theorem s96_34 : am_S 96 34 35 (.aload_n 0, 0, 0, 0, 0) := ⟨by decide +kernel, rfl⟩
theorem s96_35 : am_S 96 35 38 (.getfield 69, 10, 12, 177, 0) := ⟨by decide +kernel, rfl⟩
theorem s96_38 : am_S 96 38 41 (.if_icmp .ne 41, 0, 0, 0, 0) := ⟨by decide +kernel, rfl⟩
theorem s96_41 : am_S 96 41 43 (.aload 5, 0, 0, 0, 0) := ⟨by decide +kernel, rfl⟩
theorem s96_43 : am_S 96 43 46 (.getfield 270, 3, 1, 672, 1) := ⟨by decide +kernel, rfl⟩
theorem s96_46 : am_S 96 46 47 (.iload_n 1, 0, 0, 0, 0) := ⟨by decide +kernel, rfl⟩
theorem s96_47 : am_S 96 47 50 (.if_icmp .eq 32, 0, 0, 0, 0) := ⟨by decide +kernel, rfl⟩
theorem s96_50 : am_S 96 50 52 (.aload 5, 0, 0, 0, 0) := ⟨by decide +kernel, rfl⟩
theorem s96_52 : am_S 96 52 55 (.getfield 277, 3, 4, 678, 1) := ⟨by decide +kernel, rfl⟩
theorem s96_55 : am_S 96 55 56 (.iload_n 3, 0, 0, 0, 0) := ⟨by decide +kernel, rfl⟩
theorem s96_56 : am_S 96 56 57 (.isub, 0, 0, 0, 0) := ⟨by decide +kernel, rfl⟩
theorem s96_57 : am_S 96 57 60 (.invokestatic 347, 4, 0, 650, 0) := ⟨by decide +kernel, rfl⟩
theorem s96_60 : am_S 96 60 61 (.iconst 5, 0, 0, 0, 0) := ⟨by decide +kernel, rfl⟩
theorem s96_61 : am_S 96 61 64 (.if_icmp .ge 18, 0, 0, 0, 0) := ⟨by decide +kernel, rfl⟩
theorem s96_64 : am_S 96 64 65 (.aload_n 0, 0, 0, 0, 0) := ⟨by decide +kernel, rfl⟩
theorem s96_65 : am_S 96 65 67 (.aload 5, 0, 0, 0, 0) := ⟨by decide +kernel, rfl⟩
theorem s96_67 : am_S 96 67 70 (.getfield 273, 3, 2, 674, 1) := ⟨by decide +kernel, rfl⟩
theorem s96_70 : am_S 96 70 71 (.iload_n 2, 0, 0, 0, 0) := ⟨by decide +kernel, rfl⟩
theorem s96_71 : am_S 96 71 74 (.invokevirtual 352, 101, 2, 651, 0) := ⟨by decide +kernel, rfl⟩
theorem s96_74 : am_S 96 74 77 (.ifCond .eq 5, 0, 0, 0, 0) := ⟨by decide +kernel, rfl⟩
theorem s96_77 : am_S 96 77 78 (.iconst 1, 0, 0, 0, 0) := ⟨by decide +kernel, rfl⟩
theorem s96_78 : am_S 96 78 79 (.ireturn, 0, 0, 0, 0) := ⟨by decide +kernel, rfl⟩
theorem s96_79 : am_S 96 79 82 (.iinc 4 1, 0, 0, 0, 0) := ⟨by decide +kernel, rfl⟩
theorem s96_82 : am_S 96 82 85 (.goto (-79), 0, 0, 0, 0) := ⟨by decide +kernel, rfl⟩
theorem s96_85 : am_S 96 85 86 (.iconst 0, 0, 0, 0, 0) := ⟨by decide +kernel, rfl⟩
theorem s96_86 : am_S 96 86 87 (.ireturn, 0, 0, 0, 0) := ⟨by decide +kernel, rfl⟩
theorem s97_0 : am_S 97 0 1 (.aload_n 1, 0, 0, 0, 0) := ⟨by decide +kernel, rfl⟩
theorem s97_1 : am_S 97 1 2 (.iload_n 2, 0, 0, 0, 0) := ⟨by decide +kernel, rfl⟩
theorem s97_2 : am_S 97 2 5 (.invokevirtual 355, 21, 1, 659, 0) := ⟨by decide +kernel, rfl⟩
theorem s97_5 : am_S 97 5 8 (.ifCond .eq 54, 0, 0, 0, 0) := ⟨by decide +kernel, rfl⟩
theorem s97_8 : am_S 97 8 9 (.aload_n 1, 0, 0, 0, 0) := ⟨by decide +kernel, rfl⟩
theorem s97_9 : am_S 97 9 12 (.getfield 207, 5, 8, 531, 1) := ⟨by decide +kernel, rfl⟩
theorem s97_12 : am_S 97 12 15 (.ifCond .ne 47, 0, 0, 0, 0) := ⟨by decide +kernel, rfl⟩
theorem s97_15 : am_S 97 15 16 (.aload_n 1, 0, 0, 0, 0) := ⟨by decide +kernel, rfl⟩
theorem s97_16 : am_S 97 16 19 (.getfield 358, 5, 7, 529, 1) := ⟨by decide +kernel, rfl⟩
theorem s97_19 : am_S 97 19 20 (.iload_n 2, 0, 0, 0, 0) := ⟨by decide +kernel, rfl⟩
theorem s97_20 : am_S 97 20 21 (.iaload, 0, 0, 0, 0) := ⟨by decide +kernel, rfl⟩
theorem s97_21 : am_S 97 21 22 (.aload_n 0, 0, 0, 0, 0) := ⟨by decide +kernel, rfl⟩
theorem s97_22 : am_S 97 22 25 (.getfield 69, 10, 12, 177, 0) := ⟨by decide +kernel, rfl⟩
theorem s97_25 : am_S 97 25 28 (.if_icmp .eq 34, 0, 0, 0, 0) := ⟨by decide +kernel, rfl⟩
theorem s97_28 : am_S 97 28 29 (.aload_n 1, 0, 0, 0, 0) := ⟨by decide +kernel, rfl⟩
theorem s97_29 : am_S 97 29 32 (.getfield 193, 5, 0, 515, 1) := ⟨by decide +kernel, rfl⟩
theorem s97_32 : am_S 97 32 33 (.iconst 1, 0, 0, 0, 0) := ⟨by decide +kernel, rfl⟩
theorem s97_33 : am_S 97 33 36 (.invokestatic 182, 97, 2, 504, 0) := ⟨by decide +kernel, rfl⟩
theorem s97_36 : am_S 97 36 39 (.ifCond .eq 19, 0, 0, 0, 0) := ⟨by decide +kernel, rfl⟩
theorem s97_39 : am_S 97 39 40 (.aload_n 0, 0, 0, 0, 0) := ⟨by decide +kernel, rfl⟩
theorem s97_40 : am_S 97 40 41 (.iload_n 2, 0, 0, 0, 0) := ⟨by decide +kernel, rfl⟩
theorem s97_41 : am_S 97 41 42 (.aload_n 0, 0, 0, 0, 0) := ⟨by decide +kernel, rfl⟩
theorem s97_42 : am_S 97 42 45 (.getfield 69, 10, 12, 177, 0) := ⟨by decide +kernel, rfl⟩
theorem s97_45 : am_S 97 45 46 (.aload_n 0, 0, 0, 0, 0) := ⟨by decide +kernel, rfl⟩
theorem s97_46 : am_S 97 46 49 (.getfield 69, 10, 12, 177, 0) := ⟨by decide +kernel, rfl⟩
theorem s97_49 : am_S 97 49 52 (.invokevirtual 121, 103, 3, 379, 0) := ⟨by decide +kernel, rfl⟩
theorem s97_52 : am_S 97 52 55 (.ifCond .eq 7, 0, 0, 0, 0) := ⟨by decide +kernel, rfl⟩
theorem s97_55 : am_S 97 55 56 (.iconst 1, 0, 0, 0, 0) := ⟨by decide +kernel, rfl⟩
theorem s97_56 : am_S 97 56 59 (.goto 4, 0, 0, 0, 0) := ⟨by decide +kernel, rfl⟩
theorem s97_59 : am_S 97 59 60 (.iconst 0, 0, 0, 0, 0) := ⟨by decide +kernel, rfl⟩
theorem s97_60 : am_S 97 60 61 (.ireturn, 0, 0, 0, 0) := ⟨by decide +kernel, rfl⟩
theorem s98_0 : am_S 98 0 1 (.iconst 0, 0, 0, 0, 0) := ⟨by decide +kernel, rfl⟩
theorem s98_1 : am_S 98 1 2 (.istore_n 3, 0, 0, 0, 0) := ⟨by decide +kernel, rfl⟩
theorem s98_2 : am_S 98 2 3 (.iconst 0, 0, 0, 0, 0) := ⟨by decide +kernel, rfl⟩
theorem s98_3 : am_S 98 3 5 (.istore 4, 0, 0, 0, 0) := ⟨by decide +kernel, rfl⟩
theorem s98_5 : am_S 98 5 7 (.iload 4, 0, 0, 0, 0) := ⟨by decide +kernel, rfl⟩
theorem s98_7 : am_S 98 7 8 (.aload_n 0, 0, 0, 0, 0) := ⟨by decide +kernel, rfl⟩
theorem s98_8 : am_S 98 8 11 (.getfield 25, 10, 4, 169, 0) := ⟨by decide +kernel, rfl⟩
theorem s98_11 : am_S 98 11 14 (.invokevirtual 79, 191, 0, 215, 0) := ⟨by decide +kernel, rfl⟩
theorem s98_14 : am_S 98 14 17 (.if_icmp .ge 53, 0, 0, 0, 0) := ⟨by decide +kernel, rfl⟩
theorem s98_17 : am_S 98 17 18 (.aload_n 0, 0, 0, 0, 0) := ⟨by decide +kernel, rfl⟩
theorem s98_18 : am_S 98 18 21 (.getfield 25, 10, 4, 169, 0) := ⟨by decide +kernel, rfl⟩
theorem s98_21 : am_S 98 21 23 (.iload 4, 0, 0, 0, 0) := ⟨by decide +kernel, rfl⟩
theorem s98_23 : am_S 98 23 26 (.invokevirtual 104, 194, 1, 306, 0) := ⟨by decide +kernel, rfl⟩
theorem s98_26 : am_S 98 26 29 (.checkcast 253, 3, 0, 339, 0) := ⟨by decide +kernel, rfl⟩
theorem s98_29 : am_S 98 29 31 (.astore 5, 0, 0, 0, 0) := ⟨by decide +kernel, rfl⟩
theorem s98_31 : am_S 98 31 33 (.aload 5, 0, 0, 0, 0) := ⟨by decide +kernel, rfl⟩
theorem s98_33 : am_S 98 33 36 (.getfield 267, 3, 0, 670, 1) := ⟨by decide +kernel, rfl⟩
theorem s98_36 : am_S 98 36 37 (.iload_n 2, 0, 0, 0, 0) := ⟨by decide +kernel, rfl⟩
theorem s98_37 : am_S 98 37 40 (.if_icmp .ne 24, 0, 0, 0, 0) := ⟨by decide +kernel, rfl⟩
theorem s98_40 : am_S 98 40 42 (.aload 5, 0, 0, 0, 0) := ⟨by decide +kernel, rfl⟩
theorem s98_42 : am_S 98 42 45 (.getfield 280, 3, 5, 680, 1) := ⟨by decide +kernel, rfl⟩
theorem s98_45 : am_S 98 45 48 (.ifCond .eq 16, 0, 0, 0, 0) := ⟨by decide +kernel, rfl⟩
theorem s98_48 : am_S 98 48 49 (.aload_n 0, 0, 0, 0, 0) := ⟨by decide +kernel, rfl⟩
theorem s98_49 : am_S 98 49 50 (.iload_n 1, 0, 0, 0, 0) := ⟨by decide +kernel, rfl⟩
theorem s98_50 : am_S 98 50 52 (.aload 5, 0, 0, 0, 0) := ⟨by decide +kernel, rfl⟩
theorem s98_52 : am_S 98 52 55 (.invokevirtual 361, 109, 2, 760, 0) := ⟨by decide +kernel, rfl⟩
theorem s98_55 : am_S 98 55 58 (.ifCond .eq 6, 0, 0, 0, 0) := ⟨by decide +kernel, rfl⟩
theorem s98_58 : am_S 98 58 61 (.iinc 3 1, 0, 0, 0, 0) := ⟨by decide +kernel, rfl⟩
theorem s98_61 : am_S 98 61 64 (.iinc 4 1, 0, 0, 0, 0) := ⟨by decide +kernel, rfl⟩
theorem s98_64 : am_S 98 64 67 (.goto (-59), 0, 0, 0, 0) := ⟨by decide +kernel, rfl⟩
theorem s98_67 : am_S 98 67 68 (.iload_n 3, 0, 0, 0, 0) := ⟨by decide +kernel, rfl⟩
theorem s98_68 : am_S 98 68 69 (.ireturn, 0, 0, 0, 0) := ⟨by decide +kernel, rfl⟩
theorem s99_0 : am_S 99 0 1 (.iconst 0, 0, 0, 0, 0) := ⟨by decide +kernel, rfl⟩
theorem s99_1 : am_S 99 1 2 (.istore_n 3, 0, 0, 0, 0) := ⟨by decide +kernel, rfl⟩
theorem s99_2 : am_S 99 2 3 (.iload_n 3, 0, 0, 0, 0) := ⟨by decide +kernel, rfl⟩
theorem s99_3 : am_S 99 3 4 (.aload_n 0, 0, 0, 0, 0) := ⟨by decide +kernel, rfl⟩
theorem s99_4 : am_S 99 4 7 (.getfield 28, 10, 5, 170, 0) := ⟨by decide +kernel, rfl⟩
theorem s99_7 : am_S 99 7 10 (.invokevirtual 79, 191, 0, 215, 0) := ⟨by decide +kernel, rfl⟩
theorem s99_10 : am_S 99 10 13 (.if_icmp .ge 81, 0, 0, 0, 0) := ⟨by decide +kernel, rfl⟩
theorem s99_13 : am_S 99 13 14 (.aload_n 0, 0, 0, 0, 0) := ⟨by decide +kernel, rfl⟩
theorem s99_14 : am_S 99 14 17 (.getfield 28, 10, 5, 170, 0) := ⟨by decide +kernel, rfl⟩
theorem s99_17 : am_S 99 17 18 (.iload_n 3, 0, 0, 0, 0) := ⟨by decide +kernel, rfl⟩
theorem s99_18 : am_S 99 18 21 (.invokevirtual 104, 194, 1, 306, 0) := ⟨by decide +kernel, rfl⟩
theorem s99_21 : am_S 99 21 24 (.checkcast 286, 9, 0, 725, 0) := ⟨by decide +kernel, rfl⟩
theorem s99_24 : am_S 99 24 26 (.astore 4, 0, 0, 0, 0) := ⟨by decide +kernel, rfl⟩
theorem s99_26 : am_S 99 26 28 (.aload 4, 0, 0, 0, 0) := ⟨by decide +kernel, rfl⟩
theorem s99_28 : am_S 99 28 31 (.getfield 365, 9, 0, 732, 1) := ⟨by decide +kernel, rfl⟩
theorem s99_31 : am_S 99 31 32 (.iload_n 1, 0, 0, 0, 0) := ⟨by decide +kernel, rfl⟩
theorem s99_32 : am_S 99 32 35 (.if_icmp .ne 53, 0, 0, 0, 0) := ⟨by decide +kernel, rfl⟩
theorem s99_35 : am_S 99 35 37 (.aload 4, 0, 0, 0, 0) := ⟨by decide +kernel, rfl⟩
theorem s99_37 : am_S 99 37 40 (.getfield 368, 9, 2, 736, 1) := ⟨by decide +kernel, rfl⟩
theorem s99_40 : am_S 99 40 41 (.aload_n 2, 0, 0, 0, 0) := ⟨by decide +kernel, rfl⟩
theorem s99_41 : am_S 99 41 44 (.getfield 276, 3, 3, 676, 1) := ⟨by decide +kernel, rfl⟩
theorem s99_44 : am_S 99 44 47 (.if_icmp .ne 41, 0, 0, 0, 0) := ⟨by decide +kernel, rfl⟩
theorem s99_47 : am_S 99 47 48 (.aload_n 2, 0, 0, 0, 0) := ⟨by decide +kernel, rfl⟩
theorem s99_48 : am_S 99 48 51 (.getfield 277, 3, 4, 678, 1) := ⟨by decide +kernel, rfl⟩
theorem s99_51 : am_S 99 51 53 (.aload 4, 0, 0, 0, 0) := ⟨by decide +kernel, rfl⟩
theorem s99_53 : am_S 99 53 56 (.getfield 369, 9, 3, 738, 1) := ⟨by decide +kernel, rfl⟩
theorem s99_56 : am_S 99 56 58 (.aload 4, 0, 0, 0, 0) := ⟨by decide +kernel, rfl⟩
theorem s99_58 : am_S 99 58 61 (.getfield 370, 9, 4, 740, 1) := ⟨by decide +kernel, rfl⟩
theorem s99_61 : am_S 99 61 64 (.invokestatic 75, 87, 3, 212, 0) := ⟨by decide +kernel, rfl⟩
theorem s99_64 : am_S 99 64 67 (.ifCond .eq 21, 0, 0, 0, 0) := ⟨by decide +kernel, rfl⟩
theorem s99_67 : am_S 99 67 68 (.aload_n 0, 0, 0, 0, 0) := ⟨by decide +kernel, rfl⟩
theorem s99_68 : am_S 99 68 70 (.aload 4, 0, 0, 0, 0) := ⟨by decide +kernel, rfl⟩
theorem s99_70 : am_S 99 70 73 (.getfield 371, 9, 1, 734, 1) := ⟨by decide +kernel, rfl⟩
theorem s99_73 : am_S 99 73 74 (.aload_n 2, 0, 0, 0, 0) := ⟨by decide +kernel, rfl⟩
theorem s99_74 : am_S 99 74 77 (.getfield 273, 3, 2, 674, 1) := ⟨by decide +kernel, rfl⟩
theorem s99_77 : am_S 99 77 80 (.invokevirtual 352, 101, 2, 651, 0) := ⟨by decide +kernel, rfl⟩
theorem s99_80 : am_S 99 80 83 (.ifCond .eq 5, 0, 0, 0, 0) := ⟨by decide +kernel, rfl⟩
theorem s99_83 : am_S 99 83 84 (.iconst 1, 0, 0, 0, 0) := ⟨by decide +kernel, rfl⟩
theorem s99_84 : am_S 99 84 85 (.ireturn, 0, 0, 0, 0) := ⟨by decide +kernel, rfl⟩
theorem s99_85 : am_S 99 85 88 (.iinc 3 1, 0, 0, 0, 0) := ⟨by decide +kernel, rfl⟩
theorem s99_88 : am_S 99 88 91 (.goto (-86), 0, 0, 0, 0) := ⟨by decide +kernel, rfl⟩
theorem s99_91 : am_S 99 91 92 (.iconst 0, 0, 0, 0, 0) := ⟨by decide +kernel, rfl⟩
theorem s99_92 : am_S 99 92 93 (.ireturn, 0, 0, 0, 0) := ⟨by decide +kernel, rfl⟩
theorem s100_0 : am_S 100 0 1 (.aload_n 0, 0, 0, 0, 0) := ⟨by decide +kernel, rfl⟩
theorem s100_1 : am_S 100 1 4 (.getfield 193, 5, 0, 515, 1) := ⟨by decide +kernel, rfl⟩
theorem s100_4 : am_S 100 4 5 (.iconst 4, 0, 0, 0, 0) := ⟨by decide +kernel, rfl⟩
theorem s100_5 : am_S 100 5 8 (.if_icmp .ne 45, 0, 0, 0, 0) := ⟨by decide +kernel, rfl⟩
theorem s100_8 : am_S 100 8 9 (.aload_n 1, 0, 0, 0, 0) := ⟨by decide +kernel, rfl⟩
theorem s100_9 : am_S 100 9 12 (.getfield 193, 5, 0, 515, 1) := ⟨by decide +kernel, rfl⟩
theorem s100_12 : am_S 100 12 13 (.iconst 5, 0, 0, 0, 0) := ⟨by decide +kernel, rfl⟩
theorem s100_13 : am_S 100 13 16 (.if_icmp .ne 37, 0, 0, 0, 0) := ⟨by decide +kernel, rfl⟩
theorem s100_16 : am_S 100 16 17 (.aload_n 0, 0, 0, 0, 0) := ⟨by decide +kernel, rfl⟩
theorem s100_17 : am_S 100 17 20 (.getfield 207, 5, 8, 531, 1) := ⟨by decide +kernel, rfl⟩
theorem s100_20 : am_S 100 20 23 (.ifCond .ne 30, 0, 0, 0, 0) := ⟨by decide +kernel, rfl⟩
theorem s100_23 : am_S 100 23 24 (.aload_n 1, 0, 0, 0, 0) := ⟨by decide +kernel, rfl⟩
theorem s100_24 : am_S 100 24 27 (.getfield 207, 5, 8, 531, 1) := ⟨by decide +kernel, rfl⟩
theorem s100_27 : am_S 100 27 30 (.ifCond .ne 23, 0, 0, 0, 0) := ⟨by decide +kernel, rfl⟩
theorem s100_30 : am_S 100 30 31 (.aload_n 0, 0, 0, 0, 0) := ⟨by decide +kernel, rfl⟩
theorem s100_31 : am_S 100 31 34 (.getfield 224, 5, 4, 523, 1) := ⟨by decide +kernel, rfl⟩
theorem s100_34 : am_S 100 34 35 (.aload_n 1, 0, 0, 0, 0) := ⟨by decide +kernel, rfl⟩
theorem s100_35 : am_S 100 35 38 (.getfield 224, 5, 4, 523, 1) := ⟨by decide +kernel, rfl⟩
theorem s100_38 : am_S 100 38 39 (.iand, 0, 0, 0, 0) := ⟨by decide +kernel, rfl⟩
theorem s100_39 : am_S 100 39 42 (.invokestatic 342, 185, 1, 584, 0) := ⟨by decide +kernel, rfl⟩
theorem s100_42 : am_S 100 42 43 (.iload_n 2, 0, 0, 0, 0) := ⟨by decide +kernel, rfl⟩
theorem s100_43 : am_S 100 43 46 (.if_icmp .lt 7, 0, 0, 0, 0) := ⟨by decide +kernel, rfl⟩
theorem s100_46 : am_S 100 46 47 (.iconst 1, 0, 0, 0, 0) := ⟨by decide +kernel, rfl⟩
theorem s100_47 : am_S 100 47 50 (.goto 4, 0, 0, 0, 0) := ⟨by decide +kernel, rfl⟩
theorem s100_50 : am_S 100 50 51 (.iconst 0, 0, 0, 0, 0) := ⟨by decide +kernel, rfl⟩
theorem s100_51 : am_S 100 51 52 (.ireturn, 0, 0, 0, 0) := ⟨by decide +kernel, rfl⟩
theorem s101_0 : am_S 101 0 1 (.iconst 0, 0, 0, 0, 0) := ⟨by decide +kernel, rfl⟩
theorem s101_1 : am_S 101 1 2 (.istore_n 2, 0, 0, 0, 0) := ⟨by decide +kernel, rfl⟩
theorem s101_2 : am_S 101 2 3 (.iconst 0, 0, 0, 0, 0) := ⟨by decide +kernel, rfl⟩
theorem s101_3 : am_S 101 3 4 (.istore_n 3, 0, 0, 0, 0) := ⟨by decide +kernel, rfl⟩
theorem s101_4 : am_S 101 4 5 (.iload_n 3, 0, 0, 0, 0) := ⟨by decide +kernel, rfl⟩
theorem s101_5 : am_S 101 5 6 (.aload_n 0, 0, 0, 0, 0) := ⟨by decide +kernel, rfl⟩
theorem s101_6 : am_S 101 6 9 (.getfield 19, 10, 2, 167, 0) := ⟨by decide +kernel, rfl⟩
theorem s101_9 : am_S 101 9 12 (.invokevirtual 79, 191, 0, 215, 0) := ⟨by decide +kernel, rfl⟩
theorem s101_12 : am_S 101 12 15 (.if_icmp .ge 31, 0, 0, 0, 0) := ⟨by decide +kernel, rfl⟩
theorem s101_15 : am_S 101 15 16 (.aload_n 0, 0, 0, 0, 0) := ⟨by decide +kernel, rfl⟩
theorem s101_16 : am_S 101 16 19 (.getfield 19, 10, 2, 167, 0) := ⟨by decide +kernel, rfl⟩
theorem s101_19 : am_S 101 19 20 (.iload_n 3, 0, 0, 0, 0) := ⟨by decide +kernel, rfl⟩
theorem s101_20 : am_S 101 20 23 (.invokevirtual 104, 194, 1, 306, 0) := ⟨by decide +kernel, rfl⟩
theorem s101_23 : am_S 101 23 26 (.checkcast 185, 5, 0, 507, 0) := ⟨by decide +kernel, rfl⟩
theorem s101_26 : am_S 101 26 27 (.aload_n 1, 0, 0, 0, 0) := ⟨by decide +kernel, rfl⟩
theorem s101_27 : am_S 101 27 28 (.iconst 1, 0, 0, 0, 0) := ⟨by decide +kernel, rfl⟩
theorem s101_28 : am_S 101 28 31 (.invokestatic 302, 110, 3, 594, 0) := ⟨by decide +kernel, rfl⟩
theorem s101_31 : am_S 101 31 34 (.ifCond .eq 6, 0, 0, 0, 0) := ⟨by decide +kernel, rfl⟩
theorem s101_34 : am_S 101 34 37 (.iinc 2 1, 0, 0, 0, 0) := ⟨by decide +kernel, rfl⟩
theorem s101_37 : am_S 101 37 40 (.iinc 3 1, 0, 0, 0, 0) := ⟨by decide +kernel, rfl⟩
theorem s101_40 : am_S 101 40 43 (.goto (-36), 0, 0, 0, 0) := ⟨by decide +kernel, rfl⟩
theorem s101_43 : am_S 101 43 44 (.iload_n 2, 0, 0, 0, 0) := ⟨by decide +kernel, rfl⟩
theorem s101_44 : am_S 101 44 45 (.ireturn, 0, 0, 0, 0) := ⟨by decide +kernel, rfl⟩
theorem rk0 : am_rk 0 = 4 := by decide +kernel
theorem ow0 : am_own 0 = 1 := by decide +kernel
theorem ro0 : am_roomy 0 8 = true := by decide +kernel
theorem rk1 : am_rk 1 = 4 := by decide +kernel
theorem ow1 : am_own 1 = 1 := by decide +kernel
theorem mc1_3 : am_mc 1 3 5 = true := by decide +kernel
theorem mc1_28 : am_mc 1 28 2 = true := by decide +kernel
theorem mc1_29 : am_mc 1 29 3 = true := by decide +kernel
theorem rk2 : am_rk 2 = 0 := by decide +kernel
theorem ow2 : am_own 2 = 1 := by decide +kernel
theorem mc2_4 : am_mc 2 4 5 = true := by decide +kernel
theorem mc2_28 : am_mc 2 28 2 = true := by decide +kernel
theorem mc2_29 : am_mc 2 29 3 = true := by decide +kernel
theorem rk3 : am_rk 3 = 4 := by decide +kernel
theorem ow3 : am_own 3 = 1 := by decide +kernel
theorem mc3_34 : am_mc 3 34 1 = true := by decide +kernel
theorem rk4 : am_rk 4 = 1 := by decide +kernel
theorem ow4 : am_own 4 = 1 := by decide +kernel
theorem mc4_5 : am_mc 4 5 5 = true := by decide +kernel
theorem rk5 : am_rk 5 = 1 := by decide +kernel
theorem ow5 : am_own 5 = 1 := by decide +kernel
theorem mc5_34 : am_mc 5 34 1 = true := by decide +kernel
theorem rk6 : am_rk 6 = 4 := by decide +kernel
theorem ow6 : am_own 6 = 2 := by decide +kernel
theorem ro6 : am_roomy 6 8 = true := by decide +kernel
theorem rk7 : am_rk 7 = 4 := by decide +kernel
theorem ow7 : am_own 7 = 2 := by decide +kernel
theorem rk8 : am_rk 8 = 4 := by decide +kernel
theorem ow8 : am_own 8 = 3 := by decide +kernel
theorem ro8 : am_roomy 8 8 = true := by decide +kernel
theorem rk9 : am_rk 9 = 4 := by decide +kernel
theorem ow9 : am_own 9 = 4 := by decide +kernel
theorem ro9 : am_roomy 9 8 = true := by decide +kernel
theorem rk10 : am_rk 10 = 4 := by decide +kernel
theorem ow10 : am_own 10 = 5 := by decide +kernel
theorem ro10 : am_roomy 10 8 = true := by decide +kernel
theorem mc10_187 : am_mc 10 187 4 = true := by decide +kernel
theorem rk11 : am_rk 11 = 1 := by decide +kernel
theorem ow11 : am_own 11 = 5 := by decide +kernel
theorem rk12 : am_rk 12 = 0 := by decide +kernel
theorem ow12 : am_own 12 = 5 := by decide +kernel
theorem mc12_11 : am_mc 12 11 2 = true := by decide +kernel
theorem rk13 : am_rk 13 = 1 := by decide +kernel
theorem ow13 : am_own 13 = 5 := by decide +kernel
theorem mc13_12 : am_mc 13 12 3 = true := by decide +kernel
theorem rk14 : am_rk 14 = 0 := by decide +kernel
theorem ow14 : am_own 14 = 5 := by decide +kernel
theorem rk15 : am_rk 15 = 0 := by decide +kernel
theorem ow15 : am_own 15 = 5 := by decide +kernel
theorem rk16 : am_rk 16 = 4 := by decide +kernel
theorem ow16 : am_own 16 = 5 := by decide +kernel
theorem rk17 : am_rk 17 = 4 := by decide +kernel
theorem ow17 : am_own 17 = 6 := by decide +kernel
theorem ro17 : am_roomy 17 8 = true := by decide +kernel
theorem rk18 : am_rk 18 = 0 := by decide +kernel
theorem ow18 : am_own 18 = 6 := by decide +kernel
theorem rk19 : am_rk 19 = 0 := by decide +kernel
theorem ow19 : am_own 19 = 6 := by decide +kernel
theorem mc19_20 : am_mc 19 20 5 = true := by decide +kernel
theorem mc19_21 : am_mc 19 21 8 = true := by decide +kernel
theorem mc19_36 : am_mc 19 36 2 = true := by decide +kernel
theorem mc19_175 : am_mc 19 175 1 = true := by decide +kernel
theorem mc19_181 : am_mc 19 181 1 = true := by decide +kernel
theorem mc19_184 : am_mc 19 184 2 = true := by decide +kernel
theorem rk20 : am_rk 20 = 4 := by decide +kernel
theorem ow20 : am_own 20 = 6 := by decide +kernel
theorem mc20_21 : am_mc 20 21 8 = true := by decide +kernel
theorem mc20_22 : am_mc 20 22 5 = true := by decide +kernel
theorem mc20_181 : am_mc 20 181 1 = true := by decide +kernel
theorem rk21 : am_rk 21 = 0 := by decide +kernel
theorem ow21 : am_own 21 = 6 := by decide +kernel
theorem mc21_22 : am_mc 21 22 5 = true := by decide +kernel
theorem rk22 : am_rk 22 = 0 := by decide +kernel
theorem ow22 : am_own 22 = 6 := by decide +kernel
theorem mc22_36 : am_mc 22 36 2 = true := by decide +kernel
theorem mc22_184 : am_mc 22 184 2 = true := by decide +kernel
theorem rk23 : am_rk 23 = 4 := by decide +kernel
theorem ow23 : am_own 23 = 7 := by decide +kernel
theorem ro23 : am_roomy 23 8 = true := by decide +kernel
theorem rk24 : am_rk 24 = 1 := by decide +kernel
theorem ow24 : am_own 24 = 7 := by decide +kernel
theorem rk25 : am_rk 25 = 4 := by decide +kernel
theorem ow25 : am_own 25 = 7 := by decide +kernel
theorem rk26 : am_rk 26 = 4 := by decide +kernel
theorem ow26 : am_own 26 = 7 := by decide +kernel
theorem mc26_188 : am_mc 26 188 4 = true := by decide +kernel
theorem rk27 : am_rk 27 = 1 := by decide +kernel
theorem ow27 : am_own 27 = 7 := by decide +kernel
theorem rk28 : am_rk 28 = 1 := by decide +kernel
theorem ow28 : am_own 28 = 7 := by decide +kernel
theorem mc28_33 : am_mc 28 33 1 = true := by decide +kernel
theorem rk29 : am_rk 29 = 0 := by decide +kernel
theorem ow29 : am_own 29 = 7 := by decide +kernel
theorem mc29_33 : am_mc 29 33 1 = true := by decide +kernel
theorem rk30 : am_rk 30 = 0 := by decide +kernel
theorem ow30 : am_own 30 = 7 := by decide +kernel
theorem mc30_28 : am_mc 30 28 2 = true := by decide +kernel
theorem mc30_29 : am_mc 30 29 3 = true := by decide +kernel
theorem mc30_32 : am_mc 30 32 1 = true := by decide +kernel
theorem rk31 : am_rk 31 = 2 := by decide +kernel
theorem ow31 : am_own 31 = 7 := by decide +kernel
theorem rk32 : am_rk 32 = 1 := by decide +kernel
theorem ow32 : am_own 32 = 7 := by decide +kernel
theorem rk33 : am_rk 33 = 1 := by decide +kernel
theorem ow33 : am_own 33 = 7 := by decide +kernel
theorem mc33_32 : am_mc 33 32 1 = true := by decide +kernel
theorem rk34 : am_rk 34 = 0 := by decide +kernel
theorem ow34 : am_own 34 = 7 := by decide +kernel
theorem rk35 : am_rk 35 = 4 := by decide +kernel
theorem ow35 : am_own 35 = 8 := by decide +kernel
theorem ro35 : am_roomy 35 8 = true := by decide +kernel
theorem rk36 : am_rk 36 = 0 := by decide +kernel
theorem ow36 : am_own 36 = 8 := by decide +kernel
theorem ro36 : am_roomy 36 8 = true := by decide +kernel
theorem rk37 : am_rk 37 = 1 := by decide +kernel
theorem ow37 : am_own 37 = 8 := by decide +kernel
theorem rk38 : am_rk 38 = 4 := by decide +kernel
theorem ow38 : am_own 38 = 9 := by decide +kernel
theorem ro38 : am_roomy 38 8 = true := by decide +kernel
theorem rk39 : am_rk 39 = 4 := by decide +kernel
theorem ow39 : am_own 39 = 10 := by decide +kernel
theorem ro39 : am_roomy 39 8 = true := by decide +kernel
theorem mc39_0 : am_mc 39 0 1 = true := by decide +kernel
theorem mc39_17 : am_mc 39 17 1 = true := by decide +kernel
theorem mc39_23 : am_mc 39 23 1 = true := by decide +kernel
theorem mc39_178 : am_mc 39 178 1 = true := by decide +kernel
theorem mc39_187 : am_mc 39 187 4 = true := by decide +kernel
theorem rk40 : am_rk 40 = 0 := by decide +kernel
theorem ow40 : am_own 40 = 10 := by decide +kernel
theorem mc40_35 : am_mc 40 35 4 = true := by decide +kernel
theorem mc40_77 : am_mc 40 77 3 = true := by decide +kernel
theorem mc40_181 : am_mc 40 181 1 = true := by decide +kernel
theorem mc40_186 : am_mc 40 186 2 = true := by decide +kernel
theorem rk41 : am_rk 41 = 0 := by decide +kernel
theorem ow41 : am_own 41 = 10 := by decide +kernel
theorem mc41_83 : am_mc 41 83 2 = true := by decide +kernel
theorem mc41_90 : am_mc 41 90 3 = true := by decide +kernel
theorem rk42 : am_rk 42 = 0 := by decide +kernel
theorem ow42 : am_own 42 = 10 := by decide +kernel
theorem mc42_77 : am_mc 42 77 3 = true := by decide +kernel
theorem mc42_92 : am_mc 42 92 1 = true := by decide +kernel
theorem rk43 : am_rk 43 = 0 := by decide +kernel
theorem ow43 : am_own 43 = 10 := by decide +kernel
theorem mc43_77 : am_mc 43 77 3 = true := by decide +kernel
theorem mc43_181 : am_mc 43 181 1 = true := by decide +kernel
theorem mc43_184 : am_mc 43 184 2 = true := by decide +kernel
theorem rk44 : am_rk 44 = 0 := by decide +kernel
theorem ow44 : am_own 44 = 10 := by decide +kernel
theorem mc44_9 : am_mc 44 9 5 = true := by decide +kernel
theorem mc44_78 : am_mc 44 78 1 = true := by decide +kernel
theorem mc44_83 : am_mc 44 83 2 = true := by decide +kernel
theorem mc44_181 : am_mc 44 181 1 = true := by decide +kernel
theorem mc44_186 : am_mc 44 186 2 = true := by decide +kernel
theorem rk45 : am_rk 45 = 0 := by decide +kernel
theorem ow45 : am_own 45 = 10 := by decide +kernel
theorem mc45_78 : am_mc 45 78 1 = true := by decide +kernel
theorem mc45_83 : am_mc 45 83 2 = true := by decide +kernel
theorem mc45_88 : am_mc 45 88 1 = true := by decide +kernel
theorem mc45_93 : am_mc 45 93 7 = true := by decide +kernel
theorem rk46 : am_rk 46 = 0 := by decide +kernel
theorem ow46 : am_own 46 = 10 := by decide +kernel
theorem mc46_26 : am_mc 46 26 2 = true := by decide +kernel
theorem mc46_80 : am_mc 46 80 1 = true := by decide +kernel
theorem mc46_89 : am_mc 46 89 2 = true := by decide +kernel
theorem rk47 : am_rk 47 = 0 := by decide +kernel
theorem ow47 : am_own 47 = 10 := by decide +kernel
theorem mc47_24 : am_mc 47 24 1 = true := by decide +kernel
theorem mc47_80 : am_mc 47 80 1 = true := by decide +kernel
theorem mc47_89 : am_mc 47 89 2 = true := by decide +kernel
theorem rk48 : am_rk 48 = 0 := by decide +kernel
theorem ow48 : am_own 48 = 10 := by decide +kernel
theorem mc48_24 : am_mc 48 24 1 = true := by decide +kernel
theorem mc48_25 : am_mc 48 25 1 = true := by decide +kernel
theorem mc48_80 : am_mc 48 80 1 = true := by decide +kernel
theorem mc48_89 : am_mc 48 89 2 = true := by decide +kernel
theorem rk49 : am_rk 49 = 0 := by decide +kernel
theorem ow49 : am_own 49 = 10 := by decide +kernel
theorem ro49 : am_roomy 49 8 = true := by decide +kernel
theorem mc49_24 : am_mc 49 24 1 = true := by decide +kernel
theorem mc49_27 : am_mc 49 27 3 = true := by decide +kernel
theorem mc49_80 : am_mc 49 80 1 = true := by decide +kernel
theorem mc49_89 : am_mc 49 89 2 = true := by decide +kernel
theorem rk50 : am_rk 50 = 0 := by decide +kernel
theorem ow50 : am_own 50 = 10 := by decide +kernel
theorem mc50_24 : am_mc 50 24 1 = true := by decide +kernel
theorem mc50_30 : am_mc 50 30 3 = true := by decide +kernel
theorem mc50_80 : am_mc 50 80 1 = true := by decide +kernel
theorem mc50_89 : am_mc 50 89 2 = true := by decide +kernel
theorem rk51 : am_rk 51 = 0 := by decide +kernel
theorem ow51 : am_own 51 = 10 := by decide +kernel
theorem mc51_1 : am_mc 51 1 3 = true := by decide +kernel
theorem mc51_24 : am_mc 51 24 1 = true := by decide +kernel
theorem mc51_80 : am_mc 51 80 1 = true := by decide +kernel
theorem mc51_89 : am_mc 51 89 2 = true := by decide +kernel
theorem rk52 : am_rk 52 = 0 := by decide +kernel
theorem ow52 : am_own 52 = 10 := by decide +kernel
theorem mc52_2 : am_mc 52 2 3 = true := by decide +kernel
theorem mc52_24 : am_mc 52 24 1 = true := by decide +kernel
theorem mc52_80 : am_mc 52 80 1 = true := by decide +kernel
theorem mc52_89 : am_mc 52 89 2 = true := by decide +kernel
theorem rk53 : am_rk 53 = 0 := by decide +kernel
theorem ow53 : am_own 53 = 10 := by decide +kernel
theorem mc53_77 : am_mc 53 77 3 = true := by decide +kernel
theorem mc53_81 : am_mc 53 81 1 = true := by decide +kernel
theorem rk54 : am_rk 54 = 0 := by decide +kernel
theorem ow54 : am_own 54 = 10 := by decide +kernel
theorem mc54_2 : am_mc 54 2 3 = true := by decide +kernel
theorem mc54_10 : am_mc 54 10 7 = true := by decide +kernel
theorem mc54_24 : am_mc 54 24 1 = true := by decide +kernel
theorem mc54_30 : am_mc 54 30 3 = true := by decide +kernel
theorem mc54_77 : am_mc 54 77 3 = true := by decide +kernel
theorem mc54_80 : am_mc 54 80 1 = true := by decide +kernel
theorem mc54_81 : am_mc 54 81 1 = true := by decide +kernel
theorem mc54_86 : am_mc 54 86 2 = true := by decide +kernel
theorem mc54_87 : am_mc 54 87 2 = true := by decide +kernel
theorem mc54_89 : am_mc 54 89 2 = true := by decide +kernel
theorem mc54_181 : am_mc 54 181 1 = true := by decide +kernel
theorem mc54_186 : am_mc 54 186 2 = true := by decide +kernel
theorem rk55 : am_rk 55 = 0 := by decide +kernel
theorem ow55 : am_own 55 = 10 := by decide +kernel
theorem mc55_13 : am_mc 55 13 1 = true := by decide +kernel
theorem mc55_84 : am_mc 55 84 2 = true := by decide +kernel
theorem mc55_88 : am_mc 55 88 1 = true := by decide +kernel
theorem mc55_184 : am_mc 55 184 2 = true := by decide +kernel
theorem rk56 : am_rk 56 = 0 := by decide +kernel
theorem ow56 : am_own 56 = 10 := by decide +kernel
theorem mc56_12 : am_mc 56 12 3 = true := by decide +kernel
theorem mc56_14 : am_mc 56 14 3 = true := by decide +kernel
theorem mc56_81 : am_mc 56 81 1 = true := by decide +kernel
theorem mc56_84 : am_mc 56 84 2 = true := by decide +kernel
theorem mc56_87 : am_mc 56 87 2 = true := by decide +kernel
theorem mc56_89 : am_mc 56 89 2 = true := by decide +kernel
theorem mc56_94 : am_mc 56 94 2 = true := by decide +kernel
theorem mc56_101 : am_mc 56 101 4 = true := by decide +kernel
theorem mc56_184 : am_mc 56 184 2 = true := by decide +kernel
theorem rk57 : am_rk 57 = 0 := by decide +kernel
theorem ow57 : am_own 57 = 10 := by decide +kernel
theorem mc57_84 : am_mc 57 84 2 = true := by decide +kernel
theorem mc57_94 : am_mc 57 94 2 = true := by decide +kernel
theorem mc57_184 : am_mc 57 184 2 = true := by decide +kernel
theorem rk58 : am_rk 58 = 0 := by decide +kernel
theorem ow58 : am_own 58 = 10 := by decide +kernel
theorem mc58_89 : am_mc 58 89 2 = true := by decide +kernel
theorem mc58_94 : am_mc 58 94 2 = true := by decide +kernel
theorem mc58_181 : am_mc 58 181 1 = true := by decide +kernel
theorem mc58_184 : am_mc 58 184 2 = true := by decide +kernel
theorem rk59 : am_rk 59 = 0 := by decide +kernel
theorem ow59 : am_own 59 = 10 := by decide +kernel
theorem mc59_13 : am_mc 59 13 1 = true := by decide +kernel
theorem mc59_84 : am_mc 59 84 2 = true := by decide +kernel
theorem mc59_184 : am_mc 59 184 2 = true := by decide +kernel
theorem rk60 : am_rk 60 = 0 := by decide +kernel
theorem ow60 : am_own 60 = 10 := by decide +kernel
theorem mc60_6 : am_mc 60 6 2 = true := by decide +kernel
theorem mc60_83 : am_mc 60 83 2 = true := by decide +kernel
theorem mc60_181 : am_mc 60 181 1 = true := by decide +kernel
theorem mc60_186 : am_mc 60 186 2 = true := by decide +kernel
theorem rk61 : am_rk 61 = 0 := by decide +kernel
theorem ow61 : am_own 61 = 10 := by decide +kernel
theorem mc61_83 : am_mc 61 83 2 = true := by decide +kernel
theorem mc61_85 : am_mc 61 85 2 = true := by decide +kernel
theorem mc61_95 : am_mc 61 95 3 = true := by decide +kernel
theorem mc61_184 : am_mc 61 184 2 = true := by decide +kernel
theorem rk62 : am_rk 62 = 0 := by decide +kernel
theorem ow62 : am_own 62 = 10 := by decide +kernel
theorem mc62_7 : am_mc 62 7 3 = true := by decide +kernel
theorem mc62_8 : am_mc 62 8 7 = true := by decide +kernel
theorem mc62_15 : am_mc 62 15 1 = true := by decide +kernel
theorem mc62_16 : am_mc 62 16 3 = true := by decide +kernel
theorem mc62_79 : am_mc 62 79 1 = true := by decide +kernel
theorem mc62_83 : am_mc 62 83 2 = true := by decide +kernel
theorem mc62_84 : am_mc 62 84 2 = true := by decide +kernel
theorem mc62_85 : am_mc 62 85 2 = true := by decide +kernel
theorem mc62_88 : am_mc 62 88 1 = true := by decide +kernel
theorem mc62_95 : am_mc 62 95 3 = true := by decide +kernel
theorem mc62_96 : am_mc 62 96 6 = true := by decide +kernel
theorem mc62_97 : am_mc 62 97 3 = true := by decide +kernel
theorem mc62_181 : am_mc 62 181 1 = true := by decide +kernel
theorem mc62_184 : am_mc 62 184 2 = true := by decide +kernel
theorem mc62_186 : am_mc 62 186 2 = true := by decide +kernel
theorem rk63 : am_rk 63 = 0 := by decide +kernel
theorem ow63 : am_own 63 = 10 := by decide +kernel
theorem mc63_83 : am_mc 63 83 2 = true := by decide +kernel
theorem mc63_84 : am_mc 63 84 2 = true := by decide +kernel
theorem mc63_184 : am_mc 63 184 2 = true := by decide +kernel
theorem rk64 : am_rk 64 = 0 := by decide +kernel
theorem ow64 : am_own 64 = 10 := by decide +kernel
theorem mc64_77 : am_mc 64 77 3 = true := by decide +kernel
theorem mc64_88 : am_mc 64 88 1 = true := by decide +kernel
theorem mc64_181 : am_mc 64 181 1 = true := by decide +kernel
theorem mc64_184 : am_mc 64 184 2 = true := by decide +kernel
theorem rk65 : am_rk 65 = 0 := by decide +kernel
theorem ow65 : am_own 65 = 10 := by decide +kernel
theorem mc65_83 : am_mc 65 83 2 = true := by decide +kernel
theorem mc65_97 : am_mc 65 97 3 = true := by decide +kernel
theorem mc65_181 : am_mc 65 181 1 = true := by decide +kernel
theorem mc65_184 : am_mc 65 184 2 = true := by decide +kernel
theorem rk66 : am_rk 66 = 0 := by decide +kernel
theorem ow66 : am_own 66 = 10 := by decide +kernel
theorem mc66_83 : am_mc 66 83 2 = true := by decide +kernel
theorem mc66_97 : am_mc 66 97 3 = true := by decide +kernel
theorem mc66_181 : am_mc 66 181 1 = true := by decide +kernel
theorem mc66_184 : am_mc 66 184 2 = true := by decide +kernel
theorem rk67 : am_rk 67 = 0 := by decide +kernel
theorem ow67 : am_own 67 = 10 := by decide +kernel
theorem mc67_38 : am_mc 67 38 6 = true := by decide +kernel
theorem mc67_79 : am_mc 67 79 1 = true := by decide +kernel
theorem mc67_82 : am_mc 67 82 1 = true := by decide +kernel
theorem mc67_83 : am_mc 67 83 2 = true := by decide +kernel
theorem mc67_181 : am_mc 67 181 1 = true := by decide +kernel
theorem mc67_186 : am_mc 67 186 2 = true := by decide +kernel
theorem rk68 : am_rk 68 = 0 := by decide +kernel
theorem ow68 : am_own 68 = 10 := by decide +kernel
theorem mc68_82 : am_mc 68 82 1 = true := by decide +kernel
theorem mc68_84 : am_mc 68 84 2 = true := by decide +kernel
theorem mc68_98 : am_mc 68 98 6 = true := by decide +kernel
theorem rk69 : am_rk 69 = 0 := by decide +kernel
theorem ow69 : am_own 69 = 10 := by decide +kernel
theorem mc69_77 : am_mc 69 77 3 = true := by decide +kernel
theorem mc69_84 : am_mc 69 84 2 = true := by decide +kernel
theorem mc69_98 : am_mc 69 98 6 = true := by decide +kernel
theorem rk70 : am_rk 70 = 0 := by decide +kernel
theorem ow70 : am_own 70 = 10 := by decide +kernel
theorem mc70_19 : am_mc 70 19 9 = true := by decide +kernel
theorem mc70_85 : am_mc 70 85 2 = true := by decide +kernel
theorem mc70_86 : am_mc 70 86 2 = true := by decide +kernel
theorem mc70_184 : am_mc 70 184 2 = true := by decide +kernel
theorem rk71 : am_rk 71 = 0 := by decide +kernel
theorem ow71 : am_own 71 = 10 := by decide +kernel
theorem mc71_18 : am_mc 71 18 2 = true := by decide +kernel
theorem rk72 : am_rk 72 = 0 := by decide +kernel
theorem ow72 : am_own 72 = 10 := by decide +kernel
theorem mc72_77 : am_mc 72 77 3 = true := by decide +kernel
theorem mc72_84 : am_mc 72 84 2 = true := by decide +kernel
theorem mc72_89 : am_mc 72 89 2 = true := by decide +kernel
theorem mc72_100 : am_mc 72 100 3 = true := by decide +kernel
theorem mc72_181 : am_mc 72 181 1 = true := by decide +kernel
theorem mc72_184 : am_mc 72 184 2 = true := by decide +kernel
theorem rk73 : am_rk 73 = 0 := by decide +kernel
theorem ow73 : am_own 73 = 10 := by decide +kernel
theorem mc73_181 : am_mc 73 181 1 = true := by decide +kernel
theorem rk74 : am_rk 74 = 0 := by decide +kernel
theorem ow74 : am_own 74 = 10 := by decide +kernel
theorem rk75 : am_rk 75 = 0 := by decide +kernel
theorem ow75 : am_own 75 = 10 := by decide +kernel
theorem mc75_77 : am_mc 75 77 3 = true := by decide +kernel
theorem rk76 : am_rk 76 = 2 := by decide +kernel
theorem ow76 : am_own 76 = 10 := by decide +kernel
theorem mc76_31 : am_mc 76 31 6 = true := by decide +kernel
theorem mc76_55 : am_mc 76 55 4 = true := by decide +kernel
theorem mc76_64 : am_mc 76 64 4 = true := by decide +kernel
theorem mc76_73 : am_mc 76 73 2 = true := by decide +kernel
theorem mc76_181 : am_mc 76 181 1 = true := by decide +kernel
theorem mc76_184 : am_mc 76 184 2 = true := by decide +kernel
theorem rk77 : am_rk 77 = 1 := by decide +kernel
theorem ow77 : am_own 77 = 10 := by decide +kernel
theorem rk78 : am_rk 78 = 1 := by decide +kernel
theorem ow78 : am_own 78 = 10 := by decide +kernel
theorem mc78_77 : am_mc 78 77 3 = true := by decide +kernel
theorem rk79 : am_rk 79 = 1 := by decide +kernel
theorem ow79 : am_own 79 = 10 := by decide +kernel
theorem mc79_77 : am_mc 79 77 3 = true := by decide +kernel
theorem rk80 : am_rk 80 = 1 := by decide +kernel
theorem ow80 : am_own 80 = 10 := by decide +kernel
theorem mc80_77 : am_mc 80 77 3 = true := by decide +kernel
theorem rk81 : am_rk 81 = 1 := by decide +kernel
theorem ow81 : am_own 81 = 10 := by decide +kernel
theorem mc81_77 : am_mc 81 77 3 = true := by decide +kernel
theorem rk82 : am_rk 82 = 1 := by decide +kernel
theorem ow82 : am_own 82 = 10 := by decide +kernel
theorem mc82_77 : am_mc 82 77 3 = true := by decide +kernel
theorem rk83 : am_rk 83 = 1 := by decide +kernel
theorem ow83 : am_own 83 = 10 := by decide +kernel
theorem mc83_181 : am_mc 83 181 1 = true := by decide +kernel
theorem rk84 : am_rk 84 = 1 := by decide +kernel
theorem ow84 : am_own 84 = 10 := by decide +kernel
theorem mc84_181 : am_mc 84 181 1 = true := by decide +kernel
theorem rk85 : am_rk 85 = 1 := by decide +kernel
theorem ow85 : am_own 85 = 10 := by decide +kernel
theorem mc85_181 : am_mc 85 181 1 = true := by decide +kernel
theorem rk86 : am_rk 86 = 1 := by decide +kernel
theorem ow86 : am_own 86 = 10 := by decide +kernel
theorem mc86_181 : am_mc 86 181 1 = true := by decide +kernel
theorem rk87 : am_rk 87 = 1 := by decide +kernel
theorem ow87 : am_own 87 = 10 := by decide +kernel
theorem rk88 : am_rk 88 = 0 := by decide +kernel
theorem ow88 : am_own 88 = 10 := by decide +kernel
theorem rk89 : am_rk 89 = 0 := by decide +kernel
theorem ow89 : am_own 89 = 10 := by decide +kernel
theorem rk90 : am_rk 90 = 0 := by decide +kernel
theorem ow90 : am_own 90 = 10 := by decide +kernel
theorem mc90_36 : am_mc 90 36 2 = true := by decide +kernel
theorem mc90_184 : am_mc 90 184 2 = true := by decide +kernel
theorem rk91 : am_rk 91 = 1 := by decide +kernel
theorem ow91 : am_own 91 = 10 := by decide +kernel
theorem mc91_90 : am_mc 91 90 3 = true := by decide +kernel
theorem rk92 : am_rk 92 = 1 := by decide +kernel
theorem ow92 : am_own 92 = 10 := by decide +kernel
theorem mc92_181 : am_mc 92 181 1 = true := by decide +kernel
theorem mc92_182 : am_mc 92 182 1 = true := by decide +kernel
theorem mc92_184 : am_mc 92 184 2 = true := by decide +kernel
theorem rk93 : am_rk 93 = 1 := by decide +kernel
theorem ow93 : am_own 93 = 10 := by decide +kernel
theorem mc93_37 : am_mc 93 37 2 = true := by decide +kernel
theorem mc93_181 : am_mc 93 181 1 = true := by decide +kernel
theorem mc93_184 : am_mc 93 184 2 = true := by decide +kernel
theorem rk94 : am_rk 94 = 0 := by decide +kernel
theorem ow94 : am_own 94 = 10 := by decide +kernel
theorem mc94_175 : am_mc 94 175 1 = true := by decide +kernel
theorem rk95 : am_rk 95 = 0 := by decide +kernel
theorem ow95 : am_own 95 = 10 := by decide +kernel
theorem mc95_90 : am_mc 95 90 3 = true := by decide +kernel
theorem rk96 : am_rk 96 = 1 := by decide +kernel
theorem ow96 : am_own 96 = 10 := by decide +kernel
theorem ro96 : am_roomy 96 8 = true := by decide +kernel
theorem mc96_91 : am_mc 96 91 3 = true := by decide +kernel
theorem mc96_181 : am_mc 96 181 1 = true := by decide +kernel
theorem mc96_184 : am_mc 96 184 2 = true := by decide +kernel
theorem rk97 : am_rk 97 = 1 := by decide +kernel
theorem ow97 : am_own 97 = 10 := by decide +kernel
theorem mc97_11 : am_mc 97 11 2 = true := by decide +kernel
theorem mc97_87 : am_mc 97 87 2 = true := by decide +kernel
theorem mc97_93 : am_mc 97 93 7 = true := by decide +kernel
theorem rk98 : am_rk 98 = 0 := by decide +kernel
theorem ow98 : am_own 98 = 10 := by decide +kernel
theorem mc98_99 : am_mc 98 99 5 = true := by decide +kernel
theorem mc98_181 : am_mc 98 181 1 = true := by decide +kernel
theorem mc98_184 : am_mc 98 184 2 = true := by decide +kernel
theorem rk99 : am_rk 99 = 1 := by decide +kernel
theorem ow99 : am_own 99 = 10 := by decide +kernel
theorem mc99_77 : am_mc 99 77 3 = true := by decide +kernel
theorem mc99_91 : am_mc 99 91 3 = true := by decide +kernel
theorem mc99_181 : am_mc 99 181 1 = true := by decide +kernel
theorem mc99_184 : am_mc 99 184 2 = true := by decide +kernel
theorem rk100 : am_rk 100 = 1 := by decide +kernel
theorem ow100 : am_own 100 = 10 := by decide +kernel
theorem mc100_175 : am_mc 100 175 1 = true := by decide +kernel
theorem rk101 : am_rk 101 = 0 := by decide +kernel
theorem ow101 : am_own 101 = 10 := by decide +kernel
theorem mc101_100 : am_mc 101 100 3 = true := by decide +kernel
theorem mc101_181 : am_mc 101 181 1 = true := by decide +kernel
theorem mc101_184 : am_mc 101 184 2 = true := by decide +kernel
