theorem d_M_does_0 : decode b_M_does 0 = .ok (.aload_n 0, 1) := by decide +kernel
theorem d_M_does_1 : decode b_M_does 1 = .ok (.iload_n 1, 1) := by decide +kernel
theorem d_M_does_2 : decode b_M_does 2 = .ok (.invokevirtual 118, 3) := by decide +kernel
theorem d_M_does_5 : decode b_M_does 5 = .ok (.ifCond .eq 37, 3) := by decide +kernel
theorem d_M_does_8 : decode b_M_does 8 = .ok (.iload_n 2, 1) := by decide +kernel
theorem d_M_does_9 : decode b_M_does 9 = .ok (.i2l, 1) := by decide +kernel
theorem d_M_does_10 : decode b_M_does 10 = .ok (.lconst 0, 1) := by decide +kernel
theorem d_M_does_11 : decode b_M_does 11 = .ok (.lconst 1, 1) := by decide +kernel
theorem d_M_does_12 : decode b_M_does 12 = .ok (.invokestatic 58, 3) := by decide +kernel
theorem d_M_does_15 : decode b_M_does 15 = .ok (.ifCond .eq 27, 3) := by decide +kernel
theorem d_M_does_18 : decode b_M_does 18 = .ok (.sipush 1000, 3) := by decide +kernel
theorem d_M_does_21 : decode b_M_does 21 = .ok (.iload_n 2, 1) := by decide +kernel
theorem d_M_does_22 : decode b_M_does 22 = .ok (.ifCond .ne 11, 3) := by decide +kernel
theorem d_M_does_25 : decode b_M_does 25 = .ok (.aload_n 0, 1) := by decide +kernel
theorem d_M_does_26 : decode b_M_does 26 = .ok (.iload_n 1, 1) := by decide +kernel
theorem d_M_does_27 : decode b_M_does 27 = .ok (.invokevirtual 76, 3) := by decide +kernel
theorem d_M_does_30 : decode b_M_does 30 = .ok (.goto 8, 3) := by decide +kernel
theorem d_M_does_33 : decode b_M_does 33 = .ok (.aload_n 0, 1) := by decide +kernel
theorem d_M_does_34 : decode b_M_does 34 = .ok (.iload_n 1, 1) := by decide +kernel
theorem d_M_does_35 : decode b_M_does 35 = .ok (.invokevirtual 84, 3) := by decide +kernel
theorem d_M_does_38 : decode b_M_does 38 = .ok (.iadd, 1) := by decide +kernel
theorem d_M_does_39 : decode b_M_does 39 = .ok (.goto 4, 3) := by decide +kernel
theorem d_M_does_42 : decode b_M_does 42 = .ok (.iconst (-1), 1) := by decide +kernel
theorem d_M_does_43 : decode b_M_does 43 = .ok (.ireturn, 1) := by decide +kernel
theorem d_M_mind_0 : decode b_M_mind 0 = .ok (.aload_n 0, 1) := by decide +kernel
theorem d_M_mind_1 : decode b_M_mind 1 = .ok (.iload_n 1, 1) := by decide +kernel
theorem d_M_mind_2 : decode b_M_mind 2 = .ok (.invokevirtual 118, 3) := by decide +kernel
theorem d_M_mind_5 : decode b_M_mind 5 = .ok (.ifCond .eq 25, 3) := by decide +kernel
theorem d_M_mind_8 : decode b_M_mind 8 = .ok (.iload_n 2, 1) := by decide +kernel
theorem d_M_mind_9 : decode b_M_mind 9 = .ok (.i2l, 1) := by decide +kernel
theorem d_M_mind_10 : decode b_M_mind 10 = .ok (.lconst 0, 1) := by decide +kernel
theorem d_M_mind_11 : decode b_M_mind 11 = .ok (.ldc2_w 109, 3) := by decide +kernel
theorem d_M_mind_14 : decode b_M_mind 14 = .ok (.invokestatic 58, 3) := by decide +kernel
theorem d_M_mind_17 : decode b_M_mind 17 = .ok (.ifCond .eq 13, 3) := by decide +kernel
theorem d_M_mind_20 : decode b_M_mind 20 = .ok (.iload_n 3, 1) := by decide +kernel
theorem d_M_mind_21 : decode b_M_mind 21 = .ok (.i2l, 1) := by decide +kernel
theorem d_M_mind_22 : decode b_M_mind 22 = .ok (.lconst 0, 1) := by decide +kernel
theorem d_M_mind_23 : decode b_M_mind 23 = .ok (.lconst 1, 1) := by decide +kernel
theorem d_M_mind_24 : decode b_M_mind 24 = .ok (.invokestatic 58, 3) := by decide +kernel
theorem d_M_mind_27 : decode b_M_mind 27 = .ok (.ifCond .ne 5, 3) := by decide +kernel
theorem d_M_mind_30 : decode b_M_mind 30 = .ok (.iconst (-1), 1) := by decide +kernel
theorem d_M_mind_31 : decode b_M_mind 31 = .ok (.ireturn, 1) := by decide +kernel
theorem d_M_mind_32 : decode b_M_mind 32 = .ok (.aload_n 0, 1) := by decide +kernel
theorem d_M_mind_33 : decode b_M_mind 33 = .ok (.iload_n 1, 1) := by decide +kernel
theorem d_M_mind_34 : decode b_M_mind 34 = .ok (.iconst 2, 1) := by decide +kernel
theorem d_M_mind_35 : decode b_M_mind 35 = .ok (.iload_n 3, 1) := by decide +kernel
theorem d_M_mind_36 : decode b_M_mind 36 = .ok (.invokevirtual 72, 3) := by decide +kernel
theorem d_M_mind_39 : decode b_M_mind 39 = .ok (.aload_n 0, 1) := by decide +kernel
theorem d_M_mind_40 : decode b_M_mind 40 = .ok (.bipush 27, 2) := by decide +kernel
theorem d_M_mind_42 : decode b_M_mind 42 = .ok (.iload_n 1, 1) := by decide +kernel
theorem d_M_mind_43 : decode b_M_mind 43 = .ok (.iadd, 1) := by decide +kernel
theorem d_M_mind_44 : decode b_M_mind 44 = .ok (.iload_n 2, 1) := by decide +kernel
theorem d_M_mind_45 : decode b_M_mind 45 = .ok (.invokevirtual 106, 3) := by decide +kernel
theorem d_M_mind_48 : decode b_M_mind 48 = .ok (.ireturn, 1) := by decide +kernel
theorem d_M_fill_0 : decode b_M_fill 0 = .ok (.aload_n 0, 1) := by decide +kernel
theorem d_M_fill_1 : decode b_M_fill 1 = .ok (.iload_n 1, 1) := by decide +kernel
theorem d_M_fill_2 : decode b_M_fill 2 = .ok (.invokevirtual 118, 3) := by decide +kernel
theorem d_M_fill_5 : decode b_M_fill 5 = .ok (.ifCond .eq 27, 3) := by decide +kernel
theorem d_M_fill_8 : decode b_M_fill 8 = .ok (.iload_n 2, 1) := by decide +kernel
theorem d_M_fill_9 : decode b_M_fill 9 = .ok (.i2l, 1) := by decide +kernel
theorem d_M_fill_10 : decode b_M_fill 10 = .ok (.lconst 0, 1) := by decide +kernel
theorem d_M_fill_11 : decode b_M_fill 11 = .ok (.ldc2_w 100, 3) := by decide +kernel
theorem d_M_fill_14 : decode b_M_fill 14 = .ok (.invokestatic 58, 3) := by decide +kernel
theorem d_M_fill_17 : decode b_M_fill 17 = .ok (.ifCond .eq 15, 3) := by decide +kernel
theorem d_M_fill_20 : decode b_M_fill 20 = .ok (.aload_n 0, 1) := by decide +kernel
theorem d_M_fill_21 : decode b_M_fill 21 = .ok (.bipush 35, 2) := by decide +kernel
theorem d_M_fill_23 : decode b_M_fill 23 = .ok (.iload_n 1, 1) := by decide +kernel
theorem d_M_fill_24 : decode b_M_fill 24 = .ok (.iadd, 1) := by decide +kernel
theorem d_M_fill_25 : decode b_M_fill 25 = .ok (.iload_n 2, 1) := by decide +kernel
theorem d_M_fill_26 : decode b_M_fill 26 = .ok (.invokevirtual 106, 3) := by decide +kernel
theorem d_M_fill_29 : decode b_M_fill 29 = .ok (.goto 4, 3) := by decide +kernel
theorem d_M_fill_32 : decode b_M_fill 32 = .ok (.iconst (-1), 1) := by decide +kernel
theorem d_M_fill_33 : decode b_M_fill 33 = .ok (.ireturn, 1) := by decide +kernel
theorem d_M_bring_0 : decode b_M_bring 0 = .ok (.aload_n 0, 1) := by decide +kernel
theorem d_M_bring_1 : decode b_M_bring 1 = .ok (.iload_n 1, 1) := by decide +kernel
theorem d_M_bring_2 : decode b_M_bring 2 = .ok (.invokevirtual 118, 3) := by decide +kernel
theorem d_M_bring_5 : decode b_M_bring 5 = .ok (.ifCond .eq 22, 3) := by decide +kernel
theorem d_M_bring_8 : decode b_M_bring 8 = .ok (.iload_n 2, 1) := by decide +kernel
theorem d_M_bring_9 : decode b_M_bring 9 = .ok (.invokestatic 111, 3) := by decide +kernel
theorem d_M_bring_12 : decode b_M_bring 12 = .ok (.ifCond .eq 15, 3) := by decide +kernel
theorem d_M_bring_15 : decode b_M_bring 15 = .ok (.aload_n 0, 1) := by decide +kernel
theorem d_M_bring_16 : decode b_M_bring 16 = .ok (.bipush 51, 2) := by decide +kernel
theorem d_M_bring_18 : decode b_M_bring 18 = .ok (.iload_n 1, 1) := by decide +kernel
theorem d_M_bring_19 : decode b_M_bring 19 = .ok (.iadd, 1) := by decide +kernel
theorem d_M_bring_20 : decode b_M_bring 20 = .ok (.iload_n 2, 1) := by decide +kernel
theorem d_M_bring_21 : decode b_M_bring 21 = .ok (.invokevirtual 106, 3) := by decide +kernel
theorem d_M_bring_24 : decode b_M_bring 24 = .ok (.goto 4, 3) := by decide +kernel
theorem d_M_bring_27 : decode b_M_bring 27 = .ok (.iconst (-1), 1) := by decide +kernel
theorem d_M_bring_28 : decode b_M_bring 28 = .ok (.ireturn, 1) := by decide +kernel
theorem d_M_send_0 : decode b_M_send 0 = .ok (.aload_n 0, 1) := by decide +kernel
theorem d_M_send_1 : decode b_M_send 1 = .ok (.iload_n 1, 1) := by decide +kernel
theorem d_M_send_2 : decode b_M_send 2 = .ok (.invokevirtual 118, 3) := by decide +kernel
theorem d_M_send_5 : decode b_M_send 5 = .ok (.ifCond .eq 22, 3) := by decide +kernel
theorem d_M_send_8 : decode b_M_send 8 = .ok (.iload_n 2, 1) := by decide +kernel
theorem d_M_send_9 : decode b_M_send 9 = .ok (.invokestatic 111, 3) := by decide +kernel
theorem d_M_send_12 : decode b_M_send 12 = .ok (.ifCond .eq 15, 3) := by decide +kernel
theorem d_M_send_15 : decode b_M_send 15 = .ok (.aload_n 0, 1) := by decide +kernel
theorem d_M_send_16 : decode b_M_send 16 = .ok (.bipush 59, 2) := by decide +kernel
theorem d_M_send_18 : decode b_M_send 18 = .ok (.iload_n 1, 1) := by decide +kernel
theorem d_M_send_19 : decode b_M_send 19 = .ok (.iadd, 1) := by decide +kernel
theorem d_M_send_20 : decode b_M_send 20 = .ok (.iload_n 2, 1) := by decide +kernel
theorem d_M_send_21 : decode b_M_send 21 = .ok (.invokevirtual 106, 3) := by decide +kernel
theorem d_M_send_24 : decode b_M_send 24 = .ok (.goto 4, 3) := by decide +kernel
theorem d_M_send_27 : decode b_M_send 27 = .ok (.iconst (-1), 1) := by decide +kernel
theorem d_M_send_28 : decode b_M_send 28 = .ok (.ireturn, 1) := by decide +kernel
theorem d_M_noise_0 : decode b_M_noise 0 = .ok (.iload_n 1, 1) := by decide +kernel
theorem d_M_noise_1 : decode b_M_noise 1 = .ok (.invokestatic 111, 3) := by decide +kernel
theorem d_M_noise_4 : decode b_M_noise 4 = .ok (.ifCond .eq 27, 3) := by decide +kernel
theorem d_M_noise_7 : decode b_M_noise 7 = .ok (.iload_n 2, 1) := by decide +kernel
theorem d_M_noise_8 : decode b_M_noise 8 = .ok (.i2l, 1) := by decide +kernel
theorem d_M_noise_9 : decode b_M_noise 9 = .ok (.lconst 0, 1) := by decide +kernel
theorem d_M_noise_10 : decode b_M_noise 10 = .ok (.ldc2_w 62, 3) := by decide +kernel
theorem d_M_noise_13 : decode b_M_noise 13 = .ok (.invokestatic 58, 3) := by decide +kernel
theorem d_M_noise_16 : decode b_M_noise 16 = .ok (.ifCond .eq 15, 3) := by decide +kernel
theorem d_M_noise_19 : decode b_M_noise 19 = .ok (.aload_n 0, 1) := by decide +kernel
theorem d_M_noise_20 : decode b_M_noise 20 = .ok (.bipush 7, 2) := by decide +kernel
theorem d_M_noise_22 : decode b_M_noise 22 = .ok (.iload_n 1, 1) := by decide +kernel
theorem d_M_noise_23 : decode b_M_noise 23 = .ok (.iadd, 1) := by decide +kernel
theorem d_M_noise_24 : decode b_M_noise 24 = .ok (.iload_n 2, 1) := by decide +kernel
theorem d_M_noise_25 : decode b_M_noise 25 = .ok (.invokevirtual 106, 3) := by decide +kernel
theorem d_M_noise_28 : decode b_M_noise 28 = .ok (.goto 4, 3) := by decide +kernel
theorem d_M_noise_31 : decode b_M_noise 31 = .ok (.iconst (-1), 1) := by decide +kernel
theorem d_M_noise_32 : decode b_M_noise 32 = .ok (.ireturn, 1) := by decide +kernel
theorem d_M_lock_0 : decode b_M_lock 0 = .ok (.iload_n 1, 1) := by decide +kernel
theorem d_M_lock_1 : decode b_M_lock 1 = .ok (.invokestatic 111, 3) := by decide +kernel
theorem d_M_lock_4 : decode b_M_lock 4 = .ok (.ifCond .eq 15, 3) := by decide +kernel
theorem d_M_lock_7 : decode b_M_lock 7 = .ok (.iload_n 2, 1) := by decide +kernel
theorem d_M_lock_8 : decode b_M_lock 8 = .ok (.i2l, 1) := by decide +kernel
theorem d_M_lock_9 : decode b_M_lock 9 = .ok (.lconst 0, 1) := by decide +kernel
theorem d_M_lock_10 : decode b_M_lock 10 = .ok (.ldc2_w 121, 3) := by decide +kernel
theorem d_M_lock_13 : decode b_M_lock 13 = .ok (.invokestatic 58, 3) := by decide +kernel
theorem d_M_lock_16 : decode b_M_lock 16 = .ok (.ifCond .ne 5, 3) := by decide +kernel
theorem d_M_lock_19 : decode b_M_lock 19 = .ok (.iconst (-1), 1) := by decide +kernel
theorem d_M_lock_20 : decode b_M_lock 20 = .ok (.ireturn, 1) := by decide +kernel
theorem d_M_lock_21 : decode b_M_lock 21 = .ok (.iconst 0, 1) := by decide +kernel
theorem d_M_lock_22 : decode b_M_lock 22 = .ok (.istore_n 3, 1) := by decide +kernel
theorem d_M_lock_23 : decode b_M_lock 23 = .ok (.iconst 0, 1) := by decide +kernel
theorem d_M_lock_24 : decode b_M_lock 24 = .ok (.istore 4, 2) := by decide +kernel
theorem d_M_lock_26 : decode b_M_lock 26 = .ok (.iload 4, 2) := by decide +kernel
theorem d_M_lock_28 : decode b_M_lock 28 = .ok (.aload_n 0, 1) := by decide +kernel
theorem d_M_lock_29 : decode b_M_lock 29 = .ok (.getfield 7, 3) := by decide +kernel
theorem d_M_lock_32 : decode b_M_lock 32 = .ok (.iconst 4, 1) := by decide +kernel
theorem d_M_lock_33 : decode b_M_lock 33 = .ok (.iaload, 1) := by decide +kernel
theorem d_M_lock_34 : decode b_M_lock 34 = .ok (.if_icmp .ge 31, 3) := by decide +kernel
theorem d_M_lock_37 : decode b_M_lock 37 = .ok (.iload_n 3, 1) := by decide +kernel
theorem d_M_lock_38 : decode b_M_lock 38 = .ok (.aload_n 0, 1) := by decide +kernel
theorem d_M_lock_39 : decode b_M_lock 39 = .ok (.iload 4, 2) := by decide +kernel
theorem d_M_lock_41 : decode b_M_lock 41 = .ok (.iconst 3, 1) := by decide +kernel
theorem d_M_lock_42 : decode b_M_lock 42 = .ok (.invokevirtual 64, 3) := by decide +kernel
theorem d_M_lock_45 : decode b_M_lock 45 = .ok (.iload_n 1, 1) := by decide +kernel
theorem d_M_lock_46 : decode b_M_lock 46 = .ok (.if_icmp .ne 10, 3) := by decide +kernel
theorem d_M_lock_49 : decode b_M_lock 49 = .ok (.iconst 1, 1) := by decide +kernel
theorem d_M_lock_50 : decode b_M_lock 50 = .ok (.iload 4, 2) := by decide +kernel
theorem d_M_lock_52 : decode b_M_lock 52 = .ok (.ishl, 1) := by decide +kernel
theorem d_M_lock_53 : decode b_M_lock 53 = .ok (.goto 4, 3) := by decide +kernel
theorem d_M_lock_56 : decode b_M_lock 56 = .ok (.iconst 0, 1) := by decide +kernel
theorem d_M_lock_57 : decode b_M_lock 57 = .ok (.ior, 1) := by decide +kernel
theorem d_M_lock_58 : decode b_M_lock 58 = .ok (.istore_n 3, 1) := by decide +kernel
theorem d_M_lock_59 : decode b_M_lock 59 = .ok (.iinc 4 1, 3) := by decide +kernel
theorem d_M_lock_62 : decode b_M_lock 62 = .ok (.goto (-36), 3) := by decide +kernel
theorem d_M_lock_65 : decode b_M_lock 65 = .ok (.iload_n 2, 1) := by decide +kernel
theorem d_M_lock_66 : decode b_M_lock 66 = .ok (.ifCond .ne 15, 3) := by decide +kernel
theorem d_M_lock_69 : decode b_M_lock 69 = .ok (.aload_n 0, 1) := by decide +kernel
theorem d_M_lock_70 : decode b_M_lock 70 = .ok (.getfield 7, 3) := by decide +kernel
theorem d_M_lock_73 : decode b_M_lock 73 = .ok (.bipush 7, 2) := by decide +kernel
theorem d_M_lock_75 : decode b_M_lock 75 = .ok (.iload_n 1, 1) := by decide +kernel
theorem d_M_lock_76 : decode b_M_lock 76 = .ok (.iadd, 1) := by decide +kernel
theorem d_M_lock_77 : decode b_M_lock 77 = .ok (.iaload, 1) := by decide +kernel
theorem d_M_lock_78 : decode b_M_lock 78 = .ok (.goto 21, 3) := by decide +kernel
theorem d_M_lock_81 : decode b_M_lock 81 = .ok (.iload_n 2, 1) := by decide +kernel
theorem d_M_lock_82 : decode b_M_lock 82 = .ok (.iconst 1, 1) := by decide +kernel
theorem d_M_lock_83 : decode b_M_lock 83 = .ok (.if_icmp .ne 15, 3) := by decide +kernel
theorem d_M_lock_86 : decode b_M_lock 86 = .ok (.aload_n 0, 1) := by decide +kernel
theorem d_M_lock_87 : decode b_M_lock 87 = .ok (.getfield 7, 3) := by decide +kernel
theorem d_M_lock_90 : decode b_M_lock 90 = .ok (.bipush 17, 2) := by decide +kernel
theorem d_M_lock_92 : decode b_M_lock 92 = .ok (.iload_n 1, 1) := by decide +kernel
theorem d_M_lock_93 : decode b_M_lock 93 = .ok (.iadd, 1) := by decide +kernel
theorem d_M_lock_94 : decode b_M_lock 94 = .ok (.iaload, 1) := by decide +kernel
theorem d_M_lock_95 : decode b_M_lock 95 = .ok (.goto 4, 3) := by decide +kernel
theorem d_M_lock_98 : decode b_M_lock 98 = .ok (.iload_n 3, 1) := by decide +kernel
theorem d_M_lock_99 : decode b_M_lock 99 = .ok (.ireturn, 1) := by decide +kernel
theorem d_M_hours_0 : decode b_M_hours 0 = .ok (.iload_n 1, 1) := by decide +kernel
theorem d_M_hours_1 : decode b_M_hours 1 = .ok (.i2l, 1) := by decide +kernel
theorem d_M_hours_2 : decode b_M_hours 2 = .ok (.lconst 1, 1) := by decide +kernel
theorem d_M_hours_3 : decode b_M_hours 3 = .ok (.ldc2_w 123, 3) := by decide +kernel
theorem d_M_hours_6 : decode b_M_hours 6 = .ok (.invokestatic 58, 3) := by decide +kernel
theorem d_M_hours_9 : decode b_M_hours 9 = .ok (.ifCond .ne 5, 3) := by decide +kernel
theorem d_M_hours_12 : decode b_M_hours 12 = .ok (.iconst (-1), 1) := by decide +kernel
theorem d_M_hours_13 : decode b_M_hours 13 = .ok (.ireturn, 1) := by decide +kernel
theorem d_M_hours_14 : decode b_M_hours 14 = .ok (.aload_n 0, 1) := by decide +kernel
theorem d_M_hours_15 : decode b_M_hours 15 = .ok (.iload_n 1, 1) := by decide +kernel
theorem d_M_hours_16 : decode b_M_hours 16 = .ok (.invokevirtual 125, 3) := by decide +kernel
theorem d_M_hours_19 : decode b_M_hours 19 = .ok (.aload_n 0, 1) := by decide +kernel
theorem d_M_hours_20 : decode b_M_hours 20 = .ok (.invokevirtual 128, 3) := by decide +kernel
theorem d_M_hours_23 : decode b_M_hours 23 = .ok (.ireturn, 1) := by decide +kernel
theorem d_M_seed_0 : decode b_M_seed 0 = .ok (.aload_n 0, 1) := by decide +kernel
theorem d_M_seed_1 : decode b_M_seed 1 = .ok (.bipush 6, 2) := by decide +kernel
theorem d_M_seed_3 : decode b_M_seed 3 = .ok (.iload_n 1, 1) := by decide +kernel
theorem d_M_seed_4 : decode b_M_seed 4 = .ok (.invokevirtual 106, 3) := by decide +kernel
theorem d_M_seed_7 : decode b_M_seed 7 = .ok (.ireturn, 1) := by decide +kernel
theorem d_M_drawn_0 : decode b_M_drawn 0 = .ok (.aload_n 0, 1) := by decide +kernel
theorem d_M_drawn_1 : decode b_M_drawn 1 = .ok (.getfield 7, 3) := by decide +kernel
theorem d_M_drawn_4 : decode b_M_drawn 4 = .ok (.bipush 6, 2) := by decide +kernel
theorem d_M_drawn_6 : decode b_M_drawn 6 = .ok (.aload_n 0, 1) := by decide +kernel
theorem d_M_drawn_7 : decode b_M_drawn 7 = .ok (.getfield 7, 3) := by decide +kernel
theorem d_M_drawn_10 : decode b_M_drawn 10 = .ok (.bipush 6, 2) := by decide +kernel
theorem d_M_drawn_12 : decode b_M_drawn 12 = .ok (.iaload, 1) := by decide +kernel
theorem d_M_drawn_13 : decode b_M_drawn 13 = .ok (.ldc 132, 2) := by decide +kernel
theorem d_M_drawn_15 : decode b_M_drawn 15 = .ok (.imul, 1) := by decide +kernel
theorem d_M_drawn_16 : decode b_M_drawn 16 = .ok (.sipush 12345, 3) := by decide +kernel
theorem d_M_drawn_19 : decode b_M_drawn 19 = .ok (.iadd, 1) := by decide +kernel
theorem d_M_drawn_20 : decode b_M_drawn 20 = .ok (.iastore, 1) := by decide +kernel
theorem d_M_drawn_21 : decode b_M_drawn 21 = .ok (.aload_n 0, 1) := by decide +kernel
theorem d_M_drawn_22 : decode b_M_drawn 22 = .ok (.getfield 7, 3) := by decide +kernel
theorem d_M_drawn_25 : decode b_M_drawn 25 = .ok (.bipush 6, 2) := by decide +kernel
theorem d_M_drawn_27 : decode b_M_drawn 27 = .ok (.iaload, 1) := by decide +kernel
theorem d_M_drawn_28 : decode b_M_drawn 28 = .ok (.bipush 16, 2) := by decide +kernel
theorem d_M_drawn_30 : decode b_M_drawn 30 = .ok (.iushr, 1) := by decide +kernel
theorem d_M_drawn_31 : decode b_M_drawn 31 = .ok (.ireturn, 1) := by decide +kernel
theorem d_M_hour_0 : decode b_M_hour 0 = .ok (.aload_n 0, 1) := by decide +kernel
theorem d_M_hour_1 : decode b_M_hour 1 = .ok (.getfield 7, 3) := by decide +kernel
theorem d_M_hour_4 : decode b_M_hour 4 = .ok (.iconst 4, 1) := by decide +kernel
theorem d_M_hour_5 : decode b_M_hour 5 = .ok (.iaload, 1) := by decide +kernel
theorem d_M_hour_6 : decode b_M_hour 6 = .ok (.ifCond .le 64, 3) := by decide +kernel
theorem d_M_hour_9 : decode b_M_hour 9 = .ok (.aload_n 0, 1) := by decide +kernel
theorem d_M_hour_10 : decode b_M_hour 10 = .ok (.invokevirtual 133, 3) := by decide +kernel
theorem d_M_hour_13 : decode b_M_hour 13 = .ok (.aload_n 0, 1) := by decide +kernel
theorem d_M_hour_14 : decode b_M_hour 14 = .ok (.getfield 7, 3) := by decide +kernel
theorem d_M_hour_17 : decode b_M_hour 17 = .ok (.iconst 4, 1) := by decide +kernel
theorem d_M_hour_18 : decode b_M_hour 18 = .ok (.iaload, 1) := by decide +kernel
theorem d_M_hour_19 : decode b_M_hour 19 = .ok (.irem, 1) := by decide +kernel
theorem d_M_hour_20 : decode b_M_hour 20 = .ok (.istore_n 1, 1) := by decide +kernel
theorem d_M_hour_21 : decode b_M_hour 21 = .ok (.aload_n 0, 1) := by decide +kernel
theorem d_M_hour_22 : decode b_M_hour 22 = .ok (.invokevirtual 133, 3) := by decide +kernel
theorem d_M_hour_25 : decode b_M_hour 25 = .ok (.bipush 100, 2) := by decide +kernel
theorem d_M_hour_27 : decode b_M_hour 27 = .ok (.irem, 1) := by decide +kernel
theorem d_M_hour_28 : decode b_M_hour 28 = .ok (.aload_n 0, 1) := by decide +kernel
theorem d_M_hour_29 : decode b_M_hour 29 = .ok (.getfield 7, 3) := by decide +kernel
theorem d_M_hour_32 : decode b_M_hour 32 = .ok (.iconst 3, 1) := by decide +kernel
theorem d_M_hour_33 : decode b_M_hour 33 = .ok (.iaload, 1) := by decide +kernel
theorem d_M_hour_34 : decode b_M_hour 34 = .ok (.if_icmp .ge 7, 3) := by decide +kernel
theorem d_M_hour_37 : decode b_M_hour 37 = .ok (.iconst 1, 1) := by decide +kernel
theorem d_M_hour_38 : decode b_M_hour 38 = .ok (.goto 4, 3) := by decide +kernel
theorem d_M_hour_41 : decode b_M_hour 41 = .ok (.iconst 0, 1) := by decide +kernel
theorem d_M_hour_42 : decode b_M_hour 42 = .ok (.istore_n 2, 1) := by decide +kernel
theorem d_M_hour_43 : decode b_M_hour 43 = .ok (.aload_n 0, 1) := by decide +kernel
theorem d_M_hour_44 : decode b_M_hour 44 = .ok (.iload_n 1, 1) := by decide +kernel
theorem d_M_hour_45 : decode b_M_hour 45 = .ok (.iconst 1, 1) := by decide +kernel
theorem d_M_hour_46 : decode b_M_hour 46 = .ok (.iload_n 2, 1) := by decide +kernel
theorem d_M_hour_47 : decode b_M_hour 47 = .ok (.ifCond .eq 14, 3) := by decide +kernel
theorem d_M_hour_50 : decode b_M_hour 50 = .ok (.aload_n 0, 1) := by decide +kernel
theorem d_M_hour_51 : decode b_M_hour 51 = .ok (.iload_n 1, 1) := by decide +kernel
theorem d_M_hour_52 : decode b_M_hour 52 = .ok (.iconst 1, 1) := by decide +kernel
theorem d_M_hour_53 : decode b_M_hour 53 = .ok (.invokevirtual 64, 3) := by decide +kernel
theorem d_M_hour_56 : decode b_M_hour 56 = .ok (.iconst 2, 1) := by decide +kernel
theorem d_M_hour_57 : decode b_M_hour 57 = .ok (.idiv, 1) := by decide +kernel
theorem d_M_hour_58 : decode b_M_hour 58 = .ok (.goto 9, 3) := by decide +kernel
theorem d_M_hour_61 : decode b_M_hour 61 = .ok (.aload_n 0, 1) := by decide +kernel
theorem d_M_hour_62 : decode b_M_hour 62 = .ok (.iload_n 1, 1) := by decide +kernel
theorem d_M_hour_63 : decode b_M_hour 63 = .ok (.iconst 1, 1) := by decide +kernel
theorem d_M_hour_64 : decode b_M_hour 64 = .ok (.invokevirtual 64, 3) := by decide +kernel
theorem d_M_hour_67 : decode b_M_hour 67 = .ok (.invokevirtual 72, 3) := by decide +kernel
theorem d_M_hour_70 : decode b_M_hour 70 = .ok (.aload_n 0, 1) := by decide +kernel
theorem d_M_hour_71 : decode b_M_hour 71 = .ok (.invokevirtual 95, 3) := by decide +kernel
theorem d_M_hour_74 : decode b_M_hour 74 = .ok (.aload_n 0, 1) := by decide +kernel
theorem d_M_hour_75 : decode b_M_hour 75 = .ok (.invokevirtual 128, 3) := by decide +kernel
theorem d_M_hour_78 : decode b_M_hour 78 = .ok (.ireturn, 1) := by decide +kernel
theorem d_M_cargoBehind_0 : decode b_M_cargoBehind 0 = .ok (.aload_n 0, 1) := by decide +kernel
theorem d_M_cargoBehind_1 : decode b_M_cargoBehind 1 = .ok (.iload_n 1, 1) := by decide +kernel
theorem d_M_cargoBehind_2 : decode b_M_cargoBehind 2 = .ok (.invokevirtual 125, 3) := by decide +kernel
theorem d_M_cargoBehind_5 : decode b_M_cargoBehind 5 = .ok (.aload_n 0, 1) := by decide +kernel
theorem d_M_cargoBehind_6 : decode b_M_cargoBehind 6 = .ok (.invokevirtual 128, 3) := by decide +kernel
theorem d_M_cargoBehind_9 : decode b_M_cargoBehind 9 = .ok (.istore_n 2, 1) := by decide +kernel
theorem d_M_cargoBehind_10 : decode b_M_cargoBehind 10 = .ok (.aload_n 0, 1) := by decide +kernel
theorem d_M_cargoBehind_11 : decode b_M_cargoBehind 11 = .ok (.invokevirtual 147, 3) := by decide +kernel
theorem d_M_cargoBehind_14 : decode b_M_cargoBehind 14 = .ok (.iload_n 2, 1) := by decide +kernel
theorem d_M_cargoBehind_15 : decode b_M_cargoBehind 15 = .ok (.ireturn, 1) := by decide +kernel
theorem d_M_spoilt_0 : decode b_M_spoilt 0 = .ok (.iload_n 1, 1) := by decide +kernel
theorem d_M_spoilt_1 : decode b_M_spoilt 1 = .ok (.i2l, 1) := by decide +kernel
theorem d_M_spoilt_2 : decode b_M_spoilt 2 = .ok (.lconst 1, 1) := by decide +kernel
theorem d_M_spoilt_3 : decode b_M_spoilt 3 = .ok (.ldc2_w 136, 3) := by decide +kernel
theorem d_M_spoilt_6 : decode b_M_spoilt 6 = .ok (.invokestatic 58, 3) := by decide +kernel
theorem d_M_spoilt_9 : decode b_M_spoilt 9 = .ok (.ifCond .ne 5, 3) := by decide +kernel
theorem d_M_spoilt_12 : decode b_M_spoilt 12 = .ok (.iconst (-1), 1) := by decide +kernel
theorem d_M_spoilt_13 : decode b_M_spoilt 13 = .ok (.ireturn, 1) := by decide +kernel
theorem d_M_spoilt_14 : decode b_M_spoilt 14 = .ok (.aload_n 0, 1) := by decide +kernel
theorem d_M_spoilt_15 : decode b_M_spoilt 15 = .ok (.invokevirtual 138, 3) := by decide +kernel
theorem d_M_spoilt_18 : decode b_M_spoilt 18 = .ok (.aload_n 0, 1) := by decide +kernel
theorem d_M_spoilt_19 : decode b_M_spoilt 19 = .ok (.iconst 1, 1) := by decide +kernel
theorem d_M_spoilt_20 : decode b_M_spoilt 20 = .ok (.invokevirtual 141, 3) := by decide +kernel
theorem d_M_spoilt_23 : decode b_M_spoilt 23 = .ok (.istore_n 2, 1) := by decide +kernel
theorem d_M_spoilt_24 : decode b_M_spoilt 24 = .ok (.iconst 0, 1) := by decide +kernel
theorem d_M_spoilt_25 : decode b_M_spoilt 25 = .ok (.istore_n 3, 1) := by decide +kernel
theorem d_M_spoilt_26 : decode b_M_spoilt 26 = .ok (.iconst 0, 1) := by decide +kernel
theorem d_M_spoilt_27 : decode b_M_spoilt 27 = .ok (.istore 4, 2) := by decide +kernel
theorem d_M_spoilt_29 : decode b_M_spoilt 29 = .ok (.iload 4, 2) := by decide +kernel
theorem d_M_spoilt_31 : decode b_M_spoilt 31 = .ok (.iload_n 1, 1) := by decide +kernel
theorem d_M_spoilt_32 : decode b_M_spoilt 32 = .ok (.if_icmp .ge 47, 3) := by decide +kernel
theorem d_M_spoilt_35 : decode b_M_spoilt 35 = .ok (.iload_n 3, 1) := by decide +kernel
theorem d_M_spoilt_36 : decode b_M_spoilt 36 = .ok (.aload_n 0, 1) := by decide +kernel
theorem d_M_spoilt_37 : decode b_M_spoilt 37 = .ok (.invokevirtual 144, 3) := by decide +kernel
theorem d_M_spoilt_40 : decode b_M_spoilt 40 = .ok (.iload_n 2, 1) := by decide +kernel
theorem d_M_spoilt_41 : decode b_M_spoilt 41 = .ok (.if_icmp .ge 7, 3) := by decide +kernel
theorem d_M_spoilt_44 : decode b_M_spoilt 44 = .ok (.iconst 1, 1) := by decide +kernel
theorem d_M_spoilt_45 : decode b_M_spoilt 45 = .ok (.goto 4, 3) := by decide +kernel
theorem d_M_spoilt_48 : decode b_M_spoilt 48 = .ok (.iconst 0, 1) := by decide +kernel
theorem d_M_spoilt_49 : decode b_M_spoilt 49 = .ok (.iadd, 1) := by decide +kernel
theorem d_M_spoilt_50 : decode b_M_spoilt 50 = .ok (.istore_n 3, 1) := by decide +kernel
theorem d_M_spoilt_51 : decode b_M_spoilt 51 = .ok (.aload_n 0, 1) := by decide +kernel
theorem d_M_spoilt_52 : decode b_M_spoilt 52 = .ok (.getfield 7, 3) := by decide +kernel
theorem d_M_spoilt_55 : decode b_M_spoilt 55 = .ok (.bipush 6, 2) := by decide +kernel
theorem d_M_spoilt_57 : decode b_M_spoilt 57 = .ok (.iaload, 1) := by decide +kernel
theorem d_M_spoilt_58 : decode b_M_spoilt 58 = .ok (.istore 5, 2) := by decide +kernel
theorem d_M_spoilt_60 : decode b_M_spoilt 60 = .ok (.aload_n 0, 1) := by decide +kernel
theorem d_M_spoilt_61 : decode b_M_spoilt 61 = .ok (.invokevirtual 147, 3) := by decide +kernel
theorem d_M_spoilt_64 : decode b_M_spoilt 64 = .ok (.aload_n 0, 1) := by decide +kernel
theorem d_M_spoilt_65 : decode b_M_spoilt 65 = .ok (.getfield 7, 3) := by decide +kernel
theorem d_M_spoilt_68 : decode b_M_spoilt 68 = .ok (.bipush 6, 2) := by decide +kernel
theorem d_M_spoilt_70 : decode b_M_spoilt 70 = .ok (.iload 5, 2) := by decide +kernel
theorem d_M_spoilt_72 : decode b_M_spoilt 72 = .ok (.iastore, 1) := by decide +kernel
theorem d_M_spoilt_73 : decode b_M_spoilt 73 = .ok (.iinc 4 1, 3) := by decide +kernel
theorem d_M_spoilt_76 : decode b_M_spoilt 76 = .ok (.goto (-47), 3) := by decide +kernel
theorem d_M_spoilt_79 : decode b_M_spoilt 79 = .ok (.aload_n 0, 1) := by decide +kernel
theorem d_M_spoilt_80 : decode b_M_spoilt 80 = .ok (.invokevirtual 147, 3) := by decide +kernel
theorem d_M_spoilt_83 : decode b_M_spoilt 83 = .ok (.iload_n 3, 1) := by decide +kernel
theorem d_M_spoilt_84 : decode b_M_spoilt 84 = .ok (.ireturn, 1) := by decide +kernel
theorem d_M_loudest_0 : decode b_M_loudest 0 = .ok (.iconst 0, 1) := by decide +kernel
theorem d_M_loudest_1 : decode b_M_loudest 1 = .ok (.istore_n 1, 1) := by decide +kernel
theorem d_M_loudest_2 : decode b_M_loudest 2 = .ok (.iconst 0, 1) := by decide +kernel
theorem d_M_loudest_3 : decode b_M_loudest 3 = .ok (.istore_n 2, 1) := by decide +kernel
theorem d_M_loudest_4 : decode b_M_loudest 4 = .ok (.iload_n 2, 1) := by decide +kernel
theorem d_M_loudest_5 : decode b_M_loudest 5 = .ok (.bipush 10, 2) := by decide +kernel
theorem d_M_loudest_7 : decode b_M_loudest 7 = .ok (.if_icmp .ge 36, 3) := by decide +kernel
theorem d_M_loudest_10 : decode b_M_loudest 10 = .ok (.aload_n 0, 1) := by decide +kernel
theorem d_M_loudest_11 : decode b_M_loudest 11 = .ok (.getfield 7, 3) := by decide +kernel
theorem d_M_loudest_14 : decode b_M_loudest 14 = .ok (.bipush 17, 2) := by decide +kernel
theorem d_M_loudest_16 : decode b_M_loudest 16 = .ok (.iload_n 2, 1) := by decide +kernel
theorem d_M_loudest_17 : decode b_M_loudest 17 = .ok (.iadd, 1) := by decide +kernel
theorem d_M_loudest_18 : decode b_M_loudest 18 = .ok (.iaload, 1) := by decide +kernel
theorem d_M_loudest_19 : decode b_M_loudest 19 = .ok (.aload_n 0, 1) := by decide +kernel
theorem d_M_loudest_20 : decode b_M_loudest 20 = .ok (.getfield 7, 3) := by decide +kernel
theorem d_M_loudest_23 : decode b_M_loudest 23 = .ok (.bipush 17, 2) := by decide +kernel
theorem d_M_loudest_25 : decode b_M_loudest 25 = .ok (.iload_n 1, 1) := by decide +kernel
theorem d_M_loudest_26 : decode b_M_loudest 26 = .ok (.iadd, 1) := by decide +kernel
theorem d_M_loudest_27 : decode b_M_loudest 27 = .ok (.iaload, 1) := by decide +kernel
theorem d_M_loudest_28 : decode b_M_loudest 28 = .ok (.if_icmp .le 7, 3) := by decide +kernel
theorem d_M_loudest_31 : decode b_M_loudest 31 = .ok (.iload_n 2, 1) := by decide +kernel
theorem d_M_loudest_32 : decode b_M_loudest 32 = .ok (.goto 4, 3) := by decide +kernel
theorem d_M_loudest_35 : decode b_M_loudest 35 = .ok (.iload_n 1, 1) := by decide +kernel
theorem d_M_loudest_36 : decode b_M_loudest 36 = .ok (.istore_n 1, 1) := by decide +kernel
theorem d_M_loudest_37 : decode b_M_loudest 37 = .ok (.iinc 2 1, 3) := by decide +kernel
theorem d_M_loudest_40 : decode b_M_loudest 40 = .ok (.goto (-36), 3) := by decide +kernel
theorem d_M_loudest_43 : decode b_M_loudest 43 = .ok (.aload_n 0, 1) := by decide +kernel
theorem d_M_loudest_44 : decode b_M_loudest 44 = .ok (.getfield 7, 3) := by decide +kernel
theorem d_M_loudest_47 : decode b_M_loudest 47 = .ok (.bipush 17, 2) := by decide +kernel
theorem d_M_loudest_49 : decode b_M_loudest 49 = .ok (.iload_n 1, 1) := by decide +kernel
theorem d_M_loudest_50 : decode b_M_loudest 50 = .ok (.iadd, 1) := by decide +kernel
theorem d_M_loudest_51 : decode b_M_loudest 51 = .ok (.iaload, 1) := by decide +kernel
theorem d_M_loudest_52 : decode b_M_loudest 52 = .ok (.ifCond .ne 8, 3) := by decide +kernel
theorem d_M_loudest_55 : decode b_M_loudest 55 = .ok (.bipush 10, 2) := by decide +kernel
theorem d_M_loudest_57 : decode b_M_loudest 57 = .ok (.goto 4, 3) := by decide +kernel
theorem d_M_loudest_60 : decode b_M_loudest 60 = .ok (.iload_n 1, 1) := by decide +kernel
theorem d_M_loudest_61 : decode b_M_loudest 61 = .ok (.ireturn, 1) := by decide +kernel
theorem d_M_state_0 : decode b_M_state 0 = .ok (.iload_n 1, 1) := by decide +kernel
theorem d_M_state_1 : decode b_M_state 1 = .ok (.tableswitch 71 0 5 #[39, 46, 51, 56, 61, 66], 39) := by decide +kernel
theorem d_M_state_40 : decode b_M_state 40 = .ok (.aload_n 0, 1) := by decide +kernel
theorem d_M_state_41 : decode b_M_state 41 = .ok (.getfield 7, 3) := by decide +kernel
theorem d_M_state_44 : decode b_M_state 44 = .ok (.iconst 5, 1) := by decide +kernel
theorem d_M_state_45 : decode b_M_state 45 = .ok (.iaload, 1) := by decide +kernel
theorem d_M_state_46 : decode b_M_state 46 = .ok (.ireturn, 1) := by decide +kernel
theorem d_M_state_47 : decode b_M_state 47 = .ok (.aload_n 0, 1) := by decide +kernel
theorem d_M_state_48 : decode b_M_state 48 = .ok (.invokevirtual 128, 3) := by decide +kernel
theorem d_M_state_51 : decode b_M_state 51 = .ok (.ireturn, 1) := by decide +kernel
theorem d_M_state_52 : decode b_M_state 52 = .ok (.aload_n 0, 1) := by decide +kernel
theorem d_M_state_53 : decode b_M_state 53 = .ok (.invokevirtual 150, 3) := by decide +kernel
theorem d_M_state_56 : decode b_M_state 56 = .ok (.ireturn, 1) := by decide +kernel
theorem d_M_state_57 : decode b_M_state 57 = .ok (.aload_n 0, 1) := by decide +kernel
theorem d_M_state_58 : decode b_M_state 58 = .ok (.invokevirtual 153, 3) := by decide +kernel
theorem d_M_state_61 : decode b_M_state 61 = .ok (.ireturn, 1) := by decide +kernel
theorem d_M_state_62 : decode b_M_state 62 = .ok (.aload_n 0, 1) := by decide +kernel
theorem d_M_state_63 : decode b_M_state 63 = .ok (.invokevirtual 156, 3) := by decide +kernel
theorem d_M_state_66 : decode b_M_state 66 = .ok (.ireturn, 1) := by decide +kernel
theorem d_M_state_67 : decode b_M_state 67 = .ok (.aload_n 0, 1) := by decide +kernel
theorem d_M_state_68 : decode b_M_state 68 = .ok (.invokevirtual 159, 3) := by decide +kernel
theorem d_M_state_71 : decode b_M_state 71 = .ok (.ireturn, 1) := by decide +kernel
theorem d_M_state_72 : decode b_M_state 72 = .ok (.iconst (-1), 1) := by decide +kernel
theorem d_M_state_73 : decode b_M_state 73 = .ok (.ireturn, 1) := by decide +kernel
theorem d_M_behind_0 : decode b_M_behind 0 = .ok (.aload_n 0, 1) := by decide +kernel
theorem d_M_behind_1 : decode b_M_behind 1 = .ok (.iload_n 1, 1) := by decide +kernel
theorem d_M_behind_2 : decode b_M_behind 2 = .ok (.invokevirtual 125, 3) := by decide +kernel
theorem d_M_behind_5 : decode b_M_behind 5 = .ok (.aload_n 0, 1) := by decide +kernel
theorem d_M_behind_6 : decode b_M_behind 6 = .ok (.getfield 7, 3) := by decide +kernel
theorem d_M_behind_9 : decode b_M_behind 9 = .ok (.iload_n 2, 1) := by decide +kernel
theorem d_M_behind_10 : decode b_M_behind 10 = .ok (.iaload, 1) := by decide +kernel
theorem d_M_behind_11 : decode b_M_behind 11 = .ok (.istore_n 3, 1) := by decide +kernel
theorem d_M_behind_12 : decode b_M_behind 12 = .ok (.aload_n 0, 1) := by decide +kernel
theorem d_M_behind_13 : decode b_M_behind 13 = .ok (.invokevirtual 147, 3) := by decide +kernel
theorem d_M_behind_16 : decode b_M_behind 16 = .ok (.iload_n 3, 1) := by decide +kernel
theorem d_M_behind_17 : decode b_M_behind 17 = .ok (.ireturn, 1) := by decide +kernel
theorem d_M_loadOf_0 : decode b_M_loadOf 0 = .ok (.bipush 35, 2) := by decide +kernel
theorem d_M_loadOf_2 : decode b_M_loadOf 2 = .ok (.iload_n 0, 1) := by decide +kernel
theorem d_M_loadOf_3 : decode b_M_loadOf 3 = .ok (.iadd, 1) := by decide +kernel
theorem d_M_loadOf_4 : decode b_M_loadOf 4 = .ok (.ireturn, 1) := by decide +kernel
theorem d_M_freight_0 : decode b_M_freight 0 = .ok (.aload_n 0, 1) := by decide +kernel
theorem d_M_freight_1 : decode b_M_freight 1 = .ok (.iload_n 1, 1) := by decide +kernel
theorem d_M_freight_2 : decode b_M_freight 2 = .ok (.invokevirtual 118, 3) := by decide +kernel
theorem d_M_freight_5 : decode b_M_freight 5 = .ok (.ifCond .eq 15, 3) := by decide +kernel
theorem d_M_freight_8 : decode b_M_freight 8 = .ok (.iload_n 2, 1) := by decide +kernel
theorem d_M_freight_9 : decode b_M_freight 9 = .ok (.i2l, 1) := by decide +kernel
theorem d_M_freight_10 : decode b_M_freight 10 = .ok (.lconst 0, 1) := by decide +kernel
theorem d_M_freight_11 : decode b_M_freight 11 = .ok (.ldc2_w 123, 3) := by decide +kernel
theorem d_M_freight_14 : decode b_M_freight 14 = .ok (.invokestatic 58, 3) := by decide +kernel
theorem d_M_freight_17 : decode b_M_freight 17 = .ok (.ifCond .ne 5, 3) := by decide +kernel
theorem d_M_freight_20 : decode b_M_freight 20 = .ok (.iconst (-1), 1) := by decide +kernel
theorem d_M_freight_21 : decode b_M_freight 21 = .ok (.ireturn, 1) := by decide +kernel
theorem d_M_freight_22 : decode b_M_freight 22 = .ok (.aload_n 0, 1) := by decide +kernel
theorem d_M_freight_23 : decode b_M_freight 23 = .ok (.invokevirtual 138, 3) := by decide +kernel
theorem d_M_freight_26 : decode b_M_freight 26 = .ok (.aload_n 0, 1) := by decide +kernel
theorem d_M_freight_27 : decode b_M_freight 27 = .ok (.iload_n 2, 1) := by decide +kernel
theorem d_M_freight_28 : decode b_M_freight 28 = .ok (.iload_n 1, 1) := by decide +kernel
theorem d_M_freight_29 : decode b_M_freight 29 = .ok (.invokestatic 162, 3) := by decide +kernel
theorem d_M_freight_32 : decode b_M_freight 32 = .ok (.invokevirtual 165, 3) := by decide +kernel
theorem d_M_freight_35 : decode b_M_freight 35 = .ok (.ireturn, 1) := by decide +kernel
theorem d_M_lands_0 : decode b_M_lands 0 = .ok (.aload_n 0, 1) := by decide +kernel
theorem d_M_lands_1 : decode b_M_lands 1 = .ok (.iload_n 1, 1) := by decide +kernel
theorem d_M_lands_2 : decode b_M_lands 2 = .ok (.invokevirtual 118, 3) := by decide +kernel
theorem d_M_lands_5 : decode b_M_lands 5 = .ok (.ifCond .ne 5, 3) := by decide +kernel
theorem d_M_lands_8 : decode b_M_lands 8 = .ok (.iconst (-1), 1) := by decide +kernel
theorem d_M_lands_9 : decode b_M_lands 9 = .ok (.ireturn, 1) := by decide +kernel
theorem d_M_lands_10 : decode b_M_lands 10 = .ok (.aload_n 0, 1) := by decide +kernel
theorem d_M_lands_11 : decode b_M_lands 11 = .ok (.invokevirtual 138, 3) := by decide +kernel
theorem d_M_lands_14 : decode b_M_lands 14 = .ok (.iconst 0, 1) := by decide +kernel
theorem d_M_lands_15 : decode b_M_lands 15 = .ok (.istore_n 2, 1) := by decide +kernel
theorem d_M_lands_16 : decode b_M_lands 16 = .ok (.iload_n 2, 1) := by decide +kernel
theorem d_M_lands_17 : decode b_M_lands 17 = .ok (.bipush 60, 2) := by decide +kernel
theorem d_M_lands_19 : decode b_M_lands 19 = .ok (.if_icmp .ge 21, 3) := by decide +kernel
theorem d_M_lands_22 : decode b_M_lands 22 = .ok (.aload_n 0, 1) := by decide +kernel
theorem d_M_lands_23 : decode b_M_lands 23 = .ok (.iload_n 1, 1) := by decide +kernel
theorem d_M_lands_24 : decode b_M_lands 24 = .ok (.invokevirtual 80, 3) := by decide +kernel
theorem d_M_lands_27 : decode b_M_lands 27 = .ok (.ifCond .ne 13, 3) := by decide +kernel
theorem d_M_lands_30 : decode b_M_lands 30 = .ok (.aload_n 0, 1) := by decide +kernel
theorem d_M_lands_31 : decode b_M_lands 31 = .ok (.invokevirtual 95, 3) := by decide +kernel
theorem d_M_lands_34 : decode b_M_lands 34 = .ok (.iinc 2 1, 3) := by decide +kernel
theorem d_M_lands_37 : decode b_M_lands 37 = .ok (.goto (-21), 3) := by decide +kernel
theorem d_M_lands_40 : decode b_M_lands 40 = .ok (.aload_n 0, 1) := by decide +kernel
theorem d_M_lands_41 : decode b_M_lands 41 = .ok (.iload_n 1, 1) := by decide +kernel
theorem d_M_lands_42 : decode b_M_lands 42 = .ok (.invokevirtual 80, 3) := by decide +kernel
theorem d_M_lands_45 : decode b_M_lands 45 = .ok (.istore_n 3, 1) := by decide +kernel
theorem d_M_lands_46 : decode b_M_lands 46 = .ok (.aload_n 0, 1) := by decide +kernel
theorem d_M_lands_47 : decode b_M_lands 47 = .ok (.invokevirtual 147, 3) := by decide +kernel
theorem d_M_lands_50 : decode b_M_lands 50 = .ok (.iload_n 3, 1) := by decide +kernel
theorem d_M_lands_51 : decode b_M_lands 51 = .ok (.ifCond .eq 7, 3) := by decide +kernel
theorem d_M_lands_54 : decode b_M_lands 54 = .ok (.iload_n 2, 1) := by decide +kernel
theorem d_M_lands_55 : decode b_M_lands 55 = .ok (.goto 5, 3) := by decide +kernel
theorem d_M_lands_58 : decode b_M_lands 58 = .ok (.bipush (-3), 2) := by decide +kernel
theorem d_M_lands_60 : decode b_M_lands 60 = .ok (.ireturn, 1) := by decide +kernel
theorem d_M_meets_0 : decode b_M_meets 0 = .ok (.aload_n 0, 1) := by decide +kernel
theorem d_M_meets_1 : decode b_M_meets 1 = .ok (.iload_n 1, 1) := by decide +kernel
theorem d_M_meets_2 : decode b_M_meets 2 = .ok (.invokevirtual 118, 3) := by decide +kernel
theorem d_M_meets_5 : decode b_M_meets 5 = .ok (.ifCond .eq 16, 3) := by decide +kernel
theorem d_M_meets_8 : decode b_M_meets 8 = .ok (.aload_n 0, 1) := by decide +kernel
theorem d_M_meets_9 : decode b_M_meets 9 = .ok (.iload_n 2, 1) := by decide +kernel
theorem d_M_meets_10 : decode b_M_meets 10 = .ok (.invokevirtual 118, 3) := by decide +kernel
theorem d_M_meets_13 : decode b_M_meets 13 = .ok (.ifCond .eq 8, 3) := by decide +kernel
theorem d_M_meets_16 : decode b_M_meets 16 = .ok (.iload_n 1, 1) := by decide +kernel
theorem d_M_meets_17 : decode b_M_meets 17 = .ok (.iload_n 2, 1) := by decide +kernel
theorem d_M_meets_18 : decode b_M_meets 18 = .ok (.if_icmp .ne 5, 3) := by decide +kernel
theorem d_M_meets_21 : decode b_M_meets 21 = .ok (.iconst (-1), 1) := by decide +kernel
theorem d_M_meets_22 : decode b_M_meets 22 = .ok (.ireturn, 1) := by decide +kernel
theorem d_M_meets_23 : decode b_M_meets 23 = .ok (.aload_n 0, 1) := by decide +kernel
theorem d_M_meets_24 : decode b_M_meets 24 = .ok (.invokevirtual 138, 3) := by decide +kernel
theorem d_M_meets_27 : decode b_M_meets 27 = .ok (.iconst 0, 1) := by decide +kernel
theorem d_M_meets_28 : decode b_M_meets 28 = .ok (.istore_n 3, 1) := by decide +kernel
theorem d_M_meets_29 : decode b_M_meets 29 = .ok (.iload_n 3, 1) := by decide +kernel
theorem d_M_meets_30 : decode b_M_meets 30 = .ok (.bipush 60, 2) := by decide +kernel
theorem d_M_meets_32 : decode b_M_meets 32 = .ok (.if_icmp .ge 28, 3) := by decide +kernel
theorem d_M_meets_35 : decode b_M_meets 35 = .ok (.aload_n 0, 1) := by decide +kernel
theorem d_M_meets_36 : decode b_M_meets 36 = .ok (.iload_n 1, 1) := by decide +kernel
theorem d_M_meets_37 : decode b_M_meets 37 = .ok (.iconst 3, 1) := by decide +kernel
theorem d_M_meets_38 : decode b_M_meets 38 = .ok (.invokevirtual 64, 3) := by decide +kernel
theorem d_M_meets_41 : decode b_M_meets 41 = .ok (.aload_n 0, 1) := by decide +kernel
theorem d_M_meets_42 : decode b_M_meets 42 = .ok (.iload_n 2, 1) := by decide +kernel
theorem d_M_meets_43 : decode b_M_meets 43 = .ok (.iconst 3, 1) := by decide +kernel
theorem d_M_meets_44 : decode b_M_meets 44 = .ok (.invokevirtual 64, 3) := by decide +kernel
theorem d_M_meets_47 : decode b_M_meets 47 = .ok (.if_icmp .eq 13, 3) := by decide +kernel
theorem d_M_meets_50 : decode b_M_meets 50 = .ok (.aload_n 0, 1) := by decide +kernel
theorem d_M_meets_51 : decode b_M_meets 51 = .ok (.invokevirtual 95, 3) := by decide +kernel
theorem d_M_meets_54 : decode b_M_meets 54 = .ok (.iinc 3 1, 3) := by decide +kernel
theorem d_M_meets_57 : decode b_M_meets 57 = .ok (.goto (-28), 3) := by decide +kernel
theorem d_M_meets_60 : decode b_M_meets 60 = .ok (.aload_n 0, 1) := by decide +kernel
theorem d_M_meets_61 : decode b_M_meets 61 = .ok (.iload_n 1, 1) := by decide +kernel
theorem d_M_meets_62 : decode b_M_meets 62 = .ok (.iconst 3, 1) := by decide +kernel
theorem d_M_meets_63 : decode b_M_meets 63 = .ok (.invokevirtual 64, 3) := by decide +kernel
theorem d_M_meets_66 : decode b_M_meets 66 = .ok (.aload_n 0, 1) := by decide +kernel
theorem d_M_meets_67 : decode b_M_meets 67 = .ok (.iload_n 2, 1) := by decide +kernel
theorem d_M_meets_68 : decode b_M_meets 68 = .ok (.iconst 3, 1) := by decide +kernel
theorem d_M_meets_69 : decode b_M_meets 69 = .ok (.invokevirtual 64, 3) := by decide +kernel
theorem d_M_meets_72 : decode b_M_meets 72 = .ok (.if_icmp .ne 7, 3) := by decide +kernel
theorem d_M_meets_75 : decode b_M_meets 75 = .ok (.iconst 1, 1) := by decide +kernel
theorem d_M_meets_76 : decode b_M_meets 76 = .ok (.goto 4, 3) := by decide +kernel
theorem d_M_meets_79 : decode b_M_meets 79 = .ok (.iconst 0, 1) := by decide +kernel
theorem d_M_meets_80 : decode b_M_meets 80 = .ok (.istore 4, 2) := by decide +kernel
theorem d_M_meets_82 : decode b_M_meets 82 = .ok (.aload_n 0, 1) := by decide +kernel
theorem d_M_meets_83 : decode b_M_meets 83 = .ok (.invokevirtual 147, 3) := by decide +kernel
theorem d_M_meets_86 : decode b_M_meets 86 = .ok (.iload 4, 2) := by decide +kernel
theorem d_M_meets_88 : decode b_M_meets 88 = .ok (.ifCond .eq 7, 3) := by decide +kernel
theorem d_M_meets_91 : decode b_M_meets 91 = .ok (.iload_n 3, 1) := by decide +kernel
theorem d_M_meets_92 : decode b_M_meets 92 = .ok (.goto 5, 3) := by decide +kernel
theorem d_M_meets_95 : decode b_M_meets 95 = .ok (.bipush (-3), 2) := by decide +kernel
theorem d_M_meets_97 : decode b_M_meets 97 = .ok (.ireturn, 1) := by decide +kernel
theorem d_M_quiet_0 : decode b_M_quiet 0 = .ok (.aload_n 0, 1) := by decide +kernel
theorem d_M_quiet_1 : decode b_M_quiet 1 = .ok (.invokevirtual 138, 3) := by decide +kernel
theorem d_M_quiet_4 : decode b_M_quiet 4 = .ok (.iconst 1, 1) := by decide +kernel
theorem d_M_quiet_5 : decode b_M_quiet 5 = .ok (.aload_n 0, 1) := by decide +kernel
theorem d_M_quiet_6 : decode b_M_quiet 6 = .ok (.getfield 7, 3) := by decide +kernel
theorem d_M_quiet_9 : decode b_M_quiet 9 = .ok (.iconst 4, 1) := by decide +kernel
theorem d_M_quiet_10 : decode b_M_quiet 10 = .ok (.iaload, 1) := by decide +kernel
theorem d_M_quiet_11 : decode b_M_quiet 11 = .ok (.ishl, 1) := by decide +kernel
theorem d_M_quiet_12 : decode b_M_quiet 12 = .ok (.iconst 1, 1) := by decide +kernel
theorem d_M_quiet_13 : decode b_M_quiet 13 = .ok (.isub, 1) := by decide +kernel
theorem d_M_quiet_14 : decode b_M_quiet 14 = .ok (.istore_n 1, 1) := by decide +kernel
theorem d_M_quiet_15 : decode b_M_quiet 15 = .ok (.iconst 0, 1) := by decide +kernel
theorem d_M_quiet_16 : decode b_M_quiet 16 = .ok (.istore_n 2, 1) := by decide +kernel
theorem d_M_quiet_17 : decode b_M_quiet 17 = .ok (.iload_n 2, 1) := by decide +kernel
theorem d_M_quiet_18 : decode b_M_quiet 18 = .ok (.bipush 60, 2) := by decide +kernel
theorem d_M_quiet_20 : decode b_M_quiet 20 = .ok (.if_icmp .ge 21, 3) := by decide +kernel
theorem d_M_quiet_23 : decode b_M_quiet 23 = .ok (.aload_n 0, 1) := by decide +kernel
theorem d_M_quiet_24 : decode b_M_quiet 24 = .ok (.invokevirtual 153, 3) := by decide +kernel
theorem d_M_quiet_27 : decode b_M_quiet 27 = .ok (.iload_n 1, 1) := by decide +kernel
theorem d_M_quiet_28 : decode b_M_quiet 28 = .ok (.if_icmp .eq 13, 3) := by decide +kernel
theorem d_M_quiet_31 : decode b_M_quiet 31 = .ok (.aload_n 0, 1) := by decide +kernel
theorem d_M_quiet_32 : decode b_M_quiet 32 = .ok (.invokevirtual 95, 3) := by decide +kernel
theorem d_M_quiet_35 : decode b_M_quiet 35 = .ok (.iinc 2 1, 3) := by decide +kernel
theorem d_M_quiet_38 : decode b_M_quiet 38 = .ok (.goto (-21), 3) := by decide +kernel
theorem d_M_quiet_41 : decode b_M_quiet 41 = .ok (.aload_n 0, 1) := by decide +kernel
theorem d_M_quiet_42 : decode b_M_quiet 42 = .ok (.invokevirtual 153, 3) := by decide +kernel
theorem d_M_quiet_45 : decode b_M_quiet 45 = .ok (.iload_n 1, 1) := by decide +kernel
theorem d_M_quiet_46 : decode b_M_quiet 46 = .ok (.if_icmp .ne 7, 3) := by decide +kernel
theorem d_M_quiet_49 : decode b_M_quiet 49 = .ok (.iconst 1, 1) := by decide +kernel
theorem d_M_quiet_50 : decode b_M_quiet 50 = .ok (.goto 4, 3) := by decide +kernel
theorem d_M_quiet_53 : decode b_M_quiet 53 = .ok (.iconst 0, 1) := by decide +kernel
theorem d_M_quiet_54 : decode b_M_quiet 54 = .ok (.istore_n 3, 1) := by decide +kernel
theorem d_M_quiet_55 : decode b_M_quiet 55 = .ok (.aload_n 0, 1) := by decide +kernel
theorem d_M_quiet_56 : decode b_M_quiet 56 = .ok (.invokevirtual 147, 3) := by decide +kernel
theorem d_M_quiet_59 : decode b_M_quiet 59 = .ok (.iload_n 3, 1) := by decide +kernel
theorem d_M_quiet_60 : decode b_M_quiet 60 = .ok (.ifCond .eq 7, 3) := by decide +kernel
theorem d_M_quiet_63 : decode b_M_quiet 63 = .ok (.iload_n 2, 1) := by decide +kernel
theorem d_M_quiet_64 : decode b_M_quiet 64 = .ok (.goto 5, 3) := by decide +kernel
theorem d_M_quiet_67 : decode b_M_quiet 67 = .ok (.bipush (-3), 2) := by decide +kernel
theorem d_M_quiet_69 : decode b_M_quiet 69 = .ok (.ireturn, 1) := by decide +kernel
theorem d_M_cargo_0 : decode b_M_cargo 0 = .ok (.iload_n 1, 1) := by decide +kernel
theorem d_M_cargo_1 : decode b_M_cargo 1 = .ok (.i2l, 1) := by decide +kernel
theorem d_M_cargo_2 : decode b_M_cargo 2 = .ok (.lconst 0, 1) := by decide +kernel
theorem d_M_cargo_3 : decode b_M_cargo 3 = .ok (.ldc2_w 123, 3) := by decide +kernel
theorem d_M_cargo_6 : decode b_M_cargo 6 = .ok (.invokestatic 58, 3) := by decide +kernel
theorem d_M_cargo_9 : decode b_M_cargo 9 = .ok (.ifCond .ne 5, 3) := by decide +kernel
theorem d_M_cargo_12 : decode b_M_cargo 12 = .ok (.iconst (-1), 1) := by decide +kernel
theorem d_M_cargo_13 : decode b_M_cargo 13 = .ok (.ireturn, 1) := by decide +kernel
theorem d_M_cargo_14 : decode b_M_cargo 14 = .ok (.aload_n 0, 1) := by decide +kernel
theorem d_M_cargo_15 : decode b_M_cargo 15 = .ok (.invokevirtual 138, 3) := by decide +kernel
theorem d_M_cargo_18 : decode b_M_cargo 18 = .ok (.aload_n 0, 1) := by decide +kernel
theorem d_M_cargo_19 : decode b_M_cargo 19 = .ok (.iload_n 1, 1) := by decide +kernel
theorem d_M_cargo_20 : decode b_M_cargo 20 = .ok (.invokevirtual 141, 3) := by decide +kernel
theorem d_M_cargo_23 : decode b_M_cargo 23 = .ok (.ireturn, 1) := by decide +kernel
theorem d_M_isShort_0 : decode b_M_isShort 0 = .ok (.iload_n 0, 1) := by decide +kernel
theorem d_M_isShort_1 : decode b_M_isShort 1 = .ok (.i2l, 1) := by decide +kernel
theorem d_M_isShort_2 : decode b_M_isShort 2 = .ok (.lconst 1, 1) := by decide +kernel
theorem d_M_isShort_3 : decode b_M_isShort 3 = .ok (.ldc2_w 136, 3) := by decide +kernel
theorem d_M_isShort_6 : decode b_M_isShort 6 = .ok (.invokestatic 58, 3) := by decide +kernel
theorem d_M_isShort_9 : decode b_M_isShort 9 = .ok (.ireturn, 1) := by decide +kernel
theorem d_M_stillFor_0 : decode b_M_stillFor 0 = .ok (.aload_n 0, 1) := by decide +kernel
theorem d_M_stillFor_1 : decode b_M_stillFor 1 = .ok (.iload_n 1, 1) := by decide +kernel
theorem d_M_stillFor_2 : decode b_M_stillFor 2 = .ok (.invokevirtual 118, 3) := by decide +kernel
theorem d_M_stillFor_5 : decode b_M_stillFor 5 = .ok (.ifCond .eq 10, 3) := by decide +kernel
theorem d_M_stillFor_8 : decode b_M_stillFor 8 = .ok (.iload_n 2, 1) := by decide +kernel
theorem d_M_stillFor_9 : decode b_M_stillFor 9 = .ok (.invokestatic 168, 3) := by decide +kernel
theorem d_M_stillFor_12 : decode b_M_stillFor 12 = .ok (.ifCond .ne 5, 3) := by decide +kernel
theorem d_M_stillFor_15 : decode b_M_stillFor 15 = .ok (.iconst (-1), 1) := by decide +kernel
theorem d_M_stillFor_16 : decode b_M_stillFor 16 = .ok (.ireturn, 1) := by decide +kernel
theorem d_M_stillFor_17 : decode b_M_stillFor 17 = .ok (.aload_n 0, 1) := by decide +kernel
theorem d_M_stillFor_18 : decode b_M_stillFor 18 = .ok (.invokevirtual 138, 3) := by decide +kernel
theorem d_M_stillFor_21 : decode b_M_stillFor 21 = .ok (.bipush (-3), 2) := by decide +kernel
theorem d_M_stillFor_23 : decode b_M_stillFor 23 = .ok (.istore_n 3, 1) := by decide +kernel
theorem d_M_stillFor_24 : decode b_M_stillFor 24 = .ok (.aload_n 0, 1) := by decide +kernel
theorem d_M_stillFor_25 : decode b_M_stillFor 25 = .ok (.iload_n 2, 1) := by decide +kernel
theorem d_M_stillFor_26 : decode b_M_stillFor 26 = .ok (.iload_n 1, 1) := by decide +kernel
theorem d_M_stillFor_27 : decode b_M_stillFor 27 = .ok (.invokestatic 162, 3) := by decide +kernel
theorem d_M_stillFor_30 : decode b_M_stillFor 30 = .ok (.invokevirtual 165, 3) := by decide +kernel
theorem d_M_stillFor_33 : decode b_M_stillFor 33 = .ok (.istore 4, 2) := by decide +kernel
theorem d_M_stillFor_35 : decode b_M_stillFor 35 = .ok (.iconst 0, 1) := by decide +kernel
theorem d_M_stillFor_36 : decode b_M_stillFor 36 = .ok (.istore 5, 2) := by decide +kernel
theorem d_M_stillFor_38 : decode b_M_stillFor 38 = .ok (.iload 5, 2) := by decide +kernel
theorem d_M_stillFor_40 : decode b_M_stillFor 40 = .ok (.bipush 10, 2) := by decide +kernel
theorem d_M_stillFor_42 : decode b_M_stillFor 42 = .ok (.if_icmp .ge 45, 3) := by decide +kernel
theorem d_M_stillFor_45 : decode b_M_stillFor 45 = .ok (.aload_n 0, 1) := by decide +kernel
theorem d_M_stillFor_46 : decode b_M_stillFor 46 = .ok (.getfield 7, 3) := by decide +kernel
theorem d_M_stillFor_49 : decode b_M_stillFor 49 = .ok (.bipush 7, 2) := by decide +kernel
theorem d_M_stillFor_51 : decode b_M_stillFor 51 = .ok (.iload 5, 2) := by decide +kernel
theorem d_M_stillFor_53 : decode b_M_stillFor 53 = .ok (.iadd, 1) := by decide +kernel
theorem d_M_stillFor_54 : decode b_M_stillFor 54 = .ok (.iconst 0, 1) := by decide +kernel
theorem d_M_stillFor_55 : decode b_M_stillFor 55 = .ok (.iastore, 1) := by decide +kernel
theorem d_M_stillFor_56 : decode b_M_stillFor 56 = .ok (.aload_n 0, 1) := by decide +kernel
theorem d_M_stillFor_57 : decode b_M_stillFor 57 = .ok (.iload_n 2, 1) := by decide +kernel
theorem d_M_stillFor_58 : decode b_M_stillFor 58 = .ok (.iload_n 1, 1) := by decide +kernel
theorem d_M_stillFor_59 : decode b_M_stillFor 59 = .ok (.invokestatic 162, 3) := by decide +kernel
theorem d_M_stillFor_62 : decode b_M_stillFor 62 = .ok (.invokevirtual 165, 3) := by decide +kernel
theorem d_M_stillFor_65 : decode b_M_stillFor 65 = .ok (.istore 6, 2) := by decide +kernel
theorem d_M_stillFor_67 : decode b_M_stillFor 67 = .ok (.iload 6, 2) := by decide +kernel
theorem d_M_stillFor_69 : decode b_M_stillFor 69 = .ok (.iload 4, 2) := by decide +kernel
theorem d_M_stillFor_71 : decode b_M_stillFor 71 = .ok (.if_icmp .le 10, 3) := by decide +kernel
theorem d_M_stillFor_74 : decode b_M_stillFor 74 = .ok (.iload 5, 2) := by decide +kernel
theorem d_M_stillFor_76 : decode b_M_stillFor 76 = .ok (.istore_n 3, 1) := by decide +kernel
theorem d_M_stillFor_77 : decode b_M_stillFor 77 = .ok (.iload 6, 2) := by decide +kernel
theorem d_M_stillFor_79 : decode b_M_stillFor 79 = .ok (.istore 4, 2) := by decide +kernel
theorem d_M_stillFor_81 : decode b_M_stillFor 81 = .ok (.iinc 5 1, 3) := by decide +kernel
theorem d_M_stillFor_84 : decode b_M_stillFor 84 = .ok (.goto (-46), 3) := by decide +kernel
theorem d_M_stillFor_87 : decode b_M_stillFor 87 = .ok (.iload_n 3, 1) := by decide +kernel
theorem d_M_stillFor_88 : decode b_M_stillFor 88 = .ok (.ireturn, 1) := by decide +kernel
theorem d_M_kindFor_0 : decode b_M_kindFor 0 = .ok (.aload_n 0, 1) := by decide +kernel
theorem d_M_kindFor_1 : decode b_M_kindFor 1 = .ok (.iload_n 1, 1) := by decide +kernel
theorem d_M_kindFor_2 : decode b_M_kindFor 2 = .ok (.invokevirtual 118, 3) := by decide +kernel
theorem d_M_kindFor_5 : decode b_M_kindFor 5 = .ok (.ifCond .eq 10, 3) := by decide +kernel
theorem d_M_kindFor_8 : decode b_M_kindFor 8 = .ok (.iload_n 2, 1) := by decide +kernel
theorem d_M_kindFor_9 : decode b_M_kindFor 9 = .ok (.invokestatic 168, 3) := by decide +kernel
theorem d_M_kindFor_12 : decode b_M_kindFor 12 = .ok (.ifCond .ne 5, 3) := by decide +kernel
theorem d_M_kindFor_15 : decode b_M_kindFor 15 = .ok (.iconst (-1), 1) := by decide +kernel
theorem d_M_kindFor_16 : decode b_M_kindFor 16 = .ok (.ireturn, 1) := by decide +kernel
theorem d_M_kindFor_17 : decode b_M_kindFor 17 = .ok (.aload_n 0, 1) := by decide +kernel
theorem d_M_kindFor_18 : decode b_M_kindFor 18 = .ok (.invokevirtual 138, 3) := by decide +kernel
theorem d_M_kindFor_21 : decode b_M_kindFor 21 = .ok (.iconst 0, 1) := by decide +kernel
theorem d_M_kindFor_22 : decode b_M_kindFor 22 = .ok (.istore_n 3, 1) := by decide +kernel
theorem d_M_kindFor_23 : decode b_M_kindFor 23 = .ok (.iconst (-1), 1) := by decide +kernel
theorem d_M_kindFor_24 : decode b_M_kindFor 24 = .ok (.istore 4, 2) := by decide +kernel
theorem d_M_kindFor_26 : decode b_M_kindFor 26 = .ok (.iconst 0, 1) := by decide +kernel
theorem d_M_kindFor_27 : decode b_M_kindFor 27 = .ok (.istore 5, 2) := by decide +kernel
theorem d_M_kindFor_29 : decode b_M_kindFor 29 = .ok (.iload 5, 2) := by decide +kernel
theorem d_M_kindFor_31 : decode b_M_kindFor 31 = .ok (.bipush 6, 2) := by decide +kernel
theorem d_M_kindFor_33 : decode b_M_kindFor 33 = .ok (.if_icmp .ge 42, 3) := by decide +kernel
theorem d_M_kindFor_36 : decode b_M_kindFor 36 = .ok (.aload_n 0, 1) := by decide +kernel
theorem d_M_kindFor_37 : decode b_M_kindFor 37 = .ok (.iload_n 1, 1) := by decide +kernel
theorem d_M_kindFor_38 : decode b_M_kindFor 38 = .ok (.iconst 0, 1) := by decide +kernel
theorem d_M_kindFor_39 : decode b_M_kindFor 39 = .ok (.iload 5, 2) := by decide +kernel
theorem d_M_kindFor_41 : decode b_M_kindFor 41 = .ok (.invokevirtual 72, 3) := by decide +kernel
theorem d_M_kindFor_44 : decode b_M_kindFor 44 = .ok (.aload_n 0, 1) := by decide +kernel
theorem d_M_kindFor_45 : decode b_M_kindFor 45 = .ok (.iload_n 2, 1) := by decide +kernel
theorem d_M_kindFor_46 : decode b_M_kindFor 46 = .ok (.iload_n 1, 1) := by decide +kernel
theorem d_M_kindFor_47 : decode b_M_kindFor 47 = .ok (.invokestatic 162, 3) := by decide +kernel
theorem d_M_kindFor_50 : decode b_M_kindFor 50 = .ok (.invokevirtual 165, 3) := by decide +kernel
theorem d_M_kindFor_53 : decode b_M_kindFor 53 = .ok (.istore 6, 2) := by decide +kernel
theorem d_M_kindFor_55 : decode b_M_kindFor 55 = .ok (.iload 6, 2) := by decide +kernel
theorem d_M_kindFor_57 : decode b_M_kindFor 57 = .ok (.iload 4, 2) := by decide +kernel
theorem d_M_kindFor_59 : decode b_M_kindFor 59 = .ok (.if_icmp .le 10, 3) := by decide +kernel
theorem d_M_kindFor_62 : decode b_M_kindFor 62 = .ok (.iload 5, 2) := by decide +kernel
theorem d_M_kindFor_64 : decode b_M_kindFor 64 = .ok (.istore_n 3, 1) := by decide +kernel
theorem d_M_kindFor_65 : decode b_M_kindFor 65 = .ok (.iload 6, 2) := by decide +kernel
theorem d_M_kindFor_67 : decode b_M_kindFor 67 = .ok (.istore 4, 2) := by decide +kernel
theorem d_M_kindFor_69 : decode b_M_kindFor 69 = .ok (.iinc 5 1, 3) := by decide +kernel
theorem d_M_kindFor_72 : decode b_M_kindFor 72 = .ok (.goto (-43), 3) := by decide +kernel
theorem d_M_kindFor_75 : decode b_M_kindFor 75 = .ok (.iload_n 3, 1) := by decide +kernel
theorem d_M_kindFor_76 : decode b_M_kindFor 76 = .ok (.ireturn, 1) := by decide +kernel
theorem d_M_loadFor_0 : decode b_M_loadFor 0 = .ok (.aload_n 0, 1) := by decide +kernel
theorem d_M_loadFor_1 : decode b_M_loadFor 1 = .ok (.iload_n 1, 1) := by decide +kernel
theorem d_M_loadFor_2 : decode b_M_loadFor 2 = .ok (.invokevirtual 118, 3) := by decide +kernel
theorem d_M_loadFor_5 : decode b_M_loadFor 5 = .ok (.ifCond .eq 22, 3) := by decide +kernel
theorem d_M_loadFor_8 : decode b_M_loadFor 8 = .ok (.iload_n 2, 1) := by decide +kernel
theorem d_M_loadFor_9 : decode b_M_loadFor 9 = .ok (.invokestatic 168, 3) := by decide +kernel
theorem d_M_loadFor_12 : decode b_M_loadFor 12 = .ok (.ifCond .eq 15, 3) := by decide +kernel
theorem d_M_loadFor_15 : decode b_M_loadFor 15 = .ok (.iload_n 3, 1) := by decide +kernel
theorem d_M_loadFor_16 : decode b_M_loadFor 16 = .ok (.i2l, 1) := by decide +kernel
theorem d_M_loadFor_17 : decode b_M_loadFor 17 = .ok (.lconst 0, 1) := by decide +kernel
theorem d_M_loadFor_18 : decode b_M_loadFor 18 = .ok (.ldc2_w 100, 3) := by decide +kernel
theorem d_M_loadFor_21 : decode b_M_loadFor 21 = .ok (.invokestatic 58, 3) := by decide +kernel
theorem d_M_loadFor_24 : decode b_M_loadFor 24 = .ok (.ifCond .ne 5, 3) := by decide +kernel
theorem d_M_loadFor_27 : decode b_M_loadFor 27 = .ok (.iconst (-1), 1) := by decide +kernel
theorem d_M_loadFor_28 : decode b_M_loadFor 28 = .ok (.ireturn, 1) := by decide +kernel
theorem d_M_loadFor_29 : decode b_M_loadFor 29 = .ok (.aload_n 0, 1) := by decide +kernel
theorem d_M_loadFor_30 : decode b_M_loadFor 30 = .ok (.invokevirtual 138, 3) := by decide +kernel
theorem d_M_loadFor_33 : decode b_M_loadFor 33 = .ok (.iconst 0, 1) := by decide +kernel
theorem d_M_loadFor_34 : decode b_M_loadFor 34 = .ok (.istore 4, 2) := by decide +kernel
theorem d_M_loadFor_36 : decode b_M_loadFor 36 = .ok (.iload 4, 2) := by decide +kernel
theorem d_M_loadFor_38 : decode b_M_loadFor 38 = .ok (.bipush 99, 2) := by decide +kernel
theorem d_M_loadFor_40 : decode b_M_loadFor 40 = .ok (.if_icmp .gt 33, 3) := by decide +kernel
theorem d_M_loadFor_43 : decode b_M_loadFor 43 = .ok (.aload_n 0, 1) := by decide +kernel
theorem d_M_loadFor_44 : decode b_M_loadFor 44 = .ok (.iload_n 1, 1) := by decide +kernel
theorem d_M_loadFor_45 : decode b_M_loadFor 45 = .ok (.iconst 1, 1) := by decide +kernel
theorem d_M_loadFor_46 : decode b_M_loadFor 46 = .ok (.iload 4, 2) := by decide +kernel
theorem d_M_loadFor_48 : decode b_M_loadFor 48 = .ok (.invokevirtual 72, 3) := by decide +kernel
theorem d_M_loadFor_51 : decode b_M_loadFor 51 = .ok (.aload_n 0, 1) := by decide +kernel
theorem d_M_loadFor_52 : decode b_M_loadFor 52 = .ok (.iload_n 2, 1) := by decide +kernel
theorem d_M_loadFor_53 : decode b_M_loadFor 53 = .ok (.iload_n 1, 1) := by decide +kernel
theorem d_M_loadFor_54 : decode b_M_loadFor 54 = .ok (.invokestatic 162, 3) := by decide +kernel
theorem d_M_loadFor_57 : decode b_M_loadFor 57 = .ok (.invokevirtual 165, 3) := by decide +kernel
theorem d_M_loadFor_60 : decode b_M_loadFor 60 = .ok (.iload_n 3, 1) := by decide +kernel
theorem d_M_loadFor_61 : decode b_M_loadFor 61 = .ok (.if_icmp .lt 6, 3) := by decide +kernel
theorem d_M_loadFor_64 : decode b_M_loadFor 64 = .ok (.iload 4, 2) := by decide +kernel
theorem d_M_loadFor_66 : decode b_M_loadFor 66 = .ok (.ireturn, 1) := by decide +kernel
theorem d_M_loadFor_67 : decode b_M_loadFor 67 = .ok (.iinc 4 1, 3) := by decide +kernel
theorem d_M_loadFor_70 : decode b_M_loadFor 70 = .ok (.goto (-34), 3) := by decide +kernel
theorem d_M_loadFor_73 : decode b_M_loadFor 73 = .ok (.bipush (-3), 2) := by decide +kernel
theorem d_M_loadFor_75 : decode b_M_loadFor 75 = .ok (.ireturn, 1) := by decide +kernel
