theorem d_M_first_0 : decode b_M_first 0 = .ok (.iconst 0, 1) := by decide +kernel
theorem d_M_first_1 : decode b_M_first 1 = .ok (.istore_n 1, 1) := by decide +kernel
theorem d_M_first_2 : decode b_M_first 2 = .ok (.iload_n 1, 1) := by decide +kernel
theorem d_M_first_3 : decode b_M_first 3 = .ok (.bipush 67, 2) := by decide +kernel
theorem d_M_first_5 : decode b_M_first 5 = .ok (.if_icmp .ge 48, 3) := by decide +kernel
theorem d_M_first_8 : decode b_M_first 8 = .ok (.aload_n 0, 1) := by decide +kernel
theorem d_M_first_9 : decode b_M_first 9 = .ok (.getfield 7, 3) := by decide +kernel
theorem d_M_first_12 : decode b_M_first 12 = .ok (.iload_n 1, 1) := by decide +kernel
theorem d_M_first_13 : decode b_M_first 13 = .ok (.iload_n 1, 1) := by decide +kernel
theorem d_M_first_14 : decode b_M_first 14 = .ok (.bipush 6, 2) := by decide +kernel
theorem d_M_first_16 : decode b_M_first 16 = .ok (.if_icmp .ne 13, 3) := by decide +kernel
theorem d_M_first_19 : decode b_M_first 19 = .ok (.aload_n 0, 1) := by decide +kernel
theorem d_M_first_20 : decode b_M_first 20 = .ok (.getfield 7, 3) := by decide +kernel
theorem d_M_first_23 : decode b_M_first 23 = .ok (.bipush 6, 2) := by decide +kernel
theorem d_M_first_25 : decode b_M_first 25 = .ok (.iaload, 1) := by decide +kernel
theorem d_M_first_26 : decode b_M_first 26 = .ok (.goto 20, 3) := by decide +kernel
theorem d_M_first_29 : decode b_M_first 29 = .ok (.iload_n 1, 1) := by decide +kernel
theorem d_M_first_30 : decode b_M_first 30 = .ok (.bipush 7, 2) := by decide +kernel
theorem d_M_first_32 : decode b_M_first 32 = .ok (.if_icmp .lt 13, 3) := by decide +kernel
theorem d_M_first_35 : decode b_M_first 35 = .ok (.iload_n 1, 1) := by decide +kernel
theorem d_M_first_36 : decode b_M_first 36 = .ok (.bipush 17, 2) := by decide +kernel
theorem d_M_first_38 : decode b_M_first 38 = .ok (.if_icmp .ge 7, 3) := by decide +kernel
theorem d_M_first_41 : decode b_M_first 41 = .ok (.iconst 2, 1) := by decide +kernel
theorem d_M_first_42 : decode b_M_first 42 = .ok (.goto 4, 3) := by decide +kernel
theorem d_M_first_45 : decode b_M_first 45 = .ok (.iconst 0, 1) := by decide +kernel
theorem d_M_first_46 : decode b_M_first 46 = .ok (.iastore, 1) := by decide +kernel
theorem d_M_first_47 : decode b_M_first 47 = .ok (.iinc 1 1, 3) := by decide +kernel
theorem d_M_first_50 : decode b_M_first 50 = .ok (.goto (-48), 3) := by decide +kernel
theorem d_M_first_53 : decode b_M_first 53 = .ok (.aload_n 0, 1) := by decide +kernel
theorem d_M_first_54 : decode b_M_first 54 = .ok (.getfield 7, 3) := by decide +kernel
theorem d_M_first_57 : decode b_M_first 57 = .ok (.iconst 0, 1) := by decide +kernel
theorem d_M_first_58 : decode b_M_first 58 = .ok (.iconst 3, 1) := by decide +kernel
theorem d_M_first_59 : decode b_M_first 59 = .ok (.iastore, 1) := by decide +kernel
theorem d_M_first_60 : decode b_M_first 60 = .ok (.aload_n 0, 1) := by decide +kernel
theorem d_M_first_61 : decode b_M_first 61 = .ok (.getfield 7, 3) := by decide +kernel
theorem d_M_first_64 : decode b_M_first 64 = .ok (.iconst 1, 1) := by decide +kernel
theorem d_M_first_65 : decode b_M_first 65 = .ok (.iconst 2, 1) := by decide +kernel
theorem d_M_first_66 : decode b_M_first 66 = .ok (.iastore, 1) := by decide +kernel
theorem d_M_first_67 : decode b_M_first 67 = .ok (.aload_n 0, 1) := by decide +kernel
theorem d_M_first_68 : decode b_M_first 68 = .ok (.getfield 7, 3) := by decide +kernel
theorem d_M_first_71 : decode b_M_first 71 = .ok (.iconst 2, 1) := by decide +kernel
theorem d_M_first_72 : decode b_M_first 72 = .ok (.iconst 1, 1) := by decide +kernel
theorem d_M_first_73 : decode b_M_first 73 = .ok (.iastore, 1) := by decide +kernel
theorem d_M_first_74 : decode b_M_first 74 = .ok (.aload_n 0, 1) := by decide +kernel
theorem d_M_first_75 : decode b_M_first 75 = .ok (.getfield 7, 3) := by decide +kernel
theorem d_M_first_78 : decode b_M_first 78 = .ok (.iconst 3, 1) := by decide +kernel
theorem d_M_first_79 : decode b_M_first 79 = .ok (.bipush 20, 2) := by decide +kernel
theorem d_M_first_81 : decode b_M_first 81 = .ok (.iastore, 1) := by decide +kernel
theorem d_M_first_82 : decode b_M_first 82 = .ok (.return_, 1) := by decide +kernel
theorem d_M_in_0 : decode b_M_in 0 = .ok (.lload_n 0, 1) := by decide +kernel
theorem d_M_in_1 : decode b_M_in 1 = .ok (.lload_n 2, 1) := by decide +kernel
theorem d_M_in_2 : decode b_M_in 2 = .ok (.lcmp, 1) := by decide +kernel
theorem d_M_in_3 : decode b_M_in 3 = .ok (.ifCond .lt 14, 3) := by decide +kernel
theorem d_M_in_6 : decode b_M_in 6 = .ok (.lload_n 0, 1) := by decide +kernel
theorem d_M_in_7 : decode b_M_in 7 = .ok (.lload 4, 2) := by decide +kernel
theorem d_M_in_9 : decode b_M_in 9 = .ok (.lcmp, 1) := by decide +kernel
theorem d_M_in_10 : decode b_M_in 10 = .ok (.ifCond .gt 7, 3) := by decide +kernel
theorem d_M_in_13 : decode b_M_in 13 = .ok (.iconst 1, 1) := by decide +kernel
theorem d_M_in_14 : decode b_M_in 14 = .ok (.goto 4, 3) := by decide +kernel
theorem d_M_in_17 : decode b_M_in 17 = .ok (.iconst 0, 1) := by decide +kernel
theorem d_M_in_18 : decode b_M_in 18 = .ok (.ireturn, 1) := by decide +kernel
theorem d_M_held_0 : decode b_M_held 0 = .ok (.iload_n 0, 1) := by decide +kernel
theorem d_M_held_1 : decode b_M_held 1 = .ok (.iload_n 1, 1) := by decide +kernel
theorem d_M_held_2 : decode b_M_held 2 = .ok (.if_icmp .ge 7, 3) := by decide +kernel
theorem d_M_held_5 : decode b_M_held 5 = .ok (.iload_n 1, 1) := by decide +kernel
theorem d_M_held_6 : decode b_M_held 6 = .ok (.goto 13, 3) := by decide +kernel
theorem d_M_held_9 : decode b_M_held 9 = .ok (.iload_n 0, 1) := by decide +kernel
theorem d_M_held_10 : decode b_M_held 10 = .ok (.iload_n 2, 1) := by decide +kernel
theorem d_M_held_11 : decode b_M_held 11 = .ok (.if_icmp .le 7, 3) := by decide +kernel
theorem d_M_held_14 : decode b_M_held 14 = .ok (.iload_n 2, 1) := by decide +kernel
theorem d_M_held_15 : decode b_M_held 15 = .ok (.goto 4, 3) := by decide +kernel
theorem d_M_held_18 : decode b_M_held 18 = .ok (.iload_n 0, 1) := by decide +kernel
theorem d_M_held_19 : decode b_M_held 19 = .ok (.ireturn, 1) := by decide +kernel
theorem d_M_isBarge_0 : decode b_M_isBarge 0 = .ok (.iload_n 1, 1) := by decide +kernel
theorem d_M_isBarge_1 : decode b_M_isBarge 1 = .ok (.i2l, 1) := by decide +kernel
theorem d_M_isBarge_2 : decode b_M_isBarge 2 = .ok (.lconst 0, 1) := by decide +kernel
theorem d_M_isBarge_3 : decode b_M_isBarge 3 = .ok (.aload_n 0, 1) := by decide +kernel
theorem d_M_isBarge_4 : decode b_M_isBarge 4 = .ok (.getfield 7, 3) := by decide +kernel
theorem d_M_isBarge_7 : decode b_M_isBarge 7 = .ok (.iconst 4, 1) := by decide +kernel
theorem d_M_isBarge_8 : decode b_M_isBarge 8 = .ok (.iaload, 1) := by decide +kernel
theorem d_M_isBarge_9 : decode b_M_isBarge 9 = .ok (.iconst 1, 1) := by decide +kernel
theorem d_M_isBarge_10 : decode b_M_isBarge 10 = .ok (.isub, 1) := by decide +kernel
theorem d_M_isBarge_11 : decode b_M_isBarge 11 = .ok (.i2l, 1) := by decide +kernel
theorem d_M_isBarge_12 : decode b_M_isBarge 12 = .ok (.invokestatic 58, 3) := by decide +kernel
theorem d_M_isBarge_15 : decode b_M_isBarge 15 = .ok (.ireturn, 1) := by decide +kernel
theorem d_M_isLock_0 : decode b_M_isLock 0 = .ok (.iload_n 0, 1) := by decide +kernel
theorem d_M_isLock_1 : decode b_M_isLock 1 = .ok (.i2l, 1) := by decide +kernel
theorem d_M_isLock_2 : decode b_M_isLock 2 = .ok (.lconst 0, 1) := by decide +kernel
theorem d_M_isLock_3 : decode b_M_isLock 3 = .ok (.ldc2_w 62, 3) := by decide +kernel
theorem d_M_isLock_6 : decode b_M_isLock 6 = .ok (.invokestatic 58, 3) := by decide +kernel
theorem d_M_isLock_9 : decode b_M_isLock 9 = .ok (.ireturn, 1) := by decide +kernel
theorem d_M_get_0 : decode b_M_get 0 = .ok (.aload_n 0, 1) := by decide +kernel
theorem d_M_get_1 : decode b_M_get 1 = .ok (.getfield 7, 3) := by decide +kernel
theorem d_M_get_4 : decode b_M_get 4 = .ok (.bipush 27, 2) := by decide +kernel
theorem d_M_get_6 : decode b_M_get 6 = .ok (.bipush 8, 2) := by decide +kernel
theorem d_M_get_8 : decode b_M_get 8 = .ok (.iload_n 2, 1) := by decide +kernel
theorem d_M_get_9 : decode b_M_get 9 = .ok (.imul, 1) := by decide +kernel
theorem d_M_get_10 : decode b_M_get 10 = .ok (.iadd, 1) := by decide +kernel
theorem d_M_get_11 : decode b_M_get 11 = .ok (.iload_n 1, 1) := by decide +kernel
theorem d_M_get_12 : decode b_M_get 12 = .ok (.iadd, 1) := by decide +kernel
theorem d_M_get_13 : decode b_M_get 13 = .ok (.iaload, 1) := by decide +kernel
theorem d_M_get_14 : decode b_M_get 14 = .ok (.ireturn, 1) := by decide +kernel
theorem d_M_puts_0 : decode b_M_puts 0 = .ok (.aload_n 0, 1) := by decide +kernel
theorem d_M_puts_1 : decode b_M_puts 1 = .ok (.getfield 7, 3) := by decide +kernel
theorem d_M_puts_4 : decode b_M_puts 4 = .ok (.bipush 27, 2) := by decide +kernel
theorem d_M_puts_6 : decode b_M_puts 6 = .ok (.bipush 8, 2) := by decide +kernel
theorem d_M_puts_8 : decode b_M_puts 8 = .ok (.iload_n 2, 1) := by decide +kernel
theorem d_M_puts_9 : decode b_M_puts 9 = .ok (.imul, 1) := by decide +kernel
theorem d_M_puts_10 : decode b_M_puts 10 = .ok (.iadd, 1) := by decide +kernel
theorem d_M_puts_11 : decode b_M_puts 11 = .ok (.iload_n 1, 1) := by decide +kernel
theorem d_M_puts_12 : decode b_M_puts 12 = .ok (.iadd, 1) := by decide +kernel
theorem d_M_puts_13 : decode b_M_puts 13 = .ok (.iload_n 3, 1) := by decide +kernel
theorem d_M_puts_14 : decode b_M_puts 14 = .ok (.iastore, 1) := by decide +kernel
theorem d_M_puts_15 : decode b_M_puts 15 = .ok (.return_, 1) := by decide +kernel
theorem d_M_becomes_0 : decode b_M_becomes 0 = .ok (.aload_n 0, 1) := by decide +kernel
theorem d_M_becomes_1 : decode b_M_becomes 1 = .ok (.getfield 7, 3) := by decide +kernel
theorem d_M_becomes_4 : decode b_M_becomes 4 = .ok (.iload_n 1, 1) := by decide +kernel
theorem d_M_becomes_5 : decode b_M_becomes 5 = .ok (.iaload, 1) := by decide +kernel
theorem d_M_becomes_6 : decode b_M_becomes 6 = .ok (.istore_n 3, 1) := by decide +kernel
theorem d_M_becomes_7 : decode b_M_becomes 7 = .ok (.aload_n 0, 1) := by decide +kernel
theorem d_M_becomes_8 : decode b_M_becomes 8 = .ok (.getfield 7, 3) := by decide +kernel
theorem d_M_becomes_11 : decode b_M_becomes 11 = .ok (.iload_n 1, 1) := by decide +kernel
theorem d_M_becomes_12 : decode b_M_becomes 12 = .ok (.iload_n 2, 1) := by decide +kernel
theorem d_M_becomes_13 : decode b_M_becomes 13 = .ok (.iastore, 1) := by decide +kernel
theorem d_M_becomes_14 : decode b_M_becomes 14 = .ok (.iload_n 3, 1) := by decide +kernel
theorem d_M_becomes_15 : decode b_M_becomes 15 = .ok (.ireturn, 1) := by decide +kernel
theorem d_M_keepAside_0 : decode b_M_keepAside 0 = .ok (.iconst 0, 1) := by decide +kernel
theorem d_M_keepAside_1 : decode b_M_keepAside 1 = .ok (.istore_n 1, 1) := by decide +kernel
theorem d_M_keepAside_2 : decode b_M_keepAside 2 = .ok (.iload_n 1, 1) := by decide +kernel
theorem d_M_keepAside_3 : decode b_M_keepAside 3 = .ok (.bipush 67, 2) := by decide +kernel
theorem d_M_keepAside_5 : decode b_M_keepAside 5 = .ok (.if_icmp .ge 21, 3) := by decide +kernel
theorem d_M_keepAside_8 : decode b_M_keepAside 8 = .ok (.aload_n 0, 1) := by decide +kernel
theorem d_M_keepAside_9 : decode b_M_keepAside 9 = .ok (.getfield 13, 3) := by decide +kernel
theorem d_M_keepAside_12 : decode b_M_keepAside 12 = .ok (.iload_n 1, 1) := by decide +kernel
theorem d_M_keepAside_13 : decode b_M_keepAside 13 = .ok (.aload_n 0, 1) := by decide +kernel
theorem d_M_keepAside_14 : decode b_M_keepAside 14 = .ok (.getfield 7, 3) := by decide +kernel
theorem d_M_keepAside_17 : decode b_M_keepAside 17 = .ok (.iload_n 1, 1) := by decide +kernel
theorem d_M_keepAside_18 : decode b_M_keepAside 18 = .ok (.iaload, 1) := by decide +kernel
theorem d_M_keepAside_19 : decode b_M_keepAside 19 = .ok (.iastore, 1) := by decide +kernel
theorem d_M_keepAside_20 : decode b_M_keepAside 20 = .ok (.iinc 1 1, 3) := by decide +kernel
theorem d_M_keepAside_23 : decode b_M_keepAside 23 = .ok (.goto (-21), 3) := by decide +kernel
theorem d_M_keepAside_26 : decode b_M_keepAside 26 = .ok (.return_, 1) := by decide +kernel
theorem d_M_putBack_0 : decode b_M_putBack 0 = .ok (.iconst 0, 1) := by decide +kernel
theorem d_M_putBack_1 : decode b_M_putBack 1 = .ok (.istore_n 1, 1) := by decide +kernel
theorem d_M_putBack_2 : decode b_M_putBack 2 = .ok (.iload_n 1, 1) := by decide +kernel
theorem d_M_putBack_3 : decode b_M_putBack 3 = .ok (.bipush 67, 2) := by decide +kernel
theorem d_M_putBack_5 : decode b_M_putBack 5 = .ok (.if_icmp .ge 21, 3) := by decide +kernel
theorem d_M_putBack_8 : decode b_M_putBack 8 = .ok (.aload_n 0, 1) := by decide +kernel
theorem d_M_putBack_9 : decode b_M_putBack 9 = .ok (.getfield 7, 3) := by decide +kernel
theorem d_M_putBack_12 : decode b_M_putBack 12 = .ok (.iload_n 1, 1) := by decide +kernel
theorem d_M_putBack_13 : decode b_M_putBack 13 = .ok (.aload_n 0, 1) := by decide +kernel
theorem d_M_putBack_14 : decode b_M_putBack 14 = .ok (.getfield 13, 3) := by decide +kernel
theorem d_M_putBack_17 : decode b_M_putBack 17 = .ok (.iload_n 1, 1) := by decide +kernel
theorem d_M_putBack_18 : decode b_M_putBack 18 = .ok (.iaload, 1) := by decide +kernel
theorem d_M_putBack_19 : decode b_M_putBack 19 = .ok (.iastore, 1) := by decide +kernel
theorem d_M_putBack_20 : decode b_M_putBack 20 = .ok (.iinc 1 1, 3) := by decide +kernel
theorem d_M_putBack_23 : decode b_M_putBack 23 = .ok (.goto (-21), 3) := by decide +kernel
theorem d_M_putBack_26 : decode b_M_putBack 26 = .ok (.return_, 1) := by decide +kernel
theorem d_M_bits_0 : decode b_M_bits 0 = .ok (.iconst 0, 1) := by decide +kernel
theorem d_M_bits_1 : decode b_M_bits 1 = .ok (.istore_n 1, 1) := by decide +kernel
theorem d_M_bits_2 : decode b_M_bits 2 = .ok (.iconst 0, 1) := by decide +kernel
theorem d_M_bits_3 : decode b_M_bits 3 = .ok (.istore_n 2, 1) := by decide +kernel
theorem d_M_bits_4 : decode b_M_bits 4 = .ok (.iload_n 2, 1) := by decide +kernel
theorem d_M_bits_5 : decode b_M_bits 5 = .ok (.bipush 10, 2) := by decide +kernel
theorem d_M_bits_7 : decode b_M_bits 7 = .ok (.if_icmp .ge 17, 3) := by decide +kernel
theorem d_M_bits_10 : decode b_M_bits 10 = .ok (.iload_n 1, 1) := by decide +kernel
theorem d_M_bits_11 : decode b_M_bits 11 = .ok (.iload_n 0, 1) := by decide +kernel
theorem d_M_bits_12 : decode b_M_bits 12 = .ok (.iload_n 2, 1) := by decide +kernel
theorem d_M_bits_13 : decode b_M_bits 13 = .ok (.ishr, 1) := by decide +kernel
theorem d_M_bits_14 : decode b_M_bits 14 = .ok (.iconst 1, 1) := by decide +kernel
theorem d_M_bits_15 : decode b_M_bits 15 = .ok (.iand, 1) := by decide +kernel
theorem d_M_bits_16 : decode b_M_bits 16 = .ok (.iadd, 1) := by decide +kernel
theorem d_M_bits_17 : decode b_M_bits 17 = .ok (.istore_n 1, 1) := by decide +kernel
theorem d_M_bits_18 : decode b_M_bits 18 = .ok (.iinc 2 1, 3) := by decide +kernel
theorem d_M_bits_21 : decode b_M_bits 21 = .ok (.goto (-17), 3) := by decide +kernel
theorem d_M_bits_24 : decode b_M_bits 24 = .ok (.iload_n 1, 1) := by decide +kernel
theorem d_M_bits_25 : decode b_M_bits 25 = .ok (.ireturn, 1) := by decide +kernel
theorem d_M_pace_0 : decode b_M_pace 0 = .ok (.aload_n 0, 1) := by decide +kernel
theorem d_M_pace_1 : decode b_M_pace 1 = .ok (.iload_n 1, 1) := by decide +kernel
theorem d_M_pace_2 : decode b_M_pace 2 = .ok (.iconst 0, 1) := by decide +kernel
theorem d_M_pace_3 : decode b_M_pace 3 = .ok (.invokevirtual 64, 3) := by decide +kernel
theorem d_M_pace_6 : decode b_M_pace 6 = .ok (.tableswitch 59 2 5 #[30, 30, 32, 50], 30) := by decide +kernel
theorem d_M_pace_36 : decode b_M_pace 36 = .ok (.iconst 2, 1) := by decide +kernel
theorem d_M_pace_37 : decode b_M_pace 37 = .ok (.ireturn, 1) := by decide +kernel
theorem d_M_pace_38 : decode b_M_pace 38 = .ok (.aload_n 0, 1) := by decide +kernel
theorem d_M_pace_39 : decode b_M_pace 39 = .ok (.getfield 7, 3) := by decide +kernel
theorem d_M_pace_42 : decode b_M_pace 42 = .ok (.iconst 5, 1) := by decide +kernel
theorem d_M_pace_43 : decode b_M_pace 43 = .ok (.iaload, 1) := by decide +kernel
theorem d_M_pace_44 : decode b_M_pace 44 = .ok (.iconst 2, 1) := by decide +kernel
theorem d_M_pace_45 : decode b_M_pace 45 = .ok (.irem, 1) := by decide +kernel
theorem d_M_pace_46 : decode b_M_pace 46 = .ok (.iconst 1, 1) := by decide +kernel
theorem d_M_pace_47 : decode b_M_pace 47 = .ok (.if_icmp .ne 7, 3) := by decide +kernel
theorem d_M_pace_50 : decode b_M_pace 50 = .ok (.iconst 1, 1) := by decide +kernel
theorem d_M_pace_51 : decode b_M_pace 51 = .ok (.goto 4, 3) := by decide +kernel
theorem d_M_pace_54 : decode b_M_pace 54 = .ok (.iconst 2, 1) := by decide +kernel
theorem d_M_pace_55 : decode b_M_pace 55 = .ok (.ireturn, 1) := by decide +kernel
theorem d_M_pace_56 : decode b_M_pace 56 = .ok (.iconst 1, 1) := by decide +kernel
theorem d_M_pace_57 : decode b_M_pace 57 = .ok (.aload_n 0, 1) := by decide +kernel
theorem d_M_pace_58 : decode b_M_pace 58 = .ok (.getfield 7, 3) := by decide +kernel
theorem d_M_pace_61 : decode b_M_pace 61 = .ok (.iconst 2, 1) := by decide +kernel
theorem d_M_pace_62 : decode b_M_pace 62 = .ok (.iaload, 1) := by decide +kernel
theorem d_M_pace_63 : decode b_M_pace 63 = .ok (.iadd, 1) := by decide +kernel
theorem d_M_pace_64 : decode b_M_pace 64 = .ok (.ireturn, 1) := by decide +kernel
theorem d_M_pace_65 : decode b_M_pace 65 = .ok (.iconst 1, 1) := by decide +kernel
theorem d_M_pace_66 : decode b_M_pace 66 = .ok (.ireturn, 1) := by decide +kernel
theorem d_M_spills_0 : decode b_M_spills 0 = .ok (.aload_n 0, 1) := by decide +kernel
theorem d_M_spills_1 : decode b_M_spills 1 = .ok (.getfield 7, 3) := by decide +kernel
theorem d_M_spills_4 : decode b_M_spills 4 = .ok (.bipush 7, 2) := by decide +kernel
theorem d_M_spills_6 : decode b_M_spills 6 = .ok (.aload_n 0, 1) := by decide +kernel
theorem d_M_spills_7 : decode b_M_spills 7 = .ok (.iload_n 1, 1) := by decide +kernel
theorem d_M_spills_8 : decode b_M_spills 8 = .ok (.iconst 3, 1) := by decide +kernel
theorem d_M_spills_9 : decode b_M_spills 9 = .ok (.invokevirtual 64, 3) := by decide +kernel
theorem d_M_spills_12 : decode b_M_spills 12 = .ok (.iadd, 1) := by decide +kernel
theorem d_M_spills_13 : decode b_M_spills 13 = .ok (.iaload, 1) := by decide +kernel
theorem d_M_spills_14 : decode b_M_spills 14 = .ok (.istore_n 2, 1) := by decide +kernel
theorem d_M_spills_15 : decode b_M_spills 15 = .ok (.aload_n 0, 1) := by decide +kernel
theorem d_M_spills_16 : decode b_M_spills 16 = .ok (.iload_n 1, 1) := by decide +kernel
theorem d_M_spills_17 : decode b_M_spills 17 = .ok (.iconst 0, 1) := by decide +kernel
theorem d_M_spills_18 : decode b_M_spills 18 = .ok (.invokevirtual 64, 3) := by decide +kernel
theorem d_M_spills_21 : decode b_M_spills 21 = .ok (.tableswitch 87 1 5 #[35, 50, 39, 54, 68], 35) := by decide +kernel
theorem d_M_spills_56 : decode b_M_spills 56 = .ok (.iload_n 2, 1) := by decide +kernel
theorem d_M_spills_57 : decode b_M_spills 57 = .ok (.iconst 2, 1) := by decide +kernel
theorem d_M_spills_58 : decode b_M_spills 58 = .ok (.idiv, 1) := by decide +kernel
theorem d_M_spills_59 : decode b_M_spills 59 = .ok (.ireturn, 1) := by decide +kernel
theorem d_M_spills_60 : decode b_M_spills 60 = .ok (.iload_n 2, 1) := by decide +kernel
theorem d_M_spills_61 : decode b_M_spills 61 = .ok (.iconst 2, 1) := by decide +kernel
theorem d_M_spills_62 : decode b_M_spills 62 = .ok (.idiv, 1) := by decide +kernel
theorem d_M_spills_63 : decode b_M_spills 63 = .ok (.aload_n 0, 1) := by decide +kernel
theorem d_M_spills_64 : decode b_M_spills 64 = .ok (.getfield 7, 3) := by decide +kernel
theorem d_M_spills_67 : decode b_M_spills 67 = .ok (.iconst 1, 1) := by decide +kernel
theorem d_M_spills_68 : decode b_M_spills 68 = .ok (.iaload, 1) := by decide +kernel
theorem d_M_spills_69 : decode b_M_spills 69 = .ok (.isub, 1) := by decide +kernel
theorem d_M_spills_70 : decode b_M_spills 70 = .ok (.ireturn, 1) := by decide +kernel
theorem d_M_spills_71 : decode b_M_spills 71 = .ok (.iload_n 2, 1) := by decide +kernel
theorem d_M_spills_72 : decode b_M_spills 72 = .ok (.iconst 1, 1) := by decide +kernel
theorem d_M_spills_73 : decode b_M_spills 73 = .ok (.isub, 1) := by decide +kernel
theorem d_M_spills_74 : decode b_M_spills 74 = .ok (.ireturn, 1) := by decide +kernel
theorem d_M_spills_75 : decode b_M_spills 75 = .ok (.iload_n 2, 1) := by decide +kernel
theorem d_M_spills_76 : decode b_M_spills 76 = .ok (.iconst 1, 1) := by decide +kernel
theorem d_M_spills_77 : decode b_M_spills 77 = .ok (.isub, 1) := by decide +kernel
theorem d_M_spills_78 : decode b_M_spills 78 = .ok (.aload_n 0, 1) := by decide +kernel
theorem d_M_spills_79 : decode b_M_spills 79 = .ok (.iload_n 1, 1) := by decide +kernel
theorem d_M_spills_80 : decode b_M_spills 80 = .ok (.iconst 1, 1) := by decide +kernel
theorem d_M_spills_81 : decode b_M_spills 81 = .ok (.invokevirtual 64, 3) := by decide +kernel
theorem d_M_spills_84 : decode b_M_spills 84 = .ok (.bipush 10, 2) := by decide +kernel
theorem d_M_spills_86 : decode b_M_spills 86 = .ok (.idiv, 1) := by decide +kernel
theorem d_M_spills_87 : decode b_M_spills 87 = .ok (.iadd, 1) := by decide +kernel
theorem d_M_spills_88 : decode b_M_spills 88 = .ok (.ireturn, 1) := by decide +kernel
theorem d_M_spills_89 : decode b_M_spills 89 = .ok (.aload_n 0, 1) := by decide +kernel
theorem d_M_spills_90 : decode b_M_spills 90 = .ok (.getfield 7, 3) := by decide +kernel
theorem d_M_spills_93 : decode b_M_spills 93 = .ok (.iconst 5, 1) := by decide +kernel
theorem d_M_spills_94 : decode b_M_spills 94 = .ok (.iaload, 1) := by decide +kernel
theorem d_M_spills_95 : decode b_M_spills 95 = .ok (.iconst 3, 1) := by decide +kernel
theorem d_M_spills_96 : decode b_M_spills 96 = .ok (.irem, 1) := by decide +kernel
theorem d_M_spills_97 : decode b_M_spills 97 = .ok (.ifCond .ne 9, 3) := by decide +kernel
theorem d_M_spills_100 : decode b_M_spills 100 = .ok (.iconst 2, 1) := by decide +kernel
theorem d_M_spills_101 : decode b_M_spills 101 = .ok (.iload_n 2, 1) := by decide +kernel
theorem d_M_spills_102 : decode b_M_spills 102 = .ok (.imul, 1) := by decide +kernel
theorem d_M_spills_103 : decode b_M_spills 103 = .ok (.goto 4, 3) := by decide +kernel
theorem d_M_spills_106 : decode b_M_spills 106 = .ok (.iconst 0, 1) := by decide +kernel
theorem d_M_spills_107 : decode b_M_spills 107 = .ok (.ireturn, 1) := by decide +kernel
theorem d_M_spills_108 : decode b_M_spills 108 = .ok (.iload_n 2, 1) := by decide +kernel
theorem d_M_spills_109 : decode b_M_spills 109 = .ok (.ireturn, 1) := by decide +kernel
theorem d_M_hasLanded_0 : decode b_M_hasLanded 0 = .ok (.aload_n 0, 1) := by decide +kernel
theorem d_M_hasLanded_1 : decode b_M_hasLanded 1 = .ok (.iload_n 1, 1) := by decide +kernel
theorem d_M_hasLanded_2 : decode b_M_hasLanded 2 = .ok (.iconst 3, 1) := by decide +kernel
theorem d_M_hasLanded_3 : decode b_M_hasLanded 3 = .ok (.invokevirtual 64, 3) := by decide +kernel
theorem d_M_hasLanded_6 : decode b_M_hasLanded 6 = .ok (.aload_n 0, 1) := by decide +kernel
theorem d_M_hasLanded_7 : decode b_M_hasLanded 7 = .ok (.iload_n 1, 1) := by decide +kernel
theorem d_M_hasLanded_8 : decode b_M_hasLanded 8 = .ok (.iconst 4, 1) := by decide +kernel
theorem d_M_hasLanded_9 : decode b_M_hasLanded 9 = .ok (.invokevirtual 64, 3) := by decide +kernel
theorem d_M_hasLanded_12 : decode b_M_hasLanded 12 = .ok (.if_icmp .ne 7, 3) := by decide +kernel
theorem d_M_hasLanded_15 : decode b_M_hasLanded 15 = .ok (.iconst 1, 1) := by decide +kernel
theorem d_M_hasLanded_16 : decode b_M_hasLanded 16 = .ok (.goto 4, 3) := by decide +kernel
theorem d_M_hasLanded_19 : decode b_M_hasLanded 19 = .ok (.iconst 0, 1) := by decide +kernel
theorem d_M_hasLanded_20 : decode b_M_hasLanded 20 = .ok (.ireturn, 1) := by decide +kernel
theorem d_M_spilt_0 : decode b_M_spilt 0 = .ok (.aload_n 0, 1) := by decide +kernel
theorem d_M_spilt_1 : decode b_M_spilt 1 = .ok (.iload_n 1, 1) := by decide +kernel
theorem d_M_spilt_2 : decode b_M_spilt 2 = .ok (.iconst 1, 1) := by decide +kernel
theorem d_M_spilt_3 : decode b_M_spilt 3 = .ok (.invokevirtual 64, 3) := by decide +kernel
theorem d_M_spilt_6 : decode b_M_spilt 6 = .ok (.istore_n 3, 1) := by decide +kernel
theorem d_M_spilt_7 : decode b_M_spilt 7 = .ok (.aload_n 0, 1) := by decide +kernel
theorem d_M_spilt_8 : decode b_M_spilt 8 = .ok (.iload_n 1, 1) := by decide +kernel
theorem d_M_spilt_9 : decode b_M_spilt 9 = .ok (.iconst 1, 1) := by decide +kernel
theorem d_M_spilt_10 : decode b_M_spilt 10 = .ok (.iload_n 3, 1) := by decide +kernel
theorem d_M_spilt_11 : decode b_M_spilt 11 = .ok (.iload_n 2, 1) := by decide +kernel
theorem d_M_spilt_12 : decode b_M_spilt 12 = .ok (.isub, 1) := by decide +kernel
theorem d_M_spilt_13 : decode b_M_spilt 13 = .ok (.iconst 0, 1) := by decide +kernel
theorem d_M_spilt_14 : decode b_M_spilt 14 = .ok (.bipush 99, 2) := by decide +kernel
theorem d_M_spilt_16 : decode b_M_spilt 16 = .ok (.invokestatic 68, 3) := by decide +kernel
theorem d_M_spilt_19 : decode b_M_spilt 19 = .ok (.invokevirtual 72, 3) := by decide +kernel
theorem d_M_spilt_22 : decode b_M_spilt 22 = .ok (.iload_n 3, 1) := by decide +kernel
theorem d_M_spilt_23 : decode b_M_spilt 23 = .ok (.aload_n 0, 1) := by decide +kernel
theorem d_M_spilt_24 : decode b_M_spilt 24 = .ok (.iload_n 1, 1) := by decide +kernel
theorem d_M_spilt_25 : decode b_M_spilt 25 = .ok (.iconst 1, 1) := by decide +kernel
theorem d_M_spilt_26 : decode b_M_spilt 26 = .ok (.invokevirtual 64, 3) := by decide +kernel
theorem d_M_spilt_29 : decode b_M_spilt 29 = .ok (.isub, 1) := by decide +kernel
theorem d_M_spilt_30 : decode b_M_spilt 30 = .ok (.istore 4, 2) := by decide +kernel
theorem d_M_spilt_32 : decode b_M_spilt 32 = .ok (.bipush 17, 2) := by decide +kernel
theorem d_M_spilt_34 : decode b_M_spilt 34 = .ok (.aload_n 0, 1) := by decide +kernel
theorem d_M_spilt_35 : decode b_M_spilt 35 = .ok (.iload_n 1, 1) := by decide +kernel
theorem d_M_spilt_36 : decode b_M_spilt 36 = .ok (.iconst 3, 1) := by decide +kernel
theorem d_M_spilt_37 : decode b_M_spilt 37 = .ok (.invokevirtual 64, 3) := by decide +kernel
theorem d_M_spilt_40 : decode b_M_spilt 40 = .ok (.iadd, 1) := by decide +kernel
theorem d_M_spilt_41 : decode b_M_spilt 41 = .ok (.istore 5, 2) := by decide +kernel
theorem d_M_spilt_43 : decode b_M_spilt 43 = .ok (.aload_n 0, 1) := by decide +kernel
theorem d_M_spilt_44 : decode b_M_spilt 44 = .ok (.getfield 7, 3) := by decide +kernel
theorem d_M_spilt_47 : decode b_M_spilt 47 = .ok (.iload 5, 2) := by decide +kernel
theorem d_M_spilt_49 : decode b_M_spilt 49 = .ok (.aload_n 0, 1) := by decide +kernel
theorem d_M_spilt_50 : decode b_M_spilt 50 = .ok (.getfield 7, 3) := by decide +kernel
theorem d_M_spilt_53 : decode b_M_spilt 53 = .ok (.iload 5, 2) := by decide +kernel
theorem d_M_spilt_55 : decode b_M_spilt 55 = .ok (.iaload, 1) := by decide +kernel
theorem d_M_spilt_56 : decode b_M_spilt 56 = .ok (.iload 4, 2) := by decide +kernel
theorem d_M_spilt_58 : decode b_M_spilt 58 = .ok (.ifCond .le 8, 3) := by decide +kernel
theorem d_M_spilt_61 : decode b_M_spilt 61 = .ok (.iload 4, 2) := by decide +kernel
theorem d_M_spilt_63 : decode b_M_spilt 63 = .ok (.goto 4, 3) := by decide +kernel
theorem d_M_spilt_66 : decode b_M_spilt 66 = .ok (.iconst 0, 1) := by decide +kernel
theorem d_M_spilt_67 : decode b_M_spilt 67 = .ok (.iadd, 1) := by decide +kernel
theorem d_M_spilt_68 : decode b_M_spilt 68 = .ok (.iconst 0, 1) := by decide +kernel
theorem d_M_spilt_69 : decode b_M_spilt 69 = .ok (.sipush 9999, 3) := by decide +kernel
theorem d_M_spilt_72 : decode b_M_spilt 72 = .ok (.invokestatic 68, 3) := by decide +kernel
theorem d_M_spilt_75 : decode b_M_spilt 75 = .ok (.iastore, 1) := by decide +kernel
theorem d_M_spilt_76 : decode b_M_spilt 76 = .ok (.return_, 1) := by decide +kernel
theorem d_M_goes_0 : decode b_M_goes 0 = .ok (.aload_n 0, 1) := by decide +kernel
theorem d_M_goes_1 : decode b_M_goes 1 = .ok (.iload_n 1, 1) := by decide +kernel
theorem d_M_goes_2 : decode b_M_goes 2 = .ok (.invokevirtual 76, 3) := by decide +kernel
theorem d_M_goes_5 : decode b_M_goes 5 = .ok (.istore_n 2, 1) := by decide +kernel
theorem d_M_goes_6 : decode b_M_goes 6 = .ok (.iload_n 2, 1) := by decide +kernel
theorem d_M_goes_7 : decode b_M_goes 7 = .ok (.ifCond .le 60, 3) := by decide +kernel
theorem d_M_goes_10 : decode b_M_goes 10 = .ok (.aload_n 0, 1) := by decide +kernel
theorem d_M_goes_11 : decode b_M_goes 11 = .ok (.iload_n 1, 1) := by decide +kernel
theorem d_M_goes_12 : decode b_M_goes 12 = .ok (.invokevirtual 80, 3) := by decide +kernel
theorem d_M_goes_15 : decode b_M_goes 15 = .ok (.ifCond .ne 52, 3) := by decide +kernel
theorem d_M_goes_18 : decode b_M_goes 18 = .ok (.aload_n 0, 1) := by decide +kernel
theorem d_M_goes_19 : decode b_M_goes 19 = .ok (.iload_n 1, 1) := by decide +kernel
theorem d_M_goes_20 : decode b_M_goes 20 = .ok (.iconst 3, 1) := by decide +kernel
theorem d_M_goes_21 : decode b_M_goes 21 = .ok (.aload_n 0, 1) := by decide +kernel
theorem d_M_goes_22 : decode b_M_goes 22 = .ok (.iload_n 1, 1) := by decide +kernel
theorem d_M_goes_23 : decode b_M_goes 23 = .ok (.iconst 3, 1) := by decide +kernel
theorem d_M_goes_24 : decode b_M_goes 24 = .ok (.invokevirtual 64, 3) := by decide +kernel
theorem d_M_goes_27 : decode b_M_goes 27 = .ok (.aload_n 0, 1) := by decide +kernel
theorem d_M_goes_28 : decode b_M_goes 28 = .ok (.iload_n 1, 1) := by decide +kernel
theorem d_M_goes_29 : decode b_M_goes 29 = .ok (.iconst 4, 1) := by decide +kernel
theorem d_M_goes_30 : decode b_M_goes 30 = .ok (.invokevirtual 64, 3) := by decide +kernel
theorem d_M_goes_33 : decode b_M_goes 33 = .ok (.aload_n 0, 1) := by decide +kernel
theorem d_M_goes_34 : decode b_M_goes 34 = .ok (.iload_n 1, 1) := by decide +kernel
theorem d_M_goes_35 : decode b_M_goes 35 = .ok (.iconst 3, 1) := by decide +kernel
theorem d_M_goes_36 : decode b_M_goes 36 = .ok (.invokevirtual 64, 3) := by decide +kernel
theorem d_M_goes_39 : decode b_M_goes 39 = .ok (.if_icmp .le 7, 3) := by decide +kernel
theorem d_M_goes_42 : decode b_M_goes 42 = .ok (.iconst 1, 1) := by decide +kernel
theorem d_M_goes_43 : decode b_M_goes 43 = .ok (.goto 4, 3) := by decide +kernel
theorem d_M_goes_46 : decode b_M_goes 46 = .ok (.iconst (-1), 1) := by decide +kernel
theorem d_M_goes_47 : decode b_M_goes 47 = .ok (.iadd, 1) := by decide +kernel
theorem d_M_goes_48 : decode b_M_goes 48 = .ok (.invokevirtual 72, 3) := by decide +kernel
theorem d_M_goes_51 : decode b_M_goes 51 = .ok (.aload_n 0, 1) := by decide +kernel
theorem d_M_goes_52 : decode b_M_goes 52 = .ok (.iload_n 1, 1) := by decide +kernel
theorem d_M_goes_53 : decode b_M_goes 53 = .ok (.aload_n 0, 1) := by decide +kernel
theorem d_M_goes_54 : decode b_M_goes 54 = .ok (.iload_n 1, 1) := by decide +kernel
theorem d_M_goes_55 : decode b_M_goes 55 = .ok (.invokevirtual 84, 3) := by decide +kernel
theorem d_M_goes_58 : decode b_M_goes 58 = .ok (.invokevirtual 87, 3) := by decide +kernel
theorem d_M_goes_61 : decode b_M_goes 61 = .ok (.iinc 2 (-1), 3) := by decide +kernel
theorem d_M_goes_64 : decode b_M_goes 64 = .ok (.goto (-58), 3) := by decide +kernel
theorem d_M_goes_67 : decode b_M_goes 67 = .ok (.iconst 0, 1) := by decide +kernel
theorem d_M_goes_68 : decode b_M_goes 68 = .ok (.istore_n 2, 1) := by decide +kernel
theorem d_M_goes_69 : decode b_M_goes 69 = .ok (.iload_n 2, 1) := by decide +kernel
theorem d_M_goes_70 : decode b_M_goes 70 = .ok (.aload_n 0, 1) := by decide +kernel
theorem d_M_goes_71 : decode b_M_goes 71 = .ok (.getfield 7, 3) := by decide +kernel
theorem d_M_goes_74 : decode b_M_goes 74 = .ok (.iconst 4, 1) := by decide +kernel
theorem d_M_goes_75 : decode b_M_goes 75 = .ok (.iaload, 1) := by decide +kernel
theorem d_M_goes_76 : decode b_M_goes 76 = .ok (.if_icmp .ge 74, 3) := by decide +kernel
theorem d_M_goes_79 : decode b_M_goes 79 = .ok (.iload_n 2, 1) := by decide +kernel
theorem d_M_goes_80 : decode b_M_goes 80 = .ok (.iload_n 1, 1) := by decide +kernel
theorem d_M_goes_81 : decode b_M_goes 81 = .ok (.if_icmp .eq 63, 3) := by decide +kernel
theorem d_M_goes_84 : decode b_M_goes 84 = .ok (.aload_n 0, 1) := by decide +kernel
theorem d_M_goes_85 : decode b_M_goes 85 = .ok (.iload_n 2, 1) := by decide +kernel
theorem d_M_goes_86 : decode b_M_goes 86 = .ok (.iconst 3, 1) := by decide +kernel
theorem d_M_goes_87 : decode b_M_goes 87 = .ok (.invokevirtual 64, 3) := by decide +kernel
theorem d_M_goes_90 : decode b_M_goes 90 = .ok (.aload_n 0, 1) := by decide +kernel
theorem d_M_goes_91 : decode b_M_goes 91 = .ok (.iload_n 1, 1) := by decide +kernel
theorem d_M_goes_92 : decode b_M_goes 92 = .ok (.iconst 3, 1) := by decide +kernel
theorem d_M_goes_93 : decode b_M_goes 93 = .ok (.invokevirtual 64, 3) := by decide +kernel
theorem d_M_goes_96 : decode b_M_goes 96 = .ok (.if_icmp .ne 48, 3) := by decide +kernel
theorem d_M_goes_99 : decode b_M_goes 99 = .ok (.aload_n 0, 1) := by decide +kernel
theorem d_M_goes_100 : decode b_M_goes 100 = .ok (.iload_n 2, 1) := by decide +kernel
theorem d_M_goes_101 : decode b_M_goes 101 = .ok (.iconst 2, 1) := by decide +kernel
theorem d_M_goes_102 : decode b_M_goes 102 = .ok (.invokevirtual 64, 3) := by decide +kernel
theorem d_M_goes_105 : decode b_M_goes 105 = .ok (.aload_n 0, 1) := by decide +kernel
theorem d_M_goes_106 : decode b_M_goes 106 = .ok (.iload_n 1, 1) := by decide +kernel
theorem d_M_goes_107 : decode b_M_goes 107 = .ok (.iconst 2, 1) := by decide +kernel
theorem d_M_goes_108 : decode b_M_goes 108 = .ok (.invokevirtual 64, 3) := by decide +kernel
theorem d_M_goes_111 : decode b_M_goes 111 = .ok (.if_icmp .eq 33, 3) := by decide +kernel
theorem d_M_goes_114 : decode b_M_goes 114 = .ok (.aload_n 0, 1) := by decide +kernel
theorem d_M_goes_115 : decode b_M_goes 115 = .ok (.iload_n 2, 1) := by decide +kernel
theorem d_M_goes_116 : decode b_M_goes 116 = .ok (.invokevirtual 80, 3) := by decide +kernel
theorem d_M_goes_119 : decode b_M_goes 119 = .ok (.ifCond .ne 25, 3) := by decide +kernel
theorem d_M_goes_122 : decode b_M_goes 122 = .ok (.aload_n 0, 1) := by decide +kernel
theorem d_M_goes_123 : decode b_M_goes 123 = .ok (.iload_n 1, 1) := by decide +kernel
theorem d_M_goes_124 : decode b_M_goes 124 = .ok (.aload_n 0, 1) := by decide +kernel
theorem d_M_goes_125 : decode b_M_goes 125 = .ok (.getfield 7, 3) := by decide +kernel
theorem d_M_goes_128 : decode b_M_goes 128 = .ok (.iconst 0, 1) := by decide +kernel
theorem d_M_goes_129 : decode b_M_goes 129 = .ok (.iaload, 1) := by decide +kernel
theorem d_M_goes_130 : decode b_M_goes 130 = .ok (.invokevirtual 87, 3) := by decide +kernel
theorem d_M_goes_133 : decode b_M_goes 133 = .ok (.aload_n 0, 1) := by decide +kernel
theorem d_M_goes_134 : decode b_M_goes 134 = .ok (.iload_n 2, 1) := by decide +kernel
theorem d_M_goes_135 : decode b_M_goes 135 = .ok (.aload_n 0, 1) := by decide +kernel
theorem d_M_goes_136 : decode b_M_goes 136 = .ok (.getfield 7, 3) := by decide +kernel
theorem d_M_goes_139 : decode b_M_goes 139 = .ok (.iconst 0, 1) := by decide +kernel
theorem d_M_goes_140 : decode b_M_goes 140 = .ok (.iaload, 1) := by decide +kernel
theorem d_M_goes_141 : decode b_M_goes 141 = .ok (.invokevirtual 87, 3) := by decide +kernel
theorem d_M_goes_144 : decode b_M_goes 144 = .ok (.iinc 2 1, 3) := by decide +kernel
theorem d_M_goes_147 : decode b_M_goes 147 = .ok (.goto (-78), 3) := by decide +kernel
theorem d_M_goes_150 : decode b_M_goes 150 = .ok (.return_, 1) := by decide +kernel
theorem d_M_hourGoes_0 : decode b_M_hourGoes 0 = .ok (.iconst 0, 1) := by decide +kernel
theorem d_M_hourGoes_1 : decode b_M_hourGoes 1 = .ok (.istore_n 1, 1) := by decide +kernel
theorem d_M_hourGoes_2 : decode b_M_hourGoes 2 = .ok (.iload_n 1, 1) := by decide +kernel
theorem d_M_hourGoes_3 : decode b_M_hourGoes 3 = .ok (.aload_n 0, 1) := by decide +kernel
theorem d_M_hourGoes_4 : decode b_M_hourGoes 4 = .ok (.getfield 7, 3) := by decide +kernel
theorem d_M_hourGoes_7 : decode b_M_hourGoes 7 = .ok (.iconst 4, 1) := by decide +kernel
theorem d_M_hourGoes_8 : decode b_M_hourGoes 8 = .ok (.iaload, 1) := by decide +kernel
theorem d_M_hourGoes_9 : decode b_M_hourGoes 9 = .ok (.if_icmp .ge 30, 3) := by decide +kernel
theorem d_M_hourGoes_12 : decode b_M_hourGoes 12 = .ok (.aload_n 0, 1) := by decide +kernel
theorem d_M_hourGoes_13 : decode b_M_hourGoes 13 = .ok (.iload_n 1, 1) := by decide +kernel
theorem d_M_hourGoes_14 : decode b_M_hourGoes 14 = .ok (.invokevirtual 80, 3) := by decide +kernel
theorem d_M_hourGoes_17 : decode b_M_hourGoes 17 = .ok (.ifCond .ne 16, 3) := by decide +kernel
theorem d_M_hourGoes_20 : decode b_M_hourGoes 20 = .ok (.iload_n 1, 1) := by decide +kernel
theorem d_M_hourGoes_21 : decode b_M_hourGoes 21 = .ok (.aload_n 0, 1) := by decide +kernel
theorem d_M_hourGoes_22 : decode b_M_hourGoes 22 = .ok (.getfield 19, 3) := by decide +kernel
theorem d_M_hourGoes_25 : decode b_M_hourGoes 25 = .ok (.if_icmp .eq 8, 3) := by decide +kernel
theorem d_M_hourGoes_28 : decode b_M_hourGoes 28 = .ok (.aload_n 0, 1) := by decide +kernel
theorem d_M_hourGoes_29 : decode b_M_hourGoes 29 = .ok (.iload_n 1, 1) := by decide +kernel
theorem d_M_hourGoes_30 : decode b_M_hourGoes 30 = .ok (.invokevirtual 91, 3) := by decide +kernel
theorem d_M_hourGoes_33 : decode b_M_hourGoes 33 = .ok (.iinc 1 1, 3) := by decide +kernel
theorem d_M_hourGoes_36 : decode b_M_hourGoes 36 = .ok (.goto (-34), 3) := by decide +kernel
theorem d_M_hourGoes_39 : decode b_M_hourGoes 39 = .ok (.aload_n 0, 1) := by decide +kernel
theorem d_M_hourGoes_40 : decode b_M_hourGoes 40 = .ok (.getfield 7, 3) := by decide +kernel
theorem d_M_hourGoes_43 : decode b_M_hourGoes 43 = .ok (.iconst 5, 1) := by decide +kernel
theorem d_M_hourGoes_44 : decode b_M_hourGoes 44 = .ok (.dup2, 1) := by decide +kernel
theorem d_M_hourGoes_45 : decode b_M_hourGoes 45 = .ok (.iaload, 1) := by decide +kernel
theorem d_M_hourGoes_46 : decode b_M_hourGoes 46 = .ok (.iconst 1, 1) := by decide +kernel
theorem d_M_hourGoes_47 : decode b_M_hourGoes 47 = .ok (.iadd, 1) := by decide +kernel
theorem d_M_hourGoes_48 : decode b_M_hourGoes 48 = .ok (.iastore, 1) := by decide +kernel
theorem d_M_hourGoes_49 : decode b_M_hourGoes 49 = .ok (.return_, 1) := by decide +kernel
theorem d_M_hoursGo_0 : decode b_M_hoursGo 0 = .ok (.iconst 0, 1) := by decide +kernel
theorem d_M_hoursGo_1 : decode b_M_hoursGo 1 = .ok (.istore_n 2, 1) := by decide +kernel
theorem d_M_hoursGo_2 : decode b_M_hoursGo 2 = .ok (.iload_n 2, 1) := by decide +kernel
theorem d_M_hoursGo_3 : decode b_M_hoursGo 3 = .ok (.iload_n 1, 1) := by decide +kernel
theorem d_M_hoursGo_4 : decode b_M_hoursGo 4 = .ok (.if_icmp .ge 13, 3) := by decide +kernel
theorem d_M_hoursGo_7 : decode b_M_hoursGo 7 = .ok (.aload_n 0, 1) := by decide +kernel
theorem d_M_hoursGo_8 : decode b_M_hoursGo 8 = .ok (.invokevirtual 95, 3) := by decide +kernel
theorem d_M_hoursGo_11 : decode b_M_hoursGo 11 = .ok (.iinc 2 1, 3) := by decide +kernel
theorem d_M_hoursGo_14 : decode b_M_hoursGo 14 = .ok (.goto (-12), 3) := by decide +kernel
theorem d_M_hoursGo_17 : decode b_M_hoursGo 17 = .ok (.return_, 1) := by decide +kernel
theorem d_M_loads_0 : decode b_M_loads 0 = .ok (.iconst 0, 1) := by decide +kernel
theorem d_M_loads_1 : decode b_M_loads 1 = .ok (.istore_n 1, 1) := by decide +kernel
theorem d_M_loads_2 : decode b_M_loads 2 = .ok (.iconst 0, 1) := by decide +kernel
theorem d_M_loads_3 : decode b_M_loads 3 = .ok (.istore_n 2, 1) := by decide +kernel
theorem d_M_loads_4 : decode b_M_loads 4 = .ok (.iload_n 2, 1) := by decide +kernel
theorem d_M_loads_5 : decode b_M_loads 5 = .ok (.aload_n 0, 1) := by decide +kernel
theorem d_M_loads_6 : decode b_M_loads 6 = .ok (.getfield 7, 3) := by decide +kernel
theorem d_M_loads_9 : decode b_M_loads 9 = .ok (.iconst 4, 1) := by decide +kernel
theorem d_M_loads_10 : decode b_M_loads 10 = .ok (.iaload, 1) := by decide +kernel
theorem d_M_loads_11 : decode b_M_loads 11 = .ok (.if_icmp .ge 18, 3) := by decide +kernel
theorem d_M_loads_14 : decode b_M_loads 14 = .ok (.iload_n 1, 1) := by decide +kernel
theorem d_M_loads_15 : decode b_M_loads 15 = .ok (.aload_n 0, 1) := by decide +kernel
theorem d_M_loads_16 : decode b_M_loads 16 = .ok (.iload_n 2, 1) := by decide +kernel
theorem d_M_loads_17 : decode b_M_loads 17 = .ok (.iconst 1, 1) := by decide +kernel
theorem d_M_loads_18 : decode b_M_loads 18 = .ok (.invokevirtual 64, 3) := by decide +kernel
theorem d_M_loads_21 : decode b_M_loads 21 = .ok (.iadd, 1) := by decide +kernel
theorem d_M_loads_22 : decode b_M_loads 22 = .ok (.istore_n 1, 1) := by decide +kernel
theorem d_M_loads_23 : decode b_M_loads 23 = .ok (.iinc 2 1, 3) := by decide +kernel
theorem d_M_loads_26 : decode b_M_loads 26 = .ok (.goto (-22), 3) := by decide +kernel
theorem d_M_loads_29 : decode b_M_loads 29 = .ok (.iload_n 1, 1) := by decide +kernel
theorem d_M_loads_30 : decode b_M_loads 30 = .ok (.ireturn, 1) := by decide +kernel
theorem d_M_lostAll_0 : decode b_M_lostAll 0 = .ok (.iconst 0, 1) := by decide +kernel
theorem d_M_lostAll_1 : decode b_M_lostAll 1 = .ok (.istore_n 1, 1) := by decide +kernel
theorem d_M_lostAll_2 : decode b_M_lostAll 2 = .ok (.iconst 0, 1) := by decide +kernel
theorem d_M_lostAll_3 : decode b_M_lostAll 3 = .ok (.istore_n 2, 1) := by decide +kernel
theorem d_M_lostAll_4 : decode b_M_lostAll 4 = .ok (.iload_n 2, 1) := by decide +kernel
theorem d_M_lostAll_5 : decode b_M_lostAll 5 = .ok (.bipush 10, 2) := by decide +kernel
theorem d_M_lostAll_7 : decode b_M_lostAll 7 = .ok (.if_icmp .ge 21, 3) := by decide +kernel
theorem d_M_lostAll_10 : decode b_M_lostAll 10 = .ok (.iload_n 1, 1) := by decide +kernel
theorem d_M_lostAll_11 : decode b_M_lostAll 11 = .ok (.aload_n 0, 1) := by decide +kernel
theorem d_M_lostAll_12 : decode b_M_lostAll 12 = .ok (.getfield 7, 3) := by decide +kernel
theorem d_M_lostAll_15 : decode b_M_lostAll 15 = .ok (.bipush 17, 2) := by decide +kernel
theorem d_M_lostAll_17 : decode b_M_lostAll 17 = .ok (.iload_n 2, 1) := by decide +kernel
theorem d_M_lostAll_18 : decode b_M_lostAll 18 = .ok (.iadd, 1) := by decide +kernel
theorem d_M_lostAll_19 : decode b_M_lostAll 19 = .ok (.iaload, 1) := by decide +kernel
theorem d_M_lostAll_20 : decode b_M_lostAll 20 = .ok (.iadd, 1) := by decide +kernel
theorem d_M_lostAll_21 : decode b_M_lostAll 21 = .ok (.istore_n 1, 1) := by decide +kernel
theorem d_M_lostAll_22 : decode b_M_lostAll 22 = .ok (.iinc 2 1, 3) := by decide +kernel
theorem d_M_lostAll_25 : decode b_M_lostAll 25 = .ok (.goto (-21), 3) := by decide +kernel
theorem d_M_lostAll_28 : decode b_M_lostAll 28 = .ok (.iload_n 1, 1) := by decide +kernel
theorem d_M_lostAll_29 : decode b_M_lostAll 29 = .ok (.ireturn, 1) := by decide +kernel
theorem d_M_landed_0 : decode b_M_landed 0 = .ok (.iconst 0, 1) := by decide +kernel
theorem d_M_landed_1 : decode b_M_landed 1 = .ok (.istore_n 1, 1) := by decide +kernel
theorem d_M_landed_2 : decode b_M_landed 2 = .ok (.iconst 0, 1) := by decide +kernel
theorem d_M_landed_3 : decode b_M_landed 3 = .ok (.istore_n 2, 1) := by decide +kernel
theorem d_M_landed_4 : decode b_M_landed 4 = .ok (.iload_n 2, 1) := by decide +kernel
theorem d_M_landed_5 : decode b_M_landed 5 = .ok (.aload_n 0, 1) := by decide +kernel
theorem d_M_landed_6 : decode b_M_landed 6 = .ok (.getfield 7, 3) := by decide +kernel
theorem d_M_landed_9 : decode b_M_landed 9 = .ok (.iconst 4, 1) := by decide +kernel
theorem d_M_landed_10 : decode b_M_landed 10 = .ok (.iaload, 1) := by decide +kernel
theorem d_M_landed_11 : decode b_M_landed 11 = .ok (.if_icmp .ge 27, 3) := by decide +kernel
theorem d_M_landed_14 : decode b_M_landed 14 = .ok (.iload_n 1, 1) := by decide +kernel
theorem d_M_landed_15 : decode b_M_landed 15 = .ok (.aload_n 0, 1) := by decide +kernel
theorem d_M_landed_16 : decode b_M_landed 16 = .ok (.iload_n 2, 1) := by decide +kernel
theorem d_M_landed_17 : decode b_M_landed 17 = .ok (.invokevirtual 80, 3) := by decide +kernel
theorem d_M_landed_20 : decode b_M_landed 20 = .ok (.ifCond .eq 9, 3) := by decide +kernel
theorem d_M_landed_23 : decode b_M_landed 23 = .ok (.iconst 1, 1) := by decide +kernel
theorem d_M_landed_24 : decode b_M_landed 24 = .ok (.iload_n 2, 1) := by decide +kernel
theorem d_M_landed_25 : decode b_M_landed 25 = .ok (.ishl, 1) := by decide +kernel
theorem d_M_landed_26 : decode b_M_landed 26 = .ok (.goto 4, 3) := by decide +kernel
theorem d_M_landed_29 : decode b_M_landed 29 = .ok (.iconst 0, 1) := by decide +kernel
theorem d_M_landed_30 : decode b_M_landed 30 = .ok (.ior, 1) := by decide +kernel
theorem d_M_landed_31 : decode b_M_landed 31 = .ok (.istore_n 1, 1) := by decide +kernel
theorem d_M_landed_32 : decode b_M_landed 32 = .ok (.iinc 2 1, 3) := by decide +kernel
theorem d_M_landed_35 : decode b_M_landed 35 = .ok (.goto (-31), 3) := by decide +kernel
theorem d_M_landed_38 : decode b_M_landed 38 = .ok (.iload_n 1, 1) := by decide +kernel
theorem d_M_landed_39 : decode b_M_landed 39 = .ok (.ireturn, 1) := by decide +kernel
theorem d_M_places_0 : decode b_M_places 0 = .ok (.iconst 0, 1) := by decide +kernel
theorem d_M_places_1 : decode b_M_places 1 = .ok (.istore_n 1, 1) := by decide +kernel
theorem d_M_places_2 : decode b_M_places 2 = .ok (.iconst 0, 1) := by decide +kernel
theorem d_M_places_3 : decode b_M_places 3 = .ok (.istore_n 2, 1) := by decide +kernel
theorem d_M_places_4 : decode b_M_places 4 = .ok (.iload_n 2, 1) := by decide +kernel
theorem d_M_places_5 : decode b_M_places 5 = .ok (.aload_n 0, 1) := by decide +kernel
theorem d_M_places_6 : decode b_M_places 6 = .ok (.getfield 7, 3) := by decide +kernel
theorem d_M_places_9 : decode b_M_places 9 = .ok (.iconst 4, 1) := by decide +kernel
theorem d_M_places_10 : decode b_M_places 10 = .ok (.iaload, 1) := by decide +kernel
theorem d_M_places_11 : decode b_M_places 11 = .ok (.if_icmp .ge 20, 3) := by decide +kernel
theorem d_M_places_14 : decode b_M_places 14 = .ok (.iload_n 1, 1) := by decide +kernel
theorem d_M_places_15 : decode b_M_places 15 = .ok (.iconst 1, 1) := by decide +kernel
theorem d_M_places_16 : decode b_M_places 16 = .ok (.aload_n 0, 1) := by decide +kernel
theorem d_M_places_17 : decode b_M_places 17 = .ok (.iload_n 2, 1) := by decide +kernel
theorem d_M_places_18 : decode b_M_places 18 = .ok (.iconst 3, 1) := by decide +kernel
theorem d_M_places_19 : decode b_M_places 19 = .ok (.invokevirtual 64, 3) := by decide +kernel
theorem d_M_places_22 : decode b_M_places 22 = .ok (.ishl, 1) := by decide +kernel
theorem d_M_places_23 : decode b_M_places 23 = .ok (.ior, 1) := by decide +kernel
theorem d_M_places_24 : decode b_M_places 24 = .ok (.istore_n 1, 1) := by decide +kernel
theorem d_M_places_25 : decode b_M_places 25 = .ok (.iinc 2 1, 3) := by decide +kernel
theorem d_M_places_28 : decode b_M_places 28 = .ok (.goto (-24), 3) := by decide +kernel
theorem d_M_places_31 : decode b_M_places 31 = .ok (.iload_n 1, 1) := by decide +kernel
theorem d_M_places_32 : decode b_M_places 32 = .ok (.ireturn, 1) := by decide +kernel
theorem d_M_isLaw_0 : decode b_M_isLaw 0 = .ok (.iload_n 0, 1) := by decide +kernel
theorem d_M_isLaw_1 : decode b_M_isLaw 1 = .ok (.i2l, 1) := by decide +kernel
theorem d_M_isLaw_2 : decode b_M_isLaw 2 = .ok (.lconst 0, 1) := by decide +kernel
theorem d_M_isLaw_3 : decode b_M_isLaw 3 = .ok (.ldc2_w 98, 3) := by decide +kernel
theorem d_M_isLaw_6 : decode b_M_isLaw 6 = .ok (.invokestatic 58, 3) := by decide +kernel
theorem d_M_isLaw_9 : decode b_M_isLaw 9 = .ok (.ifCond .eq 30, 3) := by decide +kernel
theorem d_M_isLaw_12 : decode b_M_isLaw 12 = .ok (.iload_n 1, 1) := by decide +kernel
theorem d_M_isLaw_13 : decode b_M_isLaw 13 = .ok (.i2l, 1) := by decide +kernel
theorem d_M_isLaw_14 : decode b_M_isLaw 14 = .ok (.lconst 0, 1) := by decide +kernel
theorem d_M_isLaw_15 : decode b_M_isLaw 15 = .ok (.iload_n 0, 1) := by decide +kernel
theorem d_M_isLaw_16 : decode b_M_isLaw 16 = .ok (.iconst 3, 1) := by decide +kernel
theorem d_M_isLaw_17 : decode b_M_isLaw 17 = .ok (.if_icmp .ne 9, 3) := by decide +kernel
theorem d_M_isLaw_20 : decode b_M_isLaw 20 = .ok (.ldc2_w 100, 3) := by decide +kernel
theorem d_M_isLaw_23 : decode b_M_isLaw 23 = .ok (.goto 6, 3) := by decide +kernel
theorem d_M_isLaw_26 : decode b_M_isLaw 26 = .ok (.ldc2_w 62, 3) := by decide +kernel
theorem d_M_isLaw_29 : decode b_M_isLaw 29 = .ok (.invokestatic 58, 3) := by decide +kernel
theorem d_M_isLaw_32 : decode b_M_isLaw 32 = .ok (.ifCond .eq 7, 3) := by decide +kernel
theorem d_M_isLaw_35 : decode b_M_isLaw 35 = .ok (.iconst 1, 1) := by decide +kernel
theorem d_M_isLaw_36 : decode b_M_isLaw 36 = .ok (.goto 4, 3) := by decide +kernel
theorem d_M_isLaw_39 : decode b_M_isLaw 39 = .ok (.iconst 0, 1) := by decide +kernel
theorem d_M_isLaw_40 : decode b_M_isLaw 40 = .ok (.ireturn, 1) := by decide +kernel
theorem d_M_set_0 : decode b_M_set 0 = .ok (.iload_n 1, 1) := by decide +kernel
theorem d_M_set_1 : decode b_M_set 1 = .ok (.iload_n 2, 1) := by decide +kernel
theorem d_M_set_2 : decode b_M_set 2 = .ok (.invokestatic 102, 3) := by decide +kernel
theorem d_M_set_5 : decode b_M_set 5 = .ok (.ifCond .eq 12, 3) := by decide +kernel
theorem d_M_set_8 : decode b_M_set 8 = .ok (.aload_n 0, 1) := by decide +kernel
theorem d_M_set_9 : decode b_M_set 9 = .ok (.iload_n 1, 1) := by decide +kernel
theorem d_M_set_10 : decode b_M_set 10 = .ok (.iload_n 2, 1) := by decide +kernel
theorem d_M_set_11 : decode b_M_set 11 = .ok (.invokevirtual 106, 3) := by decide +kernel
theorem d_M_set_14 : decode b_M_set 14 = .ok (.goto 4, 3) := by decide +kernel
theorem d_M_set_17 : decode b_M_set 17 = .ok (.iconst (-1), 1) := by decide +kernel
theorem d_M_set_18 : decode b_M_set 18 = .ok (.ireturn, 1) := by decide +kernel
theorem d_M_lawOf_0 : decode b_M_lawOf 0 = .ok (.iload_n 1, 1) := by decide +kernel
theorem d_M_lawOf_1 : decode b_M_lawOf 1 = .ok (.i2l, 1) := by decide +kernel
theorem d_M_lawOf_2 : decode b_M_lawOf 2 = .ok (.lconst 0, 1) := by decide +kernel
theorem d_M_lawOf_3 : decode b_M_lawOf 3 = .ok (.ldc2_w 98, 3) := by decide +kernel
theorem d_M_lawOf_6 : decode b_M_lawOf 6 = .ok (.invokestatic 58, 3) := by decide +kernel
theorem d_M_lawOf_9 : decode b_M_lawOf 9 = .ok (.ifCond .eq 12, 3) := by decide +kernel
theorem d_M_lawOf_12 : decode b_M_lawOf 12 = .ok (.aload_n 0, 1) := by decide +kernel
theorem d_M_lawOf_13 : decode b_M_lawOf 13 = .ok (.getfield 7, 3) := by decide +kernel
theorem d_M_lawOf_16 : decode b_M_lawOf 16 = .ok (.iload_n 1, 1) := by decide +kernel
theorem d_M_lawOf_17 : decode b_M_lawOf 17 = .ok (.iaload, 1) := by decide +kernel
theorem d_M_lawOf_18 : decode b_M_lawOf 18 = .ok (.goto 4, 3) := by decide +kernel
theorem d_M_lawOf_21 : decode b_M_lawOf 21 = .ok (.iconst (-1), 1) := by decide +kernel
theorem d_M_lawOf_22 : decode b_M_lawOf 22 = .ok (.ireturn, 1) := by decide +kernel
theorem d_M_comes_0 : decode b_M_comes 0 = .ok (.aload_n 0, 1) := by decide +kernel
theorem d_M_comes_1 : decode b_M_comes 1 = .ok (.getfield 7, 3) := by decide +kernel
theorem d_M_comes_4 : decode b_M_comes 4 = .ok (.iconst 4, 1) := by decide +kernel
theorem d_M_comes_5 : decode b_M_comes 5 = .ok (.iaload, 1) := by decide +kernel
theorem d_M_comes_6 : decode b_M_comes 6 = .ok (.istore 6, 2) := by decide +kernel
theorem d_M_comes_8 : decode b_M_comes 8 = .ok (.aload_n 0, 1) := by decide +kernel
theorem d_M_comes_9 : decode b_M_comes 9 = .ok (.iload 6, 2) := by decide +kernel
theorem d_M_comes_11 : decode b_M_comes 11 = .ok (.iconst 0, 1) := by decide +kernel
theorem d_M_comes_12 : decode b_M_comes 12 = .ok (.iload_n 1, 1) := by decide +kernel
theorem d_M_comes_13 : decode b_M_comes 13 = .ok (.invokevirtual 72, 3) := by decide +kernel
theorem d_M_comes_16 : decode b_M_comes 16 = .ok (.aload_n 0, 1) := by decide +kernel
theorem d_M_comes_17 : decode b_M_comes 17 = .ok (.iload 6, 2) := by decide +kernel
theorem d_M_comes_19 : decode b_M_comes 19 = .ok (.iconst 1, 1) := by decide +kernel
theorem d_M_comes_20 : decode b_M_comes 20 = .ok (.iload_n 2, 1) := by decide +kernel
theorem d_M_comes_21 : decode b_M_comes 21 = .ok (.invokevirtual 72, 3) := by decide +kernel
theorem d_M_comes_24 : decode b_M_comes 24 = .ok (.aload_n 0, 1) := by decide +kernel
theorem d_M_comes_25 : decode b_M_comes 25 = .ok (.iload 6, 2) := by decide +kernel
theorem d_M_comes_27 : decode b_M_comes 27 = .ok (.iconst 2, 1) := by decide +kernel
theorem d_M_comes_28 : decode b_M_comes 28 = .ok (.iload_n 3, 1) := by decide +kernel
theorem d_M_comes_29 : decode b_M_comes 29 = .ok (.invokevirtual 72, 3) := by decide +kernel
theorem d_M_comes_32 : decode b_M_comes 32 = .ok (.aload_n 0, 1) := by decide +kernel
theorem d_M_comes_33 : decode b_M_comes 33 = .ok (.iload 6, 2) := by decide +kernel
theorem d_M_comes_35 : decode b_M_comes 35 = .ok (.iconst 3, 1) := by decide +kernel
theorem d_M_comes_36 : decode b_M_comes 36 = .ok (.iload 4, 2) := by decide +kernel
theorem d_M_comes_38 : decode b_M_comes 38 = .ok (.invokevirtual 72, 3) := by decide +kernel
theorem d_M_comes_41 : decode b_M_comes 41 = .ok (.aload_n 0, 1) := by decide +kernel
theorem d_M_comes_42 : decode b_M_comes 42 = .ok (.iload 6, 2) := by decide +kernel
theorem d_M_comes_44 : decode b_M_comes 44 = .ok (.iconst 4, 1) := by decide +kernel
theorem d_M_comes_45 : decode b_M_comes 45 = .ok (.iload 5, 2) := by decide +kernel
theorem d_M_comes_47 : decode b_M_comes 47 = .ok (.invokevirtual 72, 3) := by decide +kernel
theorem d_M_comes_50 : decode b_M_comes 50 = .ok (.aload_n 0, 1) := by decide +kernel
theorem d_M_comes_51 : decode b_M_comes 51 = .ok (.getfield 7, 3) := by decide +kernel
theorem d_M_comes_54 : decode b_M_comes 54 = .ok (.iconst 4, 1) := by decide +kernel
theorem d_M_comes_55 : decode b_M_comes 55 = .ok (.dup2, 1) := by decide +kernel
theorem d_M_comes_56 : decode b_M_comes 56 = .ok (.iaload, 1) := by decide +kernel
theorem d_M_comes_57 : decode b_M_comes 57 = .ok (.iconst 1, 1) := by decide +kernel
theorem d_M_comes_58 : decode b_M_comes 58 = .ok (.iadd, 1) := by decide +kernel
theorem d_M_comes_59 : decode b_M_comes 59 = .ok (.iastore, 1) := by decide +kernel
theorem d_M_comes_60 : decode b_M_comes 60 = .ok (.iload 6, 2) := by decide +kernel
theorem d_M_comes_62 : decode b_M_comes 62 = .ok (.ireturn, 1) := by decide +kernel
theorem d_M_barge_0 : decode b_M_barge 0 = .ok (.iload_n 1, 1) := by decide +kernel
theorem d_M_barge_1 : decode b_M_barge 1 = .ok (.i2l, 1) := by decide +kernel
theorem d_M_barge_2 : decode b_M_barge 2 = .ok (.lconst 0, 1) := by decide +kernel
theorem d_M_barge_3 : decode b_M_barge 3 = .ok (.ldc2_w 109, 3) := by decide +kernel
theorem d_M_barge_6 : decode b_M_barge 6 = .ok (.invokestatic 58, 3) := by decide +kernel
theorem d_M_barge_9 : decode b_M_barge 9 = .ok (.ifCond .eq 30, 3) := by decide +kernel
theorem d_M_barge_12 : decode b_M_barge 12 = .ok (.iload_n 2, 1) := by decide +kernel
theorem d_M_barge_13 : decode b_M_barge 13 = .ok (.i2l, 1) := by decide +kernel
theorem d_M_barge_14 : decode b_M_barge 14 = .ok (.lconst 0, 1) := by decide +kernel
theorem d_M_barge_15 : decode b_M_barge 15 = .ok (.ldc2_w 100, 3) := by decide +kernel
theorem d_M_barge_18 : decode b_M_barge 18 = .ok (.invokestatic 58, 3) := by decide +kernel
theorem d_M_barge_21 : decode b_M_barge 21 = .ok (.ifCond .eq 18, 3) := by decide +kernel
theorem d_M_barge_24 : decode b_M_barge 24 = .ok (.iload_n 3, 1) := by decide +kernel
theorem d_M_barge_25 : decode b_M_barge 25 = .ok (.invokestatic 111, 3) := by decide +kernel
theorem d_M_barge_28 : decode b_M_barge 28 = .ok (.ifCond .eq 11, 3) := by decide +kernel
theorem d_M_barge_31 : decode b_M_barge 31 = .ok (.iload 4, 2) := by decide +kernel
theorem d_M_barge_33 : decode b_M_barge 33 = .ok (.invokestatic 111, 3) := by decide +kernel
theorem d_M_barge_36 : decode b_M_barge 36 = .ok (.ifCond .ne 5, 3) := by decide +kernel
theorem d_M_barge_39 : decode b_M_barge 39 = .ok (.iconst (-1), 1) := by decide +kernel
theorem d_M_barge_40 : decode b_M_barge 40 = .ok (.ireturn, 1) := by decide +kernel
theorem d_M_barge_41 : decode b_M_barge 41 = .ok (.aload_n 0, 1) := by decide +kernel
theorem d_M_barge_42 : decode b_M_barge 42 = .ok (.getfield 7, 3) := by decide +kernel
theorem d_M_barge_45 : decode b_M_barge 45 = .ok (.iconst 4, 1) := by decide +kernel
theorem d_M_barge_46 : decode b_M_barge 46 = .ok (.iaload, 1) := by decide +kernel
theorem d_M_barge_47 : decode b_M_barge 47 = .ok (.bipush 8, 2) := by decide +kernel
theorem d_M_barge_49 : decode b_M_barge 49 = .ok (.if_icmp .ne 8, 3) := by decide +kernel
theorem d_M_barge_52 : decode b_M_barge 52 = .ok (.bipush (-2), 2) := by decide +kernel
theorem d_M_barge_54 : decode b_M_barge 54 = .ok (.goto 13, 3) := by decide +kernel
theorem d_M_barge_57 : decode b_M_barge 57 = .ok (.aload_n 0, 1) := by decide +kernel
theorem d_M_barge_58 : decode b_M_barge 58 = .ok (.iload_n 1, 1) := by decide +kernel
theorem d_M_barge_59 : decode b_M_barge 59 = .ok (.iload_n 2, 1) := by decide +kernel
theorem d_M_barge_60 : decode b_M_barge 60 = .ok (.iconst 0, 1) := by decide +kernel
theorem d_M_barge_61 : decode b_M_barge 61 = .ok (.iload_n 3, 1) := by decide +kernel
theorem d_M_barge_62 : decode b_M_barge 62 = .ok (.iload 4, 2) := by decide +kernel
theorem d_M_barge_64 : decode b_M_barge 64 = .ok (.invokevirtual 114, 3) := by decide +kernel
theorem d_M_barge_67 : decode b_M_barge 67 = .ok (.ireturn, 1) := by decide +kernel
theorem d_M_of_0 : decode b_M_of 0 = .ok (.aload_n 0, 1) := by decide +kernel
theorem d_M_of_1 : decode b_M_of 1 = .ok (.iload_n 1, 1) := by decide +kernel
theorem d_M_of_2 : decode b_M_of 2 = .ok (.invokevirtual 118, 3) := by decide +kernel
theorem d_M_of_5 : decode b_M_of 5 = .ok (.ifCond .eq 15, 3) := by decide +kernel
theorem d_M_of_8 : decode b_M_of 8 = .ok (.iload_n 2, 1) := by decide +kernel
theorem d_M_of_9 : decode b_M_of 9 = .ok (.i2l, 1) := by decide +kernel
theorem d_M_of_10 : decode b_M_of 10 = .ok (.lconst 0, 1) := by decide +kernel
theorem d_M_of_11 : decode b_M_of 11 = .ok (.ldc2_w 109, 3) := by decide +kernel
theorem d_M_of_14 : decode b_M_of 14 = .ok (.invokestatic 58, 3) := by decide +kernel
theorem d_M_of_17 : decode b_M_of 17 = .ok (.ifCond .ne 5, 3) := by decide +kernel
theorem d_M_of_20 : decode b_M_of 20 = .ok (.iconst (-1), 1) := by decide +kernel
theorem d_M_of_21 : decode b_M_of 21 = .ok (.ireturn, 1) := by decide +kernel
theorem d_M_of_22 : decode b_M_of 22 = .ok (.iload_n 2, 1) := by decide +kernel
theorem d_M_of_23 : decode b_M_of 23 = .ok (.iconst 5, 1) := by decide +kernel
theorem d_M_of_24 : decode b_M_of 24 = .ok (.if_icmp .ne 19, 3) := by decide +kernel
theorem d_M_of_27 : decode b_M_of 27 = .ok (.aload_n 0, 1) := by decide +kernel
theorem d_M_of_28 : decode b_M_of 28 = .ok (.iload_n 1, 1) := by decide +kernel
theorem d_M_of_29 : decode b_M_of 29 = .ok (.invokevirtual 80, 3) := by decide +kernel
theorem d_M_of_32 : decode b_M_of 32 = .ok (.ifCond .eq 7, 3) := by decide +kernel
theorem d_M_of_35 : decode b_M_of 35 = .ok (.iconst 1, 1) := by decide +kernel
theorem d_M_of_36 : decode b_M_of 36 = .ok (.goto 13, 3) := by decide +kernel
theorem d_M_of_39 : decode b_M_of 39 = .ok (.iconst 0, 1) := by decide +kernel
theorem d_M_of_40 : decode b_M_of 40 = .ok (.goto 9, 3) := by decide +kernel
theorem d_M_of_43 : decode b_M_of 43 = .ok (.aload_n 0, 1) := by decide +kernel
theorem d_M_of_44 : decode b_M_of 44 = .ok (.iload_n 1, 1) := by decide +kernel
theorem d_M_of_45 : decode b_M_of 45 = .ok (.iload_n 2, 1) := by decide +kernel
theorem d_M_of_46 : decode b_M_of 46 = .ok (.invokevirtual 64, 3) := by decide +kernel
theorem d_M_of_49 : decode b_M_of 49 = .ok (.ireturn, 1) := by decide +kernel
