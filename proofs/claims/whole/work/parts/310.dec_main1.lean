theorem d_X_spoilt_0 : decode b_X_spoilt 0 = .ok (.iload_n 1, 1) := by decide +kernel
theorem d_X_spoilt_1 : decode b_X_spoilt 1 = .ok (.iconst 1, 1) := by decide +kernel
theorem d_X_spoilt_2 : decode b_X_spoilt 2 = .ok (.if_icmp .lt 9, 3) := by decide +kernel
theorem d_X_spoilt_5 : decode b_X_spoilt 5 = .ok (.iload_n 1, 1) := by decide +kernel
theorem d_X_spoilt_6 : decode b_X_spoilt 6 = .ok (.bipush 30, 2) := by decide +kernel
theorem d_X_spoilt_8 : decode b_X_spoilt 8 = .ok (.if_icmp .le 5, 3) := by decide +kernel
theorem d_X_spoilt_11 : decode b_X_spoilt 11 = .ok (.iconst (-1), 1) := by decide +kernel
theorem d_X_spoilt_12 : decode b_X_spoilt 12 = .ok (.ireturn, 1) := by decide +kernel
theorem d_X_spoilt_13 : decode b_X_spoilt 13 = .ok (.aload_n 0, 1) := by decide +kernel
theorem d_X_spoilt_14 : decode b_X_spoilt 14 = .ok (.iconst 1, 1) := by decide +kernel
theorem d_X_spoilt_15 : decode b_X_spoilt 15 = .ok (.iconst 0, 1) := by decide +kernel
theorem d_X_spoilt_16 : decode b_X_spoilt 16 = .ok (.iconst (-1), 1) := by decide +kernel
theorem d_X_spoilt_17 : decode b_X_spoilt 17 = .ok (.invokevirtual 161, 3) := by decide +kernel
theorem d_X_spoilt_20 : decode b_X_spoilt 20 = .ok (.istore_n 2, 1) := by decide +kernel
theorem d_X_spoilt_21 : decode b_X_spoilt 21 = .ok (.aload_n 0, 1) := by decide +kernel
theorem d_X_spoilt_22 : decode b_X_spoilt 22 = .ok (.getfield 10, 3) := by decide +kernel
theorem d_X_spoilt_25 : decode b_X_spoilt 25 = .ok (.getfield 155, 3) := by decide +kernel
theorem d_X_spoilt_28 : decode b_X_spoilt 28 = .ok (.istore_n 3, 1) := by decide +kernel
theorem d_X_spoilt_29 : decode b_X_spoilt 29 = .ok (.iconst 0, 1) := by decide +kernel
theorem d_X_spoilt_30 : decode b_X_spoilt 30 = .ok (.istore 4, 2) := by decide +kernel
theorem d_X_spoilt_32 : decode b_X_spoilt 32 = .ok (.iconst 0, 1) := by decide +kernel
theorem d_X_spoilt_33 : decode b_X_spoilt 33 = .ok (.istore 5, 2) := by decide +kernel
theorem d_X_spoilt_35 : decode b_X_spoilt 35 = .ok (.iload 5, 2) := by decide +kernel
theorem d_X_spoilt_37 : decode b_X_spoilt 37 = .ok (.iload_n 1, 1) := by decide +kernel
theorem d_X_spoilt_38 : decode b_X_spoilt 38 = .ok (.if_icmp .ge 57, 3) := by decide +kernel
theorem d_X_spoilt_41 : decode b_X_spoilt 41 = .ok (.aload_n 0, 1) := by decide +kernel
theorem d_X_spoilt_42 : decode b_X_spoilt 42 = .ok (.getfield 16, 3) := by decide +kernel
theorem d_X_spoilt_45 : decode b_X_spoilt 45 = .ok (.aload_n 0, 1) := by decide +kernel
theorem d_X_spoilt_46 : decode b_X_spoilt 46 = .ok (.getfield 10, 3) := by decide +kernel
theorem d_X_spoilt_49 : decode b_X_spoilt 49 = .ok (.invokevirtual 69, 3) := by decide +kernel
theorem d_X_spoilt_52 : decode b_X_spoilt 52 = .ok (.aload_n 0, 1) := by decide +kernel
theorem d_X_spoilt_53 : decode b_X_spoilt 53 = .ok (.getfield 16, 3) := by decide +kernel
theorem d_X_spoilt_56 : decode b_X_spoilt 56 = .ok (.iload_n 3, 1) := by decide +kernel
theorem d_X_spoilt_57 : decode b_X_spoilt 57 = .ok (.putfield 155, 3) := by decide +kernel
theorem d_X_spoilt_60 : decode b_X_spoilt 60 = .ok (.aload_n 0, 1) := by decide +kernel
theorem d_X_spoilt_61 : decode b_X_spoilt 61 = .ok (.getfield 16, 3) := by decide +kernel
theorem d_X_spoilt_64 : decode b_X_spoilt 64 = .ok (.invokevirtual 158, 3) := by decide +kernel
theorem d_X_spoilt_67 : decode b_X_spoilt 67 = .ok (.aload_n 0, 1) := by decide +kernel
theorem d_X_spoilt_68 : decode b_X_spoilt 68 = .ok (.getfield 16, 3) := by decide +kernel
theorem d_X_spoilt_71 : decode b_X_spoilt 71 = .ok (.getfield 155, 3) := by decide +kernel
theorem d_X_spoilt_74 : decode b_X_spoilt 74 = .ok (.istore_n 3, 1) := by decide +kernel
theorem d_X_spoilt_75 : decode b_X_spoilt 75 = .ok (.aload_n 0, 1) := by decide +kernel
theorem d_X_spoilt_76 : decode b_X_spoilt 76 = .ok (.getfield 16, 3) := by decide +kernel
theorem d_X_spoilt_79 : decode b_X_spoilt 79 = .ok (.invokevirtual 151, 3) := by decide +kernel
theorem d_X_spoilt_82 : decode b_X_spoilt 82 = .ok (.iload_n 2, 1) := by decide +kernel
theorem d_X_spoilt_83 : decode b_X_spoilt 83 = .ok (.if_icmp .ge 6, 3) := by decide +kernel
theorem d_X_spoilt_86 : decode b_X_spoilt 86 = .ok (.iinc 4 1, 3) := by decide +kernel
theorem d_X_spoilt_89 : decode b_X_spoilt 89 = .ok (.iinc 5 1, 3) := by decide +kernel
theorem d_X_spoilt_92 : decode b_X_spoilt 92 = .ok (.goto (-57), 3) := by decide +kernel
theorem d_X_spoilt_95 : decode b_X_spoilt 95 = .ok (.iload 4, 2) := by decide +kernel
theorem d_X_spoilt_97 : decode b_X_spoilt 97 = .ok (.ireturn, 1) := by decide +kernel
theorem d_X_state_0 : decode b_X_state 0 = .ok (.iload_n 1, 1) := by decide +kernel
theorem d_X_state_1 : decode b_X_state 1 = .ok (.tableswitch 87 0 5 #[39, 47, 55, 63, 71, 79], 39) := by decide +kernel
theorem d_X_state_40 : decode b_X_state 40 = .ok (.aload_n 0, 1) := by decide +kernel
theorem d_X_state_41 : decode b_X_state 41 = .ok (.getfield 10, 3) := by decide +kernel
theorem d_X_state_44 : decode b_X_state 44 = .ok (.getfield 165, 3) := by decide +kernel
theorem d_X_state_47 : decode b_X_state 47 = .ok (.ireturn, 1) := by decide +kernel
theorem d_X_state_48 : decode b_X_state 48 = .ok (.aload_n 0, 1) := by decide +kernel
theorem d_X_state_49 : decode b_X_state 49 = .ok (.getfield 10, 3) := by decide +kernel
theorem d_X_state_52 : decode b_X_state 52 = .ok (.invokevirtual 151, 3) := by decide +kernel
theorem d_X_state_55 : decode b_X_state 55 = .ok (.ireturn, 1) := by decide +kernel
theorem d_X_state_56 : decode b_X_state 56 = .ok (.aload_n 0, 1) := by decide +kernel
theorem d_X_state_57 : decode b_X_state 57 = .ok (.getfield 10, 3) := by decide +kernel
theorem d_X_state_60 : decode b_X_state 60 = .ok (.invokevirtual 168, 3) := by decide +kernel
theorem d_X_state_63 : decode b_X_state 63 = .ok (.ireturn, 1) := by decide +kernel
theorem d_X_state_64 : decode b_X_state 64 = .ok (.aload_n 0, 1) := by decide +kernel
theorem d_X_state_65 : decode b_X_state 65 = .ok (.getfield 10, 3) := by decide +kernel
theorem d_X_state_68 : decode b_X_state 68 = .ok (.invokevirtual 171, 3) := by decide +kernel
theorem d_X_state_71 : decode b_X_state 71 = .ok (.ireturn, 1) := by decide +kernel
theorem d_X_state_72 : decode b_X_state 72 = .ok (.aload_n 0, 1) := by decide +kernel
theorem d_X_state_73 : decode b_X_state 73 = .ok (.getfield 10, 3) := by decide +kernel
theorem d_X_state_76 : decode b_X_state 76 = .ok (.invokevirtual 174, 3) := by decide +kernel
theorem d_X_state_79 : decode b_X_state 79 = .ok (.ireturn, 1) := by decide +kernel
theorem d_X_state_80 : decode b_X_state 80 = .ok (.aload_n 0, 1) := by decide +kernel
theorem d_X_state_81 : decode b_X_state 81 = .ok (.getfield 10, 3) := by decide +kernel
theorem d_X_state_84 : decode b_X_state 84 = .ok (.invokevirtual 177, 3) := by decide +kernel
theorem d_X_state_87 : decode b_X_state 87 = .ok (.ireturn, 1) := by decide +kernel
theorem d_X_state_88 : decode b_X_state 88 = .ok (.iconst (-1), 1) := by decide +kernel
theorem d_X_state_89 : decode b_X_state 89 = .ok (.ireturn, 1) := by decide +kernel
theorem d_X_triedFreight_0 : decode b_X_triedFreight 0 = .ok (.aload_n 0, 1) := by decide +kernel
theorem d_X_triedFreight_1 : decode b_X_triedFreight 1 = .ok (.getfield 16, 3) := by decide +kernel
theorem d_X_triedFreight_4 : decode b_X_triedFreight 4 = .ok (.iload_n 2, 1) := by decide +kernel
theorem d_X_triedFreight_5 : decode b_X_triedFreight 5 = .ok (.invokevirtual 147, 3) := by decide +kernel
theorem d_X_triedFreight_8 : decode b_X_triedFreight 8 = .ok (.aload_n 0, 1) := by decide +kernel
theorem d_X_triedFreight_9 : decode b_X_triedFreight 9 = .ok (.iload_n 1, 1) := by decide +kernel
theorem d_X_triedFreight_10 : decode b_X_triedFreight 10 = .ok (.invokevirtual 106, 3) := by decide +kernel
theorem d_X_triedFreight_13 : decode b_X_triedFreight 13 = .ok (.ifCond .eq 15, 3) := by decide +kernel
theorem d_X_triedFreight_16 : decode b_X_triedFreight 16 = .ok (.aload_n 0, 1) := by decide +kernel
theorem d_X_triedFreight_17 : decode b_X_triedFreight 17 = .ok (.getfield 16, 3) := by decide +kernel
theorem d_X_triedFreight_20 : decode b_X_triedFreight 20 = .ok (.getfield 112, 3) := by decide +kernel
theorem d_X_triedFreight_23 : decode b_X_triedFreight 23 = .ok (.iload_n 1, 1) := by decide +kernel
theorem d_X_triedFreight_24 : decode b_X_triedFreight 24 = .ok (.iaload, 1) := by decide +kernel
theorem d_X_triedFreight_25 : decode b_X_triedFreight 25 = .ok (.goto 4, 3) := by decide +kernel
theorem d_X_triedFreight_28 : decode b_X_triedFreight 28 = .ok (.iconst 0, 1) := by decide +kernel
theorem d_X_triedFreight_29 : decode b_X_triedFreight 29 = .ok (.ireturn, 1) := by decide +kernel
theorem d_X_freight_0 : decode b_X_freight 0 = .ok (.aload_n 0, 1) := by decide +kernel
theorem d_X_freight_1 : decode b_X_freight 1 = .ok (.iload_n 1, 1) := by decide +kernel
theorem d_X_freight_2 : decode b_X_freight 2 = .ok (.invokevirtual 106, 3) := by decide +kernel
theorem d_X_freight_5 : decode b_X_freight 5 = .ok (.ifCond .eq 13, 3) := by decide +kernel
theorem d_X_freight_8 : decode b_X_freight 8 = .ok (.iload_n 2, 1) := by decide +kernel
theorem d_X_freight_9 : decode b_X_freight 9 = .ok (.ifCond .lt 9, 3) := by decide +kernel
theorem d_X_freight_12 : decode b_X_freight 12 = .ok (.iload_n 2, 1) := by decide +kernel
theorem d_X_freight_13 : decode b_X_freight 13 = .ok (.bipush 60, 2) := by decide +kernel
theorem d_X_freight_15 : decode b_X_freight 15 = .ok (.if_icmp .le 5, 3) := by decide +kernel
theorem d_X_freight_18 : decode b_X_freight 18 = .ok (.iconst (-1), 1) := by decide +kernel
theorem d_X_freight_19 : decode b_X_freight 19 = .ok (.ireturn, 1) := by decide +kernel
theorem d_X_freight_20 : decode b_X_freight 20 = .ok (.aload_n 0, 1) := by decide +kernel
theorem d_X_freight_21 : decode b_X_freight 21 = .ok (.getfield 16, 3) := by decide +kernel
theorem d_X_freight_24 : decode b_X_freight 24 = .ok (.aload_n 0, 1) := by decide +kernel
theorem d_X_freight_25 : decode b_X_freight 25 = .ok (.getfield 10, 3) := by decide +kernel
theorem d_X_freight_28 : decode b_X_freight 28 = .ok (.invokevirtual 69, 3) := by decide +kernel
theorem d_X_freight_31 : decode b_X_freight 31 = .ok (.aload_n 0, 1) := by decide +kernel
theorem d_X_freight_32 : decode b_X_freight 32 = .ok (.iload_n 1, 1) := by decide +kernel
theorem d_X_freight_33 : decode b_X_freight 33 = .ok (.iload_n 2, 1) := by decide +kernel
theorem d_X_freight_34 : decode b_X_freight 34 = .ok (.invokevirtual 180, 3) := by decide +kernel
theorem d_X_freight_37 : decode b_X_freight 37 = .ok (.ireturn, 1) := by decide +kernel
theorem d_X_lands_0 : decode b_X_lands 0 = .ok (.aload_n 0, 1) := by decide +kernel
theorem d_X_lands_1 : decode b_X_lands 1 = .ok (.iload_n 1, 1) := by decide +kernel
theorem d_X_lands_2 : decode b_X_lands 2 = .ok (.invokevirtual 106, 3) := by decide +kernel
theorem d_X_lands_5 : decode b_X_lands 5 = .ok (.ifCond .ne 5, 3) := by decide +kernel
theorem d_X_lands_8 : decode b_X_lands 8 = .ok (.iconst (-1), 1) := by decide +kernel
theorem d_X_lands_9 : decode b_X_lands 9 = .ok (.ireturn, 1) := by decide +kernel
theorem d_X_lands_10 : decode b_X_lands 10 = .ok (.aload_n 0, 1) := by decide +kernel
theorem d_X_lands_11 : decode b_X_lands 11 = .ok (.getfield 16, 3) := by decide +kernel
theorem d_X_lands_14 : decode b_X_lands 14 = .ok (.aload_n 0, 1) := by decide +kernel
theorem d_X_lands_15 : decode b_X_lands 15 = .ok (.getfield 10, 3) := by decide +kernel
theorem d_X_lands_18 : decode b_X_lands 18 = .ok (.invokevirtual 69, 3) := by decide +kernel
theorem d_X_lands_21 : decode b_X_lands 21 = .ok (.iconst 0, 1) := by decide +kernel
theorem d_X_lands_22 : decode b_X_lands 22 = .ok (.istore_n 2, 1) := by decide +kernel
theorem d_X_lands_23 : decode b_X_lands 23 = .ok (.iload_n 2, 1) := by decide +kernel
theorem d_X_lands_24 : decode b_X_lands 24 = .ok (.bipush 60, 2) := by decide +kernel
theorem d_X_lands_26 : decode b_X_lands 26 = .ok (.if_icmp .gt 29, 3) := by decide +kernel
theorem d_X_lands_29 : decode b_X_lands 29 = .ok (.aload_n 0, 1) := by decide +kernel
theorem d_X_lands_30 : decode b_X_lands 30 = .ok (.getfield 16, 3) := by decide +kernel
theorem d_X_lands_33 : decode b_X_lands 33 = .ok (.iload_n 1, 1) := by decide +kernel
theorem d_X_lands_34 : decode b_X_lands 34 = .ok (.invokevirtual 124, 3) := by decide +kernel
theorem d_X_lands_37 : decode b_X_lands 37 = .ok (.ifCond .eq 5, 3) := by decide +kernel
theorem d_X_lands_40 : decode b_X_lands 40 = .ok (.iload_n 2, 1) := by decide +kernel
theorem d_X_lands_41 : decode b_X_lands 41 = .ok (.ireturn, 1) := by decide +kernel
theorem d_X_lands_42 : decode b_X_lands 42 = .ok (.aload_n 0, 1) := by decide +kernel
theorem d_X_lands_43 : decode b_X_lands 43 = .ok (.getfield 16, 3) := by decide +kernel
theorem d_X_lands_46 : decode b_X_lands 46 = .ok (.invokevirtual 183, 3) := by decide +kernel
theorem d_X_lands_49 : decode b_X_lands 49 = .ok (.iinc 2 1, 3) := by decide +kernel
theorem d_X_lands_52 : decode b_X_lands 52 = .ok (.goto (-29), 3) := by decide +kernel
theorem d_X_lands_55 : decode b_X_lands 55 = .ok (.bipush (-3), 2) := by decide +kernel
theorem d_X_lands_57 : decode b_X_lands 57 = .ok (.ireturn, 1) := by decide +kernel
theorem d_X_meets_0 : decode b_X_meets 0 = .ok (.aload_n 0, 1) := by decide +kernel
theorem d_X_meets_1 : decode b_X_meets 1 = .ok (.iload_n 1, 1) := by decide +kernel
theorem d_X_meets_2 : decode b_X_meets 2 = .ok (.invokevirtual 106, 3) := by decide +kernel
theorem d_X_meets_5 : decode b_X_meets 5 = .ok (.ifCond .eq 16, 3) := by decide +kernel
theorem d_X_meets_8 : decode b_X_meets 8 = .ok (.aload_n 0, 1) := by decide +kernel
theorem d_X_meets_9 : decode b_X_meets 9 = .ok (.iload_n 2, 1) := by decide +kernel
theorem d_X_meets_10 : decode b_X_meets 10 = .ok (.invokevirtual 106, 3) := by decide +kernel
theorem d_X_meets_13 : decode b_X_meets 13 = .ok (.ifCond .eq 8, 3) := by decide +kernel
theorem d_X_meets_16 : decode b_X_meets 16 = .ok (.iload_n 1, 1) := by decide +kernel
theorem d_X_meets_17 : decode b_X_meets 17 = .ok (.iload_n 2, 1) := by decide +kernel
theorem d_X_meets_18 : decode b_X_meets 18 = .ok (.if_icmp .ne 5, 3) := by decide +kernel
theorem d_X_meets_21 : decode b_X_meets 21 = .ok (.iconst (-1), 1) := by decide +kernel
theorem d_X_meets_22 : decode b_X_meets 22 = .ok (.ireturn, 1) := by decide +kernel
theorem d_X_meets_23 : decode b_X_meets 23 = .ok (.aload_n 0, 1) := by decide +kernel
theorem d_X_meets_24 : decode b_X_meets 24 = .ok (.getfield 16, 3) := by decide +kernel
theorem d_X_meets_27 : decode b_X_meets 27 = .ok (.aload_n 0, 1) := by decide +kernel
theorem d_X_meets_28 : decode b_X_meets 28 = .ok (.getfield 10, 3) := by decide +kernel
theorem d_X_meets_31 : decode b_X_meets 31 = .ok (.invokevirtual 69, 3) := by decide +kernel
theorem d_X_meets_34 : decode b_X_meets 34 = .ok (.iconst 0, 1) := by decide +kernel
theorem d_X_meets_35 : decode b_X_meets 35 = .ok (.istore_n 3, 1) := by decide +kernel
theorem d_X_meets_36 : decode b_X_meets 36 = .ok (.iload_n 3, 1) := by decide +kernel
theorem d_X_meets_37 : decode b_X_meets 37 = .ok (.bipush 60, 2) := by decide +kernel
theorem d_X_meets_39 : decode b_X_meets 39 = .ok (.if_icmp .gt 39, 3) := by decide +kernel
theorem d_X_meets_42 : decode b_X_meets 42 = .ok (.aload_n 0, 1) := by decide +kernel
theorem d_X_meets_43 : decode b_X_meets 43 = .ok (.getfield 16, 3) := by decide +kernel
theorem d_X_meets_46 : decode b_X_meets 46 = .ok (.getfield 118, 3) := by decide +kernel
theorem d_X_meets_49 : decode b_X_meets 49 = .ok (.iload_n 1, 1) := by decide +kernel
theorem d_X_meets_50 : decode b_X_meets 50 = .ok (.iaload, 1) := by decide +kernel
theorem d_X_meets_51 : decode b_X_meets 51 = .ok (.aload_n 0, 1) := by decide +kernel
theorem d_X_meets_52 : decode b_X_meets 52 = .ok (.getfield 16, 3) := by decide +kernel
theorem d_X_meets_55 : decode b_X_meets 55 = .ok (.getfield 118, 3) := by decide +kernel
theorem d_X_meets_58 : decode b_X_meets 58 = .ok (.iload_n 2, 1) := by decide +kernel
theorem d_X_meets_59 : decode b_X_meets 59 = .ok (.iaload, 1) := by decide +kernel
theorem d_X_meets_60 : decode b_X_meets 60 = .ok (.if_icmp .ne 5, 3) := by decide +kernel
theorem d_X_meets_63 : decode b_X_meets 63 = .ok (.iload_n 3, 1) := by decide +kernel
theorem d_X_meets_64 : decode b_X_meets 64 = .ok (.ireturn, 1) := by decide +kernel
theorem d_X_meets_65 : decode b_X_meets 65 = .ok (.aload_n 0, 1) := by decide +kernel
theorem d_X_meets_66 : decode b_X_meets 66 = .ok (.getfield 16, 3) := by decide +kernel
theorem d_X_meets_69 : decode b_X_meets 69 = .ok (.invokevirtual 183, 3) := by decide +kernel
theorem d_X_meets_72 : decode b_X_meets 72 = .ok (.iinc 3 1, 3) := by decide +kernel
theorem d_X_meets_75 : decode b_X_meets 75 = .ok (.goto (-39), 3) := by decide +kernel
theorem d_X_meets_78 : decode b_X_meets 78 = .ok (.bipush (-3), 2) := by decide +kernel
theorem d_X_meets_80 : decode b_X_meets 80 = .ok (.ireturn, 1) := by decide +kernel
theorem d_X_quiet_0 : decode b_X_quiet 0 = .ok (.aload_n 0, 1) := by decide +kernel
theorem d_X_quiet_1 : decode b_X_quiet 1 = .ok (.getfield 16, 3) := by decide +kernel
theorem d_X_quiet_4 : decode b_X_quiet 4 = .ok (.aload_n 0, 1) := by decide +kernel
theorem d_X_quiet_5 : decode b_X_quiet 5 = .ok (.getfield 10, 3) := by decide +kernel
theorem d_X_quiet_8 : decode b_X_quiet 8 = .ok (.invokevirtual 69, 3) := by decide +kernel
theorem d_X_quiet_11 : decode b_X_quiet 11 = .ok (.iconst 0, 1) := by decide +kernel
theorem d_X_quiet_12 : decode b_X_quiet 12 = .ok (.istore_n 1, 1) := by decide +kernel
theorem d_X_quiet_13 : decode b_X_quiet 13 = .ok (.iload_n 1, 1) := by decide +kernel
theorem d_X_quiet_14 : decode b_X_quiet 14 = .ok (.bipush 60, 2) := by decide +kernel
theorem d_X_quiet_16 : decode b_X_quiet 16 = .ok (.if_icmp .gt 28, 3) := by decide +kernel
theorem d_X_quiet_19 : decode b_X_quiet 19 = .ok (.aload_n 0, 1) := by decide +kernel
theorem d_X_quiet_20 : decode b_X_quiet 20 = .ok (.getfield 16, 3) := by decide +kernel
theorem d_X_quiet_23 : decode b_X_quiet 23 = .ok (.invokevirtual 186, 3) := by decide +kernel
theorem d_X_quiet_26 : decode b_X_quiet 26 = .ok (.ifCond .eq 5, 3) := by decide +kernel
theorem d_X_quiet_29 : decode b_X_quiet 29 = .ok (.iload_n 1, 1) := by decide +kernel
theorem d_X_quiet_30 : decode b_X_quiet 30 = .ok (.ireturn, 1) := by decide +kernel
theorem d_X_quiet_31 : decode b_X_quiet 31 = .ok (.aload_n 0, 1) := by decide +kernel
theorem d_X_quiet_32 : decode b_X_quiet 32 = .ok (.getfield 16, 3) := by decide +kernel
theorem d_X_quiet_35 : decode b_X_quiet 35 = .ok (.invokevirtual 183, 3) := by decide +kernel
theorem d_X_quiet_38 : decode b_X_quiet 38 = .ok (.iinc 1 1, 3) := by decide +kernel
theorem d_X_quiet_41 : decode b_X_quiet 41 = .ok (.goto (-28), 3) := by decide +kernel
theorem d_X_quiet_44 : decode b_X_quiet 44 = .ok (.bipush (-3), 2) := by decide +kernel
theorem d_X_quiet_46 : decode b_X_quiet 46 = .ok (.ireturn, 1) := by decide +kernel
theorem d_X_cargo_0 : decode b_X_cargo 0 = .ok (.iload_n 1, 1) := by decide +kernel
theorem d_X_cargo_1 : decode b_X_cargo 1 = .ok (.ifCond .lt 9, 3) := by decide +kernel
theorem d_X_cargo_4 : decode b_X_cargo 4 = .ok (.iload_n 1, 1) := by decide +kernel
theorem d_X_cargo_5 : decode b_X_cargo 5 = .ok (.bipush 60, 2) := by decide +kernel
theorem d_X_cargo_7 : decode b_X_cargo 7 = .ok (.if_icmp .le 7, 3) := by decide +kernel
theorem d_X_cargo_10 : decode b_X_cargo 10 = .ok (.iconst (-1), 1) := by decide +kernel
theorem d_X_cargo_11 : decode b_X_cargo 11 = .ok (.goto 10, 3) := by decide +kernel
theorem d_X_cargo_14 : decode b_X_cargo 14 = .ok (.aload_n 0, 1) := by decide +kernel
theorem d_X_cargo_15 : decode b_X_cargo 15 = .ok (.iload_n 1, 1) := by decide +kernel
theorem d_X_cargo_16 : decode b_X_cargo 16 = .ok (.iconst 0, 1) := by decide +kernel
theorem d_X_cargo_17 : decode b_X_cargo 17 = .ok (.iconst (-1), 1) := by decide +kernel
theorem d_X_cargo_18 : decode b_X_cargo 18 = .ok (.invokevirtual 161, 3) := by decide +kernel
theorem d_X_cargo_21 : decode b_X_cargo 21 = .ok (.ireturn, 1) := by decide +kernel
theorem d_X_stillFor_0 : decode b_X_stillFor 0 = .ok (.aload_n 0, 1) := by decide +kernel
theorem d_X_stillFor_1 : decode b_X_stillFor 1 = .ok (.iload_n 1, 1) := by decide +kernel
theorem d_X_stillFor_2 : decode b_X_stillFor 2 = .ok (.invokevirtual 106, 3) := by decide +kernel
theorem d_X_stillFor_5 : decode b_X_stillFor 5 = .ok (.ifCond .eq 14, 3) := by decide +kernel
theorem d_X_stillFor_8 : decode b_X_stillFor 8 = .ok (.iload_n 2, 1) := by decide +kernel
theorem d_X_stillFor_9 : decode b_X_stillFor 9 = .ok (.iconst 1, 1) := by decide +kernel
theorem d_X_stillFor_10 : decode b_X_stillFor 10 = .ok (.if_icmp .lt 9, 3) := by decide +kernel
theorem d_X_stillFor_13 : decode b_X_stillFor 13 = .ok (.iload_n 2, 1) := by decide +kernel
theorem d_X_stillFor_14 : decode b_X_stillFor 14 = .ok (.bipush 30, 2) := by decide +kernel
theorem d_X_stillFor_16 : decode b_X_stillFor 16 = .ok (.if_icmp .le 5, 3) := by decide +kernel
theorem d_X_stillFor_19 : decode b_X_stillFor 19 = .ok (.iconst (-1), 1) := by decide +kernel
theorem d_X_stillFor_20 : decode b_X_stillFor 20 = .ok (.ireturn, 1) := by decide +kernel
theorem d_X_stillFor_21 : decode b_X_stillFor 21 = .ok (.aload_n 0, 1) := by decide +kernel
theorem d_X_stillFor_22 : decode b_X_stillFor 22 = .ok (.getfield 16, 3) := by decide +kernel
theorem d_X_stillFor_25 : decode b_X_stillFor 25 = .ok (.aload_n 0, 1) := by decide +kernel
theorem d_X_stillFor_26 : decode b_X_stillFor 26 = .ok (.getfield 10, 3) := by decide +kernel
theorem d_X_stillFor_29 : decode b_X_stillFor 29 = .ok (.invokevirtual 69, 3) := by decide +kernel
theorem d_X_stillFor_32 : decode b_X_stillFor 32 = .ok (.aload_n 0, 1) := by decide +kernel
theorem d_X_stillFor_33 : decode b_X_stillFor 33 = .ok (.iload_n 1, 1) := by decide +kernel
theorem d_X_stillFor_34 : decode b_X_stillFor 34 = .ok (.iload_n 2, 1) := by decide +kernel
theorem d_X_stillFor_35 : decode b_X_stillFor 35 = .ok (.invokevirtual 180, 3) := by decide +kernel
theorem d_X_stillFor_38 : decode b_X_stillFor 38 = .ok (.istore_n 3, 1) := by decide +kernel
theorem d_X_stillFor_39 : decode b_X_stillFor 39 = .ok (.bipush (-3), 2) := by decide +kernel
theorem d_X_stillFor_41 : decode b_X_stillFor 41 = .ok (.istore 4, 2) := by decide +kernel
theorem d_X_stillFor_43 : decode b_X_stillFor 43 = .ok (.iconst 0, 1) := by decide +kernel
theorem d_X_stillFor_44 : decode b_X_stillFor 44 = .ok (.istore 5, 2) := by decide +kernel
theorem d_X_stillFor_46 : decode b_X_stillFor 46 = .ok (.iload 5, 2) := by decide +kernel
theorem d_X_stillFor_48 : decode b_X_stillFor 48 = .ok (.bipush 10, 2) := by decide +kernel
theorem d_X_stillFor_50 : decode b_X_stillFor 50 = .ok (.if_icmp .ge 52, 3) := by decide +kernel
theorem d_X_stillFor_53 : decode b_X_stillFor 53 = .ok (.aload_n 0, 1) := by decide +kernel
theorem d_X_stillFor_54 : decode b_X_stillFor 54 = .ok (.getfield 16, 3) := by decide +kernel
theorem d_X_stillFor_57 : decode b_X_stillFor 57 = .ok (.aload_n 0, 1) := by decide +kernel
theorem d_X_stillFor_58 : decode b_X_stillFor 58 = .ok (.getfield 10, 3) := by decide +kernel
theorem d_X_stillFor_61 : decode b_X_stillFor 61 = .ok (.invokevirtual 69, 3) := by decide +kernel
theorem d_X_stillFor_64 : decode b_X_stillFor 64 = .ok (.aload_n 0, 1) := by decide +kernel
theorem d_X_stillFor_65 : decode b_X_stillFor 65 = .ok (.getfield 16, 3) := by decide +kernel
theorem d_X_stillFor_68 : decode b_X_stillFor 68 = .ok (.getfield 138, 3) := by decide +kernel
theorem d_X_stillFor_71 : decode b_X_stillFor 71 = .ok (.iload 5, 2) := by decide +kernel
theorem d_X_stillFor_73 : decode b_X_stillFor 73 = .ok (.iconst 0, 1) := by decide +kernel
theorem d_X_stillFor_74 : decode b_X_stillFor 74 = .ok (.iastore, 1) := by decide +kernel
theorem d_X_stillFor_75 : decode b_X_stillFor 75 = .ok (.aload_n 0, 1) := by decide +kernel
theorem d_X_stillFor_76 : decode b_X_stillFor 76 = .ok (.iload_n 1, 1) := by decide +kernel
theorem d_X_stillFor_77 : decode b_X_stillFor 77 = .ok (.iload_n 2, 1) := by decide +kernel
theorem d_X_stillFor_78 : decode b_X_stillFor 78 = .ok (.invokevirtual 180, 3) := by decide +kernel
theorem d_X_stillFor_81 : decode b_X_stillFor 81 = .ok (.istore 6, 2) := by decide +kernel
theorem d_X_stillFor_83 : decode b_X_stillFor 83 = .ok (.iload 6, 2) := by decide +kernel
theorem d_X_stillFor_85 : decode b_X_stillFor 85 = .ok (.iload_n 3, 1) := by decide +kernel
theorem d_X_stillFor_86 : decode b_X_stillFor 86 = .ok (.if_icmp .le 10, 3) := by decide +kernel
theorem d_X_stillFor_89 : decode b_X_stillFor 89 = .ok (.iload 6, 2) := by decide +kernel
theorem d_X_stillFor_91 : decode b_X_stillFor 91 = .ok (.istore_n 3, 1) := by decide +kernel
theorem d_X_stillFor_92 : decode b_X_stillFor 92 = .ok (.iload 5, 2) := by decide +kernel
theorem d_X_stillFor_94 : decode b_X_stillFor 94 = .ok (.istore 4, 2) := by decide +kernel
theorem d_X_stillFor_96 : decode b_X_stillFor 96 = .ok (.iinc 5 1, 3) := by decide +kernel
theorem d_X_stillFor_99 : decode b_X_stillFor 99 = .ok (.goto (-53), 3) := by decide +kernel
theorem d_X_stillFor_102 : decode b_X_stillFor 102 = .ok (.iload 4, 2) := by decide +kernel
theorem d_X_stillFor_104 : decode b_X_stillFor 104 = .ok (.ireturn, 1) := by decide +kernel
theorem d_X_kindFor_0 : decode b_X_kindFor 0 = .ok (.aload_n 0, 1) := by decide +kernel
theorem d_X_kindFor_1 : decode b_X_kindFor 1 = .ok (.iload_n 1, 1) := by decide +kernel
theorem d_X_kindFor_2 : decode b_X_kindFor 2 = .ok (.invokevirtual 106, 3) := by decide +kernel
theorem d_X_kindFor_5 : decode b_X_kindFor 5 = .ok (.ifCond .eq 14, 3) := by decide +kernel
theorem d_X_kindFor_8 : decode b_X_kindFor 8 = .ok (.iload_n 2, 1) := by decide +kernel
theorem d_X_kindFor_9 : decode b_X_kindFor 9 = .ok (.iconst 1, 1) := by decide +kernel
theorem d_X_kindFor_10 : decode b_X_kindFor 10 = .ok (.if_icmp .lt 9, 3) := by decide +kernel
theorem d_X_kindFor_13 : decode b_X_kindFor 13 = .ok (.iload_n 2, 1) := by decide +kernel
theorem d_X_kindFor_14 : decode b_X_kindFor 14 = .ok (.bipush 30, 2) := by decide +kernel
theorem d_X_kindFor_16 : decode b_X_kindFor 16 = .ok (.if_icmp .le 5, 3) := by decide +kernel
theorem d_X_kindFor_19 : decode b_X_kindFor 19 = .ok (.iconst (-1), 1) := by decide +kernel
theorem d_X_kindFor_20 : decode b_X_kindFor 20 = .ok (.ireturn, 1) := by decide +kernel
theorem d_X_kindFor_21 : decode b_X_kindFor 21 = .ok (.iconst (-1), 1) := by decide +kernel
theorem d_X_kindFor_22 : decode b_X_kindFor 22 = .ok (.istore_n 3, 1) := by decide +kernel
theorem d_X_kindFor_23 : decode b_X_kindFor 23 = .ok (.iconst 0, 1) := by decide +kernel
theorem d_X_kindFor_24 : decode b_X_kindFor 24 = .ok (.istore 4, 2) := by decide +kernel
theorem d_X_kindFor_26 : decode b_X_kindFor 26 = .ok (.iconst 0, 1) := by decide +kernel
theorem d_X_kindFor_27 : decode b_X_kindFor 27 = .ok (.istore 5, 2) := by decide +kernel
theorem d_X_kindFor_29 : decode b_X_kindFor 29 = .ok (.iload 5, 2) := by decide +kernel
theorem d_X_kindFor_31 : decode b_X_kindFor 31 = .ok (.bipush 6, 2) := by decide +kernel
theorem d_X_kindFor_33 : decode b_X_kindFor 33 = .ok (.if_icmp .ge 52, 3) := by decide +kernel
theorem d_X_kindFor_36 : decode b_X_kindFor 36 = .ok (.aload_n 0, 1) := by decide +kernel
theorem d_X_kindFor_37 : decode b_X_kindFor 37 = .ok (.getfield 16, 3) := by decide +kernel
theorem d_X_kindFor_40 : decode b_X_kindFor 40 = .ok (.aload_n 0, 1) := by decide +kernel
theorem d_X_kindFor_41 : decode b_X_kindFor 41 = .ok (.getfield 10, 3) := by decide +kernel
theorem d_X_kindFor_44 : decode b_X_kindFor 44 = .ok (.invokevirtual 69, 3) := by decide +kernel
theorem d_X_kindFor_47 : decode b_X_kindFor 47 = .ok (.aload_n 0, 1) := by decide +kernel
theorem d_X_kindFor_48 : decode b_X_kindFor 48 = .ok (.getfield 16, 3) := by decide +kernel
theorem d_X_kindFor_51 : decode b_X_kindFor 51 = .ok (.getfield 109, 3) := by decide +kernel
theorem d_X_kindFor_54 : decode b_X_kindFor 54 = .ok (.iload_n 1, 1) := by decide +kernel
theorem d_X_kindFor_55 : decode b_X_kindFor 55 = .ok (.iload 5, 2) := by decide +kernel
theorem d_X_kindFor_57 : decode b_X_kindFor 57 = .ok (.iastore, 1) := by decide +kernel
theorem d_X_kindFor_58 : decode b_X_kindFor 58 = .ok (.aload_n 0, 1) := by decide +kernel
theorem d_X_kindFor_59 : decode b_X_kindFor 59 = .ok (.iload_n 1, 1) := by decide +kernel
theorem d_X_kindFor_60 : decode b_X_kindFor 60 = .ok (.iload_n 2, 1) := by decide +kernel
theorem d_X_kindFor_61 : decode b_X_kindFor 61 = .ok (.invokevirtual 180, 3) := by decide +kernel
theorem d_X_kindFor_64 : decode b_X_kindFor 64 = .ok (.istore 6, 2) := by decide +kernel
theorem d_X_kindFor_66 : decode b_X_kindFor 66 = .ok (.iload 6, 2) := by decide +kernel
theorem d_X_kindFor_68 : decode b_X_kindFor 68 = .ok (.iload_n 3, 1) := by decide +kernel
theorem d_X_kindFor_69 : decode b_X_kindFor 69 = .ok (.if_icmp .le 10, 3) := by decide +kernel
theorem d_X_kindFor_72 : decode b_X_kindFor 72 = .ok (.iload 6, 2) := by decide +kernel
theorem d_X_kindFor_74 : decode b_X_kindFor 74 = .ok (.istore_n 3, 1) := by decide +kernel
theorem d_X_kindFor_75 : decode b_X_kindFor 75 = .ok (.iload 5, 2) := by decide +kernel
theorem d_X_kindFor_77 : decode b_X_kindFor 77 = .ok (.istore 4, 2) := by decide +kernel
theorem d_X_kindFor_79 : decode b_X_kindFor 79 = .ok (.iinc 5 1, 3) := by decide +kernel
theorem d_X_kindFor_82 : decode b_X_kindFor 82 = .ok (.goto (-53), 3) := by decide +kernel
theorem d_X_kindFor_85 : decode b_X_kindFor 85 = .ok (.iload 4, 2) := by decide +kernel
theorem d_X_kindFor_87 : decode b_X_kindFor 87 = .ok (.ireturn, 1) := by decide +kernel
theorem d_X_loadFor_0 : decode b_X_loadFor 0 = .ok (.aload_n 0, 1) := by decide +kernel
theorem d_X_loadFor_1 : decode b_X_loadFor 1 = .ok (.iload_n 1, 1) := by decide +kernel
theorem d_X_loadFor_2 : decode b_X_loadFor 2 = .ok (.invokevirtual 106, 3) := by decide +kernel
theorem d_X_loadFor_5 : decode b_X_loadFor 5 = .ok (.ifCond .eq 21, 3) := by decide +kernel
theorem d_X_loadFor_8 : decode b_X_loadFor 8 = .ok (.iload_n 2, 1) := by decide +kernel
theorem d_X_loadFor_9 : decode b_X_loadFor 9 = .ok (.iconst 1, 1) := by decide +kernel
theorem d_X_loadFor_10 : decode b_X_loadFor 10 = .ok (.if_icmp .lt 16, 3) := by decide +kernel
theorem d_X_loadFor_13 : decode b_X_loadFor 13 = .ok (.iload_n 2, 1) := by decide +kernel
theorem d_X_loadFor_14 : decode b_X_loadFor 14 = .ok (.bipush 30, 2) := by decide +kernel
theorem d_X_loadFor_16 : decode b_X_loadFor 16 = .ok (.if_icmp .gt 10, 3) := by decide +kernel
theorem d_X_loadFor_19 : decode b_X_loadFor 19 = .ok (.iload_n 3, 1) := by decide +kernel
theorem d_X_loadFor_20 : decode b_X_loadFor 20 = .ok (.invokestatic 96, 3) := by decide +kernel
theorem d_X_loadFor_23 : decode b_X_loadFor 23 = .ok (.ifCond .ne 5, 3) := by decide +kernel
theorem d_X_loadFor_26 : decode b_X_loadFor 26 = .ok (.iconst (-1), 1) := by decide +kernel
theorem d_X_loadFor_27 : decode b_X_loadFor 27 = .ok (.ireturn, 1) := by decide +kernel
theorem d_X_loadFor_28 : decode b_X_loadFor 28 = .ok (.iconst 0, 1) := by decide +kernel
theorem d_X_loadFor_29 : decode b_X_loadFor 29 = .ok (.istore 4, 2) := by decide +kernel
theorem d_X_loadFor_31 : decode b_X_loadFor 31 = .ok (.iload 4, 2) := by decide +kernel
theorem d_X_loadFor_33 : decode b_X_loadFor 33 = .ok (.bipush 99, 2) := by decide +kernel
theorem d_X_loadFor_35 : decode b_X_loadFor 35 = .ok (.if_icmp .gt 44, 3) := by decide +kernel
theorem d_X_loadFor_38 : decode b_X_loadFor 38 = .ok (.aload_n 0, 1) := by decide +kernel
theorem d_X_loadFor_39 : decode b_X_loadFor 39 = .ok (.getfield 16, 3) := by decide +kernel
theorem d_X_loadFor_42 : decode b_X_loadFor 42 = .ok (.aload_n 0, 1) := by decide +kernel
theorem d_X_loadFor_43 : decode b_X_loadFor 43 = .ok (.getfield 10, 3) := by decide +kernel
theorem d_X_loadFor_46 : decode b_X_loadFor 46 = .ok (.invokevirtual 69, 3) := by decide +kernel
theorem d_X_loadFor_49 : decode b_X_loadFor 49 = .ok (.aload_n 0, 1) := by decide +kernel
theorem d_X_loadFor_50 : decode b_X_loadFor 50 = .ok (.getfield 16, 3) := by decide +kernel
theorem d_X_loadFor_53 : decode b_X_loadFor 53 = .ok (.getfield 112, 3) := by decide +kernel
theorem d_X_loadFor_56 : decode b_X_loadFor 56 = .ok (.iload_n 1, 1) := by decide +kernel
theorem d_X_loadFor_57 : decode b_X_loadFor 57 = .ok (.iload 4, 2) := by decide +kernel
theorem d_X_loadFor_59 : decode b_X_loadFor 59 = .ok (.iastore, 1) := by decide +kernel
theorem d_X_loadFor_60 : decode b_X_loadFor 60 = .ok (.aload_n 0, 1) := by decide +kernel
theorem d_X_loadFor_61 : decode b_X_loadFor 61 = .ok (.iload_n 1, 1) := by decide +kernel
theorem d_X_loadFor_62 : decode b_X_loadFor 62 = .ok (.iload_n 2, 1) := by decide +kernel
theorem d_X_loadFor_63 : decode b_X_loadFor 63 = .ok (.invokevirtual 180, 3) := by decide +kernel
theorem d_X_loadFor_66 : decode b_X_loadFor 66 = .ok (.iload_n 3, 1) := by decide +kernel
theorem d_X_loadFor_67 : decode b_X_loadFor 67 = .ok (.if_icmp .lt 6, 3) := by decide +kernel
theorem d_X_loadFor_70 : decode b_X_loadFor 70 = .ok (.iload 4, 2) := by decide +kernel
theorem d_X_loadFor_72 : decode b_X_loadFor 72 = .ok (.ireturn, 1) := by decide +kernel
theorem d_X_loadFor_73 : decode b_X_loadFor 73 = .ok (.iinc 4 1, 3) := by decide +kernel
theorem d_X_loadFor_76 : decode b_X_loadFor 76 = .ok (.goto (-45), 3) := by decide +kernel
theorem d_X_loadFor_79 : decode b_X_loadFor 79 = .ok (.bipush (-3), 2) := by decide +kernel
theorem d_X_loadFor_81 : decode b_X_loadFor 81 = .ok (.ireturn, 1) := by decide +kernel
theorem d_X_hushedFor_0 : decode b_X_hushedFor 0 = .ok (.iload_n 1, 1) := by decide +kernel
theorem d_X_hushedFor_1 : decode b_X_hushedFor 1 = .ok (.iconst 1, 1) := by decide +kernel
theorem d_X_hushedFor_2 : decode b_X_hushedFor 2 = .ok (.if_icmp .lt 20, 3) := by decide +kernel
theorem d_X_hushedFor_5 : decode b_X_hushedFor 5 = .ok (.iload_n 1, 1) := by decide +kernel
theorem d_X_hushedFor_6 : decode b_X_hushedFor 6 = .ok (.bipush 20, 2) := by decide +kernel
theorem d_X_hushedFor_8 : decode b_X_hushedFor 8 = .ok (.if_icmp .gt 14, 3) := by decide +kernel
theorem d_X_hushedFor_11 : decode b_X_hushedFor 11 = .ok (.iload_n 2, 1) := by decide +kernel
theorem d_X_hushedFor_12 : decode b_X_hushedFor 12 = .ok (.ifCond .lt 10, 3) := by decide +kernel
theorem d_X_hushedFor_15 : decode b_X_hushedFor 15 = .ok (.iload_n 2, 1) := by decide +kernel
theorem d_X_hushedFor_16 : decode b_X_hushedFor 16 = .ok (.sipush 999, 3) := by decide +kernel
theorem d_X_hushedFor_19 : decode b_X_hushedFor 19 = .ok (.if_icmp .le 5, 3) := by decide +kernel
theorem d_X_hushedFor_22 : decode b_X_hushedFor 22 = .ok (.iconst (-1), 1) := by decide +kernel
theorem d_X_hushedFor_23 : decode b_X_hushedFor 23 = .ok (.ireturn, 1) := by decide +kernel
theorem d_X_hushedFor_24 : decode b_X_hushedFor 24 = .ok (.aload_n 0, 1) := by decide +kernel
theorem d_X_hushedFor_25 : decode b_X_hushedFor 25 = .ok (.iload_n 1, 1) := by decide +kernel
theorem d_X_hushedFor_26 : decode b_X_hushedFor 26 = .ok (.sipush 1023, 3) := by decide +kernel
theorem d_X_hushedFor_29 : decode b_X_hushedFor 29 = .ok (.iconst (-1), 1) := by decide +kernel
theorem d_X_hushedFor_30 : decode b_X_hushedFor 30 = .ok (.invokevirtual 161, 3) := by decide +kernel
theorem d_X_hushedFor_33 : decode b_X_hushedFor 33 = .ok (.iload_n 2, 1) := by decide +kernel
theorem d_X_hushedFor_34 : decode b_X_hushedFor 34 = .ok (.if_icmp .ge 6, 3) := by decide +kernel
theorem d_X_hushedFor_37 : decode b_X_hushedFor 37 = .ok (.bipush (-3), 2) := by decide +kernel
theorem d_X_hushedFor_39 : decode b_X_hushedFor 39 = .ok (.ireturn, 1) := by decide +kernel
theorem d_X_hushedFor_40 : decode b_X_hushedFor 40 = .ok (.aload_n 0, 1) := by decide +kernel
theorem d_X_hushedFor_41 : decode b_X_hushedFor 41 = .ok (.getfield 10, 3) := by decide +kernel
theorem d_X_hushedFor_44 : decode b_X_hushedFor 44 = .ok (.invokevirtual 190, 3) := by decide +kernel
theorem d_X_hushedFor_47 : decode b_X_hushedFor 47 = .ok (.istore_n 3, 1) := by decide +kernel
theorem d_X_hushedFor_48 : decode b_X_hushedFor 48 = .ok (.iconst 0, 1) := by decide +kernel
theorem d_X_hushedFor_49 : decode b_X_hushedFor 49 = .ok (.istore 4, 2) := by decide +kernel
theorem d_X_hushedFor_51 : decode b_X_hushedFor 51 = .ok (.iload 4, 2) := by decide +kernel
theorem d_X_hushedFor_53 : decode b_X_hushedFor 53 = .ok (.bipush 10, 2) := by decide +kernel
theorem d_X_hushedFor_55 : decode b_X_hushedFor 55 = .ok (.if_icmp .gt 72, 3) := by decide +kernel
theorem d_X_hushedFor_58 : decode b_X_hushedFor 58 = .ok (.iconst 0, 1) := by decide +kernel
theorem d_X_hushedFor_59 : decode b_X_hushedFor 59 = .ok (.istore 5, 2) := by decide +kernel
theorem d_X_hushedFor_61 : decode b_X_hushedFor 61 = .ok (.iload 5, 2) := by decide +kernel
theorem d_X_hushedFor_63 : decode b_X_hushedFor 63 = .ok (.sipush 1023, 3) := by decide +kernel
theorem d_X_hushedFor_66 : decode b_X_hushedFor 66 = .ok (.if_icmp .gt 55, 3) := by decide +kernel
theorem d_X_hushedFor_69 : decode b_X_hushedFor 69 = .ok (.iload 5, 2) := by decide +kernel
theorem d_X_hushedFor_71 : decode b_X_hushedFor 71 = .ok (.iload_n 3, 1) := by decide +kernel
theorem d_X_hushedFor_72 : decode b_X_hushedFor 72 = .ok (.iconst (-1), 1) := by decide +kernel
theorem d_X_hushedFor_73 : decode b_X_hushedFor 73 = .ok (.ixor, 1) := by decide +kernel
theorem d_X_hushedFor_74 : decode b_X_hushedFor 74 = .ok (.iand, 1) := by decide +kernel
theorem d_X_hushedFor_75 : decode b_X_hushedFor 75 = .ok (.ifCond .ne 17, 3) := by decide +kernel
theorem d_X_hushedFor_78 : decode b_X_hushedFor 78 = .ok (.iload 5, 2) := by decide +kernel
theorem d_X_hushedFor_80 : decode b_X_hushedFor 80 = .ok (.invokestatic 193, 3) := by decide +kernel
theorem d_X_hushedFor_83 : decode b_X_hushedFor 83 = .ok (.iload 4, 2) := by decide +kernel
theorem d_X_hushedFor_85 : decode b_X_hushedFor 85 = .ok (.if_icmp .ne 7, 3) := by decide +kernel
theorem d_X_hushedFor_88 : decode b_X_hushedFor 88 = .ok (.iconst 1, 1) := by decide +kernel
theorem d_X_hushedFor_89 : decode b_X_hushedFor 89 = .ok (.goto 4, 3) := by decide +kernel
theorem d_X_hushedFor_92 : decode b_X_hushedFor 92 = .ok (.iconst 0, 1) := by decide +kernel
theorem d_X_hushedFor_93 : decode b_X_hushedFor 93 = .ok (.istore 6, 2) := by decide +kernel
theorem d_X_hushedFor_95 : decode b_X_hushedFor 95 = .ok (.iload 6, 2) := by decide +kernel
theorem d_X_hushedFor_97 : decode b_X_hushedFor 97 = .ok (.ifCond .eq 18, 3) := by decide +kernel
theorem d_X_hushedFor_100 : decode b_X_hushedFor 100 = .ok (.aload_n 0, 1) := by decide +kernel
theorem d_X_hushedFor_101 : decode b_X_hushedFor 101 = .ok (.iload_n 1, 1) := by decide +kernel
theorem d_X_hushedFor_102 : decode b_X_hushedFor 102 = .ok (.iload 5, 2) := by decide +kernel
theorem d_X_hushedFor_104 : decode b_X_hushedFor 104 = .ok (.iconst (-1), 1) := by decide +kernel
theorem d_X_hushedFor_105 : decode b_X_hushedFor 105 = .ok (.invokevirtual 161, 3) := by decide +kernel
theorem d_X_hushedFor_108 : decode b_X_hushedFor 108 = .ok (.iload_n 2, 1) := by decide +kernel
theorem d_X_hushedFor_109 : decode b_X_hushedFor 109 = .ok (.if_icmp .lt 6, 3) := by decide +kernel
theorem d_X_hushedFor_112 : decode b_X_hushedFor 112 = .ok (.iload 5, 2) := by decide +kernel
theorem d_X_hushedFor_114 : decode b_X_hushedFor 114 = .ok (.ireturn, 1) := by decide +kernel
theorem d_X_hushedFor_115 : decode b_X_hushedFor 115 = .ok (.iinc 5 1, 3) := by decide +kernel
theorem d_X_hushedFor_118 : decode b_X_hushedFor 118 = .ok (.goto (-57), 3) := by decide +kernel
theorem d_X_hushedFor_121 : decode b_X_hushedFor 121 = .ok (.iinc 4 1, 3) := by decide +kernel
theorem d_X_hushedFor_124 : decode b_X_hushedFor 124 = .ok (.goto (-73), 3) := by decide +kernel
theorem d_X_hushedFor_127 : decode b_X_hushedFor 127 = .ok (.bipush (-3), 2) := by decide +kernel
theorem d_X_hushedFor_129 : decode b_X_hushedFor 129 = .ok (.ireturn, 1) := by decide +kernel
theorem d_X_holdFor_0 : decode b_X_holdFor 0 = .ok (.iload_n 1, 1) := by decide +kernel
theorem d_X_holdFor_1 : decode b_X_holdFor 1 = .ok (.iconst 1, 1) := by decide +kernel
theorem d_X_holdFor_2 : decode b_X_holdFor 2 = .ok (.if_icmp .lt 9, 3) := by decide +kernel
theorem d_X_holdFor_5 : decode b_X_holdFor 5 = .ok (.iload_n 1, 1) := by decide +kernel
theorem d_X_holdFor_6 : decode b_X_holdFor 6 = .ok (.bipush 30, 2) := by decide +kernel
theorem d_X_holdFor_8 : decode b_X_holdFor 8 = .ok (.if_icmp .le 5, 3) := by decide +kernel
theorem d_X_holdFor_11 : decode b_X_holdFor 11 = .ok (.iconst (-1), 1) := by decide +kernel
theorem d_X_holdFor_12 : decode b_X_holdFor 12 = .ok (.ireturn, 1) := by decide +kernel
theorem d_X_holdFor_13 : decode b_X_holdFor 13 = .ok (.aload_n 0, 1) := by decide +kernel
theorem d_X_holdFor_14 : decode b_X_holdFor 14 = .ok (.iload_n 1, 1) := by decide +kernel
theorem d_X_holdFor_15 : decode b_X_holdFor 15 = .ok (.iconst 0, 1) := by decide +kernel
theorem d_X_holdFor_16 : decode b_X_holdFor 16 = .ok (.iconst (-1), 1) := by decide +kernel
theorem d_X_holdFor_17 : decode b_X_holdFor 17 = .ok (.invokevirtual 161, 3) := by decide +kernel
theorem d_X_holdFor_20 : decode b_X_holdFor 20 = .ok (.istore_n 2, 1) := by decide +kernel
theorem d_X_holdFor_21 : decode b_X_holdFor 21 = .ok (.bipush (-3), 2) := by decide +kernel
theorem d_X_holdFor_23 : decode b_X_holdFor 23 = .ok (.istore_n 3, 1) := by decide +kernel
theorem d_X_holdFor_24 : decode b_X_holdFor 24 = .ok (.iconst 0, 1) := by decide +kernel
theorem d_X_holdFor_25 : decode b_X_holdFor 25 = .ok (.istore 4, 2) := by decide +kernel
theorem d_X_holdFor_27 : decode b_X_holdFor 27 = .ok (.iload 4, 2) := by decide +kernel
theorem d_X_holdFor_29 : decode b_X_holdFor 29 = .ok (.aload_n 0, 1) := by decide +kernel
theorem d_X_holdFor_30 : decode b_X_holdFor 30 = .ok (.getfield 10, 3) := by decide +kernel
theorem d_X_holdFor_33 : decode b_X_holdFor 33 = .ok (.getfield 80, 3) := by decide +kernel
theorem d_X_holdFor_36 : decode b_X_holdFor 36 = .ok (.if_icmp .ge 31, 3) := by decide +kernel
theorem d_X_holdFor_39 : decode b_X_holdFor 39 = .ok (.aload_n 0, 1) := by decide +kernel
theorem d_X_holdFor_40 : decode b_X_holdFor 40 = .ok (.iload_n 1, 1) := by decide +kernel
theorem d_X_holdFor_41 : decode b_X_holdFor 41 = .ok (.iconst 0, 1) := by decide +kernel
theorem d_X_holdFor_42 : decode b_X_holdFor 42 = .ok (.iload 4, 2) := by decide +kernel
theorem d_X_holdFor_44 : decode b_X_holdFor 44 = .ok (.invokevirtual 161, 3) := by decide +kernel
theorem d_X_holdFor_47 : decode b_X_holdFor 47 = .ok (.istore 5, 2) := by decide +kernel
theorem d_X_holdFor_49 : decode b_X_holdFor 49 = .ok (.iload 5, 2) := by decide +kernel
theorem d_X_holdFor_51 : decode b_X_holdFor 51 = .ok (.iload_n 2, 1) := by decide +kernel
theorem d_X_holdFor_52 : decode b_X_holdFor 52 = .ok (.if_icmp .le 9, 3) := by decide +kernel
theorem d_X_holdFor_55 : decode b_X_holdFor 55 = .ok (.iload 5, 2) := by decide +kernel
theorem d_X_holdFor_57 : decode b_X_holdFor 57 = .ok (.istore_n 2, 1) := by decide +kernel
theorem d_X_holdFor_58 : decode b_X_holdFor 58 = .ok (.iload 4, 2) := by decide +kernel
theorem d_X_holdFor_60 : decode b_X_holdFor 60 = .ok (.istore_n 3, 1) := by decide +kernel
theorem d_X_holdFor_61 : decode b_X_holdFor 61 = .ok (.iinc 4 1, 3) := by decide +kernel
theorem d_X_holdFor_64 : decode b_X_holdFor 64 = .ok (.goto (-37), 3) := by decide +kernel
theorem d_X_holdFor_67 : decode b_X_holdFor 67 = .ok (.iload_n 3, 1) := by decide +kernel
theorem d_X_holdFor_68 : decode b_X_holdFor 68 = .ok (.ireturn, 1) := by decide +kernel
