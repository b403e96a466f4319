theorem d_X_feed_0 : decode b_X_feed 0 = .ok (.iload_n 3, 1) := by decide +kernel
theorem d_X_feed_1 : decode b_X_feed 1 = .ok (.iconst 1, 1) := by decide +kernel
theorem d_X_feed_2 : decode b_X_feed 2 = .ok (.if_icmp .lt 9, 3) := by decide +kernel
theorem d_X_feed_5 : decode b_X_feed 5 = .ok (.iload_n 3, 1) := by decide +kernel
theorem d_X_feed_6 : decode b_X_feed 6 = .ok (.bipush 8, 2) := by decide +kernel
theorem d_X_feed_8 : decode b_X_feed 8 = .ok (.if_icmp .le 5, 3) := by decide +kernel
theorem d_X_feed_11 : decode b_X_feed 11 = .ok (.iconst (-1), 1) := by decide +kernel
theorem d_X_feed_12 : decode b_X_feed 12 = .ok (.ireturn, 1) := by decide +kernel
theorem d_X_feed_13 : decode b_X_feed 13 = .ok (.aload_n 0, 1) := by decide +kernel
theorem d_X_feed_14 : decode b_X_feed 14 = .ok (.getfield 29, 3) := by decide +kernel
theorem d_X_feed_17 : decode b_X_feed 17 = .ok (.getfield 62, 3) := by decide +kernel
theorem d_X_feed_20 : decode b_X_feed 20 = .ok (.iload_n 3, 1) := by decide +kernel
theorem d_X_feed_21 : decode b_X_feed 21 = .ok (.iadd, 1) := by decide +kernel
theorem d_X_feed_22 : decode b_X_feed 22 = .ok (.sipush 200, 3) := by decide +kernel
theorem d_X_feed_25 : decode b_X_feed 25 = .ok (.if_icmp .le 6, 3) := by decide +kernel
theorem d_X_feed_28 : decode b_X_feed 28 = .ok (.bipush (-2), 2) := by decide +kernel
theorem d_X_feed_30 : decode b_X_feed 30 = .ok (.ireturn, 1) := by decide +kernel
theorem d_X_feed_31 : decode b_X_feed 31 = .ok (.iconst 0, 1) := by decide +kernel
theorem d_X_feed_32 : decode b_X_feed 32 = .ok (.istore 4, 2) := by decide +kernel
theorem d_X_feed_34 : decode b_X_feed 34 = .ok (.iload 4, 2) := by decide +kernel
theorem d_X_feed_36 : decode b_X_feed 36 = .ok (.iload_n 3, 1) := by decide +kernel
theorem d_X_feed_37 : decode b_X_feed 37 = .ok (.if_icmp .ge 25, 3) := by decide +kernel
theorem d_X_feed_40 : decode b_X_feed 40 = .ok (.aload_n 0, 1) := by decide +kernel
theorem d_X_feed_41 : decode b_X_feed 41 = .ok (.getfield 29, 3) := by decide +kernel
theorem d_X_feed_44 : decode b_X_feed 44 = .ok (.lload_n 1, 1) := by decide +kernel
theorem d_X_feed_45 : decode b_X_feed 45 = .ok (.bipush 8, 2) := by decide +kernel
theorem d_X_feed_47 : decode b_X_feed 47 = .ok (.iload 4, 2) := by decide +kernel
theorem d_X_feed_49 : decode b_X_feed 49 = .ok (.imul, 1) := by decide +kernel
theorem d_X_feed_50 : decode b_X_feed 50 = .ok (.lushr, 1) := by decide +kernel
theorem d_X_feed_51 : decode b_X_feed 51 = .ok (.l2i, 1) := by decide +kernel
theorem d_X_feed_52 : decode b_X_feed 52 = .ok (.i2b, 1) := by decide +kernel
theorem d_X_feed_53 : decode b_X_feed 53 = .ok (.invokevirtual 65, 3) := by decide +kernel
theorem d_X_feed_56 : decode b_X_feed 56 = .ok (.iinc 4 1, 3) := by decide +kernel
theorem d_X_feed_59 : decode b_X_feed 59 = .ok (.goto (-25), 3) := by decide +kernel
theorem d_X_feed_62 : decode b_X_feed 62 = .ok (.aload_n 0, 1) := by decide +kernel
theorem d_X_feed_63 : decode b_X_feed 63 = .ok (.getfield 29, 3) := by decide +kernel
theorem d_X_feed_66 : decode b_X_feed 66 = .ok (.getfield 62, 3) := by decide +kernel
theorem d_X_feed_69 : decode b_X_feed 69 = .ok (.ireturn, 1) := by decide +kernel
theorem d_X_canal_0 : decode b_X_canal 0 = .ok (.aload_n 0, 1) := by decide +kernel
theorem d_X_canal_1 : decode b_X_canal 1 = .ok (.getfield 16, 3) := by decide +kernel
theorem d_X_canal_4 : decode b_X_canal 4 = .ok (.aload_n 0, 1) := by decide +kernel
theorem d_X_canal_5 : decode b_X_canal 5 = .ok (.getfield 10, 3) := by decide +kernel
theorem d_X_canal_8 : decode b_X_canal 8 = .ok (.invokevirtual 69, 3) := by decide +kernel
theorem d_X_canal_11 : decode b_X_canal 11 = .ok (.aload_n 0, 1) := by decide +kernel
theorem d_X_canal_12 : decode b_X_canal 12 = .ok (.getfield 16, 3) := by decide +kernel
theorem d_X_canal_15 : decode b_X_canal 15 = .ok (.invokevirtual 73, 3) := by decide +kernel
theorem d_X_canal_18 : decode b_X_canal 18 = .ok (.aload_n 0, 1) := by decide +kernel
theorem d_X_canal_19 : decode b_X_canal 19 = .ok (.getfield 29, 3) := by decide +kernel
theorem d_X_canal_22 : decode b_X_canal 22 = .ok (.aload_n 0, 1) := by decide +kernel
theorem d_X_canal_23 : decode b_X_canal 23 = .ok (.getfield 16, 3) := by decide +kernel
theorem d_X_canal_26 : decode b_X_canal 26 = .ok (.invokevirtual 76, 3) := by decide +kernel
theorem d_X_canal_29 : decode b_X_canal 29 = .ok (.istore_n 1, 1) := by decide +kernel
theorem d_X_canal_30 : decode b_X_canal 30 = .ok (.aload_n 0, 1) := by decide +kernel
theorem d_X_canal_31 : decode b_X_canal 31 = .ok (.getfield 29, 3) := by decide +kernel
theorem d_X_canal_34 : decode b_X_canal 34 = .ok (.iconst 0, 1) := by decide +kernel
theorem d_X_canal_35 : decode b_X_canal 35 = .ok (.putfield 62, 3) := by decide +kernel
theorem d_X_canal_38 : decode b_X_canal 38 = .ok (.iload_n 1, 1) := by decide +kernel
theorem d_X_canal_39 : decode b_X_canal 39 = .ok (.ifCond .lt 8, 3) := by decide +kernel
theorem d_X_canal_42 : decode b_X_canal 42 = .ok (.bipush (-100), 2) := by decide +kernel
theorem d_X_canal_44 : decode b_X_canal 44 = .ok (.iload_n 1, 1) := by decide +kernel
theorem d_X_canal_45 : decode b_X_canal 45 = .ok (.isub, 1) := by decide +kernel
theorem d_X_canal_46 : decode b_X_canal 46 = .ok (.ireturn, 1) := by decide +kernel
theorem d_X_canal_47 : decode b_X_canal 47 = .ok (.aload_n 0, 1) := by decide +kernel
theorem d_X_canal_48 : decode b_X_canal 48 = .ok (.getfield 10, 3) := by decide +kernel
theorem d_X_canal_51 : decode b_X_canal 51 = .ok (.aload_n 0, 1) := by decide +kernel
theorem d_X_canal_52 : decode b_X_canal 52 = .ok (.getfield 16, 3) := by decide +kernel
theorem d_X_canal_55 : decode b_X_canal 55 = .ok (.invokevirtual 69, 3) := by decide +kernel
theorem d_X_canal_58 : decode b_X_canal 58 = .ok (.aload_n 0, 1) := by decide +kernel
theorem d_X_canal_59 : decode b_X_canal 59 = .ok (.iconst 0, 1) := by decide +kernel
theorem d_X_canal_60 : decode b_X_canal 60 = .ok (.putfield 37, 3) := by decide +kernel
theorem d_X_canal_63 : decode b_X_canal 63 = .ok (.aload_n 0, 1) := by decide +kernel
theorem d_X_canal_64 : decode b_X_canal 64 = .ok (.getfield 10, 3) := by decide +kernel
theorem d_X_canal_67 : decode b_X_canal 67 = .ok (.getfield 80, 3) := by decide +kernel
theorem d_X_canal_70 : decode b_X_canal 70 = .ok (.ireturn, 1) := by decide +kernel
theorem d_X_set_0 : decode b_X_set 0 = .ok (.iload_n 1, 1) := by decide +kernel
theorem d_X_set_1 : decode b_X_set 1 = .ok (.invokestatic 83, 3) := by decide +kernel
theorem d_X_set_4 : decode b_X_set 4 = .ok (.ifCond .eq 16, 3) := by decide +kernel
theorem d_X_set_7 : decode b_X_set 7 = .ok (.iload_n 2, 1) := by decide +kernel
theorem d_X_set_8 : decode b_X_set 8 = .ok (.ifCond .lt 12, 3) := by decide +kernel
theorem d_X_set_11 : decode b_X_set 11 = .ok (.iload_n 2, 1) := by decide +kernel
theorem d_X_set_12 : decode b_X_set 12 = .ok (.getstatic 87, 3) := by decide +kernel
theorem d_X_set_15 : decode b_X_set 15 = .ok (.iload_n 1, 1) := by decide +kernel
theorem d_X_set_16 : decode b_X_set 16 = .ok (.iaload, 1) := by decide +kernel
theorem d_X_set_17 : decode b_X_set 17 = .ok (.if_icmp .le 5, 3) := by decide +kernel
theorem d_X_set_20 : decode b_X_set 20 = .ok (.iconst (-1), 1) := by decide +kernel
theorem d_X_set_21 : decode b_X_set 21 = .ok (.ireturn, 1) := by decide +kernel
theorem d_X_set_22 : decode b_X_set 22 = .ok (.aload_n 0, 1) := by decide +kernel
theorem d_X_set_23 : decode b_X_set 23 = .ok (.getfield 10, 3) := by decide +kernel
theorem d_X_set_26 : decode b_X_set 26 = .ok (.getfield 90, 3) := by decide +kernel
theorem d_X_set_29 : decode b_X_set 29 = .ok (.iload_n 1, 1) := by decide +kernel
theorem d_X_set_30 : decode b_X_set 30 = .ok (.iaload, 1) := by decide +kernel
theorem d_X_set_31 : decode b_X_set 31 = .ok (.istore_n 3, 1) := by decide +kernel
theorem d_X_set_32 : decode b_X_set 32 = .ok (.aload_n 0, 1) := by decide +kernel
theorem d_X_set_33 : decode b_X_set 33 = .ok (.getfield 10, 3) := by decide +kernel
theorem d_X_set_36 : decode b_X_set 36 = .ok (.getfield 90, 3) := by decide +kernel
theorem d_X_set_39 : decode b_X_set 39 = .ok (.iload_n 1, 1) := by decide +kernel
theorem d_X_set_40 : decode b_X_set 40 = .ok (.iload_n 2, 1) := by decide +kernel
theorem d_X_set_41 : decode b_X_set 41 = .ok (.iastore, 1) := by decide +kernel
theorem d_X_set_42 : decode b_X_set 42 = .ok (.iload_n 3, 1) := by decide +kernel
theorem d_X_set_43 : decode b_X_set 43 = .ok (.ireturn, 1) := by decide +kernel
theorem d_X_lawOf_0 : decode b_X_lawOf 0 = .ok (.iload_n 1, 1) := by decide +kernel
theorem d_X_lawOf_1 : decode b_X_lawOf 1 = .ok (.invokestatic 83, 3) := by decide +kernel
theorem d_X_lawOf_4 : decode b_X_lawOf 4 = .ok (.ifCond .eq 15, 3) := by decide +kernel
theorem d_X_lawOf_7 : decode b_X_lawOf 7 = .ok (.aload_n 0, 1) := by decide +kernel
theorem d_X_lawOf_8 : decode b_X_lawOf 8 = .ok (.getfield 10, 3) := by decide +kernel
theorem d_X_lawOf_11 : decode b_X_lawOf 11 = .ok (.getfield 90, 3) := by decide +kernel
theorem d_X_lawOf_14 : decode b_X_lawOf 14 = .ok (.iload_n 1, 1) := by decide +kernel
theorem d_X_lawOf_15 : decode b_X_lawOf 15 = .ok (.iaload, 1) := by decide +kernel
theorem d_X_lawOf_16 : decode b_X_lawOf 16 = .ok (.goto 4, 3) := by decide +kernel
theorem d_X_lawOf_19 : decode b_X_lawOf 19 = .ok (.iconst (-1), 1) := by decide +kernel
theorem d_X_lawOf_20 : decode b_X_lawOf 20 = .ok (.ireturn, 1) := by decide +kernel
theorem d_X_isKind_0 : decode b_X_isKind 0 = .ok (.iload_n 0, 1) := by decide +kernel
theorem d_X_isKind_1 : decode b_X_isKind 1 = .ok (.ifCond .lt 13, 3) := by decide +kernel
theorem d_X_isKind_4 : decode b_X_isKind 4 = .ok (.iload_n 0, 1) := by decide +kernel
theorem d_X_isKind_5 : decode b_X_isKind 5 = .ok (.bipush 6, 2) := by decide +kernel
theorem d_X_isKind_7 : decode b_X_isKind 7 = .ok (.if_icmp .ge 7, 3) := by decide +kernel
theorem d_X_isKind_10 : decode b_X_isKind 10 = .ok (.iconst 1, 1) := by decide +kernel
theorem d_X_isKind_11 : decode b_X_isKind 11 = .ok (.goto 4, 3) := by decide +kernel
theorem d_X_isKind_14 : decode b_X_isKind 14 = .ok (.iconst 0, 1) := by decide +kernel
theorem d_X_isKind_15 : decode b_X_isKind 15 = .ok (.ireturn, 1) := by decide +kernel
theorem d_X_isLoad_0 : decode b_X_isLoad 0 = .ok (.iload_n 0, 1) := by decide +kernel
theorem d_X_isLoad_1 : decode b_X_isLoad 1 = .ok (.ifCond .lt 13, 3) := by decide +kernel
theorem d_X_isLoad_4 : decode b_X_isLoad 4 = .ok (.iload_n 0, 1) := by decide +kernel
theorem d_X_isLoad_5 : decode b_X_isLoad 5 = .ok (.bipush 99, 2) := by decide +kernel
theorem d_X_isLoad_7 : decode b_X_isLoad 7 = .ok (.if_icmp .gt 7, 3) := by decide +kernel
theorem d_X_isLoad_10 : decode b_X_isLoad 10 = .ok (.iconst 1, 1) := by decide +kernel
theorem d_X_isLoad_11 : decode b_X_isLoad 11 = .ok (.goto 4, 3) := by decide +kernel
theorem d_X_isLoad_14 : decode b_X_isLoad 14 = .ok (.iconst 0, 1) := by decide +kernel
theorem d_X_isLoad_15 : decode b_X_isLoad 15 = .ok (.ireturn, 1) := by decide +kernel
theorem d_X_barge_0 : decode b_X_barge 0 = .ok (.iload_n 1, 1) := by decide +kernel
theorem d_X_barge_1 : decode b_X_barge 1 = .ok (.invokestatic 93, 3) := by decide +kernel
theorem d_X_barge_4 : decode b_X_barge 4 = .ok (.ifCond .eq 25, 3) := by decide +kernel
theorem d_X_barge_7 : decode b_X_barge 7 = .ok (.iload_n 2, 1) := by decide +kernel
theorem d_X_barge_8 : decode b_X_barge 8 = .ok (.invokestatic 96, 3) := by decide +kernel
theorem d_X_barge_11 : decode b_X_barge 11 = .ok (.ifCond .eq 18, 3) := by decide +kernel
theorem d_X_barge_14 : decode b_X_barge 14 = .ok (.iload_n 3, 1) := by decide +kernel
theorem d_X_barge_15 : decode b_X_barge 15 = .ok (.invokestatic 99, 3) := by decide +kernel
theorem d_X_barge_18 : decode b_X_barge 18 = .ok (.ifCond .eq 11, 3) := by decide +kernel
theorem d_X_barge_21 : decode b_X_barge 21 = .ok (.iload 4, 2) := by decide +kernel
theorem d_X_barge_23 : decode b_X_barge 23 = .ok (.invokestatic 99, 3) := by decide +kernel
theorem d_X_barge_26 : decode b_X_barge 26 = .ok (.ifCond .ne 5, 3) := by decide +kernel
theorem d_X_barge_29 : decode b_X_barge 29 = .ok (.iconst (-1), 1) := by decide +kernel
theorem d_X_barge_30 : decode b_X_barge 30 = .ok (.ireturn, 1) := by decide +kernel
theorem d_X_barge_31 : decode b_X_barge 31 = .ok (.aload_n 0, 1) := by decide +kernel
theorem d_X_barge_32 : decode b_X_barge 32 = .ok (.getfield 10, 3) := by decide +kernel
theorem d_X_barge_35 : decode b_X_barge 35 = .ok (.getfield 80, 3) := by decide +kernel
theorem d_X_barge_38 : decode b_X_barge 38 = .ok (.bipush 8, 2) := by decide +kernel
theorem d_X_barge_40 : decode b_X_barge 40 = .ok (.if_icmp .lt 6, 3) := by decide +kernel
theorem d_X_barge_43 : decode b_X_barge 43 = .ok (.bipush (-2), 2) := by decide +kernel
theorem d_X_barge_45 : decode b_X_barge 45 = .ok (.ireturn, 1) := by decide +kernel
theorem d_X_barge_46 : decode b_X_barge 46 = .ok (.aload_n 0, 1) := by decide +kernel
theorem d_X_barge_47 : decode b_X_barge 47 = .ok (.getfield 10, 3) := by decide +kernel
theorem d_X_barge_50 : decode b_X_barge 50 = .ok (.iload_n 1, 1) := by decide +kernel
theorem d_X_barge_51 : decode b_X_barge 51 = .ok (.iload_n 2, 1) := by decide +kernel
theorem d_X_barge_52 : decode b_X_barge 52 = .ok (.iconst 0, 1) := by decide +kernel
theorem d_X_barge_53 : decode b_X_barge 53 = .ok (.iload_n 3, 1) := by decide +kernel
theorem d_X_barge_54 : decode b_X_barge 54 = .ok (.iload 4, 2) := by decide +kernel
theorem d_X_barge_56 : decode b_X_barge 56 = .ok (.invokevirtual 102, 3) := by decide +kernel
theorem d_X_barge_59 : decode b_X_barge 59 = .ok (.aload_n 0, 1) := by decide +kernel
theorem d_X_barge_60 : decode b_X_barge 60 = .ok (.getfield 10, 3) := by decide +kernel
theorem d_X_barge_63 : decode b_X_barge 63 = .ok (.getfield 80, 3) := by decide +kernel
theorem d_X_barge_66 : decode b_X_barge 66 = .ok (.iconst 1, 1) := by decide +kernel
theorem d_X_barge_67 : decode b_X_barge 67 = .ok (.isub, 1) := by decide +kernel
theorem d_X_barge_68 : decode b_X_barge 68 = .ok (.ireturn, 1) := by decide +kernel
theorem d_X_isBarge_0 : decode b_X_isBarge 0 = .ok (.iload_n 1, 1) := by decide +kernel
theorem d_X_isBarge_1 : decode b_X_isBarge 1 = .ok (.ifCond .lt 24, 3) := by decide +kernel
theorem d_X_isBarge_4 : decode b_X_isBarge 4 = .ok (.iload_n 1, 1) := by decide +kernel
theorem d_X_isBarge_5 : decode b_X_isBarge 5 = .ok (.aload_n 0, 1) := by decide +kernel
theorem d_X_isBarge_6 : decode b_X_isBarge 6 = .ok (.getfield 10, 3) := by decide +kernel
theorem d_X_isBarge_9 : decode b_X_isBarge 9 = .ok (.getfield 80, 3) := by decide +kernel
theorem d_X_isBarge_12 : decode b_X_isBarge 12 = .ok (.if_icmp .ge 13, 3) := by decide +kernel
theorem d_X_isBarge_15 : decode b_X_isBarge 15 = .ok (.iload_n 1, 1) := by decide +kernel
theorem d_X_isBarge_16 : decode b_X_isBarge 16 = .ok (.bipush 8, 2) := by decide +kernel
theorem d_X_isBarge_18 : decode b_X_isBarge 18 = .ok (.if_icmp .ge 7, 3) := by decide +kernel
theorem d_X_isBarge_21 : decode b_X_isBarge 21 = .ok (.iconst 1, 1) := by decide +kernel
theorem d_X_isBarge_22 : decode b_X_isBarge 22 = .ok (.goto 4, 3) := by decide +kernel
theorem d_X_isBarge_25 : decode b_X_isBarge 25 = .ok (.iconst 0, 1) := by decide +kernel
theorem d_X_isBarge_26 : decode b_X_isBarge 26 = .ok (.ireturn, 1) := by decide +kernel
theorem d_X_of_0 : decode b_X_of 0 = .ok (.aload_n 0, 1) := by decide +kernel
theorem d_X_of_1 : decode b_X_of 1 = .ok (.iload_n 1, 1) := by decide +kernel
theorem d_X_of_2 : decode b_X_of 2 = .ok (.invokevirtual 106, 3) := by decide +kernel
theorem d_X_of_5 : decode b_X_of 5 = .ok (.ifCond .ne 5, 3) := by decide +kernel
theorem d_X_of_8 : decode b_X_of 8 = .ok (.iconst (-1), 1) := by decide +kernel
theorem d_X_of_9 : decode b_X_of 9 = .ok (.ireturn, 1) := by decide +kernel
theorem d_X_of_10 : decode b_X_of 10 = .ok (.iload_n 2, 1) := by decide +kernel
theorem d_X_of_11 : decode b_X_of 11 = .ok (.tableswitch 104 0 5 #[37, 47, 57, 67, 77, 87], 37) := by decide +kernel
theorem d_X_of_48 : decode b_X_of 48 = .ok (.aload_n 0, 1) := by decide +kernel
theorem d_X_of_49 : decode b_X_of 49 = .ok (.getfield 10, 3) := by decide +kernel
theorem d_X_of_52 : decode b_X_of 52 = .ok (.getfield 109, 3) := by decide +kernel
theorem d_X_of_55 : decode b_X_of 55 = .ok (.iload_n 1, 1) := by decide +kernel
theorem d_X_of_56 : decode b_X_of 56 = .ok (.iaload, 1) := by decide +kernel
theorem d_X_of_57 : decode b_X_of 57 = .ok (.ireturn, 1) := by decide +kernel
theorem d_X_of_58 : decode b_X_of 58 = .ok (.aload_n 0, 1) := by decide +kernel
theorem d_X_of_59 : decode b_X_of 59 = .ok (.getfield 10, 3) := by decide +kernel
theorem d_X_of_62 : decode b_X_of 62 = .ok (.getfield 112, 3) := by decide +kernel
theorem d_X_of_65 : decode b_X_of 65 = .ok (.iload_n 1, 1) := by decide +kernel
theorem d_X_of_66 : decode b_X_of 66 = .ok (.iaload, 1) := by decide +kernel
theorem d_X_of_67 : decode b_X_of 67 = .ok (.ireturn, 1) := by decide +kernel
theorem d_X_of_68 : decode b_X_of 68 = .ok (.aload_n 0, 1) := by decide +kernel
theorem d_X_of_69 : decode b_X_of 69 = .ok (.getfield 10, 3) := by decide +kernel
theorem d_X_of_72 : decode b_X_of 72 = .ok (.getfield 115, 3) := by decide +kernel
theorem d_X_of_75 : decode b_X_of 75 = .ok (.iload_n 1, 1) := by decide +kernel
theorem d_X_of_76 : decode b_X_of 76 = .ok (.iaload, 1) := by decide +kernel
theorem d_X_of_77 : decode b_X_of 77 = .ok (.ireturn, 1) := by decide +kernel
theorem d_X_of_78 : decode b_X_of 78 = .ok (.aload_n 0, 1) := by decide +kernel
theorem d_X_of_79 : decode b_X_of 79 = .ok (.getfield 10, 3) := by decide +kernel
theorem d_X_of_82 : decode b_X_of 82 = .ok (.getfield 118, 3) := by decide +kernel
theorem d_X_of_85 : decode b_X_of 85 = .ok (.iload_n 1, 1) := by decide +kernel
theorem d_X_of_86 : decode b_X_of 86 = .ok (.iaload, 1) := by decide +kernel
theorem d_X_of_87 : decode b_X_of 87 = .ok (.ireturn, 1) := by decide +kernel
theorem d_X_of_88 : decode b_X_of 88 = .ok (.aload_n 0, 1) := by decide +kernel
theorem d_X_of_89 : decode b_X_of 89 = .ok (.getfield 10, 3) := by decide +kernel
theorem d_X_of_92 : decode b_X_of 92 = .ok (.getfield 121, 3) := by decide +kernel
theorem d_X_of_95 : decode b_X_of 95 = .ok (.iload_n 1, 1) := by decide +kernel
theorem d_X_of_96 : decode b_X_of 96 = .ok (.iaload, 1) := by decide +kernel
theorem d_X_of_97 : decode b_X_of 97 = .ok (.ireturn, 1) := by decide +kernel
theorem d_X_of_98 : decode b_X_of 98 = .ok (.aload_n 0, 1) := by decide +kernel
theorem d_X_of_99 : decode b_X_of 99 = .ok (.getfield 10, 3) := by decide +kernel
theorem d_X_of_102 : decode b_X_of 102 = .ok (.iload_n 1, 1) := by decide +kernel
theorem d_X_of_103 : decode b_X_of 103 = .ok (.invokevirtual 124, 3) := by decide +kernel
theorem d_X_of_106 : decode b_X_of 106 = .ok (.ifCond .eq 7, 3) := by decide +kernel
theorem d_X_of_109 : decode b_X_of 109 = .ok (.iconst 1, 1) := by decide +kernel
theorem d_X_of_110 : decode b_X_of 110 = .ok (.goto 4, 3) := by decide +kernel
theorem d_X_of_113 : decode b_X_of 113 = .ok (.iconst 0, 1) := by decide +kernel
theorem d_X_of_114 : decode b_X_of 114 = .ok (.ireturn, 1) := by decide +kernel
theorem d_X_of_115 : decode b_X_of 115 = .ok (.iconst (-1), 1) := by decide +kernel
theorem d_X_of_116 : decode b_X_of 116 = .ok (.ireturn, 1) := by decide +kernel
theorem d_X_does_0 : decode b_X_does 0 = .ok (.aload_n 0, 1) := by decide +kernel
theorem d_X_does_1 : decode b_X_does 1 = .ok (.iload_n 1, 1) := by decide +kernel
theorem d_X_does_2 : decode b_X_does 2 = .ok (.invokevirtual 106, 3) := by decide +kernel
theorem d_X_does_5 : decode b_X_does 5 = .ok (.ifCond .eq 12, 3) := by decide +kernel
theorem d_X_does_8 : decode b_X_does 8 = .ok (.iload_n 2, 1) := by decide +kernel
theorem d_X_does_9 : decode b_X_does 9 = .ok (.ifCond .lt 8, 3) := by decide +kernel
theorem d_X_does_12 : decode b_X_does 12 = .ok (.iload_n 2, 1) := by decide +kernel
theorem d_X_does_13 : decode b_X_does 13 = .ok (.iconst 1, 1) := by decide +kernel
theorem d_X_does_14 : decode b_X_does 14 = .ok (.if_icmp .le 5, 3) := by decide +kernel
theorem d_X_does_17 : decode b_X_does 17 = .ok (.iconst (-1), 1) := by decide +kernel
theorem d_X_does_18 : decode b_X_does 18 = .ok (.ireturn, 1) := by decide +kernel
theorem d_X_does_19 : decode b_X_does 19 = .ok (.iload_n 2, 1) := by decide +kernel
theorem d_X_does_20 : decode b_X_does 20 = .ok (.ifCond .ne 16, 3) := by decide +kernel
theorem d_X_does_23 : decode b_X_does 23 = .ok (.sipush 1000, 3) := by decide +kernel
theorem d_X_does_26 : decode b_X_does 26 = .ok (.aload_n 0, 1) := by decide +kernel
theorem d_X_does_27 : decode b_X_does 27 = .ok (.getfield 10, 3) := by decide +kernel
theorem d_X_does_30 : decode b_X_does 30 = .ok (.iload_n 1, 1) := by decide +kernel
theorem d_X_does_31 : decode b_X_does 31 = .ok (.invokevirtual 127, 3) := by decide +kernel
theorem d_X_does_34 : decode b_X_does 34 = .ok (.iadd, 1) := by decide +kernel
theorem d_X_does_35 : decode b_X_does 35 = .ok (.ireturn, 1) := by decide +kernel
theorem d_X_does_36 : decode b_X_does 36 = .ok (.sipush 1000, 3) := by decide +kernel
theorem d_X_does_39 : decode b_X_does 39 = .ok (.aload_n 0, 1) := by decide +kernel
theorem d_X_does_40 : decode b_X_does 40 = .ok (.getfield 10, 3) := by decide +kernel
theorem d_X_does_43 : decode b_X_does 43 = .ok (.iload_n 1, 1) := by decide +kernel
theorem d_X_does_44 : decode b_X_does 44 = .ok (.aload_n 0, 1) := by decide +kernel
theorem d_X_does_45 : decode b_X_does 45 = .ok (.getfield 10, 3) := by decide +kernel
theorem d_X_does_48 : decode b_X_does 48 = .ok (.aload_n 0, 1) := by decide +kernel
theorem d_X_does_49 : decode b_X_does 49 = .ok (.getfield 10, 3) := by decide +kernel
theorem d_X_does_52 : decode b_X_does 52 = .ok (.getfield 118, 3) := by decide +kernel
theorem d_X_does_55 : decode b_X_does 55 = .ok (.iload_n 1, 1) := by decide +kernel
theorem d_X_does_56 : decode b_X_does 56 = .ok (.iaload, 1) := by decide +kernel
theorem d_X_does_57 : decode b_X_does 57 = .ok (.invokevirtual 131, 3) := by decide +kernel
theorem d_X_does_60 : decode b_X_does 60 = .ok (.invokevirtual 134, 3) := by decide +kernel
theorem d_X_does_63 : decode b_X_does 63 = .ok (.iadd, 1) := by decide +kernel
theorem d_X_does_64 : decode b_X_does 64 = .ok (.ireturn, 1) := by decide +kernel
theorem d_X_mind_0 : decode b_X_mind 0 = .ok (.aload_n 0, 1) := by decide +kernel
theorem d_X_mind_1 : decode b_X_mind 1 = .ok (.iload_n 1, 1) := by decide +kernel
theorem d_X_mind_2 : decode b_X_mind 2 = .ok (.invokevirtual 106, 3) := by decide +kernel
theorem d_X_mind_5 : decode b_X_mind 5 = .ok (.ifCond .eq 19, 3) := by decide +kernel
theorem d_X_mind_8 : decode b_X_mind 8 = .ok (.iload_n 2, 1) := by decide +kernel
theorem d_X_mind_9 : decode b_X_mind 9 = .ok (.invokestatic 93, 3) := by decide +kernel
theorem d_X_mind_12 : decode b_X_mind 12 = .ok (.ifCond .eq 12, 3) := by decide +kernel
theorem d_X_mind_15 : decode b_X_mind 15 = .ok (.iload_n 3, 1) := by decide +kernel
theorem d_X_mind_16 : decode b_X_mind 16 = .ok (.ifCond .lt 8, 3) := by decide +kernel
theorem d_X_mind_19 : decode b_X_mind 19 = .ok (.iload_n 3, 1) := by decide +kernel
theorem d_X_mind_20 : decode b_X_mind 20 = .ok (.iconst 1, 1) := by decide +kernel
theorem d_X_mind_21 : decode b_X_mind 21 = .ok (.if_icmp .le 5, 3) := by decide +kernel
theorem d_X_mind_24 : decode b_X_mind 24 = .ok (.iconst (-1), 1) := by decide +kernel
theorem d_X_mind_25 : decode b_X_mind 25 = .ok (.ireturn, 1) := by decide +kernel
theorem d_X_mind_26 : decode b_X_mind 26 = .ok (.aload_n 0, 1) := by decide +kernel
theorem d_X_mind_27 : decode b_X_mind 27 = .ok (.getfield 10, 3) := by decide +kernel
theorem d_X_mind_30 : decode b_X_mind 30 = .ok (.getfield 109, 3) := by decide +kernel
theorem d_X_mind_33 : decode b_X_mind 33 = .ok (.iload_n 1, 1) := by decide +kernel
theorem d_X_mind_34 : decode b_X_mind 34 = .ok (.iaload, 1) := by decide +kernel
theorem d_X_mind_35 : decode b_X_mind 35 = .ok (.istore 4, 2) := by decide +kernel
theorem d_X_mind_37 : decode b_X_mind 37 = .ok (.aload_n 0, 1) := by decide +kernel
theorem d_X_mind_38 : decode b_X_mind 38 = .ok (.getfield 10, 3) := by decide +kernel
theorem d_X_mind_41 : decode b_X_mind 41 = .ok (.getfield 109, 3) := by decide +kernel
theorem d_X_mind_44 : decode b_X_mind 44 = .ok (.iload_n 1, 1) := by decide +kernel
theorem d_X_mind_45 : decode b_X_mind 45 = .ok (.iload_n 2, 1) := by decide +kernel
theorem d_X_mind_46 : decode b_X_mind 46 = .ok (.iastore, 1) := by decide +kernel
theorem d_X_mind_47 : decode b_X_mind 47 = .ok (.aload_n 0, 1) := by decide +kernel
theorem d_X_mind_48 : decode b_X_mind 48 = .ok (.getfield 10, 3) := by decide +kernel
theorem d_X_mind_51 : decode b_X_mind 51 = .ok (.getfield 115, 3) := by decide +kernel
theorem d_X_mind_54 : decode b_X_mind 54 = .ok (.iload_n 1, 1) := by decide +kernel
theorem d_X_mind_55 : decode b_X_mind 55 = .ok (.iload_n 3, 1) := by decide +kernel
theorem d_X_mind_56 : decode b_X_mind 56 = .ok (.iastore, 1) := by decide +kernel
theorem d_X_mind_57 : decode b_X_mind 57 = .ok (.iload 4, 2) := by decide +kernel
theorem d_X_mind_59 : decode b_X_mind 59 = .ok (.ireturn, 1) := by decide +kernel
theorem d_X_fill_0 : decode b_X_fill 0 = .ok (.aload_n 0, 1) := by decide +kernel
theorem d_X_fill_1 : decode b_X_fill 1 = .ok (.iload_n 1, 1) := by decide +kernel
theorem d_X_fill_2 : decode b_X_fill 2 = .ok (.invokevirtual 106, 3) := by decide +kernel
theorem d_X_fill_5 : decode b_X_fill 5 = .ok (.ifCond .eq 10, 3) := by decide +kernel
theorem d_X_fill_8 : decode b_X_fill 8 = .ok (.iload_n 2, 1) := by decide +kernel
theorem d_X_fill_9 : decode b_X_fill 9 = .ok (.invokestatic 96, 3) := by decide +kernel
theorem d_X_fill_12 : decode b_X_fill 12 = .ok (.ifCond .ne 5, 3) := by decide +kernel
theorem d_X_fill_15 : decode b_X_fill 15 = .ok (.iconst (-1), 1) := by decide +kernel
theorem d_X_fill_16 : decode b_X_fill 16 = .ok (.ireturn, 1) := by decide +kernel
theorem d_X_fill_17 : decode b_X_fill 17 = .ok (.aload_n 0, 1) := by decide +kernel
theorem d_X_fill_18 : decode b_X_fill 18 = .ok (.getfield 10, 3) := by decide +kernel
theorem d_X_fill_21 : decode b_X_fill 21 = .ok (.getfield 112, 3) := by decide +kernel
theorem d_X_fill_24 : decode b_X_fill 24 = .ok (.iload_n 1, 1) := by decide +kernel
theorem d_X_fill_25 : decode b_X_fill 25 = .ok (.iaload, 1) := by decide +kernel
theorem d_X_fill_26 : decode b_X_fill 26 = .ok (.istore_n 3, 1) := by decide +kernel
theorem d_X_fill_27 : decode b_X_fill 27 = .ok (.aload_n 0, 1) := by decide +kernel
theorem d_X_fill_28 : decode b_X_fill 28 = .ok (.getfield 10, 3) := by decide +kernel
theorem d_X_fill_31 : decode b_X_fill 31 = .ok (.getfield 112, 3) := by decide +kernel
theorem d_X_fill_34 : decode b_X_fill 34 = .ok (.iload_n 1, 1) := by decide +kernel
theorem d_X_fill_35 : decode b_X_fill 35 = .ok (.iload_n 2, 1) := by decide +kernel
theorem d_X_fill_36 : decode b_X_fill 36 = .ok (.iastore, 1) := by decide +kernel
theorem d_X_fill_37 : decode b_X_fill 37 = .ok (.iload_n 3, 1) := by decide +kernel
theorem d_X_fill_38 : decode b_X_fill 38 = .ok (.ireturn, 1) := by decide +kernel
theorem d_X_bring_0 : decode b_X_bring 0 = .ok (.aload_n 0, 1) := by decide +kernel
theorem d_X_bring_1 : decode b_X_bring 1 = .ok (.iload_n 1, 1) := by decide +kernel
theorem d_X_bring_2 : decode b_X_bring 2 = .ok (.invokevirtual 106, 3) := by decide +kernel
theorem d_X_bring_5 : decode b_X_bring 5 = .ok (.ifCond .eq 10, 3) := by decide +kernel
theorem d_X_bring_8 : decode b_X_bring 8 = .ok (.iload_n 2, 1) := by decide +kernel
theorem d_X_bring_9 : decode b_X_bring 9 = .ok (.invokestatic 99, 3) := by decide +kernel
theorem d_X_bring_12 : decode b_X_bring 12 = .ok (.ifCond .ne 5, 3) := by decide +kernel
theorem d_X_bring_15 : decode b_X_bring 15 = .ok (.iconst (-1), 1) := by decide +kernel
theorem d_X_bring_16 : decode b_X_bring 16 = .ok (.ireturn, 1) := by decide +kernel
theorem d_X_bring_17 : decode b_X_bring 17 = .ok (.aload_n 0, 1) := by decide +kernel
theorem d_X_bring_18 : decode b_X_bring 18 = .ok (.getfield 10, 3) := by decide +kernel
theorem d_X_bring_21 : decode b_X_bring 21 = .ok (.getfield 118, 3) := by decide +kernel
theorem d_X_bring_24 : decode b_X_bring 24 = .ok (.iload_n 1, 1) := by decide +kernel
theorem d_X_bring_25 : decode b_X_bring 25 = .ok (.iaload, 1) := by decide +kernel
theorem d_X_bring_26 : decode b_X_bring 26 = .ok (.istore_n 3, 1) := by decide +kernel
theorem d_X_bring_27 : decode b_X_bring 27 = .ok (.aload_n 0, 1) := by decide +kernel
theorem d_X_bring_28 : decode b_X_bring 28 = .ok (.getfield 10, 3) := by decide +kernel
theorem d_X_bring_31 : decode b_X_bring 31 = .ok (.getfield 118, 3) := by decide +kernel
theorem d_X_bring_34 : decode b_X_bring 34 = .ok (.iload_n 1, 1) := by decide +kernel
theorem d_X_bring_35 : decode b_X_bring 35 = .ok (.iload_n 2, 1) := by decide +kernel
theorem d_X_bring_36 : decode b_X_bring 36 = .ok (.iastore, 1) := by decide +kernel
theorem d_X_bring_37 : decode b_X_bring 37 = .ok (.iload_n 3, 1) := by decide +kernel
theorem d_X_bring_38 : decode b_X_bring 38 = .ok (.ireturn, 1) := by decide +kernel
theorem d_X_send_0 : decode b_X_send 0 = .ok (.aload_n 0, 1) := by decide +kernel
theorem d_X_send_1 : decode b_X_send 1 = .ok (.iload_n 1, 1) := by decide +kernel
theorem d_X_send_2 : decode b_X_send 2 = .ok (.invokevirtual 106, 3) := by decide +kernel
theorem d_X_send_5 : decode b_X_send 5 = .ok (.ifCond .eq 10, 3) := by decide +kernel
theorem d_X_send_8 : decode b_X_send 8 = .ok (.iload_n 2, 1) := by decide +kernel
theorem d_X_send_9 : decode b_X_send 9 = .ok (.invokestatic 99, 3) := by decide +kernel
theorem d_X_send_12 : decode b_X_send 12 = .ok (.ifCond .ne 5, 3) := by decide +kernel
theorem d_X_send_15 : decode b_X_send 15 = .ok (.iconst (-1), 1) := by decide +kernel
theorem d_X_send_16 : decode b_X_send 16 = .ok (.ireturn, 1) := by decide +kernel
theorem d_X_send_17 : decode b_X_send 17 = .ok (.aload_n 0, 1) := by decide +kernel
theorem d_X_send_18 : decode b_X_send 18 = .ok (.getfield 10, 3) := by decide +kernel
theorem d_X_send_21 : decode b_X_send 21 = .ok (.getfield 121, 3) := by decide +kernel
theorem d_X_send_24 : decode b_X_send 24 = .ok (.iload_n 1, 1) := by decide +kernel
theorem d_X_send_25 : decode b_X_send 25 = .ok (.iaload, 1) := by decide +kernel
theorem d_X_send_26 : decode b_X_send 26 = .ok (.istore_n 3, 1) := by decide +kernel
theorem d_X_send_27 : decode b_X_send 27 = .ok (.aload_n 0, 1) := by decide +kernel
theorem d_X_send_28 : decode b_X_send 28 = .ok (.getfield 10, 3) := by decide +kernel
theorem d_X_send_31 : decode b_X_send 31 = .ok (.getfield 121, 3) := by decide +kernel
theorem d_X_send_34 : decode b_X_send 34 = .ok (.iload_n 1, 1) := by decide +kernel
theorem d_X_send_35 : decode b_X_send 35 = .ok (.iload_n 2, 1) := by decide +kernel
theorem d_X_send_36 : decode b_X_send 36 = .ok (.iastore, 1) := by decide +kernel
theorem d_X_send_37 : decode b_X_send 37 = .ok (.iload_n 3, 1) := by decide +kernel
theorem d_X_send_38 : decode b_X_send 38 = .ok (.ireturn, 1) := by decide +kernel
theorem d_X_noise_0 : decode b_X_noise 0 = .ok (.iload_n 1, 1) := by decide +kernel
theorem d_X_noise_1 : decode b_X_noise 1 = .ok (.invokestatic 99, 3) := by decide +kernel
theorem d_X_noise_4 : decode b_X_noise 4 = .ok (.ifCond .eq 13, 3) := by decide +kernel
theorem d_X_noise_7 : decode b_X_noise 7 = .ok (.iload_n 2, 1) := by decide +kernel
theorem d_X_noise_8 : decode b_X_noise 8 = .ok (.ifCond .lt 9, 3) := by decide +kernel
theorem d_X_noise_11 : decode b_X_noise 11 = .ok (.iload_n 2, 1) := by decide +kernel
theorem d_X_noise_12 : decode b_X_noise 12 = .ok (.bipush 9, 2) := by decide +kernel
theorem d_X_noise_14 : decode b_X_noise 14 = .ok (.if_icmp .le 5, 3) := by decide +kernel
theorem d_X_noise_17 : decode b_X_noise 17 = .ok (.iconst (-1), 1) := by decide +kernel
theorem d_X_noise_18 : decode b_X_noise 18 = .ok (.ireturn, 1) := by decide +kernel
theorem d_X_noise_19 : decode b_X_noise 19 = .ok (.aload_n 0, 1) := by decide +kernel
theorem d_X_noise_20 : decode b_X_noise 20 = .ok (.getfield 10, 3) := by decide +kernel
theorem d_X_noise_23 : decode b_X_noise 23 = .ok (.getfield 138, 3) := by decide +kernel
theorem d_X_noise_26 : decode b_X_noise 26 = .ok (.iload_n 1, 1) := by decide +kernel
theorem d_X_noise_27 : decode b_X_noise 27 = .ok (.iaload, 1) := by decide +kernel
theorem d_X_noise_28 : decode b_X_noise 28 = .ok (.istore_n 3, 1) := by decide +kernel
theorem d_X_noise_29 : decode b_X_noise 29 = .ok (.aload_n 0, 1) := by decide +kernel
theorem d_X_noise_30 : decode b_X_noise 30 = .ok (.getfield 10, 3) := by decide +kernel
theorem d_X_noise_33 : decode b_X_noise 33 = .ok (.getfield 138, 3) := by decide +kernel
theorem d_X_noise_36 : decode b_X_noise 36 = .ok (.iload_n 1, 1) := by decide +kernel
theorem d_X_noise_37 : decode b_X_noise 37 = .ok (.iload_n 2, 1) := by decide +kernel
theorem d_X_noise_38 : decode b_X_noise 38 = .ok (.iastore, 1) := by decide +kernel
theorem d_X_noise_39 : decode b_X_noise 39 = .ok (.iload_n 3, 1) := by decide +kernel
theorem d_X_noise_40 : decode b_X_noise 40 = .ok (.ireturn, 1) := by decide +kernel
theorem d_X_lock_0 : decode b_X_lock 0 = .ok (.iload_n 1, 1) := by decide +kernel
theorem d_X_lock_1 : decode b_X_lock 1 = .ok (.invokestatic 99, 3) := by decide +kernel
theorem d_X_lock_4 : decode b_X_lock 4 = .ok (.ifCond .ne 5, 3) := by decide +kernel
theorem d_X_lock_7 : decode b_X_lock 7 = .ok (.iconst (-1), 1) := by decide +kernel
theorem d_X_lock_8 : decode b_X_lock 8 = .ok (.ireturn, 1) := by decide +kernel
theorem d_X_lock_9 : decode b_X_lock 9 = .ok (.iload_n 2, 1) := by decide +kernel
theorem d_X_lock_10 : decode b_X_lock 10 = .ok (.tableswitch 55 0 2 #[26, 36, 46], 26) := by decide +kernel
theorem d_X_lock_36 : decode b_X_lock 36 = .ok (.aload_n 0, 1) := by decide +kernel
theorem d_X_lock_37 : decode b_X_lock 37 = .ok (.getfield 10, 3) := by decide +kernel
theorem d_X_lock_40 : decode b_X_lock 40 = .ok (.getfield 138, 3) := by decide +kernel
theorem d_X_lock_43 : decode b_X_lock 43 = .ok (.iload_n 1, 1) := by decide +kernel
theorem d_X_lock_44 : decode b_X_lock 44 = .ok (.iaload, 1) := by decide +kernel
theorem d_X_lock_45 : decode b_X_lock 45 = .ok (.ireturn, 1) := by decide +kernel
theorem d_X_lock_46 : decode b_X_lock 46 = .ok (.aload_n 0, 1) := by decide +kernel
theorem d_X_lock_47 : decode b_X_lock 47 = .ok (.getfield 10, 3) := by decide +kernel
theorem d_X_lock_50 : decode b_X_lock 50 = .ok (.getfield 141, 3) := by decide +kernel
theorem d_X_lock_53 : decode b_X_lock 53 = .ok (.iload_n 1, 1) := by decide +kernel
theorem d_X_lock_54 : decode b_X_lock 54 = .ok (.iaload, 1) := by decide +kernel
theorem d_X_lock_55 : decode b_X_lock 55 = .ok (.ireturn, 1) := by decide +kernel
theorem d_X_lock_56 : decode b_X_lock 56 = .ok (.aload_n 0, 1) := by decide +kernel
theorem d_X_lock_57 : decode b_X_lock 57 = .ok (.getfield 10, 3) := by decide +kernel
theorem d_X_lock_60 : decode b_X_lock 60 = .ok (.iload_n 1, 1) := by decide +kernel
theorem d_X_lock_61 : decode b_X_lock 61 = .ok (.invokevirtual 144, 3) := by decide +kernel
theorem d_X_lock_64 : decode b_X_lock 64 = .ok (.ireturn, 1) := by decide +kernel
theorem d_X_lock_65 : decode b_X_lock 65 = .ok (.iconst (-1), 1) := by decide +kernel
theorem d_X_lock_66 : decode b_X_lock 66 = .ok (.ireturn, 1) := by decide +kernel
theorem d_X_hours_0 : decode b_X_hours 0 = .ok (.iload_n 1, 1) := by decide +kernel
theorem d_X_hours_1 : decode b_X_hours 1 = .ok (.iconst 1, 1) := by decide +kernel
theorem d_X_hours_2 : decode b_X_hours 2 = .ok (.if_icmp .lt 9, 3) := by decide +kernel
theorem d_X_hours_5 : decode b_X_hours 5 = .ok (.iload_n 1, 1) := by decide +kernel
theorem d_X_hours_6 : decode b_X_hours 6 = .ok (.bipush 60, 2) := by decide +kernel
theorem d_X_hours_8 : decode b_X_hours 8 = .ok (.if_icmp .le 5, 3) := by decide +kernel
theorem d_X_hours_11 : decode b_X_hours 11 = .ok (.iconst (-1), 1) := by decide +kernel
theorem d_X_hours_12 : decode b_X_hours 12 = .ok (.ireturn, 1) := by decide +kernel
theorem d_X_hours_13 : decode b_X_hours 13 = .ok (.aload_n 0, 1) := by decide +kernel
theorem d_X_hours_14 : decode b_X_hours 14 = .ok (.getfield 10, 3) := by decide +kernel
theorem d_X_hours_17 : decode b_X_hours 17 = .ok (.iload_n 1, 1) := by decide +kernel
theorem d_X_hours_18 : decode b_X_hours 18 = .ok (.invokevirtual 147, 3) := by decide +kernel
theorem d_X_hours_21 : decode b_X_hours 21 = .ok (.aload_n 0, 1) := by decide +kernel
theorem d_X_hours_22 : decode b_X_hours 22 = .ok (.getfield 10, 3) := by decide +kernel
theorem d_X_hours_25 : decode b_X_hours 25 = .ok (.invokevirtual 151, 3) := by decide +kernel
theorem d_X_hours_28 : decode b_X_hours 28 = .ok (.ireturn, 1) := by decide +kernel
theorem d_X_seed_0 : decode b_X_seed 0 = .ok (.aload_n 0, 1) := by decide +kernel
theorem d_X_seed_1 : decode b_X_seed 1 = .ok (.getfield 10, 3) := by decide +kernel
theorem d_X_seed_4 : decode b_X_seed 4 = .ok (.getfield 155, 3) := by decide +kernel
theorem d_X_seed_7 : decode b_X_seed 7 = .ok (.istore_n 2, 1) := by decide +kernel
theorem d_X_seed_8 : decode b_X_seed 8 = .ok (.aload_n 0, 1) := by decide +kernel
theorem d_X_seed_9 : decode b_X_seed 9 = .ok (.getfield 10, 3) := by decide +kernel
theorem d_X_seed_12 : decode b_X_seed 12 = .ok (.iload_n 1, 1) := by decide +kernel
theorem d_X_seed_13 : decode b_X_seed 13 = .ok (.putfield 155, 3) := by decide +kernel
theorem d_X_seed_16 : decode b_X_seed 16 = .ok (.iload_n 2, 1) := by decide +kernel
theorem d_X_seed_17 : decode b_X_seed 17 = .ok (.ireturn, 1) := by decide +kernel
theorem d_X_hour_0 : decode b_X_hour 0 = .ok (.aload_n 0, 1) := by decide +kernel
theorem d_X_hour_1 : decode b_X_hour 1 = .ok (.getfield 10, 3) := by decide +kernel
theorem d_X_hour_4 : decode b_X_hour 4 = .ok (.invokevirtual 158, 3) := by decide +kernel
theorem d_X_hour_7 : decode b_X_hour 7 = .ok (.aload_n 0, 1) := by decide +kernel
theorem d_X_hour_8 : decode b_X_hour 8 = .ok (.getfield 10, 3) := by decide +kernel
theorem d_X_hour_11 : decode b_X_hour 11 = .ok (.invokevirtual 151, 3) := by decide +kernel
theorem d_X_hour_14 : decode b_X_hour 14 = .ok (.ireturn, 1) := by decide +kernel
theorem d_X_triedCargo_0 : decode b_X_triedCargo 0 = .ok (.aload_n 0, 1) := by decide +kernel
theorem d_X_triedCargo_1 : decode b_X_triedCargo 1 = .ok (.getfield 16, 3) := by decide +kernel
theorem d_X_triedCargo_4 : decode b_X_triedCargo 4 = .ok (.aload_n 0, 1) := by decide +kernel
theorem d_X_triedCargo_5 : decode b_X_triedCargo 5 = .ok (.getfield 10, 3) := by decide +kernel
theorem d_X_triedCargo_8 : decode b_X_triedCargo 8 = .ok (.invokevirtual 69, 3) := by decide +kernel
theorem d_X_triedCargo_11 : decode b_X_triedCargo 11 = .ok (.aload_n 0, 1) := by decide +kernel
theorem d_X_triedCargo_12 : decode b_X_triedCargo 12 = .ok (.getfield 16, 3) := by decide +kernel
theorem d_X_triedCargo_15 : decode b_X_triedCargo 15 = .ok (.iload_n 2, 1) := by decide +kernel
theorem d_X_triedCargo_16 : decode b_X_triedCargo 16 = .ok (.invokevirtual 292, 3) := by decide +kernel
theorem d_X_triedCargo_19 : decode b_X_triedCargo 19 = .ok (.aload_n 0, 1) := by decide +kernel
theorem d_X_triedCargo_20 : decode b_X_triedCargo 20 = .ok (.getfield 16, 3) := by decide +kernel
theorem d_X_triedCargo_23 : decode b_X_triedCargo 23 = .ok (.iload_n 3, 1) := by decide +kernel
theorem d_X_triedCargo_24 : decode b_X_triedCargo 24 = .ok (.putfield 295, 3) := by decide +kernel
theorem d_X_triedCargo_27 : decode b_X_triedCargo 27 = .ok (.aload_n 0, 1) := by decide +kernel
theorem d_X_triedCargo_28 : decode b_X_triedCargo 28 = .ok (.getfield 16, 3) := by decide +kernel
theorem d_X_triedCargo_31 : decode b_X_triedCargo 31 = .ok (.iload_n 1, 1) := by decide +kernel
theorem d_X_triedCargo_32 : decode b_X_triedCargo 32 = .ok (.invokevirtual 147, 3) := by decide +kernel
theorem d_X_triedCargo_35 : decode b_X_triedCargo 35 = .ok (.aload_n 0, 1) := by decide +kernel
theorem d_X_triedCargo_36 : decode b_X_triedCargo 36 = .ok (.getfield 16, 3) := by decide +kernel
theorem d_X_triedCargo_39 : decode b_X_triedCargo 39 = .ok (.invokevirtual 151, 3) := by decide +kernel
theorem d_X_triedCargo_42 : decode b_X_triedCargo 42 = .ok (.ireturn, 1) := by decide +kernel
