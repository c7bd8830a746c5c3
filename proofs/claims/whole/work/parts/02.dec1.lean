theorem d_B_init_0 : decode b_B_init 0 = .ok (.aload_n 0, 1) := by decide +kernel
theorem d_B_init_1 : decode b_B_init 1 = .ok (.invokespecial 3, 3) := by decide +kernel
theorem d_B_init_4 : decode b_B_init 4 = .ok (.aload_n 0, 1) := by decide +kernel
theorem d_B_init_5 : decode b_B_init 5 = .ok (.bipush 15, 2) := by decide +kernel
theorem d_B_init_7 : decode b_B_init 7 = .ok (.newarray .int, 2) := by decide +kernel
theorem d_B_init_9 : decode b_B_init 9 = .ok (.putfield 9, 3) := by decide +kernel
theorem d_B_init_12 : decode b_B_init 12 = .ok (.aload_n 0, 1) := by decide +kernel
theorem d_B_init_13 : decode b_B_init 13 = .ok (.bipush 15, 2) := by decide +kernel
theorem d_B_init_15 : decode b_B_init 15 = .ok (.newarray .int, 2) := by decide +kernel
theorem d_B_init_17 : decode b_B_init 17 = .ok (.putfield 13, 3) := by decide +kernel
theorem d_B_init_20 : decode b_B_init 20 = .ok (.aload_n 0, 1) := by decide +kernel
theorem d_B_init_21 : decode b_B_init 21 = .ok (.bipush 15, 2) := by decide +kernel
theorem d_B_init_23 : decode b_B_init 23 = .ok (.newarray .long, 2) := by decide +kernel
theorem d_B_init_25 : decode b_B_init 25 = .ok (.putfield 16, 3) := by decide +kernel
theorem d_B_init_28 : decode b_B_init 28 = .ok (.aload_n 0, 1) := by decide +kernel
theorem d_B_init_29 : decode b_B_init 29 = .ok (.bipush 15, 2) := by decide +kernel
theorem d_B_init_31 : decode b_B_init 31 = .ok (.newarray .long, 2) := by decide +kernel
theorem d_B_init_33 : decode b_B_init 33 = .ok (.putfield 20, 3) := by decide +kernel
theorem d_B_init_36 : decode b_B_init 36 = .ok (.aload_n 0, 1) := by decide +kernel
theorem d_B_init_37 : decode b_B_init 37 = .ok (.bipush 15, 2) := by decide +kernel
theorem d_B_init_39 : decode b_B_init 39 = .ok (.newarray .int, 2) := by decide +kernel
theorem d_B_init_41 : decode b_B_init 41 = .ok (.putfield 23, 3) := by decide +kernel
theorem d_B_init_44 : decode b_B_init 44 = .ok (.aload_n 0, 1) := by decide +kernel
theorem d_B_init_45 : decode b_B_init 45 = .ok (.bipush 15, 2) := by decide +kernel
theorem d_B_init_47 : decode b_B_init 47 = .ok (.newarray .long, 2) := by decide +kernel
theorem d_B_init_49 : decode b_B_init 49 = .ok (.putfield 26, 3) := by decide +kernel
theorem d_B_init_52 : decode b_B_init 52 = .ok (.aload_n 0, 1) := by decide +kernel
theorem d_B_init_53 : decode b_B_init 53 = .ok (.bipush 15, 2) := by decide +kernel
theorem d_B_init_55 : decode b_B_init 55 = .ok (.newarray .long, 2) := by decide +kernel
theorem d_B_init_57 : decode b_B_init 57 = .ok (.putfield 29, 3) := by decide +kernel
theorem d_B_init_60 : decode b_B_init 60 = .ok (.aload_n 0, 1) := by decide +kernel
theorem d_B_init_61 : decode b_B_init 61 = .ok (.bipush 14, 2) := by decide +kernel
theorem d_B_init_63 : decode b_B_init 63 = .ok (.newarray .int, 2) := by decide +kernel
theorem d_B_init_65 : decode b_B_init 65 = .ok (.putfield 32, 3) := by decide +kernel
theorem d_B_init_68 : decode b_B_init 68 = .ok (.aload_n 0, 1) := by decide +kernel
theorem d_B_init_69 : decode b_B_init 69 = .ok (.bipush 14, 2) := by decide +kernel
theorem d_B_init_71 : decode b_B_init 71 = .ok (.newarray .int, 2) := by decide +kernel
theorem d_B_init_73 : decode b_B_init 73 = .ok (.putfield 35, 3) := by decide +kernel
theorem d_B_init_76 : decode b_B_init 76 = .ok (.aload_n 0, 1) := by decide +kernel
theorem d_B_init_77 : decode b_B_init 77 = .ok (.bipush 14, 2) := by decide +kernel
theorem d_B_init_79 : decode b_B_init 79 = .ok (.newarray .long, 2) := by decide +kernel
theorem d_B_init_81 : decode b_B_init 81 = .ok (.putfield 38, 3) := by decide +kernel
theorem d_B_init_84 : decode b_B_init 84 = .ok (.aload_n 0, 1) := by decide +kernel
theorem d_B_init_85 : decode b_B_init 85 = .ok (.getfield 9, 3) := by decide +kernel
theorem d_B_init_88 : decode b_B_init 88 = .ok (.iconst 0, 1) := by decide +kernel
theorem d_B_init_89 : decode b_B_init 89 = .ok (.iconst 0, 1) := by decide +kernel
theorem d_B_init_90 : decode b_B_init 90 = .ok (.iastore, 1) := by decide +kernel
theorem d_B_init_91 : decode b_B_init 91 = .ok (.aload_n 0, 1) := by decide +kernel
theorem d_B_init_92 : decode b_B_init 92 = .ok (.iconst 1, 1) := by decide +kernel
theorem d_B_init_93 : decode b_B_init 93 = .ok (.putfield 41, 3) := by decide +kernel
theorem d_B_init_96 : decode b_B_init 96 = .ok (.aload_n 0, 1) := by decide +kernel
theorem d_B_init_97 : decode b_B_init 97 = .ok (.iconst 0, 1) := by decide +kernel
theorem d_B_init_98 : decode b_B_init 98 = .ok (.putfield 45, 3) := by decide +kernel
theorem d_B_init_101 : decode b_B_init 101 = .ok (.return_, 1) := by decide +kernel
theorem d_B_settle_0 : decode b_B_settle 0 = .ok (.iconst 0, 1) := by decide +kernel
theorem d_B_settle_1 : decode b_B_settle 1 = .ok (.istore_n 1, 1) := by decide +kernel
theorem d_B_settle_2 : decode b_B_settle 2 = .ok (.iload_n 1, 1) := by decide +kernel
theorem d_B_settle_3 : decode b_B_settle 3 = .ok (.aload_n 0, 1) := by decide +kernel
theorem d_B_settle_4 : decode b_B_settle 4 = .ok (.getfield 41, 3) := by decide +kernel
theorem d_B_settle_7 : decode b_B_settle 7 = .ok (.if_icmp .ge 43, 3) := by decide +kernel
theorem d_B_settle_10 : decode b_B_settle 10 = .ok (.aload_n 0, 1) := by decide +kernel
theorem d_B_settle_11 : decode b_B_settle 11 = .ok (.getfield 29, 3) := by decide +kernel
theorem d_B_settle_14 : decode b_B_settle 14 = .ok (.iload_n 1, 1) := by decide +kernel
theorem d_B_settle_15 : decode b_B_settle 15 = .ok (.aload_n 0, 1) := by decide +kernel
theorem d_B_settle_16 : decode b_B_settle 16 = .ok (.getfield 16, 3) := by decide +kernel
theorem d_B_settle_19 : decode b_B_settle 19 = .ok (.iload_n 1, 1) := by decide +kernel
theorem d_B_settle_20 : decode b_B_settle 20 = .ok (.laload, 1) := by decide +kernel
theorem d_B_settle_21 : decode b_B_settle 21 = .ok (.lastore, 1) := by decide +kernel
theorem d_B_settle_22 : decode b_B_settle 22 = .ok (.aload_n 0, 1) := by decide +kernel
theorem d_B_settle_23 : decode b_B_settle 23 = .ok (.getfield 20, 3) := by decide +kernel
theorem d_B_settle_26 : decode b_B_settle 26 = .ok (.iload_n 1, 1) := by decide +kernel
theorem d_B_settle_27 : decode b_B_settle 27 = .ok (.dup2, 1) := by decide +kernel
theorem d_B_settle_28 : decode b_B_settle 28 = .ok (.laload, 1) := by decide +kernel
theorem d_B_settle_29 : decode b_B_settle 29 = .ok (.aload_n 0, 1) := by decide +kernel
theorem d_B_settle_30 : decode b_B_settle 30 = .ok (.getfield 16, 3) := by decide +kernel
theorem d_B_settle_33 : decode b_B_settle 33 = .ok (.iload_n 1, 1) := by decide +kernel
theorem d_B_settle_34 : decode b_B_settle 34 = .ok (.laload, 1) := by decide +kernel
theorem d_B_settle_35 : decode b_B_settle 35 = .ok (.ladd, 1) := by decide +kernel
theorem d_B_settle_36 : decode b_B_settle 36 = .ok (.lastore, 1) := by decide +kernel
theorem d_B_settle_37 : decode b_B_settle 37 = .ok (.aload_n 0, 1) := by decide +kernel
theorem d_B_settle_38 : decode b_B_settle 38 = .ok (.getfield 16, 3) := by decide +kernel
theorem d_B_settle_41 : decode b_B_settle 41 = .ok (.iload_n 1, 1) := by decide +kernel
theorem d_B_settle_42 : decode b_B_settle 42 = .ok (.lconst 0, 1) := by decide +kernel
theorem d_B_settle_43 : decode b_B_settle 43 = .ok (.lastore, 1) := by decide +kernel
theorem d_B_settle_44 : decode b_B_settle 44 = .ok (.iinc 1 1, 3) := by decide +kernel
theorem d_B_settle_47 : decode b_B_settle 47 = .ok (.goto (-45), 3) := by decide +kernel
theorem d_B_settle_50 : decode b_B_settle 50 = .ok (.aload_n 0, 1) := by decide +kernel
theorem d_B_settle_51 : decode b_B_settle 51 = .ok (.invokevirtual 76, 3) := by decide +kernel
theorem d_B_settle_54 : decode b_B_settle 54 = .ok (.aload_n 0, 1) := by decide +kernel
theorem d_B_settle_55 : decode b_B_settle 55 = .ok (.getfield 45, 3) := by decide +kernel
theorem d_B_settle_58 : decode b_B_settle 58 = .ok (.ireturn, 1) := by decide +kernel
theorem d_B_makeTransfers_0 : decode b_B_makeTransfers 0 = .ok (.aload_n 0, 1) := by decide +kernel
theorem d_B_makeTransfers_1 : decode b_B_makeTransfers 1 = .ok (.iconst 0, 1) := by decide +kernel
theorem d_B_makeTransfers_2 : decode b_B_makeTransfers 2 = .ok (.putfield 45, 3) := by decide +kernel
theorem d_B_makeTransfers_5 : decode b_B_makeTransfers 5 = .ok (.iconst 0, 1) := by decide +kernel
theorem d_B_makeTransfers_6 : decode b_B_makeTransfers 6 = .ok (.istore_n 1, 1) := by decide +kernel
theorem d_B_makeTransfers_7 : decode b_B_makeTransfers 7 = .ok (.iload_n 1, 1) := by decide +kernel
theorem d_B_makeTransfers_8 : decode b_B_makeTransfers 8 = .ok (.bipush 14, 2) := by decide +kernel
theorem d_B_makeTransfers_10 : decode b_B_makeTransfers 10 = .ok (.if_icmp .ge 43, 3) := by decide +kernel
theorem d_B_makeTransfers_13 : decode b_B_makeTransfers 13 = .ok (.aload_n 0, 1) := by decide +kernel
theorem d_B_makeTransfers_14 : decode b_B_makeTransfers 14 = .ok (.invokevirtual 114, 3) := by decide +kernel
theorem d_B_makeTransfers_17 : decode b_B_makeTransfers 17 = .ok (.istore_n 2, 1) := by decide +kernel
theorem d_B_makeTransfers_18 : decode b_B_makeTransfers 18 = .ok (.aload_n 0, 1) := by decide +kernel
theorem d_B_makeTransfers_19 : decode b_B_makeTransfers 19 = .ok (.getfield 29, 3) := by decide +kernel
theorem d_B_makeTransfers_22 : decode b_B_makeTransfers 22 = .ok (.iload_n 2, 1) := by decide +kernel
theorem d_B_makeTransfers_23 : decode b_B_makeTransfers 23 = .ok (.laload, 1) := by decide +kernel
theorem d_B_makeTransfers_24 : decode b_B_makeTransfers 24 = .ok (.lconst 0, 1) := by decide +kernel
theorem d_B_makeTransfers_25 : decode b_B_makeTransfers 25 = .ok (.lcmp, 1) := by decide +kernel
theorem d_B_makeTransfers_26 : decode b_B_makeTransfers 26 = .ok (.ifCond .lt 4, 3) := by decide +kernel
theorem d_B_makeTransfers_29 : decode b_B_makeTransfers 29 = .ok (.return_, 1) := by decide +kernel
theorem d_B_makeTransfers_30 : decode b_B_makeTransfers 30 = .ok (.aload_n 0, 1) := by decide +kernel
theorem d_B_makeTransfers_31 : decode b_B_makeTransfers 31 = .ok (.iload_n 1, 1) := by decide +kernel
theorem d_B_makeTransfers_32 : decode b_B_makeTransfers 32 = .ok (.iload_n 2, 1) := by decide +kernel
theorem d_B_makeTransfers_33 : decode b_B_makeTransfers 33 = .ok (.aload_n 0, 1) := by decide +kernel
theorem d_B_makeTransfers_34 : decode b_B_makeTransfers 34 = .ok (.invokevirtual 118, 3) := by decide +kernel
theorem d_B_makeTransfers_37 : decode b_B_makeTransfers 37 = .ok (.invokevirtual 121, 3) := by decide +kernel
theorem d_B_makeTransfers_40 : decode b_B_makeTransfers 40 = .ok (.aload_n 0, 1) := by decide +kernel
theorem d_B_makeTransfers_41 : decode b_B_makeTransfers 41 = .ok (.iload_n 1, 1) := by decide +kernel
theorem d_B_makeTransfers_42 : decode b_B_makeTransfers 42 = .ok (.iconst 1, 1) := by decide +kernel
theorem d_B_makeTransfers_43 : decode b_B_makeTransfers 43 = .ok (.iadd, 1) := by decide +kernel
theorem d_B_makeTransfers_44 : decode b_B_makeTransfers 44 = .ok (.putfield 45, 3) := by decide +kernel
theorem d_B_makeTransfers_47 : decode b_B_makeTransfers 47 = .ok (.iinc 1 1, 3) := by decide +kernel
theorem d_B_makeTransfers_50 : decode b_B_makeTransfers 50 = .ok (.goto (-43), 3) := by decide +kernel
theorem d_B_makeTransfers_53 : decode b_B_makeTransfers 53 = .ok (.return_, 1) := by decide +kernel
theorem d_B_leastOpen_0 : decode b_B_leastOpen 0 = .ok (.iconst 0, 1) := by decide +kernel
theorem d_B_leastOpen_1 : decode b_B_leastOpen 1 = .ok (.istore_n 1, 1) := by decide +kernel
theorem d_B_leastOpen_2 : decode b_B_leastOpen 2 = .ok (.iconst 1, 1) := by decide +kernel
theorem d_B_leastOpen_3 : decode b_B_leastOpen 3 = .ok (.istore_n 2, 1) := by decide +kernel
theorem d_B_leastOpen_4 : decode b_B_leastOpen 4 = .ok (.iload_n 2, 1) := by decide +kernel
theorem d_B_leastOpen_5 : decode b_B_leastOpen 5 = .ok (.aload_n 0, 1) := by decide +kernel
theorem d_B_leastOpen_6 : decode b_B_leastOpen 6 = .ok (.getfield 41, 3) := by decide +kernel
theorem d_B_leastOpen_9 : decode b_B_leastOpen 9 = .ok (.if_icmp .ge 27, 3) := by decide +kernel
theorem d_B_leastOpen_12 : decode b_B_leastOpen 12 = .ok (.aload_n 0, 1) := by decide +kernel
theorem d_B_leastOpen_13 : decode b_B_leastOpen 13 = .ok (.getfield 29, 3) := by decide +kernel
theorem d_B_leastOpen_16 : decode b_B_leastOpen 16 = .ok (.iload_n 2, 1) := by decide +kernel
theorem d_B_leastOpen_17 : decode b_B_leastOpen 17 = .ok (.laload, 1) := by decide +kernel
theorem d_B_leastOpen_18 : decode b_B_leastOpen 18 = .ok (.aload_n 0, 1) := by decide +kernel
theorem d_B_leastOpen_19 : decode b_B_leastOpen 19 = .ok (.getfield 29, 3) := by decide +kernel
theorem d_B_leastOpen_22 : decode b_B_leastOpen 22 = .ok (.iload_n 1, 1) := by decide +kernel
theorem d_B_leastOpen_23 : decode b_B_leastOpen 23 = .ok (.laload, 1) := by decide +kernel
theorem d_B_leastOpen_24 : decode b_B_leastOpen 24 = .ok (.lcmp, 1) := by decide +kernel
theorem d_B_leastOpen_25 : decode b_B_leastOpen 25 = .ok (.ifCond .ge 5, 3) := by decide +kernel
theorem d_B_leastOpen_28 : decode b_B_leastOpen 28 = .ok (.iload_n 2, 1) := by decide +kernel
theorem d_B_leastOpen_29 : decode b_B_leastOpen 29 = .ok (.istore_n 1, 1) := by decide +kernel
theorem d_B_leastOpen_30 : decode b_B_leastOpen 30 = .ok (.iinc 2 1, 3) := by decide +kernel
theorem d_B_leastOpen_33 : decode b_B_leastOpen 33 = .ok (.goto (-29), 3) := by decide +kernel
theorem d_B_leastOpen_36 : decode b_B_leastOpen 36 = .ok (.iload_n 1, 1) := by decide +kernel
theorem d_B_leastOpen_37 : decode b_B_leastOpen 37 = .ok (.ireturn, 1) := by decide +kernel
theorem d_B_greatestOpen_0 : decode b_B_greatestOpen 0 = .ok (.iconst 0, 1) := by decide +kernel
theorem d_B_greatestOpen_1 : decode b_B_greatestOpen 1 = .ok (.istore_n 1, 1) := by decide +kernel
theorem d_B_greatestOpen_2 : decode b_B_greatestOpen 2 = .ok (.iconst 1, 1) := by decide +kernel
theorem d_B_greatestOpen_3 : decode b_B_greatestOpen 3 = .ok (.istore_n 2, 1) := by decide +kernel
theorem d_B_greatestOpen_4 : decode b_B_greatestOpen 4 = .ok (.iload_n 2, 1) := by decide +kernel
theorem d_B_greatestOpen_5 : decode b_B_greatestOpen 5 = .ok (.aload_n 0, 1) := by decide +kernel
theorem d_B_greatestOpen_6 : decode b_B_greatestOpen 6 = .ok (.getfield 41, 3) := by decide +kernel
theorem d_B_greatestOpen_9 : decode b_B_greatestOpen 9 = .ok (.if_icmp .ge 27, 3) := by decide +kernel
theorem d_B_greatestOpen_12 : decode b_B_greatestOpen 12 = .ok (.aload_n 0, 1) := by decide +kernel
theorem d_B_greatestOpen_13 : decode b_B_greatestOpen 13 = .ok (.getfield 29, 3) := by decide +kernel
theorem d_B_greatestOpen_16 : decode b_B_greatestOpen 16 = .ok (.iload_n 2, 1) := by decide +kernel
theorem d_B_greatestOpen_17 : decode b_B_greatestOpen 17 = .ok (.laload, 1) := by decide +kernel
theorem d_B_greatestOpen_18 : decode b_B_greatestOpen 18 = .ok (.aload_n 0, 1) := by decide +kernel
theorem d_B_greatestOpen_19 : decode b_B_greatestOpen 19 = .ok (.getfield 29, 3) := by decide +kernel
theorem d_B_greatestOpen_22 : decode b_B_greatestOpen 22 = .ok (.iload_n 1, 1) := by decide +kernel
theorem d_B_greatestOpen_23 : decode b_B_greatestOpen 23 = .ok (.laload, 1) := by decide +kernel
theorem d_B_greatestOpen_24 : decode b_B_greatestOpen 24 = .ok (.lcmp, 1) := by decide +kernel
theorem d_B_greatestOpen_25 : decode b_B_greatestOpen 25 = .ok (.ifCond .le 5, 3) := by decide +kernel
theorem d_B_greatestOpen_28 : decode b_B_greatestOpen 28 = .ok (.iload_n 2, 1) := by decide +kernel
theorem d_B_greatestOpen_29 : decode b_B_greatestOpen 29 = .ok (.istore_n 1, 1) := by decide +kernel
theorem d_B_greatestOpen_30 : decode b_B_greatestOpen 30 = .ok (.iinc 2 1, 3) := by decide +kernel
theorem d_B_greatestOpen_33 : decode b_B_greatestOpen 33 = .ok (.goto (-29), 3) := by decide +kernel
theorem d_B_greatestOpen_36 : decode b_B_greatestOpen 36 = .ok (.iload_n 1, 1) := by decide +kernel
theorem d_B_greatestOpen_37 : decode b_B_greatestOpen 37 = .ok (.ireturn, 1) := by decide +kernel
theorem d_B_makeTransfer_0 : decode b_B_makeTransfer 0 = .ok (.aload_n 0, 1) := by decide +kernel
theorem d_B_makeTransfer_1 : decode b_B_makeTransfer 1 = .ok (.getfield 29, 3) := by decide +kernel
theorem d_B_makeTransfer_4 : decode b_B_makeTransfer 4 = .ok (.iload_n 2, 1) := by decide +kernel
theorem d_B_makeTransfer_5 : decode b_B_makeTransfer 5 = .ok (.laload, 1) := by decide +kernel
theorem d_B_makeTransfer_6 : decode b_B_makeTransfer 6 = .ok (.lneg, 1) := by decide +kernel
theorem d_B_makeTransfer_7 : decode b_B_makeTransfer 7 = .ok (.aload_n 0, 1) := by decide +kernel
theorem d_B_makeTransfer_8 : decode b_B_makeTransfer 8 = .ok (.getfield 29, 3) := by decide +kernel
theorem d_B_makeTransfer_11 : decode b_B_makeTransfer 11 = .ok (.iload_n 3, 1) := by decide +kernel
theorem d_B_makeTransfer_12 : decode b_B_makeTransfer 12 = .ok (.laload, 1) := by decide +kernel
theorem d_B_makeTransfer_13 : decode b_B_makeTransfer 13 = .ok (.invokestatic 125, 3) := by decide +kernel
theorem d_B_makeTransfer_16 : decode b_B_makeTransfer 16 = .ok (.lstore 4, 2) := by decide +kernel
theorem d_B_makeTransfer_18 : decode b_B_makeTransfer 18 = .ok (.aload_n 0, 1) := by decide +kernel
theorem d_B_makeTransfer_19 : decode b_B_makeTransfer 19 = .ok (.getfield 29, 3) := by decide +kernel
theorem d_B_makeTransfer_22 : decode b_B_makeTransfer 22 = .ok (.iload_n 2, 1) := by decide +kernel
theorem d_B_makeTransfer_23 : decode b_B_makeTransfer 23 = .ok (.dup2, 1) := by decide +kernel
theorem d_B_makeTransfer_24 : decode b_B_makeTransfer 24 = .ok (.laload, 1) := by decide +kernel
theorem d_B_makeTransfer_25 : decode b_B_makeTransfer 25 = .ok (.lload 4, 2) := by decide +kernel
theorem d_B_makeTransfer_27 : decode b_B_makeTransfer 27 = .ok (.ladd, 1) := by decide +kernel
theorem d_B_makeTransfer_28 : decode b_B_makeTransfer 28 = .ok (.lastore, 1) := by decide +kernel
theorem d_B_makeTransfer_29 : decode b_B_makeTransfer 29 = .ok (.aload_n 0, 1) := by decide +kernel
theorem d_B_makeTransfer_30 : decode b_B_makeTransfer 30 = .ok (.getfield 29, 3) := by decide +kernel
theorem d_B_makeTransfer_33 : decode b_B_makeTransfer 33 = .ok (.iload_n 3, 1) := by decide +kernel
theorem d_B_makeTransfer_34 : decode b_B_makeTransfer 34 = .ok (.dup2, 1) := by decide +kernel
theorem d_B_makeTransfer_35 : decode b_B_makeTransfer 35 = .ok (.laload, 1) := by decide +kernel
theorem d_B_makeTransfer_36 : decode b_B_makeTransfer 36 = .ok (.lload 4, 2) := by decide +kernel
theorem d_B_makeTransfer_38 : decode b_B_makeTransfer 38 = .ok (.lsub, 1) := by decide +kernel
theorem d_B_makeTransfer_39 : decode b_B_makeTransfer 39 = .ok (.lastore, 1) := by decide +kernel
theorem d_B_makeTransfer_40 : decode b_B_makeTransfer 40 = .ok (.aload_n 0, 1) := by decide +kernel
theorem d_B_makeTransfer_41 : decode b_B_makeTransfer 41 = .ok (.getfield 32, 3) := by decide +kernel
theorem d_B_makeTransfer_44 : decode b_B_makeTransfer 44 = .ok (.iload_n 1, 1) := by decide +kernel
theorem d_B_makeTransfer_45 : decode b_B_makeTransfer 45 = .ok (.iload_n 2, 1) := by decide +kernel
theorem d_B_makeTransfer_46 : decode b_B_makeTransfer 46 = .ok (.iastore, 1) := by decide +kernel
theorem d_B_makeTransfer_47 : decode b_B_makeTransfer 47 = .ok (.aload_n 0, 1) := by decide +kernel
theorem d_B_makeTransfer_48 : decode b_B_makeTransfer 48 = .ok (.getfield 35, 3) := by decide +kernel
theorem d_B_makeTransfer_51 : decode b_B_makeTransfer 51 = .ok (.iload_n 1, 1) := by decide +kernel
theorem d_B_makeTransfer_52 : decode b_B_makeTransfer 52 = .ok (.iload_n 3, 1) := by decide +kernel
theorem d_B_makeTransfer_53 : decode b_B_makeTransfer 53 = .ok (.iastore, 1) := by decide +kernel
theorem d_B_makeTransfer_54 : decode b_B_makeTransfer 54 = .ok (.aload_n 0, 1) := by decide +kernel
theorem d_B_makeTransfer_55 : decode b_B_makeTransfer 55 = .ok (.getfield 38, 3) := by decide +kernel
theorem d_B_makeTransfer_58 : decode b_B_makeTransfer 58 = .ok (.iload_n 1, 1) := by decide +kernel
theorem d_B_makeTransfer_59 : decode b_B_makeTransfer 59 = .ok (.lload 4, 2) := by decide +kernel
theorem d_B_makeTransfer_61 : decode b_B_makeTransfer 61 = .ok (.lastore, 1) := by decide +kernel
theorem d_B_makeTransfer_62 : decode b_B_makeTransfer 62 = .ok (.return_, 1) := by decide +kernel
theorem d_B_parties_0 : decode b_B_parties 0 = .ok (.aload_n 0, 1) := by decide +kernel
theorem d_B_parties_1 : decode b_B_parties 1 = .ok (.getfield 41, 3) := by decide +kernel
theorem d_B_parties_4 : decode b_B_parties 4 = .ok (.ireturn, 1) := by decide +kernel
theorem d_B_audit_0 : decode b_B_audit 0 = .ok (.aload_n 0, 1) := by decide +kernel
theorem d_B_audit_1 : decode b_B_audit 1 = .ok (.aload_n 0, 1) := by decide +kernel
theorem d_B_audit_2 : decode b_B_audit 2 = .ok (.getfield 16, 3) := by decide +kernel
theorem d_B_audit_5 : decode b_B_audit 5 = .ok (.invokevirtual 95, 3) := by decide +kernel
theorem d_B_audit_8 : decode b_B_audit 8 = .ok (.lconst 0, 1) := by decide +kernel
theorem d_B_audit_9 : decode b_B_audit 9 = .ok (.lcmp, 1) := by decide +kernel
theorem d_B_audit_10 : decode b_B_audit 10 = .ok (.ifCond .eq 7, 3) := by decide +kernel
theorem d_B_audit_13 : decode b_B_audit 13 = .ok (.iconst 2, 1) := by decide +kernel
theorem d_B_audit_14 : decode b_B_audit 14 = .ok (.goto 4, 3) := by decide +kernel
theorem d_B_audit_17 : decode b_B_audit 17 = .ok (.iconst 0, 1) := by decide +kernel
theorem d_B_audit_18 : decode b_B_audit 18 = .ok (.istore_n 1, 1) := by decide +kernel
theorem d_B_audit_19 : decode b_B_audit 19 = .ok (.aload_n 0, 1) := by decide +kernel
theorem d_B_audit_20 : decode b_B_audit 20 = .ok (.aload_n 0, 1) := by decide +kernel
theorem d_B_audit_21 : decode b_B_audit 21 = .ok (.getfield 20, 3) := by decide +kernel
theorem d_B_audit_24 : decode b_B_audit 24 = .ok (.invokevirtual 95, 3) := by decide +kernel
theorem d_B_audit_27 : decode b_B_audit 27 = .ok (.lconst 0, 1) := by decide +kernel
theorem d_B_audit_28 : decode b_B_audit 28 = .ok (.lcmp, 1) := by decide +kernel
theorem d_B_audit_29 : decode b_B_audit 29 = .ok (.ifCond .eq 7, 3) := by decide +kernel
theorem d_B_audit_32 : decode b_B_audit 32 = .ok (.iconst 1, 1) := by decide +kernel
theorem d_B_audit_33 : decode b_B_audit 33 = .ok (.goto 4, 3) := by decide +kernel
theorem d_B_audit_36 : decode b_B_audit 36 = .ok (.iconst 0, 1) := by decide +kernel
theorem d_B_audit_37 : decode b_B_audit 37 = .ok (.istore_n 2, 1) := by decide +kernel
theorem d_B_audit_38 : decode b_B_audit 38 = .ok (.iload_n 1, 1) := by decide +kernel
theorem d_B_audit_39 : decode b_B_audit 39 = .ok (.iload_n 2, 1) := by decide +kernel
theorem d_B_audit_40 : decode b_B_audit 40 = .ok (.iadd, 1) := by decide +kernel
theorem d_B_audit_41 : decode b_B_audit 41 = .ok (.ireturn, 1) := by decide +kernel
theorem d_B_sumOf_0 : decode b_B_sumOf 0 = .ok (.lconst 0, 1) := by decide +kernel
theorem d_B_sumOf_1 : decode b_B_sumOf 1 = .ok (.lstore_n 2, 1) := by decide +kernel
theorem d_B_sumOf_2 : decode b_B_sumOf 2 = .ok (.iconst 0, 1) := by decide +kernel
theorem d_B_sumOf_3 : decode b_B_sumOf 3 = .ok (.istore 4, 2) := by decide +kernel
theorem d_B_sumOf_5 : decode b_B_sumOf 5 = .ok (.iload 4, 2) := by decide +kernel
theorem d_B_sumOf_7 : decode b_B_sumOf 7 = .ok (.aload_n 0, 1) := by decide +kernel
theorem d_B_sumOf_8 : decode b_B_sumOf 8 = .ok (.getfield 41, 3) := by decide +kernel
theorem d_B_sumOf_11 : decode b_B_sumOf 11 = .ok (.if_icmp .ge 16, 3) := by decide +kernel
theorem d_B_sumOf_14 : decode b_B_sumOf 14 = .ok (.lload_n 2, 1) := by decide +kernel
theorem d_B_sumOf_15 : decode b_B_sumOf 15 = .ok (.aload_n 1, 1) := by decide +kernel
theorem d_B_sumOf_16 : decode b_B_sumOf 16 = .ok (.iload 4, 2) := by decide +kernel
theorem d_B_sumOf_18 : decode b_B_sumOf 18 = .ok (.laload, 1) := by decide +kernel
theorem d_B_sumOf_19 : decode b_B_sumOf 19 = .ok (.ladd, 1) := by decide +kernel
theorem d_B_sumOf_20 : decode b_B_sumOf 20 = .ok (.lstore_n 2, 1) := by decide +kernel
theorem d_B_sumOf_21 : decode b_B_sumOf 21 = .ok (.iinc 4 1, 3) := by decide +kernel
theorem d_B_sumOf_24 : decode b_B_sumOf 24 = .ok (.goto (-19), 3) := by decide +kernel
theorem d_B_sumOf_27 : decode b_B_sumOf 27 = .ok (.lload_n 2, 1) := by decide +kernel
theorem d_B_sumOf_28 : decode b_B_sumOf 28 = .ok (.lreturn, 1) := by decide +kernel
theorem d_B_acquirer_0 : decode b_B_acquirer 0 = .ok (.aload_n 0, 1) := by decide +kernel
theorem d_B_acquirer_1 : decode b_B_acquirer 1 = .ok (.iconst 1, 1) := by decide +kernel
theorem d_B_acquirer_2 : decode b_B_acquirer 2 = .ok (.iload_n 1, 1) := by decide +kernel
theorem d_B_acquirer_3 : decode b_B_acquirer 3 = .ok (.invokevirtual 48, 3) := by decide +kernel
theorem d_B_acquirer_6 : decode b_B_acquirer 6 = .ok (.ireturn, 1) := by decide +kernel
theorem d_B_enter_0 : decode b_B_enter 0 = .ok (.iload_n 2, 1) := by decide +kernel
theorem d_B_enter_1 : decode b_B_enter 1 = .ok (.ifCond .lt 10, 3) := by decide +kernel
theorem d_B_enter_4 : decode b_B_enter 4 = .ok (.iload_n 2, 1) := by decide +kernel
theorem d_B_enter_5 : decode b_B_enter 5 = .ok (.sipush 1000, 3) := by decide +kernel
theorem d_B_enter_8 : decode b_B_enter 8 = .ok (.if_icmp .le 13, 3) := by decide +kernel
theorem d_B_enter_11 : decode b_B_enter 11 = .ok (.new 69, 3) := by decide +kernel
theorem d_B_enter_14 : decode b_B_enter 14 = .ok (.dup, 1) := by decide +kernel
theorem d_B_enter_15 : decode b_B_enter 15 = .ok (.ldc 99, 2) := by decide +kernel
theorem d_B_enter_17 : decode b_B_enter 17 = .ok (.invokespecial 73, 3) := by decide +kernel
theorem d_B_enter_20 : decode b_B_enter 20 = .ok (.athrow, 1) := by decide +kernel
theorem d_B_enter_21 : decode b_B_enter 21 = .ok (.aload_n 0, 1) := by decide +kernel
theorem d_B_enter_22 : decode b_B_enter 22 = .ok (.getfield 41, 3) := by decide +kernel
theorem d_B_enter_25 : decode b_B_enter 25 = .ok (.bipush 15, 2) := by decide +kernel
theorem d_B_enter_27 : decode b_B_enter 27 = .ok (.if_icmp .lt 13, 3) := by decide +kernel
theorem d_B_enter_30 : decode b_B_enter 30 = .ok (.new 101, 3) := by decide +kernel
theorem d_B_enter_33 : decode b_B_enter 33 = .ok (.dup, 1) := by decide +kernel
theorem d_B_enter_34 : decode b_B_enter 34 = .ok (.ldc 103, 2) := by decide +kernel
theorem d_B_enter_36 : decode b_B_enter 36 = .ok (.invokespecial 105, 3) := by decide +kernel
theorem d_B_enter_39 : decode b_B_enter 39 = .ok (.athrow, 1) := by decide +kernel
theorem d_B_enter_40 : decode b_B_enter 40 = .ok (.aload_n 0, 1) := by decide +kernel
theorem d_B_enter_41 : decode b_B_enter 41 = .ok (.getfield 41, 3) := by decide +kernel
theorem d_B_enter_44 : decode b_B_enter 44 = .ok (.istore_n 3, 1) := by decide +kernel
theorem d_B_enter_45 : decode b_B_enter 45 = .ok (.aload_n 0, 1) := by decide +kernel
theorem d_B_enter_46 : decode b_B_enter 46 = .ok (.getfield 9, 3) := by decide +kernel
theorem d_B_enter_49 : decode b_B_enter 49 = .ok (.iload_n 3, 1) := by decide +kernel
theorem d_B_enter_50 : decode b_B_enter 50 = .ok (.iload_n 1, 1) := by decide +kernel
theorem d_B_enter_51 : decode b_B_enter 51 = .ok (.iastore, 1) := by decide +kernel
theorem d_B_enter_52 : decode b_B_enter 52 = .ok (.aload_n 0, 1) := by decide +kernel
theorem d_B_enter_53 : decode b_B_enter 53 = .ok (.getfield 13, 3) := by decide +kernel
theorem d_B_enter_56 : decode b_B_enter 56 = .ok (.iload_n 3, 1) := by decide +kernel
theorem d_B_enter_57 : decode b_B_enter 57 = .ok (.iload_n 2, 1) := by decide +kernel
theorem d_B_enter_58 : decode b_B_enter 58 = .ok (.iastore, 1) := by decide +kernel
theorem d_B_enter_59 : decode b_B_enter 59 = .ok (.aload_n 0, 1) := by decide +kernel
theorem d_B_enter_60 : decode b_B_enter 60 = .ok (.dup, 1) := by decide +kernel
theorem d_B_enter_61 : decode b_B_enter 61 = .ok (.getfield 41, 3) := by decide +kernel
theorem d_B_enter_64 : decode b_B_enter 64 = .ok (.iconst 1, 1) := by decide +kernel
theorem d_B_enter_65 : decode b_B_enter 65 = .ok (.iadd, 1) := by decide +kernel
theorem d_B_enter_66 : decode b_B_enter 66 = .ok (.putfield 41, 3) := by decide +kernel
theorem d_B_enter_69 : decode b_B_enter 69 = .ok (.iload_n 3, 1) := by decide +kernel
theorem d_B_enter_70 : decode b_B_enter 70 = .ok (.ireturn, 1) := by decide +kernel
theorem d_B_issuer_0 : decode b_B_issuer 0 = .ok (.aload_n 0, 1) := by decide +kernel
theorem d_B_issuer_1 : decode b_B_issuer 1 = .ok (.iconst 2, 1) := by decide +kernel
theorem d_B_issuer_2 : decode b_B_issuer 2 = .ok (.iload_n 1, 1) := by decide +kernel
theorem d_B_issuer_3 : decode b_B_issuer 3 = .ok (.invokevirtual 48, 3) := by decide +kernel
theorem d_B_issuer_6 : decode b_B_issuer 6 = .ok (.ireturn, 1) := by decide +kernel
theorem d_B_clear_0 : decode b_B_clear 0 = .ok (.aload_n 0, 1) := by decide +kernel
theorem d_B_clear_1 : decode b_B_clear 1 = .ok (.iload_n 1, 1) := by decide +kernel
theorem d_B_clear_2 : decode b_B_clear 2 = .ok (.iconst 1, 1) := by decide +kernel
theorem d_B_clear_3 : decode b_B_clear 3 = .ok (.invokevirtual 52, 3) := by decide +kernel
theorem d_B_clear_6 : decode b_B_clear 6 = .ok (.aload_n 0, 1) := by decide +kernel
theorem d_B_clear_7 : decode b_B_clear 7 = .ok (.iload_n 2, 1) := by decide +kernel
theorem d_B_clear_8 : decode b_B_clear 8 = .ok (.iconst 2, 1) := by decide +kernel
theorem d_B_clear_9 : decode b_B_clear 9 = .ok (.invokevirtual 52, 3) := by decide +kernel
theorem d_B_clear_12 : decode b_B_clear 12 = .ok (.lload_n 3, 1) := by decide +kernel
theorem d_B_clear_13 : decode b_B_clear 13 = .ok (.lconst 1, 1) := by decide +kernel
theorem d_B_clear_14 : decode b_B_clear 14 = .ok (.invokestatic 56, 3) := by decide +kernel
theorem d_B_clear_17 : decode b_B_clear 17 = .ok (.lload_n 3, 1) := by decide +kernel
theorem d_B_clear_18 : decode b_B_clear 18 = .ok (.aload_n 0, 1) := by decide +kernel
theorem d_B_clear_19 : decode b_B_clear 19 = .ok (.getfield 13, 3) := by decide +kernel
theorem d_B_clear_22 : decode b_B_clear 22 = .ok (.iload_n 2, 1) := by decide +kernel
theorem d_B_clear_23 : decode b_B_clear 23 = .ok (.iaload, 1) := by decide +kernel
theorem d_B_clear_24 : decode b_B_clear 24 = .ok (.aload_n 0, 1) := by decide +kernel
theorem d_B_clear_25 : decode b_B_clear 25 = .ok (.getfield 13, 3) := by decide +kernel
theorem d_B_clear_28 : decode b_B_clear 28 = .ok (.iload_n 1, 1) := by decide +kernel
theorem d_B_clear_29 : decode b_B_clear 29 = .ok (.iaload, 1) := by decide +kernel
theorem d_B_clear_30 : decode b_B_clear 30 = .ok (.iadd, 1) := by decide +kernel
theorem d_B_clear_31 : decode b_B_clear 31 = .ok (.invokestatic 60, 3) := by decide +kernel
theorem d_B_clear_34 : decode b_B_clear 34 = .ok (.lstore 5, 2) := by decide +kernel
theorem d_B_clear_36 : decode b_B_clear 36 = .ok (.lload_n 3, 1) := by decide +kernel
theorem d_B_clear_37 : decode b_B_clear 37 = .ok (.aload_n 0, 1) := by decide +kernel
theorem d_B_clear_38 : decode b_B_clear 38 = .ok (.getfield 13, 3) := by decide +kernel
theorem d_B_clear_41 : decode b_B_clear 41 = .ok (.iload_n 2, 1) := by decide +kernel
theorem d_B_clear_42 : decode b_B_clear 42 = .ok (.iaload, 1) := by decide +kernel
theorem d_B_clear_43 : decode b_B_clear 43 = .ok (.invokestatic 64, 3) := by decide +kernel
theorem d_B_clear_46 : decode b_B_clear 46 = .ok (.lstore 7, 2) := by decide +kernel
theorem d_B_clear_48 : decode b_B_clear 48 = .ok (.aload_n 0, 1) := by decide +kernel
theorem d_B_clear_49 : decode b_B_clear 49 = .ok (.getfield 16, 3) := by decide +kernel
theorem d_B_clear_52 : decode b_B_clear 52 = .ok (.iload_n 1, 1) := by decide +kernel
theorem d_B_clear_53 : decode b_B_clear 53 = .ok (.dup2, 1) := by decide +kernel
theorem d_B_clear_54 : decode b_B_clear 54 = .ok (.laload, 1) := by decide +kernel
theorem d_B_clear_55 : decode b_B_clear 55 = .ok (.lload_n 3, 1) := by decide +kernel
theorem d_B_clear_56 : decode b_B_clear 56 = .ok (.lload 5, 2) := by decide +kernel
theorem d_B_clear_58 : decode b_B_clear 58 = .ok (.lsub, 1) := by decide +kernel
theorem d_B_clear_59 : decode b_B_clear 59 = .ok (.ladd, 1) := by decide +kernel
theorem d_B_clear_60 : decode b_B_clear 60 = .ok (.lastore, 1) := by decide +kernel
theorem d_B_clear_61 : decode b_B_clear 61 = .ok (.aload_n 0, 1) := by decide +kernel
theorem d_B_clear_62 : decode b_B_clear 62 = .ok (.getfield 16, 3) := by decide +kernel
theorem d_B_clear_65 : decode b_B_clear 65 = .ok (.iload_n 2, 1) := by decide +kernel
theorem d_B_clear_66 : decode b_B_clear 66 = .ok (.dup2, 1) := by decide +kernel
theorem d_B_clear_67 : decode b_B_clear 67 = .ok (.laload, 1) := by decide +kernel
theorem d_B_clear_68 : decode b_B_clear 68 = .ok (.lload 7, 2) := by decide +kernel
theorem d_B_clear_70 : decode b_B_clear 70 = .ok (.lload_n 3, 1) := by decide +kernel
theorem d_B_clear_71 : decode b_B_clear 71 = .ok (.lsub, 1) := by decide +kernel
theorem d_B_clear_72 : decode b_B_clear 72 = .ok (.ladd, 1) := by decide +kernel
theorem d_B_clear_73 : decode b_B_clear 73 = .ok (.lastore, 1) := by decide +kernel
theorem d_B_clear_74 : decode b_B_clear 74 = .ok (.aload_n 0, 1) := by decide +kernel
theorem d_B_clear_75 : decode b_B_clear 75 = .ok (.getfield 16, 3) := by decide +kernel
theorem d_B_clear_78 : decode b_B_clear 78 = .ok (.iconst 0, 1) := by decide +kernel
theorem d_B_clear_79 : decode b_B_clear 79 = .ok (.dup2, 1) := by decide +kernel
theorem d_B_clear_80 : decode b_B_clear 80 = .ok (.laload, 1) := by decide +kernel
theorem d_B_clear_81 : decode b_B_clear 81 = .ok (.lload 5, 2) := by decide +kernel
theorem d_B_clear_83 : decode b_B_clear 83 = .ok (.lload 7, 2) := by decide +kernel
theorem d_B_clear_85 : decode b_B_clear 85 = .ok (.lsub, 1) := by decide +kernel
theorem d_B_clear_86 : decode b_B_clear 86 = .ok (.ladd, 1) := by decide +kernel
theorem d_B_clear_87 : decode b_B_clear 87 = .ok (.lastore, 1) := by decide +kernel
theorem d_B_clear_88 : decode b_B_clear 88 = .ok (.aload_n 0, 1) := by decide +kernel
theorem d_B_clear_89 : decode b_B_clear 89 = .ok (.getfield 23, 3) := by decide +kernel
theorem d_B_clear_92 : decode b_B_clear 92 = .ok (.iload_n 1, 1) := by decide +kernel
theorem d_B_clear_93 : decode b_B_clear 93 = .ok (.dup2, 1) := by decide +kernel
theorem d_B_clear_94 : decode b_B_clear 94 = .ok (.iaload, 1) := by decide +kernel
theorem d_B_clear_95 : decode b_B_clear 95 = .ok (.iconst 1, 1) := by decide +kernel
theorem d_B_clear_96 : decode b_B_clear 96 = .ok (.iadd, 1) := by decide +kernel
theorem d_B_clear_97 : decode b_B_clear 97 = .ok (.iastore, 1) := by decide +kernel
theorem d_B_clear_98 : decode b_B_clear 98 = .ok (.aload_n 0, 1) := by decide +kernel
theorem d_B_clear_99 : decode b_B_clear 99 = .ok (.getfield 26, 3) := by decide +kernel
theorem d_B_clear_102 : decode b_B_clear 102 = .ok (.iload_n 1, 1) := by decide +kernel
theorem d_B_clear_103 : decode b_B_clear 103 = .ok (.dup2, 1) := by decide +kernel
theorem d_B_clear_104 : decode b_B_clear 104 = .ok (.laload, 1) := by decide +kernel
theorem d_B_clear_105 : decode b_B_clear 105 = .ok (.lload_n 3, 1) := by decide +kernel
theorem d_B_clear_106 : decode b_B_clear 106 = .ok (.ladd, 1) := by decide +kernel
theorem d_B_clear_107 : decode b_B_clear 107 = .ok (.lastore, 1) := by decide +kernel
theorem d_B_clear_108 : decode b_B_clear 108 = .ok (.lload 5, 2) := by decide +kernel
theorem d_B_clear_110 : decode b_B_clear 110 = .ok (.lreturn, 1) := by decide +kernel
theorem d_B_requireKind_0 : decode b_B_requireKind 0 = .ok (.aload_n 0, 1) := by decide +kernel
theorem d_B_requireKind_1 : decode b_B_requireKind 1 = .ok (.iload_n 1, 1) := by decide +kernel
theorem d_B_requireKind_2 : decode b_B_requireKind 2 = .ok (.invokevirtual 83, 3) := by decide +kernel
theorem d_B_requireKind_5 : decode b_B_requireKind 5 = .ok (.ifCond .eq 13, 3) := by decide +kernel
theorem d_B_requireKind_8 : decode b_B_requireKind 8 = .ok (.aload_n 0, 1) := by decide +kernel
theorem d_B_requireKind_9 : decode b_B_requireKind 9 = .ok (.getfield 9, 3) := by decide +kernel
theorem d_B_requireKind_12 : decode b_B_requireKind 12 = .ok (.iload_n 1, 1) := by decide +kernel
theorem d_B_requireKind_13 : decode b_B_requireKind 13 = .ok (.iaload, 1) := by decide +kernel
theorem d_B_requireKind_14 : decode b_B_requireKind 14 = .ok (.iload_n 2, 1) := by decide +kernel
theorem d_B_requireKind_15 : decode b_B_requireKind 15 = .ok (.if_icmp .eq 13, 3) := by decide +kernel
theorem d_B_requireKind_18 : decode b_B_requireKind 18 = .ok (.new 69, 3) := by decide +kernel
theorem d_B_requireKind_21 : decode b_B_requireKind 21 = .ok (.dup, 1) := by decide +kernel
theorem d_B_requireKind_22 : decode b_B_requireKind 22 = .ok (.ldc 106, 2) := by decide +kernel
theorem d_B_requireKind_24 : decode b_B_requireKind 24 = .ok (.invokespecial 73, 3) := by decide +kernel
theorem d_B_requireKind_27 : decode b_B_requireKind 27 = .ok (.athrow, 1) := by decide +kernel
theorem d_B_requireKind_28 : decode b_B_requireKind 28 = .ok (.return_, 1) := by decide +kernel
theorem d_B_isParty_0 : decode b_B_isParty 0 = .ok (.iload_n 1, 1) := by decide +kernel
theorem d_B_isParty_1 : decode b_B_isParty 1 = .ok (.ifCond .lt 15, 3) := by decide +kernel
theorem d_B_isParty_4 : decode b_B_isParty 4 = .ok (.iload_n 1, 1) := by decide +kernel
theorem d_B_isParty_5 : decode b_B_isParty 5 = .ok (.aload_n 0, 1) := by decide +kernel
theorem d_B_isParty_6 : decode b_B_isParty 6 = .ok (.getfield 41, 3) := by decide +kernel
theorem d_B_isParty_9 : decode b_B_isParty 9 = .ok (.if_icmp .ge 7, 3) := by decide +kernel
theorem d_B_isParty_12 : decode b_B_isParty 12 = .ok (.iconst 1, 1) := by decide +kernel
theorem d_B_isParty_13 : decode b_B_isParty 13 = .ok (.goto 4, 3) := by decide +kernel
theorem d_B_isParty_16 : decode b_B_isParty 16 = .ok (.iconst 0, 1) := by decide +kernel
theorem d_B_isParty_17 : decode b_B_isParty 17 = .ok (.ireturn, 1) := by decide +kernel
theorem d_B_requireAmount_0 : decode b_B_requireAmount 0 = .ok (.lload_n 0, 1) := by decide +kernel
theorem d_B_requireAmount_1 : decode b_B_requireAmount 1 = .ok (.lload_n 2, 1) := by decide +kernel
theorem d_B_requireAmount_2 : decode b_B_requireAmount 2 = .ok (.lcmp, 1) := by decide +kernel
theorem d_B_requireAmount_3 : decode b_B_requireAmount 3 = .ok (.ifCond .lt 11, 3) := by decide +kernel
theorem d_B_requireAmount_6 : decode b_B_requireAmount 6 = .ok (.lload_n 0, 1) := by decide +kernel
theorem d_B_requireAmount_7 : decode b_B_requireAmount 7 = .ok (.ldc2_w 108, 3) := by decide +kernel
theorem d_B_requireAmount_10 : decode b_B_requireAmount 10 = .ok (.lcmp, 1) := by decide +kernel
theorem d_B_requireAmount_11 : decode b_B_requireAmount 11 = .ok (.ifCond .le 13, 3) := by decide +kernel
theorem d_B_requireAmount_14 : decode b_B_requireAmount 14 = .ok (.new 69, 3) := by decide +kernel
theorem d_B_requireAmount_17 : decode b_B_requireAmount 17 = .ok (.dup, 1) := by decide +kernel
theorem d_B_requireAmount_18 : decode b_B_requireAmount 18 = .ok (.ldc 110, 2) := by decide +kernel
theorem d_B_requireAmount_20 : decode b_B_requireAmount 20 = .ok (.invokespecial 73, 3) := by decide +kernel
theorem d_B_requireAmount_23 : decode b_B_requireAmount 23 = .ok (.athrow, 1) := by decide +kernel
theorem d_B_requireAmount_24 : decode b_B_requireAmount 24 = .ok (.return_, 1) := by decide +kernel
theorem d_B_partRoundedUp_0 : decode b_B_partRoundedUp 0 = .ok (.lload_n 0, 1) := by decide +kernel
theorem d_B_partRoundedUp_1 : decode b_B_partRoundedUp 1 = .ok (.iload_n 2, 1) := by decide +kernel
theorem d_B_partRoundedUp_2 : decode b_B_partRoundedUp 2 = .ok (.i2l, 1) := by decide +kernel
theorem d_B_partRoundedUp_3 : decode b_B_partRoundedUp 3 = .ok (.lmul, 1) := by decide +kernel
theorem d_B_partRoundedUp_4 : decode b_B_partRoundedUp 4 = .ok (.ldc2_w 112, 3) := by decide +kernel
theorem d_B_partRoundedUp_7 : decode b_B_partRoundedUp 7 = .ok (.ladd, 1) := by decide +kernel
theorem d_B_partRoundedUp_8 : decode b_B_partRoundedUp 8 = .ok (.lconst 1, 1) := by decide +kernel
theorem d_B_partRoundedUp_9 : decode b_B_partRoundedUp 9 = .ok (.lsub, 1) := by decide +kernel
theorem d_B_partRoundedUp_10 : decode b_B_partRoundedUp 10 = .ok (.ldc2_w 112, 3) := by decide +kernel
theorem d_B_partRoundedUp_13 : decode b_B_partRoundedUp 13 = .ok (.ldiv, 1) := by decide +kernel
theorem d_B_partRoundedUp_14 : decode b_B_partRoundedUp 14 = .ok (.lreturn, 1) := by decide +kernel
theorem d_B_partRoundedDown_0 : decode b_B_partRoundedDown 0 = .ok (.lload_n 0, 1) := by decide +kernel
theorem d_B_partRoundedDown_1 : decode b_B_partRoundedDown 1 = .ok (.iload_n 2, 1) := by decide +kernel
theorem d_B_partRoundedDown_2 : decode b_B_partRoundedDown 2 = .ok (.i2l, 1) := by decide +kernel
theorem d_B_partRoundedDown_3 : decode b_B_partRoundedDown 3 = .ok (.lmul, 1) := by decide +kernel
theorem d_B_partRoundedDown_4 : decode b_B_partRoundedDown 4 = .ok (.ldc2_w 112, 3) := by decide +kernel
theorem d_B_partRoundedDown_7 : decode b_B_partRoundedDown 7 = .ok (.ldiv, 1) := by decide +kernel
theorem d_B_partRoundedDown_8 : decode b_B_partRoundedDown 8 = .ok (.lreturn, 1) := by decide +kernel
theorem d_B_back_0 : decode b_B_back 0 = .ok (.aload_n 0, 1) := by decide +kernel
theorem d_B_back_1 : decode b_B_back 1 = .ok (.iload_n 1, 1) := by decide +kernel
theorem d_B_back_2 : decode b_B_back 2 = .ok (.iconst 1, 1) := by decide +kernel
theorem d_B_back_3 : decode b_B_back 3 = .ok (.invokevirtual 52, 3) := by decide +kernel
theorem d_B_back_6 : decode b_B_back 6 = .ok (.aload_n 0, 1) := by decide +kernel
theorem d_B_back_7 : decode b_B_back 7 = .ok (.iload_n 2, 1) := by decide +kernel
theorem d_B_back_8 : decode b_B_back 8 = .ok (.iconst 2, 1) := by decide +kernel
theorem d_B_back_9 : decode b_B_back 9 = .ok (.invokevirtual 52, 3) := by decide +kernel
theorem d_B_back_12 : decode b_B_back 12 = .ok (.lload_n 3, 1) := by decide +kernel
theorem d_B_back_13 : decode b_B_back 13 = .ok (.ldc2_w 67, 3) := by decide +kernel
theorem d_B_back_16 : decode b_B_back 16 = .ok (.invokestatic 56, 3) := by decide +kernel
theorem d_B_back_19 : decode b_B_back 19 = .ok (.aload_n 0, 1) := by decide +kernel
theorem d_B_back_20 : decode b_B_back 20 = .ok (.getfield 16, 3) := by decide +kernel
theorem d_B_back_23 : decode b_B_back 23 = .ok (.iload_n 1, 1) := by decide +kernel
theorem d_B_back_24 : decode b_B_back 24 = .ok (.dup2, 1) := by decide +kernel
theorem d_B_back_25 : decode b_B_back 25 = .ok (.laload, 1) := by decide +kernel
theorem d_B_back_26 : decode b_B_back 26 = .ok (.lload_n 3, 1) := by decide +kernel
theorem d_B_back_27 : decode b_B_back 27 = .ok (.lsub, 1) := by decide +kernel
theorem d_B_back_28 : decode b_B_back 28 = .ok (.lastore, 1) := by decide +kernel
theorem d_B_back_29 : decode b_B_back 29 = .ok (.aload_n 0, 1) := by decide +kernel
theorem d_B_back_30 : decode b_B_back 30 = .ok (.getfield 16, 3) := by decide +kernel
theorem d_B_back_33 : decode b_B_back 33 = .ok (.iload_n 2, 1) := by decide +kernel
theorem d_B_back_34 : decode b_B_back 34 = .ok (.dup2, 1) := by decide +kernel
theorem d_B_back_35 : decode b_B_back 35 = .ok (.laload, 1) := by decide +kernel
theorem d_B_back_36 : decode b_B_back 36 = .ok (.lload_n 3, 1) := by decide +kernel
theorem d_B_back_37 : decode b_B_back 37 = .ok (.ladd, 1) := by decide +kernel
theorem d_B_back_38 : decode b_B_back 38 = .ok (.lastore, 1) := by decide +kernel
theorem d_B_back_39 : decode b_B_back 39 = .ok (.aload_n 0, 1) := by decide +kernel
theorem d_B_back_40 : decode b_B_back 40 = .ok (.getfield 16, 3) := by decide +kernel
theorem d_B_back_43 : decode b_B_back 43 = .ok (.iload_n 1, 1) := by decide +kernel
theorem d_B_back_44 : decode b_B_back 44 = .ok (.laload, 1) := by decide +kernel
theorem d_B_back_45 : decode b_B_back 45 = .ok (.lreturn, 1) := by decide +kernel
theorem d_B_reconcile_0 : decode b_B_reconcile 0 = .ok (.aload_n 0, 1) := by decide +kernel
theorem d_B_reconcile_1 : decode b_B_reconcile 1 = .ok (.iload_n 1, 1) := by decide +kernel
theorem d_B_reconcile_2 : decode b_B_reconcile 2 = .ok (.iconst 1, 1) := by decide +kernel
theorem d_B_reconcile_3 : decode b_B_reconcile 3 = .ok (.invokevirtual 52, 3) := by decide +kernel
theorem d_B_reconcile_6 : decode b_B_reconcile 6 = .ok (.aload_n 0, 1) := by decide +kernel
theorem d_B_reconcile_7 : decode b_B_reconcile 7 = .ok (.getfield 23, 3) := by decide +kernel
theorem d_B_reconcile_10 : decode b_B_reconcile 10 = .ok (.iload_n 1, 1) := by decide +kernel
theorem d_B_reconcile_11 : decode b_B_reconcile 11 = .ok (.iaload, 1) := by decide +kernel
theorem d_B_reconcile_12 : decode b_B_reconcile 12 = .ok (.iload_n 2, 1) := by decide +kernel
theorem d_B_reconcile_13 : decode b_B_reconcile 13 = .ok (.if_icmp .ne 14, 3) := by decide +kernel
theorem d_B_reconcile_16 : decode b_B_reconcile 16 = .ok (.aload_n 0, 1) := by decide +kernel
theorem d_B_reconcile_17 : decode b_B_reconcile 17 = .ok (.getfield 26, 3) := by decide +kernel
theorem d_B_reconcile_20 : decode b_B_reconcile 20 = .ok (.iload_n 1, 1) := by decide +kernel
theorem d_B_reconcile_21 : decode b_B_reconcile 21 = .ok (.laload, 1) := by decide +kernel
theorem d_B_reconcile_22 : decode b_B_reconcile 22 = .ok (.lload_n 3, 1) := by decide +kernel
theorem d_B_reconcile_23 : decode b_B_reconcile 23 = .ok (.lcmp, 1) := by decide +kernel
theorem d_B_reconcile_24 : decode b_B_reconcile 24 = .ok (.ifCond .eq 5, 3) := by decide +kernel
theorem d_B_reconcile_27 : decode b_B_reconcile 27 = .ok (.iconst 0, 1) := by decide +kernel
theorem d_B_reconcile_28 : decode b_B_reconcile 28 = .ok (.ireturn, 1) := by decide +kernel
theorem d_B_reconcile_29 : decode b_B_reconcile 29 = .ok (.aload_n 0, 1) := by decide +kernel
theorem d_B_reconcile_30 : decode b_B_reconcile 30 = .ok (.getfield 23, 3) := by decide +kernel
theorem d_B_reconcile_33 : decode b_B_reconcile 33 = .ok (.iload_n 1, 1) := by decide +kernel
theorem d_B_reconcile_34 : decode b_B_reconcile 34 = .ok (.iconst 0, 1) := by decide +kernel
theorem d_B_reconcile_35 : decode b_B_reconcile 35 = .ok (.iastore, 1) := by decide +kernel
theorem d_B_reconcile_36 : decode b_B_reconcile 36 = .ok (.aload_n 0, 1) := by decide +kernel
theorem d_B_reconcile_37 : decode b_B_reconcile 37 = .ok (.getfield 26, 3) := by decide +kernel
theorem d_B_reconcile_40 : decode b_B_reconcile 40 = .ok (.iload_n 1, 1) := by decide +kernel
theorem d_B_reconcile_41 : decode b_B_reconcile 41 = .ok (.lconst 0, 1) := by decide +kernel
theorem d_B_reconcile_42 : decode b_B_reconcile 42 = .ok (.lastore, 1) := by decide +kernel
theorem d_B_reconcile_43 : decode b_B_reconcile 43 = .ok (.iconst 1, 1) := by decide +kernel
theorem d_B_reconcile_44 : decode b_B_reconcile 44 = .ok (.ireturn, 1) := by decide +kernel
theorem d_B_batch_0 : decode b_B_batch 0 = .ok (.aload_n 0, 1) := by decide +kernel
theorem d_B_batch_1 : decode b_B_batch 1 = .ok (.iload_n 1, 1) := by decide +kernel
theorem d_B_batch_2 : decode b_B_batch 2 = .ok (.iconst 1, 1) := by decide +kernel
theorem d_B_batch_3 : decode b_B_batch 3 = .ok (.invokevirtual 52, 3) := by decide +kernel
theorem d_B_batch_6 : decode b_B_batch 6 = .ok (.iload_n 2, 1) := by decide +kernel
theorem d_B_batch_7 : decode b_B_batch 7 = .ok (.lookupswitch 40 #[(0, 25), (1, 33)], 25) := by decide +kernel
theorem d_B_batch_32 : decode b_B_batch 32 = .ok (.aload_n 0, 1) := by decide +kernel
theorem d_B_batch_33 : decode b_B_batch 33 = .ok (.getfield 23, 3) := by decide +kernel
theorem d_B_batch_36 : decode b_B_batch 36 = .ok (.iload_n 1, 1) := by decide +kernel
theorem d_B_batch_37 : decode b_B_batch 37 = .ok (.iaload, 1) := by decide +kernel
theorem d_B_batch_38 : decode b_B_batch 38 = .ok (.i2l, 1) := by decide +kernel
theorem d_B_batch_39 : decode b_B_batch 39 = .ok (.lreturn, 1) := by decide +kernel
theorem d_B_batch_40 : decode b_B_batch 40 = .ok (.aload_n 0, 1) := by decide +kernel
theorem d_B_batch_41 : decode b_B_batch 41 = .ok (.getfield 26, 3) := by decide +kernel
theorem d_B_batch_44 : decode b_B_batch 44 = .ok (.iload_n 1, 1) := by decide +kernel
theorem d_B_batch_45 : decode b_B_batch 45 = .ok (.laload, 1) := by decide +kernel
theorem d_B_batch_46 : decode b_B_batch 46 = .ok (.lreturn, 1) := by decide +kernel
theorem d_B_batch_47 : decode b_B_batch 47 = .ok (.new 69, 3) := by decide +kernel
theorem d_B_batch_50 : decode b_B_batch 50 = .ok (.dup, 1) := by decide +kernel
theorem d_B_batch_51 : decode b_B_batch 51 = .ok (.ldc 71, 2) := by decide +kernel
theorem d_B_batch_53 : decode b_B_batch 53 = .ok (.invokespecial 73, 3) := by decide +kernel
theorem d_B_batch_56 : decode b_B_batch 56 = .ok (.athrow, 1) := by decide +kernel
theorem d_B_transfer_0 : decode b_B_transfer 0 = .ok (.iload_n 1, 1) := by decide +kernel
theorem d_B_transfer_1 : decode b_B_transfer 1 = .ok (.ifCond .lt 11, 3) := by decide +kernel
theorem d_B_transfer_4 : decode b_B_transfer 4 = .ok (.iload_n 1, 1) := by decide +kernel
theorem d_B_transfer_5 : decode b_B_transfer 5 = .ok (.aload_n 0, 1) := by decide +kernel
theorem d_B_transfer_6 : decode b_B_transfer 6 = .ok (.getfield 45, 3) := by decide +kernel
theorem d_B_transfer_9 : decode b_B_transfer 9 = .ok (.if_icmp .lt 13, 3) := by decide +kernel
theorem d_B_transfer_12 : decode b_B_transfer 12 = .ok (.new 69, 3) := by decide +kernel
theorem d_B_transfer_15 : decode b_B_transfer 15 = .ok (.dup, 1) := by decide +kernel
theorem d_B_transfer_16 : decode b_B_transfer 16 = .ok (.ldc 79, 2) := by decide +kernel
theorem d_B_transfer_18 : decode b_B_transfer 18 = .ok (.invokespecial 73, 3) := by decide +kernel
theorem d_B_transfer_21 : decode b_B_transfer 21 = .ok (.athrow, 1) := by decide +kernel
theorem d_B_transfer_22 : decode b_B_transfer 22 = .ok (.iload_n 2, 1) := by decide +kernel
theorem d_B_transfer_23 : decode b_B_transfer 23 = .ok (.tableswitch 48 0 2 #[25, 33, 41], 25) := by decide +kernel
theorem d_B_transfer_48 : decode b_B_transfer 48 = .ok (.aload_n 0, 1) := by decide +kernel
theorem d_B_transfer_49 : decode b_B_transfer 49 = .ok (.getfield 32, 3) := by decide +kernel
theorem d_B_transfer_52 : decode b_B_transfer 52 = .ok (.iload_n 1, 1) := by decide +kernel
theorem d_B_transfer_53 : decode b_B_transfer 53 = .ok (.iaload, 1) := by decide +kernel
theorem d_B_transfer_54 : decode b_B_transfer 54 = .ok (.i2l, 1) := by decide +kernel
theorem d_B_transfer_55 : decode b_B_transfer 55 = .ok (.lreturn, 1) := by decide +kernel
theorem d_B_transfer_56 : decode b_B_transfer 56 = .ok (.aload_n 0, 1) := by decide +kernel
theorem d_B_transfer_57 : decode b_B_transfer 57 = .ok (.getfield 35, 3) := by decide +kernel
theorem d_B_transfer_60 : decode b_B_transfer 60 = .ok (.iload_n 1, 1) := by decide +kernel
theorem d_B_transfer_61 : decode b_B_transfer 61 = .ok (.iaload, 1) := by decide +kernel
theorem d_B_transfer_62 : decode b_B_transfer 62 = .ok (.i2l, 1) := by decide +kernel
theorem d_B_transfer_63 : decode b_B_transfer 63 = .ok (.lreturn, 1) := by decide +kernel
theorem d_B_transfer_64 : decode b_B_transfer 64 = .ok (.aload_n 0, 1) := by decide +kernel
theorem d_B_transfer_65 : decode b_B_transfer 65 = .ok (.getfield 38, 3) := by decide +kernel
theorem d_B_transfer_68 : decode b_B_transfer 68 = .ok (.iload_n 1, 1) := by decide +kernel
theorem d_B_transfer_69 : decode b_B_transfer 69 = .ok (.laload, 1) := by decide +kernel
theorem d_B_transfer_70 : decode b_B_transfer 70 = .ok (.lreturn, 1) := by decide +kernel
theorem d_B_transfer_71 : decode b_B_transfer 71 = .ok (.new 69, 3) := by decide +kernel
theorem d_B_transfer_74 : decode b_B_transfer 74 = .ok (.dup, 1) := by decide +kernel
theorem d_B_transfer_75 : decode b_B_transfer 75 = .ok (.ldc 81, 2) := by decide +kernel
theorem d_B_transfer_77 : decode b_B_transfer 77 = .ok (.invokespecial 73, 3) := by decide +kernel
theorem d_B_transfer_80 : decode b_B_transfer 80 = .ok (.athrow, 1) := by decide +kernel
theorem d_B_party_0 : decode b_B_party 0 = .ok (.aload_n 0, 1) := by decide +kernel
theorem d_B_party_1 : decode b_B_party 1 = .ok (.iload_n 1, 1) := by decide +kernel
theorem d_B_party_2 : decode b_B_party 2 = .ok (.invokevirtual 83, 3) := by decide +kernel
theorem d_B_party_5 : decode b_B_party 5 = .ok (.ifCond .ne 13, 3) := by decide +kernel
theorem d_B_party_8 : decode b_B_party 8 = .ok (.new 69, 3) := by decide +kernel
theorem d_B_party_11 : decode b_B_party 11 = .ok (.dup, 1) := by decide +kernel
theorem d_B_party_12 : decode b_B_party 12 = .ok (.ldc 87, 2) := by decide +kernel
theorem d_B_party_14 : decode b_B_party 14 = .ok (.invokespecial 73, 3) := by decide +kernel
theorem d_B_party_17 : decode b_B_party 17 = .ok (.athrow, 1) := by decide +kernel
theorem d_B_party_18 : decode b_B_party 18 = .ok (.iload_n 2, 1) := by decide +kernel
theorem d_B_party_19 : decode b_B_party 19 = .ok (.tableswitch 70 0 4 #[33, 40, 47, 55, 63], 33) := by decide +kernel
theorem d_B_party_52 : decode b_B_party 52 = .ok (.aload_n 0, 1) := by decide +kernel
theorem d_B_party_53 : decode b_B_party 53 = .ok (.getfield 16, 3) := by decide +kernel
theorem d_B_party_56 : decode b_B_party 56 = .ok (.iload_n 1, 1) := by decide +kernel
theorem d_B_party_57 : decode b_B_party 57 = .ok (.laload, 1) := by decide +kernel
theorem d_B_party_58 : decode b_B_party 58 = .ok (.lreturn, 1) := by decide +kernel
theorem d_B_party_59 : decode b_B_party 59 = .ok (.aload_n 0, 1) := by decide +kernel
theorem d_B_party_60 : decode b_B_party 60 = .ok (.getfield 20, 3) := by decide +kernel
theorem d_B_party_63 : decode b_B_party 63 = .ok (.iload_n 1, 1) := by decide +kernel
theorem d_B_party_64 : decode b_B_party 64 = .ok (.laload, 1) := by decide +kernel
theorem d_B_party_65 : decode b_B_party 65 = .ok (.lreturn, 1) := by decide +kernel
theorem d_B_party_66 : decode b_B_party 66 = .ok (.aload_n 0, 1) := by decide +kernel
theorem d_B_party_67 : decode b_B_party 67 = .ok (.getfield 9, 3) := by decide +kernel
theorem d_B_party_70 : decode b_B_party 70 = .ok (.iload_n 1, 1) := by decide +kernel
theorem d_B_party_71 : decode b_B_party 71 = .ok (.iaload, 1) := by decide +kernel
theorem d_B_party_72 : decode b_B_party 72 = .ok (.i2l, 1) := by decide +kernel
theorem d_B_party_73 : decode b_B_party 73 = .ok (.lreturn, 1) := by decide +kernel
theorem d_B_party_74 : decode b_B_party 74 = .ok (.aload_n 0, 1) := by decide +kernel
theorem d_B_party_75 : decode b_B_party 75 = .ok (.getfield 13, 3) := by decide +kernel
theorem d_B_party_78 : decode b_B_party 78 = .ok (.iload_n 1, 1) := by decide +kernel
theorem d_B_party_79 : decode b_B_party 79 = .ok (.iaload, 1) := by decide +kernel
theorem d_B_party_80 : decode b_B_party 80 = .ok (.i2l, 1) := by decide +kernel
theorem d_B_party_81 : decode b_B_party 81 = .ok (.lreturn, 1) := by decide +kernel
theorem d_B_party_82 : decode b_B_party 82 = .ok (.aload_n 0, 1) := by decide +kernel
theorem d_B_party_83 : decode b_B_party 83 = .ok (.iload_n 1, 1) := by decide +kernel
theorem d_B_party_84 : decode b_B_party 84 = .ok (.invokevirtual 89, 3) := by decide +kernel
theorem d_B_party_87 : decode b_B_party 87 = .ok (.i2l, 1) := by decide +kernel
theorem d_B_party_88 : decode b_B_party 88 = .ok (.lreturn, 1) := by decide +kernel
theorem d_B_party_89 : decode b_B_party 89 = .ok (.new 69, 3) := by decide +kernel
theorem d_B_party_92 : decode b_B_party 92 = .ok (.dup, 1) := by decide +kernel
theorem d_B_party_93 : decode b_B_party 93 = .ok (.ldc 93, 2) := by decide +kernel
theorem d_B_party_95 : decode b_B_party 95 = .ok (.invokespecial 73, 3) := by decide +kernel
theorem d_B_party_98 : decode b_B_party 98 = .ok (.athrow, 1) := by decide +kernel
theorem d_B_placeOf_0 : decode b_B_placeOf 0 = .ok (.iconst 0, 1) := by decide +kernel
theorem d_B_placeOf_1 : decode b_B_placeOf 1 = .ok (.istore_n 2, 1) := by decide +kernel
theorem d_B_placeOf_2 : decode b_B_placeOf 2 = .ok (.iconst 0, 1) := by decide +kernel
theorem d_B_placeOf_3 : decode b_B_placeOf 3 = .ok (.istore_n 3, 1) := by decide +kernel
theorem d_B_placeOf_4 : decode b_B_placeOf 4 = .ok (.iload_n 3, 1) := by decide +kernel
theorem d_B_placeOf_5 : decode b_B_placeOf 5 = .ok (.aload_n 0, 1) := by decide +kernel
theorem d_B_placeOf_6 : decode b_B_placeOf 6 = .ok (.getfield 41, 3) := by decide +kernel
theorem d_B_placeOf_9 : decode b_B_placeOf 9 = .ok (.if_icmp .ge 61, 3) := by decide +kernel
theorem d_B_placeOf_12 : decode b_B_placeOf 12 = .ok (.aload_n 0, 1) := by decide +kernel
theorem d_B_placeOf_13 : decode b_B_placeOf 13 = .ok (.getfield 16, 3) := by decide +kernel
theorem d_B_placeOf_16 : decode b_B_placeOf 16 = .ok (.iload_n 3, 1) := by decide +kernel
theorem d_B_placeOf_17 : decode b_B_placeOf 17 = .ok (.laload, 1) := by decide +kernel
theorem d_B_placeOf_18 : decode b_B_placeOf 18 = .ok (.aload_n 0, 1) := by decide +kernel
theorem d_B_placeOf_19 : decode b_B_placeOf 19 = .ok (.getfield 16, 3) := by decide +kernel
theorem d_B_placeOf_22 : decode b_B_placeOf 22 = .ok (.iload_n 1, 1) := by decide +kernel
theorem d_B_placeOf_23 : decode b_B_placeOf 23 = .ok (.laload, 1) := by decide +kernel
theorem d_B_placeOf_24 : decode b_B_placeOf 24 = .ok (.lcmp, 1) := by decide +kernel
theorem d_B_placeOf_25 : decode b_B_placeOf 25 = .ok (.ifCond .ne 12, 3) := by decide +kernel
theorem d_B_placeOf_28 : decode b_B_placeOf 28 = .ok (.iload_n 3, 1) := by decide +kernel
theorem d_B_placeOf_29 : decode b_B_placeOf 29 = .ok (.iload_n 1, 1) := by decide +kernel
theorem d_B_placeOf_30 : decode b_B_placeOf 30 = .ok (.if_icmp .ge 7, 3) := by decide +kernel
theorem d_B_placeOf_33 : decode b_B_placeOf 33 = .ok (.iconst 1, 1) := by decide +kernel
theorem d_B_placeOf_34 : decode b_B_placeOf 34 = .ok (.goto 4, 3) := by decide +kernel
theorem d_B_placeOf_37 : decode b_B_placeOf 37 = .ok (.iconst 0, 1) := by decide +kernel
theorem d_B_placeOf_38 : decode b_B_placeOf 38 = .ok (.istore 4, 2) := by decide +kernel
theorem d_B_placeOf_40 : decode b_B_placeOf 40 = .ok (.aload_n 0, 1) := by decide +kernel
theorem d_B_placeOf_41 : decode b_B_placeOf 41 = .ok (.getfield 16, 3) := by decide +kernel
theorem d_B_placeOf_44 : decode b_B_placeOf 44 = .ok (.iload_n 3, 1) := by decide +kernel
theorem d_B_placeOf_45 : decode b_B_placeOf 45 = .ok (.laload, 1) := by decide +kernel
theorem d_B_placeOf_46 : decode b_B_placeOf 46 = .ok (.aload_n 0, 1) := by decide +kernel
theorem d_B_placeOf_47 : decode b_B_placeOf 47 = .ok (.getfield 16, 3) := by decide +kernel
theorem d_B_placeOf_50 : decode b_B_placeOf 50 = .ok (.iload_n 1, 1) := by decide +kernel
theorem d_B_placeOf_51 : decode b_B_placeOf 51 = .ok (.laload, 1) := by decide +kernel
theorem d_B_placeOf_52 : decode b_B_placeOf 52 = .ok (.lcmp, 1) := by decide +kernel
theorem d_B_placeOf_53 : decode b_B_placeOf 53 = .ok (.ifCond .gt 8, 3) := by decide +kernel
theorem d_B_placeOf_56 : decode b_B_placeOf 56 = .ok (.iload 4, 2) := by decide +kernel
theorem d_B_placeOf_58 : decode b_B_placeOf 58 = .ok (.ifCond .eq 6, 3) := by decide +kernel
theorem d_B_placeOf_61 : decode b_B_placeOf 61 = .ok (.iinc 2 1, 3) := by decide +kernel
theorem d_B_placeOf_64 : decode b_B_placeOf 64 = .ok (.iinc 3 1, 3) := by decide +kernel
theorem d_B_placeOf_67 : decode b_B_placeOf 67 = .ok (.goto (-63), 3) := by decide +kernel
theorem d_B_placeOf_70 : decode b_B_placeOf 70 = .ok (.iload_n 2, 1) := by decide +kernel
theorem d_B_placeOf_71 : decode b_B_placeOf 71 = .ok (.ireturn, 1) := by decide +kernel
