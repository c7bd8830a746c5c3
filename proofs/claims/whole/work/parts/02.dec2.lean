theorem d_M_init_0 : decode b_M_init 0 = .ok (.aload_n 0, 1) := by decide +kernel
theorem d_M_init_1 : decode b_M_init 1 = .ok (.invokespecial 1, 3) := by decide +kernel
theorem d_M_init_4 : decode b_M_init 4 = .ok (.aload_n 0, 1) := by decide +kernel
theorem d_M_init_5 : decode b_M_init 5 = .ok (.iconst 1, 1) := by decide +kernel
theorem d_M_init_6 : decode b_M_init 6 = .ok (.putfield 7, 3) := by decide +kernel
theorem d_M_init_9 : decode b_M_init 9 = .ok (.aload_n 0, 1) := by decide +kernel
theorem d_M_init_10 : decode b_M_init 10 = .ok (.bipush 15, 2) := by decide +kernel
theorem d_M_init_12 : decode b_M_init 12 = .ok (.newarray .int, 2) := by decide +kernel
theorem d_M_init_14 : decode b_M_init 14 = .ok (.putfield 13, 3) := by decide +kernel
theorem d_M_init_17 : decode b_M_init 17 = .ok (.aload_n 0, 1) := by decide +kernel
theorem d_M_init_18 : decode b_M_init 18 = .ok (.bipush 15, 2) := by decide +kernel
theorem d_M_init_20 : decode b_M_init 20 = .ok (.newarray .int, 2) := by decide +kernel
theorem d_M_init_22 : decode b_M_init 22 = .ok (.putfield 17, 3) := by decide +kernel
theorem d_M_init_25 : decode b_M_init 25 = .ok (.aload_n 0, 1) := by decide +kernel
theorem d_M_init_26 : decode b_M_init 26 = .ok (.bipush 15, 2) := by decide +kernel
theorem d_M_init_28 : decode b_M_init 28 = .ok (.newarray .long, 2) := by decide +kernel
theorem d_M_init_30 : decode b_M_init 30 = .ok (.putfield 20, 3) := by decide +kernel
theorem d_M_init_33 : decode b_M_init 33 = .ok (.aload_n 0, 1) := by decide +kernel
theorem d_M_init_34 : decode b_M_init 34 = .ok (.bipush 15, 2) := by decide +kernel
theorem d_M_init_36 : decode b_M_init 36 = .ok (.newarray .long, 2) := by decide +kernel
theorem d_M_init_38 : decode b_M_init 38 = .ok (.putfield 24, 3) := by decide +kernel
theorem d_M_init_41 : decode b_M_init 41 = .ok (.aload_n 0, 1) := by decide +kernel
theorem d_M_init_42 : decode b_M_init 42 = .ok (.bipush 15, 2) := by decide +kernel
theorem d_M_init_44 : decode b_M_init 44 = .ok (.newarray .int, 2) := by decide +kernel
theorem d_M_init_46 : decode b_M_init 46 = .ok (.putfield 27, 3) := by decide +kernel
theorem d_M_init_49 : decode b_M_init 49 = .ok (.aload_n 0, 1) := by decide +kernel
theorem d_M_init_50 : decode b_M_init 50 = .ok (.bipush 15, 2) := by decide +kernel
theorem d_M_init_52 : decode b_M_init 52 = .ok (.newarray .long, 2) := by decide +kernel
theorem d_M_init_54 : decode b_M_init 54 = .ok (.putfield 30, 3) := by decide +kernel
theorem d_M_init_57 : decode b_M_init 57 = .ok (.aload_n 0, 1) := by decide +kernel
theorem d_M_init_58 : decode b_M_init 58 = .ok (.bipush 15, 2) := by decide +kernel
theorem d_M_init_60 : decode b_M_init 60 = .ok (.newarray .long, 2) := by decide +kernel
theorem d_M_init_62 : decode b_M_init 62 = .ok (.putfield 33, 3) := by decide +kernel
theorem d_M_init_65 : decode b_M_init 65 = .ok (.aload_n 0, 1) := by decide +kernel
theorem d_M_init_66 : decode b_M_init 66 = .ok (.bipush 15, 2) := by decide +kernel
theorem d_M_init_68 : decode b_M_init 68 = .ok (.newarray .int, 2) := by decide +kernel
theorem d_M_init_70 : decode b_M_init 70 = .ok (.putfield 36, 3) := by decide +kernel
theorem d_M_init_73 : decode b_M_init 73 = .ok (.aload_n 0, 1) := by decide +kernel
theorem d_M_init_74 : decode b_M_init 74 = .ok (.bipush 15, 2) := by decide +kernel
theorem d_M_init_76 : decode b_M_init 76 = .ok (.newarray .int, 2) := by decide +kernel
theorem d_M_init_78 : decode b_M_init 78 = .ok (.putfield 39, 3) := by decide +kernel
theorem d_M_init_81 : decode b_M_init 81 = .ok (.aload_n 0, 1) := by decide +kernel
theorem d_M_init_82 : decode b_M_init 82 = .ok (.bipush 15, 2) := by decide +kernel
theorem d_M_init_84 : decode b_M_init 84 = .ok (.newarray .long, 2) := by decide +kernel
theorem d_M_init_86 : decode b_M_init 86 = .ok (.putfield 42, 3) := by decide +kernel
theorem d_M_init_89 : decode b_M_init 89 = .ok (.return_, 1) := by decide +kernel
theorem d_M_thrown_0 : decode b_M_thrown 0 = .ok (.aload_n 0, 1) := by decide +kernel
theorem d_M_thrown_1 : decode b_M_thrown 1 = .ok (.getfield 45, 3) := by decide +kernel
theorem d_M_thrown_4 : decode b_M_thrown 4 = .ok (.ireturn, 1) := by decide +kernel
theorem d_M_acquirer_0 : decode b_M_acquirer 0 = .ok (.aload_n 0, 1) := by decide +kernel
theorem d_M_acquirer_1 : decode b_M_acquirer 1 = .ok (.iconst 1, 1) := by decide +kernel
theorem d_M_acquirer_2 : decode b_M_acquirer 2 = .ok (.iload_n 1, 1) := by decide +kernel
theorem d_M_acquirer_3 : decode b_M_acquirer 3 = .ok (.invokevirtual 48, 3) := by decide +kernel
theorem d_M_acquirer_6 : decode b_M_acquirer 6 = .ok (.ireturn, 1) := by decide +kernel
theorem d_M_come_0 : decode b_M_come 0 = .ok (.aload_n 0, 1) := by decide +kernel
theorem d_M_come_1 : decode b_M_come 1 = .ok (.iload_n 2, 1) := by decide +kernel
theorem d_M_come_2 : decode b_M_come 2 = .ok (.ifCond .lt 10, 3) := by decide +kernel
theorem d_M_come_5 : decode b_M_come 5 = .ok (.iload_n 2, 1) := by decide +kernel
theorem d_M_come_6 : decode b_M_come 6 = .ok (.sipush 1000, 3) := by decide +kernel
theorem d_M_come_9 : decode b_M_come 9 = .ok (.if_icmp .le 7, 3) := by decide +kernel
theorem d_M_come_12 : decode b_M_come 12 = .ok (.iconst 1, 1) := by decide +kernel
theorem d_M_come_13 : decode b_M_come 13 = .ok (.goto 17, 3) := by decide +kernel
theorem d_M_come_16 : decode b_M_come 16 = .ok (.aload_n 0, 1) := by decide +kernel
theorem d_M_come_17 : decode b_M_come 17 = .ok (.getfield 7, 3) := by decide +kernel
theorem d_M_come_20 : decode b_M_come 20 = .ok (.bipush 15, 2) := by decide +kernel
theorem d_M_come_22 : decode b_M_come 22 = .ok (.if_icmp .ne 7, 3) := by decide +kernel
theorem d_M_come_25 : decode b_M_come 25 = .ok (.iconst 2, 1) := by decide +kernel
theorem d_M_come_26 : decode b_M_come 26 = .ok (.goto 4, 3) := by decide +kernel
theorem d_M_come_29 : decode b_M_come 29 = .ok (.iconst 0, 1) := by decide +kernel
theorem d_M_come_30 : decode b_M_come 30 = .ok (.putfield 45, 3) := by decide +kernel
theorem d_M_come_33 : decode b_M_come 33 = .ok (.aload_n 0, 1) := by decide +kernel
theorem d_M_come_34 : decode b_M_come 34 = .ok (.getfield 45, 3) := by decide +kernel
theorem d_M_come_37 : decode b_M_come 37 = .ok (.ifCond .le 5, 3) := by decide +kernel
theorem d_M_come_40 : decode b_M_come 40 = .ok (.iconst 0, 1) := by decide +kernel
theorem d_M_come_41 : decode b_M_come 41 = .ok (.ireturn, 1) := by decide +kernel
theorem d_M_come_42 : decode b_M_come 42 = .ok (.aload_n 0, 1) := by decide +kernel
theorem d_M_come_43 : decode b_M_come 43 = .ok (.getfield 13, 3) := by decide +kernel
theorem d_M_come_46 : decode b_M_come 46 = .ok (.aload_n 0, 1) := by decide +kernel
theorem d_M_come_47 : decode b_M_come 47 = .ok (.getfield 7, 3) := by decide +kernel
theorem d_M_come_50 : decode b_M_come 50 = .ok (.iload_n 1, 1) := by decide +kernel
theorem d_M_come_51 : decode b_M_come 51 = .ok (.iastore, 1) := by decide +kernel
theorem d_M_come_52 : decode b_M_come 52 = .ok (.aload_n 0, 1) := by decide +kernel
theorem d_M_come_53 : decode b_M_come 53 = .ok (.getfield 17, 3) := by decide +kernel
theorem d_M_come_56 : decode b_M_come 56 = .ok (.aload_n 0, 1) := by decide +kernel
theorem d_M_come_57 : decode b_M_come 57 = .ok (.getfield 7, 3) := by decide +kernel
theorem d_M_come_60 : decode b_M_come 60 = .ok (.iload_n 2, 1) := by decide +kernel
theorem d_M_come_61 : decode b_M_come 61 = .ok (.iastore, 1) := by decide +kernel
theorem d_M_come_62 : decode b_M_come 62 = .ok (.aload_n 0, 1) := by decide +kernel
theorem d_M_come_63 : decode b_M_come 63 = .ok (.dup, 1) := by decide +kernel
theorem d_M_come_64 : decode b_M_come 64 = .ok (.getfield 7, 3) := by decide +kernel
theorem d_M_come_67 : decode b_M_come 67 = .ok (.iconst 1, 1) := by decide +kernel
theorem d_M_come_68 : decode b_M_come 68 = .ok (.iadd, 1) := by decide +kernel
theorem d_M_come_69 : decode b_M_come 69 = .ok (.putfield 7, 3) := by decide +kernel
theorem d_M_come_72 : decode b_M_come 72 = .ok (.aload_n 0, 1) := by decide +kernel
theorem d_M_come_73 : decode b_M_come 73 = .ok (.getfield 7, 3) := by decide +kernel
theorem d_M_come_76 : decode b_M_come 76 = .ok (.iconst 1, 1) := by decide +kernel
theorem d_M_come_77 : decode b_M_come 77 = .ok (.isub, 1) := by decide +kernel
theorem d_M_come_78 : decode b_M_come 78 = .ok (.ireturn, 1) := by decide +kernel
theorem d_M_issuer_0 : decode b_M_issuer 0 = .ok (.aload_n 0, 1) := by decide +kernel
theorem d_M_issuer_1 : decode b_M_issuer 1 = .ok (.iconst 2, 1) := by decide +kernel
theorem d_M_issuer_2 : decode b_M_issuer 2 = .ok (.iload_n 1, 1) := by decide +kernel
theorem d_M_issuer_3 : decode b_M_issuer 3 = .ok (.invokevirtual 48, 3) := by decide +kernel
theorem d_M_issuer_6 : decode b_M_issuer 6 = .ok (.ireturn, 1) := by decide +kernel
theorem d_M_clear_0 : decode b_M_clear 0 = .ok (.aload_n 0, 1) := by decide +kernel
theorem d_M_clear_1 : decode b_M_clear 1 = .ok (.aload_n 0, 1) := by decide +kernel
theorem d_M_clear_2 : decode b_M_clear 2 = .ok (.iload_n 1, 1) := by decide +kernel
theorem d_M_clear_3 : decode b_M_clear 3 = .ok (.iconst 1, 1) := by decide +kernel
theorem d_M_clear_4 : decode b_M_clear 4 = .ok (.invokevirtual 52, 3) := by decide +kernel
theorem d_M_clear_7 : decode b_M_clear 7 = .ok (.ifCond .eq 30, 3) := by decide +kernel
theorem d_M_clear_10 : decode b_M_clear 10 = .ok (.aload_n 0, 1) := by decide +kernel
theorem d_M_clear_11 : decode b_M_clear 11 = .ok (.iload_n 2, 1) := by decide +kernel
theorem d_M_clear_12 : decode b_M_clear 12 = .ok (.iconst 2, 1) := by decide +kernel
theorem d_M_clear_13 : decode b_M_clear 13 = .ok (.invokevirtual 52, 3) := by decide +kernel
theorem d_M_clear_16 : decode b_M_clear 16 = .ok (.ifCond .eq 21, 3) := by decide +kernel
theorem d_M_clear_19 : decode b_M_clear 19 = .ok (.lload_n 3, 1) := by decide +kernel
theorem d_M_clear_20 : decode b_M_clear 20 = .ok (.lconst 1, 1) := by decide +kernel
theorem d_M_clear_21 : decode b_M_clear 21 = .ok (.lcmp, 1) := by decide +kernel
theorem d_M_clear_22 : decode b_M_clear 22 = .ok (.ifCond .lt 15, 3) := by decide +kernel
theorem d_M_clear_25 : decode b_M_clear 25 = .ok (.lload_n 3, 1) := by decide +kernel
theorem d_M_clear_26 : decode b_M_clear 26 = .ok (.ldc2_w 56, 3) := by decide +kernel
theorem d_M_clear_29 : decode b_M_clear 29 = .ok (.lcmp, 1) := by decide +kernel
theorem d_M_clear_30 : decode b_M_clear 30 = .ok (.ifCond .gt 7, 3) := by decide +kernel
theorem d_M_clear_33 : decode b_M_clear 33 = .ok (.iconst 1, 1) := by decide +kernel
theorem d_M_clear_34 : decode b_M_clear 34 = .ok (.goto 4, 3) := by decide +kernel
theorem d_M_clear_37 : decode b_M_clear 37 = .ok (.iconst 0, 1) := by decide +kernel
theorem d_M_clear_38 : decode b_M_clear 38 = .ok (.invokevirtual 58, 3) := by decide +kernel
theorem d_M_clear_41 : decode b_M_clear 41 = .ok (.ifCond .ne 5, 3) := by decide +kernel
theorem d_M_clear_44 : decode b_M_clear 44 = .ok (.lconst 0, 1) := by decide +kernel
theorem d_M_clear_45 : decode b_M_clear 45 = .ok (.lreturn, 1) := by decide +kernel
theorem d_M_clear_46 : decode b_M_clear 46 = .ok (.lload_n 3, 1) := by decide +kernel
theorem d_M_clear_47 : decode b_M_clear 47 = .ok (.aload_n 0, 1) := by decide +kernel
theorem d_M_clear_48 : decode b_M_clear 48 = .ok (.getfield 17, 3) := by decide +kernel
theorem d_M_clear_51 : decode b_M_clear 51 = .ok (.iload_n 1, 1) := by decide +kernel
theorem d_M_clear_52 : decode b_M_clear 52 = .ok (.iaload, 1) := by decide +kernel
theorem d_M_clear_53 : decode b_M_clear 53 = .ok (.aload_n 0, 1) := by decide +kernel
theorem d_M_clear_54 : decode b_M_clear 54 = .ok (.getfield 17, 3) := by decide +kernel
theorem d_M_clear_57 : decode b_M_clear 57 = .ok (.iload_n 2, 1) := by decide +kernel
theorem d_M_clear_58 : decode b_M_clear 58 = .ok (.iaload, 1) := by decide +kernel
theorem d_M_clear_59 : decode b_M_clear 59 = .ok (.iadd, 1) := by decide +kernel
theorem d_M_clear_60 : decode b_M_clear 60 = .ok (.i2l, 1) := by decide +kernel
theorem d_M_clear_61 : decode b_M_clear 61 = .ok (.lmul, 1) := by decide +kernel
theorem d_M_clear_62 : decode b_M_clear 62 = .ok (.lstore 5, 2) := by decide +kernel
theorem d_M_clear_64 : decode b_M_clear 64 = .ok (.lload 5, 2) := by decide +kernel
theorem d_M_clear_66 : decode b_M_clear 66 = .ok (.ldc2_w 62, 3) := by decide +kernel
theorem d_M_clear_69 : decode b_M_clear 69 = .ok (.ldiv, 1) := by decide +kernel
theorem d_M_clear_70 : decode b_M_clear 70 = .ok (.lstore 7, 2) := by decide +kernel
theorem d_M_clear_72 : decode b_M_clear 72 = .ok (.lload 7, 2) := by decide +kernel
theorem d_M_clear_74 : decode b_M_clear 74 = .ok (.lload 7, 2) := by decide +kernel
theorem d_M_clear_76 : decode b_M_clear 76 = .ok (.ldc2_w 62, 3) := by decide +kernel
theorem d_M_clear_79 : decode b_M_clear 79 = .ok (.lmul, 1) := by decide +kernel
theorem d_M_clear_80 : decode b_M_clear 80 = .ok (.lload 5, 2) := by decide +kernel
theorem d_M_clear_82 : decode b_M_clear 82 = .ok (.lcmp, 1) := by decide +kernel
theorem d_M_clear_83 : decode b_M_clear 83 = .ok (.ifCond .ge 7, 3) := by decide +kernel
theorem d_M_clear_86 : decode b_M_clear 86 = .ok (.lconst 1, 1) := by decide +kernel
theorem d_M_clear_87 : decode b_M_clear 87 = .ok (.goto 4, 3) := by decide +kernel
theorem d_M_clear_90 : decode b_M_clear 90 = .ok (.lconst 0, 1) := by decide +kernel
theorem d_M_clear_91 : decode b_M_clear 91 = .ok (.ladd, 1) := by decide +kernel
theorem d_M_clear_92 : decode b_M_clear 92 = .ok (.lstore 7, 2) := by decide +kernel
theorem d_M_clear_94 : decode b_M_clear 94 = .ok (.lload_n 3, 1) := by decide +kernel
theorem d_M_clear_95 : decode b_M_clear 95 = .ok (.aload_n 0, 1) := by decide +kernel
theorem d_M_clear_96 : decode b_M_clear 96 = .ok (.getfield 17, 3) := by decide +kernel
theorem d_M_clear_99 : decode b_M_clear 99 = .ok (.iload_n 2, 1) := by decide +kernel
theorem d_M_clear_100 : decode b_M_clear 100 = .ok (.iaload, 1) := by decide +kernel
theorem d_M_clear_101 : decode b_M_clear 101 = .ok (.i2l, 1) := by decide +kernel
theorem d_M_clear_102 : decode b_M_clear 102 = .ok (.lmul, 1) := by decide +kernel
theorem d_M_clear_103 : decode b_M_clear 103 = .ok (.ldc2_w 62, 3) := by decide +kernel
theorem d_M_clear_106 : decode b_M_clear 106 = .ok (.ldiv, 1) := by decide +kernel
theorem d_M_clear_107 : decode b_M_clear 107 = .ok (.lstore 9, 2) := by decide +kernel
theorem d_M_clear_109 : decode b_M_clear 109 = .ok (.aload_n 0, 1) := by decide +kernel
theorem d_M_clear_110 : decode b_M_clear 110 = .ok (.getfield 20, 3) := by decide +kernel
theorem d_M_clear_113 : decode b_M_clear 113 = .ok (.iload_n 1, 1) := by decide +kernel
theorem d_M_clear_114 : decode b_M_clear 114 = .ok (.dup2, 1) := by decide +kernel
theorem d_M_clear_115 : decode b_M_clear 115 = .ok (.laload, 1) := by decide +kernel
theorem d_M_clear_116 : decode b_M_clear 116 = .ok (.lload_n 3, 1) := by decide +kernel
theorem d_M_clear_117 : decode b_M_clear 117 = .ok (.lload 7, 2) := by decide +kernel
theorem d_M_clear_119 : decode b_M_clear 119 = .ok (.lsub, 1) := by decide +kernel
theorem d_M_clear_120 : decode b_M_clear 120 = .ok (.ladd, 1) := by decide +kernel
theorem d_M_clear_121 : decode b_M_clear 121 = .ok (.lastore, 1) := by decide +kernel
theorem d_M_clear_122 : decode b_M_clear 122 = .ok (.aload_n 0, 1) := by decide +kernel
theorem d_M_clear_123 : decode b_M_clear 123 = .ok (.getfield 20, 3) := by decide +kernel
theorem d_M_clear_126 : decode b_M_clear 126 = .ok (.iload_n 2, 1) := by decide +kernel
theorem d_M_clear_127 : decode b_M_clear 127 = .ok (.dup2, 1) := by decide +kernel
theorem d_M_clear_128 : decode b_M_clear 128 = .ok (.laload, 1) := by decide +kernel
theorem d_M_clear_129 : decode b_M_clear 129 = .ok (.lload 9, 2) := by decide +kernel
theorem d_M_clear_131 : decode b_M_clear 131 = .ok (.lload_n 3, 1) := by decide +kernel
theorem d_M_clear_132 : decode b_M_clear 132 = .ok (.lsub, 1) := by decide +kernel
theorem d_M_clear_133 : decode b_M_clear 133 = .ok (.ladd, 1) := by decide +kernel
theorem d_M_clear_134 : decode b_M_clear 134 = .ok (.lastore, 1) := by decide +kernel
theorem d_M_clear_135 : decode b_M_clear 135 = .ok (.aload_n 0, 1) := by decide +kernel
theorem d_M_clear_136 : decode b_M_clear 136 = .ok (.getfield 20, 3) := by decide +kernel
theorem d_M_clear_139 : decode b_M_clear 139 = .ok (.iconst 0, 1) := by decide +kernel
theorem d_M_clear_140 : decode b_M_clear 140 = .ok (.dup2, 1) := by decide +kernel
theorem d_M_clear_141 : decode b_M_clear 141 = .ok (.laload, 1) := by decide +kernel
theorem d_M_clear_142 : decode b_M_clear 142 = .ok (.lload 7, 2) := by decide +kernel
theorem d_M_clear_144 : decode b_M_clear 144 = .ok (.lload 9, 2) := by decide +kernel
theorem d_M_clear_146 : decode b_M_clear 146 = .ok (.lsub, 1) := by decide +kernel
theorem d_M_clear_147 : decode b_M_clear 147 = .ok (.ladd, 1) := by decide +kernel
theorem d_M_clear_148 : decode b_M_clear 148 = .ok (.lastore, 1) := by decide +kernel
theorem d_M_clear_149 : decode b_M_clear 149 = .ok (.aload_n 0, 1) := by decide +kernel
theorem d_M_clear_150 : decode b_M_clear 150 = .ok (.getfield 27, 3) := by decide +kernel
theorem d_M_clear_153 : decode b_M_clear 153 = .ok (.iload_n 1, 1) := by decide +kernel
theorem d_M_clear_154 : decode b_M_clear 154 = .ok (.dup2, 1) := by decide +kernel
theorem d_M_clear_155 : decode b_M_clear 155 = .ok (.iaload, 1) := by decide +kernel
theorem d_M_clear_156 : decode b_M_clear 156 = .ok (.iconst 1, 1) := by decide +kernel
theorem d_M_clear_157 : decode b_M_clear 157 = .ok (.iadd, 1) := by decide +kernel
theorem d_M_clear_158 : decode b_M_clear 158 = .ok (.iastore, 1) := by decide +kernel
theorem d_M_clear_159 : decode b_M_clear 159 = .ok (.aload_n 0, 1) := by decide +kernel
theorem d_M_clear_160 : decode b_M_clear 160 = .ok (.getfield 30, 3) := by decide +kernel
theorem d_M_clear_163 : decode b_M_clear 163 = .ok (.iload_n 1, 1) := by decide +kernel
theorem d_M_clear_164 : decode b_M_clear 164 = .ok (.dup2, 1) := by decide +kernel
theorem d_M_clear_165 : decode b_M_clear 165 = .ok (.laload, 1) := by decide +kernel
theorem d_M_clear_166 : decode b_M_clear 166 = .ok (.lload_n 3, 1) := by decide +kernel
theorem d_M_clear_167 : decode b_M_clear 167 = .ok (.ladd, 1) := by decide +kernel
theorem d_M_clear_168 : decode b_M_clear 168 = .ok (.lastore, 1) := by decide +kernel
theorem d_M_clear_169 : decode b_M_clear 169 = .ok (.lload 7, 2) := by decide +kernel
theorem d_M_clear_171 : decode b_M_clear 171 = .ok (.lreturn, 1) := by decide +kernel
theorem d_M_is_0 : decode b_M_is 0 = .ok (.iload_n 1, 1) := by decide +kernel
theorem d_M_is_1 : decode b_M_is 1 = .ok (.ifCond .le 25, 3) := by decide +kernel
theorem d_M_is_4 : decode b_M_is 4 = .ok (.iload_n 1, 1) := by decide +kernel
theorem d_M_is_5 : decode b_M_is 5 = .ok (.aload_n 0, 1) := by decide +kernel
theorem d_M_is_6 : decode b_M_is 6 = .ok (.getfield 7, 3) := by decide +kernel
theorem d_M_is_9 : decode b_M_is 9 = .ok (.if_icmp .ge 17, 3) := by decide +kernel
theorem d_M_is_12 : decode b_M_is 12 = .ok (.aload_n 0, 1) := by decide +kernel
theorem d_M_is_13 : decode b_M_is 13 = .ok (.getfield 13, 3) := by decide +kernel
theorem d_M_is_16 : decode b_M_is 16 = .ok (.iload_n 1, 1) := by decide +kernel
theorem d_M_is_17 : decode b_M_is 17 = .ok (.iaload, 1) := by decide +kernel
theorem d_M_is_18 : decode b_M_is 18 = .ok (.iload_n 2, 1) := by decide +kernel
theorem d_M_is_19 : decode b_M_is 19 = .ok (.if_icmp .ne 7, 3) := by decide +kernel
theorem d_M_is_22 : decode b_M_is 22 = .ok (.iconst 1, 1) := by decide +kernel
theorem d_M_is_23 : decode b_M_is 23 = .ok (.goto 4, 3) := by decide +kernel
theorem d_M_is_26 : decode b_M_is 26 = .ok (.iconst 0, 1) := by decide +kernel
theorem d_M_is_27 : decode b_M_is 27 = .ok (.ireturn, 1) := by decide +kernel
theorem d_M_goes_0 : decode b_M_goes 0 = .ok (.aload_n 0, 1) := by decide +kernel
theorem d_M_goes_1 : decode b_M_goes 1 = .ok (.iload_n 1, 1) := by decide +kernel
theorem d_M_goes_2 : decode b_M_goes 2 = .ok (.ifCond .eq 7, 3) := by decide +kernel
theorem d_M_goes_5 : decode b_M_goes 5 = .ok (.iconst 0, 1) := by decide +kernel
theorem d_M_goes_6 : decode b_M_goes 6 = .ok (.goto 4, 3) := by decide +kernel
theorem d_M_goes_9 : decode b_M_goes 9 = .ok (.iconst 1, 1) := by decide +kernel
theorem d_M_goes_10 : decode b_M_goes 10 = .ok (.putfield 45, 3) := by decide +kernel
theorem d_M_goes_13 : decode b_M_goes 13 = .ok (.iload_n 1, 1) := by decide +kernel
theorem d_M_goes_14 : decode b_M_goes 14 = .ok (.ireturn, 1) := by decide +kernel
theorem d_M_back_0 : decode b_M_back 0 = .ok (.aload_n 0, 1) := by decide +kernel
theorem d_M_back_1 : decode b_M_back 1 = .ok (.aload_n 0, 1) := by decide +kernel
theorem d_M_back_2 : decode b_M_back 2 = .ok (.iload_n 1, 1) := by decide +kernel
theorem d_M_back_3 : decode b_M_back 3 = .ok (.iconst 1, 1) := by decide +kernel
theorem d_M_back_4 : decode b_M_back 4 = .ok (.invokevirtual 52, 3) := by decide +kernel
theorem d_M_back_7 : decode b_M_back 7 = .ok (.ifCond .eq 32, 3) := by decide +kernel
theorem d_M_back_10 : decode b_M_back 10 = .ok (.aload_n 0, 1) := by decide +kernel
theorem d_M_back_11 : decode b_M_back 11 = .ok (.iload_n 2, 1) := by decide +kernel
theorem d_M_back_12 : decode b_M_back 12 = .ok (.iconst 2, 1) := by decide +kernel
theorem d_M_back_13 : decode b_M_back 13 = .ok (.invokevirtual 52, 3) := by decide +kernel
theorem d_M_back_16 : decode b_M_back 16 = .ok (.ifCond .eq 23, 3) := by decide +kernel
theorem d_M_back_19 : decode b_M_back 19 = .ok (.lload_n 3, 1) := by decide +kernel
theorem d_M_back_20 : decode b_M_back 20 = .ok (.ldc2_w 64, 3) := by decide +kernel
theorem d_M_back_23 : decode b_M_back 23 = .ok (.lcmp, 1) := by decide +kernel
theorem d_M_back_24 : decode b_M_back 24 = .ok (.ifCond .lt 15, 3) := by decide +kernel
theorem d_M_back_27 : decode b_M_back 27 = .ok (.lload_n 3, 1) := by decide +kernel
theorem d_M_back_28 : decode b_M_back 28 = .ok (.ldc2_w 56, 3) := by decide +kernel
theorem d_M_back_31 : decode b_M_back 31 = .ok (.lcmp, 1) := by decide +kernel
theorem d_M_back_32 : decode b_M_back 32 = .ok (.ifCond .gt 7, 3) := by decide +kernel
theorem d_M_back_35 : decode b_M_back 35 = .ok (.iconst 1, 1) := by decide +kernel
theorem d_M_back_36 : decode b_M_back 36 = .ok (.goto 4, 3) := by decide +kernel
theorem d_M_back_39 : decode b_M_back 39 = .ok (.iconst 0, 1) := by decide +kernel
theorem d_M_back_40 : decode b_M_back 40 = .ok (.invokevirtual 58, 3) := by decide +kernel
theorem d_M_back_43 : decode b_M_back 43 = .ok (.ifCond .ne 5, 3) := by decide +kernel
theorem d_M_back_46 : decode b_M_back 46 = .ok (.lconst 0, 1) := by decide +kernel
theorem d_M_back_47 : decode b_M_back 47 = .ok (.lreturn, 1) := by decide +kernel
theorem d_M_back_48 : decode b_M_back 48 = .ok (.aload_n 0, 1) := by decide +kernel
theorem d_M_back_49 : decode b_M_back 49 = .ok (.getfield 20, 3) := by decide +kernel
theorem d_M_back_52 : decode b_M_back 52 = .ok (.iload_n 1, 1) := by decide +kernel
theorem d_M_back_53 : decode b_M_back 53 = .ok (.dup2, 1) := by decide +kernel
theorem d_M_back_54 : decode b_M_back 54 = .ok (.laload, 1) := by decide +kernel
theorem d_M_back_55 : decode b_M_back 55 = .ok (.lload_n 3, 1) := by decide +kernel
theorem d_M_back_56 : decode b_M_back 56 = .ok (.lsub, 1) := by decide +kernel
theorem d_M_back_57 : decode b_M_back 57 = .ok (.lastore, 1) := by decide +kernel
theorem d_M_back_58 : decode b_M_back 58 = .ok (.aload_n 0, 1) := by decide +kernel
theorem d_M_back_59 : decode b_M_back 59 = .ok (.getfield 20, 3) := by decide +kernel
theorem d_M_back_62 : decode b_M_back 62 = .ok (.iload_n 2, 1) := by decide +kernel
theorem d_M_back_63 : decode b_M_back 63 = .ok (.dup2, 1) := by decide +kernel
theorem d_M_back_64 : decode b_M_back 64 = .ok (.laload, 1) := by decide +kernel
theorem d_M_back_65 : decode b_M_back 65 = .ok (.lload_n 3, 1) := by decide +kernel
theorem d_M_back_66 : decode b_M_back 66 = .ok (.ladd, 1) := by decide +kernel
theorem d_M_back_67 : decode b_M_back 67 = .ok (.lastore, 1) := by decide +kernel
theorem d_M_back_68 : decode b_M_back 68 = .ok (.aload_n 0, 1) := by decide +kernel
theorem d_M_back_69 : decode b_M_back 69 = .ok (.getfield 20, 3) := by decide +kernel
theorem d_M_back_72 : decode b_M_back 72 = .ok (.iload_n 1, 1) := by decide +kernel
theorem d_M_back_73 : decode b_M_back 73 = .ok (.laload, 1) := by decide +kernel
theorem d_M_back_74 : decode b_M_back 74 = .ok (.lreturn, 1) := by decide +kernel
theorem d_M_reconcile_0 : decode b_M_reconcile 0 = .ok (.aload_n 0, 1) := by decide +kernel
theorem d_M_reconcile_1 : decode b_M_reconcile 1 = .ok (.aload_n 0, 1) := by decide +kernel
theorem d_M_reconcile_2 : decode b_M_reconcile 2 = .ok (.iload_n 1, 1) := by decide +kernel
theorem d_M_reconcile_3 : decode b_M_reconcile 3 = .ok (.iconst 1, 1) := by decide +kernel
theorem d_M_reconcile_4 : decode b_M_reconcile 4 = .ok (.invokevirtual 52, 3) := by decide +kernel
theorem d_M_reconcile_7 : decode b_M_reconcile 7 = .ok (.invokevirtual 58, 3) := by decide +kernel
theorem d_M_reconcile_10 : decode b_M_reconcile 10 = .ok (.ifCond .eq 24, 3) := by decide +kernel
theorem d_M_reconcile_13 : decode b_M_reconcile 13 = .ok (.aload_n 0, 1) := by decide +kernel
theorem d_M_reconcile_14 : decode b_M_reconcile 14 = .ok (.getfield 27, 3) := by decide +kernel
theorem d_M_reconcile_17 : decode b_M_reconcile 17 = .ok (.iload_n 1, 1) := by decide +kernel
theorem d_M_reconcile_18 : decode b_M_reconcile 18 = .ok (.iaload, 1) := by decide +kernel
theorem d_M_reconcile_19 : decode b_M_reconcile 19 = .ok (.iload_n 2, 1) := by decide +kernel
theorem d_M_reconcile_20 : decode b_M_reconcile 20 = .ok (.if_icmp .ne 14, 3) := by decide +kernel
theorem d_M_reconcile_23 : decode b_M_reconcile 23 = .ok (.aload_n 0, 1) := by decide +kernel
theorem d_M_reconcile_24 : decode b_M_reconcile 24 = .ok (.getfield 30, 3) := by decide +kernel
theorem d_M_reconcile_27 : decode b_M_reconcile 27 = .ok (.iload_n 1, 1) := by decide +kernel
theorem d_M_reconcile_28 : decode b_M_reconcile 28 = .ok (.laload, 1) := by decide +kernel
theorem d_M_reconcile_29 : decode b_M_reconcile 29 = .ok (.lload_n 3, 1) := by decide +kernel
theorem d_M_reconcile_30 : decode b_M_reconcile 30 = .ok (.lcmp, 1) := by decide +kernel
theorem d_M_reconcile_31 : decode b_M_reconcile 31 = .ok (.ifCond .eq 5, 3) := by decide +kernel
theorem d_M_reconcile_34 : decode b_M_reconcile 34 = .ok (.iconst 0, 1) := by decide +kernel
theorem d_M_reconcile_35 : decode b_M_reconcile 35 = .ok (.ireturn, 1) := by decide +kernel
theorem d_M_reconcile_36 : decode b_M_reconcile 36 = .ok (.aload_n 0, 1) := by decide +kernel
theorem d_M_reconcile_37 : decode b_M_reconcile 37 = .ok (.getfield 27, 3) := by decide +kernel
theorem d_M_reconcile_40 : decode b_M_reconcile 40 = .ok (.iload_n 1, 1) := by decide +kernel
theorem d_M_reconcile_41 : decode b_M_reconcile 41 = .ok (.iconst 0, 1) := by decide +kernel
theorem d_M_reconcile_42 : decode b_M_reconcile 42 = .ok (.iastore, 1) := by decide +kernel
theorem d_M_reconcile_43 : decode b_M_reconcile 43 = .ok (.aload_n 0, 1) := by decide +kernel
theorem d_M_reconcile_44 : decode b_M_reconcile 44 = .ok (.getfield 30, 3) := by decide +kernel
theorem d_M_reconcile_47 : decode b_M_reconcile 47 = .ok (.iload_n 1, 1) := by decide +kernel
theorem d_M_reconcile_48 : decode b_M_reconcile 48 = .ok (.lconst 0, 1) := by decide +kernel
theorem d_M_reconcile_49 : decode b_M_reconcile 49 = .ok (.lastore, 1) := by decide +kernel
theorem d_M_reconcile_50 : decode b_M_reconcile 50 = .ok (.iconst 1, 1) := by decide +kernel
theorem d_M_reconcile_51 : decode b_M_reconcile 51 = .ok (.ireturn, 1) := by decide +kernel
theorem d_M_batch_0 : decode b_M_batch 0 = .ok (.aload_n 0, 1) := by decide +kernel
theorem d_M_batch_1 : decode b_M_batch 1 = .ok (.aload_n 0, 1) := by decide +kernel
theorem d_M_batch_2 : decode b_M_batch 2 = .ok (.iload_n 1, 1) := by decide +kernel
theorem d_M_batch_3 : decode b_M_batch 3 = .ok (.iconst 1, 1) := by decide +kernel
theorem d_M_batch_4 : decode b_M_batch 4 = .ok (.invokevirtual 52, 3) := by decide +kernel
theorem d_M_batch_7 : decode b_M_batch 7 = .ok (.ifCond .eq 16, 3) := by decide +kernel
theorem d_M_batch_10 : decode b_M_batch 10 = .ok (.iload_n 2, 1) := by decide +kernel
theorem d_M_batch_11 : decode b_M_batch 11 = .ok (.ifCond .eq 8, 3) := by decide +kernel
theorem d_M_batch_14 : decode b_M_batch 14 = .ok (.iload_n 2, 1) := by decide +kernel
theorem d_M_batch_15 : decode b_M_batch 15 = .ok (.iconst 1, 1) := by decide +kernel
theorem d_M_batch_16 : decode b_M_batch 16 = .ok (.if_icmp .ne 7, 3) := by decide +kernel
theorem d_M_batch_19 : decode b_M_batch 19 = .ok (.iconst 1, 1) := by decide +kernel
theorem d_M_batch_20 : decode b_M_batch 20 = .ok (.goto 4, 3) := by decide +kernel
theorem d_M_batch_23 : decode b_M_batch 23 = .ok (.iconst 0, 1) := by decide +kernel
theorem d_M_batch_24 : decode b_M_batch 24 = .ok (.invokevirtual 58, 3) := by decide +kernel
theorem d_M_batch_27 : decode b_M_batch 27 = .ok (.ifCond .ne 5, 3) := by decide +kernel
theorem d_M_batch_30 : decode b_M_batch 30 = .ok (.lconst 0, 1) := by decide +kernel
theorem d_M_batch_31 : decode b_M_batch 31 = .ok (.lreturn, 1) := by decide +kernel
theorem d_M_batch_32 : decode b_M_batch 32 = .ok (.iload_n 2, 1) := by decide +kernel
theorem d_M_batch_33 : decode b_M_batch 33 = .ok (.ifCond .ne 13, 3) := by decide +kernel
theorem d_M_batch_36 : decode b_M_batch 36 = .ok (.aload_n 0, 1) := by decide +kernel
theorem d_M_batch_37 : decode b_M_batch 37 = .ok (.getfield 27, 3) := by decide +kernel
theorem d_M_batch_40 : decode b_M_batch 40 = .ok (.iload_n 1, 1) := by decide +kernel
theorem d_M_batch_41 : decode b_M_batch 41 = .ok (.iaload, 1) := by decide +kernel
theorem d_M_batch_42 : decode b_M_batch 42 = .ok (.i2l, 1) := by decide +kernel
theorem d_M_batch_43 : decode b_M_batch 43 = .ok (.goto 9, 3) := by decide +kernel
theorem d_M_batch_46 : decode b_M_batch 46 = .ok (.aload_n 0, 1) := by decide +kernel
theorem d_M_batch_47 : decode b_M_batch 47 = .ok (.getfield 30, 3) := by decide +kernel
theorem d_M_batch_50 : decode b_M_batch 50 = .ok (.iload_n 1, 1) := by decide +kernel
theorem d_M_batch_51 : decode b_M_batch 51 = .ok (.laload, 1) := by decide +kernel
theorem d_M_batch_52 : decode b_M_batch 52 = .ok (.lreturn, 1) := by decide +kernel
theorem d_M_settle_0 : decode b_M_settle 0 = .ok (.aload_n 0, 1) := by decide +kernel
theorem d_M_settle_1 : decode b_M_settle 1 = .ok (.iconst 0, 1) := by decide +kernel
theorem d_M_settle_2 : decode b_M_settle 2 = .ok (.putfield 45, 3) := by decide +kernel
theorem d_M_settle_5 : decode b_M_settle 5 = .ok (.iconst 0, 1) := by decide +kernel
theorem d_M_settle_6 : decode b_M_settle 6 = .ok (.istore_n 1, 1) := by decide +kernel
theorem d_M_settle_7 : decode b_M_settle 7 = .ok (.iload_n 1, 1) := by decide +kernel
theorem d_M_settle_8 : decode b_M_settle 8 = .ok (.aload_n 0, 1) := by decide +kernel
theorem d_M_settle_9 : decode b_M_settle 9 = .ok (.getfield 7, 3) := by decide +kernel
theorem d_M_settle_12 : decode b_M_settle 12 = .ok (.if_icmp .ge 43, 3) := by decide +kernel
theorem d_M_settle_15 : decode b_M_settle 15 = .ok (.aload_n 0, 1) := by decide +kernel
theorem d_M_settle_16 : decode b_M_settle 16 = .ok (.getfield 33, 3) := by decide +kernel
theorem d_M_settle_19 : decode b_M_settle 19 = .ok (.iload_n 1, 1) := by decide +kernel
theorem d_M_settle_20 : decode b_M_settle 20 = .ok (.aload_n 0, 1) := by decide +kernel
theorem d_M_settle_21 : decode b_M_settle 21 = .ok (.getfield 20, 3) := by decide +kernel
theorem d_M_settle_24 : decode b_M_settle 24 = .ok (.iload_n 1, 1) := by decide +kernel
theorem d_M_settle_25 : decode b_M_settle 25 = .ok (.laload, 1) := by decide +kernel
theorem d_M_settle_26 : decode b_M_settle 26 = .ok (.lastore, 1) := by decide +kernel
theorem d_M_settle_27 : decode b_M_settle 27 = .ok (.aload_n 0, 1) := by decide +kernel
theorem d_M_settle_28 : decode b_M_settle 28 = .ok (.getfield 24, 3) := by decide +kernel
theorem d_M_settle_31 : decode b_M_settle 31 = .ok (.iload_n 1, 1) := by decide +kernel
theorem d_M_settle_32 : decode b_M_settle 32 = .ok (.dup2, 1) := by decide +kernel
theorem d_M_settle_33 : decode b_M_settle 33 = .ok (.laload, 1) := by decide +kernel
theorem d_M_settle_34 : decode b_M_settle 34 = .ok (.aload_n 0, 1) := by decide +kernel
theorem d_M_settle_35 : decode b_M_settle 35 = .ok (.getfield 20, 3) := by decide +kernel
theorem d_M_settle_38 : decode b_M_settle 38 = .ok (.iload_n 1, 1) := by decide +kernel
theorem d_M_settle_39 : decode b_M_settle 39 = .ok (.laload, 1) := by decide +kernel
theorem d_M_settle_40 : decode b_M_settle 40 = .ok (.ladd, 1) := by decide +kernel
theorem d_M_settle_41 : decode b_M_settle 41 = .ok (.lastore, 1) := by decide +kernel
theorem d_M_settle_42 : decode b_M_settle 42 = .ok (.aload_n 0, 1) := by decide +kernel
theorem d_M_settle_43 : decode b_M_settle 43 = .ok (.getfield 20, 3) := by decide +kernel
theorem d_M_settle_46 : decode b_M_settle 46 = .ok (.iload_n 1, 1) := by decide +kernel
theorem d_M_settle_47 : decode b_M_settle 47 = .ok (.lconst 0, 1) := by decide +kernel
theorem d_M_settle_48 : decode b_M_settle 48 = .ok (.lastore, 1) := by decide +kernel
theorem d_M_settle_49 : decode b_M_settle 49 = .ok (.iinc 1 1, 3) := by decide +kernel
theorem d_M_settle_52 : decode b_M_settle 52 = .ok (.goto (-45), 3) := by decide +kernel
theorem d_M_settle_55 : decode b_M_settle 55 = .ok (.aload_n 0, 1) := by decide +kernel
theorem d_M_settle_56 : decode b_M_settle 56 = .ok (.iconst 0, 1) := by decide +kernel
theorem d_M_settle_57 : decode b_M_settle 57 = .ok (.putfield 66, 3) := by decide +kernel
theorem d_M_settle_60 : decode b_M_settle 60 = .ok (.iconst 1, 1) := by decide +kernel
theorem d_M_settle_61 : decode b_M_settle 61 = .ok (.istore_n 1, 1) := by decide +kernel
theorem d_M_settle_62 : decode b_M_settle 62 = .ok (.iload_n 1, 1) := by decide +kernel
theorem d_M_settle_63 : decode b_M_settle 63 = .ok (.ifCond .eq 195, 3) := by decide +kernel
theorem d_M_settle_66 : decode b_M_settle 66 = .ok (.iconst 0, 1) := by decide +kernel
theorem d_M_settle_67 : decode b_M_settle 67 = .ok (.istore_n 2, 1) := by decide +kernel
theorem d_M_settle_68 : decode b_M_settle 68 = .ok (.iconst 0, 1) := by decide +kernel
theorem d_M_settle_69 : decode b_M_settle 69 = .ok (.istore_n 3, 1) := by decide +kernel
theorem d_M_settle_70 : decode b_M_settle 70 = .ok (.iconst 1, 1) := by decide +kernel
theorem d_M_settle_71 : decode b_M_settle 71 = .ok (.istore 4, 2) := by decide +kernel
theorem d_M_settle_73 : decode b_M_settle 73 = .ok (.iload 4, 2) := by decide +kernel
theorem d_M_settle_75 : decode b_M_settle 75 = .ok (.aload_n 0, 1) := by decide +kernel
theorem d_M_settle_76 : decode b_M_settle 76 = .ok (.getfield 7, 3) := by decide +kernel
theorem d_M_settle_79 : decode b_M_settle 79 = .ok (.if_icmp .ge 57, 3) := by decide +kernel
theorem d_M_settle_82 : decode b_M_settle 82 = .ok (.aload_n 0, 1) := by decide +kernel
theorem d_M_settle_83 : decode b_M_settle 83 = .ok (.getfield 33, 3) := by decide +kernel
theorem d_M_settle_86 : decode b_M_settle 86 = .ok (.iload 4, 2) := by decide +kernel
theorem d_M_settle_88 : decode b_M_settle 88 = .ok (.laload, 1) := by decide +kernel
theorem d_M_settle_89 : decode b_M_settle 89 = .ok (.aload_n 0, 1) := by decide +kernel
theorem d_M_settle_90 : decode b_M_settle 90 = .ok (.getfield 33, 3) := by decide +kernel
theorem d_M_settle_93 : decode b_M_settle 93 = .ok (.iload_n 2, 1) := by decide +kernel
theorem d_M_settle_94 : decode b_M_settle 94 = .ok (.laload, 1) := by decide +kernel
theorem d_M_settle_95 : decode b_M_settle 95 = .ok (.lcmp, 1) := by decide +kernel
theorem d_M_settle_96 : decode b_M_settle 96 = .ok (.ifCond .ge 8, 3) := by decide +kernel
theorem d_M_settle_99 : decode b_M_settle 99 = .ok (.iload 4, 2) := by decide +kernel
theorem d_M_settle_101 : decode b_M_settle 101 = .ok (.goto 4, 3) := by decide +kernel
theorem d_M_settle_104 : decode b_M_settle 104 = .ok (.iload_n 2, 1) := by decide +kernel
theorem d_M_settle_105 : decode b_M_settle 105 = .ok (.istore_n 2, 1) := by decide +kernel
theorem d_M_settle_106 : decode b_M_settle 106 = .ok (.aload_n 0, 1) := by decide +kernel
theorem d_M_settle_107 : decode b_M_settle 107 = .ok (.getfield 33, 3) := by decide +kernel
theorem d_M_settle_110 : decode b_M_settle 110 = .ok (.iload 4, 2) := by decide +kernel
theorem d_M_settle_112 : decode b_M_settle 112 = .ok (.laload, 1) := by decide +kernel
theorem d_M_settle_113 : decode b_M_settle 113 = .ok (.aload_n 0, 1) := by decide +kernel
theorem d_M_settle_114 : decode b_M_settle 114 = .ok (.getfield 33, 3) := by decide +kernel
theorem d_M_settle_117 : decode b_M_settle 117 = .ok (.iload_n 3, 1) := by decide +kernel
theorem d_M_settle_118 : decode b_M_settle 118 = .ok (.laload, 1) := by decide +kernel
theorem d_M_settle_119 : decode b_M_settle 119 = .ok (.lcmp, 1) := by decide +kernel
theorem d_M_settle_120 : decode b_M_settle 120 = .ok (.ifCond .le 8, 3) := by decide +kernel
theorem d_M_settle_123 : decode b_M_settle 123 = .ok (.iload 4, 2) := by decide +kernel
theorem d_M_settle_125 : decode b_M_settle 125 = .ok (.goto 4, 3) := by decide +kernel
theorem d_M_settle_128 : decode b_M_settle 128 = .ok (.iload_n 3, 1) := by decide +kernel
theorem d_M_settle_129 : decode b_M_settle 129 = .ok (.istore_n 3, 1) := by decide +kernel
theorem d_M_settle_130 : decode b_M_settle 130 = .ok (.iinc 4 1, 3) := by decide +kernel
theorem d_M_settle_133 : decode b_M_settle 133 = .ok (.goto (-60), 3) := by decide +kernel
theorem d_M_settle_136 : decode b_M_settle 136 = .ok (.aload_n 0, 1) := by decide +kernel
theorem d_M_settle_137 : decode b_M_settle 137 = .ok (.getfield 33, 3) := by decide +kernel
theorem d_M_settle_140 : decode b_M_settle 140 = .ok (.iload_n 2, 1) := by decide +kernel
theorem d_M_settle_141 : decode b_M_settle 141 = .ok (.laload, 1) := by decide +kernel
theorem d_M_settle_142 : decode b_M_settle 142 = .ok (.lconst 0, 1) := by decide +kernel
theorem d_M_settle_143 : decode b_M_settle 143 = .ok (.lcmp, 1) := by decide +kernel
theorem d_M_settle_144 : decode b_M_settle 144 = .ok (.ifCond .ge 7, 3) := by decide +kernel
theorem d_M_settle_147 : decode b_M_settle 147 = .ok (.iconst 1, 1) := by decide +kernel
theorem d_M_settle_148 : decode b_M_settle 148 = .ok (.goto 4, 3) := by decide +kernel
theorem d_M_settle_151 : decode b_M_settle 151 = .ok (.iconst 0, 1) := by decide +kernel
theorem d_M_settle_152 : decode b_M_settle 152 = .ok (.istore_n 1, 1) := by decide +kernel
theorem d_M_settle_153 : decode b_M_settle 153 = .ok (.iload_n 1, 1) := by decide +kernel
theorem d_M_settle_154 : decode b_M_settle 154 = .ok (.ifCond .eq 101, 3) := by decide +kernel
theorem d_M_settle_157 : decode b_M_settle 157 = .ok (.aload_n 0, 1) := by decide +kernel
theorem d_M_settle_158 : decode b_M_settle 158 = .ok (.getfield 33, 3) := by decide +kernel
theorem d_M_settle_161 : decode b_M_settle 161 = .ok (.iload_n 2, 1) := by decide +kernel
theorem d_M_settle_162 : decode b_M_settle 162 = .ok (.laload, 1) := by decide +kernel
theorem d_M_settle_163 : decode b_M_settle 163 = .ok (.lneg, 1) := by decide +kernel
theorem d_M_settle_164 : decode b_M_settle 164 = .ok (.aload_n 0, 1) := by decide +kernel
theorem d_M_settle_165 : decode b_M_settle 165 = .ok (.getfield 33, 3) := by decide +kernel
theorem d_M_settle_168 : decode b_M_settle 168 = .ok (.iload_n 3, 1) := by decide +kernel
theorem d_M_settle_169 : decode b_M_settle 169 = .ok (.laload, 1) := by decide +kernel
theorem d_M_settle_170 : decode b_M_settle 170 = .ok (.lcmp, 1) := by decide +kernel
theorem d_M_settle_171 : decode b_M_settle 171 = .ok (.ifCond .ge 13, 3) := by decide +kernel
theorem d_M_settle_174 : decode b_M_settle 174 = .ok (.aload_n 0, 1) := by decide +kernel
theorem d_M_settle_175 : decode b_M_settle 175 = .ok (.getfield 33, 3) := by decide +kernel
theorem d_M_settle_178 : decode b_M_settle 178 = .ok (.iload_n 2, 1) := by decide +kernel
theorem d_M_settle_179 : decode b_M_settle 179 = .ok (.laload, 1) := by decide +kernel
theorem d_M_settle_180 : decode b_M_settle 180 = .ok (.lneg, 1) := by decide +kernel
theorem d_M_settle_181 : decode b_M_settle 181 = .ok (.goto 9, 3) := by decide +kernel
theorem d_M_settle_184 : decode b_M_settle 184 = .ok (.aload_n 0, 1) := by decide +kernel
theorem d_M_settle_185 : decode b_M_settle 185 = .ok (.getfield 33, 3) := by decide +kernel
theorem d_M_settle_188 : decode b_M_settle 188 = .ok (.iload_n 3, 1) := by decide +kernel
theorem d_M_settle_189 : decode b_M_settle 189 = .ok (.laload, 1) := by decide +kernel
theorem d_M_settle_190 : decode b_M_settle 190 = .ok (.lstore 4, 2) := by decide +kernel
theorem d_M_settle_192 : decode b_M_settle 192 = .ok (.aload_n 0, 1) := by decide +kernel
theorem d_M_settle_193 : decode b_M_settle 193 = .ok (.getfield 33, 3) := by decide +kernel
theorem d_M_settle_196 : decode b_M_settle 196 = .ok (.iload_n 2, 1) := by decide +kernel
theorem d_M_settle_197 : decode b_M_settle 197 = .ok (.dup2, 1) := by decide +kernel
theorem d_M_settle_198 : decode b_M_settle 198 = .ok (.laload, 1) := by decide +kernel
theorem d_M_settle_199 : decode b_M_settle 199 = .ok (.lload 4, 2) := by decide +kernel
theorem d_M_settle_201 : decode b_M_settle 201 = .ok (.ladd, 1) := by decide +kernel
theorem d_M_settle_202 : decode b_M_settle 202 = .ok (.lastore, 1) := by decide +kernel
theorem d_M_settle_203 : decode b_M_settle 203 = .ok (.aload_n 0, 1) := by decide +kernel
theorem d_M_settle_204 : decode b_M_settle 204 = .ok (.getfield 33, 3) := by decide +kernel
theorem d_M_settle_207 : decode b_M_settle 207 = .ok (.iload_n 3, 1) := by decide +kernel
theorem d_M_settle_208 : decode b_M_settle 208 = .ok (.dup2, 1) := by decide +kernel
theorem d_M_settle_209 : decode b_M_settle 209 = .ok (.laload, 1) := by decide +kernel
theorem d_M_settle_210 : decode b_M_settle 210 = .ok (.lload 4, 2) := by decide +kernel
theorem d_M_settle_212 : decode b_M_settle 212 = .ok (.lsub, 1) := by decide +kernel
theorem d_M_settle_213 : decode b_M_settle 213 = .ok (.lastore, 1) := by decide +kernel
theorem d_M_settle_214 : decode b_M_settle 214 = .ok (.aload_n 0, 1) := by decide +kernel
theorem d_M_settle_215 : decode b_M_settle 215 = .ok (.getfield 36, 3) := by decide +kernel
theorem d_M_settle_218 : decode b_M_settle 218 = .ok (.aload_n 0, 1) := by decide +kernel
theorem d_M_settle_219 : decode b_M_settle 219 = .ok (.getfield 66, 3) := by decide +kernel
theorem d_M_settle_222 : decode b_M_settle 222 = .ok (.iload_n 2, 1) := by decide +kernel
theorem d_M_settle_223 : decode b_M_settle 223 = .ok (.iastore, 1) := by decide +kernel
theorem d_M_settle_224 : decode b_M_settle 224 = .ok (.aload_n 0, 1) := by decide +kernel
theorem d_M_settle_225 : decode b_M_settle 225 = .ok (.getfield 39, 3) := by decide +kernel
theorem d_M_settle_228 : decode b_M_settle 228 = .ok (.aload_n 0, 1) := by decide +kernel
theorem d_M_settle_229 : decode b_M_settle 229 = .ok (.getfield 66, 3) := by decide +kernel
theorem d_M_settle_232 : decode b_M_settle 232 = .ok (.iload_n 3, 1) := by decide +kernel
theorem d_M_settle_233 : decode b_M_settle 233 = .ok (.iastore, 1) := by decide +kernel
theorem d_M_settle_234 : decode b_M_settle 234 = .ok (.aload_n 0, 1) := by decide +kernel
theorem d_M_settle_235 : decode b_M_settle 235 = .ok (.getfield 42, 3) := by decide +kernel
theorem d_M_settle_238 : decode b_M_settle 238 = .ok (.aload_n 0, 1) := by decide +kernel
theorem d_M_settle_239 : decode b_M_settle 239 = .ok (.getfield 66, 3) := by decide +kernel
theorem d_M_settle_242 : decode b_M_settle 242 = .ok (.lload 4, 2) := by decide +kernel
theorem d_M_settle_244 : decode b_M_settle 244 = .ok (.lastore, 1) := by decide +kernel
theorem d_M_settle_245 : decode b_M_settle 245 = .ok (.aload_n 0, 1) := by decide +kernel
theorem d_M_settle_246 : decode b_M_settle 246 = .ok (.dup, 1) := by decide +kernel
theorem d_M_settle_247 : decode b_M_settle 247 = .ok (.getfield 66, 3) := by decide +kernel
theorem d_M_settle_250 : decode b_M_settle 250 = .ok (.iconst 1, 1) := by decide +kernel
theorem d_M_settle_251 : decode b_M_settle 251 = .ok (.iadd, 1) := by decide +kernel
theorem d_M_settle_252 : decode b_M_settle 252 = .ok (.putfield 66, 3) := by decide +kernel
theorem d_M_settle_255 : decode b_M_settle 255 = .ok (.goto (-193), 3) := by decide +kernel
theorem d_M_settle_258 : decode b_M_settle 258 = .ok (.aload_n 0, 1) := by decide +kernel
theorem d_M_settle_259 : decode b_M_settle 259 = .ok (.getfield 66, 3) := by decide +kernel
theorem d_M_settle_262 : decode b_M_settle 262 = .ok (.ireturn, 1) := by decide +kernel
theorem d_M_transfer_0 : decode b_M_transfer 0 = .ok (.aload_n 0, 1) := by decide +kernel
theorem d_M_transfer_1 : decode b_M_transfer 1 = .ok (.iload_n 1, 1) := by decide +kernel
theorem d_M_transfer_2 : decode b_M_transfer 2 = .ok (.ifCond .lt 24, 3) := by decide +kernel
theorem d_M_transfer_5 : decode b_M_transfer 5 = .ok (.iload_n 1, 1) := by decide +kernel
theorem d_M_transfer_6 : decode b_M_transfer 6 = .ok (.aload_n 0, 1) := by decide +kernel
theorem d_M_transfer_7 : decode b_M_transfer 7 = .ok (.getfield 66, 3) := by decide +kernel
theorem d_M_transfer_10 : decode b_M_transfer 10 = .ok (.if_icmp .ge 16, 3) := by decide +kernel
theorem d_M_transfer_13 : decode b_M_transfer 13 = .ok (.iload_n 2, 1) := by decide +kernel
theorem d_M_transfer_14 : decode b_M_transfer 14 = .ok (.ifCond .lt 12, 3) := by decide +kernel
theorem d_M_transfer_17 : decode b_M_transfer 17 = .ok (.iload_n 2, 1) := by decide +kernel
theorem d_M_transfer_18 : decode b_M_transfer 18 = .ok (.iconst 2, 1) := by decide +kernel
theorem d_M_transfer_19 : decode b_M_transfer 19 = .ok (.if_icmp .gt 7, 3) := by decide +kernel
theorem d_M_transfer_22 : decode b_M_transfer 22 = .ok (.iconst 1, 1) := by decide +kernel
theorem d_M_transfer_23 : decode b_M_transfer 23 = .ok (.goto 4, 3) := by decide +kernel
theorem d_M_transfer_26 : decode b_M_transfer 26 = .ok (.iconst 0, 1) := by decide +kernel
theorem d_M_transfer_27 : decode b_M_transfer 27 = .ok (.invokevirtual 58, 3) := by decide +kernel
theorem d_M_transfer_30 : decode b_M_transfer 30 = .ok (.ifCond .ne 5, 3) := by decide +kernel
theorem d_M_transfer_33 : decode b_M_transfer 33 = .ok (.lconst 0, 1) := by decide +kernel
theorem d_M_transfer_34 : decode b_M_transfer 34 = .ok (.lreturn, 1) := by decide +kernel
theorem d_M_transfer_35 : decode b_M_transfer 35 = .ok (.iload_n 2, 1) := by decide +kernel
theorem d_M_transfer_36 : decode b_M_transfer 36 = .ok (.ifCond .ne 13, 3) := by decide +kernel
theorem d_M_transfer_39 : decode b_M_transfer 39 = .ok (.aload_n 0, 1) := by decide +kernel
theorem d_M_transfer_40 : decode b_M_transfer 40 = .ok (.getfield 36, 3) := by decide +kernel
theorem d_M_transfer_43 : decode b_M_transfer 43 = .ok (.iload_n 1, 1) := by decide +kernel
theorem d_M_transfer_44 : decode b_M_transfer 44 = .ok (.iaload, 1) := by decide +kernel
theorem d_M_transfer_45 : decode b_M_transfer 45 = .ok (.i2l, 1) := by decide +kernel
theorem d_M_transfer_46 : decode b_M_transfer 46 = .ok (.goto 24, 3) := by decide +kernel
theorem d_M_transfer_49 : decode b_M_transfer 49 = .ok (.iload_n 2, 1) := by decide +kernel
theorem d_M_transfer_50 : decode b_M_transfer 50 = .ok (.iconst 1, 1) := by decide +kernel
theorem d_M_transfer_51 : decode b_M_transfer 51 = .ok (.if_icmp .ne 13, 3) := by decide +kernel
theorem d_M_transfer_54 : decode b_M_transfer 54 = .ok (.aload_n 0, 1) := by decide +kernel
theorem d_M_transfer_55 : decode b_M_transfer 55 = .ok (.getfield 39, 3) := by decide +kernel
theorem d_M_transfer_58 : decode b_M_transfer 58 = .ok (.iload_n 1, 1) := by decide +kernel
theorem d_M_transfer_59 : decode b_M_transfer 59 = .ok (.iaload, 1) := by decide +kernel
theorem d_M_transfer_60 : decode b_M_transfer 60 = .ok (.i2l, 1) := by decide +kernel
theorem d_M_transfer_61 : decode b_M_transfer 61 = .ok (.goto 9, 3) := by decide +kernel
theorem d_M_transfer_64 : decode b_M_transfer 64 = .ok (.aload_n 0, 1) := by decide +kernel
theorem d_M_transfer_65 : decode b_M_transfer 65 = .ok (.getfield 42, 3) := by decide +kernel
theorem d_M_transfer_68 : decode b_M_transfer 68 = .ok (.iload_n 1, 1) := by decide +kernel
theorem d_M_transfer_69 : decode b_M_transfer 69 = .ok (.laload, 1) := by decide +kernel
theorem d_M_transfer_70 : decode b_M_transfer 70 = .ok (.lreturn, 1) := by decide +kernel
theorem d_M_party_0 : decode b_M_party 0 = .ok (.aload_n 0, 1) := by decide +kernel
theorem d_M_party_1 : decode b_M_party 1 = .ok (.iload_n 1, 1) := by decide +kernel
theorem d_M_party_2 : decode b_M_party 2 = .ok (.ifCond .lt 24, 3) := by decide +kernel
theorem d_M_party_5 : decode b_M_party 5 = .ok (.iload_n 1, 1) := by decide +kernel
theorem d_M_party_6 : decode b_M_party 6 = .ok (.aload_n 0, 1) := by decide +kernel
theorem d_M_party_7 : decode b_M_party 7 = .ok (.getfield 7, 3) := by decide +kernel
theorem d_M_party_10 : decode b_M_party 10 = .ok (.if_icmp .ge 16, 3) := by decide +kernel
theorem d_M_party_13 : decode b_M_party 13 = .ok (.iload_n 2, 1) := by decide +kernel
theorem d_M_party_14 : decode b_M_party 14 = .ok (.ifCond .lt 12, 3) := by decide +kernel
theorem d_M_party_17 : decode b_M_party 17 = .ok (.iload_n 2, 1) := by decide +kernel
theorem d_M_party_18 : decode b_M_party 18 = .ok (.iconst 4, 1) := by decide +kernel
theorem d_M_party_19 : decode b_M_party 19 = .ok (.if_icmp .gt 7, 3) := by decide +kernel
theorem d_M_party_22 : decode b_M_party 22 = .ok (.iconst 1, 1) := by decide +kernel
theorem d_M_party_23 : decode b_M_party 23 = .ok (.goto 4, 3) := by decide +kernel
theorem d_M_party_26 : decode b_M_party 26 = .ok (.iconst 0, 1) := by decide +kernel
theorem d_M_party_27 : decode b_M_party 27 = .ok (.invokevirtual 58, 3) := by decide +kernel
theorem d_M_party_30 : decode b_M_party 30 = .ok (.ifCond .ne 5, 3) := by decide +kernel
theorem d_M_party_33 : decode b_M_party 33 = .ok (.lconst 0, 1) := by decide +kernel
theorem d_M_party_34 : decode b_M_party 34 = .ok (.lreturn, 1) := by decide +kernel
theorem d_M_party_35 : decode b_M_party 35 = .ok (.iload_n 2, 1) := by decide +kernel
theorem d_M_party_36 : decode b_M_party 36 = .ok (.iconst 4, 1) := by decide +kernel
theorem d_M_party_37 : decode b_M_party 37 = .ok (.if_icmp .ge 53, 3) := by decide +kernel
theorem d_M_party_40 : decode b_M_party 40 = .ok (.iload_n 2, 1) := by decide +kernel
theorem d_M_party_41 : decode b_M_party 41 = .ok (.ifCond .ne 12, 3) := by decide +kernel
theorem d_M_party_44 : decode b_M_party 44 = .ok (.aload_n 0, 1) := by decide +kernel
theorem d_M_party_45 : decode b_M_party 45 = .ok (.getfield 20, 3) := by decide +kernel
theorem d_M_party_48 : decode b_M_party 48 = .ok (.iload_n 1, 1) := by decide +kernel
theorem d_M_party_49 : decode b_M_party 49 = .ok (.laload, 1) := by decide +kernel
theorem d_M_party_50 : decode b_M_party 50 = .ok (.goto 39, 3) := by decide +kernel
theorem d_M_party_53 : decode b_M_party 53 = .ok (.iload_n 2, 1) := by decide +kernel
theorem d_M_party_54 : decode b_M_party 54 = .ok (.iconst 1, 1) := by decide +kernel
theorem d_M_party_55 : decode b_M_party 55 = .ok (.if_icmp .ne 12, 3) := by decide +kernel
theorem d_M_party_58 : decode b_M_party 58 = .ok (.aload_n 0, 1) := by decide +kernel
theorem d_M_party_59 : decode b_M_party 59 = .ok (.getfield 24, 3) := by decide +kernel
theorem d_M_party_62 : decode b_M_party 62 = .ok (.iload_n 1, 1) := by decide +kernel
theorem d_M_party_63 : decode b_M_party 63 = .ok (.laload, 1) := by decide +kernel
theorem d_M_party_64 : decode b_M_party 64 = .ok (.goto 25, 3) := by decide +kernel
theorem d_M_party_67 : decode b_M_party 67 = .ok (.iload_n 2, 1) := by decide +kernel
theorem d_M_party_68 : decode b_M_party 68 = .ok (.iconst 2, 1) := by decide +kernel
theorem d_M_party_69 : decode b_M_party 69 = .ok (.if_icmp .ne 13, 3) := by decide +kernel
theorem d_M_party_72 : decode b_M_party 72 = .ok (.aload_n 0, 1) := by decide +kernel
theorem d_M_party_73 : decode b_M_party 73 = .ok (.getfield 13, 3) := by decide +kernel
theorem d_M_party_76 : decode b_M_party 76 = .ok (.iload_n 1, 1) := by decide +kernel
theorem d_M_party_77 : decode b_M_party 77 = .ok (.iaload, 1) := by decide +kernel
theorem d_M_party_78 : decode b_M_party 78 = .ok (.i2l, 1) := by decide +kernel
theorem d_M_party_79 : decode b_M_party 79 = .ok (.goto 10, 3) := by decide +kernel
theorem d_M_party_82 : decode b_M_party 82 = .ok (.aload_n 0, 1) := by decide +kernel
theorem d_M_party_83 : decode b_M_party 83 = .ok (.getfield 17, 3) := by decide +kernel
theorem d_M_party_86 : decode b_M_party 86 = .ok (.iload_n 1, 1) := by decide +kernel
theorem d_M_party_87 : decode b_M_party 87 = .ok (.iaload, 1) := by decide +kernel
theorem d_M_party_88 : decode b_M_party 88 = .ok (.i2l, 1) := by decide +kernel
theorem d_M_party_89 : decode b_M_party 89 = .ok (.lreturn, 1) := by decide +kernel
theorem d_M_party_90 : decode b_M_party 90 = .ok (.iconst 0, 1) := by decide +kernel
theorem d_M_party_91 : decode b_M_party 91 = .ok (.istore_n 3, 1) := by decide +kernel
theorem d_M_party_92 : decode b_M_party 92 = .ok (.iconst 0, 1) := by decide +kernel
theorem d_M_party_93 : decode b_M_party 93 = .ok (.istore 4, 2) := by decide +kernel
theorem d_M_party_95 : decode b_M_party 95 = .ok (.iload 4, 2) := by decide +kernel
theorem d_M_party_97 : decode b_M_party 97 = .ok (.aload_n 0, 1) := by decide +kernel
theorem d_M_party_98 : decode b_M_party 98 = .ok (.getfield 7, 3) := by decide +kernel
theorem d_M_party_101 : decode b_M_party 101 = .ok (.if_icmp .ge 57, 3) := by decide +kernel
theorem d_M_party_104 : decode b_M_party 104 = .ok (.iload_n 3, 1) := by decide +kernel
theorem d_M_party_105 : decode b_M_party 105 = .ok (.aload_n 0, 1) := by decide +kernel
theorem d_M_party_106 : decode b_M_party 106 = .ok (.getfield 20, 3) := by decide +kernel
theorem d_M_party_109 : decode b_M_party 109 = .ok (.iload 4, 2) := by decide +kernel
theorem d_M_party_111 : decode b_M_party 111 = .ok (.laload, 1) := by decide +kernel
theorem d_M_party_112 : decode b_M_party 112 = .ok (.aload_n 0, 1) := by decide +kernel
theorem d_M_party_113 : decode b_M_party 113 = .ok (.getfield 20, 3) := by decide +kernel
theorem d_M_party_116 : decode b_M_party 116 = .ok (.iload_n 1, 1) := by decide +kernel
theorem d_M_party_117 : decode b_M_party 117 = .ok (.laload, 1) := by decide +kernel
theorem d_M_party_118 : decode b_M_party 118 = .ok (.lcmp, 1) := by decide +kernel
theorem d_M_party_119 : decode b_M_party 119 = .ok (.ifCond .gt 26, 3) := by decide +kernel
theorem d_M_party_122 : decode b_M_party 122 = .ok (.aload_n 0, 1) := by decide +kernel
theorem d_M_party_123 : decode b_M_party 123 = .ok (.getfield 20, 3) := by decide +kernel
theorem d_M_party_126 : decode b_M_party 126 = .ok (.iload 4, 2) := by decide +kernel
theorem d_M_party_128 : decode b_M_party 128 = .ok (.laload, 1) := by decide +kernel
theorem d_M_party_129 : decode b_M_party 129 = .ok (.aload_n 0, 1) := by decide +kernel
theorem d_M_party_130 : decode b_M_party 130 = .ok (.getfield 20, 3) := by decide +kernel
theorem d_M_party_133 : decode b_M_party 133 = .ok (.iload_n 1, 1) := by decide +kernel
theorem d_M_party_134 : decode b_M_party 134 = .ok (.laload, 1) := by decide +kernel
theorem d_M_party_135 : decode b_M_party 135 = .ok (.lcmp, 1) := by decide +kernel
theorem d_M_party_136 : decode b_M_party 136 = .ok (.ifCond .ne 13, 3) := by decide +kernel
theorem d_M_party_139 : decode b_M_party 139 = .ok (.iload 4, 2) := by decide +kernel
theorem d_M_party_141 : decode b_M_party 141 = .ok (.iload_n 1, 1) := by decide +kernel
theorem d_M_party_142 : decode b_M_party 142 = .ok (.if_icmp .ge 7, 3) := by decide +kernel
theorem d_M_party_145 : decode b_M_party 145 = .ok (.iconst 1, 1) := by decide +kernel
theorem d_M_party_146 : decode b_M_party 146 = .ok (.goto 4, 3) := by decide +kernel
theorem d_M_party_149 : decode b_M_party 149 = .ok (.iconst 0, 1) := by decide +kernel
theorem d_M_party_150 : decode b_M_party 150 = .ok (.iadd, 1) := by decide +kernel
theorem d_M_party_151 : decode b_M_party 151 = .ok (.istore_n 3, 1) := by decide +kernel
theorem d_M_party_152 : decode b_M_party 152 = .ok (.iinc 4 1, 3) := by decide +kernel
theorem d_M_party_155 : decode b_M_party 155 = .ok (.goto (-60), 3) := by decide +kernel
theorem d_M_party_158 : decode b_M_party 158 = .ok (.iload_n 3, 1) := by decide +kernel
theorem d_M_party_159 : decode b_M_party 159 = .ok (.i2l, 1) := by decide +kernel
theorem d_M_party_160 : decode b_M_party 160 = .ok (.lreturn, 1) := by decide +kernel
theorem d_M_parties_0 : decode b_M_parties 0 = .ok (.aload_n 0, 1) := by decide +kernel
theorem d_M_parties_1 : decode b_M_parties 1 = .ok (.iconst 0, 1) := by decide +kernel
theorem d_M_parties_2 : decode b_M_parties 2 = .ok (.putfield 45, 3) := by decide +kernel
theorem d_M_parties_5 : decode b_M_parties 5 = .ok (.aload_n 0, 1) := by decide +kernel
theorem d_M_parties_6 : decode b_M_parties 6 = .ok (.getfield 7, 3) := by decide +kernel
theorem d_M_parties_9 : decode b_M_parties 9 = .ok (.ireturn, 1) := by decide +kernel
theorem d_M_audit_0 : decode b_M_audit 0 = .ok (.aload_n 0, 1) := by decide +kernel
theorem d_M_audit_1 : decode b_M_audit 1 = .ok (.iconst 0, 1) := by decide +kernel
theorem d_M_audit_2 : decode b_M_audit 2 = .ok (.putfield 45, 3) := by decide +kernel
theorem d_M_audit_5 : decode b_M_audit 5 = .ok (.iconst 0, 1) := by decide +kernel
theorem d_M_audit_6 : decode b_M_audit 6 = .ok (.ireturn, 1) := by decide +kernel
theorem d_L_acquirer_0 : decode b_L_acquirer 0 = .ok (.aload_n 2, 1) := by decide +kernel
theorem d_L_acquirer_1 : decode b_L_acquirer 1 = .ok (.iconst 0, 1) := by decide +kernel
theorem d_L_acquirer_2 : decode b_L_acquirer 2 = .ok (.aload_n 0, 1) := by decide +kernel
theorem d_L_acquirer_3 : decode b_L_acquirer 3 = .ok (.iload_n 1, 1) := by decide +kernel
theorem d_L_acquirer_4 : decode b_L_acquirer 4 = .ok (.invokevirtual 7, 3) := by decide +kernel
theorem d_L_acquirer_7 : decode b_L_acquirer 7 = .ok (.i2l, 1) := by decide +kernel
theorem d_L_acquirer_8 : decode b_L_acquirer 8 = .ok (.lastore, 1) := by decide +kernel
theorem d_L_acquirer_9 : decode b_L_acquirer 9 = .ok (.goto 9, 3) := by decide +kernel
theorem d_L_acquirer_12 : decode b_L_acquirer 12 = .ok (.astore_n 3, 1) := by decide +kernel
theorem d_L_acquirer_13 : decode b_L_acquirer 13 = .ok (.iconst 1, 1) := by decide +kernel
theorem d_L_acquirer_14 : decode b_L_acquirer 14 = .ok (.ireturn, 1) := by decide +kernel
theorem d_L_acquirer_15 : decode b_L_acquirer 15 = .ok (.astore_n 3, 1) := by decide +kernel
theorem d_L_acquirer_16 : decode b_L_acquirer 16 = .ok (.iconst 2, 1) := by decide +kernel
theorem d_L_acquirer_17 : decode b_L_acquirer 17 = .ok (.ireturn, 1) := by decide +kernel
theorem d_L_acquirer_18 : decode b_L_acquirer 18 = .ok (.iconst 0, 1) := by decide +kernel
theorem d_L_acquirer_19 : decode b_L_acquirer 19 = .ok (.ireturn, 1) := by decide +kernel
theorem d_L_issuer_0 : decode b_L_issuer 0 = .ok (.aload_n 2, 1) := by decide +kernel
theorem d_L_issuer_1 : decode b_L_issuer 1 = .ok (.iconst 0, 1) := by decide +kernel
theorem d_L_issuer_2 : decode b_L_issuer 2 = .ok (.aload_n 0, 1) := by decide +kernel
theorem d_L_issuer_3 : decode b_L_issuer 3 = .ok (.iload_n 1, 1) := by decide +kernel
theorem d_L_issuer_4 : decode b_L_issuer 4 = .ok (.invokevirtual 17, 3) := by decide +kernel
theorem d_L_issuer_7 : decode b_L_issuer 7 = .ok (.i2l, 1) := by decide +kernel
theorem d_L_issuer_8 : decode b_L_issuer 8 = .ok (.lastore, 1) := by decide +kernel
theorem d_L_issuer_9 : decode b_L_issuer 9 = .ok (.goto 9, 3) := by decide +kernel
theorem d_L_issuer_12 : decode b_L_issuer 12 = .ok (.astore_n 3, 1) := by decide +kernel
theorem d_L_issuer_13 : decode b_L_issuer 13 = .ok (.iconst 1, 1) := by decide +kernel
theorem d_L_issuer_14 : decode b_L_issuer 14 = .ok (.ireturn, 1) := by decide +kernel
theorem d_L_issuer_15 : decode b_L_issuer 15 = .ok (.astore_n 3, 1) := by decide +kernel
theorem d_L_issuer_16 : decode b_L_issuer 16 = .ok (.iconst 2, 1) := by decide +kernel
theorem d_L_issuer_17 : decode b_L_issuer 17 = .ok (.ireturn, 1) := by decide +kernel
theorem d_L_issuer_18 : decode b_L_issuer 18 = .ok (.iconst 0, 1) := by decide +kernel
theorem d_L_issuer_19 : decode b_L_issuer 19 = .ok (.ireturn, 1) := by decide +kernel
theorem d_L_clear_0 : decode b_L_clear 0 = .ok (.aload 5, 2) := by decide +kernel
theorem d_L_clear_2 : decode b_L_clear 2 = .ok (.iconst 0, 1) := by decide +kernel
theorem d_L_clear_3 : decode b_L_clear 3 = .ok (.aload_n 0, 1) := by decide +kernel
theorem d_L_clear_4 : decode b_L_clear 4 = .ok (.iload_n 1, 1) := by decide +kernel
theorem d_L_clear_5 : decode b_L_clear 5 = .ok (.iload_n 2, 1) := by decide +kernel
theorem d_L_clear_6 : decode b_L_clear 6 = .ok (.lload_n 3, 1) := by decide +kernel
theorem d_L_clear_7 : decode b_L_clear 7 = .ok (.invokevirtual 20, 3) := by decide +kernel
theorem d_L_clear_10 : decode b_L_clear 10 = .ok (.lastore, 1) := by decide +kernel
theorem d_L_clear_11 : decode b_L_clear 11 = .ok (.goto 7, 3) := by decide +kernel
theorem d_L_clear_14 : decode b_L_clear 14 = .ok (.astore 6, 2) := by decide +kernel
theorem d_L_clear_16 : decode b_L_clear 16 = .ok (.iconst 1, 1) := by decide +kernel
theorem d_L_clear_17 : decode b_L_clear 17 = .ok (.ireturn, 1) := by decide +kernel
theorem d_L_clear_18 : decode b_L_clear 18 = .ok (.iconst 0, 1) := by decide +kernel
theorem d_L_clear_19 : decode b_L_clear 19 = .ok (.ireturn, 1) := by decide +kernel
theorem d_L_back_0 : decode b_L_back 0 = .ok (.aload 5, 2) := by decide +kernel
theorem d_L_back_2 : decode b_L_back 2 = .ok (.iconst 0, 1) := by decide +kernel
theorem d_L_back_3 : decode b_L_back 3 = .ok (.aload_n 0, 1) := by decide +kernel
theorem d_L_back_4 : decode b_L_back 4 = .ok (.iload_n 1, 1) := by decide +kernel
theorem d_L_back_5 : decode b_L_back 5 = .ok (.iload_n 2, 1) := by decide +kernel
theorem d_L_back_6 : decode b_L_back 6 = .ok (.lload_n 3, 1) := by decide +kernel
theorem d_L_back_7 : decode b_L_back 7 = .ok (.invokevirtual 24, 3) := by decide +kernel
theorem d_L_back_10 : decode b_L_back 10 = .ok (.lastore, 1) := by decide +kernel
theorem d_L_back_11 : decode b_L_back 11 = .ok (.goto 7, 3) := by decide +kernel
theorem d_L_back_14 : decode b_L_back 14 = .ok (.astore 6, 2) := by decide +kernel
theorem d_L_back_16 : decode b_L_back 16 = .ok (.iconst 1, 1) := by decide +kernel
theorem d_L_back_17 : decode b_L_back 17 = .ok (.ireturn, 1) := by decide +kernel
theorem d_L_back_18 : decode b_L_back 18 = .ok (.iconst 0, 1) := by decide +kernel
theorem d_L_back_19 : decode b_L_back 19 = .ok (.ireturn, 1) := by decide +kernel
theorem d_L_reconcile_0 : decode b_L_reconcile 0 = .ok (.aload 5, 2) := by decide +kernel
theorem d_L_reconcile_2 : decode b_L_reconcile 2 = .ok (.iconst 0, 1) := by decide +kernel
theorem d_L_reconcile_3 : decode b_L_reconcile 3 = .ok (.aload_n 0, 1) := by decide +kernel
theorem d_L_reconcile_4 : decode b_L_reconcile 4 = .ok (.iload_n 1, 1) := by decide +kernel
theorem d_L_reconcile_5 : decode b_L_reconcile 5 = .ok (.iload_n 2, 1) := by decide +kernel
theorem d_L_reconcile_6 : decode b_L_reconcile 6 = .ok (.lload_n 3, 1) := by decide +kernel
theorem d_L_reconcile_7 : decode b_L_reconcile 7 = .ok (.invokevirtual 27, 3) := by decide +kernel
theorem d_L_reconcile_10 : decode b_L_reconcile 10 = .ok (.ifCond .eq 7, 3) := by decide +kernel
theorem d_L_reconcile_13 : decode b_L_reconcile 13 = .ok (.lconst 1, 1) := by decide +kernel
theorem d_L_reconcile_14 : decode b_L_reconcile 14 = .ok (.goto 4, 3) := by decide +kernel
theorem d_L_reconcile_17 : decode b_L_reconcile 17 = .ok (.lconst 0, 1) := by decide +kernel
theorem d_L_reconcile_18 : decode b_L_reconcile 18 = .ok (.lastore, 1) := by decide +kernel
theorem d_L_reconcile_19 : decode b_L_reconcile 19 = .ok (.goto 7, 3) := by decide +kernel
theorem d_L_reconcile_22 : decode b_L_reconcile 22 = .ok (.astore 6, 2) := by decide +kernel
theorem d_L_reconcile_24 : decode b_L_reconcile 24 = .ok (.iconst 1, 1) := by decide +kernel
theorem d_L_reconcile_25 : decode b_L_reconcile 25 = .ok (.ireturn, 1) := by decide +kernel
theorem d_L_reconcile_26 : decode b_L_reconcile 26 = .ok (.iconst 0, 1) := by decide +kernel
theorem d_L_reconcile_27 : decode b_L_reconcile 27 = .ok (.ireturn, 1) := by decide +kernel
theorem d_L_batch_0 : decode b_L_batch 0 = .ok (.aload_n 3, 1) := by decide +kernel
theorem d_L_batch_1 : decode b_L_batch 1 = .ok (.iconst 0, 1) := by decide +kernel
theorem d_L_batch_2 : decode b_L_batch 2 = .ok (.aload_n 0, 1) := by decide +kernel
theorem d_L_batch_3 : decode b_L_batch 3 = .ok (.iload_n 1, 1) := by decide +kernel
theorem d_L_batch_4 : decode b_L_batch 4 = .ok (.iload_n 2, 1) := by decide +kernel
theorem d_L_batch_5 : decode b_L_batch 5 = .ok (.invokevirtual 31, 3) := by decide +kernel
theorem d_L_batch_8 : decode b_L_batch 8 = .ok (.lastore, 1) := by decide +kernel
theorem d_L_batch_9 : decode b_L_batch 9 = .ok (.goto 7, 3) := by decide +kernel
theorem d_L_batch_12 : decode b_L_batch 12 = .ok (.astore 4, 2) := by decide +kernel
theorem d_L_batch_14 : decode b_L_batch 14 = .ok (.iconst 1, 1) := by decide +kernel
theorem d_L_batch_15 : decode b_L_batch 15 = .ok (.ireturn, 1) := by decide +kernel
theorem d_L_batch_16 : decode b_L_batch 16 = .ok (.iconst 0, 1) := by decide +kernel
theorem d_L_batch_17 : decode b_L_batch 17 = .ok (.ireturn, 1) := by decide +kernel
theorem d_L_transfer_0 : decode b_L_transfer 0 = .ok (.aload_n 3, 1) := by decide +kernel
theorem d_L_transfer_1 : decode b_L_transfer 1 = .ok (.iconst 0, 1) := by decide +kernel
theorem d_L_transfer_2 : decode b_L_transfer 2 = .ok (.aload_n 0, 1) := by decide +kernel
theorem d_L_transfer_3 : decode b_L_transfer 3 = .ok (.iload_n 1, 1) := by decide +kernel
theorem d_L_transfer_4 : decode b_L_transfer 4 = .ok (.iload_n 2, 1) := by decide +kernel
theorem d_L_transfer_5 : decode b_L_transfer 5 = .ok (.invokevirtual 35, 3) := by decide +kernel
theorem d_L_transfer_8 : decode b_L_transfer 8 = .ok (.lastore, 1) := by decide +kernel
theorem d_L_transfer_9 : decode b_L_transfer 9 = .ok (.goto 7, 3) := by decide +kernel
theorem d_L_transfer_12 : decode b_L_transfer 12 = .ok (.astore 4, 2) := by decide +kernel
theorem d_L_transfer_14 : decode b_L_transfer 14 = .ok (.iconst 1, 1) := by decide +kernel
theorem d_L_transfer_15 : decode b_L_transfer 15 = .ok (.ireturn, 1) := by decide +kernel
theorem d_L_transfer_16 : decode b_L_transfer 16 = .ok (.iconst 0, 1) := by decide +kernel
theorem d_L_transfer_17 : decode b_L_transfer 17 = .ok (.ireturn, 1) := by decide +kernel
theorem d_L_party_0 : decode b_L_party 0 = .ok (.aload_n 3, 1) := by decide +kernel
theorem d_L_party_1 : decode b_L_party 1 = .ok (.iconst 0, 1) := by decide +kernel
theorem d_L_party_2 : decode b_L_party 2 = .ok (.aload_n 0, 1) := by decide +kernel
theorem d_L_party_3 : decode b_L_party 3 = .ok (.iload_n 1, 1) := by decide +kernel
theorem d_L_party_4 : decode b_L_party 4 = .ok (.iload_n 2, 1) := by decide +kernel
theorem d_L_party_5 : decode b_L_party 5 = .ok (.invokevirtual 38, 3) := by decide +kernel
theorem d_L_party_8 : decode b_L_party 8 = .ok (.lastore, 1) := by decide +kernel
theorem d_L_party_9 : decode b_L_party 9 = .ok (.goto 7, 3) := by decide +kernel
theorem d_L_party_12 : decode b_L_party 12 = .ok (.astore 4, 2) := by decide +kernel
theorem d_L_party_14 : decode b_L_party 14 = .ok (.iconst 1, 1) := by decide +kernel
theorem d_L_party_15 : decode b_L_party 15 = .ok (.ireturn, 1) := by decide +kernel
theorem d_L_party_16 : decode b_L_party 16 = .ok (.iconst 0, 1) := by decide +kernel
theorem d_L_party_17 : decode b_L_party 17 = .ok (.ireturn, 1) := by decide +kernel
