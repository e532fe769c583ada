theorem dX6_init_0 : decode cX6_init 0 = .ok (.aload_n 0, 1) := by decide +kernel
theorem dX6_init_1 : decode cX6_init 1 = .ok (.invokespecial 1, 3) := by decide +kernel
theorem dX6_init_4 : decode cX6_init 4 = .ok (.aload_n 0, 1) := by decide +kernel
theorem dX6_init_5 : decode cX6_init 5 = .ok (.iconst 3, 1) := by decide +kernel
theorem dX6_init_6 : decode cX6_init 6 = .ok (.putfield 7, 3) := by decide +kernel
theorem dX6_init_9 : decode cX6_init 9 = .ok (.aload_n 0, 1) := by decide +kernel
theorem dX6_init_10 : decode cX6_init 10 = .ok (.iconst 1, 1) := by decide +kernel
theorem dX6_init_11 : decode cX6_init 11 = .ok (.putfield 13, 3) := by decide +kernel
theorem dX6_init_14 : decode cX6_init 14 = .ok (.aload_n 0, 1) := by decide +kernel
theorem dX6_init_15 : decode cX6_init 15 = .ok (.iconst 1, 1) := by decide +kernel
theorem dX6_init_16 : decode cX6_init 16 = .ok (.putfield 16, 3) := by decide +kernel
theorem dX6_init_19 : decode cX6_init 19 = .ok (.aload_n 0, 1) := by decide +kernel
theorem dX6_init_20 : decode cX6_init 20 = .ok (.bipush 7, 2) := by decide +kernel
theorem dX6_init_22 : decode cX6_init 22 = .ok (.newarray .boolean, 2) := by decide +kernel
theorem dX6_init_24 : decode cX6_init 24 = .ok (.putfield 20, 3) := by decide +kernel
theorem dX6_init_27 : decode cX6_init 27 = .ok (.aload_n 0, 1) := by decide +kernel
theorem dX6_init_28 : decode cX6_init 28 = .ok (.bipush 7, 2) := by decide +kernel
theorem dX6_init_30 : decode cX6_init 30 = .ok (.newarray .boolean, 2) := by decide +kernel
theorem dX6_init_32 : decode cX6_init 32 = .ok (.putfield 24, 3) := by decide +kernel
theorem dX6_init_35 : decode cX6_init 35 = .ok (.aload_n 0, 1) := by decide +kernel
theorem dX6_init_36 : decode cX6_init 36 = .ok (.bipush 7, 2) := by decide +kernel
theorem dX6_init_38 : decode cX6_init 38 = .ok (.newarray .int, 2) := by decide +kernel
theorem dX6_init_40 : decode cX6_init 40 = .ok (.putfield 27, 3) := by decide +kernel
theorem dX6_init_43 : decode cX6_init 43 = .ok (.aload_n 0, 1) := by decide +kernel
theorem dX6_init_44 : decode cX6_init 44 = .ok (.bipush 7, 2) := by decide +kernel
theorem dX6_init_46 : decode cX6_init 46 = .ok (.newarray .int, 2) := by decide +kernel
theorem dX6_init_48 : decode cX6_init 48 = .ok (.putfield 31, 3) := by decide +kernel
theorem dX6_init_51 : decode cX6_init 51 = .ok (.aload_n 0, 1) := by decide +kernel
theorem dX6_init_52 : decode cX6_init 52 = .ok (.bipush 7, 2) := by decide +kernel
theorem dX6_init_54 : decode cX6_init 54 = .ok (.newarray .int, 2) := by decide +kernel
theorem dX6_init_56 : decode cX6_init 56 = .ok (.putfield 34, 3) := by decide +kernel
theorem dX6_init_59 : decode cX6_init 59 = .ok (.aload_n 0, 1) := by decide +kernel
theorem dX6_init_60 : decode cX6_init 60 = .ok (.bipush 28, 2) := by decide +kernel
theorem dX6_init_62 : decode cX6_init 62 = .ok (.newarray .int, 2) := by decide +kernel
theorem dX6_init_64 : decode cX6_init 64 = .ok (.putfield 37, 3) := by decide +kernel
theorem dX6_init_67 : decode cX6_init 67 = .ok (.aload_n 0, 1) := by decide +kernel
theorem dX6_init_68 : decode cX6_init 68 = .ok (.bipush 28, 2) := by decide +kernel
theorem dX6_init_70 : decode cX6_init 70 = .ok (.newarray .int, 2) := by decide +kernel
theorem dX6_init_72 : decode cX6_init 72 = .ok (.putfield 40, 3) := by decide +kernel
theorem dX6_init_75 : decode cX6_init 75 = .ok (.aload_n 0, 1) := by decide +kernel
theorem dX6_init_76 : decode cX6_init 76 = .ok (.bipush 7, 2) := by decide +kernel
theorem dX6_init_78 : decode cX6_init 78 = .ok (.newarray .int, 2) := by decide +kernel
theorem dX6_init_80 : decode cX6_init 80 = .ok (.putfield 43, 3) := by decide +kernel
theorem dX6_init_83 : decode cX6_init 83 = .ok (.aload_n 0, 1) := by decide +kernel
theorem dX6_init_84 : decode cX6_init 84 = .ok (.bipush 28, 2) := by decide +kernel
theorem dX6_init_86 : decode cX6_init 86 = .ok (.newarray .int, 2) := by decide +kernel
theorem dX6_init_88 : decode cX6_init 88 = .ok (.putfield 46, 3) := by decide +kernel
theorem dX6_init_91 : decode cX6_init 91 = .ok (.aload_n 0, 1) := by decide +kernel
theorem dX6_init_92 : decode cX6_init 92 = .ok (.bipush 28, 2) := by decide +kernel
theorem dX6_init_94 : decode cX6_init 94 = .ok (.newarray .int, 2) := by decide +kernel
theorem dX6_init_96 : decode cX6_init 96 = .ok (.putfield 49, 3) := by decide +kernel
theorem dX6_init_99 : decode cX6_init 99 = .ok (.aload_n 0, 1) := by decide +kernel
theorem dX6_init_100 : decode cX6_init 100 = .ok (.bipush 7, 2) := by decide +kernel
theorem dX6_init_102 : decode cX6_init 102 = .ok (.newarray .int, 2) := by decide +kernel
theorem dX6_init_104 : decode cX6_init 104 = .ok (.putfield 52, 3) := by decide +kernel
theorem dX6_init_107 : decode cX6_init 107 = .ok (.aload_n 0, 1) := by decide +kernel
theorem dX6_init_108 : decode cX6_init 108 = .ok (.sipush 14336, 3) := by decide +kernel
theorem dX6_init_111 : decode cX6_init 111 = .ok (.newarray .int, 2) := by decide +kernel
theorem dX6_init_113 : decode cX6_init 113 = .ok (.putfield 55, 3) := by decide +kernel
theorem dX6_init_116 : decode cX6_init 116 = .ok (.aload_n 0, 1) := by decide +kernel
theorem dX6_init_117 : decode cX6_init 117 = .ok (.sipush 14336, 3) := by decide +kernel
theorem dX6_init_120 : decode cX6_init 120 = .ok (.newarray .int, 2) := by decide +kernel
theorem dX6_init_122 : decode cX6_init 122 = .ok (.putfield 58, 3) := by decide +kernel
theorem dX6_init_125 : decode cX6_init 125 = .ok (.aload_n 0, 1) := by decide +kernel
theorem dX6_init_126 : decode cX6_init 126 = .ok (.sipush 14336, 3) := by decide +kernel
theorem dX6_init_129 : decode cX6_init 129 = .ok (.newarray .int, 2) := by decide +kernel
theorem dX6_init_131 : decode cX6_init 131 = .ok (.putfield 61, 3) := by decide +kernel
theorem dX6_init_134 : decode cX6_init 134 = .ok (.aload_n 0, 1) := by decide +kernel
theorem dX6_init_135 : decode cX6_init 135 = .ok (.bipush 7, 2) := by decide +kernel
theorem dX6_init_137 : decode cX6_init 137 = .ok (.newarray .int, 2) := by decide +kernel
theorem dX6_init_139 : decode cX6_init 139 = .ok (.putfield 64, 3) := by decide +kernel
theorem dX6_init_142 : decode cX6_init 142 = .ok (.aload_n 0, 1) := by decide +kernel
theorem dX6_init_143 : decode cX6_init 143 = .ok (.bipush 28, 2) := by decide +kernel
theorem dX6_init_145 : decode cX6_init 145 = .ok (.newarray .int, 2) := by decide +kernel
theorem dX6_init_147 : decode cX6_init 147 = .ok (.putfield 67, 3) := by decide +kernel
theorem dX6_init_150 : decode cX6_init 150 = .ok (.aload_n 0, 1) := by decide +kernel
theorem dX6_init_151 : decode cX6_init 151 = .ok (.iconst 4, 1) := by decide +kernel
theorem dX6_init_152 : decode cX6_init 152 = .ok (.newarray .int, 2) := by decide +kernel
theorem dX6_init_154 : decode cX6_init 154 = .ok (.putfield 70, 3) := by decide +kernel
theorem dX6_init_157 : decode cX6_init 157 = .ok (.aload_n 0, 1) := by decide +kernel
theorem dX6_init_158 : decode cX6_init 158 = .ok (.iconst 4, 1) := by decide +kernel
theorem dX6_init_159 : decode cX6_init 159 = .ok (.newarray .int, 2) := by decide +kernel
theorem dX6_init_161 : decode cX6_init 161 = .ok (.putfield 73, 3) := by decide +kernel
theorem dX6_init_164 : decode cX6_init 164 = .ok (.aload_n 0, 1) := by decide +kernel
theorem dX6_init_165 : decode cX6_init 165 = .ok (.iconst 4, 1) := by decide +kernel
theorem dX6_init_166 : decode cX6_init 166 = .ok (.newarray .int, 2) := by decide +kernel
theorem dX6_init_168 : decode cX6_init 168 = .ok (.putfield 76, 3) := by decide +kernel
theorem dX6_init_171 : decode cX6_init 171 = .ok (.aload_n 0, 1) := by decide +kernel
theorem dX6_init_172 : decode cX6_init 172 = .ok (.iconst 4, 1) := by decide +kernel
theorem dX6_init_173 : decode cX6_init 173 = .ok (.newarray .boolean, 2) := by decide +kernel
theorem dX6_init_175 : decode cX6_init 175 = .ok (.putfield 79, 3) := by decide +kernel
theorem dX6_init_178 : decode cX6_init 178 = .ok (.aload_n 0, 1) := by decide +kernel
theorem dX6_init_179 : decode cX6_init 179 = .ok (.bipush 60, 2) := by decide +kernel
theorem dX6_init_181 : decode cX6_init 181 = .ok (.newarray .int, 2) := by decide +kernel
theorem dX6_init_183 : decode cX6_init 183 = .ok (.putfield 82, 3) := by decide +kernel
theorem dX6_init_186 : decode cX6_init 186 = .ok (.aload_n 0, 1) := by decide +kernel
theorem dX6_init_187 : decode cX6_init 187 = .ok (.iconst 4, 1) := by decide +kernel
theorem dX6_init_188 : decode cX6_init 188 = .ok (.newarray .int, 2) := by decide +kernel
theorem dX6_init_190 : decode cX6_init 190 = .ok (.putfield 85, 3) := by decide +kernel
theorem dX6_init_193 : decode cX6_init 193 = .ok (.aload_n 0, 1) := by decide +kernel
theorem dX6_init_194 : decode cX6_init 194 = .ok (.sipush 150, 3) := by decide +kernel
theorem dX6_init_197 : decode cX6_init 197 = .ok (.newarray .int, 2) := by decide +kernel
theorem dX6_init_199 : decode cX6_init 199 = .ok (.putfield 88, 3) := by decide +kernel
theorem dX6_init_202 : decode cX6_init 202 = .ok (.aload_n 0, 1) := by decide +kernel
theorem dX6_init_203 : decode cX6_init 203 = .ok (.iconst 3, 1) := by decide +kernel
theorem dX6_init_204 : decode cX6_init 204 = .ok (.iconst 1, 1) := by decide +kernel
theorem dX6_init_205 : decode cX6_init 205 = .ok (.invokevirtual 91, 3) := by decide +kernel
theorem dX6_init_208 : decode cX6_init 208 = .ok (.return_, 1) := by decide +kernel
theorem dX6_thrown_0 : decode cX6_thrown 0 = .ok (.aload_n 0, 1) := by decide +kernel
theorem dX6_thrown_1 : decode cX6_thrown 1 = .ok (.getfield 95, 3) := by decide +kernel
theorem dX6_thrown_4 : decode cX6_thrown 4 = .ok (.ireturn, 1) := by decide +kernel
theorem dX6_within_0 : decode cX6_within 0 = .ok (.iload_n 0, 1) := by decide +kernel
theorem dX6_within_1 : decode cX6_within 1 = .ok (.iload_n 1, 1) := by decide +kernel
theorem dX6_within_2 : decode cX6_within 2 = .ok (.if_icmp .lt 12, 3) := by decide +kernel
theorem dX6_within_5 : decode cX6_within 5 = .ok (.iload_n 0, 1) := by decide +kernel
theorem dX6_within_6 : decode cX6_within 6 = .ok (.iload_n 2, 1) := by decide +kernel
theorem dX6_within_7 : decode cX6_within 7 = .ok (.if_icmp .gt 7, 3) := by decide +kernel
theorem dX6_within_10 : decode cX6_within 10 = .ok (.iconst 1, 1) := by decide +kernel
theorem dX6_within_11 : decode cX6_within 11 = .ok (.goto 4, 3) := by decide +kernel
theorem dX6_within_14 : decode cX6_within 14 = .ok (.iconst 0, 1) := by decide +kernel
theorem dX6_within_15 : decode cX6_within 15 = .ok (.ireturn, 1) := by decide +kernel
theorem dX6_isNode_0 : decode cX6_isNode 0 = .ok (.iload_n 1, 1) := by decide +kernel
theorem dX6_isNode_1 : decode cX6_isNode 1 = .ok (.iconst 0, 1) := by decide +kernel
theorem dX6_isNode_2 : decode cX6_isNode 2 = .ok (.aload_n 0, 1) := by decide +kernel
theorem dX6_isNode_3 : decode cX6_isNode 3 = .ok (.getfield 7, 3) := by decide +kernel
theorem dX6_isNode_6 : decode cX6_isNode 6 = .ok (.iconst 1, 1) := by decide +kernel
theorem dX6_isNode_7 : decode cX6_isNode 7 = .ok (.isub, 1) := by decide +kernel
theorem dX6_isNode_8 : decode cX6_isNode 8 = .ok (.invokestatic 98, 3) := by decide +kernel
theorem dX6_isNode_11 : decode cX6_isNode 11 = .ok (.ireturn, 1) := by decide +kernel
theorem dX6_isSlot_0 : decode cX6_isSlot 0 = .ok (.iload_n 1, 1) := by decide +kernel
theorem dX6_isSlot_1 : decode cX6_isSlot 1 = .ok (.iconst 0, 1) := by decide +kernel
theorem dX6_isSlot_2 : decode cX6_isSlot 2 = .ok (.aload_n 0, 1) := by decide +kernel
theorem dX6_isSlot_3 : decode cX6_isSlot 3 = .ok (.getfield 13, 3) := by decide +kernel
theorem dX6_isSlot_6 : decode cX6_isSlot 6 = .ok (.iconst 1, 1) := by decide +kernel
theorem dX6_isSlot_7 : decode cX6_isSlot 7 = .ok (.isub, 1) := by decide +kernel
theorem dX6_isSlot_8 : decode cX6_isSlot 8 = .ok (.invokestatic 98, 3) := by decide +kernel
theorem dX6_isSlot_11 : decode cX6_isSlot 11 = .ok (.ireturn, 1) := by decide +kernel
theorem dX6_q_0 : decode cX6_q 0 = .ok (.aload_n 0, 1) := by decide +kernel
theorem dX6_q_1 : decode cX6_q 1 = .ok (.getfield 7, 3) := by decide +kernel
theorem dX6_q_4 : decode cX6_q 4 = .ok (.iconst 2, 1) := by decide +kernel
theorem dX6_q_5 : decode cX6_q 5 = .ok (.idiv, 1) := by decide +kernel
theorem dX6_q_6 : decode cX6_q 6 = .ok (.iconst 1, 1) := by decide +kernel
theorem dX6_q_7 : decode cX6_q 7 = .ok (.iadd, 1) := by decide +kernel
theorem dX6_q_8 : decode cX6_q 8 = .ok (.ireturn, 1) := by decide +kernel
theorem dX6_isSet_0 : decode cX6_isSet 0 = .ok (.iload_n 1, 1) := by decide +kernel
theorem dX6_isSet_1 : decode cX6_isSet 1 = .ok (.iconst 1, 1) := by decide +kernel
theorem dX6_isSet_2 : decode cX6_isSet 2 = .ok (.iconst 1, 1) := by decide +kernel
theorem dX6_isSet_3 : decode cX6_isSet 3 = .ok (.aload_n 0, 1) := by decide +kernel
theorem dX6_isSet_4 : decode cX6_isSet 4 = .ok (.getfield 7, 3) := by decide +kernel
theorem dX6_isSet_7 : decode cX6_isSet 7 = .ok (.ishl, 1) := by decide +kernel
theorem dX6_isSet_8 : decode cX6_isSet 8 = .ok (.iconst 1, 1) := by decide +kernel
theorem dX6_isSet_9 : decode cX6_isSet 9 = .ok (.isub, 1) := by decide +kernel
theorem dX6_isSet_10 : decode cX6_isSet 10 = .ok (.invokestatic 98, 3) := by decide +kernel
theorem dX6_isSet_13 : decode cX6_isSet 13 = .ok (.ireturn, 1) := by decide +kernel
theorem dX6_at_0 : decode cX6_at 0 = .ok (.iconst 4, 1) := by decide +kernel
theorem dX6_at_1 : decode cX6_at 1 = .ok (.iload_n 0, 1) := by decide +kernel
theorem dX6_at_2 : decode cX6_at 2 = .ok (.imul, 1) := by decide +kernel
theorem dX6_at_3 : decode cX6_at 3 = .ok (.iload_n 1, 1) := by decide +kernel
theorem dX6_at_4 : decode cX6_at 4 = .ok (.iadd, 1) := by decide +kernel
theorem dX6_at_5 : decode cX6_at 5 = .ok (.ireturn, 1) := by decide +kernel
theorem dX6_wipeDisk_0 : decode cX6_wipeDisk 0 = .ok (.aload_n 0, 1) := by decide +kernel
theorem dX6_wipeDisk_1 : decode cX6_wipeDisk 1 = .ok (.getfield 34, 3) := by decide +kernel
theorem dX6_wipeDisk_4 : decode cX6_wipeDisk 4 = .ok (.iload_n 1, 1) := by decide +kernel
theorem dX6_wipeDisk_5 : decode cX6_wipeDisk 5 = .ok (.iconst 0, 1) := by decide +kernel
theorem dX6_wipeDisk_6 : decode cX6_wipeDisk 6 = .ok (.iastore, 1) := by decide +kernel
theorem dX6_wipeDisk_7 : decode cX6_wipeDisk 7 = .ok (.iconst 0, 1) := by decide +kernel
theorem dX6_wipeDisk_8 : decode cX6_wipeDisk 8 = .ok (.istore_n 2, 1) := by decide +kernel
theorem dX6_wipeDisk_9 : decode cX6_wipeDisk 9 = .ok (.iload_n 2, 1) := by decide +kernel
theorem dX6_wipeDisk_10 : decode cX6_wipeDisk 10 = .ok (.iconst 4, 1) := by decide +kernel
theorem dX6_wipeDisk_11 : decode cX6_wipeDisk 11 = .ok (.if_icmp .ge 31, 3) := by decide +kernel
theorem dX6_wipeDisk_14 : decode cX6_wipeDisk 14 = .ok (.aload_n 0, 1) := by decide +kernel
theorem dX6_wipeDisk_15 : decode cX6_wipeDisk 15 = .ok (.getfield 37, 3) := by decide +kernel
theorem dX6_wipeDisk_18 : decode cX6_wipeDisk 18 = .ok (.iload_n 1, 1) := by decide +kernel
theorem dX6_wipeDisk_19 : decode cX6_wipeDisk 19 = .ok (.iload_n 2, 1) := by decide +kernel
theorem dX6_wipeDisk_20 : decode cX6_wipeDisk 20 = .ok (.invokestatic 102, 3) := by decide +kernel
theorem dX6_wipeDisk_23 : decode cX6_wipeDisk 23 = .ok (.iconst 0, 1) := by decide +kernel
theorem dX6_wipeDisk_24 : decode cX6_wipeDisk 24 = .ok (.iastore, 1) := by decide +kernel
theorem dX6_wipeDisk_25 : decode cX6_wipeDisk 25 = .ok (.aload_n 0, 1) := by decide +kernel
theorem dX6_wipeDisk_26 : decode cX6_wipeDisk 26 = .ok (.getfield 40, 3) := by decide +kernel
theorem dX6_wipeDisk_29 : decode cX6_wipeDisk 29 = .ok (.iload_n 1, 1) := by decide +kernel
theorem dX6_wipeDisk_30 : decode cX6_wipeDisk 30 = .ok (.iload_n 2, 1) := by decide +kernel
theorem dX6_wipeDisk_31 : decode cX6_wipeDisk 31 = .ok (.invokestatic 102, 3) := by decide +kernel
theorem dX6_wipeDisk_34 : decode cX6_wipeDisk 34 = .ok (.iconst (-1), 1) := by decide +kernel
theorem dX6_wipeDisk_35 : decode cX6_wipeDisk 35 = .ok (.iastore, 1) := by decide +kernel
theorem dX6_wipeDisk_36 : decode cX6_wipeDisk 36 = .ok (.iinc 2 1, 3) := by decide +kernel
theorem dX6_wipeDisk_39 : decode cX6_wipeDisk 39 = .ok (.goto (-30), 3) := by decide +kernel
theorem dX6_wipeDisk_42 : decode cX6_wipeDisk 42 = .ok (.aload_n 0, 1) := by decide +kernel
theorem dX6_wipeDisk_43 : decode cX6_wipeDisk 43 = .ok (.iload_n 1, 1) := by decide +kernel
theorem dX6_wipeDisk_44 : decode cX6_wipeDisk 44 = .ok (.invokevirtual 106, 3) := by decide +kernel
theorem dX6_wipeDisk_47 : decode cX6_wipeDisk 47 = .ok (.return_, 1) := by decide +kernel
theorem dX6_showDisk_0 : decode cX6_showDisk 0 = .ok (.aload_n 0, 1) := by decide +kernel
theorem dX6_showDisk_1 : decode cX6_showDisk 1 = .ok (.getfield 43, 3) := by decide +kernel
theorem dX6_showDisk_4 : decode cX6_showDisk 4 = .ok (.iload_n 1, 1) := by decide +kernel
theorem dX6_showDisk_5 : decode cX6_showDisk 5 = .ok (.aload_n 0, 1) := by decide +kernel
theorem dX6_showDisk_6 : decode cX6_showDisk 6 = .ok (.getfield 34, 3) := by decide +kernel
theorem dX6_showDisk_9 : decode cX6_showDisk 9 = .ok (.iload_n 1, 1) := by decide +kernel
theorem dX6_showDisk_10 : decode cX6_showDisk 10 = .ok (.iaload, 1) := by decide +kernel
theorem dX6_showDisk_11 : decode cX6_showDisk 11 = .ok (.iastore, 1) := by decide +kernel
theorem dX6_showDisk_12 : decode cX6_showDisk 12 = .ok (.iconst 0, 1) := by decide +kernel
theorem dX6_showDisk_13 : decode cX6_showDisk 13 = .ok (.istore_n 2, 1) := by decide +kernel
theorem dX6_showDisk_14 : decode cX6_showDisk 14 = .ok (.iload_n 2, 1) := by decide +kernel
theorem dX6_showDisk_15 : decode cX6_showDisk 15 = .ok (.iconst 4, 1) := by decide +kernel
theorem dX6_showDisk_16 : decode cX6_showDisk 16 = .ok (.if_icmp .ge 49, 3) := by decide +kernel
theorem dX6_showDisk_19 : decode cX6_showDisk 19 = .ok (.aload_n 0, 1) := by decide +kernel
theorem dX6_showDisk_20 : decode cX6_showDisk 20 = .ok (.getfield 46, 3) := by decide +kernel
theorem dX6_showDisk_23 : decode cX6_showDisk 23 = .ok (.iload_n 1, 1) := by decide +kernel
theorem dX6_showDisk_24 : decode cX6_showDisk 24 = .ok (.iload_n 2, 1) := by decide +kernel
theorem dX6_showDisk_25 : decode cX6_showDisk 25 = .ok (.invokestatic 102, 3) := by decide +kernel
theorem dX6_showDisk_28 : decode cX6_showDisk 28 = .ok (.aload_n 0, 1) := by decide +kernel
theorem dX6_showDisk_29 : decode cX6_showDisk 29 = .ok (.getfield 37, 3) := by decide +kernel
theorem dX6_showDisk_32 : decode cX6_showDisk 32 = .ok (.iload_n 1, 1) := by decide +kernel
theorem dX6_showDisk_33 : decode cX6_showDisk 33 = .ok (.iload_n 2, 1) := by decide +kernel
theorem dX6_showDisk_34 : decode cX6_showDisk 34 = .ok (.invokestatic 102, 3) := by decide +kernel
theorem dX6_showDisk_37 : decode cX6_showDisk 37 = .ok (.iaload, 1) := by decide +kernel
theorem dX6_showDisk_38 : decode cX6_showDisk 38 = .ok (.iastore, 1) := by decide +kernel
theorem dX6_showDisk_39 : decode cX6_showDisk 39 = .ok (.aload_n 0, 1) := by decide +kernel
theorem dX6_showDisk_40 : decode cX6_showDisk 40 = .ok (.getfield 49, 3) := by decide +kernel
theorem dX6_showDisk_43 : decode cX6_showDisk 43 = .ok (.iload_n 1, 1) := by decide +kernel
theorem dX6_showDisk_44 : decode cX6_showDisk 44 = .ok (.iload_n 2, 1) := by decide +kernel
theorem dX6_showDisk_45 : decode cX6_showDisk 45 = .ok (.invokestatic 102, 3) := by decide +kernel
theorem dX6_showDisk_48 : decode cX6_showDisk 48 = .ok (.aload_n 0, 1) := by decide +kernel
theorem dX6_showDisk_49 : decode cX6_showDisk 49 = .ok (.getfield 40, 3) := by decide +kernel
theorem dX6_showDisk_52 : decode cX6_showDisk 52 = .ok (.iload_n 1, 1) := by decide +kernel
theorem dX6_showDisk_53 : decode cX6_showDisk 53 = .ok (.iload_n 2, 1) := by decide +kernel
theorem dX6_showDisk_54 : decode cX6_showDisk 54 = .ok (.invokestatic 102, 3) := by decide +kernel
theorem dX6_showDisk_57 : decode cX6_showDisk 57 = .ok (.iaload, 1) := by decide +kernel
theorem dX6_showDisk_58 : decode cX6_showDisk 58 = .ok (.iastore, 1) := by decide +kernel
theorem dX6_showDisk_59 : decode cX6_showDisk 59 = .ok (.iinc 2 1, 3) := by decide +kernel
theorem dX6_showDisk_62 : decode cX6_showDisk 62 = .ok (.goto (-48), 3) := by decide +kernel
theorem dX6_showDisk_65 : decode cX6_showDisk 65 = .ok (.return_, 1) := by decide +kernel
theorem dX6_fresh_0 : decode cX6_fresh 0 = .ok (.aload_n 0, 1) := by decide +kernel
theorem dX6_fresh_1 : decode cX6_fresh 1 = .ok (.iload_n 1, 1) := by decide +kernel
theorem dX6_fresh_2 : decode cX6_fresh 2 = .ok (.putfield 7, 3) := by decide +kernel
theorem dX6_fresh_5 : decode cX6_fresh 5 = .ok (.aload_n 0, 1) := by decide +kernel
theorem dX6_fresh_6 : decode cX6_fresh 6 = .ok (.iload_n 2, 1) := by decide +kernel
theorem dX6_fresh_7 : decode cX6_fresh 7 = .ok (.putfield 13, 3) := by decide +kernel
theorem dX6_fresh_10 : decode cX6_fresh 10 = .ok (.iconst 0, 1) := by decide +kernel
theorem dX6_fresh_11 : decode cX6_fresh 11 = .ok (.istore_n 3, 1) := by decide +kernel
theorem dX6_fresh_12 : decode cX6_fresh 12 = .ok (.iload_n 3, 1) := by decide +kernel
theorem dX6_fresh_13 : decode cX6_fresh 13 = .ok (.bipush 7, 2) := by decide +kernel
theorem dX6_fresh_15 : decode cX6_fresh 15 = .ok (.if_icmp .ge 56, 3) := by decide +kernel
theorem dX6_fresh_18 : decode cX6_fresh 18 = .ok (.aload_n 0, 1) := by decide +kernel
theorem dX6_fresh_19 : decode cX6_fresh 19 = .ok (.getfield 20, 3) := by decide +kernel
theorem dX6_fresh_22 : decode cX6_fresh 22 = .ok (.iload_n 3, 1) := by decide +kernel
theorem dX6_fresh_23 : decode cX6_fresh 23 = .ok (.iconst 1, 1) := by decide +kernel
theorem dX6_fresh_24 : decode cX6_fresh 24 = .ok (.bastore, 1) := by decide +kernel
theorem dX6_fresh_25 : decode cX6_fresh 25 = .ok (.aload_n 0, 1) := by decide +kernel
theorem dX6_fresh_26 : decode cX6_fresh 26 = .ok (.getfield 24, 3) := by decide +kernel
theorem dX6_fresh_29 : decode cX6_fresh 29 = .ok (.iload_n 3, 1) := by decide +kernel
theorem dX6_fresh_30 : decode cX6_fresh 30 = .ok (.iconst 1, 1) := by decide +kernel
theorem dX6_fresh_31 : decode cX6_fresh 31 = .ok (.bastore, 1) := by decide +kernel
theorem dX6_fresh_32 : decode cX6_fresh 32 = .ok (.aload_n 0, 1) := by decide +kernel
theorem dX6_fresh_33 : decode cX6_fresh 33 = .ok (.getfield 27, 3) := by decide +kernel
theorem dX6_fresh_36 : decode cX6_fresh 36 = .ok (.iload_n 3, 1) := by decide +kernel
theorem dX6_fresh_37 : decode cX6_fresh 37 = .ok (.iconst 0, 1) := by decide +kernel
theorem dX6_fresh_38 : decode cX6_fresh 38 = .ok (.iastore, 1) := by decide +kernel
theorem dX6_fresh_39 : decode cX6_fresh 39 = .ok (.aload_n 0, 1) := by decide +kernel
theorem dX6_fresh_40 : decode cX6_fresh 40 = .ok (.getfield 31, 3) := by decide +kernel
theorem dX6_fresh_43 : decode cX6_fresh 43 = .ok (.iload_n 3, 1) := by decide +kernel
theorem dX6_fresh_44 : decode cX6_fresh 44 = .ok (.iconst 0, 1) := by decide +kernel
theorem dX6_fresh_45 : decode cX6_fresh 45 = .ok (.iastore, 1) := by decide +kernel
theorem dX6_fresh_46 : decode cX6_fresh 46 = .ok (.aload_n 0, 1) := by decide +kernel
theorem dX6_fresh_47 : decode cX6_fresh 47 = .ok (.getfield 52, 3) := by decide +kernel
theorem dX6_fresh_50 : decode cX6_fresh 50 = .ok (.iload_n 3, 1) := by decide +kernel
theorem dX6_fresh_51 : decode cX6_fresh 51 = .ok (.iconst 0, 1) := by decide +kernel
theorem dX6_fresh_52 : decode cX6_fresh 52 = .ok (.iastore, 1) := by decide +kernel
theorem dX6_fresh_53 : decode cX6_fresh 53 = .ok (.aload_n 0, 1) := by decide +kernel
theorem dX6_fresh_54 : decode cX6_fresh 54 = .ok (.getfield 64, 3) := by decide +kernel
theorem dX6_fresh_57 : decode cX6_fresh 57 = .ok (.iload_n 3, 1) := by decide +kernel
theorem dX6_fresh_58 : decode cX6_fresh 58 = .ok (.iconst (-1), 1) := by decide +kernel
theorem dX6_fresh_59 : decode cX6_fresh 59 = .ok (.iastore, 1) := by decide +kernel
theorem dX6_fresh_60 : decode cX6_fresh 60 = .ok (.aload_n 0, 1) := by decide +kernel
theorem dX6_fresh_61 : decode cX6_fresh 61 = .ok (.iload_n 3, 1) := by decide +kernel
theorem dX6_fresh_62 : decode cX6_fresh 62 = .ok (.invokevirtual 110, 3) := by decide +kernel
theorem dX6_fresh_65 : decode cX6_fresh 65 = .ok (.iinc 3 1, 3) := by decide +kernel
theorem dX6_fresh_68 : decode cX6_fresh 68 = .ok (.goto (-56), 3) := by decide +kernel
theorem dX6_fresh_71 : decode cX6_fresh 71 = .ok (.iconst 0, 1) := by decide +kernel
theorem dX6_fresh_72 : decode cX6_fresh 72 = .ok (.istore_n 3, 1) := by decide +kernel
theorem dX6_fresh_73 : decode cX6_fresh 73 = .ok (.iload_n 3, 1) := by decide +kernel
theorem dX6_fresh_74 : decode cX6_fresh 74 = .ok (.iconst 4, 1) := by decide +kernel
theorem dX6_fresh_75 : decode cX6_fresh 75 = .ok (.if_icmp .ge 37, 3) := by decide +kernel
theorem dX6_fresh_78 : decode cX6_fresh 78 = .ok (.aload_n 0, 1) := by decide +kernel
theorem dX6_fresh_79 : decode cX6_fresh 79 = .ok (.getfield 70, 3) := by decide +kernel
theorem dX6_fresh_82 : decode cX6_fresh 82 = .ok (.iload_n 3, 1) := by decide +kernel
theorem dX6_fresh_83 : decode cX6_fresh 83 = .ok (.iconst 0, 1) := by decide +kernel
theorem dX6_fresh_84 : decode cX6_fresh 84 = .ok (.iastore, 1) := by decide +kernel
theorem dX6_fresh_85 : decode cX6_fresh 85 = .ok (.aload_n 0, 1) := by decide +kernel
theorem dX6_fresh_86 : decode cX6_fresh 86 = .ok (.getfield 73, 3) := by decide +kernel
theorem dX6_fresh_89 : decode cX6_fresh 89 = .ok (.iload_n 3, 1) := by decide +kernel
theorem dX6_fresh_90 : decode cX6_fresh 90 = .ok (.iconst (-1), 1) := by decide +kernel
theorem dX6_fresh_91 : decode cX6_fresh 91 = .ok (.iastore, 1) := by decide +kernel
theorem dX6_fresh_92 : decode cX6_fresh 92 = .ok (.aload_n 0, 1) := by decide +kernel
theorem dX6_fresh_93 : decode cX6_fresh 93 = .ok (.getfield 76, 3) := by decide +kernel
theorem dX6_fresh_96 : decode cX6_fresh 96 = .ok (.iload_n 3, 1) := by decide +kernel
theorem dX6_fresh_97 : decode cX6_fresh 97 = .ok (.iconst (-1), 1) := by decide +kernel
theorem dX6_fresh_98 : decode cX6_fresh 98 = .ok (.iastore, 1) := by decide +kernel
theorem dX6_fresh_99 : decode cX6_fresh 99 = .ok (.aload_n 0, 1) := by decide +kernel
theorem dX6_fresh_100 : decode cX6_fresh 100 = .ok (.getfield 79, 3) := by decide +kernel
theorem dX6_fresh_103 : decode cX6_fresh 103 = .ok (.iload_n 3, 1) := by decide +kernel
theorem dX6_fresh_104 : decode cX6_fresh 104 = .ok (.iconst 0, 1) := by decide +kernel
theorem dX6_fresh_105 : decode cX6_fresh 105 = .ok (.bastore, 1) := by decide +kernel
theorem dX6_fresh_106 : decode cX6_fresh 106 = .ok (.iinc 3 1, 3) := by decide +kernel
theorem dX6_fresh_109 : decode cX6_fresh 109 = .ok (.goto (-36), 3) := by decide +kernel
theorem dX6_fresh_112 : decode cX6_fresh 112 = .ok (.aload_n 0, 1) := by decide +kernel
theorem dX6_fresh_113 : decode cX6_fresh 113 = .ok (.iconst 0, 1) := by decide +kernel
theorem dX6_fresh_114 : decode cX6_fresh 114 = .ok (.putfield 113, 3) := by decide +kernel
theorem dX6_fresh_117 : decode cX6_fresh 117 = .ok (.aload_n 0, 1) := by decide +kernel
theorem dX6_fresh_118 : decode cX6_fresh 118 = .ok (.iconst 0, 1) := by decide +kernel
theorem dX6_fresh_119 : decode cX6_fresh 119 = .ok (.putfield 116, 3) := by decide +kernel
theorem dX6_fresh_122 : decode cX6_fresh 122 = .ok (.aload_n 0, 1) := by decide +kernel
theorem dX6_fresh_123 : decode cX6_fresh 123 = .ok (.iconst 0, 1) := by decide +kernel
theorem dX6_fresh_124 : decode cX6_fresh 124 = .ok (.putfield 119, 3) := by decide +kernel
theorem dX6_fresh_127 : decode cX6_fresh 127 = .ok (.return_, 1) := by decide +kernel
theorem dX6_write_0 : decode cX6_write 0 = .ok (.sipush 2048, 3) := by decide +kernel
theorem dX6_write_3 : decode cX6_write 3 = .ok (.iload_n 1, 1) := by decide +kernel
theorem dX6_write_4 : decode cX6_write 4 = .ok (.imul, 1) := by decide +kernel
theorem dX6_write_5 : decode cX6_write 5 = .ok (.aload_n 0, 1) := by decide +kernel
theorem dX6_write_6 : decode cX6_write 6 = .ok (.getfield 52, 3) := by decide +kernel
theorem dX6_write_9 : decode cX6_write 9 = .ok (.iload_n 1, 1) := by decide +kernel
theorem dX6_write_10 : decode cX6_write 10 = .ok (.iaload, 1) := by decide +kernel
theorem dX6_write_11 : decode cX6_write 11 = .ok (.iadd, 1) := by decide +kernel
theorem dX6_write_12 : decode cX6_write 12 = .ok (.istore 5, 2) := by decide +kernel
theorem dX6_write_14 : decode cX6_write 14 = .ok (.aload_n 0, 1) := by decide +kernel
theorem dX6_write_15 : decode cX6_write 15 = .ok (.getfield 55, 3) := by decide +kernel
theorem dX6_write_18 : decode cX6_write 18 = .ok (.iload 5, 2) := by decide +kernel
theorem dX6_write_20 : decode cX6_write 20 = .ok (.iload_n 2, 1) := by decide +kernel
theorem dX6_write_21 : decode cX6_write 21 = .ok (.iastore, 1) := by decide +kernel
theorem dX6_write_22 : decode cX6_write 22 = .ok (.aload_n 0, 1) := by decide +kernel
theorem dX6_write_23 : decode cX6_write 23 = .ok (.getfield 58, 3) := by decide +kernel
theorem dX6_write_26 : decode cX6_write 26 = .ok (.iload 5, 2) := by decide +kernel
theorem dX6_write_28 : decode cX6_write 28 = .ok (.iload_n 3, 1) := by decide +kernel
theorem dX6_write_29 : decode cX6_write 29 = .ok (.iastore, 1) := by decide +kernel
theorem dX6_write_30 : decode cX6_write 30 = .ok (.aload_n 0, 1) := by decide +kernel
theorem dX6_write_31 : decode cX6_write 31 = .ok (.getfield 61, 3) := by decide +kernel
theorem dX6_write_34 : decode cX6_write 34 = .ok (.iload 5, 2) := by decide +kernel
theorem dX6_write_36 : decode cX6_write 36 = .ok (.iload 4, 2) := by decide +kernel
theorem dX6_write_38 : decode cX6_write 38 = .ok (.iastore, 1) := by decide +kernel
theorem dX6_write_39 : decode cX6_write 39 = .ok (.aload_n 0, 1) := by decide +kernel
theorem dX6_write_40 : decode cX6_write 40 = .ok (.getfield 52, 3) := by decide +kernel
theorem dX6_write_43 : decode cX6_write 43 = .ok (.iload_n 1, 1) := by decide +kernel
theorem dX6_write_44 : decode cX6_write 44 = .ok (.dup2, 1) := by decide +kernel
theorem dX6_write_45 : decode cX6_write 45 = .ok (.iaload, 1) := by decide +kernel
theorem dX6_write_46 : decode cX6_write 46 = .ok (.iconst 1, 1) := by decide +kernel
theorem dX6_write_47 : decode cX6_write 47 = .ok (.iadd, 1) := by decide +kernel
theorem dX6_write_48 : decode cX6_write 48 = .ok (.iastore, 1) := by decide +kernel
theorem dX6_write_49 : decode cX6_write 49 = .ok (.aload_n 0, 1) := by decide +kernel
theorem dX6_write_50 : decode cX6_write 50 = .ok (.getfield 43, 3) := by decide +kernel
theorem dX6_write_53 : decode cX6_write 53 = .ok (.iload_n 1, 1) := by decide +kernel
theorem dX6_write_54 : decode cX6_write 54 = .ok (.iload_n 3, 1) := by decide +kernel
theorem dX6_write_55 : decode cX6_write 55 = .ok (.iastore, 1) := by decide +kernel
theorem dX6_write_56 : decode cX6_write 56 = .ok (.iload_n 2, 1) := by decide +kernel
theorem dX6_write_57 : decode cX6_write 57 = .ok (.iconst (-1), 1) := by decide +kernel
theorem dX6_write_58 : decode cX6_write 58 = .ok (.if_icmp .eq 26, 3) := by decide +kernel
theorem dX6_write_61 : decode cX6_write 61 = .ok (.aload_n 0, 1) := by decide +kernel
theorem dX6_write_62 : decode cX6_write 62 = .ok (.getfield 46, 3) := by decide +kernel
theorem dX6_write_65 : decode cX6_write 65 = .ok (.iload_n 1, 1) := by decide +kernel
theorem dX6_write_66 : decode cX6_write 66 = .ok (.iload_n 2, 1) := by decide +kernel
theorem dX6_write_67 : decode cX6_write 67 = .ok (.invokestatic 102, 3) := by decide +kernel
theorem dX6_write_70 : decode cX6_write 70 = .ok (.iload_n 3, 1) := by decide +kernel
theorem dX6_write_71 : decode cX6_write 71 = .ok (.iastore, 1) := by decide +kernel
theorem dX6_write_72 : decode cX6_write 72 = .ok (.aload_n 0, 1) := by decide +kernel
theorem dX6_write_73 : decode cX6_write 73 = .ok (.getfield 49, 3) := by decide +kernel
theorem dX6_write_76 : decode cX6_write 76 = .ok (.iload_n 1, 1) := by decide +kernel
theorem dX6_write_77 : decode cX6_write 77 = .ok (.iload_n 2, 1) := by decide +kernel
theorem dX6_write_78 : decode cX6_write 78 = .ok (.invokestatic 102, 3) := by decide +kernel
theorem dX6_write_81 : decode cX6_write 81 = .ok (.iload 4, 2) := by decide +kernel
theorem dX6_write_83 : decode cX6_write 83 = .ok (.iastore, 1) := by decide +kernel
theorem dX6_write_84 : decode cX6_write 84 = .ok (.return_, 1) := by decide +kernel
theorem dX6_flush_0 : decode cX6_flush 0 = .ok (.sipush 2048, 3) := by decide +kernel
theorem dX6_flush_3 : decode cX6_flush 3 = .ok (.iload_n 1, 1) := by decide +kernel
theorem dX6_flush_4 : decode cX6_flush 4 = .ok (.imul, 1) := by decide +kernel
theorem dX6_flush_5 : decode cX6_flush 5 = .ok (.istore_n 2, 1) := by decide +kernel
theorem dX6_flush_6 : decode cX6_flush 6 = .ok (.iload_n 2, 1) := by decide +kernel
theorem dX6_flush_7 : decode cX6_flush 7 = .ok (.sipush 2048, 3) := by decide +kernel
theorem dX6_flush_10 : decode cX6_flush 10 = .ok (.iload_n 1, 1) := by decide +kernel
theorem dX6_flush_11 : decode cX6_flush 11 = .ok (.imul, 1) := by decide +kernel
theorem dX6_flush_12 : decode cX6_flush 12 = .ok (.aload_n 0, 1) := by decide +kernel
theorem dX6_flush_13 : decode cX6_flush 13 = .ok (.getfield 52, 3) := by decide +kernel
theorem dX6_flush_16 : decode cX6_flush 16 = .ok (.iload_n 1, 1) := by decide +kernel
theorem dX6_flush_17 : decode cX6_flush 17 = .ok (.iaload, 1) := by decide +kernel
theorem dX6_flush_18 : decode cX6_flush 18 = .ok (.iadd, 1) := by decide +kernel
theorem dX6_flush_19 : decode cX6_flush 19 = .ok (.if_icmp .ge 73, 3) := by decide +kernel
theorem dX6_flush_22 : decode cX6_flush 22 = .ok (.aload_n 0, 1) := by decide +kernel
theorem dX6_flush_23 : decode cX6_flush 23 = .ok (.getfield 34, 3) := by decide +kernel
theorem dX6_flush_26 : decode cX6_flush 26 = .ok (.iload_n 1, 1) := by decide +kernel
theorem dX6_flush_27 : decode cX6_flush 27 = .ok (.aload_n 0, 1) := by decide +kernel
theorem dX6_flush_28 : decode cX6_flush 28 = .ok (.getfield 58, 3) := by decide +kernel
theorem dX6_flush_31 : decode cX6_flush 31 = .ok (.iload_n 2, 1) := by decide +kernel
theorem dX6_flush_32 : decode cX6_flush 32 = .ok (.iaload, 1) := by decide +kernel
theorem dX6_flush_33 : decode cX6_flush 33 = .ok (.iastore, 1) := by decide +kernel
theorem dX6_flush_34 : decode cX6_flush 34 = .ok (.aload_n 0, 1) := by decide +kernel
theorem dX6_flush_35 : decode cX6_flush 35 = .ok (.getfield 55, 3) := by decide +kernel
theorem dX6_flush_38 : decode cX6_flush 38 = .ok (.iload_n 2, 1) := by decide +kernel
theorem dX6_flush_39 : decode cX6_flush 39 = .ok (.iaload, 1) := by decide +kernel
theorem dX6_flush_40 : decode cX6_flush 40 = .ok (.iconst (-1), 1) := by decide +kernel
theorem dX6_flush_41 : decode cX6_flush 41 = .ok (.if_icmp .eq 45, 3) := by decide +kernel
theorem dX6_flush_44 : decode cX6_flush 44 = .ok (.aload_n 0, 1) := by decide +kernel
theorem dX6_flush_45 : decode cX6_flush 45 = .ok (.getfield 37, 3) := by decide +kernel
theorem dX6_flush_48 : decode cX6_flush 48 = .ok (.iload_n 1, 1) := by decide +kernel
theorem dX6_flush_49 : decode cX6_flush 49 = .ok (.aload_n 0, 1) := by decide +kernel
theorem dX6_flush_50 : decode cX6_flush 50 = .ok (.getfield 55, 3) := by decide +kernel
theorem dX6_flush_53 : decode cX6_flush 53 = .ok (.iload_n 2, 1) := by decide +kernel
theorem dX6_flush_54 : decode cX6_flush 54 = .ok (.iaload, 1) := by decide +kernel
theorem dX6_flush_55 : decode cX6_flush 55 = .ok (.invokestatic 102, 3) := by decide +kernel
theorem dX6_flush_58 : decode cX6_flush 58 = .ok (.aload_n 0, 1) := by decide +kernel
theorem dX6_flush_59 : decode cX6_flush 59 = .ok (.getfield 58, 3) := by decide +kernel
theorem dX6_flush_62 : decode cX6_flush 62 = .ok (.iload_n 2, 1) := by decide +kernel
theorem dX6_flush_63 : decode cX6_flush 63 = .ok (.iaload, 1) := by decide +kernel
theorem dX6_flush_64 : decode cX6_flush 64 = .ok (.iastore, 1) := by decide +kernel
theorem dX6_flush_65 : decode cX6_flush 65 = .ok (.aload_n 0, 1) := by decide +kernel
theorem dX6_flush_66 : decode cX6_flush 66 = .ok (.getfield 40, 3) := by decide +kernel
theorem dX6_flush_69 : decode cX6_flush 69 = .ok (.iload_n 1, 1) := by decide +kernel
theorem dX6_flush_70 : decode cX6_flush 70 = .ok (.aload_n 0, 1) := by decide +kernel
theorem dX6_flush_71 : decode cX6_flush 71 = .ok (.getfield 55, 3) := by decide +kernel
theorem dX6_flush_74 : decode cX6_flush 74 = .ok (.iload_n 2, 1) := by decide +kernel
theorem dX6_flush_75 : decode cX6_flush 75 = .ok (.iaload, 1) := by decide +kernel
theorem dX6_flush_76 : decode cX6_flush 76 = .ok (.invokestatic 102, 3) := by decide +kernel
theorem dX6_flush_79 : decode cX6_flush 79 = .ok (.aload_n 0, 1) := by decide +kernel
theorem dX6_flush_80 : decode cX6_flush 80 = .ok (.getfield 61, 3) := by decide +kernel
theorem dX6_flush_83 : decode cX6_flush 83 = .ok (.iload_n 2, 1) := by decide +kernel
theorem dX6_flush_84 : decode cX6_flush 84 = .ok (.iaload, 1) := by decide +kernel
theorem dX6_flush_85 : decode cX6_flush 85 = .ok (.iastore, 1) := by decide +kernel
theorem dX6_flush_86 : decode cX6_flush 86 = .ok (.iinc 2 1, 3) := by decide +kernel
theorem dX6_flush_89 : decode cX6_flush 89 = .ok (.goto (-83), 3) := by decide +kernel
theorem dX6_flush_92 : decode cX6_flush 92 = .ok (.aload_n 0, 1) := by decide +kernel
theorem dX6_flush_93 : decode cX6_flush 93 = .ok (.getfield 52, 3) := by decide +kernel
theorem dX6_flush_96 : decode cX6_flush 96 = .ok (.iload_n 1, 1) := by decide +kernel
theorem dX6_flush_97 : decode cX6_flush 97 = .ok (.iconst 0, 1) := by decide +kernel
theorem dX6_flush_98 : decode cX6_flush 98 = .ok (.iastore, 1) := by decide +kernel
theorem dX6_flush_99 : decode cX6_flush 99 = .ok (.return_, 1) := by decide +kernel
theorem dX6_tell_0 : decode cX6_tell 0 = .ok (.aload_n 0, 1) := by decide +kernel
theorem dX6_tell_1 : decode cX6_tell 1 = .ok (.getfield 31, 3) := by decide +kernel
theorem dX6_tell_4 : decode cX6_tell 4 = .ok (.iload_n 1, 1) := by decide +kernel
theorem dX6_tell_5 : decode cX6_tell 5 = .ok (.iload_n 2, 1) := by decide +kernel
theorem dX6_tell_6 : decode cX6_tell 6 = .ok (.aload_n 0, 1) := by decide +kernel
theorem dX6_tell_7 : decode cX6_tell 7 = .ok (.getfield 31, 3) := by decide +kernel
theorem dX6_tell_10 : decode cX6_tell 10 = .ok (.iload_n 1, 1) := by decide +kernel
theorem dX6_tell_11 : decode cX6_tell 11 = .ok (.iaload, 1) := by decide +kernel
theorem dX6_tell_12 : decode cX6_tell 12 = .ok (.if_icmp .le 7, 3) := by decide +kernel
theorem dX6_tell_15 : decode cX6_tell 15 = .ok (.iload_n 2, 1) := by decide +kernel
theorem dX6_tell_16 : decode cX6_tell 16 = .ok (.goto 9, 3) := by decide +kernel
theorem dX6_tell_19 : decode cX6_tell 19 = .ok (.aload_n 0, 1) := by decide +kernel
theorem dX6_tell_20 : decode cX6_tell 20 = .ok (.getfield 31, 3) := by decide +kernel
theorem dX6_tell_23 : decode cX6_tell 23 = .ok (.iload_n 1, 1) := by decide +kernel
theorem dX6_tell_24 : decode cX6_tell 24 = .ok (.iaload, 1) := by decide +kernel
theorem dX6_tell_25 : decode cX6_tell 25 = .ok (.iastore, 1) := by decide +kernel
theorem dX6_tell_26 : decode cX6_tell 26 = .ok (.return_, 1) := by decide +kernel
theorem dX6_nextBallot_0 : decode cX6_nextBallot 0 = .ok (.aload_n 0, 1) := by decide +kernel
theorem dX6_nextBallot_1 : decode cX6_nextBallot 1 = .ok (.getfield 31, 3) := by decide +kernel
theorem dX6_nextBallot_4 : decode cX6_nextBallot 4 = .ok (.iload_n 1, 1) := by decide +kernel
theorem dX6_nextBallot_5 : decode cX6_nextBallot 5 = .ok (.iaload, 1) := by decide +kernel
theorem dX6_nextBallot_6 : decode cX6_nextBallot 6 = .ok (.aload_n 0, 1) := by decide +kernel
theorem dX6_nextBallot_7 : decode cX6_nextBallot 7 = .ok (.getfield 43, 3) := by decide +kernel
theorem dX6_nextBallot_10 : decode cX6_nextBallot 10 = .ok (.iload_n 1, 1) := by decide +kernel
theorem dX6_nextBallot_11 : decode cX6_nextBallot 11 = .ok (.iaload, 1) := by decide +kernel
theorem dX6_nextBallot_12 : decode cX6_nextBallot 12 = .ok (.if_icmp .le 12, 3) := by decide +kernel
theorem dX6_nextBallot_15 : decode cX6_nextBallot 15 = .ok (.aload_n 0, 1) := by decide +kernel
theorem dX6_nextBallot_16 : decode cX6_nextBallot 16 = .ok (.getfield 31, 3) := by decide +kernel
theorem dX6_nextBallot_19 : decode cX6_nextBallot 19 = .ok (.iload_n 1, 1) := by decide +kernel
theorem dX6_nextBallot_20 : decode cX6_nextBallot 20 = .ok (.iaload, 1) := by decide +kernel
theorem dX6_nextBallot_21 : decode cX6_nextBallot 21 = .ok (.goto 9, 3) := by decide +kernel
theorem dX6_nextBallot_24 : decode cX6_nextBallot 24 = .ok (.aload_n 0, 1) := by decide +kernel
theorem dX6_nextBallot_25 : decode cX6_nextBallot 25 = .ok (.getfield 43, 3) := by decide +kernel
theorem dX6_nextBallot_28 : decode cX6_nextBallot 28 = .ok (.iload_n 1, 1) := by decide +kernel
theorem dX6_nextBallot_29 : decode cX6_nextBallot 29 = .ok (.iaload, 1) := by decide +kernel
theorem dX6_nextBallot_30 : decode cX6_nextBallot 30 = .ok (.istore_n 2, 1) := by decide +kernel
theorem dX6_nextBallot_31 : decode cX6_nextBallot 31 = .ok (.bipush 8, 2) := by decide +kernel
theorem dX6_nextBallot_33 : decode cX6_nextBallot 33 = .ok (.iload_n 1, 1) := by decide +kernel
theorem dX6_nextBallot_34 : decode cX6_nextBallot 34 = .ok (.iadd, 1) := by decide +kernel
theorem dX6_nextBallot_35 : decode cX6_nextBallot 35 = .ok (.istore_n 3, 1) := by decide +kernel
theorem dX6_nextBallot_36 : decode cX6_nextBallot 36 = .ok (.iload_n 3, 1) := by decide +kernel
theorem dX6_nextBallot_37 : decode cX6_nextBallot 37 = .ok (.iload_n 2, 1) := by decide +kernel
theorem dX6_nextBallot_38 : decode cX6_nextBallot 38 = .ok (.if_icmp .gt 27, 3) := by decide +kernel
theorem dX6_nextBallot_41 : decode cX6_nextBallot 41 = .ok (.iload_n 2, 1) := by decide +kernel
theorem dX6_nextBallot_42 : decode cX6_nextBallot 42 = .ok (.bipush 8, 2) := by decide +kernel
theorem dX6_nextBallot_44 : decode cX6_nextBallot 44 = .ok (.idiv, 1) := by decide +kernel
theorem dX6_nextBallot_45 : decode cX6_nextBallot 45 = .ok (.bipush 8, 2) := by decide +kernel
theorem dX6_nextBallot_47 : decode cX6_nextBallot 47 = .ok (.imul, 1) := by decide +kernel
theorem dX6_nextBallot_48 : decode cX6_nextBallot 48 = .ok (.iload_n 1, 1) := by decide +kernel
theorem dX6_nextBallot_49 : decode cX6_nextBallot 49 = .ok (.iadd, 1) := by decide +kernel
theorem dX6_nextBallot_50 : decode cX6_nextBallot 50 = .ok (.istore_n 3, 1) := by decide +kernel
theorem dX6_nextBallot_51 : decode cX6_nextBallot 51 = .ok (.iload_n 3, 1) := by decide +kernel
theorem dX6_nextBallot_52 : decode cX6_nextBallot 52 = .ok (.iload_n 3, 1) := by decide +kernel
theorem dX6_nextBallot_53 : decode cX6_nextBallot 53 = .ok (.iload_n 2, 1) := by decide +kernel
theorem dX6_nextBallot_54 : decode cX6_nextBallot 54 = .ok (.if_icmp .gt 8, 3) := by decide +kernel
theorem dX6_nextBallot_57 : decode cX6_nextBallot 57 = .ok (.bipush 8, 2) := by decide +kernel
theorem dX6_nextBallot_59 : decode cX6_nextBallot 59 = .ok (.goto 4, 3) := by decide +kernel
theorem dX6_nextBallot_62 : decode cX6_nextBallot 62 = .ok (.iconst 0, 1) := by decide +kernel
theorem dX6_nextBallot_63 : decode cX6_nextBallot 63 = .ok (.iadd, 1) := by decide +kernel
theorem dX6_nextBallot_64 : decode cX6_nextBallot 64 = .ok (.istore_n 3, 1) := by decide +kernel
theorem dX6_nextBallot_65 : decode cX6_nextBallot 65 = .ok (.iload_n 3, 1) := by decide +kernel
theorem dX6_nextBallot_66 : decode cX6_nextBallot 66 = .ok (.ireturn, 1) := by decide +kernel
theorem dX6_gets_0 : decode cX6_gets 0 = .ok (.iload_n 2, 1) := by decide +kernel
theorem dX6_gets_1 : decode cX6_gets 1 = .ok (.iload_n 1, 1) := by decide +kernel
theorem dX6_gets_2 : decode cX6_gets 2 = .ok (.ishr, 1) := by decide +kernel
theorem dX6_gets_3 : decode cX6_gets 3 = .ok (.iconst 1, 1) := by decide +kernel
theorem dX6_gets_4 : decode cX6_gets 4 = .ok (.iand, 1) := by decide +kernel
theorem dX6_gets_5 : decode cX6_gets 5 = .ok (.iconst 1, 1) := by decide +kernel
theorem dX6_gets_6 : decode cX6_gets 6 = .ok (.if_icmp .ne 25, 3) := by decide +kernel
theorem dX6_gets_9 : decode cX6_gets 9 = .ok (.aload_n 0, 1) := by decide +kernel
theorem dX6_gets_10 : decode cX6_gets 10 = .ok (.getfield 20, 3) := by decide +kernel
theorem dX6_gets_13 : decode cX6_gets 13 = .ok (.iload_n 1, 1) := by decide +kernel
theorem dX6_gets_14 : decode cX6_gets 14 = .ok (.baload, 1) := by decide +kernel
theorem dX6_gets_15 : decode cX6_gets 15 = .ok (.ifCond .eq 16, 3) := by decide +kernel
theorem dX6_gets_18 : decode cX6_gets 18 = .ok (.aload_n 0, 1) := by decide +kernel
theorem dX6_gets_19 : decode cX6_gets 19 = .ok (.getfield 24, 3) := by decide +kernel
theorem dX6_gets_22 : decode cX6_gets 22 = .ok (.iload_n 1, 1) := by decide +kernel
theorem dX6_gets_23 : decode cX6_gets 23 = .ok (.baload, 1) := by decide +kernel
theorem dX6_gets_24 : decode cX6_gets 24 = .ok (.ifCond .eq 7, 3) := by decide +kernel
theorem dX6_gets_27 : decode cX6_gets 27 = .ok (.iconst 1, 1) := by decide +kernel
theorem dX6_gets_28 : decode cX6_gets 28 = .ok (.goto 4, 3) := by decide +kernel
theorem dX6_gets_31 : decode cX6_gets 31 = .ok (.iconst 0, 1) := by decide +kernel
theorem dX6_gets_32 : decode cX6_gets 32 = .ok (.ireturn, 1) := by decide +kernel
theorem dX6_begin_0 : decode cX6_begin 0 = .ok (.aload_n 0, 1) := by decide +kernel
theorem dX6_begin_1 : decode cX6_begin 1 = .ok (.iload_n 1, 1) := by decide +kernel
theorem dX6_begin_2 : decode cX6_begin 2 = .ok (.iconst 3, 1) := by decide +kernel
theorem dX6_begin_3 : decode cX6_begin 3 = .ok (.bipush 7, 2) := by decide +kernel
theorem dX6_begin_5 : decode cX6_begin 5 = .ok (.invokestatic 98, 3) := by decide +kernel
theorem dX6_begin_8 : decode cX6_begin 8 = .ok (.ifCond .eq 16, 3) := by decide +kernel
theorem dX6_begin_11 : decode cX6_begin 11 = .ok (.iload_n 2, 1) := by decide +kernel
theorem dX6_begin_12 : decode cX6_begin 12 = .ok (.iconst 1, 1) := by decide +kernel
theorem dX6_begin_13 : decode cX6_begin 13 = .ok (.iconst 4, 1) := by decide +kernel
theorem dX6_begin_14 : decode cX6_begin 14 = .ok (.invokestatic 98, 3) := by decide +kernel
theorem dX6_begin_17 : decode cX6_begin 17 = .ok (.ifCond .eq 7, 3) := by decide +kernel
theorem dX6_begin_20 : decode cX6_begin 20 = .ok (.iconst 0, 1) := by decide +kernel
theorem dX6_begin_21 : decode cX6_begin 21 = .ok (.goto 4, 3) := by decide +kernel
theorem dX6_begin_24 : decode cX6_begin 24 = .ok (.iconst 1, 1) := by decide +kernel
theorem dX6_begin_25 : decode cX6_begin 25 = .ok (.putfield 95, 3) := by decide +kernel
theorem dX6_begin_28 : decode cX6_begin 28 = .ok (.aload_n 0, 1) := by decide +kernel
theorem dX6_begin_29 : decode cX6_begin 29 = .ok (.getfield 95, 3) := by decide +kernel
theorem dX6_begin_32 : decode cX6_begin 32 = .ok (.ifCond .le 5, 3) := by decide +kernel
theorem dX6_begin_35 : decode cX6_begin 35 = .ok (.iconst 0, 1) := by decide +kernel
theorem dX6_begin_36 : decode cX6_begin 36 = .ok (.ireturn, 1) := by decide +kernel
theorem dX6_begin_37 : decode cX6_begin 37 = .ok (.aload_n 0, 1) := by decide +kernel
theorem dX6_begin_38 : decode cX6_begin 38 = .ok (.getfield 7, 3) := by decide +kernel
theorem dX6_begin_41 : decode cX6_begin 41 = .ok (.istore_n 3, 1) := by decide +kernel
theorem dX6_begin_42 : decode cX6_begin 42 = .ok (.aload_n 0, 1) := by decide +kernel
theorem dX6_begin_43 : decode cX6_begin 43 = .ok (.iload_n 1, 1) := by decide +kernel
theorem dX6_begin_44 : decode cX6_begin 44 = .ok (.iload_n 2, 1) := by decide +kernel
theorem dX6_begin_45 : decode cX6_begin 45 = .ok (.invokevirtual 91, 3) := by decide +kernel
theorem dX6_begin_48 : decode cX6_begin 48 = .ok (.iload_n 3, 1) := by decide +kernel
theorem dX6_begin_49 : decode cX6_begin 49 = .ok (.ireturn, 1) := by decide +kernel
theorem dX6_setBarriers_0 : decode cX6_setBarriers 0 = .ok (.aload_n 0, 1) := by decide +kernel
theorem dX6_setBarriers_1 : decode cX6_setBarriers 1 = .ok (.iconst 0, 1) := by decide +kernel
theorem dX6_setBarriers_2 : decode cX6_setBarriers 2 = .ok (.putfield 95, 3) := by decide +kernel
theorem dX6_setBarriers_5 : decode cX6_setBarriers 5 = .ok (.aload_n 0, 1) := by decide +kernel
theorem dX6_setBarriers_6 : decode cX6_setBarriers 6 = .ok (.getfield 16, 3) := by decide +kernel
theorem dX6_setBarriers_9 : decode cX6_setBarriers 9 = .ok (.ifCond .eq 7, 3) := by decide +kernel
theorem dX6_setBarriers_12 : decode cX6_setBarriers 12 = .ok (.iconst 1, 1) := by decide +kernel
theorem dX6_setBarriers_13 : decode cX6_setBarriers 13 = .ok (.goto 4, 3) := by decide +kernel
theorem dX6_setBarriers_16 : decode cX6_setBarriers 16 = .ok (.iconst 0, 1) := by decide +kernel
theorem dX6_setBarriers_17 : decode cX6_setBarriers 17 = .ok (.istore_n 2, 1) := by decide +kernel
theorem dX6_setBarriers_18 : decode cX6_setBarriers 18 = .ok (.aload_n 0, 1) := by decide +kernel
theorem dX6_setBarriers_19 : decode cX6_setBarriers 19 = .ok (.iload_n 1, 1) := by decide +kernel
theorem dX6_setBarriers_20 : decode cX6_setBarriers 20 = .ok (.putfield 16, 3) := by decide +kernel
theorem dX6_setBarriers_23 : decode cX6_setBarriers 23 = .ok (.iload_n 2, 1) := by decide +kernel
theorem dX6_setBarriers_24 : decode cX6_setBarriers 24 = .ok (.ireturn, 1) := by decide +kernel
theorem dX6_hear_0 : decode cX6_hear 0 = .ok (.iconst 0, 1) := by decide +kernel
theorem dX6_hear_1 : decode cX6_hear 1 = .ok (.istore_n 3, 1) := by decide +kernel
theorem dX6_hear_2 : decode cX6_hear 2 = .ok (.iload_n 3, 1) := by decide +kernel
theorem dX6_hear_3 : decode cX6_hear 3 = .ok (.aload_n 0, 1) := by decide +kernel
theorem dX6_hear_4 : decode cX6_hear 4 = .ok (.getfield 13, 3) := by decide +kernel
theorem dX6_hear_7 : decode cX6_hear 7 = .ok (.if_icmp .ge 64, 3) := by decide +kernel
theorem dX6_hear_10 : decode cX6_hear 10 = .ok (.aload_n 0, 1) := by decide +kernel
theorem dX6_hear_11 : decode cX6_hear 11 = .ok (.getfield 46, 3) := by decide +kernel
theorem dX6_hear_14 : decode cX6_hear 14 = .ok (.iload_n 2, 1) := by decide +kernel
theorem dX6_hear_15 : decode cX6_hear 15 = .ok (.iload_n 3, 1) := by decide +kernel
theorem dX6_hear_16 : decode cX6_hear 16 = .ok (.invokestatic 102, 3) := by decide +kernel
theorem dX6_hear_19 : decode cX6_hear 19 = .ok (.iaload, 1) := by decide +kernel
theorem dX6_hear_20 : decode cX6_hear 20 = .ok (.aload_n 0, 1) := by decide +kernel
theorem dX6_hear_21 : decode cX6_hear 21 = .ok (.getfield 85, 3) := by decide +kernel
theorem dX6_hear_24 : decode cX6_hear 24 = .ok (.iload_n 3, 1) := by decide +kernel
theorem dX6_hear_25 : decode cX6_hear 25 = .ok (.iaload, 1) := by decide +kernel
theorem dX6_hear_26 : decode cX6_hear 26 = .ok (.if_icmp .le 39, 3) := by decide +kernel
theorem dX6_hear_29 : decode cX6_hear 29 = .ok (.aload_n 0, 1) := by decide +kernel
theorem dX6_hear_30 : decode cX6_hear 30 = .ok (.getfield 85, 3) := by decide +kernel
theorem dX6_hear_33 : decode cX6_hear 33 = .ok (.iload_n 3, 1) := by decide +kernel
theorem dX6_hear_34 : decode cX6_hear 34 = .ok (.aload_n 0, 1) := by decide +kernel
theorem dX6_hear_35 : decode cX6_hear 35 = .ok (.getfield 46, 3) := by decide +kernel
theorem dX6_hear_38 : decode cX6_hear 38 = .ok (.iload_n 2, 1) := by decide +kernel
theorem dX6_hear_39 : decode cX6_hear 39 = .ok (.iload_n 3, 1) := by decide +kernel
theorem dX6_hear_40 : decode cX6_hear 40 = .ok (.invokestatic 102, 3) := by decide +kernel
theorem dX6_hear_43 : decode cX6_hear 43 = .ok (.iaload, 1) := by decide +kernel
theorem dX6_hear_44 : decode cX6_hear 44 = .ok (.iastore, 1) := by decide +kernel
theorem dX6_hear_45 : decode cX6_hear 45 = .ok (.aload_n 0, 1) := by decide +kernel
theorem dX6_hear_46 : decode cX6_hear 46 = .ok (.getfield 67, 3) := by decide +kernel
theorem dX6_hear_49 : decode cX6_hear 49 = .ok (.iload_n 1, 1) := by decide +kernel
theorem dX6_hear_50 : decode cX6_hear 50 = .ok (.iload_n 3, 1) := by decide +kernel
theorem dX6_hear_51 : decode cX6_hear 51 = .ok (.invokestatic 102, 3) := by decide +kernel
theorem dX6_hear_54 : decode cX6_hear 54 = .ok (.aload_n 0, 1) := by decide +kernel
theorem dX6_hear_55 : decode cX6_hear 55 = .ok (.getfield 49, 3) := by decide +kernel
theorem dX6_hear_58 : decode cX6_hear 58 = .ok (.iload_n 2, 1) := by decide +kernel
theorem dX6_hear_59 : decode cX6_hear 59 = .ok (.iload_n 3, 1) := by decide +kernel
theorem dX6_hear_60 : decode cX6_hear 60 = .ok (.invokestatic 102, 3) := by decide +kernel
theorem dX6_hear_63 : decode cX6_hear 63 = .ok (.iaload, 1) := by decide +kernel
theorem dX6_hear_64 : decode cX6_hear 64 = .ok (.iastore, 1) := by decide +kernel
theorem dX6_hear_65 : decode cX6_hear 65 = .ok (.iinc 3 1, 3) := by decide +kernel
theorem dX6_hear_68 : decode cX6_hear 68 = .ok (.goto (-66), 3) := by decide +kernel
theorem dX6_hear_71 : decode cX6_hear 71 = .ok (.return_, 1) := by decide +kernel
theorem dX6_doPrepare_0 : decode cX6_doPrepare 0 = .ok (.aload_n 0, 1) := by decide +kernel
theorem dX6_doPrepare_1 : decode cX6_doPrepare 1 = .ok (.iload_n 1, 1) := by decide +kernel
theorem dX6_doPrepare_2 : decode cX6_doPrepare 2 = .ok (.invokevirtual 122, 3) := by decide +kernel
theorem dX6_doPrepare_5 : decode cX6_doPrepare 5 = .ok (.istore_n 3, 1) := by decide +kernel
theorem dX6_doPrepare_6 : decode cX6_doPrepare 6 = .ok (.iconst 0, 1) := by decide +kernel
theorem dX6_doPrepare_7 : decode cX6_doPrepare 7 = .ok (.istore 4, 2) := by decide +kernel
theorem dX6_doPrepare_9 : decode cX6_doPrepare 9 = .ok (.aload_n 0, 1) := by decide +kernel
theorem dX6_doPrepare_10 : decode cX6_doPrepare 10 = .ok (.iload_n 1, 1) := by decide +kernel
theorem dX6_doPrepare_11 : decode cX6_doPrepare 11 = .ok (.iload_n 3, 1) := by decide +kernel
theorem dX6_doPrepare_12 : decode cX6_doPrepare 12 = .ok (.invokevirtual 126, 3) := by decide +kernel
theorem dX6_doPrepare_15 : decode cX6_doPrepare 15 = .ok (.aload_n 0, 1) := by decide +kernel
theorem dX6_doPrepare_16 : decode cX6_doPrepare 16 = .ok (.getfield 64, 3) := by decide +kernel
theorem dX6_doPrepare_19 : decode cX6_doPrepare 19 = .ok (.iload_n 1, 1) := by decide +kernel
theorem dX6_doPrepare_20 : decode cX6_doPrepare 20 = .ok (.iconst (-1), 1) := by decide +kernel
theorem dX6_doPrepare_21 : decode cX6_doPrepare 21 = .ok (.iastore, 1) := by decide +kernel
theorem dX6_doPrepare_22 : decode cX6_doPrepare 22 = .ok (.iconst 0, 1) := by decide +kernel
theorem dX6_doPrepare_23 : decode cX6_doPrepare 23 = .ok (.istore 5, 2) := by decide +kernel
theorem dX6_doPrepare_25 : decode cX6_doPrepare 25 = .ok (.iload 5, 2) := by decide +kernel
theorem dX6_doPrepare_27 : decode cX6_doPrepare 27 = .ok (.iconst 4, 1) := by decide +kernel
theorem dX6_doPrepare_28 : decode cX6_doPrepare 28 = .ok (.if_icmp .ge 29, 3) := by decide +kernel
theorem dX6_doPrepare_31 : decode cX6_doPrepare 31 = .ok (.aload_n 0, 1) := by decide +kernel
theorem dX6_doPrepare_32 : decode cX6_doPrepare 32 = .ok (.getfield 85, 3) := by decide +kernel
theorem dX6_doPrepare_35 : decode cX6_doPrepare 35 = .ok (.iload 5, 2) := by decide +kernel
theorem dX6_doPrepare_37 : decode cX6_doPrepare 37 = .ok (.iconst 0, 1) := by decide +kernel
theorem dX6_doPrepare_38 : decode cX6_doPrepare 38 = .ok (.iastore, 1) := by decide +kernel
theorem dX6_doPrepare_39 : decode cX6_doPrepare 39 = .ok (.aload_n 0, 1) := by decide +kernel
theorem dX6_doPrepare_40 : decode cX6_doPrepare 40 = .ok (.getfield 67, 3) := by decide +kernel
theorem dX6_doPrepare_43 : decode cX6_doPrepare 43 = .ok (.iload_n 1, 1) := by decide +kernel
theorem dX6_doPrepare_44 : decode cX6_doPrepare 44 = .ok (.iload 5, 2) := by decide +kernel
theorem dX6_doPrepare_46 : decode cX6_doPrepare 46 = .ok (.invokestatic 102, 3) := by decide +kernel
theorem dX6_doPrepare_49 : decode cX6_doPrepare 49 = .ok (.iconst (-1), 1) := by decide +kernel
theorem dX6_doPrepare_50 : decode cX6_doPrepare 50 = .ok (.iastore, 1) := by decide +kernel
theorem dX6_doPrepare_51 : decode cX6_doPrepare 51 = .ok (.iinc 5 1, 3) := by decide +kernel
theorem dX6_doPrepare_54 : decode cX6_doPrepare 54 = .ok (.goto (-29), 3) := by decide +kernel
theorem dX6_doPrepare_57 : decode cX6_doPrepare 57 = .ok (.iconst 0, 1) := by decide +kernel
theorem dX6_doPrepare_58 : decode cX6_doPrepare 58 = .ok (.istore 5, 2) := by decide +kernel
theorem dX6_doPrepare_60 : decode cX6_doPrepare 60 = .ok (.iload 5, 2) := by decide +kernel
theorem dX6_doPrepare_62 : decode cX6_doPrepare 62 = .ok (.aload_n 0, 1) := by decide +kernel
theorem dX6_doPrepare_63 : decode cX6_doPrepare 63 = .ok (.getfield 7, 3) := by decide +kernel
theorem dX6_doPrepare_66 : decode cX6_doPrepare 66 = .ok (.if_icmp .ge 109, 3) := by decide +kernel
theorem dX6_doPrepare_69 : decode cX6_doPrepare 69 = .ok (.aload_n 0, 1) := by decide +kernel
theorem dX6_doPrepare_70 : decode cX6_doPrepare 70 = .ok (.iload 5, 2) := by decide +kernel
theorem dX6_doPrepare_72 : decode cX6_doPrepare 72 = .ok (.iload_n 2, 1) := by decide +kernel
theorem dX6_doPrepare_73 : decode cX6_doPrepare 73 = .ok (.invokevirtual 129, 3) := by decide +kernel
theorem dX6_doPrepare_76 : decode cX6_doPrepare 76 = .ok (.ifCond .eq 93, 3) := by decide +kernel
theorem dX6_doPrepare_79 : decode cX6_doPrepare 79 = .ok (.iload_n 3, 1) := by decide +kernel
theorem dX6_doPrepare_80 : decode cX6_doPrepare 80 = .ok (.aload_n 0, 1) := by decide +kernel
theorem dX6_doPrepare_81 : decode cX6_doPrepare 81 = .ok (.getfield 43, 3) := by decide +kernel
theorem dX6_doPrepare_84 : decode cX6_doPrepare 84 = .ok (.iload 5, 2) := by decide +kernel
theorem dX6_doPrepare_86 : decode cX6_doPrepare 86 = .ok (.iaload, 1) := by decide +kernel
theorem dX6_doPrepare_87 : decode cX6_doPrepare 87 = .ok (.if_icmp .le 7, 3) := by decide +kernel
theorem dX6_doPrepare_90 : decode cX6_doPrepare 90 = .ok (.iconst 1, 1) := by decide +kernel
theorem dX6_doPrepare_91 : decode cX6_doPrepare 91 = .ok (.goto 4, 3) := by decide +kernel
theorem dX6_doPrepare_94 : decode cX6_doPrepare 94 = .ok (.iconst 0, 1) := by decide +kernel
theorem dX6_doPrepare_95 : decode cX6_doPrepare 95 = .ok (.istore 6, 2) := by decide +kernel
theorem dX6_doPrepare_97 : decode cX6_doPrepare 97 = .ok (.aload_n 0, 1) := by decide +kernel
theorem dX6_doPrepare_98 : decode cX6_doPrepare 98 = .ok (.dup, 1) := by decide +kernel
theorem dX6_doPrepare_99 : decode cX6_doPrepare 99 = .ok (.getfield 113, 3) := by decide +kernel
theorem dX6_doPrepare_102 : decode cX6_doPrepare 102 = .ok (.iconst 1, 1) := by decide +kernel
theorem dX6_doPrepare_103 : decode cX6_doPrepare 103 = .ok (.iadd, 1) := by decide +kernel
theorem dX6_doPrepare_104 : decode cX6_doPrepare 104 = .ok (.putfield 113, 3) := by decide +kernel
theorem dX6_doPrepare_107 : decode cX6_doPrepare 107 = .ok (.iload 6, 2) := by decide +kernel
theorem dX6_doPrepare_109 : decode cX6_doPrepare 109 = .ok (.ifCond .eq 35, 3) := by decide +kernel
theorem dX6_doPrepare_112 : decode cX6_doPrepare 112 = .ok (.aload_n 0, 1) := by decide +kernel
theorem dX6_doPrepare_113 : decode cX6_doPrepare 113 = .ok (.iload 5, 2) := by decide +kernel
theorem dX6_doPrepare_115 : decode cX6_doPrepare 115 = .ok (.iconst (-1), 1) := by decide +kernel
theorem dX6_doPrepare_116 : decode cX6_doPrepare 116 = .ok (.iload_n 3, 1) := by decide +kernel
theorem dX6_doPrepare_117 : decode cX6_doPrepare 117 = .ok (.iconst (-1), 1) := by decide +kernel
theorem dX6_doPrepare_118 : decode cX6_doPrepare 118 = .ok (.invokevirtual 133, 3) := by decide +kernel
theorem dX6_doPrepare_121 : decode cX6_doPrepare 121 = .ok (.aload_n 0, 1) := by decide +kernel
theorem dX6_doPrepare_122 : decode cX6_doPrepare 122 = .ok (.iload_n 1, 1) := by decide +kernel
theorem dX6_doPrepare_123 : decode cX6_doPrepare 123 = .ok (.iload 5, 2) := by decide +kernel
theorem dX6_doPrepare_125 : decode cX6_doPrepare 125 = .ok (.invokevirtual 137, 3) := by decide +kernel
theorem dX6_doPrepare_128 : decode cX6_doPrepare 128 = .ok (.iinc 4 1, 3) := by decide +kernel
theorem dX6_doPrepare_131 : decode cX6_doPrepare 131 = .ok (.aload_n 0, 1) := by decide +kernel
theorem dX6_doPrepare_132 : decode cX6_doPrepare 132 = .ok (.dup, 1) := by decide +kernel
theorem dX6_doPrepare_133 : decode cX6_doPrepare 133 = .ok (.getfield 116, 3) := by decide +kernel
theorem dX6_doPrepare_136 : decode cX6_doPrepare 136 = .ok (.iconst 1, 1) := by decide +kernel
theorem dX6_doPrepare_137 : decode cX6_doPrepare 137 = .ok (.iadd, 1) := by decide +kernel
theorem dX6_doPrepare_138 : decode cX6_doPrepare 138 = .ok (.putfield 116, 3) := by decide +kernel
theorem dX6_doPrepare_141 : decode cX6_doPrepare 141 = .ok (.goto 15, 3) := by decide +kernel
theorem dX6_doPrepare_144 : decode cX6_doPrepare 144 = .ok (.aload_n 0, 1) := by decide +kernel
theorem dX6_doPrepare_145 : decode cX6_doPrepare 145 = .ok (.iload_n 1, 1) := by decide +kernel
theorem dX6_doPrepare_146 : decode cX6_doPrepare 146 = .ok (.aload_n 0, 1) := by decide +kernel
theorem dX6_doPrepare_147 : decode cX6_doPrepare 147 = .ok (.getfield 43, 3) := by decide +kernel
theorem dX6_doPrepare_150 : decode cX6_doPrepare 150 = .ok (.iload 5, 2) := by decide +kernel
theorem dX6_doPrepare_152 : decode cX6_doPrepare 152 = .ok (.iaload, 1) := by decide +kernel
theorem dX6_doPrepare_153 : decode cX6_doPrepare 153 = .ok (.invokevirtual 126, 3) := by decide +kernel
theorem dX6_doPrepare_156 : decode cX6_doPrepare 156 = .ok (.aload_n 0, 1) := by decide +kernel
theorem dX6_doPrepare_157 : decode cX6_doPrepare 157 = .ok (.getfield 16, 3) := by decide +kernel
theorem dX6_doPrepare_160 : decode cX6_doPrepare 160 = .ok (.ifCond .eq 9, 3) := by decide +kernel
theorem dX6_doPrepare_163 : decode cX6_doPrepare 163 = .ok (.aload_n 0, 1) := by decide +kernel
theorem dX6_doPrepare_164 : decode cX6_doPrepare 164 = .ok (.iload 5, 2) := by decide +kernel
theorem dX6_doPrepare_166 : decode cX6_doPrepare 166 = .ok (.invokevirtual 140, 3) := by decide +kernel
theorem dX6_doPrepare_169 : decode cX6_doPrepare 169 = .ok (.iinc 5 1, 3) := by decide +kernel
theorem dX6_doPrepare_172 : decode cX6_doPrepare 172 = .ok (.goto (-112), 3) := by decide +kernel
theorem dX6_doPrepare_175 : decode cX6_doPrepare 175 = .ok (.aload_n 0, 1) := by decide +kernel
theorem dX6_doPrepare_176 : decode cX6_doPrepare 176 = .ok (.getfield 64, 3) := by decide +kernel
theorem dX6_doPrepare_179 : decode cX6_doPrepare 179 = .ok (.iload_n 1, 1) := by decide +kernel
theorem dX6_doPrepare_180 : decode cX6_doPrepare 180 = .ok (.iload 4, 2) := by decide +kernel
theorem dX6_doPrepare_182 : decode cX6_doPrepare 182 = .ok (.aload_n 0, 1) := by decide +kernel
theorem dX6_doPrepare_183 : decode cX6_doPrepare 183 = .ok (.invokevirtual 143, 3) := by decide +kernel
theorem dX6_doPrepare_186 : decode cX6_doPrepare 186 = .ok (.if_icmp .lt 7, 3) := by decide +kernel
theorem dX6_doPrepare_189 : decode cX6_doPrepare 189 = .ok (.iload_n 3, 1) := by decide +kernel
theorem dX6_doPrepare_190 : decode cX6_doPrepare 190 = .ok (.goto 4, 3) := by decide +kernel
theorem dX6_doPrepare_193 : decode cX6_doPrepare 193 = .ok (.iconst (-1), 1) := by decide +kernel
theorem dX6_doPrepare_194 : decode cX6_doPrepare 194 = .ok (.iastore, 1) := by decide +kernel
theorem dX6_doPrepare_195 : decode cX6_doPrepare 195 = .ok (.iload 4, 2) := by decide +kernel
theorem dX6_doPrepare_197 : decode cX6_doPrepare 197 = .ok (.ireturn, 1) := by decide +kernel
theorem dX6_prepareFault_0 : decode cX6_prepareFault 0 = .ok (.aload_n 0, 1) := by decide +kernel
theorem dX6_prepareFault_1 : decode cX6_prepareFault 1 = .ok (.iload_n 1, 1) := by decide +kernel
theorem dX6_prepareFault_2 : decode cX6_prepareFault 2 = .ok (.invokevirtual 147, 3) := by decide +kernel
theorem dX6_prepareFault_5 : decode cX6_prepareFault 5 = .ok (.ifCond .ne 7, 3) := by decide +kernel
theorem dX6_prepareFault_8 : decode cX6_prepareFault 8 = .ok (.iconst 1, 1) := by decide +kernel
theorem dX6_prepareFault_9 : decode cX6_prepareFault 9 = .ok (.goto 38, 3) := by decide +kernel
theorem dX6_prepareFault_12 : decode cX6_prepareFault 12 = .ok (.aload_n 0, 1) := by decide +kernel
theorem dX6_prepareFault_13 : decode cX6_prepareFault 13 = .ok (.iload_n 2, 1) := by decide +kernel
theorem dX6_prepareFault_14 : decode cX6_prepareFault 14 = .ok (.invokevirtual 151, 3) := by decide +kernel
theorem dX6_prepareFault_17 : decode cX6_prepareFault 17 = .ok (.ifCond .ne 7, 3) := by decide +kernel
theorem dX6_prepareFault_20 : decode cX6_prepareFault 20 = .ok (.iconst 2, 1) := by decide +kernel
theorem dX6_prepareFault_21 : decode cX6_prepareFault 21 = .ok (.goto 26, 3) := by decide +kernel
theorem dX6_prepareFault_24 : decode cX6_prepareFault 24 = .ok (.aload_n 0, 1) := by decide +kernel
theorem dX6_prepareFault_25 : decode cX6_prepareFault 25 = .ok (.getfield 20, 3) := by decide +kernel
theorem dX6_prepareFault_28 : decode cX6_prepareFault 28 = .ok (.iload_n 1, 1) := by decide +kernel
theorem dX6_prepareFault_29 : decode cX6_prepareFault 29 = .ok (.baload, 1) := by decide +kernel
theorem dX6_prepareFault_30 : decode cX6_prepareFault 30 = .ok (.ifCond .eq 16, 3) := by decide +kernel
theorem dX6_prepareFault_33 : decode cX6_prepareFault 33 = .ok (.aload_n 0, 1) := by decide +kernel
theorem dX6_prepareFault_34 : decode cX6_prepareFault 34 = .ok (.getfield 24, 3) := by decide +kernel
theorem dX6_prepareFault_37 : decode cX6_prepareFault 37 = .ok (.iload_n 1, 1) := by decide +kernel
theorem dX6_prepareFault_38 : decode cX6_prepareFault 38 = .ok (.baload, 1) := by decide +kernel
theorem dX6_prepareFault_39 : decode cX6_prepareFault 39 = .ok (.ifCond .eq 7, 3) := by decide +kernel
theorem dX6_prepareFault_42 : decode cX6_prepareFault 42 = .ok (.iconst 0, 1) := by decide +kernel
theorem dX6_prepareFault_43 : decode cX6_prepareFault 43 = .ok (.goto 4, 3) := by decide +kernel
theorem dX6_prepareFault_46 : decode cX6_prepareFault 46 = .ok (.iconst 3, 1) := by decide +kernel
theorem dX6_prepareFault_47 : decode cX6_prepareFault 47 = .ok (.ireturn, 1) := by decide +kernel
theorem dX6_prepare_0 : decode cX6_prepare 0 = .ok (.aload_n 0, 1) := by decide +kernel
theorem dX6_prepare_1 : decode cX6_prepare 1 = .ok (.aload_n 0, 1) := by decide +kernel
theorem dX6_prepare_2 : decode cX6_prepare 2 = .ok (.iload_n 1, 1) := by decide +kernel
theorem dX6_prepare_3 : decode cX6_prepare 3 = .ok (.iload_n 2, 1) := by decide +kernel
theorem dX6_prepare_4 : decode cX6_prepare 4 = .ok (.invokevirtual 154, 3) := by decide +kernel
theorem dX6_prepare_7 : decode cX6_prepare 7 = .ok (.putfield 95, 3) := by decide +kernel
theorem dX6_prepare_10 : decode cX6_prepare 10 = .ok (.aload_n 0, 1) := by decide +kernel
theorem dX6_prepare_11 : decode cX6_prepare 11 = .ok (.getfield 95, 3) := by decide +kernel
theorem dX6_prepare_14 : decode cX6_prepare 14 = .ok (.ifCond .le 7, 3) := by decide +kernel
theorem dX6_prepare_17 : decode cX6_prepare 17 = .ok (.iconst 0, 1) := by decide +kernel
theorem dX6_prepare_18 : decode cX6_prepare 18 = .ok (.goto 9, 3) := by decide +kernel
theorem dX6_prepare_21 : decode cX6_prepare 21 = .ok (.aload_n 0, 1) := by decide +kernel
theorem dX6_prepare_22 : decode cX6_prepare 22 = .ok (.iload_n 1, 1) := by decide +kernel
theorem dX6_prepare_23 : decode cX6_prepare 23 = .ok (.iload_n 2, 1) := by decide +kernel
theorem dX6_prepare_24 : decode cX6_prepare 24 = .ok (.invokevirtual 157, 3) := by decide +kernel
theorem dX6_prepare_27 : decode cX6_prepare 27 = .ok (.ireturn, 1) := by decide +kernel
theorem dX6_decide_0 : decode cX6_decide 0 = .ok (.aload_n 0, 1) := by decide +kernel
theorem dX6_decide_1 : decode cX6_decide 1 = .ok (.getfield 70, 3) := by decide +kernel
theorem dX6_decide_4 : decode cX6_decide 4 = .ok (.iload_n 1, 1) := by decide +kernel
theorem dX6_decide_5 : decode cX6_decide 5 = .ok (.iaload, 1) := by decide +kernel
theorem dX6_decide_6 : decode cX6_decide 6 = .ok (.ifCond .ne 17, 3) := by decide +kernel
theorem dX6_decide_9 : decode cX6_decide 9 = .ok (.aload_n 0, 1) := by decide +kernel
theorem dX6_decide_10 : decode cX6_decide 10 = .ok (.getfield 73, 3) := by decide +kernel
theorem dX6_decide_13 : decode cX6_decide 13 = .ok (.iload_n 1, 1) := by decide +kernel
theorem dX6_decide_14 : decode cX6_decide 14 = .ok (.iload_n 2, 1) := by decide +kernel
theorem dX6_decide_15 : decode cX6_decide 15 = .ok (.iastore, 1) := by decide +kernel
theorem dX6_decide_16 : decode cX6_decide 16 = .ok (.aload_n 0, 1) := by decide +kernel
theorem dX6_decide_17 : decode cX6_decide 17 = .ok (.getfield 76, 3) := by decide +kernel
theorem dX6_decide_20 : decode cX6_decide 20 = .ok (.iload_n 1, 1) := by decide +kernel
theorem dX6_decide_21 : decode cX6_decide 21 = .ok (.iload_n 3, 1) := by decide +kernel
theorem dX6_decide_22 : decode cX6_decide 22 = .ok (.iastore, 1) := by decide +kernel
theorem dX6_decide_23 : decode cX6_decide 23 = .ok (.aload_n 0, 1) := by decide +kernel
theorem dX6_decide_24 : decode cX6_decide 24 = .ok (.getfield 70, 3) := by decide +kernel
theorem dX6_decide_27 : decode cX6_decide 27 = .ok (.iload_n 1, 1) := by decide +kernel
theorem dX6_decide_28 : decode cX6_decide 28 = .ok (.dup2, 1) := by decide +kernel
theorem dX6_decide_29 : decode cX6_decide 29 = .ok (.iaload, 1) := by decide +kernel
theorem dX6_decide_30 : decode cX6_decide 30 = .ok (.iconst 1, 1) := by decide +kernel
theorem dX6_decide_31 : decode cX6_decide 31 = .ok (.iadd, 1) := by decide +kernel
theorem dX6_decide_32 : decode cX6_decide 32 = .ok (.iastore, 1) := by decide +kernel
theorem dX6_decide_33 : decode cX6_decide 33 = .ok (.aload_n 0, 1) := by decide +kernel
theorem dX6_decide_34 : decode cX6_decide 34 = .ok (.getfield 79, 3) := by decide +kernel
theorem dX6_decide_37 : decode cX6_decide 37 = .ok (.iload_n 1, 1) := by decide +kernel
theorem dX6_decide_38 : decode cX6_decide 38 = .ok (.aload_n 0, 1) := by decide +kernel
theorem dX6_decide_39 : decode cX6_decide 39 = .ok (.getfield 79, 3) := by decide +kernel
theorem dX6_decide_42 : decode cX6_decide 42 = .ok (.iload_n 1, 1) := by decide +kernel
theorem dX6_decide_43 : decode cX6_decide 43 = .ok (.baload, 1) := by decide +kernel
theorem dX6_decide_44 : decode cX6_decide 44 = .ok (.ifCond .ne 13, 3) := by decide +kernel
theorem dX6_decide_47 : decode cX6_decide 47 = .ok (.iload_n 3, 1) := by decide +kernel
theorem dX6_decide_48 : decode cX6_decide 48 = .ok (.aload_n 0, 1) := by decide +kernel
theorem dX6_decide_49 : decode cX6_decide 49 = .ok (.getfield 76, 3) := by decide +kernel
theorem dX6_decide_52 : decode cX6_decide 52 = .ok (.iload_n 1, 1) := by decide +kernel
theorem dX6_decide_53 : decode cX6_decide 53 = .ok (.iaload, 1) := by decide +kernel
theorem dX6_decide_54 : decode cX6_decide 54 = .ok (.if_icmp .eq 7, 3) := by decide +kernel
theorem dX6_decide_57 : decode cX6_decide 57 = .ok (.iconst 1, 1) := by decide +kernel
theorem dX6_decide_58 : decode cX6_decide 58 = .ok (.goto 4, 3) := by decide +kernel
theorem dX6_decide_61 : decode cX6_decide 61 = .ok (.iconst 0, 1) := by decide +kernel
theorem dX6_decide_62 : decode cX6_decide 62 = .ok (.bastore, 1) := by decide +kernel
theorem dX6_decide_63 : decode cX6_decide 63 = .ok (.return_, 1) := by decide +kernel
theorem dX6_doAccept_0 : decode cX6_doAccept 0 = .ok (.aload_n 0, 1) := by decide +kernel
theorem dX6_doAccept_1 : decode cX6_doAccept 1 = .ok (.getfield 64, 3) := by decide +kernel
theorem dX6_doAccept_4 : decode cX6_doAccept 4 = .ok (.iload_n 1, 1) := by decide +kernel
theorem dX6_doAccept_5 : decode cX6_doAccept 5 = .ok (.iaload, 1) := by decide +kernel
theorem dX6_doAccept_6 : decode cX6_doAccept 6 = .ok (.istore 5, 2) := by decide +kernel
theorem dX6_doAccept_8 : decode cX6_doAccept 8 = .ok (.aload_n 0, 1) := by decide +kernel
theorem dX6_doAccept_9 : decode cX6_doAccept 9 = .ok (.getfield 67, 3) := by decide +kernel
theorem dX6_doAccept_12 : decode cX6_doAccept 12 = .ok (.iload_n 1, 1) := by decide +kernel
theorem dX6_doAccept_13 : decode cX6_doAccept 13 = .ok (.iload_n 2, 1) := by decide +kernel
theorem dX6_doAccept_14 : decode cX6_doAccept 14 = .ok (.invokestatic 102, 3) := by decide +kernel
theorem dX6_doAccept_17 : decode cX6_doAccept 17 = .ok (.iaload, 1) := by decide +kernel
theorem dX6_doAccept_18 : decode cX6_doAccept 18 = .ok (.iconst (-1), 1) := by decide +kernel
theorem dX6_doAccept_19 : decode cX6_doAccept 19 = .ok (.if_icmp .ne 7, 3) := by decide +kernel
theorem dX6_doAccept_22 : decode cX6_doAccept 22 = .ok (.iload_n 3, 1) := by decide +kernel
theorem dX6_doAccept_23 : decode cX6_doAccept 23 = .ok (.goto 13, 3) := by decide +kernel
theorem dX6_doAccept_26 : decode cX6_doAccept 26 = .ok (.aload_n 0, 1) := by decide +kernel
theorem dX6_doAccept_27 : decode cX6_doAccept 27 = .ok (.getfield 67, 3) := by decide +kernel
theorem dX6_doAccept_30 : decode cX6_doAccept 30 = .ok (.iload_n 1, 1) := by decide +kernel
theorem dX6_doAccept_31 : decode cX6_doAccept 31 = .ok (.iload_n 2, 1) := by decide +kernel
theorem dX6_doAccept_32 : decode cX6_doAccept 32 = .ok (.invokestatic 102, 3) := by decide +kernel
theorem dX6_doAccept_35 : decode cX6_doAccept 35 = .ok (.iaload, 1) := by decide +kernel
theorem dX6_doAccept_36 : decode cX6_doAccept 36 = .ok (.istore 6, 2) := by decide +kernel
theorem dX6_doAccept_38 : decode cX6_doAccept 38 = .ok (.iconst 0, 1) := by decide +kernel
theorem dX6_doAccept_39 : decode cX6_doAccept 39 = .ok (.istore 7, 2) := by decide +kernel
theorem dX6_doAccept_41 : decode cX6_doAccept 41 = .ok (.aload_n 0, 1) := by decide +kernel
theorem dX6_doAccept_42 : decode cX6_doAccept 42 = .ok (.getfield 67, 3) := by decide +kernel
theorem dX6_doAccept_45 : decode cX6_doAccept 45 = .ok (.iload_n 1, 1) := by decide +kernel
theorem dX6_doAccept_46 : decode cX6_doAccept 46 = .ok (.iload_n 2, 1) := by decide +kernel
theorem dX6_doAccept_47 : decode cX6_doAccept 47 = .ok (.invokestatic 102, 3) := by decide +kernel
theorem dX6_doAccept_50 : decode cX6_doAccept 50 = .ok (.iload 6, 2) := by decide +kernel
theorem dX6_doAccept_52 : decode cX6_doAccept 52 = .ok (.iastore, 1) := by decide +kernel
theorem dX6_doAccept_53 : decode cX6_doAccept 53 = .ok (.iconst 0, 1) := by decide +kernel
theorem dX6_doAccept_54 : decode cX6_doAccept 54 = .ok (.istore 8, 2) := by decide +kernel
theorem dX6_doAccept_56 : decode cX6_doAccept 56 = .ok (.iload 8, 2) := by decide +kernel
theorem dX6_doAccept_58 : decode cX6_doAccept 58 = .ok (.aload_n 0, 1) := by decide +kernel
theorem dX6_doAccept_59 : decode cX6_doAccept 59 = .ok (.getfield 7, 3) := by decide +kernel
theorem dX6_doAccept_62 : decode cX6_doAccept 62 = .ok (.if_icmp .ge 101, 3) := by decide +kernel
theorem dX6_doAccept_65 : decode cX6_doAccept 65 = .ok (.aload_n 0, 1) := by decide +kernel
theorem dX6_doAccept_66 : decode cX6_doAccept 66 = .ok (.iload 8, 2) := by decide +kernel
theorem dX6_doAccept_68 : decode cX6_doAccept 68 = .ok (.iload 4, 2) := by decide +kernel
theorem dX6_doAccept_70 : decode cX6_doAccept 70 = .ok (.invokevirtual 129, 3) := by decide +kernel
theorem dX6_doAccept_73 : decode cX6_doAccept 73 = .ok (.ifCond .eq 84, 3) := by decide +kernel
theorem dX6_doAccept_76 : decode cX6_doAccept 76 = .ok (.aload_n 0, 1) := by decide +kernel
theorem dX6_doAccept_77 : decode cX6_doAccept 77 = .ok (.dup, 1) := by decide +kernel
theorem dX6_doAccept_78 : decode cX6_doAccept 78 = .ok (.getfield 113, 3) := by decide +kernel
theorem dX6_doAccept_81 : decode cX6_doAccept 81 = .ok (.iconst 1, 1) := by decide +kernel
theorem dX6_doAccept_82 : decode cX6_doAccept 82 = .ok (.iadd, 1) := by decide +kernel
theorem dX6_doAccept_83 : decode cX6_doAccept 83 = .ok (.putfield 113, 3) := by decide +kernel
theorem dX6_doAccept_86 : decode cX6_doAccept 86 = .ok (.iload 5, 2) := by decide +kernel
theorem dX6_doAccept_88 : decode cX6_doAccept 88 = .ok (.aload_n 0, 1) := by decide +kernel
theorem dX6_doAccept_89 : decode cX6_doAccept 89 = .ok (.getfield 43, 3) := by decide +kernel
theorem dX6_doAccept_92 : decode cX6_doAccept 92 = .ok (.iload 8, 2) := by decide +kernel
theorem dX6_doAccept_94 : decode cX6_doAccept 94 = .ok (.iaload, 1) := by decide +kernel
theorem dX6_doAccept_95 : decode cX6_doAccept 95 = .ok (.if_icmp .lt 30, 3) := by decide +kernel
theorem dX6_doAccept_98 : decode cX6_doAccept 98 = .ok (.aload_n 0, 1) := by decide +kernel
theorem dX6_doAccept_99 : decode cX6_doAccept 99 = .ok (.iload 8, 2) := by decide +kernel
theorem dX6_doAccept_101 : decode cX6_doAccept 101 = .ok (.iload_n 2, 1) := by decide +kernel
theorem dX6_doAccept_102 : decode cX6_doAccept 102 = .ok (.iload 5, 2) := by decide +kernel
theorem dX6_doAccept_104 : decode cX6_doAccept 104 = .ok (.iload 6, 2) := by decide +kernel
theorem dX6_doAccept_106 : decode cX6_doAccept 106 = .ok (.invokevirtual 133, 3) := by decide +kernel
theorem dX6_doAccept_109 : decode cX6_doAccept 109 = .ok (.iinc 7 1, 3) := by decide +kernel
theorem dX6_doAccept_112 : decode cX6_doAccept 112 = .ok (.aload_n 0, 1) := by decide +kernel
theorem dX6_doAccept_113 : decode cX6_doAccept 113 = .ok (.dup, 1) := by decide +kernel
theorem dX6_doAccept_114 : decode cX6_doAccept 114 = .ok (.getfield 116, 3) := by decide +kernel
theorem dX6_doAccept_117 : decode cX6_doAccept 117 = .ok (.iconst 1, 1) := by decide +kernel
theorem dX6_doAccept_118 : decode cX6_doAccept 118 = .ok (.iadd, 1) := by decide +kernel
theorem dX6_doAccept_119 : decode cX6_doAccept 119 = .ok (.putfield 116, 3) := by decide +kernel
theorem dX6_doAccept_122 : decode cX6_doAccept 122 = .ok (.goto 22, 3) := by decide +kernel
theorem dX6_doAccept_125 : decode cX6_doAccept 125 = .ok (.aload_n 0, 1) := by decide +kernel
theorem dX6_doAccept_126 : decode cX6_doAccept 126 = .ok (.iload_n 1, 1) := by decide +kernel
theorem dX6_doAccept_127 : decode cX6_doAccept 127 = .ok (.aload_n 0, 1) := by decide +kernel
theorem dX6_doAccept_128 : decode cX6_doAccept 128 = .ok (.getfield 43, 3) := by decide +kernel
theorem dX6_doAccept_131 : decode cX6_doAccept 131 = .ok (.iload 8, 2) := by decide +kernel
theorem dX6_doAccept_133 : decode cX6_doAccept 133 = .ok (.iaload, 1) := by decide +kernel
theorem dX6_doAccept_134 : decode cX6_doAccept 134 = .ok (.invokevirtual 126, 3) := by decide +kernel
theorem dX6_doAccept_137 : decode cX6_doAccept 137 = .ok (.aload_n 0, 1) := by decide +kernel
theorem dX6_doAccept_138 : decode cX6_doAccept 138 = .ok (.getfield 64, 3) := by decide +kernel
theorem dX6_doAccept_141 : decode cX6_doAccept 141 = .ok (.iload_n 1, 1) := by decide +kernel
theorem dX6_doAccept_142 : decode cX6_doAccept 142 = .ok (.iconst (-1), 1) := by decide +kernel
theorem dX6_doAccept_143 : decode cX6_doAccept 143 = .ok (.iastore, 1) := by decide +kernel
theorem dX6_doAccept_144 : decode cX6_doAccept 144 = .ok (.aload_n 0, 1) := by decide +kernel
theorem dX6_doAccept_145 : decode cX6_doAccept 145 = .ok (.getfield 16, 3) := by decide +kernel
theorem dX6_doAccept_148 : decode cX6_doAccept 148 = .ok (.ifCond .eq 9, 3) := by decide +kernel
theorem dX6_doAccept_151 : decode cX6_doAccept 151 = .ok (.aload_n 0, 1) := by decide +kernel
theorem dX6_doAccept_152 : decode cX6_doAccept 152 = .ok (.iload 8, 2) := by decide +kernel
theorem dX6_doAccept_154 : decode cX6_doAccept 154 = .ok (.invokevirtual 140, 3) := by decide +kernel
theorem dX6_doAccept_157 : decode cX6_doAccept 157 = .ok (.iinc 8 1, 3) := by decide +kernel
theorem dX6_doAccept_160 : decode cX6_doAccept 160 = .ok (.goto (-104), 3) := by decide +kernel
theorem dX6_doAccept_163 : decode cX6_doAccept 163 = .ok (.iload 7, 2) := by decide +kernel
theorem dX6_doAccept_165 : decode cX6_doAccept 165 = .ok (.aload_n 0, 1) := by decide +kernel
theorem dX6_doAccept_166 : decode cX6_doAccept 166 = .ok (.invokevirtual 143, 3) := by decide +kernel
theorem dX6_doAccept_169 : decode cX6_doAccept 169 = .ok (.if_icmp .lt 12, 3) := by decide +kernel
theorem dX6_doAccept_172 : decode cX6_doAccept 172 = .ok (.aload_n 0, 1) := by decide +kernel
theorem dX6_doAccept_173 : decode cX6_doAccept 173 = .ok (.iload_n 2, 1) := by decide +kernel
theorem dX6_doAccept_174 : decode cX6_doAccept 174 = .ok (.iload 5, 2) := by decide +kernel
theorem dX6_doAccept_176 : decode cX6_doAccept 176 = .ok (.iload 6, 2) := by decide +kernel
theorem dX6_doAccept_178 : decode cX6_doAccept 178 = .ok (.invokevirtual 160, 3) := by decide +kernel
theorem dX6_doAccept_181 : decode cX6_doAccept 181 = .ok (.iload 7, 2) := by decide +kernel
theorem dX6_doAccept_183 : decode cX6_doAccept 183 = .ok (.ireturn, 1) := by decide +kernel
theorem dX6_acceptFault_0 : decode cX6_acceptFault 0 = .ok (.aload_n 0, 1) := by decide +kernel
theorem dX6_acceptFault_1 : decode cX6_acceptFault 1 = .ok (.iload_n 1, 1) := by decide +kernel
theorem dX6_acceptFault_2 : decode cX6_acceptFault 2 = .ok (.invokevirtual 147, 3) := by decide +kernel
theorem dX6_acceptFault_5 : decode cX6_acceptFault 5 = .ok (.ifCond .eq 15, 3) := by decide +kernel
theorem dX6_acceptFault_8 : decode cX6_acceptFault 8 = .ok (.aload_n 0, 1) := by decide +kernel
theorem dX6_acceptFault_9 : decode cX6_acceptFault 9 = .ok (.iload_n 2, 1) := by decide +kernel
theorem dX6_acceptFault_10 : decode cX6_acceptFault 10 = .ok (.invokevirtual 164, 3) := by decide +kernel
theorem dX6_acceptFault_13 : decode cX6_acceptFault 13 = .ok (.ifCond .eq 7, 3) := by decide +kernel
theorem dX6_acceptFault_16 : decode cX6_acceptFault 16 = .ok (.iconst 1, 1) := by decide +kernel
theorem dX6_acceptFault_17 : decode cX6_acceptFault 17 = .ok (.goto 4, 3) := by decide +kernel
theorem dX6_acceptFault_20 : decode cX6_acceptFault 20 = .ok (.iconst 0, 1) := by decide +kernel
theorem dX6_acceptFault_21 : decode cX6_acceptFault 21 = .ok (.istore 5, 2) := by decide +kernel
theorem dX6_acceptFault_23 : decode cX6_acceptFault 23 = .ok (.iload 5, 2) := by decide +kernel
theorem dX6_acceptFault_25 : decode cX6_acceptFault 25 = .ok (.ifCond .ne 7, 3) := by decide +kernel
theorem dX6_acceptFault_28 : decode cX6_acceptFault 28 = .ok (.iconst 1, 1) := by decide +kernel
theorem dX6_acceptFault_29 : decode cX6_acceptFault 29 = .ok (.goto 41, 3) := by decide +kernel
theorem dX6_acceptFault_32 : decode cX6_acceptFault 32 = .ok (.iload_n 3, 1) := by decide +kernel
theorem dX6_acceptFault_33 : decode cX6_acceptFault 33 = .ok (.iconst 0, 1) := by decide +kernel
theorem dX6_acceptFault_34 : decode cX6_acceptFault 34 = .ok (.bipush 9, 2) := by decide +kernel
theorem dX6_acceptFault_36 : decode cX6_acceptFault 36 = .ok (.invokestatic 98, 3) := by decide +kernel
theorem dX6_acceptFault_39 : decode cX6_acceptFault 39 = .ok (.ifCond .eq 12, 3) := by decide +kernel
theorem dX6_acceptFault_42 : decode cX6_acceptFault 42 = .ok (.aload_n 0, 1) := by decide +kernel
theorem dX6_acceptFault_43 : decode cX6_acceptFault 43 = .ok (.iload 4, 2) := by decide +kernel
theorem dX6_acceptFault_45 : decode cX6_acceptFault 45 = .ok (.invokevirtual 151, 3) := by decide +kernel
theorem dX6_acceptFault_48 : decode cX6_acceptFault 48 = .ok (.ifCond .ne 7, 3) := by decide +kernel
theorem dX6_acceptFault_51 : decode cX6_acceptFault 51 = .ok (.iconst 2, 1) := by decide +kernel
theorem dX6_acceptFault_52 : decode cX6_acceptFault 52 = .ok (.goto 18, 3) := by decide +kernel
theorem dX6_acceptFault_55 : decode cX6_acceptFault 55 = .ok (.aload_n 0, 1) := by decide +kernel
theorem dX6_acceptFault_56 : decode cX6_acceptFault 56 = .ok (.getfield 64, 3) := by decide +kernel
theorem dX6_acceptFault_59 : decode cX6_acceptFault 59 = .ok (.iload_n 1, 1) := by decide +kernel
theorem dX6_acceptFault_60 : decode cX6_acceptFault 60 = .ok (.iaload, 1) := by decide +kernel
theorem dX6_acceptFault_61 : decode cX6_acceptFault 61 = .ok (.iconst (-1), 1) := by decide +kernel
theorem dX6_acceptFault_62 : decode cX6_acceptFault 62 = .ok (.if_icmp .ne 7, 3) := by decide +kernel
theorem dX6_acceptFault_65 : decode cX6_acceptFault 65 = .ok (.iconst 3, 1) := by decide +kernel
theorem dX6_acceptFault_66 : decode cX6_acceptFault 66 = .ok (.goto 4, 3) := by decide +kernel
theorem dX6_acceptFault_69 : decode cX6_acceptFault 69 = .ok (.iconst 0, 1) := by decide +kernel
theorem dX6_acceptFault_70 : decode cX6_acceptFault 70 = .ok (.ireturn, 1) := by decide +kernel
theorem dX6_accept_0 : decode cX6_accept 0 = .ok (.aload_n 0, 1) := by decide +kernel
theorem dX6_accept_1 : decode cX6_accept 1 = .ok (.aload_n 0, 1) := by decide +kernel
theorem dX6_accept_2 : decode cX6_accept 2 = .ok (.iload_n 1, 1) := by decide +kernel
theorem dX6_accept_3 : decode cX6_accept 3 = .ok (.iload_n 2, 1) := by decide +kernel
theorem dX6_accept_4 : decode cX6_accept 4 = .ok (.iload_n 3, 1) := by decide +kernel
theorem dX6_accept_5 : decode cX6_accept 5 = .ok (.iload 4, 2) := by decide +kernel
theorem dX6_accept_7 : decode cX6_accept 7 = .ok (.invokevirtual 167, 3) := by decide +kernel
theorem dX6_accept_10 : decode cX6_accept 10 = .ok (.putfield 95, 3) := by decide +kernel
theorem dX6_accept_13 : decode cX6_accept 13 = .ok (.aload_n 0, 1) := by decide +kernel
theorem dX6_accept_14 : decode cX6_accept 14 = .ok (.getfield 95, 3) := by decide +kernel
theorem dX6_accept_17 : decode cX6_accept 17 = .ok (.ifCond .le 7, 3) := by decide +kernel
theorem dX6_accept_20 : decode cX6_accept 20 = .ok (.iconst 0, 1) := by decide +kernel
theorem dX6_accept_21 : decode cX6_accept 21 = .ok (.goto 12, 3) := by decide +kernel
theorem dX6_accept_24 : decode cX6_accept 24 = .ok (.aload_n 0, 1) := by decide +kernel
theorem dX6_accept_25 : decode cX6_accept 25 = .ok (.iload_n 1, 1) := by decide +kernel
theorem dX6_accept_26 : decode cX6_accept 26 = .ok (.iload_n 2, 1) := by decide +kernel
theorem dX6_accept_27 : decode cX6_accept 27 = .ok (.iload_n 3, 1) := by decide +kernel
theorem dX6_accept_28 : decode cX6_accept 28 = .ok (.iload 4, 2) := by decide +kernel
theorem dX6_accept_30 : decode cX6_accept 30 = .ok (.invokevirtual 171, 3) := by decide +kernel
theorem dX6_accept_33 : decode cX6_accept 33 = .ok (.ireturn, 1) := by decide +kernel
theorem dX6_upFault_0 : decode cX6_upFault 0 = .ok (.aload_n 0, 1) := by decide +kernel
theorem dX6_upFault_1 : decode cX6_upFault 1 = .ok (.iload_n 1, 1) := by decide +kernel
theorem dX6_upFault_2 : decode cX6_upFault 2 = .ok (.invokevirtual 147, 3) := by decide +kernel
theorem dX6_upFault_5 : decode cX6_upFault 5 = .ok (.ifCond .ne 7, 3) := by decide +kernel
theorem dX6_upFault_8 : decode cX6_upFault 8 = .ok (.iconst 1, 1) := by decide +kernel
theorem dX6_upFault_9 : decode cX6_upFault 9 = .ok (.goto 18, 3) := by decide +kernel
theorem dX6_upFault_12 : decode cX6_upFault 12 = .ok (.aload_n 0, 1) := by decide +kernel
theorem dX6_upFault_13 : decode cX6_upFault 13 = .ok (.getfield 20, 3) := by decide +kernel
theorem dX6_upFault_16 : decode cX6_upFault 16 = .ok (.iload_n 1, 1) := by decide +kernel
theorem dX6_upFault_17 : decode cX6_upFault 17 = .ok (.baload, 1) := by decide +kernel
theorem dX6_upFault_18 : decode cX6_upFault 18 = .ok (.iload_n 2, 1) := by decide +kernel
theorem dX6_upFault_19 : decode cX6_upFault 19 = .ok (.if_icmp .ne 7, 3) := by decide +kernel
theorem dX6_upFault_22 : decode cX6_upFault 22 = .ok (.iconst 0, 1) := by decide +kernel
theorem dX6_upFault_23 : decode cX6_upFault 23 = .ok (.goto 4, 3) := by decide +kernel
theorem dX6_upFault_26 : decode cX6_upFault 26 = .ok (.iconst 2, 1) := by decide +kernel
theorem dX6_upFault_27 : decode cX6_upFault 27 = .ok (.ireturn, 1) := by decide +kernel
theorem dX6_doBarrier_0 : decode cX6_doBarrier 0 = .ok (.aload_n 0, 1) := by decide +kernel
theorem dX6_doBarrier_1 : decode cX6_doBarrier 1 = .ok (.getfield 52, 3) := by decide +kernel
theorem dX6_doBarrier_4 : decode cX6_doBarrier 4 = .ok (.iload_n 1, 1) := by decide +kernel
theorem dX6_doBarrier_5 : decode cX6_doBarrier 5 = .ok (.iaload, 1) := by decide +kernel
theorem dX6_doBarrier_6 : decode cX6_doBarrier 6 = .ok (.istore_n 2, 1) := by decide +kernel
theorem dX6_doBarrier_7 : decode cX6_doBarrier 7 = .ok (.aload_n 0, 1) := by decide +kernel
theorem dX6_doBarrier_8 : decode cX6_doBarrier 8 = .ok (.iload_n 1, 1) := by decide +kernel
theorem dX6_doBarrier_9 : decode cX6_doBarrier 9 = .ok (.invokevirtual 140, 3) := by decide +kernel
theorem dX6_doBarrier_12 : decode cX6_doBarrier 12 = .ok (.iload_n 2, 1) := by decide +kernel
theorem dX6_doBarrier_13 : decode cX6_doBarrier 13 = .ok (.ireturn, 1) := by decide +kernel
theorem dX6_barrier_0 : decode cX6_barrier 0 = .ok (.aload_n 0, 1) := by decide +kernel
theorem dX6_barrier_1 : decode cX6_barrier 1 = .ok (.aload_n 0, 1) := by decide +kernel
theorem dX6_barrier_2 : decode cX6_barrier 2 = .ok (.iload_n 1, 1) := by decide +kernel
theorem dX6_barrier_3 : decode cX6_barrier 3 = .ok (.iconst 1, 1) := by decide +kernel
theorem dX6_barrier_4 : decode cX6_barrier 4 = .ok (.invokevirtual 174, 3) := by decide +kernel
theorem dX6_barrier_7 : decode cX6_barrier 7 = .ok (.putfield 95, 3) := by decide +kernel
theorem dX6_barrier_10 : decode cX6_barrier 10 = .ok (.aload_n 0, 1) := by decide +kernel
theorem dX6_barrier_11 : decode cX6_barrier 11 = .ok (.getfield 95, 3) := by decide +kernel
theorem dX6_barrier_14 : decode cX6_barrier 14 = .ok (.ifCond .le 7, 3) := by decide +kernel
theorem dX6_barrier_17 : decode cX6_barrier 17 = .ok (.iconst 0, 1) := by decide +kernel
theorem dX6_barrier_18 : decode cX6_barrier 18 = .ok (.goto 8, 3) := by decide +kernel
theorem dX6_barrier_21 : decode cX6_barrier 21 = .ok (.aload_n 0, 1) := by decide +kernel
theorem dX6_barrier_22 : decode cX6_barrier 22 = .ok (.iload_n 1, 1) := by decide +kernel
theorem dX6_barrier_23 : decode cX6_barrier 23 = .ok (.invokevirtual 178, 3) := by decide +kernel
theorem dX6_barrier_26 : decode cX6_barrier 26 = .ok (.ireturn, 1) := by decide +kernel
theorem dX6_doCrash_0 : decode cX6_doCrash 0 = .ok (.iload_n 2, 1) := by decide +kernel
theorem dX6_doCrash_1 : decode cX6_doCrash 1 = .ok (.aload_n 0, 1) := by decide +kernel
theorem dX6_doCrash_2 : decode cX6_doCrash 2 = .ok (.getfield 52, 3) := by decide +kernel
theorem dX6_doCrash_5 : decode cX6_doCrash 5 = .ok (.iload_n 1, 1) := by decide +kernel
theorem dX6_doCrash_6 : decode cX6_doCrash 6 = .ok (.iaload, 1) := by decide +kernel
theorem dX6_doCrash_7 : decode cX6_doCrash 7 = .ok (.if_icmp .ge 7, 3) := by decide +kernel
theorem dX6_doCrash_10 : decode cX6_doCrash 10 = .ok (.iload_n 2, 1) := by decide +kernel
theorem dX6_doCrash_11 : decode cX6_doCrash 11 = .ok (.goto 9, 3) := by decide +kernel
theorem dX6_doCrash_14 : decode cX6_doCrash 14 = .ok (.aload_n 0, 1) := by decide +kernel
theorem dX6_doCrash_15 : decode cX6_doCrash 15 = .ok (.getfield 52, 3) := by decide +kernel
theorem dX6_doCrash_18 : decode cX6_doCrash 18 = .ok (.iload_n 1, 1) := by decide +kernel
theorem dX6_doCrash_19 : decode cX6_doCrash 19 = .ok (.iaload, 1) := by decide +kernel
theorem dX6_doCrash_20 : decode cX6_doCrash 20 = .ok (.istore_n 3, 1) := by decide +kernel
theorem dX6_doCrash_21 : decode cX6_doCrash 21 = .ok (.aload_n 0, 1) := by decide +kernel
theorem dX6_doCrash_22 : decode cX6_doCrash 22 = .ok (.getfield 52, 3) := by decide +kernel
theorem dX6_doCrash_25 : decode cX6_doCrash 25 = .ok (.iload_n 1, 1) := by decide +kernel
theorem dX6_doCrash_26 : decode cX6_doCrash 26 = .ok (.dup2, 1) := by decide +kernel
theorem dX6_doCrash_27 : decode cX6_doCrash 27 = .ok (.iaload, 1) := by decide +kernel
theorem dX6_doCrash_28 : decode cX6_doCrash 28 = .ok (.iload_n 3, 1) := by decide +kernel
theorem dX6_doCrash_29 : decode cX6_doCrash 29 = .ok (.isub, 1) := by decide +kernel
theorem dX6_doCrash_30 : decode cX6_doCrash 30 = .ok (.iastore, 1) := by decide +kernel
theorem dX6_doCrash_31 : decode cX6_doCrash 31 = .ok (.aload_n 0, 1) := by decide +kernel
theorem dX6_doCrash_32 : decode cX6_doCrash 32 = .ok (.iload_n 1, 1) := by decide +kernel
theorem dX6_doCrash_33 : decode cX6_doCrash 33 = .ok (.invokevirtual 140, 3) := by decide +kernel
theorem dX6_doCrash_36 : decode cX6_doCrash 36 = .ok (.aload_n 0, 1) := by decide +kernel
theorem dX6_doCrash_37 : decode cX6_doCrash 37 = .ok (.iload_n 1, 1) := by decide +kernel
theorem dX6_doCrash_38 : decode cX6_doCrash 38 = .ok (.invokevirtual 106, 3) := by decide +kernel
theorem dX6_doCrash_41 : decode cX6_doCrash 41 = .ok (.aload_n 0, 1) := by decide +kernel
theorem dX6_doCrash_42 : decode cX6_doCrash 42 = .ok (.getfield 20, 3) := by decide +kernel
theorem dX6_doCrash_45 : decode cX6_doCrash 45 = .ok (.iload_n 1, 1) := by decide +kernel
theorem dX6_doCrash_46 : decode cX6_doCrash 46 = .ok (.iconst 0, 1) := by decide +kernel
theorem dX6_doCrash_47 : decode cX6_doCrash 47 = .ok (.bastore, 1) := by decide +kernel
theorem dX6_doCrash_48 : decode cX6_doCrash 48 = .ok (.aload_n 0, 1) := by decide +kernel
theorem dX6_doCrash_49 : decode cX6_doCrash 49 = .ok (.getfield 64, 3) := by decide +kernel
theorem dX6_doCrash_52 : decode cX6_doCrash 52 = .ok (.iload_n 1, 1) := by decide +kernel
theorem dX6_doCrash_53 : decode cX6_doCrash 53 = .ok (.iconst (-1), 1) := by decide +kernel
theorem dX6_doCrash_54 : decode cX6_doCrash 54 = .ok (.iastore, 1) := by decide +kernel
theorem dX6_doCrash_55 : decode cX6_doCrash 55 = .ok (.aload_n 0, 1) := by decide +kernel
theorem dX6_doCrash_56 : decode cX6_doCrash 56 = .ok (.getfield 31, 3) := by decide +kernel
theorem dX6_doCrash_59 : decode cX6_doCrash 59 = .ok (.iload_n 1, 1) := by decide +kernel
theorem dX6_doCrash_60 : decode cX6_doCrash 60 = .ok (.iconst 0, 1) := by decide +kernel
theorem dX6_doCrash_61 : decode cX6_doCrash 61 = .ok (.iastore, 1) := by decide +kernel
theorem dX6_doCrash_62 : decode cX6_doCrash 62 = .ok (.aload_n 0, 1) := by decide +kernel
theorem dX6_doCrash_63 : decode cX6_doCrash 63 = .ok (.dup, 1) := by decide +kernel
theorem dX6_doCrash_64 : decode cX6_doCrash 64 = .ok (.getfield 119, 3) := by decide +kernel
theorem dX6_doCrash_67 : decode cX6_doCrash 67 = .ok (.iload_n 3, 1) := by decide +kernel
theorem dX6_doCrash_68 : decode cX6_doCrash 68 = .ok (.iadd, 1) := by decide +kernel
theorem dX6_doCrash_69 : decode cX6_doCrash 69 = .ok (.putfield 119, 3) := by decide +kernel
theorem dX6_doCrash_72 : decode cX6_doCrash 72 = .ok (.iload_n 3, 1) := by decide +kernel
theorem dX6_doCrash_73 : decode cX6_doCrash 73 = .ok (.ireturn, 1) := by decide +kernel
theorem dX6_crash_0 : decode cX6_crash 0 = .ok (.aload_n 0, 1) := by decide +kernel
theorem dX6_crash_1 : decode cX6_crash 1 = .ok (.aload_n 0, 1) := by decide +kernel
theorem dX6_crash_2 : decode cX6_crash 2 = .ok (.iload_n 1, 1) := by decide +kernel
theorem dX6_crash_3 : decode cX6_crash 3 = .ok (.invokevirtual 147, 3) := by decide +kernel
theorem dX6_crash_6 : decode cX6_crash 6 = .ok (.ifCond .ne 7, 3) := by decide +kernel
theorem dX6_crash_9 : decode cX6_crash 9 = .ok (.iconst 1, 1) := by decide +kernel
theorem dX6_crash_10 : decode cX6_crash 10 = .ok (.goto 25, 3) := by decide +kernel
theorem dX6_crash_13 : decode cX6_crash 13 = .ok (.iload_n 2, 1) := by decide +kernel
theorem dX6_crash_14 : decode cX6_crash 14 = .ok (.ifCond .ge 7, 3) := by decide +kernel
theorem dX6_crash_17 : decode cX6_crash 17 = .ok (.iconst 2, 1) := by decide +kernel
theorem dX6_crash_18 : decode cX6_crash 18 = .ok (.goto 17, 3) := by decide +kernel
theorem dX6_crash_21 : decode cX6_crash 21 = .ok (.aload_n 0, 1) := by decide +kernel
theorem dX6_crash_22 : decode cX6_crash 22 = .ok (.getfield 20, 3) := by decide +kernel
theorem dX6_crash_25 : decode cX6_crash 25 = .ok (.iload_n 1, 1) := by decide +kernel
theorem dX6_crash_26 : decode cX6_crash 26 = .ok (.baload, 1) := by decide +kernel
theorem dX6_crash_27 : decode cX6_crash 27 = .ok (.ifCond .eq 7, 3) := by decide +kernel
theorem dX6_crash_30 : decode cX6_crash 30 = .ok (.iconst 0, 1) := by decide +kernel
theorem dX6_crash_31 : decode cX6_crash 31 = .ok (.goto 4, 3) := by decide +kernel
theorem dX6_crash_34 : decode cX6_crash 34 = .ok (.iconst 3, 1) := by decide +kernel
theorem dX6_crash_35 : decode cX6_crash 35 = .ok (.putfield 95, 3) := by decide +kernel
theorem dX6_crash_38 : decode cX6_crash 38 = .ok (.aload_n 0, 1) := by decide +kernel
theorem dX6_crash_39 : decode cX6_crash 39 = .ok (.getfield 95, 3) := by decide +kernel
theorem dX6_crash_42 : decode cX6_crash 42 = .ok (.ifCond .le 7, 3) := by decide +kernel
theorem dX6_crash_45 : decode cX6_crash 45 = .ok (.iconst 0, 1) := by decide +kernel
theorem dX6_crash_46 : decode cX6_crash 46 = .ok (.goto 9, 3) := by decide +kernel
theorem dX6_crash_49 : decode cX6_crash 49 = .ok (.aload_n 0, 1) := by decide +kernel
theorem dX6_crash_50 : decode cX6_crash 50 = .ok (.iload_n 1, 1) := by decide +kernel
theorem dX6_crash_51 : decode cX6_crash 51 = .ok (.iload_n 2, 1) := by decide +kernel
theorem dX6_crash_52 : decode cX6_crash 52 = .ok (.invokevirtual 181, 3) := by decide +kernel
theorem dX6_crash_55 : decode cX6_crash 55 = .ok (.ireturn, 1) := by decide +kernel
theorem dX6_doWipe_0 : decode cX6_doWipe 0 = .ok (.iconst 0, 1) := by decide +kernel
theorem dX6_doWipe_1 : decode cX6_doWipe 1 = .ok (.istore_n 2, 1) := by decide +kernel
theorem dX6_doWipe_2 : decode cX6_doWipe 2 = .ok (.iconst 0, 1) := by decide +kernel
theorem dX6_doWipe_3 : decode cX6_doWipe 3 = .ok (.istore_n 3, 1) := by decide +kernel
theorem dX6_doWipe_4 : decode cX6_doWipe 4 = .ok (.iload_n 3, 1) := by decide +kernel
theorem dX6_doWipe_5 : decode cX6_doWipe 5 = .ok (.aload_n 0, 1) := by decide +kernel
theorem dX6_doWipe_6 : decode cX6_doWipe 6 = .ok (.getfield 13, 3) := by decide +kernel
theorem dX6_doWipe_9 : decode cX6_doWipe 9 = .ok (.if_icmp .ge 30, 3) := by decide +kernel
theorem dX6_doWipe_12 : decode cX6_doWipe 12 = .ok (.iload_n 2, 1) := by decide +kernel
theorem dX6_doWipe_13 : decode cX6_doWipe 13 = .ok (.aload_n 0, 1) := by decide +kernel
theorem dX6_doWipe_14 : decode cX6_doWipe 14 = .ok (.getfield 37, 3) := by decide +kernel
theorem dX6_doWipe_17 : decode cX6_doWipe 17 = .ok (.iload_n 1, 1) := by decide +kernel
theorem dX6_doWipe_18 : decode cX6_doWipe 18 = .ok (.iload_n 3, 1) := by decide +kernel
theorem dX6_doWipe_19 : decode cX6_doWipe 19 = .ok (.invokestatic 102, 3) := by decide +kernel
theorem dX6_doWipe_22 : decode cX6_doWipe 22 = .ok (.iaload, 1) := by decide +kernel
theorem dX6_doWipe_23 : decode cX6_doWipe 23 = .ok (.ifCond .le 7, 3) := by decide +kernel
theorem dX6_doWipe_26 : decode cX6_doWipe 26 = .ok (.iconst 1, 1) := by decide +kernel
theorem dX6_doWipe_27 : decode cX6_doWipe 27 = .ok (.goto 4, 3) := by decide +kernel
theorem dX6_doWipe_30 : decode cX6_doWipe 30 = .ok (.iconst 0, 1) := by decide +kernel
theorem dX6_doWipe_31 : decode cX6_doWipe 31 = .ok (.iadd, 1) := by decide +kernel
theorem dX6_doWipe_32 : decode cX6_doWipe 32 = .ok (.istore_n 2, 1) := by decide +kernel
theorem dX6_doWipe_33 : decode cX6_doWipe 33 = .ok (.iinc 3 1, 3) := by decide +kernel
theorem dX6_doWipe_36 : decode cX6_doWipe 36 = .ok (.goto (-32), 3) := by decide +kernel
theorem dX6_doWipe_39 : decode cX6_doWipe 39 = .ok (.aload_n 0, 1) := by decide +kernel
theorem dX6_doWipe_40 : decode cX6_doWipe 40 = .ok (.iload_n 1, 1) := by decide +kernel
theorem dX6_doWipe_41 : decode cX6_doWipe 41 = .ok (.invokevirtual 110, 3) := by decide +kernel
theorem dX6_doWipe_44 : decode cX6_doWipe 44 = .ok (.aload_n 0, 1) := by decide +kernel
theorem dX6_doWipe_45 : decode cX6_doWipe 45 = .ok (.getfield 24, 3) := by decide +kernel
theorem dX6_doWipe_48 : decode cX6_doWipe 48 = .ok (.iload_n 1, 1) := by decide +kernel
theorem dX6_doWipe_49 : decode cX6_doWipe 49 = .ok (.iconst 0, 1) := by decide +kernel
theorem dX6_doWipe_50 : decode cX6_doWipe 50 = .ok (.bastore, 1) := by decide +kernel
theorem dX6_doWipe_51 : decode cX6_doWipe 51 = .ok (.iload_n 2, 1) := by decide +kernel
theorem dX6_doWipe_52 : decode cX6_doWipe 52 = .ok (.ireturn, 1) := by decide +kernel
theorem dX6_wipe_0 : decode cX6_wipe 0 = .ok (.aload_n 0, 1) := by decide +kernel
theorem dX6_wipe_1 : decode cX6_wipe 1 = .ok (.aload_n 0, 1) := by decide +kernel
theorem dX6_wipe_2 : decode cX6_wipe 2 = .ok (.iload_n 1, 1) := by decide +kernel
theorem dX6_wipe_3 : decode cX6_wipe 3 = .ok (.iconst 0, 1) := by decide +kernel
theorem dX6_wipe_4 : decode cX6_wipe 4 = .ok (.invokevirtual 174, 3) := by decide +kernel
theorem dX6_wipe_7 : decode cX6_wipe 7 = .ok (.putfield 95, 3) := by decide +kernel
theorem dX6_wipe_10 : decode cX6_wipe 10 = .ok (.aload_n 0, 1) := by decide +kernel
theorem dX6_wipe_11 : decode cX6_wipe 11 = .ok (.getfield 95, 3) := by decide +kernel
theorem dX6_wipe_14 : decode cX6_wipe 14 = .ok (.ifCond .le 7, 3) := by decide +kernel
theorem dX6_wipe_17 : decode cX6_wipe 17 = .ok (.iconst 0, 1) := by decide +kernel
theorem dX6_wipe_18 : decode cX6_wipe 18 = .ok (.goto 8, 3) := by decide +kernel
theorem dX6_wipe_21 : decode cX6_wipe 21 = .ok (.aload_n 0, 1) := by decide +kernel
theorem dX6_wipe_22 : decode cX6_wipe 22 = .ok (.iload_n 1, 1) := by decide +kernel
theorem dX6_wipe_23 : decode cX6_wipe 23 = .ok (.invokevirtual 184, 3) := by decide +kernel
theorem dX6_wipe_26 : decode cX6_wipe 26 = .ok (.ireturn, 1) := by decide +kernel
theorem dX6_doRestart_0 : decode cX6_doRestart 0 = .ok (.aload_n 0, 1) := by decide +kernel
theorem dX6_doRestart_1 : decode cX6_doRestart 1 = .ok (.getfield 20, 3) := by decide +kernel
theorem dX6_doRestart_4 : decode cX6_doRestart 4 = .ok (.iload_n 1, 1) := by decide +kernel
theorem dX6_doRestart_5 : decode cX6_doRestart 5 = .ok (.iconst 1, 1) := by decide +kernel
theorem dX6_doRestart_6 : decode cX6_doRestart 6 = .ok (.bastore, 1) := by decide +kernel
theorem dX6_doRestart_7 : decode cX6_doRestart 7 = .ok (.aload_n 0, 1) := by decide +kernel
theorem dX6_doRestart_8 : decode cX6_doRestart 8 = .ok (.getfield 27, 3) := by decide +kernel
theorem dX6_doRestart_11 : decode cX6_doRestart 11 = .ok (.iload_n 1, 1) := by decide +kernel
theorem dX6_doRestart_12 : decode cX6_doRestart 12 = .ok (.dup2, 1) := by decide +kernel
theorem dX6_doRestart_13 : decode cX6_doRestart 13 = .ok (.iaload, 1) := by decide +kernel
theorem dX6_doRestart_14 : decode cX6_doRestart 14 = .ok (.iconst 1, 1) := by decide +kernel
theorem dX6_doRestart_15 : decode cX6_doRestart 15 = .ok (.iadd, 1) := by decide +kernel
theorem dX6_doRestart_16 : decode cX6_doRestart 16 = .ok (.iastore, 1) := by decide +kernel
theorem dX6_doRestart_17 : decode cX6_doRestart 17 = .ok (.aload_n 0, 1) := by decide +kernel
theorem dX6_doRestart_18 : decode cX6_doRestart 18 = .ok (.getfield 27, 3) := by decide +kernel
theorem dX6_doRestart_21 : decode cX6_doRestart 21 = .ok (.iload_n 1, 1) := by decide +kernel
theorem dX6_doRestart_22 : decode cX6_doRestart 22 = .ok (.iaload, 1) := by decide +kernel
theorem dX6_doRestart_23 : decode cX6_doRestart 23 = .ok (.ireturn, 1) := by decide +kernel
theorem dX6_restart_0 : decode cX6_restart 0 = .ok (.aload_n 0, 1) := by decide +kernel
theorem dX6_restart_1 : decode cX6_restart 1 = .ok (.aload_n 0, 1) := by decide +kernel
theorem dX6_restart_2 : decode cX6_restart 2 = .ok (.iload_n 1, 1) := by decide +kernel
theorem dX6_restart_3 : decode cX6_restart 3 = .ok (.iconst 0, 1) := by decide +kernel
theorem dX6_restart_4 : decode cX6_restart 4 = .ok (.invokevirtual 174, 3) := by decide +kernel
theorem dX6_restart_7 : decode cX6_restart 7 = .ok (.putfield 95, 3) := by decide +kernel
theorem dX6_restart_10 : decode cX6_restart 10 = .ok (.aload_n 0, 1) := by decide +kernel
theorem dX6_restart_11 : decode cX6_restart 11 = .ok (.getfield 95, 3) := by decide +kernel
theorem dX6_restart_14 : decode cX6_restart 14 = .ok (.ifCond .le 7, 3) := by decide +kernel
theorem dX6_restart_17 : decode cX6_restart 17 = .ok (.iconst 0, 1) := by decide +kernel
theorem dX6_restart_18 : decode cX6_restart 18 = .ok (.goto 8, 3) := by decide +kernel
theorem dX6_restart_21 : decode cX6_restart 21 = .ok (.aload_n 0, 1) := by decide +kernel
theorem dX6_restart_22 : decode cX6_restart 22 = .ok (.iload_n 1, 1) := by decide +kernel
theorem dX6_restart_23 : decode cX6_restart 23 = .ok (.invokevirtual 187, 3) := by decide +kernel
theorem dX6_restart_26 : decode cX6_restart 26 = .ok (.ireturn, 1) := by decide +kernel
theorem dX6_read_0 : decode cX6_read 0 = .ok (.aload_n 0, 1) := by decide +kernel
theorem dX6_read_1 : decode cX6_read 1 = .ok (.getfield 34, 3) := by decide +kernel
theorem dX6_read_4 : decode cX6_read 4 = .ok (.iload_n 1, 1) := by decide +kernel
theorem dX6_read_5 : decode cX6_read 5 = .ok (.aload_n 0, 1) := by decide +kernel
theorem dX6_read_6 : decode cX6_read 6 = .ok (.getfield 43, 3) := by decide +kernel
theorem dX6_read_9 : decode cX6_read 9 = .ok (.iload_n 2, 1) := by decide +kernel
theorem dX6_read_10 : decode cX6_read 10 = .ok (.iaload, 1) := by decide +kernel
theorem dX6_read_11 : decode cX6_read 11 = .ok (.aload_n 0, 1) := by decide +kernel
theorem dX6_read_12 : decode cX6_read 12 = .ok (.getfield 34, 3) := by decide +kernel
theorem dX6_read_15 : decode cX6_read 15 = .ok (.iload_n 1, 1) := by decide +kernel
theorem dX6_read_16 : decode cX6_read 16 = .ok (.iaload, 1) := by decide +kernel
theorem dX6_read_17 : decode cX6_read 17 = .ok (.if_icmp .le 12, 3) := by decide +kernel
theorem dX6_read_20 : decode cX6_read 20 = .ok (.aload_n 0, 1) := by decide +kernel
theorem dX6_read_21 : decode cX6_read 21 = .ok (.getfield 43, 3) := by decide +kernel
theorem dX6_read_24 : decode cX6_read 24 = .ok (.iload_n 2, 1) := by decide +kernel
theorem dX6_read_25 : decode cX6_read 25 = .ok (.iaload, 1) := by decide +kernel
theorem dX6_read_26 : decode cX6_read 26 = .ok (.goto 9, 3) := by decide +kernel
theorem dX6_read_29 : decode cX6_read 29 = .ok (.aload_n 0, 1) := by decide +kernel
theorem dX6_read_30 : decode cX6_read 30 = .ok (.getfield 34, 3) := by decide +kernel
theorem dX6_read_33 : decode cX6_read 33 = .ok (.iload_n 1, 1) := by decide +kernel
theorem dX6_read_34 : decode cX6_read 34 = .ok (.iaload, 1) := by decide +kernel
theorem dX6_read_35 : decode cX6_read 35 = .ok (.iastore, 1) := by decide +kernel
theorem dX6_read_36 : decode cX6_read 36 = .ok (.aload_n 0, 1) := by decide +kernel
theorem dX6_read_37 : decode cX6_read 37 = .ok (.iload_n 1, 1) := by decide +kernel
theorem dX6_read_38 : decode cX6_read 38 = .ok (.aload_n 0, 1) := by decide +kernel
theorem dX6_read_39 : decode cX6_read 39 = .ok (.getfield 43, 3) := by decide +kernel
theorem dX6_read_42 : decode cX6_read 42 = .ok (.iload_n 2, 1) := by decide +kernel
theorem dX6_read_43 : decode cX6_read 43 = .ok (.iaload, 1) := by decide +kernel
theorem dX6_read_44 : decode cX6_read 44 = .ok (.invokevirtual 126, 3) := by decide +kernel
theorem dX6_read_47 : decode cX6_read 47 = .ok (.iconst 0, 1) := by decide +kernel
theorem dX6_read_48 : decode cX6_read 48 = .ok (.istore_n 3, 1) := by decide +kernel
theorem dX6_read_49 : decode cX6_read 49 = .ok (.iload_n 3, 1) := by decide +kernel
theorem dX6_read_50 : decode cX6_read 50 = .ok (.aload_n 0, 1) := by decide +kernel
theorem dX6_read_51 : decode cX6_read 51 = .ok (.getfield 13, 3) := by decide +kernel
theorem dX6_read_54 : decode cX6_read 54 = .ok (.if_icmp .ge 80, 3) := by decide +kernel
theorem dX6_read_57 : decode cX6_read 57 = .ok (.aload_n 0, 1) := by decide +kernel
theorem dX6_read_58 : decode cX6_read 58 = .ok (.getfield 46, 3) := by decide +kernel
theorem dX6_read_61 : decode cX6_read 61 = .ok (.iload_n 2, 1) := by decide +kernel
theorem dX6_read_62 : decode cX6_read 62 = .ok (.iload_n 3, 1) := by decide +kernel
theorem dX6_read_63 : decode cX6_read 63 = .ok (.invokestatic 102, 3) := by decide +kernel
theorem dX6_read_66 : decode cX6_read 66 = .ok (.iaload, 1) := by decide +kernel
theorem dX6_read_67 : decode cX6_read 67 = .ok (.aload_n 0, 1) := by decide +kernel
theorem dX6_read_68 : decode cX6_read 68 = .ok (.getfield 85, 3) := by decide +kernel
theorem dX6_read_71 : decode cX6_read 71 = .ok (.iload_n 3, 1) := by decide +kernel
theorem dX6_read_72 : decode cX6_read 72 = .ok (.iaload, 1) := by decide +kernel
theorem dX6_read_73 : decode cX6_read 73 = .ok (.if_icmp .le 55, 3) := by decide +kernel
theorem dX6_read_76 : decode cX6_read 76 = .ok (.aload_n 0, 1) := by decide +kernel
theorem dX6_read_77 : decode cX6_read 77 = .ok (.getfield 85, 3) := by decide +kernel
theorem dX6_read_80 : decode cX6_read 80 = .ok (.iload_n 3, 1) := by decide +kernel
theorem dX6_read_81 : decode cX6_read 81 = .ok (.aload_n 0, 1) := by decide +kernel
theorem dX6_read_82 : decode cX6_read 82 = .ok (.getfield 46, 3) := by decide +kernel
theorem dX6_read_85 : decode cX6_read 85 = .ok (.iload_n 2, 1) := by decide +kernel
theorem dX6_read_86 : decode cX6_read 86 = .ok (.iload_n 3, 1) := by decide +kernel
theorem dX6_read_87 : decode cX6_read 87 = .ok (.invokestatic 102, 3) := by decide +kernel
theorem dX6_read_90 : decode cX6_read 90 = .ok (.iaload, 1) := by decide +kernel
theorem dX6_read_91 : decode cX6_read 91 = .ok (.iastore, 1) := by decide +kernel
theorem dX6_read_92 : decode cX6_read 92 = .ok (.aload_n 0, 1) := by decide +kernel
theorem dX6_read_93 : decode cX6_read 93 = .ok (.getfield 37, 3) := by decide +kernel
theorem dX6_read_96 : decode cX6_read 96 = .ok (.iload_n 1, 1) := by decide +kernel
theorem dX6_read_97 : decode cX6_read 97 = .ok (.iload_n 3, 1) := by decide +kernel
theorem dX6_read_98 : decode cX6_read 98 = .ok (.invokestatic 102, 3) := by decide +kernel
theorem dX6_read_101 : decode cX6_read 101 = .ok (.aload_n 0, 1) := by decide +kernel
theorem dX6_read_102 : decode cX6_read 102 = .ok (.getfield 85, 3) := by decide +kernel
theorem dX6_read_105 : decode cX6_read 105 = .ok (.iload_n 3, 1) := by decide +kernel
theorem dX6_read_106 : decode cX6_read 106 = .ok (.iaload, 1) := by decide +kernel
theorem dX6_read_107 : decode cX6_read 107 = .ok (.iastore, 1) := by decide +kernel
theorem dX6_read_108 : decode cX6_read 108 = .ok (.aload_n 0, 1) := by decide +kernel
theorem dX6_read_109 : decode cX6_read 109 = .ok (.getfield 40, 3) := by decide +kernel
theorem dX6_read_112 : decode cX6_read 112 = .ok (.iload_n 1, 1) := by decide +kernel
theorem dX6_read_113 : decode cX6_read 113 = .ok (.iload_n 3, 1) := by decide +kernel
theorem dX6_read_114 : decode cX6_read 114 = .ok (.invokestatic 102, 3) := by decide +kernel
theorem dX6_read_117 : decode cX6_read 117 = .ok (.aload_n 0, 1) := by decide +kernel
theorem dX6_read_118 : decode cX6_read 118 = .ok (.getfield 49, 3) := by decide +kernel
theorem dX6_read_121 : decode cX6_read 121 = .ok (.iload_n 2, 1) := by decide +kernel
theorem dX6_read_122 : decode cX6_read 122 = .ok (.iload_n 3, 1) := by decide +kernel
theorem dX6_read_123 : decode cX6_read 123 = .ok (.invokestatic 102, 3) := by decide +kernel
theorem dX6_read_126 : decode cX6_read 126 = .ok (.iaload, 1) := by decide +kernel
theorem dX6_read_127 : decode cX6_read 127 = .ok (.iastore, 1) := by decide +kernel
theorem dX6_read_128 : decode cX6_read 128 = .ok (.iinc 3 1, 3) := by decide +kernel
theorem dX6_read_131 : decode cX6_read 131 = .ok (.goto (-82), 3) := by decide +kernel
theorem dX6_read_134 : decode cX6_read 134 = .ok (.return_, 1) := by decide +kernel
theorem dX6_doJoin_0 : decode cX6_doJoin 0 = .ok (.iconst 0, 1) := by decide +kernel
theorem dX6_doJoin_1 : decode cX6_doJoin 1 = .ok (.istore_n 3, 1) := by decide +kernel
theorem dX6_doJoin_2 : decode cX6_doJoin 2 = .ok (.iconst 0, 1) := by decide +kernel
theorem dX6_doJoin_3 : decode cX6_doJoin 3 = .ok (.istore 4, 2) := by decide +kernel
theorem dX6_doJoin_5 : decode cX6_doJoin 5 = .ok (.iload 4, 2) := by decide +kernel
theorem dX6_doJoin_7 : decode cX6_doJoin 7 = .ok (.aload_n 0, 1) := by decide +kernel
theorem dX6_doJoin_8 : decode cX6_doJoin 8 = .ok (.getfield 7, 3) := by decide +kernel
theorem dX6_doJoin_11 : decode cX6_doJoin 11 = .ok (.if_icmp .ge 33, 3) := by decide +kernel
theorem dX6_doJoin_14 : decode cX6_doJoin 14 = .ok (.iload_n 3, 1) := by decide +kernel
theorem dX6_doJoin_15 : decode cX6_doJoin 15 = .ok (.iload 4, 2) := by decide +kernel
theorem dX6_doJoin_17 : decode cX6_doJoin 17 = .ok (.iload_n 1, 1) := by decide +kernel
theorem dX6_doJoin_18 : decode cX6_doJoin 18 = .ok (.if_icmp .eq 17, 3) := by decide +kernel
theorem dX6_doJoin_21 : decode cX6_doJoin 21 = .ok (.aload_n 0, 1) := by decide +kernel
theorem dX6_doJoin_22 : decode cX6_doJoin 22 = .ok (.iload 4, 2) := by decide +kernel
theorem dX6_doJoin_24 : decode cX6_doJoin 24 = .ok (.iload_n 2, 1) := by decide +kernel
theorem dX6_doJoin_25 : decode cX6_doJoin 25 = .ok (.invokevirtual 129, 3) := by decide +kernel
theorem dX6_doJoin_28 : decode cX6_doJoin 28 = .ok (.ifCond .eq 7, 3) := by decide +kernel
theorem dX6_doJoin_31 : decode cX6_doJoin 31 = .ok (.iconst 1, 1) := by decide +kernel
theorem dX6_doJoin_32 : decode cX6_doJoin 32 = .ok (.goto 4, 3) := by decide +kernel
theorem dX6_doJoin_35 : decode cX6_doJoin 35 = .ok (.iconst 0, 1) := by decide +kernel
theorem dX6_doJoin_36 : decode cX6_doJoin 36 = .ok (.iadd, 1) := by decide +kernel
theorem dX6_doJoin_37 : decode cX6_doJoin 37 = .ok (.istore_n 3, 1) := by decide +kernel
theorem dX6_doJoin_38 : decode cX6_doJoin 38 = .ok (.iinc 4 1, 3) := by decide +kernel
theorem dX6_doJoin_41 : decode cX6_doJoin 41 = .ok (.goto (-36), 3) := by decide +kernel
theorem dX6_doJoin_44 : decode cX6_doJoin 44 = .ok (.iload_n 3, 1) := by decide +kernel
theorem dX6_doJoin_45 : decode cX6_doJoin 45 = .ok (.aload_n 0, 1) := by decide +kernel
theorem dX6_doJoin_46 : decode cX6_doJoin 46 = .ok (.invokevirtual 143, 3) := by decide +kernel
theorem dX6_doJoin_49 : decode cX6_doJoin 49 = .ok (.if_icmp .ge 5, 3) := by decide +kernel
theorem dX6_doJoin_52 : decode cX6_doJoin 52 = .ok (.iload_n 3, 1) := by decide +kernel
theorem dX6_doJoin_53 : decode cX6_doJoin 53 = .ok (.ireturn, 1) := by decide +kernel
theorem dX6_doJoin_54 : decode cX6_doJoin 54 = .ok (.aload_n 0, 1) := by decide +kernel
theorem dX6_doJoin_55 : decode cX6_doJoin 55 = .ok (.getfield 34, 3) := by decide +kernel
theorem dX6_doJoin_58 : decode cX6_doJoin 58 = .ok (.iload_n 1, 1) := by decide +kernel
theorem dX6_doJoin_59 : decode cX6_doJoin 59 = .ok (.iconst 0, 1) := by decide +kernel
theorem dX6_doJoin_60 : decode cX6_doJoin 60 = .ok (.iastore, 1) := by decide +kernel
theorem dX6_doJoin_61 : decode cX6_doJoin 61 = .ok (.iconst 0, 1) := by decide +kernel
theorem dX6_doJoin_62 : decode cX6_doJoin 62 = .ok (.istore 4, 2) := by decide +kernel
theorem dX6_doJoin_64 : decode cX6_doJoin 64 = .ok (.iload 4, 2) := by decide +kernel
theorem dX6_doJoin_66 : decode cX6_doJoin 66 = .ok (.iconst 4, 1) := by decide +kernel
theorem dX6_doJoin_67 : decode cX6_doJoin 67 = .ok (.if_icmp .ge 17, 3) := by decide +kernel
theorem dX6_doJoin_70 : decode cX6_doJoin 70 = .ok (.aload_n 0, 1) := by decide +kernel
theorem dX6_doJoin_71 : decode cX6_doJoin 71 = .ok (.getfield 85, 3) := by decide +kernel
theorem dX6_doJoin_74 : decode cX6_doJoin 74 = .ok (.iload 4, 2) := by decide +kernel
theorem dX6_doJoin_76 : decode cX6_doJoin 76 = .ok (.iconst 0, 1) := by decide +kernel
theorem dX6_doJoin_77 : decode cX6_doJoin 77 = .ok (.iastore, 1) := by decide +kernel
theorem dX6_doJoin_78 : decode cX6_doJoin 78 = .ok (.iinc 4 1, 3) := by decide +kernel
theorem dX6_doJoin_81 : decode cX6_doJoin 81 = .ok (.goto (-17), 3) := by decide +kernel
theorem dX6_doJoin_84 : decode cX6_doJoin 84 = .ok (.iconst 0, 1) := by decide +kernel
theorem dX6_doJoin_85 : decode cX6_doJoin 85 = .ok (.istore 4, 2) := by decide +kernel
theorem dX6_doJoin_87 : decode cX6_doJoin 87 = .ok (.iload 4, 2) := by decide +kernel
theorem dX6_doJoin_89 : decode cX6_doJoin 89 = .ok (.aload_n 0, 1) := by decide +kernel
theorem dX6_doJoin_90 : decode cX6_doJoin 90 = .ok (.getfield 7, 3) := by decide +kernel
theorem dX6_doJoin_93 : decode cX6_doJoin 93 = .ok (.if_icmp .ge 32, 3) := by decide +kernel
theorem dX6_doJoin_96 : decode cX6_doJoin 96 = .ok (.iload 4, 2) := by decide +kernel
theorem dX6_doJoin_98 : decode cX6_doJoin 98 = .ok (.iload_n 1, 1) := by decide +kernel
theorem dX6_doJoin_99 : decode cX6_doJoin 99 = .ok (.if_icmp .eq 20, 3) := by decide +kernel
theorem dX6_doJoin_102 : decode cX6_doJoin 102 = .ok (.aload_n 0, 1) := by decide +kernel
theorem dX6_doJoin_103 : decode cX6_doJoin 103 = .ok (.iload 4, 2) := by decide +kernel
theorem dX6_doJoin_105 : decode cX6_doJoin 105 = .ok (.iload_n 2, 1) := by decide +kernel
theorem dX6_doJoin_106 : decode cX6_doJoin 106 = .ok (.invokevirtual 129, 3) := by decide +kernel
theorem dX6_doJoin_109 : decode cX6_doJoin 109 = .ok (.ifCond .eq 10, 3) := by decide +kernel
theorem dX6_doJoin_112 : decode cX6_doJoin 112 = .ok (.aload_n 0, 1) := by decide +kernel
theorem dX6_doJoin_113 : decode cX6_doJoin 113 = .ok (.iload_n 1, 1) := by decide +kernel
theorem dX6_doJoin_114 : decode cX6_doJoin 114 = .ok (.iload 4, 2) := by decide +kernel
theorem dX6_doJoin_116 : decode cX6_doJoin 116 = .ok (.invokevirtual 190, 3) := by decide +kernel
theorem dX6_doJoin_119 : decode cX6_doJoin 119 = .ok (.iinc 4 1, 3) := by decide +kernel
theorem dX6_doJoin_122 : decode cX6_doJoin 122 = .ok (.goto (-35), 3) := by decide +kernel
theorem dX6_doJoin_125 : decode cX6_doJoin 125 = .ok (.aload_n 0, 1) := by decide +kernel
theorem dX6_doJoin_126 : decode cX6_doJoin 126 = .ok (.getfield 24, 3) := by decide +kernel
theorem dX6_doJoin_129 : decode cX6_doJoin 129 = .ok (.iload_n 1, 1) := by decide +kernel
theorem dX6_doJoin_130 : decode cX6_doJoin 130 = .ok (.iconst 1, 1) := by decide +kernel
theorem dX6_doJoin_131 : decode cX6_doJoin 131 = .ok (.bastore, 1) := by decide +kernel
theorem dX6_doJoin_132 : decode cX6_doJoin 132 = .ok (.aload_n 0, 1) := by decide +kernel
theorem dX6_doJoin_133 : decode cX6_doJoin 133 = .ok (.iload_n 1, 1) := by decide +kernel
theorem dX6_doJoin_134 : decode cX6_doJoin 134 = .ok (.invokevirtual 106, 3) := by decide +kernel
theorem dX6_doJoin_137 : decode cX6_doJoin 137 = .ok (.iload_n 3, 1) := by decide +kernel
theorem dX6_doJoin_138 : decode cX6_doJoin 138 = .ok (.ireturn, 1) := by decide +kernel
theorem dX6_joinFault_0 : decode cX6_joinFault 0 = .ok (.aload_n 0, 1) := by decide +kernel
theorem dX6_joinFault_1 : decode cX6_joinFault 1 = .ok (.iload_n 1, 1) := by decide +kernel
theorem dX6_joinFault_2 : decode cX6_joinFault 2 = .ok (.invokevirtual 147, 3) := by decide +kernel
theorem dX6_joinFault_5 : decode cX6_joinFault 5 = .ok (.ifCond .ne 7, 3) := by decide +kernel
theorem dX6_joinFault_8 : decode cX6_joinFault 8 = .ok (.iconst 1, 1) := by decide +kernel
theorem dX6_joinFault_9 : decode cX6_joinFault 9 = .ok (.goto 38, 3) := by decide +kernel
theorem dX6_joinFault_12 : decode cX6_joinFault 12 = .ok (.aload_n 0, 1) := by decide +kernel
theorem dX6_joinFault_13 : decode cX6_joinFault 13 = .ok (.iload_n 2, 1) := by decide +kernel
theorem dX6_joinFault_14 : decode cX6_joinFault 14 = .ok (.invokevirtual 151, 3) := by decide +kernel
theorem dX6_joinFault_17 : decode cX6_joinFault 17 = .ok (.ifCond .ne 7, 3) := by decide +kernel
theorem dX6_joinFault_20 : decode cX6_joinFault 20 = .ok (.iconst 2, 1) := by decide +kernel
theorem dX6_joinFault_21 : decode cX6_joinFault 21 = .ok (.goto 26, 3) := by decide +kernel
theorem dX6_joinFault_24 : decode cX6_joinFault 24 = .ok (.aload_n 0, 1) := by decide +kernel
theorem dX6_joinFault_25 : decode cX6_joinFault 25 = .ok (.getfield 20, 3) := by decide +kernel
theorem dX6_joinFault_28 : decode cX6_joinFault 28 = .ok (.iload_n 1, 1) := by decide +kernel
theorem dX6_joinFault_29 : decode cX6_joinFault 29 = .ok (.baload, 1) := by decide +kernel
theorem dX6_joinFault_30 : decode cX6_joinFault 30 = .ok (.ifCond .eq 16, 3) := by decide +kernel
theorem dX6_joinFault_33 : decode cX6_joinFault 33 = .ok (.aload_n 0, 1) := by decide +kernel
theorem dX6_joinFault_34 : decode cX6_joinFault 34 = .ok (.getfield 24, 3) := by decide +kernel
theorem dX6_joinFault_37 : decode cX6_joinFault 37 = .ok (.iload_n 1, 1) := by decide +kernel
theorem dX6_joinFault_38 : decode cX6_joinFault 38 = .ok (.baload, 1) := by decide +kernel
theorem dX6_joinFault_39 : decode cX6_joinFault 39 = .ok (.ifCond .ne 7, 3) := by decide +kernel
theorem dX6_joinFault_42 : decode cX6_joinFault 42 = .ok (.iconst 0, 1) := by decide +kernel
theorem dX6_joinFault_43 : decode cX6_joinFault 43 = .ok (.goto 4, 3) := by decide +kernel
theorem dX6_joinFault_46 : decode cX6_joinFault 46 = .ok (.iconst 3, 1) := by decide +kernel
theorem dX6_joinFault_47 : decode cX6_joinFault 47 = .ok (.ireturn, 1) := by decide +kernel
theorem dX6_rejoin_0 : decode cX6_rejoin 0 = .ok (.aload_n 0, 1) := by decide +kernel
theorem dX6_rejoin_1 : decode cX6_rejoin 1 = .ok (.aload_n 0, 1) := by decide +kernel
theorem dX6_rejoin_2 : decode cX6_rejoin 2 = .ok (.iload_n 1, 1) := by decide +kernel
theorem dX6_rejoin_3 : decode cX6_rejoin 3 = .ok (.iload_n 2, 1) := by decide +kernel
theorem dX6_rejoin_4 : decode cX6_rejoin 4 = .ok (.invokevirtual 193, 3) := by decide +kernel
theorem dX6_rejoin_7 : decode cX6_rejoin 7 = .ok (.putfield 95, 3) := by decide +kernel
theorem dX6_rejoin_10 : decode cX6_rejoin 10 = .ok (.aload_n 0, 1) := by decide +kernel
theorem dX6_rejoin_11 : decode cX6_rejoin 11 = .ok (.getfield 95, 3) := by decide +kernel
theorem dX6_rejoin_14 : decode cX6_rejoin 14 = .ok (.ifCond .le 7, 3) := by decide +kernel
theorem dX6_rejoin_17 : decode cX6_rejoin 17 = .ok (.iconst 0, 1) := by decide +kernel
theorem dX6_rejoin_18 : decode cX6_rejoin 18 = .ok (.goto 9, 3) := by decide +kernel
theorem dX6_rejoin_21 : decode cX6_rejoin 21 = .ok (.aload_n 0, 1) := by decide +kernel
theorem dX6_rejoin_22 : decode cX6_rejoin 22 = .ok (.iload_n 1, 1) := by decide +kernel
theorem dX6_rejoin_23 : decode cX6_rejoin 23 = .ok (.iload_n 2, 1) := by decide +kernel
theorem dX6_rejoin_24 : decode cX6_rejoin 24 = .ok (.invokevirtual 196, 3) := by decide +kernel
theorem dX6_rejoin_27 : decode cX6_rejoin 27 = .ok (.ireturn, 1) := by decide +kernel
theorem dX6_append_0 : decode cX6_append 0 = .ok (.aload_n 0, 1) := by decide +kernel
theorem dX6_append_1 : decode cX6_append 1 = .ok (.iload_n 1, 1) := by decide +kernel
theorem dX6_append_2 : decode cX6_append 2 = .ok (.bipush 32, 2) := by decide +kernel
theorem dX6_append_4 : decode cX6_append 4 = .ok (.bipush 126, 2) := by decide +kernel
theorem dX6_append_6 : decode cX6_append 6 = .ok (.invokestatic 98, 3) := by decide +kernel
theorem dX6_append_9 : decode cX6_append 9 = .ok (.ifCond .ne 7, 3) := by decide +kernel
theorem dX6_append_12 : decode cX6_append 12 = .ok (.iconst 1, 1) := by decide +kernel
theorem dX6_append_13 : decode cX6_append 13 = .ok (.goto 17, 3) := by decide +kernel
theorem dX6_append_16 : decode cX6_append 16 = .ok (.aload_n 0, 1) := by decide +kernel
theorem dX6_append_17 : decode cX6_append 17 = .ok (.getfield 199, 3) := by decide +kernel
theorem dX6_append_20 : decode cX6_append 20 = .ok (.bipush 60, 2) := by decide +kernel
theorem dX6_append_22 : decode cX6_append 22 = .ok (.if_icmp .ne 7, 3) := by decide +kernel
theorem dX6_append_25 : decode cX6_append 25 = .ok (.iconst 2, 1) := by decide +kernel
theorem dX6_append_26 : decode cX6_append 26 = .ok (.goto 4, 3) := by decide +kernel
theorem dX6_append_29 : decode cX6_append 29 = .ok (.iconst 0, 1) := by decide +kernel
theorem dX6_append_30 : decode cX6_append 30 = .ok (.putfield 95, 3) := by decide +kernel
theorem dX6_append_33 : decode cX6_append 33 = .ok (.aload_n 0, 1) := by decide +kernel
theorem dX6_append_34 : decode cX6_append 34 = .ok (.getfield 95, 3) := by decide +kernel
theorem dX6_append_37 : decode cX6_append 37 = .ok (.ifCond .le 5, 3) := by decide +kernel
theorem dX6_append_40 : decode cX6_append 40 = .ok (.iconst 0, 1) := by decide +kernel
theorem dX6_append_41 : decode cX6_append 41 = .ok (.ireturn, 1) := by decide +kernel
theorem dX6_append_42 : decode cX6_append 42 = .ok (.aload_n 0, 1) := by decide +kernel
theorem dX6_append_43 : decode cX6_append 43 = .ok (.getfield 82, 3) := by decide +kernel
theorem dX6_append_46 : decode cX6_append 46 = .ok (.aload_n 0, 1) := by decide +kernel
theorem dX6_append_47 : decode cX6_append 47 = .ok (.getfield 199, 3) := by decide +kernel
theorem dX6_append_50 : decode cX6_append 50 = .ok (.iload_n 1, 1) := by decide +kernel
theorem dX6_append_51 : decode cX6_append 51 = .ok (.iastore, 1) := by decide +kernel
theorem dX6_append_52 : decode cX6_append 52 = .ok (.aload_n 0, 1) := by decide +kernel
theorem dX6_append_53 : decode cX6_append 53 = .ok (.dup, 1) := by decide +kernel
theorem dX6_append_54 : decode cX6_append 54 = .ok (.getfield 199, 3) := by decide +kernel
theorem dX6_append_57 : decode cX6_append 57 = .ok (.iconst 1, 1) := by decide +kernel
theorem dX6_append_58 : decode cX6_append 58 = .ok (.iadd, 1) := by decide +kernel
theorem dX6_append_59 : decode cX6_append 59 = .ok (.putfield 199, 3) := by decide +kernel
theorem dX6_append_62 : decode cX6_append 62 = .ok (.aload_n 0, 1) := by decide +kernel
theorem dX6_append_63 : decode cX6_append 63 = .ok (.getfield 199, 3) := by decide +kernel
theorem dX6_append_66 : decode cX6_append 66 = .ok (.ireturn, 1) := by decide +kernel
theorem dX6_clearInput_0 : decode cX6_clearInput 0 = .ok (.aload_n 0, 1) := by decide +kernel
theorem dX6_clearInput_1 : decode cX6_clearInput 1 = .ok (.iconst 0, 1) := by decide +kernel
theorem dX6_clearInput_2 : decode cX6_clearInput 2 = .ok (.putfield 95, 3) := by decide +kernel
theorem dX6_clearInput_5 : decode cX6_clearInput 5 = .ok (.aload_n 0, 1) := by decide +kernel
theorem dX6_clearInput_6 : decode cX6_clearInput 6 = .ok (.getfield 199, 3) := by decide +kernel
theorem dX6_clearInput_9 : decode cX6_clearInput 9 = .ok (.istore_n 1, 1) := by decide +kernel
theorem dX6_clearInput_10 : decode cX6_clearInput 10 = .ok (.aload_n 0, 1) := by decide +kernel
theorem dX6_clearInput_11 : decode cX6_clearInput 11 = .ok (.iconst 0, 1) := by decide +kernel
theorem dX6_clearInput_12 : decode cX6_clearInput 12 = .ok (.putfield 199, 3) := by decide +kernel
theorem dX6_clearInput_15 : decode cX6_clearInput 15 = .ok (.iload_n 1, 1) := by decide +kernel
theorem dX6_clearInput_16 : decode cX6_clearInput 16 = .ok (.ireturn, 1) := by decide +kernel
theorem dX6_put_0 : decode cX6_put 0 = .ok (.aload_n 0, 1) := by decide +kernel
theorem dX6_put_1 : decode cX6_put 1 = .ok (.getfield 88, 3) := by decide +kernel
theorem dX6_put_4 : decode cX6_put 4 = .ok (.iconst 5, 1) := by decide +kernel
theorem dX6_put_5 : decode cX6_put 5 = .ok (.aload_n 0, 1) := by decide +kernel
theorem dX6_put_6 : decode cX6_put 6 = .ok (.getfield 202, 3) := by decide +kernel
theorem dX6_put_9 : decode cX6_put 9 = .ok (.imul, 1) := by decide +kernel
theorem dX6_put_10 : decode cX6_put 10 = .ok (.iload_n 1, 1) := by decide +kernel
theorem dX6_put_11 : decode cX6_put 11 = .ok (.iadd, 1) := by decide +kernel
theorem dX6_put_12 : decode cX6_put 12 = .ok (.iload_n 2, 1) := by decide +kernel
theorem dX6_put_13 : decode cX6_put 13 = .ok (.iastore, 1) := by decide +kernel
theorem dX6_put_14 : decode cX6_put 14 = .ok (.return_, 1) := by decide +kernel
theorem dX6_go_0 : decode cX6_go 0 = .ok (.aload_n 0, 1) := by decide +kernel
theorem dX6_go_1 : decode cX6_go 1 = .ok (.iload_n 1, 1) := by decide +kernel
theorem dX6_go_2 : decode cX6_go 2 = .ok (.ifCond .eq 7, 3) := by decide +kernel
theorem dX6_go_5 : decode cX6_go 5 = .ok (.iload_n 2, 1) := by decide +kernel
theorem dX6_go_6 : decode cX6_go 6 = .ok (.goto 7, 3) := by decide +kernel
theorem dX6_go_9 : decode cX6_go 9 = .ok (.aload_n 0, 1) := by decide +kernel
theorem dX6_go_10 : decode cX6_go 10 = .ok (.getfield 205, 3) := by decide +kernel
theorem dX6_go_13 : decode cX6_go 13 = .ok (.putfield 205, 3) := by decide +kernel
theorem dX6_go_16 : decode cX6_go 16 = .ok (.iload_n 1, 1) := by decide +kernel
theorem dX6_go_17 : decode cX6_go 17 = .ok (.ireturn, 1) := by decide +kernel
theorem dX6_begins_0 : decode cX6_begins 0 = .ok (.iload_n 1, 1) := by decide +kernel
theorem dX6_begins_1 : decode cX6_begins 1 = .ok (.bipush 112, 2) := by decide +kernel
theorem dX6_begins_3 : decode cX6_begins 3 = .ok (.if_icmp .eq 39, 3) := by decide +kernel
theorem dX6_begins_6 : decode cX6_begins 6 = .ok (.iload_n 1, 1) := by decide +kernel
theorem dX6_begins_7 : decode cX6_begins 7 = .ok (.bipush 97, 2) := by decide +kernel
theorem dX6_begins_9 : decode cX6_begins 9 = .ok (.if_icmp .eq 33, 3) := by decide +kernel
theorem dX6_begins_12 : decode cX6_begins 12 = .ok (.iload_n 1, 1) := by decide +kernel
theorem dX6_begins_13 : decode cX6_begins 13 = .ok (.bipush 102, 2) := by decide +kernel
theorem dX6_begins_15 : decode cX6_begins 15 = .ok (.if_icmp .eq 27, 3) := by decide +kernel
theorem dX6_begins_18 : decode cX6_begins 18 = .ok (.iload_n 1, 1) := by decide +kernel
theorem dX6_begins_19 : decode cX6_begins 19 = .ok (.bipush 99, 2) := by decide +kernel
theorem dX6_begins_21 : decode cX6_begins 21 = .ok (.if_icmp .eq 21, 3) := by decide +kernel
theorem dX6_begins_24 : decode cX6_begins 24 = .ok (.iload_n 1, 1) := by decide +kernel
theorem dX6_begins_25 : decode cX6_begins 25 = .ok (.bipush 119, 2) := by decide +kernel
theorem dX6_begins_27 : decode cX6_begins 27 = .ok (.if_icmp .eq 15, 3) := by decide +kernel
theorem dX6_begins_30 : decode cX6_begins 30 = .ok (.iload_n 1, 1) := by decide +kernel
theorem dX6_begins_31 : decode cX6_begins 31 = .ok (.bipush 114, 2) := by decide +kernel
theorem dX6_begins_33 : decode cX6_begins 33 = .ok (.if_icmp .eq 9, 3) := by decide +kernel
theorem dX6_begins_36 : decode cX6_begins 36 = .ok (.iload_n 1, 1) := by decide +kernel
theorem dX6_begins_37 : decode cX6_begins 37 = .ok (.bipush 106, 2) := by decide +kernel
theorem dX6_begins_39 : decode cX6_begins 39 = .ok (.if_icmp .ne 7, 3) := by decide +kernel
theorem dX6_begins_42 : decode cX6_begins 42 = .ok (.iconst 1, 1) := by decide +kernel
theorem dX6_begins_43 : decode cX6_begins 43 = .ok (.goto 4, 3) := by decide +kernel
theorem dX6_begins_46 : decode cX6_begins 46 = .ok (.iconst 0, 1) := by decide +kernel
theorem dX6_begins_47 : decode cX6_begins 47 = .ok (.istore_n 2, 1) := by decide +kernel
theorem dX6_begins_48 : decode cX6_begins 48 = .ok (.aload_n 0, 1) := by decide +kernel
theorem dX6_begins_49 : decode cX6_begins 49 = .ok (.iconst 0, 1) := by decide +kernel
theorem dX6_begins_50 : decode cX6_begins 50 = .ok (.iload_n 1, 1) := by decide +kernel
theorem dX6_begins_51 : decode cX6_begins 51 = .ok (.invokevirtual 208, 3) := by decide +kernel
theorem dX6_begins_54 : decode cX6_begins 54 = .ok (.aload_n 0, 1) := by decide +kernel
theorem dX6_begins_55 : decode cX6_begins 55 = .ok (.iconst 4, 1) := by decide +kernel
theorem dX6_begins_56 : decode cX6_begins 56 = .ok (.iconst 0, 1) := by decide +kernel
theorem dX6_begins_57 : decode cX6_begins 57 = .ok (.invokevirtual 208, 3) := by decide +kernel
theorem dX6_begins_60 : decode cX6_begins 60 = .ok (.aload_n 0, 1) := by decide +kernel
theorem dX6_begins_61 : decode cX6_begins 61 = .ok (.iconst (-1), 1) := by decide +kernel
theorem dX6_begins_62 : decode cX6_begins 62 = .ok (.putfield 211, 3) := by decide +kernel
theorem dX6_begins_65 : decode cX6_begins 65 = .ok (.aload_n 0, 1) := by decide +kernel
theorem dX6_begins_66 : decode cX6_begins 66 = .ok (.iload_n 2, 1) := by decide +kernel
theorem dX6_begins_67 : decode cX6_begins 67 = .ok (.iconst 1, 1) := by decide +kernel
theorem dX6_begins_68 : decode cX6_begins 68 = .ok (.invokevirtual 214, 3) := by decide +kernel
theorem dX6_begins_71 : decode cX6_begins 71 = .ok (.ireturn, 1) := by decide +kernel
theorem dX6_takesNode_0 : decode cX6_takesNode 0 = .ok (.aload_n 0, 1) := by decide +kernel
theorem dX6_takesNode_1 : decode cX6_takesNode 1 = .ok (.getfield 88, 3) := by decide +kernel
theorem dX6_takesNode_4 : decode cX6_takesNode 4 = .ok (.iconst 5, 1) := by decide +kernel
theorem dX6_takesNode_5 : decode cX6_takesNode 5 = .ok (.aload_n 0, 1) := by decide +kernel
theorem dX6_takesNode_6 : decode cX6_takesNode 6 = .ok (.getfield 202, 3) := by decide +kernel
theorem dX6_takesNode_9 : decode cX6_takesNode 9 = .ok (.imul, 1) := by decide +kernel
theorem dX6_takesNode_10 : decode cX6_takesNode 10 = .ok (.iaload, 1) := by decide +kernel
theorem dX6_takesNode_11 : decode cX6_takesNode 11 = .ok (.istore_n 2, 1) := by decide +kernel
theorem dX6_takesNode_12 : decode cX6_takesNode 12 = .ok (.aload_n 0, 1) := by decide +kernel
theorem dX6_takesNode_13 : decode cX6_takesNode 13 = .ok (.iconst 1, 1) := by decide +kernel
theorem dX6_takesNode_14 : decode cX6_takesNode 14 = .ok (.iload_n 1, 1) := by decide +kernel
theorem dX6_takesNode_15 : decode cX6_takesNode 15 = .ok (.bipush 48, 2) := by decide +kernel
theorem dX6_takesNode_17 : decode cX6_takesNode 17 = .ok (.isub, 1) := by decide +kernel
theorem dX6_takesNode_18 : decode cX6_takesNode 18 = .ok (.invokevirtual 208, 3) := by decide +kernel
theorem dX6_takesNode_21 : decode cX6_takesNode 21 = .ok (.aload_n 0, 1) := by decide +kernel
theorem dX6_takesNode_22 : decode cX6_takesNode 22 = .ok (.aload_n 0, 1) := by decide +kernel
theorem dX6_takesNode_23 : decode cX6_takesNode 23 = .ok (.iload_n 1, 1) := by decide +kernel
theorem dX6_takesNode_24 : decode cX6_takesNode 24 = .ok (.bipush 48, 2) := by decide +kernel
theorem dX6_takesNode_26 : decode cX6_takesNode 26 = .ok (.isub, 1) := by decide +kernel
theorem dX6_takesNode_27 : decode cX6_takesNode 27 = .ok (.invokevirtual 147, 3) := by decide +kernel
theorem dX6_takesNode_30 : decode cX6_takesNode 30 = .ok (.iload_n 2, 1) := by decide +kernel
theorem dX6_takesNode_31 : decode cX6_takesNode 31 = .ok (.bipush 102, 2) := by decide +kernel
theorem dX6_takesNode_33 : decode cX6_takesNode 33 = .ok (.if_icmp .eq 15, 3) := by decide +kernel
theorem dX6_takesNode_36 : decode cX6_takesNode 36 = .ok (.iload_n 2, 1) := by decide +kernel
theorem dX6_takesNode_37 : decode cX6_takesNode 37 = .ok (.bipush 119, 2) := by decide +kernel
theorem dX6_takesNode_39 : decode cX6_takesNode 39 = .ok (.if_icmp .eq 9, 3) := by decide +kernel
theorem dX6_takesNode_42 : decode cX6_takesNode 42 = .ok (.iload_n 2, 1) := by decide +kernel
theorem dX6_takesNode_43 : decode cX6_takesNode 43 = .ok (.bipush 114, 2) := by decide +kernel
theorem dX6_takesNode_45 : decode cX6_takesNode 45 = .ok (.if_icmp .ne 8, 3) := by decide +kernel
theorem dX6_takesNode_48 : decode cX6_takesNode 48 = .ok (.bipush 9, 2) := by decide +kernel
theorem dX6_takesNode_50 : decode cX6_takesNode 50 = .ok (.goto 4, 3) := by decide +kernel
theorem dX6_takesNode_53 : decode cX6_takesNode 53 = .ok (.iconst 2, 1) := by decide +kernel
theorem dX6_takesNode_54 : decode cX6_takesNode 54 = .ok (.invokevirtual 214, 3) := by decide +kernel
theorem dX6_takesNode_57 : decode cX6_takesNode 57 = .ok (.ireturn, 1) := by decide +kernel
theorem dX6_takesMark_0 : decode cX6_takesMark 0 = .ok (.aload_n 0, 1) := by decide +kernel
theorem dX6_takesMark_1 : decode cX6_takesMark 1 = .ok (.getfield 88, 3) := by decide +kernel
theorem dX6_takesMark_4 : decode cX6_takesMark 4 = .ok (.iconst 5, 1) := by decide +kernel
theorem dX6_takesMark_5 : decode cX6_takesMark 5 = .ok (.aload_n 0, 1) := by decide +kernel
theorem dX6_takesMark_6 : decode cX6_takesMark 6 = .ok (.getfield 202, 3) := by decide +kernel
theorem dX6_takesMark_9 : decode cX6_takesMark 9 = .ok (.imul, 1) := by decide +kernel
theorem dX6_takesMark_10 : decode cX6_takesMark 10 = .ok (.iaload, 1) := by decide +kernel
theorem dX6_takesMark_11 : decode cX6_takesMark 11 = .ok (.istore_n 2, 1) := by decide +kernel
theorem dX6_takesMark_12 : decode cX6_takesMark 12 = .ok (.iload_n 2, 1) := by decide +kernel
theorem dX6_takesMark_13 : decode cX6_takesMark 13 = .ok (.bipush 97, 2) := by decide +kernel
theorem dX6_takesMark_15 : decode cX6_takesMark 15 = .ok (.if_icmp .ne 22, 3) := by decide +kernel
theorem dX6_takesMark_18 : decode cX6_takesMark 18 = .ok (.aload_n 0, 1) := by decide +kernel
theorem dX6_takesMark_19 : decode cX6_takesMark 19 = .ok (.iload_n 1, 1) := by decide +kernel
theorem dX6_takesMark_20 : decode cX6_takesMark 20 = .ok (.bipush 115, 2) := by decide +kernel
theorem dX6_takesMark_22 : decode cX6_takesMark 22 = .ok (.if_icmp .ne 7, 3) := by decide +kernel
theorem dX6_takesMark_25 : decode cX6_takesMark 25 = .ok (.iconst 1, 1) := by decide +kernel
theorem dX6_takesMark_26 : decode cX6_takesMark 26 = .ok (.goto 4, 3) := by decide +kernel
theorem dX6_takesMark_29 : decode cX6_takesMark 29 = .ok (.iconst 0, 1) := by decide +kernel
theorem dX6_takesMark_30 : decode cX6_takesMark 30 = .ok (.iconst 3, 1) := by decide +kernel
theorem dX6_takesMark_31 : decode cX6_takesMark 31 = .ok (.invokevirtual 214, 3) := by decide +kernel
theorem dX6_takesMark_34 : decode cX6_takesMark 34 = .ok (.goto 46, 3) := by decide +kernel
theorem dX6_takesMark_37 : decode cX6_takesMark 37 = .ok (.iload_n 2, 1) := by decide +kernel
theorem dX6_takesMark_38 : decode cX6_takesMark 38 = .ok (.bipush 99, 2) := by decide +kernel
theorem dX6_takesMark_40 : decode cX6_takesMark 40 = .ok (.if_icmp .ne 23, 3) := by decide +kernel
theorem dX6_takesMark_43 : decode cX6_takesMark 43 = .ok (.aload_n 0, 1) := by decide +kernel
theorem dX6_takesMark_44 : decode cX6_takesMark 44 = .ok (.iload_n 1, 1) := by decide +kernel
theorem dX6_takesMark_45 : decode cX6_takesMark 45 = .ok (.bipush 45, 2) := by decide +kernel
theorem dX6_takesMark_47 : decode cX6_takesMark 47 = .ok (.if_icmp .ne 7, 3) := by decide +kernel
theorem dX6_takesMark_50 : decode cX6_takesMark 50 = .ok (.iconst 1, 1) := by decide +kernel
theorem dX6_takesMark_51 : decode cX6_takesMark 51 = .ok (.goto 4, 3) := by decide +kernel
theorem dX6_takesMark_54 : decode cX6_takesMark 54 = .ok (.iconst 0, 1) := by decide +kernel
theorem dX6_takesMark_55 : decode cX6_takesMark 55 = .ok (.bipush 8, 2) := by decide +kernel
theorem dX6_takesMark_57 : decode cX6_takesMark 57 = .ok (.invokevirtual 214, 3) := by decide +kernel
theorem dX6_takesMark_60 : decode cX6_takesMark 60 = .ok (.goto 20, 3) := by decide +kernel
theorem dX6_takesMark_63 : decode cX6_takesMark 63 = .ok (.aload_n 0, 1) := by decide +kernel
theorem dX6_takesMark_64 : decode cX6_takesMark 64 = .ok (.iload_n 1, 1) := by decide +kernel
theorem dX6_takesMark_65 : decode cX6_takesMark 65 = .ok (.bipush 62, 2) := by decide +kernel
theorem dX6_takesMark_67 : decode cX6_takesMark 67 = .ok (.if_icmp .ne 7, 3) := by decide +kernel
theorem dX6_takesMark_70 : decode cX6_takesMark 70 = .ok (.iconst 1, 1) := by decide +kernel
theorem dX6_takesMark_71 : decode cX6_takesMark 71 = .ok (.goto 4, 3) := by decide +kernel
theorem dX6_takesMark_74 : decode cX6_takesMark 74 = .ok (.iconst 0, 1) := by decide +kernel
theorem dX6_takesMark_75 : decode cX6_takesMark 75 = .ok (.bipush 7, 2) := by decide +kernel
theorem dX6_takesMark_77 : decode cX6_takesMark 77 = .ok (.invokevirtual 214, 3) := by decide +kernel
theorem dX6_takesMark_80 : decode cX6_takesMark 80 = .ok (.ireturn, 1) := by decide +kernel
theorem dX6_takesReached_0 : decode cX6_takesReached 0 = .ok (.iload_n 1, 1) := by decide +kernel
theorem dX6_takesReached_1 : decode cX6_takesReached 1 = .ok (.bipush 48, 2) := by decide +kernel
theorem dX6_takesReached_3 : decode cX6_takesReached 3 = .ok (.isub, 1) := by decide +kernel
theorem dX6_takesReached_4 : decode cX6_takesReached 4 = .ok (.istore_n 2, 1) := by decide +kernel
theorem dX6_takesReached_5 : decode cX6_takesReached 5 = .ok (.aload_n 0, 1) := by decide +kernel
theorem dX6_takesReached_6 : decode cX6_takesReached 6 = .ok (.iload_n 2, 1) := by decide +kernel
theorem dX6_takesReached_7 : decode cX6_takesReached 7 = .ok (.invokevirtual 147, 3) := by decide +kernel
theorem dX6_takesReached_10 : decode cX6_takesReached 10 = .ok (.ifCond .eq 15, 3) := by decide +kernel
theorem dX6_takesReached_13 : decode cX6_takesReached 13 = .ok (.iload_n 2, 1) := by decide +kernel
theorem dX6_takesReached_14 : decode cX6_takesReached 14 = .ok (.aload_n 0, 1) := by decide +kernel
theorem dX6_takesReached_15 : decode cX6_takesReached 15 = .ok (.getfield 211, 3) := by decide +kernel
theorem dX6_takesReached_18 : decode cX6_takesReached 18 = .ok (.if_icmp .le 7, 3) := by decide +kernel
theorem dX6_takesReached_21 : decode cX6_takesReached 21 = .ok (.iconst 1, 1) := by decide +kernel
theorem dX6_takesReached_22 : decode cX6_takesReached 22 = .ok (.goto 4, 3) := by decide +kernel
theorem dX6_takesReached_25 : decode cX6_takesReached 25 = .ok (.iconst 0, 1) := by decide +kernel
theorem dX6_takesReached_26 : decode cX6_takesReached 26 = .ok (.istore_n 3, 1) := by decide +kernel
theorem dX6_takesReached_27 : decode cX6_takesReached 27 = .ok (.iload_n 3, 1) := by decide +kernel
theorem dX6_takesReached_28 : decode cX6_takesReached 28 = .ok (.ifCond .eq 27, 3) := by decide +kernel
theorem dX6_takesReached_31 : decode cX6_takesReached 31 = .ok (.aload_n 0, 1) := by decide +kernel
theorem dX6_takesReached_32 : decode cX6_takesReached 32 = .ok (.iload_n 2, 1) := by decide +kernel
theorem dX6_takesReached_33 : decode cX6_takesReached 33 = .ok (.putfield 211, 3) := by decide +kernel
theorem dX6_takesReached_36 : decode cX6_takesReached 36 = .ok (.aload_n 0, 1) := by decide +kernel
theorem dX6_takesReached_37 : decode cX6_takesReached 37 = .ok (.getfield 88, 3) := by decide +kernel
theorem dX6_takesReached_40 : decode cX6_takesReached 40 = .ok (.iconst 5, 1) := by decide +kernel
theorem dX6_takesReached_41 : decode cX6_takesReached 41 = .ok (.aload_n 0, 1) := by decide +kernel
theorem dX6_takesReached_42 : decode cX6_takesReached 42 = .ok (.getfield 202, 3) := by decide +kernel
theorem dX6_takesReached_45 : decode cX6_takesReached 45 = .ok (.imul, 1) := by decide +kernel
theorem dX6_takesReached_46 : decode cX6_takesReached 46 = .ok (.iconst 4, 1) := by decide +kernel
theorem dX6_takesReached_47 : decode cX6_takesReached 47 = .ok (.iadd, 1) := by decide +kernel
theorem dX6_takesReached_48 : decode cX6_takesReached 48 = .ok (.dup2, 1) := by decide +kernel
theorem dX6_takesReached_49 : decode cX6_takesReached 49 = .ok (.iaload, 1) := by decide +kernel
theorem dX6_takesReached_50 : decode cX6_takesReached 50 = .ok (.iconst 1, 1) := by decide +kernel
theorem dX6_takesReached_51 : decode cX6_takesReached 51 = .ok (.iload_n 2, 1) := by decide +kernel
theorem dX6_takesReached_52 : decode cX6_takesReached 52 = .ok (.ishl, 1) := by decide +kernel
theorem dX6_takesReached_53 : decode cX6_takesReached 53 = .ok (.ior, 1) := by decide +kernel
theorem dX6_takesReached_54 : decode cX6_takesReached 54 = .ok (.iastore, 1) := by decide +kernel
theorem dX6_takesReached_55 : decode cX6_takesReached 55 = .ok (.iload_n 3, 1) := by decide +kernel
theorem dX6_takesReached_56 : decode cX6_takesReached 56 = .ok (.ireturn, 1) := by decide +kernel
theorem dX6_takesFigure_0 : decode cX6_takesFigure 0 = .ok (.aload_n 0, 1) := by decide +kernel
theorem dX6_takesFigure_1 : decode cX6_takesFigure 1 = .ok (.aload_n 0, 1) := by decide +kernel
theorem dX6_takesFigure_2 : decode cX6_takesFigure 2 = .ok (.getfield 205, 3) := by decide +kernel
theorem dX6_takesFigure_5 : decode cX6_takesFigure 5 = .ok (.iconst 3, 1) := by decide +kernel
theorem dX6_takesFigure_6 : decode cX6_takesFigure 6 = .ok (.if_icmp .ne 7, 3) := by decide +kernel
theorem dX6_takesFigure_9 : decode cX6_takesFigure 9 = .ok (.iconst 2, 1) := by decide +kernel
theorem dX6_takesFigure_10 : decode cX6_takesFigure 10 = .ok (.goto 4, 3) := by decide +kernel
theorem dX6_takesFigure_13 : decode cX6_takesFigure 13 = .ok (.iconst 3, 1) := by decide +kernel
theorem dX6_takesFigure_14 : decode cX6_takesFigure 14 = .ok (.iload_n 1, 1) := by decide +kernel
theorem dX6_takesFigure_15 : decode cX6_takesFigure 15 = .ok (.bipush 48, 2) := by decide +kernel
theorem dX6_takesFigure_17 : decode cX6_takesFigure 17 = .ok (.isub, 1) := by decide +kernel
theorem dX6_takesFigure_18 : decode cX6_takesFigure 18 = .ok (.invokevirtual 208, 3) := by decide +kernel
theorem dX6_takesFigure_21 : decode cX6_takesFigure 21 = .ok (.aload_n 0, 1) := by decide +kernel
theorem dX6_takesFigure_22 : decode cX6_takesFigure 22 = .ok (.getfield 205, 3) := by decide +kernel
theorem dX6_takesFigure_25 : decode cX6_takesFigure 25 = .ok (.iconst 3, 1) := by decide +kernel
theorem dX6_takesFigure_26 : decode cX6_takesFigure 26 = .ok (.if_icmp .ne 14, 3) := by decide +kernel
theorem dX6_takesFigure_29 : decode cX6_takesFigure 29 = .ok (.aload_n 0, 1) := by decide +kernel
theorem dX6_takesFigure_30 : decode cX6_takesFigure 30 = .ok (.iload_n 1, 1) := by decide +kernel
theorem dX6_takesFigure_31 : decode cX6_takesFigure 31 = .ok (.bipush 48, 2) := by decide +kernel
theorem dX6_takesFigure_33 : decode cX6_takesFigure 33 = .ok (.isub, 1) := by decide +kernel
theorem dX6_takesFigure_34 : decode cX6_takesFigure 34 = .ok (.invokevirtual 164, 3) := by decide +kernel
theorem dX6_takesFigure_37 : decode cX6_takesFigure 37 = .ok (.goto 11, 3) := by decide +kernel
theorem dX6_takesFigure_40 : decode cX6_takesFigure 40 = .ok (.iload_n 1, 1) := by decide +kernel
theorem dX6_takesFigure_41 : decode cX6_takesFigure 41 = .ok (.bipush 48, 2) := by decide +kernel
theorem dX6_takesFigure_43 : decode cX6_takesFigure 43 = .ok (.bipush 57, 2) := by decide +kernel
theorem dX6_takesFigure_45 : decode cX6_takesFigure 45 = .ok (.invokestatic 98, 3) := by decide +kernel
theorem dX6_takesFigure_48 : decode cX6_takesFigure 48 = .ok (.istore_n 2, 1) := by decide +kernel
theorem dX6_takesFigure_49 : decode cX6_takesFigure 49 = .ok (.aload_n 0, 1) := by decide +kernel
theorem dX6_takesFigure_50 : decode cX6_takesFigure 50 = .ok (.iload_n 2, 1) := by decide +kernel
theorem dX6_takesFigure_51 : decode cX6_takesFigure 51 = .ok (.aload_n 0, 1) := by decide +kernel
theorem dX6_takesFigure_52 : decode cX6_takesFigure 52 = .ok (.getfield 205, 3) := by decide +kernel
theorem dX6_takesFigure_55 : decode cX6_takesFigure 55 = .ok (.iconst 3, 1) := by decide +kernel
theorem dX6_takesFigure_56 : decode cX6_takesFigure 56 = .ok (.if_icmp .ne 7, 3) := by decide +kernel
theorem dX6_takesFigure_59 : decode cX6_takesFigure 59 = .ok (.iconst 4, 1) := by decide +kernel
theorem dX6_takesFigure_60 : decode cX6_takesFigure 60 = .ok (.goto 18, 3) := by decide +kernel
theorem dX6_takesFigure_63 : decode cX6_takesFigure 63 = .ok (.aload_n 0, 1) := by decide +kernel
theorem dX6_takesFigure_64 : decode cX6_takesFigure 64 = .ok (.getfield 205, 3) := by decide +kernel
theorem dX6_takesFigure_67 : decode cX6_takesFigure 67 = .ok (.iconst 5, 1) := by decide +kernel
theorem dX6_takesFigure_68 : decode cX6_takesFigure 68 = .ok (.if_icmp .ne 8, 3) := by decide +kernel
theorem dX6_takesFigure_71 : decode cX6_takesFigure 71 = .ok (.bipush 6, 2) := by decide +kernel
theorem dX6_takesFigure_73 : decode cX6_takesFigure 73 = .ok (.goto 5, 3) := by decide +kernel
theorem dX6_takesFigure_76 : decode cX6_takesFigure 76 = .ok (.bipush 9, 2) := by decide +kernel
theorem dX6_takesFigure_78 : decode cX6_takesFigure 78 = .ok (.invokevirtual 214, 3) := by decide +kernel
theorem dX6_takesFigure_81 : decode cX6_takesFigure 81 = .ok (.ireturn, 1) := by decide +kernel
theorem dX6_mayEnd_0 : decode cX6_mayEnd 0 = .ok (.aload_n 0, 1) := by decide +kernel
theorem dX6_mayEnd_1 : decode cX6_mayEnd 1 = .ok (.getfield 205, 3) := by decide +kernel
theorem dX6_mayEnd_4 : decode cX6_mayEnd 4 = .ok (.bipush 9, 2) := by decide +kernel
theorem dX6_mayEnd_6 : decode cX6_mayEnd 6 = .ok (.if_icmp .eq 20, 3) := by decide +kernel
theorem dX6_mayEnd_9 : decode cX6_mayEnd 9 = .ok (.aload_n 0, 1) := by decide +kernel
theorem dX6_mayEnd_10 : decode cX6_mayEnd 10 = .ok (.getfield 205, 3) := by decide +kernel
theorem dX6_mayEnd_13 : decode cX6_mayEnd 13 = .ok (.bipush 7, 2) := by decide +kernel
theorem dX6_mayEnd_15 : decode cX6_mayEnd 15 = .ok (.if_icmp .ne 15, 3) := by decide +kernel
theorem dX6_mayEnd_18 : decode cX6_mayEnd 18 = .ok (.aload_n 0, 1) := by decide +kernel
theorem dX6_mayEnd_19 : decode cX6_mayEnd 19 = .ok (.getfield 211, 3) := by decide +kernel
theorem dX6_mayEnd_22 : decode cX6_mayEnd 22 = .ok (.iconst (-1), 1) := by decide +kernel
theorem dX6_mayEnd_23 : decode cX6_mayEnd 23 = .ok (.if_icmp .eq 7, 3) := by decide +kernel
theorem dX6_mayEnd_26 : decode cX6_mayEnd 26 = .ok (.iconst 1, 1) := by decide +kernel
theorem dX6_mayEnd_27 : decode cX6_mayEnd 27 = .ok (.goto 4, 3) := by decide +kernel
theorem dX6_mayEnd_30 : decode cX6_mayEnd 30 = .ok (.iconst 0, 1) := by decide +kernel
theorem dX6_mayEnd_31 : decode cX6_mayEnd 31 = .ok (.ireturn, 1) := by decide +kernel
theorem dX6_takes_0 : decode cX6_takes 0 = .ok (.iload_n 1, 1) := by decide +kernel
theorem dX6_takes_1 : decode cX6_takes 1 = .ok (.bipush 59, 2) := by decide +kernel
theorem dX6_takes_3 : decode cX6_takes 3 = .ok (.if_icmp .ne 27, 3) := by decide +kernel
theorem dX6_takes_6 : decode cX6_takes 6 = .ok (.aload_n 0, 1) := by decide +kernel
theorem dX6_takes_7 : decode cX6_takes 7 = .ok (.invokevirtual 218, 3) := by decide +kernel
theorem dX6_takes_10 : decode cX6_takes 10 = .ok (.ifCond .eq 20, 3) := by decide +kernel
theorem dX6_takes_13 : decode cX6_takes 13 = .ok (.aload_n 0, 1) := by decide +kernel
theorem dX6_takes_14 : decode cX6_takes 14 = .ok (.dup, 1) := by decide +kernel
theorem dX6_takes_15 : decode cX6_takes 15 = .ok (.getfield 202, 3) := by decide +kernel
theorem dX6_takes_18 : decode cX6_takes 18 = .ok (.iconst 1, 1) := by decide +kernel
theorem dX6_takes_19 : decode cX6_takes 19 = .ok (.iadd, 1) := by decide +kernel
theorem dX6_takes_20 : decode cX6_takes 20 = .ok (.putfield 202, 3) := by decide +kernel
theorem dX6_takes_23 : decode cX6_takes 23 = .ok (.aload_n 0, 1) := by decide +kernel
theorem dX6_takes_24 : decode cX6_takes 24 = .ok (.iconst 1, 1) := by decide +kernel
theorem dX6_takes_25 : decode cX6_takes 25 = .ok (.iconst 0, 1) := by decide +kernel
theorem dX6_takes_26 : decode cX6_takes 26 = .ok (.invokevirtual 214, 3) := by decide +kernel
theorem dX6_takes_29 : decode cX6_takes 29 = .ok (.ireturn, 1) := by decide +kernel
theorem dX6_takes_30 : decode cX6_takes 30 = .ok (.aload_n 0, 1) := by decide +kernel
theorem dX6_takes_31 : decode cX6_takes 31 = .ok (.getfield 205, 3) := by decide +kernel
theorem dX6_takes_34 : decode cX6_takes 34 = .ok (.tableswitch 115 0 9 #[54, 60, 66, 115, 72, 115, 89, 107, 115, 113], 54) := by decide +kernel
theorem dX6_takes_88 : decode cX6_takes 88 = .ok (.aload_n 0, 1) := by decide +kernel
theorem dX6_takes_89 : decode cX6_takes 89 = .ok (.iload_n 1, 1) := by decide +kernel
theorem dX6_takes_90 : decode cX6_takes 90 = .ok (.invokevirtual 222, 3) := by decide +kernel
theorem dX6_takes_93 : decode cX6_takes 93 = .ok (.ireturn, 1) := by decide +kernel
theorem dX6_takes_94 : decode cX6_takes 94 = .ok (.aload_n 0, 1) := by decide +kernel
theorem dX6_takes_95 : decode cX6_takes 95 = .ok (.iload_n 1, 1) := by decide +kernel
theorem dX6_takes_96 : decode cX6_takes 96 = .ok (.invokevirtual 225, 3) := by decide +kernel
theorem dX6_takes_99 : decode cX6_takes 99 = .ok (.ireturn, 1) := by decide +kernel
theorem dX6_takes_100 : decode cX6_takes 100 = .ok (.aload_n 0, 1) := by decide +kernel
theorem dX6_takes_101 : decode cX6_takes 101 = .ok (.iload_n 1, 1) := by decide +kernel
theorem dX6_takes_102 : decode cX6_takes 102 = .ok (.invokevirtual 228, 3) := by decide +kernel
theorem dX6_takes_105 : decode cX6_takes 105 = .ok (.ireturn, 1) := by decide +kernel
theorem dX6_takes_106 : decode cX6_takes 106 = .ok (.aload_n 0, 1) := by decide +kernel
theorem dX6_takes_107 : decode cX6_takes 107 = .ok (.iload_n 1, 1) := by decide +kernel
theorem dX6_takes_108 : decode cX6_takes 108 = .ok (.bipush 61, 2) := by decide +kernel
theorem dX6_takes_110 : decode cX6_takes 110 = .ok (.if_icmp .ne 7, 3) := by decide +kernel
theorem dX6_takes_113 : decode cX6_takes 113 = .ok (.iconst 1, 1) := by decide +kernel
theorem dX6_takes_114 : decode cX6_takes 114 = .ok (.goto 4, 3) := by decide +kernel
theorem dX6_takes_117 : decode cX6_takes 117 = .ok (.iconst 0, 1) := by decide +kernel
theorem dX6_takes_118 : decode cX6_takes 118 = .ok (.iconst 5, 1) := by decide +kernel
theorem dX6_takes_119 : decode cX6_takes 119 = .ok (.invokevirtual 214, 3) := by decide +kernel
theorem dX6_takes_122 : decode cX6_takes 122 = .ok (.ireturn, 1) := by decide +kernel
theorem dX6_takes_123 : decode cX6_takes 123 = .ok (.aload_n 0, 1) := by decide +kernel
theorem dX6_takes_124 : decode cX6_takes 124 = .ok (.iload_n 1, 1) := by decide +kernel
theorem dX6_takes_125 : decode cX6_takes 125 = .ok (.bipush 62, 2) := by decide +kernel
theorem dX6_takes_127 : decode cX6_takes 127 = .ok (.if_icmp .ne 7, 3) := by decide +kernel
theorem dX6_takes_130 : decode cX6_takes 130 = .ok (.iconst 1, 1) := by decide +kernel
theorem dX6_takes_131 : decode cX6_takes 131 = .ok (.goto 4, 3) := by decide +kernel
theorem dX6_takes_134 : decode cX6_takes 134 = .ok (.iconst 0, 1) := by decide +kernel
theorem dX6_takes_135 : decode cX6_takes 135 = .ok (.bipush 7, 2) := by decide +kernel
theorem dX6_takes_137 : decode cX6_takes 137 = .ok (.invokevirtual 214, 3) := by decide +kernel
theorem dX6_takes_140 : decode cX6_takes 140 = .ok (.ireturn, 1) := by decide +kernel
theorem dX6_takes_141 : decode cX6_takes 141 = .ok (.aload_n 0, 1) := by decide +kernel
theorem dX6_takes_142 : decode cX6_takes 142 = .ok (.iload_n 1, 1) := by decide +kernel
theorem dX6_takes_143 : decode cX6_takes 143 = .ok (.invokevirtual 231, 3) := by decide +kernel
theorem dX6_takes_146 : decode cX6_takes 146 = .ok (.ireturn, 1) := by decide +kernel
theorem dX6_takes_147 : decode cX6_takes 147 = .ok (.iconst 0, 1) := by decide +kernel
theorem dX6_takes_148 : decode cX6_takes 148 = .ok (.ireturn, 1) := by decide +kernel
theorem dX6_takes_149 : decode cX6_takes 149 = .ok (.aload_n 0, 1) := by decide +kernel
theorem dX6_takes_150 : decode cX6_takes 150 = .ok (.iload_n 1, 1) := by decide +kernel
theorem dX6_takes_151 : decode cX6_takes 151 = .ok (.invokevirtual 234, 3) := by decide +kernel
theorem dX6_takes_154 : decode cX6_takes 154 = .ok (.ireturn, 1) := by decide +kernel
theorem dX6_rightLength_0 : decode cX6_rightLength 0 = .ok (.aload_n 0, 1) := by decide +kernel
theorem dX6_rightLength_1 : decode cX6_rightLength 1 = .ok (.iconst 0, 1) := by decide +kernel
theorem dX6_rightLength_2 : decode cX6_rightLength 2 = .ok (.putfield 205, 3) := by decide +kernel
theorem dX6_rightLength_5 : decode cX6_rightLength 5 = .ok (.aload_n 0, 1) := by decide +kernel
theorem dX6_rightLength_6 : decode cX6_rightLength 6 = .ok (.iconst 0, 1) := by decide +kernel
theorem dX6_rightLength_7 : decode cX6_rightLength 7 = .ok (.putfield 202, 3) := by decide +kernel
theorem dX6_rightLength_10 : decode cX6_rightLength 10 = .ok (.iconst 0, 1) := by decide +kernel
theorem dX6_rightLength_11 : decode cX6_rightLength 11 = .ok (.istore_n 1, 1) := by decide +kernel
theorem dX6_rightLength_12 : decode cX6_rightLength 12 = .ok (.iload_n 1, 1) := by decide +kernel
theorem dX6_rightLength_13 : decode cX6_rightLength 13 = .ok (.aload_n 0, 1) := by decide +kernel
theorem dX6_rightLength_14 : decode cX6_rightLength 14 = .ok (.getfield 199, 3) := by decide +kernel
theorem dX6_rightLength_17 : decode cX6_rightLength 17 = .ok (.if_icmp .ge 22, 3) := by decide +kernel
theorem dX6_rightLength_20 : decode cX6_rightLength 20 = .ok (.aload_n 0, 1) := by decide +kernel
theorem dX6_rightLength_21 : decode cX6_rightLength 21 = .ok (.aload_n 0, 1) := by decide +kernel
theorem dX6_rightLength_22 : decode cX6_rightLength 22 = .ok (.getfield 82, 3) := by decide +kernel
theorem dX6_rightLength_25 : decode cX6_rightLength 25 = .ok (.iload_n 1, 1) := by decide +kernel
theorem dX6_rightLength_26 : decode cX6_rightLength 26 = .ok (.iaload, 1) := by decide +kernel
theorem dX6_rightLength_27 : decode cX6_rightLength 27 = .ok (.invokevirtual 237, 3) := by decide +kernel
theorem dX6_rightLength_30 : decode cX6_rightLength 30 = .ok (.ifCond .eq 9, 3) := by decide +kernel
theorem dX6_rightLength_33 : decode cX6_rightLength 33 = .ok (.iinc 1 1, 3) := by decide +kernel
theorem dX6_rightLength_36 : decode cX6_rightLength 36 = .ok (.goto (-24), 3) := by decide +kernel
theorem dX6_rightLength_39 : decode cX6_rightLength 39 = .ok (.iload_n 1, 1) := by decide +kernel
theorem dX6_rightLength_40 : decode cX6_rightLength 40 = .ok (.ireturn, 1) := by decide +kernel
theorem dX6_firstError_0 : decode cX6_firstError 0 = .ok (.aload_n 0, 1) := by decide +kernel
theorem dX6_firstError_1 : decode cX6_firstError 1 = .ok (.iconst 0, 1) := by decide +kernel
theorem dX6_firstError_2 : decode cX6_firstError 2 = .ok (.putfield 95, 3) := by decide +kernel
theorem dX6_firstError_5 : decode cX6_firstError 5 = .ok (.aload_n 0, 1) := by decide +kernel
theorem dX6_firstError_6 : decode cX6_firstError 6 = .ok (.invokevirtual 240, 3) := by decide +kernel
theorem dX6_firstError_9 : decode cX6_firstError 9 = .ok (.ireturn, 1) := by decide +kernel
theorem dX6_does_0 : decode cX6_does 0 = .ok (.aload_n 0, 1) := by decide +kernel
theorem dX6_does_1 : decode cX6_does 1 = .ok (.getfield 88, 3) := by decide +kernel
theorem dX6_does_4 : decode cX6_does 4 = .ok (.iload_n 1, 1) := by decide +kernel
theorem dX6_does_5 : decode cX6_does 5 = .ok (.iaload, 1) := by decide +kernel
theorem dX6_does_6 : decode cX6_does 6 = .ok (.istore_n 2, 1) := by decide +kernel
theorem dX6_does_7 : decode cX6_does 7 = .ok (.aload_n 0, 1) := by decide +kernel
theorem dX6_does_8 : decode cX6_does 8 = .ok (.getfield 88, 3) := by decide +kernel
theorem dX6_does_11 : decode cX6_does 11 = .ok (.iload_n 1, 1) := by decide +kernel
theorem dX6_does_12 : decode cX6_does 12 = .ok (.iconst 1, 1) := by decide +kernel
theorem dX6_does_13 : decode cX6_does 13 = .ok (.iadd, 1) := by decide +kernel
theorem dX6_does_14 : decode cX6_does 14 = .ok (.iaload, 1) := by decide +kernel
theorem dX6_does_15 : decode cX6_does 15 = .ok (.istore_n 3, 1) := by decide +kernel
theorem dX6_does_16 : decode cX6_does 16 = .ok (.aload_n 0, 1) := by decide +kernel
theorem dX6_does_17 : decode cX6_does 17 = .ok (.getfield 88, 3) := by decide +kernel
theorem dX6_does_20 : decode cX6_does 20 = .ok (.iload_n 1, 1) := by decide +kernel
theorem dX6_does_21 : decode cX6_does 21 = .ok (.iconst 4, 1) := by decide +kernel
theorem dX6_does_22 : decode cX6_does 22 = .ok (.iadd, 1) := by decide +kernel
theorem dX6_does_23 : decode cX6_does 23 = .ok (.iaload, 1) := by decide +kernel
theorem dX6_does_24 : decode cX6_does 24 = .ok (.istore 4, 2) := by decide +kernel
theorem dX6_does_26 : decode cX6_does 26 = .ok (.iload_n 2, 1) := by decide +kernel
theorem dX6_does_27 : decode cX6_does 27 = .ok (.bipush 112, 2) := by decide +kernel
theorem dX6_does_29 : decode cX6_does 29 = .ok (.if_icmp .ne 21, 3) := by decide +kernel
theorem dX6_does_32 : decode cX6_does 32 = .ok (.aload_n 0, 1) := by decide +kernel
theorem dX6_does_33 : decode cX6_does 33 = .ok (.iload_n 3, 1) := by decide +kernel
theorem dX6_does_34 : decode cX6_does 34 = .ok (.iload 4, 2) := by decide +kernel
theorem dX6_does_36 : decode cX6_does 36 = .ok (.invokevirtual 154, 3) := by decide +kernel
theorem dX6_does_39 : decode cX6_does 39 = .ok (.ifCond .ne 7, 3) := by decide +kernel
theorem dX6_does_42 : decode cX6_does 42 = .ok (.iconst 1, 1) := by decide +kernel
theorem dX6_does_43 : decode cX6_does 43 = .ok (.goto 101, 3) := by decide +kernel
theorem dX6_does_46 : decode cX6_does 46 = .ok (.iconst 0, 1) := by decide +kernel
theorem dX6_does_47 : decode cX6_does 47 = .ok (.goto 97, 3) := by decide +kernel
theorem dX6_does_50 : decode cX6_does 50 = .ok (.iload_n 2, 1) := by decide +kernel
theorem dX6_does_51 : decode cX6_does 51 = .ok (.bipush 97, 2) := by decide +kernel
theorem dX6_does_53 : decode cX6_does 53 = .ok (.if_icmp .ne 37, 3) := by decide +kernel
theorem dX6_does_56 : decode cX6_does 56 = .ok (.aload_n 0, 1) := by decide +kernel
theorem dX6_does_57 : decode cX6_does 57 = .ok (.iload_n 3, 1) := by decide +kernel
theorem dX6_does_58 : decode cX6_does 58 = .ok (.aload_n 0, 1) := by decide +kernel
theorem dX6_does_59 : decode cX6_does 59 = .ok (.getfield 88, 3) := by decide +kernel
theorem dX6_does_62 : decode cX6_does 62 = .ok (.iload_n 1, 1) := by decide +kernel
theorem dX6_does_63 : decode cX6_does 63 = .ok (.iconst 2, 1) := by decide +kernel
theorem dX6_does_64 : decode cX6_does 64 = .ok (.iadd, 1) := by decide +kernel
theorem dX6_does_65 : decode cX6_does 65 = .ok (.iaload, 1) := by decide +kernel
theorem dX6_does_66 : decode cX6_does 66 = .ok (.aload_n 0, 1) := by decide +kernel
theorem dX6_does_67 : decode cX6_does 67 = .ok (.getfield 88, 3) := by decide +kernel
theorem dX6_does_70 : decode cX6_does 70 = .ok (.iload_n 1, 1) := by decide +kernel
theorem dX6_does_71 : decode cX6_does 71 = .ok (.iconst 3, 1) := by decide +kernel
theorem dX6_does_72 : decode cX6_does 72 = .ok (.iadd, 1) := by decide +kernel
theorem dX6_does_73 : decode cX6_does 73 = .ok (.iaload, 1) := by decide +kernel
theorem dX6_does_74 : decode cX6_does 74 = .ok (.iload 4, 2) := by decide +kernel
theorem dX6_does_76 : decode cX6_does 76 = .ok (.invokevirtual 167, 3) := by decide +kernel
theorem dX6_does_79 : decode cX6_does 79 = .ok (.ifCond .ne 7, 3) := by decide +kernel
theorem dX6_does_82 : decode cX6_does 82 = .ok (.iconst 1, 1) := by decide +kernel
theorem dX6_does_83 : decode cX6_does 83 = .ok (.goto 61, 3) := by decide +kernel
theorem dX6_does_86 : decode cX6_does 86 = .ok (.iconst 0, 1) := by decide +kernel
theorem dX6_does_87 : decode cX6_does 87 = .ok (.goto 57, 3) := by decide +kernel
theorem dX6_does_90 : decode cX6_does 90 = .ok (.iload_n 2, 1) := by decide +kernel
theorem dX6_does_91 : decode cX6_does 91 = .ok (.bipush 106, 2) := by decide +kernel
theorem dX6_does_93 : decode cX6_does 93 = .ok (.if_icmp .ne 21, 3) := by decide +kernel
theorem dX6_does_96 : decode cX6_does 96 = .ok (.aload_n 0, 1) := by decide +kernel
theorem dX6_does_97 : decode cX6_does 97 = .ok (.iload_n 3, 1) := by decide +kernel
theorem dX6_does_98 : decode cX6_does 98 = .ok (.iload 4, 2) := by decide +kernel
theorem dX6_does_100 : decode cX6_does 100 = .ok (.invokevirtual 193, 3) := by decide +kernel
theorem dX6_does_103 : decode cX6_does 103 = .ok (.ifCond .ne 7, 3) := by decide +kernel
theorem dX6_does_106 : decode cX6_does 106 = .ok (.iconst 1, 1) := by decide +kernel
theorem dX6_does_107 : decode cX6_does 107 = .ok (.goto 37, 3) := by decide +kernel
theorem dX6_does_110 : decode cX6_does 110 = .ok (.iconst 0, 1) := by decide +kernel
theorem dX6_does_111 : decode cX6_does 111 = .ok (.goto 33, 3) := by decide +kernel
theorem dX6_does_114 : decode cX6_does 114 = .ok (.aload_n 0, 1) := by decide +kernel
theorem dX6_does_115 : decode cX6_does 115 = .ok (.iload_n 3, 1) := by decide +kernel
theorem dX6_does_116 : decode cX6_does 116 = .ok (.iload_n 2, 1) := by decide +kernel
theorem dX6_does_117 : decode cX6_does 117 = .ok (.bipush 102, 2) := by decide +kernel
theorem dX6_does_119 : decode cX6_does 119 = .ok (.if_icmp .eq 9, 3) := by decide +kernel
theorem dX6_does_122 : decode cX6_does 122 = .ok (.iload_n 2, 1) := by decide +kernel
theorem dX6_does_123 : decode cX6_does 123 = .ok (.bipush 99, 2) := by decide +kernel
theorem dX6_does_125 : decode cX6_does 125 = .ok (.if_icmp .ne 7, 3) := by decide +kernel
theorem dX6_does_128 : decode cX6_does 128 = .ok (.iconst 1, 1) := by decide +kernel
theorem dX6_does_129 : decode cX6_does 129 = .ok (.goto 4, 3) := by decide +kernel
theorem dX6_does_132 : decode cX6_does 132 = .ok (.iconst 0, 1) := by decide +kernel
theorem dX6_does_133 : decode cX6_does 133 = .ok (.invokevirtual 174, 3) := by decide +kernel
theorem dX6_does_136 : decode cX6_does 136 = .ok (.ifCond .ne 7, 3) := by decide +kernel
theorem dX6_does_139 : decode cX6_does 139 = .ok (.iconst 1, 1) := by decide +kernel
theorem dX6_does_140 : decode cX6_does 140 = .ok (.goto 4, 3) := by decide +kernel
theorem dX6_does_143 : decode cX6_does 143 = .ok (.iconst 0, 1) := by decide +kernel
theorem dX6_does_144 : decode cX6_does 144 = .ok (.istore 5, 2) := by decide +kernel
theorem dX6_does_146 : decode cX6_does 146 = .ok (.iload 5, 2) := by decide +kernel
theorem dX6_does_148 : decode cX6_does 148 = .ok (.ifCond .ne 5, 3) := by decide +kernel
theorem dX6_does_151 : decode cX6_does 151 = .ok (.iconst 0, 1) := by decide +kernel
theorem dX6_does_152 : decode cX6_does 152 = .ok (.ireturn, 1) := by decide +kernel
theorem dX6_does_153 : decode cX6_does 153 = .ok (.iload_n 2, 1) := by decide +kernel
theorem dX6_does_154 : decode cX6_does 154 = .ok (.lookupswitch 140 #[(97, 69), (99, 105), (102, 96), (112, 58), (114, 131), (119, 122)], 58) := by decide +kernel
theorem dX6_does_212 : decode cX6_does 212 = .ok (.aload_n 0, 1) := by decide +kernel
theorem dX6_does_213 : decode cX6_does 213 = .ok (.iload_n 3, 1) := by decide +kernel
theorem dX6_does_214 : decode cX6_does 214 = .ok (.iload 4, 2) := by decide +kernel
theorem dX6_does_216 : decode cX6_does 216 = .ok (.invokevirtual 157, 3) := by decide +kernel
theorem dX6_does_219 : decode cX6_does 219 = .ok (.pop, 1) := by decide +kernel
theorem dX6_does_220 : decode cX6_does 220 = .ok (.goto 82, 3) := by decide +kernel
theorem dX6_does_223 : decode cX6_does 223 = .ok (.aload_n 0, 1) := by decide +kernel
theorem dX6_does_224 : decode cX6_does 224 = .ok (.iload_n 3, 1) := by decide +kernel
theorem dX6_does_225 : decode cX6_does 225 = .ok (.aload_n 0, 1) := by decide +kernel
theorem dX6_does_226 : decode cX6_does 226 = .ok (.getfield 88, 3) := by decide +kernel
theorem dX6_does_229 : decode cX6_does 229 = .ok (.iload_n 1, 1) := by decide +kernel
theorem dX6_does_230 : decode cX6_does 230 = .ok (.iconst 2, 1) := by decide +kernel
theorem dX6_does_231 : decode cX6_does 231 = .ok (.iadd, 1) := by decide +kernel
theorem dX6_does_232 : decode cX6_does 232 = .ok (.iaload, 1) := by decide +kernel
theorem dX6_does_233 : decode cX6_does 233 = .ok (.aload_n 0, 1) := by decide +kernel
theorem dX6_does_234 : decode cX6_does 234 = .ok (.getfield 88, 3) := by decide +kernel
theorem dX6_does_237 : decode cX6_does 237 = .ok (.iload_n 1, 1) := by decide +kernel
theorem dX6_does_238 : decode cX6_does 238 = .ok (.iconst 3, 1) := by decide +kernel
theorem dX6_does_239 : decode cX6_does 239 = .ok (.iadd, 1) := by decide +kernel
theorem dX6_does_240 : decode cX6_does 240 = .ok (.iaload, 1) := by decide +kernel
theorem dX6_does_241 : decode cX6_does 241 = .ok (.iload 4, 2) := by decide +kernel
theorem dX6_does_243 : decode cX6_does 243 = .ok (.invokevirtual 171, 3) := by decide +kernel
theorem dX6_does_246 : decode cX6_does 246 = .ok (.pop, 1) := by decide +kernel
theorem dX6_does_247 : decode cX6_does 247 = .ok (.goto 55, 3) := by decide +kernel
theorem dX6_does_250 : decode cX6_does 250 = .ok (.aload_n 0, 1) := by decide +kernel
theorem dX6_does_251 : decode cX6_does 251 = .ok (.iload_n 3, 1) := by decide +kernel
theorem dX6_does_252 : decode cX6_does 252 = .ok (.invokevirtual 178, 3) := by decide +kernel
theorem dX6_does_255 : decode cX6_does 255 = .ok (.pop, 1) := by decide +kernel
theorem dX6_does_256 : decode cX6_does 256 = .ok (.goto 46, 3) := by decide +kernel
theorem dX6_does_259 : decode cX6_does 259 = .ok (.aload_n 0, 1) := by decide +kernel
theorem dX6_does_260 : decode cX6_does 260 = .ok (.iload_n 3, 1) := by decide +kernel
theorem dX6_does_261 : decode cX6_does 261 = .ok (.aload_n 0, 1) := by decide +kernel
theorem dX6_does_262 : decode cX6_does 262 = .ok (.getfield 88, 3) := by decide +kernel
theorem dX6_does_265 : decode cX6_does 265 = .ok (.iload_n 1, 1) := by decide +kernel
theorem dX6_does_266 : decode cX6_does 266 = .ok (.iconst 3, 1) := by decide +kernel
theorem dX6_does_267 : decode cX6_does 267 = .ok (.iadd, 1) := by decide +kernel
theorem dX6_does_268 : decode cX6_does 268 = .ok (.iaload, 1) := by decide +kernel
theorem dX6_does_269 : decode cX6_does 269 = .ok (.invokevirtual 181, 3) := by decide +kernel
theorem dX6_does_272 : decode cX6_does 272 = .ok (.pop, 1) := by decide +kernel
theorem dX6_does_273 : decode cX6_does 273 = .ok (.goto 29, 3) := by decide +kernel
theorem dX6_does_276 : decode cX6_does 276 = .ok (.aload_n 0, 1) := by decide +kernel
theorem dX6_does_277 : decode cX6_does 277 = .ok (.iload_n 3, 1) := by decide +kernel
theorem dX6_does_278 : decode cX6_does 278 = .ok (.invokevirtual 184, 3) := by decide +kernel
theorem dX6_does_281 : decode cX6_does 281 = .ok (.pop, 1) := by decide +kernel
theorem dX6_does_282 : decode cX6_does 282 = .ok (.goto 20, 3) := by decide +kernel
theorem dX6_does_285 : decode cX6_does 285 = .ok (.aload_n 0, 1) := by decide +kernel
theorem dX6_does_286 : decode cX6_does 286 = .ok (.iload_n 3, 1) := by decide +kernel
theorem dX6_does_287 : decode cX6_does 287 = .ok (.invokevirtual 187, 3) := by decide +kernel
theorem dX6_does_290 : decode cX6_does 290 = .ok (.pop, 1) := by decide +kernel
theorem dX6_does_291 : decode cX6_does 291 = .ok (.goto 11, 3) := by decide +kernel
theorem dX6_does_294 : decode cX6_does 294 = .ok (.aload_n 0, 1) := by decide +kernel
theorem dX6_does_295 : decode cX6_does 295 = .ok (.iload_n 3, 1) := by decide +kernel
theorem dX6_does_296 : decode cX6_does 296 = .ok (.iload 4, 2) := by decide +kernel
theorem dX6_does_298 : decode cX6_does 298 = .ok (.invokevirtual 196, 3) := by decide +kernel
theorem dX6_does_301 : decode cX6_does 301 = .ok (.pop, 1) := by decide +kernel
theorem dX6_does_302 : decode cX6_does 302 = .ok (.iconst 1, 1) := by decide +kernel
theorem dX6_does_303 : decode cX6_does 303 = .ok (.ireturn, 1) := by decide +kernel
theorem dX6_load_0 : decode cX6_load 0 = .ok (.aload_n 0, 1) := by decide +kernel
theorem dX6_load_1 : decode cX6_load 1 = .ok (.invokevirtual 240, 3) := by decide +kernel
theorem dX6_load_4 : decode cX6_load 4 = .ok (.aload_n 0, 1) := by decide +kernel
theorem dX6_load_5 : decode cX6_load 5 = .ok (.getfield 199, 3) := by decide +kernel
theorem dX6_load_8 : decode cX6_load 8 = .ok (.if_icmp .ne 14, 3) := by decide +kernel
theorem dX6_load_11 : decode cX6_load 11 = .ok (.aload_n 0, 1) := by decide +kernel
theorem dX6_load_12 : decode cX6_load 12 = .ok (.invokevirtual 218, 3) := by decide +kernel
theorem dX6_load_15 : decode cX6_load 15 = .ok (.ifCond .eq 7, 3) := by decide +kernel
theorem dX6_load_18 : decode cX6_load 18 = .ok (.iconst 1, 1) := by decide +kernel
theorem dX6_load_19 : decode cX6_load 19 = .ok (.goto 4, 3) := by decide +kernel
theorem dX6_load_22 : decode cX6_load 22 = .ok (.iconst 0, 1) := by decide +kernel
theorem dX6_load_23 : decode cX6_load 23 = .ok (.istore_n 1, 1) := by decide +kernel
theorem dX6_load_24 : decode cX6_load 24 = .ok (.aload_n 0, 1) := by decide +kernel
theorem dX6_load_25 : decode cX6_load 25 = .ok (.iload_n 1, 1) := by decide +kernel
theorem dX6_load_26 : decode cX6_load 26 = .ok (.ifCond .eq 7, 3) := by decide +kernel
theorem dX6_load_29 : decode cX6_load 29 = .ok (.iconst 0, 1) := by decide +kernel
theorem dX6_load_30 : decode cX6_load 30 = .ok (.goto 4, 3) := by decide +kernel
theorem dX6_load_33 : decode cX6_load 33 = .ok (.iconst 1, 1) := by decide +kernel
theorem dX6_load_34 : decode cX6_load 34 = .ok (.putfield 95, 3) := by decide +kernel
theorem dX6_load_37 : decode cX6_load 37 = .ok (.aload_n 0, 1) := by decide +kernel
theorem dX6_load_38 : decode cX6_load 38 = .ok (.getfield 95, 3) := by decide +kernel
theorem dX6_load_41 : decode cX6_load 41 = .ok (.ifCond .le 5, 3) := by decide +kernel
theorem dX6_load_44 : decode cX6_load 44 = .ok (.iconst 0, 1) := by decide +kernel
theorem dX6_load_45 : decode cX6_load 45 = .ok (.ireturn, 1) := by decide +kernel
theorem dX6_load_46 : decode cX6_load 46 = .ok (.aload_n 0, 1) := by decide +kernel
theorem dX6_load_47 : decode cX6_load 47 = .ok (.dup, 1) := by decide +kernel
theorem dX6_load_48 : decode cX6_load 48 = .ok (.getfield 202, 3) := by decide +kernel
theorem dX6_load_51 : decode cX6_load 51 = .ok (.iconst 1, 1) := by decide +kernel
theorem dX6_load_52 : decode cX6_load 52 = .ok (.iadd, 1) := by decide +kernel
theorem dX6_load_53 : decode cX6_load 53 = .ok (.putfield 202, 3) := by decide +kernel
theorem dX6_load_56 : decode cX6_load 56 = .ok (.iconst 0, 1) := by decide +kernel
theorem dX6_load_57 : decode cX6_load 57 = .ok (.istore_n 2, 1) := by decide +kernel
theorem dX6_load_58 : decode cX6_load 58 = .ok (.iconst 0, 1) := by decide +kernel
theorem dX6_load_59 : decode cX6_load 59 = .ok (.istore_n 3, 1) := by decide +kernel
theorem dX6_load_60 : decode cX6_load 60 = .ok (.iload_n 3, 1) := by decide +kernel
theorem dX6_load_61 : decode cX6_load 61 = .ok (.aload_n 0, 1) := by decide +kernel
theorem dX6_load_62 : decode cX6_load 62 = .ok (.getfield 202, 3) := by decide +kernel
theorem dX6_load_65 : decode cX6_load 65 = .ok (.if_icmp .ge 27, 3) := by decide +kernel
theorem dX6_load_68 : decode cX6_load 68 = .ok (.iload_n 2, 1) := by decide +kernel
theorem dX6_load_69 : decode cX6_load 69 = .ok (.aload_n 0, 1) := by decide +kernel
theorem dX6_load_70 : decode cX6_load 70 = .ok (.iconst 5, 1) := by decide +kernel
theorem dX6_load_71 : decode cX6_load 71 = .ok (.iload_n 3, 1) := by decide +kernel
theorem dX6_load_72 : decode cX6_load 72 = .ok (.imul, 1) := by decide +kernel
theorem dX6_load_73 : decode cX6_load 73 = .ok (.invokevirtual 243, 3) := by decide +kernel
theorem dX6_load_76 : decode cX6_load 76 = .ok (.ifCond .eq 7, 3) := by decide +kernel
theorem dX6_load_79 : decode cX6_load 79 = .ok (.iconst 1, 1) := by decide +kernel
theorem dX6_load_80 : decode cX6_load 80 = .ok (.goto 4, 3) := by decide +kernel
theorem dX6_load_83 : decode cX6_load 83 = .ok (.iconst 0, 1) := by decide +kernel
theorem dX6_load_84 : decode cX6_load 84 = .ok (.iadd, 1) := by decide +kernel
theorem dX6_load_85 : decode cX6_load 85 = .ok (.istore_n 2, 1) := by decide +kernel
theorem dX6_load_86 : decode cX6_load 86 = .ok (.iinc 3 1, 3) := by decide +kernel
theorem dX6_load_89 : decode cX6_load 89 = .ok (.goto (-29), 3) := by decide +kernel
theorem dX6_load_92 : decode cX6_load 92 = .ok (.aload_n 0, 1) := by decide +kernel
theorem dX6_load_93 : decode cX6_load 93 = .ok (.iconst 0, 1) := by decide +kernel
theorem dX6_load_94 : decode cX6_load 94 = .ok (.putfield 199, 3) := by decide +kernel
theorem dX6_load_97 : decode cX6_load 97 = .ok (.iload_n 2, 1) := by decide +kernel
theorem dX6_load_98 : decode cX6_load 98 = .ok (.ireturn, 1) := by decide +kernel
theorem dX6_holds_0 : decode cX6_holds 0 = .ok (.aload_n 0, 1) := by decide +kernel
theorem dX6_holds_1 : decode cX6_holds 1 = .ok (.getfield 70, 3) := by decide +kernel
theorem dX6_holds_4 : decode cX6_holds 4 = .ok (.iload_n 2, 1) := by decide +kernel
theorem dX6_holds_5 : decode cX6_holds 5 = .ok (.iaload, 1) := by decide +kernel
theorem dX6_holds_6 : decode cX6_holds 6 = .ok (.ifCond .le 45, 3) := by decide +kernel
theorem dX6_holds_9 : decode cX6_holds 9 = .ok (.aload_n 0, 1) := by decide +kernel
theorem dX6_holds_10 : decode cX6_holds 10 = .ok (.getfield 49, 3) := by decide +kernel
theorem dX6_holds_13 : decode cX6_holds 13 = .ok (.iload_n 1, 1) := by decide +kernel
theorem dX6_holds_14 : decode cX6_holds 14 = .ok (.iload_n 2, 1) := by decide +kernel
theorem dX6_holds_15 : decode cX6_holds 15 = .ok (.invokestatic 102, 3) := by decide +kernel
theorem dX6_holds_18 : decode cX6_holds 18 = .ok (.iaload, 1) := by decide +kernel
theorem dX6_holds_19 : decode cX6_holds 19 = .ok (.aload_n 0, 1) := by decide +kernel
theorem dX6_holds_20 : decode cX6_holds 20 = .ok (.getfield 76, 3) := by decide +kernel
theorem dX6_holds_23 : decode cX6_holds 23 = .ok (.iload_n 2, 1) := by decide +kernel
theorem dX6_holds_24 : decode cX6_holds 24 = .ok (.iaload, 1) := by decide +kernel
theorem dX6_holds_25 : decode cX6_holds 25 = .ok (.if_icmp .ne 26, 3) := by decide +kernel
theorem dX6_holds_28 : decode cX6_holds 28 = .ok (.aload_n 0, 1) := by decide +kernel
theorem dX6_holds_29 : decode cX6_holds 29 = .ok (.getfield 46, 3) := by decide +kernel
theorem dX6_holds_32 : decode cX6_holds 32 = .ok (.iload_n 1, 1) := by decide +kernel
theorem dX6_holds_33 : decode cX6_holds 33 = .ok (.iload_n 2, 1) := by decide +kernel
theorem dX6_holds_34 : decode cX6_holds 34 = .ok (.invokestatic 102, 3) := by decide +kernel
theorem dX6_holds_37 : decode cX6_holds 37 = .ok (.iaload, 1) := by decide +kernel
theorem dX6_holds_38 : decode cX6_holds 38 = .ok (.aload_n 0, 1) := by decide +kernel
theorem dX6_holds_39 : decode cX6_holds 39 = .ok (.getfield 73, 3) := by decide +kernel
theorem dX6_holds_42 : decode cX6_holds 42 = .ok (.iload_n 2, 1) := by decide +kernel
theorem dX6_holds_43 : decode cX6_holds 43 = .ok (.iaload, 1) := by decide +kernel
theorem dX6_holds_44 : decode cX6_holds 44 = .ok (.if_icmp .lt 7, 3) := by decide +kernel
theorem dX6_holds_47 : decode cX6_holds 47 = .ok (.iconst 1, 1) := by decide +kernel
theorem dX6_holds_48 : decode cX6_holds 48 = .ok (.goto 4, 3) := by decide +kernel
theorem dX6_holds_51 : decode cX6_holds 51 = .ok (.iconst 0, 1) := by decide +kernel
theorem dX6_holds_52 : decode cX6_holds 52 = .ok (.ireturn, 1) := by decide +kernel
theorem dX6_holdsOnDisk_0 : decode cX6_holdsOnDisk 0 = .ok (.aload_n 0, 1) := by decide +kernel
theorem dX6_holdsOnDisk_1 : decode cX6_holdsOnDisk 1 = .ok (.getfield 70, 3) := by decide +kernel
theorem dX6_holdsOnDisk_4 : decode cX6_holdsOnDisk 4 = .ok (.iload_n 2, 1) := by decide +kernel
theorem dX6_holdsOnDisk_5 : decode cX6_holdsOnDisk 5 = .ok (.iaload, 1) := by decide +kernel
theorem dX6_holdsOnDisk_6 : decode cX6_holdsOnDisk 6 = .ok (.ifCond .le 45, 3) := by decide +kernel
theorem dX6_holdsOnDisk_9 : decode cX6_holdsOnDisk 9 = .ok (.aload_n 0, 1) := by decide +kernel
theorem dX6_holdsOnDisk_10 : decode cX6_holdsOnDisk 10 = .ok (.getfield 40, 3) := by decide +kernel
theorem dX6_holdsOnDisk_13 : decode cX6_holdsOnDisk 13 = .ok (.iload_n 1, 1) := by decide +kernel
theorem dX6_holdsOnDisk_14 : decode cX6_holdsOnDisk 14 = .ok (.iload_n 2, 1) := by decide +kernel
theorem dX6_holdsOnDisk_15 : decode cX6_holdsOnDisk 15 = .ok (.invokestatic 102, 3) := by decide +kernel
theorem dX6_holdsOnDisk_18 : decode cX6_holdsOnDisk 18 = .ok (.iaload, 1) := by decide +kernel
theorem dX6_holdsOnDisk_19 : decode cX6_holdsOnDisk 19 = .ok (.aload_n 0, 1) := by decide +kernel
theorem dX6_holdsOnDisk_20 : decode cX6_holdsOnDisk 20 = .ok (.getfield 76, 3) := by decide +kernel
theorem dX6_holdsOnDisk_23 : decode cX6_holdsOnDisk 23 = .ok (.iload_n 2, 1) := by decide +kernel
theorem dX6_holdsOnDisk_24 : decode cX6_holdsOnDisk 24 = .ok (.iaload, 1) := by decide +kernel
theorem dX6_holdsOnDisk_25 : decode cX6_holdsOnDisk 25 = .ok (.if_icmp .ne 26, 3) := by decide +kernel
theorem dX6_holdsOnDisk_28 : decode cX6_holdsOnDisk 28 = .ok (.aload_n 0, 1) := by decide +kernel
theorem dX6_holdsOnDisk_29 : decode cX6_holdsOnDisk 29 = .ok (.getfield 37, 3) := by decide +kernel
theorem dX6_holdsOnDisk_32 : decode cX6_holdsOnDisk 32 = .ok (.iload_n 1, 1) := by decide +kernel
theorem dX6_holdsOnDisk_33 : decode cX6_holdsOnDisk 33 = .ok (.iload_n 2, 1) := by decide +kernel
theorem dX6_holdsOnDisk_34 : decode cX6_holdsOnDisk 34 = .ok (.invokestatic 102, 3) := by decide +kernel
theorem dX6_holdsOnDisk_37 : decode cX6_holdsOnDisk 37 = .ok (.iaload, 1) := by decide +kernel
theorem dX6_holdsOnDisk_38 : decode cX6_holdsOnDisk 38 = .ok (.aload_n 0, 1) := by decide +kernel
theorem dX6_holdsOnDisk_39 : decode cX6_holdsOnDisk 39 = .ok (.getfield 73, 3) := by decide +kernel
theorem dX6_holdsOnDisk_42 : decode cX6_holdsOnDisk 42 = .ok (.iload_n 2, 1) := by decide +kernel
theorem dX6_holdsOnDisk_43 : decode cX6_holdsOnDisk 43 = .ok (.iaload, 1) := by decide +kernel
theorem dX6_holdsOnDisk_44 : decode cX6_holdsOnDisk 44 = .ok (.if_icmp .lt 7, 3) := by decide +kernel
theorem dX6_holdsOnDisk_47 : decode cX6_holdsOnDisk 47 = .ok (.iconst 1, 1) := by decide +kernel
theorem dX6_holdsOnDisk_48 : decode cX6_holdsOnDisk 48 = .ok (.goto 4, 3) := by decide +kernel
theorem dX6_holdsOnDisk_51 : decode cX6_holdsOnDisk 51 = .ok (.iconst 0, 1) := by decide +kernel
theorem dX6_holdsOnDisk_52 : decode cX6_holdsOnDisk 52 = .ok (.ireturn, 1) := by decide +kernel
theorem dX6_holders_0 : decode cX6_holders 0 = .ok (.iconst 0, 1) := by decide +kernel
theorem dX6_holders_1 : decode cX6_holders 1 = .ok (.istore_n 3, 1) := by decide +kernel
theorem dX6_holders_2 : decode cX6_holders 2 = .ok (.iconst 0, 1) := by decide +kernel
theorem dX6_holders_3 : decode cX6_holders 3 = .ok (.istore 4, 2) := by decide +kernel
theorem dX6_holders_5 : decode cX6_holders 5 = .ok (.iload 4, 2) := by decide +kernel
theorem dX6_holders_7 : decode cX6_holders 7 = .ok (.aload_n 0, 1) := by decide +kernel
theorem dX6_holders_8 : decode cX6_holders 8 = .ok (.getfield 7, 3) := by decide +kernel
theorem dX6_holders_11 : decode cX6_holders 11 = .ok (.if_icmp .ge 44, 3) := by decide +kernel
theorem dX6_holders_14 : decode cX6_holders 14 = .ok (.iload_n 3, 1) := by decide +kernel
theorem dX6_holders_15 : decode cX6_holders 15 = .ok (.iload_n 2, 1) := by decide +kernel
theorem dX6_holders_16 : decode cX6_holders 16 = .ok (.ifCond .eq 16, 3) := by decide +kernel
theorem dX6_holders_19 : decode cX6_holders 19 = .ok (.aload_n 0, 1) := by decide +kernel
theorem dX6_holders_20 : decode cX6_holders 20 = .ok (.iload 4, 2) := by decide +kernel
theorem dX6_holders_22 : decode cX6_holders 22 = .ok (.iload_n 1, 1) := by decide +kernel
theorem dX6_holders_23 : decode cX6_holders 23 = .ok (.invokevirtual 246, 3) := by decide +kernel
theorem dX6_holders_26 : decode cX6_holders 26 = .ok (.ifCond .eq 20, 3) := by decide +kernel
theorem dX6_holders_29 : decode cX6_holders 29 = .ok (.goto 13, 3) := by decide +kernel
theorem dX6_holders_32 : decode cX6_holders 32 = .ok (.aload_n 0, 1) := by decide +kernel
theorem dX6_holders_33 : decode cX6_holders 33 = .ok (.iload 4, 2) := by decide +kernel
theorem dX6_holders_35 : decode cX6_holders 35 = .ok (.iload_n 1, 1) := by decide +kernel
theorem dX6_holders_36 : decode cX6_holders 36 = .ok (.invokevirtual 249, 3) := by decide +kernel
theorem dX6_holders_39 : decode cX6_holders 39 = .ok (.ifCond .eq 7, 3) := by decide +kernel
theorem dX6_holders_42 : decode cX6_holders 42 = .ok (.iconst 1, 1) := by decide +kernel
theorem dX6_holders_43 : decode cX6_holders 43 = .ok (.goto 4, 3) := by decide +kernel
theorem dX6_holders_46 : decode cX6_holders 46 = .ok (.iconst 0, 1) := by decide +kernel
theorem dX6_holders_47 : decode cX6_holders 47 = .ok (.iadd, 1) := by decide +kernel
theorem dX6_holders_48 : decode cX6_holders 48 = .ok (.istore_n 3, 1) := by decide +kernel
theorem dX6_holders_49 : decode cX6_holders 49 = .ok (.iinc 4 1, 3) := by decide +kernel
theorem dX6_holders_52 : decode cX6_holders 52 = .ok (.goto (-47), 3) := by decide +kernel
theorem dX6_holders_55 : decode cX6_holders 55 = .ok (.iload_n 3, 1) := by decide +kernel
theorem dX6_holders_56 : decode cX6_holders 56 = .ok (.ireturn, 1) := by decide +kernel
theorem dX6_protects_0 : decode cX6_protects 0 = .ok (.aload_n 0, 1) := by decide +kernel
theorem dX6_protects_1 : decode cX6_protects 1 = .ok (.getfield 7, 3) := by decide +kernel
theorem dX6_protects_4 : decode cX6_protects 4 = .ok (.iload_n 1, 1) := by decide +kernel
theorem dX6_protects_5 : decode cX6_protects 5 = .ok (.isub, 1) := by decide +kernel
theorem dX6_protects_6 : decode cX6_protects 6 = .ok (.aload_n 0, 1) := by decide +kernel
theorem dX6_protects_7 : decode cX6_protects 7 = .ok (.invokevirtual 143, 3) := by decide +kernel
theorem dX6_protects_10 : decode cX6_protects 10 = .ok (.if_icmp .ge 7, 3) := by decide +kernel
theorem dX6_protects_13 : decode cX6_protects 13 = .ok (.iconst 1, 1) := by decide +kernel
theorem dX6_protects_14 : decode cX6_protects 14 = .ok (.goto 4, 3) := by decide +kernel
theorem dX6_protects_17 : decode cX6_protects 17 = .ok (.iconst 0, 1) := by decide +kernel
theorem dX6_protects_18 : decode cX6_protects 18 = .ok (.ireturn, 1) := by decide +kernel
theorem dX6_wouldHold_0 : decode cX6_wouldHold 0 = .ok (.aload_n 0, 1) := by decide +kernel
theorem dX6_wouldHold_1 : decode cX6_wouldHold 1 = .ok (.getfield 37, 3) := by decide +kernel
theorem dX6_wouldHold_4 : decode cX6_wouldHold 4 = .ok (.iload_n 1, 1) := by decide +kernel
theorem dX6_wouldHold_5 : decode cX6_wouldHold 5 = .ok (.iload_n 2, 1) := by decide +kernel
theorem dX6_wouldHold_6 : decode cX6_wouldHold 6 = .ok (.invokestatic 102, 3) := by decide +kernel
theorem dX6_wouldHold_9 : decode cX6_wouldHold 9 = .ok (.iaload, 1) := by decide +kernel
theorem dX6_wouldHold_10 : decode cX6_wouldHold 10 = .ok (.istore 4, 2) := by decide +kernel
theorem dX6_wouldHold_12 : decode cX6_wouldHold 12 = .ok (.aload_n 0, 1) := by decide +kernel
theorem dX6_wouldHold_13 : decode cX6_wouldHold 13 = .ok (.getfield 40, 3) := by decide +kernel
theorem dX6_wouldHold_16 : decode cX6_wouldHold 16 = .ok (.iload_n 1, 1) := by decide +kernel
theorem dX6_wouldHold_17 : decode cX6_wouldHold 17 = .ok (.iload_n 2, 1) := by decide +kernel
theorem dX6_wouldHold_18 : decode cX6_wouldHold 18 = .ok (.invokestatic 102, 3) := by decide +kernel
theorem dX6_wouldHold_21 : decode cX6_wouldHold 21 = .ok (.iaload, 1) := by decide +kernel
theorem dX6_wouldHold_22 : decode cX6_wouldHold 22 = .ok (.istore 5, 2) := by decide +kernel
theorem dX6_wouldHold_24 : decode cX6_wouldHold 24 = .ok (.sipush 2048, 3) := by decide +kernel
theorem dX6_wouldHold_27 : decode cX6_wouldHold 27 = .ok (.iload_n 1, 1) := by decide +kernel
theorem dX6_wouldHold_28 : decode cX6_wouldHold 28 = .ok (.imul, 1) := by decide +kernel
theorem dX6_wouldHold_29 : decode cX6_wouldHold 29 = .ok (.istore 6, 2) := by decide +kernel
theorem dX6_wouldHold_31 : decode cX6_wouldHold 31 = .ok (.iload 6, 2) := by decide +kernel
theorem dX6_wouldHold_33 : decode cX6_wouldHold 33 = .ok (.sipush 2048, 3) := by decide +kernel
theorem dX6_wouldHold_36 : decode cX6_wouldHold 36 = .ok (.iload_n 1, 1) := by decide +kernel
theorem dX6_wouldHold_37 : decode cX6_wouldHold 37 = .ok (.imul, 1) := by decide +kernel
theorem dX6_wouldHold_38 : decode cX6_wouldHold 38 = .ok (.iload_n 3, 1) := by decide +kernel
theorem dX6_wouldHold_39 : decode cX6_wouldHold 39 = .ok (.iadd, 1) := by decide +kernel
theorem dX6_wouldHold_40 : decode cX6_wouldHold 40 = .ok (.if_icmp .ge 59, 3) := by decide +kernel
theorem dX6_wouldHold_43 : decode cX6_wouldHold 43 = .ok (.aload_n 0, 1) := by decide +kernel
theorem dX6_wouldHold_44 : decode cX6_wouldHold 44 = .ok (.getfield 55, 3) := by decide +kernel
theorem dX6_wouldHold_47 : decode cX6_wouldHold 47 = .ok (.iload 6, 2) := by decide +kernel
theorem dX6_wouldHold_49 : decode cX6_wouldHold 49 = .ok (.iaload, 1) := by decide +kernel
theorem dX6_wouldHold_50 : decode cX6_wouldHold 50 = .ok (.iload_n 2, 1) := by decide +kernel
theorem dX6_wouldHold_51 : decode cX6_wouldHold 51 = .ok (.if_icmp .ne 13, 3) := by decide +kernel
theorem dX6_wouldHold_54 : decode cX6_wouldHold 54 = .ok (.aload_n 0, 1) := by decide +kernel
theorem dX6_wouldHold_55 : decode cX6_wouldHold 55 = .ok (.getfield 58, 3) := by decide +kernel
theorem dX6_wouldHold_58 : decode cX6_wouldHold 58 = .ok (.iload 6, 2) := by decide +kernel
theorem dX6_wouldHold_60 : decode cX6_wouldHold 60 = .ok (.iaload, 1) := by decide +kernel
theorem dX6_wouldHold_61 : decode cX6_wouldHold 61 = .ok (.goto 5, 3) := by decide +kernel
theorem dX6_wouldHold_64 : decode cX6_wouldHold 64 = .ok (.iload 4, 2) := by decide +kernel
theorem dX6_wouldHold_66 : decode cX6_wouldHold 66 = .ok (.istore 4, 2) := by decide +kernel
theorem dX6_wouldHold_68 : decode cX6_wouldHold 68 = .ok (.aload_n 0, 1) := by decide +kernel
theorem dX6_wouldHold_69 : decode cX6_wouldHold 69 = .ok (.getfield 55, 3) := by decide +kernel
theorem dX6_wouldHold_72 : decode cX6_wouldHold 72 = .ok (.iload 6, 2) := by decide +kernel
theorem dX6_wouldHold_74 : decode cX6_wouldHold 74 = .ok (.iaload, 1) := by decide +kernel
theorem dX6_wouldHold_75 : decode cX6_wouldHold 75 = .ok (.iload_n 2, 1) := by decide +kernel
theorem dX6_wouldHold_76 : decode cX6_wouldHold 76 = .ok (.if_icmp .ne 13, 3) := by decide +kernel
theorem dX6_wouldHold_79 : decode cX6_wouldHold 79 = .ok (.aload_n 0, 1) := by decide +kernel
theorem dX6_wouldHold_80 : decode cX6_wouldHold 80 = .ok (.getfield 61, 3) := by decide +kernel
theorem dX6_wouldHold_83 : decode cX6_wouldHold 83 = .ok (.iload 6, 2) := by decide +kernel
theorem dX6_wouldHold_85 : decode cX6_wouldHold 85 = .ok (.iaload, 1) := by decide +kernel
theorem dX6_wouldHold_86 : decode cX6_wouldHold 86 = .ok (.goto 5, 3) := by decide +kernel
theorem dX6_wouldHold_89 : decode cX6_wouldHold 89 = .ok (.iload 5, 2) := by decide +kernel
theorem dX6_wouldHold_91 : decode cX6_wouldHold 91 = .ok (.istore 5, 2) := by decide +kernel
theorem dX6_wouldHold_93 : decode cX6_wouldHold 93 = .ok (.iinc 6 1, 3) := by decide +kernel
theorem dX6_wouldHold_96 : decode cX6_wouldHold 96 = .ok (.goto (-65), 3) := by decide +kernel
theorem dX6_wouldHold_99 : decode cX6_wouldHold 99 = .ok (.aload_n 0, 1) := by decide +kernel
theorem dX6_wouldHold_100 : decode cX6_wouldHold 100 = .ok (.getfield 70, 3) := by decide +kernel
theorem dX6_wouldHold_103 : decode cX6_wouldHold 103 = .ok (.iload_n 2, 1) := by decide +kernel
theorem dX6_wouldHold_104 : decode cX6_wouldHold 104 = .ok (.iaload, 1) := by decide +kernel
theorem dX6_wouldHold_105 : decode cX6_wouldHold 105 = .ok (.ifCond .le 29, 3) := by decide +kernel
theorem dX6_wouldHold_108 : decode cX6_wouldHold 108 = .ok (.iload 5, 2) := by decide +kernel
theorem dX6_wouldHold_110 : decode cX6_wouldHold 110 = .ok (.aload_n 0, 1) := by decide +kernel
theorem dX6_wouldHold_111 : decode cX6_wouldHold 111 = .ok (.getfield 76, 3) := by decide +kernel
theorem dX6_wouldHold_114 : decode cX6_wouldHold 114 = .ok (.iload_n 2, 1) := by decide +kernel
theorem dX6_wouldHold_115 : decode cX6_wouldHold 115 = .ok (.iaload, 1) := by decide +kernel
theorem dX6_wouldHold_116 : decode cX6_wouldHold 116 = .ok (.if_icmp .ne 18, 3) := by decide +kernel
theorem dX6_wouldHold_119 : decode cX6_wouldHold 119 = .ok (.iload 4, 2) := by decide +kernel
theorem dX6_wouldHold_121 : decode cX6_wouldHold 121 = .ok (.aload_n 0, 1) := by decide +kernel
theorem dX6_wouldHold_122 : decode cX6_wouldHold 122 = .ok (.getfield 73, 3) := by decide +kernel
theorem dX6_wouldHold_125 : decode cX6_wouldHold 125 = .ok (.iload_n 2, 1) := by decide +kernel
theorem dX6_wouldHold_126 : decode cX6_wouldHold 126 = .ok (.iaload, 1) := by decide +kernel
theorem dX6_wouldHold_127 : decode cX6_wouldHold 127 = .ok (.if_icmp .lt 7, 3) := by decide +kernel
theorem dX6_wouldHold_130 : decode cX6_wouldHold 130 = .ok (.iconst 1, 1) := by decide +kernel
theorem dX6_wouldHold_131 : decode cX6_wouldHold 131 = .ok (.goto 4, 3) := by decide +kernel
theorem dX6_wouldHold_134 : decode cX6_wouldHold 134 = .ok (.iconst 0, 1) := by decide +kernel
theorem dX6_wouldHold_135 : decode cX6_wouldHold 135 = .ok (.ireturn, 1) := by decide +kernel
theorem dX6_holdersWith_0 : decode cX6_holdersWith 0 = .ok (.iload_n 3, 1) := by decide +kernel
theorem dX6_holdersWith_1 : decode cX6_holdersWith 1 = .ok (.aload_n 0, 1) := by decide +kernel
theorem dX6_holdersWith_2 : decode cX6_holdersWith 2 = .ok (.getfield 52, 3) := by decide +kernel
theorem dX6_holdersWith_5 : decode cX6_holdersWith 5 = .ok (.iload_n 1, 1) := by decide +kernel
theorem dX6_holdersWith_6 : decode cX6_holdersWith 6 = .ok (.iaload, 1) := by decide +kernel
theorem dX6_holdersWith_7 : decode cX6_holdersWith 7 = .ok (.if_icmp .ge 14, 3) := by decide +kernel
theorem dX6_holdersWith_10 : decode cX6_holdersWith 10 = .ok (.aload_n 0, 1) := by decide +kernel
theorem dX6_holdersWith_11 : decode cX6_holdersWith 11 = .ok (.getfield 52, 3) := by decide +kernel
theorem dX6_holdersWith_14 : decode cX6_holdersWith 14 = .ok (.iload_n 1, 1) := by decide +kernel
theorem dX6_holdersWith_15 : decode cX6_holdersWith 15 = .ok (.iaload, 1) := by decide +kernel
theorem dX6_holdersWith_16 : decode cX6_holdersWith 16 = .ok (.iload_n 3, 1) := by decide +kernel
theorem dX6_holdersWith_17 : decode cX6_holdersWith 17 = .ok (.isub, 1) := by decide +kernel
theorem dX6_holdersWith_18 : decode cX6_holdersWith 18 = .ok (.goto 4, 3) := by decide +kernel
theorem dX6_holdersWith_21 : decode cX6_holdersWith 21 = .ok (.iconst 0, 1) := by decide +kernel
theorem dX6_holdersWith_22 : decode cX6_holdersWith 22 = .ok (.istore 4, 2) := by decide +kernel
theorem dX6_holdersWith_24 : decode cX6_holdersWith 24 = .ok (.aload_n 0, 1) := by decide +kernel
theorem dX6_holdersWith_25 : decode cX6_holdersWith 25 = .ok (.iload_n 2, 1) := by decide +kernel
theorem dX6_holdersWith_26 : decode cX6_holdersWith 26 = .ok (.iconst 0, 1) := by decide +kernel
theorem dX6_holdersWith_27 : decode cX6_holdersWith 27 = .ok (.invokevirtual 252, 3) := by decide +kernel
theorem dX6_holdersWith_30 : decode cX6_holdersWith 30 = .ok (.aload_n 0, 1) := by decide +kernel
theorem dX6_holdersWith_31 : decode cX6_holdersWith 31 = .ok (.iload_n 1, 1) := by decide +kernel
theorem dX6_holdersWith_32 : decode cX6_holdersWith 32 = .ok (.iload_n 2, 1) := by decide +kernel
theorem dX6_holdersWith_33 : decode cX6_holdersWith 33 = .ok (.invokevirtual 249, 3) := by decide +kernel
theorem dX6_holdersWith_36 : decode cX6_holdersWith 36 = .ok (.ifCond .eq 7, 3) := by decide +kernel
theorem dX6_holdersWith_39 : decode cX6_holdersWith 39 = .ok (.iconst 1, 1) := by decide +kernel
theorem dX6_holdersWith_40 : decode cX6_holdersWith 40 = .ok (.goto 4, 3) := by decide +kernel
theorem dX6_holdersWith_43 : decode cX6_holdersWith 43 = .ok (.iconst 0, 1) := by decide +kernel
theorem dX6_holdersWith_44 : decode cX6_holdersWith 44 = .ok (.isub, 1) := by decide +kernel
theorem dX6_holdersWith_45 : decode cX6_holdersWith 45 = .ok (.aload_n 0, 1) := by decide +kernel
theorem dX6_holdersWith_46 : decode cX6_holdersWith 46 = .ok (.iload_n 1, 1) := by decide +kernel
theorem dX6_holdersWith_47 : decode cX6_holdersWith 47 = .ok (.iload_n 2, 1) := by decide +kernel
theorem dX6_holdersWith_48 : decode cX6_holdersWith 48 = .ok (.iload 4, 2) := by decide +kernel
theorem dX6_holdersWith_50 : decode cX6_holdersWith 50 = .ok (.invokevirtual 255, 3) := by decide +kernel
theorem dX6_holdersWith_53 : decode cX6_holdersWith 53 = .ok (.ifCond .eq 7, 3) := by decide +kernel
theorem dX6_holdersWith_56 : decode cX6_holdersWith 56 = .ok (.iconst 1, 1) := by decide +kernel
theorem dX6_holdersWith_57 : decode cX6_holdersWith 57 = .ok (.goto 4, 3) := by decide +kernel
theorem dX6_holdersWith_60 : decode cX6_holdersWith 60 = .ok (.iconst 0, 1) := by decide +kernel
theorem dX6_holdersWith_61 : decode cX6_holdersWith 61 = .ok (.iadd, 1) := by decide +kernel
theorem dX6_holdersWith_62 : decode cX6_holdersWith 62 = .ok (.ireturn, 1) := by decide +kernel
theorem dX6_counted_0 : decode cX6_counted 0 = .ok (.iconst 0, 1) := by decide +kernel
theorem dX6_counted_1 : decode cX6_counted 1 = .ok (.istore_n 2, 1) := by decide +kernel
theorem dX6_counted_2 : decode cX6_counted 2 = .ok (.iconst 0, 1) := by decide +kernel
theorem dX6_counted_3 : decode cX6_counted 3 = .ok (.istore_n 3, 1) := by decide +kernel
theorem dX6_counted_4 : decode cX6_counted 4 = .ok (.iconst 0, 1) := by decide +kernel
theorem dX6_counted_5 : decode cX6_counted 5 = .ok (.istore 4, 2) := by decide +kernel
theorem dX6_counted_7 : decode cX6_counted 7 = .ok (.iconst 0, 1) := by decide +kernel
theorem dX6_counted_8 : decode cX6_counted 8 = .ok (.istore 5, 2) := by decide +kernel
theorem dX6_counted_10 : decode cX6_counted 10 = .ok (.iconst 0, 1) := by decide +kernel
theorem dX6_counted_11 : decode cX6_counted 11 = .ok (.istore 6, 2) := by decide +kernel
theorem dX6_counted_13 : decode cX6_counted 13 = .ok (.iconst 0, 1) := by decide +kernel
theorem dX6_counted_14 : decode cX6_counted 14 = .ok (.istore 7, 2) := by decide +kernel
theorem dX6_counted_16 : decode cX6_counted 16 = .ok (.iload 7, 2) := by decide +kernel
theorem dX6_counted_18 : decode cX6_counted 18 = .ok (.aload_n 0, 1) := by decide +kernel
theorem dX6_counted_19 : decode cX6_counted 19 = .ok (.getfield 7, 3) := by decide +kernel
theorem dX6_counted_22 : decode cX6_counted 22 = .ok (.if_icmp .ge 57, 3) := by decide +kernel
theorem dX6_counted_25 : decode cX6_counted 25 = .ok (.iload_n 2, 1) := by decide +kernel
theorem dX6_counted_26 : decode cX6_counted 26 = .ok (.aload_n 0, 1) := by decide +kernel
theorem dX6_counted_27 : decode cX6_counted 27 = .ok (.getfield 20, 3) := by decide +kernel
theorem dX6_counted_30 : decode cX6_counted 30 = .ok (.iload 7, 2) := by decide +kernel
theorem dX6_counted_32 : decode cX6_counted 32 = .ok (.baload, 1) := by decide +kernel
theorem dX6_counted_33 : decode cX6_counted 33 = .ok (.ifCond .eq 7, 3) := by decide +kernel
theorem dX6_counted_36 : decode cX6_counted 36 = .ok (.iconst 1, 1) := by decide +kernel
theorem dX6_counted_37 : decode cX6_counted 37 = .ok (.goto 4, 3) := by decide +kernel
theorem dX6_counted_40 : decode cX6_counted 40 = .ok (.iconst 0, 1) := by decide +kernel
theorem dX6_counted_41 : decode cX6_counted 41 = .ok (.iadd, 1) := by decide +kernel
theorem dX6_counted_42 : decode cX6_counted 42 = .ok (.istore_n 2, 1) := by decide +kernel
theorem dX6_counted_43 : decode cX6_counted 43 = .ok (.iload_n 3, 1) := by decide +kernel
theorem dX6_counted_44 : decode cX6_counted 44 = .ok (.aload_n 0, 1) := by decide +kernel
theorem dX6_counted_45 : decode cX6_counted 45 = .ok (.getfield 24, 3) := by decide +kernel
theorem dX6_counted_48 : decode cX6_counted 48 = .ok (.iload 7, 2) := by decide +kernel
theorem dX6_counted_50 : decode cX6_counted 50 = .ok (.baload, 1) := by decide +kernel
theorem dX6_counted_51 : decode cX6_counted 51 = .ok (.ifCond .eq 7, 3) := by decide +kernel
theorem dX6_counted_54 : decode cX6_counted 54 = .ok (.iconst 1, 1) := by decide +kernel
theorem dX6_counted_55 : decode cX6_counted 55 = .ok (.goto 4, 3) := by decide +kernel
theorem dX6_counted_58 : decode cX6_counted 58 = .ok (.iconst 0, 1) := by decide +kernel
theorem dX6_counted_59 : decode cX6_counted 59 = .ok (.iadd, 1) := by decide +kernel
theorem dX6_counted_60 : decode cX6_counted 60 = .ok (.istore_n 3, 1) := by decide +kernel
theorem dX6_counted_61 : decode cX6_counted 61 = .ok (.iload 6, 2) := by decide +kernel
theorem dX6_counted_63 : decode cX6_counted 63 = .ok (.aload_n 0, 1) := by decide +kernel
theorem dX6_counted_64 : decode cX6_counted 64 = .ok (.getfield 52, 3) := by decide +kernel
theorem dX6_counted_67 : decode cX6_counted 67 = .ok (.iload 7, 2) := by decide +kernel
theorem dX6_counted_69 : decode cX6_counted 69 = .ok (.iaload, 1) := by decide +kernel
theorem dX6_counted_70 : decode cX6_counted 70 = .ok (.iadd, 1) := by decide +kernel
theorem dX6_counted_71 : decode cX6_counted 71 = .ok (.istore 6, 2) := by decide +kernel
theorem dX6_counted_73 : decode cX6_counted 73 = .ok (.iinc 7 1, 3) := by decide +kernel
theorem dX6_counted_76 : decode cX6_counted 76 = .ok (.goto (-60), 3) := by decide +kernel
theorem dX6_counted_79 : decode cX6_counted 79 = .ok (.iconst 0, 1) := by decide +kernel
theorem dX6_counted_80 : decode cX6_counted 80 = .ok (.istore 7, 2) := by decide +kernel
theorem dX6_counted_82 : decode cX6_counted 82 = .ok (.iload 7, 2) := by decide +kernel
theorem dX6_counted_84 : decode cX6_counted 84 = .ok (.aload_n 0, 1) := by decide +kernel
theorem dX6_counted_85 : decode cX6_counted 85 = .ok (.getfield 13, 3) := by decide +kernel
theorem dX6_counted_88 : decode cX6_counted 88 = .ok (.if_icmp .ge 49, 3) := by decide +kernel
theorem dX6_counted_91 : decode cX6_counted 91 = .ok (.iload 4, 2) := by decide +kernel
theorem dX6_counted_93 : decode cX6_counted 93 = .ok (.aload_n 0, 1) := by decide +kernel
theorem dX6_counted_94 : decode cX6_counted 94 = .ok (.getfield 70, 3) := by decide +kernel
theorem dX6_counted_97 : decode cX6_counted 97 = .ok (.iload 7, 2) := by decide +kernel
theorem dX6_counted_99 : decode cX6_counted 99 = .ok (.iaload, 1) := by decide +kernel
theorem dX6_counted_100 : decode cX6_counted 100 = .ok (.ifCond .le 7, 3) := by decide +kernel
theorem dX6_counted_103 : decode cX6_counted 103 = .ok (.iconst 1, 1) := by decide +kernel
theorem dX6_counted_104 : decode cX6_counted 104 = .ok (.goto 4, 3) := by decide +kernel
theorem dX6_counted_107 : decode cX6_counted 107 = .ok (.iconst 0, 1) := by decide +kernel
theorem dX6_counted_108 : decode cX6_counted 108 = .ok (.iadd, 1) := by decide +kernel
theorem dX6_counted_109 : decode cX6_counted 109 = .ok (.istore 4, 2) := by decide +kernel
theorem dX6_counted_111 : decode cX6_counted 111 = .ok (.iload 5, 2) := by decide +kernel
theorem dX6_counted_113 : decode cX6_counted 113 = .ok (.aload_n 0, 1) := by decide +kernel
theorem dX6_counted_114 : decode cX6_counted 114 = .ok (.getfield 79, 3) := by decide +kernel
theorem dX6_counted_117 : decode cX6_counted 117 = .ok (.iload 7, 2) := by decide +kernel
theorem dX6_counted_119 : decode cX6_counted 119 = .ok (.baload, 1) := by decide +kernel
theorem dX6_counted_120 : decode cX6_counted 120 = .ok (.ifCond .eq 7, 3) := by decide +kernel
theorem dX6_counted_123 : decode cX6_counted 123 = .ok (.iconst 1, 1) := by decide +kernel
theorem dX6_counted_124 : decode cX6_counted 124 = .ok (.goto 4, 3) := by decide +kernel
theorem dX6_counted_127 : decode cX6_counted 127 = .ok (.iconst 0, 1) := by decide +kernel
theorem dX6_counted_128 : decode cX6_counted 128 = .ok (.iadd, 1) := by decide +kernel
theorem dX6_counted_129 : decode cX6_counted 129 = .ok (.istore 5, 2) := by decide +kernel
theorem dX6_counted_131 : decode cX6_counted 131 = .ok (.iinc 7 1, 3) := by decide +kernel
theorem dX6_counted_134 : decode cX6_counted 134 = .ok (.goto (-52), 3) := by decide +kernel
theorem dX6_counted_137 : decode cX6_counted 137 = .ok (.iload_n 1, 1) := by decide +kernel
theorem dX6_counted_138 : decode cX6_counted 138 = .ok (.tableswitch 109 0 10 #[58, 63, 68, 73, 86, 88, 90, 93, 96, 101, 106], 58) := by decide +kernel
theorem dX6_counted_196 : decode cX6_counted 196 = .ok (.aload_n 0, 1) := by decide +kernel
theorem dX6_counted_197 : decode cX6_counted 197 = .ok (.getfield 7, 3) := by decide +kernel
theorem dX6_counted_200 : decode cX6_counted 200 = .ok (.ireturn, 1) := by decide +kernel
theorem dX6_counted_201 : decode cX6_counted 201 = .ok (.aload_n 0, 1) := by decide +kernel
theorem dX6_counted_202 : decode cX6_counted 202 = .ok (.getfield 13, 3) := by decide +kernel
theorem dX6_counted_205 : decode cX6_counted 205 = .ok (.ireturn, 1) := by decide +kernel
theorem dX6_counted_206 : decode cX6_counted 206 = .ok (.aload_n 0, 1) := by decide +kernel
theorem dX6_counted_207 : decode cX6_counted 207 = .ok (.invokevirtual 143, 3) := by decide +kernel
theorem dX6_counted_210 : decode cX6_counted 210 = .ok (.ireturn, 1) := by decide +kernel
theorem dX6_counted_211 : decode cX6_counted 211 = .ok (.aload_n 0, 1) := by decide +kernel
theorem dX6_counted_212 : decode cX6_counted 212 = .ok (.getfield 16, 3) := by decide +kernel
theorem dX6_counted_215 : decode cX6_counted 215 = .ok (.ifCond .eq 7, 3) := by decide +kernel
theorem dX6_counted_218 : decode cX6_counted 218 = .ok (.iconst 1, 1) := by decide +kernel
theorem dX6_counted_219 : decode cX6_counted 219 = .ok (.goto 4, 3) := by decide +kernel
theorem dX6_counted_222 : decode cX6_counted 222 = .ok (.iconst 0, 1) := by decide +kernel
theorem dX6_counted_223 : decode cX6_counted 223 = .ok (.ireturn, 1) := by decide +kernel
theorem dX6_counted_224 : decode cX6_counted 224 = .ok (.iload_n 2, 1) := by decide +kernel
theorem dX6_counted_225 : decode cX6_counted 225 = .ok (.ireturn, 1) := by decide +kernel
theorem dX6_counted_226 : decode cX6_counted 226 = .ok (.iload_n 3, 1) := by decide +kernel
theorem dX6_counted_227 : decode cX6_counted 227 = .ok (.ireturn, 1) := by decide +kernel
theorem dX6_counted_228 : decode cX6_counted 228 = .ok (.iload 4, 2) := by decide +kernel
theorem dX6_counted_230 : decode cX6_counted 230 = .ok (.ireturn, 1) := by decide +kernel
theorem dX6_counted_231 : decode cX6_counted 231 = .ok (.iload 5, 2) := by decide +kernel
theorem dX6_counted_233 : decode cX6_counted 233 = .ok (.ireturn, 1) := by decide +kernel
theorem dX6_counted_234 : decode cX6_counted 234 = .ok (.aload_n 0, 1) := by decide +kernel
theorem dX6_counted_235 : decode cX6_counted 235 = .ok (.getfield 113, 3) := by decide +kernel
theorem dX6_counted_238 : decode cX6_counted 238 = .ok (.ireturn, 1) := by decide +kernel
theorem dX6_counted_239 : decode cX6_counted 239 = .ok (.aload_n 0, 1) := by decide +kernel
theorem dX6_counted_240 : decode cX6_counted 240 = .ok (.getfield 116, 3) := by decide +kernel
theorem dX6_counted_243 : decode cX6_counted 243 = .ok (.ireturn, 1) := by decide +kernel
theorem dX6_counted_244 : decode cX6_counted 244 = .ok (.iload 6, 2) := by decide +kernel
theorem dX6_counted_246 : decode cX6_counted 246 = .ok (.ireturn, 1) := by decide +kernel
theorem dX6_counted_247 : decode cX6_counted 247 = .ok (.aload_n 0, 1) := by decide +kernel
theorem dX6_counted_248 : decode cX6_counted 248 = .ok (.getfield 119, 3) := by decide +kernel
theorem dX6_counted_251 : decode cX6_counted 251 = .ok (.ireturn, 1) := by decide +kernel
theorem dX6_count_0 : decode cX6_count 0 = .ok (.aload_n 0, 1) := by decide +kernel
theorem dX6_count_1 : decode cX6_count 1 = .ok (.iload_n 1, 1) := by decide +kernel
theorem dX6_count_2 : decode cX6_count 2 = .ok (.iconst 0, 1) := by decide +kernel
theorem dX6_count_3 : decode cX6_count 3 = .ok (.bipush 11, 2) := by decide +kernel
theorem dX6_count_5 : decode cX6_count 5 = .ok (.invokestatic 98, 3) := by decide +kernel
theorem dX6_count_8 : decode cX6_count 8 = .ok (.ifCond .eq 7, 3) := by decide +kernel
theorem dX6_count_11 : decode cX6_count 11 = .ok (.iconst 0, 1) := by decide +kernel
theorem dX6_count_12 : decode cX6_count 12 = .ok (.goto 4, 3) := by decide +kernel
theorem dX6_count_15 : decode cX6_count 15 = .ok (.iconst 1, 1) := by decide +kernel
theorem dX6_count_16 : decode cX6_count 16 = .ok (.putfield 95, 3) := by decide +kernel
theorem dX6_count_19 : decode cX6_count 19 = .ok (.aload_n 0, 1) := by decide +kernel
theorem dX6_count_20 : decode cX6_count 20 = .ok (.getfield 95, 3) := by decide +kernel
theorem dX6_count_23 : decode cX6_count 23 = .ok (.ifCond .le 7, 3) := by decide +kernel
theorem dX6_count_26 : decode cX6_count 26 = .ok (.iconst 0, 1) := by decide +kernel
theorem dX6_count_27 : decode cX6_count 27 = .ok (.goto 8, 3) := by decide +kernel
theorem dX6_count_30 : decode cX6_count 30 = .ok (.aload_n 0, 1) := by decide +kernel
theorem dX6_count_31 : decode cX6_count 31 = .ok (.iload_n 1, 1) := by decide +kernel
theorem dX6_count_32 : decode cX6_count 32 = .ok (.invokevirtual 258, 3) := by decide +kernel
theorem dX6_count_35 : decode cX6_count 35 = .ok (.ireturn, 1) := by decide +kernel
theorem dX6_nodeNow_0 : decode cX6_nodeNow 0 = .ok (.iload_n 2, 1) := by decide +kernel
theorem dX6_nodeNow_1 : decode cX6_nodeNow 1 = .ok (.tableswitch 119 0 7 #[47, 62, 77, 84, 91, 98, 105, 112], 47) := by decide +kernel
theorem dX6_nodeNow_48 : decode cX6_nodeNow 48 = .ok (.aload_n 0, 1) := by decide +kernel
theorem dX6_nodeNow_49 : decode cX6_nodeNow 49 = .ok (.getfield 20, 3) := by decide +kernel
theorem dX6_nodeNow_52 : decode cX6_nodeNow 52 = .ok (.iload_n 1, 1) := by decide +kernel
theorem dX6_nodeNow_53 : decode cX6_nodeNow 53 = .ok (.baload, 1) := by decide +kernel
theorem dX6_nodeNow_54 : decode cX6_nodeNow 54 = .ok (.ifCond .eq 7, 3) := by decide +kernel
theorem dX6_nodeNow_57 : decode cX6_nodeNow 57 = .ok (.iconst 1, 1) := by decide +kernel
theorem dX6_nodeNow_58 : decode cX6_nodeNow 58 = .ok (.goto 4, 3) := by decide +kernel
theorem dX6_nodeNow_61 : decode cX6_nodeNow 61 = .ok (.iconst 0, 1) := by decide +kernel
theorem dX6_nodeNow_62 : decode cX6_nodeNow 62 = .ok (.ireturn, 1) := by decide +kernel
theorem dX6_nodeNow_63 : decode cX6_nodeNow 63 = .ok (.aload_n 0, 1) := by decide +kernel
theorem dX6_nodeNow_64 : decode cX6_nodeNow 64 = .ok (.getfield 24, 3) := by decide +kernel
theorem dX6_nodeNow_67 : decode cX6_nodeNow 67 = .ok (.iload_n 1, 1) := by decide +kernel
theorem dX6_nodeNow_68 : decode cX6_nodeNow 68 = .ok (.baload, 1) := by decide +kernel
theorem dX6_nodeNow_69 : decode cX6_nodeNow 69 = .ok (.ifCond .eq 7, 3) := by decide +kernel
theorem dX6_nodeNow_72 : decode cX6_nodeNow 72 = .ok (.iconst 1, 1) := by decide +kernel
theorem dX6_nodeNow_73 : decode cX6_nodeNow 73 = .ok (.goto 4, 3) := by decide +kernel
theorem dX6_nodeNow_76 : decode cX6_nodeNow 76 = .ok (.iconst 0, 1) := by decide +kernel
theorem dX6_nodeNow_77 : decode cX6_nodeNow 77 = .ok (.ireturn, 1) := by decide +kernel
theorem dX6_nodeNow_78 : decode cX6_nodeNow 78 = .ok (.aload_n 0, 1) := by decide +kernel
theorem dX6_nodeNow_79 : decode cX6_nodeNow 79 = .ok (.getfield 27, 3) := by decide +kernel
theorem dX6_nodeNow_82 : decode cX6_nodeNow 82 = .ok (.iload_n 1, 1) := by decide +kernel
theorem dX6_nodeNow_83 : decode cX6_nodeNow 83 = .ok (.iaload, 1) := by decide +kernel
theorem dX6_nodeNow_84 : decode cX6_nodeNow 84 = .ok (.ireturn, 1) := by decide +kernel
theorem dX6_nodeNow_85 : decode cX6_nodeNow 85 = .ok (.aload_n 0, 1) := by decide +kernel
theorem dX6_nodeNow_86 : decode cX6_nodeNow 86 = .ok (.getfield 43, 3) := by decide +kernel
theorem dX6_nodeNow_89 : decode cX6_nodeNow 89 = .ok (.iload_n 1, 1) := by decide +kernel
theorem dX6_nodeNow_90 : decode cX6_nodeNow 90 = .ok (.iaload, 1) := by decide +kernel
theorem dX6_nodeNow_91 : decode cX6_nodeNow 91 = .ok (.ireturn, 1) := by decide +kernel
theorem dX6_nodeNow_92 : decode cX6_nodeNow 92 = .ok (.aload_n 0, 1) := by decide +kernel
theorem dX6_nodeNow_93 : decode cX6_nodeNow 93 = .ok (.getfield 34, 3) := by decide +kernel
theorem dX6_nodeNow_96 : decode cX6_nodeNow 96 = .ok (.iload_n 1, 1) := by decide +kernel
theorem dX6_nodeNow_97 : decode cX6_nodeNow 97 = .ok (.iaload, 1) := by decide +kernel
theorem dX6_nodeNow_98 : decode cX6_nodeNow 98 = .ok (.ireturn, 1) := by decide +kernel
theorem dX6_nodeNow_99 : decode cX6_nodeNow 99 = .ok (.aload_n 0, 1) := by decide +kernel
theorem dX6_nodeNow_100 : decode cX6_nodeNow 100 = .ok (.getfield 52, 3) := by decide +kernel
theorem dX6_nodeNow_103 : decode cX6_nodeNow 103 = .ok (.iload_n 1, 1) := by decide +kernel
theorem dX6_nodeNow_104 : decode cX6_nodeNow 104 = .ok (.iaload, 1) := by decide +kernel
theorem dX6_nodeNow_105 : decode cX6_nodeNow 105 = .ok (.ireturn, 1) := by decide +kernel
theorem dX6_nodeNow_106 : decode cX6_nodeNow 106 = .ok (.aload_n 0, 1) := by decide +kernel
theorem dX6_nodeNow_107 : decode cX6_nodeNow 107 = .ok (.getfield 31, 3) := by decide +kernel
theorem dX6_nodeNow_110 : decode cX6_nodeNow 110 = .ok (.iload_n 1, 1) := by decide +kernel
theorem dX6_nodeNow_111 : decode cX6_nodeNow 111 = .ok (.iaload, 1) := by decide +kernel
theorem dX6_nodeNow_112 : decode cX6_nodeNow 112 = .ok (.ireturn, 1) := by decide +kernel
theorem dX6_nodeNow_113 : decode cX6_nodeNow 113 = .ok (.aload_n 0, 1) := by decide +kernel
theorem dX6_nodeNow_114 : decode cX6_nodeNow 114 = .ok (.getfield 64, 3) := by decide +kernel
theorem dX6_nodeNow_117 : decode cX6_nodeNow 117 = .ok (.iload_n 1, 1) := by decide +kernel
theorem dX6_nodeNow_118 : decode cX6_nodeNow 118 = .ok (.iaload, 1) := by decide +kernel
theorem dX6_nodeNow_119 : decode cX6_nodeNow 119 = .ok (.ireturn, 1) := by decide +kernel
theorem dX6_nodeNow_120 : decode cX6_nodeNow 120 = .ok (.aload_n 0, 1) := by decide +kernel
theorem dX6_nodeNow_121 : decode cX6_nodeNow 121 = .ok (.iload_n 1, 1) := by decide +kernel
theorem dX6_nodeNow_122 : decode cX6_nodeNow 122 = .ok (.invokevirtual 122, 3) := by decide +kernel
theorem dX6_nodeNow_125 : decode cX6_nodeNow 125 = .ok (.ireturn, 1) := by decide +kernel
theorem dX6_node_0 : decode cX6_node 0 = .ok (.aload_n 0, 1) := by decide +kernel
theorem dX6_node_1 : decode cX6_node 1 = .ok (.aload_n 0, 1) := by decide +kernel
theorem dX6_node_2 : decode cX6_node 2 = .ok (.iload_n 1, 1) := by decide +kernel
theorem dX6_node_3 : decode cX6_node 3 = .ok (.invokevirtual 147, 3) := by decide +kernel
theorem dX6_node_6 : decode cX6_node 6 = .ok (.ifCond .ne 7, 3) := by decide +kernel
theorem dX6_node_9 : decode cX6_node 9 = .ok (.iconst 1, 1) := by decide +kernel
theorem dX6_node_10 : decode cX6_node 10 = .ok (.goto 18, 3) := by decide +kernel
theorem dX6_node_13 : decode cX6_node 13 = .ok (.iload_n 2, 1) := by decide +kernel
theorem dX6_node_14 : decode cX6_node 14 = .ok (.iconst 0, 1) := by decide +kernel
theorem dX6_node_15 : decode cX6_node 15 = .ok (.bipush 8, 2) := by decide +kernel
theorem dX6_node_17 : decode cX6_node 17 = .ok (.invokestatic 98, 3) := by decide +kernel
theorem dX6_node_20 : decode cX6_node 20 = .ok (.ifCond .eq 7, 3) := by decide +kernel
theorem dX6_node_23 : decode cX6_node 23 = .ok (.iconst 0, 1) := by decide +kernel
theorem dX6_node_24 : decode cX6_node 24 = .ok (.goto 4, 3) := by decide +kernel
theorem dX6_node_27 : decode cX6_node 27 = .ok (.iconst 2, 1) := by decide +kernel
theorem dX6_node_28 : decode cX6_node 28 = .ok (.putfield 95, 3) := by decide +kernel
theorem dX6_node_31 : decode cX6_node 31 = .ok (.aload_n 0, 1) := by decide +kernel
theorem dX6_node_32 : decode cX6_node 32 = .ok (.getfield 95, 3) := by decide +kernel
theorem dX6_node_35 : decode cX6_node 35 = .ok (.ifCond .le 7, 3) := by decide +kernel
theorem dX6_node_38 : decode cX6_node 38 = .ok (.iconst 0, 1) := by decide +kernel
theorem dX6_node_39 : decode cX6_node 39 = .ok (.goto 9, 3) := by decide +kernel
theorem dX6_node_42 : decode cX6_node 42 = .ok (.aload_n 0, 1) := by decide +kernel
theorem dX6_node_43 : decode cX6_node 43 = .ok (.iload_n 1, 1) := by decide +kernel
theorem dX6_node_44 : decode cX6_node 44 = .ok (.iload_n 2, 1) := by decide +kernel
theorem dX6_node_45 : decode cX6_node 45 = .ok (.invokevirtual 261, 3) := by decide +kernel
theorem dX6_node_48 : decode cX6_node 48 = .ok (.ireturn, 1) := by decide +kernel
theorem dX6_acceptedNow_0 : decode cX6_acceptedNow 0 = .ok (.iload_n 1, 1) := by decide +kernel
theorem dX6_acceptedNow_1 : decode cX6_acceptedNow 1 = .ok (.iload_n 2, 1) := by decide +kernel
theorem dX6_acceptedNow_2 : decode cX6_acceptedNow 2 = .ok (.invokestatic 102, 3) := by decide +kernel
theorem dX6_acceptedNow_5 : decode cX6_acceptedNow 5 = .ok (.istore 4, 2) := by decide +kernel
theorem dX6_acceptedNow_7 : decode cX6_acceptedNow 7 = .ok (.iload_n 3, 1) := by decide +kernel
theorem dX6_acceptedNow_8 : decode cX6_acceptedNow 8 = .ok (.ifCond .ne 13, 3) := by decide +kernel
theorem dX6_acceptedNow_11 : decode cX6_acceptedNow 11 = .ok (.aload_n 0, 1) := by decide +kernel
theorem dX6_acceptedNow_12 : decode cX6_acceptedNow 12 = .ok (.getfield 46, 3) := by decide +kernel
theorem dX6_acceptedNow_15 : decode cX6_acceptedNow 15 = .ok (.iload 4, 2) := by decide +kernel
theorem dX6_acceptedNow_17 : decode cX6_acceptedNow 17 = .ok (.iaload, 1) := by decide +kernel
theorem dX6_acceptedNow_18 : decode cX6_acceptedNow 18 = .ok (.goto 40, 3) := by decide +kernel
theorem dX6_acceptedNow_21 : decode cX6_acceptedNow 21 = .ok (.iload_n 3, 1) := by decide +kernel
theorem dX6_acceptedNow_22 : decode cX6_acceptedNow 22 = .ok (.iconst 1, 1) := by decide +kernel
theorem dX6_acceptedNow_23 : decode cX6_acceptedNow 23 = .ok (.if_icmp .ne 13, 3) := by decide +kernel
theorem dX6_acceptedNow_26 : decode cX6_acceptedNow 26 = .ok (.aload_n 0, 1) := by decide +kernel
theorem dX6_acceptedNow_27 : decode cX6_acceptedNow 27 = .ok (.getfield 49, 3) := by decide +kernel
theorem dX6_acceptedNow_30 : decode cX6_acceptedNow 30 = .ok (.iload 4, 2) := by decide +kernel
theorem dX6_acceptedNow_32 : decode cX6_acceptedNow 32 = .ok (.iaload, 1) := by decide +kernel
theorem dX6_acceptedNow_33 : decode cX6_acceptedNow 33 = .ok (.goto 25, 3) := by decide +kernel
theorem dX6_acceptedNow_36 : decode cX6_acceptedNow 36 = .ok (.iload_n 3, 1) := by decide +kernel
theorem dX6_acceptedNow_37 : decode cX6_acceptedNow 37 = .ok (.iconst 2, 1) := by decide +kernel
theorem dX6_acceptedNow_38 : decode cX6_acceptedNow 38 = .ok (.if_icmp .ne 13, 3) := by decide +kernel
theorem dX6_acceptedNow_41 : decode cX6_acceptedNow 41 = .ok (.aload_n 0, 1) := by decide +kernel
theorem dX6_acceptedNow_42 : decode cX6_acceptedNow 42 = .ok (.getfield 37, 3) := by decide +kernel
theorem dX6_acceptedNow_45 : decode cX6_acceptedNow 45 = .ok (.iload 4, 2) := by decide +kernel
theorem dX6_acceptedNow_47 : decode cX6_acceptedNow 47 = .ok (.iaload, 1) := by decide +kernel
theorem dX6_acceptedNow_48 : decode cX6_acceptedNow 48 = .ok (.goto 10, 3) := by decide +kernel
theorem dX6_acceptedNow_51 : decode cX6_acceptedNow 51 = .ok (.aload_n 0, 1) := by decide +kernel
theorem dX6_acceptedNow_52 : decode cX6_acceptedNow 52 = .ok (.getfield 40, 3) := by decide +kernel
theorem dX6_acceptedNow_55 : decode cX6_acceptedNow 55 = .ok (.iload 4, 2) := by decide +kernel
theorem dX6_acceptedNow_57 : decode cX6_acceptedNow 57 = .ok (.iaload, 1) := by decide +kernel
theorem dX6_acceptedNow_58 : decode cX6_acceptedNow 58 = .ok (.ireturn, 1) := by decide +kernel
theorem dX6_accepted_0 : decode cX6_accepted 0 = .ok (.aload_n 0, 1) := by decide +kernel
theorem dX6_accepted_1 : decode cX6_accepted 1 = .ok (.aload_n 0, 1) := by decide +kernel
theorem dX6_accepted_2 : decode cX6_accepted 2 = .ok (.iload_n 1, 1) := by decide +kernel
theorem dX6_accepted_3 : decode cX6_accepted 3 = .ok (.invokevirtual 147, 3) := by decide +kernel
theorem dX6_accepted_6 : decode cX6_accepted 6 = .ok (.ifCond .eq 11, 3) := by decide +kernel
theorem dX6_accepted_9 : decode cX6_accepted 9 = .ok (.aload_n 0, 1) := by decide +kernel
theorem dX6_accepted_10 : decode cX6_accepted 10 = .ok (.iload_n 2, 1) := by decide +kernel
theorem dX6_accepted_11 : decode cX6_accepted 11 = .ok (.invokevirtual 164, 3) := by decide +kernel
theorem dX6_accepted_14 : decode cX6_accepted 14 = .ok (.ifCond .ne 7, 3) := by decide +kernel
theorem dX6_accepted_17 : decode cX6_accepted 17 = .ok (.iconst 1, 1) := by decide +kernel
theorem dX6_accepted_18 : decode cX6_accepted 18 = .ok (.goto 17, 3) := by decide +kernel
theorem dX6_accepted_21 : decode cX6_accepted 21 = .ok (.iload_n 3, 1) := by decide +kernel
theorem dX6_accepted_22 : decode cX6_accepted 22 = .ok (.iconst 0, 1) := by decide +kernel
theorem dX6_accepted_23 : decode cX6_accepted 23 = .ok (.iconst 3, 1) := by decide +kernel
theorem dX6_accepted_24 : decode cX6_accepted 24 = .ok (.invokestatic 98, 3) := by decide +kernel
theorem dX6_accepted_27 : decode cX6_accepted 27 = .ok (.ifCond .eq 7, 3) := by decide +kernel
theorem dX6_accepted_30 : decode cX6_accepted 30 = .ok (.iconst 0, 1) := by decide +kernel
theorem dX6_accepted_31 : decode cX6_accepted 31 = .ok (.goto 4, 3) := by decide +kernel
theorem dX6_accepted_34 : decode cX6_accepted 34 = .ok (.iconst 2, 1) := by decide +kernel
theorem dX6_accepted_35 : decode cX6_accepted 35 = .ok (.putfield 95, 3) := by decide +kernel
theorem dX6_accepted_38 : decode cX6_accepted 38 = .ok (.aload_n 0, 1) := by decide +kernel
theorem dX6_accepted_39 : decode cX6_accepted 39 = .ok (.getfield 95, 3) := by decide +kernel
theorem dX6_accepted_42 : decode cX6_accepted 42 = .ok (.ifCond .le 7, 3) := by decide +kernel
theorem dX6_accepted_45 : decode cX6_accepted 45 = .ok (.iconst 0, 1) := by decide +kernel
theorem dX6_accepted_46 : decode cX6_accepted 46 = .ok (.goto 10, 3) := by decide +kernel
theorem dX6_accepted_49 : decode cX6_accepted 49 = .ok (.aload_n 0, 1) := by decide +kernel
theorem dX6_accepted_50 : decode cX6_accepted 50 = .ok (.iload_n 1, 1) := by decide +kernel
theorem dX6_accepted_51 : decode cX6_accepted 51 = .ok (.iload_n 2, 1) := by decide +kernel
theorem dX6_accepted_52 : decode cX6_accepted 52 = .ok (.iload_n 3, 1) := by decide +kernel
theorem dX6_accepted_53 : decode cX6_accepted 53 = .ok (.invokevirtual 264, 3) := by decide +kernel
theorem dX6_accepted_56 : decode cX6_accepted 56 = .ok (.ireturn, 1) := by decide +kernel
theorem dX6_waitingNow_0 : decode cX6_waitingNow 0 = .ok (.sipush 2048, 3) := by decide +kernel
theorem dX6_waitingNow_3 : decode cX6_waitingNow 3 = .ok (.iload_n 1, 1) := by decide +kernel
theorem dX6_waitingNow_4 : decode cX6_waitingNow 4 = .ok (.imul, 1) := by decide +kernel
theorem dX6_waitingNow_5 : decode cX6_waitingNow 5 = .ok (.iload_n 2, 1) := by decide +kernel
theorem dX6_waitingNow_6 : decode cX6_waitingNow 6 = .ok (.iadd, 1) := by decide +kernel
theorem dX6_waitingNow_7 : decode cX6_waitingNow 7 = .ok (.istore 4, 2) := by decide +kernel
theorem dX6_waitingNow_9 : decode cX6_waitingNow 9 = .ok (.iload_n 3, 1) := by decide +kernel
theorem dX6_waitingNow_10 : decode cX6_waitingNow 10 = .ok (.ifCond .ne 13, 3) := by decide +kernel
theorem dX6_waitingNow_13 : decode cX6_waitingNow 13 = .ok (.aload_n 0, 1) := by decide +kernel
theorem dX6_waitingNow_14 : decode cX6_waitingNow 14 = .ok (.getfield 55, 3) := by decide +kernel
theorem dX6_waitingNow_17 : decode cX6_waitingNow 17 = .ok (.iload 4, 2) := by decide +kernel
theorem dX6_waitingNow_19 : decode cX6_waitingNow 19 = .ok (.iaload, 1) := by decide +kernel
theorem dX6_waitingNow_20 : decode cX6_waitingNow 20 = .ok (.goto 25, 3) := by decide +kernel
theorem dX6_waitingNow_23 : decode cX6_waitingNow 23 = .ok (.iload_n 3, 1) := by decide +kernel
theorem dX6_waitingNow_24 : decode cX6_waitingNow 24 = .ok (.iconst 1, 1) := by decide +kernel
theorem dX6_waitingNow_25 : decode cX6_waitingNow 25 = .ok (.if_icmp .ne 13, 3) := by decide +kernel
theorem dX6_waitingNow_28 : decode cX6_waitingNow 28 = .ok (.aload_n 0, 1) := by decide +kernel
theorem dX6_waitingNow_29 : decode cX6_waitingNow 29 = .ok (.getfield 58, 3) := by decide +kernel
theorem dX6_waitingNow_32 : decode cX6_waitingNow 32 = .ok (.iload 4, 2) := by decide +kernel
theorem dX6_waitingNow_34 : decode cX6_waitingNow 34 = .ok (.iaload, 1) := by decide +kernel
theorem dX6_waitingNow_35 : decode cX6_waitingNow 35 = .ok (.goto 10, 3) := by decide +kernel
theorem dX6_waitingNow_38 : decode cX6_waitingNow 38 = .ok (.aload_n 0, 1) := by decide +kernel
theorem dX6_waitingNow_39 : decode cX6_waitingNow 39 = .ok (.getfield 61, 3) := by decide +kernel
theorem dX6_waitingNow_42 : decode cX6_waitingNow 42 = .ok (.iload 4, 2) := by decide +kernel
theorem dX6_waitingNow_44 : decode cX6_waitingNow 44 = .ok (.iaload, 1) := by decide +kernel
theorem dX6_waitingNow_45 : decode cX6_waitingNow 45 = .ok (.ireturn, 1) := by decide +kernel
theorem dX6_waiting_0 : decode cX6_waiting 0 = .ok (.aload_n 0, 1) := by decide +kernel
theorem dX6_waiting_1 : decode cX6_waiting 1 = .ok (.iload_n 1, 1) := by decide +kernel
theorem dX6_waiting_2 : decode cX6_waiting 2 = .ok (.invokevirtual 147, 3) := by decide +kernel
theorem dX6_waiting_5 : decode cX6_waiting 5 = .ok (.ifCond .eq 23, 3) := by decide +kernel
theorem dX6_waiting_8 : decode cX6_waiting 8 = .ok (.iload_n 2, 1) := by decide +kernel
theorem dX6_waiting_9 : decode cX6_waiting 9 = .ok (.iconst 0, 1) := by decide +kernel
theorem dX6_waiting_10 : decode cX6_waiting 10 = .ok (.aload_n 0, 1) := by decide +kernel
theorem dX6_waiting_11 : decode cX6_waiting 11 = .ok (.getfield 52, 3) := by decide +kernel
theorem dX6_waiting_14 : decode cX6_waiting 14 = .ok (.iload_n 1, 1) := by decide +kernel
theorem dX6_waiting_15 : decode cX6_waiting 15 = .ok (.iaload, 1) := by decide +kernel
theorem dX6_waiting_16 : decode cX6_waiting 16 = .ok (.iconst 1, 1) := by decide +kernel
theorem dX6_waiting_17 : decode cX6_waiting 17 = .ok (.isub, 1) := by decide +kernel
theorem dX6_waiting_18 : decode cX6_waiting 18 = .ok (.invokestatic 98, 3) := by decide +kernel
theorem dX6_waiting_21 : decode cX6_waiting 21 = .ok (.ifCond .eq 7, 3) := by decide +kernel
theorem dX6_waiting_24 : decode cX6_waiting 24 = .ok (.iconst 1, 1) := by decide +kernel
theorem dX6_waiting_25 : decode cX6_waiting 25 = .ok (.goto 4, 3) := by decide +kernel
theorem dX6_waiting_28 : decode cX6_waiting 28 = .ok (.iconst 0, 1) := by decide +kernel
theorem dX6_waiting_29 : decode cX6_waiting 29 = .ok (.istore 4, 2) := by decide +kernel
theorem dX6_waiting_31 : decode cX6_waiting 31 = .ok (.aload_n 0, 1) := by decide +kernel
theorem dX6_waiting_32 : decode cX6_waiting 32 = .ok (.iload 4, 2) := by decide +kernel
theorem dX6_waiting_34 : decode cX6_waiting 34 = .ok (.ifCond .ne 7, 3) := by decide +kernel
theorem dX6_waiting_37 : decode cX6_waiting 37 = .ok (.iconst 1, 1) := by decide +kernel
theorem dX6_waiting_38 : decode cX6_waiting 38 = .ok (.goto 17, 3) := by decide +kernel
theorem dX6_waiting_41 : decode cX6_waiting 41 = .ok (.iload_n 3, 1) := by decide +kernel
theorem dX6_waiting_42 : decode cX6_waiting 42 = .ok (.iconst 0, 1) := by decide +kernel
theorem dX6_waiting_43 : decode cX6_waiting 43 = .ok (.iconst 2, 1) := by decide +kernel
theorem dX6_waiting_44 : decode cX6_waiting 44 = .ok (.invokestatic 98, 3) := by decide +kernel
theorem dX6_waiting_47 : decode cX6_waiting 47 = .ok (.ifCond .eq 7, 3) := by decide +kernel
theorem dX6_waiting_50 : decode cX6_waiting 50 = .ok (.iconst 0, 1) := by decide +kernel
theorem dX6_waiting_51 : decode cX6_waiting 51 = .ok (.goto 4, 3) := by decide +kernel
theorem dX6_waiting_54 : decode cX6_waiting 54 = .ok (.iconst 2, 1) := by decide +kernel
theorem dX6_waiting_55 : decode cX6_waiting 55 = .ok (.putfield 95, 3) := by decide +kernel
theorem dX6_waiting_58 : decode cX6_waiting 58 = .ok (.aload_n 0, 1) := by decide +kernel
theorem dX6_waiting_59 : decode cX6_waiting 59 = .ok (.getfield 95, 3) := by decide +kernel
theorem dX6_waiting_62 : decode cX6_waiting 62 = .ok (.ifCond .le 7, 3) := by decide +kernel
theorem dX6_waiting_65 : decode cX6_waiting 65 = .ok (.iconst 0, 1) := by decide +kernel
theorem dX6_waiting_66 : decode cX6_waiting 66 = .ok (.goto 10, 3) := by decide +kernel
theorem dX6_waiting_69 : decode cX6_waiting 69 = .ok (.aload_n 0, 1) := by decide +kernel
theorem dX6_waiting_70 : decode cX6_waiting 70 = .ok (.iload_n 1, 1) := by decide +kernel
theorem dX6_waiting_71 : decode cX6_waiting 71 = .ok (.iload_n 2, 1) := by decide +kernel
theorem dX6_waiting_72 : decode cX6_waiting 72 = .ok (.iload_n 3, 1) := by decide +kernel
theorem dX6_waiting_73 : decode cX6_waiting 73 = .ok (.invokevirtual 268, 3) := by decide +kernel
theorem dX6_waiting_76 : decode cX6_waiting 76 = .ok (.ireturn, 1) := by decide +kernel
theorem dX6_slotNow_0 : decode cX6_slotNow 0 = .ok (.iload_n 2, 1) := by decide +kernel
theorem dX6_slotNow_1 : decode cX6_slotNow 1 = .ok (.tableswitch 102 0 5 #[39, 46, 53, 60, 67, 74], 39) := by decide +kernel
theorem dX6_slotNow_40 : decode cX6_slotNow 40 = .ok (.aload_n 0, 1) := by decide +kernel
theorem dX6_slotNow_41 : decode cX6_slotNow 41 = .ok (.getfield 73, 3) := by decide +kernel
theorem dX6_slotNow_44 : decode cX6_slotNow 44 = .ok (.iload_n 1, 1) := by decide +kernel
theorem dX6_slotNow_45 : decode cX6_slotNow 45 = .ok (.iaload, 1) := by decide +kernel
theorem dX6_slotNow_46 : decode cX6_slotNow 46 = .ok (.ireturn, 1) := by decide +kernel
theorem dX6_slotNow_47 : decode cX6_slotNow 47 = .ok (.aload_n 0, 1) := by decide +kernel
theorem dX6_slotNow_48 : decode cX6_slotNow 48 = .ok (.getfield 76, 3) := by decide +kernel
theorem dX6_slotNow_51 : decode cX6_slotNow 51 = .ok (.iload_n 1, 1) := by decide +kernel
theorem dX6_slotNow_52 : decode cX6_slotNow 52 = .ok (.iaload, 1) := by decide +kernel
theorem dX6_slotNow_53 : decode cX6_slotNow 53 = .ok (.ireturn, 1) := by decide +kernel
theorem dX6_slotNow_54 : decode cX6_slotNow 54 = .ok (.aload_n 0, 1) := by decide +kernel
theorem dX6_slotNow_55 : decode cX6_slotNow 55 = .ok (.getfield 70, 3) := by decide +kernel
theorem dX6_slotNow_58 : decode cX6_slotNow 58 = .ok (.iload_n 1, 1) := by decide +kernel
theorem dX6_slotNow_59 : decode cX6_slotNow 59 = .ok (.iaload, 1) := by decide +kernel
theorem dX6_slotNow_60 : decode cX6_slotNow 60 = .ok (.ireturn, 1) := by decide +kernel
theorem dX6_slotNow_61 : decode cX6_slotNow 61 = .ok (.aload_n 0, 1) := by decide +kernel
theorem dX6_slotNow_62 : decode cX6_slotNow 62 = .ok (.iload_n 1, 1) := by decide +kernel
theorem dX6_slotNow_63 : decode cX6_slotNow 63 = .ok (.iconst 0, 1) := by decide +kernel
theorem dX6_slotNow_64 : decode cX6_slotNow 64 = .ok (.invokevirtual 252, 3) := by decide +kernel
theorem dX6_slotNow_67 : decode cX6_slotNow 67 = .ok (.ireturn, 1) := by decide +kernel
theorem dX6_slotNow_68 : decode cX6_slotNow 68 = .ok (.aload_n 0, 1) := by decide +kernel
theorem dX6_slotNow_69 : decode cX6_slotNow 69 = .ok (.iload_n 1, 1) := by decide +kernel
theorem dX6_slotNow_70 : decode cX6_slotNow 70 = .ok (.iconst 1, 1) := by decide +kernel
theorem dX6_slotNow_71 : decode cX6_slotNow 71 = .ok (.invokevirtual 252, 3) := by decide +kernel
theorem dX6_slotNow_74 : decode cX6_slotNow 74 = .ok (.ireturn, 1) := by decide +kernel
theorem dX6_slotNow_75 : decode cX6_slotNow 75 = .ok (.aload_n 0, 1) := by decide +kernel
theorem dX6_slotNow_76 : decode cX6_slotNow 76 = .ok (.getfield 70, 3) := by decide +kernel
theorem dX6_slotNow_79 : decode cX6_slotNow 79 = .ok (.iload_n 1, 1) := by decide +kernel
theorem dX6_slotNow_80 : decode cX6_slotNow 80 = .ok (.iaload, 1) := by decide +kernel
theorem dX6_slotNow_81 : decode cX6_slotNow 81 = .ok (.ifCond .le 20, 3) := by decide +kernel
theorem dX6_slotNow_84 : decode cX6_slotNow 84 = .ok (.aload_n 0, 1) := by decide +kernel
theorem dX6_slotNow_85 : decode cX6_slotNow 85 = .ok (.aload_n 0, 1) := by decide +kernel
theorem dX6_slotNow_86 : decode cX6_slotNow 86 = .ok (.iload_n 1, 1) := by decide +kernel
theorem dX6_slotNow_87 : decode cX6_slotNow 87 = .ok (.iconst 0, 1) := by decide +kernel
theorem dX6_slotNow_88 : decode cX6_slotNow 88 = .ok (.invokevirtual 252, 3) := by decide +kernel
theorem dX6_slotNow_91 : decode cX6_slotNow 91 = .ok (.invokevirtual 271, 3) := by decide +kernel
theorem dX6_slotNow_94 : decode cX6_slotNow 94 = .ok (.ifCond .eq 7, 3) := by decide +kernel
theorem dX6_slotNow_97 : decode cX6_slotNow 97 = .ok (.iconst 1, 1) := by decide +kernel
theorem dX6_slotNow_98 : decode cX6_slotNow 98 = .ok (.goto 4, 3) := by decide +kernel
theorem dX6_slotNow_101 : decode cX6_slotNow 101 = .ok (.iconst 0, 1) := by decide +kernel
theorem dX6_slotNow_102 : decode cX6_slotNow 102 = .ok (.ireturn, 1) := by decide +kernel
theorem dX6_slotNow_103 : decode cX6_slotNow 103 = .ok (.aload_n 0, 1) := by decide +kernel
theorem dX6_slotNow_104 : decode cX6_slotNow 104 = .ok (.getfield 79, 3) := by decide +kernel
theorem dX6_slotNow_107 : decode cX6_slotNow 107 = .ok (.iload_n 1, 1) := by decide +kernel
theorem dX6_slotNow_108 : decode cX6_slotNow 108 = .ok (.baload, 1) := by decide +kernel
theorem dX6_slotNow_109 : decode cX6_slotNow 109 = .ok (.ifCond .eq 7, 3) := by decide +kernel
theorem dX6_slotNow_112 : decode cX6_slotNow 112 = .ok (.iconst 1, 1) := by decide +kernel
theorem dX6_slotNow_113 : decode cX6_slotNow 113 = .ok (.goto 4, 3) := by decide +kernel
theorem dX6_slotNow_116 : decode cX6_slotNow 116 = .ok (.iconst 0, 1) := by decide +kernel
theorem dX6_slotNow_117 : decode cX6_slotNow 117 = .ok (.ireturn, 1) := by decide +kernel
theorem dX6_slot_0 : decode cX6_slot 0 = .ok (.aload_n 0, 1) := by decide +kernel
theorem dX6_slot_1 : decode cX6_slot 1 = .ok (.aload_n 0, 1) := by decide +kernel
theorem dX6_slot_2 : decode cX6_slot 2 = .ok (.iload_n 1, 1) := by decide +kernel
theorem dX6_slot_3 : decode cX6_slot 3 = .ok (.invokevirtual 164, 3) := by decide +kernel
theorem dX6_slot_6 : decode cX6_slot 6 = .ok (.ifCond .ne 7, 3) := by decide +kernel
theorem dX6_slot_9 : decode cX6_slot 9 = .ok (.iconst 1, 1) := by decide +kernel
theorem dX6_slot_10 : decode cX6_slot 10 = .ok (.goto 18, 3) := by decide +kernel
theorem dX6_slot_13 : decode cX6_slot 13 = .ok (.iload_n 2, 1) := by decide +kernel
theorem dX6_slot_14 : decode cX6_slot 14 = .ok (.iconst 0, 1) := by decide +kernel
theorem dX6_slot_15 : decode cX6_slot 15 = .ok (.bipush 6, 2) := by decide +kernel
theorem dX6_slot_17 : decode cX6_slot 17 = .ok (.invokestatic 98, 3) := by decide +kernel
theorem dX6_slot_20 : decode cX6_slot 20 = .ok (.ifCond .eq 7, 3) := by decide +kernel
theorem dX6_slot_23 : decode cX6_slot 23 = .ok (.iconst 0, 1) := by decide +kernel
theorem dX6_slot_24 : decode cX6_slot 24 = .ok (.goto 4, 3) := by decide +kernel
theorem dX6_slot_27 : decode cX6_slot 27 = .ok (.iconst 2, 1) := by decide +kernel
theorem dX6_slot_28 : decode cX6_slot 28 = .ok (.putfield 95, 3) := by decide +kernel
theorem dX6_slot_31 : decode cX6_slot 31 = .ok (.aload_n 0, 1) := by decide +kernel
theorem dX6_slot_32 : decode cX6_slot 32 = .ok (.getfield 95, 3) := by decide +kernel
theorem dX6_slot_35 : decode cX6_slot 35 = .ok (.ifCond .le 7, 3) := by decide +kernel
theorem dX6_slot_38 : decode cX6_slot 38 = .ok (.iconst 0, 1) := by decide +kernel
theorem dX6_slot_39 : decode cX6_slot 39 = .ok (.goto 9, 3) := by decide +kernel
theorem dX6_slot_42 : decode cX6_slot 42 = .ok (.aload_n 0, 1) := by decide +kernel
theorem dX6_slot_43 : decode cX6_slot 43 = .ok (.iload_n 1, 1) := by decide +kernel
theorem dX6_slot_44 : decode cX6_slot 44 = .ok (.iload_n 2, 1) := by decide +kernel
theorem dX6_slot_45 : decode cX6_slot 45 = .ok (.invokevirtual 274, 3) := by decide +kernel
theorem dX6_slot_48 : decode cX6_slot 48 = .ok (.ireturn, 1) := by decide +kernel
theorem dX6_roundValue_0 : decode cX6_roundValue 0 = .ok (.aload_n 0, 1) := by decide +kernel
theorem dX6_roundValue_1 : decode cX6_roundValue 1 = .ok (.aload_n 0, 1) := by decide +kernel
theorem dX6_roundValue_2 : decode cX6_roundValue 2 = .ok (.iload_n 1, 1) := by decide +kernel
theorem dX6_roundValue_3 : decode cX6_roundValue 3 = .ok (.invokevirtual 147, 3) := by decide +kernel
theorem dX6_roundValue_6 : decode cX6_roundValue 6 = .ok (.ifCond .eq 11, 3) := by decide +kernel
theorem dX6_roundValue_9 : decode cX6_roundValue 9 = .ok (.aload_n 0, 1) := by decide +kernel
theorem dX6_roundValue_10 : decode cX6_roundValue 10 = .ok (.iload_n 2, 1) := by decide +kernel
theorem dX6_roundValue_11 : decode cX6_roundValue 11 = .ok (.invokevirtual 164, 3) := by decide +kernel
theorem dX6_roundValue_14 : decode cX6_roundValue 14 = .ok (.ifCond .ne 7, 3) := by decide +kernel
theorem dX6_roundValue_17 : decode cX6_roundValue 17 = .ok (.iconst 1, 1) := by decide +kernel
theorem dX6_roundValue_18 : decode cX6_roundValue 18 = .ok (.goto 18, 3) := by decide +kernel
theorem dX6_roundValue_21 : decode cX6_roundValue 21 = .ok (.aload_n 0, 1) := by decide +kernel
theorem dX6_roundValue_22 : decode cX6_roundValue 22 = .ok (.getfield 64, 3) := by decide +kernel
theorem dX6_roundValue_25 : decode cX6_roundValue 25 = .ok (.iload_n 1, 1) := by decide +kernel
theorem dX6_roundValue_26 : decode cX6_roundValue 26 = .ok (.iaload, 1) := by decide +kernel
theorem dX6_roundValue_27 : decode cX6_roundValue 27 = .ok (.iconst (-1), 1) := by decide +kernel
theorem dX6_roundValue_28 : decode cX6_roundValue 28 = .ok (.if_icmp .ne 7, 3) := by decide +kernel
theorem dX6_roundValue_31 : decode cX6_roundValue 31 = .ok (.iconst 2, 1) := by decide +kernel
theorem dX6_roundValue_32 : decode cX6_roundValue 32 = .ok (.goto 4, 3) := by decide +kernel
theorem dX6_roundValue_35 : decode cX6_roundValue 35 = .ok (.iconst 0, 1) := by decide +kernel
theorem dX6_roundValue_36 : decode cX6_roundValue 36 = .ok (.putfield 95, 3) := by decide +kernel
theorem dX6_roundValue_39 : decode cX6_roundValue 39 = .ok (.aload_n 0, 1) := by decide +kernel
theorem dX6_roundValue_40 : decode cX6_roundValue 40 = .ok (.getfield 95, 3) := by decide +kernel
theorem dX6_roundValue_43 : decode cX6_roundValue 43 = .ok (.ifCond .le 7, 3) := by decide +kernel
theorem dX6_roundValue_46 : decode cX6_roundValue 46 = .ok (.iconst 0, 1) := by decide +kernel
theorem dX6_roundValue_47 : decode cX6_roundValue 47 = .ok (.goto 13, 3) := by decide +kernel
theorem dX6_roundValue_50 : decode cX6_roundValue 50 = .ok (.aload_n 0, 1) := by decide +kernel
theorem dX6_roundValue_51 : decode cX6_roundValue 51 = .ok (.getfield 67, 3) := by decide +kernel
theorem dX6_roundValue_54 : decode cX6_roundValue 54 = .ok (.iload_n 1, 1) := by decide +kernel
theorem dX6_roundValue_55 : decode cX6_roundValue 55 = .ok (.iload_n 2, 1) := by decide +kernel
theorem dX6_roundValue_56 : decode cX6_roundValue 56 = .ok (.invokestatic 102, 3) := by decide +kernel
theorem dX6_roundValue_59 : decode cX6_roundValue 59 = .ok (.iaload, 1) := by decide +kernel
theorem dX6_roundValue_60 : decode cX6_roundValue 60 = .ok (.ireturn, 1) := by decide +kernel
theorem dX6_ifCrashed_0 : decode cX6_ifCrashed 0 = .ok (.aload_n 0, 1) := by decide +kernel
theorem dX6_ifCrashed_1 : decode cX6_ifCrashed 1 = .ok (.aload_n 0, 1) := by decide +kernel
theorem dX6_ifCrashed_2 : decode cX6_ifCrashed 2 = .ok (.iload_n 1, 1) := by decide +kernel
theorem dX6_ifCrashed_3 : decode cX6_ifCrashed 3 = .ok (.invokevirtual 147, 3) := by decide +kernel
theorem dX6_ifCrashed_6 : decode cX6_ifCrashed 6 = .ok (.ifCond .eq 11, 3) := by decide +kernel
theorem dX6_ifCrashed_9 : decode cX6_ifCrashed 9 = .ok (.aload_n 0, 1) := by decide +kernel
theorem dX6_ifCrashed_10 : decode cX6_ifCrashed 10 = .ok (.iload_n 3, 1) := by decide +kernel
theorem dX6_ifCrashed_11 : decode cX6_ifCrashed 11 = .ok (.invokevirtual 164, 3) := by decide +kernel
theorem dX6_ifCrashed_14 : decode cX6_ifCrashed 14 = .ok (.ifCond .ne 7, 3) := by decide +kernel
theorem dX6_ifCrashed_17 : decode cX6_ifCrashed 17 = .ok (.iconst 1, 1) := by decide +kernel
theorem dX6_ifCrashed_18 : decode cX6_ifCrashed 18 = .ok (.goto 12, 3) := by decide +kernel
theorem dX6_ifCrashed_21 : decode cX6_ifCrashed 21 = .ok (.iload_n 2, 1) := by decide +kernel
theorem dX6_ifCrashed_22 : decode cX6_ifCrashed 22 = .ok (.ifCond .ge 7, 3) := by decide +kernel
theorem dX6_ifCrashed_25 : decode cX6_ifCrashed 25 = .ok (.iconst 2, 1) := by decide +kernel
theorem dX6_ifCrashed_26 : decode cX6_ifCrashed 26 = .ok (.goto 4, 3) := by decide +kernel
theorem dX6_ifCrashed_29 : decode cX6_ifCrashed 29 = .ok (.iconst 0, 1) := by decide +kernel
theorem dX6_ifCrashed_30 : decode cX6_ifCrashed 30 = .ok (.putfield 95, 3) := by decide +kernel
theorem dX6_ifCrashed_33 : decode cX6_ifCrashed 33 = .ok (.aload_n 0, 1) := by decide +kernel
theorem dX6_ifCrashed_34 : decode cX6_ifCrashed 34 = .ok (.getfield 95, 3) := by decide +kernel
theorem dX6_ifCrashed_37 : decode cX6_ifCrashed 37 = .ok (.ifCond .gt 12, 3) := by decide +kernel
theorem dX6_ifCrashed_40 : decode cX6_ifCrashed 40 = .ok (.aload_n 0, 1) := by decide +kernel
theorem dX6_ifCrashed_41 : decode cX6_ifCrashed 41 = .ok (.getfield 70, 3) := by decide +kernel
theorem dX6_ifCrashed_44 : decode cX6_ifCrashed 44 = .ok (.iload_n 3, 1) := by decide +kernel
theorem dX6_ifCrashed_45 : decode cX6_ifCrashed 45 = .ok (.iaload, 1) := by decide +kernel
theorem dX6_ifCrashed_46 : decode cX6_ifCrashed 46 = .ok (.ifCond .ne 7, 3) := by decide +kernel
theorem dX6_ifCrashed_49 : decode cX6_ifCrashed 49 = .ok (.iconst 0, 1) := by decide +kernel
theorem dX6_ifCrashed_50 : decode cX6_ifCrashed 50 = .ok (.goto 10, 3) := by decide +kernel
theorem dX6_ifCrashed_53 : decode cX6_ifCrashed 53 = .ok (.aload_n 0, 1) := by decide +kernel
theorem dX6_ifCrashed_54 : decode cX6_ifCrashed 54 = .ok (.iload_n 1, 1) := by decide +kernel
theorem dX6_ifCrashed_55 : decode cX6_ifCrashed 55 = .ok (.iload_n 3, 1) := by decide +kernel
theorem dX6_ifCrashed_56 : decode cX6_ifCrashed 56 = .ok (.iload_n 2, 1) := by decide +kernel
theorem dX6_ifCrashed_57 : decode cX6_ifCrashed 57 = .ok (.invokevirtual 277, 3) := by decide +kernel
theorem dX6_ifCrashed_60 : decode cX6_ifCrashed 60 = .ok (.ireturn, 1) := by decide +kernel
theorem dX6_isHarmless_0 : decode cX6_isHarmless 0 = .ok (.iconst 1, 1) := by decide +kernel
theorem dX6_isHarmless_1 : decode cX6_isHarmless 1 = .ok (.istore_n 3, 1) := by decide +kernel
theorem dX6_isHarmless_2 : decode cX6_isHarmless 2 = .ok (.iconst 0, 1) := by decide +kernel
theorem dX6_isHarmless_3 : decode cX6_isHarmless 3 = .ok (.istore 4, 2) := by decide +kernel
theorem dX6_isHarmless_5 : decode cX6_isHarmless 5 = .ok (.iload 4, 2) := by decide +kernel
theorem dX6_isHarmless_7 : decode cX6_isHarmless 7 = .ok (.aload_n 0, 1) := by decide +kernel
theorem dX6_isHarmless_8 : decode cX6_isHarmless 8 = .ok (.getfield 13, 3) := by decide +kernel
theorem dX6_isHarmless_11 : decode cX6_isHarmless 11 = .ok (.if_icmp .ge 57, 3) := by decide +kernel
theorem dX6_isHarmless_14 : decode cX6_isHarmless 14 = .ok (.aload_n 0, 1) := by decide +kernel
theorem dX6_isHarmless_15 : decode cX6_isHarmless 15 = .ok (.iload 4, 2) := by decide +kernel
theorem dX6_isHarmless_17 : decode cX6_isHarmless 17 = .ok (.iconst 5, 1) := by decide +kernel
theorem dX6_isHarmless_18 : decode cX6_isHarmless 18 = .ok (.invokevirtual 274, 3) := by decide +kernel
theorem dX6_isHarmless_21 : decode cX6_isHarmless 21 = .ok (.iconst 1, 1) := by decide +kernel
theorem dX6_isHarmless_22 : decode cX6_isHarmless 22 = .ok (.if_icmp .ne 7, 3) := by decide +kernel
theorem dX6_isHarmless_25 : decode cX6_isHarmless 25 = .ok (.iconst 1, 1) := by decide +kernel
theorem dX6_isHarmless_26 : decode cX6_isHarmless 26 = .ok (.goto 4, 3) := by decide +kernel
theorem dX6_isHarmless_29 : decode cX6_isHarmless 29 = .ok (.iconst 0, 1) := by decide +kernel
theorem dX6_isHarmless_30 : decode cX6_isHarmless 30 = .ok (.istore 5, 2) := by decide +kernel
theorem dX6_isHarmless_32 : decode cX6_isHarmless 32 = .ok (.iload_n 3, 1) := by decide +kernel
theorem dX6_isHarmless_33 : decode cX6_isHarmless 33 = .ok (.ifCond .eq 27, 3) := by decide +kernel
theorem dX6_isHarmless_36 : decode cX6_isHarmless 36 = .ok (.iload 5, 2) := by decide +kernel
theorem dX6_isHarmless_38 : decode cX6_isHarmless 38 = .ok (.ifCond .eq 18, 3) := by decide +kernel
theorem dX6_isHarmless_41 : decode cX6_isHarmless 41 = .ok (.aload_n 0, 1) := by decide +kernel
theorem dX6_isHarmless_42 : decode cX6_isHarmless 42 = .ok (.aload_n 0, 1) := by decide +kernel
theorem dX6_isHarmless_43 : decode cX6_isHarmless 43 = .ok (.iload_n 1, 1) := by decide +kernel
theorem dX6_isHarmless_44 : decode cX6_isHarmless 44 = .ok (.iload 4, 2) := by decide +kernel
theorem dX6_isHarmless_46 : decode cX6_isHarmless 46 = .ok (.iload_n 2, 1) := by decide +kernel
theorem dX6_isHarmless_47 : decode cX6_isHarmless 47 = .ok (.invokevirtual 277, 3) := by decide +kernel
theorem dX6_isHarmless_50 : decode cX6_isHarmless 50 = .ok (.invokevirtual 271, 3) := by decide +kernel
theorem dX6_isHarmless_53 : decode cX6_isHarmless 53 = .ok (.ifCond .eq 7, 3) := by decide +kernel
theorem dX6_isHarmless_56 : decode cX6_isHarmless 56 = .ok (.iconst 1, 1) := by decide +kernel
theorem dX6_isHarmless_57 : decode cX6_isHarmless 57 = .ok (.goto 4, 3) := by decide +kernel
theorem dX6_isHarmless_60 : decode cX6_isHarmless 60 = .ok (.iconst 0, 1) := by decide +kernel
theorem dX6_isHarmless_61 : decode cX6_isHarmless 61 = .ok (.istore_n 3, 1) := by decide +kernel
theorem dX6_isHarmless_62 : decode cX6_isHarmless 62 = .ok (.iinc 4 1, 3) := by decide +kernel
theorem dX6_isHarmless_65 : decode cX6_isHarmless 65 = .ok (.goto (-60), 3) := by decide +kernel
theorem dX6_isHarmless_68 : decode cX6_isHarmless 68 = .ok (.iload_n 3, 1) := by decide +kernel
theorem dX6_isHarmless_69 : decode cX6_isHarmless 69 = .ok (.ireturn, 1) := by decide +kernel
theorem dX6_harmlessNow_0 : decode cX6_harmlessNow 0 = .ok (.aload_n 0, 1) := by decide +kernel
theorem dX6_harmlessNow_1 : decode cX6_harmlessNow 1 = .ok (.getfield 52, 3) := by decide +kernel
theorem dX6_harmlessNow_4 : decode cX6_harmlessNow 4 = .ok (.iload_n 1, 1) := by decide +kernel
theorem dX6_harmlessNow_5 : decode cX6_harmlessNow 5 = .ok (.iaload, 1) := by decide +kernel
theorem dX6_harmlessNow_6 : decode cX6_harmlessNow 6 = .ok (.istore_n 2, 1) := by decide +kernel
theorem dX6_harmlessNow_7 : decode cX6_harmlessNow 7 = .ok (.aload_n 0, 1) := by decide +kernel
theorem dX6_harmlessNow_8 : decode cX6_harmlessNow 8 = .ok (.iload_n 1, 1) := by decide +kernel
theorem dX6_harmlessNow_9 : decode cX6_harmlessNow 9 = .ok (.iload_n 2, 1) := by decide +kernel
theorem dX6_harmlessNow_10 : decode cX6_harmlessNow 10 = .ok (.invokevirtual 280, 3) := by decide +kernel
theorem dX6_harmlessNow_13 : decode cX6_harmlessNow 13 = .ok (.ifCond .ne 9, 3) := by decide +kernel
theorem dX6_harmlessNow_16 : decode cX6_harmlessNow 16 = .ok (.iinc 2 (-1), 3) := by decide +kernel
theorem dX6_harmlessNow_19 : decode cX6_harmlessNow 19 = .ok (.goto (-12), 3) := by decide +kernel
theorem dX6_harmlessNow_22 : decode cX6_harmlessNow 22 = .ok (.iload_n 2, 1) := by decide +kernel
theorem dX6_harmlessNow_23 : decode cX6_harmlessNow 23 = .ok (.ireturn, 1) := by decide +kernel
theorem dX6_harmless_0 : decode cX6_harmless 0 = .ok (.aload_n 0, 1) := by decide +kernel
theorem dX6_harmless_1 : decode cX6_harmless 1 = .ok (.aload_n 0, 1) := by decide +kernel
theorem dX6_harmless_2 : decode cX6_harmless 2 = .ok (.iload_n 1, 1) := by decide +kernel
theorem dX6_harmless_3 : decode cX6_harmless 3 = .ok (.invokevirtual 147, 3) := by decide +kernel
theorem dX6_harmless_6 : decode cX6_harmless 6 = .ok (.ifCond .eq 7, 3) := by decide +kernel
theorem dX6_harmless_9 : decode cX6_harmless 9 = .ok (.iconst 0, 1) := by decide +kernel
theorem dX6_harmless_10 : decode cX6_harmless 10 = .ok (.goto 4, 3) := by decide +kernel
theorem dX6_harmless_13 : decode cX6_harmless 13 = .ok (.iconst 1, 1) := by decide +kernel
theorem dX6_harmless_14 : decode cX6_harmless 14 = .ok (.putfield 95, 3) := by decide +kernel
theorem dX6_harmless_17 : decode cX6_harmless 17 = .ok (.aload_n 0, 1) := by decide +kernel
theorem dX6_harmless_18 : decode cX6_harmless 18 = .ok (.getfield 95, 3) := by decide +kernel
theorem dX6_harmless_21 : decode cX6_harmless 21 = .ok (.ifCond .le 7, 3) := by decide +kernel
theorem dX6_harmless_24 : decode cX6_harmless 24 = .ok (.iconst 0, 1) := by decide +kernel
theorem dX6_harmless_25 : decode cX6_harmless 25 = .ok (.goto 8, 3) := by decide +kernel
theorem dX6_harmless_28 : decode cX6_harmless 28 = .ok (.aload_n 0, 1) := by decide +kernel
theorem dX6_harmless_29 : decode cX6_harmless 29 = .ok (.iload_n 1, 1) := by decide +kernel
theorem dX6_harmless_30 : decode cX6_harmless 30 = .ok (.invokevirtual 283, 3) := by decide +kernel
theorem dX6_harmless_33 : decode cX6_harmless 33 = .ok (.ireturn, 1) := by decide +kernel
theorem dX6_fewest_0 : decode cX6_fewest 0 = .ok (.aload_n 0, 1) := by decide +kernel
theorem dX6_fewest_1 : decode cX6_fewest 1 = .ok (.iload_n 1, 1) := by decide +kernel
theorem dX6_fewest_2 : decode cX6_fewest 2 = .ok (.iconst 0, 1) := by decide +kernel
theorem dX6_fewest_3 : decode cX6_fewest 3 = .ok (.invokevirtual 252, 3) := by decide +kernel
theorem dX6_fewest_6 : decode cX6_fewest 6 = .ok (.istore_n 2, 1) := by decide +kernel
theorem dX6_fewest_7 : decode cX6_fewest 7 = .ok (.aload_n 0, 1) := by decide +kernel
theorem dX6_fewest_8 : decode cX6_fewest 8 = .ok (.iload_n 2, 1) := by decide +kernel
theorem dX6_fewest_9 : decode cX6_fewest 9 = .ok (.invokevirtual 271, 3) := by decide +kernel
theorem dX6_fewest_12 : decode cX6_fewest 12 = .ok (.ifCond .ne 5, 3) := by decide +kernel
theorem dX6_fewest_15 : decode cX6_fewest 15 = .ok (.iconst 0, 1) := by decide +kernel
theorem dX6_fewest_16 : decode cX6_fewest 16 = .ok (.ireturn, 1) := by decide +kernel
theorem dX6_fewest_17 : decode cX6_fewest 17 = .ok (.iconst 0, 1) := by decide +kernel
theorem dX6_fewest_18 : decode cX6_fewest 18 = .ok (.istore_n 3, 1) := by decide +kernel
theorem dX6_fewest_19 : decode cX6_fewest 19 = .ok (.iconst 0, 1) := by decide +kernel
theorem dX6_fewest_20 : decode cX6_fewest 20 = .ok (.istore 4, 2) := by decide +kernel
theorem dX6_fewest_22 : decode cX6_fewest 22 = .ok (.iload 4, 2) := by decide +kernel
theorem dX6_fewest_24 : decode cX6_fewest 24 = .ok (.aload_n 0, 1) := by decide +kernel
theorem dX6_fewest_25 : decode cX6_fewest 25 = .ok (.getfield 7, 3) := by decide +kernel
theorem dX6_fewest_28 : decode cX6_fewest 28 = .ok (.if_icmp .ge 37, 3) := by decide +kernel
theorem dX6_fewest_31 : decode cX6_fewest 31 = .ok (.iload_n 3, 1) := by decide +kernel
theorem dX6_fewest_32 : decode cX6_fewest 32 = .ok (.aload_n 0, 1) := by decide +kernel
theorem dX6_fewest_33 : decode cX6_fewest 33 = .ok (.iload 4, 2) := by decide +kernel
theorem dX6_fewest_35 : decode cX6_fewest 35 = .ok (.iload_n 1, 1) := by decide +kernel
theorem dX6_fewest_36 : decode cX6_fewest 36 = .ok (.invokevirtual 249, 3) := by decide +kernel
theorem dX6_fewest_39 : decode cX6_fewest 39 = .ok (.ifCond .eq 17, 3) := by decide +kernel
theorem dX6_fewest_42 : decode cX6_fewest 42 = .ok (.aload_n 0, 1) := by decide +kernel
theorem dX6_fewest_43 : decode cX6_fewest 43 = .ok (.iload 4, 2) := by decide +kernel
theorem dX6_fewest_45 : decode cX6_fewest 45 = .ok (.iload_n 1, 1) := by decide +kernel
theorem dX6_fewest_46 : decode cX6_fewest 46 = .ok (.invokevirtual 246, 3) := by decide +kernel
theorem dX6_fewest_49 : decode cX6_fewest 49 = .ok (.ifCond .ne 7, 3) := by decide +kernel
theorem dX6_fewest_52 : decode cX6_fewest 52 = .ok (.iconst 1, 1) := by decide +kernel
theorem dX6_fewest_53 : decode cX6_fewest 53 = .ok (.goto 4, 3) := by decide +kernel
theorem dX6_fewest_56 : decode cX6_fewest 56 = .ok (.iconst 0, 1) := by decide +kernel
theorem dX6_fewest_57 : decode cX6_fewest 57 = .ok (.iadd, 1) := by decide +kernel
theorem dX6_fewest_58 : decode cX6_fewest 58 = .ok (.istore_n 3, 1) := by decide +kernel
theorem dX6_fewest_59 : decode cX6_fewest 59 = .ok (.iinc 4 1, 3) := by decide +kernel
theorem dX6_fewest_62 : decode cX6_fewest 62 = .ok (.goto (-40), 3) := by decide +kernel
theorem dX6_fewest_65 : decode cX6_fewest 65 = .ok (.iconst 1, 1) := by decide +kernel
theorem dX6_fewest_66 : decode cX6_fewest 66 = .ok (.istore 4, 2) := by decide +kernel
theorem dX6_fewest_68 : decode cX6_fewest 68 = .ok (.aload_n 0, 1) := by decide +kernel
theorem dX6_fewest_69 : decode cX6_fewest 69 = .ok (.iload_n 2, 1) := by decide +kernel
theorem dX6_fewest_70 : decode cX6_fewest 70 = .ok (.iload 4, 2) := by decide +kernel
theorem dX6_fewest_72 : decode cX6_fewest 72 = .ok (.isub, 1) := by decide +kernel
theorem dX6_fewest_73 : decode cX6_fewest 73 = .ok (.invokevirtual 271, 3) := by decide +kernel
theorem dX6_fewest_76 : decode cX6_fewest 76 = .ok (.ifCond .eq 9, 3) := by decide +kernel
theorem dX6_fewest_79 : decode cX6_fewest 79 = .ok (.iinc 4 1, 3) := by decide +kernel
theorem dX6_fewest_82 : decode cX6_fewest 82 = .ok (.goto (-14), 3) := by decide +kernel
theorem dX6_fewest_85 : decode cX6_fewest 85 = .ok (.iload 4, 2) := by decide +kernel
theorem dX6_fewest_87 : decode cX6_fewest 87 = .ok (.iload_n 3, 1) := by decide +kernel
theorem dX6_fewest_88 : decode cX6_fewest 88 = .ok (.if_icmp .gt 8, 3) := by decide +kernel
theorem dX6_fewest_91 : decode cX6_fewest 91 = .ok (.iload 4, 2) := by decide +kernel
theorem dX6_fewest_93 : decode cX6_fewest 93 = .ok (.goto 4, 3) := by decide +kernel
theorem dX6_fewest_96 : decode cX6_fewest 96 = .ok (.iconst (-1), 1) := by decide +kernel
theorem dX6_fewest_97 : decode cX6_fewest 97 = .ok (.ireturn, 1) := by decide +kernel
theorem dX6_leastLosses_0 : decode cX6_leastLosses 0 = .ok (.aload_n 0, 1) := by decide +kernel
theorem dX6_leastLosses_1 : decode cX6_leastLosses 1 = .ok (.aload_n 0, 1) := by decide +kernel
theorem dX6_leastLosses_2 : decode cX6_leastLosses 2 = .ok (.iload_n 1, 1) := by decide +kernel
theorem dX6_leastLosses_3 : decode cX6_leastLosses 3 = .ok (.invokevirtual 164, 3) := by decide +kernel
theorem dX6_leastLosses_6 : decode cX6_leastLosses 6 = .ok (.ifCond .ne 7, 3) := by decide +kernel
theorem dX6_leastLosses_9 : decode cX6_leastLosses 9 = .ok (.iconst 1, 1) := by decide +kernel
theorem dX6_leastLosses_10 : decode cX6_leastLosses 10 = .ok (.goto 17, 3) := by decide +kernel
theorem dX6_leastLosses_13 : decode cX6_leastLosses 13 = .ok (.aload_n 0, 1) := by decide +kernel
theorem dX6_leastLosses_14 : decode cX6_leastLosses 14 = .ok (.getfield 70, 3) := by decide +kernel
theorem dX6_leastLosses_17 : decode cX6_leastLosses 17 = .ok (.iload_n 1, 1) := by decide +kernel
theorem dX6_leastLosses_18 : decode cX6_leastLosses 18 = .ok (.iaload, 1) := by decide +kernel
theorem dX6_leastLosses_19 : decode cX6_leastLosses 19 = .ok (.ifCond .le 7, 3) := by decide +kernel
theorem dX6_leastLosses_22 : decode cX6_leastLosses 22 = .ok (.iconst 0, 1) := by decide +kernel
theorem dX6_leastLosses_23 : decode cX6_leastLosses 23 = .ok (.goto 4, 3) := by decide +kernel
theorem dX6_leastLosses_26 : decode cX6_leastLosses 26 = .ok (.iconst 2, 1) := by decide +kernel
theorem dX6_leastLosses_27 : decode cX6_leastLosses 27 = .ok (.putfield 95, 3) := by decide +kernel
theorem dX6_leastLosses_30 : decode cX6_leastLosses 30 = .ok (.aload_n 0, 1) := by decide +kernel
theorem dX6_leastLosses_31 : decode cX6_leastLosses 31 = .ok (.getfield 95, 3) := by decide +kernel
theorem dX6_leastLosses_34 : decode cX6_leastLosses 34 = .ok (.ifCond .le 7, 3) := by decide +kernel
theorem dX6_leastLosses_37 : decode cX6_leastLosses 37 = .ok (.iconst 0, 1) := by decide +kernel
theorem dX6_leastLosses_38 : decode cX6_leastLosses 38 = .ok (.goto 8, 3) := by decide +kernel
theorem dX6_leastLosses_41 : decode cX6_leastLosses 41 = .ok (.aload_n 0, 1) := by decide +kernel
theorem dX6_leastLosses_42 : decode cX6_leastLosses 42 = .ok (.iload_n 1, 1) := by decide +kernel
theorem dX6_leastLosses_43 : decode cX6_leastLosses 43 = .ok (.invokevirtual 286, 3) := by decide +kernel
theorem dX6_leastLosses_46 : decode cX6_leastLosses 46 = .ok (.ireturn, 1) := by decide +kernel
theorem dX6_answeredNow_0 : decode cX6_answeredNow 0 = .ok (.aload_n 0, 1) := by decide +kernel
theorem dX6_answeredNow_1 : decode cX6_answeredNow 1 = .ok (.getfield 113, 3) := by decide +kernel
theorem dX6_answeredNow_4 : decode cX6_answeredNow 4 = .ok (.ifCond .ne 7, 3) := by decide +kernel
theorem dX6_answeredNow_7 : decode cX6_answeredNow 7 = .ok (.fconst 1, 1) := by decide +kernel
theorem dX6_answeredNow_8 : decode cX6_answeredNow 8 = .ok (.goto 14, 3) := by decide +kernel
theorem dX6_answeredNow_11 : decode cX6_answeredNow 11 = .ok (.aload_n 0, 1) := by decide +kernel
theorem dX6_answeredNow_12 : decode cX6_answeredNow 12 = .ok (.getfield 116, 3) := by decide +kernel
theorem dX6_answeredNow_15 : decode cX6_answeredNow 15 = .ok (.i2f, 1) := by decide +kernel
theorem dX6_answeredNow_16 : decode cX6_answeredNow 16 = .ok (.aload_n 0, 1) := by decide +kernel
theorem dX6_answeredNow_17 : decode cX6_answeredNow 17 = .ok (.getfield 113, 3) := by decide +kernel
theorem dX6_answeredNow_20 : decode cX6_answeredNow 20 = .ok (.i2f, 1) := by decide +kernel
theorem dX6_answeredNow_21 : decode cX6_answeredNow 21 = .ok (.fdiv, 1) := by decide +kernel
theorem dX6_answeredNow_22 : decode cX6_answeredNow 22 = .ok (.invokestatic 289, 3) := by decide +kernel
theorem dX6_answeredNow_25 : decode cX6_answeredNow 25 = .ok (.ireturn, 1) := by decide +kernel
theorem dX6_answered_0 : decode cX6_answered 0 = .ok (.aload_n 0, 1) := by decide +kernel
theorem dX6_answered_1 : decode cX6_answered 1 = .ok (.iconst 0, 1) := by decide +kernel
theorem dX6_answered_2 : decode cX6_answered 2 = .ok (.putfield 95, 3) := by decide +kernel
theorem dX6_answered_5 : decode cX6_answered 5 = .ok (.aload_n 0, 1) := by decide +kernel
theorem dX6_answered_6 : decode cX6_answered 6 = .ok (.invokevirtual 295, 3) := by decide +kernel
theorem dX6_answered_9 : decode cX6_answered 9 = .ok (.ireturn, 1) := by decide +kernel
theorem dX6_onDisksNow_0 : decode cX6_onDisksNow 0 = .ok (.aload_n 0, 1) := by decide +kernel
theorem dX6_onDisksNow_1 : decode cX6_onDisksNow 1 = .ok (.bipush 6, 2) := by decide +kernel
theorem dX6_onDisksNow_3 : decode cX6_onDisksNow 3 = .ok (.invokevirtual 258, 3) := by decide +kernel
theorem dX6_onDisksNow_6 : decode cX6_onDisksNow 6 = .ok (.istore_n 1, 1) := by decide +kernel
theorem dX6_onDisksNow_7 : decode cX6_onDisksNow 7 = .ok (.iconst 0, 1) := by decide +kernel
theorem dX6_onDisksNow_8 : decode cX6_onDisksNow 8 = .ok (.istore_n 2, 1) := by decide +kernel
theorem dX6_onDisksNow_9 : decode cX6_onDisksNow 9 = .ok (.iconst 0, 1) := by decide +kernel
theorem dX6_onDisksNow_10 : decode cX6_onDisksNow 10 = .ok (.istore_n 3, 1) := by decide +kernel
theorem dX6_onDisksNow_11 : decode cX6_onDisksNow 11 = .ok (.iload_n 3, 1) := by decide +kernel
theorem dX6_onDisksNow_12 : decode cX6_onDisksNow 12 = .ok (.aload_n 0, 1) := by decide +kernel
theorem dX6_onDisksNow_13 : decode cX6_onDisksNow 13 = .ok (.getfield 13, 3) := by decide +kernel
theorem dX6_onDisksNow_16 : decode cX6_onDisksNow 16 = .ok (.if_icmp .ge 18, 3) := by decide +kernel
theorem dX6_onDisksNow_19 : decode cX6_onDisksNow 19 = .ok (.iload_n 2, 1) := by decide +kernel
theorem dX6_onDisksNow_20 : decode cX6_onDisksNow 20 = .ok (.aload_n 0, 1) := by decide +kernel
theorem dX6_onDisksNow_21 : decode cX6_onDisksNow 21 = .ok (.iload_n 3, 1) := by decide +kernel
theorem dX6_onDisksNow_22 : decode cX6_onDisksNow 22 = .ok (.iconst 1, 1) := by decide +kernel
theorem dX6_onDisksNow_23 : decode cX6_onDisksNow 23 = .ok (.invokevirtual 252, 3) := by decide +kernel
theorem dX6_onDisksNow_26 : decode cX6_onDisksNow 26 = .ok (.iadd, 1) := by decide +kernel
theorem dX6_onDisksNow_27 : decode cX6_onDisksNow 27 = .ok (.istore_n 2, 1) := by decide +kernel
theorem dX6_onDisksNow_28 : decode cX6_onDisksNow 28 = .ok (.iinc 3 1, 3) := by decide +kernel
theorem dX6_onDisksNow_31 : decode cX6_onDisksNow 31 = .ok (.goto (-20), 3) := by decide +kernel
theorem dX6_onDisksNow_34 : decode cX6_onDisksNow 34 = .ok (.iload_n 1, 1) := by decide +kernel
theorem dX6_onDisksNow_35 : decode cX6_onDisksNow 35 = .ok (.ifCond .ne 7, 3) := by decide +kernel
theorem dX6_onDisksNow_38 : decode cX6_onDisksNow 38 = .ok (.dconst 0, 1) := by decide +kernel
theorem dX6_onDisksNow_39 : decode cX6_onDisksNow 39 = .ok (.goto 13, 3) := by decide +kernel
theorem dX6_onDisksNow_42 : decode cX6_onDisksNow 42 = .ok (.iload_n 2, 1) := by decide +kernel
theorem dX6_onDisksNow_43 : decode cX6_onDisksNow 43 = .ok (.i2d, 1) := by decide +kernel
theorem dX6_onDisksNow_44 : decode cX6_onDisksNow 44 = .ok (.iload_n 1, 1) := by decide +kernel
theorem dX6_onDisksNow_45 : decode cX6_onDisksNow 45 = .ok (.aload_n 0, 1) := by decide +kernel
theorem dX6_onDisksNow_46 : decode cX6_onDisksNow 46 = .ok (.getfield 7, 3) := by decide +kernel
theorem dX6_onDisksNow_49 : decode cX6_onDisksNow 49 = .ok (.imul, 1) := by decide +kernel
theorem dX6_onDisksNow_50 : decode cX6_onDisksNow 50 = .ok (.i2d, 1) := by decide +kernel
theorem dX6_onDisksNow_51 : decode cX6_onDisksNow 51 = .ok (.ddiv, 1) := by decide +kernel
theorem dX6_onDisksNow_52 : decode cX6_onDisksNow 52 = .ok (.dreturn, 1) := by decide +kernel
theorem dX6_onDisks_0 : decode cX6_onDisks 0 = .ok (.aload_n 0, 1) := by decide +kernel
theorem dX6_onDisks_1 : decode cX6_onDisks 1 = .ok (.iconst 0, 1) := by decide +kernel
theorem dX6_onDisks_2 : decode cX6_onDisks 2 = .ok (.putfield 95, 3) := by decide +kernel
theorem dX6_onDisks_5 : decode cX6_onDisks 5 = .ok (.aload_n 0, 1) := by decide +kernel
theorem dX6_onDisks_6 : decode cX6_onDisks 6 = .ok (.invokevirtual 298, 3) := by decide +kernel
theorem dX6_onDisks_9 : decode cX6_onDisks 9 = .ok (.dreturn, 1) := by decide +kernel
theorem dX6_mix_0 : decode cX6_mix 0 = .ok (.aload_n 0, 1) := by decide +kernel
theorem dX6_mix_1 : decode cX6_mix 1 = .ok (.ldc2_w 302, 3) := by decide +kernel
theorem dX6_mix_4 : decode cX6_mix 4 = .ok (.aload_n 0, 1) := by decide +kernel
theorem dX6_mix_5 : decode cX6_mix 5 = .ok (.getfield 304, 3) := by decide +kernel
theorem dX6_mix_8 : decode cX6_mix 8 = .ok (.lmul, 1) := by decide +kernel
theorem dX6_mix_9 : decode cX6_mix 9 = .ok (.lload_n 1, 1) := by decide +kernel
theorem dX6_mix_10 : decode cX6_mix 10 = .ok (.ladd, 1) := by decide +kernel
theorem dX6_mix_11 : decode cX6_mix 11 = .ok (.putfield 304, 3) := by decide +kernel
theorem dX6_mix_14 : decode cX6_mix 14 = .ok (.return_, 1) := by decide +kernel
theorem dX6_mixNode_0 : decode cX6_mixNode 0 = .ok (.iconst 0, 1) := by decide +kernel
theorem dX6_mixNode_1 : decode cX6_mixNode 1 = .ok (.istore_n 2, 1) := by decide +kernel
theorem dX6_mixNode_2 : decode cX6_mixNode 2 = .ok (.iload_n 2, 1) := by decide +kernel
theorem dX6_mixNode_3 : decode cX6_mixNode 3 = .ok (.bipush 9, 2) := by decide +kernel
theorem dX6_mixNode_5 : decode cX6_mixNode 5 = .ok (.if_icmp .ge 20, 3) := by decide +kernel
theorem dX6_mixNode_8 : decode cX6_mixNode 8 = .ok (.aload_n 0, 1) := by decide +kernel
theorem dX6_mixNode_9 : decode cX6_mixNode 9 = .ok (.aload_n 0, 1) := by decide +kernel
theorem dX6_mixNode_10 : decode cX6_mixNode 10 = .ok (.iload_n 1, 1) := by decide +kernel
theorem dX6_mixNode_11 : decode cX6_mixNode 11 = .ok (.iload_n 2, 1) := by decide +kernel
theorem dX6_mixNode_12 : decode cX6_mixNode 12 = .ok (.invokevirtual 261, 3) := by decide +kernel
theorem dX6_mixNode_15 : decode cX6_mixNode 15 = .ok (.i2l, 1) := by decide +kernel
theorem dX6_mixNode_16 : decode cX6_mixNode 16 = .ok (.invokevirtual 308, 3) := by decide +kernel
theorem dX6_mixNode_19 : decode cX6_mixNode 19 = .ok (.iinc 2 1, 3) := by decide +kernel
theorem dX6_mixNode_22 : decode cX6_mixNode 22 = .ok (.goto (-20), 3) := by decide +kernel
theorem dX6_mixNode_25 : decode cX6_mixNode 25 = .ok (.aload_n 0, 1) := by decide +kernel
theorem dX6_mixNode_26 : decode cX6_mixNode 26 = .ok (.aload_n 0, 1) := by decide +kernel
theorem dX6_mixNode_27 : decode cX6_mixNode 27 = .ok (.iload_n 1, 1) := by decide +kernel
theorem dX6_mixNode_28 : decode cX6_mixNode 28 = .ok (.invokevirtual 283, 3) := by decide +kernel
theorem dX6_mixNode_31 : decode cX6_mixNode 31 = .ok (.i2l, 1) := by decide +kernel
theorem dX6_mixNode_32 : decode cX6_mixNode 32 = .ok (.invokevirtual 308, 3) := by decide +kernel
theorem dX6_mixNode_35 : decode cX6_mixNode 35 = .ok (.iconst 0, 1) := by decide +kernel
theorem dX6_mixNode_36 : decode cX6_mixNode 36 = .ok (.istore_n 2, 1) := by decide +kernel
theorem dX6_mixNode_37 : decode cX6_mixNode 37 = .ok (.iload_n 2, 1) := by decide +kernel
theorem dX6_mixNode_38 : decode cX6_mixNode 38 = .ok (.iconst 4, 1) := by decide +kernel
theorem dX6_mixNode_39 : decode cX6_mixNode 39 = .ok (.aload_n 0, 1) := by decide +kernel
theorem dX6_mixNode_40 : decode cX6_mixNode 40 = .ok (.getfield 13, 3) := by decide +kernel
theorem dX6_mixNode_43 : decode cX6_mixNode 43 = .ok (.imul, 1) := by decide +kernel
theorem dX6_mixNode_44 : decode cX6_mixNode 44 = .ok (.if_icmp .ge 25, 3) := by decide +kernel
theorem dX6_mixNode_47 : decode cX6_mixNode 47 = .ok (.aload_n 0, 1) := by decide +kernel
theorem dX6_mixNode_48 : decode cX6_mixNode 48 = .ok (.aload_n 0, 1) := by decide +kernel
theorem dX6_mixNode_49 : decode cX6_mixNode 49 = .ok (.iload_n 1, 1) := by decide +kernel
theorem dX6_mixNode_50 : decode cX6_mixNode 50 = .ok (.iload_n 2, 1) := by decide +kernel
theorem dX6_mixNode_51 : decode cX6_mixNode 51 = .ok (.iconst 4, 1) := by decide +kernel
theorem dX6_mixNode_52 : decode cX6_mixNode 52 = .ok (.idiv, 1) := by decide +kernel
theorem dX6_mixNode_53 : decode cX6_mixNode 53 = .ok (.iload_n 2, 1) := by decide +kernel
theorem dX6_mixNode_54 : decode cX6_mixNode 54 = .ok (.iconst 4, 1) := by decide +kernel
theorem dX6_mixNode_55 : decode cX6_mixNode 55 = .ok (.irem, 1) := by decide +kernel
theorem dX6_mixNode_56 : decode cX6_mixNode 56 = .ok (.invokevirtual 264, 3) := by decide +kernel
theorem dX6_mixNode_59 : decode cX6_mixNode 59 = .ok (.i2l, 1) := by decide +kernel
theorem dX6_mixNode_60 : decode cX6_mixNode 60 = .ok (.invokevirtual 308, 3) := by decide +kernel
theorem dX6_mixNode_63 : decode cX6_mixNode 63 = .ok (.iinc 2 1, 3) := by decide +kernel
theorem dX6_mixNode_66 : decode cX6_mixNode 66 = .ok (.goto (-29), 3) := by decide +kernel
theorem dX6_mixNode_69 : decode cX6_mixNode 69 = .ok (.iconst 0, 1) := by decide +kernel
theorem dX6_mixNode_70 : decode cX6_mixNode 70 = .ok (.istore_n 2, 1) := by decide +kernel
theorem dX6_mixNode_71 : decode cX6_mixNode 71 = .ok (.iload_n 2, 1) := by decide +kernel
theorem dX6_mixNode_72 : decode cX6_mixNode 72 = .ok (.iconst 3, 1) := by decide +kernel
theorem dX6_mixNode_73 : decode cX6_mixNode 73 = .ok (.aload_n 0, 1) := by decide +kernel
theorem dX6_mixNode_74 : decode cX6_mixNode 74 = .ok (.getfield 52, 3) := by decide +kernel
theorem dX6_mixNode_77 : decode cX6_mixNode 77 = .ok (.iload_n 1, 1) := by decide +kernel
theorem dX6_mixNode_78 : decode cX6_mixNode 78 = .ok (.iaload, 1) := by decide +kernel
theorem dX6_mixNode_79 : decode cX6_mixNode 79 = .ok (.imul, 1) := by decide +kernel
theorem dX6_mixNode_80 : decode cX6_mixNode 80 = .ok (.if_icmp .ge 25, 3) := by decide +kernel
theorem dX6_mixNode_83 : decode cX6_mixNode 83 = .ok (.aload_n 0, 1) := by decide +kernel
theorem dX6_mixNode_84 : decode cX6_mixNode 84 = .ok (.aload_n 0, 1) := by decide +kernel
theorem dX6_mixNode_85 : decode cX6_mixNode 85 = .ok (.iload_n 1, 1) := by decide +kernel
theorem dX6_mixNode_86 : decode cX6_mixNode 86 = .ok (.iload_n 2, 1) := by decide +kernel
theorem dX6_mixNode_87 : decode cX6_mixNode 87 = .ok (.iconst 3, 1) := by decide +kernel
theorem dX6_mixNode_88 : decode cX6_mixNode 88 = .ok (.idiv, 1) := by decide +kernel
theorem dX6_mixNode_89 : decode cX6_mixNode 89 = .ok (.iload_n 2, 1) := by decide +kernel
theorem dX6_mixNode_90 : decode cX6_mixNode 90 = .ok (.iconst 3, 1) := by decide +kernel
theorem dX6_mixNode_91 : decode cX6_mixNode 91 = .ok (.irem, 1) := by decide +kernel
theorem dX6_mixNode_92 : decode cX6_mixNode 92 = .ok (.invokevirtual 268, 3) := by decide +kernel
theorem dX6_mixNode_95 : decode cX6_mixNode 95 = .ok (.i2l, 1) := by decide +kernel
theorem dX6_mixNode_96 : decode cX6_mixNode 96 = .ok (.invokevirtual 308, 3) := by decide +kernel
theorem dX6_mixNode_99 : decode cX6_mixNode 99 = .ok (.iinc 2 1, 3) := by decide +kernel
theorem dX6_mixNode_102 : decode cX6_mixNode 102 = .ok (.goto (-31), 3) := by decide +kernel
theorem dX6_mixNode_105 : decode cX6_mixNode 105 = .ok (.iconst 0, 1) := by decide +kernel
theorem dX6_mixNode_106 : decode cX6_mixNode 106 = .ok (.istore_n 2, 1) := by decide +kernel
theorem dX6_mixNode_107 : decode cX6_mixNode 107 = .ok (.iload_n 2, 1) := by decide +kernel
theorem dX6_mixNode_108 : decode cX6_mixNode 108 = .ok (.aload_n 0, 1) := by decide +kernel
theorem dX6_mixNode_109 : decode cX6_mixNode 109 = .ok (.getfield 13, 3) := by decide +kernel
theorem dX6_mixNode_112 : decode cX6_mixNode 112 = .ok (.if_icmp .ge 34, 3) := by decide +kernel
theorem dX6_mixNode_115 : decode cX6_mixNode 115 = .ok (.aload_n 0, 1) := by decide +kernel
theorem dX6_mixNode_116 : decode cX6_mixNode 116 = .ok (.getfield 64, 3) := by decide +kernel
theorem dX6_mixNode_119 : decode cX6_mixNode 119 = .ok (.iload_n 1, 1) := by decide +kernel
theorem dX6_mixNode_120 : decode cX6_mixNode 120 = .ok (.iaload, 1) := by decide +kernel
theorem dX6_mixNode_121 : decode cX6_mixNode 121 = .ok (.iconst (-1), 1) := by decide +kernel
theorem dX6_mixNode_122 : decode cX6_mixNode 122 = .ok (.if_icmp .eq 24, 3) := by decide +kernel
theorem dX6_mixNode_125 : decode cX6_mixNode 125 = .ok (.aload_n 0, 1) := by decide +kernel
theorem dX6_mixNode_126 : decode cX6_mixNode 126 = .ok (.aload_n 0, 1) := by decide +kernel
theorem dX6_mixNode_127 : decode cX6_mixNode 127 = .ok (.getfield 67, 3) := by decide +kernel
theorem dX6_mixNode_130 : decode cX6_mixNode 130 = .ok (.iload_n 1, 1) := by decide +kernel
theorem dX6_mixNode_131 : decode cX6_mixNode 131 = .ok (.iload_n 2, 1) := by decide +kernel
theorem dX6_mixNode_132 : decode cX6_mixNode 132 = .ok (.invokestatic 102, 3) := by decide +kernel
theorem dX6_mixNode_135 : decode cX6_mixNode 135 = .ok (.iaload, 1) := by decide +kernel
theorem dX6_mixNode_136 : decode cX6_mixNode 136 = .ok (.i2l, 1) := by decide +kernel
theorem dX6_mixNode_137 : decode cX6_mixNode 137 = .ok (.invokevirtual 308, 3) := by decide +kernel
theorem dX6_mixNode_140 : decode cX6_mixNode 140 = .ok (.iinc 2 1, 3) := by decide +kernel
theorem dX6_mixNode_143 : decode cX6_mixNode 143 = .ok (.goto (-36), 3) := by decide +kernel
theorem dX6_mixNode_146 : decode cX6_mixNode 146 = .ok (.return_, 1) := by decide +kernel
theorem dX6_digest_0 : decode cX6_digest 0 = .ok (.aload_n 0, 1) := by decide +kernel
theorem dX6_digest_1 : decode cX6_digest 1 = .ok (.iconst 0, 1) := by decide +kernel
theorem dX6_digest_2 : decode cX6_digest 2 = .ok (.putfield 95, 3) := by decide +kernel
theorem dX6_digest_5 : decode cX6_digest 5 = .ok (.aload_n 0, 1) := by decide +kernel
theorem dX6_digest_6 : decode cX6_digest 6 = .ok (.ldc2_w 312, 3) := by decide +kernel
theorem dX6_digest_9 : decode cX6_digest 9 = .ok (.putfield 304, 3) := by decide +kernel
theorem dX6_digest_12 : decode cX6_digest 12 = .ok (.iconst 0, 1) := by decide +kernel
theorem dX6_digest_13 : decode cX6_digest 13 = .ok (.istore_n 1, 1) := by decide +kernel
theorem dX6_digest_14 : decode cX6_digest 14 = .ok (.iload_n 1, 1) := by decide +kernel
theorem dX6_digest_15 : decode cX6_digest 15 = .ok (.bipush 12, 2) := by decide +kernel
theorem dX6_digest_17 : decode cX6_digest 17 = .ok (.if_icmp .ge 19, 3) := by decide +kernel
theorem dX6_digest_20 : decode cX6_digest 20 = .ok (.aload_n 0, 1) := by decide +kernel
theorem dX6_digest_21 : decode cX6_digest 21 = .ok (.aload_n 0, 1) := by decide +kernel
theorem dX6_digest_22 : decode cX6_digest 22 = .ok (.iload_n 1, 1) := by decide +kernel
theorem dX6_digest_23 : decode cX6_digest 23 = .ok (.invokevirtual 258, 3) := by decide +kernel
theorem dX6_digest_26 : decode cX6_digest 26 = .ok (.i2l, 1) := by decide +kernel
theorem dX6_digest_27 : decode cX6_digest 27 = .ok (.invokevirtual 308, 3) := by decide +kernel
theorem dX6_digest_30 : decode cX6_digest 30 = .ok (.iinc 1 1, 3) := by decide +kernel
theorem dX6_digest_33 : decode cX6_digest 33 = .ok (.goto (-19), 3) := by decide +kernel
theorem dX6_digest_36 : decode cX6_digest 36 = .ok (.iconst 0, 1) := by decide +kernel
theorem dX6_digest_37 : decode cX6_digest 37 = .ok (.istore_n 1, 1) := by decide +kernel
theorem dX6_digest_38 : decode cX6_digest 38 = .ok (.iload_n 1, 1) := by decide +kernel
theorem dX6_digest_39 : decode cX6_digest 39 = .ok (.aload_n 0, 1) := by decide +kernel
theorem dX6_digest_40 : decode cX6_digest 40 = .ok (.getfield 7, 3) := by decide +kernel
theorem dX6_digest_43 : decode cX6_digest 43 = .ok (.if_icmp .ge 14, 3) := by decide +kernel
theorem dX6_digest_46 : decode cX6_digest 46 = .ok (.aload_n 0, 1) := by decide +kernel
theorem dX6_digest_47 : decode cX6_digest 47 = .ok (.iload_n 1, 1) := by decide +kernel
theorem dX6_digest_48 : decode cX6_digest 48 = .ok (.invokevirtual 314, 3) := by decide +kernel
theorem dX6_digest_51 : decode cX6_digest 51 = .ok (.iinc 1 1, 3) := by decide +kernel
theorem dX6_digest_54 : decode cX6_digest 54 = .ok (.goto (-16), 3) := by decide +kernel
theorem dX6_digest_57 : decode cX6_digest 57 = .ok (.iconst 0, 1) := by decide +kernel
theorem dX6_digest_58 : decode cX6_digest 58 = .ok (.istore_n 1, 1) := by decide +kernel
theorem dX6_digest_59 : decode cX6_digest 59 = .ok (.iload_n 1, 1) := by decide +kernel
theorem dX6_digest_60 : decode cX6_digest 60 = .ok (.bipush 7, 2) := by decide +kernel
theorem dX6_digest_62 : decode cX6_digest 62 = .ok (.aload_n 0, 1) := by decide +kernel
theorem dX6_digest_63 : decode cX6_digest 63 = .ok (.getfield 13, 3) := by decide +kernel
theorem dX6_digest_66 : decode cX6_digest 66 = .ok (.imul, 1) := by decide +kernel
theorem dX6_digest_67 : decode cX6_digest 67 = .ok (.if_icmp .ge 26, 3) := by decide +kernel
theorem dX6_digest_70 : decode cX6_digest 70 = .ok (.aload_n 0, 1) := by decide +kernel
theorem dX6_digest_71 : decode cX6_digest 71 = .ok (.aload_n 0, 1) := by decide +kernel
theorem dX6_digest_72 : decode cX6_digest 72 = .ok (.iload_n 1, 1) := by decide +kernel
theorem dX6_digest_73 : decode cX6_digest 73 = .ok (.bipush 7, 2) := by decide +kernel
theorem dX6_digest_75 : decode cX6_digest 75 = .ok (.idiv, 1) := by decide +kernel
theorem dX6_digest_76 : decode cX6_digest 76 = .ok (.iload_n 1, 1) := by decide +kernel
theorem dX6_digest_77 : decode cX6_digest 77 = .ok (.bipush 7, 2) := by decide +kernel
theorem dX6_digest_79 : decode cX6_digest 79 = .ok (.irem, 1) := by decide +kernel
theorem dX6_digest_80 : decode cX6_digest 80 = .ok (.invokevirtual 274, 3) := by decide +kernel
theorem dX6_digest_83 : decode cX6_digest 83 = .ok (.i2l, 1) := by decide +kernel
theorem dX6_digest_84 : decode cX6_digest 84 = .ok (.invokevirtual 308, 3) := by decide +kernel
theorem dX6_digest_87 : decode cX6_digest 87 = .ok (.iinc 1 1, 3) := by decide +kernel
theorem dX6_digest_90 : decode cX6_digest 90 = .ok (.goto (-31), 3) := by decide +kernel
theorem dX6_digest_93 : decode cX6_digest 93 = .ok (.aload_n 0, 1) := by decide +kernel
theorem dX6_digest_94 : decode cX6_digest 94 = .ok (.aload_n 0, 1) := by decide +kernel
theorem dX6_digest_95 : decode cX6_digest 95 = .ok (.invokevirtual 295, 3) := by decide +kernel
theorem dX6_digest_98 : decode cX6_digest 98 = .ok (.i2l, 1) := by decide +kernel
theorem dX6_digest_99 : decode cX6_digest 99 = .ok (.invokevirtual 308, 3) := by decide +kernel
theorem dX6_digest_102 : decode cX6_digest 102 = .ok (.aload_n 0, 1) := by decide +kernel
theorem dX6_digest_103 : decode cX6_digest 103 = .ok (.aload_n 0, 1) := by decide +kernel
theorem dX6_digest_104 : decode cX6_digest 104 = .ok (.invokevirtual 298, 3) := by decide +kernel
theorem dX6_digest_107 : decode cX6_digest 107 = .ok (.invokestatic 317, 3) := by decide +kernel
theorem dX6_digest_110 : decode cX6_digest 110 = .ok (.invokevirtual 308, 3) := by decide +kernel
theorem dX6_digest_113 : decode cX6_digest 113 = .ok (.aload_n 0, 1) := by decide +kernel
theorem dX6_digest_114 : decode cX6_digest 114 = .ok (.aload_n 0, 1) := by decide +kernel
theorem dX6_digest_115 : decode cX6_digest 115 = .ok (.getfield 199, 3) := by decide +kernel
theorem dX6_digest_118 : decode cX6_digest 118 = .ok (.i2l, 1) := by decide +kernel
theorem dX6_digest_119 : decode cX6_digest 119 = .ok (.invokevirtual 308, 3) := by decide +kernel
theorem dX6_digest_122 : decode cX6_digest 122 = .ok (.iconst 0, 1) := by decide +kernel
theorem dX6_digest_123 : decode cX6_digest 123 = .ok (.istore_n 1, 1) := by decide +kernel
theorem dX6_digest_124 : decode cX6_digest 124 = .ok (.iload_n 1, 1) := by decide +kernel
theorem dX6_digest_125 : decode cX6_digest 125 = .ok (.aload_n 0, 1) := by decide +kernel
theorem dX6_digest_126 : decode cX6_digest 126 = .ok (.getfield 199, 3) := by decide +kernel
theorem dX6_digest_129 : decode cX6_digest 129 = .ok (.if_icmp .ge 20, 3) := by decide +kernel
theorem dX6_digest_132 : decode cX6_digest 132 = .ok (.aload_n 0, 1) := by decide +kernel
theorem dX6_digest_133 : decode cX6_digest 133 = .ok (.aload_n 0, 1) := by decide +kernel
theorem dX6_digest_134 : decode cX6_digest 134 = .ok (.getfield 82, 3) := by decide +kernel
theorem dX6_digest_137 : decode cX6_digest 137 = .ok (.iload_n 1, 1) := by decide +kernel
theorem dX6_digest_138 : decode cX6_digest 138 = .ok (.iaload, 1) := by decide +kernel
theorem dX6_digest_139 : decode cX6_digest 139 = .ok (.i2l, 1) := by decide +kernel
theorem dX6_digest_140 : decode cX6_digest 140 = .ok (.invokevirtual 308, 3) := by decide +kernel
theorem dX6_digest_143 : decode cX6_digest 143 = .ok (.iinc 1 1, 3) := by decide +kernel
theorem dX6_digest_146 : decode cX6_digest 146 = .ok (.goto (-22), 3) := by decide +kernel
theorem dX6_digest_149 : decode cX6_digest 149 = .ok (.aload_n 0, 1) := by decide +kernel
theorem dX6_digest_150 : decode cX6_digest 150 = .ok (.getfield 304, 3) := by decide +kernel
theorem dX6_digest_153 : decode cX6_digest 153 = .ok (.lreturn, 1) := by decide +kernel
