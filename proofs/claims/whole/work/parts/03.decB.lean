theorem dX7_init_0 : decode cX7_init 0 = .ok (.aload_n 0, 1) := by decide +kernel
theorem dX7_init_1 : decode cX7_init 1 = .ok (.invokespecial 1, 3) := by decide +kernel
theorem dX7_init_4 : decode cX7_init 4 = .ok (.aload_n 0, 1) := by decide +kernel
theorem dX7_init_5 : decode cX7_init 5 = .ok (.bipush 24, 2) := by decide +kernel
theorem dX7_init_7 : decode cX7_init 7 = .ok (.newarray .int, 2) := by decide +kernel
theorem dX7_init_9 : decode cX7_init 9 = .ok (.putfield 7, 3) := by decide +kernel
theorem dX7_init_12 : decode cX7_init 12 = .ok (.aload_n 0, 1) := by decide +kernel
theorem dX7_init_13 : decode cX7_init 13 = .ok (.bipush 24, 2) := by decide +kernel
theorem dX7_init_15 : decode cX7_init 15 = .ok (.newarray .int, 2) := by decide +kernel
theorem dX7_init_17 : decode cX7_init 17 = .ok (.putfield 13, 3) := by decide +kernel
theorem dX7_init_20 : decode cX7_init 20 = .ok (.aload_n 0, 1) := by decide +kernel
theorem dX7_init_21 : decode cX7_init 21 = .ok (.bipush 100, 2) := by decide +kernel
theorem dX7_init_23 : decode cX7_init 23 = .ok (.newarray .int, 2) := by decide +kernel
theorem dX7_init_25 : decode cX7_init 25 = .ok (.putfield 16, 3) := by decide +kernel
theorem dX7_init_28 : decode cX7_init 28 = .ok (.aload_n 0, 1) := by decide +kernel
theorem dX7_init_29 : decode cX7_init 29 = .ok (.bipush 100, 2) := by decide +kernel
theorem dX7_init_31 : decode cX7_init 31 = .ok (.newarray .int, 2) := by decide +kernel
theorem dX7_init_33 : decode cX7_init 33 = .ok (.putfield 19, 3) := by decide +kernel
theorem dX7_init_36 : decode cX7_init 36 = .ok (.aload_n 0, 1) := by decide +kernel
theorem dX7_init_37 : decode cX7_init 37 = .ok (.bipush 100, 2) := by decide +kernel
theorem dX7_init_39 : decode cX7_init 39 = .ok (.newarray .int, 2) := by decide +kernel
theorem dX7_init_41 : decode cX7_init 41 = .ok (.putfield 22, 3) := by decide +kernel
theorem dX7_init_44 : decode cX7_init 44 = .ok (.aload_n 0, 1) := by decide +kernel
theorem dX7_init_45 : decode cX7_init 45 = .ok (.bipush 100, 2) := by decide +kernel
theorem dX7_init_47 : decode cX7_init 47 = .ok (.newarray .int, 2) := by decide +kernel
theorem dX7_init_49 : decode cX7_init 49 = .ok (.putfield 25, 3) := by decide +kernel
theorem dX7_init_52 : decode cX7_init 52 = .ok (.aload_n 0, 1) := by decide +kernel
theorem dX7_init_53 : decode cX7_init 53 = .ok (.bipush 100, 2) := by decide +kernel
theorem dX7_init_55 : decode cX7_init 55 = .ok (.newarray .int, 2) := by decide +kernel
theorem dX7_init_57 : decode cX7_init 57 = .ok (.putfield 28, 3) := by decide +kernel
theorem dX7_init_60 : decode cX7_init 60 = .ok (.aload_n 0, 1) := by decide +kernel
theorem dX7_init_61 : decode cX7_init 61 = .ok (.bipush 100, 2) := by decide +kernel
theorem dX7_init_63 : decode cX7_init 63 = .ok (.newarray .int, 2) := by decide +kernel
theorem dX7_init_65 : decode cX7_init 65 = .ok (.putfield 31, 3) := by decide +kernel
theorem dX7_init_68 : decode cX7_init 68 = .ok (.aload_n 0, 1) := by decide +kernel
theorem dX7_init_69 : decode cX7_init 69 = .ok (.bipush 100, 2) := by decide +kernel
theorem dX7_init_71 : decode cX7_init 71 = .ok (.newarray .int, 2) := by decide +kernel
theorem dX7_init_73 : decode cX7_init 73 = .ok (.putfield 34, 3) := by decide +kernel
theorem dX7_init_76 : decode cX7_init 76 = .ok (.aload_n 0, 1) := by decide +kernel
theorem dX7_init_77 : decode cX7_init 77 = .ok (.sipush 400, 3) := by decide +kernel
theorem dX7_init_80 : decode cX7_init 80 = .ok (.newarray .int, 2) := by decide +kernel
theorem dX7_init_82 : decode cX7_init 82 = .ok (.putfield 37, 3) := by decide +kernel
theorem dX7_init_85 : decode cX7_init 85 = .ok (.aload_n 0, 1) := by decide +kernel
theorem dX7_init_86 : decode cX7_init 86 = .ok (.sipush 400, 3) := by decide +kernel
theorem dX7_init_89 : decode cX7_init 89 = .ok (.newarray .int, 2) := by decide +kernel
theorem dX7_init_91 : decode cX7_init 91 = .ok (.putfield 40, 3) := by decide +kernel
theorem dX7_init_94 : decode cX7_init 94 = .ok (.aload_n 0, 1) := by decide +kernel
theorem dX7_init_95 : decode cX7_init 95 = .ok (.sipush 400, 3) := by decide +kernel
theorem dX7_init_98 : decode cX7_init 98 = .ok (.newarray .int, 2) := by decide +kernel
theorem dX7_init_100 : decode cX7_init 100 = .ok (.putfield 43, 3) := by decide +kernel
theorem dX7_init_103 : decode cX7_init 103 = .ok (.aload_n 0, 1) := by decide +kernel
theorem dX7_init_104 : decode cX7_init 104 = .ok (.sipush 400, 3) := by decide +kernel
theorem dX7_init_107 : decode cX7_init 107 = .ok (.newarray .int, 2) := by decide +kernel
theorem dX7_init_109 : decode cX7_init 109 = .ok (.putfield 46, 3) := by decide +kernel
theorem dX7_init_112 : decode cX7_init 112 = .ok (.aload_n 0, 1) := by decide +kernel
theorem dX7_init_113 : decode cX7_init 113 = .ok (.bipush 100, 2) := by decide +kernel
theorem dX7_init_115 : decode cX7_init 115 = .ok (.newarray .boolean, 2) := by decide +kernel
theorem dX7_init_117 : decode cX7_init 117 = .ok (.putfield 49, 3) := by decide +kernel
theorem dX7_init_120 : decode cX7_init 120 = .ok (.aload_n 0, 1) := by decide +kernel
theorem dX7_init_121 : decode cX7_init 121 = .ok (.bipush 100, 2) := by decide +kernel
theorem dX7_init_123 : decode cX7_init 123 = .ok (.newarray .boolean, 2) := by decide +kernel
theorem dX7_init_125 : decode cX7_init 125 = .ok (.putfield 53, 3) := by decide +kernel
theorem dX7_init_128 : decode cX7_init 128 = .ok (.aload_n 0, 1) := by decide +kernel
theorem dX7_init_129 : decode cX7_init 129 = .ok (.sipush 1200, 3) := by decide +kernel
theorem dX7_init_132 : decode cX7_init 132 = .ok (.newarray .int, 2) := by decide +kernel
theorem dX7_init_134 : decode cX7_init 134 = .ok (.putfield 56, 3) := by decide +kernel
theorem dX7_init_137 : decode cX7_init 137 = .ok (.aload_n 0, 1) := by decide +kernel
theorem dX7_init_138 : decode cX7_init 138 = .ok (.sipush 1200, 3) := by decide +kernel
theorem dX7_init_141 : decode cX7_init 141 = .ok (.newarray .int, 2) := by decide +kernel
theorem dX7_init_143 : decode cX7_init 143 = .ok (.putfield 59, 3) := by decide +kernel
theorem dX7_init_146 : decode cX7_init 146 = .ok (.aload_n 0, 1) := by decide +kernel
theorem dX7_init_147 : decode cX7_init 147 = .ok (.sipush 1200, 3) := by decide +kernel
theorem dX7_init_150 : decode cX7_init 150 = .ok (.newarray .int, 2) := by decide +kernel
theorem dX7_init_152 : decode cX7_init 152 = .ok (.putfield 62, 3) := by decide +kernel
theorem dX7_init_155 : decode cX7_init 155 = .ok (.aload_n 0, 1) := by decide +kernel
theorem dX7_init_156 : decode cX7_init 156 = .ok (.sipush 1200, 3) := by decide +kernel
theorem dX7_init_159 : decode cX7_init 159 = .ok (.newarray .int, 2) := by decide +kernel
theorem dX7_init_161 : decode cX7_init 161 = .ok (.putfield 65, 3) := by decide +kernel
theorem dX7_init_164 : decode cX7_init 164 = .ok (.aload_n 0, 1) := by decide +kernel
theorem dX7_init_165 : decode cX7_init 165 = .ok (.sipush 1200, 3) := by decide +kernel
theorem dX7_init_168 : decode cX7_init 168 = .ok (.newarray .int, 2) := by decide +kernel
theorem dX7_init_170 : decode cX7_init 170 = .ok (.putfield 68, 3) := by decide +kernel
theorem dX7_init_173 : decode cX7_init 173 = .ok (.aload_n 0, 1) := by decide +kernel
theorem dX7_init_174 : decode cX7_init 174 = .ok (.sipush 1200, 3) := by decide +kernel
theorem dX7_init_177 : decode cX7_init 177 = .ok (.newarray .int, 2) := by decide +kernel
theorem dX7_init_179 : decode cX7_init 179 = .ok (.putfield 71, 3) := by decide +kernel
theorem dX7_init_182 : decode cX7_init 182 = .ok (.aload_n 0, 1) := by decide +kernel
theorem dX7_init_183 : decode cX7_init 183 = .ok (.sipush 1200, 3) := by decide +kernel
theorem dX7_init_186 : decode cX7_init 186 = .ok (.newarray .boolean, 2) := by decide +kernel
theorem dX7_init_188 : decode cX7_init 188 = .ok (.putfield 74, 3) := by decide +kernel
theorem dX7_init_191 : decode cX7_init 191 = .ok (.aload_n 0, 1) := by decide +kernel
theorem dX7_init_192 : decode cX7_init 192 = .ok (.sipush 2400, 3) := by decide +kernel
theorem dX7_init_195 : decode cX7_init 195 = .ok (.newarray .int, 2) := by decide +kernel
theorem dX7_init_197 : decode cX7_init 197 = .ok (.putfield 77, 3) := by decide +kernel
theorem dX7_init_200 : decode cX7_init 200 = .ok (.aload_n 0, 1) := by decide +kernel
theorem dX7_init_201 : decode cX7_init 201 = .ok (.sipush 1200, 3) := by decide +kernel
theorem dX7_init_204 : decode cX7_init 204 = .ok (.newarray .int, 2) := by decide +kernel
theorem dX7_init_206 : decode cX7_init 206 = .ok (.putfield 80, 3) := by decide +kernel
theorem dX7_init_209 : decode cX7_init 209 = .ok (.aload_n 0, 1) := by decide +kernel
theorem dX7_init_210 : decode cX7_init 210 = .ok (.sipush 1200, 3) := by decide +kernel
theorem dX7_init_213 : decode cX7_init 213 = .ok (.newarray .int, 2) := by decide +kernel
theorem dX7_init_215 : decode cX7_init 215 = .ok (.putfield 83, 3) := by decide +kernel
theorem dX7_init_218 : decode cX7_init 218 = .ok (.aload_n 0, 1) := by decide +kernel
theorem dX7_init_219 : decode cX7_init 219 = .ok (.sipush 1200, 3) := by decide +kernel
theorem dX7_init_222 : decode cX7_init 222 = .ok (.newarray .int, 2) := by decide +kernel
theorem dX7_init_224 : decode cX7_init 224 = .ok (.putfield 86, 3) := by decide +kernel
theorem dX7_init_227 : decode cX7_init 227 = .ok (.aload_n 0, 1) := by decide +kernel
theorem dX7_init_228 : decode cX7_init 228 = .ok (.sipush 2400, 3) := by decide +kernel
theorem dX7_init_231 : decode cX7_init 231 = .ok (.newarray .int, 2) := by decide +kernel
theorem dX7_init_233 : decode cX7_init 233 = .ok (.putfield 89, 3) := by decide +kernel
theorem dX7_init_236 : decode cX7_init 236 = .ok (.return_, 1) := by decide +kernel
theorem dX7_status_0 : decode cX7_status 0 = .ok (.aload_n 0, 1) := by decide +kernel
theorem dX7_status_1 : decode cX7_status 1 = .ok (.iconst 0, 1) := by decide +kernel
theorem dX7_status_2 : decode cX7_status 2 = .ok (.putfield 92, 3) := by decide +kernel
theorem dX7_status_5 : decode cX7_status 5 = .ok (.aload_n 0, 1) := by decide +kernel
theorem dX7_status_6 : decode cX7_status 6 = .ok (.getfield 96, 3) := by decide +kernel
theorem dX7_status_9 : decode cX7_status 9 = .ok (.ireturn, 1) := by decide +kernel
theorem dX7_refuse_0 : decode cX7_refuse 0 = .ok (.aload_n 0, 1) := by decide +kernel
theorem dX7_refuse_1 : decode cX7_refuse 1 = .ok (.iload_n 1, 1) := by decide +kernel
theorem dX7_refuse_2 : decode cX7_refuse 2 = .ok (.putfield 96, 3) := by decide +kernel
theorem dX7_refuse_5 : decode cX7_refuse 5 = .ok (.iconst (-1), 1) := by decide +kernel
theorem dX7_refuse_6 : decode cX7_refuse 6 = .ok (.ireturn, 1) := by decide +kernel
theorem dX7_no_0 : decode cX7_no 0 = .ok (.aload_n 0, 1) := by decide +kernel
theorem dX7_no_1 : decode cX7_no 1 = .ok (.iload_n 1, 1) := by decide +kernel
theorem dX7_no_2 : decode cX7_no 2 = .ok (.putfield 96, 3) := by decide +kernel
theorem dX7_no_5 : decode cX7_no 5 = .ok (.iconst 0, 1) := by decide +kernel
theorem dX7_no_6 : decode cX7_no 6 = .ok (.ireturn, 1) := by decide +kernel
theorem dX7_isNode_0 : decode cX7_isNode 0 = .ok (.iload_n 1, 1) := by decide +kernel
theorem dX7_isNode_1 : decode cX7_isNode 1 = .ok (.ifCond .lt 15, 3) := by decide +kernel
theorem dX7_isNode_4 : decode cX7_isNode 4 = .ok (.iload_n 1, 1) := by decide +kernel
theorem dX7_isNode_5 : decode cX7_isNode 5 = .ok (.aload_n 0, 1) := by decide +kernel
theorem dX7_isNode_6 : decode cX7_isNode 6 = .ok (.getfield 99, 3) := by decide +kernel
theorem dX7_isNode_9 : decode cX7_isNode 9 = .ok (.if_icmp .ge 7, 3) := by decide +kernel
theorem dX7_isNode_12 : decode cX7_isNode 12 = .ok (.iconst 1, 1) := by decide +kernel
theorem dX7_isNode_13 : decode cX7_isNode 13 = .ok (.goto 4, 3) := by decide +kernel
theorem dX7_isNode_16 : decode cX7_isNode 16 = .ok (.iconst 0, 1) := by decide +kernel
theorem dX7_isNode_17 : decode cX7_isNode 17 = .ok (.ireturn, 1) := by decide +kernel
theorem dX7_isLine_0 : decode cX7_isLine 0 = .ok (.iload_n 1, 1) := by decide +kernel
theorem dX7_isLine_1 : decode cX7_isLine 1 = .ok (.ifCond .lt 15, 3) := by decide +kernel
theorem dX7_isLine_4 : decode cX7_isLine 4 = .ok (.iload_n 1, 1) := by decide +kernel
theorem dX7_isLine_5 : decode cX7_isLine 5 = .ok (.aload_n 0, 1) := by decide +kernel
theorem dX7_isLine_6 : decode cX7_isLine 6 = .ok (.getfield 102, 3) := by decide +kernel
theorem dX7_isLine_9 : decode cX7_isLine 9 = .ok (.if_icmp .ge 7, 3) := by decide +kernel
theorem dX7_isLine_12 : decode cX7_isLine 12 = .ok (.iconst 1, 1) := by decide +kernel
theorem dX7_isLine_13 : decode cX7_isLine 13 = .ok (.goto 4, 3) := by decide +kernel
theorem dX7_isLine_16 : decode cX7_isLine 16 = .ok (.iconst 0, 1) := by decide +kernel
theorem dX7_isLine_17 : decode cX7_isLine 17 = .ok (.ireturn, 1) := by decide +kernel
theorem dX7_isTick_0 : decode cX7_isTick 0 = .ok (.iload_n 0, 1) := by decide +kernel
theorem dX7_isTick_1 : decode cX7_isTick 1 = .ok (.ifCond .lt 14, 3) := by decide +kernel
theorem dX7_isTick_4 : decode cX7_isTick 4 = .ok (.iload_n 0, 1) := by decide +kernel
theorem dX7_isTick_5 : decode cX7_isTick 5 = .ok (.sipush 5000, 3) := by decide +kernel
theorem dX7_isTick_8 : decode cX7_isTick 8 = .ok (.if_icmp .gt 7, 3) := by decide +kernel
theorem dX7_isTick_11 : decode cX7_isTick 11 = .ok (.iconst 1, 1) := by decide +kernel
theorem dX7_isTick_12 : decode cX7_isTick 12 = .ok (.goto 4, 3) := by decide +kernel
theorem dX7_isTick_15 : decode cX7_isTick 15 = .ok (.iconst 0, 1) := by decide +kernel
theorem dX7_isTick_16 : decode cX7_isTick 16 = .ok (.ireturn, 1) := by decide +kernel
theorem dX7_areWaits_0 : decode cX7_areWaits 0 = .ok (.iload_n 0, 1) := by decide +kernel
theorem dX7_areWaits_1 : decode cX7_areWaits 1 = .ok (.ifCond .lt 31, 3) := by decide +kernel
theorem dX7_areWaits_4 : decode cX7_areWaits 4 = .ok (.iload_n 0, 1) := by decide +kernel
theorem dX7_areWaits_5 : decode cX7_areWaits 5 = .ok (.sipush 200, 3) := by decide +kernel
theorem dX7_areWaits_8 : decode cX7_areWaits 8 = .ok (.if_icmp .gt 24, 3) := by decide +kernel
theorem dX7_areWaits_11 : decode cX7_areWaits 11 = .ok (.iload_n 1, 1) := by decide +kernel
theorem dX7_areWaits_12 : decode cX7_areWaits 12 = .ok (.iconst (-1), 1) := by decide +kernel
theorem dX7_areWaits_13 : decode cX7_areWaits 13 = .ok (.if_icmp .eq 15, 3) := by decide +kernel
theorem dX7_areWaits_16 : decode cX7_areWaits 16 = .ok (.iload_n 1, 1) := by decide +kernel
theorem dX7_areWaits_17 : decode cX7_areWaits 17 = .ok (.iload_n 0, 1) := by decide +kernel
theorem dX7_areWaits_18 : decode cX7_areWaits 18 = .ok (.if_icmp .lt 14, 3) := by decide +kernel
theorem dX7_areWaits_21 : decode cX7_areWaits 21 = .ok (.iload_n 1, 1) := by decide +kernel
theorem dX7_areWaits_22 : decode cX7_areWaits 22 = .ok (.sipush 5000, 3) := by decide +kernel
theorem dX7_areWaits_25 : decode cX7_areWaits 25 = .ok (.if_icmp .gt 7, 3) := by decide +kernel
theorem dX7_areWaits_28 : decode cX7_areWaits 28 = .ok (.iconst 1, 1) := by decide +kernel
theorem dX7_areWaits_29 : decode cX7_areWaits 29 = .ok (.goto 4, 3) := by decide +kernel
theorem dX7_areWaits_32 : decode cX7_areWaits 32 = .ok (.iconst 0, 1) := by decide +kernel
theorem dX7_areWaits_33 : decode cX7_areWaits 33 = .ok (.ireturn, 1) := by decide +kernel
theorem dX7_node_0 : decode cX7_node 0 = .ok (.aload_n 0, 1) := by decide +kernel
theorem dX7_node_1 : decode cX7_node 1 = .ok (.iconst 0, 1) := by decide +kernel
theorem dX7_node_2 : decode cX7_node 2 = .ok (.putfield 92, 3) := by decide +kernel
theorem dX7_node_5 : decode cX7_node 5 = .ok (.aload_n 0, 1) := by decide +kernel
theorem dX7_node_6 : decode cX7_node 6 = .ok (.iconst 0, 1) := by decide +kernel
theorem dX7_node_7 : decode cX7_node 7 = .ok (.putfield 96, 3) := by decide +kernel
theorem dX7_node_10 : decode cX7_node 10 = .ok (.iload_n 1, 1) := by decide +kernel
theorem dX7_node_11 : decode cX7_node 11 = .ok (.iload_n 2, 1) := by decide +kernel
theorem dX7_node_12 : decode cX7_node 12 = .ok (.invokestatic 105, 3) := by decide +kernel
theorem dX7_node_15 : decode cX7_node 15 = .ok (.ifCond .ne 9, 3) := by decide +kernel
theorem dX7_node_18 : decode cX7_node 18 = .ok (.aload_n 0, 1) := by decide +kernel
theorem dX7_node_19 : decode cX7_node 19 = .ok (.iconst 2, 1) := by decide +kernel
theorem dX7_node_20 : decode cX7_node 20 = .ok (.invokevirtual 109, 3) := by decide +kernel
theorem dX7_node_23 : decode cX7_node 23 = .ok (.ireturn, 1) := by decide +kernel
theorem dX7_node_24 : decode cX7_node 24 = .ok (.aload_n 0, 1) := by decide +kernel
theorem dX7_node_25 : decode cX7_node 25 = .ok (.getfield 99, 3) := by decide +kernel
theorem dX7_node_28 : decode cX7_node 28 = .ok (.bipush 24, 2) := by decide +kernel
theorem dX7_node_30 : decode cX7_node 30 = .ok (.if_icmp .ne 9, 3) := by decide +kernel
theorem dX7_node_33 : decode cX7_node 33 = .ok (.aload_n 0, 1) := by decide +kernel
theorem dX7_node_34 : decode cX7_node 34 = .ok (.iconst 3, 1) := by decide +kernel
theorem dX7_node_35 : decode cX7_node 35 = .ok (.invokevirtual 109, 3) := by decide +kernel
theorem dX7_node_38 : decode cX7_node 38 = .ok (.ireturn, 1) := by decide +kernel
theorem dX7_node_39 : decode cX7_node 39 = .ok (.aload_n 0, 1) := by decide +kernel
theorem dX7_node_40 : decode cX7_node 40 = .ok (.getfield 7, 3) := by decide +kernel
theorem dX7_node_43 : decode cX7_node 43 = .ok (.aload_n 0, 1) := by decide +kernel
theorem dX7_node_44 : decode cX7_node 44 = .ok (.getfield 99, 3) := by decide +kernel
theorem dX7_node_47 : decode cX7_node 47 = .ok (.iload_n 1, 1) := by decide +kernel
theorem dX7_node_48 : decode cX7_node 48 = .ok (.iastore, 1) := by decide +kernel
theorem dX7_node_49 : decode cX7_node 49 = .ok (.aload_n 0, 1) := by decide +kernel
theorem dX7_node_50 : decode cX7_node 50 = .ok (.getfield 13, 3) := by decide +kernel
theorem dX7_node_53 : decode cX7_node 53 = .ok (.aload_n 0, 1) := by decide +kernel
theorem dX7_node_54 : decode cX7_node 54 = .ok (.getfield 99, 3) := by decide +kernel
theorem dX7_node_57 : decode cX7_node 57 = .ok (.iload_n 2, 1) := by decide +kernel
theorem dX7_node_58 : decode cX7_node 58 = .ok (.iastore, 1) := by decide +kernel
theorem dX7_node_59 : decode cX7_node 59 = .ok (.aload_n 0, 1) := by decide +kernel
theorem dX7_node_60 : decode cX7_node 60 = .ok (.dup, 1) := by decide +kernel
theorem dX7_node_61 : decode cX7_node 61 = .ok (.getfield 99, 3) := by decide +kernel
theorem dX7_node_64 : decode cX7_node 64 = .ok (.iconst 1, 1) := by decide +kernel
theorem dX7_node_65 : decode cX7_node 65 = .ok (.iadd, 1) := by decide +kernel
theorem dX7_node_66 : decode cX7_node 66 = .ok (.putfield 99, 3) := by decide +kernel
theorem dX7_node_69 : decode cX7_node 69 = .ok (.aload_n 0, 1) := by decide +kernel
theorem dX7_node_70 : decode cX7_node 70 = .ok (.getfield 99, 3) := by decide +kernel
theorem dX7_node_73 : decode cX7_node 73 = .ok (.iconst 1, 1) := by decide +kernel
theorem dX7_node_74 : decode cX7_node 74 = .ok (.isub, 1) := by decide +kernel
theorem dX7_node_75 : decode cX7_node 75 = .ok (.ireturn, 1) := by decide +kernel
theorem dX7_waits_0 : decode cX7_waits 0 = .ok (.aload_n 0, 1) := by decide +kernel
theorem dX7_waits_1 : decode cX7_waits 1 = .ok (.iconst 0, 1) := by decide +kernel
theorem dX7_waits_2 : decode cX7_waits 2 = .ok (.putfield 92, 3) := by decide +kernel
theorem dX7_waits_5 : decode cX7_waits 5 = .ok (.aload_n 0, 1) := by decide +kernel
theorem dX7_waits_6 : decode cX7_waits 6 = .ok (.iconst 0, 1) := by decide +kernel
theorem dX7_waits_7 : decode cX7_waits 7 = .ok (.putfield 96, 3) := by decide +kernel
theorem dX7_waits_10 : decode cX7_waits 10 = .ok (.aload_n 0, 1) := by decide +kernel
theorem dX7_waits_11 : decode cX7_waits 11 = .ok (.iload_n 1, 1) := by decide +kernel
theorem dX7_waits_12 : decode cX7_waits 12 = .ok (.invokevirtual 113, 3) := by decide +kernel
theorem dX7_waits_15 : decode cX7_waits 15 = .ok (.ifCond .ne 9, 3) := by decide +kernel
theorem dX7_waits_18 : decode cX7_waits 18 = .ok (.aload_n 0, 1) := by decide +kernel
theorem dX7_waits_19 : decode cX7_waits 19 = .ok (.iconst 1, 1) := by decide +kernel
theorem dX7_waits_20 : decode cX7_waits 20 = .ok (.invokevirtual 117, 3) := by decide +kernel
theorem dX7_waits_23 : decode cX7_waits 23 = .ok (.ireturn, 1) := by decide +kernel
theorem dX7_waits_24 : decode cX7_waits 24 = .ok (.iload_n 2, 1) := by decide +kernel
theorem dX7_waits_25 : decode cX7_waits 25 = .ok (.iload_n 3, 1) := by decide +kernel
theorem dX7_waits_26 : decode cX7_waits 26 = .ok (.invokestatic 105, 3) := by decide +kernel
theorem dX7_waits_29 : decode cX7_waits 29 = .ok (.ifCond .ne 9, 3) := by decide +kernel
theorem dX7_waits_32 : decode cX7_waits 32 = .ok (.aload_n 0, 1) := by decide +kernel
theorem dX7_waits_33 : decode cX7_waits 33 = .ok (.iconst 2, 1) := by decide +kernel
theorem dX7_waits_34 : decode cX7_waits 34 = .ok (.invokevirtual 117, 3) := by decide +kernel
theorem dX7_waits_37 : decode cX7_waits 37 = .ok (.ireturn, 1) := by decide +kernel
theorem dX7_waits_38 : decode cX7_waits 38 = .ok (.aload_n 0, 1) := by decide +kernel
theorem dX7_waits_39 : decode cX7_waits 39 = .ok (.getfield 7, 3) := by decide +kernel
theorem dX7_waits_42 : decode cX7_waits 42 = .ok (.iload_n 1, 1) := by decide +kernel
theorem dX7_waits_43 : decode cX7_waits 43 = .ok (.iload_n 2, 1) := by decide +kernel
theorem dX7_waits_44 : decode cX7_waits 44 = .ok (.iastore, 1) := by decide +kernel
theorem dX7_waits_45 : decode cX7_waits 45 = .ok (.aload_n 0, 1) := by decide +kernel
theorem dX7_waits_46 : decode cX7_waits 46 = .ok (.getfield 13, 3) := by decide +kernel
theorem dX7_waits_49 : decode cX7_waits 49 = .ok (.iload_n 1, 1) := by decide +kernel
theorem dX7_waits_50 : decode cX7_waits 50 = .ok (.iload_n 3, 1) := by decide +kernel
theorem dX7_waits_51 : decode cX7_waits 51 = .ok (.iastore, 1) := by decide +kernel
theorem dX7_waits_52 : decode cX7_waits 52 = .ok (.iconst 1, 1) := by decide +kernel
theorem dX7_waits_53 : decode cX7_waits 53 = .ok (.ireturn, 1) := by decide +kernel
theorem dX7_logs_0 : decode cX7_logs 0 = .ok (.aload_n 0, 1) := by decide +kernel
theorem dX7_logs_1 : decode cX7_logs 1 = .ok (.getfield 37, 3) := by decide +kernel
theorem dX7_logs_4 : decode cX7_logs 4 = .ok (.aload_n 0, 1) := by decide +kernel
theorem dX7_logs_5 : decode cX7_logs 5 = .ok (.getfield 120, 3) := by decide +kernel
theorem dX7_logs_8 : decode cX7_logs 8 = .ok (.iload_n 1, 1) := by decide +kernel
theorem dX7_logs_9 : decode cX7_logs 9 = .ok (.iastore, 1) := by decide +kernel
theorem dX7_logs_10 : decode cX7_logs 10 = .ok (.aload_n 0, 1) := by decide +kernel
theorem dX7_logs_11 : decode cX7_logs 11 = .ok (.getfield 40, 3) := by decide +kernel
theorem dX7_logs_14 : decode cX7_logs 14 = .ok (.aload_n 0, 1) := by decide +kernel
theorem dX7_logs_15 : decode cX7_logs 15 = .ok (.getfield 120, 3) := by decide +kernel
theorem dX7_logs_18 : decode cX7_logs 18 = .ok (.iload_n 2, 1) := by decide +kernel
theorem dX7_logs_19 : decode cX7_logs 19 = .ok (.iastore, 1) := by decide +kernel
theorem dX7_logs_20 : decode cX7_logs 20 = .ok (.aload_n 0, 1) := by decide +kernel
theorem dX7_logs_21 : decode cX7_logs 21 = .ok (.getfield 43, 3) := by decide +kernel
theorem dX7_logs_24 : decode cX7_logs 24 = .ok (.aload_n 0, 1) := by decide +kernel
theorem dX7_logs_25 : decode cX7_logs 25 = .ok (.getfield 120, 3) := by decide +kernel
theorem dX7_logs_28 : decode cX7_logs 28 = .ok (.iload_n 3, 1) := by decide +kernel
theorem dX7_logs_29 : decode cX7_logs 29 = .ok (.iastore, 1) := by decide +kernel
theorem dX7_logs_30 : decode cX7_logs 30 = .ok (.aload_n 0, 1) := by decide +kernel
theorem dX7_logs_31 : decode cX7_logs 31 = .ok (.getfield 46, 3) := by decide +kernel
theorem dX7_logs_34 : decode cX7_logs 34 = .ok (.aload_n 0, 1) := by decide +kernel
theorem dX7_logs_35 : decode cX7_logs 35 = .ok (.getfield 120, 3) := by decide +kernel
theorem dX7_logs_38 : decode cX7_logs 38 = .ok (.iload 4, 2) := by decide +kernel
theorem dX7_logs_40 : decode cX7_logs 40 = .ok (.iastore, 1) := by decide +kernel
theorem dX7_logs_41 : decode cX7_logs 41 = .ok (.aload_n 0, 1) := by decide +kernel
theorem dX7_logs_42 : decode cX7_logs 42 = .ok (.dup, 1) := by decide +kernel
theorem dX7_logs_43 : decode cX7_logs 43 = .ok (.getfield 120, 3) := by decide +kernel
theorem dX7_logs_46 : decode cX7_logs 46 = .ok (.iconst 1, 1) := by decide +kernel
theorem dX7_logs_47 : decode cX7_logs 47 = .ok (.iadd, 1) := by decide +kernel
theorem dX7_logs_48 : decode cX7_logs 48 = .ok (.putfield 120, 3) := by decide +kernel
theorem dX7_logs_51 : decode cX7_logs 51 = .ok (.return_, 1) := by decide +kernel
theorem dX7_line_0 : decode cX7_line 0 = .ok (.aload_n 0, 1) := by decide +kernel
theorem dX7_line_1 : decode cX7_line 1 = .ok (.iconst 0, 1) := by decide +kernel
theorem dX7_line_2 : decode cX7_line 2 = .ok (.putfield 92, 3) := by decide +kernel
theorem dX7_line_5 : decode cX7_line 5 = .ok (.aload_n 0, 1) := by decide +kernel
theorem dX7_line_6 : decode cX7_line 6 = .ok (.iconst 0, 1) := by decide +kernel
theorem dX7_line_7 : decode cX7_line 7 = .ok (.putfield 96, 3) := by decide +kernel
theorem dX7_line_10 : decode cX7_line 10 = .ok (.aload_n 0, 1) := by decide +kernel
theorem dX7_line_11 : decode cX7_line 11 = .ok (.iload_n 1, 1) := by decide +kernel
theorem dX7_line_12 : decode cX7_line 12 = .ok (.invokevirtual 113, 3) := by decide +kernel
theorem dX7_line_15 : decode cX7_line 15 = .ok (.ifCond .eq 16, 3) := by decide +kernel
theorem dX7_line_18 : decode cX7_line 18 = .ok (.aload_n 0, 1) := by decide +kernel
theorem dX7_line_19 : decode cX7_line 19 = .ok (.iload_n 2, 1) := by decide +kernel
theorem dX7_line_20 : decode cX7_line 20 = .ok (.invokevirtual 113, 3) := by decide +kernel
theorem dX7_line_23 : decode cX7_line 23 = .ok (.ifCond .eq 8, 3) := by decide +kernel
theorem dX7_line_26 : decode cX7_line 26 = .ok (.iload_n 1, 1) := by decide +kernel
theorem dX7_line_27 : decode cX7_line 27 = .ok (.iload_n 2, 1) := by decide +kernel
theorem dX7_line_28 : decode cX7_line 28 = .ok (.if_icmp .ne 9, 3) := by decide +kernel
theorem dX7_line_31 : decode cX7_line 31 = .ok (.aload_n 0, 1) := by decide +kernel
theorem dX7_line_32 : decode cX7_line 32 = .ok (.iconst 1, 1) := by decide +kernel
theorem dX7_line_33 : decode cX7_line 33 = .ok (.invokevirtual 109, 3) := by decide +kernel
theorem dX7_line_36 : decode cX7_line 36 = .ok (.ireturn, 1) := by decide +kernel
theorem dX7_line_37 : decode cX7_line 37 = .ok (.iload_n 3, 1) := by decide +kernel
theorem dX7_line_38 : decode cX7_line 38 = .ok (.ifCond .lt 30, 3) := by decide +kernel
theorem dX7_line_41 : decode cX7_line 41 = .ok (.iload_n 3, 1) := by decide +kernel
theorem dX7_line_42 : decode cX7_line 42 = .ok (.iconst 2, 1) := by decide +kernel
theorem dX7_line_43 : decode cX7_line 43 = .ok (.if_icmp .gt 25, 3) := by decide +kernel
theorem dX7_line_46 : decode cX7_line 46 = .ok (.iload 4, 2) := by decide +kernel
theorem dX7_line_48 : decode cX7_line 48 = .ok (.invokestatic 123, 3) := by decide +kernel
theorem dX7_line_51 : decode cX7_line 51 = .ok (.ifCond .eq 17, 3) := by decide +kernel
theorem dX7_line_54 : decode cX7_line 54 = .ok (.iload 5, 2) := by decide +kernel
theorem dX7_line_56 : decode cX7_line 56 = .ok (.iconst 1, 1) := by decide +kernel
theorem dX7_line_57 : decode cX7_line 57 = .ok (.if_icmp .lt 11, 3) := by decide +kernel
theorem dX7_line_60 : decode cX7_line 60 = .ok (.iload 5, 2) := by decide +kernel
theorem dX7_line_62 : decode cX7_line 62 = .ok (.sipush 500, 3) := by decide +kernel
theorem dX7_line_65 : decode cX7_line 65 = .ok (.if_icmp .le 9, 3) := by decide +kernel
theorem dX7_line_68 : decode cX7_line 68 = .ok (.aload_n 0, 1) := by decide +kernel
theorem dX7_line_69 : decode cX7_line 69 = .ok (.iconst 2, 1) := by decide +kernel
theorem dX7_line_70 : decode cX7_line 70 = .ok (.invokevirtual 109, 3) := by decide +kernel
theorem dX7_line_73 : decode cX7_line 73 = .ok (.ireturn, 1) := by decide +kernel
theorem dX7_line_74 : decode cX7_line 74 = .ok (.iload_n 3, 1) := by decide +kernel
theorem dX7_line_75 : decode cX7_line 75 = .ok (.ifCond .le 16, 3) := by decide +kernel
theorem dX7_line_78 : decode cX7_line 78 = .ok (.iload 6, 2) := by decide +kernel
theorem dX7_line_80 : decode cX7_line 80 = .ok (.iconst 2, 1) := by decide +kernel
theorem dX7_line_81 : decode cX7_line 81 = .ok (.if_icmp .lt 29, 3) := by decide +kernel
theorem dX7_line_84 : decode cX7_line 84 = .ok (.iload 6, 2) := by decide +kernel
theorem dX7_line_86 : decode cX7_line 86 = .ok (.bipush 60, 2) := by decide +kernel
theorem dX7_line_88 : decode cX7_line 88 = .ok (.if_icmp .gt 22, 3) := by decide +kernel
theorem dX7_line_91 : decode cX7_line 91 = .ok (.iload_n 3, 1) := by decide +kernel
theorem dX7_line_92 : decode cX7_line 92 = .ok (.iconst 1, 1) := by decide +kernel
theorem dX7_line_93 : decode cX7_line 93 = .ok (.if_icmp .ne 23, 3) := by decide +kernel
theorem dX7_line_96 : decode cX7_line 96 = .ok (.iload 7, 2) := by decide +kernel
theorem dX7_line_98 : decode cX7_line 98 = .ok (.iconst 1, 1) := by decide +kernel
theorem dX7_line_99 : decode cX7_line 99 = .ok (.if_icmp .lt 11, 3) := by decide +kernel
theorem dX7_line_102 : decode cX7_line 102 = .ok (.iload 7, 2) := by decide +kernel
theorem dX7_line_104 : decode cX7_line 104 = .ok (.sipush 500, 3) := by decide +kernel
theorem dX7_line_107 : decode cX7_line 107 = .ok (.if_icmp .le 9, 3) := by decide +kernel
theorem dX7_line_110 : decode cX7_line 110 = .ok (.aload_n 0, 1) := by decide +kernel
theorem dX7_line_111 : decode cX7_line 111 = .ok (.iconst 2, 1) := by decide +kernel
theorem dX7_line_112 : decode cX7_line 112 = .ok (.invokevirtual 109, 3) := by decide +kernel
theorem dX7_line_115 : decode cX7_line 115 = .ok (.ireturn, 1) := by decide +kernel
theorem dX7_line_116 : decode cX7_line 116 = .ok (.iload_n 3, 1) := by decide +kernel
theorem dX7_line_117 : decode cX7_line 117 = .ok (.ifCond .ne 7, 3) := by decide +kernel
theorem dX7_line_120 : decode cX7_line 120 = .ok (.iconst 1, 1) := by decide +kernel
theorem dX7_line_121 : decode cX7_line 121 = .ok (.goto 5, 3) := by decide +kernel
theorem dX7_line_124 : decode cX7_line 124 = .ok (.iload 6, 2) := by decide +kernel
theorem dX7_line_126 : decode cX7_line 126 = .ok (.istore 8, 2) := by decide +kernel
theorem dX7_line_128 : decode cX7_line 128 = .ok (.aload_n 0, 1) := by decide +kernel
theorem dX7_line_129 : decode cX7_line 129 = .ok (.getfield 102, 3) := by decide +kernel
theorem dX7_line_132 : decode cX7_line 132 = .ok (.bipush 100, 2) := by decide +kernel
theorem dX7_line_134 : decode cX7_line 134 = .ok (.if_icmp .eq 26, 3) := by decide +kernel
theorem dX7_line_137 : decode cX7_line 137 = .ok (.aload_n 0, 1) := by decide +kernel
theorem dX7_line_138 : decode cX7_line 138 = .ok (.getfield 126, 3) := by decide +kernel
theorem dX7_line_141 : decode cX7_line 141 = .ok (.iload 8, 2) := by decide +kernel
theorem dX7_line_143 : decode cX7_line 143 = .ok (.iadd, 1) := by decide +kernel
theorem dX7_line_144 : decode cX7_line 144 = .ok (.sipush 1200, 3) := by decide +kernel
theorem dX7_line_147 : decode cX7_line 147 = .ok (.if_icmp .gt 13, 3) := by decide +kernel
theorem dX7_line_150 : decode cX7_line 150 = .ok (.aload_n 0, 1) := by decide +kernel
theorem dX7_line_151 : decode cX7_line 151 = .ok (.getfield 120, 3) := by decide +kernel
theorem dX7_line_154 : decode cX7_line 154 = .ok (.sipush 400, 3) := by decide +kernel
theorem dX7_line_157 : decode cX7_line 157 = .ok (.if_icmp .ne 9, 3) := by decide +kernel
theorem dX7_line_160 : decode cX7_line 160 = .ok (.aload_n 0, 1) := by decide +kernel
theorem dX7_line_161 : decode cX7_line 161 = .ok (.iconst 3, 1) := by decide +kernel
theorem dX7_line_162 : decode cX7_line 162 = .ok (.invokevirtual 109, 3) := by decide +kernel
theorem dX7_line_165 : decode cX7_line 165 = .ok (.ireturn, 1) := by decide +kernel
theorem dX7_line_166 : decode cX7_line 166 = .ok (.aload_n 0, 1) := by decide +kernel
theorem dX7_line_167 : decode cX7_line 167 = .ok (.getfield 16, 3) := by decide +kernel
theorem dX7_line_170 : decode cX7_line 170 = .ok (.aload_n 0, 1) := by decide +kernel
theorem dX7_line_171 : decode cX7_line 171 = .ok (.getfield 102, 3) := by decide +kernel
theorem dX7_line_174 : decode cX7_line 174 = .ok (.iload_n 1, 1) := by decide +kernel
theorem dX7_line_175 : decode cX7_line 175 = .ok (.iastore, 1) := by decide +kernel
theorem dX7_line_176 : decode cX7_line 176 = .ok (.aload_n 0, 1) := by decide +kernel
theorem dX7_line_177 : decode cX7_line 177 = .ok (.getfield 19, 3) := by decide +kernel
theorem dX7_line_180 : decode cX7_line 180 = .ok (.aload_n 0, 1) := by decide +kernel
theorem dX7_line_181 : decode cX7_line 181 = .ok (.getfield 102, 3) := by decide +kernel
theorem dX7_line_184 : decode cX7_line 184 = .ok (.iload_n 2, 1) := by decide +kernel
theorem dX7_line_185 : decode cX7_line 185 = .ok (.iastore, 1) := by decide +kernel
theorem dX7_line_186 : decode cX7_line 186 = .ok (.aload_n 0, 1) := by decide +kernel
theorem dX7_line_187 : decode cX7_line 187 = .ok (.getfield 22, 3) := by decide +kernel
theorem dX7_line_190 : decode cX7_line 190 = .ok (.aload_n 0, 1) := by decide +kernel
theorem dX7_line_191 : decode cX7_line 191 = .ok (.getfield 102, 3) := by decide +kernel
theorem dX7_line_194 : decode cX7_line 194 = .ok (.iload_n 3, 1) := by decide +kernel
theorem dX7_line_195 : decode cX7_line 195 = .ok (.iastore, 1) := by decide +kernel
theorem dX7_line_196 : decode cX7_line 196 = .ok (.aload_n 0, 1) := by decide +kernel
theorem dX7_line_197 : decode cX7_line 197 = .ok (.getfield 25, 3) := by decide +kernel
theorem dX7_line_200 : decode cX7_line 200 = .ok (.aload_n 0, 1) := by decide +kernel
theorem dX7_line_201 : decode cX7_line 201 = .ok (.getfield 102, 3) := by decide +kernel
theorem dX7_line_204 : decode cX7_line 204 = .ok (.iload 4, 2) := by decide +kernel
theorem dX7_line_206 : decode cX7_line 206 = .ok (.iastore, 1) := by decide +kernel
theorem dX7_line_207 : decode cX7_line 207 = .ok (.aload_n 0, 1) := by decide +kernel
theorem dX7_line_208 : decode cX7_line 208 = .ok (.getfield 28, 3) := by decide +kernel
theorem dX7_line_211 : decode cX7_line 211 = .ok (.aload_n 0, 1) := by decide +kernel
theorem dX7_line_212 : decode cX7_line 212 = .ok (.getfield 102, 3) := by decide +kernel
theorem dX7_line_215 : decode cX7_line 215 = .ok (.iload 5, 2) := by decide +kernel
theorem dX7_line_217 : decode cX7_line 217 = .ok (.iastore, 1) := by decide +kernel
theorem dX7_line_218 : decode cX7_line 218 = .ok (.aload_n 0, 1) := by decide +kernel
theorem dX7_line_219 : decode cX7_line 219 = .ok (.getfield 31, 3) := by decide +kernel
theorem dX7_line_222 : decode cX7_line 222 = .ok (.aload_n 0, 1) := by decide +kernel
theorem dX7_line_223 : decode cX7_line 223 = .ok (.getfield 102, 3) := by decide +kernel
theorem dX7_line_226 : decode cX7_line 226 = .ok (.iload 8, 2) := by decide +kernel
theorem dX7_line_228 : decode cX7_line 228 = .ok (.iastore, 1) := by decide +kernel
theorem dX7_line_229 : decode cX7_line 229 = .ok (.aload_n 0, 1) := by decide +kernel
theorem dX7_line_230 : decode cX7_line 230 = .ok (.getfield 34, 3) := by decide +kernel
theorem dX7_line_233 : decode cX7_line 233 = .ok (.aload_n 0, 1) := by decide +kernel
theorem dX7_line_234 : decode cX7_line 234 = .ok (.getfield 102, 3) := by decide +kernel
theorem dX7_line_237 : decode cX7_line 237 = .ok (.iload_n 3, 1) := by decide +kernel
theorem dX7_line_238 : decode cX7_line 238 = .ok (.iconst 1, 1) := by decide +kernel
theorem dX7_line_239 : decode cX7_line 239 = .ok (.if_icmp .ne 8, 3) := by decide +kernel
theorem dX7_line_242 : decode cX7_line 242 = .ok (.iload 7, 2) := by decide +kernel
theorem dX7_line_244 : decode cX7_line 244 = .ok (.goto 4, 3) := by decide +kernel
theorem dX7_line_247 : decode cX7_line 247 = .ok (.iconst 0, 1) := by decide +kernel
theorem dX7_line_248 : decode cX7_line 248 = .ok (.iastore, 1) := by decide +kernel
theorem dX7_line_249 : decode cX7_line 249 = .ok (.aload_n 0, 1) := by decide +kernel
theorem dX7_line_250 : decode cX7_line 250 = .ok (.iconst 0, 1) := by decide +kernel
theorem dX7_line_251 : decode cX7_line 251 = .ok (.aload_n 0, 1) := by decide +kernel
theorem dX7_line_252 : decode cX7_line 252 = .ok (.getfield 102, 3) := by decide +kernel
theorem dX7_line_255 : decode cX7_line 255 = .ok (.iconst 0, 1) := by decide +kernel
theorem dX7_line_256 : decode cX7_line 256 = .ok (.iconst 0, 1) := by decide +kernel
theorem dX7_line_257 : decode cX7_line 257 = .ok (.invokevirtual 129, 3) := by decide +kernel
theorem dX7_line_260 : decode cX7_line 260 = .ok (.aload_n 0, 1) := by decide +kernel
theorem dX7_line_261 : decode cX7_line 261 = .ok (.dup, 1) := by decide +kernel
theorem dX7_line_262 : decode cX7_line 262 = .ok (.getfield 102, 3) := by decide +kernel
theorem dX7_line_265 : decode cX7_line 265 = .ok (.iconst 1, 1) := by decide +kernel
theorem dX7_line_266 : decode cX7_line 266 = .ok (.iadd, 1) := by decide +kernel
theorem dX7_line_267 : decode cX7_line 267 = .ok (.putfield 102, 3) := by decide +kernel
theorem dX7_line_270 : decode cX7_line 270 = .ok (.aload_n 0, 1) := by decide +kernel
theorem dX7_line_271 : decode cX7_line 271 = .ok (.dup, 1) := by decide +kernel
theorem dX7_line_272 : decode cX7_line 272 = .ok (.getfield 126, 3) := by decide +kernel
theorem dX7_line_275 : decode cX7_line 275 = .ok (.iload 8, 2) := by decide +kernel
theorem dX7_line_277 : decode cX7_line 277 = .ok (.iadd, 1) := by decide +kernel
theorem dX7_line_278 : decode cX7_line 278 = .ok (.putfield 126, 3) := by decide +kernel
theorem dX7_line_281 : decode cX7_line 281 = .ok (.aload_n 0, 1) := by decide +kernel
theorem dX7_line_282 : decode cX7_line 282 = .ok (.getfield 102, 3) := by decide +kernel
theorem dX7_line_285 : decode cX7_line 285 = .ok (.iconst 1, 1) := by decide +kernel
theorem dX7_line_286 : decode cX7_line 286 = .ok (.isub, 1) := by decide +kernel
theorem dX7_line_287 : decode cX7_line 287 = .ok (.ireturn, 1) := by decide +kernel
theorem dX7_isStruckNow_0 : decode cX7_isStruckNow 0 = .ok (.iconst 0, 1) := by decide +kernel
theorem dX7_isStruckNow_1 : decode cX7_isStruckNow 1 = .ok (.istore_n 2, 1) := by decide +kernel
theorem dX7_isStruckNow_2 : decode cX7_isStruckNow 2 = .ok (.iload_n 2, 1) := by decide +kernel
theorem dX7_isStruckNow_3 : decode cX7_isStruckNow 3 = .ok (.aload_n 0, 1) := by decide +kernel
theorem dX7_isStruckNow_4 : decode cX7_isStruckNow 4 = .ok (.getfield 120, 3) := by decide +kernel
theorem dX7_isStruckNow_7 : decode cX7_isStruckNow 7 = .ok (.if_icmp .ge 31, 3) := by decide +kernel
theorem dX7_isStruckNow_10 : decode cX7_isStruckNow 10 = .ok (.aload_n 0, 1) := by decide +kernel
theorem dX7_isStruckNow_11 : decode cX7_isStruckNow 11 = .ok (.getfield 37, 3) := by decide +kernel
theorem dX7_isStruckNow_14 : decode cX7_isStruckNow 14 = .ok (.iload_n 2, 1) := by decide +kernel
theorem dX7_isStruckNow_15 : decode cX7_isStruckNow 15 = .ok (.iaload, 1) := by decide +kernel
theorem dX7_isStruckNow_16 : decode cX7_isStruckNow 16 = .ok (.iconst 1, 1) := by decide +kernel
theorem dX7_isStruckNow_17 : decode cX7_isStruckNow 17 = .ok (.if_icmp .ne 15, 3) := by decide +kernel
theorem dX7_isStruckNow_20 : decode cX7_isStruckNow 20 = .ok (.aload_n 0, 1) := by decide +kernel
theorem dX7_isStruckNow_21 : decode cX7_isStruckNow 21 = .ok (.getfield 40, 3) := by decide +kernel
theorem dX7_isStruckNow_24 : decode cX7_isStruckNow 24 = .ok (.iload_n 2, 1) := by decide +kernel
theorem dX7_isStruckNow_25 : decode cX7_isStruckNow 25 = .ok (.iaload, 1) := by decide +kernel
theorem dX7_isStruckNow_26 : decode cX7_isStruckNow 26 = .ok (.iload_n 1, 1) := by decide +kernel
theorem dX7_isStruckNow_27 : decode cX7_isStruckNow 27 = .ok (.if_icmp .ne 5, 3) := by decide +kernel
theorem dX7_isStruckNow_30 : decode cX7_isStruckNow 30 = .ok (.iconst 1, 1) := by decide +kernel
theorem dX7_isStruckNow_31 : decode cX7_isStruckNow 31 = .ok (.ireturn, 1) := by decide +kernel
theorem dX7_isStruckNow_32 : decode cX7_isStruckNow 32 = .ok (.iinc 2 1, 3) := by decide +kernel
theorem dX7_isStruckNow_35 : decode cX7_isStruckNow 35 = .ok (.goto (-33), 3) := by decide +kernel
theorem dX7_isStruckNow_38 : decode cX7_isStruckNow 38 = .ok (.iconst 0, 1) := by decide +kernel
theorem dX7_isStruckNow_39 : decode cX7_isStruckNow 39 = .ok (.ireturn, 1) := by decide +kernel
theorem dX7_strike_0 : decode cX7_strike 0 = .ok (.aload_n 0, 1) := by decide +kernel
theorem dX7_strike_1 : decode cX7_strike 1 = .ok (.iconst 0, 1) := by decide +kernel
theorem dX7_strike_2 : decode cX7_strike 2 = .ok (.putfield 92, 3) := by decide +kernel
theorem dX7_strike_5 : decode cX7_strike 5 = .ok (.aload_n 0, 1) := by decide +kernel
theorem dX7_strike_6 : decode cX7_strike 6 = .ok (.iconst 0, 1) := by decide +kernel
theorem dX7_strike_7 : decode cX7_strike 7 = .ok (.putfield 96, 3) := by decide +kernel
theorem dX7_strike_10 : decode cX7_strike 10 = .ok (.aload_n 0, 1) := by decide +kernel
theorem dX7_strike_11 : decode cX7_strike 11 = .ok (.iload_n 1, 1) := by decide +kernel
theorem dX7_strike_12 : decode cX7_strike 12 = .ok (.invokevirtual 133, 3) := by decide +kernel
theorem dX7_strike_15 : decode cX7_strike 15 = .ok (.ifCond .ne 9, 3) := by decide +kernel
theorem dX7_strike_18 : decode cX7_strike 18 = .ok (.aload_n 0, 1) := by decide +kernel
theorem dX7_strike_19 : decode cX7_strike 19 = .ok (.iconst 1, 1) := by decide +kernel
theorem dX7_strike_20 : decode cX7_strike 20 = .ok (.invokevirtual 117, 3) := by decide +kernel
theorem dX7_strike_23 : decode cX7_strike 23 = .ok (.ireturn, 1) := by decide +kernel
theorem dX7_strike_24 : decode cX7_strike 24 = .ok (.aload_n 0, 1) := by decide +kernel
theorem dX7_strike_25 : decode cX7_strike 25 = .ok (.getfield 120, 3) := by decide +kernel
theorem dX7_strike_28 : decode cX7_strike 28 = .ok (.sipush 400, 3) := by decide +kernel
theorem dX7_strike_31 : decode cX7_strike 31 = .ok (.if_icmp .ne 9, 3) := by decide +kernel
theorem dX7_strike_34 : decode cX7_strike 34 = .ok (.aload_n 0, 1) := by decide +kernel
theorem dX7_strike_35 : decode cX7_strike 35 = .ok (.iconst 3, 1) := by decide +kernel
theorem dX7_strike_36 : decode cX7_strike 36 = .ok (.invokevirtual 117, 3) := by decide +kernel
theorem dX7_strike_39 : decode cX7_strike 39 = .ok (.ireturn, 1) := by decide +kernel
theorem dX7_strike_40 : decode cX7_strike 40 = .ok (.aload_n 0, 1) := by decide +kernel
theorem dX7_strike_41 : decode cX7_strike 41 = .ok (.iload_n 1, 1) := by decide +kernel
theorem dX7_strike_42 : decode cX7_strike 42 = .ok (.invokevirtual 136, 3) := by decide +kernel
theorem dX7_strike_45 : decode cX7_strike 45 = .ok (.ifCond .eq 9, 3) := by decide +kernel
theorem dX7_strike_48 : decode cX7_strike 48 = .ok (.aload_n 0, 1) := by decide +kernel
theorem dX7_strike_49 : decode cX7_strike 49 = .ok (.iconst 4, 1) := by decide +kernel
theorem dX7_strike_50 : decode cX7_strike 50 = .ok (.invokevirtual 117, 3) := by decide +kernel
theorem dX7_strike_53 : decode cX7_strike 53 = .ok (.ireturn, 1) := by decide +kernel
theorem dX7_strike_54 : decode cX7_strike 54 = .ok (.aload_n 0, 1) := by decide +kernel
theorem dX7_strike_55 : decode cX7_strike 55 = .ok (.iconst 1, 1) := by decide +kernel
theorem dX7_strike_56 : decode cX7_strike 56 = .ok (.iload_n 1, 1) := by decide +kernel
theorem dX7_strike_57 : decode cX7_strike 57 = .ok (.iconst 0, 1) := by decide +kernel
theorem dX7_strike_58 : decode cX7_strike 58 = .ok (.iconst 0, 1) := by decide +kernel
theorem dX7_strike_59 : decode cX7_strike 59 = .ok (.invokevirtual 129, 3) := by decide +kernel
theorem dX7_strike_62 : decode cX7_strike 62 = .ok (.iconst 1, 1) := by decide +kernel
theorem dX7_strike_63 : decode cX7_strike 63 = .ok (.ireturn, 1) := by decide +kernel
theorem dX7_delay_0 : decode cX7_delay 0 = .ok (.aload_n 0, 1) := by decide +kernel
theorem dX7_delay_1 : decode cX7_delay 1 = .ok (.iconst 0, 1) := by decide +kernel
theorem dX7_delay_2 : decode cX7_delay 2 = .ok (.putfield 92, 3) := by decide +kernel
theorem dX7_delay_5 : decode cX7_delay 5 = .ok (.aload_n 0, 1) := by decide +kernel
theorem dX7_delay_6 : decode cX7_delay 6 = .ok (.iconst 0, 1) := by decide +kernel
theorem dX7_delay_7 : decode cX7_delay 7 = .ok (.putfield 96, 3) := by decide +kernel
theorem dX7_delay_10 : decode cX7_delay 10 = .ok (.aload_n 0, 1) := by decide +kernel
theorem dX7_delay_11 : decode cX7_delay 11 = .ok (.iload_n 1, 1) := by decide +kernel
theorem dX7_delay_12 : decode cX7_delay 12 = .ok (.invokevirtual 133, 3) := by decide +kernel
theorem dX7_delay_15 : decode cX7_delay 15 = .ok (.ifCond .eq 17, 3) := by decide +kernel
theorem dX7_delay_18 : decode cX7_delay 18 = .ok (.iload_n 2, 1) := by decide +kernel
theorem dX7_delay_19 : decode cX7_delay 19 = .ok (.ifCond .lt 13, 3) := by decide +kernel
theorem dX7_delay_22 : decode cX7_delay 22 = .ok (.iload_n 2, 1) := by decide +kernel
theorem dX7_delay_23 : decode cX7_delay 23 = .ok (.aload_n 0, 1) := by decide +kernel
theorem dX7_delay_24 : decode cX7_delay 24 = .ok (.getfield 31, 3) := by decide +kernel
theorem dX7_delay_27 : decode cX7_delay 27 = .ok (.iload_n 1, 1) := by decide +kernel
theorem dX7_delay_28 : decode cX7_delay 28 = .ok (.iaload, 1) := by decide +kernel
theorem dX7_delay_29 : decode cX7_delay 29 = .ok (.if_icmp .lt 9, 3) := by decide +kernel
theorem dX7_delay_32 : decode cX7_delay 32 = .ok (.aload_n 0, 1) := by decide +kernel
theorem dX7_delay_33 : decode cX7_delay 33 = .ok (.iconst 1, 1) := by decide +kernel
theorem dX7_delay_34 : decode cX7_delay 34 = .ok (.invokevirtual 117, 3) := by decide +kernel
theorem dX7_delay_37 : decode cX7_delay 37 = .ok (.ireturn, 1) := by decide +kernel
theorem dX7_delay_38 : decode cX7_delay 38 = .ok (.iload_n 3, 1) := by decide +kernel
theorem dX7_delay_39 : decode cX7_delay 39 = .ok (.ifCond .lt 10, 3) := by decide +kernel
theorem dX7_delay_42 : decode cX7_delay 42 = .ok (.iload_n 3, 1) := by decide +kernel
theorem dX7_delay_43 : decode cX7_delay 43 = .ok (.sipush 500, 3) := by decide +kernel
theorem dX7_delay_46 : decode cX7_delay 46 = .ok (.if_icmp .le 9, 3) := by decide +kernel
theorem dX7_delay_49 : decode cX7_delay 49 = .ok (.aload_n 0, 1) := by decide +kernel
theorem dX7_delay_50 : decode cX7_delay 50 = .ok (.iconst 2, 1) := by decide +kernel
theorem dX7_delay_51 : decode cX7_delay 51 = .ok (.invokevirtual 117, 3) := by decide +kernel
theorem dX7_delay_54 : decode cX7_delay 54 = .ok (.ireturn, 1) := by decide +kernel
theorem dX7_delay_55 : decode cX7_delay 55 = .ok (.aload_n 0, 1) := by decide +kernel
theorem dX7_delay_56 : decode cX7_delay 56 = .ok (.getfield 120, 3) := by decide +kernel
theorem dX7_delay_59 : decode cX7_delay 59 = .ok (.sipush 400, 3) := by decide +kernel
theorem dX7_delay_62 : decode cX7_delay 62 = .ok (.if_icmp .ne 9, 3) := by decide +kernel
theorem dX7_delay_65 : decode cX7_delay 65 = .ok (.aload_n 0, 1) := by decide +kernel
theorem dX7_delay_66 : decode cX7_delay 66 = .ok (.iconst 3, 1) := by decide +kernel
theorem dX7_delay_67 : decode cX7_delay 67 = .ok (.invokevirtual 117, 3) := by decide +kernel
theorem dX7_delay_70 : decode cX7_delay 70 = .ok (.ireturn, 1) := by decide +kernel
theorem dX7_delay_71 : decode cX7_delay 71 = .ok (.aload_n 0, 1) := by decide +kernel
theorem dX7_delay_72 : decode cX7_delay 72 = .ok (.iload_n 1, 1) := by decide +kernel
theorem dX7_delay_73 : decode cX7_delay 73 = .ok (.invokevirtual 136, 3) := by decide +kernel
theorem dX7_delay_76 : decode cX7_delay 76 = .ok (.ifCond .eq 9, 3) := by decide +kernel
theorem dX7_delay_79 : decode cX7_delay 79 = .ok (.aload_n 0, 1) := by decide +kernel
theorem dX7_delay_80 : decode cX7_delay 80 = .ok (.iconst 4, 1) := by decide +kernel
theorem dX7_delay_81 : decode cX7_delay 81 = .ok (.invokevirtual 117, 3) := by decide +kernel
theorem dX7_delay_84 : decode cX7_delay 84 = .ok (.ireturn, 1) := by decide +kernel
theorem dX7_delay_85 : decode cX7_delay 85 = .ok (.aload_n 0, 1) := by decide +kernel
theorem dX7_delay_86 : decode cX7_delay 86 = .ok (.iconst 2, 1) := by decide +kernel
theorem dX7_delay_87 : decode cX7_delay 87 = .ok (.iload_n 1, 1) := by decide +kernel
theorem dX7_delay_88 : decode cX7_delay 88 = .ok (.iload_n 2, 1) := by decide +kernel
theorem dX7_delay_89 : decode cX7_delay 89 = .ok (.iload_n 3, 1) := by decide +kernel
theorem dX7_delay_90 : decode cX7_delay 90 = .ok (.invokevirtual 129, 3) := by decide +kernel
theorem dX7_delay_93 : decode cX7_delay 93 = .ok (.iconst 1, 1) := by decide +kernel
theorem dX7_delay_94 : decode cX7_delay 94 = .ok (.ireturn, 1) := by decide +kernel
theorem dX7_close_0 : decode cX7_close 0 = .ok (.aload_n 0, 1) := by decide +kernel
theorem dX7_close_1 : decode cX7_close 1 = .ok (.iconst 0, 1) := by decide +kernel
theorem dX7_close_2 : decode cX7_close 2 = .ok (.putfield 92, 3) := by decide +kernel
theorem dX7_close_5 : decode cX7_close 5 = .ok (.aload_n 0, 1) := by decide +kernel
theorem dX7_close_6 : decode cX7_close 6 = .ok (.iconst 0, 1) := by decide +kernel
theorem dX7_close_7 : decode cX7_close 7 = .ok (.putfield 96, 3) := by decide +kernel
theorem dX7_close_10 : decode cX7_close 10 = .ok (.aload_n 0, 1) := by decide +kernel
theorem dX7_close_11 : decode cX7_close 11 = .ok (.iload_n 1, 1) := by decide +kernel
theorem dX7_close_12 : decode cX7_close 12 = .ok (.invokevirtual 113, 3) := by decide +kernel
theorem dX7_close_15 : decode cX7_close 15 = .ok (.ifCond .ne 9, 3) := by decide +kernel
theorem dX7_close_18 : decode cX7_close 18 = .ok (.aload_n 0, 1) := by decide +kernel
theorem dX7_close_19 : decode cX7_close 19 = .ok (.iconst 1, 1) := by decide +kernel
theorem dX7_close_20 : decode cX7_close 20 = .ok (.invokevirtual 117, 3) := by decide +kernel
theorem dX7_close_23 : decode cX7_close 23 = .ok (.ireturn, 1) := by decide +kernel
theorem dX7_close_24 : decode cX7_close 24 = .ok (.iload_n 2, 1) := by decide +kernel
theorem dX7_close_25 : decode cX7_close 25 = .ok (.invokestatic 123, 3) := by decide +kernel
theorem dX7_close_28 : decode cX7_close 28 = .ok (.ifCond .eq 15, 3) := by decide +kernel
theorem dX7_close_31 : decode cX7_close 31 = .ok (.iload_n 3, 1) := by decide +kernel
theorem dX7_close_32 : decode cX7_close 32 = .ok (.invokestatic 123, 3) := by decide +kernel
theorem dX7_close_35 : decode cX7_close 35 = .ok (.ifCond .eq 8, 3) := by decide +kernel
theorem dX7_close_38 : decode cX7_close 38 = .ok (.iload_n 2, 1) := by decide +kernel
theorem dX7_close_39 : decode cX7_close 39 = .ok (.iload_n 3, 1) := by decide +kernel
theorem dX7_close_40 : decode cX7_close 40 = .ok (.if_icmp .le 9, 3) := by decide +kernel
theorem dX7_close_43 : decode cX7_close 43 = .ok (.aload_n 0, 1) := by decide +kernel
theorem dX7_close_44 : decode cX7_close 44 = .ok (.iconst 2, 1) := by decide +kernel
theorem dX7_close_45 : decode cX7_close 45 = .ok (.invokevirtual 117, 3) := by decide +kernel
theorem dX7_close_48 : decode cX7_close 48 = .ok (.ireturn, 1) := by decide +kernel
theorem dX7_close_49 : decode cX7_close 49 = .ok (.aload_n 0, 1) := by decide +kernel
theorem dX7_close_50 : decode cX7_close 50 = .ok (.getfield 139, 3) := by decide +kernel
theorem dX7_close_53 : decode cX7_close 53 = .ok (.bipush 60, 2) := by decide +kernel
theorem dX7_close_55 : decode cX7_close 55 = .ok (.if_icmp .eq 13, 3) := by decide +kernel
theorem dX7_close_58 : decode cX7_close 58 = .ok (.aload_n 0, 1) := by decide +kernel
theorem dX7_close_59 : decode cX7_close 59 = .ok (.getfield 120, 3) := by decide +kernel
theorem dX7_close_62 : decode cX7_close 62 = .ok (.sipush 400, 3) := by decide +kernel
theorem dX7_close_65 : decode cX7_close 65 = .ok (.if_icmp .ne 9, 3) := by decide +kernel
theorem dX7_close_68 : decode cX7_close 68 = .ok (.aload_n 0, 1) := by decide +kernel
theorem dX7_close_69 : decode cX7_close 69 = .ok (.iconst 3, 1) := by decide +kernel
theorem dX7_close_70 : decode cX7_close 70 = .ok (.invokevirtual 117, 3) := by decide +kernel
theorem dX7_close_73 : decode cX7_close 73 = .ok (.ireturn, 1) := by decide +kernel
theorem dX7_close_74 : decode cX7_close 74 = .ok (.aload_n 0, 1) := by decide +kernel
theorem dX7_close_75 : decode cX7_close 75 = .ok (.iconst 3, 1) := by decide +kernel
theorem dX7_close_76 : decode cX7_close 76 = .ok (.iload_n 1, 1) := by decide +kernel
theorem dX7_close_77 : decode cX7_close 77 = .ok (.iload_n 2, 1) := by decide +kernel
theorem dX7_close_78 : decode cX7_close 78 = .ok (.iload_n 3, 1) := by decide +kernel
theorem dX7_close_79 : decode cX7_close 79 = .ok (.invokevirtual 129, 3) := by decide +kernel
theorem dX7_close_82 : decode cX7_close 82 = .ok (.aload_n 0, 1) := by decide +kernel
theorem dX7_close_83 : decode cX7_close 83 = .ok (.dup, 1) := by decide +kernel
theorem dX7_close_84 : decode cX7_close 84 = .ok (.getfield 139, 3) := by decide +kernel
theorem dX7_close_87 : decode cX7_close 87 = .ok (.iconst 1, 1) := by decide +kernel
theorem dX7_close_88 : decode cX7_close 88 = .ok (.iadd, 1) := by decide +kernel
theorem dX7_close_89 : decode cX7_close 89 = .ok (.putfield 139, 3) := by decide +kernel
theorem dX7_close_92 : decode cX7_close 92 = .ok (.iconst 1, 1) := by decide +kernel
theorem dX7_close_93 : decode cX7_close 93 = .ok (.ireturn, 1) := by decide +kernel
theorem dX7_changes_0 : decode cX7_changes 0 = .ok (.aload_n 0, 1) := by decide +kernel
theorem dX7_changes_1 : decode cX7_changes 1 = .ok (.iconst 0, 1) := by decide +kernel
theorem dX7_changes_2 : decode cX7_changes 2 = .ok (.putfield 92, 3) := by decide +kernel
theorem dX7_changes_5 : decode cX7_changes 5 = .ok (.aload_n 0, 1) := by decide +kernel
theorem dX7_changes_6 : decode cX7_changes 6 = .ok (.iconst 0, 1) := by decide +kernel
theorem dX7_changes_7 : decode cX7_changes 7 = .ok (.putfield 96, 3) := by decide +kernel
theorem dX7_changes_10 : decode cX7_changes 10 = .ok (.aload_n 0, 1) := by decide +kernel
theorem dX7_changes_11 : decode cX7_changes 11 = .ok (.getfield 120, 3) := by decide +kernel
theorem dX7_changes_14 : decode cX7_changes 14 = .ok (.ireturn, 1) := by decide +kernel
theorem dX7_undo_0 : decode cX7_undo 0 = .ok (.aload_n 0, 1) := by decide +kernel
theorem dX7_undo_1 : decode cX7_undo 1 = .ok (.iconst 0, 1) := by decide +kernel
theorem dX7_undo_2 : decode cX7_undo 2 = .ok (.putfield 92, 3) := by decide +kernel
theorem dX7_undo_5 : decode cX7_undo 5 = .ok (.aload_n 0, 1) := by decide +kernel
theorem dX7_undo_6 : decode cX7_undo 6 = .ok (.iconst 0, 1) := by decide +kernel
theorem dX7_undo_7 : decode cX7_undo 7 = .ok (.putfield 96, 3) := by decide +kernel
theorem dX7_undo_10 : decode cX7_undo 10 = .ok (.aload_n 0, 1) := by decide +kernel
theorem dX7_undo_11 : decode cX7_undo 11 = .ok (.getfield 120, 3) := by decide +kernel
theorem dX7_undo_14 : decode cX7_undo 14 = .ok (.ifCond .ne 10, 3) := by decide +kernel
theorem dX7_undo_17 : decode cX7_undo 17 = .ok (.aload_n 0, 1) := by decide +kernel
theorem dX7_undo_18 : decode cX7_undo 18 = .ok (.bipush 6, 2) := by decide +kernel
theorem dX7_undo_20 : decode cX7_undo 20 = .ok (.invokevirtual 117, 3) := by decide +kernel
theorem dX7_undo_23 : decode cX7_undo 23 = .ok (.ireturn, 1) := by decide +kernel
theorem dX7_undo_24 : decode cX7_undo 24 = .ok (.aload_n 0, 1) := by decide +kernel
theorem dX7_undo_25 : decode cX7_undo 25 = .ok (.dup, 1) := by decide +kernel
theorem dX7_undo_26 : decode cX7_undo 26 = .ok (.getfield 120, 3) := by decide +kernel
theorem dX7_undo_29 : decode cX7_undo 29 = .ok (.iconst 1, 1) := by decide +kernel
theorem dX7_undo_30 : decode cX7_undo 30 = .ok (.isub, 1) := by decide +kernel
theorem dX7_undo_31 : decode cX7_undo 31 = .ok (.putfield 120, 3) := by decide +kernel
theorem dX7_undo_34 : decode cX7_undo 34 = .ok (.aload_n 0, 1) := by decide +kernel
theorem dX7_undo_35 : decode cX7_undo 35 = .ok (.getfield 37, 3) := by decide +kernel
theorem dX7_undo_38 : decode cX7_undo 38 = .ok (.aload_n 0, 1) := by decide +kernel
theorem dX7_undo_39 : decode cX7_undo 39 = .ok (.getfield 120, 3) := by decide +kernel
theorem dX7_undo_42 : decode cX7_undo 42 = .ok (.iaload, 1) := by decide +kernel
theorem dX7_undo_43 : decode cX7_undo 43 = .ok (.iconst 3, 1) := by decide +kernel
theorem dX7_undo_44 : decode cX7_undo 44 = .ok (.if_icmp .ne 13, 3) := by decide +kernel
theorem dX7_undo_47 : decode cX7_undo 47 = .ok (.aload_n 0, 1) := by decide +kernel
theorem dX7_undo_48 : decode cX7_undo 48 = .ok (.dup, 1) := by decide +kernel
theorem dX7_undo_49 : decode cX7_undo 49 = .ok (.getfield 139, 3) := by decide +kernel
theorem dX7_undo_52 : decode cX7_undo 52 = .ok (.iconst 1, 1) := by decide +kernel
theorem dX7_undo_53 : decode cX7_undo 53 = .ok (.isub, 1) := by decide +kernel
theorem dX7_undo_54 : decode cX7_undo 54 = .ok (.putfield 139, 3) := by decide +kernel
theorem dX7_undo_57 : decode cX7_undo 57 = .ok (.aload_n 0, 1) := by decide +kernel
theorem dX7_undo_58 : decode cX7_undo 58 = .ok (.getfield 37, 3) := by decide +kernel
theorem dX7_undo_61 : decode cX7_undo 61 = .ok (.aload_n 0, 1) := by decide +kernel
theorem dX7_undo_62 : decode cX7_undo 62 = .ok (.getfield 120, 3) := by decide +kernel
theorem dX7_undo_65 : decode cX7_undo 65 = .ok (.iaload, 1) := by decide +kernel
theorem dX7_undo_66 : decode cX7_undo 66 = .ok (.ifCond .ne 31, 3) := by decide +kernel
theorem dX7_undo_69 : decode cX7_undo 69 = .ok (.aload_n 0, 1) := by decide +kernel
theorem dX7_undo_70 : decode cX7_undo 70 = .ok (.dup, 1) := by decide +kernel
theorem dX7_undo_71 : decode cX7_undo 71 = .ok (.getfield 102, 3) := by decide +kernel
theorem dX7_undo_74 : decode cX7_undo 74 = .ok (.iconst 1, 1) := by decide +kernel
theorem dX7_undo_75 : decode cX7_undo 75 = .ok (.isub, 1) := by decide +kernel
theorem dX7_undo_76 : decode cX7_undo 76 = .ok (.putfield 102, 3) := by decide +kernel
theorem dX7_undo_79 : decode cX7_undo 79 = .ok (.aload_n 0, 1) := by decide +kernel
theorem dX7_undo_80 : decode cX7_undo 80 = .ok (.dup, 1) := by decide +kernel
theorem dX7_undo_81 : decode cX7_undo 81 = .ok (.getfield 126, 3) := by decide +kernel
theorem dX7_undo_84 : decode cX7_undo 84 = .ok (.aload_n 0, 1) := by decide +kernel
theorem dX7_undo_85 : decode cX7_undo 85 = .ok (.getfield 31, 3) := by decide +kernel
theorem dX7_undo_88 : decode cX7_undo 88 = .ok (.aload_n 0, 1) := by decide +kernel
theorem dX7_undo_89 : decode cX7_undo 89 = .ok (.getfield 102, 3) := by decide +kernel
theorem dX7_undo_92 : decode cX7_undo 92 = .ok (.iaload, 1) := by decide +kernel
theorem dX7_undo_93 : decode cX7_undo 93 = .ok (.isub, 1) := by decide +kernel
theorem dX7_undo_94 : decode cX7_undo 94 = .ok (.putfield 126, 3) := by decide +kernel
theorem dX7_undo_97 : decode cX7_undo 97 = .ok (.iconst 1, 1) := by decide +kernel
theorem dX7_undo_98 : decode cX7_undo 98 = .ok (.ireturn, 1) := by decide +kernel
theorem dX7_told_0 : decode cX7_told 0 = .ok (.aload_n 0, 1) := by decide +kernel
theorem dX7_told_1 : decode cX7_told 1 = .ok (.iconst 0, 1) := by decide +kernel
theorem dX7_told_2 : decode cX7_told 2 = .ok (.putfield 92, 3) := by decide +kernel
theorem dX7_told_5 : decode cX7_told 5 = .ok (.aload_n 0, 1) := by decide +kernel
theorem dX7_told_6 : decode cX7_told 6 = .ok (.iconst 0, 1) := by decide +kernel
theorem dX7_told_7 : decode cX7_told 7 = .ok (.putfield 96, 3) := by decide +kernel
theorem dX7_told_10 : decode cX7_told 10 = .ok (.aload_n 0, 1) := by decide +kernel
theorem dX7_told_11 : decode cX7_told 11 = .ok (.iload_n 1, 1) := by decide +kernel
theorem dX7_told_12 : decode cX7_told 12 = .ok (.invokevirtual 133, 3) := by decide +kernel
theorem dX7_told_15 : decode cX7_told 15 = .ok (.ifCond .ne 9, 3) := by decide +kernel
theorem dX7_told_18 : decode cX7_told 18 = .ok (.aload_n 0, 1) := by decide +kernel
theorem dX7_told_19 : decode cX7_told 19 = .ok (.iconst 1, 1) := by decide +kernel
theorem dX7_told_20 : decode cX7_told 20 = .ok (.invokevirtual 109, 3) := by decide +kernel
theorem dX7_told_23 : decode cX7_told 23 = .ok (.ireturn, 1) := by decide +kernel
theorem dX7_told_24 : decode cX7_told 24 = .ok (.iload_n 2, 1) := by decide +kernel
theorem dX7_told_25 : decode cX7_told 25 = .ok (.tableswitch 110 0 7 #[47, 54, 61, 68, 75, 82, 89, 96], 47) := by decide +kernel
theorem dX7_told_72 : decode cX7_told 72 = .ok (.aload_n 0, 1) := by decide +kernel
theorem dX7_told_73 : decode cX7_told 73 = .ok (.getfield 16, 3) := by decide +kernel
theorem dX7_told_76 : decode cX7_told 76 = .ok (.iload_n 1, 1) := by decide +kernel
theorem dX7_told_77 : decode cX7_told 77 = .ok (.iaload, 1) := by decide +kernel
theorem dX7_told_78 : decode cX7_told 78 = .ok (.ireturn, 1) := by decide +kernel
theorem dX7_told_79 : decode cX7_told 79 = .ok (.aload_n 0, 1) := by decide +kernel
theorem dX7_told_80 : decode cX7_told 80 = .ok (.getfield 19, 3) := by decide +kernel
theorem dX7_told_83 : decode cX7_told 83 = .ok (.iload_n 1, 1) := by decide +kernel
theorem dX7_told_84 : decode cX7_told 84 = .ok (.iaload, 1) := by decide +kernel
theorem dX7_told_85 : decode cX7_told 85 = .ok (.ireturn, 1) := by decide +kernel
theorem dX7_told_86 : decode cX7_told 86 = .ok (.aload_n 0, 1) := by decide +kernel
theorem dX7_told_87 : decode cX7_told 87 = .ok (.getfield 22, 3) := by decide +kernel
theorem dX7_told_90 : decode cX7_told 90 = .ok (.iload_n 1, 1) := by decide +kernel
theorem dX7_told_91 : decode cX7_told 91 = .ok (.iaload, 1) := by decide +kernel
theorem dX7_told_92 : decode cX7_told 92 = .ok (.ireturn, 1) := by decide +kernel
theorem dX7_told_93 : decode cX7_told 93 = .ok (.aload_n 0, 1) := by decide +kernel
theorem dX7_told_94 : decode cX7_told 94 = .ok (.getfield 25, 3) := by decide +kernel
theorem dX7_told_97 : decode cX7_told 97 = .ok (.iload_n 1, 1) := by decide +kernel
theorem dX7_told_98 : decode cX7_told 98 = .ok (.iaload, 1) := by decide +kernel
theorem dX7_told_99 : decode cX7_told 99 = .ok (.ireturn, 1) := by decide +kernel
theorem dX7_told_100 : decode cX7_told 100 = .ok (.aload_n 0, 1) := by decide +kernel
theorem dX7_told_101 : decode cX7_told 101 = .ok (.getfield 28, 3) := by decide +kernel
theorem dX7_told_104 : decode cX7_told 104 = .ok (.iload_n 1, 1) := by decide +kernel
theorem dX7_told_105 : decode cX7_told 105 = .ok (.iaload, 1) := by decide +kernel
theorem dX7_told_106 : decode cX7_told 106 = .ok (.ireturn, 1) := by decide +kernel
theorem dX7_told_107 : decode cX7_told 107 = .ok (.aload_n 0, 1) := by decide +kernel
theorem dX7_told_108 : decode cX7_told 108 = .ok (.getfield 31, 3) := by decide +kernel
theorem dX7_told_111 : decode cX7_told 111 = .ok (.iload_n 1, 1) := by decide +kernel
theorem dX7_told_112 : decode cX7_told 112 = .ok (.iaload, 1) := by decide +kernel
theorem dX7_told_113 : decode cX7_told 113 = .ok (.ireturn, 1) := by decide +kernel
theorem dX7_told_114 : decode cX7_told 114 = .ok (.aload_n 0, 1) := by decide +kernel
theorem dX7_told_115 : decode cX7_told 115 = .ok (.getfield 34, 3) := by decide +kernel
theorem dX7_told_118 : decode cX7_told 118 = .ok (.iload_n 1, 1) := by decide +kernel
theorem dX7_told_119 : decode cX7_told 119 = .ok (.iaload, 1) := by decide +kernel
theorem dX7_told_120 : decode cX7_told 120 = .ok (.ireturn, 1) := by decide +kernel
theorem dX7_told_121 : decode cX7_told 121 = .ok (.aload_n 0, 1) := by decide +kernel
theorem dX7_told_122 : decode cX7_told 122 = .ok (.iload_n 1, 1) := by decide +kernel
theorem dX7_told_123 : decode cX7_told 123 = .ok (.invokevirtual 136, 3) := by decide +kernel
theorem dX7_told_126 : decode cX7_told 126 = .ok (.ifCond .eq 7, 3) := by decide +kernel
theorem dX7_told_129 : decode cX7_told 129 = .ok (.iconst 1, 1) := by decide +kernel
theorem dX7_told_130 : decode cX7_told 130 = .ok (.goto 4, 3) := by decide +kernel
theorem dX7_told_133 : decode cX7_told 133 = .ok (.iconst 0, 1) := by decide +kernel
theorem dX7_told_134 : decode cX7_told 134 = .ok (.ireturn, 1) := by decide +kernel
theorem dX7_told_135 : decode cX7_told 135 = .ok (.aload_n 0, 1) := by decide +kernel
theorem dX7_told_136 : decode cX7_told 136 = .ok (.iconst 2, 1) := by decide +kernel
theorem dX7_told_137 : decode cX7_told 137 = .ok (.invokevirtual 109, 3) := by decide +kernel
theorem dX7_told_140 : decode cX7_told 140 = .ok (.ireturn, 1) := by decide +kernel
theorem dX7_known_0 : decode cX7_known 0 = .ok (.iconst 0, 1) := by decide +kernel
theorem dX7_known_1 : decode cX7_known 1 = .ok (.istore_n 2, 1) := by decide +kernel
theorem dX7_known_2 : decode cX7_known 2 = .ok (.iload_n 2, 1) := by decide +kernel
theorem dX7_known_3 : decode cX7_known 3 = .ok (.aload_n 0, 1) := by decide +kernel
theorem dX7_known_4 : decode cX7_known 4 = .ok (.getfield 102, 3) := by decide +kernel
theorem dX7_known_7 : decode cX7_known 7 = .ok (.if_icmp .ge 23, 3) := by decide +kernel
theorem dX7_known_10 : decode cX7_known 10 = .ok (.aload_n 0, 1) := by decide +kernel
theorem dX7_known_11 : decode cX7_known 11 = .ok (.getfield 49, 3) := by decide +kernel
theorem dX7_known_14 : decode cX7_known 14 = .ok (.iload_n 2, 1) := by decide +kernel
theorem dX7_known_15 : decode cX7_known 15 = .ok (.iconst 0, 1) := by decide +kernel
theorem dX7_known_16 : decode cX7_known 16 = .ok (.bastore, 1) := by decide +kernel
theorem dX7_known_17 : decode cX7_known 17 = .ok (.aload_n 0, 1) := by decide +kernel
theorem dX7_known_18 : decode cX7_known 18 = .ok (.getfield 53, 3) := by decide +kernel
theorem dX7_known_21 : decode cX7_known 21 = .ok (.iload_n 2, 1) := by decide +kernel
theorem dX7_known_22 : decode cX7_known 22 = .ok (.iconst 0, 1) := by decide +kernel
theorem dX7_known_23 : decode cX7_known 23 = .ok (.bastore, 1) := by decide +kernel
theorem dX7_known_24 : decode cX7_known 24 = .ok (.iinc 2 1, 3) := by decide +kernel
theorem dX7_known_27 : decode cX7_known 27 = .ok (.goto (-25), 3) := by decide +kernel
theorem dX7_known_30 : decode cX7_known 30 = .ok (.iconst 0, 1) := by decide +kernel
theorem dX7_known_31 : decode cX7_known 31 = .ok (.istore_n 2, 1) := by decide +kernel
theorem dX7_known_32 : decode cX7_known 32 = .ok (.iload_n 2, 1) := by decide +kernel
theorem dX7_known_33 : decode cX7_known 33 = .ok (.iload_n 1, 1) := by decide +kernel
theorem dX7_known_34 : decode cX7_known 34 = .ok (.if_icmp .ge 52, 3) := by decide +kernel
theorem dX7_known_37 : decode cX7_known 37 = .ok (.aload_n 0, 1) := by decide +kernel
theorem dX7_known_38 : decode cX7_known 38 = .ok (.getfield 37, 3) := by decide +kernel
theorem dX7_known_41 : decode cX7_known 41 = .ok (.iload_n 2, 1) := by decide +kernel
theorem dX7_known_42 : decode cX7_known 42 = .ok (.iaload, 1) := by decide +kernel
theorem dX7_known_43 : decode cX7_known 43 = .ok (.ifCond .ne 15, 3) := by decide +kernel
theorem dX7_known_46 : decode cX7_known 46 = .ok (.aload_n 0, 1) := by decide +kernel
theorem dX7_known_47 : decode cX7_known 47 = .ok (.getfield 49, 3) := by decide +kernel
theorem dX7_known_50 : decode cX7_known 50 = .ok (.aload_n 0, 1) := by decide +kernel
theorem dX7_known_51 : decode cX7_known 51 = .ok (.getfield 40, 3) := by decide +kernel
theorem dX7_known_54 : decode cX7_known 54 = .ok (.iload_n 2, 1) := by decide +kernel
theorem dX7_known_55 : decode cX7_known 55 = .ok (.iaload, 1) := by decide +kernel
theorem dX7_known_56 : decode cX7_known 56 = .ok (.iconst 1, 1) := by decide +kernel
theorem dX7_known_57 : decode cX7_known 57 = .ok (.bastore, 1) := by decide +kernel
theorem dX7_known_58 : decode cX7_known 58 = .ok (.aload_n 0, 1) := by decide +kernel
theorem dX7_known_59 : decode cX7_known 59 = .ok (.getfield 37, 3) := by decide +kernel
theorem dX7_known_62 : decode cX7_known 62 = .ok (.iload_n 2, 1) := by decide +kernel
theorem dX7_known_63 : decode cX7_known 63 = .ok (.iaload, 1) := by decide +kernel
theorem dX7_known_64 : decode cX7_known 64 = .ok (.iconst 1, 1) := by decide +kernel
theorem dX7_known_65 : decode cX7_known 65 = .ok (.if_icmp .ne 15, 3) := by decide +kernel
theorem dX7_known_68 : decode cX7_known 68 = .ok (.aload_n 0, 1) := by decide +kernel
theorem dX7_known_69 : decode cX7_known 69 = .ok (.getfield 53, 3) := by decide +kernel
theorem dX7_known_72 : decode cX7_known 72 = .ok (.aload_n 0, 1) := by decide +kernel
theorem dX7_known_73 : decode cX7_known 73 = .ok (.getfield 40, 3) := by decide +kernel
theorem dX7_known_76 : decode cX7_known 76 = .ok (.iload_n 2, 1) := by decide +kernel
theorem dX7_known_77 : decode cX7_known 77 = .ok (.iaload, 1) := by decide +kernel
theorem dX7_known_78 : decode cX7_known 78 = .ok (.iconst 1, 1) := by decide +kernel
theorem dX7_known_79 : decode cX7_known 79 = .ok (.bastore, 1) := by decide +kernel
theorem dX7_known_80 : decode cX7_known 80 = .ok (.iinc 2 1, 3) := by decide +kernel
theorem dX7_known_83 : decode cX7_known 83 = .ok (.goto (-51), 3) := by decide +kernel
theorem dX7_known_86 : decode cX7_known 86 = .ok (.return_, 1) := by decide +kernel
theorem dX7_leavesAt_0 : decode cX7_leavesAt 0 = .ok (.iconst 0, 1) := by decide +kernel
theorem dX7_leavesAt_1 : decode cX7_leavesAt 1 = .ok (.istore 4, 2) := by decide +kernel
theorem dX7_leavesAt_3 : decode cX7_leavesAt 3 = .ok (.iconst 0, 1) := by decide +kernel
theorem dX7_leavesAt_4 : decode cX7_leavesAt 4 = .ok (.istore 5, 2) := by decide +kernel
theorem dX7_leavesAt_6 : decode cX7_leavesAt 6 = .ok (.iload 5, 2) := by decide +kernel
theorem dX7_leavesAt_8 : decode cX7_leavesAt 8 = .ok (.iload_n 3, 1) := by decide +kernel
theorem dX7_leavesAt_9 : decode cX7_leavesAt 9 = .ok (.if_icmp .ge 51, 3) := by decide +kernel
theorem dX7_leavesAt_12 : decode cX7_leavesAt 12 = .ok (.aload_n 0, 1) := by decide +kernel
theorem dX7_leavesAt_13 : decode cX7_leavesAt 13 = .ok (.getfield 37, 3) := by decide +kernel
theorem dX7_leavesAt_16 : decode cX7_leavesAt 16 = .ok (.iload 5, 2) := by decide +kernel
theorem dX7_leavesAt_18 : decode cX7_leavesAt 18 = .ok (.iaload, 1) := by decide +kernel
theorem dX7_leavesAt_19 : decode cX7_leavesAt 19 = .ok (.iconst 2, 1) := by decide +kernel
theorem dX7_leavesAt_20 : decode cX7_leavesAt 20 = .ok (.if_icmp .ne 34, 3) := by decide +kernel
theorem dX7_leavesAt_23 : decode cX7_leavesAt 23 = .ok (.aload_n 0, 1) := by decide +kernel
theorem dX7_leavesAt_24 : decode cX7_leavesAt 24 = .ok (.getfield 40, 3) := by decide +kernel
theorem dX7_leavesAt_27 : decode cX7_leavesAt 27 = .ok (.iload 5, 2) := by decide +kernel
theorem dX7_leavesAt_29 : decode cX7_leavesAt 29 = .ok (.iaload, 1) := by decide +kernel
theorem dX7_leavesAt_30 : decode cX7_leavesAt 30 = .ok (.iload_n 1, 1) := by decide +kernel
theorem dX7_leavesAt_31 : decode cX7_leavesAt 31 = .ok (.if_icmp .ne 23, 3) := by decide +kernel
theorem dX7_leavesAt_34 : decode cX7_leavesAt 34 = .ok (.aload_n 0, 1) := by decide +kernel
theorem dX7_leavesAt_35 : decode cX7_leavesAt 35 = .ok (.getfield 43, 3) := by decide +kernel
theorem dX7_leavesAt_38 : decode cX7_leavesAt 38 = .ok (.iload 5, 2) := by decide +kernel
theorem dX7_leavesAt_40 : decode cX7_leavesAt 40 = .ok (.iaload, 1) := by decide +kernel
theorem dX7_leavesAt_41 : decode cX7_leavesAt 41 = .ok (.iload_n 2, 1) := by decide +kernel
theorem dX7_leavesAt_42 : decode cX7_leavesAt 42 = .ok (.if_icmp .ne 12, 3) := by decide +kernel
theorem dX7_leavesAt_45 : decode cX7_leavesAt 45 = .ok (.aload_n 0, 1) := by decide +kernel
theorem dX7_leavesAt_46 : decode cX7_leavesAt 46 = .ok (.getfield 46, 3) := by decide +kernel
theorem dX7_leavesAt_49 : decode cX7_leavesAt 49 = .ok (.iload 5, 2) := by decide +kernel
theorem dX7_leavesAt_51 : decode cX7_leavesAt 51 = .ok (.iaload, 1) := by decide +kernel
theorem dX7_leavesAt_52 : decode cX7_leavesAt 52 = .ok (.istore 4, 2) := by decide +kernel
theorem dX7_leavesAt_54 : decode cX7_leavesAt 54 = .ok (.iinc 5 1, 3) := by decide +kernel
theorem dX7_leavesAt_57 : decode cX7_leavesAt 57 = .ok (.goto (-51), 3) := by decide +kernel
theorem dX7_leavesAt_60 : decode cX7_leavesAt 60 = .ok (.aload_n 0, 1) := by decide +kernel
theorem dX7_leavesAt_61 : decode cX7_leavesAt 61 = .ok (.getfield 25, 3) := by decide +kernel
theorem dX7_leavesAt_64 : decode cX7_leavesAt 64 = .ok (.iload_n 1, 1) := by decide +kernel
theorem dX7_leavesAt_65 : decode cX7_leavesAt 65 = .ok (.iaload, 1) := by decide +kernel
theorem dX7_leavesAt_66 : decode cX7_leavesAt 66 = .ok (.aload_n 0, 1) := by decide +kernel
theorem dX7_leavesAt_67 : decode cX7_leavesAt 67 = .ok (.getfield 22, 3) := by decide +kernel
theorem dX7_leavesAt_70 : decode cX7_leavesAt 70 = .ok (.iload_n 1, 1) := by decide +kernel
theorem dX7_leavesAt_71 : decode cX7_leavesAt 71 = .ok (.iaload, 1) := by decide +kernel
theorem dX7_leavesAt_72 : decode cX7_leavesAt 72 = .ok (.iconst 1, 1) := by decide +kernel
theorem dX7_leavesAt_73 : decode cX7_leavesAt 73 = .ok (.if_icmp .ne 14, 3) := by decide +kernel
theorem dX7_leavesAt_76 : decode cX7_leavesAt 76 = .ok (.iload_n 2, 1) := by decide +kernel
theorem dX7_leavesAt_77 : decode cX7_leavesAt 77 = .ok (.aload_n 0, 1) := by decide +kernel
theorem dX7_leavesAt_78 : decode cX7_leavesAt 78 = .ok (.getfield 34, 3) := by decide +kernel
theorem dX7_leavesAt_81 : decode cX7_leavesAt 81 = .ok (.iload_n 1, 1) := by decide +kernel
theorem dX7_leavesAt_82 : decode cX7_leavesAt 82 = .ok (.iaload, 1) := by decide +kernel
theorem dX7_leavesAt_83 : decode cX7_leavesAt 83 = .ok (.imul, 1) := by decide +kernel
theorem dX7_leavesAt_84 : decode cX7_leavesAt 84 = .ok (.goto 4, 3) := by decide +kernel
theorem dX7_leavesAt_87 : decode cX7_leavesAt 87 = .ok (.iload_n 2, 1) := by decide +kernel
theorem dX7_leavesAt_88 : decode cX7_leavesAt 88 = .ok (.iadd, 1) := by decide +kernel
theorem dX7_leavesAt_89 : decode cX7_leavesAt 89 = .ok (.iload 4, 2) := by decide +kernel
theorem dX7_leavesAt_91 : decode cX7_leavesAt 91 = .ok (.iadd, 1) := by decide +kernel
theorem dX7_leavesAt_92 : decode cX7_leavesAt 92 = .ok (.ireturn, 1) := by decide +kernel
theorem dX7_isClosed_0 : decode cX7_isClosed 0 = .ok (.iconst 0, 1) := by decide +kernel
theorem dX7_isClosed_1 : decode cX7_isClosed 1 = .ok (.istore 4, 2) := by decide +kernel
theorem dX7_isClosed_3 : decode cX7_isClosed 3 = .ok (.iload 4, 2) := by decide +kernel
theorem dX7_isClosed_5 : decode cX7_isClosed 5 = .ok (.iload_n 3, 1) := by decide +kernel
theorem dX7_isClosed_6 : decode cX7_isClosed 6 = .ok (.if_icmp .ge 55, 3) := by decide +kernel
theorem dX7_isClosed_9 : decode cX7_isClosed 9 = .ok (.aload_n 0, 1) := by decide +kernel
theorem dX7_isClosed_10 : decode cX7_isClosed 10 = .ok (.getfield 37, 3) := by decide +kernel
theorem dX7_isClosed_13 : decode cX7_isClosed 13 = .ok (.iload 4, 2) := by decide +kernel
theorem dX7_isClosed_15 : decode cX7_isClosed 15 = .ok (.iaload, 1) := by decide +kernel
theorem dX7_isClosed_16 : decode cX7_isClosed 16 = .ok (.iconst 3, 1) := by decide +kernel
theorem dX7_isClosed_17 : decode cX7_isClosed 17 = .ok (.if_icmp .ne 38, 3) := by decide +kernel
theorem dX7_isClosed_20 : decode cX7_isClosed 20 = .ok (.aload_n 0, 1) := by decide +kernel
theorem dX7_isClosed_21 : decode cX7_isClosed 21 = .ok (.getfield 40, 3) := by decide +kernel
theorem dX7_isClosed_24 : decode cX7_isClosed 24 = .ok (.iload 4, 2) := by decide +kernel
theorem dX7_isClosed_26 : decode cX7_isClosed 26 = .ok (.iaload, 1) := by decide +kernel
theorem dX7_isClosed_27 : decode cX7_isClosed 27 = .ok (.iload_n 1, 1) := by decide +kernel
theorem dX7_isClosed_28 : decode cX7_isClosed 28 = .ok (.if_icmp .ne 27, 3) := by decide +kernel
theorem dX7_isClosed_31 : decode cX7_isClosed 31 = .ok (.aload_n 0, 1) := by decide +kernel
theorem dX7_isClosed_32 : decode cX7_isClosed 32 = .ok (.getfield 43, 3) := by decide +kernel
theorem dX7_isClosed_35 : decode cX7_isClosed 35 = .ok (.iload 4, 2) := by decide +kernel
theorem dX7_isClosed_37 : decode cX7_isClosed 37 = .ok (.iaload, 1) := by decide +kernel
theorem dX7_isClosed_38 : decode cX7_isClosed 38 = .ok (.iload_n 2, 1) := by decide +kernel
theorem dX7_isClosed_39 : decode cX7_isClosed 39 = .ok (.if_icmp .gt 16, 3) := by decide +kernel
theorem dX7_isClosed_42 : decode cX7_isClosed 42 = .ok (.iload_n 2, 1) := by decide +kernel
theorem dX7_isClosed_43 : decode cX7_isClosed 43 = .ok (.aload_n 0, 1) := by decide +kernel
theorem dX7_isClosed_44 : decode cX7_isClosed 44 = .ok (.getfield 46, 3) := by decide +kernel
theorem dX7_isClosed_47 : decode cX7_isClosed 47 = .ok (.iload 4, 2) := by decide +kernel
theorem dX7_isClosed_49 : decode cX7_isClosed 49 = .ok (.iaload, 1) := by decide +kernel
theorem dX7_isClosed_50 : decode cX7_isClosed 50 = .ok (.if_icmp .gt 5, 3) := by decide +kernel
theorem dX7_isClosed_53 : decode cX7_isClosed 53 = .ok (.iconst 1, 1) := by decide +kernel
theorem dX7_isClosed_54 : decode cX7_isClosed 54 = .ok (.ireturn, 1) := by decide +kernel
theorem dX7_isClosed_55 : decode cX7_isClosed 55 = .ok (.iinc 4 1, 3) := by decide +kernel
theorem dX7_isClosed_58 : decode cX7_isClosed 58 = .ok (.goto (-55), 3) := by decide +kernel
theorem dX7_isClosed_61 : decode cX7_isClosed 61 = .ok (.iconst 0, 1) := by decide +kernel
theorem dX7_isClosed_62 : decode cX7_isClosed 62 = .ok (.ireturn, 1) := by decide +kernel
theorem dX7_stands_0 : decode cX7_stands 0 = .ok (.iload_n 2, 1) := by decide +kernel
theorem dX7_stands_1 : decode cX7_stands 1 = .ok (.aload_n 0, 1) := by decide +kernel
theorem dX7_stands_2 : decode cX7_stands 2 = .ok (.getfield 28, 3) := by decide +kernel
theorem dX7_stands_5 : decode cX7_stands 5 = .ok (.iload_n 1, 1) := by decide +kernel
theorem dX7_stands_6 : decode cX7_stands 6 = .ok (.iaload, 1) := by decide +kernel
theorem dX7_stands_7 : decode cX7_stands 7 = .ok (.iadd, 1) := by decide +kernel
theorem dX7_stands_8 : decode cX7_stands 8 = .ok (.istore 4, 2) := by decide +kernel
theorem dX7_stands_10 : decode cX7_stands 10 = .ok (.aload_n 0, 1) := by decide +kernel
theorem dX7_stands_11 : decode cX7_stands 11 = .ok (.getfield 49, 3) := by decide +kernel
theorem dX7_stands_14 : decode cX7_stands 14 = .ok (.iload_n 1, 1) := by decide +kernel
theorem dX7_stands_15 : decode cX7_stands 15 = .ok (.baload, 1) := by decide +kernel
theorem dX7_stands_16 : decode cX7_stands 16 = .ok (.ifCond .eq 62, 3) := by decide +kernel
theorem dX7_stands_19 : decode cX7_stands 19 = .ok (.aload_n 0, 1) := by decide +kernel
theorem dX7_stands_20 : decode cX7_stands 20 = .ok (.getfield 53, 3) := by decide +kernel
theorem dX7_stands_23 : decode cX7_stands 23 = .ok (.iload_n 1, 1) := by decide +kernel
theorem dX7_stands_24 : decode cX7_stands 24 = .ok (.baload, 1) := by decide +kernel
theorem dX7_stands_25 : decode cX7_stands 25 = .ok (.ifCond .ne 53, 3) := by decide +kernel
theorem dX7_stands_28 : decode cX7_stands 28 = .ok (.iload_n 2, 1) := by decide +kernel
theorem dX7_stands_29 : decode cX7_stands 29 = .ok (.sipush 5000, 3) := by decide +kernel
theorem dX7_stands_32 : decode cX7_stands 32 = .ok (.if_icmp .gt 46, 3) := by decide +kernel
theorem dX7_stands_35 : decode cX7_stands 35 = .ok (.iload 4, 2) := by decide +kernel
theorem dX7_stands_37 : decode cX7_stands 37 = .ok (.sipush 5000, 3) := by decide +kernel
theorem dX7_stands_40 : decode cX7_stands 40 = .ok (.if_icmp .gt 38, 3) := by decide +kernel
theorem dX7_stands_43 : decode cX7_stands 43 = .ok (.aload_n 0, 1) := by decide +kernel
theorem dX7_stands_44 : decode cX7_stands 44 = .ok (.aload_n 0, 1) := by decide +kernel
theorem dX7_stands_45 : decode cX7_stands 45 = .ok (.getfield 16, 3) := by decide +kernel
theorem dX7_stands_48 : decode cX7_stands 48 = .ok (.iload_n 1, 1) := by decide +kernel
theorem dX7_stands_49 : decode cX7_stands 49 = .ok (.iaload, 1) := by decide +kernel
theorem dX7_stands_50 : decode cX7_stands 50 = .ok (.iload_n 2, 1) := by decide +kernel
theorem dX7_stands_51 : decode cX7_stands 51 = .ok (.iload_n 3, 1) := by decide +kernel
theorem dX7_stands_52 : decode cX7_stands 52 = .ok (.invokevirtual 142, 3) := by decide +kernel
theorem dX7_stands_55 : decode cX7_stands 55 = .ok (.ifCond .ne 23, 3) := by decide +kernel
theorem dX7_stands_58 : decode cX7_stands 58 = .ok (.aload_n 0, 1) := by decide +kernel
theorem dX7_stands_59 : decode cX7_stands 59 = .ok (.aload_n 0, 1) := by decide +kernel
theorem dX7_stands_60 : decode cX7_stands 60 = .ok (.getfield 19, 3) := by decide +kernel
theorem dX7_stands_63 : decode cX7_stands 63 = .ok (.iload_n 1, 1) := by decide +kernel
theorem dX7_stands_64 : decode cX7_stands 64 = .ok (.iaload, 1) := by decide +kernel
theorem dX7_stands_65 : decode cX7_stands 65 = .ok (.iload 4, 2) := by decide +kernel
theorem dX7_stands_67 : decode cX7_stands 67 = .ok (.iload_n 3, 1) := by decide +kernel
theorem dX7_stands_68 : decode cX7_stands 68 = .ok (.invokevirtual 142, 3) := by decide +kernel
theorem dX7_stands_71 : decode cX7_stands 71 = .ok (.ifCond .ne 7, 3) := by decide +kernel
theorem dX7_stands_74 : decode cX7_stands 74 = .ok (.iconst 1, 1) := by decide +kernel
theorem dX7_stands_75 : decode cX7_stands 75 = .ok (.goto 4, 3) := by decide +kernel
theorem dX7_stands_78 : decode cX7_stands 78 = .ok (.iconst 0, 1) := by decide +kernel
theorem dX7_stands_79 : decode cX7_stands 79 = .ok (.ireturn, 1) := by decide +kernel
theorem dX7_lay_0 : decode cX7_lay 0 = .ok (.aload_n 0, 1) := by decide +kernel
theorem dX7_lay_1 : decode cX7_lay 1 = .ok (.iload_n 1, 1) := by decide +kernel
theorem dX7_lay_2 : decode cX7_lay 2 = .ok (.invokevirtual 146, 3) := by decide +kernel
theorem dX7_lay_5 : decode cX7_lay 5 = .ok (.aload_n 0, 1) := by decide +kernel
theorem dX7_lay_6 : decode cX7_lay 6 = .ok (.iconst 0, 1) := by decide +kernel
theorem dX7_lay_7 : decode cX7_lay 7 = .ok (.putfield 150, 3) := by decide +kernel
theorem dX7_lay_10 : decode cX7_lay 10 = .ok (.iconst 0, 1) := by decide +kernel
theorem dX7_lay_11 : decode cX7_lay 11 = .ok (.istore_n 3, 1) := by decide +kernel
theorem dX7_lay_12 : decode cX7_lay 12 = .ok (.iload_n 3, 1) := by decide +kernel
theorem dX7_lay_13 : decode cX7_lay 13 = .ok (.aload_n 0, 1) := by decide +kernel
theorem dX7_lay_14 : decode cX7_lay 14 = .ok (.getfield 102, 3) := by decide +kernel
theorem dX7_lay_17 : decode cX7_lay 17 = .ok (.if_icmp .ge 217, 3) := by decide +kernel
theorem dX7_lay_20 : decode cX7_lay 20 = .ok (.aload_n 0, 1) := by decide +kernel
theorem dX7_lay_21 : decode cX7_lay 21 = .ok (.getfield 49, 3) := by decide +kernel
theorem dX7_lay_24 : decode cX7_lay 24 = .ok (.iload_n 3, 1) := by decide +kernel
theorem dX7_lay_25 : decode cX7_lay 25 = .ok (.baload, 1) := by decide +kernel
theorem dX7_lay_26 : decode cX7_lay 26 = .ok (.ifCond .eq 202, 3) := by decide +kernel
theorem dX7_lay_29 : decode cX7_lay 29 = .ok (.iload_n 3, 1) := by decide +kernel
theorem dX7_lay_30 : decode cX7_lay 30 = .ok (.iload_n 2, 1) := by decide +kernel
theorem dX7_lay_31 : decode cX7_lay 31 = .ok (.if_icmp .ne 6, 3) := by decide +kernel
theorem dX7_lay_34 : decode cX7_lay 34 = .ok (.goto 194, 3) := by decide +kernel
theorem dX7_lay_37 : decode cX7_lay 37 = .ok (.iconst 0, 1) := by decide +kernel
theorem dX7_lay_38 : decode cX7_lay 38 = .ok (.istore 4, 2) := by decide +kernel
theorem dX7_lay_40 : decode cX7_lay 40 = .ok (.iload 4, 2) := by decide +kernel
theorem dX7_lay_42 : decode cX7_lay 42 = .ok (.aload_n 0, 1) := by decide +kernel
theorem dX7_lay_43 : decode cX7_lay 43 = .ok (.getfield 31, 3) := by decide +kernel
theorem dX7_lay_46 : decode cX7_lay 46 = .ok (.iload_n 3, 1) := by decide +kernel
theorem dX7_lay_47 : decode cX7_lay 47 = .ok (.iaload, 1) := by decide +kernel
theorem dX7_lay_48 : decode cX7_lay 48 = .ok (.if_icmp .ge 180, 3) := by decide +kernel
theorem dX7_lay_51 : decode cX7_lay 51 = .ok (.aload_n 0, 1) := by decide +kernel
theorem dX7_lay_52 : decode cX7_lay 52 = .ok (.iload_n 3, 1) := by decide +kernel
theorem dX7_lay_53 : decode cX7_lay 53 = .ok (.iload 4, 2) := by decide +kernel
theorem dX7_lay_55 : decode cX7_lay 55 = .ok (.iload_n 1, 1) := by decide +kernel
theorem dX7_lay_56 : decode cX7_lay 56 = .ok (.invokevirtual 153, 3) := by decide +kernel
theorem dX7_lay_59 : decode cX7_lay 59 = .ok (.istore 5, 2) := by decide +kernel
theorem dX7_lay_61 : decode cX7_lay 61 = .ok (.aload_n 0, 1) := by decide +kernel
theorem dX7_lay_62 : decode cX7_lay 62 = .ok (.iload_n 3, 1) := by decide +kernel
theorem dX7_lay_63 : decode cX7_lay 63 = .ok (.iload 5, 2) := by decide +kernel
theorem dX7_lay_65 : decode cX7_lay 65 = .ok (.iload_n 1, 1) := by decide +kernel
theorem dX7_lay_66 : decode cX7_lay 66 = .ok (.invokevirtual 157, 3) := by decide +kernel
theorem dX7_lay_69 : decode cX7_lay 69 = .ok (.ifCond .ne 6, 3) := by decide +kernel
theorem dX7_lay_72 : decode cX7_lay 72 = .ok (.goto 150, 3) := by decide +kernel
theorem dX7_lay_75 : decode cX7_lay 75 = .ok (.aload_n 0, 1) := by decide +kernel
theorem dX7_lay_76 : decode cX7_lay 76 = .ok (.getfield 150, 3) := by decide +kernel
theorem dX7_lay_79 : decode cX7_lay 79 = .ok (.istore 6, 2) := by decide +kernel
theorem dX7_lay_81 : decode cX7_lay 81 = .ok (.iload 6, 2) := by decide +kernel
theorem dX7_lay_83 : decode cX7_lay 83 = .ok (.ifCond .le 87, 3) := by decide +kernel
theorem dX7_lay_86 : decode cX7_lay 86 = .ok (.aload_n 0, 1) := by decide +kernel
theorem dX7_lay_87 : decode cX7_lay 87 = .ok (.getfield 62, 3) := by decide +kernel
theorem dX7_lay_90 : decode cX7_lay 90 = .ok (.iload 6, 2) := by decide +kernel
theorem dX7_lay_92 : decode cX7_lay 92 = .ok (.iconst 1, 1) := by decide +kernel
theorem dX7_lay_93 : decode cX7_lay 93 = .ok (.isub, 1) := by decide +kernel
theorem dX7_lay_94 : decode cX7_lay 94 = .ok (.iaload, 1) := by decide +kernel
theorem dX7_lay_95 : decode cX7_lay 95 = .ok (.iload 5, 2) := by decide +kernel
theorem dX7_lay_97 : decode cX7_lay 97 = .ok (.if_icmp .le 73, 3) := by decide +kernel
theorem dX7_lay_100 : decode cX7_lay 100 = .ok (.aload_n 0, 1) := by decide +kernel
theorem dX7_lay_101 : decode cX7_lay 101 = .ok (.getfield 56, 3) := by decide +kernel
theorem dX7_lay_104 : decode cX7_lay 104 = .ok (.iload 6, 2) := by decide +kernel
theorem dX7_lay_106 : decode cX7_lay 106 = .ok (.aload_n 0, 1) := by decide +kernel
theorem dX7_lay_107 : decode cX7_lay 107 = .ok (.getfield 56, 3) := by decide +kernel
theorem dX7_lay_110 : decode cX7_lay 110 = .ok (.iload 6, 2) := by decide +kernel
theorem dX7_lay_112 : decode cX7_lay 112 = .ok (.iconst 1, 1) := by decide +kernel
theorem dX7_lay_113 : decode cX7_lay 113 = .ok (.isub, 1) := by decide +kernel
theorem dX7_lay_114 : decode cX7_lay 114 = .ok (.iaload, 1) := by decide +kernel
theorem dX7_lay_115 : decode cX7_lay 115 = .ok (.iastore, 1) := by decide +kernel
theorem dX7_lay_116 : decode cX7_lay 116 = .ok (.aload_n 0, 1) := by decide +kernel
theorem dX7_lay_117 : decode cX7_lay 117 = .ok (.getfield 59, 3) := by decide +kernel
theorem dX7_lay_120 : decode cX7_lay 120 = .ok (.iload 6, 2) := by decide +kernel
theorem dX7_lay_122 : decode cX7_lay 122 = .ok (.aload_n 0, 1) := by decide +kernel
theorem dX7_lay_123 : decode cX7_lay 123 = .ok (.getfield 59, 3) := by decide +kernel
theorem dX7_lay_126 : decode cX7_lay 126 = .ok (.iload 6, 2) := by decide +kernel
theorem dX7_lay_128 : decode cX7_lay 128 = .ok (.iconst 1, 1) := by decide +kernel
theorem dX7_lay_129 : decode cX7_lay 129 = .ok (.isub, 1) := by decide +kernel
theorem dX7_lay_130 : decode cX7_lay 130 = .ok (.iaload, 1) := by decide +kernel
theorem dX7_lay_131 : decode cX7_lay 131 = .ok (.iastore, 1) := by decide +kernel
theorem dX7_lay_132 : decode cX7_lay 132 = .ok (.aload_n 0, 1) := by decide +kernel
theorem dX7_lay_133 : decode cX7_lay 133 = .ok (.getfield 62, 3) := by decide +kernel
theorem dX7_lay_136 : decode cX7_lay 136 = .ok (.iload 6, 2) := by decide +kernel
theorem dX7_lay_138 : decode cX7_lay 138 = .ok (.aload_n 0, 1) := by decide +kernel
theorem dX7_lay_139 : decode cX7_lay 139 = .ok (.getfield 62, 3) := by decide +kernel
theorem dX7_lay_142 : decode cX7_lay 142 = .ok (.iload 6, 2) := by decide +kernel
theorem dX7_lay_144 : decode cX7_lay 144 = .ok (.iconst 1, 1) := by decide +kernel
theorem dX7_lay_145 : decode cX7_lay 145 = .ok (.isub, 1) := by decide +kernel
theorem dX7_lay_146 : decode cX7_lay 146 = .ok (.iaload, 1) := by decide +kernel
theorem dX7_lay_147 : decode cX7_lay 147 = .ok (.iastore, 1) := by decide +kernel
theorem dX7_lay_148 : decode cX7_lay 148 = .ok (.aload_n 0, 1) := by decide +kernel
theorem dX7_lay_149 : decode cX7_lay 149 = .ok (.getfield 65, 3) := by decide +kernel
theorem dX7_lay_152 : decode cX7_lay 152 = .ok (.iload 6, 2) := by decide +kernel
theorem dX7_lay_154 : decode cX7_lay 154 = .ok (.aload_n 0, 1) := by decide +kernel
theorem dX7_lay_155 : decode cX7_lay 155 = .ok (.getfield 65, 3) := by decide +kernel
theorem dX7_lay_158 : decode cX7_lay 158 = .ok (.iload 6, 2) := by decide +kernel
theorem dX7_lay_160 : decode cX7_lay 160 = .ok (.iconst 1, 1) := by decide +kernel
theorem dX7_lay_161 : decode cX7_lay 161 = .ok (.isub, 1) := by decide +kernel
theorem dX7_lay_162 : decode cX7_lay 162 = .ok (.iaload, 1) := by decide +kernel
theorem dX7_lay_163 : decode cX7_lay 163 = .ok (.iastore, 1) := by decide +kernel
theorem dX7_lay_164 : decode cX7_lay 164 = .ok (.iinc 6 (-1), 3) := by decide +kernel
theorem dX7_lay_167 : decode cX7_lay 167 = .ok (.goto (-86), 3) := by decide +kernel
theorem dX7_lay_170 : decode cX7_lay 170 = .ok (.aload_n 0, 1) := by decide +kernel
theorem dX7_lay_171 : decode cX7_lay 171 = .ok (.getfield 56, 3) := by decide +kernel
theorem dX7_lay_174 : decode cX7_lay 174 = .ok (.iload 6, 2) := by decide +kernel
theorem dX7_lay_176 : decode cX7_lay 176 = .ok (.iload_n 3, 1) := by decide +kernel
theorem dX7_lay_177 : decode cX7_lay 177 = .ok (.iastore, 1) := by decide +kernel
theorem dX7_lay_178 : decode cX7_lay 178 = .ok (.aload_n 0, 1) := by decide +kernel
theorem dX7_lay_179 : decode cX7_lay 179 = .ok (.getfield 59, 3) := by decide +kernel
theorem dX7_lay_182 : decode cX7_lay 182 = .ok (.iload 6, 2) := by decide +kernel
theorem dX7_lay_184 : decode cX7_lay 184 = .ok (.iload 4, 2) := by decide +kernel
theorem dX7_lay_186 : decode cX7_lay 186 = .ok (.iastore, 1) := by decide +kernel
theorem dX7_lay_187 : decode cX7_lay 187 = .ok (.aload_n 0, 1) := by decide +kernel
theorem dX7_lay_188 : decode cX7_lay 188 = .ok (.getfield 62, 3) := by decide +kernel
theorem dX7_lay_191 : decode cX7_lay 191 = .ok (.iload 6, 2) := by decide +kernel
theorem dX7_lay_193 : decode cX7_lay 193 = .ok (.iload 5, 2) := by decide +kernel
theorem dX7_lay_195 : decode cX7_lay 195 = .ok (.iastore, 1) := by decide +kernel
theorem dX7_lay_196 : decode cX7_lay 196 = .ok (.aload_n 0, 1) := by decide +kernel
theorem dX7_lay_197 : decode cX7_lay 197 = .ok (.getfield 65, 3) := by decide +kernel
theorem dX7_lay_200 : decode cX7_lay 200 = .ok (.iload 6, 2) := by decide +kernel
theorem dX7_lay_202 : decode cX7_lay 202 = .ok (.iload 5, 2) := by decide +kernel
theorem dX7_lay_204 : decode cX7_lay 204 = .ok (.aload_n 0, 1) := by decide +kernel
theorem dX7_lay_205 : decode cX7_lay 205 = .ok (.getfield 28, 3) := by decide +kernel
theorem dX7_lay_208 : decode cX7_lay 208 = .ok (.iload_n 3, 1) := by decide +kernel
theorem dX7_lay_209 : decode cX7_lay 209 = .ok (.iaload, 1) := by decide +kernel
theorem dX7_lay_210 : decode cX7_lay 210 = .ok (.iadd, 1) := by decide +kernel
theorem dX7_lay_211 : decode cX7_lay 211 = .ok (.iastore, 1) := by decide +kernel
theorem dX7_lay_212 : decode cX7_lay 212 = .ok (.aload_n 0, 1) := by decide +kernel
theorem dX7_lay_213 : decode cX7_lay 213 = .ok (.dup, 1) := by decide +kernel
theorem dX7_lay_214 : decode cX7_lay 214 = .ok (.getfield 150, 3) := by decide +kernel
theorem dX7_lay_217 : decode cX7_lay 217 = .ok (.iconst 1, 1) := by decide +kernel
theorem dX7_lay_218 : decode cX7_lay 218 = .ok (.iadd, 1) := by decide +kernel
theorem dX7_lay_219 : decode cX7_lay 219 = .ok (.putfield 150, 3) := by decide +kernel
theorem dX7_lay_222 : decode cX7_lay 222 = .ok (.iinc 4 1, 3) := by decide +kernel
theorem dX7_lay_225 : decode cX7_lay 225 = .ok (.goto (-185), 3) := by decide +kernel
theorem dX7_lay_228 : decode cX7_lay 228 = .ok (.iinc 3 1, 3) := by decide +kernel
theorem dX7_lay_231 : decode cX7_lay 231 = .ok (.goto (-219), 3) := by decide +kernel
theorem dX7_lay_234 : decode cX7_lay 234 = .ok (.return_, 1) := by decide +kernel
theorem dX7_follows_0 : decode cX7_follows 0 = .ok (.aload_n 0, 1) := by decide +kernel
theorem dX7_follows_1 : decode cX7_follows 1 = .ok (.getfield 19, 3) := by decide +kernel
theorem dX7_follows_4 : decode cX7_follows 4 = .ok (.aload_n 0, 1) := by decide +kernel
theorem dX7_follows_5 : decode cX7_follows 5 = .ok (.getfield 56, 3) := by decide +kernel
theorem dX7_follows_8 : decode cX7_follows 8 = .ok (.iload_n 1, 1) := by decide +kernel
theorem dX7_follows_9 : decode cX7_follows 9 = .ok (.iaload, 1) := by decide +kernel
theorem dX7_follows_10 : decode cX7_follows 10 = .ok (.iaload, 1) := by decide +kernel
theorem dX7_follows_11 : decode cX7_follows 11 = .ok (.istore_n 3, 1) := by decide +kernel
theorem dX7_follows_12 : decode cX7_follows 12 = .ok (.aload_n 0, 1) := by decide +kernel
theorem dX7_follows_13 : decode cX7_follows 13 = .ok (.getfield 16, 3) := by decide +kernel
theorem dX7_follows_16 : decode cX7_follows 16 = .ok (.aload_n 0, 1) := by decide +kernel
theorem dX7_follows_17 : decode cX7_follows 17 = .ok (.getfield 56, 3) := by decide +kernel
theorem dX7_follows_20 : decode cX7_follows 20 = .ok (.iload_n 2, 1) := by decide +kernel
theorem dX7_follows_21 : decode cX7_follows 21 = .ok (.iaload, 1) := by decide +kernel
theorem dX7_follows_22 : decode cX7_follows 22 = .ok (.iaload, 1) := by decide +kernel
theorem dX7_follows_23 : decode cX7_follows 23 = .ok (.iload_n 3, 1) := by decide +kernel
theorem dX7_follows_24 : decode cX7_follows 24 = .ok (.if_icmp .eq 5, 3) := by decide +kernel
theorem dX7_follows_27 : decode cX7_follows 27 = .ok (.iconst 0, 1) := by decide +kernel
theorem dX7_follows_28 : decode cX7_follows 28 = .ok (.ireturn, 1) := by decide +kernel
theorem dX7_follows_29 : decode cX7_follows 29 = .ok (.aload_n 0, 1) := by decide +kernel
theorem dX7_follows_30 : decode cX7_follows 30 = .ok (.getfield 62, 3) := by decide +kernel
theorem dX7_follows_33 : decode cX7_follows 33 = .ok (.iload_n 2, 1) := by decide +kernel
theorem dX7_follows_34 : decode cX7_follows 34 = .ok (.iaload, 1) := by decide +kernel
theorem dX7_follows_35 : decode cX7_follows 35 = .ok (.aload_n 0, 1) := by decide +kernel
theorem dX7_follows_36 : decode cX7_follows 36 = .ok (.getfield 65, 3) := by decide +kernel
theorem dX7_follows_39 : decode cX7_follows 39 = .ok (.iload_n 1, 1) := by decide +kernel
theorem dX7_follows_40 : decode cX7_follows 40 = .ok (.iaload, 1) := by decide +kernel
theorem dX7_follows_41 : decode cX7_follows 41 = .ok (.isub, 1) := by decide +kernel
theorem dX7_follows_42 : decode cX7_follows 42 = .ok (.istore 4, 2) := by decide +kernel
theorem dX7_follows_44 : decode cX7_follows 44 = .ok (.iload 4, 2) := by decide +kernel
theorem dX7_follows_46 : decode cX7_follows 46 = .ok (.aload_n 0, 1) := by decide +kernel
theorem dX7_follows_47 : decode cX7_follows 47 = .ok (.getfield 7, 3) := by decide +kernel
theorem dX7_follows_50 : decode cX7_follows 50 = .ok (.iload_n 3, 1) := by decide +kernel
theorem dX7_follows_51 : decode cX7_follows 51 = .ok (.iaload, 1) := by decide +kernel
theorem dX7_follows_52 : decode cX7_follows 52 = .ok (.if_icmp .lt 27, 3) := by decide +kernel
theorem dX7_follows_55 : decode cX7_follows 55 = .ok (.aload_n 0, 1) := by decide +kernel
theorem dX7_follows_56 : decode cX7_follows 56 = .ok (.getfield 13, 3) := by decide +kernel
theorem dX7_follows_59 : decode cX7_follows 59 = .ok (.iload_n 3, 1) := by decide +kernel
theorem dX7_follows_60 : decode cX7_follows 60 = .ok (.iaload, 1) := by decide +kernel
theorem dX7_follows_61 : decode cX7_follows 61 = .ok (.ifCond .lt 14, 3) := by decide +kernel
theorem dX7_follows_64 : decode cX7_follows 64 = .ok (.iload 4, 2) := by decide +kernel
theorem dX7_follows_66 : decode cX7_follows 66 = .ok (.aload_n 0, 1) := by decide +kernel
theorem dX7_follows_67 : decode cX7_follows 67 = .ok (.getfield 13, 3) := by decide +kernel
theorem dX7_follows_70 : decode cX7_follows 70 = .ok (.iload_n 3, 1) := by decide +kernel
theorem dX7_follows_71 : decode cX7_follows 71 = .ok (.iaload, 1) := by decide +kernel
theorem dX7_follows_72 : decode cX7_follows 72 = .ok (.if_icmp .gt 7, 3) := by decide +kernel
theorem dX7_follows_75 : decode cX7_follows 75 = .ok (.iconst 1, 1) := by decide +kernel
theorem dX7_follows_76 : decode cX7_follows 76 = .ok (.goto 4, 3) := by decide +kernel
theorem dX7_follows_79 : decode cX7_follows 79 = .ok (.iconst 0, 1) := by decide +kernel
theorem dX7_follows_80 : decode cX7_follows 80 = .ok (.ireturn, 1) := by decide +kernel
theorem dX7_goes_0 : decode cX7_goes 0 = .ok (.iconst 0, 1) := by decide +kernel
theorem dX7_goes_1 : decode cX7_goes 1 = .ok (.istore_n 3, 1) := by decide +kernel
theorem dX7_goes_2 : decode cX7_goes 2 = .ok (.iload_n 3, 1) := by decide +kernel
theorem dX7_goes_3 : decode cX7_goes 3 = .ok (.aload_n 0, 1) := by decide +kernel
theorem dX7_goes_4 : decode cX7_goes 4 = .ok (.getfield 150, 3) := by decide +kernel
theorem dX7_goes_7 : decode cX7_goes 7 = .ok (.if_icmp .ge 182, 3) := by decide +kernel
theorem dX7_goes_10 : decode cX7_goes 10 = .ok (.aload_n 0, 1) := by decide +kernel
theorem dX7_goes_11 : decode cX7_goes 11 = .ok (.getfield 74, 3) := by decide +kernel
theorem dX7_goes_14 : decode cX7_goes 14 = .ok (.iload_n 3, 1) := by decide +kernel
theorem dX7_goes_15 : decode cX7_goes 15 = .ok (.aload_n 0, 1) := by decide +kernel
theorem dX7_goes_16 : decode cX7_goes 16 = .ok (.getfield 16, 3) := by decide +kernel
theorem dX7_goes_19 : decode cX7_goes 19 = .ok (.aload_n 0, 1) := by decide +kernel
theorem dX7_goes_20 : decode cX7_goes 20 = .ok (.getfield 56, 3) := by decide +kernel
theorem dX7_goes_23 : decode cX7_goes 23 = .ok (.iload_n 3, 1) := by decide +kernel
theorem dX7_goes_24 : decode cX7_goes 24 = .ok (.iaload, 1) := by decide +kernel
theorem dX7_goes_25 : decode cX7_goes 25 = .ok (.iaload, 1) := by decide +kernel
theorem dX7_goes_26 : decode cX7_goes 26 = .ok (.iload_n 1, 1) := by decide +kernel
theorem dX7_goes_27 : decode cX7_goes 27 = .ok (.if_icmp .ne 17, 3) := by decide +kernel
theorem dX7_goes_30 : decode cX7_goes 30 = .ok (.aload_n 0, 1) := by decide +kernel
theorem dX7_goes_31 : decode cX7_goes 31 = .ok (.getfield 62, 3) := by decide +kernel
theorem dX7_goes_34 : decode cX7_goes 34 = .ok (.iload_n 3, 1) := by decide +kernel
theorem dX7_goes_35 : decode cX7_goes 35 = .ok (.iaload, 1) := by decide +kernel
theorem dX7_goes_36 : decode cX7_goes 36 = .ok (.iload_n 2, 1) := by decide +kernel
theorem dX7_goes_37 : decode cX7_goes 37 = .ok (.if_icmp .lt 7, 3) := by decide +kernel
theorem dX7_goes_40 : decode cX7_goes 40 = .ok (.iconst 1, 1) := by decide +kernel
theorem dX7_goes_41 : decode cX7_goes 41 = .ok (.goto 4, 3) := by decide +kernel
theorem dX7_goes_44 : decode cX7_goes 44 = .ok (.iconst 0, 1) := by decide +kernel
theorem dX7_goes_45 : decode cX7_goes 45 = .ok (.bastore, 1) := by decide +kernel
theorem dX7_goes_46 : decode cX7_goes 46 = .ok (.aload_n 0, 1) := by decide +kernel
theorem dX7_goes_47 : decode cX7_goes 47 = .ok (.getfield 68, 3) := by decide +kernel
theorem dX7_goes_50 : decode cX7_goes 50 = .ok (.iload_n 3, 1) := by decide +kernel
theorem dX7_goes_51 : decode cX7_goes 51 = .ok (.aload_n 0, 1) := by decide +kernel
theorem dX7_goes_52 : decode cX7_goes 52 = .ok (.getfield 74, 3) := by decide +kernel
theorem dX7_goes_55 : decode cX7_goes 55 = .ok (.iload_n 3, 1) := by decide +kernel
theorem dX7_goes_56 : decode cX7_goes 56 = .ok (.baload, 1) := by decide +kernel
theorem dX7_goes_57 : decode cX7_goes 57 = .ok (.ifCond .eq 12, 3) := by decide +kernel
theorem dX7_goes_60 : decode cX7_goes 60 = .ok (.aload_n 0, 1) := by decide +kernel
theorem dX7_goes_61 : decode cX7_goes 61 = .ok (.getfield 62, 3) := by decide +kernel
theorem dX7_goes_64 : decode cX7_goes 64 = .ok (.iload_n 3, 1) := by decide +kernel
theorem dX7_goes_65 : decode cX7_goes 65 = .ok (.iaload, 1) := by decide +kernel
theorem dX7_goes_66 : decode cX7_goes 66 = .ok (.goto 4, 3) := by decide +kernel
theorem dX7_goes_69 : decode cX7_goes 69 = .ok (.iconst (-1), 1) := by decide +kernel
theorem dX7_goes_70 : decode cX7_goes 70 = .ok (.iastore, 1) := by decide +kernel
theorem dX7_goes_71 : decode cX7_goes 71 = .ok (.aload_n 0, 1) := by decide +kernel
theorem dX7_goes_72 : decode cX7_goes 72 = .ok (.getfield 71, 3) := by decide +kernel
theorem dX7_goes_75 : decode cX7_goes 75 = .ok (.iload_n 3, 1) := by decide +kernel
theorem dX7_goes_76 : decode cX7_goes 76 = .ok (.aload_n 0, 1) := by decide +kernel
theorem dX7_goes_77 : decode cX7_goes 77 = .ok (.getfield 74, 3) := by decide +kernel
theorem dX7_goes_80 : decode cX7_goes 80 = .ok (.iload_n 3, 1) := by decide +kernel
theorem dX7_goes_81 : decode cX7_goes 81 = .ok (.baload, 1) := by decide +kernel
theorem dX7_goes_82 : decode cX7_goes 82 = .ok (.ifCond .eq 7, 3) := by decide +kernel
theorem dX7_goes_85 : decode cX7_goes 85 = .ok (.iconst 1, 1) := by decide +kernel
theorem dX7_goes_86 : decode cX7_goes 86 = .ok (.goto 5, 3) := by decide +kernel
theorem dX7_goes_89 : decode cX7_goes 89 = .ok (.ldc 160, 2) := by decide +kernel
theorem dX7_goes_91 : decode cX7_goes 91 = .ok (.iastore, 1) := by decide +kernel
theorem dX7_goes_92 : decode cX7_goes 92 = .ok (.iconst 0, 1) := by decide +kernel
theorem dX7_goes_93 : decode cX7_goes 93 = .ok (.istore 4, 2) := by decide +kernel
theorem dX7_goes_95 : decode cX7_goes 95 = .ok (.iload 4, 2) := by decide +kernel
theorem dX7_goes_97 : decode cX7_goes 97 = .ok (.iload_n 3, 1) := by decide +kernel
theorem dX7_goes_98 : decode cX7_goes 98 = .ok (.if_icmp .ge 85, 3) := by decide +kernel
theorem dX7_goes_101 : decode cX7_goes 101 = .ok (.aload_n 0, 1) := by decide +kernel
theorem dX7_goes_102 : decode cX7_goes 102 = .ok (.getfield 74, 3) := by decide +kernel
theorem dX7_goes_105 : decode cX7_goes 105 = .ok (.iload 4, 2) := by decide +kernel
theorem dX7_goes_107 : decode cX7_goes 107 = .ok (.baload, 1) := by decide +kernel
theorem dX7_goes_108 : decode cX7_goes 108 = .ok (.ifCond .eq 69, 3) := by decide +kernel
theorem dX7_goes_111 : decode cX7_goes 111 = .ok (.aload_n 0, 1) := by decide +kernel
theorem dX7_goes_112 : decode cX7_goes 112 = .ok (.iload 4, 2) := by decide +kernel
theorem dX7_goes_114 : decode cX7_goes 114 = .ok (.iload_n 3, 1) := by decide +kernel
theorem dX7_goes_115 : decode cX7_goes 115 = .ok (.invokevirtual 161, 3) := by decide +kernel
theorem dX7_goes_118 : decode cX7_goes 118 = .ok (.ifCond .ne 6, 3) := by decide +kernel
theorem dX7_goes_121 : decode cX7_goes 121 = .ok (.goto 56, 3) := by decide +kernel
theorem dX7_goes_124 : decode cX7_goes 124 = .ok (.aload_n 0, 1) := by decide +kernel
theorem dX7_goes_125 : decode cX7_goes 125 = .ok (.getfield 74, 3) := by decide +kernel
theorem dX7_goes_128 : decode cX7_goes 128 = .ok (.iload_n 3, 1) := by decide +kernel
theorem dX7_goes_129 : decode cX7_goes 129 = .ok (.iconst 1, 1) := by decide +kernel
theorem dX7_goes_130 : decode cX7_goes 130 = .ok (.bastore, 1) := by decide +kernel
theorem dX7_goes_131 : decode cX7_goes 131 = .ok (.aload_n 0, 1) := by decide +kernel
theorem dX7_goes_132 : decode cX7_goes 132 = .ok (.getfield 68, 3) := by decide +kernel
theorem dX7_goes_135 : decode cX7_goes 135 = .ok (.iload_n 3, 1) := by decide +kernel
theorem dX7_goes_136 : decode cX7_goes 136 = .ok (.aload_n 0, 1) := by decide +kernel
theorem dX7_goes_137 : decode cX7_goes 137 = .ok (.getfield 68, 3) := by decide +kernel
theorem dX7_goes_140 : decode cX7_goes 140 = .ok (.iload_n 3, 1) := by decide +kernel
theorem dX7_goes_141 : decode cX7_goes 141 = .ok (.iaload, 1) := by decide +kernel
theorem dX7_goes_142 : decode cX7_goes 142 = .ok (.aload_n 0, 1) := by decide +kernel
theorem dX7_goes_143 : decode cX7_goes 143 = .ok (.getfield 68, 3) := by decide +kernel
theorem dX7_goes_146 : decode cX7_goes 146 = .ok (.iload 4, 2) := by decide +kernel
theorem dX7_goes_148 : decode cX7_goes 148 = .ok (.iaload, 1) := by decide +kernel
theorem dX7_goes_149 : decode cX7_goes 149 = .ok (.invokestatic 164, 3) := by decide +kernel
theorem dX7_goes_152 : decode cX7_goes 152 = .ok (.iastore, 1) := by decide +kernel
theorem dX7_goes_153 : decode cX7_goes 153 = .ok (.aload_n 0, 1) := by decide +kernel
theorem dX7_goes_154 : decode cX7_goes 154 = .ok (.getfield 71, 3) := by decide +kernel
theorem dX7_goes_157 : decode cX7_goes 157 = .ok (.iload_n 3, 1) := by decide +kernel
theorem dX7_goes_158 : decode cX7_goes 158 = .ok (.aload_n 0, 1) := by decide +kernel
theorem dX7_goes_159 : decode cX7_goes 159 = .ok (.getfield 71, 3) := by decide +kernel
theorem dX7_goes_162 : decode cX7_goes 162 = .ok (.iload_n 3, 1) := by decide +kernel
theorem dX7_goes_163 : decode cX7_goes 163 = .ok (.iaload, 1) := by decide +kernel
theorem dX7_goes_164 : decode cX7_goes 164 = .ok (.aload_n 0, 1) := by decide +kernel
theorem dX7_goes_165 : decode cX7_goes 165 = .ok (.getfield 71, 3) := by decide +kernel
theorem dX7_goes_168 : decode cX7_goes 168 = .ok (.iload 4, 2) := by decide +kernel
theorem dX7_goes_170 : decode cX7_goes 170 = .ok (.iaload, 1) := by decide +kernel
theorem dX7_goes_171 : decode cX7_goes 171 = .ok (.iconst 1, 1) := by decide +kernel
theorem dX7_goes_172 : decode cX7_goes 172 = .ok (.iadd, 1) := by decide +kernel
theorem dX7_goes_173 : decode cX7_goes 173 = .ok (.invokestatic 170, 3) := by decide +kernel
theorem dX7_goes_176 : decode cX7_goes 176 = .ok (.iastore, 1) := by decide +kernel
theorem dX7_goes_177 : decode cX7_goes 177 = .ok (.iinc 4 1, 3) := by decide +kernel
theorem dX7_goes_180 : decode cX7_goes 180 = .ok (.goto (-85), 3) := by decide +kernel
theorem dX7_goes_183 : decode cX7_goes 183 = .ok (.iinc 3 1, 3) := by decide +kernel
theorem dX7_goes_186 : decode cX7_goes 186 = .ok (.goto (-184), 3) := by decide +kernel
theorem dX7_goes_189 : decode cX7_goes 189 = .ok (.return_, 1) := by decide +kernel
theorem dX7_firstOf_0 : decode cX7_firstOf 0 = .ok (.ldc 160, 2) := by decide +kernel
theorem dX7_firstOf_2 : decode cX7_firstOf 2 = .ok (.istore_n 2, 1) := by decide +kernel
theorem dX7_firstOf_3 : decode cX7_firstOf 3 = .ok (.iconst 0, 1) := by decide +kernel
theorem dX7_firstOf_4 : decode cX7_firstOf 4 = .ok (.istore_n 3, 1) := by decide +kernel
theorem dX7_firstOf_5 : decode cX7_firstOf 5 = .ok (.iload_n 3, 1) := by decide +kernel
theorem dX7_firstOf_6 : decode cX7_firstOf 6 = .ok (.aload_n 0, 1) := by decide +kernel
theorem dX7_firstOf_7 : decode cX7_firstOf 7 = .ok (.getfield 150, 3) := by decide +kernel
theorem dX7_firstOf_10 : decode cX7_firstOf 10 = .ok (.if_icmp .ge 44, 3) := by decide +kernel
theorem dX7_firstOf_13 : decode cX7_firstOf 13 = .ok (.aload_n 0, 1) := by decide +kernel
theorem dX7_firstOf_14 : decode cX7_firstOf 14 = .ok (.getfield 74, 3) := by decide +kernel
theorem dX7_firstOf_17 : decode cX7_firstOf 17 = .ok (.iload_n 3, 1) := by decide +kernel
theorem dX7_firstOf_18 : decode cX7_firstOf 18 = .ok (.baload, 1) := by decide +kernel
theorem dX7_firstOf_19 : decode cX7_firstOf 19 = .ok (.ifCond .eq 29, 3) := by decide +kernel
theorem dX7_firstOf_22 : decode cX7_firstOf 22 = .ok (.aload_n 0, 1) := by decide +kernel
theorem dX7_firstOf_23 : decode cX7_firstOf 23 = .ok (.getfield 19, 3) := by decide +kernel
theorem dX7_firstOf_26 : decode cX7_firstOf 26 = .ok (.aload_n 0, 1) := by decide +kernel
theorem dX7_firstOf_27 : decode cX7_firstOf 27 = .ok (.getfield 56, 3) := by decide +kernel
theorem dX7_firstOf_30 : decode cX7_firstOf 30 = .ok (.iload_n 3, 1) := by decide +kernel
theorem dX7_firstOf_31 : decode cX7_firstOf 31 = .ok (.iaload, 1) := by decide +kernel
theorem dX7_firstOf_32 : decode cX7_firstOf 32 = .ok (.iaload, 1) := by decide +kernel
theorem dX7_firstOf_33 : decode cX7_firstOf 33 = .ok (.iload_n 1, 1) := by decide +kernel
theorem dX7_firstOf_34 : decode cX7_firstOf 34 = .ok (.if_icmp .ne 14, 3) := by decide +kernel
theorem dX7_firstOf_37 : decode cX7_firstOf 37 = .ok (.iload_n 2, 1) := by decide +kernel
theorem dX7_firstOf_38 : decode cX7_firstOf 38 = .ok (.aload_n 0, 1) := by decide +kernel
theorem dX7_firstOf_39 : decode cX7_firstOf 39 = .ok (.getfield 65, 3) := by decide +kernel
theorem dX7_firstOf_42 : decode cX7_firstOf 42 = .ok (.iload_n 3, 1) := by decide +kernel
theorem dX7_firstOf_43 : decode cX7_firstOf 43 = .ok (.iaload, 1) := by decide +kernel
theorem dX7_firstOf_44 : decode cX7_firstOf 44 = .ok (.invokestatic 170, 3) := by decide +kernel
theorem dX7_firstOf_47 : decode cX7_firstOf 47 = .ok (.istore_n 2, 1) := by decide +kernel
theorem dX7_firstOf_48 : decode cX7_firstOf 48 = .ok (.iinc 3 1, 3) := by decide +kernel
theorem dX7_firstOf_51 : decode cX7_firstOf 51 = .ok (.goto (-46), 3) := by decide +kernel
theorem dX7_firstOf_54 : decode cX7_firstOf 54 = .ok (.iload_n 2, 1) := by decide +kernel
theorem dX7_firstOf_55 : decode cX7_firstOf 55 = .ok (.ireturn, 1) := by decide +kernel
theorem dX7_asked_0 : decode cX7_asked 0 = .ok (.aload_n 0, 1) := by decide +kernel
theorem dX7_asked_1 : decode cX7_asked 1 = .ok (.iload_n 1, 1) := by decide +kernel
theorem dX7_asked_2 : decode cX7_asked 2 = .ok (.invokevirtual 113, 3) := by decide +kernel
theorem dX7_asked_5 : decode cX7_asked 5 = .ok (.ifCond .eq 16, 3) := by decide +kernel
theorem dX7_asked_8 : decode cX7_asked 8 = .ok (.aload_n 0, 1) := by decide +kernel
theorem dX7_asked_9 : decode cX7_asked 9 = .ok (.iload_n 2, 1) := by decide +kernel
theorem dX7_asked_10 : decode cX7_asked 10 = .ok (.invokevirtual 113, 3) := by decide +kernel
theorem dX7_asked_13 : decode cX7_asked 13 = .ok (.ifCond .eq 8, 3) := by decide +kernel
theorem dX7_asked_16 : decode cX7_asked 16 = .ok (.iload_n 1, 1) := by decide +kernel
theorem dX7_asked_17 : decode cX7_asked 17 = .ok (.iload_n 2, 1) := by decide +kernel
theorem dX7_asked_18 : decode cX7_asked 18 = .ok (.if_icmp .ne 5, 3) := by decide +kernel
theorem dX7_asked_21 : decode cX7_asked 21 = .ok (.iconst 1, 1) := by decide +kernel
theorem dX7_asked_22 : decode cX7_asked 22 = .ok (.ireturn, 1) := by decide +kernel
theorem dX7_asked_23 : decode cX7_asked 23 = .ok (.iload_n 3, 1) := by decide +kernel
theorem dX7_asked_24 : decode cX7_asked 24 = .ok (.invokestatic 123, 3) := by decide +kernel
theorem dX7_asked_27 : decode cX7_asked 27 = .ok (.ifCond .eq 11, 3) := by decide +kernel
theorem dX7_asked_30 : decode cX7_asked 30 = .ok (.iload 4, 2) := by decide +kernel
theorem dX7_asked_32 : decode cX7_asked 32 = .ok (.invokestatic 123, 3) := by decide +kernel
theorem dX7_asked_35 : decode cX7_asked 35 = .ok (.ifCond .ne 5, 3) := by decide +kernel
theorem dX7_asked_38 : decode cX7_asked 38 = .ok (.iconst 2, 1) := by decide +kernel
theorem dX7_asked_39 : decode cX7_asked 39 = .ok (.ireturn, 1) := by decide +kernel
theorem dX7_asked_40 : decode cX7_asked 40 = .ok (.iload 5, 2) := by decide +kernel
theorem dX7_asked_42 : decode cX7_asked 42 = .ok (.ifCond .lt 12, 3) := by decide +kernel
theorem dX7_asked_45 : decode cX7_asked 45 = .ok (.iload 5, 2) := by decide +kernel
theorem dX7_asked_47 : decode cX7_asked 47 = .ok (.aload_n 0, 1) := by decide +kernel
theorem dX7_asked_48 : decode cX7_asked 48 = .ok (.getfield 120, 3) := by decide +kernel
theorem dX7_asked_51 : decode cX7_asked 51 = .ok (.if_icmp .le 8, 3) := by decide +kernel
theorem dX7_asked_54 : decode cX7_asked 54 = .ok (.bipush 6, 2) := by decide +kernel
theorem dX7_asked_56 : decode cX7_asked 56 = .ok (.goto 4, 3) := by decide +kernel
theorem dX7_asked_59 : decode cX7_asked 59 = .ok (.iconst 0, 1) := by decide +kernel
theorem dX7_asked_60 : decode cX7_asked 60 = .ok (.ireturn, 1) := by decide +kernel
theorem dX7_best_0 : decode cX7_best 0 = .ok (.iload_n 1, 1) := by decide +kernel
theorem dX7_best_1 : decode cX7_best 1 = .ok (.ldc 160, 2) := by decide +kernel
theorem dX7_best_3 : decode cX7_best 3 = .ok (.if_icmp .eq 7, 3) := by decide +kernel
theorem dX7_best_6 : decode cX7_best 6 = .ok (.iload_n 1, 1) := by decide +kernel
theorem dX7_best_7 : decode cX7_best 7 = .ok (.ifCond .ge 11, 3) := by decide +kernel
theorem dX7_best_10 : decode cX7_best 10 = .ok (.aload_n 0, 1) := by decide +kernel
theorem dX7_best_11 : decode cX7_best 11 = .ok (.iconst 5, 1) := by decide +kernel
theorem dX7_best_12 : decode cX7_best 12 = .ok (.invokevirtual 109, 3) := by decide +kernel
theorem dX7_best_15 : decode cX7_best 15 = .ok (.goto 4, 3) := by decide +kernel
theorem dX7_best_18 : decode cX7_best 18 = .ok (.iload_n 1, 1) := by decide +kernel
theorem dX7_best_19 : decode cX7_best 19 = .ok (.ireturn, 1) := by decide +kernel
theorem dX7_first_0 : decode cX7_first 0 = .ok (.aload_n 0, 1) := by decide +kernel
theorem dX7_first_1 : decode cX7_first 1 = .ok (.iconst 0, 1) := by decide +kernel
theorem dX7_first_2 : decode cX7_first 2 = .ok (.putfield 92, 3) := by decide +kernel
theorem dX7_first_5 : decode cX7_first 5 = .ok (.aload_n 0, 1) := by decide +kernel
theorem dX7_first_6 : decode cX7_first 6 = .ok (.aload_n 0, 1) := by decide +kernel
theorem dX7_first_7 : decode cX7_first 7 = .ok (.iload_n 1, 1) := by decide +kernel
theorem dX7_first_8 : decode cX7_first 8 = .ok (.iload_n 2, 1) := by decide +kernel
theorem dX7_first_9 : decode cX7_first 9 = .ok (.iload_n 3, 1) := by decide +kernel
theorem dX7_first_10 : decode cX7_first 10 = .ok (.iload_n 3, 1) := by decide +kernel
theorem dX7_first_11 : decode cX7_first 11 = .ok (.iload 4, 2) := by decide +kernel
theorem dX7_first_13 : decode cX7_first 13 = .ok (.invokevirtual 173, 3) := by decide +kernel
theorem dX7_first_16 : decode cX7_first 16 = .ok (.putfield 96, 3) := by decide +kernel
theorem dX7_first_19 : decode cX7_first 19 = .ok (.aload_n 0, 1) := by decide +kernel
theorem dX7_first_20 : decode cX7_first 20 = .ok (.getfield 96, 3) := by decide +kernel
theorem dX7_first_23 : decode cX7_first 23 = .ok (.ifCond .le 5, 3) := by decide +kernel
theorem dX7_first_26 : decode cX7_first 26 = .ok (.iconst (-1), 1) := by decide +kernel
theorem dX7_first_27 : decode cX7_first 27 = .ok (.ireturn, 1) := by decide +kernel
theorem dX7_first_28 : decode cX7_first 28 = .ok (.aload_n 0, 1) := by decide +kernel
theorem dX7_first_29 : decode cX7_first 29 = .ok (.iload 4, 2) := by decide +kernel
theorem dX7_first_31 : decode cX7_first 31 = .ok (.iconst (-1), 1) := by decide +kernel
theorem dX7_first_32 : decode cX7_first 32 = .ok (.invokevirtual 177, 3) := by decide +kernel
theorem dX7_first_35 : decode cX7_first 35 = .ok (.aload_n 0, 1) := by decide +kernel
theorem dX7_first_36 : decode cX7_first 36 = .ok (.iload_n 1, 1) := by decide +kernel
theorem dX7_first_37 : decode cX7_first 37 = .ok (.iload_n 3, 1) := by decide +kernel
theorem dX7_first_38 : decode cX7_first 38 = .ok (.invokevirtual 181, 3) := by decide +kernel
theorem dX7_first_41 : decode cX7_first 41 = .ok (.aload_n 0, 1) := by decide +kernel
theorem dX7_first_42 : decode cX7_first 42 = .ok (.aload_n 0, 1) := by decide +kernel
theorem dX7_first_43 : decode cX7_first 43 = .ok (.iload_n 2, 1) := by decide +kernel
theorem dX7_first_44 : decode cX7_first 44 = .ok (.invokevirtual 184, 3) := by decide +kernel
theorem dX7_first_47 : decode cX7_first 47 = .ok (.invokevirtual 187, 3) := by decide +kernel
theorem dX7_first_50 : decode cX7_first 50 = .ok (.ireturn, 1) := by decide +kernel
theorem dX7_last_0 : decode cX7_last 0 = .ok (.aload_n 0, 1) := by decide +kernel
theorem dX7_last_1 : decode cX7_last 1 = .ok (.iconst 0, 1) := by decide +kernel
theorem dX7_last_2 : decode cX7_last 2 = .ok (.putfield 92, 3) := by decide +kernel
theorem dX7_last_5 : decode cX7_last 5 = .ok (.aload_n 0, 1) := by decide +kernel
theorem dX7_last_6 : decode cX7_last 6 = .ok (.aload_n 0, 1) := by decide +kernel
theorem dX7_last_7 : decode cX7_last 7 = .ok (.iload_n 1, 1) := by decide +kernel
theorem dX7_last_8 : decode cX7_last 8 = .ok (.iload_n 2, 1) := by decide +kernel
theorem dX7_last_9 : decode cX7_last 9 = .ok (.iload_n 3, 1) := by decide +kernel
theorem dX7_last_10 : decode cX7_last 10 = .ok (.iload_n 3, 1) := by decide +kernel
theorem dX7_last_11 : decode cX7_last 11 = .ok (.iload 4, 2) := by decide +kernel
theorem dX7_last_13 : decode cX7_last 13 = .ok (.invokevirtual 173, 3) := by decide +kernel
theorem dX7_last_16 : decode cX7_last 16 = .ok (.putfield 96, 3) := by decide +kernel
theorem dX7_last_19 : decode cX7_last 19 = .ok (.aload_n 0, 1) := by decide +kernel
theorem dX7_last_20 : decode cX7_last 20 = .ok (.getfield 96, 3) := by decide +kernel
theorem dX7_last_23 : decode cX7_last 23 = .ok (.ifCond .le 5, 3) := by decide +kernel
theorem dX7_last_26 : decode cX7_last 26 = .ok (.iconst (-1), 1) := by decide +kernel
theorem dX7_last_27 : decode cX7_last 27 = .ok (.ireturn, 1) := by decide +kernel
theorem dX7_last_28 : decode cX7_last 28 = .ok (.aload_n 0, 1) := by decide +kernel
theorem dX7_last_29 : decode cX7_last 29 = .ok (.iload 4, 2) := by decide +kernel
theorem dX7_last_31 : decode cX7_last 31 = .ok (.iconst (-1), 1) := by decide +kernel
theorem dX7_last_32 : decode cX7_last 32 = .ok (.invokevirtual 177, 3) := by decide +kernel
theorem dX7_last_35 : decode cX7_last 35 = .ok (.aload_n 0, 1) := by decide +kernel
theorem dX7_last_36 : decode cX7_last 36 = .ok (.iload_n 1, 1) := by decide +kernel
theorem dX7_last_37 : decode cX7_last 37 = .ok (.iconst 0, 1) := by decide +kernel
theorem dX7_last_38 : decode cX7_last 38 = .ok (.invokevirtual 181, 3) := by decide +kernel
theorem dX7_last_41 : decode cX7_last 41 = .ok (.iconst (-1), 1) := by decide +kernel
theorem dX7_last_42 : decode cX7_last 42 = .ok (.istore 5, 2) := by decide +kernel
theorem dX7_last_44 : decode cX7_last 44 = .ok (.iconst 0, 1) := by decide +kernel
theorem dX7_last_45 : decode cX7_last 45 = .ok (.istore 6, 2) := by decide +kernel
theorem dX7_last_47 : decode cX7_last 47 = .ok (.iload 6, 2) := by decide +kernel
theorem dX7_last_49 : decode cX7_last 49 = .ok (.aload_n 0, 1) := by decide +kernel
theorem dX7_last_50 : decode cX7_last 50 = .ok (.getfield 150, 3) := by decide +kernel
theorem dX7_last_53 : decode cX7_last 53 = .ok (.if_icmp .ge 60, 3) := by decide +kernel
theorem dX7_last_56 : decode cX7_last 56 = .ok (.aload_n 0, 1) := by decide +kernel
theorem dX7_last_57 : decode cX7_last 57 = .ok (.getfield 74, 3) := by decide +kernel
theorem dX7_last_60 : decode cX7_last 60 = .ok (.iload 6, 2) := by decide +kernel
theorem dX7_last_62 : decode cX7_last 62 = .ok (.baload, 1) := by decide +kernel
theorem dX7_last_63 : decode cX7_last 63 = .ok (.ifCond .eq 44, 3) := by decide +kernel
theorem dX7_last_66 : decode cX7_last 66 = .ok (.aload_n 0, 1) := by decide +kernel
theorem dX7_last_67 : decode cX7_last 67 = .ok (.getfield 19, 3) := by decide +kernel
theorem dX7_last_70 : decode cX7_last 70 = .ok (.aload_n 0, 1) := by decide +kernel
theorem dX7_last_71 : decode cX7_last 71 = .ok (.getfield 56, 3) := by decide +kernel
theorem dX7_last_74 : decode cX7_last 74 = .ok (.iload 6, 2) := by decide +kernel
theorem dX7_last_76 : decode cX7_last 76 = .ok (.iaload, 1) := by decide +kernel
theorem dX7_last_77 : decode cX7_last 77 = .ok (.iaload, 1) := by decide +kernel
theorem dX7_last_78 : decode cX7_last 78 = .ok (.iload_n 2, 1) := by decide +kernel
theorem dX7_last_79 : decode cX7_last 79 = .ok (.if_icmp .ne 28, 3) := by decide +kernel
theorem dX7_last_82 : decode cX7_last 82 = .ok (.aload_n 0, 1) := by decide +kernel
theorem dX7_last_83 : decode cX7_last 83 = .ok (.getfield 65, 3) := by decide +kernel
theorem dX7_last_86 : decode cX7_last 86 = .ok (.iload 6, 2) := by decide +kernel
theorem dX7_last_88 : decode cX7_last 88 = .ok (.iaload, 1) := by decide +kernel
theorem dX7_last_89 : decode cX7_last 89 = .ok (.iload_n 3, 1) := by decide +kernel
theorem dX7_last_90 : decode cX7_last 90 = .ok (.if_icmp .gt 17, 3) := by decide +kernel
theorem dX7_last_93 : decode cX7_last 93 = .ok (.iload 5, 2) := by decide +kernel
theorem dX7_last_95 : decode cX7_last 95 = .ok (.aload_n 0, 1) := by decide +kernel
theorem dX7_last_96 : decode cX7_last 96 = .ok (.getfield 68, 3) := by decide +kernel
theorem dX7_last_99 : decode cX7_last 99 = .ok (.iload 6, 2) := by decide +kernel
theorem dX7_last_101 : decode cX7_last 101 = .ok (.iaload, 1) := by decide +kernel
theorem dX7_last_102 : decode cX7_last 102 = .ok (.invokestatic 164, 3) := by decide +kernel
theorem dX7_last_105 : decode cX7_last 105 = .ok (.istore 5, 2) := by decide +kernel
theorem dX7_last_107 : decode cX7_last 107 = .ok (.iinc 6 1, 3) := by decide +kernel
theorem dX7_last_110 : decode cX7_last 110 = .ok (.goto (-63), 3) := by decide +kernel
theorem dX7_last_113 : decode cX7_last 113 = .ok (.aload_n 0, 1) := by decide +kernel
theorem dX7_last_114 : decode cX7_last 114 = .ok (.iload 5, 2) := by decide +kernel
theorem dX7_last_116 : decode cX7_last 116 = .ok (.invokevirtual 187, 3) := by decide +kernel
theorem dX7_last_119 : decode cX7_last 119 = .ok (.ireturn, 1) := by decide +kernel
theorem dX7_quickest_0 : decode cX7_quickest 0 = .ok (.aload_n 0, 1) := by decide +kernel
theorem dX7_quickest_1 : decode cX7_quickest 1 = .ok (.iconst 0, 1) := by decide +kernel
theorem dX7_quickest_2 : decode cX7_quickest 2 = .ok (.putfield 92, 3) := by decide +kernel
theorem dX7_quickest_5 : decode cX7_quickest 5 = .ok (.aload_n 0, 1) := by decide +kernel
theorem dX7_quickest_6 : decode cX7_quickest 6 = .ok (.aload_n 0, 1) := by decide +kernel
theorem dX7_quickest_7 : decode cX7_quickest 7 = .ok (.iload_n 1, 1) := by decide +kernel
theorem dX7_quickest_8 : decode cX7_quickest 8 = .ok (.iload_n 2, 1) := by decide +kernel
theorem dX7_quickest_9 : decode cX7_quickest 9 = .ok (.iload_n 3, 1) := by decide +kernel
theorem dX7_quickest_10 : decode cX7_quickest 10 = .ok (.iload 4, 2) := by decide +kernel
theorem dX7_quickest_12 : decode cX7_quickest 12 = .ok (.iload 5, 2) := by decide +kernel
theorem dX7_quickest_14 : decode cX7_quickest 14 = .ok (.invokevirtual 173, 3) := by decide +kernel
theorem dX7_quickest_17 : decode cX7_quickest 17 = .ok (.putfield 96, 3) := by decide +kernel
theorem dX7_quickest_20 : decode cX7_quickest 20 = .ok (.aload_n 0, 1) := by decide +kernel
theorem dX7_quickest_21 : decode cX7_quickest 21 = .ok (.getfield 96, 3) := by decide +kernel
theorem dX7_quickest_24 : decode cX7_quickest 24 = .ok (.ifCond .le 5, 3) := by decide +kernel
theorem dX7_quickest_27 : decode cX7_quickest 27 = .ok (.iconst (-1), 1) := by decide +kernel
theorem dX7_quickest_28 : decode cX7_quickest 28 = .ok (.ireturn, 1) := by decide +kernel
theorem dX7_quickest_29 : decode cX7_quickest 29 = .ok (.aload_n 0, 1) := by decide +kernel
theorem dX7_quickest_30 : decode cX7_quickest 30 = .ok (.iload 5, 2) := by decide +kernel
theorem dX7_quickest_32 : decode cX7_quickest 32 = .ok (.iconst (-1), 1) := by decide +kernel
theorem dX7_quickest_33 : decode cX7_quickest 33 = .ok (.invokevirtual 177, 3) := by decide +kernel
theorem dX7_quickest_36 : decode cX7_quickest 36 = .ok (.aload_n 0, 1) := by decide +kernel
theorem dX7_quickest_37 : decode cX7_quickest 37 = .ok (.iload_n 1, 1) := by decide +kernel
theorem dX7_quickest_38 : decode cX7_quickest 38 = .ok (.iload_n 3, 1) := by decide +kernel
theorem dX7_quickest_39 : decode cX7_quickest 39 = .ok (.invokevirtual 181, 3) := by decide +kernel
theorem dX7_quickest_42 : decode cX7_quickest 42 = .ok (.ldc 160, 2) := by decide +kernel
theorem dX7_quickest_44 : decode cX7_quickest 44 = .ok (.istore 6, 2) := by decide +kernel
theorem dX7_quickest_46 : decode cX7_quickest 46 = .ok (.iconst 0, 1) := by decide +kernel
theorem dX7_quickest_47 : decode cX7_quickest 47 = .ok (.istore 7, 2) := by decide +kernel
theorem dX7_quickest_49 : decode cX7_quickest 49 = .ok (.iload 7, 2) := by decide +kernel
theorem dX7_quickest_51 : decode cX7_quickest 51 = .ok (.aload_n 0, 1) := by decide +kernel
theorem dX7_quickest_52 : decode cX7_quickest 52 = .ok (.getfield 150, 3) := by decide +kernel
theorem dX7_quickest_55 : decode cX7_quickest 55 = .ok (.if_icmp .ge 69, 3) := by decide +kernel
theorem dX7_quickest_58 : decode cX7_quickest 58 = .ok (.aload_n 0, 1) := by decide +kernel
theorem dX7_quickest_59 : decode cX7_quickest 59 = .ok (.getfield 74, 3) := by decide +kernel
theorem dX7_quickest_62 : decode cX7_quickest 62 = .ok (.iload 7, 2) := by decide +kernel
theorem dX7_quickest_64 : decode cX7_quickest 64 = .ok (.baload, 1) := by decide +kernel
theorem dX7_quickest_65 : decode cX7_quickest 65 = .ok (.ifCond .eq 53, 3) := by decide +kernel
theorem dX7_quickest_68 : decode cX7_quickest 68 = .ok (.aload_n 0, 1) := by decide +kernel
theorem dX7_quickest_69 : decode cX7_quickest 69 = .ok (.getfield 19, 3) := by decide +kernel
theorem dX7_quickest_72 : decode cX7_quickest 72 = .ok (.aload_n 0, 1) := by decide +kernel
theorem dX7_quickest_73 : decode cX7_quickest 73 = .ok (.getfield 56, 3) := by decide +kernel
theorem dX7_quickest_76 : decode cX7_quickest 76 = .ok (.iload 7, 2) := by decide +kernel
theorem dX7_quickest_78 : decode cX7_quickest 78 = .ok (.iaload, 1) := by decide +kernel
theorem dX7_quickest_79 : decode cX7_quickest 79 = .ok (.iaload, 1) := by decide +kernel
theorem dX7_quickest_80 : decode cX7_quickest 80 = .ok (.iload_n 2, 1) := by decide +kernel
theorem dX7_quickest_81 : decode cX7_quickest 81 = .ok (.if_icmp .ne 37, 3) := by decide +kernel
theorem dX7_quickest_84 : decode cX7_quickest 84 = .ok (.aload_n 0, 1) := by decide +kernel
theorem dX7_quickest_85 : decode cX7_quickest 85 = .ok (.getfield 65, 3) := by decide +kernel
theorem dX7_quickest_88 : decode cX7_quickest 88 = .ok (.iload 7, 2) := by decide +kernel
theorem dX7_quickest_90 : decode cX7_quickest 90 = .ok (.iaload, 1) := by decide +kernel
theorem dX7_quickest_91 : decode cX7_quickest 91 = .ok (.iload 4, 2) := by decide +kernel
theorem dX7_quickest_93 : decode cX7_quickest 93 = .ok (.if_icmp .gt 25, 3) := by decide +kernel
theorem dX7_quickest_96 : decode cX7_quickest 96 = .ok (.iload 6, 2) := by decide +kernel
theorem dX7_quickest_98 : decode cX7_quickest 98 = .ok (.aload_n 0, 1) := by decide +kernel
theorem dX7_quickest_99 : decode cX7_quickest 99 = .ok (.getfield 65, 3) := by decide +kernel
theorem dX7_quickest_102 : decode cX7_quickest 102 = .ok (.iload 7, 2) := by decide +kernel
theorem dX7_quickest_104 : decode cX7_quickest 104 = .ok (.iaload, 1) := by decide +kernel
theorem dX7_quickest_105 : decode cX7_quickest 105 = .ok (.aload_n 0, 1) := by decide +kernel
theorem dX7_quickest_106 : decode cX7_quickest 106 = .ok (.getfield 68, 3) := by decide +kernel
theorem dX7_quickest_109 : decode cX7_quickest 109 = .ok (.iload 7, 2) := by decide +kernel
theorem dX7_quickest_111 : decode cX7_quickest 111 = .ok (.iaload, 1) := by decide +kernel
theorem dX7_quickest_112 : decode cX7_quickest 112 = .ok (.isub, 1) := by decide +kernel
theorem dX7_quickest_113 : decode cX7_quickest 113 = .ok (.invokestatic 170, 3) := by decide +kernel
theorem dX7_quickest_116 : decode cX7_quickest 116 = .ok (.istore 6, 2) := by decide +kernel
theorem dX7_quickest_118 : decode cX7_quickest 118 = .ok (.iinc 7 1, 3) := by decide +kernel
theorem dX7_quickest_121 : decode cX7_quickest 121 = .ok (.goto (-72), 3) := by decide +kernel
theorem dX7_quickest_124 : decode cX7_quickest 124 = .ok (.aload_n 0, 1) := by decide +kernel
theorem dX7_quickest_125 : decode cX7_quickest 125 = .ok (.iload 6, 2) := by decide +kernel
theorem dX7_quickest_127 : decode cX7_quickest 127 = .ok (.invokevirtual 187, 3) := by decide +kernel
theorem dX7_quickest_130 : decode cX7_quickest 130 = .ok (.ireturn, 1) := by decide +kernel
theorem dX7_fewest_0 : decode cX7_fewest 0 = .ok (.aload_n 0, 1) := by decide +kernel
theorem dX7_fewest_1 : decode cX7_fewest 1 = .ok (.iconst 0, 1) := by decide +kernel
theorem dX7_fewest_2 : decode cX7_fewest 2 = .ok (.putfield 92, 3) := by decide +kernel
theorem dX7_fewest_5 : decode cX7_fewest 5 = .ok (.aload_n 0, 1) := by decide +kernel
theorem dX7_fewest_6 : decode cX7_fewest 6 = .ok (.aload_n 0, 1) := by decide +kernel
theorem dX7_fewest_7 : decode cX7_fewest 7 = .ok (.iload_n 1, 1) := by decide +kernel
theorem dX7_fewest_8 : decode cX7_fewest 8 = .ok (.iload_n 2, 1) := by decide +kernel
theorem dX7_fewest_9 : decode cX7_fewest 9 = .ok (.iload_n 3, 1) := by decide +kernel
theorem dX7_fewest_10 : decode cX7_fewest 10 = .ok (.iload 4, 2) := by decide +kernel
theorem dX7_fewest_12 : decode cX7_fewest 12 = .ok (.iload 5, 2) := by decide +kernel
theorem dX7_fewest_14 : decode cX7_fewest 14 = .ok (.invokevirtual 173, 3) := by decide +kernel
theorem dX7_fewest_17 : decode cX7_fewest 17 = .ok (.putfield 96, 3) := by decide +kernel
theorem dX7_fewest_20 : decode cX7_fewest 20 = .ok (.aload_n 0, 1) := by decide +kernel
theorem dX7_fewest_21 : decode cX7_fewest 21 = .ok (.getfield 96, 3) := by decide +kernel
theorem dX7_fewest_24 : decode cX7_fewest 24 = .ok (.ifCond .le 5, 3) := by decide +kernel
theorem dX7_fewest_27 : decode cX7_fewest 27 = .ok (.iconst (-1), 1) := by decide +kernel
theorem dX7_fewest_28 : decode cX7_fewest 28 = .ok (.ireturn, 1) := by decide +kernel
theorem dX7_fewest_29 : decode cX7_fewest 29 = .ok (.aload_n 0, 1) := by decide +kernel
theorem dX7_fewest_30 : decode cX7_fewest 30 = .ok (.iload 5, 2) := by decide +kernel
theorem dX7_fewest_32 : decode cX7_fewest 32 = .ok (.iconst (-1), 1) := by decide +kernel
theorem dX7_fewest_33 : decode cX7_fewest 33 = .ok (.invokevirtual 177, 3) := by decide +kernel
theorem dX7_fewest_36 : decode cX7_fewest 36 = .ok (.aload_n 0, 1) := by decide +kernel
theorem dX7_fewest_37 : decode cX7_fewest 37 = .ok (.iload_n 1, 1) := by decide +kernel
theorem dX7_fewest_38 : decode cX7_fewest 38 = .ok (.iload_n 3, 1) := by decide +kernel
theorem dX7_fewest_39 : decode cX7_fewest 39 = .ok (.invokevirtual 181, 3) := by decide +kernel
theorem dX7_fewest_42 : decode cX7_fewest 42 = .ok (.ldc 160, 2) := by decide +kernel
theorem dX7_fewest_44 : decode cX7_fewest 44 = .ok (.istore 6, 2) := by decide +kernel
theorem dX7_fewest_46 : decode cX7_fewest 46 = .ok (.iconst 0, 1) := by decide +kernel
theorem dX7_fewest_47 : decode cX7_fewest 47 = .ok (.istore 7, 2) := by decide +kernel
theorem dX7_fewest_49 : decode cX7_fewest 49 = .ok (.iload 7, 2) := by decide +kernel
theorem dX7_fewest_51 : decode cX7_fewest 51 = .ok (.aload_n 0, 1) := by decide +kernel
theorem dX7_fewest_52 : decode cX7_fewest 52 = .ok (.getfield 150, 3) := by decide +kernel
theorem dX7_fewest_55 : decode cX7_fewest 55 = .ok (.if_icmp .ge 61, 3) := by decide +kernel
theorem dX7_fewest_58 : decode cX7_fewest 58 = .ok (.aload_n 0, 1) := by decide +kernel
theorem dX7_fewest_59 : decode cX7_fewest 59 = .ok (.getfield 74, 3) := by decide +kernel
theorem dX7_fewest_62 : decode cX7_fewest 62 = .ok (.iload 7, 2) := by decide +kernel
theorem dX7_fewest_64 : decode cX7_fewest 64 = .ok (.baload, 1) := by decide +kernel
theorem dX7_fewest_65 : decode cX7_fewest 65 = .ok (.ifCond .eq 45, 3) := by decide +kernel
theorem dX7_fewest_68 : decode cX7_fewest 68 = .ok (.aload_n 0, 1) := by decide +kernel
theorem dX7_fewest_69 : decode cX7_fewest 69 = .ok (.getfield 19, 3) := by decide +kernel
theorem dX7_fewest_72 : decode cX7_fewest 72 = .ok (.aload_n 0, 1) := by decide +kernel
theorem dX7_fewest_73 : decode cX7_fewest 73 = .ok (.getfield 56, 3) := by decide +kernel
theorem dX7_fewest_76 : decode cX7_fewest 76 = .ok (.iload 7, 2) := by decide +kernel
theorem dX7_fewest_78 : decode cX7_fewest 78 = .ok (.iaload, 1) := by decide +kernel
theorem dX7_fewest_79 : decode cX7_fewest 79 = .ok (.iaload, 1) := by decide +kernel
theorem dX7_fewest_80 : decode cX7_fewest 80 = .ok (.iload_n 2, 1) := by decide +kernel
theorem dX7_fewest_81 : decode cX7_fewest 81 = .ok (.if_icmp .ne 29, 3) := by decide +kernel
theorem dX7_fewest_84 : decode cX7_fewest 84 = .ok (.aload_n 0, 1) := by decide +kernel
theorem dX7_fewest_85 : decode cX7_fewest 85 = .ok (.getfield 65, 3) := by decide +kernel
theorem dX7_fewest_88 : decode cX7_fewest 88 = .ok (.iload 7, 2) := by decide +kernel
theorem dX7_fewest_90 : decode cX7_fewest 90 = .ok (.iaload, 1) := by decide +kernel
theorem dX7_fewest_91 : decode cX7_fewest 91 = .ok (.iload 4, 2) := by decide +kernel
theorem dX7_fewest_93 : decode cX7_fewest 93 = .ok (.if_icmp .gt 17, 3) := by decide +kernel
theorem dX7_fewest_96 : decode cX7_fewest 96 = .ok (.iload 6, 2) := by decide +kernel
theorem dX7_fewest_98 : decode cX7_fewest 98 = .ok (.aload_n 0, 1) := by decide +kernel
theorem dX7_fewest_99 : decode cX7_fewest 99 = .ok (.getfield 71, 3) := by decide +kernel
theorem dX7_fewest_102 : decode cX7_fewest 102 = .ok (.iload 7, 2) := by decide +kernel
theorem dX7_fewest_104 : decode cX7_fewest 104 = .ok (.iaload, 1) := by decide +kernel
theorem dX7_fewest_105 : decode cX7_fewest 105 = .ok (.invokestatic 170, 3) := by decide +kernel
theorem dX7_fewest_108 : decode cX7_fewest 108 = .ok (.istore 6, 2) := by decide +kernel
theorem dX7_fewest_110 : decode cX7_fewest 110 = .ok (.iinc 7 1, 3) := by decide +kernel
theorem dX7_fewest_113 : decode cX7_fewest 113 = .ok (.goto (-64), 3) := by decide +kernel
theorem dX7_fewest_116 : decode cX7_fewest 116 = .ok (.aload_n 0, 1) := by decide +kernel
theorem dX7_fewest_117 : decode cX7_fewest 117 = .ok (.iload 6, 2) := by decide +kernel
theorem dX7_fewest_119 : decode cX7_fewest 119 = .ok (.invokevirtual 187, 3) := by decide +kernel
theorem dX7_fewest_122 : decode cX7_fewest 122 = .ok (.ireturn, 1) := by decide +kernel
theorem dX7_isLess_0 : decode cX7_isLess 0 = .ok (.iload_n 2, 1) := by decide +kernel
theorem dX7_isLess_1 : decode cX7_isLess 1 = .ok (.ifCond .lt 48, 3) := by decide +kernel
theorem dX7_isLess_4 : decode cX7_isLess 4 = .ok (.aload_n 0, 1) := by decide +kernel
theorem dX7_isLess_5 : decode cX7_isLess 5 = .ok (.getfield 56, 3) := by decide +kernel
theorem dX7_isLess_8 : decode cX7_isLess 8 = .ok (.iload_n 1, 1) := by decide +kernel
theorem dX7_isLess_9 : decode cX7_isLess 9 = .ok (.iaload, 1) := by decide +kernel
theorem dX7_isLess_10 : decode cX7_isLess 10 = .ok (.aload_n 0, 1) := by decide +kernel
theorem dX7_isLess_11 : decode cX7_isLess 11 = .ok (.getfield 56, 3) := by decide +kernel
theorem dX7_isLess_14 : decode cX7_isLess 14 = .ok (.iload_n 2, 1) := by decide +kernel
theorem dX7_isLess_15 : decode cX7_isLess 15 = .ok (.iaload, 1) := by decide +kernel
theorem dX7_isLess_16 : decode cX7_isLess 16 = .ok (.if_icmp .lt 33, 3) := by decide +kernel
theorem dX7_isLess_19 : decode cX7_isLess 19 = .ok (.aload_n 0, 1) := by decide +kernel
theorem dX7_isLess_20 : decode cX7_isLess 20 = .ok (.getfield 56, 3) := by decide +kernel
theorem dX7_isLess_23 : decode cX7_isLess 23 = .ok (.iload_n 1, 1) := by decide +kernel
theorem dX7_isLess_24 : decode cX7_isLess 24 = .ok (.iaload, 1) := by decide +kernel
theorem dX7_isLess_25 : decode cX7_isLess 25 = .ok (.aload_n 0, 1) := by decide +kernel
theorem dX7_isLess_26 : decode cX7_isLess 26 = .ok (.getfield 56, 3) := by decide +kernel
theorem dX7_isLess_29 : decode cX7_isLess 29 = .ok (.iload_n 2, 1) := by decide +kernel
theorem dX7_isLess_30 : decode cX7_isLess 30 = .ok (.iaload, 1) := by decide +kernel
theorem dX7_isLess_31 : decode cX7_isLess 31 = .ok (.if_icmp .ne 22, 3) := by decide +kernel
theorem dX7_isLess_34 : decode cX7_isLess 34 = .ok (.aload_n 0, 1) := by decide +kernel
theorem dX7_isLess_35 : decode cX7_isLess 35 = .ok (.getfield 59, 3) := by decide +kernel
theorem dX7_isLess_38 : decode cX7_isLess 38 = .ok (.iload_n 1, 1) := by decide +kernel
theorem dX7_isLess_39 : decode cX7_isLess 39 = .ok (.iaload, 1) := by decide +kernel
theorem dX7_isLess_40 : decode cX7_isLess 40 = .ok (.aload_n 0, 1) := by decide +kernel
theorem dX7_isLess_41 : decode cX7_isLess 41 = .ok (.getfield 59, 3) := by decide +kernel
theorem dX7_isLess_44 : decode cX7_isLess 44 = .ok (.iload_n 2, 1) := by decide +kernel
theorem dX7_isLess_45 : decode cX7_isLess 45 = .ok (.iaload, 1) := by decide +kernel
theorem dX7_isLess_46 : decode cX7_isLess 46 = .ok (.if_icmp .ge 7, 3) := by decide +kernel
theorem dX7_isLess_49 : decode cX7_isLess 49 = .ok (.iconst 1, 1) := by decide +kernel
theorem dX7_isLess_50 : decode cX7_isLess 50 = .ok (.goto 4, 3) := by decide +kernel
theorem dX7_isLess_53 : decode cX7_isLess 53 = .ok (.iconst 0, 1) := by decide +kernel
theorem dX7_isLess_54 : decode cX7_isLess 54 = .ok (.ireturn, 1) := by decide +kernel
theorem dX7_ways_0 : decode cX7_ways 0 = .ok (.aload_n 0, 1) := by decide +kernel
theorem dX7_ways_1 : decode cX7_ways 1 = .ok (.iload_n 1, 1) := by decide +kernel
theorem dX7_ways_2 : decode cX7_ways 2 = .ok (.iload_n 3, 1) := by decide +kernel
theorem dX7_ways_3 : decode cX7_ways 3 = .ok (.invokevirtual 181, 3) := by decide +kernel
theorem dX7_ways_6 : decode cX7_ways 6 = .ok (.aload_n 0, 1) := by decide +kernel
theorem dX7_ways_7 : decode cX7_ways 7 = .ok (.iload_n 2, 1) := by decide +kernel
theorem dX7_ways_8 : decode cX7_ways 8 = .ok (.invokevirtual 184, 3) := by decide +kernel
theorem dX7_ways_11 : decode cX7_ways 11 = .ok (.istore 4, 2) := by decide +kernel
theorem dX7_ways_13 : decode cX7_ways 13 = .ok (.iload 4, 2) := by decide +kernel
theorem dX7_ways_15 : decode cX7_ways 15 = .ok (.ldc 160, 2) := by decide +kernel
theorem dX7_ways_17 : decode cX7_ways 17 = .ok (.if_icmp .ne 5, 3) := by decide +kernel
theorem dX7_ways_20 : decode cX7_ways 20 = .ok (.iconst 0, 1) := by decide +kernel
theorem dX7_ways_21 : decode cX7_ways 21 = .ok (.ireturn, 1) := by decide +kernel
theorem dX7_ways_22 : decode cX7_ways 22 = .ok (.ldc 160, 2) := by decide +kernel
theorem dX7_ways_24 : decode cX7_ways 24 = .ok (.istore 5, 2) := by decide +kernel
theorem dX7_ways_26 : decode cX7_ways 26 = .ok (.iconst 0, 1) := by decide +kernel
theorem dX7_ways_27 : decode cX7_ways 27 = .ok (.istore 6, 2) := by decide +kernel
theorem dX7_ways_29 : decode cX7_ways 29 = .ok (.iload 6, 2) := by decide +kernel
theorem dX7_ways_31 : decode cX7_ways 31 = .ok (.aload_n 0, 1) := by decide +kernel
theorem dX7_ways_32 : decode cX7_ways 32 = .ok (.getfield 150, 3) := by decide +kernel
theorem dX7_ways_35 : decode cX7_ways 35 = .ok (.if_icmp .ge 61, 3) := by decide +kernel
theorem dX7_ways_38 : decode cX7_ways 38 = .ok (.aload_n 0, 1) := by decide +kernel
theorem dX7_ways_39 : decode cX7_ways 39 = .ok (.getfield 74, 3) := by decide +kernel
theorem dX7_ways_42 : decode cX7_ways 42 = .ok (.iload 6, 2) := by decide +kernel
theorem dX7_ways_44 : decode cX7_ways 44 = .ok (.baload, 1) := by decide +kernel
theorem dX7_ways_45 : decode cX7_ways 45 = .ok (.ifCond .eq 45, 3) := by decide +kernel
theorem dX7_ways_48 : decode cX7_ways 48 = .ok (.aload_n 0, 1) := by decide +kernel
theorem dX7_ways_49 : decode cX7_ways 49 = .ok (.getfield 19, 3) := by decide +kernel
theorem dX7_ways_52 : decode cX7_ways 52 = .ok (.aload_n 0, 1) := by decide +kernel
theorem dX7_ways_53 : decode cX7_ways 53 = .ok (.getfield 56, 3) := by decide +kernel
theorem dX7_ways_56 : decode cX7_ways 56 = .ok (.iload 6, 2) := by decide +kernel
theorem dX7_ways_58 : decode cX7_ways 58 = .ok (.iaload, 1) := by decide +kernel
theorem dX7_ways_59 : decode cX7_ways 59 = .ok (.iaload, 1) := by decide +kernel
theorem dX7_ways_60 : decode cX7_ways 60 = .ok (.iload_n 2, 1) := by decide +kernel
theorem dX7_ways_61 : decode cX7_ways 61 = .ok (.if_icmp .ne 29, 3) := by decide +kernel
theorem dX7_ways_64 : decode cX7_ways 64 = .ok (.aload_n 0, 1) := by decide +kernel
theorem dX7_ways_65 : decode cX7_ways 65 = .ok (.getfield 65, 3) := by decide +kernel
theorem dX7_ways_68 : decode cX7_ways 68 = .ok (.iload 6, 2) := by decide +kernel
theorem dX7_ways_70 : decode cX7_ways 70 = .ok (.iaload, 1) := by decide +kernel
theorem dX7_ways_71 : decode cX7_ways 71 = .ok (.iload 4, 2) := by decide +kernel
theorem dX7_ways_73 : decode cX7_ways 73 = .ok (.if_icmp .ne 17, 3) := by decide +kernel
theorem dX7_ways_76 : decode cX7_ways 76 = .ok (.iload 5, 2) := by decide +kernel
theorem dX7_ways_78 : decode cX7_ways 78 = .ok (.aload_n 0, 1) := by decide +kernel
theorem dX7_ways_79 : decode cX7_ways 79 = .ok (.getfield 71, 3) := by decide +kernel
theorem dX7_ways_82 : decode cX7_ways 82 = .ok (.iload 6, 2) := by decide +kernel
theorem dX7_ways_84 : decode cX7_ways 84 = .ok (.iaload, 1) := by decide +kernel
theorem dX7_ways_85 : decode cX7_ways 85 = .ok (.invokestatic 170, 3) := by decide +kernel
theorem dX7_ways_88 : decode cX7_ways 88 = .ok (.istore 5, 2) := by decide +kernel
theorem dX7_ways_90 : decode cX7_ways 90 = .ok (.iinc 6 1, 3) := by decide +kernel
theorem dX7_ways_93 : decode cX7_ways 93 = .ok (.goto (-64), 3) := by decide +kernel
theorem dX7_ways_96 : decode cX7_ways 96 = .ok (.iconst (-1), 1) := by decide +kernel
theorem dX7_ways_97 : decode cX7_ways 97 = .ok (.istore 6, 2) := by decide +kernel
theorem dX7_ways_99 : decode cX7_ways 99 = .ok (.iconst 0, 1) := by decide +kernel
theorem dX7_ways_100 : decode cX7_ways 100 = .ok (.istore 7, 2) := by decide +kernel
theorem dX7_ways_102 : decode cX7_ways 102 = .ok (.iload 7, 2) := by decide +kernel
theorem dX7_ways_104 : decode cX7_ways 104 = .ok (.aload_n 0, 1) := by decide +kernel
theorem dX7_ways_105 : decode cX7_ways 105 = .ok (.getfield 150, 3) := by decide +kernel
theorem dX7_ways_108 : decode cX7_ways 108 = .ok (.if_icmp .ge 74, 3) := by decide +kernel
theorem dX7_ways_111 : decode cX7_ways 111 = .ok (.aload_n 0, 1) := by decide +kernel
theorem dX7_ways_112 : decode cX7_ways 112 = .ok (.getfield 74, 3) := by decide +kernel
theorem dX7_ways_115 : decode cX7_ways 115 = .ok (.iload 7, 2) := by decide +kernel
theorem dX7_ways_117 : decode cX7_ways 117 = .ok (.baload, 1) := by decide +kernel
theorem dX7_ways_118 : decode cX7_ways 118 = .ok (.ifCond .eq 58, 3) := by decide +kernel
theorem dX7_ways_121 : decode cX7_ways 121 = .ok (.aload_n 0, 1) := by decide +kernel
theorem dX7_ways_122 : decode cX7_ways 122 = .ok (.getfield 19, 3) := by decide +kernel
theorem dX7_ways_125 : decode cX7_ways 125 = .ok (.aload_n 0, 1) := by decide +kernel
theorem dX7_ways_126 : decode cX7_ways 126 = .ok (.getfield 56, 3) := by decide +kernel
theorem dX7_ways_129 : decode cX7_ways 129 = .ok (.iload 7, 2) := by decide +kernel
theorem dX7_ways_131 : decode cX7_ways 131 = .ok (.iaload, 1) := by decide +kernel
theorem dX7_ways_132 : decode cX7_ways 132 = .ok (.iaload, 1) := by decide +kernel
theorem dX7_ways_133 : decode cX7_ways 133 = .ok (.iload_n 2, 1) := by decide +kernel
theorem dX7_ways_134 : decode cX7_ways 134 = .ok (.if_icmp .ne 42, 3) := by decide +kernel
theorem dX7_ways_137 : decode cX7_ways 137 = .ok (.aload_n 0, 1) := by decide +kernel
theorem dX7_ways_138 : decode cX7_ways 138 = .ok (.getfield 65, 3) := by decide +kernel
theorem dX7_ways_141 : decode cX7_ways 141 = .ok (.iload 7, 2) := by decide +kernel
theorem dX7_ways_143 : decode cX7_ways 143 = .ok (.iaload, 1) := by decide +kernel
theorem dX7_ways_144 : decode cX7_ways 144 = .ok (.iload 4, 2) := by decide +kernel
theorem dX7_ways_146 : decode cX7_ways 146 = .ok (.if_icmp .ne 30, 3) := by decide +kernel
theorem dX7_ways_149 : decode cX7_ways 149 = .ok (.aload_n 0, 1) := by decide +kernel
theorem dX7_ways_150 : decode cX7_ways 150 = .ok (.getfield 71, 3) := by decide +kernel
theorem dX7_ways_153 : decode cX7_ways 153 = .ok (.iload 7, 2) := by decide +kernel
theorem dX7_ways_155 : decode cX7_ways 155 = .ok (.iaload, 1) := by decide +kernel
theorem dX7_ways_156 : decode cX7_ways 156 = .ok (.iload 5, 2) := by decide +kernel
theorem dX7_ways_158 : decode cX7_ways 158 = .ok (.if_icmp .ne 18, 3) := by decide +kernel
theorem dX7_ways_161 : decode cX7_ways 161 = .ok (.aload_n 0, 1) := by decide +kernel
theorem dX7_ways_162 : decode cX7_ways 162 = .ok (.iload 7, 2) := by decide +kernel
theorem dX7_ways_164 : decode cX7_ways 164 = .ok (.iload 6, 2) := by decide +kernel
theorem dX7_ways_166 : decode cX7_ways 166 = .ok (.invokevirtual 190, 3) := by decide +kernel
theorem dX7_ways_169 : decode cX7_ways 169 = .ok (.ifCond .eq 7, 3) := by decide +kernel
theorem dX7_ways_172 : decode cX7_ways 172 = .ok (.iload 7, 2) := by decide +kernel
theorem dX7_ways_174 : decode cX7_ways 174 = .ok (.istore 6, 2) := by decide +kernel
theorem dX7_ways_176 : decode cX7_ways 176 = .ok (.iinc 7 1, 3) := by decide +kernel
theorem dX7_ways_179 : decode cX7_ways 179 = .ok (.goto (-77), 3) := by decide +kernel
theorem dX7_ways_182 : decode cX7_ways 182 = .ok (.iload 5, 2) := by decide +kernel
theorem dX7_ways_184 : decode cX7_ways 184 = .ok (.iconst 1, 1) := by decide +kernel
theorem dX7_ways_185 : decode cX7_ways 185 = .ok (.isub, 1) := by decide +kernel
theorem dX7_ways_186 : decode cX7_ways 186 = .ok (.istore 7, 2) := by decide +kernel
theorem dX7_ways_188 : decode cX7_ways 188 = .ok (.iload 7, 2) := by decide +kernel
theorem dX7_ways_190 : decode cX7_ways 190 = .ok (.ifCond .lt 121, 3) := by decide +kernel
theorem dX7_ways_193 : decode cX7_ways 193 = .ok (.aload_n 0, 1) := by decide +kernel
theorem dX7_ways_194 : decode cX7_ways 194 = .ok (.getfield 77, 3) := by decide +kernel
theorem dX7_ways_197 : decode cX7_ways 197 = .ok (.iconst 2, 1) := by decide +kernel
theorem dX7_ways_198 : decode cX7_ways 198 = .ok (.iload 7, 2) := by decide +kernel
theorem dX7_ways_200 : decode cX7_ways 200 = .ok (.imul, 1) := by decide +kernel
theorem dX7_ways_201 : decode cX7_ways 201 = .ok (.aload_n 0, 1) := by decide +kernel
theorem dX7_ways_202 : decode cX7_ways 202 = .ok (.getfield 56, 3) := by decide +kernel
theorem dX7_ways_205 : decode cX7_ways 205 = .ok (.iload 6, 2) := by decide +kernel
theorem dX7_ways_207 : decode cX7_ways 207 = .ok (.iaload, 1) := by decide +kernel
theorem dX7_ways_208 : decode cX7_ways 208 = .ok (.iastore, 1) := by decide +kernel
theorem dX7_ways_209 : decode cX7_ways 209 = .ok (.aload_n 0, 1) := by decide +kernel
theorem dX7_ways_210 : decode cX7_ways 210 = .ok (.getfield 77, 3) := by decide +kernel
theorem dX7_ways_213 : decode cX7_ways 213 = .ok (.iconst 2, 1) := by decide +kernel
theorem dX7_ways_214 : decode cX7_ways 214 = .ok (.iload 7, 2) := by decide +kernel
theorem dX7_ways_216 : decode cX7_ways 216 = .ok (.imul, 1) := by decide +kernel
theorem dX7_ways_217 : decode cX7_ways 217 = .ok (.iconst 1, 1) := by decide +kernel
theorem dX7_ways_218 : decode cX7_ways 218 = .ok (.iadd, 1) := by decide +kernel
theorem dX7_ways_219 : decode cX7_ways 219 = .ok (.aload_n 0, 1) := by decide +kernel
theorem dX7_ways_220 : decode cX7_ways 220 = .ok (.getfield 59, 3) := by decide +kernel
theorem dX7_ways_223 : decode cX7_ways 223 = .ok (.iload 6, 2) := by decide +kernel
theorem dX7_ways_225 : decode cX7_ways 225 = .ok (.iaload, 1) := by decide +kernel
theorem dX7_ways_226 : decode cX7_ways 226 = .ok (.iastore, 1) := by decide +kernel
theorem dX7_ways_227 : decode cX7_ways 227 = .ok (.iconst (-1), 1) := by decide +kernel
theorem dX7_ways_228 : decode cX7_ways 228 = .ok (.istore 8, 2) := by decide +kernel
theorem dX7_ways_230 : decode cX7_ways 230 = .ok (.iconst 0, 1) := by decide +kernel
theorem dX7_ways_231 : decode cX7_ways 231 = .ok (.istore 9, 2) := by decide +kernel
theorem dX7_ways_233 : decode cX7_ways 233 = .ok (.iload 9, 2) := by decide +kernel
theorem dX7_ways_235 : decode cX7_ways 235 = .ok (.aload_n 0, 1) := by decide +kernel
theorem dX7_ways_236 : decode cX7_ways 236 = .ok (.getfield 150, 3) := by decide +kernel
theorem dX7_ways_239 : decode cX7_ways 239 = .ok (.if_icmp .ge 62, 3) := by decide +kernel
theorem dX7_ways_242 : decode cX7_ways 242 = .ok (.iload 7, 2) := by decide +kernel
theorem dX7_ways_244 : decode cX7_ways 244 = .ok (.ifCond .le 57, 3) := by decide +kernel
theorem dX7_ways_247 : decode cX7_ways 247 = .ok (.aload_n 0, 1) := by decide +kernel
theorem dX7_ways_248 : decode cX7_ways 248 = .ok (.getfield 74, 3) := by decide +kernel
theorem dX7_ways_251 : decode cX7_ways 251 = .ok (.iload 9, 2) := by decide +kernel
theorem dX7_ways_253 : decode cX7_ways 253 = .ok (.baload, 1) := by decide +kernel
theorem dX7_ways_254 : decode cX7_ways 254 = .ok (.ifCond .eq 41, 3) := by decide +kernel
theorem dX7_ways_257 : decode cX7_ways 257 = .ok (.aload_n 0, 1) := by decide +kernel
theorem dX7_ways_258 : decode cX7_ways 258 = .ok (.getfield 71, 3) := by decide +kernel
theorem dX7_ways_261 : decode cX7_ways 261 = .ok (.iload 9, 2) := by decide +kernel
theorem dX7_ways_263 : decode cX7_ways 263 = .ok (.iaload, 1) := by decide +kernel
theorem dX7_ways_264 : decode cX7_ways 264 = .ok (.iload 7, 2) := by decide +kernel
theorem dX7_ways_266 : decode cX7_ways 266 = .ok (.if_icmp .ne 29, 3) := by decide +kernel
theorem dX7_ways_269 : decode cX7_ways 269 = .ok (.aload_n 0, 1) := by decide +kernel
theorem dX7_ways_270 : decode cX7_ways 270 = .ok (.iload 9, 2) := by decide +kernel
theorem dX7_ways_272 : decode cX7_ways 272 = .ok (.iload 6, 2) := by decide +kernel
theorem dX7_ways_274 : decode cX7_ways 274 = .ok (.invokevirtual 161, 3) := by decide +kernel
theorem dX7_ways_277 : decode cX7_ways 277 = .ok (.ifCond .eq 18, 3) := by decide +kernel
theorem dX7_ways_280 : decode cX7_ways 280 = .ok (.aload_n 0, 1) := by decide +kernel
theorem dX7_ways_281 : decode cX7_ways 281 = .ok (.iload 9, 2) := by decide +kernel
theorem dX7_ways_283 : decode cX7_ways 283 = .ok (.iload 8, 2) := by decide +kernel
theorem dX7_ways_285 : decode cX7_ways 285 = .ok (.invokevirtual 190, 3) := by decide +kernel
theorem dX7_ways_288 : decode cX7_ways 288 = .ok (.ifCond .eq 7, 3) := by decide +kernel
theorem dX7_ways_291 : decode cX7_ways 291 = .ok (.iload 9, 2) := by decide +kernel
theorem dX7_ways_293 : decode cX7_ways 293 = .ok (.istore 8, 2) := by decide +kernel
theorem dX7_ways_295 : decode cX7_ways 295 = .ok (.iinc 9 1, 3) := by decide +kernel
theorem dX7_ways_298 : decode cX7_ways 298 = .ok (.goto (-65), 3) := by decide +kernel
theorem dX7_ways_301 : decode cX7_ways 301 = .ok (.iload 8, 2) := by decide +kernel
theorem dX7_ways_303 : decode cX7_ways 303 = .ok (.istore 6, 2) := by decide +kernel
theorem dX7_ways_305 : decode cX7_ways 305 = .ok (.iinc 7 (-1), 3) := by decide +kernel
theorem dX7_ways_308 : decode cX7_ways 308 = .ok (.goto (-120), 3) := by decide +kernel
theorem dX7_ways_311 : decode cX7_ways 311 = .ok (.iload 5, 2) := by decide +kernel
theorem dX7_ways_313 : decode cX7_ways 313 = .ok (.ireturn, 1) := by decide +kernel
theorem dX7_way_0 : decode cX7_way 0 = .ok (.aload_n 0, 1) := by decide +kernel
theorem dX7_way_1 : decode cX7_way 1 = .ok (.iconst 0, 1) := by decide +kernel
theorem dX7_way_2 : decode cX7_way 2 = .ok (.putfield 92, 3) := by decide +kernel
theorem dX7_way_5 : decode cX7_way 5 = .ok (.aload_n 0, 1) := by decide +kernel
theorem dX7_way_6 : decode cX7_way 6 = .ok (.aload_n 0, 1) := by decide +kernel
theorem dX7_way_7 : decode cX7_way 7 = .ok (.iload_n 1, 1) := by decide +kernel
theorem dX7_way_8 : decode cX7_way 8 = .ok (.iload_n 2, 1) := by decide +kernel
theorem dX7_way_9 : decode cX7_way 9 = .ok (.iload_n 3, 1) := by decide +kernel
theorem dX7_way_10 : decode cX7_way 10 = .ok (.iload_n 3, 1) := by decide +kernel
theorem dX7_way_11 : decode cX7_way 11 = .ok (.iload 4, 2) := by decide +kernel
theorem dX7_way_13 : decode cX7_way 13 = .ok (.invokevirtual 173, 3) := by decide +kernel
theorem dX7_way_16 : decode cX7_way 16 = .ok (.putfield 96, 3) := by decide +kernel
theorem dX7_way_19 : decode cX7_way 19 = .ok (.aload_n 0, 1) := by decide +kernel
theorem dX7_way_20 : decode cX7_way 20 = .ok (.getfield 96, 3) := by decide +kernel
theorem dX7_way_23 : decode cX7_way 23 = .ok (.ifCond .le 5, 3) := by decide +kernel
theorem dX7_way_26 : decode cX7_way 26 = .ok (.iconst (-1), 1) := by decide +kernel
theorem dX7_way_27 : decode cX7_way 27 = .ok (.ireturn, 1) := by decide +kernel
theorem dX7_way_28 : decode cX7_way 28 = .ok (.aload_n 0, 1) := by decide +kernel
theorem dX7_way_29 : decode cX7_way 29 = .ok (.iload 4, 2) := by decide +kernel
theorem dX7_way_31 : decode cX7_way 31 = .ok (.iconst (-1), 1) := by decide +kernel
theorem dX7_way_32 : decode cX7_way 32 = .ok (.invokevirtual 177, 3) := by decide +kernel
theorem dX7_way_35 : decode cX7_way 35 = .ok (.aload_n 0, 1) := by decide +kernel
theorem dX7_way_36 : decode cX7_way 36 = .ok (.iload_n 1, 1) := by decide +kernel
theorem dX7_way_37 : decode cX7_way 37 = .ok (.iload_n 2, 1) := by decide +kernel
theorem dX7_way_38 : decode cX7_way 38 = .ok (.iload_n 3, 1) := by decide +kernel
theorem dX7_way_39 : decode cX7_way 39 = .ok (.invokevirtual 193, 3) := by decide +kernel
theorem dX7_way_42 : decode cX7_way 42 = .ok (.istore 5, 2) := by decide +kernel
theorem dX7_way_44 : decode cX7_way 44 = .ok (.iload 5, 2) := by decide +kernel
theorem dX7_way_46 : decode cX7_way 46 = .ok (.ifCond .ne 9, 3) := by decide +kernel
theorem dX7_way_49 : decode cX7_way 49 = .ok (.aload_n 0, 1) := by decide +kernel
theorem dX7_way_50 : decode cX7_way 50 = .ok (.iconst 5, 1) := by decide +kernel
theorem dX7_way_51 : decode cX7_way 51 = .ok (.invokevirtual 109, 3) := by decide +kernel
theorem dX7_way_54 : decode cX7_way 54 = .ok (.ireturn, 1) := by decide +kernel
theorem dX7_way_55 : decode cX7_way 55 = .ok (.aload_n 0, 1) := by decide +kernel
theorem dX7_way_56 : decode cX7_way 56 = .ok (.iconst 2, 1) := by decide +kernel
theorem dX7_way_57 : decode cX7_way 57 = .ok (.iload 5, 2) := by decide +kernel
theorem dX7_way_59 : decode cX7_way 59 = .ok (.imul, 1) := by decide +kernel
theorem dX7_way_60 : decode cX7_way 60 = .ok (.putfield 196, 3) := by decide +kernel
theorem dX7_way_63 : decode cX7_way 63 = .ok (.iload 5, 2) := by decide +kernel
theorem dX7_way_65 : decode cX7_way 65 = .ok (.ireturn, 1) := by decide +kernel
theorem dX7_out_0 : decode cX7_out 0 = .ok (.aload_n 0, 1) := by decide +kernel
theorem dX7_out_1 : decode cX7_out 1 = .ok (.iconst 0, 1) := by decide +kernel
theorem dX7_out_2 : decode cX7_out 2 = .ok (.putfield 92, 3) := by decide +kernel
theorem dX7_out_5 : decode cX7_out 5 = .ok (.iload_n 1, 1) := by decide +kernel
theorem dX7_out_6 : decode cX7_out 6 = .ok (.ifCond .lt 20, 3) := by decide +kernel
theorem dX7_out_9 : decode cX7_out 9 = .ok (.iload_n 1, 1) := by decide +kernel
theorem dX7_out_10 : decode cX7_out 10 = .ok (.aload_n 0, 1) := by decide +kernel
theorem dX7_out_11 : decode cX7_out 11 = .ok (.getfield 196, 3) := by decide +kernel
theorem dX7_out_14 : decode cX7_out 14 = .ok (.if_icmp .ge 12, 3) := by decide +kernel
theorem dX7_out_17 : decode cX7_out 17 = .ok (.aload_n 0, 1) := by decide +kernel
theorem dX7_out_18 : decode cX7_out 18 = .ok (.getfield 77, 3) := by decide +kernel
theorem dX7_out_21 : decode cX7_out 21 = .ok (.iload_n 1, 1) := by decide +kernel
theorem dX7_out_22 : decode cX7_out 22 = .ok (.iaload, 1) := by decide +kernel
theorem dX7_out_23 : decode cX7_out 23 = .ok (.goto 4, 3) := by decide +kernel
theorem dX7_out_26 : decode cX7_out 26 = .ok (.iconst (-1), 1) := by decide +kernel
theorem dX7_out_27 : decode cX7_out 27 = .ok (.ireturn, 1) := by decide +kernel
theorem dX7_pairsOf_0 : decode cX7_pairsOf 0 = .ok (.aload_n 0, 1) := by decide +kernel
theorem dX7_pairsOf_1 : decode cX7_pairsOf 1 = .ok (.iload_n 3, 1) := by decide +kernel
theorem dX7_pairsOf_2 : decode cX7_pairsOf 2 = .ok (.iconst (-1), 1) := by decide +kernel
theorem dX7_pairsOf_3 : decode cX7_pairsOf 3 = .ok (.invokevirtual 177, 3) := by decide +kernel
theorem dX7_pairsOf_6 : decode cX7_pairsOf 6 = .ok (.aload_n 0, 1) := by decide +kernel
theorem dX7_pairsOf_7 : decode cX7_pairsOf 7 = .ok (.iload_n 1, 1) := by decide +kernel
theorem dX7_pairsOf_8 : decode cX7_pairsOf 8 = .ok (.iconst 0, 1) := by decide +kernel
theorem dX7_pairsOf_9 : decode cX7_pairsOf 9 = .ok (.invokevirtual 181, 3) := by decide +kernel
theorem dX7_pairsOf_12 : decode cX7_pairsOf 12 = .ok (.iconst 0, 1) := by decide +kernel
theorem dX7_pairsOf_13 : decode cX7_pairsOf 13 = .ok (.istore 4, 2) := by decide +kernel
theorem dX7_pairsOf_15 : decode cX7_pairsOf 15 = .ok (.iconst 0, 1) := by decide +kernel
theorem dX7_pairsOf_16 : decode cX7_pairsOf 16 = .ok (.istore 5, 2) := by decide +kernel
theorem dX7_pairsOf_18 : decode cX7_pairsOf 18 = .ok (.iload 5, 2) := by decide +kernel
theorem dX7_pairsOf_20 : decode cX7_pairsOf 20 = .ok (.aload_n 0, 1) := by decide +kernel
theorem dX7_pairsOf_21 : decode cX7_pairsOf 21 = .ok (.getfield 150, 3) := by decide +kernel
theorem dX7_pairsOf_24 : decode cX7_pairsOf 24 = .ok (.if_icmp .ge 281, 3) := by decide +kernel
theorem dX7_pairsOf_27 : decode cX7_pairsOf 27 = .ok (.aload_n 0, 1) := by decide +kernel
theorem dX7_pairsOf_28 : decode cX7_pairsOf 28 = .ok (.getfield 74, 3) := by decide +kernel
theorem dX7_pairsOf_31 : decode cX7_pairsOf 31 = .ok (.iload 5, 2) := by decide +kernel
theorem dX7_pairsOf_33 : decode cX7_pairsOf 33 = .ok (.baload, 1) := by decide +kernel
theorem dX7_pairsOf_34 : decode cX7_pairsOf 34 = .ok (.ifCond .eq 265, 3) := by decide +kernel
theorem dX7_pairsOf_37 : decode cX7_pairsOf 37 = .ok (.aload_n 0, 1) := by decide +kernel
theorem dX7_pairsOf_38 : decode cX7_pairsOf 38 = .ok (.getfield 19, 3) := by decide +kernel
theorem dX7_pairsOf_41 : decode cX7_pairsOf 41 = .ok (.aload_n 0, 1) := by decide +kernel
theorem dX7_pairsOf_42 : decode cX7_pairsOf 42 = .ok (.getfield 56, 3) := by decide +kernel
theorem dX7_pairsOf_45 : decode cX7_pairsOf 45 = .ok (.iload 5, 2) := by decide +kernel
theorem dX7_pairsOf_47 : decode cX7_pairsOf 47 = .ok (.iaload, 1) := by decide +kernel
theorem dX7_pairsOf_48 : decode cX7_pairsOf 48 = .ok (.iaload, 1) := by decide +kernel
theorem dX7_pairsOf_49 : decode cX7_pairsOf 49 = .ok (.iload_n 2, 1) := by decide +kernel
theorem dX7_pairsOf_50 : decode cX7_pairsOf 50 = .ok (.if_icmp .eq 6, 3) := by decide +kernel
theorem dX7_pairsOf_53 : decode cX7_pairsOf 53 = .ok (.goto 246, 3) := by decide +kernel
theorem dX7_pairsOf_56 : decode cX7_pairsOf 56 = .ok (.aload_n 0, 1) := by decide +kernel
theorem dX7_pairsOf_57 : decode cX7_pairsOf 57 = .ok (.getfield 68, 3) := by decide +kernel
theorem dX7_pairsOf_60 : decode cX7_pairsOf 60 = .ok (.iload 5, 2) := by decide +kernel
theorem dX7_pairsOf_62 : decode cX7_pairsOf 62 = .ok (.iaload, 1) := by decide +kernel
theorem dX7_pairsOf_63 : decode cX7_pairsOf 63 = .ok (.istore 6, 2) := by decide +kernel
theorem dX7_pairsOf_65 : decode cX7_pairsOf 65 = .ok (.aload_n 0, 1) := by decide +kernel
theorem dX7_pairsOf_66 : decode cX7_pairsOf 66 = .ok (.getfield 65, 3) := by decide +kernel
theorem dX7_pairsOf_69 : decode cX7_pairsOf 69 = .ok (.iload 5, 2) := by decide +kernel
theorem dX7_pairsOf_71 : decode cX7_pairsOf 71 = .ok (.iaload, 1) := by decide +kernel
theorem dX7_pairsOf_72 : decode cX7_pairsOf 72 = .ok (.istore 7, 2) := by decide +kernel
theorem dX7_pairsOf_74 : decode cX7_pairsOf 74 = .ok (.iconst 0, 1) := by decide +kernel
theorem dX7_pairsOf_75 : decode cX7_pairsOf 75 = .ok (.istore 8, 2) := by decide +kernel
theorem dX7_pairsOf_77 : decode cX7_pairsOf 77 = .ok (.iconst 0, 1) := by decide +kernel
theorem dX7_pairsOf_78 : decode cX7_pairsOf 78 = .ok (.istore 9, 2) := by decide +kernel
theorem dX7_pairsOf_80 : decode cX7_pairsOf 80 = .ok (.iload 9, 2) := by decide +kernel
theorem dX7_pairsOf_82 : decode cX7_pairsOf 82 = .ok (.iload 4, 2) := by decide +kernel
theorem dX7_pairsOf_84 : decode cX7_pairsOf 84 = .ok (.if_icmp .ge 45, 3) := by decide +kernel
theorem dX7_pairsOf_87 : decode cX7_pairsOf 87 = .ok (.iload 8, 2) := by decide +kernel
theorem dX7_pairsOf_89 : decode cX7_pairsOf 89 = .ok (.ifCond .ne 27, 3) := by decide +kernel
theorem dX7_pairsOf_92 : decode cX7_pairsOf 92 = .ok (.aload_n 0, 1) := by decide +kernel
theorem dX7_pairsOf_93 : decode cX7_pairsOf 93 = .ok (.getfield 80, 3) := by decide +kernel
theorem dX7_pairsOf_96 : decode cX7_pairsOf 96 = .ok (.iload 9, 2) := by decide +kernel
theorem dX7_pairsOf_98 : decode cX7_pairsOf 98 = .ok (.iaload, 1) := by decide +kernel
theorem dX7_pairsOf_99 : decode cX7_pairsOf 99 = .ok (.iload 6, 2) := by decide +kernel
theorem dX7_pairsOf_101 : decode cX7_pairsOf 101 = .ok (.if_icmp .lt 19, 3) := by decide +kernel
theorem dX7_pairsOf_104 : decode cX7_pairsOf 104 = .ok (.aload_n 0, 1) := by decide +kernel
theorem dX7_pairsOf_105 : decode cX7_pairsOf 105 = .ok (.getfield 83, 3) := by decide +kernel
theorem dX7_pairsOf_108 : decode cX7_pairsOf 108 = .ok (.iload 9, 2) := by decide +kernel
theorem dX7_pairsOf_110 : decode cX7_pairsOf 110 = .ok (.iaload, 1) := by decide +kernel
theorem dX7_pairsOf_111 : decode cX7_pairsOf 111 = .ok (.iload 7, 2) := by decide +kernel
theorem dX7_pairsOf_113 : decode cX7_pairsOf 113 = .ok (.if_icmp .gt 7, 3) := by decide +kernel
theorem dX7_pairsOf_116 : decode cX7_pairsOf 116 = .ok (.iconst 1, 1) := by decide +kernel
theorem dX7_pairsOf_117 : decode cX7_pairsOf 117 = .ok (.goto 4, 3) := by decide +kernel
theorem dX7_pairsOf_120 : decode cX7_pairsOf 120 = .ok (.iconst 0, 1) := by decide +kernel
theorem dX7_pairsOf_121 : decode cX7_pairsOf 121 = .ok (.istore 8, 2) := by decide +kernel
theorem dX7_pairsOf_123 : decode cX7_pairsOf 123 = .ok (.iinc 9 1, 3) := by decide +kernel
theorem dX7_pairsOf_126 : decode cX7_pairsOf 126 = .ok (.goto (-46), 3) := by decide +kernel
theorem dX7_pairsOf_129 : decode cX7_pairsOf 129 = .ok (.iload 8, 2) := by decide +kernel
theorem dX7_pairsOf_131 : decode cX7_pairsOf 131 = .ok (.ifCond .eq 6, 3) := by decide +kernel
theorem dX7_pairsOf_134 : decode cX7_pairsOf 134 = .ok (.goto 165, 3) := by decide +kernel
theorem dX7_pairsOf_137 : decode cX7_pairsOf 137 = .ok (.iconst 0, 1) := by decide +kernel
theorem dX7_pairsOf_138 : decode cX7_pairsOf 138 = .ok (.istore 9, 2) := by decide +kernel
theorem dX7_pairsOf_140 : decode cX7_pairsOf 140 = .ok (.iconst 0, 1) := by decide +kernel
theorem dX7_pairsOf_141 : decode cX7_pairsOf 141 = .ok (.istore 10, 2) := by decide +kernel
theorem dX7_pairsOf_143 : decode cX7_pairsOf 143 = .ok (.iload 10, 2) := by decide +kernel
theorem dX7_pairsOf_145 : decode cX7_pairsOf 145 = .ok (.iload 4, 2) := by decide +kernel
theorem dX7_pairsOf_147 : decode cX7_pairsOf 147 = .ok (.if_icmp .ge 67, 3) := by decide +kernel
theorem dX7_pairsOf_150 : decode cX7_pairsOf 150 = .ok (.iload 6, 2) := by decide +kernel
theorem dX7_pairsOf_152 : decode cX7_pairsOf 152 = .ok (.aload_n 0, 1) := by decide +kernel
theorem dX7_pairsOf_153 : decode cX7_pairsOf 153 = .ok (.getfield 80, 3) := by decide +kernel
theorem dX7_pairsOf_156 : decode cX7_pairsOf 156 = .ok (.iload 10, 2) := by decide +kernel
theorem dX7_pairsOf_158 : decode cX7_pairsOf 158 = .ok (.iaload, 1) := by decide +kernel
theorem dX7_pairsOf_159 : decode cX7_pairsOf 159 = .ok (.if_icmp .lt 18, 3) := by decide +kernel
theorem dX7_pairsOf_162 : decode cX7_pairsOf 162 = .ok (.iload 7, 2) := by decide +kernel
theorem dX7_pairsOf_164 : decode cX7_pairsOf 164 = .ok (.aload_n 0, 1) := by decide +kernel
theorem dX7_pairsOf_165 : decode cX7_pairsOf 165 = .ok (.getfield 83, 3) := by decide +kernel
theorem dX7_pairsOf_168 : decode cX7_pairsOf 168 = .ok (.iload 10, 2) := by decide +kernel
theorem dX7_pairsOf_170 : decode cX7_pairsOf 170 = .ok (.iaload, 1) := by decide +kernel
theorem dX7_pairsOf_171 : decode cX7_pairsOf 171 = .ok (.if_icmp .gt 6, 3) := by decide +kernel
theorem dX7_pairsOf_174 : decode cX7_pairsOf 174 = .ok (.goto 34, 3) := by decide +kernel
theorem dX7_pairsOf_177 : decode cX7_pairsOf 177 = .ok (.aload_n 0, 1) := by decide +kernel
theorem dX7_pairsOf_178 : decode cX7_pairsOf 178 = .ok (.getfield 80, 3) := by decide +kernel
theorem dX7_pairsOf_181 : decode cX7_pairsOf 181 = .ok (.iload 9, 2) := by decide +kernel
theorem dX7_pairsOf_183 : decode cX7_pairsOf 183 = .ok (.aload_n 0, 1) := by decide +kernel
theorem dX7_pairsOf_184 : decode cX7_pairsOf 184 = .ok (.getfield 80, 3) := by decide +kernel
theorem dX7_pairsOf_187 : decode cX7_pairsOf 187 = .ok (.iload 10, 2) := by decide +kernel
theorem dX7_pairsOf_189 : decode cX7_pairsOf 189 = .ok (.iaload, 1) := by decide +kernel
theorem dX7_pairsOf_190 : decode cX7_pairsOf 190 = .ok (.iastore, 1) := by decide +kernel
theorem dX7_pairsOf_191 : decode cX7_pairsOf 191 = .ok (.aload_n 0, 1) := by decide +kernel
theorem dX7_pairsOf_192 : decode cX7_pairsOf 192 = .ok (.getfield 83, 3) := by decide +kernel
theorem dX7_pairsOf_195 : decode cX7_pairsOf 195 = .ok (.iload 9, 2) := by decide +kernel
theorem dX7_pairsOf_197 : decode cX7_pairsOf 197 = .ok (.aload_n 0, 1) := by decide +kernel
theorem dX7_pairsOf_198 : decode cX7_pairsOf 198 = .ok (.getfield 83, 3) := by decide +kernel
theorem dX7_pairsOf_201 : decode cX7_pairsOf 201 = .ok (.iload 10, 2) := by decide +kernel
theorem dX7_pairsOf_203 : decode cX7_pairsOf 203 = .ok (.iaload, 1) := by decide +kernel
theorem dX7_pairsOf_204 : decode cX7_pairsOf 204 = .ok (.iastore, 1) := by decide +kernel
theorem dX7_pairsOf_205 : decode cX7_pairsOf 205 = .ok (.iinc 9 1, 3) := by decide +kernel
theorem dX7_pairsOf_208 : decode cX7_pairsOf 208 = .ok (.iinc 10 1, 3) := by decide +kernel
theorem dX7_pairsOf_211 : decode cX7_pairsOf 211 = .ok (.goto (-68), 3) := by decide +kernel
theorem dX7_pairsOf_214 : decode cX7_pairsOf 214 = .ok (.iload 9, 2) := by decide +kernel
theorem dX7_pairsOf_216 : decode cX7_pairsOf 216 = .ok (.istore 10, 2) := by decide +kernel
theorem dX7_pairsOf_218 : decode cX7_pairsOf 218 = .ok (.iload 10, 2) := by decide +kernel
theorem dX7_pairsOf_220 : decode cX7_pairsOf 220 = .ok (.ifCond .le 55, 3) := by decide +kernel
theorem dX7_pairsOf_223 : decode cX7_pairsOf 223 = .ok (.aload_n 0, 1) := by decide +kernel
theorem dX7_pairsOf_224 : decode cX7_pairsOf 224 = .ok (.getfield 80, 3) := by decide +kernel
theorem dX7_pairsOf_227 : decode cX7_pairsOf 227 = .ok (.iload 10, 2) := by decide +kernel
theorem dX7_pairsOf_229 : decode cX7_pairsOf 229 = .ok (.iconst 1, 1) := by decide +kernel
theorem dX7_pairsOf_230 : decode cX7_pairsOf 230 = .ok (.isub, 1) := by decide +kernel
theorem dX7_pairsOf_231 : decode cX7_pairsOf 231 = .ok (.iaload, 1) := by decide +kernel
theorem dX7_pairsOf_232 : decode cX7_pairsOf 232 = .ok (.iload 6, 2) := by decide +kernel
theorem dX7_pairsOf_234 : decode cX7_pairsOf 234 = .ok (.if_icmp .le 41, 3) := by decide +kernel
theorem dX7_pairsOf_237 : decode cX7_pairsOf 237 = .ok (.aload_n 0, 1) := by decide +kernel
theorem dX7_pairsOf_238 : decode cX7_pairsOf 238 = .ok (.getfield 80, 3) := by decide +kernel
theorem dX7_pairsOf_241 : decode cX7_pairsOf 241 = .ok (.iload 10, 2) := by decide +kernel
theorem dX7_pairsOf_243 : decode cX7_pairsOf 243 = .ok (.aload_n 0, 1) := by decide +kernel
theorem dX7_pairsOf_244 : decode cX7_pairsOf 244 = .ok (.getfield 80, 3) := by decide +kernel
theorem dX7_pairsOf_247 : decode cX7_pairsOf 247 = .ok (.iload 10, 2) := by decide +kernel
theorem dX7_pairsOf_249 : decode cX7_pairsOf 249 = .ok (.iconst 1, 1) := by decide +kernel
theorem dX7_pairsOf_250 : decode cX7_pairsOf 250 = .ok (.isub, 1) := by decide +kernel
theorem dX7_pairsOf_251 : decode cX7_pairsOf 251 = .ok (.iaload, 1) := by decide +kernel
theorem dX7_pairsOf_252 : decode cX7_pairsOf 252 = .ok (.iastore, 1) := by decide +kernel
theorem dX7_pairsOf_253 : decode cX7_pairsOf 253 = .ok (.aload_n 0, 1) := by decide +kernel
theorem dX7_pairsOf_254 : decode cX7_pairsOf 254 = .ok (.getfield 83, 3) := by decide +kernel
theorem dX7_pairsOf_257 : decode cX7_pairsOf 257 = .ok (.iload 10, 2) := by decide +kernel
theorem dX7_pairsOf_259 : decode cX7_pairsOf 259 = .ok (.aload_n 0, 1) := by decide +kernel
theorem dX7_pairsOf_260 : decode cX7_pairsOf 260 = .ok (.getfield 83, 3) := by decide +kernel
theorem dX7_pairsOf_263 : decode cX7_pairsOf 263 = .ok (.iload 10, 2) := by decide +kernel
theorem dX7_pairsOf_265 : decode cX7_pairsOf 265 = .ok (.iconst 1, 1) := by decide +kernel
theorem dX7_pairsOf_266 : decode cX7_pairsOf 266 = .ok (.isub, 1) := by decide +kernel
theorem dX7_pairsOf_267 : decode cX7_pairsOf 267 = .ok (.iaload, 1) := by decide +kernel
theorem dX7_pairsOf_268 : decode cX7_pairsOf 268 = .ok (.iastore, 1) := by decide +kernel
theorem dX7_pairsOf_269 : decode cX7_pairsOf 269 = .ok (.iinc 10 (-1), 3) := by decide +kernel
theorem dX7_pairsOf_272 : decode cX7_pairsOf 272 = .ok (.goto (-54), 3) := by decide +kernel
theorem dX7_pairsOf_275 : decode cX7_pairsOf 275 = .ok (.aload_n 0, 1) := by decide +kernel
theorem dX7_pairsOf_276 : decode cX7_pairsOf 276 = .ok (.getfield 80, 3) := by decide +kernel
theorem dX7_pairsOf_279 : decode cX7_pairsOf 279 = .ok (.iload 10, 2) := by decide +kernel
theorem dX7_pairsOf_281 : decode cX7_pairsOf 281 = .ok (.iload 6, 2) := by decide +kernel
theorem dX7_pairsOf_283 : decode cX7_pairsOf 283 = .ok (.iastore, 1) := by decide +kernel
theorem dX7_pairsOf_284 : decode cX7_pairsOf 284 = .ok (.aload_n 0, 1) := by decide +kernel
theorem dX7_pairsOf_285 : decode cX7_pairsOf 285 = .ok (.getfield 83, 3) := by decide +kernel
theorem dX7_pairsOf_288 : decode cX7_pairsOf 288 = .ok (.iload 10, 2) := by decide +kernel
theorem dX7_pairsOf_290 : decode cX7_pairsOf 290 = .ok (.iload 7, 2) := by decide +kernel
theorem dX7_pairsOf_292 : decode cX7_pairsOf 292 = .ok (.iastore, 1) := by decide +kernel
theorem dX7_pairsOf_293 : decode cX7_pairsOf 293 = .ok (.iload 9, 2) := by decide +kernel
theorem dX7_pairsOf_295 : decode cX7_pairsOf 295 = .ok (.iconst 1, 1) := by decide +kernel
theorem dX7_pairsOf_296 : decode cX7_pairsOf 296 = .ok (.iadd, 1) := by decide +kernel
theorem dX7_pairsOf_297 : decode cX7_pairsOf 297 = .ok (.istore 4, 2) := by decide +kernel
theorem dX7_pairsOf_299 : decode cX7_pairsOf 299 = .ok (.iinc 5 1, 3) := by decide +kernel
theorem dX7_pairsOf_302 : decode cX7_pairsOf 302 = .ok (.goto (-284), 3) := by decide +kernel
theorem dX7_pairsOf_305 : decode cX7_pairsOf 305 = .ok (.iload 4, 2) := by decide +kernel
theorem dX7_pairsOf_307 : decode cX7_pairsOf 307 = .ok (.ireturn, 1) := by decide +kernel
theorem dX7_pairs_0 : decode cX7_pairs 0 = .ok (.aload_n 0, 1) := by decide +kernel
theorem dX7_pairs_1 : decode cX7_pairs 1 = .ok (.iconst 0, 1) := by decide +kernel
theorem dX7_pairs_2 : decode cX7_pairs 2 = .ok (.putfield 92, 3) := by decide +kernel
theorem dX7_pairs_5 : decode cX7_pairs 5 = .ok (.aload_n 0, 1) := by decide +kernel
theorem dX7_pairs_6 : decode cX7_pairs 6 = .ok (.aload_n 0, 1) := by decide +kernel
theorem dX7_pairs_7 : decode cX7_pairs 7 = .ok (.iload_n 1, 1) := by decide +kernel
theorem dX7_pairs_8 : decode cX7_pairs 8 = .ok (.iload_n 2, 1) := by decide +kernel
theorem dX7_pairs_9 : decode cX7_pairs 9 = .ok (.iconst 0, 1) := by decide +kernel
theorem dX7_pairs_10 : decode cX7_pairs 10 = .ok (.iconst 0, 1) := by decide +kernel
theorem dX7_pairs_11 : decode cX7_pairs 11 = .ok (.iload_n 3, 1) := by decide +kernel
theorem dX7_pairs_12 : decode cX7_pairs 12 = .ok (.invokevirtual 173, 3) := by decide +kernel
theorem dX7_pairs_15 : decode cX7_pairs 15 = .ok (.putfield 96, 3) := by decide +kernel
theorem dX7_pairs_18 : decode cX7_pairs 18 = .ok (.aload_n 0, 1) := by decide +kernel
theorem dX7_pairs_19 : decode cX7_pairs 19 = .ok (.getfield 96, 3) := by decide +kernel
theorem dX7_pairs_22 : decode cX7_pairs 22 = .ok (.ifCond .le 7, 3) := by decide +kernel
theorem dX7_pairs_25 : decode cX7_pairs 25 = .ok (.iconst (-1), 1) := by decide +kernel
theorem dX7_pairs_26 : decode cX7_pairs 26 = .ok (.goto 10, 3) := by decide +kernel
theorem dX7_pairs_29 : decode cX7_pairs 29 = .ok (.aload_n 0, 1) := by decide +kernel
theorem dX7_pairs_30 : decode cX7_pairs 30 = .ok (.iload_n 1, 1) := by decide +kernel
theorem dX7_pairs_31 : decode cX7_pairs 31 = .ok (.iload_n 2, 1) := by decide +kernel
theorem dX7_pairs_32 : decode cX7_pairs 32 = .ok (.iload_n 3, 1) := by decide +kernel
theorem dX7_pairs_33 : decode cX7_pairs 33 = .ok (.invokevirtual 199, 3) := by decide +kernel
theorem dX7_pairs_36 : decode cX7_pairs 36 = .ok (.ireturn, 1) := by decide +kernel
theorem dX7_pair_0 : decode cX7_pair 0 = .ok (.aload_n 0, 1) := by decide +kernel
theorem dX7_pair_1 : decode cX7_pair 1 = .ok (.iconst 0, 1) := by decide +kernel
theorem dX7_pair_2 : decode cX7_pair 2 = .ok (.putfield 92, 3) := by decide +kernel
theorem dX7_pair_5 : decode cX7_pair 5 = .ok (.aload_n 0, 1) := by decide +kernel
theorem dX7_pair_6 : decode cX7_pair 6 = .ok (.aload_n 0, 1) := by decide +kernel
theorem dX7_pair_7 : decode cX7_pair 7 = .ok (.iload_n 1, 1) := by decide +kernel
theorem dX7_pair_8 : decode cX7_pair 8 = .ok (.iload_n 2, 1) := by decide +kernel
theorem dX7_pair_9 : decode cX7_pair 9 = .ok (.iconst 0, 1) := by decide +kernel
theorem dX7_pair_10 : decode cX7_pair 10 = .ok (.iconst 0, 1) := by decide +kernel
theorem dX7_pair_11 : decode cX7_pair 11 = .ok (.iload_n 3, 1) := by decide +kernel
theorem dX7_pair_12 : decode cX7_pair 12 = .ok (.invokevirtual 173, 3) := by decide +kernel
theorem dX7_pair_15 : decode cX7_pair 15 = .ok (.putfield 96, 3) := by decide +kernel
theorem dX7_pair_18 : decode cX7_pair 18 = .ok (.aload_n 0, 1) := by decide +kernel
theorem dX7_pair_19 : decode cX7_pair 19 = .ok (.getfield 96, 3) := by decide +kernel
theorem dX7_pair_22 : decode cX7_pair 22 = .ok (.ifCond .le 5, 3) := by decide +kernel
theorem dX7_pair_25 : decode cX7_pair 25 = .ok (.iconst (-1), 1) := by decide +kernel
theorem dX7_pair_26 : decode cX7_pair 26 = .ok (.ireturn, 1) := by decide +kernel
theorem dX7_pair_27 : decode cX7_pair 27 = .ok (.iload 4, 2) := by decide +kernel
theorem dX7_pair_29 : decode cX7_pair 29 = .ok (.ifCond .lt 15, 3) := by decide +kernel
theorem dX7_pair_32 : decode cX7_pair 32 = .ok (.iload 4, 2) := by decide +kernel
theorem dX7_pair_34 : decode cX7_pair 34 = .ok (.aload_n 0, 1) := by decide +kernel
theorem dX7_pair_35 : decode cX7_pair 35 = .ok (.iload_n 1, 1) := by decide +kernel
theorem dX7_pair_36 : decode cX7_pair 36 = .ok (.iload_n 2, 1) := by decide +kernel
theorem dX7_pair_37 : decode cX7_pair 37 = .ok (.iload_n 3, 1) := by decide +kernel
theorem dX7_pair_38 : decode cX7_pair 38 = .ok (.invokevirtual 199, 3) := by decide +kernel
theorem dX7_pair_41 : decode cX7_pair 41 = .ok (.if_icmp .lt 10, 3) := by decide +kernel
theorem dX7_pair_44 : decode cX7_pair 44 = .ok (.aload_n 0, 1) := by decide +kernel
theorem dX7_pair_45 : decode cX7_pair 45 = .ok (.bipush 7, 2) := by decide +kernel
theorem dX7_pair_47 : decode cX7_pair 47 = .ok (.invokevirtual 109, 3) := by decide +kernel
theorem dX7_pair_50 : decode cX7_pair 50 = .ok (.ireturn, 1) := by decide +kernel
theorem dX7_pair_51 : decode cX7_pair 51 = .ok (.iload 5, 2) := by decide +kernel
theorem dX7_pair_53 : decode cX7_pair 53 = .ok (.ifCond .eq 13, 3) := by decide +kernel
theorem dX7_pair_56 : decode cX7_pair 56 = .ok (.aload_n 0, 1) := by decide +kernel
theorem dX7_pair_57 : decode cX7_pair 57 = .ok (.getfield 83, 3) := by decide +kernel
theorem dX7_pair_60 : decode cX7_pair 60 = .ok (.iload 4, 2) := by decide +kernel
theorem dX7_pair_62 : decode cX7_pair 62 = .ok (.iaload, 1) := by decide +kernel
theorem dX7_pair_63 : decode cX7_pair 63 = .ok (.goto 10, 3) := by decide +kernel
theorem dX7_pair_66 : decode cX7_pair 66 = .ok (.aload_n 0, 1) := by decide +kernel
theorem dX7_pair_67 : decode cX7_pair 67 = .ok (.getfield 80, 3) := by decide +kernel
theorem dX7_pair_70 : decode cX7_pair 70 = .ok (.iload 4, 2) := by decide +kernel
theorem dX7_pair_72 : decode cX7_pair 72 = .ok (.iaload, 1) := by decide +kernel
theorem dX7_pair_73 : decode cX7_pair 73 = .ok (.ireturn, 1) := by decide +kernel
theorem dX7_isReachedBy_0 : decode cX7_isReachedBy 0 = .ok (.iload_n 1, 1) := by decide +kernel
theorem dX7_isReachedBy_1 : decode cX7_isReachedBy 1 = .ok (.iload_n 2, 1) := by decide +kernel
theorem dX7_isReachedBy_2 : decode cX7_isReachedBy 2 = .ok (.if_icmp .ne 5, 3) := by decide +kernel
theorem dX7_isReachedBy_5 : decode cX7_isReachedBy 5 = .ok (.iconst 1, 1) := by decide +kernel
theorem dX7_isReachedBy_6 : decode cX7_isReachedBy 6 = .ok (.ireturn, 1) := by decide +kernel
theorem dX7_isReachedBy_7 : decode cX7_isReachedBy 7 = .ok (.iconst 0, 1) := by decide +kernel
theorem dX7_isReachedBy_8 : decode cX7_isReachedBy 8 = .ok (.istore 4, 2) := by decide +kernel
theorem dX7_isReachedBy_10 : decode cX7_isReachedBy 10 = .ok (.iload 4, 2) := by decide +kernel
theorem dX7_isReachedBy_12 : decode cX7_isReachedBy 12 = .ok (.aload_n 0, 1) := by decide +kernel
theorem dX7_isReachedBy_13 : decode cX7_isReachedBy 13 = .ok (.getfield 150, 3) := by decide +kernel
theorem dX7_isReachedBy_16 : decode cX7_isReachedBy 16 = .ok (.if_icmp .ge 48, 3) := by decide +kernel
theorem dX7_isReachedBy_19 : decode cX7_isReachedBy 19 = .ok (.aload_n 0, 1) := by decide +kernel
theorem dX7_isReachedBy_20 : decode cX7_isReachedBy 20 = .ok (.getfield 74, 3) := by decide +kernel
theorem dX7_isReachedBy_23 : decode cX7_isReachedBy 23 = .ok (.iload 4, 2) := by decide +kernel
theorem dX7_isReachedBy_25 : decode cX7_isReachedBy 25 = .ok (.baload, 1) := by decide +kernel
theorem dX7_isReachedBy_26 : decode cX7_isReachedBy 26 = .ok (.ifCond .eq 32, 3) := by decide +kernel
theorem dX7_isReachedBy_29 : decode cX7_isReachedBy 29 = .ok (.aload_n 0, 1) := by decide +kernel
theorem dX7_isReachedBy_30 : decode cX7_isReachedBy 30 = .ok (.getfield 19, 3) := by decide +kernel
theorem dX7_isReachedBy_33 : decode cX7_isReachedBy 33 = .ok (.aload_n 0, 1) := by decide +kernel
theorem dX7_isReachedBy_34 : decode cX7_isReachedBy 34 = .ok (.getfield 56, 3) := by decide +kernel
theorem dX7_isReachedBy_37 : decode cX7_isReachedBy 37 = .ok (.iload 4, 2) := by decide +kernel
theorem dX7_isReachedBy_39 : decode cX7_isReachedBy 39 = .ok (.iaload, 1) := by decide +kernel
theorem dX7_isReachedBy_40 : decode cX7_isReachedBy 40 = .ok (.iaload, 1) := by decide +kernel
theorem dX7_isReachedBy_41 : decode cX7_isReachedBy 41 = .ok (.iload_n 1, 1) := by decide +kernel
theorem dX7_isReachedBy_42 : decode cX7_isReachedBy 42 = .ok (.if_icmp .ne 16, 3) := by decide +kernel
theorem dX7_isReachedBy_45 : decode cX7_isReachedBy 45 = .ok (.aload_n 0, 1) := by decide +kernel
theorem dX7_isReachedBy_46 : decode cX7_isReachedBy 46 = .ok (.getfield 65, 3) := by decide +kernel
theorem dX7_isReachedBy_49 : decode cX7_isReachedBy 49 = .ok (.iload 4, 2) := by decide +kernel
theorem dX7_isReachedBy_51 : decode cX7_isReachedBy 51 = .ok (.iaload, 1) := by decide +kernel
theorem dX7_isReachedBy_52 : decode cX7_isReachedBy 52 = .ok (.iload_n 3, 1) := by decide +kernel
theorem dX7_isReachedBy_53 : decode cX7_isReachedBy 53 = .ok (.if_icmp .gt 5, 3) := by decide +kernel
theorem dX7_isReachedBy_56 : decode cX7_isReachedBy 56 = .ok (.iconst 1, 1) := by decide +kernel
theorem dX7_isReachedBy_57 : decode cX7_isReachedBy 57 = .ok (.ireturn, 1) := by decide +kernel
theorem dX7_isReachedBy_58 : decode cX7_isReachedBy 58 = .ok (.iinc 4 1, 3) := by decide +kernel
theorem dX7_isReachedBy_61 : decode cX7_isReachedBy 61 = .ok (.goto (-51), 3) := by decide +kernel
theorem dX7_isReachedBy_64 : decode cX7_isReachedBy 64 = .ok (.iconst 0, 1) := by decide +kernel
theorem dX7_isReachedBy_65 : decode cX7_isReachedBy 65 = .ok (.ireturn, 1) := by decide +kernel
theorem dX7_askedReach_0 : decode cX7_askedReach 0 = .ok (.aload_n 0, 1) := by decide +kernel
theorem dX7_askedReach_1 : decode cX7_askedReach 1 = .ok (.iload_n 1, 1) := by decide +kernel
theorem dX7_askedReach_2 : decode cX7_askedReach 2 = .ok (.invokevirtual 113, 3) := by decide +kernel
theorem dX7_askedReach_5 : decode cX7_askedReach 5 = .ok (.ifCond .eq 11, 3) := by decide +kernel
theorem dX7_askedReach_8 : decode cX7_askedReach 8 = .ok (.aload_n 0, 1) := by decide +kernel
theorem dX7_askedReach_9 : decode cX7_askedReach 9 = .ok (.iload_n 2, 1) := by decide +kernel
theorem dX7_askedReach_10 : decode cX7_askedReach 10 = .ok (.invokevirtual 113, 3) := by decide +kernel
theorem dX7_askedReach_13 : decode cX7_askedReach 13 = .ok (.ifCond .ne 5, 3) := by decide +kernel
theorem dX7_askedReach_16 : decode cX7_askedReach 16 = .ok (.iconst 1, 1) := by decide +kernel
theorem dX7_askedReach_17 : decode cX7_askedReach 17 = .ok (.ireturn, 1) := by decide +kernel
theorem dX7_askedReach_18 : decode cX7_askedReach 18 = .ok (.iload_n 3, 1) := by decide +kernel
theorem dX7_askedReach_19 : decode cX7_askedReach 19 = .ok (.invokestatic 123, 3) := by decide +kernel
theorem dX7_askedReach_22 : decode cX7_askedReach 22 = .ok (.ifCond .eq 11, 3) := by decide +kernel
theorem dX7_askedReach_25 : decode cX7_askedReach 25 = .ok (.iload 4, 2) := by decide +kernel
theorem dX7_askedReach_27 : decode cX7_askedReach 27 = .ok (.invokestatic 123, 3) := by decide +kernel
theorem dX7_askedReach_30 : decode cX7_askedReach 30 = .ok (.ifCond .ne 5, 3) := by decide +kernel
theorem dX7_askedReach_33 : decode cX7_askedReach 33 = .ok (.iconst 2, 1) := by decide +kernel
theorem dX7_askedReach_34 : decode cX7_askedReach 34 = .ok (.ireturn, 1) := by decide +kernel
theorem dX7_askedReach_35 : decode cX7_askedReach 35 = .ok (.iload 5, 2) := by decide +kernel
theorem dX7_askedReach_37 : decode cX7_askedReach 37 = .ok (.ifCond .lt 12, 3) := by decide +kernel
theorem dX7_askedReach_40 : decode cX7_askedReach 40 = .ok (.iload 5, 2) := by decide +kernel
theorem dX7_askedReach_42 : decode cX7_askedReach 42 = .ok (.aload_n 0, 1) := by decide +kernel
theorem dX7_askedReach_43 : decode cX7_askedReach 43 = .ok (.getfield 120, 3) := by decide +kernel
theorem dX7_askedReach_46 : decode cX7_askedReach 46 = .ok (.if_icmp .le 8, 3) := by decide +kernel
theorem dX7_askedReach_49 : decode cX7_askedReach 49 = .ok (.bipush 6, 2) := by decide +kernel
theorem dX7_askedReach_51 : decode cX7_askedReach 51 = .ok (.goto 4, 3) := by decide +kernel
theorem dX7_askedReach_54 : decode cX7_askedReach 54 = .ok (.iconst 0, 1) := by decide +kernel
theorem dX7_askedReach_55 : decode cX7_askedReach 55 = .ok (.ireturn, 1) := by decide +kernel
theorem dX7_reached_0 : decode cX7_reached 0 = .ok (.aload_n 0, 1) := by decide +kernel
theorem dX7_reached_1 : decode cX7_reached 1 = .ok (.iconst 0, 1) := by decide +kernel
theorem dX7_reached_2 : decode cX7_reached 2 = .ok (.putfield 92, 3) := by decide +kernel
theorem dX7_reached_5 : decode cX7_reached 5 = .ok (.aload_n 0, 1) := by decide +kernel
theorem dX7_reached_6 : decode cX7_reached 6 = .ok (.aload_n 0, 1) := by decide +kernel
theorem dX7_reached_7 : decode cX7_reached 7 = .ok (.iload_n 1, 1) := by decide +kernel
theorem dX7_reached_8 : decode cX7_reached 8 = .ok (.iload_n 1, 1) := by decide +kernel
theorem dX7_reached_9 : decode cX7_reached 9 = .ok (.iload_n 2, 1) := by decide +kernel
theorem dX7_reached_10 : decode cX7_reached 10 = .ok (.iload_n 3, 1) := by decide +kernel
theorem dX7_reached_11 : decode cX7_reached 11 = .ok (.iload 4, 2) := by decide +kernel
theorem dX7_reached_13 : decode cX7_reached 13 = .ok (.invokevirtual 202, 3) := by decide +kernel
theorem dX7_reached_16 : decode cX7_reached 16 = .ok (.putfield 96, 3) := by decide +kernel
theorem dX7_reached_19 : decode cX7_reached 19 = .ok (.aload_n 0, 1) := by decide +kernel
theorem dX7_reached_20 : decode cX7_reached 20 = .ok (.getfield 96, 3) := by decide +kernel
theorem dX7_reached_23 : decode cX7_reached 23 = .ok (.ifCond .le 5, 3) := by decide +kernel
theorem dX7_reached_26 : decode cX7_reached 26 = .ok (.iconst (-1), 1) := by decide +kernel
theorem dX7_reached_27 : decode cX7_reached 27 = .ok (.ireturn, 1) := by decide +kernel
theorem dX7_reached_28 : decode cX7_reached 28 = .ok (.aload_n 0, 1) := by decide +kernel
theorem dX7_reached_29 : decode cX7_reached 29 = .ok (.iload 4, 2) := by decide +kernel
theorem dX7_reached_31 : decode cX7_reached 31 = .ok (.iconst (-1), 1) := by decide +kernel
theorem dX7_reached_32 : decode cX7_reached 32 = .ok (.invokevirtual 177, 3) := by decide +kernel
theorem dX7_reached_35 : decode cX7_reached 35 = .ok (.aload_n 0, 1) := by decide +kernel
theorem dX7_reached_36 : decode cX7_reached 36 = .ok (.iload_n 1, 1) := by decide +kernel
theorem dX7_reached_37 : decode cX7_reached 37 = .ok (.iload_n 2, 1) := by decide +kernel
theorem dX7_reached_38 : decode cX7_reached 38 = .ok (.invokevirtual 181, 3) := by decide +kernel
theorem dX7_reached_41 : decode cX7_reached 41 = .ok (.iconst 0, 1) := by decide +kernel
theorem dX7_reached_42 : decode cX7_reached 42 = .ok (.istore 5, 2) := by decide +kernel
theorem dX7_reached_44 : decode cX7_reached 44 = .ok (.iconst 0, 1) := by decide +kernel
theorem dX7_reached_45 : decode cX7_reached 45 = .ok (.istore 6, 2) := by decide +kernel
theorem dX7_reached_47 : decode cX7_reached 47 = .ok (.iload 6, 2) := by decide +kernel
theorem dX7_reached_49 : decode cX7_reached 49 = .ok (.aload_n 0, 1) := by decide +kernel
theorem dX7_reached_50 : decode cX7_reached 50 = .ok (.getfield 99, 3) := by decide +kernel
theorem dX7_reached_53 : decode cX7_reached 53 = .ok (.if_icmp .ge 30, 3) := by decide +kernel
theorem dX7_reached_56 : decode cX7_reached 56 = .ok (.iload 5, 2) := by decide +kernel
theorem dX7_reached_58 : decode cX7_reached 58 = .ok (.aload_n 0, 1) := by decide +kernel
theorem dX7_reached_59 : decode cX7_reached 59 = .ok (.iload 6, 2) := by decide +kernel
theorem dX7_reached_61 : decode cX7_reached 61 = .ok (.iload_n 1, 1) := by decide +kernel
theorem dX7_reached_62 : decode cX7_reached 62 = .ok (.iload_n 3, 1) := by decide +kernel
theorem dX7_reached_63 : decode cX7_reached 63 = .ok (.invokevirtual 205, 3) := by decide +kernel
theorem dX7_reached_66 : decode cX7_reached 66 = .ok (.ifCond .eq 7, 3) := by decide +kernel
theorem dX7_reached_69 : decode cX7_reached 69 = .ok (.iconst 1, 1) := by decide +kernel
theorem dX7_reached_70 : decode cX7_reached 70 = .ok (.goto 4, 3) := by decide +kernel
theorem dX7_reached_73 : decode cX7_reached 73 = .ok (.iconst 0, 1) := by decide +kernel
theorem dX7_reached_74 : decode cX7_reached 74 = .ok (.iadd, 1) := by decide +kernel
theorem dX7_reached_75 : decode cX7_reached 75 = .ok (.istore 5, 2) := by decide +kernel
theorem dX7_reached_77 : decode cX7_reached 77 = .ok (.iinc 6 1, 3) := by decide +kernel
theorem dX7_reached_80 : decode cX7_reached 80 = .ok (.goto (-33), 3) := by decide +kernel
theorem dX7_reached_83 : decode cX7_reached 83 = .ok (.iload 5, 2) := by decide +kernel
theorem dX7_reached_85 : decode cX7_reached 85 = .ok (.ireturn, 1) := by decide +kernel
theorem dX7_isReached_0 : decode cX7_isReached 0 = .ok (.aload_n 0, 1) := by decide +kernel
theorem dX7_isReached_1 : decode cX7_isReached 1 = .ok (.iconst 0, 1) := by decide +kernel
theorem dX7_isReached_2 : decode cX7_isReached 2 = .ok (.putfield 92, 3) := by decide +kernel
theorem dX7_isReached_5 : decode cX7_isReached 5 = .ok (.aload_n 0, 1) := by decide +kernel
theorem dX7_isReached_6 : decode cX7_isReached 6 = .ok (.aload_n 0, 1) := by decide +kernel
theorem dX7_isReached_7 : decode cX7_isReached 7 = .ok (.iload_n 1, 1) := by decide +kernel
theorem dX7_isReached_8 : decode cX7_isReached 8 = .ok (.iload_n 2, 1) := by decide +kernel
theorem dX7_isReached_9 : decode cX7_isReached 9 = .ok (.iload_n 3, 1) := by decide +kernel
theorem dX7_isReached_10 : decode cX7_isReached 10 = .ok (.iload 4, 2) := by decide +kernel
theorem dX7_isReached_12 : decode cX7_isReached 12 = .ok (.iload 5, 2) := by decide +kernel
theorem dX7_isReached_14 : decode cX7_isReached 14 = .ok (.invokevirtual 202, 3) := by decide +kernel
theorem dX7_isReached_17 : decode cX7_isReached 17 = .ok (.putfield 96, 3) := by decide +kernel
theorem dX7_isReached_20 : decode cX7_isReached 20 = .ok (.aload_n 0, 1) := by decide +kernel
theorem dX7_isReached_21 : decode cX7_isReached 21 = .ok (.getfield 96, 3) := by decide +kernel
theorem dX7_isReached_24 : decode cX7_isReached 24 = .ok (.ifCond .le 5, 3) := by decide +kernel
theorem dX7_isReached_27 : decode cX7_isReached 27 = .ok (.iconst (-1), 1) := by decide +kernel
theorem dX7_isReached_28 : decode cX7_isReached 28 = .ok (.ireturn, 1) := by decide +kernel
theorem dX7_isReached_29 : decode cX7_isReached 29 = .ok (.aload_n 0, 1) := by decide +kernel
theorem dX7_isReached_30 : decode cX7_isReached 30 = .ok (.iload 5, 2) := by decide +kernel
theorem dX7_isReached_32 : decode cX7_isReached 32 = .ok (.iconst (-1), 1) := by decide +kernel
theorem dX7_isReached_33 : decode cX7_isReached 33 = .ok (.invokevirtual 177, 3) := by decide +kernel
theorem dX7_isReached_36 : decode cX7_isReached 36 = .ok (.aload_n 0, 1) := by decide +kernel
theorem dX7_isReached_37 : decode cX7_isReached 37 = .ok (.iload_n 1, 1) := by decide +kernel
theorem dX7_isReached_38 : decode cX7_isReached 38 = .ok (.iload_n 3, 1) := by decide +kernel
theorem dX7_isReached_39 : decode cX7_isReached 39 = .ok (.invokevirtual 181, 3) := by decide +kernel
theorem dX7_isReached_42 : decode cX7_isReached 42 = .ok (.aload_n 0, 1) := by decide +kernel
theorem dX7_isReached_43 : decode cX7_isReached 43 = .ok (.iload_n 2, 1) := by decide +kernel
theorem dX7_isReached_44 : decode cX7_isReached 44 = .ok (.iload_n 1, 1) := by decide +kernel
theorem dX7_isReached_45 : decode cX7_isReached 45 = .ok (.iload 4, 2) := by decide +kernel
theorem dX7_isReached_47 : decode cX7_isReached 47 = .ok (.invokevirtual 205, 3) := by decide +kernel
theorem dX7_isReached_50 : decode cX7_isReached 50 = .ok (.ifCond .eq 7, 3) := by decide +kernel
theorem dX7_isReached_53 : decode cX7_isReached 53 = .ok (.iconst 1, 1) := by decide +kernel
theorem dX7_isReached_54 : decode cX7_isReached 54 = .ok (.goto 4, 3) := by decide +kernel
theorem dX7_isReached_57 : decode cX7_isReached 57 = .ok (.iconst 0, 1) := by decide +kernel
theorem dX7_isReached_58 : decode cX7_isReached 58 = .ok (.ireturn, 1) := by decide +kernel
theorem dX7_without_0 : decode cX7_without 0 = .ok (.aload_n 0, 1) := by decide +kernel
theorem dX7_without_1 : decode cX7_without 1 = .ok (.iconst 0, 1) := by decide +kernel
theorem dX7_without_2 : decode cX7_without 2 = .ok (.putfield 92, 3) := by decide +kernel
theorem dX7_without_5 : decode cX7_without 5 = .ok (.aload_n 0, 1) := by decide +kernel
theorem dX7_without_6 : decode cX7_without 6 = .ok (.aload_n 0, 1) := by decide +kernel
theorem dX7_without_7 : decode cX7_without 7 = .ok (.iload 4, 2) := by decide +kernel
theorem dX7_without_9 : decode cX7_without 9 = .ok (.invokevirtual 133, 3) := by decide +kernel
theorem dX7_without_12 : decode cX7_without 12 = .ok (.ifCond .eq 18, 3) := by decide +kernel
theorem dX7_without_15 : decode cX7_without 15 = .ok (.aload_n 0, 1) := by decide +kernel
theorem dX7_without_16 : decode cX7_without 16 = .ok (.iload_n 1, 1) := by decide +kernel
theorem dX7_without_17 : decode cX7_without 17 = .ok (.iload_n 2, 1) := by decide +kernel
theorem dX7_without_18 : decode cX7_without 18 = .ok (.iload_n 3, 1) := by decide +kernel
theorem dX7_without_19 : decode cX7_without 19 = .ok (.iload_n 3, 1) := by decide +kernel
theorem dX7_without_20 : decode cX7_without 20 = .ok (.aload_n 0, 1) := by decide +kernel
theorem dX7_without_21 : decode cX7_without 21 = .ok (.getfield 120, 3) := by decide +kernel
theorem dX7_without_24 : decode cX7_without 24 = .ok (.invokevirtual 173, 3) := by decide +kernel
theorem dX7_without_27 : decode cX7_without 27 = .ok (.goto 4, 3) := by decide +kernel
theorem dX7_without_30 : decode cX7_without 30 = .ok (.iconst 1, 1) := by decide +kernel
theorem dX7_without_31 : decode cX7_without 31 = .ok (.putfield 96, 3) := by decide +kernel
theorem dX7_without_34 : decode cX7_without 34 = .ok (.aload_n 0, 1) := by decide +kernel
theorem dX7_without_35 : decode cX7_without 35 = .ok (.getfield 96, 3) := by decide +kernel
theorem dX7_without_38 : decode cX7_without 38 = .ok (.ifCond .le 5, 3) := by decide +kernel
theorem dX7_without_41 : decode cX7_without 41 = .ok (.iconst (-1), 1) := by decide +kernel
theorem dX7_without_42 : decode cX7_without 42 = .ok (.ireturn, 1) := by decide +kernel
theorem dX7_without_43 : decode cX7_without 43 = .ok (.aload_n 0, 1) := by decide +kernel
theorem dX7_without_44 : decode cX7_without 44 = .ok (.aload_n 0, 1) := by decide +kernel
theorem dX7_without_45 : decode cX7_without 45 = .ok (.getfield 120, 3) := by decide +kernel
theorem dX7_without_48 : decode cX7_without 48 = .ok (.iload 4, 2) := by decide +kernel
theorem dX7_without_50 : decode cX7_without 50 = .ok (.invokevirtual 177, 3) := by decide +kernel
theorem dX7_without_53 : decode cX7_without 53 = .ok (.aload_n 0, 1) := by decide +kernel
theorem dX7_without_54 : decode cX7_without 54 = .ok (.iload_n 1, 1) := by decide +kernel
theorem dX7_without_55 : decode cX7_without 55 = .ok (.iload_n 3, 1) := by decide +kernel
theorem dX7_without_56 : decode cX7_without 56 = .ok (.invokevirtual 181, 3) := by decide +kernel
theorem dX7_without_59 : decode cX7_without 59 = .ok (.aload_n 0, 1) := by decide +kernel
theorem dX7_without_60 : decode cX7_without 60 = .ok (.aload_n 0, 1) := by decide +kernel
theorem dX7_without_61 : decode cX7_without 61 = .ok (.iload_n 2, 1) := by decide +kernel
theorem dX7_without_62 : decode cX7_without 62 = .ok (.invokevirtual 184, 3) := by decide +kernel
theorem dX7_without_65 : decode cX7_without 65 = .ok (.invokevirtual 187, 3) := by decide +kernel
theorem dX7_without_68 : decode cX7_without 68 = .ok (.ireturn, 1) := by decide +kernel
theorem dX7_weakest_0 : decode cX7_weakest 0 = .ok (.aload_n 0, 1) := by decide +kernel
theorem dX7_weakest_1 : decode cX7_weakest 1 = .ok (.iconst 0, 1) := by decide +kernel
theorem dX7_weakest_2 : decode cX7_weakest 2 = .ok (.putfield 92, 3) := by decide +kernel
theorem dX7_weakest_5 : decode cX7_weakest 5 = .ok (.aload_n 0, 1) := by decide +kernel
theorem dX7_weakest_6 : decode cX7_weakest 6 = .ok (.aload_n 0, 1) := by decide +kernel
theorem dX7_weakest_7 : decode cX7_weakest 7 = .ok (.iload_n 1, 1) := by decide +kernel
theorem dX7_weakest_8 : decode cX7_weakest 8 = .ok (.iload_n 2, 1) := by decide +kernel
theorem dX7_weakest_9 : decode cX7_weakest 9 = .ok (.iload_n 3, 1) := by decide +kernel
theorem dX7_weakest_10 : decode cX7_weakest 10 = .ok (.iload_n 3, 1) := by decide +kernel
theorem dX7_weakest_11 : decode cX7_weakest 11 = .ok (.aload_n 0, 1) := by decide +kernel
theorem dX7_weakest_12 : decode cX7_weakest 12 = .ok (.getfield 120, 3) := by decide +kernel
theorem dX7_weakest_15 : decode cX7_weakest 15 = .ok (.invokevirtual 173, 3) := by decide +kernel
theorem dX7_weakest_18 : decode cX7_weakest 18 = .ok (.putfield 96, 3) := by decide +kernel
theorem dX7_weakest_21 : decode cX7_weakest 21 = .ok (.aload_n 0, 1) := by decide +kernel
theorem dX7_weakest_22 : decode cX7_weakest 22 = .ok (.getfield 96, 3) := by decide +kernel
theorem dX7_weakest_25 : decode cX7_weakest 25 = .ok (.ifCond .le 5, 3) := by decide +kernel
theorem dX7_weakest_28 : decode cX7_weakest 28 = .ok (.iconst (-1), 1) := by decide +kernel
theorem dX7_weakest_29 : decode cX7_weakest 29 = .ok (.ireturn, 1) := by decide +kernel
theorem dX7_weakest_30 : decode cX7_weakest 30 = .ok (.iconst 0, 1) := by decide +kernel
theorem dX7_weakest_31 : decode cX7_weakest 31 = .ok (.istore 4, 2) := by decide +kernel
theorem dX7_weakest_33 : decode cX7_weakest 33 = .ok (.iload 4, 2) := by decide +kernel
theorem dX7_weakest_35 : decode cX7_weakest 35 = .ok (.sipush 2400, 3) := by decide +kernel
theorem dX7_weakest_38 : decode cX7_weakest 38 = .ok (.if_icmp .ge 23, 3) := by decide +kernel
theorem dX7_weakest_41 : decode cX7_weakest 41 = .ok (.aload_n 0, 1) := by decide +kernel
theorem dX7_weakest_42 : decode cX7_weakest 42 = .ok (.getfield 89, 3) := by decide +kernel
theorem dX7_weakest_45 : decode cX7_weakest 45 = .ok (.iload 4, 2) := by decide +kernel
theorem dX7_weakest_47 : decode cX7_weakest 47 = .ok (.aload_n 0, 1) := by decide +kernel
theorem dX7_weakest_48 : decode cX7_weakest 48 = .ok (.getfield 77, 3) := by decide +kernel
theorem dX7_weakest_51 : decode cX7_weakest 51 = .ok (.iload 4, 2) := by decide +kernel
theorem dX7_weakest_53 : decode cX7_weakest 53 = .ok (.iaload, 1) := by decide +kernel
theorem dX7_weakest_54 : decode cX7_weakest 54 = .ok (.iastore, 1) := by decide +kernel
theorem dX7_weakest_55 : decode cX7_weakest 55 = .ok (.iinc 4 1, 3) := by decide +kernel
theorem dX7_weakest_58 : decode cX7_weakest 58 = .ok (.goto (-25), 3) := by decide +kernel
theorem dX7_weakest_61 : decode cX7_weakest 61 = .ok (.aload_n 0, 1) := by decide +kernel
theorem dX7_weakest_62 : decode cX7_weakest 62 = .ok (.aload_n 0, 1) := by decide +kernel
theorem dX7_weakest_63 : decode cX7_weakest 63 = .ok (.getfield 120, 3) := by decide +kernel
theorem dX7_weakest_66 : decode cX7_weakest 66 = .ok (.iconst (-1), 1) := by decide +kernel
theorem dX7_weakest_67 : decode cX7_weakest 67 = .ok (.invokevirtual 177, 3) := by decide +kernel
theorem dX7_weakest_70 : decode cX7_weakest 70 = .ok (.aload_n 0, 1) := by decide +kernel
theorem dX7_weakest_71 : decode cX7_weakest 71 = .ok (.iload_n 1, 1) := by decide +kernel
theorem dX7_weakest_72 : decode cX7_weakest 72 = .ok (.iload_n 2, 1) := by decide +kernel
theorem dX7_weakest_73 : decode cX7_weakest 73 = .ok (.iload_n 3, 1) := by decide +kernel
theorem dX7_weakest_74 : decode cX7_weakest 74 = .ok (.invokevirtual 193, 3) := by decide +kernel
theorem dX7_weakest_77 : decode cX7_weakest 77 = .ok (.istore 4, 2) := by decide +kernel
theorem dX7_weakest_79 : decode cX7_weakest 79 = .ok (.iconst 0, 1) := by decide +kernel
theorem dX7_weakest_80 : decode cX7_weakest 80 = .ok (.istore 5, 2) := by decide +kernel
theorem dX7_weakest_82 : decode cX7_weakest 82 = .ok (.iload 5, 2) := by decide +kernel
theorem dX7_weakest_84 : decode cX7_weakest 84 = .ok (.iload 4, 2) := by decide +kernel
theorem dX7_weakest_86 : decode cX7_weakest 86 = .ok (.if_icmp .ge 25, 3) := by decide +kernel
theorem dX7_weakest_89 : decode cX7_weakest 89 = .ok (.aload_n 0, 1) := by decide +kernel
theorem dX7_weakest_90 : decode cX7_weakest 90 = .ok (.getfield 86, 3) := by decide +kernel
theorem dX7_weakest_93 : decode cX7_weakest 93 = .ok (.iload 5, 2) := by decide +kernel
theorem dX7_weakest_95 : decode cX7_weakest 95 = .ok (.aload_n 0, 1) := by decide +kernel
theorem dX7_weakest_96 : decode cX7_weakest 96 = .ok (.getfield 77, 3) := by decide +kernel
theorem dX7_weakest_99 : decode cX7_weakest 99 = .ok (.iconst 2, 1) := by decide +kernel
theorem dX7_weakest_100 : decode cX7_weakest 100 = .ok (.iload 5, 2) := by decide +kernel
theorem dX7_weakest_102 : decode cX7_weakest 102 = .ok (.imul, 1) := by decide +kernel
theorem dX7_weakest_103 : decode cX7_weakest 103 = .ok (.iaload, 1) := by decide +kernel
theorem dX7_weakest_104 : decode cX7_weakest 104 = .ok (.iastore, 1) := by decide +kernel
theorem dX7_weakest_105 : decode cX7_weakest 105 = .ok (.iinc 5 1, 3) := by decide +kernel
theorem dX7_weakest_108 : decode cX7_weakest 108 = .ok (.goto (-26), 3) := by decide +kernel
theorem dX7_weakest_111 : decode cX7_weakest 111 = .ok (.iconst 0, 1) := by decide +kernel
theorem dX7_weakest_112 : decode cX7_weakest 112 = .ok (.istore 5, 2) := by decide +kernel
theorem dX7_weakest_114 : decode cX7_weakest 114 = .ok (.iload 5, 2) := by decide +kernel
theorem dX7_weakest_116 : decode cX7_weakest 116 = .ok (.sipush 2400, 3) := by decide +kernel
theorem dX7_weakest_119 : decode cX7_weakest 119 = .ok (.if_icmp .ge 23, 3) := by decide +kernel
theorem dX7_weakest_122 : decode cX7_weakest 122 = .ok (.aload_n 0, 1) := by decide +kernel
theorem dX7_weakest_123 : decode cX7_weakest 123 = .ok (.getfield 77, 3) := by decide +kernel
theorem dX7_weakest_126 : decode cX7_weakest 126 = .ok (.iload 5, 2) := by decide +kernel
theorem dX7_weakest_128 : decode cX7_weakest 128 = .ok (.aload_n 0, 1) := by decide +kernel
theorem dX7_weakest_129 : decode cX7_weakest 129 = .ok (.getfield 89, 3) := by decide +kernel
theorem dX7_weakest_132 : decode cX7_weakest 132 = .ok (.iload 5, 2) := by decide +kernel
theorem dX7_weakest_134 : decode cX7_weakest 134 = .ok (.iaload, 1) := by decide +kernel
theorem dX7_weakest_135 : decode cX7_weakest 135 = .ok (.iastore, 1) := by decide +kernel
theorem dX7_weakest_136 : decode cX7_weakest 136 = .ok (.iinc 5 1, 3) := by decide +kernel
theorem dX7_weakest_139 : decode cX7_weakest 139 = .ok (.goto (-25), 3) := by decide +kernel
theorem dX7_weakest_142 : decode cX7_weakest 142 = .ok (.iload 4, 2) := by decide +kernel
theorem dX7_weakest_144 : decode cX7_weakest 144 = .ok (.ifCond .ne 9, 3) := by decide +kernel
theorem dX7_weakest_147 : decode cX7_weakest 147 = .ok (.aload_n 0, 1) := by decide +kernel
theorem dX7_weakest_148 : decode cX7_weakest 148 = .ok (.iconst 5, 1) := by decide +kernel
theorem dX7_weakest_149 : decode cX7_weakest 149 = .ok (.invokevirtual 109, 3) := by decide +kernel
theorem dX7_weakest_152 : decode cX7_weakest 152 = .ok (.ireturn, 1) := by decide +kernel
theorem dX7_weakest_153 : decode cX7_weakest 153 = .ok (.iconst (-1), 1) := by decide +kernel
theorem dX7_weakest_154 : decode cX7_weakest 154 = .ok (.istore 5, 2) := by decide +kernel
theorem dX7_weakest_156 : decode cX7_weakest 156 = .ok (.iconst (-1), 1) := by decide +kernel
theorem dX7_weakest_157 : decode cX7_weakest 157 = .ok (.istore 6, 2) := by decide +kernel
theorem dX7_weakest_159 : decode cX7_weakest 159 = .ok (.iconst 0, 1) := by decide +kernel
theorem dX7_weakest_160 : decode cX7_weakest 160 = .ok (.istore 7, 2) := by decide +kernel
theorem dX7_weakest_162 : decode cX7_weakest 162 = .ok (.iload 7, 2) := by decide +kernel
theorem dX7_weakest_164 : decode cX7_weakest 164 = .ok (.iload 4, 2) := by decide +kernel
theorem dX7_weakest_166 : decode cX7_weakest 166 = .ok (.if_icmp .ge 79, 3) := by decide +kernel
theorem dX7_weakest_169 : decode cX7_weakest 169 = .ok (.aload_n 0, 1) := by decide +kernel
theorem dX7_weakest_170 : decode cX7_weakest 170 = .ok (.aload_n 0, 1) := by decide +kernel
theorem dX7_weakest_171 : decode cX7_weakest 171 = .ok (.getfield 120, 3) := by decide +kernel
theorem dX7_weakest_174 : decode cX7_weakest 174 = .ok (.aload_n 0, 1) := by decide +kernel
theorem dX7_weakest_175 : decode cX7_weakest 175 = .ok (.getfield 86, 3) := by decide +kernel
theorem dX7_weakest_178 : decode cX7_weakest 178 = .ok (.iload 7, 2) := by decide +kernel
theorem dX7_weakest_180 : decode cX7_weakest 180 = .ok (.iaload, 1) := by decide +kernel
theorem dX7_weakest_181 : decode cX7_weakest 181 = .ok (.invokevirtual 177, 3) := by decide +kernel
theorem dX7_weakest_184 : decode cX7_weakest 184 = .ok (.aload_n 0, 1) := by decide +kernel
theorem dX7_weakest_185 : decode cX7_weakest 185 = .ok (.iload_n 1, 1) := by decide +kernel
theorem dX7_weakest_186 : decode cX7_weakest 186 = .ok (.iload_n 3, 1) := by decide +kernel
theorem dX7_weakest_187 : decode cX7_weakest 187 = .ok (.invokevirtual 181, 3) := by decide +kernel
theorem dX7_weakest_190 : decode cX7_weakest 190 = .ok (.aload_n 0, 1) := by decide +kernel
theorem dX7_weakest_191 : decode cX7_weakest 191 = .ok (.iload_n 2, 1) := by decide +kernel
theorem dX7_weakest_192 : decode cX7_weakest 192 = .ok (.invokevirtual 184, 3) := by decide +kernel
theorem dX7_weakest_195 : decode cX7_weakest 195 = .ok (.istore 8, 2) := by decide +kernel
theorem dX7_weakest_197 : decode cX7_weakest 197 = .ok (.iload 8, 2) := by decide +kernel
theorem dX7_weakest_199 : decode cX7_weakest 199 = .ok (.iload 5, 2) := by decide +kernel
theorem dX7_weakest_201 : decode cX7_weakest 201 = .ok (.if_icmp .lt 38, 3) := by decide +kernel
theorem dX7_weakest_204 : decode cX7_weakest 204 = .ok (.iload 8, 2) := by decide +kernel
theorem dX7_weakest_206 : decode cX7_weakest 206 = .ok (.iload 5, 2) := by decide +kernel
theorem dX7_weakest_208 : decode cX7_weakest 208 = .ok (.if_icmp .ne 18, 3) := by decide +kernel
theorem dX7_weakest_211 : decode cX7_weakest 211 = .ok (.aload_n 0, 1) := by decide +kernel
theorem dX7_weakest_212 : decode cX7_weakest 212 = .ok (.getfield 86, 3) := by decide +kernel
theorem dX7_weakest_215 : decode cX7_weakest 215 = .ok (.iload 7, 2) := by decide +kernel
theorem dX7_weakest_217 : decode cX7_weakest 217 = .ok (.iaload, 1) := by decide +kernel
theorem dX7_weakest_218 : decode cX7_weakest 218 = .ok (.iload 6, 2) := by decide +kernel
theorem dX7_weakest_220 : decode cX7_weakest 220 = .ok (.if_icmp .lt 6, 3) := by decide +kernel
theorem dX7_weakest_223 : decode cX7_weakest 223 = .ok (.goto 16, 3) := by decide +kernel
theorem dX7_weakest_226 : decode cX7_weakest 226 = .ok (.iload 8, 2) := by decide +kernel
theorem dX7_weakest_228 : decode cX7_weakest 228 = .ok (.istore 5, 2) := by decide +kernel
theorem dX7_weakest_230 : decode cX7_weakest 230 = .ok (.aload_n 0, 1) := by decide +kernel
theorem dX7_weakest_231 : decode cX7_weakest 231 = .ok (.getfield 86, 3) := by decide +kernel
theorem dX7_weakest_234 : decode cX7_weakest 234 = .ok (.iload 7, 2) := by decide +kernel
theorem dX7_weakest_236 : decode cX7_weakest 236 = .ok (.iaload, 1) := by decide +kernel
theorem dX7_weakest_237 : decode cX7_weakest 237 = .ok (.istore 6, 2) := by decide +kernel
theorem dX7_weakest_239 : decode cX7_weakest 239 = .ok (.iinc 7 1, 3) := by decide +kernel
theorem dX7_weakest_242 : decode cX7_weakest 242 = .ok (.goto (-80), 3) := by decide +kernel
theorem dX7_weakest_245 : decode cX7_weakest 245 = .ok (.iload 6, 2) := by decide +kernel
theorem dX7_weakest_247 : decode cX7_weakest 247 = .ok (.ireturn, 1) := by decide +kernel
theorem dX7_run_0 : decode cX7_run 0 = .ok (.aload_n 0, 1) := by decide +kernel
theorem dX7_run_1 : decode cX7_run 1 = .ok (.iconst 0, 1) := by decide +kernel
theorem dX7_run_2 : decode cX7_run 2 = .ok (.putfield 92, 3) := by decide +kernel
theorem dX7_run_5 : decode cX7_run 5 = .ok (.aload_n 0, 1) := by decide +kernel
theorem dX7_run_6 : decode cX7_run 6 = .ok (.iconst 0, 1) := by decide +kernel
theorem dX7_run_7 : decode cX7_run 7 = .ok (.putfield 96, 3) := by decide +kernel
theorem dX7_run_10 : decode cX7_run 10 = .ok (.iload_n 3, 1) := by decide +kernel
theorem dX7_run_11 : decode cX7_run 11 = .ok (.ifCond .lt 11, 3) := by decide +kernel
theorem dX7_run_14 : decode cX7_run 14 = .ok (.iload_n 3, 1) := by decide +kernel
theorem dX7_run_15 : decode cX7_run 15 = .ok (.aload_n 0, 1) := by decide +kernel
theorem dX7_run_16 : decode cX7_run 16 = .ok (.getfield 120, 3) := by decide +kernel
theorem dX7_run_19 : decode cX7_run 19 = .ok (.if_icmp .le 10, 3) := by decide +kernel
theorem dX7_run_22 : decode cX7_run 22 = .ok (.aload_n 0, 1) := by decide +kernel
theorem dX7_run_23 : decode cX7_run 23 = .ok (.bipush 6, 2) := by decide +kernel
theorem dX7_run_25 : decode cX7_run 25 = .ok (.invokevirtual 109, 3) := by decide +kernel
theorem dX7_run_28 : decode cX7_run 28 = .ok (.ireturn, 1) := by decide +kernel
theorem dX7_run_29 : decode cX7_run 29 = .ok (.aload_n 0, 1) := by decide +kernel
theorem dX7_run_30 : decode cX7_run 30 = .ok (.iload_n 3, 1) := by decide +kernel
theorem dX7_run_31 : decode cX7_run 31 = .ok (.invokevirtual 146, 3) := by decide +kernel
theorem dX7_run_34 : decode cX7_run 34 = .ok (.aload_n 0, 1) := by decide +kernel
theorem dX7_run_35 : decode cX7_run 35 = .ok (.iload_n 1, 1) := by decide +kernel
theorem dX7_run_36 : decode cX7_run 36 = .ok (.invokevirtual 133, 3) := by decide +kernel
theorem dX7_run_39 : decode cX7_run 39 = .ok (.ifCond .eq 26, 3) := by decide +kernel
theorem dX7_run_42 : decode cX7_run 42 = .ok (.aload_n 0, 1) := by decide +kernel
theorem dX7_run_43 : decode cX7_run 43 = .ok (.getfield 49, 3) := by decide +kernel
theorem dX7_run_46 : decode cX7_run 46 = .ok (.iload_n 1, 1) := by decide +kernel
theorem dX7_run_47 : decode cX7_run 47 = .ok (.baload, 1) := by decide +kernel
theorem dX7_run_48 : decode cX7_run 48 = .ok (.ifCond .eq 17, 3) := by decide +kernel
theorem dX7_run_51 : decode cX7_run 51 = .ok (.iload_n 2, 1) := by decide +kernel
theorem dX7_run_52 : decode cX7_run 52 = .ok (.ifCond .lt 13, 3) := by decide +kernel
theorem dX7_run_55 : decode cX7_run 55 = .ok (.iload_n 2, 1) := by decide +kernel
theorem dX7_run_56 : decode cX7_run 56 = .ok (.aload_n 0, 1) := by decide +kernel
theorem dX7_run_57 : decode cX7_run 57 = .ok (.getfield 31, 3) := by decide +kernel
theorem dX7_run_60 : decode cX7_run 60 = .ok (.iload_n 1, 1) := by decide +kernel
theorem dX7_run_61 : decode cX7_run 61 = .ok (.iaload, 1) := by decide +kernel
theorem dX7_run_62 : decode cX7_run 62 = .ok (.if_icmp .lt 9, 3) := by decide +kernel
theorem dX7_run_65 : decode cX7_run 65 = .ok (.aload_n 0, 1) := by decide +kernel
theorem dX7_run_66 : decode cX7_run 66 = .ok (.iconst 1, 1) := by decide +kernel
theorem dX7_run_67 : decode cX7_run 67 = .ok (.invokevirtual 109, 3) := by decide +kernel
theorem dX7_run_70 : decode cX7_run 70 = .ok (.ireturn, 1) := by decide +kernel
theorem dX7_run_71 : decode cX7_run 71 = .ok (.iload 4, 2) := by decide +kernel
theorem dX7_run_73 : decode cX7_run 73 = .ok (.ifCond .lt 9, 3) := by decide +kernel
theorem dX7_run_76 : decode cX7_run 76 = .ok (.iload 4, 2) := by decide +kernel
theorem dX7_run_78 : decode cX7_run 78 = .ok (.iconst 2, 1) := by decide +kernel
theorem dX7_run_79 : decode cX7_run 79 = .ok (.if_icmp .le 9, 3) := by decide +kernel
theorem dX7_run_82 : decode cX7_run 82 = .ok (.aload_n 0, 1) := by decide +kernel
theorem dX7_run_83 : decode cX7_run 83 = .ok (.iconst 2, 1) := by decide +kernel
theorem dX7_run_84 : decode cX7_run 84 = .ok (.invokevirtual 109, 3) := by decide +kernel
theorem dX7_run_87 : decode cX7_run 87 = .ok (.ireturn, 1) := by decide +kernel
theorem dX7_run_88 : decode cX7_run 88 = .ok (.aload_n 0, 1) := by decide +kernel
theorem dX7_run_89 : decode cX7_run 89 = .ok (.iload_n 1, 1) := by decide +kernel
theorem dX7_run_90 : decode cX7_run 90 = .ok (.iload_n 2, 1) := by decide +kernel
theorem dX7_run_91 : decode cX7_run 91 = .ok (.iload_n 3, 1) := by decide +kernel
theorem dX7_run_92 : decode cX7_run 92 = .ok (.invokevirtual 153, 3) := by decide +kernel
theorem dX7_run_95 : decode cX7_run 95 = .ok (.istore 5, 2) := by decide +kernel
theorem dX7_run_97 : decode cX7_run 97 = .ok (.iload 4, 2) := by decide +kernel
theorem dX7_run_99 : decode cX7_run 99 = .ok (.ifCond .ne 8, 3) := by decide +kernel
theorem dX7_run_102 : decode cX7_run 102 = .ok (.iload 5, 2) := by decide +kernel
theorem dX7_run_104 : decode cX7_run 104 = .ok (.goto 37, 3) := by decide +kernel
theorem dX7_run_107 : decode cX7_run 107 = .ok (.iload 4, 2) := by decide +kernel
theorem dX7_run_109 : decode cX7_run 109 = .ok (.iconst 1, 1) := by decide +kernel
theorem dX7_run_110 : decode cX7_run 110 = .ok (.if_icmp .ne 15, 3) := by decide +kernel
theorem dX7_run_113 : decode cX7_run 113 = .ok (.iload 5, 2) := by decide +kernel
theorem dX7_run_115 : decode cX7_run 115 = .ok (.aload_n 0, 1) := by decide +kernel
theorem dX7_run_116 : decode cX7_run 116 = .ok (.getfield 28, 3) := by decide +kernel
theorem dX7_run_119 : decode cX7_run 119 = .ok (.iload_n 1, 1) := by decide +kernel
theorem dX7_run_120 : decode cX7_run 120 = .ok (.iaload, 1) := by decide +kernel
theorem dX7_run_121 : decode cX7_run 121 = .ok (.iadd, 1) := by decide +kernel
theorem dX7_run_122 : decode cX7_run 122 = .ok (.goto 19, 3) := by decide +kernel
theorem dX7_run_125 : decode cX7_run 125 = .ok (.aload_n 0, 1) := by decide +kernel
theorem dX7_run_126 : decode cX7_run 126 = .ok (.iload_n 1, 1) := by decide +kernel
theorem dX7_run_127 : decode cX7_run 127 = .ok (.iload 5, 2) := by decide +kernel
theorem dX7_run_129 : decode cX7_run 129 = .ok (.iload_n 3, 1) := by decide +kernel
theorem dX7_run_130 : decode cX7_run 130 = .ok (.invokevirtual 157, 3) := by decide +kernel
theorem dX7_run_133 : decode cX7_run 133 = .ok (.ifCond .eq 7, 3) := by decide +kernel
theorem dX7_run_136 : decode cX7_run 136 = .ok (.iconst 1, 1) := by decide +kernel
theorem dX7_run_137 : decode cX7_run 137 = .ok (.goto 4, 3) := by decide +kernel
theorem dX7_run_140 : decode cX7_run 140 = .ok (.iconst 0, 1) := by decide +kernel
theorem dX7_run_141 : decode cX7_run 141 = .ok (.ireturn, 1) := by decide +kernel
theorem dX7_stand_0 : decode cX7_stand 0 = .ok (.aload_n 0, 1) := by decide +kernel
theorem dX7_stand_1 : decode cX7_stand 1 = .ok (.iconst 0, 1) := by decide +kernel
theorem dX7_stand_2 : decode cX7_stand 2 = .ok (.putfield 92, 3) := by decide +kernel
theorem dX7_stand_5 : decode cX7_stand 5 = .ok (.aload_n 0, 1) := by decide +kernel
theorem dX7_stand_6 : decode cX7_stand 6 = .ok (.iconst 0, 1) := by decide +kernel
theorem dX7_stand_7 : decode cX7_stand 7 = .ok (.putfield 96, 3) := by decide +kernel
theorem dX7_stand_10 : decode cX7_stand 10 = .ok (.iload_n 1, 1) := by decide +kernel
theorem dX7_stand_11 : decode cX7_stand 11 = .ok (.ifCond .lt 11, 3) := by decide +kernel
theorem dX7_stand_14 : decode cX7_stand 14 = .ok (.iload_n 1, 1) := by decide +kernel
theorem dX7_stand_15 : decode cX7_stand 15 = .ok (.aload_n 0, 1) := by decide +kernel
theorem dX7_stand_16 : decode cX7_stand 16 = .ok (.getfield 120, 3) := by decide +kernel
theorem dX7_stand_19 : decode cX7_stand 19 = .ok (.if_icmp .le 10, 3) := by decide +kernel
theorem dX7_stand_22 : decode cX7_stand 22 = .ok (.aload_n 0, 1) := by decide +kernel
theorem dX7_stand_23 : decode cX7_stand 23 = .ok (.bipush 6, 2) := by decide +kernel
theorem dX7_stand_25 : decode cX7_stand 25 = .ok (.invokevirtual 109, 3) := by decide +kernel
theorem dX7_stand_28 : decode cX7_stand 28 = .ok (.ireturn, 1) := by decide +kernel
theorem dX7_stand_29 : decode cX7_stand 29 = .ok (.aload_n 0, 1) := by decide +kernel
theorem dX7_stand_30 : decode cX7_stand 30 = .ok (.iload_n 1, 1) := by decide +kernel
theorem dX7_stand_31 : decode cX7_stand 31 = .ok (.iconst (-1), 1) := by decide +kernel
theorem dX7_stand_32 : decode cX7_stand 32 = .ok (.invokevirtual 177, 3) := by decide +kernel
theorem dX7_stand_35 : decode cX7_stand 35 = .ok (.aload_n 0, 1) := by decide +kernel
theorem dX7_stand_36 : decode cX7_stand 36 = .ok (.getfield 150, 3) := by decide +kernel
theorem dX7_stand_39 : decode cX7_stand 39 = .ok (.ireturn, 1) := by decide +kernel
