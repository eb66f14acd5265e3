theorem dX11_init_0 : decode cX11_init 0 = .ok (.aload_n 0, 1) := by decide +kernel
theorem dX11_init_1 : decode cX11_init 1 = .ok (.invokespecial 1, 3) := by decide +kernel
theorem dX11_init_4 : decode cX11_init 4 = .ok (.aload_n 0, 1) := by decide +kernel
theorem dX11_init_5 : decode cX11_init 5 = .ok (.new 7, 3) := by decide +kernel
theorem dX11_init_8 : decode cX11_init 8 = .ok (.dup, 1) := by decide +kernel
theorem dX11_init_9 : decode cX11_init 9 = .ok (.invokespecial 9, 3) := by decide +kernel
theorem dX11_init_12 : decode cX11_init 12 = .ok (.putfield 10, 3) := by decide +kernel
theorem dX11_init_15 : decode cX11_init 15 = .ok (.aload_n 0, 1) := by decide +kernel
theorem dX11_init_16 : decode cX11_init 16 = .ok (.new 16, 3) := by decide +kernel
theorem dX11_init_19 : decode cX11_init 19 = .ok (.dup, 1) := by decide +kernel
theorem dX11_init_20 : decode cX11_init 20 = .ok (.invokespecial 18, 3) := by decide +kernel
theorem dX11_init_23 : decode cX11_init 23 = .ok (.putfield 19, 3) := by decide +kernel
theorem dX11_init_26 : decode cX11_init 26 = .ok (.aload_n 0, 1) := by decide +kernel
theorem dX11_init_27 : decode cX11_init 27 = .ok (.new 16, 3) := by decide +kernel
theorem dX11_init_30 : decode cX11_init 30 = .ok (.dup, 1) := by decide +kernel
theorem dX11_init_31 : decode cX11_init 31 = .ok (.invokespecial 18, 3) := by decide +kernel
theorem dX11_init_34 : decode cX11_init 34 = .ok (.putfield 23, 3) := by decide +kernel
theorem dX11_init_37 : decode cX11_init 37 = .ok (.aload_n 0, 1) := by decide +kernel
theorem dX11_init_38 : decode cX11_init 38 = .ok (.new 26, 3) := by decide +kernel
theorem dX11_init_41 : decode cX11_init 41 = .ok (.dup, 1) := by decide +kernel
theorem dX11_init_42 : decode cX11_init 42 = .ok (.aload_n 0, 1) := by decide +kernel
theorem dX11_init_43 : decode cX11_init 43 = .ok (.getfield 10, 3) := by decide +kernel
theorem dX11_init_46 : decode cX11_init 46 = .ok (.invokespecial 28, 3) := by decide +kernel
theorem dX11_init_49 : decode cX11_init 49 = .ok (.putfield 31, 3) := by decide +kernel
theorem dX11_init_52 : decode cX11_init 52 = .ok (.aload_n 0, 1) := by decide +kernel
theorem dX11_init_53 : decode cX11_init 53 = .ok (.new 35, 3) := by decide +kernel
theorem dX11_init_56 : decode cX11_init 56 = .ok (.dup, 1) := by decide +kernel
theorem dX11_init_57 : decode cX11_init 57 = .ok (.aload_n 0, 1) := by decide +kernel
theorem dX11_init_58 : decode cX11_init 58 = .ok (.getfield 19, 3) := by decide +kernel
theorem dX11_init_61 : decode cX11_init 61 = .ok (.invokespecial 37, 3) := by decide +kernel
theorem dX11_init_64 : decode cX11_init 64 = .ok (.putfield 40, 3) := by decide +kernel
theorem dX11_init_67 : decode cX11_init 67 = .ok (.aload_n 0, 1) := by decide +kernel
theorem dX11_init_68 : decode cX11_init 68 = .ok (.iconst 4, 1) := by decide +kernel
theorem dX11_init_69 : decode cX11_init 69 = .ok (.anewarray 44, 3) := by decide +kernel
theorem dX11_init_72 : decode cX11_init 72 = .ok (.putfield 46, 3) := by decide +kernel
theorem dX11_init_75 : decode cX11_init 75 = .ok (.iconst 0, 1) := by decide +kernel
theorem dX11_init_76 : decode cX11_init 76 = .ok (.istore_n 1, 1) := by decide +kernel
theorem dX11_init_77 : decode cX11_init 77 = .ok (.iload_n 1, 1) := by decide +kernel
theorem dX11_init_78 : decode cX11_init 78 = .ok (.iconst 4, 1) := by decide +kernel
theorem dX11_init_79 : decode cX11_init 79 = .ok (.if_icmp .ge 22, 3) := by decide +kernel
theorem dX11_init_82 : decode cX11_init 82 = .ok (.aload_n 0, 1) := by decide +kernel
theorem dX11_init_83 : decode cX11_init 83 = .ok (.getfield 46, 3) := by decide +kernel
theorem dX11_init_86 : decode cX11_init 86 = .ok (.iload_n 1, 1) := by decide +kernel
theorem dX11_init_87 : decode cX11_init 87 = .ok (.new 44, 3) := by decide +kernel
theorem dX11_init_90 : decode cX11_init 90 = .ok (.dup, 1) := by decide +kernel
theorem dX11_init_91 : decode cX11_init 91 = .ok (.invokespecial 50, 3) := by decide +kernel
theorem dX11_init_94 : decode cX11_init 94 = .ok (.aastore, 1) := by decide +kernel
theorem dX11_init_95 : decode cX11_init 95 = .ok (.iinc 1 1, 3) := by decide +kernel
theorem dX11_init_98 : decode cX11_init 98 = .ok (.goto (-21), 3) := by decide +kernel
theorem dX11_init_101 : decode cX11_init 101 = .ok (.aload_n 0, 1) := by decide +kernel
theorem dX11_init_102 : decode cX11_init 102 = .ok (.new 44, 3) := by decide +kernel
theorem dX11_init_105 : decode cX11_init 105 = .ok (.dup, 1) := by decide +kernel
theorem dX11_init_106 : decode cX11_init 106 = .ok (.invokespecial 50, 3) := by decide +kernel
theorem dX11_init_109 : decode cX11_init 109 = .ok (.putfield 51, 3) := by decide +kernel
theorem dX11_init_112 : decode cX11_init 112 = .ok (.aload_n 0, 1) := by decide +kernel
theorem dX11_init_113 : decode cX11_init 113 = .ok (.new 55, 3) := by decide +kernel
theorem dX11_init_116 : decode cX11_init 116 = .ok (.dup, 1) := by decide +kernel
theorem dX11_init_117 : decode cX11_init 117 = .ok (.invokespecial 57, 3) := by decide +kernel
theorem dX11_init_120 : decode cX11_init 120 = .ok (.putfield 58, 3) := by decide +kernel
theorem dX11_init_123 : decode cX11_init 123 = .ok (.aload_n 0, 1) := by decide +kernel
theorem dX11_init_124 : decode cX11_init 124 = .ok (.new 62, 3) := by decide +kernel
theorem dX11_init_127 : decode cX11_init 127 = .ok (.dup, 1) := by decide +kernel
theorem dX11_init_128 : decode cX11_init 128 = .ok (.invokespecial 64, 3) := by decide +kernel
theorem dX11_init_131 : decode cX11_init 131 = .ok (.putfield 65, 3) := by decide +kernel
theorem dX11_init_134 : decode cX11_init 134 = .ok (.aload_n 0, 1) := by decide +kernel
theorem dX11_init_135 : decode cX11_init 135 = .ok (.new 69, 3) := by decide +kernel
theorem dX11_init_138 : decode cX11_init 138 = .ok (.dup, 1) := by decide +kernel
theorem dX11_init_139 : decode cX11_init 139 = .ok (.invokespecial 71, 3) := by decide +kernel
theorem dX11_init_142 : decode cX11_init 142 = .ok (.putfield 72, 3) := by decide +kernel
theorem dX11_init_145 : decode cX11_init 145 = .ok (.aload_n 0, 1) := by decide +kernel
theorem dX11_init_146 : decode cX11_init 146 = .ok (.new 55, 3) := by decide +kernel
theorem dX11_init_149 : decode cX11_init 149 = .ok (.dup, 1) := by decide +kernel
theorem dX11_init_150 : decode cX11_init 150 = .ok (.invokespecial 57, 3) := by decide +kernel
theorem dX11_init_153 : decode cX11_init 153 = .ok (.putfield 76, 3) := by decide +kernel
theorem dX11_init_156 : decode cX11_init 156 = .ok (.aload_n 0, 1) := by decide +kernel
theorem dX11_init_157 : decode cX11_init 157 = .ok (.new 62, 3) := by decide +kernel
theorem dX11_init_160 : decode cX11_init 160 = .ok (.dup, 1) := by decide +kernel
theorem dX11_init_161 : decode cX11_init 161 = .ok (.invokespecial 64, 3) := by decide +kernel
theorem dX11_init_164 : decode cX11_init 164 = .ok (.putfield 79, 3) := by decide +kernel
theorem dX11_init_167 : decode cX11_init 167 = .ok (.aload_n 0, 1) := by decide +kernel
theorem dX11_init_168 : decode cX11_init 168 = .ok (.new 82, 3) := by decide +kernel
theorem dX11_init_171 : decode cX11_init 171 = .ok (.dup, 1) := by decide +kernel
theorem dX11_init_172 : decode cX11_init 172 = .ok (.aload_n 0, 1) := by decide +kernel
theorem dX11_init_173 : decode cX11_init 173 = .ok (.getfield 19, 3) := by decide +kernel
theorem dX11_init_176 : decode cX11_init 176 = .ok (.invokespecial 84, 3) := by decide +kernel
theorem dX11_init_179 : decode cX11_init 179 = .ok (.putfield 85, 3) := by decide +kernel
theorem dX11_init_182 : decode cX11_init 182 = .ok (.aload_n 0, 1) := by decide +kernel
theorem dX11_init_183 : decode cX11_init 183 = .ok (.new 89, 3) := by decide +kernel
theorem dX11_init_186 : decode cX11_init 186 = .ok (.dup, 1) := by decide +kernel
theorem dX11_init_187 : decode cX11_init 187 = .ok (.aload_n 0, 1) := by decide +kernel
theorem dX11_init_188 : decode cX11_init 188 = .ok (.getfield 19, 3) := by decide +kernel
theorem dX11_init_191 : decode cX11_init 191 = .ok (.aload_n 0, 1) := by decide +kernel
theorem dX11_init_192 : decode cX11_init 192 = .ok (.getfield 40, 3) := by decide +kernel
theorem dX11_init_195 : decode cX11_init 195 = .ok (.aload_n 0, 1) := by decide +kernel
theorem dX11_init_196 : decode cX11_init 196 = .ok (.getfield 58, 3) := by decide +kernel
theorem dX11_init_199 : decode cX11_init 199 = .ok (.invokespecial 91, 3) := by decide +kernel
theorem dX11_init_202 : decode cX11_init 202 = .ok (.putfield 94, 3) := by decide +kernel
theorem dX11_init_205 : decode cX11_init 205 = .ok (.aload_n 0, 1) := by decide +kernel
theorem dX11_init_206 : decode cX11_init 206 = .ok (.bipush 20, 2) := by decide +kernel
theorem dX11_init_208 : decode cX11_init 208 = .ok (.putfield 98, 3) := by decide +kernel
theorem dX11_init_211 : decode cX11_init 211 = .ok (.return_, 1) := by decide +kernel
theorem dX11_feed_0 : decode cX11_feed 0 = .ok (.iload_n 1, 1) := by decide +kernel
theorem dX11_feed_1 : decode cX11_feed 1 = .ok (.invokestatic 102, 3) := by decide +kernel
theorem dX11_feed_4 : decode cX11_feed 4 = .ok (.iload_n 2, 1) := by decide +kernel
theorem dX11_feed_5 : decode cX11_feed 5 = .ok (.invokestatic 102, 3) := by decide +kernel
theorem dX11_feed_8 : decode cX11_feed 8 = .ok (.iadd, 1) := by decide +kernel
theorem dX11_feed_9 : decode cX11_feed 9 = .ok (.iload_n 3, 1) := by decide +kernel
theorem dX11_feed_10 : decode cX11_feed 10 = .ok (.invokestatic 102, 3) := by decide +kernel
theorem dX11_feed_13 : decode cX11_feed 13 = .ok (.iadd, 1) := by decide +kernel
theorem dX11_feed_14 : decode cX11_feed 14 = .ok (.iload 4, 2) := by decide +kernel
theorem dX11_feed_16 : decode cX11_feed 16 = .ok (.invokestatic 102, 3) := by decide +kernel
theorem dX11_feed_19 : decode cX11_feed 19 = .ok (.iadd, 1) := by decide +kernel
theorem dX11_feed_20 : decode cX11_feed 20 = .ok (.iload 5, 2) := by decide +kernel
theorem dX11_feed_22 : decode cX11_feed 22 = .ok (.invokestatic 102, 3) := by decide +kernel
theorem dX11_feed_25 : decode cX11_feed 25 = .ok (.iadd, 1) := by decide +kernel
theorem dX11_feed_26 : decode cX11_feed 26 = .ok (.istore 6, 2) := by decide +kernel
theorem dX11_feed_28 : decode cX11_feed 28 = .ok (.aload_n 0, 1) := by decide +kernel
theorem dX11_feed_29 : decode cX11_feed 29 = .ok (.getfield 10, 3) := by decide +kernel
theorem dX11_feed_32 : decode cX11_feed 32 = .ok (.getfield 106, 3) := by decide +kernel
theorem dX11_feed_35 : decode cX11_feed 35 = .ok (.iload 6, 2) := by decide +kernel
theorem dX11_feed_37 : decode cX11_feed 37 = .ok (.iadd, 1) := by decide +kernel
theorem dX11_feed_38 : decode cX11_feed 38 = .ok (.sipush 240, 3) := by decide +kernel
theorem dX11_feed_41 : decode cX11_feed 41 = .ok (.if_icmp .le 5, 3) := by decide +kernel
theorem dX11_feed_44 : decode cX11_feed 44 = .ok (.iconst (-1), 1) := by decide +kernel
theorem dX11_feed_45 : decode cX11_feed 45 = .ok (.ireturn, 1) := by decide +kernel
theorem dX11_feed_46 : decode cX11_feed 46 = .ok (.aload_n 0, 1) := by decide +kernel
theorem dX11_feed_47 : decode cX11_feed 47 = .ok (.getfield 10, 3) := by decide +kernel
theorem dX11_feed_50 : decode cX11_feed 50 = .ok (.iload_n 1, 1) := by decide +kernel
theorem dX11_feed_51 : decode cX11_feed 51 = .ok (.invokevirtual 109, 3) := by decide +kernel
theorem dX11_feed_54 : decode cX11_feed 54 = .ok (.aload_n 0, 1) := by decide +kernel
theorem dX11_feed_55 : decode cX11_feed 55 = .ok (.getfield 10, 3) := by decide +kernel
theorem dX11_feed_58 : decode cX11_feed 58 = .ok (.iload_n 2, 1) := by decide +kernel
theorem dX11_feed_59 : decode cX11_feed 59 = .ok (.invokevirtual 109, 3) := by decide +kernel
theorem dX11_feed_62 : decode cX11_feed 62 = .ok (.aload_n 0, 1) := by decide +kernel
theorem dX11_feed_63 : decode cX11_feed 63 = .ok (.getfield 10, 3) := by decide +kernel
theorem dX11_feed_66 : decode cX11_feed 66 = .ok (.iload_n 3, 1) := by decide +kernel
theorem dX11_feed_67 : decode cX11_feed 67 = .ok (.invokevirtual 109, 3) := by decide +kernel
theorem dX11_feed_70 : decode cX11_feed 70 = .ok (.aload_n 0, 1) := by decide +kernel
theorem dX11_feed_71 : decode cX11_feed 71 = .ok (.getfield 10, 3) := by decide +kernel
theorem dX11_feed_74 : decode cX11_feed 74 = .ok (.iload 4, 2) := by decide +kernel
theorem dX11_feed_76 : decode cX11_feed 76 = .ok (.invokevirtual 109, 3) := by decide +kernel
theorem dX11_feed_79 : decode cX11_feed 79 = .ok (.aload_n 0, 1) := by decide +kernel
theorem dX11_feed_80 : decode cX11_feed 80 = .ok (.getfield 10, 3) := by decide +kernel
theorem dX11_feed_83 : decode cX11_feed 83 = .ok (.iload 5, 2) := by decide +kernel
theorem dX11_feed_85 : decode cX11_feed 85 = .ok (.invokevirtual 109, 3) := by decide +kernel
theorem dX11_feed_88 : decode cX11_feed 88 = .ok (.aload_n 0, 1) := by decide +kernel
theorem dX11_feed_89 : decode cX11_feed 89 = .ok (.getfield 10, 3) := by decide +kernel
theorem dX11_feed_92 : decode cX11_feed 92 = .ok (.getfield 106, 3) := by decide +kernel
theorem dX11_feed_95 : decode cX11_feed 95 = .ok (.ireturn, 1) := by decide +kernel
theorem dX11_end_0 : decode cX11_end 0 = .ok (.iload_n 1, 1) := by decide +kernel
theorem dX11_end_1 : decode cX11_end 1 = .ok (.ifCond .lt 14, 3) := by decide +kernel
theorem dX11_end_4 : decode cX11_end 4 = .ok (.iload_n 1, 1) := by decide +kernel
theorem dX11_end_5 : decode cX11_end 5 = .ok (.aload_n 0, 1) := by decide +kernel
theorem dX11_end_6 : decode cX11_end 6 = .ok (.getfield 10, 3) := by decide +kernel
theorem dX11_end_9 : decode cX11_end 9 = .ok (.getfield 106, 3) := by decide +kernel
theorem dX11_end_12 : decode cX11_end 12 = .ok (.if_icmp .le 5, 3) := by decide +kernel
theorem dX11_end_15 : decode cX11_end 15 = .ok (.iconst 0, 1) := by decide +kernel
theorem dX11_end_16 : decode cX11_end 16 = .ok (.ireturn, 1) := by decide +kernel
theorem dX11_end_17 : decode cX11_end 17 = .ok (.aload_n 0, 1) := by decide +kernel
theorem dX11_end_18 : decode cX11_end 18 = .ok (.getfield 10, 3) := by decide +kernel
theorem dX11_end_21 : decode cX11_end 21 = .ok (.iload_n 1, 1) := by decide +kernel
theorem dX11_end_22 : decode cX11_end 22 = .ok (.putfield 106, 3) := by decide +kernel
theorem dX11_end_25 : decode cX11_end 25 = .ok (.iconst 1, 1) := by decide +kernel
theorem dX11_end_26 : decode cX11_end 26 = .ok (.ireturn, 1) := by decide +kernel
theorem dX11_fault_0 : decode cX11_fault 0 = .ok (.iload_n 1, 1) := by decide +kernel
theorem dX11_fault_1 : decode cX11_fault 1 = .ok (.tableswitch 68 0 2 #[27, 42, 53], 27) := by decide +kernel
theorem dX11_fault_28 : decode cX11_fault 28 = .ok (.aload_n 0, 1) := by decide +kernel
theorem dX11_fault_29 : decode cX11_fault 29 = .ok (.getfield 23, 3) := by decide +kernel
theorem dX11_fault_32 : decode cX11_fault 32 = .ok (.aload_n 0, 1) := by decide +kernel
theorem dX11_fault_33 : decode cX11_fault 33 = .ok (.getfield 10, 3) := by decide +kernel
theorem dX11_fault_36 : decode cX11_fault 36 = .ok (.invokevirtual 113, 3) := by decide +kernel
theorem dX11_fault_39 : decode cX11_fault 39 = .ok (.istore_n 2, 1) := by decide +kernel
theorem dX11_fault_40 : decode cX11_fault 40 = .ok (.goto 32, 3) := by decide +kernel
theorem dX11_fault_43 : decode cX11_fault 43 = .ok (.aload_n 0, 1) := by decide +kernel
theorem dX11_fault_44 : decode cX11_fault 44 = .ok (.getfield 31, 3) := by decide +kernel
theorem dX11_fault_47 : decode cX11_fault 47 = .ok (.invokevirtual 117, 3) := by decide +kernel
theorem dX11_fault_50 : decode cX11_fault 50 = .ok (.istore_n 2, 1) := by decide +kernel
theorem dX11_fault_51 : decode cX11_fault 51 = .ok (.goto 21, 3) := by decide +kernel
theorem dX11_fault_54 : decode cX11_fault 54 = .ok (.aload_n 0, 1) := by decide +kernel
theorem dX11_fault_55 : decode cX11_fault 55 = .ok (.getfield 51, 3) := by decide +kernel
theorem dX11_fault_58 : decode cX11_fault 58 = .ok (.aload_n 0, 1) := by decide +kernel
theorem dX11_fault_59 : decode cX11_fault 59 = .ok (.getfield 10, 3) := by decide +kernel
theorem dX11_fault_62 : decode cX11_fault 62 = .ok (.invokevirtual 121, 3) := by decide +kernel
theorem dX11_fault_65 : decode cX11_fault 65 = .ok (.istore_n 2, 1) := by decide +kernel
theorem dX11_fault_66 : decode cX11_fault 66 = .ok (.goto 6, 3) := by decide +kernel
theorem dX11_fault_69 : decode cX11_fault 69 = .ok (.bipush (-2), 2) := by decide +kernel
theorem dX11_fault_71 : decode cX11_fault 71 = .ok (.ireturn, 1) := by decide +kernel
theorem dX11_fault_72 : decode cX11_fault 72 = .ok (.iload_n 2, 1) := by decide +kernel
theorem dX11_fault_73 : decode cX11_fault 73 = .ok (.ifCond .eq 7, 3) := by decide +kernel
theorem dX11_fault_76 : decode cX11_fault 76 = .ok (.iconst (-1), 1) := by decide +kernel
theorem dX11_fault_77 : decode cX11_fault 77 = .ok (.goto 10, 3) := by decide +kernel
theorem dX11_fault_80 : decode cX11_fault 80 = .ok (.aload_n 0, 1) := by decide +kernel
theorem dX11_fault_81 : decode cX11_fault 81 = .ok (.getfield 10, 3) := by decide +kernel
theorem dX11_fault_84 : decode cX11_fault 84 = .ok (.getfield 122, 3) := by decide +kernel
theorem dX11_fault_87 : decode cX11_fault 87 = .ok (.ireturn, 1) := by decide +kernel
theorem dX11_text_0 : decode cX11_text 0 = .ok (.iload_n 1, 1) := by decide +kernel
theorem dX11_text_1 : decode cX11_text 1 = .ok (.tableswitch 42 0 2 #[27, 32, 37], 27) := by decide +kernel
theorem dX11_text_28 : decode cX11_text 28 = .ok (.aload_n 0, 1) := by decide +kernel
theorem dX11_text_29 : decode cX11_text 29 = .ok (.invokevirtual 125, 3) := by decide +kernel
theorem dX11_text_32 : decode cX11_text 32 = .ok (.ireturn, 1) := by decide +kernel
theorem dX11_text_33 : decode cX11_text 33 = .ok (.aload_n 0, 1) := by decide +kernel
theorem dX11_text_34 : decode cX11_text 34 = .ok (.invokevirtual 129, 3) := by decide +kernel
theorem dX11_text_37 : decode cX11_text 37 = .ok (.ireturn, 1) := by decide +kernel
theorem dX11_text_38 : decode cX11_text 38 = .ok (.aload_n 0, 1) := by decide +kernel
theorem dX11_text_39 : decode cX11_text 39 = .ok (.invokevirtual 132, 3) := by decide +kernel
theorem dX11_text_42 : decode cX11_text 42 = .ok (.ireturn, 1) := by decide +kernel
theorem dX11_text_43 : decode cX11_text 43 = .ok (.iconst (-1), 1) := by decide +kernel
theorem dX11_text_44 : decode cX11_text 44 = .ok (.ireturn, 1) := by decide +kernel
theorem dX11_sky_0 : decode cX11_sky 0 = .ok (.aload_n 0, 1) := by decide +kernel
theorem dX11_sky_1 : decode cX11_sky 1 = .ok (.getfield 19, 3) := by decide +kernel
theorem dX11_sky_4 : decode cX11_sky 4 = .ok (.invokevirtual 135, 3) := by decide +kernel
theorem dX11_sky_7 : decode cX11_sky 7 = .ok (.ifCond .eq 19, 3) := by decide +kernel
theorem dX11_sky_10 : decode cX11_sky 10 = .ok (.iload_n 1, 1) := by decide +kernel
theorem dX11_sky_11 : decode cX11_sky 11 = .ok (.ifCond .lt 15, 3) := by decide +kernel
theorem dX11_sky_14 : decode cX11_sky 14 = .ok (.iload_n 1, 1) := by decide +kernel
theorem dX11_sky_15 : decode cX11_sky 15 = .ok (.aload_n 0, 1) := by decide +kernel
theorem dX11_sky_16 : decode cX11_sky 16 = .ok (.getfield 19, 3) := by decide +kernel
theorem dX11_sky_19 : decode cX11_sky 19 = .ok (.getfield 138, 3) := by decide +kernel
theorem dX11_sky_22 : decode cX11_sky 22 = .ok (.arraylength, 1) := by decide +kernel
theorem dX11_sky_23 : decode cX11_sky 23 = .ok (.if_icmp .lt 5, 3) := by decide +kernel
theorem dX11_sky_26 : decode cX11_sky 26 = .ok (.iconst (-1), 1) := by decide +kernel
theorem dX11_sky_27 : decode cX11_sky 27 = .ok (.ireturn, 1) := by decide +kernel
theorem dX11_sky_28 : decode cX11_sky 28 = .ok (.aload_n 0, 1) := by decide +kernel
theorem dX11_sky_29 : decode cX11_sky 29 = .ok (.getfield 19, 3) := by decide +kernel
theorem dX11_sky_32 : decode cX11_sky 32 = .ok (.getfield 138, 3) := by decide +kernel
theorem dX11_sky_35 : decode cX11_sky 35 = .ok (.iload_n 1, 1) := by decide +kernel
theorem dX11_sky_36 : decode cX11_sky 36 = .ok (.iaload, 1) := by decide +kernel
theorem dX11_sky_37 : decode cX11_sky 37 = .ok (.ireturn, 1) := by decide +kernel
theorem dX11_pond_0 : decode cX11_pond 0 = .ok (.aload_n 0, 1) := by decide +kernel
theorem dX11_pond_1 : decode cX11_pond 1 = .ok (.getfield 19, 3) := by decide +kernel
theorem dX11_pond_4 : decode cX11_pond 4 = .ok (.iload_n 1, 1) := by decide +kernel
theorem dX11_pond_5 : decode cX11_pond 5 = .ok (.invokevirtual 142, 3) := by decide +kernel
theorem dX11_pond_8 : decode cX11_pond 8 = .ok (.ifCond .eq 13, 3) := by decide +kernel
theorem dX11_pond_11 : decode cX11_pond 11 = .ok (.iload_n 2, 1) := by decide +kernel
theorem dX11_pond_12 : decode cX11_pond 12 = .ok (.ifCond .lt 9, 3) := by decide +kernel
theorem dX11_pond_15 : decode cX11_pond 15 = .ok (.iload_n 2, 1) := by decide +kernel
theorem dX11_pond_16 : decode cX11_pond 16 = .ok (.bipush 9, 2) := by decide +kernel
theorem dX11_pond_18 : decode cX11_pond 18 = .ok (.if_icmp .le 11, 3) := by decide +kernel
theorem dX11_pond_21 : decode cX11_pond 21 = .ok (.new 146, 3) := by decide +kernel
theorem dX11_pond_24 : decode cX11_pond 24 = .ok (.dup, 1) := by decide +kernel
theorem dX11_pond_25 : decode cX11_pond 25 = .ok (.invokespecial 148, 3) := by decide +kernel
theorem dX11_pond_28 : decode cX11_pond 28 = .ok (.athrow, 1) := by decide +kernel
theorem dX11_pond_29 : decode cX11_pond 29 = .ok (.iload_n 2, 1) := by decide +kernel
theorem dX11_pond_30 : decode cX11_pond 30 = .ok (.tableswitch 106 0 9 #[54, 106, 106, 106, 106, 106, 106, 64, 74, 84], 54) := by decide +kernel
theorem dX11_pond_84 : decode cX11_pond 84 = .ok (.aload_n 0, 1) := by decide +kernel
theorem dX11_pond_85 : decode cX11_pond 85 = .ok (.getfield 58, 3) := by decide +kernel
theorem dX11_pond_88 : decode cX11_pond 88 = .ok (.getfield 149, 3) := by decide +kernel
theorem dX11_pond_91 : decode cX11_pond 91 = .ok (.iload_n 1, 1) := by decide +kernel
theorem dX11_pond_92 : decode cX11_pond 92 = .ok (.iaload, 1) := by decide +kernel
theorem dX11_pond_93 : decode cX11_pond 93 = .ok (.ireturn, 1) := by decide +kernel
theorem dX11_pond_94 : decode cX11_pond 94 = .ok (.aload_n 0, 1) := by decide +kernel
theorem dX11_pond_95 : decode cX11_pond 95 = .ok (.getfield 58, 3) := by decide +kernel
theorem dX11_pond_98 : decode cX11_pond 98 = .ok (.getfield 152, 3) := by decide +kernel
theorem dX11_pond_101 : decode cX11_pond 101 = .ok (.iload_n 1, 1) := by decide +kernel
theorem dX11_pond_102 : decode cX11_pond 102 = .ok (.iaload, 1) := by decide +kernel
theorem dX11_pond_103 : decode cX11_pond 103 = .ok (.ireturn, 1) := by decide +kernel
theorem dX11_pond_104 : decode cX11_pond 104 = .ok (.aload_n 0, 1) := by decide +kernel
theorem dX11_pond_105 : decode cX11_pond 105 = .ok (.getfield 58, 3) := by decide +kernel
theorem dX11_pond_108 : decode cX11_pond 108 = .ok (.getfield 155, 3) := by decide +kernel
theorem dX11_pond_111 : decode cX11_pond 111 = .ok (.iload_n 1, 1) := by decide +kernel
theorem dX11_pond_112 : decode cX11_pond 112 = .ok (.iaload, 1) := by decide +kernel
theorem dX11_pond_113 : decode cX11_pond 113 = .ok (.ireturn, 1) := by decide +kernel
theorem dX11_pond_114 : decode cX11_pond 114 = .ok (.aload_n 0, 1) := by decide +kernel
theorem dX11_pond_115 : decode cX11_pond 115 = .ok (.getfield 19, 3) := by decide +kernel
theorem dX11_pond_118 : decode cX11_pond 118 = .ok (.getfield 158, 3) := by decide +kernel
theorem dX11_pond_121 : decode cX11_pond 121 = .ok (.iload_n 1, 1) := by decide +kernel
theorem dX11_pond_122 : decode cX11_pond 122 = .ok (.aaload, 1) := by decide +kernel
theorem dX11_pond_123 : decode cX11_pond 123 = .ok (.iconst 2, 1) := by decide +kernel
theorem dX11_pond_124 : decode cX11_pond 124 = .ok (.iaload, 1) := by decide +kernel
theorem dX11_pond_125 : decode cX11_pond 125 = .ok (.aload_n 0, 1) := by decide +kernel
theorem dX11_pond_126 : decode cX11_pond 126 = .ok (.getfield 58, 3) := by decide +kernel
theorem dX11_pond_129 : decode cX11_pond 129 = .ok (.getfield 149, 3) := by decide +kernel
theorem dX11_pond_132 : decode cX11_pond 132 = .ok (.iload_n 1, 1) := by decide +kernel
theorem dX11_pond_133 : decode cX11_pond 133 = .ok (.iaload, 1) := by decide +kernel
theorem dX11_pond_134 : decode cX11_pond 134 = .ok (.iadd, 1) := by decide +kernel
theorem dX11_pond_135 : decode cX11_pond 135 = .ok (.ireturn, 1) := by decide +kernel
theorem dX11_pond_136 : decode cX11_pond 136 = .ok (.aload_n 0, 1) := by decide +kernel
theorem dX11_pond_137 : decode cX11_pond 137 = .ok (.getfield 19, 3) := by decide +kernel
theorem dX11_pond_140 : decode cX11_pond 140 = .ok (.getfield 158, 3) := by decide +kernel
theorem dX11_pond_143 : decode cX11_pond 143 = .ok (.iload_n 1, 1) := by decide +kernel
theorem dX11_pond_144 : decode cX11_pond 144 = .ok (.aaload, 1) := by decide +kernel
theorem dX11_pond_145 : decode cX11_pond 145 = .ok (.iload_n 2, 1) := by decide +kernel
theorem dX11_pond_146 : decode cX11_pond 146 = .ok (.iaload, 1) := by decide +kernel
theorem dX11_pond_147 : decode cX11_pond 147 = .ok (.ireturn, 1) := by decide +kernel
theorem dX11_pipe_0 : decode cX11_pipe 0 = .ok (.aload_n 0, 1) := by decide +kernel
theorem dX11_pipe_1 : decode cX11_pipe 1 = .ok (.getfield 19, 3) := by decide +kernel
theorem dX11_pipe_4 : decode cX11_pipe 4 = .ok (.iload_n 1, 1) := by decide +kernel
theorem dX11_pipe_5 : decode cX11_pipe 5 = .ok (.invokevirtual 162, 3) := by decide +kernel
theorem dX11_pipe_8 : decode cX11_pipe 8 = .ok (.ifCond .eq 12, 3) := by decide +kernel
theorem dX11_pipe_11 : decode cX11_pipe 11 = .ok (.iload_n 2, 1) := by decide +kernel
theorem dX11_pipe_12 : decode cX11_pipe 12 = .ok (.ifCond .lt 8, 3) := by decide +kernel
theorem dX11_pipe_15 : decode cX11_pipe 15 = .ok (.iload_n 2, 1) := by decide +kernel
theorem dX11_pipe_16 : decode cX11_pipe 16 = .ok (.iconst 5, 1) := by decide +kernel
theorem dX11_pipe_17 : decode cX11_pipe 17 = .ok (.if_icmp .le 5, 3) := by decide +kernel
theorem dX11_pipe_20 : decode cX11_pipe 20 = .ok (.iconst (-1), 1) := by decide +kernel
theorem dX11_pipe_21 : decode cX11_pipe 21 = .ok (.ireturn, 1) := by decide +kernel
theorem dX11_pipe_22 : decode cX11_pipe 22 = .ok (.iload_n 2, 1) := by decide +kernel
theorem dX11_pipe_23 : decode cX11_pipe 23 = .ok (.lookupswitch 55 #[(4, 25), (5, 42)], 25) := by decide +kernel
theorem dX11_pipe_48 : decode cX11_pipe 48 = .ok (.aload_n 0, 1) := by decide +kernel
theorem dX11_pipe_49 : decode cX11_pipe 49 = .ok (.getfield 58, 3) := by decide +kernel
theorem dX11_pipe_52 : decode cX11_pipe 52 = .ok (.iload_n 1, 1) := by decide +kernel
theorem dX11_pipe_53 : decode cX11_pipe 53 = .ok (.invokevirtual 165, 3) := by decide +kernel
theorem dX11_pipe_56 : decode cX11_pipe 56 = .ok (.ifCond .eq 7, 3) := by decide +kernel
theorem dX11_pipe_59 : decode cX11_pipe 59 = .ok (.iconst 1, 1) := by decide +kernel
theorem dX11_pipe_60 : decode cX11_pipe 60 = .ok (.goto 4, 3) := by decide +kernel
theorem dX11_pipe_63 : decode cX11_pipe 63 = .ok (.iconst 0, 1) := by decide +kernel
theorem dX11_pipe_64 : decode cX11_pipe 64 = .ok (.ireturn, 1) := by decide +kernel
theorem dX11_pipe_65 : decode cX11_pipe 65 = .ok (.aload_n 0, 1) := by decide +kernel
theorem dX11_pipe_66 : decode cX11_pipe 66 = .ok (.getfield 40, 3) := by decide +kernel
theorem dX11_pipe_69 : decode cX11_pipe 69 = .ok (.iload_n 1, 1) := by decide +kernel
theorem dX11_pipe_70 : decode cX11_pipe 70 = .ok (.aload_n 0, 1) := by decide +kernel
theorem dX11_pipe_71 : decode cX11_pipe 71 = .ok (.getfield 58, 3) := by decide +kernel
theorem dX11_pipe_74 : decode cX11_pipe 74 = .ok (.invokevirtual 168, 3) := by decide +kernel
theorem dX11_pipe_77 : decode cX11_pipe 77 = .ok (.ireturn, 1) := by decide +kernel
theorem dX11_pipe_78 : decode cX11_pipe 78 = .ok (.aload_n 0, 1) := by decide +kernel
theorem dX11_pipe_79 : decode cX11_pipe 79 = .ok (.getfield 19, 3) := by decide +kernel
theorem dX11_pipe_82 : decode cX11_pipe 82 = .ok (.getfield 172, 3) := by decide +kernel
theorem dX11_pipe_85 : decode cX11_pipe 85 = .ok (.iload_n 1, 1) := by decide +kernel
theorem dX11_pipe_86 : decode cX11_pipe 86 = .ok (.aaload, 1) := by decide +kernel
theorem dX11_pipe_87 : decode cX11_pipe 87 = .ok (.iload_n 2, 1) := by decide +kernel
theorem dX11_pipe_88 : decode cX11_pipe 88 = .ok (.iaload, 1) := by decide +kernel
theorem dX11_pipe_89 : decode cX11_pipe 89 = .ok (.ireturn, 1) := by decide +kernel
theorem dX11_law_0 : decode cX11_law 0 = .ok (.iload_n 1, 1) := by decide +kernel
theorem dX11_law_1 : decode cX11_law 1 = .ok (.iconst (-1), 1) := by decide +kernel
theorem dX11_law_2 : decode cX11_law 2 = .ok (.if_icmp .lt 14, 3) := by decide +kernel
theorem dX11_law_5 : decode cX11_law 5 = .ok (.iload_n 1, 1) := by decide +kernel
theorem dX11_law_6 : decode cX11_law 6 = .ok (.aload_n 0, 1) := by decide +kernel
theorem dX11_law_7 : decode cX11_law 7 = .ok (.getfield 40, 3) := by decide +kernel
theorem dX11_law_10 : decode cX11_law 10 = .ok (.getfield 175, 3) := by decide +kernel
theorem dX11_law_13 : decode cX11_law 13 = .ok (.if_icmp .lt 5, 3) := by decide +kernel
theorem dX11_law_16 : decode cX11_law 16 = .ok (.iconst 0, 1) := by decide +kernel
theorem dX11_law_17 : decode cX11_law 17 = .ok (.ireturn, 1) := by decide +kernel
theorem dX11_law_18 : decode cX11_law 18 = .ok (.aload_n 0, 1) := by decide +kernel
theorem dX11_law_19 : decode cX11_law 19 = .ok (.getfield 40, 3) := by decide +kernel
theorem dX11_law_22 : decode cX11_law 22 = .ok (.iload_n 1, 1) := by decide +kernel
theorem dX11_law_23 : decode cX11_law 23 = .ok (.putfield 178, 3) := by decide +kernel
theorem dX11_law_26 : decode cX11_law 26 = .ok (.iconst 1, 1) := by decide +kernel
theorem dX11_law_27 : decode cX11_law 27 = .ok (.ireturn, 1) := by decide +kernel
theorem dX11_odds_0 : decode cX11_odds 0 = .ok (.iload_n 2, 1) := by decide +kernel
theorem dX11_odds_1 : decode cX11_odds 1 = .ok (.ifCond .lt 9, 3) := by decide +kernel
theorem dX11_odds_4 : decode cX11_odds 4 = .ok (.iload_n 2, 1) := by decide +kernel
theorem dX11_odds_5 : decode cX11_odds 5 = .ok (.bipush 99, 2) := by decide +kernel
theorem dX11_odds_7 : decode cX11_odds 7 = .ok (.if_icmp .le 5, 3) := by decide +kernel
theorem dX11_odds_10 : decode cX11_odds 10 = .ok (.iconst 0, 1) := by decide +kernel
theorem dX11_odds_11 : decode cX11_odds 11 = .ok (.ireturn, 1) := by decide +kernel
theorem dX11_odds_12 : decode cX11_odds 12 = .ok (.iload_n 1, 1) := by decide +kernel
theorem dX11_odds_13 : decode cX11_odds 13 = .ok (.ifCond .ne 18, 3) := by decide +kernel
theorem dX11_odds_16 : decode cX11_odds 16 = .ok (.iload_n 2, 1) := by decide +kernel
theorem dX11_odds_17 : decode cX11_odds 17 = .ok (.aload_n 0, 1) := by decide +kernel
theorem dX11_odds_18 : decode cX11_odds 18 = .ok (.getfield 98, 3) := by decide +kernel
theorem dX11_odds_21 : decode cX11_odds 21 = .ok (.if_icmp .eq 10, 3) := by decide +kernel
theorem dX11_odds_24 : decode cX11_odds 24 = .ok (.aload_n 0, 1) := by decide +kernel
theorem dX11_odds_25 : decode cX11_odds 25 = .ok (.iload_n 2, 1) := by decide +kernel
theorem dX11_odds_26 : decode cX11_odds 26 = .ok (.putfield 98, 3) := by decide +kernel
theorem dX11_odds_29 : decode cX11_odds 29 = .ok (.iconst 1, 1) := by decide +kernel
theorem dX11_odds_30 : decode cX11_odds 30 = .ok (.ireturn, 1) := by decide +kernel
theorem dX11_odds_31 : decode cX11_odds 31 = .ok (.iload_n 1, 1) := by decide +kernel
theorem dX11_odds_32 : decode cX11_odds 32 = .ok (.iconst 1, 1) := by decide +kernel
theorem dX11_odds_33 : decode cX11_odds 33 = .ok (.if_icmp .ne 18, 3) := by decide +kernel
theorem dX11_odds_36 : decode cX11_odds 36 = .ok (.iload_n 2, 1) := by decide +kernel
theorem dX11_odds_37 : decode cX11_odds 37 = .ok (.aload_n 0, 1) := by decide +kernel
theorem dX11_odds_38 : decode cX11_odds 38 = .ok (.getfield 181, 3) := by decide +kernel
theorem dX11_odds_41 : decode cX11_odds 41 = .ok (.if_icmp .eq 10, 3) := by decide +kernel
theorem dX11_odds_44 : decode cX11_odds 44 = .ok (.aload_n 0, 1) := by decide +kernel
theorem dX11_odds_45 : decode cX11_odds 45 = .ok (.iload_n 2, 1) := by decide +kernel
theorem dX11_odds_46 : decode cX11_odds 46 = .ok (.putfield 181, 3) := by decide +kernel
theorem dX11_odds_49 : decode cX11_odds 49 = .ok (.iconst 1, 1) := by decide +kernel
theorem dX11_odds_50 : decode cX11_odds 50 = .ok (.ireturn, 1) := by decide +kernel
theorem dX11_odds_51 : decode cX11_odds 51 = .ok (.iconst 0, 1) := by decide +kernel
theorem dX11_odds_52 : decode cX11_odds 52 = .ok (.ireturn, 1) := by decide +kernel
theorem dX11_key_0 : decode cX11_key 0 = .ok (.aload_n 0, 1) := by decide +kernel
theorem dX11_key_1 : decode cX11_key 1 = .ok (.iload_n 2, 1) := by decide +kernel
theorem dX11_key_2 : decode cX11_key 2 = .ok (.ifCond .eq 7, 3) := by decide +kernel
theorem dX11_key_5 : decode cX11_key 5 = .ok (.iconst 0, 1) := by decide +kernel
theorem dX11_key_6 : decode cX11_key 6 = .ok (.goto 4, 3) := by decide +kernel
theorem dX11_key_9 : decode cX11_key 9 = .ok (.iconst 1, 1) := by decide +kernel
theorem dX11_key_10 : decode cX11_key 10 = .ok (.iload_n 1, 1) := by decide +kernel
theorem dX11_key_11 : decode cX11_key 11 = .ok (.iconst 0, 1) := by decide +kernel
theorem dX11_key_12 : decode cX11_key 12 = .ok (.invokevirtual 184, 3) := by decide +kernel
theorem dX11_key_15 : decode cX11_key 15 = .ok (.ireturn, 1) := by decide +kernel
theorem dX11_pour_0 : decode cX11_pour 0 = .ok (.iload_n 2, 1) := by decide +kernel
theorem dX11_pour_1 : decode cX11_pour 1 = .ok (.bipush 9, 2) := by decide +kernel
theorem dX11_pour_3 : decode cX11_pour 3 = .ok (.if_icmp .gt 13, 3) := by decide +kernel
theorem dX11_pour_6 : decode cX11_pour 6 = .ok (.aload_n 0, 1) := by decide +kernel
theorem dX11_pour_7 : decode cX11_pour 7 = .ok (.iconst 3, 1) := by decide +kernel
theorem dX11_pour_8 : decode cX11_pour 8 = .ok (.iload_n 1, 1) := by decide +kernel
theorem dX11_pour_9 : decode cX11_pour 9 = .ok (.iload_n 2, 1) := by decide +kernel
theorem dX11_pour_10 : decode cX11_pour 10 = .ok (.invokevirtual 184, 3) := by decide +kernel
theorem dX11_pour_13 : decode cX11_pour 13 = .ok (.ifCond .ne 5, 3) := by decide +kernel
theorem dX11_pour_16 : decode cX11_pour 16 = .ok (.iconst (-1), 1) := by decide +kernel
theorem dX11_pour_17 : decode cX11_pour 17 = .ok (.ireturn, 1) := by decide +kernel
theorem dX11_pour_18 : decode cX11_pour 18 = .ok (.aload_n 0, 1) := by decide +kernel
theorem dX11_pour_19 : decode cX11_pour 19 = .ok (.getfield 58, 3) := by decide +kernel
theorem dX11_pour_22 : decode cX11_pour 22 = .ok (.getfield 149, 3) := by decide +kernel
theorem dX11_pour_25 : decode cX11_pour 25 = .ok (.iload_n 1, 1) := by decide +kernel
theorem dX11_pour_26 : decode cX11_pour 26 = .ok (.iaload, 1) := by decide +kernel
theorem dX11_pour_27 : decode cX11_pour 27 = .ok (.ireturn, 1) := by decide +kernel
theorem dX11_stock_0 : decode cX11_stock 0 = .ok (.aload_n 0, 1) := by decide +kernel
theorem dX11_stock_1 : decode cX11_stock 1 = .ok (.getfield 19, 3) := by decide +kernel
theorem dX11_stock_4 : decode cX11_stock 4 = .ok (.iload_n 1, 1) := by decide +kernel
theorem dX11_stock_5 : decode cX11_stock 5 = .ok (.invokevirtual 142, 3) := by decide +kernel
theorem dX11_stock_8 : decode cX11_stock 8 = .ok (.ifCond .eq 13, 3) := by decide +kernel
theorem dX11_stock_11 : decode cX11_stock 11 = .ok (.iload_n 2, 1) := by decide +kernel
theorem dX11_stock_12 : decode cX11_stock 12 = .ok (.ifCond .lt 9, 3) := by decide +kernel
theorem dX11_stock_15 : decode cX11_stock 15 = .ok (.iload_n 2, 1) := by decide +kernel
theorem dX11_stock_16 : decode cX11_stock 16 = .ok (.bipush 9, 2) := by decide +kernel
theorem dX11_stock_18 : decode cX11_stock 18 = .ok (.if_icmp .le 5, 3) := by decide +kernel
theorem dX11_stock_21 : decode cX11_stock 21 = .ok (.iconst (-1), 1) := by decide +kernel
theorem dX11_stock_22 : decode cX11_stock 22 = .ok (.ireturn, 1) := by decide +kernel
theorem dX11_stock_23 : decode cX11_stock 23 = .ok (.iload_n 2, 1) := by decide +kernel
theorem dX11_stock_24 : decode cX11_stock 24 = .ok (.ifCond .ne 13, 3) := by decide +kernel
theorem dX11_stock_27 : decode cX11_stock 27 = .ok (.aload_n 0, 1) := by decide +kernel
theorem dX11_stock_28 : decode cX11_stock 28 = .ok (.getfield 58, 3) := by decide +kernel
theorem dX11_stock_31 : decode cX11_stock 31 = .ok (.getfield 155, 3) := by decide +kernel
theorem dX11_stock_34 : decode cX11_stock 34 = .ok (.goto 10, 3) := by decide +kernel
theorem dX11_stock_37 : decode cX11_stock 37 = .ok (.aload_n 0, 1) := by decide +kernel
theorem dX11_stock_38 : decode cX11_stock 38 = .ok (.getfield 58, 3) := by decide +kernel
theorem dX11_stock_41 : decode cX11_stock 41 = .ok (.getfield 152, 3) := by decide +kernel
theorem dX11_stock_44 : decode cX11_stock 44 = .ok (.astore_n 3, 1) := by decide +kernel
theorem dX11_stock_45 : decode cX11_stock 45 = .ok (.iload_n 2, 1) := by decide +kernel
theorem dX11_stock_46 : decode cX11_stock 46 = .ok (.ifCond .ne 7, 3) := by decide +kernel
theorem dX11_stock_49 : decode cX11_stock 49 = .ok (.iconst 1, 1) := by decide +kernel
theorem dX11_stock_50 : decode cX11_stock 50 = .ok (.goto 4, 3) := by decide +kernel
theorem dX11_stock_53 : decode cX11_stock 53 = .ok (.iload_n 2, 1) := by decide +kernel
theorem dX11_stock_54 : decode cX11_stock 54 = .ok (.istore 4, 2) := by decide +kernel
theorem dX11_stock_56 : decode cX11_stock 56 = .ok (.iload_n 2, 1) := by decide +kernel
theorem dX11_stock_57 : decode cX11_stock 57 = .ok (.ifCond .ne 8, 3) := by decide +kernel
theorem dX11_stock_60 : decode cX11_stock 60 = .ok (.bipush 9, 2) := by decide +kernel
theorem dX11_stock_62 : decode cX11_stock 62 = .ok (.goto 5, 3) := by decide +kernel
theorem dX11_stock_65 : decode cX11_stock 65 = .ok (.bipush 99, 2) := by decide +kernel
theorem dX11_stock_67 : decode cX11_stock 67 = .ok (.istore 5, 2) := by decide +kernel
theorem dX11_stock_69 : decode cX11_stock 69 = .ok (.aload_n 3, 1) := by decide +kernel
theorem dX11_stock_70 : decode cX11_stock 70 = .ok (.iload_n 1, 1) := by decide +kernel
theorem dX11_stock_71 : decode cX11_stock 71 = .ok (.iaload, 1) := by decide +kernel
theorem dX11_stock_72 : decode cX11_stock 72 = .ok (.iload 4, 2) := by decide +kernel
theorem dX11_stock_74 : decode cX11_stock 74 = .ok (.iadd, 1) := by decide +kernel
theorem dX11_stock_75 : decode cX11_stock 75 = .ok (.iload 5, 2) := by decide +kernel
theorem dX11_stock_77 : decode cX11_stock 77 = .ok (.if_icmp .le 5, 3) := by decide +kernel
theorem dX11_stock_80 : decode cX11_stock 80 = .ok (.iconst (-1), 1) := by decide +kernel
theorem dX11_stock_81 : decode cX11_stock 81 = .ok (.ireturn, 1) := by decide +kernel
theorem dX11_stock_82 : decode cX11_stock 82 = .ok (.aload_n 0, 1) := by decide +kernel
theorem dX11_stock_83 : decode cX11_stock 83 = .ok (.getfield 72, 3) := by decide +kernel
theorem dX11_stock_86 : decode cX11_stock 86 = .ok (.aload_n 0, 1) := by decide +kernel
theorem dX11_stock_87 : decode cX11_stock 87 = .ok (.getfield 58, 3) := by decide +kernel
theorem dX11_stock_90 : decode cX11_stock 90 = .ok (.aload_n 0, 1) := by decide +kernel
theorem dX11_stock_91 : decode cX11_stock 91 = .ok (.getfield 65, 3) := by decide +kernel
theorem dX11_stock_94 : decode cX11_stock 94 = .ok (.invokevirtual 188, 3) := by decide +kernel
theorem dX11_stock_97 : decode cX11_stock 97 = .ok (.aload_n 3, 1) := by decide +kernel
theorem dX11_stock_98 : decode cX11_stock 98 = .ok (.iload_n 1, 1) := by decide +kernel
theorem dX11_stock_99 : decode cX11_stock 99 = .ok (.dup2, 1) := by decide +kernel
theorem dX11_stock_100 : decode cX11_stock 100 = .ok (.iaload, 1) := by decide +kernel
theorem dX11_stock_101 : decode cX11_stock 101 = .ok (.iload 4, 2) := by decide +kernel
theorem dX11_stock_103 : decode cX11_stock 103 = .ok (.iadd, 1) := by decide +kernel
theorem dX11_stock_104 : decode cX11_stock 104 = .ok (.iastore, 1) := by decide +kernel
theorem dX11_stock_105 : decode cX11_stock 105 = .ok (.aload_n 3, 1) := by decide +kernel
theorem dX11_stock_106 : decode cX11_stock 106 = .ok (.iload_n 1, 1) := by decide +kernel
theorem dX11_stock_107 : decode cX11_stock 107 = .ok (.iaload, 1) := by decide +kernel
theorem dX11_stock_108 : decode cX11_stock 108 = .ok (.ireturn, 1) := by decide +kernel
theorem dX11_days_0 : decode cX11_days 0 = .ok (.iload_n 1, 1) := by decide +kernel
theorem dX11_days_1 : decode cX11_days 1 = .ok (.bipush 60, 2) := by decide +kernel
theorem dX11_days_3 : decode cX11_days 3 = .ok (.if_icmp .gt 23, 3) := by decide +kernel
theorem dX11_days_6 : decode cX11_days 6 = .ok (.aload_n 0, 1) := by decide +kernel
theorem dX11_days_7 : decode cX11_days 7 = .ok (.iconst 2, 1) := by decide +kernel
theorem dX11_days_8 : decode cX11_days 8 = .ok (.iload_n 1, 1) := by decide +kernel
theorem dX11_days_9 : decode cX11_days 9 = .ok (.iconst 0, 1) := by decide +kernel
theorem dX11_days_10 : decode cX11_days 10 = .ok (.invokevirtual 184, 3) := by decide +kernel
theorem dX11_days_13 : decode cX11_days 13 = .ok (.ifCond .eq 13, 3) := by decide +kernel
theorem dX11_days_16 : decode cX11_days 16 = .ok (.aload_n 0, 1) := by decide +kernel
theorem dX11_days_17 : decode cX11_days 17 = .ok (.getfield 58, 3) := by decide +kernel
theorem dX11_days_20 : decode cX11_days 20 = .ok (.getfield 192, 3) := by decide +kernel
theorem dX11_days_23 : decode cX11_days 23 = .ok (.goto 4, 3) := by decide +kernel
theorem dX11_days_26 : decode cX11_days 26 = .ok (.iconst (-1), 1) := by decide +kernel
theorem dX11_days_27 : decode cX11_days 27 = .ok (.ireturn, 1) := by decide +kernel
theorem dX11_years_0 : decode cX11_years 0 = .ok (.iload_n 1, 1) := by decide +kernel
theorem dX11_years_1 : decode cX11_years 1 = .ok (.bipush 60, 2) := by decide +kernel
theorem dX11_years_3 : decode cX11_years 3 = .ok (.if_icmp .gt 20, 3) := by decide +kernel
theorem dX11_years_6 : decode cX11_years 6 = .ok (.aload_n 0, 1) := by decide +kernel
theorem dX11_years_7 : decode cX11_years 7 = .ok (.getfield 94, 3) := by decide +kernel
theorem dX11_years_10 : decode cX11_years 10 = .ok (.iconst 2, 1) := by decide +kernel
theorem dX11_years_11 : decode cX11_years 11 = .ok (.iload_n 1, 1) := by decide +kernel
theorem dX11_years_12 : decode cX11_years 12 = .ok (.iconst 0, 1) := by decide +kernel
theorem dX11_years_13 : decode cX11_years 13 = .ok (.aload_n 0, 1) := by decide +kernel
theorem dX11_years_14 : decode cX11_years 14 = .ok (.getfield 58, 3) := by decide +kernel
theorem dX11_years_17 : decode cX11_years 17 = .ok (.invokevirtual 195, 3) := by decide +kernel
theorem dX11_years_20 : decode cX11_years 20 = .ok (.ifCond .ne 5, 3) := by decide +kernel
theorem dX11_years_23 : decode cX11_years 23 = .ok (.iconst (-1), 1) := by decide +kernel
theorem dX11_years_24 : decode cX11_years 24 = .ok (.ireturn, 1) := by decide +kernel
theorem dX11_years_25 : decode cX11_years 25 = .ok (.aload_n 0, 1) := by decide +kernel
theorem dX11_years_26 : decode cX11_years 26 = .ok (.lload_n 2, 1) := by decide +kernel
theorem dX11_years_27 : decode cX11_years 27 = .ok (.putfield 199, 3) := by decide +kernel
theorem dX11_years_30 : decode cX11_years 30 = .ok (.iconst 0, 1) := by decide +kernel
theorem dX11_years_31 : decode cX11_years 31 = .ok (.istore 4, 2) := by decide +kernel
theorem dX11_years_33 : decode cX11_years 33 = .ok (.iload 4, 2) := by decide +kernel
theorem dX11_years_35 : decode cX11_years 35 = .ok (.iload_n 1, 1) := by decide +kernel
theorem dX11_years_36 : decode cX11_years 36 = .ok (.if_icmp .ge 42, 3) := by decide +kernel
theorem dX11_years_39 : decode cX11_years 39 = .ok (.aload_n 0, 1) := by decide +kernel
theorem dX11_years_40 : decode cX11_years 40 = .ok (.getfield 72, 3) := by decide +kernel
theorem dX11_years_43 : decode cX11_years 43 = .ok (.aload_n 0, 1) := by decide +kernel
theorem dX11_years_44 : decode cX11_years 44 = .ok (.getfield 58, 3) := by decide +kernel
theorem dX11_years_47 : decode cX11_years 47 = .ok (.aload_n 0, 1) := by decide +kernel
theorem dX11_years_48 : decode cX11_years 48 = .ok (.getfield 65, 3) := by decide +kernel
theorem dX11_years_51 : decode cX11_years 51 = .ok (.invokevirtual 188, 3) := by decide +kernel
theorem dX11_years_54 : decode cX11_years 54 = .ok (.aload_n 0, 1) := by decide +kernel
theorem dX11_years_55 : decode cX11_years 55 = .ok (.aload_n 0, 1) := by decide +kernel
theorem dX11_years_56 : decode cX11_years 56 = .ok (.getfield 19, 3) := by decide +kernel
theorem dX11_years_59 : decode cX11_years 59 = .ok (.getfield 138, 3) := by decide +kernel
theorem dX11_years_62 : decode cX11_years 62 = .ok (.iconst 0, 1) := by decide +kernel
theorem dX11_years_63 : decode cX11_years 63 = .ok (.iaload, 1) := by decide +kernel
theorem dX11_years_64 : decode cX11_years 64 = .ok (.aload_n 0, 1) := by decide +kernel
theorem dX11_years_65 : decode cX11_years 65 = .ok (.invokevirtual 203, 3) := by decide +kernel
theorem dX11_years_68 : decode cX11_years 68 = .ok (.iadd, 1) := by decide +kernel
theorem dX11_years_69 : decode cX11_years 69 = .ok (.invokevirtual 206, 3) := by decide +kernel
theorem dX11_years_72 : decode cX11_years 72 = .ok (.iinc 4 1, 3) := by decide +kernel
theorem dX11_years_75 : decode cX11_years 75 = .ok (.goto (-42), 3) := by decide +kernel
theorem dX11_years_78 : decode cX11_years 78 = .ok (.aload_n 0, 1) := by decide +kernel
theorem dX11_years_79 : decode cX11_years 79 = .ok (.getfield 58, 3) := by decide +kernel
theorem dX11_years_82 : decode cX11_years 82 = .ok (.getfield 192, 3) := by decide +kernel
theorem dX11_years_85 : decode cX11_years 85 = .ok (.ireturn, 1) := by decide +kernel
theorem dX11_undo_0 : decode cX11_undo 0 = .ok (.aload_n 0, 1) := by decide +kernel
theorem dX11_undo_1 : decode cX11_undo 1 = .ok (.getfield 72, 3) := by decide +kernel
theorem dX11_undo_4 : decode cX11_undo 4 = .ok (.aload_n 0, 1) := by decide +kernel
theorem dX11_undo_5 : decode cX11_undo 5 = .ok (.getfield 58, 3) := by decide +kernel
theorem dX11_undo_8 : decode cX11_undo 8 = .ok (.aload_n 0, 1) := by decide +kernel
theorem dX11_undo_9 : decode cX11_undo 9 = .ok (.getfield 65, 3) := by decide +kernel
theorem dX11_undo_12 : decode cX11_undo 12 = .ok (.invokevirtual 209, 3) := by decide +kernel
theorem dX11_undo_15 : decode cX11_undo 15 = .ok (.ifCond .eq 13, 3) := by decide +kernel
theorem dX11_undo_18 : decode cX11_undo 18 = .ok (.aload_n 0, 1) := by decide +kernel
theorem dX11_undo_19 : decode cX11_undo 19 = .ok (.getfield 72, 3) := by decide +kernel
theorem dX11_undo_22 : decode cX11_undo 22 = .ok (.getfield 213, 3) := by decide +kernel
theorem dX11_undo_25 : decode cX11_undo 25 = .ok (.goto 4, 3) := by decide +kernel
theorem dX11_undo_28 : decode cX11_undo 28 = .ok (.iconst (-1), 1) := by decide +kernel
theorem dX11_undo_29 : decode cX11_undo 29 = .ok (.ireturn, 1) := by decide +kernel
theorem dX11_log_0 : decode cX11_log 0 = .ok (.aload_n 0, 1) := by decide +kernel
theorem dX11_log_1 : decode cX11_log 1 = .ok (.getfield 65, 3) := by decide +kernel
theorem dX11_log_4 : decode cX11_log 4 = .ok (.iload_n 1, 1) := by decide +kernel
theorem dX11_log_5 : decode cX11_log 5 = .ok (.iload_n 2, 1) := by decide +kernel
theorem dX11_log_6 : decode cX11_log 6 = .ok (.invokevirtual 216, 3) := by decide +kernel
theorem dX11_log_9 : decode cX11_log 9 = .ok (.ireturn, 1) := by decide +kernel
theorem dX11_step_0 : decode cX11_step 0 = .ok (.aload_n 0, 1) := by decide +kernel
theorem dX11_step_1 : decode cX11_step 1 = .ok (.iload_n 1, 1) := by decide +kernel
theorem dX11_step_2 : decode cX11_step 2 = .ok (.invokevirtual 220, 3) := by decide +kernel
theorem dX11_step_5 : decode cX11_step 5 = .ok (.ifCond .eq 29, 3) := by decide +kernel
theorem dX11_step_8 : decode cX11_step 8 = .ok (.iload_n 2, 1) := by decide +kernel
theorem dX11_step_9 : decode cX11_step 9 = .ok (.ifCond .lt 25, 3) := by decide +kernel
theorem dX11_step_12 : decode cX11_step 12 = .ok (.iload_n 2, 1) := by decide +kernel
theorem dX11_step_13 : decode cX11_step 13 = .ok (.aload_n 0, 1) := by decide +kernel
theorem dX11_step_14 : decode cX11_step 14 = .ok (.getfield 46, 3) := by decide +kernel
theorem dX11_step_17 : decode cX11_step 17 = .ok (.iload_n 1, 1) := by decide +kernel
theorem dX11_step_18 : decode cX11_step 18 = .ok (.aaload, 1) := by decide +kernel
theorem dX11_step_19 : decode cX11_step 19 = .ok (.getfield 223, 3) := by decide +kernel
theorem dX11_step_22 : decode cX11_step 22 = .ok (.if_icmp .ge 12, 3) := by decide +kernel
theorem dX11_step_25 : decode cX11_step 25 = .ok (.iload_n 3, 1) := by decide +kernel
theorem dX11_step_26 : decode cX11_step 26 = .ok (.ifCond .lt 8, 3) := by decide +kernel
theorem dX11_step_29 : decode cX11_step 29 = .ok (.iload_n 3, 1) := by decide +kernel
theorem dX11_step_30 : decode cX11_step 30 = .ok (.iconst 2, 1) := by decide +kernel
theorem dX11_step_31 : decode cX11_step 31 = .ok (.if_icmp .le 6, 3) := by decide +kernel
theorem dX11_step_34 : decode cX11_step 34 = .ok (.ldc 226, 2) := by decide +kernel
theorem dX11_step_36 : decode cX11_step 36 = .ok (.ireturn, 1) := by decide +kernel
theorem dX11_step_37 : decode cX11_step 37 = .ok (.aload_n 0, 1) := by decide +kernel
theorem dX11_step_38 : decode cX11_step 38 = .ok (.getfield 46, 3) := by decide +kernel
theorem dX11_step_41 : decode cX11_step 41 = .ok (.iload_n 1, 1) := by decide +kernel
theorem dX11_step_42 : decode cX11_step 42 = .ok (.aaload, 1) := by decide +kernel
theorem dX11_step_43 : decode cX11_step 43 = .ok (.iload_n 2, 1) := by decide +kernel
theorem dX11_step_44 : decode cX11_step 44 = .ok (.iload_n 3, 1) := by decide +kernel
theorem dX11_step_45 : decode cX11_step 45 = .ok (.invokevirtual 227, 3) := by decide +kernel
theorem dX11_step_48 : decode cX11_step 48 = .ok (.ireturn, 1) := by decide +kernel
theorem dX11_run_0 : decode cX11_run 0 = .ok (.aload_n 0, 1) := by decide +kernel
theorem dX11_run_1 : decode cX11_run 1 = .ok (.iload_n 1, 1) := by decide +kernel
theorem dX11_run_2 : decode cX11_run 2 = .ok (.invokevirtual 220, 3) := by decide +kernel
theorem dX11_run_5 : decode cX11_run 5 = .ok (.ifCond .eq 22, 3) := by decide +kernel
theorem dX11_run_8 : decode cX11_run 8 = .ok (.aload_n 0, 1) := by decide +kernel
theorem dX11_run_9 : decode cX11_run 9 = .ok (.getfield 19, 3) := by decide +kernel
theorem dX11_run_12 : decode cX11_run 12 = .ok (.invokevirtual 135, 3) := by decide +kernel
theorem dX11_run_15 : decode cX11_run 15 = .ok (.ifCond .eq 12, 3) := by decide +kernel
theorem dX11_run_18 : decode cX11_run 18 = .ok (.iload_n 2, 1) := by decide +kernel
theorem dX11_run_19 : decode cX11_run 19 = .ok (.ifCond .lt 8, 3) := by decide +kernel
theorem dX11_run_22 : decode cX11_run 22 = .ok (.iload_n 2, 1) := by decide +kernel
theorem dX11_run_23 : decode cX11_run 23 = .ok (.iconst 1, 1) := by decide +kernel
theorem dX11_run_24 : decode cX11_run 24 = .ok (.if_icmp .le 6, 3) := by decide +kernel
theorem dX11_run_27 : decode cX11_run 27 = .ok (.ldc 226, 2) := by decide +kernel
theorem dX11_run_29 : decode cX11_run 29 = .ok (.ireturn, 1) := by decide +kernel
theorem dX11_run_30 : decode cX11_run 30 = .ok (.aload_n 0, 1) := by decide +kernel
theorem dX11_run_31 : decode cX11_run 31 = .ok (.getfield 94, 3) := by decide +kernel
theorem dX11_run_34 : decode cX11_run 34 = .ok (.aload_n 0, 1) := by decide +kernel
theorem dX11_run_35 : decode cX11_run 35 = .ok (.getfield 46, 3) := by decide +kernel
theorem dX11_run_38 : decode cX11_run 38 = .ok (.iload_n 1, 1) := by decide +kernel
theorem dX11_run_39 : decode cX11_run 39 = .ok (.aaload, 1) := by decide +kernel
theorem dX11_run_40 : decode cX11_run 40 = .ok (.invokevirtual 230, 3) := by decide +kernel
theorem dX11_run_43 : decode cX11_run 43 = .ok (.istore_n 3, 1) := by decide +kernel
theorem dX11_run_44 : decode cX11_run 44 = .ok (.iload_n 2, 1) := by decide +kernel
theorem dX11_run_45 : decode cX11_run 45 = .ok (.iconst 1, 1) := by decide +kernel
theorem dX11_run_46 : decode cX11_run 46 = .ok (.if_icmp .ne 18, 3) := by decide +kernel
theorem dX11_run_49 : decode cX11_run 49 = .ok (.aload_n 0, 1) := by decide +kernel
theorem dX11_run_50 : decode cX11_run 50 = .ok (.getfield 19, 3) := by decide +kernel
theorem dX11_run_53 : decode cX11_run 53 = .ok (.aload_n 0, 1) := by decide +kernel
theorem dX11_run_54 : decode cX11_run 54 = .ok (.getfield 94, 3) := by decide +kernel
theorem dX11_run_57 : decode cX11_run 57 = .ok (.getfield 234, 3) := by decide +kernel
theorem dX11_run_60 : decode cX11_run 60 = .ok (.invokevirtual 237, 3) := by decide +kernel
theorem dX11_run_63 : decode cX11_run 63 = .ok (.ireturn, 1) := by decide +kernel
theorem dX11_run_64 : decode cX11_run 64 = .ok (.iload_n 3, 1) := by decide +kernel
theorem dX11_run_65 : decode cX11_run 65 = .ok (.aload_n 0, 1) := by decide +kernel
theorem dX11_run_66 : decode cX11_run 66 = .ok (.getfield 46, 3) := by decide +kernel
theorem dX11_run_69 : decode cX11_run 69 = .ok (.iload_n 1, 1) := by decide +kernel
theorem dX11_run_70 : decode cX11_run 70 = .ok (.aaload, 1) := by decide +kernel
theorem dX11_run_71 : decode cX11_run 71 = .ok (.getfield 223, 3) := by decide +kernel
theorem dX11_run_74 : decode cX11_run 74 = .ok (.if_icmp .ne 7, 3) := by decide +kernel
theorem dX11_run_77 : decode cX11_run 77 = .ok (.iconst (-1), 1) := by decide +kernel
theorem dX11_run_78 : decode cX11_run 78 = .ok (.goto 4, 3) := by decide +kernel
theorem dX11_run_81 : decode cX11_run 81 = .ok (.iload_n 3, 1) := by decide +kernel
theorem dX11_run_82 : decode cX11_run 82 = .ok (.ireturn, 1) := by decide +kernel
theorem dX11_perform_0 : decode cX11_perform 0 = .ok (.aload_n 0, 1) := by decide +kernel
theorem dX11_perform_1 : decode cX11_perform 1 = .ok (.iload_n 1, 1) := by decide +kernel
theorem dX11_perform_2 : decode cX11_perform 2 = .ok (.invokevirtual 220, 3) := by decide +kernel
theorem dX11_perform_5 : decode cX11_perform 5 = .ok (.ifCond .eq 13, 3) := by decide +kernel
theorem dX11_perform_8 : decode cX11_perform 8 = .ok (.aload_n 0, 1) := by decide +kernel
theorem dX11_perform_9 : decode cX11_perform 9 = .ok (.getfield 19, 3) := by decide +kernel
theorem dX11_perform_12 : decode cX11_perform 12 = .ok (.invokevirtual 135, 3) := by decide +kernel
theorem dX11_perform_15 : decode cX11_perform 15 = .ok (.ifCond .ne 5, 3) := by decide +kernel
theorem dX11_perform_18 : decode cX11_perform 18 = .ok (.iconst (-1), 1) := by decide +kernel
theorem dX11_perform_19 : decode cX11_perform 19 = .ok (.ireturn, 1) := by decide +kernel
theorem dX11_perform_20 : decode cX11_perform 20 = .ok (.aload_n 0, 1) := by decide +kernel
theorem dX11_perform_21 : decode cX11_perform 21 = .ok (.getfield 46, 3) := by decide +kernel
theorem dX11_perform_24 : decode cX11_perform 24 = .ok (.iload_n 1, 1) := by decide +kernel
theorem dX11_perform_25 : decode cX11_perform 25 = .ok (.aaload, 1) := by decide +kernel
theorem dX11_perform_26 : decode cX11_perform 26 = .ok (.astore_n 2, 1) := by decide +kernel
theorem dX11_perform_27 : decode cX11_perform 27 = .ok (.iconst 0, 1) := by decide +kernel
theorem dX11_perform_28 : decode cX11_perform 28 = .ok (.istore_n 3, 1) := by decide +kernel
theorem dX11_perform_29 : decode cX11_perform 29 = .ok (.iload_n 3, 1) := by decide +kernel
theorem dX11_perform_30 : decode cX11_perform 30 = .ok (.aload_n 2, 1) := by decide +kernel
theorem dX11_perform_31 : decode cX11_perform 31 = .ok (.getfield 223, 3) := by decide +kernel
theorem dX11_perform_34 : decode cX11_perform 34 = .ok (.if_icmp .ge 36, 3) := by decide +kernel
theorem dX11_perform_37 : decode cX11_perform 37 = .ok (.aload_n 0, 1) := by decide +kernel
theorem dX11_perform_38 : decode cX11_perform 38 = .ok (.aload_n 2, 1) := by decide +kernel
theorem dX11_perform_39 : decode cX11_perform 39 = .ok (.getfield 241, 3) := by decide +kernel
theorem dX11_perform_42 : decode cX11_perform 42 = .ok (.iload_n 3, 1) := by decide +kernel
theorem dX11_perform_43 : decode cX11_perform 43 = .ok (.iaload, 1) := by decide +kernel
theorem dX11_perform_44 : decode cX11_perform 44 = .ok (.aload_n 2, 1) := by decide +kernel
theorem dX11_perform_45 : decode cX11_perform 45 = .ok (.getfield 244, 3) := by decide +kernel
theorem dX11_perform_48 : decode cX11_perform 48 = .ok (.iload_n 3, 1) := by decide +kernel
theorem dX11_perform_49 : decode cX11_perform 49 = .ok (.iaload, 1) := by decide +kernel
theorem dX11_perform_50 : decode cX11_perform 50 = .ok (.aload_n 2, 1) := by decide +kernel
theorem dX11_perform_51 : decode cX11_perform 51 = .ok (.getfield 247, 3) := by decide +kernel
theorem dX11_perform_54 : decode cX11_perform 54 = .ok (.iload_n 3, 1) := by decide +kernel
theorem dX11_perform_55 : decode cX11_perform 55 = .ok (.iaload, 1) := by decide +kernel
theorem dX11_perform_56 : decode cX11_perform 56 = .ok (.invokevirtual 184, 3) := by decide +kernel
theorem dX11_perform_59 : decode cX11_perform 59 = .ok (.ifCond .ne 5, 3) := by decide +kernel
theorem dX11_perform_62 : decode cX11_perform 62 = .ok (.iload_n 3, 1) := by decide +kernel
theorem dX11_perform_63 : decode cX11_perform 63 = .ok (.ireturn, 1) := by decide +kernel
theorem dX11_perform_64 : decode cX11_perform 64 = .ok (.iinc 3 1, 3) := by decide +kernel
theorem dX11_perform_67 : decode cX11_perform 67 = .ok (.goto (-38), 3) := by decide +kernel
theorem dX11_perform_70 : decode cX11_perform 70 = .ok (.aload_n 2, 1) := by decide +kernel
theorem dX11_perform_71 : decode cX11_perform 71 = .ok (.getfield 223, 3) := by decide +kernel
theorem dX11_perform_74 : decode cX11_perform 74 = .ok (.ireturn, 1) := by decide +kernel
theorem dX11_ahead_0 : decode cX11_ahead 0 = .ok (.aload_n 0, 1) := by decide +kernel
theorem dX11_ahead_1 : decode cX11_ahead 1 = .ok (.getfield 19, 3) := by decide +kernel
theorem dX11_ahead_4 : decode cX11_ahead 4 = .ok (.iload_n 1, 1) := by decide +kernel
theorem dX11_ahead_5 : decode cX11_ahead 5 = .ok (.invokevirtual 142, 3) := by decide +kernel
theorem dX11_ahead_8 : decode cX11_ahead 8 = .ok (.ifCond .eq 13, 3) := by decide +kernel
theorem dX11_ahead_11 : decode cX11_ahead 11 = .ok (.iload_n 2, 1) := by decide +kernel
theorem dX11_ahead_12 : decode cX11_ahead 12 = .ok (.ifCond .lt 9, 3) := by decide +kernel
theorem dX11_ahead_15 : decode cX11_ahead 15 = .ok (.iload_n 2, 1) := by decide +kernel
theorem dX11_ahead_16 : decode cX11_ahead 16 = .ok (.bipush 60, 2) := by decide +kernel
theorem dX11_ahead_18 : decode cX11_ahead 18 = .ok (.if_icmp .le 5, 3) := by decide +kernel
theorem dX11_ahead_21 : decode cX11_ahead 21 = .ok (.iconst (-1), 1) := by decide +kernel
theorem dX11_ahead_22 : decode cX11_ahead 22 = .ok (.ireturn, 1) := by decide +kernel
theorem dX11_ahead_23 : decode cX11_ahead 23 = .ok (.aload_n 0, 1) := by decide +kernel
theorem dX11_ahead_24 : decode cX11_ahead 24 = .ok (.getfield 94, 3) := by decide +kernel
theorem dX11_ahead_27 : decode cX11_ahead 27 = .ok (.iload_n 2, 1) := by decide +kernel
theorem dX11_ahead_28 : decode cX11_ahead 28 = .ok (.aload_n 0, 1) := by decide +kernel
theorem dX11_ahead_29 : decode cX11_ahead 29 = .ok (.getfield 58, 3) := by decide +kernel
theorem dX11_ahead_32 : decode cX11_ahead 32 = .ok (.getfield 250, 3) := by decide +kernel
theorem dX11_ahead_35 : decode cX11_ahead 35 = .ok (.invokevirtual 253, 3) := by decide +kernel
theorem dX11_ahead_38 : decode cX11_ahead 38 = .ok (.getfield 149, 3) := by decide +kernel
theorem dX11_ahead_41 : decode cX11_ahead 41 = .ok (.iload_n 1, 1) := by decide +kernel
theorem dX11_ahead_42 : decode cX11_ahead 42 = .ok (.iaload, 1) := by decide +kernel
theorem dX11_ahead_43 : decode cX11_ahead 43 = .ok (.ireturn, 1) := by decide +kernel
theorem dX11_dries_0 : decode cX11_dries 0 = .ok (.aload_n 0, 1) := by decide +kernel
theorem dX11_dries_1 : decode cX11_dries 1 = .ok (.getfield 19, 3) := by decide +kernel
theorem dX11_dries_4 : decode cX11_dries 4 = .ok (.iload_n 1, 1) := by decide +kernel
theorem dX11_dries_5 : decode cX11_dries 5 = .ok (.invokevirtual 142, 3) := by decide +kernel
theorem dX11_dries_8 : decode cX11_dries 8 = .ok (.ifCond .eq 14, 3) := by decide +kernel
theorem dX11_dries_11 : decode cX11_dries 11 = .ok (.aload_n 0, 1) := by decide +kernel
theorem dX11_dries_12 : decode cX11_dries 12 = .ok (.getfield 94, 3) := by decide +kernel
theorem dX11_dries_15 : decode cX11_dries 15 = .ok (.iload_n 1, 1) := by decide +kernel
theorem dX11_dries_16 : decode cX11_dries 16 = .ok (.invokevirtual 257, 3) := by decide +kernel
theorem dX11_dries_19 : decode cX11_dries 19 = .ok (.goto 4, 3) := by decide +kernel
theorem dX11_dries_22 : decode cX11_dries 22 = .ok (.iconst (-1), 1) := by decide +kernel
theorem dX11_dries_23 : decode cX11_dries 23 = .ok (.ireturn, 1) := by decide +kernel
theorem dX11_bare_0 : decode cX11_bare 0 = .ok (.aload_n 0, 1) := by decide +kernel
theorem dX11_bare_1 : decode cX11_bare 1 = .ok (.getfield 19, 3) := by decide +kernel
theorem dX11_bare_4 : decode cX11_bare 4 = .ok (.invokevirtual 135, 3) := by decide +kernel
theorem dX11_bare_7 : decode cX11_bare 7 = .ok (.ifCond .eq 17, 3) := by decide +kernel
theorem dX11_bare_10 : decode cX11_bare 10 = .ok (.aload_n 0, 1) := by decide +kernel
theorem dX11_bare_11 : decode cX11_bare 11 = .ok (.getfield 19, 3) := by decide +kernel
theorem dX11_bare_14 : decode cX11_bare 14 = .ok (.aload_n 0, 1) := by decide +kernel
theorem dX11_bare_15 : decode cX11_bare 15 = .ok (.getfield 58, 3) := by decide +kernel
theorem dX11_bare_18 : decode cX11_bare 18 = .ok (.invokevirtual 237, 3) := by decide +kernel
theorem dX11_bare_21 : decode cX11_bare 21 = .ok (.goto 4, 3) := by decide +kernel
theorem dX11_bare_24 : decode cX11_bare 24 = .ok (.iconst (-1), 1) := by decide +kernel
theorem dX11_bare_25 : decode cX11_bare 25 = .ok (.ireturn, 1) := by decide +kernel
theorem dX11_keys_0 : decode cX11_keys 0 = .ok (.aload_n 0, 1) := by decide +kernel
theorem dX11_keys_1 : decode cX11_keys 1 = .ok (.iload_n 1, 1) := by decide +kernel
theorem dX11_keys_2 : decode cX11_keys 2 = .ok (.invokevirtual 260, 3) := by decide +kernel
theorem dX11_keys_5 : decode cX11_keys 5 = .ok (.ifCond .eq 14, 3) := by decide +kernel
theorem dX11_keys_8 : decode cX11_keys 8 = .ok (.aload_n 0, 1) := by decide +kernel
theorem dX11_keys_9 : decode cX11_keys 9 = .ok (.getfield 94, 3) := by decide +kernel
theorem dX11_keys_12 : decode cX11_keys 12 = .ok (.iload_n 1, 1) := by decide +kernel
theorem dX11_keys_13 : decode cX11_keys 13 = .ok (.invokevirtual 263, 3) := by decide +kernel
theorem dX11_keys_16 : decode cX11_keys 16 = .ok (.goto 4, 3) := by decide +kernel
theorem dX11_keys_19 : decode cX11_keys 19 = .ok (.iconst (-1), 1) := by decide +kernel
theorem dX11_keys_20 : decode cX11_keys 20 = .ok (.ireturn, 1) := by decide +kernel
theorem dX11_kept_0 : decode cX11_kept 0 = .ok (.aload_n 0, 1) := by decide +kernel
theorem dX11_kept_1 : decode cX11_kept 1 = .ok (.iload_n 1, 1) := by decide +kernel
theorem dX11_kept_2 : decode cX11_kept 2 = .ok (.invokevirtual 260, 3) := by decide +kernel
theorem dX11_kept_5 : decode cX11_kept 5 = .ok (.ifCond .eq 12, 3) := by decide +kernel
theorem dX11_kept_8 : decode cX11_kept 8 = .ok (.iload_n 2, 1) := by decide +kernel
theorem dX11_kept_9 : decode cX11_kept 9 = .ok (.ifCond .lt 8, 3) := by decide +kernel
theorem dX11_kept_12 : decode cX11_kept 12 = .ok (.iload_n 2, 1) := by decide +kernel
theorem dX11_kept_13 : decode cX11_kept 13 = .ok (.iconst 1, 1) := by decide +kernel
theorem dX11_kept_14 : decode cX11_kept 14 = .ok (.if_icmp .le 5, 3) := by decide +kernel
theorem dX11_kept_17 : decode cX11_kept 17 = .ok (.iconst (-1), 1) := by decide +kernel
theorem dX11_kept_18 : decode cX11_kept 18 = .ok (.ireturn, 1) := by decide +kernel
theorem dX11_kept_19 : decode cX11_kept 19 = .ok (.aload_n 0, 1) := by decide +kernel
theorem dX11_kept_20 : decode cX11_kept 20 = .ok (.getfield 94, 3) := by decide +kernel
theorem dX11_kept_23 : decode cX11_kept 23 = .ok (.iload_n 1, 1) := by decide +kernel
theorem dX11_kept_24 : decode cX11_kept 24 = .ok (.invokevirtual 266, 3) := by decide +kernel
theorem dX11_kept_27 : decode cX11_kept 27 = .ok (.istore_n 3, 1) := by decide +kernel
theorem dX11_kept_28 : decode cX11_kept 28 = .ok (.iload_n 2, 1) := by decide +kernel
theorem dX11_kept_29 : decode cX11_kept 29 = .ok (.iconst 1, 1) := by decide +kernel
theorem dX11_kept_30 : decode cX11_kept 30 = .ok (.if_icmp .ne 5, 3) := by decide +kernel
theorem dX11_kept_33 : decode cX11_kept 33 = .ok (.iload_n 3, 1) := by decide +kernel
theorem dX11_kept_34 : decode cX11_kept 34 = .ok (.ireturn, 1) := by decide +kernel
theorem dX11_kept_35 : decode cX11_kept 35 = .ok (.aload_n 0, 1) := by decide +kernel
theorem dX11_kept_36 : decode cX11_kept 36 = .ok (.getfield 19, 3) := by decide +kernel
theorem dX11_kept_39 : decode cX11_kept 39 = .ok (.getfield 269, 3) := by decide +kernel
theorem dX11_kept_42 : decode cX11_kept 42 = .ok (.aload_n 0, 1) := by decide +kernel
theorem dX11_kept_43 : decode cX11_kept 43 = .ok (.getfield 19, 3) := by decide +kernel
theorem dX11_kept_46 : decode cX11_kept 46 = .ok (.aload_n 0, 1) := by decide +kernel
theorem dX11_kept_47 : decode cX11_kept 47 = .ok (.getfield 94, 3) := by decide +kernel
theorem dX11_kept_50 : decode cX11_kept 50 = .ok (.iload_n 1, 1) := by decide +kernel
theorem dX11_kept_51 : decode cX11_kept 51 = .ok (.iload_n 3, 1) := by decide +kernel
theorem dX11_kept_52 : decode cX11_kept 52 = .ok (.invokevirtual 253, 3) := by decide +kernel
theorem dX11_kept_55 : decode cX11_kept 55 = .ok (.invokevirtual 237, 3) := by decide +kernel
theorem dX11_kept_58 : decode cX11_kept 58 = .ok (.invokestatic 272, 3) := by decide +kernel
theorem dX11_kept_61 : decode cX11_kept 61 = .ok (.isub, 1) := by decide +kernel
theorem dX11_kept_62 : decode cX11_kept 62 = .ok (.ireturn, 1) := by decide +kernel
theorem dX11_cut_0 : decode cX11_cut 0 = .ok (.aload_n 0, 1) := by decide +kernel
theorem dX11_cut_1 : decode cX11_cut 1 = .ok (.iload_n 1, 1) := by decide +kernel
theorem dX11_cut_2 : decode cX11_cut 2 = .ok (.invokevirtual 260, 3) := by decide +kernel
theorem dX11_cut_5 : decode cX11_cut 5 = .ok (.ifCond .eq 14, 3) := by decide +kernel
theorem dX11_cut_8 : decode cX11_cut 8 = .ok (.aload_n 0, 1) := by decide +kernel
theorem dX11_cut_9 : decode cX11_cut 9 = .ok (.getfield 94, 3) := by decide +kernel
theorem dX11_cut_12 : decode cX11_cut 12 = .ok (.iload_n 1, 1) := by decide +kernel
theorem dX11_cut_13 : decode cX11_cut 13 = .ok (.invokevirtual 277, 3) := by decide +kernel
theorem dX11_cut_16 : decode cX11_cut 16 = .ok (.goto 4, 3) := by decide +kernel
theorem dX11_cut_19 : decode cX11_cut 19 = .ok (.iconst (-1), 1) := by decide +kernel
theorem dX11_cut_20 : decode cX11_cut 20 = .ok (.ireturn, 1) := by decide +kernel
theorem dX11_rest_0 : decode cX11_rest 0 = .ok (.aload_n 0, 1) := by decide +kernel
theorem dX11_rest_1 : decode cX11_rest 1 = .ok (.getfield 19, 3) := by decide +kernel
theorem dX11_rest_4 : decode cX11_rest 4 = .ok (.iload_n 1, 1) := by decide +kernel
theorem dX11_rest_5 : decode cX11_rest 5 = .ok (.invokevirtual 142, 3) := by decide +kernel
theorem dX11_rest_8 : decode cX11_rest 8 = .ok (.ifCond .eq 14, 3) := by decide +kernel
theorem dX11_rest_11 : decode cX11_rest 11 = .ok (.aload_n 0, 1) := by decide +kernel
theorem dX11_rest_12 : decode cX11_rest 12 = .ok (.getfield 94, 3) := by decide +kernel
theorem dX11_rest_15 : decode cX11_rest 15 = .ok (.iload_n 1, 1) := by decide +kernel
theorem dX11_rest_16 : decode cX11_rest 16 = .ok (.invokevirtual 280, 3) := by decide +kernel
theorem dX11_rest_19 : decode cX11_rest 19 = .ok (.goto 4, 3) := by decide +kernel
theorem dX11_rest_22 : decode cX11_rest 22 = .ok (.iconst (-1), 1) := by decide +kernel
theorem dX11_rest_23 : decode cX11_rest 23 = .ok (.ireturn, 1) := by decide +kernel
theorem dX11_joined_0 : decode cX11_joined 0 = .ok (.aload_n 0, 1) := by decide +kernel
theorem dX11_joined_1 : decode cX11_joined 1 = .ok (.getfield 19, 3) := by decide +kernel
theorem dX11_joined_4 : decode cX11_joined 4 = .ok (.iload_n 1, 1) := by decide +kernel
theorem dX11_joined_5 : decode cX11_joined 5 = .ok (.invokevirtual 142, 3) := by decide +kernel
theorem dX11_joined_8 : decode cX11_joined 8 = .ok (.ifCond .eq 21, 3) := by decide +kernel
theorem dX11_joined_11 : decode cX11_joined 11 = .ok (.aload_n 0, 1) := by decide +kernel
theorem dX11_joined_12 : decode cX11_joined 12 = .ok (.getfield 19, 3) := by decide +kernel
theorem dX11_joined_15 : decode cX11_joined 15 = .ok (.iload_n 1, 1) := by decide +kernel
theorem dX11_joined_16 : decode cX11_joined 16 = .ok (.aload_n 0, 1) := by decide +kernel
theorem dX11_joined_17 : decode cX11_joined 17 = .ok (.getfield 58, 3) := by decide +kernel
theorem dX11_joined_20 : decode cX11_joined 20 = .ok (.getfield 250, 3) := by decide +kernel
theorem dX11_joined_23 : decode cX11_joined 23 = .ok (.invokevirtual 283, 3) := by decide +kernel
theorem dX11_joined_26 : decode cX11_joined 26 = .ok (.goto 4, 3) := by decide +kernel
theorem dX11_joined_29 : decode cX11_joined 29 = .ok (.iconst (-1), 1) := by decide +kernel
theorem dX11_joined_30 : decode cX11_joined 30 = .ok (.ireturn, 1) := by decide +kernel
theorem dX11_apart_0 : decode cX11_apart 0 = .ok (.aload_n 0, 1) := by decide +kernel
theorem dX11_apart_1 : decode cX11_apart 1 = .ok (.getfield 19, 3) := by decide +kernel
theorem dX11_apart_4 : decode cX11_apart 4 = .ok (.invokevirtual 135, 3) := by decide +kernel
theorem dX11_apart_7 : decode cX11_apart 7 = .ok (.ifCond .eq 13, 3) := by decide +kernel
theorem dX11_apart_10 : decode cX11_apart 10 = .ok (.aload_n 0, 1) := by decide +kernel
theorem dX11_apart_11 : decode cX11_apart 11 = .ok (.getfield 94, 3) := by decide +kernel
theorem dX11_apart_14 : decode cX11_apart 14 = .ok (.invokevirtual 286, 3) := by decide +kernel
theorem dX11_apart_17 : decode cX11_apart 17 = .ok (.goto 4, 3) := by decide +kernel
theorem dX11_apart_20 : decode cX11_apart 20 = .ok (.iconst (-1), 1) := by decide +kernel
theorem dX11_apart_21 : decode cX11_apart 21 = .ok (.ireturn, 1) := by decide +kernel
theorem dX11_measured_0 : decode cX11_measured 0 = .ok (.aload_n 0, 1) := by decide +kernel
theorem dX11_measured_1 : decode cX11_measured 1 = .ok (.getfield 19, 3) := by decide +kernel
theorem dX11_measured_4 : decode cX11_measured 4 = .ok (.iload_n 1, 1) := by decide +kernel
theorem dX11_measured_5 : decode cX11_measured 5 = .ok (.invokevirtual 142, 3) := by decide +kernel
theorem dX11_measured_8 : decode cX11_measured 8 = .ok (.ifCond .eq 15, 3) := by decide +kernel
theorem dX11_measured_11 : decode cX11_measured 11 = .ok (.iload_n 2, 1) := by decide +kernel
theorem dX11_measured_12 : decode cX11_measured 12 = .ok (.bipush (-9), 2) := by decide +kernel
theorem dX11_measured_14 : decode cX11_measured 14 = .ok (.if_icmp .lt 9, 3) := by decide +kernel
theorem dX11_measured_17 : decode cX11_measured 17 = .ok (.iload_n 2, 1) := by decide +kernel
theorem dX11_measured_18 : decode cX11_measured 18 = .ok (.bipush 9, 2) := by decide +kernel
theorem dX11_measured_20 : decode cX11_measured 20 = .ok (.if_icmp .le 5, 3) := by decide +kernel
theorem dX11_measured_23 : decode cX11_measured 23 = .ok (.iconst (-1), 1) := by decide +kernel
theorem dX11_measured_24 : decode cX11_measured 24 = .ok (.ireturn, 1) := by decide +kernel
theorem dX11_measured_25 : decode cX11_measured 25 = .ok (.aload_n 0, 1) := by decide +kernel
theorem dX11_measured_26 : decode cX11_measured 26 = .ok (.getfield 85, 3) := by decide +kernel
theorem dX11_measured_29 : decode cX11_measured 29 = .ok (.iload_n 1, 1) := by decide +kernel
theorem dX11_measured_30 : decode cX11_measured 30 = .ok (.iload_n 2, 1) := by decide +kernel
theorem dX11_measured_31 : decode cX11_measured 31 = .ok (.invokevirtual 289, 3) := by decide +kernel
theorem dX11_measured_34 : decode cX11_measured 34 = .ok (.ifCond .eq 13, 3) := by decide +kernel
theorem dX11_measured_37 : decode cX11_measured 37 = .ok (.aload_n 0, 1) := by decide +kernel
theorem dX11_measured_38 : decode cX11_measured 38 = .ok (.getfield 85, 3) := by decide +kernel
theorem dX11_measured_41 : decode cX11_measured 41 = .ok (.getfield 293, 3) := by decide +kernel
theorem dX11_measured_44 : decode cX11_measured 44 = .ok (.goto 4, 3) := by decide +kernel
theorem dX11_measured_47 : decode cX11_measured 47 = .ok (.iconst (-1), 1) := by decide +kernel
theorem dX11_measured_48 : decode cX11_measured 48 = .ok (.ireturn, 1) := by decide +kernel
theorem dX11_secret_0 : decode cX11_secret 0 = .ok (.aload_n 0, 1) := by decide +kernel
theorem dX11_secret_1 : decode cX11_secret 1 = .ok (.getfield 19, 3) := by decide +kernel
theorem dX11_secret_4 : decode cX11_secret 4 = .ok (.invokevirtual 135, 3) := by decide +kernel
theorem dX11_secret_7 : decode cX11_secret 7 = .ok (.ifCond .eq 8, 3) := by decide +kernel
theorem dX11_secret_10 : decode cX11_secret 10 = .ok (.iload_n 1, 1) := by decide +kernel
theorem dX11_secret_11 : decode cX11_secret 11 = .ok (.iconst (-1), 1) := by decide +kernel
theorem dX11_secret_12 : decode cX11_secret 12 = .ok (.if_icmp .ge 5, 3) := by decide +kernel
theorem dX11_secret_15 : decode cX11_secret 15 = .ok (.iconst (-1), 1) := by decide +kernel
theorem dX11_secret_16 : decode cX11_secret 16 = .ok (.ireturn, 1) := by decide +kernel
theorem dX11_secret_17 : decode cX11_secret 17 = .ok (.iload_n 1, 1) := by decide +kernel
theorem dX11_secret_18 : decode cX11_secret 18 = .ok (.iconst (-1), 1) := by decide +kernel
theorem dX11_secret_19 : decode cX11_secret 19 = .ok (.if_icmp .ne 13, 3) := by decide +kernel
theorem dX11_secret_22 : decode cX11_secret 22 = .ok (.aload_n 0, 1) := by decide +kernel
theorem dX11_secret_23 : decode cX11_secret 23 = .ok (.getfield 85, 3) := by decide +kernel
theorem dX11_secret_26 : decode cX11_secret 26 = .ok (.invokevirtual 294, 3) := by decide +kernel
theorem dX11_secret_29 : decode cX11_secret 29 = .ok (.goto 11, 3) := by decide +kernel
theorem dX11_secret_32 : decode cX11_secret 32 = .ok (.aload_n 0, 1) := by decide +kernel
theorem dX11_secret_33 : decode cX11_secret 33 = .ok (.getfield 85, 3) := by decide +kernel
theorem dX11_secret_36 : decode cX11_secret 36 = .ok (.iload_n 1, 1) := by decide +kernel
theorem dX11_secret_37 : decode cX11_secret 37 = .ok (.invokevirtual 297, 3) := by decide +kernel
theorem dX11_secret_40 : decode cX11_secret 40 = .ok (.ireturn, 1) := by decide +kernel
theorem dX11_measure_0 : decode cX11_measure 0 = .ok (.aload_n 0, 1) := by decide +kernel
theorem dX11_measure_1 : decode cX11_measure 1 = .ok (.getfield 19, 3) := by decide +kernel
theorem dX11_measure_4 : decode cX11_measure 4 = .ok (.invokevirtual 135, 3) := by decide +kernel
theorem dX11_measure_7 : decode cX11_measure 7 = .ok (.ifCond .eq 13, 3) := by decide +kernel
theorem dX11_measure_10 : decode cX11_measure 10 = .ok (.aload_n 0, 1) := by decide +kernel
theorem dX11_measure_11 : decode cX11_measure 11 = .ok (.getfield 85, 3) := by decide +kernel
theorem dX11_measure_14 : decode cX11_measure 14 = .ok (.invokevirtual 300, 3) := by decide +kernel
theorem dX11_measure_17 : decode cX11_measure 17 = .ok (.goto 4, 3) := by decide +kernel
theorem dX11_measure_20 : decode cX11_measure 20 = .ok (.iconst (-1), 1) := by decide +kernel
theorem dX11_measure_21 : decode cX11_measure 21 = .ok (.ireturn, 1) := by decide +kernel
theorem dX11_walls_0 : decode cX11_walls 0 = .ok (.aload_n 0, 1) := by decide +kernel
theorem dX11_walls_1 : decode cX11_walls 1 = .ok (.getfield 19, 3) := by decide +kernel
theorem dX11_walls_4 : decode cX11_walls 4 = .ok (.invokevirtual 135, 3) := by decide +kernel
theorem dX11_walls_7 : decode cX11_walls 7 = .ok (.ifCond .eq 13, 3) := by decide +kernel
theorem dX11_walls_10 : decode cX11_walls 10 = .ok (.aload_n 0, 1) := by decide +kernel
theorem dX11_walls_11 : decode cX11_walls 11 = .ok (.getfield 94, 3) := by decide +kernel
theorem dX11_walls_14 : decode cX11_walls 14 = .ok (.invokevirtual 303, 3) := by decide +kernel
theorem dX11_walls_17 : decode cX11_walls 17 = .ok (.goto 4, 3) := by decide +kernel
theorem dX11_walls_20 : decode cX11_walls 20 = .ok (.iconst (-1), 1) := by decide +kernel
theorem dX11_walls_21 : decode cX11_walls 21 = .ok (.ireturn, 1) := by decide +kernel
theorem dX11_feud_0 : decode cX11_feud 0 = .ok (.aload_n 0, 1) := by decide +kernel
theorem dX11_feud_1 : decode cX11_feud 1 = .ok (.iload_n 1, 1) := by decide +kernel
theorem dX11_feud_2 : decode cX11_feud 2 = .ok (.iload_n 2, 1) := by decide +kernel
theorem dX11_feud_3 : decode cX11_feud 3 = .ok (.iload_n 3, 1) := by decide +kernel
theorem dX11_feud_4 : decode cX11_feud 4 = .ok (.iload 4, 2) := by decide +kernel
theorem dX11_feud_6 : decode cX11_feud 6 = .ok (.iload 5, 2) := by decide +kernel
theorem dX11_feud_8 : decode cX11_feud 8 = .ok (.invokevirtual 306, 3) := by decide +kernel
theorem dX11_feud_11 : decode cX11_feud 11 = .ok (.ifCond .eq 25, 3) := by decide +kernel
theorem dX11_feud_14 : decode cX11_feud 14 = .ok (.iload 6, 2) := by decide +kernel
theorem dX11_feud_16 : decode cX11_feud 16 = .ok (.ifCond .lt 20, 3) := by decide +kernel
theorem dX11_feud_19 : decode cX11_feud 19 = .ok (.iload 6, 2) := by decide +kernel
theorem dX11_feud_21 : decode cX11_feud 21 = .ok (.iconst 1, 1) := by decide +kernel
theorem dX11_feud_22 : decode cX11_feud 22 = .ok (.if_icmp .gt 14, 3) := by decide +kernel
theorem dX11_feud_25 : decode cX11_feud 25 = .ok (.iload 7, 2) := by decide +kernel
theorem dX11_feud_27 : decode cX11_feud 27 = .ok (.ifCond .lt 9, 3) := by decide +kernel
theorem dX11_feud_30 : decode cX11_feud 30 = .ok (.iload 7, 2) := by decide +kernel
theorem dX11_feud_32 : decode cX11_feud 32 = .ok (.iconst 1, 1) := by decide +kernel
theorem dX11_feud_33 : decode cX11_feud 33 = .ok (.if_icmp .le 6, 3) := by decide +kernel
theorem dX11_feud_36 : decode cX11_feud 36 = .ok (.ldc 226, 2) := by decide +kernel
theorem dX11_feud_38 : decode cX11_feud 38 = .ok (.ireturn, 1) := by decide +kernel
theorem dX11_feud_39 : decode cX11_feud 39 = .ok (.aload_n 0, 1) := by decide +kernel
theorem dX11_feud_40 : decode cX11_feud 40 = .ok (.getfield 94, 3) := by decide +kernel
theorem dX11_feud_43 : decode cX11_feud 43 = .ok (.iload_n 1, 1) := by decide +kernel
theorem dX11_feud_44 : decode cX11_feud 44 = .ok (.iload_n 2, 1) := by decide +kernel
theorem dX11_feud_45 : decode cX11_feud 45 = .ok (.iload 5, 2) := by decide +kernel
theorem dX11_feud_47 : decode cX11_feud 47 = .ok (.aload_n 0, 1) := by decide +kernel
theorem dX11_feud_48 : decode cX11_feud 48 = .ok (.getfield 94, 3) := by decide +kernel
theorem dX11_feud_51 : decode cX11_feud 51 = .ok (.iload_n 3, 1) := by decide +kernel
theorem dX11_feud_52 : decode cX11_feud 52 = .ok (.iload 4, 2) := by decide +kernel
theorem dX11_feud_54 : decode cX11_feud 54 = .ok (.iload 6, 2) := by decide +kernel
theorem dX11_feud_56 : decode cX11_feud 56 = .ok (.iload 7, 2) := by decide +kernel
theorem dX11_feud_58 : decode cX11_feud 58 = .ok (.invokevirtual 310, 3) := by decide +kernel
theorem dX11_feud_61 : decode cX11_feud 61 = .ok (.invokevirtual 314, 3) := by decide +kernel
theorem dX11_feud_64 : decode cX11_feud 64 = .ok (.ireturn, 1) := by decide +kernel
theorem dX11_rests_0 : decode cX11_rests 0 = .ok (.aload_n 0, 1) := by decide +kernel
theorem dX11_rests_1 : decode cX11_rests 1 = .ok (.iload_n 1, 1) := by decide +kernel
theorem dX11_rests_2 : decode cX11_rests 2 = .ok (.iload_n 2, 1) := by decide +kernel
theorem dX11_rests_3 : decode cX11_rests 3 = .ok (.iload_n 3, 1) := by decide +kernel
theorem dX11_rests_4 : decode cX11_rests 4 = .ok (.iload 4, 2) := by decide +kernel
theorem dX11_rests_6 : decode cX11_rests 6 = .ok (.iload 5, 2) := by decide +kernel
theorem dX11_rests_8 : decode cX11_rests 8 = .ok (.invokevirtual 306, 3) := by decide +kernel
theorem dX11_rests_11 : decode cX11_rests 11 = .ok (.ifCond .eq 9, 3) := by decide +kernel
theorem dX11_rests_14 : decode cX11_rests 14 = .ok (.iload 6, 2) := by decide +kernel
theorem dX11_rests_16 : decode cX11_rests 16 = .ok (.iconst (-1), 1) := by decide +kernel
theorem dX11_rests_17 : decode cX11_rests 17 = .ok (.if_icmp .ge 5, 3) := by decide +kernel
theorem dX11_rests_20 : decode cX11_rests 20 = .ok (.iconst (-1), 1) := by decide +kernel
theorem dX11_rests_21 : decode cX11_rests 21 = .ok (.ireturn, 1) := by decide +kernel
theorem dX11_rests_22 : decode cX11_rests 22 = .ok (.iconst 0, 1) := by decide +kernel
theorem dX11_rests_23 : decode cX11_rests 23 = .ok (.istore 7, 2) := by decide +kernel
theorem dX11_rests_25 : decode cX11_rests 25 = .ok (.iload 7, 2) := by decide +kernel
theorem dX11_rests_27 : decode cX11_rests 27 = .ok (.aload_n 0, 1) := by decide +kernel
theorem dX11_rests_28 : decode cX11_rests 28 = .ok (.getfield 94, 3) := by decide +kernel
theorem dX11_rests_31 : decode cX11_rests 31 = .ok (.getfield 317, 3) := by decide +kernel
theorem dX11_rests_34 : decode cX11_rests 34 = .ok (.arraylength, 1) := by decide +kernel
theorem dX11_rests_35 : decode cX11_rests 35 = .ok (.if_icmp .ge 52, 3) := by decide +kernel
theorem dX11_rests_38 : decode cX11_rests 38 = .ok (.aload_n 0, 1) := by decide +kernel
theorem dX11_rests_39 : decode cX11_rests 39 = .ok (.getfield 94, 3) := by decide +kernel
theorem dX11_rests_42 : decode cX11_rests 42 = .ok (.iload_n 3, 1) := by decide +kernel
theorem dX11_rests_43 : decode cX11_rests 43 = .ok (.iload 4, 2) := by decide +kernel
theorem dX11_rests_45 : decode cX11_rests 45 = .ok (.iload 7, 2) := by decide +kernel
theorem dX11_rests_47 : decode cX11_rests 47 = .ok (.iconst 1, 1) := by decide +kernel
theorem dX11_rests_48 : decode cX11_rests 48 = .ok (.ishr, 1) := by decide +kernel
theorem dX11_rests_49 : decode cX11_rests 49 = .ok (.iload 7, 2) := by decide +kernel
theorem dX11_rests_51 : decode cX11_rests 51 = .ok (.iconst 1, 1) := by decide +kernel
theorem dX11_rests_52 : decode cX11_rests 52 = .ok (.iand, 1) := by decide +kernel
theorem dX11_rests_53 : decode cX11_rests 53 = .ok (.invokevirtual 310, 3) := by decide +kernel
theorem dX11_rests_56 : decode cX11_rests 56 = .ok (.istore 8, 2) := by decide +kernel
theorem dX11_rests_58 : decode cX11_rests 58 = .ok (.aload_n 0, 1) := by decide +kernel
theorem dX11_rests_59 : decode cX11_rests 59 = .ok (.getfield 94, 3) := by decide +kernel
theorem dX11_rests_62 : decode cX11_rests 62 = .ok (.getfield 317, 3) := by decide +kernel
theorem dX11_rests_65 : decode cX11_rests 65 = .ok (.iload 7, 2) := by decide +kernel
theorem dX11_rests_67 : decode cX11_rests 67 = .ok (.aload_n 0, 1) := by decide +kernel
theorem dX11_rests_68 : decode cX11_rests 68 = .ok (.getfield 94, 3) := by decide +kernel
theorem dX11_rests_71 : decode cX11_rests 71 = .ok (.iload_n 1, 1) := by decide +kernel
theorem dX11_rests_72 : decode cX11_rests 72 = .ok (.iload_n 2, 1) := by decide +kernel
theorem dX11_rests_73 : decode cX11_rests 73 = .ok (.iload 5, 2) := by decide +kernel
theorem dX11_rests_75 : decode cX11_rests 75 = .ok (.iload 8, 2) := by decide +kernel
theorem dX11_rests_77 : decode cX11_rests 77 = .ok (.invokevirtual 314, 3) := by decide +kernel
theorem dX11_rests_80 : decode cX11_rests 80 = .ok (.iastore, 1) := by decide +kernel
theorem dX11_rests_81 : decode cX11_rests 81 = .ok (.iinc 7 1, 3) := by decide +kernel
theorem dX11_rests_84 : decode cX11_rests 84 = .ok (.goto (-59), 3) := by decide +kernel
theorem dX11_rests_87 : decode cX11_rests 87 = .ok (.aload_n 0, 1) := by decide +kernel
theorem dX11_rests_88 : decode cX11_rests 88 = .ok (.getfield 94, 3) := by decide +kernel
theorem dX11_rests_91 : decode cX11_rests 91 = .ok (.iload 6, 2) := by decide +kernel
theorem dX11_rests_93 : decode cX11_rests 93 = .ok (.invokevirtual 320, 3) := by decide +kernel
theorem dX11_rests_96 : decode cX11_rests 96 = .ok (.ireturn, 1) := by decide +kernel
theorem dX11_reads_0 : decode cX11_reads 0 = .ok (.aload_n 0, 1) := by decide +kernel
theorem dX11_reads_1 : decode cX11_reads 1 = .ok (.getfield 19, 3) := by decide +kernel
theorem dX11_reads_4 : decode cX11_reads 4 = .ok (.invokevirtual 135, 3) := by decide +kernel
theorem dX11_reads_7 : decode cX11_reads 7 = .ok (.ifCond .eq 13, 3) := by decide +kernel
theorem dX11_reads_10 : decode cX11_reads 10 = .ok (.iload_n 1, 1) := by decide +kernel
theorem dX11_reads_11 : decode cX11_reads 11 = .ok (.ifCond .lt 9, 3) := by decide +kernel
theorem dX11_reads_14 : decode cX11_reads 14 = .ok (.iload_n 1, 1) := by decide +kernel
theorem dX11_reads_15 : decode cX11_reads 15 = .ok (.bipush 60, 2) := by decide +kernel
theorem dX11_reads_17 : decode cX11_reads 17 = .ok (.if_icmp .le 5, 3) := by decide +kernel
theorem dX11_reads_20 : decode cX11_reads 20 = .ok (.iconst (-1), 1) := by decide +kernel
theorem dX11_reads_21 : decode cX11_reads 21 = .ok (.ireturn, 1) := by decide +kernel
theorem dX11_reads_22 : decode cX11_reads 22 = .ok (.aload_n 0, 1) := by decide +kernel
theorem dX11_reads_23 : decode cX11_reads 23 = .ok (.getfield 19, 3) := by decide +kernel
theorem dX11_reads_26 : decode cX11_reads 26 = .ok (.aload_n 0, 1) := by decide +kernel
theorem dX11_reads_27 : decode cX11_reads 27 = .ok (.getfield 94, 3) := by decide +kernel
theorem dX11_reads_30 : decode cX11_reads 30 = .ok (.iload_n 1, 1) := by decide +kernel
theorem dX11_reads_31 : decode cX11_reads 31 = .ok (.aload_n 0, 1) := by decide +kernel
theorem dX11_reads_32 : decode cX11_reads 32 = .ok (.getfield 58, 3) := by decide +kernel
theorem dX11_reads_35 : decode cX11_reads 35 = .ok (.getfield 250, 3) := by decide +kernel
theorem dX11_reads_38 : decode cX11_reads 38 = .ok (.invokevirtual 253, 3) := by decide +kernel
theorem dX11_reads_41 : decode cX11_reads 41 = .ok (.invokevirtual 323, 3) := by decide +kernel
theorem dX11_reads_44 : decode cX11_reads 44 = .ok (.ireturn, 1) := by decide +kernel
theorem dX11_darkest_0 : decode cX11_darkest 0 = .ok (.aload_n 0, 1) := by decide +kernel
theorem dX11_darkest_1 : decode cX11_darkest 1 = .ok (.getfield 19, 3) := by decide +kernel
theorem dX11_darkest_4 : decode cX11_darkest 4 = .ok (.invokevirtual 135, 3) := by decide +kernel
theorem dX11_darkest_7 : decode cX11_darkest 7 = .ok (.ifCond .eq 13, 3) := by decide +kernel
theorem dX11_darkest_10 : decode cX11_darkest 10 = .ok (.aload_n 0, 1) := by decide +kernel
theorem dX11_darkest_11 : decode cX11_darkest 11 = .ok (.getfield 94, 3) := by decide +kernel
theorem dX11_darkest_14 : decode cX11_darkest 14 = .ok (.invokevirtual 326, 3) := by decide +kernel
theorem dX11_darkest_17 : decode cX11_darkest 17 = .ok (.goto 4, 3) := by decide +kernel
theorem dX11_darkest_20 : decode cX11_darkest 20 = .ok (.iconst (-1), 1) := by decide +kernel
theorem dX11_darkest_21 : decode cX11_darkest 21 = .ok (.ireturn, 1) := by decide +kernel
theorem dX11_rent_0 : decode cX11_rent 0 = .ok (.aload_n 0, 1) := by decide +kernel
theorem dX11_rent_1 : decode cX11_rent 1 = .ok (.getfield 19, 3) := by decide +kernel
theorem dX11_rent_4 : decode cX11_rent 4 = .ok (.iload_n 1, 1) := by decide +kernel
theorem dX11_rent_5 : decode cX11_rent 5 = .ok (.invokevirtual 142, 3) := by decide +kernel
theorem dX11_rent_8 : decode cX11_rent 8 = .ok (.ifCond .eq 14, 3) := by decide +kernel
theorem dX11_rent_11 : decode cX11_rent 11 = .ok (.aload_n 0, 1) := by decide +kernel
theorem dX11_rent_12 : decode cX11_rent 12 = .ok (.getfield 94, 3) := by decide +kernel
theorem dX11_rent_15 : decode cX11_rent 15 = .ok (.iload_n 1, 1) := by decide +kernel
theorem dX11_rent_16 : decode cX11_rent 16 = .ok (.invokevirtual 329, 3) := by decide +kernel
theorem dX11_rent_19 : decode cX11_rent 19 = .ok (.goto 5, 3) := by decide +kernel
theorem dX11_rent_22 : decode cX11_rent 22 = .ok (.ldc 226, 2) := by decide +kernel
theorem dX11_rent_24 : decode cX11_rent 24 = .ok (.ireturn, 1) := by decide +kernel
theorem dX11_trend_0 : decode cX11_trend 0 = .ok (.aload_n 0, 1) := by decide +kernel
theorem dX11_trend_1 : decode cX11_trend 1 = .ok (.getfield 19, 3) := by decide +kernel
theorem dX11_trend_4 : decode cX11_trend 4 = .ok (.iload_n 1, 1) := by decide +kernel
theorem dX11_trend_5 : decode cX11_trend 5 = .ok (.invokevirtual 142, 3) := by decide +kernel
theorem dX11_trend_8 : decode cX11_trend 8 = .ok (.ifCond .ne 6, 3) := by decide +kernel
theorem dX11_trend_11 : decode cX11_trend 11 = .ok (.ldc 226, 2) := by decide +kernel
theorem dX11_trend_13 : decode cX11_trend 13 = .ok (.ireturn, 1) := by decide +kernel
theorem dX11_trend_14 : decode cX11_trend 14 = .ok (.aload_n 0, 1) := by decide +kernel
theorem dX11_trend_15 : decode cX11_trend 15 = .ok (.getfield 94, 3) := by decide +kernel
theorem dX11_trend_18 : decode cX11_trend 18 = .ok (.iconst 1, 1) := by decide +kernel
theorem dX11_trend_19 : decode cX11_trend 19 = .ok (.aload_n 0, 1) := by decide +kernel
theorem dX11_trend_20 : decode cX11_trend 20 = .ok (.getfield 58, 3) := by decide +kernel
theorem dX11_trend_23 : decode cX11_trend 23 = .ok (.getfield 250, 3) := by decide +kernel
theorem dX11_trend_26 : decode cX11_trend 26 = .ok (.invokevirtual 253, 3) := by decide +kernel
theorem dX11_trend_29 : decode cX11_trend 29 = .ok (.getfield 149, 3) := by decide +kernel
theorem dX11_trend_32 : decode cX11_trend 32 = .ok (.iload_n 1, 1) := by decide +kernel
theorem dX11_trend_33 : decode cX11_trend 33 = .ok (.iaload, 1) := by decide +kernel
theorem dX11_trend_34 : decode cX11_trend 34 = .ok (.aload_n 0, 1) := by decide +kernel
theorem dX11_trend_35 : decode cX11_trend 35 = .ok (.getfield 58, 3) := by decide +kernel
theorem dX11_trend_38 : decode cX11_trend 38 = .ok (.getfield 149, 3) := by decide +kernel
theorem dX11_trend_41 : decode cX11_trend 41 = .ok (.iload_n 1, 1) := by decide +kernel
theorem dX11_trend_42 : decode cX11_trend 42 = .ok (.iaload, 1) := by decide +kernel
theorem dX11_trend_43 : decode cX11_trend 43 = .ok (.isub, 1) := by decide +kernel
theorem dX11_trend_44 : decode cX11_trend 44 = .ok (.ireturn, 1) := by decide +kernel
theorem dX11_shares_0 : decode cX11_shares 0 = .ok (.aload_n 0, 1) := by decide +kernel
theorem dX11_shares_1 : decode cX11_shares 1 = .ok (.getfield 19, 3) := by decide +kernel
theorem dX11_shares_4 : decode cX11_shares 4 = .ok (.invokevirtual 135, 3) := by decide +kernel
theorem dX11_shares_7 : decode cX11_shares 7 = .ok (.ifCond .eq 13, 3) := by decide +kernel
theorem dX11_shares_10 : decode cX11_shares 10 = .ok (.aload_n 0, 1) := by decide +kernel
theorem dX11_shares_11 : decode cX11_shares 11 = .ok (.getfield 94, 3) := by decide +kernel
theorem dX11_shares_14 : decode cX11_shares 14 = .ok (.invokevirtual 332, 3) := by decide +kernel
theorem dX11_shares_17 : decode cX11_shares 17 = .ok (.goto 4, 3) := by decide +kernel
theorem dX11_shares_20 : decode cX11_shares 20 = .ok (.iconst (-1), 1) := by decide +kernel
theorem dX11_shares_21 : decode cX11_shares 21 = .ok (.ireturn, 1) := by decide +kernel
theorem dX11_largest_0 : decode cX11_largest 0 = .ok (.aload_n 0, 1) := by decide +kernel
theorem dX11_largest_1 : decode cX11_largest 1 = .ok (.getfield 19, 3) := by decide +kernel
theorem dX11_largest_4 : decode cX11_largest 4 = .ok (.invokevirtual 135, 3) := by decide +kernel
theorem dX11_largest_7 : decode cX11_largest 7 = .ok (.ifCond .eq 13, 3) := by decide +kernel
theorem dX11_largest_10 : decode cX11_largest 10 = .ok (.aload_n 0, 1) := by decide +kernel
theorem dX11_largest_11 : decode cX11_largest 11 = .ok (.getfield 94, 3) := by decide +kernel
theorem dX11_largest_14 : decode cX11_largest 14 = .ok (.invokevirtual 335, 3) := by decide +kernel
theorem dX11_largest_17 : decode cX11_largest 17 = .ok (.goto 4, 3) := by decide +kernel
theorem dX11_largest_20 : decode cX11_largest 20 = .ok (.iconst (-1), 1) := by decide +kernel
theorem dX11_largest_21 : decode cX11_largest 21 = .ok (.ireturn, 1) := by decide +kernel
theorem dX11_eaten_0 : decode cX11_eaten 0 = .ok (.aload_n 0, 1) := by decide +kernel
theorem dX11_eaten_1 : decode cX11_eaten 1 = .ok (.getfield 19, 3) := by decide +kernel
theorem dX11_eaten_4 : decode cX11_eaten 4 = .ok (.invokevirtual 135, 3) := by decide +kernel
theorem dX11_eaten_7 : decode cX11_eaten 7 = .ok (.ifCond .eq 14, 3) := by decide +kernel
theorem dX11_eaten_10 : decode cX11_eaten 10 = .ok (.iload_n 1, 1) := by decide +kernel
theorem dX11_eaten_11 : decode cX11_eaten 11 = .ok (.iconst 1, 1) := by decide +kernel
theorem dX11_eaten_12 : decode cX11_eaten 12 = .ok (.if_icmp .lt 9, 3) := by decide +kernel
theorem dX11_eaten_15 : decode cX11_eaten 15 = .ok (.iload_n 1, 1) := by decide +kernel
theorem dX11_eaten_16 : decode cX11_eaten 16 = .ok (.bipush 60, 2) := by decide +kernel
theorem dX11_eaten_18 : decode cX11_eaten 18 = .ok (.if_icmp .le 6, 3) := by decide +kernel
theorem dX11_eaten_21 : decode cX11_eaten 21 = .ok (.ldc 226, 2) := by decide +kernel
theorem dX11_eaten_23 : decode cX11_eaten 23 = .ok (.ireturn, 1) := by decide +kernel
theorem dX11_eaten_24 : decode cX11_eaten 24 = .ok (.aload_n 0, 1) := by decide +kernel
theorem dX11_eaten_25 : decode cX11_eaten 25 = .ok (.getfield 58, 3) := by decide +kernel
theorem dX11_eaten_28 : decode cX11_eaten 28 = .ok (.getfield 152, 3) := by decide +kernel
theorem dX11_eaten_31 : decode cX11_eaten 31 = .ok (.invokestatic 338, 3) := by decide +kernel
theorem dX11_eaten_34 : decode cX11_eaten 34 = .ok (.aload_n 0, 1) := by decide +kernel
theorem dX11_eaten_35 : decode cX11_eaten 35 = .ok (.getfield 94, 3) := by decide +kernel
theorem dX11_eaten_38 : decode cX11_eaten 38 = .ok (.iload_n 1, 1) := by decide +kernel
theorem dX11_eaten_39 : decode cX11_eaten 39 = .ok (.aload_n 0, 1) := by decide +kernel
theorem dX11_eaten_40 : decode cX11_eaten 40 = .ok (.getfield 58, 3) := by decide +kernel
theorem dX11_eaten_43 : decode cX11_eaten 43 = .ok (.getfield 250, 3) := by decide +kernel
theorem dX11_eaten_46 : decode cX11_eaten 46 = .ok (.invokevirtual 253, 3) := by decide +kernel
theorem dX11_eaten_49 : decode cX11_eaten 49 = .ok (.getfield 152, 3) := by decide +kernel
theorem dX11_eaten_52 : decode cX11_eaten 52 = .ok (.invokestatic 338, 3) := by decide +kernel
theorem dX11_eaten_55 : decode cX11_eaten 55 = .ok (.isub, 1) := by decide +kernel
theorem dX11_eaten_56 : decode cX11_eaten 56 = .ok (.ireturn, 1) := by decide +kernel
theorem dX11_image_0 : decode cX11_image 0 = .ok (.aload_n 0, 1) := by decide +kernel
theorem dX11_image_1 : decode cX11_image 1 = .ok (.getfield 19, 3) := by decide +kernel
theorem dX11_image_4 : decode cX11_image 4 = .ok (.invokevirtual 135, 3) := by decide +kernel
theorem dX11_image_7 : decode cX11_image 7 = .ok (.ifCond .ne 5, 3) := by decide +kernel
theorem dX11_image_10 : decode cX11_image 10 = .ok (.iconst (-1), 1) := by decide +kernel
theorem dX11_image_11 : decode cX11_image 11 = .ok (.ireturn, 1) := by decide +kernel
theorem dX11_image_12 : decode cX11_image 12 = .ok (.aload_n 0, 1) := by decide +kernel
theorem dX11_image_13 : decode cX11_image 13 = .ok (.getfield 76, 3) := by decide +kernel
theorem dX11_image_16 : decode cX11_image 16 = .ok (.aload_n 0, 1) := by decide +kernel
theorem dX11_image_17 : decode cX11_image 17 = .ok (.getfield 58, 3) := by decide +kernel
theorem dX11_image_20 : decode cX11_image 20 = .ok (.invokevirtual 342, 3) := by decide +kernel
theorem dX11_image_23 : decode cX11_image 23 = .ok (.aload_n 0, 1) := by decide +kernel
theorem dX11_image_24 : decode cX11_image 24 = .ok (.getfield 79, 3) := by decide +kernel
theorem dX11_image_27 : decode cX11_image 27 = .ok (.aload_n 0, 1) := by decide +kernel
theorem dX11_image_28 : decode cX11_image 28 = .ok (.getfield 65, 3) := by decide +kernel
theorem dX11_image_31 : decode cX11_image 31 = .ok (.invokevirtual 346, 3) := by decide +kernel
theorem dX11_image_34 : decode cX11_image 34 = .ok (.aload_n 0, 1) := by decide +kernel
theorem dX11_image_35 : decode cX11_image 35 = .ok (.iconst 1, 1) := by decide +kernel
theorem dX11_image_36 : decode cX11_image 36 = .ok (.putfield 349, 3) := by decide +kernel
theorem dX11_image_39 : decode cX11_image 39 = .ok (.aload_n 0, 1) := by decide +kernel
theorem dX11_image_40 : decode cX11_image 40 = .ok (.getfield 58, 3) := by decide +kernel
theorem dX11_image_43 : decode cX11_image 43 = .ok (.getfield 192, 3) := by decide +kernel
theorem dX11_image_46 : decode cX11_image 46 = .ok (.ireturn, 1) := by decide +kernel
theorem dX11_back_0 : decode cX11_back 0 = .ok (.aload_n 0, 1) := by decide +kernel
theorem dX11_back_1 : decode cX11_back 1 = .ok (.getfield 349, 3) := by decide +kernel
theorem dX11_back_4 : decode cX11_back 4 = .ok (.ifCond .ne 5, 3) := by decide +kernel
theorem dX11_back_7 : decode cX11_back 7 = .ok (.iconst (-1), 1) := by decide +kernel
theorem dX11_back_8 : decode cX11_back 8 = .ok (.ireturn, 1) := by decide +kernel
theorem dX11_back_9 : decode cX11_back 9 = .ok (.aload_n 0, 1) := by decide +kernel
theorem dX11_back_10 : decode cX11_back 10 = .ok (.getfield 58, 3) := by decide +kernel
theorem dX11_back_13 : decode cX11_back 13 = .ok (.aload_n 0, 1) := by decide +kernel
theorem dX11_back_14 : decode cX11_back 14 = .ok (.getfield 76, 3) := by decide +kernel
theorem dX11_back_17 : decode cX11_back 17 = .ok (.invokevirtual 342, 3) := by decide +kernel
theorem dX11_back_20 : decode cX11_back 20 = .ok (.aload_n 0, 1) := by decide +kernel
theorem dX11_back_21 : decode cX11_back 21 = .ok (.getfield 65, 3) := by decide +kernel
theorem dX11_back_24 : decode cX11_back 24 = .ok (.aload_n 0, 1) := by decide +kernel
theorem dX11_back_25 : decode cX11_back 25 = .ok (.getfield 79, 3) := by decide +kernel
theorem dX11_back_28 : decode cX11_back 28 = .ok (.invokevirtual 346, 3) := by decide +kernel
theorem dX11_back_31 : decode cX11_back 31 = .ok (.aload_n 0, 1) := by decide +kernel
theorem dX11_back_32 : decode cX11_back 32 = .ok (.getfield 72, 3) := by decide +kernel
theorem dX11_back_35 : decode cX11_back 35 = .ok (.invokevirtual 353, 3) := by decide +kernel
theorem dX11_back_38 : decode cX11_back 38 = .ok (.aload_n 0, 1) := by decide +kernel
theorem dX11_back_39 : decode cX11_back 39 = .ok (.getfield 58, 3) := by decide +kernel
theorem dX11_back_42 : decode cX11_back 42 = .ok (.getfield 192, 3) := by decide +kernel
theorem dX11_back_45 : decode cX11_back 45 = .ok (.ireturn, 1) := by decide +kernel
theorem dX11_count_0 : decode cX11_count 0 = .ok (.iload_n 1, 1) := by decide +kernel
theorem dX11_count_1 : decode cX11_count 1 = .ok (.tableswitch 267 0 18 #[91, 99, 107, 115, 120, 128, 136, 144, 155, 166, 177, 185, 205, 225, 230, 235, 243, 251, 259], 91) := by decide +kernel
theorem dX11_count_92 : decode cX11_count 92 = .ok (.aload_n 0, 1) := by decide +kernel
theorem dX11_count_93 : decode cX11_count 93 = .ok (.getfield 19, 3) := by decide +kernel
theorem dX11_count_96 : decode cX11_count 96 = .ok (.getfield 269, 3) := by decide +kernel
theorem dX11_count_99 : decode cX11_count 99 = .ok (.ireturn, 1) := by decide +kernel
theorem dX11_count_100 : decode cX11_count 100 = .ok (.aload_n 0, 1) := by decide +kernel
theorem dX11_count_101 : decode cX11_count 101 = .ok (.getfield 19, 3) := by decide +kernel
theorem dX11_count_104 : decode cX11_count 104 = .ok (.getfield 356, 3) := by decide +kernel
theorem dX11_count_107 : decode cX11_count 107 = .ok (.ireturn, 1) := by decide +kernel
theorem dX11_count_108 : decode cX11_count 108 = .ok (.aload_n 0, 1) := by decide +kernel
theorem dX11_count_109 : decode cX11_count 109 = .ok (.getfield 40, 3) := by decide +kernel
theorem dX11_count_112 : decode cX11_count 112 = .ok (.getfield 175, 3) := by decide +kernel
theorem dX11_count_115 : decode cX11_count 115 = .ok (.ireturn, 1) := by decide +kernel
theorem dX11_count_116 : decode cX11_count 116 = .ok (.aload_n 0, 1) := by decide +kernel
theorem dX11_count_117 : decode cX11_count 117 = .ok (.getfield 359, 3) := by decide +kernel
theorem dX11_count_120 : decode cX11_count 120 = .ok (.ireturn, 1) := by decide +kernel
theorem dX11_count_121 : decode cX11_count 121 = .ok (.aload_n 0, 1) := by decide +kernel
theorem dX11_count_122 : decode cX11_count 122 = .ok (.getfield 10, 3) := by decide +kernel
theorem dX11_count_125 : decode cX11_count 125 = .ok (.getfield 106, 3) := by decide +kernel
theorem dX11_count_128 : decode cX11_count 128 = .ok (.ireturn, 1) := by decide +kernel
theorem dX11_count_129 : decode cX11_count 129 = .ok (.aload_n 0, 1) := by decide +kernel
theorem dX11_count_130 : decode cX11_count 130 = .ok (.getfield 40, 3) := by decide +kernel
theorem dX11_count_133 : decode cX11_count 133 = .ok (.getfield 178, 3) := by decide +kernel
theorem dX11_count_136 : decode cX11_count 136 = .ok (.ireturn, 1) := by decide +kernel
theorem dX11_count_137 : decode cX11_count 137 = .ok (.aload_n 0, 1) := by decide +kernel
theorem dX11_count_138 : decode cX11_count 138 = .ok (.getfield 58, 3) := by decide +kernel
theorem dX11_count_141 : decode cX11_count 141 = .ok (.getfield 192, 3) := by decide +kernel
theorem dX11_count_144 : decode cX11_count 144 = .ok (.ireturn, 1) := by decide +kernel
theorem dX11_count_145 : decode cX11_count 145 = .ok (.aload_n 0, 1) := by decide +kernel
theorem dX11_count_146 : decode cX11_count 146 = .ok (.getfield 58, 3) := by decide +kernel
theorem dX11_count_149 : decode cX11_count 149 = .ok (.getfield 149, 3) := by decide +kernel
theorem dX11_count_152 : decode cX11_count 152 = .ok (.invokestatic 338, 3) := by decide +kernel
theorem dX11_count_155 : decode cX11_count 155 = .ok (.ireturn, 1) := by decide +kernel
theorem dX11_count_156 : decode cX11_count 156 = .ok (.aload_n 0, 1) := by decide +kernel
theorem dX11_count_157 : decode cX11_count 157 = .ok (.getfield 58, 3) := by decide +kernel
theorem dX11_count_160 : decode cX11_count 160 = .ok (.getfield 152, 3) := by decide +kernel
theorem dX11_count_163 : decode cX11_count 163 = .ok (.invokestatic 338, 3) := by decide +kernel
theorem dX11_count_166 : decode cX11_count 166 = .ok (.ireturn, 1) := by decide +kernel
theorem dX11_count_167 : decode cX11_count 167 = .ok (.aload_n 0, 1) := by decide +kernel
theorem dX11_count_168 : decode cX11_count 168 = .ok (.getfield 58, 3) := by decide +kernel
theorem dX11_count_171 : decode cX11_count 171 = .ok (.getfield 155, 3) := by decide +kernel
theorem dX11_count_174 : decode cX11_count 174 = .ok (.invokestatic 338, 3) := by decide +kernel
theorem dX11_count_177 : decode cX11_count 177 = .ok (.ireturn, 1) := by decide +kernel
theorem dX11_count_178 : decode cX11_count 178 = .ok (.aload_n 0, 1) := by decide +kernel
theorem dX11_count_179 : decode cX11_count 179 = .ok (.getfield 58, 3) := by decide +kernel
theorem dX11_count_182 : decode cX11_count 182 = .ok (.getfield 362, 3) := by decide +kernel
theorem dX11_count_185 : decode cX11_count 185 = .ok (.ireturn, 1) := by decide +kernel
theorem dX11_count_186 : decode cX11_count 186 = .ok (.aload_n 0, 1) := by decide +kernel
theorem dX11_count_187 : decode cX11_count 187 = .ok (.getfield 58, 3) := by decide +kernel
theorem dX11_count_190 : decode cX11_count 190 = .ok (.getfield 149, 3) := by decide +kernel
theorem dX11_count_193 : decode cX11_count 193 = .ok (.invokestatic 338, 3) := by decide +kernel
theorem dX11_count_196 : decode cX11_count 196 = .ok (.aload_n 0, 1) := by decide +kernel
theorem dX11_count_197 : decode cX11_count 197 = .ok (.getfield 19, 3) := by decide +kernel
theorem dX11_count_200 : decode cX11_count 200 = .ok (.iconst 3, 1) := by decide +kernel
theorem dX11_count_201 : decode cX11_count 201 = .ok (.invokevirtual 365, 3) := by decide +kernel
theorem dX11_count_204 : decode cX11_count 204 = .ok (.isub, 1) := by decide +kernel
theorem dX11_count_205 : decode cX11_count 205 = .ok (.ireturn, 1) := by decide +kernel
theorem dX11_count_206 : decode cX11_count 206 = .ok (.aload_n 0, 1) := by decide +kernel
theorem dX11_count_207 : decode cX11_count 207 = .ok (.getfield 19, 3) := by decide +kernel
theorem dX11_count_210 : decode cX11_count 210 = .ok (.iconst 1, 1) := by decide +kernel
theorem dX11_count_211 : decode cX11_count 211 = .ok (.invokevirtual 365, 3) := by decide +kernel
theorem dX11_count_214 : decode cX11_count 214 = .ok (.aload_n 0, 1) := by decide +kernel
theorem dX11_count_215 : decode cX11_count 215 = .ok (.getfield 58, 3) := by decide +kernel
theorem dX11_count_218 : decode cX11_count 218 = .ok (.getfield 149, 3) := by decide +kernel
theorem dX11_count_221 : decode cX11_count 221 = .ok (.invokestatic 338, 3) := by decide +kernel
theorem dX11_count_224 : decode cX11_count 224 = .ok (.isub, 1) := by decide +kernel
theorem dX11_count_225 : decode cX11_count 225 = .ok (.ireturn, 1) := by decide +kernel
theorem dX11_count_226 : decode cX11_count 226 = .ok (.aload_n 0, 1) := by decide +kernel
theorem dX11_count_227 : decode cX11_count 227 = .ok (.getfield 98, 3) := by decide +kernel
theorem dX11_count_230 : decode cX11_count 230 = .ok (.ireturn, 1) := by decide +kernel
theorem dX11_count_231 : decode cX11_count 231 = .ok (.aload_n 0, 1) := by decide +kernel
theorem dX11_count_232 : decode cX11_count 232 = .ok (.getfield 181, 3) := by decide +kernel
theorem dX11_count_235 : decode cX11_count 235 = .ok (.ireturn, 1) := by decide +kernel
theorem dX11_count_236 : decode cX11_count 236 = .ok (.aload_n 0, 1) := by decide +kernel
theorem dX11_count_237 : decode cX11_count 237 = .ok (.getfield 58, 3) := by decide +kernel
theorem dX11_count_240 : decode cX11_count 240 = .ok (.getfield 250, 3) := by decide +kernel
theorem dX11_count_243 : decode cX11_count 243 = .ok (.ireturn, 1) := by decide +kernel
theorem dX11_count_244 : decode cX11_count 244 = .ok (.aload_n 0, 1) := by decide +kernel
theorem dX11_count_245 : decode cX11_count 245 = .ok (.getfield 85, 3) := by decide +kernel
theorem dX11_count_248 : decode cX11_count 248 = .ok (.getfield 293, 3) := by decide +kernel
theorem dX11_count_251 : decode cX11_count 251 = .ok (.ireturn, 1) := by decide +kernel
theorem dX11_count_252 : decode cX11_count 252 = .ok (.aload_n 0, 1) := by decide +kernel
theorem dX11_count_253 : decode cX11_count 253 = .ok (.getfield 65, 3) := by decide +kernel
theorem dX11_count_256 : decode cX11_count 256 = .ok (.invokevirtual 368, 3) := by decide +kernel
theorem dX11_count_259 : decode cX11_count 259 = .ok (.ireturn, 1) := by decide +kernel
theorem dX11_count_260 : decode cX11_count 260 = .ok (.aload_n 0, 1) := by decide +kernel
theorem dX11_count_261 : decode cX11_count 261 = .ok (.getfield 72, 3) := by decide +kernel
theorem dX11_count_264 : decode cX11_count 264 = .ok (.getfield 213, 3) := by decide +kernel
theorem dX11_count_267 : decode cX11_count 267 = .ok (.ireturn, 1) := by decide +kernel
theorem dX11_count_268 : decode cX11_count 268 = .ok (.ldc 226, 2) := by decide +kernel
theorem dX11_count_270 : decode cX11_count 270 = .ok (.ireturn, 1) := by decide +kernel
theorem dX11_settleTown_0 : decode cX11_settleTown 0 = .ok (.aload_n 0, 1) := by decide +kernel
theorem dX11_settleTown_1 : decode cX11_settleTown 1 = .ok (.getfield 23, 3) := by decide +kernel
theorem dX11_settleTown_4 : decode cX11_settleTown 4 = .ok (.aload_n 0, 1) := by decide +kernel
theorem dX11_settleTown_5 : decode cX11_settleTown 5 = .ok (.getfield 10, 3) := by decide +kernel
theorem dX11_settleTown_8 : decode cX11_settleTown 8 = .ok (.invokevirtual 113, 3) := by decide +kernel
theorem dX11_settleTown_11 : decode cX11_settleTown 11 = .ok (.ifCond .ne 5, 3) := by decide +kernel
theorem dX11_settleTown_14 : decode cX11_settleTown 14 = .ok (.iconst (-1), 1) := by decide +kernel
theorem dX11_settleTown_15 : decode cX11_settleTown 15 = .ok (.ireturn, 1) := by decide +kernel
theorem dX11_settleTown_16 : decode cX11_settleTown 16 = .ok (.aload_n 0, 1) := by decide +kernel
theorem dX11_settleTown_17 : decode cX11_settleTown 17 = .ok (.getfield 19, 3) := by decide +kernel
theorem dX11_settleTown_20 : decode cX11_settleTown 20 = .ok (.aload_n 0, 1) := by decide +kernel
theorem dX11_settleTown_21 : decode cX11_settleTown 21 = .ok (.getfield 23, 3) := by decide +kernel
theorem dX11_settleTown_24 : decode cX11_settleTown 24 = .ok (.invokevirtual 370, 3) := by decide +kernel
theorem dX11_settleTown_27 : decode cX11_settleTown 27 = .ok (.aload_n 0, 1) := by decide +kernel
theorem dX11_settleTown_28 : decode cX11_settleTown 28 = .ok (.getfield 10, 3) := by decide +kernel
theorem dX11_settleTown_31 : decode cX11_settleTown 31 = .ok (.iconst 0, 1) := by decide +kernel
theorem dX11_settleTown_32 : decode cX11_settleTown 32 = .ok (.putfield 106, 3) := by decide +kernel
theorem dX11_settleTown_35 : decode cX11_settleTown 35 = .ok (.aload_n 0, 1) := by decide +kernel
theorem dX11_settleTown_36 : decode cX11_settleTown 36 = .ok (.getfield 58, 3) := by decide +kernel
theorem dX11_settleTown_39 : decode cX11_settleTown 39 = .ok (.aload_n 0, 1) := by decide +kernel
theorem dX11_settleTown_40 : decode cX11_settleTown 40 = .ok (.getfield 19, 3) := by decide +kernel
theorem dX11_settleTown_43 : decode cX11_settleTown 43 = .ok (.invokevirtual 372, 3) := by decide +kernel
theorem dX11_settleTown_46 : decode cX11_settleTown 46 = .ok (.aload_n 0, 1) := by decide +kernel
theorem dX11_settleTown_47 : decode cX11_settleTown 47 = .ok (.getfield 65, 3) := by decide +kernel
theorem dX11_settleTown_50 : decode cX11_settleTown 50 = .ok (.iconst 0, 1) := by decide +kernel
theorem dX11_settleTown_51 : decode cX11_settleTown 51 = .ok (.putfield 375, 3) := by decide +kernel
theorem dX11_settleTown_54 : decode cX11_settleTown 54 = .ok (.aload_n 0, 1) := by decide +kernel
theorem dX11_settleTown_55 : decode cX11_settleTown 55 = .ok (.getfield 72, 3) := by decide +kernel
theorem dX11_settleTown_58 : decode cX11_settleTown 58 = .ok (.invokevirtual 353, 3) := by decide +kernel
theorem dX11_settleTown_61 : decode cX11_settleTown 61 = .ok (.aload_n 0, 1) := by decide +kernel
theorem dX11_settleTown_62 : decode cX11_settleTown 62 = .ok (.getfield 85, 3) := by decide +kernel
theorem dX11_settleTown_65 : decode cX11_settleTown 65 = .ok (.iconst 0, 1) := by decide +kernel
theorem dX11_settleTown_66 : decode cX11_settleTown 66 = .ok (.putfield 293, 3) := by decide +kernel
theorem dX11_settleTown_69 : decode cX11_settleTown 69 = .ok (.aload_n 0, 1) := by decide +kernel
theorem dX11_settleTown_70 : decode cX11_settleTown 70 = .ok (.iconst 0, 1) := by decide +kernel
theorem dX11_settleTown_71 : decode cX11_settleTown 71 = .ok (.putfield 349, 3) := by decide +kernel
theorem dX11_settleTown_74 : decode cX11_settleTown 74 = .ok (.aload_n 0, 1) := by decide +kernel
theorem dX11_settleTown_75 : decode cX11_settleTown 75 = .ok (.getfield 19, 3) := by decide +kernel
theorem dX11_settleTown_78 : decode cX11_settleTown 78 = .ok (.getfield 269, 3) := by decide +kernel
theorem dX11_settleTown_81 : decode cX11_settleTown 81 = .ok (.ireturn, 1) := by decide +kernel
theorem dX11_keepLaw_0 : decode cX11_keepLaw 0 = .ok (.aload_n 0, 1) := by decide +kernel
theorem dX11_keepLaw_1 : decode cX11_keepLaw 1 = .ok (.getfield 40, 3) := by decide +kernel
theorem dX11_keepLaw_4 : decode cX11_keepLaw 4 = .ok (.getfield 175, 3) := by decide +kernel
theorem dX11_keepLaw_7 : decode cX11_keepLaw 7 = .ok (.iconst 4, 1) := by decide +kernel
theorem dX11_keepLaw_8 : decode cX11_keepLaw 8 = .ok (.if_icmp .ge 13, 3) := by decide +kernel
theorem dX11_keepLaw_11 : decode cX11_keepLaw 11 = .ok (.aload_n 0, 1) := by decide +kernel
theorem dX11_keepLaw_12 : decode cX11_keepLaw 12 = .ok (.getfield 31, 3) := by decide +kernel
theorem dX11_keepLaw_15 : decode cX11_keepLaw 15 = .ok (.invokevirtual 117, 3) := by decide +kernel
theorem dX11_keepLaw_18 : decode cX11_keepLaw 18 = .ok (.ifCond .ne 5, 3) := by decide +kernel
theorem dX11_keepLaw_21 : decode cX11_keepLaw 21 = .ok (.iconst (-1), 1) := by decide +kernel
theorem dX11_keepLaw_22 : decode cX11_keepLaw 22 = .ok (.ireturn, 1) := by decide +kernel
theorem dX11_keepLaw_23 : decode cX11_keepLaw 23 = .ok (.aload_n 0, 1) := by decide +kernel
theorem dX11_keepLaw_24 : decode cX11_keepLaw 24 = .ok (.getfield 40, 3) := by decide +kernel
theorem dX11_keepLaw_27 : decode cX11_keepLaw 27 = .ok (.getfield 378, 3) := by decide +kernel
theorem dX11_keepLaw_30 : decode cX11_keepLaw 30 = .ok (.aload_n 0, 1) := by decide +kernel
theorem dX11_keepLaw_31 : decode cX11_keepLaw 31 = .ok (.getfield 40, 3) := by decide +kernel
theorem dX11_keepLaw_34 : decode cX11_keepLaw 34 = .ok (.getfield 175, 3) := by decide +kernel
theorem dX11_keepLaw_37 : decode cX11_keepLaw 37 = .ok (.aaload, 1) := by decide +kernel
theorem dX11_keepLaw_38 : decode cX11_keepLaw 38 = .ok (.aload_n 0, 1) := by decide +kernel
theorem dX11_keepLaw_39 : decode cX11_keepLaw 39 = .ok (.getfield 31, 3) := by decide +kernel
theorem dX11_keepLaw_42 : decode cX11_keepLaw 42 = .ok (.getfield 382, 3) := by decide +kernel
theorem dX11_keepLaw_45 : decode cX11_keepLaw 45 = .ok (.invokevirtual 386, 3) := by decide +kernel
theorem dX11_keepLaw_48 : decode cX11_keepLaw 48 = .ok (.aload_n 0, 1) := by decide +kernel
theorem dX11_keepLaw_49 : decode cX11_keepLaw 49 = .ok (.getfield 40, 3) := by decide +kernel
theorem dX11_keepLaw_52 : decode cX11_keepLaw 52 = .ok (.dup, 1) := by decide +kernel
theorem dX11_keepLaw_53 : decode cX11_keepLaw 53 = .ok (.getfield 175, 3) := by decide +kernel
theorem dX11_keepLaw_56 : decode cX11_keepLaw 56 = .ok (.iconst 1, 1) := by decide +kernel
theorem dX11_keepLaw_57 : decode cX11_keepLaw 57 = .ok (.iadd, 1) := by decide +kernel
theorem dX11_keepLaw_58 : decode cX11_keepLaw 58 = .ok (.putfield 175, 3) := by decide +kernel
theorem dX11_keepLaw_61 : decode cX11_keepLaw 61 = .ok (.aload_n 0, 1) := by decide +kernel
theorem dX11_keepLaw_62 : decode cX11_keepLaw 62 = .ok (.getfield 10, 3) := by decide +kernel
theorem dX11_keepLaw_65 : decode cX11_keepLaw 65 = .ok (.iconst 0, 1) := by decide +kernel
theorem dX11_keepLaw_66 : decode cX11_keepLaw 66 = .ok (.putfield 106, 3) := by decide +kernel
theorem dX11_keepLaw_69 : decode cX11_keepLaw 69 = .ok (.aload_n 0, 1) := by decide +kernel
theorem dX11_keepLaw_70 : decode cX11_keepLaw 70 = .ok (.getfield 40, 3) := by decide +kernel
theorem dX11_keepLaw_73 : decode cX11_keepLaw 73 = .ok (.getfield 175, 3) := by decide +kernel
theorem dX11_keepLaw_76 : decode cX11_keepLaw 76 = .ok (.iconst 1, 1) := by decide +kernel
theorem dX11_keepLaw_77 : decode cX11_keepLaw 77 = .ok (.isub, 1) := by decide +kernel
theorem dX11_keepLaw_78 : decode cX11_keepLaw 78 = .ok (.ireturn, 1) := by decide +kernel
theorem dX11_keepPlan_0 : decode cX11_keepPlan 0 = .ok (.aload_n 0, 1) := by decide +kernel
theorem dX11_keepPlan_1 : decode cX11_keepPlan 1 = .ok (.getfield 359, 3) := by decide +kernel
theorem dX11_keepPlan_4 : decode cX11_keepPlan 4 = .ok (.iconst 4, 1) := by decide +kernel
theorem dX11_keepPlan_5 : decode cX11_keepPlan 5 = .ok (.if_icmp .ge 17, 3) := by decide +kernel
theorem dX11_keepPlan_8 : decode cX11_keepPlan 8 = .ok (.aload_n 0, 1) := by decide +kernel
theorem dX11_keepPlan_9 : decode cX11_keepPlan 9 = .ok (.getfield 51, 3) := by decide +kernel
theorem dX11_keepPlan_12 : decode cX11_keepPlan 12 = .ok (.aload_n 0, 1) := by decide +kernel
theorem dX11_keepPlan_13 : decode cX11_keepPlan 13 = .ok (.getfield 10, 3) := by decide +kernel
theorem dX11_keepPlan_16 : decode cX11_keepPlan 16 = .ok (.invokevirtual 121, 3) := by decide +kernel
theorem dX11_keepPlan_19 : decode cX11_keepPlan 19 = .ok (.ifCond .ne 5, 3) := by decide +kernel
theorem dX11_keepPlan_22 : decode cX11_keepPlan 22 = .ok (.iconst (-1), 1) := by decide +kernel
theorem dX11_keepPlan_23 : decode cX11_keepPlan 23 = .ok (.ireturn, 1) := by decide +kernel
theorem dX11_keepPlan_24 : decode cX11_keepPlan 24 = .ok (.aload_n 0, 1) := by decide +kernel
theorem dX11_keepPlan_25 : decode cX11_keepPlan 25 = .ok (.getfield 46, 3) := by decide +kernel
theorem dX11_keepPlan_28 : decode cX11_keepPlan 28 = .ok (.aload_n 0, 1) := by decide +kernel
theorem dX11_keepPlan_29 : decode cX11_keepPlan 29 = .ok (.getfield 359, 3) := by decide +kernel
theorem dX11_keepPlan_32 : decode cX11_keepPlan 32 = .ok (.aaload, 1) := by decide +kernel
theorem dX11_keepPlan_33 : decode cX11_keepPlan 33 = .ok (.aload_n 0, 1) := by decide +kernel
theorem dX11_keepPlan_34 : decode cX11_keepPlan 34 = .ok (.getfield 51, 3) := by decide +kernel
theorem dX11_keepPlan_37 : decode cX11_keepPlan 37 = .ok (.invokevirtual 391, 3) := by decide +kernel
theorem dX11_keepPlan_40 : decode cX11_keepPlan 40 = .ok (.aload_n 0, 1) := by decide +kernel
theorem dX11_keepPlan_41 : decode cX11_keepPlan 41 = .ok (.dup, 1) := by decide +kernel
theorem dX11_keepPlan_42 : decode cX11_keepPlan 42 = .ok (.getfield 359, 3) := by decide +kernel
theorem dX11_keepPlan_45 : decode cX11_keepPlan 45 = .ok (.iconst 1, 1) := by decide +kernel
theorem dX11_keepPlan_46 : decode cX11_keepPlan 46 = .ok (.iadd, 1) := by decide +kernel
theorem dX11_keepPlan_47 : decode cX11_keepPlan 47 = .ok (.putfield 359, 3) := by decide +kernel
theorem dX11_keepPlan_50 : decode cX11_keepPlan 50 = .ok (.aload_n 0, 1) := by decide +kernel
theorem dX11_keepPlan_51 : decode cX11_keepPlan 51 = .ok (.getfield 10, 3) := by decide +kernel
theorem dX11_keepPlan_54 : decode cX11_keepPlan 54 = .ok (.iconst 0, 1) := by decide +kernel
theorem dX11_keepPlan_55 : decode cX11_keepPlan 55 = .ok (.putfield 106, 3) := by decide +kernel
theorem dX11_keepPlan_58 : decode cX11_keepPlan 58 = .ok (.aload_n 0, 1) := by decide +kernel
theorem dX11_keepPlan_59 : decode cX11_keepPlan 59 = .ok (.getfield 359, 3) := by decide +kernel
theorem dX11_keepPlan_62 : decode cX11_keepPlan 62 = .ok (.iconst 1, 1) := by decide +kernel
theorem dX11_keepPlan_63 : decode cX11_keepPlan 63 = .ok (.isub, 1) := by decide +kernel
theorem dX11_keepPlan_64 : decode cX11_keepPlan 64 = .ok (.ireturn, 1) := by decide +kernel
theorem dX11_hasPlan_0 : decode cX11_hasPlan 0 = .ok (.iload_n 1, 1) := by decide +kernel
theorem dX11_hasPlan_1 : decode cX11_hasPlan 1 = .ok (.ifCond .lt 15, 3) := by decide +kernel
theorem dX11_hasPlan_4 : decode cX11_hasPlan 4 = .ok (.iload_n 1, 1) := by decide +kernel
theorem dX11_hasPlan_5 : decode cX11_hasPlan 5 = .ok (.aload_n 0, 1) := by decide +kernel
theorem dX11_hasPlan_6 : decode cX11_hasPlan 6 = .ok (.getfield 359, 3) := by decide +kernel
theorem dX11_hasPlan_9 : decode cX11_hasPlan 9 = .ok (.if_icmp .ge 7, 3) := by decide +kernel
theorem dX11_hasPlan_12 : decode cX11_hasPlan 12 = .ok (.iconst 1, 1) := by decide +kernel
theorem dX11_hasPlan_13 : decode cX11_hasPlan 13 = .ok (.goto 4, 3) := by decide +kernel
theorem dX11_hasPlan_16 : decode cX11_hasPlan 16 = .ok (.iconst 0, 1) := by decide +kernel
theorem dX11_hasPlan_17 : decode cX11_hasPlan 17 = .ok (.ireturn, 1) := by decide +kernel
theorem dX11_isPlannable_0 : decode cX11_isPlannable 0 = .ok (.aload_n 0, 1) := by decide +kernel
theorem dX11_isPlannable_1 : decode cX11_isPlannable 1 = .ok (.getfield 19, 3) := by decide +kernel
theorem dX11_isPlannable_4 : decode cX11_isPlannable 4 = .ok (.invokevirtual 135, 3) := by decide +kernel
theorem dX11_isPlannable_7 : decode cX11_isPlannable 7 = .ok (.ifCond .eq 18, 3) := by decide +kernel
theorem dX11_isPlannable_10 : decode cX11_isPlannable 10 = .ok (.iload_n 1, 1) := by decide +kernel
theorem dX11_isPlannable_11 : decode cX11_isPlannable 11 = .ok (.iconst 1, 1) := by decide +kernel
theorem dX11_isPlannable_12 : decode cX11_isPlannable 12 = .ok (.if_icmp .lt 13, 3) := by decide +kernel
theorem dX11_isPlannable_15 : decode cX11_isPlannable 15 = .ok (.iload_n 1, 1) := by decide +kernel
theorem dX11_isPlannable_16 : decode cX11_isPlannable 16 = .ok (.bipush 9, 2) := by decide +kernel
theorem dX11_isPlannable_18 : decode cX11_isPlannable 18 = .ok (.if_icmp .gt 7, 3) := by decide +kernel
theorem dX11_isPlannable_21 : decode cX11_isPlannable 21 = .ok (.iconst 1, 1) := by decide +kernel
theorem dX11_isPlannable_22 : decode cX11_isPlannable 22 = .ok (.goto 4, 3) := by decide +kernel
theorem dX11_isPlannable_25 : decode cX11_isPlannable 25 = .ok (.iconst 0, 1) := by decide +kernel
theorem dX11_isPlannable_26 : decode cX11_isPlannable 26 = .ok (.ireturn, 1) := by decide +kernel
theorem dX11_isFeud_0 : decode cX11_isFeud 0 = .ok (.aload_n 0, 1) := by decide +kernel
theorem dX11_isFeud_1 : decode cX11_isFeud 1 = .ok (.getfield 19, 3) := by decide +kernel
theorem dX11_isFeud_4 : decode cX11_isFeud 4 = .ok (.iload_n 1, 1) := by decide +kernel
theorem dX11_isFeud_5 : decode cX11_isFeud 5 = .ok (.invokevirtual 142, 3) := by decide +kernel
theorem dX11_isFeud_8 : decode cX11_isFeud 8 = .ok (.ifCond .eq 55, 3) := by decide +kernel
theorem dX11_isFeud_11 : decode cX11_isFeud 11 = .ok (.aload_n 0, 1) := by decide +kernel
theorem dX11_isFeud_12 : decode cX11_isFeud 12 = .ok (.getfield 19, 3) := by decide +kernel
theorem dX11_isFeud_15 : decode cX11_isFeud 15 = .ok (.iload_n 2, 1) := by decide +kernel
theorem dX11_isFeud_16 : decode cX11_isFeud 16 = .ok (.invokevirtual 142, 3) := by decide +kernel
theorem dX11_isFeud_19 : decode cX11_isFeud 19 = .ok (.ifCond .eq 44, 3) := by decide +kernel
theorem dX11_isFeud_22 : decode cX11_isFeud 22 = .ok (.iload_n 1, 1) := by decide +kernel
theorem dX11_isFeud_23 : decode cX11_isFeud 23 = .ok (.iload_n 2, 1) := by decide +kernel
theorem dX11_isFeud_24 : decode cX11_isFeud 24 = .ok (.if_icmp .eq 39, 3) := by decide +kernel
theorem dX11_isFeud_27 : decode cX11_isFeud 27 = .ok (.aload_n 0, 1) := by decide +kernel
theorem dX11_isFeud_28 : decode cX11_isFeud 28 = .ok (.getfield 19, 3) := by decide +kernel
theorem dX11_isFeud_31 : decode cX11_isFeud 31 = .ok (.iload_n 3, 1) := by decide +kernel
theorem dX11_isFeud_32 : decode cX11_isFeud 32 = .ok (.invokevirtual 162, 3) := by decide +kernel
theorem dX11_isFeud_35 : decode cX11_isFeud 35 = .ok (.ifCond .eq 28, 3) := by decide +kernel
theorem dX11_isFeud_38 : decode cX11_isFeud 38 = .ok (.aload_n 0, 1) := by decide +kernel
theorem dX11_isFeud_39 : decode cX11_isFeud 39 = .ok (.getfield 19, 3) := by decide +kernel
theorem dX11_isFeud_42 : decode cX11_isFeud 42 = .ok (.iload 4, 2) := by decide +kernel
theorem dX11_isFeud_44 : decode cX11_isFeud 44 = .ok (.invokevirtual 162, 3) := by decide +kernel
theorem dX11_isFeud_47 : decode cX11_isFeud 47 = .ok (.ifCond .eq 16, 3) := by decide +kernel
theorem dX11_isFeud_50 : decode cX11_isFeud 50 = .ok (.aload_n 0, 1) := by decide +kernel
theorem dX11_isFeud_51 : decode cX11_isFeud 51 = .ok (.iload 5, 2) := by decide +kernel
theorem dX11_isFeud_53 : decode cX11_isFeud 53 = .ok (.invokevirtual 260, 3) := by decide +kernel
theorem dX11_isFeud_56 : decode cX11_isFeud 56 = .ok (.ifCond .eq 7, 3) := by decide +kernel
theorem dX11_isFeud_59 : decode cX11_isFeud 59 = .ok (.iconst 1, 1) := by decide +kernel
theorem dX11_isFeud_60 : decode cX11_isFeud 60 = .ok (.goto 4, 3) := by decide +kernel
theorem dX11_isFeud_63 : decode cX11_isFeud 63 = .ok (.iconst 0, 1) := by decide +kernel
theorem dX11_isFeud_64 : decode cX11_isFeud 64 = .ok (.ireturn, 1) := by decide +kernel
theorem dX11_act_0 : decode cX11_act 0 = .ok (.aload_n 0, 1) := by decide +kernel
theorem dX11_act_1 : decode cX11_act 1 = .ok (.getfield 94, 3) := by decide +kernel
theorem dX11_act_4 : decode cX11_act 4 = .ok (.iload_n 1, 1) := by decide +kernel
theorem dX11_act_5 : decode cX11_act 5 = .ok (.iload_n 2, 1) := by decide +kernel
theorem dX11_act_6 : decode cX11_act 6 = .ok (.iload_n 3, 1) := by decide +kernel
theorem dX11_act_7 : decode cX11_act 7 = .ok (.aload_n 0, 1) := by decide +kernel
theorem dX11_act_8 : decode cX11_act 8 = .ok (.getfield 58, 3) := by decide +kernel
theorem dX11_act_11 : decode cX11_act 11 = .ok (.invokevirtual 195, 3) := by decide +kernel
theorem dX11_act_14 : decode cX11_act 14 = .ok (.ifCond .ne 5, 3) := by decide +kernel
theorem dX11_act_17 : decode cX11_act 17 = .ok (.iconst 0, 1) := by decide +kernel
theorem dX11_act_18 : decode cX11_act 18 = .ok (.ireturn, 1) := by decide +kernel
theorem dX11_act_19 : decode cX11_act 19 = .ok (.iload_n 1, 1) := by decide +kernel
theorem dX11_act_20 : decode cX11_act 20 = .ok (.iconst 2, 1) := by decide +kernel
theorem dX11_act_21 : decode cX11_act 21 = .ok (.if_icmp .eq 30, 3) := by decide +kernel
theorem dX11_act_24 : decode cX11_act 24 = .ok (.aload_n 0, 1) := by decide +kernel
theorem dX11_act_25 : decode cX11_act 25 = .ok (.getfield 72, 3) := by decide +kernel
theorem dX11_act_28 : decode cX11_act 28 = .ok (.aload_n 0, 1) := by decide +kernel
theorem dX11_act_29 : decode cX11_act 29 = .ok (.getfield 58, 3) := by decide +kernel
theorem dX11_act_32 : decode cX11_act 32 = .ok (.aload_n 0, 1) := by decide +kernel
theorem dX11_act_33 : decode cX11_act 33 = .ok (.getfield 65, 3) := by decide +kernel
theorem dX11_act_36 : decode cX11_act 36 = .ok (.invokevirtual 188, 3) := by decide +kernel
theorem dX11_act_39 : decode cX11_act 39 = .ok (.aload_n 0, 1) := by decide +kernel
theorem dX11_act_40 : decode cX11_act 40 = .ok (.getfield 58, 3) := by decide +kernel
theorem dX11_act_43 : decode cX11_act 43 = .ok (.iload_n 1, 1) := by decide +kernel
theorem dX11_act_44 : decode cX11_act 44 = .ok (.iload_n 2, 1) := by decide +kernel
theorem dX11_act_45 : decode cX11_act 45 = .ok (.iload_n 3, 1) := by decide +kernel
theorem dX11_act_46 : decode cX11_act 46 = .ok (.invokevirtual 394, 3) := by decide +kernel
theorem dX11_act_49 : decode cX11_act 49 = .ok (.iconst 1, 1) := by decide +kernel
theorem dX11_act_50 : decode cX11_act 50 = .ok (.ireturn, 1) := by decide +kernel
theorem dX11_act_51 : decode cX11_act 51 = .ok (.iconst 0, 1) := by decide +kernel
theorem dX11_act_52 : decode cX11_act 52 = .ok (.istore 4, 2) := by decide +kernel
theorem dX11_act_54 : decode cX11_act 54 = .ok (.iload 4, 2) := by decide +kernel
theorem dX11_act_56 : decode cX11_act 56 = .ok (.iload_n 2, 1) := by decide +kernel
theorem dX11_act_57 : decode cX11_act 57 = .ok (.if_icmp .ge 37, 3) := by decide +kernel
theorem dX11_act_60 : decode cX11_act 60 = .ok (.aload_n 0, 1) := by decide +kernel
theorem dX11_act_61 : decode cX11_act 61 = .ok (.getfield 72, 3) := by decide +kernel
theorem dX11_act_64 : decode cX11_act 64 = .ok (.aload_n 0, 1) := by decide +kernel
theorem dX11_act_65 : decode cX11_act 65 = .ok (.getfield 58, 3) := by decide +kernel
theorem dX11_act_68 : decode cX11_act 68 = .ok (.aload_n 0, 1) := by decide +kernel
theorem dX11_act_69 : decode cX11_act 69 = .ok (.getfield 65, 3) := by decide +kernel
theorem dX11_act_72 : decode cX11_act 72 = .ok (.invokevirtual 188, 3) := by decide +kernel
theorem dX11_act_75 : decode cX11_act 75 = .ok (.aload_n 0, 1) := by decide +kernel
theorem dX11_act_76 : decode cX11_act 76 = .ok (.aload_n 0, 1) := by decide +kernel
theorem dX11_act_77 : decode cX11_act 77 = .ok (.getfield 19, 3) := by decide +kernel
theorem dX11_act_80 : decode cX11_act 80 = .ok (.getfield 138, 3) := by decide +kernel
theorem dX11_act_83 : decode cX11_act 83 = .ok (.iconst 0, 1) := by decide +kernel
theorem dX11_act_84 : decode cX11_act 84 = .ok (.iaload, 1) := by decide +kernel
theorem dX11_act_85 : decode cX11_act 85 = .ok (.invokevirtual 206, 3) := by decide +kernel
theorem dX11_act_88 : decode cX11_act 88 = .ok (.iinc 4 1, 3) := by decide +kernel
theorem dX11_act_91 : decode cX11_act 91 = .ok (.goto (-37), 3) := by decide +kernel
theorem dX11_act_94 : decode cX11_act 94 = .ok (.iconst 1, 1) := by decide +kernel
theorem dX11_act_95 : decode cX11_act 95 = .ok (.ireturn, 1) := by decide +kernel
theorem dX11_passDay_0 : decode cX11_passDay 0 = .ok (.aload_n 0, 1) := by decide +kernel
theorem dX11_passDay_1 : decode cX11_passDay 1 = .ok (.getfield 40, 3) := by decide +kernel
theorem dX11_passDay_4 : decode cX11_passDay 4 = .ok (.aload_n 0, 1) := by decide +kernel
theorem dX11_passDay_5 : decode cX11_passDay 5 = .ok (.getfield 58, 3) := by decide +kernel
theorem dX11_passDay_8 : decode cX11_passDay 8 = .ok (.iload_n 1, 1) := by decide +kernel
theorem dX11_passDay_9 : decode cX11_passDay 9 = .ok (.invokevirtual 398, 3) := by decide +kernel
theorem dX11_passDay_12 : decode cX11_passDay 12 = .ok (.aload_n 0, 1) := by decide +kernel
theorem dX11_passDay_13 : decode cX11_passDay 13 = .ok (.getfield 65, 3) := by decide +kernel
theorem dX11_passDay_16 : decode cX11_passDay 16 = .ok (.aload_n 0, 1) := by decide +kernel
theorem dX11_passDay_17 : decode cX11_passDay 17 = .ok (.getfield 58, 3) := by decide +kernel
theorem dX11_passDay_20 : decode cX11_passDay 20 = .ok (.getfield 149, 3) := by decide +kernel
theorem dX11_passDay_23 : decode cX11_passDay 23 = .ok (.invokestatic 338, 3) := by decide +kernel
theorem dX11_passDay_26 : decode cX11_passDay 26 = .ok (.aload_n 0, 1) := by decide +kernel
theorem dX11_passDay_27 : decode cX11_passDay 27 = .ok (.getfield 19, 3) := by decide +kernel
theorem dX11_passDay_30 : decode cX11_passDay 30 = .ok (.aload_n 0, 1) := by decide +kernel
theorem dX11_passDay_31 : decode cX11_passDay 31 = .ok (.getfield 58, 3) := by decide +kernel
theorem dX11_passDay_34 : decode cX11_passDay 34 = .ok (.invokevirtual 237, 3) := by decide +kernel
theorem dX11_passDay_37 : decode cX11_passDay 37 = .ok (.aload_n 0, 1) := by decide +kernel
theorem dX11_passDay_38 : decode cX11_passDay 38 = .ok (.getfield 58, 3) := by decide +kernel
theorem dX11_passDay_41 : decode cX11_passDay 41 = .ok (.getfield 152, 3) := by decide +kernel
theorem dX11_passDay_44 : decode cX11_passDay 44 = .ok (.invokestatic 338, 3) := by decide +kernel
theorem dX11_passDay_47 : decode cX11_passDay 47 = .ok (.invokevirtual 401, 3) := by decide +kernel
theorem dX11_passDay_50 : decode cX11_passDay 50 = .ok (.return_, 1) := by decide +kernel
theorem dX11_rainOfDraws_0 : decode cX11_rainOfDraws 0 = .ok (.aload_n 0, 1) := by decide +kernel
theorem dX11_rainOfDraws_1 : decode cX11_rainOfDraws 1 = .ok (.bipush 100, 2) := by decide +kernel
theorem dX11_rainOfDraws_3 : decode cX11_rainOfDraws 3 = .ok (.invokevirtual 403, 3) := by decide +kernel
theorem dX11_rainOfDraws_6 : decode cX11_rainOfDraws 6 = .ok (.aload_n 0, 1) := by decide +kernel
theorem dX11_rainOfDraws_7 : decode cX11_rainOfDraws 7 = .ok (.getfield 98, 3) := by decide +kernel
theorem dX11_rainOfDraws_10 : decode cX11_rainOfDraws 10 = .ok (.if_icmp .ge 10, 3) := by decide +kernel
theorem dX11_rainOfDraws_13 : decode cX11_rainOfDraws 13 = .ok (.aload_n 0, 1) := by decide +kernel
theorem dX11_rainOfDraws_14 : decode cX11_rainOfDraws 14 = .ok (.bipush 10, 2) := by decide +kernel
theorem dX11_rainOfDraws_16 : decode cX11_rainOfDraws 16 = .ok (.invokevirtual 403, 3) := by decide +kernel
theorem dX11_rainOfDraws_19 : decode cX11_rainOfDraws 19 = .ok (.ireturn, 1) := by decide +kernel
theorem dX11_rainOfDraws_20 : decode cX11_rainOfDraws 20 = .ok (.aload_n 0, 1) := by decide +kernel
theorem dX11_rainOfDraws_21 : decode cX11_rainOfDraws 21 = .ok (.bipush 100, 2) := by decide +kernel
theorem dX11_rainOfDraws_23 : decode cX11_rainOfDraws 23 = .ok (.invokevirtual 403, 3) := by decide +kernel
theorem dX11_rainOfDraws_26 : decode cX11_rainOfDraws 26 = .ok (.aload_n 0, 1) := by decide +kernel
theorem dX11_rainOfDraws_27 : decode cX11_rainOfDraws 27 = .ok (.getfield 181, 3) := by decide +kernel
theorem dX11_rainOfDraws_30 : decode cX11_rainOfDraws 30 = .ok (.if_icmp .ge 42, 3) := by decide +kernel
theorem dX11_rainOfDraws_33 : decode cX11_rainOfDraws 33 = .ok (.aload_n 0, 1) := by decide +kernel
theorem dX11_rainOfDraws_34 : decode cX11_rainOfDraws 34 = .ok (.aload_n 0, 1) := by decide +kernel
theorem dX11_rainOfDraws_35 : decode cX11_rainOfDraws 35 = .ok (.getfield 19, 3) := by decide +kernel
theorem dX11_rainOfDraws_38 : decode cX11_rainOfDraws 38 = .ok (.getfield 269, 3) := by decide +kernel
theorem dX11_rainOfDraws_41 : decode cX11_rainOfDraws 41 = .ok (.invokevirtual 403, 3) := by decide +kernel
theorem dX11_rainOfDraws_44 : decode cX11_rainOfDraws 44 = .ok (.istore_n 1, 1) := by decide +kernel
theorem dX11_rainOfDraws_45 : decode cX11_rainOfDraws 45 = .ok (.aload_n 0, 1) := by decide +kernel
theorem dX11_rainOfDraws_46 : decode cX11_rainOfDraws 46 = .ok (.getfield 58, 3) := by decide +kernel
theorem dX11_rainOfDraws_49 : decode cX11_rainOfDraws 49 = .ok (.getfield 155, 3) := by decide +kernel
theorem dX11_rainOfDraws_52 : decode cX11_rainOfDraws 52 = .ok (.iload_n 1, 1) := by decide +kernel
theorem dX11_rainOfDraws_53 : decode cX11_rainOfDraws 53 = .ok (.iaload, 1) := by decide +kernel
theorem dX11_rainOfDraws_54 : decode cX11_rainOfDraws 54 = .ok (.bipush 9, 2) := by decide +kernel
theorem dX11_rainOfDraws_56 : decode cX11_rainOfDraws 56 = .ok (.if_icmp .ge 16, 3) := by decide +kernel
theorem dX11_rainOfDraws_59 : decode cX11_rainOfDraws 59 = .ok (.aload_n 0, 1) := by decide +kernel
theorem dX11_rainOfDraws_60 : decode cX11_rainOfDraws 60 = .ok (.getfield 58, 3) := by decide +kernel
theorem dX11_rainOfDraws_63 : decode cX11_rainOfDraws 63 = .ok (.getfield 155, 3) := by decide +kernel
theorem dX11_rainOfDraws_66 : decode cX11_rainOfDraws 66 = .ok (.iload_n 1, 1) := by decide +kernel
theorem dX11_rainOfDraws_67 : decode cX11_rainOfDraws 67 = .ok (.dup2, 1) := by decide +kernel
theorem dX11_rainOfDraws_68 : decode cX11_rainOfDraws 68 = .ok (.iaload, 1) := by decide +kernel
theorem dX11_rainOfDraws_69 : decode cX11_rainOfDraws 69 = .ok (.iconst 1, 1) := by decide +kernel
theorem dX11_rainOfDraws_70 : decode cX11_rainOfDraws 70 = .ok (.iadd, 1) := by decide +kernel
theorem dX11_rainOfDraws_71 : decode cX11_rainOfDraws 71 = .ok (.iastore, 1) := by decide +kernel
theorem dX11_rainOfDraws_72 : decode cX11_rainOfDraws 72 = .ok (.iconst 0, 1) := by decide +kernel
theorem dX11_rainOfDraws_73 : decode cX11_rainOfDraws 73 = .ok (.ireturn, 1) := by decide +kernel
theorem dX11_draw_0 : decode cX11_draw 0 = .ok (.aload_n 0, 1) := by decide +kernel
theorem dX11_draw_1 : decode cX11_draw 1 = .ok (.aload_n 0, 1) := by decide +kernel
theorem dX11_draw_2 : decode cX11_draw 2 = .ok (.getfield 199, 3) := by decide +kernel
theorem dX11_draw_5 : decode cX11_draw 5 = .ok (.ldc2_w 406, 3) := by decide +kernel
theorem dX11_draw_8 : decode cX11_draw 8 = .ok (.lmul, 1) := by decide +kernel
theorem dX11_draw_9 : decode cX11_draw 9 = .ok (.ldc2_w 408, 3) := by decide +kernel
theorem dX11_draw_12 : decode cX11_draw 12 = .ok (.ladd, 1) := by decide +kernel
theorem dX11_draw_13 : decode cX11_draw 13 = .ok (.putfield 199, 3) := by decide +kernel
theorem dX11_draw_16 : decode cX11_draw 16 = .ok (.iload_n 1, 1) := by decide +kernel
theorem dX11_draw_17 : decode cX11_draw 17 = .ok (.iconst 1, 1) := by decide +kernel
theorem dX11_draw_18 : decode cX11_draw 18 = .ok (.if_icmp .ge 7, 3) := by decide +kernel
theorem dX11_draw_21 : decode cX11_draw 21 = .ok (.iconst 0, 1) := by decide +kernel
theorem dX11_draw_22 : decode cX11_draw 22 = .ok (.goto 14, 3) := by decide +kernel
theorem dX11_draw_25 : decode cX11_draw 25 = .ok (.aload_n 0, 1) := by decide +kernel
theorem dX11_draw_26 : decode cX11_draw 26 = .ok (.getfield 199, 3) := by decide +kernel
theorem dX11_draw_29 : decode cX11_draw 29 = .ok (.bipush 33, 2) := by decide +kernel
theorem dX11_draw_31 : decode cX11_draw 31 = .ok (.lushr, 1) := by decide +kernel
theorem dX11_draw_32 : decode cX11_draw 32 = .ok (.iload_n 1, 1) := by decide +kernel
theorem dX11_draw_33 : decode cX11_draw 33 = .ok (.i2l, 1) := by decide +kernel
theorem dX11_draw_34 : decode cX11_draw 34 = .ok (.lrem, 1) := by decide +kernel
theorem dX11_draw_35 : decode cX11_draw 35 = .ok (.l2i, 1) := by decide +kernel
theorem dX11_draw_36 : decode cX11_draw 36 = .ok (.ireturn, 1) := by decide +kernel
