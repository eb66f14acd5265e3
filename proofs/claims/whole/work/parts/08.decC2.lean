theorem dX12_perform_46 : decode cX12_perform 46 = .ok (.imul, 1) := by decide +kernel
theorem dX12_perform_47 : decode cX12_perform 47 = .ok (.invokevirtual 413, 3) := by decide +kernel
theorem dX12_perform_50 : decode cX12_perform 50 = .ok (.ifCond .eq 21, 3) := by decide +kernel
theorem dX12_perform_53 : decode cX12_perform 53 = .ok (.aload_n 0, 1) := by decide +kernel
theorem dX12_perform_54 : decode cX12_perform 54 = .ok (.iconst 3, 1) := by decide +kernel
theorem dX12_perform_55 : decode cX12_perform 55 = .ok (.bipush 16, 2) := by decide +kernel
theorem dX12_perform_57 : decode cX12_perform 57 = .ok (.iload_n 1, 1) := by decide +kernel
theorem dX12_perform_58 : decode cX12_perform 58 = .ok (.imul, 1) := by decide +kernel
theorem dX12_perform_59 : decode cX12_perform 59 = .ok (.iload_n 2, 1) := by decide +kernel
theorem dX12_perform_60 : decode cX12_perform 60 = .ok (.iadd, 1) := by decide +kernel
theorem dX12_perform_61 : decode cX12_perform 61 = .ok (.imul, 1) := by decide +kernel
theorem dX12_perform_62 : decode cX12_perform 62 = .ok (.invokevirtual 420, 3) := by decide +kernel
theorem dX12_perform_65 : decode cX12_perform 65 = .ok (.iinc 2 1, 3) := by decide +kernel
theorem dX12_perform_68 : decode cX12_perform 68 = .ok (.goto (-44), 3) := by decide +kernel
theorem dX12_perform_71 : decode cX12_perform 71 = .ok (.iload_n 2, 1) := by decide +kernel
theorem dX12_perform_72 : decode cX12_perform 72 = .ok (.ireturn, 1) := by decide +kernel
theorem dX12_lay_0 : decode cX12_lay 0 = .ok (.aload_n 0, 1) := by decide +kernel
theorem dX12_lay_1 : decode cX12_lay 1 = .ok (.getfield 61, 3) := by decide +kernel
theorem dX12_lay_4 : decode cX12_lay 4 = .ok (.aload_n 0, 1) := by decide +kernel
theorem dX12_lay_5 : decode cX12_lay 5 = .ok (.getfield 64, 3) := by decide +kernel
theorem dX12_lay_8 : decode cX12_lay 8 = .ok (.invokestatic 409, 3) := by decide +kernel
theorem dX12_lay_11 : decode cX12_lay 11 = .ok (.aload_n 0, 1) := by decide +kernel
theorem dX12_lay_12 : decode cX12_lay 12 = .ok (.getfield 64, 3) := by decide +kernel
theorem dX12_lay_15 : decode cX12_lay 15 = .ok (.bipush 21, 2) := by decide +kernel
theorem dX12_lay_17 : decode cX12_lay 17 = .ok (.iload_n 2, 1) := by decide +kernel
theorem dX12_lay_18 : decode cX12_lay 18 = .ok (.iastore, 1) := by decide +kernel
theorem dX12_lay_19 : decode cX12_lay 19 = .ok (.iconst 0, 1) := by decide +kernel
theorem dX12_lay_20 : decode cX12_lay 20 = .ok (.istore_n 3, 1) := by decide +kernel
theorem dX12_lay_21 : decode cX12_lay 21 = .ok (.iload_n 3, 1) := by decide +kernel
theorem dX12_lay_22 : decode cX12_lay 22 = .ok (.iload_n 1, 1) := by decide +kernel
theorem dX12_lay_23 : decode cX12_lay 23 = .ok (.if_icmp .ge 23, 3) := by decide +kernel
theorem dX12_lay_26 : decode cX12_lay 26 = .ok (.aload_n 0, 1) := by decide +kernel
theorem dX12_lay_27 : decode cX12_lay 27 = .ok (.aload_n 0, 1) := by decide +kernel
theorem dX12_lay_28 : decode cX12_lay 28 = .ok (.getfield 64, 3) := by decide +kernel
theorem dX12_lay_31 : decode cX12_lay 31 = .ok (.aload_n 0, 1) := by decide +kernel
theorem dX12_lay_32 : decode cX12_lay 32 = .ok (.getfield 37, 3) := by decide +kernel
theorem dX12_lay_35 : decode cX12_lay 35 = .ok (.iconst 0, 1) := by decide +kernel
theorem dX12_lay_36 : decode cX12_lay 36 = .ok (.iaload, 1) := by decide +kernel
theorem dX12_lay_37 : decode cX12_lay 37 = .ok (.invokevirtual 391, 3) := by decide +kernel
theorem dX12_lay_40 : decode cX12_lay 40 = .ok (.iinc 3 1, 3) := by decide +kernel
theorem dX12_lay_43 : decode cX12_lay 43 = .ok (.goto (-22), 3) := by decide +kernel
theorem dX12_lay_46 : decode cX12_lay 46 = .ok (.return_, 1) := by decide +kernel
theorem dX12_ahead_0 : decode cX12_ahead 0 = .ok (.aload_n 0, 1) := by decide +kernel
theorem dX12_ahead_1 : decode cX12_ahead 1 = .ok (.iconst 0, 1) := by decide +kernel
theorem dX12_ahead_2 : decode cX12_ahead 2 = .ok (.putfield 96, 3) := by decide +kernel
theorem dX12_ahead_5 : decode cX12_ahead 5 = .ok (.aload_n 0, 1) := by decide +kernel
theorem dX12_ahead_6 : decode cX12_ahead 6 = .ok (.iload_n 1, 1) := by decide +kernel
theorem dX12_ahead_7 : decode cX12_ahead 7 = .ok (.invokevirtual 364, 3) := by decide +kernel
theorem dX12_ahead_10 : decode cX12_ahead 10 = .ok (.ifCond .eq 15, 3) := by decide +kernel
theorem dX12_ahead_13 : decode cX12_ahead 13 = .ok (.iload_n 2, 1) := by decide +kernel
theorem dX12_ahead_14 : decode cX12_ahead 14 = .ok (.i2l, 1) := by decide +kernel
theorem dX12_ahead_15 : decode cX12_ahead 15 = .ok (.lconst 0, 1) := by decide +kernel
theorem dX12_ahead_16 : decode cX12_ahead 16 = .ok (.ldc2_w 423, 3) := by decide +kernel
theorem dX12_ahead_19 : decode cX12_ahead 19 = .ok (.invokestatic 217, 3) := by decide +kernel
theorem dX12_ahead_22 : decode cX12_ahead 22 = .ok (.ifCond .ne 5, 3) := by decide +kernel
theorem dX12_ahead_25 : decode cX12_ahead 25 = .ok (.iconst (-1), 1) := by decide +kernel
theorem dX12_ahead_26 : decode cX12_ahead 26 = .ok (.ireturn, 1) := by decide +kernel
theorem dX12_ahead_27 : decode cX12_ahead 27 = .ok (.aload_n 0, 1) := by decide +kernel
theorem dX12_ahead_28 : decode cX12_ahead 28 = .ok (.iload_n 2, 1) := by decide +kernel
theorem dX12_ahead_29 : decode cX12_ahead 29 = .ok (.aload_n 0, 1) := by decide +kernel
theorem dX12_ahead_30 : decode cX12_ahead 30 = .ok (.getfield 61, 3) := by decide +kernel
theorem dX12_ahead_33 : decode cX12_ahead 33 = .ok (.bipush 21, 2) := by decide +kernel
theorem dX12_ahead_35 : decode cX12_ahead 35 = .ok (.iaload, 1) := by decide +kernel
theorem dX12_ahead_36 : decode cX12_ahead 36 = .ok (.invokevirtual 425, 3) := by decide +kernel
theorem dX12_ahead_39 : decode cX12_ahead 39 = .ok (.aload_n 0, 1) := by decide +kernel
theorem dX12_ahead_40 : decode cX12_ahead 40 = .ok (.getfield 64, 3) := by decide +kernel
theorem dX12_ahead_43 : decode cX12_ahead 43 = .ok (.iload_n 1, 1) := by decide +kernel
theorem dX12_ahead_44 : decode cX12_ahead 44 = .ok (.invokestatic 312, 3) := by decide +kernel
theorem dX12_ahead_47 : decode cX12_ahead 47 = .ok (.ireturn, 1) := by decide +kernel
theorem dX12_dries_0 : decode cX12_dries 0 = .ok (.aload_n 0, 1) := by decide +kernel
theorem dX12_dries_1 : decode cX12_dries 1 = .ok (.iconst 0, 1) := by decide +kernel
theorem dX12_dries_2 : decode cX12_dries 2 = .ok (.putfield 96, 3) := by decide +kernel
theorem dX12_dries_5 : decode cX12_dries 5 = .ok (.aload_n 0, 1) := by decide +kernel
theorem dX12_dries_6 : decode cX12_dries 6 = .ok (.iload_n 1, 1) := by decide +kernel
theorem dX12_dries_7 : decode cX12_dries 7 = .ok (.invokevirtual 364, 3) := by decide +kernel
theorem dX12_dries_10 : decode cX12_dries 10 = .ok (.ifCond .ne 5, 3) := by decide +kernel
theorem dX12_dries_13 : decode cX12_dries 13 = .ok (.iconst (-1), 1) := by decide +kernel
theorem dX12_dries_14 : decode cX12_dries 14 = .ok (.ireturn, 1) := by decide +kernel
theorem dX12_dries_15 : decode cX12_dries 15 = .ok (.aload_n 0, 1) := by decide +kernel
theorem dX12_dries_16 : decode cX12_dries 16 = .ok (.getfield 61, 3) := by decide +kernel
theorem dX12_dries_19 : decode cX12_dries 19 = .ok (.aload_n 0, 1) := by decide +kernel
theorem dX12_dries_20 : decode cX12_dries 20 = .ok (.getfield 64, 3) := by decide +kernel
theorem dX12_dries_23 : decode cX12_dries 23 = .ok (.invokestatic 409, 3) := by decide +kernel
theorem dX12_dries_26 : decode cX12_dries 26 = .ok (.iconst 0, 1) := by decide +kernel
theorem dX12_dries_27 : decode cX12_dries 27 = .ok (.istore_n 2, 1) := by decide +kernel
theorem dX12_dries_28 : decode cX12_dries 28 = .ok (.iload_n 2, 1) := by decide +kernel
theorem dX12_dries_29 : decode cX12_dries 29 = .ok (.bipush 99, 2) := by decide +kernel
theorem dX12_dries_31 : decode cX12_dries 31 = .ok (.if_icmp .gt 36, 3) := by decide +kernel
theorem dX12_dries_34 : decode cX12_dries 34 = .ok (.aload_n 0, 1) := by decide +kernel
theorem dX12_dries_35 : decode cX12_dries 35 = .ok (.getfield 64, 3) := by decide +kernel
theorem dX12_dries_38 : decode cX12_dries 38 = .ok (.iload_n 1, 1) := by decide +kernel
theorem dX12_dries_39 : decode cX12_dries 39 = .ok (.invokestatic 312, 3) := by decide +kernel
theorem dX12_dries_42 : decode cX12_dries 42 = .ok (.ifCond .ne 5, 3) := by decide +kernel
theorem dX12_dries_45 : decode cX12_dries 45 = .ok (.iload_n 2, 1) := by decide +kernel
theorem dX12_dries_46 : decode cX12_dries 46 = .ok (.ireturn, 1) := by decide +kernel
theorem dX12_dries_47 : decode cX12_dries 47 = .ok (.aload_n 0, 1) := by decide +kernel
theorem dX12_dries_48 : decode cX12_dries 48 = .ok (.aload_n 0, 1) := by decide +kernel
theorem dX12_dries_49 : decode cX12_dries 49 = .ok (.getfield 64, 3) := by decide +kernel
theorem dX12_dries_52 : decode cX12_dries 52 = .ok (.aload_n 0, 1) := by decide +kernel
theorem dX12_dries_53 : decode cX12_dries 53 = .ok (.getfield 37, 3) := by decide +kernel
theorem dX12_dries_56 : decode cX12_dries 56 = .ok (.iconst 0, 1) := by decide +kernel
theorem dX12_dries_57 : decode cX12_dries 57 = .ok (.iaload, 1) := by decide +kernel
theorem dX12_dries_58 : decode cX12_dries 58 = .ok (.invokevirtual 391, 3) := by decide +kernel
theorem dX12_dries_61 : decode cX12_dries 61 = .ok (.iinc 2 1, 3) := by decide +kernel
theorem dX12_dries_64 : decode cX12_dries 64 = .ok (.goto (-36), 3) := by decide +kernel
theorem dX12_dries_67 : decode cX12_dries 67 = .ok (.iconst (-1), 1) := by decide +kernel
theorem dX12_dries_68 : decode cX12_dries 68 = .ok (.ireturn, 1) := by decide +kernel
theorem dX12_bare_0 : decode cX12_bare 0 = .ok (.aload_n 0, 1) := by decide +kernel
theorem dX12_bare_1 : decode cX12_bare 1 = .ok (.iconst 0, 1) := by decide +kernel
theorem dX12_bare_2 : decode cX12_bare 2 = .ok (.putfield 96, 3) := by decide +kernel
theorem dX12_bare_5 : decode cX12_bare 5 = .ok (.aload_n 0, 1) := by decide +kernel
theorem dX12_bare_6 : decode cX12_bare 6 = .ok (.getfield 294, 3) := by decide +kernel
theorem dX12_bare_9 : decode cX12_bare 9 = .ok (.ifCond .ne 7, 3) := by decide +kernel
theorem dX12_bare_12 : decode cX12_bare 12 = .ok (.iconst (-1), 1) := by decide +kernel
theorem dX12_bare_13 : decode cX12_bare 13 = .ok (.goto 11, 3) := by decide +kernel
theorem dX12_bare_16 : decode cX12_bare 16 = .ok (.aload_n 0, 1) := by decide +kernel
theorem dX12_bare_17 : decode cX12_bare 17 = .ok (.aload_n 0, 1) := by decide +kernel
theorem dX12_bare_18 : decode cX12_bare 18 = .ok (.getfield 61, 3) := by decide +kernel
theorem dX12_bare_21 : decode cX12_bare 21 = .ok (.invokevirtual 360, 3) := by decide +kernel
theorem dX12_bare_24 : decode cX12_bare 24 = .ok (.ireturn, 1) := by decide +kernel
theorem dX12_keepsAll_0 : decode cX12_keepsAll 0 = .ok (.aload_n 0, 1) := by decide +kernel
theorem dX12_keepsAll_1 : decode cX12_keepsAll 1 = .ok (.getfield 61, 3) := by decide +kernel
theorem dX12_keepsAll_4 : decode cX12_keepsAll 4 = .ok (.aload_n 0, 1) := by decide +kernel
theorem dX12_keepsAll_5 : decode cX12_keepsAll 5 = .ok (.getfield 64, 3) := by decide +kernel
theorem dX12_keepsAll_8 : decode cX12_keepsAll 8 = .ok (.invokestatic 409, 3) := by decide +kernel
theorem dX12_keepsAll_11 : decode cX12_keepsAll 11 = .ok (.aload_n 0, 1) := by decide +kernel
theorem dX12_keepsAll_12 : decode cX12_keepsAll 12 = .ok (.getfield 64, 3) := by decide +kernel
theorem dX12_keepsAll_15 : decode cX12_keepsAll 15 = .ok (.bipush 21, 2) := by decide +kernel
theorem dX12_keepsAll_17 : decode cX12_keepsAll 17 = .ok (.iload_n 2, 1) := by decide +kernel
theorem dX12_keepsAll_18 : decode cX12_keepsAll 18 = .ok (.iastore, 1) := by decide +kernel
theorem dX12_keepsAll_19 : decode cX12_keepsAll 19 = .ok (.iconst 0, 1) := by decide +kernel
theorem dX12_keepsAll_20 : decode cX12_keepsAll 20 = .ok (.istore_n 3, 1) := by decide +kernel
theorem dX12_keepsAll_21 : decode cX12_keepsAll 21 = .ok (.iload_n 3, 1) := by decide +kernel
theorem dX12_keepsAll_22 : decode cX12_keepsAll 22 = .ok (.iload_n 1, 1) := by decide +kernel
theorem dX12_keepsAll_23 : decode cX12_keepsAll 23 = .ok (.if_icmp .ge 36, 3) := by decide +kernel
theorem dX12_keepsAll_26 : decode cX12_keepsAll 26 = .ok (.aload_n 0, 1) := by decide +kernel
theorem dX12_keepsAll_27 : decode cX12_keepsAll 27 = .ok (.aload_n 0, 1) := by decide +kernel
theorem dX12_keepsAll_28 : decode cX12_keepsAll 28 = .ok (.getfield 64, 3) := by decide +kernel
theorem dX12_keepsAll_31 : decode cX12_keepsAll 31 = .ok (.aload_n 0, 1) := by decide +kernel
theorem dX12_keepsAll_32 : decode cX12_keepsAll 32 = .ok (.getfield 37, 3) := by decide +kernel
theorem dX12_keepsAll_35 : decode cX12_keepsAll 35 = .ok (.iconst 0, 1) := by decide +kernel
theorem dX12_keepsAll_36 : decode cX12_keepsAll 36 = .ok (.iaload, 1) := by decide +kernel
theorem dX12_keepsAll_37 : decode cX12_keepsAll 37 = .ok (.invokevirtual 391, 3) := by decide +kernel
theorem dX12_keepsAll_40 : decode cX12_keepsAll 40 = .ok (.aload_n 0, 1) := by decide +kernel
theorem dX12_keepsAll_41 : decode cX12_keepsAll 41 = .ok (.aload_n 0, 1) := by decide +kernel
theorem dX12_keepsAll_42 : decode cX12_keepsAll 42 = .ok (.getfield 64, 3) := by decide +kernel
theorem dX12_keepsAll_45 : decode cX12_keepsAll 45 = .ok (.invokevirtual 360, 3) := by decide +kernel
theorem dX12_keepsAll_48 : decode cX12_keepsAll 48 = .ok (.ifCond .eq 5, 3) := by decide +kernel
theorem dX12_keepsAll_51 : decode cX12_keepsAll 51 = .ok (.iconst 0, 1) := by decide +kernel
theorem dX12_keepsAll_52 : decode cX12_keepsAll 52 = .ok (.ireturn, 1) := by decide +kernel
theorem dX12_keepsAll_53 : decode cX12_keepsAll 53 = .ok (.iinc 3 1, 3) := by decide +kernel
theorem dX12_keepsAll_56 : decode cX12_keepsAll 56 = .ok (.goto (-35), 3) := by decide +kernel
theorem dX12_keepsAll_59 : decode cX12_keepsAll 59 = .ok (.iconst 1, 1) := by decide +kernel
theorem dX12_keepsAll_60 : decode cX12_keepsAll 60 = .ok (.ireturn, 1) := by decide +kernel
theorem dX12_keys_0 : decode cX12_keys 0 = .ok (.aload_n 0, 1) := by decide +kernel
theorem dX12_keys_1 : decode cX12_keys 1 = .ok (.iconst 0, 1) := by decide +kernel
theorem dX12_keys_2 : decode cX12_keys 2 = .ok (.putfield 96, 3) := by decide +kernel
theorem dX12_keys_5 : decode cX12_keys 5 = .ok (.aload_n 0, 1) := by decide +kernel
theorem dX12_keys_6 : decode cX12_keys 6 = .ok (.getfield 294, 3) := by decide +kernel
theorem dX12_keys_9 : decode cX12_keys 9 = .ok (.ifCond .eq 15, 3) := by decide +kernel
theorem dX12_keys_12 : decode cX12_keys 12 = .ok (.iload_n 1, 1) := by decide +kernel
theorem dX12_keys_13 : decode cX12_keys 13 = .ok (.i2l, 1) := by decide +kernel
theorem dX12_keys_14 : decode cX12_keys 14 = .ok (.lconst 1, 1) := by decide +kernel
theorem dX12_keys_15 : decode cX12_keys 15 = .ok (.ldc2_w 367, 3) := by decide +kernel
theorem dX12_keys_18 : decode cX12_keys 18 = .ok (.invokestatic 217, 3) := by decide +kernel
theorem dX12_keys_21 : decode cX12_keys 21 = .ok (.ifCond .ne 5, 3) := by decide +kernel
theorem dX12_keys_24 : decode cX12_keys 24 = .ok (.iconst (-1), 1) := by decide +kernel
theorem dX12_keys_25 : decode cX12_keys 25 = .ok (.ireturn, 1) := by decide +kernel
theorem dX12_keys_26 : decode cX12_keys 26 = .ok (.iconst (-1), 1) := by decide +kernel
theorem dX12_keys_27 : decode cX12_keys 27 = .ok (.istore_n 2, 1) := by decide +kernel
theorem dX12_keys_28 : decode cX12_keys 28 = .ok (.iconst 0, 1) := by decide +kernel
theorem dX12_keys_29 : decode cX12_keys 29 = .ok (.istore_n 3, 1) := by decide +kernel
theorem dX12_keys_30 : decode cX12_keys 30 = .ok (.iload_n 3, 1) := by decide +kernel
theorem dX12_keys_31 : decode cX12_keys 31 = .ok (.iconst 1, 1) := by decide +kernel
theorem dX12_keys_32 : decode cX12_keys 32 = .ok (.aload_n 0, 1) := by decide +kernel
theorem dX12_keys_33 : decode cX12_keys 33 = .ok (.getfield 297, 3) := by decide +kernel
theorem dX12_keys_36 : decode cX12_keys 36 = .ok (.ishl, 1) := by decide +kernel
theorem dX12_keys_37 : decode cX12_keys 37 = .ok (.if_icmp .ge 36, 3) := by decide +kernel
theorem dX12_keys_40 : decode cX12_keys 40 = .ok (.iload_n 2, 1) := by decide +kernel
theorem dX12_keys_41 : decode cX12_keys 41 = .ok (.iconst (-1), 1) := by decide +kernel
theorem dX12_keys_42 : decode cX12_keys 42 = .ok (.if_icmp .eq 14, 3) := by decide +kernel
theorem dX12_keys_45 : decode cX12_keys 45 = .ok (.iload_n 3, 1) := by decide +kernel
theorem dX12_keys_46 : decode cX12_keys 46 = .ok (.invokestatic 429, 3) := by decide +kernel
theorem dX12_keys_49 : decode cX12_keys 49 = .ok (.iload_n 2, 1) := by decide +kernel
theorem dX12_keys_50 : decode cX12_keys 50 = .ok (.invokestatic 429, 3) := by decide +kernel
theorem dX12_keys_53 : decode cX12_keys 53 = .ok (.if_icmp .ge 14, 3) := by decide +kernel
theorem dX12_keys_56 : decode cX12_keys 56 = .ok (.aload_n 0, 1) := by decide +kernel
theorem dX12_keys_57 : decode cX12_keys 57 = .ok (.iload_n 1, 1) := by decide +kernel
theorem dX12_keys_58 : decode cX12_keys 58 = .ok (.iload_n 3, 1) := by decide +kernel
theorem dX12_keys_59 : decode cX12_keys 59 = .ok (.invokevirtual 434, 3) := by decide +kernel
theorem dX12_keys_62 : decode cX12_keys 62 = .ok (.ifCond .eq 5, 3) := by decide +kernel
theorem dX12_keys_65 : decode cX12_keys 65 = .ok (.iload_n 3, 1) := by decide +kernel
theorem dX12_keys_66 : decode cX12_keys 66 = .ok (.istore_n 2, 1) := by decide +kernel
theorem dX12_keys_67 : decode cX12_keys 67 = .ok (.iinc 3 1, 3) := by decide +kernel
theorem dX12_keys_70 : decode cX12_keys 70 = .ok (.goto (-40), 3) := by decide +kernel
theorem dX12_keys_73 : decode cX12_keys 73 = .ok (.iload_n 2, 1) := by decide +kernel
theorem dX12_keys_74 : decode cX12_keys 74 = .ok (.ireturn, 1) := by decide +kernel
theorem dX12_kept_0 : decode cX12_kept 0 = .ok (.aload_n 0, 1) := by decide +kernel
theorem dX12_kept_1 : decode cX12_kept 1 = .ok (.iconst 0, 1) := by decide +kernel
theorem dX12_kept_2 : decode cX12_kept 2 = .ok (.putfield 96, 3) := by decide +kernel
theorem dX12_kept_5 : decode cX12_kept 5 = .ok (.aload_n 0, 1) := by decide +kernel
theorem dX12_kept_6 : decode cX12_kept 6 = .ok (.getfield 294, 3) := by decide +kernel
theorem dX12_kept_9 : decode cX12_kept 9 = .ok (.ifCond .eq 25, 3) := by decide +kernel
theorem dX12_kept_12 : decode cX12_kept 12 = .ok (.iload_n 1, 1) := by decide +kernel
theorem dX12_kept_13 : decode cX12_kept 13 = .ok (.i2l, 1) := by decide +kernel
theorem dX12_kept_14 : decode cX12_kept 14 = .ok (.lconst 1, 1) := by decide +kernel
theorem dX12_kept_15 : decode cX12_kept 15 = .ok (.ldc2_w 367, 3) := by decide +kernel
theorem dX12_kept_18 : decode cX12_kept 18 = .ok (.invokestatic 217, 3) := by decide +kernel
theorem dX12_kept_21 : decode cX12_kept 21 = .ok (.ifCond .eq 13, 3) := by decide +kernel
theorem dX12_kept_24 : decode cX12_kept 24 = .ok (.iload_n 2, 1) := by decide +kernel
theorem dX12_kept_25 : decode cX12_kept 25 = .ok (.i2l, 1) := by decide +kernel
theorem dX12_kept_26 : decode cX12_kept 26 = .ok (.lconst 0, 1) := by decide +kernel
theorem dX12_kept_27 : decode cX12_kept 27 = .ok (.lconst 1, 1) := by decide +kernel
theorem dX12_kept_28 : decode cX12_kept 28 = .ok (.invokestatic 217, 3) := by decide +kernel
theorem dX12_kept_31 : decode cX12_kept 31 = .ok (.ifCond .ne 5, 3) := by decide +kernel
theorem dX12_kept_34 : decode cX12_kept 34 = .ok (.iconst (-1), 1) := by decide +kernel
theorem dX12_kept_35 : decode cX12_kept 35 = .ok (.ireturn, 1) := by decide +kernel
theorem dX12_kept_36 : decode cX12_kept 36 = .ok (.iconst (-1), 1) := by decide +kernel
theorem dX12_kept_37 : decode cX12_kept 37 = .ok (.istore_n 3, 1) := by decide +kernel
theorem dX12_kept_38 : decode cX12_kept 38 = .ok (.iconst 0, 1) := by decide +kernel
theorem dX12_kept_39 : decode cX12_kept 39 = .ok (.istore 4, 2) := by decide +kernel
theorem dX12_kept_41 : decode cX12_kept 41 = .ok (.iconst 0, 1) := by decide +kernel
theorem dX12_kept_42 : decode cX12_kept 42 = .ok (.istore 5, 2) := by decide +kernel
theorem dX12_kept_44 : decode cX12_kept 44 = .ok (.iload 5, 2) := by decide +kernel
theorem dX12_kept_46 : decode cX12_kept 46 = .ok (.iconst 1, 1) := by decide +kernel
theorem dX12_kept_47 : decode cX12_kept 47 = .ok (.aload_n 0, 1) := by decide +kernel
theorem dX12_kept_48 : decode cX12_kept 48 = .ok (.getfield 297, 3) := by decide +kernel
theorem dX12_kept_51 : decode cX12_kept 51 = .ok (.ishl, 1) := by decide +kernel
theorem dX12_kept_52 : decode cX12_kept 52 = .ok (.if_icmp .ge 75, 3) := by decide +kernel
theorem dX12_kept_55 : decode cX12_kept 55 = .ok (.aload_n 0, 1) := by decide +kernel
theorem dX12_kept_56 : decode cX12_kept 56 = .ok (.iload_n 1, 1) := by decide +kernel
theorem dX12_kept_57 : decode cX12_kept 57 = .ok (.iload 5, 2) := by decide +kernel
theorem dX12_kept_59 : decode cX12_kept 59 = .ok (.invokevirtual 425, 3) := by decide +kernel
theorem dX12_kept_62 : decode cX12_kept 62 = .ok (.aload_n 0, 1) := by decide +kernel
theorem dX12_kept_63 : decode cX12_kept 63 = .ok (.getfield 294, 3) := by decide +kernel
theorem dX12_kept_66 : decode cX12_kept 66 = .ok (.aload_n 0, 1) := by decide +kernel
theorem dX12_kept_67 : decode cX12_kept 67 = .ok (.aload_n 0, 1) := by decide +kernel
theorem dX12_kept_68 : decode cX12_kept 68 = .ok (.getfield 64, 3) := by decide +kernel
theorem dX12_kept_71 : decode cX12_kept 71 = .ok (.invokevirtual 360, 3) := by decide +kernel
theorem dX12_kept_74 : decode cX12_kept 74 = .ok (.invokestatic 429, 3) := by decide +kernel
theorem dX12_kept_77 : decode cX12_kept 77 = .ok (.isub, 1) := by decide +kernel
theorem dX12_kept_78 : decode cX12_kept 78 = .ok (.istore 6, 2) := by decide +kernel
theorem dX12_kept_80 : decode cX12_kept 80 = .ok (.iload_n 3, 1) := by decide +kernel
theorem dX12_kept_81 : decode cX12_kept 81 = .ok (.iconst (-1), 1) := by decide +kernel
theorem dX12_kept_82 : decode cX12_kept 82 = .ok (.if_icmp .eq 32, 3) := by decide +kernel
theorem dX12_kept_85 : decode cX12_kept 85 = .ok (.iload 6, 2) := by decide +kernel
theorem dX12_kept_87 : decode cX12_kept 87 = .ok (.iload 4, 2) := by decide +kernel
theorem dX12_kept_89 : decode cX12_kept 89 = .ok (.if_icmp .lt 32, 3) := by decide +kernel
theorem dX12_kept_92 : decode cX12_kept 92 = .ok (.iload 6, 2) := by decide +kernel
theorem dX12_kept_94 : decode cX12_kept 94 = .ok (.iload 4, 2) := by decide +kernel
theorem dX12_kept_96 : decode cX12_kept 96 = .ok (.if_icmp .ne 18, 3) := by decide +kernel
theorem dX12_kept_99 : decode cX12_kept 99 = .ok (.iload 5, 2) := by decide +kernel
theorem dX12_kept_101 : decode cX12_kept 101 = .ok (.invokestatic 429, 3) := by decide +kernel
theorem dX12_kept_104 : decode cX12_kept 104 = .ok (.iload_n 3, 1) := by decide +kernel
theorem dX12_kept_105 : decode cX12_kept 105 = .ok (.invokestatic 429, 3) := by decide +kernel
theorem dX12_kept_108 : decode cX12_kept 108 = .ok (.if_icmp .lt 6, 3) := by decide +kernel
theorem dX12_kept_111 : decode cX12_kept 111 = .ok (.goto 10, 3) := by decide +kernel
theorem dX12_kept_114 : decode cX12_kept 114 = .ok (.iload 5, 2) := by decide +kernel
theorem dX12_kept_116 : decode cX12_kept 116 = .ok (.istore_n 3, 1) := by decide +kernel
theorem dX12_kept_117 : decode cX12_kept 117 = .ok (.iload 6, 2) := by decide +kernel
theorem dX12_kept_119 : decode cX12_kept 119 = .ok (.istore 4, 2) := by decide +kernel
theorem dX12_kept_121 : decode cX12_kept 121 = .ok (.iinc 5 1, 3) := by decide +kernel
theorem dX12_kept_124 : decode cX12_kept 124 = .ok (.goto (-80), 3) := by decide +kernel
theorem dX12_kept_127 : decode cX12_kept 127 = .ok (.iload_n 2, 1) := by decide +kernel
theorem dX12_kept_128 : decode cX12_kept 128 = .ok (.ifCond .ne 8, 3) := by decide +kernel
theorem dX12_kept_131 : decode cX12_kept 131 = .ok (.iload 4, 2) := by decide +kernel
theorem dX12_kept_133 : decode cX12_kept 133 = .ok (.goto 4, 3) := by decide +kernel
theorem dX12_kept_136 : decode cX12_kept 136 = .ok (.iload_n 3, 1) := by decide +kernel
theorem dX12_kept_137 : decode cX12_kept 137 = .ok (.ireturn, 1) := by decide +kernel
theorem dX12_cut_0 : decode cX12_cut 0 = .ok (.aload_n 0, 1) := by decide +kernel
theorem dX12_cut_1 : decode cX12_cut 1 = .ok (.iconst 0, 1) := by decide +kernel
theorem dX12_cut_2 : decode cX12_cut 2 = .ok (.putfield 96, 3) := by decide +kernel
theorem dX12_cut_5 : decode cX12_cut 5 = .ok (.aload_n 0, 1) := by decide +kernel
theorem dX12_cut_6 : decode cX12_cut 6 = .ok (.getfield 294, 3) := by decide +kernel
theorem dX12_cut_9 : decode cX12_cut 9 = .ok (.ifCond .eq 15, 3) := by decide +kernel
theorem dX12_cut_12 : decode cX12_cut 12 = .ok (.iload_n 1, 1) := by decide +kernel
theorem dX12_cut_13 : decode cX12_cut 13 = .ok (.i2l, 1) := by decide +kernel
theorem dX12_cut_14 : decode cX12_cut 14 = .ok (.lconst 1, 1) := by decide +kernel
theorem dX12_cut_15 : decode cX12_cut 15 = .ok (.ldc2_w 367, 3) := by decide +kernel
theorem dX12_cut_18 : decode cX12_cut 18 = .ok (.invokestatic 217, 3) := by decide +kernel
theorem dX12_cut_21 : decode cX12_cut 21 = .ok (.ifCond .ne 5, 3) := by decide +kernel
theorem dX12_cut_24 : decode cX12_cut 24 = .ok (.iconst (-1), 1) := by decide +kernel
theorem dX12_cut_25 : decode cX12_cut 25 = .ok (.ireturn, 1) := by decide +kernel
theorem dX12_cut_26 : decode cX12_cut 26 = .ok (.iconst (-1), 1) := by decide +kernel
theorem dX12_cut_27 : decode cX12_cut 27 = .ok (.istore_n 2, 1) := by decide +kernel
theorem dX12_cut_28 : decode cX12_cut 28 = .ok (.iconst 1, 1) := by decide +kernel
theorem dX12_cut_29 : decode cX12_cut 29 = .ok (.istore_n 3, 1) := by decide +kernel
theorem dX12_cut_30 : decode cX12_cut 30 = .ok (.iload_n 3, 1) := by decide +kernel
theorem dX12_cut_31 : decode cX12_cut 31 = .ok (.iconst 1, 1) := by decide +kernel
theorem dX12_cut_32 : decode cX12_cut 32 = .ok (.aload_n 0, 1) := by decide +kernel
theorem dX12_cut_33 : decode cX12_cut 33 = .ok (.getfield 294, 3) := by decide +kernel
theorem dX12_cut_36 : decode cX12_cut 36 = .ok (.ishl, 1) := by decide +kernel
theorem dX12_cut_37 : decode cX12_cut 37 = .ok (.if_icmp .ge 193, 3) := by decide +kernel
theorem dX12_cut_40 : decode cX12_cut 40 = .ok (.iconst 0, 1) := by decide +kernel
theorem dX12_cut_41 : decode cX12_cut 41 = .ok (.istore 4, 2) := by decide +kernel
theorem dX12_cut_43 : decode cX12_cut 43 = .ok (.iconst 0, 1) := by decide +kernel
theorem dX12_cut_44 : decode cX12_cut 44 = .ok (.istore 5, 2) := by decide +kernel
theorem dX12_cut_46 : decode cX12_cut 46 = .ok (.iconst 0, 1) := by decide +kernel
theorem dX12_cut_47 : decode cX12_cut 47 = .ok (.istore 6, 2) := by decide +kernel
theorem dX12_cut_49 : decode cX12_cut 49 = .ok (.iload 6, 2) := by decide +kernel
theorem dX12_cut_51 : decode cX12_cut 51 = .ok (.aload_n 0, 1) := by decide +kernel
theorem dX12_cut_52 : decode cX12_cut 52 = .ok (.getfield 294, 3) := by decide +kernel
theorem dX12_cut_55 : decode cX12_cut 55 = .ok (.if_icmp .ge 73, 3) := by decide +kernel
theorem dX12_cut_58 : decode cX12_cut 58 = .ok (.iload_n 3, 1) := by decide +kernel
theorem dX12_cut_59 : decode cX12_cut 59 = .ok (.iload 6, 2) := by decide +kernel
theorem dX12_cut_61 : decode cX12_cut 61 = .ok (.invokestatic 229, 3) := by decide +kernel
theorem dX12_cut_64 : decode cX12_cut 64 = .ok (.ifCond .ne 6, 3) := by decide +kernel
theorem dX12_cut_67 : decode cX12_cut 67 = .ok (.goto 55, 3) := by decide +kernel
theorem dX12_cut_70 : decode cX12_cut 70 = .ok (.iload 4, 2) := by decide +kernel
theorem dX12_cut_72 : decode cX12_cut 72 = .ok (.aload_n 0, 1) := by decide +kernel
theorem dX12_cut_73 : decode cX12_cut 73 = .ok (.getfield 61, 3) := by decide +kernel
theorem dX12_cut_76 : decode cX12_cut 76 = .ok (.iload 6, 2) := by decide +kernel
theorem dX12_cut_78 : decode cX12_cut 78 = .ok (.invokestatic 312, 3) := by decide +kernel
theorem dX12_cut_81 : decode cX12_cut 81 = .ok (.iload_n 1, 1) := by decide +kernel
theorem dX12_cut_82 : decode cX12_cut 82 = .ok (.aload_n 0, 1) := by decide +kernel
theorem dX12_cut_83 : decode cX12_cut 83 = .ok (.getfield 37, 3) := by decide +kernel
theorem dX12_cut_86 : decode cX12_cut 86 = .ok (.iconst 0, 1) := by decide +kernel
theorem dX12_cut_87 : decode cX12_cut 87 = .ok (.iaload, 1) := by decide +kernel
theorem dX12_cut_88 : decode cX12_cut 88 = .ok (.imul, 1) := by decide +kernel
theorem dX12_cut_89 : decode cX12_cut 89 = .ok (.iadd, 1) := by decide +kernel
theorem dX12_cut_90 : decode cX12_cut 90 = .ok (.iadd, 1) := by decide +kernel
theorem dX12_cut_91 : decode cX12_cut 91 = .ok (.istore 4, 2) := by decide +kernel
theorem dX12_cut_93 : decode cX12_cut 93 = .ok (.iload 5, 2) := by decide +kernel
theorem dX12_cut_95 : decode cX12_cut 95 = .ok (.iload_n 1, 1) := by decide +kernel
theorem dX12_cut_96 : decode cX12_cut 96 = .ok (.aload_n 0, 1) := by decide +kernel
theorem dX12_cut_97 : decode cX12_cut 97 = .ok (.getfield 37, 3) := by decide +kernel
theorem dX12_cut_100 : decode cX12_cut 100 = .ok (.iconst 1, 1) := by decide +kernel
theorem dX12_cut_101 : decode cX12_cut 101 = .ok (.iaload, 1) := by decide +kernel
theorem dX12_cut_102 : decode cX12_cut 102 = .ok (.aload_n 0, 1) := by decide +kernel
theorem dX12_cut_103 : decode cX12_cut 103 = .ok (.iload 6, 2) := by decide +kernel
theorem dX12_cut_105 : decode cX12_cut 105 = .ok (.iconst 4, 1) := by decide +kernel
theorem dX12_cut_106 : decode cX12_cut 106 = .ok (.invokevirtual 300, 3) := by decide +kernel
theorem dX12_cut_109 : decode cX12_cut 109 = .ok (.iadd, 1) := by decide +kernel
theorem dX12_cut_110 : decode cX12_cut 110 = .ok (.imul, 1) := by decide +kernel
theorem dX12_cut_111 : decode cX12_cut 111 = .ok (.aload_n 0, 1) := by decide +kernel
theorem dX12_cut_112 : decode cX12_cut 112 = .ok (.iload 6, 2) := by decide +kernel
theorem dX12_cut_114 : decode cX12_cut 114 = .ok (.iconst 3, 1) := by decide +kernel
theorem dX12_cut_115 : decode cX12_cut 115 = .ok (.invokevirtual 300, 3) := by decide +kernel
theorem dX12_cut_118 : decode cX12_cut 118 = .ok (.iadd, 1) := by decide +kernel
theorem dX12_cut_119 : decode cX12_cut 119 = .ok (.iadd, 1) := by decide +kernel
theorem dX12_cut_120 : decode cX12_cut 120 = .ok (.istore 5, 2) := by decide +kernel
theorem dX12_cut_122 : decode cX12_cut 122 = .ok (.iinc 6 1, 3) := by decide +kernel
theorem dX12_cut_125 : decode cX12_cut 125 = .ok (.goto (-76), 3) := by decide +kernel
theorem dX12_cut_128 : decode cX12_cut 128 = .ok (.iconst 0, 1) := by decide +kernel
theorem dX12_cut_129 : decode cX12_cut 129 = .ok (.istore 6, 2) := by decide +kernel
theorem dX12_cut_131 : decode cX12_cut 131 = .ok (.iload 6, 2) := by decide +kernel
theorem dX12_cut_133 : decode cX12_cut 133 = .ok (.aload_n 0, 1) := by decide +kernel
theorem dX12_cut_134 : decode cX12_cut 134 = .ok (.getfield 297, 3) := by decide +kernel
theorem dX12_cut_137 : decode cX12_cut 137 = .ok (.if_icmp .ge 62, 3) := by decide +kernel
theorem dX12_cut_140 : decode cX12_cut 140 = .ok (.iload 4, 2) := by decide +kernel
theorem dX12_cut_142 : decode cX12_cut 142 = .ok (.iload_n 3, 1) := by decide +kernel
theorem dX12_cut_143 : decode cX12_cut 143 = .ok (.aload_n 0, 1) := by decide +kernel
theorem dX12_cut_144 : decode cX12_cut 144 = .ok (.getfield 49, 3) := by decide +kernel
theorem dX12_cut_147 : decode cX12_cut 147 = .ok (.iconst 5, 1) := by decide +kernel
theorem dX12_cut_148 : decode cX12_cut 148 = .ok (.iload 6, 2) := by decide +kernel
theorem dX12_cut_150 : decode cX12_cut 150 = .ok (.imul, 1) := by decide +kernel
theorem dX12_cut_151 : decode cX12_cut 151 = .ok (.iaload, 1) := by decide +kernel
theorem dX12_cut_152 : decode cX12_cut 152 = .ok (.invokestatic 229, 3) := by decide +kernel
theorem dX12_cut_155 : decode cX12_cut 155 = .ok (.iload_n 3, 1) := by decide +kernel
theorem dX12_cut_156 : decode cX12_cut 156 = .ok (.aload_n 0, 1) := by decide +kernel
theorem dX12_cut_157 : decode cX12_cut 157 = .ok (.getfield 49, 3) := by decide +kernel
theorem dX12_cut_160 : decode cX12_cut 160 = .ok (.iconst 5, 1) := by decide +kernel
theorem dX12_cut_161 : decode cX12_cut 161 = .ok (.iload 6, 2) := by decide +kernel
theorem dX12_cut_163 : decode cX12_cut 163 = .ok (.imul, 1) := by decide +kernel
theorem dX12_cut_164 : decode cX12_cut 164 = .ok (.iconst 1, 1) := by decide +kernel
theorem dX12_cut_165 : decode cX12_cut 165 = .ok (.iadd, 1) := by decide +kernel
theorem dX12_cut_166 : decode cX12_cut 166 = .ok (.iaload, 1) := by decide +kernel
theorem dX12_cut_167 : decode cX12_cut 167 = .ok (.invokestatic 229, 3) := by decide +kernel
theorem dX12_cut_170 : decode cX12_cut 170 = .ok (.if_icmp .eq 19, 3) := by decide +kernel
theorem dX12_cut_173 : decode cX12_cut 173 = .ok (.iload_n 1, 1) := by decide +kernel
theorem dX12_cut_174 : decode cX12_cut 174 = .ok (.aload_n 0, 1) := by decide +kernel
theorem dX12_cut_175 : decode cX12_cut 175 = .ok (.getfield 49, 3) := by decide +kernel
theorem dX12_cut_178 : decode cX12_cut 178 = .ok (.iconst 5, 1) := by decide +kernel
theorem dX12_cut_179 : decode cX12_cut 179 = .ok (.iload 6, 2) := by decide +kernel
theorem dX12_cut_181 : decode cX12_cut 181 = .ok (.imul, 1) := by decide +kernel
theorem dX12_cut_182 : decode cX12_cut 182 = .ok (.iconst 2, 1) := by decide +kernel
theorem dX12_cut_183 : decode cX12_cut 183 = .ok (.iadd, 1) := by decide +kernel
theorem dX12_cut_184 : decode cX12_cut 184 = .ok (.iaload, 1) := by decide +kernel
theorem dX12_cut_185 : decode cX12_cut 185 = .ok (.imul, 1) := by decide +kernel
theorem dX12_cut_186 : decode cX12_cut 186 = .ok (.goto 4, 3) := by decide +kernel
theorem dX12_cut_189 : decode cX12_cut 189 = .ok (.iconst 0, 1) := by decide +kernel
theorem dX12_cut_190 : decode cX12_cut 190 = .ok (.iadd, 1) := by decide +kernel
theorem dX12_cut_191 : decode cX12_cut 191 = .ok (.istore 4, 2) := by decide +kernel
theorem dX12_cut_193 : decode cX12_cut 193 = .ok (.iinc 6 1, 3) := by decide +kernel
theorem dX12_cut_196 : decode cX12_cut 196 = .ok (.goto (-65), 3) := by decide +kernel
theorem dX12_cut_199 : decode cX12_cut 199 = .ok (.iload 4, 2) := by decide +kernel
theorem dX12_cut_201 : decode cX12_cut 201 = .ok (.iload 5, 2) := by decide +kernel
theorem dX12_cut_203 : decode cX12_cut 203 = .ok (.if_icmp .ge 21, 3) := by decide +kernel
theorem dX12_cut_206 : decode cX12_cut 206 = .ok (.iload_n 2, 1) := by decide +kernel
theorem dX12_cut_207 : decode cX12_cut 207 = .ok (.iconst (-1), 1) := by decide +kernel
theorem dX12_cut_208 : decode cX12_cut 208 = .ok (.if_icmp .eq 14, 3) := by decide +kernel
theorem dX12_cut_211 : decode cX12_cut 211 = .ok (.iload_n 3, 1) := by decide +kernel
theorem dX12_cut_212 : decode cX12_cut 212 = .ok (.invokestatic 429, 3) := by decide +kernel
theorem dX12_cut_215 : decode cX12_cut 215 = .ok (.iload_n 2, 1) := by decide +kernel
theorem dX12_cut_216 : decode cX12_cut 216 = .ok (.invokestatic 429, 3) := by decide +kernel
theorem dX12_cut_219 : decode cX12_cut 219 = .ok (.if_icmp .ge 5, 3) := by decide +kernel
theorem dX12_cut_222 : decode cX12_cut 222 = .ok (.iload_n 3, 1) := by decide +kernel
theorem dX12_cut_223 : decode cX12_cut 223 = .ok (.istore_n 2, 1) := by decide +kernel
theorem dX12_cut_224 : decode cX12_cut 224 = .ok (.iinc 3 1, 3) := by decide +kernel
theorem dX12_cut_227 : decode cX12_cut 227 = .ok (.goto (-197), 3) := by decide +kernel
theorem dX12_cut_230 : decode cX12_cut 230 = .ok (.iload_n 2, 1) := by decide +kernel
theorem dX12_cut_231 : decode cX12_cut 231 = .ok (.ireturn, 1) := by decide +kernel
theorem dX12_joinedBy_0 : decode cX12_joinedBy 0 = .ok (.iconst 1, 1) := by decide +kernel
theorem dX12_joinedBy_1 : decode cX12_joinedBy 1 = .ok (.iload_n 1, 1) := by decide +kernel
theorem dX12_joinedBy_2 : decode cX12_joinedBy 2 = .ok (.ishl, 1) := by decide +kernel
theorem dX12_joinedBy_3 : decode cX12_joinedBy 3 = .ok (.istore_n 3, 1) := by decide +kernel
theorem dX12_joinedBy_4 : decode cX12_joinedBy 4 = .ok (.iconst 0, 1) := by decide +kernel
theorem dX12_joinedBy_5 : decode cX12_joinedBy 5 = .ok (.istore 4, 2) := by decide +kernel
theorem dX12_joinedBy_7 : decode cX12_joinedBy 7 = .ok (.iload 4, 2) := by decide +kernel
theorem dX12_joinedBy_9 : decode cX12_joinedBy 9 = .ok (.aload_n 0, 1) := by decide +kernel
theorem dX12_joinedBy_10 : decode cX12_joinedBy 10 = .ok (.getfield 294, 3) := by decide +kernel
theorem dX12_joinedBy_13 : decode cX12_joinedBy 13 = .ok (.if_icmp .ge 75, 3) := by decide +kernel
theorem dX12_joinedBy_16 : decode cX12_joinedBy 16 = .ok (.iconst 0, 1) := by decide +kernel
theorem dX12_joinedBy_17 : decode cX12_joinedBy 17 = .ok (.istore 5, 2) := by decide +kernel
theorem dX12_joinedBy_19 : decode cX12_joinedBy 19 = .ok (.iload 5, 2) := by decide +kernel
theorem dX12_joinedBy_21 : decode cX12_joinedBy 21 = .ok (.aload_n 0, 1) := by decide +kernel
theorem dX12_joinedBy_22 : decode cX12_joinedBy 22 = .ok (.getfield 297, 3) := by decide +kernel
theorem dX12_joinedBy_25 : decode cX12_joinedBy 25 = .ok (.if_icmp .ge 57, 3) := by decide +kernel
theorem dX12_joinedBy_28 : decode cX12_joinedBy 28 = .ok (.iconst 1, 1) := by decide +kernel
theorem dX12_joinedBy_29 : decode cX12_joinedBy 29 = .ok (.aload_n 0, 1) := by decide +kernel
theorem dX12_joinedBy_30 : decode cX12_joinedBy 30 = .ok (.getfield 49, 3) := by decide +kernel
theorem dX12_joinedBy_33 : decode cX12_joinedBy 33 = .ok (.iconst 5, 1) := by decide +kernel
theorem dX12_joinedBy_34 : decode cX12_joinedBy 34 = .ok (.iload 5, 2) := by decide +kernel
theorem dX12_joinedBy_36 : decode cX12_joinedBy 36 = .ok (.imul, 1) := by decide +kernel
theorem dX12_joinedBy_37 : decode cX12_joinedBy 37 = .ok (.iaload, 1) := by decide +kernel
theorem dX12_joinedBy_38 : decode cX12_joinedBy 38 = .ok (.ishl, 1) := by decide +kernel
theorem dX12_joinedBy_39 : decode cX12_joinedBy 39 = .ok (.iconst 1, 1) := by decide +kernel
theorem dX12_joinedBy_40 : decode cX12_joinedBy 40 = .ok (.aload_n 0, 1) := by decide +kernel
theorem dX12_joinedBy_41 : decode cX12_joinedBy 41 = .ok (.getfield 49, 3) := by decide +kernel
theorem dX12_joinedBy_44 : decode cX12_joinedBy 44 = .ok (.iconst 5, 1) := by decide +kernel
theorem dX12_joinedBy_45 : decode cX12_joinedBy 45 = .ok (.iload 5, 2) := by decide +kernel
theorem dX12_joinedBy_47 : decode cX12_joinedBy 47 = .ok (.imul, 1) := by decide +kernel
theorem dX12_joinedBy_48 : decode cX12_joinedBy 48 = .ok (.iconst 1, 1) := by decide +kernel
theorem dX12_joinedBy_49 : decode cX12_joinedBy 49 = .ok (.iadd, 1) := by decide +kernel
theorem dX12_joinedBy_50 : decode cX12_joinedBy 50 = .ok (.iaload, 1) := by decide +kernel
theorem dX12_joinedBy_51 : decode cX12_joinedBy 51 = .ok (.ishl, 1) := by decide +kernel
theorem dX12_joinedBy_52 : decode cX12_joinedBy 52 = .ok (.ior, 1) := by decide +kernel
theorem dX12_joinedBy_53 : decode cX12_joinedBy 53 = .ok (.istore 6, 2) := by decide +kernel
theorem dX12_joinedBy_55 : decode cX12_joinedBy 55 = .ok (.iload_n 2, 1) := by decide +kernel
theorem dX12_joinedBy_56 : decode cX12_joinedBy 56 = .ok (.iload 5, 2) := by decide +kernel
theorem dX12_joinedBy_58 : decode cX12_joinedBy 58 = .ok (.invokestatic 229, 3) := by decide +kernel
theorem dX12_joinedBy_61 : decode cX12_joinedBy 61 = .ok (.ifCond .eq 15, 3) := by decide +kernel
theorem dX12_joinedBy_64 : decode cX12_joinedBy 64 = .ok (.iload_n 3, 1) := by decide +kernel
theorem dX12_joinedBy_65 : decode cX12_joinedBy 65 = .ok (.iload 6, 2) := by decide +kernel
theorem dX12_joinedBy_67 : decode cX12_joinedBy 67 = .ok (.iand, 1) := by decide +kernel
theorem dX12_joinedBy_68 : decode cX12_joinedBy 68 = .ok (.ifCond .eq 8, 3) := by decide +kernel
theorem dX12_joinedBy_71 : decode cX12_joinedBy 71 = .ok (.iload_n 3, 1) := by decide +kernel
theorem dX12_joinedBy_72 : decode cX12_joinedBy 72 = .ok (.iload 6, 2) := by decide +kernel
theorem dX12_joinedBy_74 : decode cX12_joinedBy 74 = .ok (.ior, 1) := by decide +kernel
theorem dX12_joinedBy_75 : decode cX12_joinedBy 75 = .ok (.istore_n 3, 1) := by decide +kernel
theorem dX12_joinedBy_76 : decode cX12_joinedBy 76 = .ok (.iinc 5 1, 3) := by decide +kernel
theorem dX12_joinedBy_79 : decode cX12_joinedBy 79 = .ok (.goto (-60), 3) := by decide +kernel
theorem dX12_joinedBy_82 : decode cX12_joinedBy 82 = .ok (.iinc 4 1, 3) := by decide +kernel
theorem dX12_joinedBy_85 : decode cX12_joinedBy 85 = .ok (.goto (-78), 3) := by decide +kernel
theorem dX12_joinedBy_88 : decode cX12_joinedBy 88 = .ok (.iload_n 3, 1) := by decide +kernel
theorem dX12_joinedBy_89 : decode cX12_joinedBy 89 = .ok (.ireturn, 1) := by decide +kernel
theorem dX12_rest_0 : decode cX12_rest 0 = .ok (.aload_n 0, 1) := by decide +kernel
theorem dX12_rest_1 : decode cX12_rest 1 = .ok (.iconst 0, 1) := by decide +kernel
theorem dX12_rest_2 : decode cX12_rest 2 = .ok (.putfield 96, 3) := by decide +kernel
theorem dX12_rest_5 : decode cX12_rest 5 = .ok (.aload_n 0, 1) := by decide +kernel
theorem dX12_rest_6 : decode cX12_rest 6 = .ok (.iload_n 1, 1) := by decide +kernel
theorem dX12_rest_7 : decode cX12_rest 7 = .ok (.invokevirtual 364, 3) := by decide +kernel
theorem dX12_rest_10 : decode cX12_rest 10 = .ok (.ifCond .ne 5, 3) := by decide +kernel
theorem dX12_rest_13 : decode cX12_rest 13 = .ok (.iconst (-1), 1) := by decide +kernel
theorem dX12_rest_14 : decode cX12_rest 14 = .ok (.ireturn, 1) := by decide +kernel
theorem dX12_rest_15 : decode cX12_rest 15 = .ok (.aload_n 0, 1) := by decide +kernel
theorem dX12_rest_16 : decode cX12_rest 16 = .ok (.iload_n 1, 1) := by decide +kernel
theorem dX12_rest_17 : decode cX12_rest 17 = .ok (.aload_n 0, 1) := by decide +kernel
theorem dX12_rest_18 : decode cX12_rest 18 = .ok (.getfield 61, 3) := by decide +kernel
theorem dX12_rest_21 : decode cX12_rest 21 = .ok (.bipush 21, 2) := by decide +kernel
theorem dX12_rest_23 : decode cX12_rest 23 = .ok (.iaload, 1) := by decide +kernel
theorem dX12_rest_24 : decode cX12_rest 24 = .ok (.invokevirtual 437, 3) := by decide +kernel
theorem dX12_rest_27 : decode cX12_rest 27 = .ok (.istore_n 2, 1) := by decide +kernel
theorem dX12_rest_28 : decode cX12_rest 28 = .ok (.iconst 0, 1) := by decide +kernel
theorem dX12_rest_29 : decode cX12_rest 29 = .ok (.istore_n 3, 1) := by decide +kernel
theorem dX12_rest_30 : decode cX12_rest 30 = .ok (.iconst 0, 1) := by decide +kernel
theorem dX12_rest_31 : decode cX12_rest 31 = .ok (.istore 4, 2) := by decide +kernel
theorem dX12_rest_33 : decode cX12_rest 33 = .ok (.iload 4, 2) := by decide +kernel
theorem dX12_rest_35 : decode cX12_rest 35 = .ok (.aload_n 0, 1) := by decide +kernel
theorem dX12_rest_36 : decode cX12_rest 36 = .ok (.getfield 294, 3) := by decide +kernel
theorem dX12_rest_39 : decode cX12_rest 39 = .ok (.if_icmp .ge 34, 3) := by decide +kernel
theorem dX12_rest_42 : decode cX12_rest 42 = .ok (.iload_n 3, 1) := by decide +kernel
theorem dX12_rest_43 : decode cX12_rest 43 = .ok (.iload_n 2, 1) := by decide +kernel
theorem dX12_rest_44 : decode cX12_rest 44 = .ok (.iload 4, 2) := by decide +kernel
theorem dX12_rest_46 : decode cX12_rest 46 = .ok (.invokestatic 229, 3) := by decide +kernel
theorem dX12_rest_49 : decode cX12_rest 49 = .ok (.ifCond .eq 15, 3) := by decide +kernel
theorem dX12_rest_52 : decode cX12_rest 52 = .ok (.aload_n 0, 1) := by decide +kernel
theorem dX12_rest_53 : decode cX12_rest 53 = .ok (.getfield 61, 3) := by decide +kernel
theorem dX12_rest_56 : decode cX12_rest 56 = .ok (.iload 4, 2) := by decide +kernel
theorem dX12_rest_58 : decode cX12_rest 58 = .ok (.invokestatic 312, 3) := by decide +kernel
theorem dX12_rest_61 : decode cX12_rest 61 = .ok (.goto 4, 3) := by decide +kernel
theorem dX12_rest_64 : decode cX12_rest 64 = .ok (.iconst 0, 1) := by decide +kernel
theorem dX12_rest_65 : decode cX12_rest 65 = .ok (.iadd, 1) := by decide +kernel
theorem dX12_rest_66 : decode cX12_rest 66 = .ok (.istore_n 3, 1) := by decide +kernel
theorem dX12_rest_67 : decode cX12_rest 67 = .ok (.iinc 4 1, 3) := by decide +kernel
theorem dX12_rest_70 : decode cX12_rest 70 = .ok (.goto (-37), 3) := by decide +kernel
theorem dX12_rest_73 : decode cX12_rest 73 = .ok (.iconst 0, 1) := by decide +kernel
theorem dX12_rest_74 : decode cX12_rest 74 = .ok (.istore 4, 2) := by decide +kernel
theorem dX12_rest_76 : decode cX12_rest 76 = .ok (.iconst 0, 1) := by decide +kernel
theorem dX12_rest_77 : decode cX12_rest 77 = .ok (.istore 5, 2) := by decide +kernel
theorem dX12_rest_79 : decode cX12_rest 79 = .ok (.iconst 0, 1) := by decide +kernel
theorem dX12_rest_80 : decode cX12_rest 80 = .ok (.istore 6, 2) := by decide +kernel
theorem dX12_rest_82 : decode cX12_rest 82 = .ok (.iload 6, 2) := by decide +kernel
theorem dX12_rest_84 : decode cX12_rest 84 = .ok (.aload_n 0, 1) := by decide +kernel
theorem dX12_rest_85 : decode cX12_rest 85 = .ok (.getfield 294, 3) := by decide +kernel
theorem dX12_rest_88 : decode cX12_rest 88 = .ok (.if_icmp .ge 41, 3) := by decide +kernel
theorem dX12_rest_91 : decode cX12_rest 91 = .ok (.iload 5, 2) := by decide +kernel
theorem dX12_rest_93 : decode cX12_rest 93 = .ok (.iload_n 2, 1) := by decide +kernel
theorem dX12_rest_94 : decode cX12_rest 94 = .ok (.iload 6, 2) := by decide +kernel
theorem dX12_rest_96 : decode cX12_rest 96 = .ok (.invokestatic 229, 3) := by decide +kernel
theorem dX12_rest_99 : decode cX12_rest 99 = .ok (.ifCond .eq 20, 3) := by decide +kernel
theorem dX12_rest_102 : decode cX12_rest 102 = .ok (.iconst 0, 1) := by decide +kernel
theorem dX12_rest_103 : decode cX12_rest 103 = .ok (.iload 4, 2) := by decide +kernel
theorem dX12_rest_105 : decode cX12_rest 105 = .ok (.aload_n 0, 1) := by decide +kernel
theorem dX12_rest_106 : decode cX12_rest 106 = .ok (.iload 6, 2) := by decide +kernel
theorem dX12_rest_108 : decode cX12_rest 108 = .ok (.iconst 2, 1) := by decide +kernel
theorem dX12_rest_109 : decode cX12_rest 109 = .ok (.invokevirtual 300, 3) := by decide +kernel
theorem dX12_rest_112 : decode cX12_rest 112 = .ok (.isub, 1) := by decide +kernel
theorem dX12_rest_113 : decode cX12_rest 113 = .ok (.invokestatic 328, 3) := by decide +kernel
theorem dX12_rest_116 : decode cX12_rest 116 = .ok (.goto 4, 3) := by decide +kernel
theorem dX12_rest_119 : decode cX12_rest 119 = .ok (.iconst 0, 1) := by decide +kernel
theorem dX12_rest_120 : decode cX12_rest 120 = .ok (.iadd, 1) := by decide +kernel
theorem dX12_rest_121 : decode cX12_rest 121 = .ok (.istore 5, 2) := by decide +kernel
theorem dX12_rest_123 : decode cX12_rest 123 = .ok (.iinc 6 1, 3) := by decide +kernel
theorem dX12_rest_126 : decode cX12_rest 126 = .ok (.goto (-44), 3) := by decide +kernel
theorem dX12_rest_129 : decode cX12_rest 129 = .ok (.iload 5, 2) := by decide +kernel
theorem dX12_rest_131 : decode cX12_rest 131 = .ok (.iload_n 3, 1) := by decide +kernel
theorem dX12_rest_132 : decode cX12_rest 132 = .ok (.if_icmp .lt 6, 3) := by decide +kernel
theorem dX12_rest_135 : decode cX12_rest 135 = .ok (.iload 4, 2) := by decide +kernel
theorem dX12_rest_137 : decode cX12_rest 137 = .ok (.ireturn, 1) := by decide +kernel
theorem dX12_rest_138 : decode cX12_rest 138 = .ok (.iinc 4 1, 3) := by decide +kernel
theorem dX12_rest_141 : decode cX12_rest 141 = .ok (.goto (-65), 3) := by decide +kernel
theorem dX12_joined_0 : decode cX12_joined 0 = .ok (.aload_n 0, 1) := by decide +kernel
theorem dX12_joined_1 : decode cX12_joined 1 = .ok (.iconst 0, 1) := by decide +kernel
theorem dX12_joined_2 : decode cX12_joined 2 = .ok (.putfield 96, 3) := by decide +kernel
theorem dX12_joined_5 : decode cX12_joined 5 = .ok (.aload_n 0, 1) := by decide +kernel
theorem dX12_joined_6 : decode cX12_joined 6 = .ok (.iload_n 1, 1) := by decide +kernel
theorem dX12_joined_7 : decode cX12_joined 7 = .ok (.invokevirtual 364, 3) := by decide +kernel
theorem dX12_joined_10 : decode cX12_joined 10 = .ok (.ifCond .eq 18, 3) := by decide +kernel
theorem dX12_joined_13 : decode cX12_joined 13 = .ok (.aload_n 0, 1) := by decide +kernel
theorem dX12_joined_14 : decode cX12_joined 14 = .ok (.iload_n 1, 1) := by decide +kernel
theorem dX12_joined_15 : decode cX12_joined 15 = .ok (.aload_n 0, 1) := by decide +kernel
theorem dX12_joined_16 : decode cX12_joined 16 = .ok (.getfield 61, 3) := by decide +kernel
theorem dX12_joined_19 : decode cX12_joined 19 = .ok (.bipush 21, 2) := by decide +kernel
theorem dX12_joined_21 : decode cX12_joined 21 = .ok (.iaload, 1) := by decide +kernel
theorem dX12_joined_22 : decode cX12_joined 22 = .ok (.invokevirtual 437, 3) := by decide +kernel
theorem dX12_joined_25 : decode cX12_joined 25 = .ok (.goto 4, 3) := by decide +kernel
theorem dX12_joined_28 : decode cX12_joined 28 = .ok (.iconst (-1), 1) := by decide +kernel
theorem dX12_joined_29 : decode cX12_joined 29 = .ok (.ireturn, 1) := by decide +kernel
theorem dX12_areApart_0 : decode cX12_areApart 0 = .ok (.iconst 0, 1) := by decide +kernel
theorem dX12_areApart_1 : decode cX12_areApart 1 = .ok (.istore_n 2, 1) := by decide +kernel
theorem dX12_areApart_2 : decode cX12_areApart 2 = .ok (.iload_n 2, 1) := by decide +kernel
theorem dX12_areApart_3 : decode cX12_areApart 3 = .ok (.aload_n 0, 1) := by decide +kernel
theorem dX12_areApart_4 : decode cX12_areApart 4 = .ok (.getfield 294, 3) := by decide +kernel
theorem dX12_areApart_7 : decode cX12_areApart 7 = .ok (.if_icmp .ge 81, 3) := by decide +kernel
theorem dX12_areApart_10 : decode cX12_areApart 10 = .ok (.aload_n 0, 1) := by decide +kernel
theorem dX12_areApart_11 : decode cX12_areApart 11 = .ok (.getfield 61, 3) := by decide +kernel
theorem dX12_areApart_14 : decode cX12_areApart 14 = .ok (.iconst 3, 1) := by decide +kernel
theorem dX12_areApart_15 : decode cX12_areApart 15 = .ok (.iload_n 2, 1) := by decide +kernel
theorem dX12_areApart_16 : decode cX12_areApart 16 = .ok (.imul, 1) := by decide +kernel
theorem dX12_areApart_17 : decode cX12_areApart 17 = .ok (.iconst 2, 1) := by decide +kernel
theorem dX12_areApart_18 : decode cX12_areApart 18 = .ok (.iadd, 1) := by decide +kernel
theorem dX12_areApart_19 : decode cX12_areApart 19 = .ok (.iaload, 1) := by decide +kernel
theorem dX12_areApart_20 : decode cX12_areApart 20 = .ok (.ifCond .ne 6, 3) := by decide +kernel
theorem dX12_areApart_23 : decode cX12_areApart 23 = .ok (.goto 59, 3) := by decide +kernel
theorem dX12_areApart_26 : decode cX12_areApart 26 = .ok (.aload_n 0, 1) := by decide +kernel
theorem dX12_areApart_27 : decode cX12_areApart 27 = .ok (.iload_n 2, 1) := by decide +kernel
theorem dX12_areApart_28 : decode cX12_areApart 28 = .ok (.iload_n 1, 1) := by decide +kernel
theorem dX12_areApart_29 : decode cX12_areApart 29 = .ok (.invokevirtual 437, 3) := by decide +kernel
theorem dX12_areApart_32 : decode cX12_areApart 32 = .ok (.iconst 1, 1) := by decide +kernel
theorem dX12_areApart_33 : decode cX12_areApart 33 = .ok (.iload_n 2, 1) := by decide +kernel
theorem dX12_areApart_34 : decode cX12_areApart 34 = .ok (.ishl, 1) := by decide +kernel
theorem dX12_areApart_35 : decode cX12_areApart 35 = .ok (.iconst (-1), 1) := by decide +kernel
theorem dX12_areApart_36 : decode cX12_areApart 36 = .ok (.ixor, 1) := by decide +kernel
theorem dX12_areApart_37 : decode cX12_areApart 37 = .ok (.iand, 1) := by decide +kernel
theorem dX12_areApart_38 : decode cX12_areApart 38 = .ok (.istore_n 3, 1) := by decide +kernel
theorem dX12_areApart_39 : decode cX12_areApart 39 = .ok (.iconst 0, 1) := by decide +kernel
theorem dX12_areApart_40 : decode cX12_areApart 40 = .ok (.istore 4, 2) := by decide +kernel
theorem dX12_areApart_42 : decode cX12_areApart 42 = .ok (.iload 4, 2) := by decide +kernel
theorem dX12_areApart_44 : decode cX12_areApart 44 = .ok (.aload_n 0, 1) := by decide +kernel
theorem dX12_areApart_45 : decode cX12_areApart 45 = .ok (.getfield 294, 3) := by decide +kernel
theorem dX12_areApart_48 : decode cX12_areApart 48 = .ok (.if_icmp .ge 34, 3) := by decide +kernel
theorem dX12_areApart_51 : decode cX12_areApart 51 = .ok (.iload_n 3, 1) := by decide +kernel
theorem dX12_areApart_52 : decode cX12_areApart 52 = .ok (.iload 4, 2) := by decide +kernel
theorem dX12_areApart_54 : decode cX12_areApart 54 = .ok (.invokestatic 229, 3) := by decide +kernel
theorem dX12_areApart_57 : decode cX12_areApart 57 = .ok (.ifCond .eq 19, 3) := by decide +kernel
theorem dX12_areApart_60 : decode cX12_areApart 60 = .ok (.aload_n 0, 1) := by decide +kernel
theorem dX12_areApart_61 : decode cX12_areApart 61 = .ok (.getfield 61, 3) := by decide +kernel
theorem dX12_areApart_64 : decode cX12_areApart 64 = .ok (.iconst 3, 1) := by decide +kernel
theorem dX12_areApart_65 : decode cX12_areApart 65 = .ok (.iload 4, 2) := by decide +kernel
theorem dX12_areApart_67 : decode cX12_areApart 67 = .ok (.imul, 1) := by decide +kernel
theorem dX12_areApart_68 : decode cX12_areApart 68 = .ok (.iconst 1, 1) := by decide +kernel
theorem dX12_areApart_69 : decode cX12_areApart 69 = .ok (.iadd, 1) := by decide +kernel
theorem dX12_areApart_70 : decode cX12_areApart 70 = .ok (.iaload, 1) := by decide +kernel
theorem dX12_areApart_71 : decode cX12_areApart 71 = .ok (.ifCond .le 5, 3) := by decide +kernel
theorem dX12_areApart_74 : decode cX12_areApart 74 = .ok (.iconst 0, 1) := by decide +kernel
theorem dX12_areApart_75 : decode cX12_areApart 75 = .ok (.ireturn, 1) := by decide +kernel
theorem dX12_areApart_76 : decode cX12_areApart 76 = .ok (.iinc 4 1, 3) := by decide +kernel
theorem dX12_areApart_79 : decode cX12_areApart 79 = .ok (.goto (-37), 3) := by decide +kernel
theorem dX12_areApart_82 : decode cX12_areApart 82 = .ok (.iinc 2 1, 3) := by decide +kernel
theorem dX12_areApart_85 : decode cX12_areApart 85 = .ok (.goto (-83), 3) := by decide +kernel
theorem dX12_areApart_88 : decode cX12_areApart 88 = .ok (.iconst 1, 1) := by decide +kernel
theorem dX12_areApart_89 : decode cX12_areApart 89 = .ok (.ireturn, 1) := by decide +kernel
theorem dX12_apart_0 : decode cX12_apart 0 = .ok (.aload_n 0, 1) := by decide +kernel
theorem dX12_apart_1 : decode cX12_apart 1 = .ok (.iconst 0, 1) := by decide +kernel
theorem dX12_apart_2 : decode cX12_apart 2 = .ok (.putfield 96, 3) := by decide +kernel
theorem dX12_apart_5 : decode cX12_apart 5 = .ok (.aload_n 0, 1) := by decide +kernel
theorem dX12_apart_6 : decode cX12_apart 6 = .ok (.getfield 294, 3) := by decide +kernel
theorem dX12_apart_9 : decode cX12_apart 9 = .ok (.ifCond .ne 5, 3) := by decide +kernel
theorem dX12_apart_12 : decode cX12_apart 12 = .ok (.iconst (-1), 1) := by decide +kernel
theorem dX12_apart_13 : decode cX12_apart 13 = .ok (.ireturn, 1) := by decide +kernel
theorem dX12_apart_14 : decode cX12_apart 14 = .ok (.iconst 0, 1) := by decide +kernel
theorem dX12_apart_15 : decode cX12_apart 15 = .ok (.istore_n 1, 1) := by decide +kernel
theorem dX12_apart_16 : decode cX12_apart 16 = .ok (.iconst 1, 1) := by decide +kernel
theorem dX12_apart_17 : decode cX12_apart 17 = .ok (.istore_n 2, 1) := by decide +kernel
theorem dX12_apart_18 : decode cX12_apart 18 = .ok (.iload_n 2, 1) := by decide +kernel
theorem dX12_apart_19 : decode cX12_apart 19 = .ok (.iconst 1, 1) := by decide +kernel
theorem dX12_apart_20 : decode cX12_apart 20 = .ok (.aload_n 0, 1) := by decide +kernel
theorem dX12_apart_21 : decode cX12_apart 21 = .ok (.getfield 297, 3) := by decide +kernel
theorem dX12_apart_24 : decode cX12_apart 24 = .ok (.ishl, 1) := by decide +kernel
theorem dX12_apart_25 : decode cX12_apart 25 = .ok (.if_icmp .ge 30, 3) := by decide +kernel
theorem dX12_apart_28 : decode cX12_apart 28 = .ok (.iload_n 2, 1) := by decide +kernel
theorem dX12_apart_29 : decode cX12_apart 29 = .ok (.invokestatic 429, 3) := by decide +kernel
theorem dX12_apart_32 : decode cX12_apart 32 = .ok (.iload_n 1, 1) := by decide +kernel
theorem dX12_apart_33 : decode cX12_apart 33 = .ok (.invokestatic 429, 3) := by decide +kernel
theorem dX12_apart_36 : decode cX12_apart 36 = .ok (.if_icmp .le 13, 3) := by decide +kernel
theorem dX12_apart_39 : decode cX12_apart 39 = .ok (.aload_n 0, 1) := by decide +kernel
theorem dX12_apart_40 : decode cX12_apart 40 = .ok (.iload_n 2, 1) := by decide +kernel
theorem dX12_apart_41 : decode cX12_apart 41 = .ok (.invokevirtual 440, 3) := by decide +kernel
theorem dX12_apart_44 : decode cX12_apart 44 = .ok (.ifCond .eq 5, 3) := by decide +kernel
theorem dX12_apart_47 : decode cX12_apart 47 = .ok (.iload_n 2, 1) := by decide +kernel
theorem dX12_apart_48 : decode cX12_apart 48 = .ok (.istore_n 1, 1) := by decide +kernel
theorem dX12_apart_49 : decode cX12_apart 49 = .ok (.iinc 2 1, 3) := by decide +kernel
theorem dX12_apart_52 : decode cX12_apart 52 = .ok (.goto (-34), 3) := by decide +kernel
theorem dX12_apart_55 : decode cX12_apart 55 = .ok (.iload_n 1, 1) := by decide +kernel
theorem dX12_apart_56 : decode cX12_apart 56 = .ok (.ireturn, 1) := by decide +kernel
theorem dX12_measured_0 : decode cX12_measured 0 = .ok (.aload_n 0, 1) := by decide +kernel
theorem dX12_measured_1 : decode cX12_measured 1 = .ok (.iconst 0, 1) := by decide +kernel
theorem dX12_measured_2 : decode cX12_measured 2 = .ok (.putfield 96, 3) := by decide +kernel
theorem dX12_measured_5 : decode cX12_measured 5 = .ok (.aload_n 0, 1) := by decide +kernel
theorem dX12_measured_6 : decode cX12_measured 6 = .ok (.iload_n 1, 1) := by decide +kernel
theorem dX12_measured_7 : decode cX12_measured 7 = .ok (.invokevirtual 364, 3) := by decide +kernel
theorem dX12_measured_10 : decode cX12_measured 10 = .ok (.ifCond .eq 26, 3) := by decide +kernel
theorem dX12_measured_13 : decode cX12_measured 13 = .ok (.iload_n 2, 1) := by decide +kernel
theorem dX12_measured_14 : decode cX12_measured 14 = .ok (.i2l, 1) := by decide +kernel
theorem dX12_measured_15 : decode cX12_measured 15 = .ok (.ldc2_w 443, 3) := by decide +kernel
theorem dX12_measured_18 : decode cX12_measured 18 = .ok (.ldc2_w 367, 3) := by decide +kernel
theorem dX12_measured_21 : decode cX12_measured 21 = .ok (.invokestatic 217, 3) := by decide +kernel
theorem dX12_measured_24 : decode cX12_measured 24 = .ok (.ifCond .eq 12, 3) := by decide +kernel
theorem dX12_measured_27 : decode cX12_measured 27 = .ok (.aload_n 0, 1) := by decide +kernel
theorem dX12_measured_28 : decode cX12_measured 28 = .ok (.getfield 303, 3) := by decide +kernel
theorem dX12_measured_31 : decode cX12_measured 31 = .ok (.bipush 10, 2) := by decide +kernel
theorem dX12_measured_33 : decode cX12_measured 33 = .ok (.if_icmp .ne 5, 3) := by decide +kernel
theorem dX12_measured_36 : decode cX12_measured 36 = .ok (.iconst (-1), 1) := by decide +kernel
theorem dX12_measured_37 : decode cX12_measured 37 = .ok (.ireturn, 1) := by decide +kernel
theorem dX12_measured_38 : decode cX12_measured 38 = .ok (.aload_n 0, 1) := by decide +kernel
theorem dX12_measured_39 : decode cX12_measured 39 = .ok (.getfield 84, 3) := by decide +kernel
theorem dX12_measured_42 : decode cX12_measured 42 = .ok (.aload_n 0, 1) := by decide +kernel
theorem dX12_measured_43 : decode cX12_measured 43 = .ok (.getfield 303, 3) := by decide +kernel
theorem dX12_measured_46 : decode cX12_measured 46 = .ok (.iload_n 1, 1) := by decide +kernel
theorem dX12_measured_47 : decode cX12_measured 47 = .ok (.iastore, 1) := by decide +kernel
theorem dX12_measured_48 : decode cX12_measured 48 = .ok (.aload_n 0, 1) := by decide +kernel
theorem dX12_measured_49 : decode cX12_measured 49 = .ok (.getfield 87, 3) := by decide +kernel
theorem dX12_measured_52 : decode cX12_measured 52 = .ok (.aload_n 0, 1) := by decide +kernel
theorem dX12_measured_53 : decode cX12_measured 53 = .ok (.getfield 303, 3) := by decide +kernel
theorem dX12_measured_56 : decode cX12_measured 56 = .ok (.iload_n 2, 1) := by decide +kernel
theorem dX12_measured_57 : decode cX12_measured 57 = .ok (.iastore, 1) := by decide +kernel
theorem dX12_measured_58 : decode cX12_measured 58 = .ok (.aload_n 0, 1) := by decide +kernel
theorem dX12_measured_59 : decode cX12_measured 59 = .ok (.dup, 1) := by decide +kernel
theorem dX12_measured_60 : decode cX12_measured 60 = .ok (.getfield 303, 3) := by decide +kernel
theorem dX12_measured_63 : decode cX12_measured 63 = .ok (.iconst 1, 1) := by decide +kernel
theorem dX12_measured_64 : decode cX12_measured 64 = .ok (.iadd, 1) := by decide +kernel
theorem dX12_measured_65 : decode cX12_measured 65 = .ok (.putfield 303, 3) := by decide +kernel
theorem dX12_measured_68 : decode cX12_measured 68 = .ok (.aload_n 0, 1) := by decide +kernel
theorem dX12_measured_69 : decode cX12_measured 69 = .ok (.getfield 303, 3) := by decide +kernel
theorem dX12_measured_72 : decode cX12_measured 72 = .ok (.ireturn, 1) := by decide +kernel
theorem dX12_moreBy_0 : decode cX12_moreBy 0 = .ok (.iload_n 0, 1) := by decide +kernel
theorem dX12_moreBy_1 : decode cX12_moreBy 1 = .ok (.ifCond .ne 5, 3) := by decide +kernel
theorem dX12_moreBy_4 : decode cX12_moreBy 4 = .ok (.iconst 0, 1) := by decide +kernel
theorem dX12_moreBy_5 : decode cX12_moreBy 5 = .ok (.ireturn, 1) := by decide +kernel
theorem dX12_moreBy_6 : decode cX12_moreBy 6 = .ok (.iload_n 0, 1) := by decide +kernel
theorem dX12_moreBy_7 : decode cX12_moreBy 7 = .ok (.bipush 10, 2) := by decide +kernel
theorem dX12_moreBy_9 : decode cX12_moreBy 9 = .ok (.irem, 1) := by decide +kernel
theorem dX12_moreBy_10 : decode cX12_moreBy 10 = .ok (.istore_n 2, 1) := by decide +kernel
theorem dX12_moreBy_11 : decode cX12_moreBy 11 = .ok (.iload_n 0, 1) := by decide +kernel
theorem dX12_moreBy_12 : decode cX12_moreBy 12 = .ok (.bipush 100, 2) := by decide +kernel
theorem dX12_moreBy_14 : decode cX12_moreBy 14 = .ok (.idiv, 1) := by decide +kernel
theorem dX12_moreBy_15 : decode cX12_moreBy 15 = .ok (.bipush 10, 2) := by decide +kernel
theorem dX12_moreBy_17 : decode cX12_moreBy 17 = .ok (.irem, 1) := by decide +kernel
theorem dX12_moreBy_18 : decode cX12_moreBy 18 = .ok (.iload_n 1, 1) := by decide +kernel
theorem dX12_moreBy_19 : decode cX12_moreBy 19 = .ok (.if_icmp .ne 8, 3) := by decide +kernel
theorem dX12_moreBy_22 : decode cX12_moreBy 22 = .ok (.iload_n 2, 1) := by decide +kernel
theorem dX12_moreBy_23 : decode cX12_moreBy 23 = .ok (.ineg, 1) := by decide +kernel
theorem dX12_moreBy_24 : decode cX12_moreBy 24 = .ok (.goto 19, 3) := by decide +kernel
theorem dX12_moreBy_27 : decode cX12_moreBy 27 = .ok (.iload_n 0, 1) := by decide +kernel
theorem dX12_moreBy_28 : decode cX12_moreBy 28 = .ok (.bipush 10, 2) := by decide +kernel
theorem dX12_moreBy_30 : decode cX12_moreBy 30 = .ok (.idiv, 1) := by decide +kernel
theorem dX12_moreBy_31 : decode cX12_moreBy 31 = .ok (.bipush 10, 2) := by decide +kernel
theorem dX12_moreBy_33 : decode cX12_moreBy 33 = .ok (.irem, 1) := by decide +kernel
theorem dX12_moreBy_34 : decode cX12_moreBy 34 = .ok (.iload_n 1, 1) := by decide +kernel
theorem dX12_moreBy_35 : decode cX12_moreBy 35 = .ok (.if_icmp .ne 7, 3) := by decide +kernel
theorem dX12_moreBy_38 : decode cX12_moreBy 38 = .ok (.iload_n 2, 1) := by decide +kernel
theorem dX12_moreBy_39 : decode cX12_moreBy 39 = .ok (.goto 4, 3) := by decide +kernel
theorem dX12_moreBy_42 : decode cX12_moreBy 42 = .ok (.iconst 0, 1) := by decide +kernel
theorem dX12_moreBy_43 : decode cX12_moreBy 43 = .ok (.ireturn, 1) := by decide +kernel
theorem dX12_isWay_0 : decode cX12_isWay 0 = .ok (.iload_n 1, 1) := by decide +kernel
theorem dX12_isWay_1 : decode cX12_isWay 1 = .ok (.bipush 100, 2) := by decide +kernel
theorem dX12_isWay_3 : decode cX12_isWay 3 = .ok (.idiv, 1) := by decide +kernel
theorem dX12_isWay_4 : decode cX12_isWay 4 = .ok (.bipush 10, 2) := by decide +kernel
theorem dX12_isWay_6 : decode cX12_isWay 6 = .ok (.irem, 1) := by decide +kernel
theorem dX12_isWay_7 : decode cX12_isWay 7 = .ok (.istore_n 2, 1) := by decide +kernel
theorem dX12_isWay_8 : decode cX12_isWay 8 = .ok (.iload_n 1, 1) := by decide +kernel
theorem dX12_isWay_9 : decode cX12_isWay 9 = .ok (.bipush 10, 2) := by decide +kernel
theorem dX12_isWay_11 : decode cX12_isWay 11 = .ok (.idiv, 1) := by decide +kernel
theorem dX12_isWay_12 : decode cX12_isWay 12 = .ok (.bipush 10, 2) := by decide +kernel
theorem dX12_isWay_14 : decode cX12_isWay 14 = .ok (.irem, 1) := by decide +kernel
theorem dX12_isWay_15 : decode cX12_isWay 15 = .ok (.istore_n 3, 1) := by decide +kernel
theorem dX12_isWay_16 : decode cX12_isWay 16 = .ok (.iload_n 1, 1) := by decide +kernel
theorem dX12_isWay_17 : decode cX12_isWay 17 = .ok (.ifCond .eq 38, 3) := by decide +kernel
theorem dX12_isWay_20 : decode cX12_isWay 20 = .ok (.iload_n 1, 1) := by decide +kernel
theorem dX12_isWay_21 : decode cX12_isWay 21 = .ok (.sipush 1000, 3) := by decide +kernel
theorem dX12_isWay_24 : decode cX12_isWay 24 = .ok (.if_icmp .le 35, 3) := by decide +kernel
theorem dX12_isWay_27 : decode cX12_isWay 27 = .ok (.iload_n 2, 1) := by decide +kernel
theorem dX12_isWay_28 : decode cX12_isWay 28 = .ok (.iload_n 3, 1) := by decide +kernel
theorem dX12_isWay_29 : decode cX12_isWay 29 = .ok (.if_icmp .eq 30, 3) := by decide +kernel
theorem dX12_isWay_32 : decode cX12_isWay 32 = .ok (.iload_n 2, 1) := by decide +kernel
theorem dX12_isWay_33 : decode cX12_isWay 33 = .ok (.aload_n 0, 1) := by decide +kernel
theorem dX12_isWay_34 : decode cX12_isWay 34 = .ok (.getfield 294, 3) := by decide +kernel
theorem dX12_isWay_37 : decode cX12_isWay 37 = .ok (.if_icmp .ge 22, 3) := by decide +kernel
theorem dX12_isWay_40 : decode cX12_isWay 40 = .ok (.iload_n 3, 1) := by decide +kernel
theorem dX12_isWay_41 : decode cX12_isWay 41 = .ok (.aload_n 0, 1) := by decide +kernel
theorem dX12_isWay_42 : decode cX12_isWay 42 = .ok (.getfield 294, 3) := by decide +kernel
theorem dX12_isWay_45 : decode cX12_isWay 45 = .ok (.if_icmp .ge 14, 3) := by decide +kernel
theorem dX12_isWay_48 : decode cX12_isWay 48 = .ok (.iload_n 1, 1) := by decide +kernel
theorem dX12_isWay_49 : decode cX12_isWay 49 = .ok (.bipush 10, 2) := by decide +kernel
theorem dX12_isWay_51 : decode cX12_isWay 51 = .ok (.irem, 1) := by decide +kernel
theorem dX12_isWay_52 : decode cX12_isWay 52 = .ok (.ifCond .le 7, 3) := by decide +kernel
theorem dX12_isWay_55 : decode cX12_isWay 55 = .ok (.iconst 1, 1) := by decide +kernel
theorem dX12_isWay_56 : decode cX12_isWay 56 = .ok (.goto 4, 3) := by decide +kernel
theorem dX12_isWay_59 : decode cX12_isWay 59 = .ok (.iconst 0, 1) := by decide +kernel
theorem dX12_isWay_60 : decode cX12_isWay 60 = .ok (.istore 4, 2) := by decide +kernel
theorem dX12_isWay_62 : decode cX12_isWay 62 = .ok (.iconst 0, 1) := by decide +kernel
theorem dX12_isWay_63 : decode cX12_isWay 63 = .ok (.istore 5, 2) := by decide +kernel
theorem dX12_isWay_65 : decode cX12_isWay 65 = .ok (.iload 5, 2) := by decide +kernel
theorem dX12_isWay_67 : decode cX12_isWay 67 = .ok (.aload_n 0, 1) := by decide +kernel
theorem dX12_isWay_68 : decode cX12_isWay 68 = .ok (.getfield 303, 3) := by decide +kernel
theorem dX12_isWay_71 : decode cX12_isWay 71 = .ok (.if_icmp .ge 42, 3) := by decide +kernel
theorem dX12_isWay_74 : decode cX12_isWay 74 = .ok (.iload 4, 2) := by decide +kernel
theorem dX12_isWay_76 : decode cX12_isWay 76 = .ok (.ifCond .eq 37, 3) := by decide +kernel
theorem dX12_isWay_79 : decode cX12_isWay 79 = .ok (.iload_n 1, 1) := by decide +kernel
theorem dX12_isWay_80 : decode cX12_isWay 80 = .ok (.aload_n 0, 1) := by decide +kernel
theorem dX12_isWay_81 : decode cX12_isWay 81 = .ok (.getfield 84, 3) := by decide +kernel
theorem dX12_isWay_84 : decode cX12_isWay 84 = .ok (.iload 5, 2) := by decide +kernel
theorem dX12_isWay_86 : decode cX12_isWay 86 = .ok (.iaload, 1) := by decide +kernel
theorem dX12_isWay_87 : decode cX12_isWay 87 = .ok (.invokestatic 445, 3) := by decide +kernel
theorem dX12_isWay_90 : decode cX12_isWay 90 = .ok (.aload_n 0, 1) := by decide +kernel
theorem dX12_isWay_91 : decode cX12_isWay 91 = .ok (.getfield 87, 3) := by decide +kernel
theorem dX12_isWay_94 : decode cX12_isWay 94 = .ok (.iload 5, 2) := by decide +kernel
theorem dX12_isWay_96 : decode cX12_isWay 96 = .ok (.iaload, 1) := by decide +kernel
theorem dX12_isWay_97 : decode cX12_isWay 97 = .ok (.if_icmp .ne 7, 3) := by decide +kernel
theorem dX12_isWay_100 : decode cX12_isWay 100 = .ok (.iconst 1, 1) := by decide +kernel
theorem dX12_isWay_101 : decode cX12_isWay 101 = .ok (.goto 4, 3) := by decide +kernel
theorem dX12_isWay_104 : decode cX12_isWay 104 = .ok (.iconst 0, 1) := by decide +kernel
theorem dX12_isWay_105 : decode cX12_isWay 105 = .ok (.istore 4, 2) := by decide +kernel
theorem dX12_isWay_107 : decode cX12_isWay 107 = .ok (.iinc 5 1, 3) := by decide +kernel
theorem dX12_isWay_110 : decode cX12_isWay 110 = .ok (.goto (-45), 3) := by decide +kernel
theorem dX12_isWay_113 : decode cX12_isWay 113 = .ok (.iload 4, 2) := by decide +kernel
theorem dX12_isWay_115 : decode cX12_isWay 115 = .ok (.ireturn, 1) := by decide +kernel
theorem dX12_secret_0 : decode cX12_secret 0 = .ok (.aload_n 0, 1) := by decide +kernel
theorem dX12_secret_1 : decode cX12_secret 1 = .ok (.iconst 0, 1) := by decide +kernel
theorem dX12_secret_2 : decode cX12_secret 2 = .ok (.putfield 96, 3) := by decide +kernel
theorem dX12_secret_5 : decode cX12_secret 5 = .ok (.aload_n 0, 1) := by decide +kernel
theorem dX12_secret_6 : decode cX12_secret 6 = .ok (.getfield 294, 3) := by decide +kernel
theorem dX12_secret_9 : decode cX12_secret 9 = .ok (.ifCond .eq 8, 3) := by decide +kernel
theorem dX12_secret_12 : decode cX12_secret 12 = .ok (.iload_n 1, 1) := by decide +kernel
theorem dX12_secret_13 : decode cX12_secret 13 = .ok (.iconst (-1), 1) := by decide +kernel
theorem dX12_secret_14 : decode cX12_secret 14 = .ok (.if_icmp .ge 5, 3) := by decide +kernel
theorem dX12_secret_17 : decode cX12_secret 17 = .ok (.iconst (-1), 1) := by decide +kernel
theorem dX12_secret_18 : decode cX12_secret 18 = .ok (.ireturn, 1) := by decide +kernel
theorem dX12_secret_19 : decode cX12_secret 19 = .ok (.iconst 0, 1) := by decide +kernel
theorem dX12_secret_20 : decode cX12_secret 20 = .ok (.istore_n 2, 1) := by decide +kernel
theorem dX12_secret_21 : decode cX12_secret 21 = .ok (.iconst 0, 1) := by decide +kernel
theorem dX12_secret_22 : decode cX12_secret 22 = .ok (.istore_n 3, 1) := by decide +kernel
theorem dX12_secret_23 : decode cX12_secret 23 = .ok (.iload_n 3, 1) := by decide +kernel
theorem dX12_secret_24 : decode cX12_secret 24 = .ok (.sipush 1700, 3) := by decide +kernel
theorem dX12_secret_27 : decode cX12_secret 27 = .ok (.if_icmp .ge 30, 3) := by decide +kernel
theorem dX12_secret_30 : decode cX12_secret 30 = .ok (.aload_n 0, 1) := by decide +kernel
theorem dX12_secret_31 : decode cX12_secret 31 = .ok (.iload_n 3, 1) := by decide +kernel
theorem dX12_secret_32 : decode cX12_secret 32 = .ok (.invokevirtual 448, 3) := by decide +kernel
theorem dX12_secret_35 : decode cX12_secret 35 = .ok (.ifCond .ne 6, 3) := by decide +kernel
theorem dX12_secret_38 : decode cX12_secret 38 = .ok (.goto 13, 3) := by decide +kernel
theorem dX12_secret_41 : decode cX12_secret 41 = .ok (.iload_n 2, 1) := by decide +kernel
theorem dX12_secret_42 : decode cX12_secret 42 = .ok (.iload_n 1, 1) := by decide +kernel
theorem dX12_secret_43 : decode cX12_secret 43 = .ok (.if_icmp .ne 5, 3) := by decide +kernel
theorem dX12_secret_46 : decode cX12_secret 46 = .ok (.iload_n 3, 1) := by decide +kernel
theorem dX12_secret_47 : decode cX12_secret 47 = .ok (.ireturn, 1) := by decide +kernel
theorem dX12_secret_48 : decode cX12_secret 48 = .ok (.iinc 2 1, 3) := by decide +kernel
theorem dX12_secret_51 : decode cX12_secret 51 = .ok (.iinc 3 1, 3) := by decide +kernel
theorem dX12_secret_54 : decode cX12_secret 54 = .ok (.goto (-31), 3) := by decide +kernel
theorem dX12_secret_57 : decode cX12_secret 57 = .ok (.iload_n 1, 1) := by decide +kernel
theorem dX12_secret_58 : decode cX12_secret 58 = .ok (.iconst (-1), 1) := by decide +kernel
theorem dX12_secret_59 : decode cX12_secret 59 = .ok (.if_icmp .ne 7, 3) := by decide +kernel
theorem dX12_secret_62 : decode cX12_secret 62 = .ok (.iload_n 2, 1) := by decide +kernel
theorem dX12_secret_63 : decode cX12_secret 63 = .ok (.goto 4, 3) := by decide +kernel
theorem dX12_secret_66 : decode cX12_secret 66 = .ok (.iconst (-1), 1) := by decide +kernel
theorem dX12_secret_67 : decode cX12_secret 67 = .ok (.ireturn, 1) := by decide +kernel
theorem dX12_measure_0 : decode cX12_measure 0 = .ok (.aload_n 0, 1) := by decide +kernel
theorem dX12_measure_1 : decode cX12_measure 1 = .ok (.iconst 0, 1) := by decide +kernel
theorem dX12_measure_2 : decode cX12_measure 2 = .ok (.putfield 96, 3) := by decide +kernel
theorem dX12_measure_5 : decode cX12_measure 5 = .ok (.aload_n 0, 1) := by decide +kernel
theorem dX12_measure_6 : decode cX12_measure 6 = .ok (.getfield 294, 3) := by decide +kernel
theorem dX12_measure_9 : decode cX12_measure 9 = .ok (.ifCond .eq 11, 3) := by decide +kernel
theorem dX12_measure_12 : decode cX12_measure 12 = .ok (.aload_n 0, 1) := by decide +kernel
theorem dX12_measure_13 : decode cX12_measure 13 = .ok (.iconst (-1), 1) := by decide +kernel
theorem dX12_measure_14 : decode cX12_measure 14 = .ok (.invokevirtual 451, 3) := by decide +kernel
theorem dX12_measure_17 : decode cX12_measure 17 = .ok (.ifCond .ne 5, 3) := by decide +kernel
theorem dX12_measure_20 : decode cX12_measure 20 = .ok (.iconst (-1), 1) := by decide +kernel
theorem dX12_measure_21 : decode cX12_measure 21 = .ok (.ireturn, 1) := by decide +kernel
theorem dX12_measure_22 : decode cX12_measure 22 = .ok (.iconst (-1), 1) := by decide +kernel
theorem dX12_measure_23 : decode cX12_measure 23 = .ok (.istore_n 1, 1) := by decide +kernel
theorem dX12_measure_24 : decode cX12_measure 24 = .ok (.iconst 0, 1) := by decide +kernel
theorem dX12_measure_25 : decode cX12_measure 25 = .ok (.istore_n 2, 1) := by decide +kernel
theorem dX12_measure_26 : decode cX12_measure 26 = .ok (.iconst 0, 1) := by decide +kernel
theorem dX12_measure_27 : decode cX12_measure 27 = .ok (.istore_n 3, 1) := by decide +kernel
theorem dX12_measure_28 : decode cX12_measure 28 = .ok (.iload_n 3, 1) := by decide +kernel
theorem dX12_measure_29 : decode cX12_measure 29 = .ok (.aload_n 0, 1) := by decide +kernel
theorem dX12_measure_30 : decode cX12_measure 30 = .ok (.getfield 294, 3) := by decide +kernel
theorem dX12_measure_33 : decode cX12_measure 33 = .ok (.if_icmp .ge 129, 3) := by decide +kernel
theorem dX12_measure_36 : decode cX12_measure 36 = .ok (.iconst 0, 1) := by decide +kernel
theorem dX12_measure_37 : decode cX12_measure 37 = .ok (.istore 4, 2) := by decide +kernel
theorem dX12_measure_39 : decode cX12_measure 39 = .ok (.iload 4, 2) := by decide +kernel
theorem dX12_measure_41 : decode cX12_measure 41 = .ok (.bipush 18, 2) := by decide +kernel
theorem dX12_measure_43 : decode cX12_measure 43 = .ok (.if_icmp .gt 17, 3) := by decide +kernel
theorem dX12_measure_46 : decode cX12_measure 46 = .ok (.aload_n 0, 1) := by decide +kernel
theorem dX12_measure_47 : decode cX12_measure 47 = .ok (.getfield 90, 3) := by decide +kernel
theorem dX12_measure_50 : decode cX12_measure 50 = .ok (.iload 4, 2) := by decide +kernel
theorem dX12_measure_52 : decode cX12_measure 52 = .ok (.iconst 0, 1) := by decide +kernel
theorem dX12_measure_53 : decode cX12_measure 53 = .ok (.iastore, 1) := by decide +kernel
theorem dX12_measure_54 : decode cX12_measure 54 = .ok (.iinc 4 1, 3) := by decide +kernel
theorem dX12_measure_57 : decode cX12_measure 57 = .ok (.goto (-18), 3) := by decide +kernel
theorem dX12_measure_60 : decode cX12_measure 60 = .ok (.iconst 0, 1) := by decide +kernel
theorem dX12_measure_61 : decode cX12_measure 61 = .ok (.istore 4, 2) := by decide +kernel
theorem dX12_measure_63 : decode cX12_measure 63 = .ok (.iload 4, 2) := by decide +kernel
theorem dX12_measure_65 : decode cX12_measure 65 = .ok (.sipush 1700, 3) := by decide +kernel
theorem dX12_measure_68 : decode cX12_measure 68 = .ok (.if_icmp .ge 36, 3) := by decide +kernel
theorem dX12_measure_71 : decode cX12_measure 71 = .ok (.aload_n 0, 1) := by decide +kernel
theorem dX12_measure_72 : decode cX12_measure 72 = .ok (.iload 4, 2) := by decide +kernel
theorem dX12_measure_74 : decode cX12_measure 74 = .ok (.invokevirtual 448, 3) := by decide +kernel
theorem dX12_measure_77 : decode cX12_measure 77 = .ok (.ifCond .eq 21, 3) := by decide +kernel
theorem dX12_measure_80 : decode cX12_measure 80 = .ok (.aload_n 0, 1) := by decide +kernel
theorem dX12_measure_81 : decode cX12_measure 81 = .ok (.getfield 90, 3) := by decide +kernel
theorem dX12_measure_84 : decode cX12_measure 84 = .ok (.bipush 9, 2) := by decide +kernel
theorem dX12_measure_86 : decode cX12_measure 86 = .ok (.iload 4, 2) := by decide +kernel
theorem dX12_measure_88 : decode cX12_measure 88 = .ok (.iload_n 3, 1) := by decide +kernel
theorem dX12_measure_89 : decode cX12_measure 89 = .ok (.invokestatic 445, 3) := by decide +kernel
theorem dX12_measure_92 : decode cX12_measure 92 = .ok (.iadd, 1) := by decide +kernel
theorem dX12_measure_93 : decode cX12_measure 93 = .ok (.dup2, 1) := by decide +kernel
theorem dX12_measure_94 : decode cX12_measure 94 = .ok (.iaload, 1) := by decide +kernel
theorem dX12_measure_95 : decode cX12_measure 95 = .ok (.iconst 1, 1) := by decide +kernel
theorem dX12_measure_96 : decode cX12_measure 96 = .ok (.iadd, 1) := by decide +kernel
theorem dX12_measure_97 : decode cX12_measure 97 = .ok (.iastore, 1) := by decide +kernel
theorem dX12_measure_98 : decode cX12_measure 98 = .ok (.iinc 4 1, 3) := by decide +kernel
theorem dX12_measure_101 : decode cX12_measure 101 = .ok (.goto (-38), 3) := by decide +kernel
theorem dX12_measure_104 : decode cX12_measure 104 = .ok (.iconst 0, 1) := by decide +kernel
theorem dX12_measure_105 : decode cX12_measure 105 = .ok (.istore 4, 2) := by decide +kernel
theorem dX12_measure_107 : decode cX12_measure 107 = .ok (.iconst 0, 1) := by decide +kernel
theorem dX12_measure_108 : decode cX12_measure 108 = .ok (.istore 5, 2) := by decide +kernel
theorem dX12_measure_110 : decode cX12_measure 110 = .ok (.iload 5, 2) := by decide +kernel
theorem dX12_measure_112 : decode cX12_measure 112 = .ok (.bipush 18, 2) := by decide +kernel
theorem dX12_measure_114 : decode cX12_measure 114 = .ok (.if_icmp .gt 23, 3) := by decide +kernel
theorem dX12_measure_117 : decode cX12_measure 117 = .ok (.iload 4, 2) := by decide +kernel
theorem dX12_measure_119 : decode cX12_measure 119 = .ok (.aload_n 0, 1) := by decide +kernel
theorem dX12_measure_120 : decode cX12_measure 120 = .ok (.getfield 90, 3) := by decide +kernel
theorem dX12_measure_123 : decode cX12_measure 123 = .ok (.iload 5, 2) := by decide +kernel
theorem dX12_measure_125 : decode cX12_measure 125 = .ok (.iaload, 1) := by decide +kernel
theorem dX12_measure_126 : decode cX12_measure 126 = .ok (.invokestatic 328, 3) := by decide +kernel
theorem dX12_measure_129 : decode cX12_measure 129 = .ok (.istore 4, 2) := by decide +kernel
theorem dX12_measure_131 : decode cX12_measure 131 = .ok (.iinc 5 1, 3) := by decide +kernel
theorem dX12_measure_134 : decode cX12_measure 134 = .ok (.goto (-24), 3) := by decide +kernel
theorem dX12_measure_137 : decode cX12_measure 137 = .ok (.iload_n 1, 1) := by decide +kernel
theorem dX12_measure_138 : decode cX12_measure 138 = .ok (.iconst (-1), 1) := by decide +kernel
theorem dX12_measure_139 : decode cX12_measure 139 = .ok (.if_icmp .eq 12, 3) := by decide +kernel
theorem dX12_measure_142 : decode cX12_measure 142 = .ok (.iload 4, 2) := by decide +kernel
theorem dX12_measure_144 : decode cX12_measure 144 = .ok (.iload_n 2, 1) := by decide +kernel
theorem dX12_measure_145 : decode cX12_measure 145 = .ok (.if_icmp .lt 6, 3) := by decide +kernel
theorem dX12_measure_148 : decode cX12_measure 148 = .ok (.goto 8, 3) := by decide +kernel
theorem dX12_measure_151 : decode cX12_measure 151 = .ok (.iload_n 3, 1) := by decide +kernel
theorem dX12_measure_152 : decode cX12_measure 152 = .ok (.istore_n 1, 1) := by decide +kernel
theorem dX12_measure_153 : decode cX12_measure 153 = .ok (.iload 4, 2) := by decide +kernel
theorem dX12_measure_155 : decode cX12_measure 155 = .ok (.istore_n 2, 1) := by decide +kernel
theorem dX12_measure_156 : decode cX12_measure 156 = .ok (.iinc 3 1, 3) := by decide +kernel
theorem dX12_measure_159 : decode cX12_measure 159 = .ok (.goto (-131), 3) := by decide +kernel
theorem dX12_measure_162 : decode cX12_measure 162 = .ok (.iload_n 1, 1) := by decide +kernel
theorem dX12_measure_163 : decode cX12_measure 163 = .ok (.ireturn, 1) := by decide +kernel
theorem dX12_walls_0 : decode cX12_walls 0 = .ok (.aload_n 0, 1) := by decide +kernel
theorem dX12_walls_1 : decode cX12_walls 1 = .ok (.iconst 0, 1) := by decide +kernel
theorem dX12_walls_2 : decode cX12_walls 2 = .ok (.putfield 96, 3) := by decide +kernel
theorem dX12_walls_5 : decode cX12_walls 5 = .ok (.aload_n 0, 1) := by decide +kernel
theorem dX12_walls_6 : decode cX12_walls 6 = .ok (.getfield 294, 3) := by decide +kernel
theorem dX12_walls_9 : decode cX12_walls 9 = .ok (.ifCond .ne 5, 3) := by decide +kernel
theorem dX12_walls_12 : decode cX12_walls 12 = .ok (.iconst (-1), 1) := by decide +kernel
theorem dX12_walls_13 : decode cX12_walls 13 = .ok (.ireturn, 1) := by decide +kernel
theorem dX12_walls_14 : decode cX12_walls 14 = .ok (.iconst 0, 1) := by decide +kernel
theorem dX12_walls_15 : decode cX12_walls 15 = .ok (.istore_n 1, 1) := by decide +kernel
theorem dX12_walls_16 : decode cX12_walls 16 = .ok (.iconst 0, 1) := by decide +kernel
theorem dX12_walls_17 : decode cX12_walls 17 = .ok (.istore_n 2, 1) := by decide +kernel
theorem dX12_walls_18 : decode cX12_walls 18 = .ok (.iload_n 2, 1) := by decide +kernel
theorem dX12_walls_19 : decode cX12_walls 19 = .ok (.iconst 1, 1) := by decide +kernel
theorem dX12_walls_20 : decode cX12_walls 20 = .ok (.iadd, 1) := by decide +kernel
theorem dX12_walls_21 : decode cX12_walls 21 = .ok (.aload_n 0, 1) := by decide +kernel
theorem dX12_walls_22 : decode cX12_walls 22 = .ok (.getfield 294, 3) := by decide +kernel
theorem dX12_walls_25 : decode cX12_walls 25 = .ok (.if_icmp .ge 50, 3) := by decide +kernel
theorem dX12_walls_28 : decode cX12_walls 28 = .ok (.iload_n 1, 1) := by decide +kernel
theorem dX12_walls_29 : decode cX12_walls 29 = .ok (.aload_n 0, 1) := by decide +kernel
theorem dX12_walls_30 : decode cX12_walls 30 = .ok (.getfield 61, 3) := by decide +kernel
theorem dX12_walls_33 : decode cX12_walls 33 = .ok (.iload_n 2, 1) := by decide +kernel
theorem dX12_walls_34 : decode cX12_walls 34 = .ok (.invokestatic 312, 3) := by decide +kernel
theorem dX12_walls_37 : decode cX12_walls 37 = .ok (.aload_n 0, 1) := by decide +kernel
theorem dX12_walls_38 : decode cX12_walls 38 = .ok (.getfield 61, 3) := by decide +kernel
theorem dX12_walls_41 : decode cX12_walls 41 = .ok (.iload_n 2, 1) := by decide +kernel
theorem dX12_walls_42 : decode cX12_walls 42 = .ok (.iconst 1, 1) := by decide +kernel
theorem dX12_walls_43 : decode cX12_walls 43 = .ok (.iadd, 1) := by decide +kernel
theorem dX12_walls_44 : decode cX12_walls 44 = .ok (.invokestatic 312, 3) := by decide +kernel
theorem dX12_walls_47 : decode cX12_walls 47 = .ok (.isub, 1) := by decide +kernel
theorem dX12_walls_48 : decode cX12_walls 48 = .ok (.invokestatic 454, 3) := by decide +kernel
theorem dX12_walls_51 : decode cX12_walls 51 = .ok (.aload_n 0, 1) := by decide +kernel
theorem dX12_walls_52 : decode cX12_walls 52 = .ok (.iload_n 2, 1) := by decide +kernel
theorem dX12_walls_53 : decode cX12_walls 53 = .ok (.iconst 5, 1) := by decide +kernel
theorem dX12_walls_54 : decode cX12_walls 54 = .ok (.invokevirtual 300, 3) := by decide +kernel
theorem dX12_walls_57 : decode cX12_walls 57 = .ok (.if_icmp .le 9, 3) := by decide +kernel
theorem dX12_walls_60 : decode cX12_walls 60 = .ok (.iconst 1, 1) := by decide +kernel
theorem dX12_walls_61 : decode cX12_walls 61 = .ok (.iload_n 2, 1) := by decide +kernel
theorem dX12_walls_62 : decode cX12_walls 62 = .ok (.ishl, 1) := by decide +kernel
theorem dX12_walls_63 : decode cX12_walls 63 = .ok (.goto 4, 3) := by decide +kernel
theorem dX12_walls_66 : decode cX12_walls 66 = .ok (.iconst 0, 1) := by decide +kernel
theorem dX12_walls_67 : decode cX12_walls 67 = .ok (.ior, 1) := by decide +kernel
theorem dX12_walls_68 : decode cX12_walls 68 = .ok (.istore_n 1, 1) := by decide +kernel
theorem dX12_walls_69 : decode cX12_walls 69 = .ok (.iinc 2 1, 3) := by decide +kernel
theorem dX12_walls_72 : decode cX12_walls 72 = .ok (.goto (-54), 3) := by decide +kernel
theorem dX12_walls_75 : decode cX12_walls 75 = .ok (.iload_n 1, 1) := by decide +kernel
theorem dX12_walls_76 : decode cX12_walls 76 = .ok (.ireturn, 1) := by decide +kernel
theorem dX12_isFeud_0 : decode cX12_isFeud 0 = .ok (.aload_n 0, 1) := by decide +kernel
theorem dX12_isFeud_1 : decode cX12_isFeud 1 = .ok (.iload_n 1, 1) := by decide +kernel
theorem dX12_isFeud_2 : decode cX12_isFeud 2 = .ok (.invokevirtual 364, 3) := by decide +kernel
theorem dX12_isFeud_5 : decode cX12_isFeud 5 = .ok (.ifCond .eq 50, 3) := by decide +kernel
theorem dX12_isFeud_8 : decode cX12_isFeud 8 = .ok (.aload_n 0, 1) := by decide +kernel
theorem dX12_isFeud_9 : decode cX12_isFeud 9 = .ok (.iload_n 2, 1) := by decide +kernel
theorem dX12_isFeud_10 : decode cX12_isFeud 10 = .ok (.invokevirtual 364, 3) := by decide +kernel
theorem dX12_isFeud_13 : decode cX12_isFeud 13 = .ok (.ifCond .eq 42, 3) := by decide +kernel
theorem dX12_isFeud_16 : decode cX12_isFeud 16 = .ok (.iload_n 1, 1) := by decide +kernel
theorem dX12_isFeud_17 : decode cX12_isFeud 17 = .ok (.iload_n 2, 1) := by decide +kernel
theorem dX12_isFeud_18 : decode cX12_isFeud 18 = .ok (.if_icmp .eq 37, 3) := by decide +kernel
theorem dX12_isFeud_21 : decode cX12_isFeud 21 = .ok (.aload_n 0, 1) := by decide +kernel
theorem dX12_isFeud_22 : decode cX12_isFeud 22 = .ok (.iload_n 3, 1) := by decide +kernel
theorem dX12_isFeud_23 : decode cX12_isFeud 23 = .ok (.invokevirtual 369, 3) := by decide +kernel
theorem dX12_isFeud_26 : decode cX12_isFeud 26 = .ok (.ifCond .eq 29, 3) := by decide +kernel
theorem dX12_isFeud_29 : decode cX12_isFeud 29 = .ok (.aload_n 0, 1) := by decide +kernel
theorem dX12_isFeud_30 : decode cX12_isFeud 30 = .ok (.iload 4, 2) := by decide +kernel
theorem dX12_isFeud_32 : decode cX12_isFeud 32 = .ok (.invokevirtual 369, 3) := by decide +kernel
theorem dX12_isFeud_35 : decode cX12_isFeud 35 = .ok (.ifCond .eq 20, 3) := by decide +kernel
theorem dX12_isFeud_38 : decode cX12_isFeud 38 = .ok (.iload 5, 2) := by decide +kernel
theorem dX12_isFeud_40 : decode cX12_isFeud 40 = .ok (.i2l, 1) := by decide +kernel
theorem dX12_isFeud_41 : decode cX12_isFeud 41 = .ok (.lconst 1, 1) := by decide +kernel
theorem dX12_isFeud_42 : decode cX12_isFeud 42 = .ok (.ldc2_w 367, 3) := by decide +kernel
theorem dX12_isFeud_45 : decode cX12_isFeud 45 = .ok (.invokestatic 217, 3) := by decide +kernel
theorem dX12_isFeud_48 : decode cX12_isFeud 48 = .ok (.ifCond .eq 7, 3) := by decide +kernel
theorem dX12_isFeud_51 : decode cX12_isFeud 51 = .ok (.iconst 1, 1) := by decide +kernel
theorem dX12_isFeud_52 : decode cX12_isFeud 52 = .ok (.goto 4, 3) := by decide +kernel
theorem dX12_isFeud_55 : decode cX12_isFeud 55 = .ok (.iconst 0, 1) := by decide +kernel
theorem dX12_isFeud_56 : decode cX12_isFeud 56 = .ok (.ireturn, 1) := by decide +kernel
theorem dX12_feudOf_0 : decode cX12_feudOf 0 = .ok (.aload_n 0, 1) := by decide +kernel
theorem dX12_feudOf_1 : decode cX12_feudOf 1 = .ok (.getfield 61, 3) := by decide +kernel
theorem dX12_feudOf_4 : decode cX12_feudOf 4 = .ok (.bipush 21, 2) := by decide +kernel
theorem dX12_feudOf_6 : decode cX12_feudOf 6 = .ok (.iaload, 1) := by decide +kernel
theorem dX12_feudOf_7 : decode cX12_feudOf 7 = .ok (.iconst 1, 1) := by decide +kernel
theorem dX12_feudOf_8 : decode cX12_feudOf 8 = .ok (.iload_n 3, 1) := by decide +kernel
theorem dX12_feudOf_9 : decode cX12_feudOf 9 = .ok (.ishl, 1) := by decide +kernel
theorem dX12_feudOf_10 : decode cX12_feudOf 10 = .ok (.iconst (-1), 1) := by decide +kernel
theorem dX12_feudOf_11 : decode cX12_feudOf 11 = .ok (.ixor, 1) := by decide +kernel
theorem dX12_feudOf_12 : decode cX12_feudOf 12 = .ok (.iand, 1) := by decide +kernel
theorem dX12_feudOf_13 : decode cX12_feudOf 13 = .ok (.iconst 1, 1) := by decide +kernel
theorem dX12_feudOf_14 : decode cX12_feudOf 14 = .ok (.iload 4, 2) := by decide +kernel
theorem dX12_feudOf_16 : decode cX12_feudOf 16 = .ok (.ishl, 1) := by decide +kernel
theorem dX12_feudOf_17 : decode cX12_feudOf 17 = .ok (.iconst (-1), 1) := by decide +kernel
theorem dX12_feudOf_18 : decode cX12_feudOf 18 = .ok (.ixor, 1) := by decide +kernel
theorem dX12_feudOf_19 : decode cX12_feudOf 19 = .ok (.iand, 1) := by decide +kernel
theorem dX12_feudOf_20 : decode cX12_feudOf 20 = .ok (.istore 8, 2) := by decide +kernel
theorem dX12_feudOf_22 : decode cX12_feudOf 22 = .ok (.iload_n 3, 1) := by decide +kernel
theorem dX12_feudOf_23 : decode cX12_feudOf 23 = .ok (.iload 4, 2) := by decide +kernel
theorem dX12_feudOf_25 : decode cX12_feudOf 25 = .ok (.if_icmp .ne 18, 3) := by decide +kernel
theorem dX12_feudOf_28 : decode cX12_feudOf 28 = .ok (.iload 8, 2) := by decide +kernel
theorem dX12_feudOf_30 : decode cX12_feudOf 30 = .ok (.iload 6, 2) := by decide +kernel
theorem dX12_feudOf_32 : decode cX12_feudOf 32 = .ok (.iload 7, 2) := by decide +kernel
theorem dX12_feudOf_34 : decode cX12_feudOf 34 = .ok (.iand, 1) := by decide +kernel
theorem dX12_feudOf_35 : decode cX12_feudOf 35 = .ok (.iload_n 3, 1) := by decide +kernel
theorem dX12_feudOf_36 : decode cX12_feudOf 36 = .ok (.ishl, 1) := by decide +kernel
theorem dX12_feudOf_37 : decode cX12_feudOf 37 = .ok (.ior, 1) := by decide +kernel
theorem dX12_feudOf_38 : decode cX12_feudOf 38 = .ok (.istore 8, 2) := by decide +kernel
theorem dX12_feudOf_40 : decode cX12_feudOf 40 = .ok (.goto 18, 3) := by decide +kernel
theorem dX12_feudOf_43 : decode cX12_feudOf 43 = .ok (.iload 8, 2) := by decide +kernel
theorem dX12_feudOf_45 : decode cX12_feudOf 45 = .ok (.iload 6, 2) := by decide +kernel
theorem dX12_feudOf_47 : decode cX12_feudOf 47 = .ok (.iload_n 3, 1) := by decide +kernel
theorem dX12_feudOf_48 : decode cX12_feudOf 48 = .ok (.ishl, 1) := by decide +kernel
theorem dX12_feudOf_49 : decode cX12_feudOf 49 = .ok (.iload 7, 2) := by decide +kernel
theorem dX12_feudOf_51 : decode cX12_feudOf 51 = .ok (.iload 4, 2) := by decide +kernel
theorem dX12_feudOf_53 : decode cX12_feudOf 53 = .ok (.ishl, 1) := by decide +kernel
theorem dX12_feudOf_54 : decode cX12_feudOf 54 = .ok (.ior, 1) := by decide +kernel
theorem dX12_feudOf_55 : decode cX12_feudOf 55 = .ok (.ior, 1) := by decide +kernel
theorem dX12_feudOf_56 : decode cX12_feudOf 56 = .ok (.istore 8, 2) := by decide +kernel
theorem dX12_feudOf_58 : decode cX12_feudOf 58 = .ok (.aload_n 0, 1) := by decide +kernel
theorem dX12_feudOf_59 : decode cX12_feudOf 59 = .ok (.iload 5, 2) := by decide +kernel
theorem dX12_feudOf_61 : decode cX12_feudOf 61 = .ok (.iload 8, 2) := by decide +kernel
theorem dX12_feudOf_63 : decode cX12_feudOf 63 = .ok (.invokevirtual 425, 3) := by decide +kernel
theorem dX12_feudOf_66 : decode cX12_feudOf 66 = .ok (.aload_n 0, 1) := by decide +kernel
theorem dX12_feudOf_67 : decode cX12_feudOf 67 = .ok (.getfield 64, 3) := by decide +kernel
theorem dX12_feudOf_70 : decode cX12_feudOf 70 = .ok (.iload_n 1, 1) := by decide +kernel
theorem dX12_feudOf_71 : decode cX12_feudOf 71 = .ok (.invokestatic 312, 3) := by decide +kernel
theorem dX12_feudOf_74 : decode cX12_feudOf 74 = .ok (.aload_n 0, 1) := by decide +kernel
theorem dX12_feudOf_75 : decode cX12_feudOf 75 = .ok (.getfield 64, 3) := by decide +kernel
theorem dX12_feudOf_78 : decode cX12_feudOf 78 = .ok (.iload_n 2, 1) := by decide +kernel
theorem dX12_feudOf_79 : decode cX12_feudOf 79 = .ok (.invokestatic 312, 3) := by decide +kernel
theorem dX12_feudOf_82 : decode cX12_feudOf 82 = .ok (.isub, 1) := by decide +kernel
theorem dX12_feudOf_83 : decode cX12_feudOf 83 = .ok (.ireturn, 1) := by decide +kernel
theorem dX12_feud_0 : decode cX12_feud 0 = .ok (.aload_n 0, 1) := by decide +kernel
theorem dX12_feud_1 : decode cX12_feud 1 = .ok (.iconst 0, 1) := by decide +kernel
theorem dX12_feud_2 : decode cX12_feud 2 = .ok (.putfield 96, 3) := by decide +kernel
theorem dX12_feud_5 : decode cX12_feud 5 = .ok (.aload_n 0, 1) := by decide +kernel
theorem dX12_feud_6 : decode cX12_feud 6 = .ok (.iload_n 1, 1) := by decide +kernel
theorem dX12_feud_7 : decode cX12_feud 7 = .ok (.iload_n 2, 1) := by decide +kernel
theorem dX12_feud_8 : decode cX12_feud 8 = .ok (.iload_n 3, 1) := by decide +kernel
theorem dX12_feud_9 : decode cX12_feud 9 = .ok (.iload 4, 2) := by decide +kernel
theorem dX12_feud_11 : decode cX12_feud 11 = .ok (.iload 5, 2) := by decide +kernel
theorem dX12_feud_13 : decode cX12_feud 13 = .ok (.invokevirtual 457, 3) := by decide +kernel
theorem dX12_feud_16 : decode cX12_feud 16 = .ok (.ifCond .eq 43, 3) := by decide +kernel
theorem dX12_feud_19 : decode cX12_feud 19 = .ok (.iload 6, 2) := by decide +kernel
theorem dX12_feud_21 : decode cX12_feud 21 = .ok (.i2l, 1) := by decide +kernel
theorem dX12_feud_22 : decode cX12_feud 22 = .ok (.lconst 0, 1) := by decide +kernel
theorem dX12_feud_23 : decode cX12_feud 23 = .ok (.lconst 1, 1) := by decide +kernel
theorem dX12_feud_24 : decode cX12_feud 24 = .ok (.invokestatic 217, 3) := by decide +kernel
theorem dX12_feud_27 : decode cX12_feud 27 = .ok (.ifCond .eq 32, 3) := by decide +kernel
theorem dX12_feud_30 : decode cX12_feud 30 = .ok (.iload 7, 2) := by decide +kernel
theorem dX12_feud_32 : decode cX12_feud 32 = .ok (.i2l, 1) := by decide +kernel
theorem dX12_feud_33 : decode cX12_feud 33 = .ok (.lconst 0, 1) := by decide +kernel
theorem dX12_feud_34 : decode cX12_feud 34 = .ok (.lconst 1, 1) := by decide +kernel
theorem dX12_feud_35 : decode cX12_feud 35 = .ok (.invokestatic 217, 3) := by decide +kernel
theorem dX12_feud_38 : decode cX12_feud 38 = .ok (.ifCond .eq 21, 3) := by decide +kernel
theorem dX12_feud_41 : decode cX12_feud 41 = .ok (.aload_n 0, 1) := by decide +kernel
theorem dX12_feud_42 : decode cX12_feud 42 = .ok (.iload_n 1, 1) := by decide +kernel
theorem dX12_feud_43 : decode cX12_feud 43 = .ok (.iload_n 2, 1) := by decide +kernel
theorem dX12_feud_44 : decode cX12_feud 44 = .ok (.iload_n 3, 1) := by decide +kernel
theorem dX12_feud_45 : decode cX12_feud 45 = .ok (.iload 4, 2) := by decide +kernel
theorem dX12_feud_47 : decode cX12_feud 47 = .ok (.iload 5, 2) := by decide +kernel
theorem dX12_feud_49 : decode cX12_feud 49 = .ok (.iload 6, 2) := by decide +kernel
theorem dX12_feud_51 : decode cX12_feud 51 = .ok (.iload 7, 2) := by decide +kernel
theorem dX12_feud_53 : decode cX12_feud 53 = .ok (.invokevirtual 461, 3) := by decide +kernel
theorem dX12_feud_56 : decode cX12_feud 56 = .ok (.goto 6, 3) := by decide +kernel
theorem dX12_feud_59 : decode cX12_feud 59 = .ok (.ldc_w 408, 3) := by decide +kernel
theorem dX12_feud_62 : decode cX12_feud 62 = .ok (.ireturn, 1) := by decide +kernel
theorem dX12_rests_0 : decode cX12_rests 0 = .ok (.aload_n 0, 1) := by decide +kernel
theorem dX12_rests_1 : decode cX12_rests 1 = .ok (.iconst 0, 1) := by decide +kernel
theorem dX12_rests_2 : decode cX12_rests 2 = .ok (.putfield 96, 3) := by decide +kernel
theorem dX12_rests_5 : decode cX12_rests 5 = .ok (.aload_n 0, 1) := by decide +kernel
theorem dX12_rests_6 : decode cX12_rests 6 = .ok (.iload_n 1, 1) := by decide +kernel
theorem dX12_rests_7 : decode cX12_rests 7 = .ok (.iload_n 2, 1) := by decide +kernel
theorem dX12_rests_8 : decode cX12_rests 8 = .ok (.iload_n 3, 1) := by decide +kernel
theorem dX12_rests_9 : decode cX12_rests 9 = .ok (.iload 4, 2) := by decide +kernel
theorem dX12_rests_11 : decode cX12_rests 11 = .ok (.iload 5, 2) := by decide +kernel
theorem dX12_rests_13 : decode cX12_rests 13 = .ok (.invokevirtual 457, 3) := by decide +kernel
theorem dX12_rests_16 : decode cX12_rests 16 = .ok (.ifCond .eq 9, 3) := by decide +kernel
theorem dX12_rests_19 : decode cX12_rests 19 = .ok (.iload 6, 2) := by decide +kernel
theorem dX12_rests_21 : decode cX12_rests 21 = .ok (.iconst (-1), 1) := by decide +kernel
theorem dX12_rests_22 : decode cX12_rests 22 = .ok (.if_icmp .ge 5, 3) := by decide +kernel
theorem dX12_rests_25 : decode cX12_rests 25 = .ok (.iconst (-1), 1) := by decide +kernel
theorem dX12_rests_26 : decode cX12_rests 26 = .ok (.ireturn, 1) := by decide +kernel
theorem dX12_rests_27 : decode cX12_rests 27 = .ok (.iconst 0, 1) := by decide +kernel
theorem dX12_rests_28 : decode cX12_rests 28 = .ok (.istore 7, 2) := by decide +kernel
theorem dX12_rests_30 : decode cX12_rests 30 = .ok (.iconst 0, 1) := by decide +kernel
theorem dX12_rests_31 : decode cX12_rests 31 = .ok (.istore 8, 2) := by decide +kernel
theorem dX12_rests_33 : decode cX12_rests 33 = .ok (.iload 8, 2) := by decide +kernel
theorem dX12_rests_35 : decode cX12_rests 35 = .ok (.iconst 4, 1) := by decide +kernel
theorem dX12_rests_36 : decode cX12_rests 36 = .ok (.if_icmp .ge 104, 3) := by decide +kernel
theorem dX12_rests_39 : decode cX12_rests 39 = .ok (.iload 8, 2) := by decide +kernel
theorem dX12_rests_41 : decode cX12_rests 41 = .ok (.iconst 2, 1) := by decide +kernel
theorem dX12_rests_42 : decode cX12_rests 42 = .ok (.idiv, 1) := by decide +kernel
theorem dX12_rests_43 : decode cX12_rests 43 = .ok (.istore 9, 2) := by decide +kernel
theorem dX12_rests_45 : decode cX12_rests 45 = .ok (.iload 8, 2) := by decide +kernel
theorem dX12_rests_47 : decode cX12_rests 47 = .ok (.iconst 2, 1) := by decide +kernel
theorem dX12_rests_48 : decode cX12_rests 48 = .ok (.irem, 1) := by decide +kernel
theorem dX12_rests_49 : decode cX12_rests 49 = .ok (.istore 10, 2) := by decide +kernel
theorem dX12_rests_51 : decode cX12_rests 51 = .ok (.aload_n 0, 1) := by decide +kernel
theorem dX12_rests_52 : decode cX12_rests 52 = .ok (.iload_n 1, 1) := by decide +kernel
theorem dX12_rests_53 : decode cX12_rests 53 = .ok (.iload_n 2, 1) := by decide +kernel
theorem dX12_rests_54 : decode cX12_rests 54 = .ok (.iload_n 3, 1) := by decide +kernel
theorem dX12_rests_55 : decode cX12_rests 55 = .ok (.iload 4, 2) := by decide +kernel
theorem dX12_rests_57 : decode cX12_rests 57 = .ok (.iload 5, 2) := by decide +kernel
theorem dX12_rests_59 : decode cX12_rests 59 = .ok (.iload 9, 2) := by decide +kernel
theorem dX12_rests_61 : decode cX12_rests 61 = .ok (.iload 10, 2) := by decide +kernel
theorem dX12_rests_63 : decode cX12_rests 63 = .ok (.invokevirtual 461, 3) := by decide +kernel
theorem dX12_rests_66 : decode cX12_rests 66 = .ok (.istore 11, 2) := by decide +kernel
theorem dX12_rests_68 : decode cX12_rests 68 = .ok (.aload_n 0, 1) := by decide +kernel
theorem dX12_rests_69 : decode cX12_rests 69 = .ok (.iload_n 1, 1) := by decide +kernel
theorem dX12_rests_70 : decode cX12_rests 70 = .ok (.iload_n 2, 1) := by decide +kernel
theorem dX12_rests_71 : decode cX12_rests 71 = .ok (.iload_n 3, 1) := by decide +kernel
theorem dX12_rests_72 : decode cX12_rests 72 = .ok (.iload 4, 2) := by decide +kernel
theorem dX12_rests_74 : decode cX12_rests 74 = .ok (.iload 5, 2) := by decide +kernel
theorem dX12_rests_76 : decode cX12_rests 76 = .ok (.iconst 1, 1) := by decide +kernel
theorem dX12_rests_77 : decode cX12_rests 77 = .ok (.iload 9, 2) := by decide +kernel
theorem dX12_rests_79 : decode cX12_rests 79 = .ok (.isub, 1) := by decide +kernel
theorem dX12_rests_80 : decode cX12_rests 80 = .ok (.iload 10, 2) := by decide +kernel
theorem dX12_rests_82 : decode cX12_rests 82 = .ok (.invokevirtual 461, 3) := by decide +kernel
theorem dX12_rests_85 : decode cX12_rests 85 = .ok (.iload 11, 2) := by decide +kernel
theorem dX12_rests_87 : decode cX12_rests 87 = .ok (.if_icmp .gt 47, 3) := by decide +kernel
theorem dX12_rests_90 : decode cX12_rests 90 = .ok (.aload_n 0, 1) := by decide +kernel
theorem dX12_rests_91 : decode cX12_rests 91 = .ok (.iload_n 1, 1) := by decide +kernel
theorem dX12_rests_92 : decode cX12_rests 92 = .ok (.iload_n 2, 1) := by decide +kernel
theorem dX12_rests_93 : decode cX12_rests 93 = .ok (.iload_n 3, 1) := by decide +kernel
theorem dX12_rests_94 : decode cX12_rests 94 = .ok (.iload 4, 2) := by decide +kernel
theorem dX12_rests_96 : decode cX12_rests 96 = .ok (.iload 5, 2) := by decide +kernel
theorem dX12_rests_98 : decode cX12_rests 98 = .ok (.iload 9, 2) := by decide +kernel
theorem dX12_rests_100 : decode cX12_rests 100 = .ok (.iconst 1, 1) := by decide +kernel
theorem dX12_rests_101 : decode cX12_rests 101 = .ok (.iload 10, 2) := by decide +kernel
theorem dX12_rests_103 : decode cX12_rests 103 = .ok (.isub, 1) := by decide +kernel
theorem dX12_rests_104 : decode cX12_rests 104 = .ok (.invokevirtual 461, 3) := by decide +kernel
theorem dX12_rests_107 : decode cX12_rests 107 = .ok (.iload 11, 2) := by decide +kernel
theorem dX12_rests_109 : decode cX12_rests 109 = .ok (.if_icmp .ge 6, 3) := by decide +kernel
theorem dX12_rests_112 : decode cX12_rests 112 = .ok (.goto 22, 3) := by decide +kernel
theorem dX12_rests_115 : decode cX12_rests 115 = .ok (.iload 7, 2) := by decide +kernel
theorem dX12_rests_117 : decode cX12_rests 117 = .ok (.iload 6, 2) := by decide +kernel
theorem dX12_rests_119 : decode cX12_rests 119 = .ok (.if_icmp .ne 12, 3) := by decide +kernel
theorem dX12_rests_122 : decode cX12_rests 122 = .ok (.bipush 10, 2) := by decide +kernel
theorem dX12_rests_124 : decode cX12_rests 124 = .ok (.iload 9, 2) := by decide +kernel
theorem dX12_rests_126 : decode cX12_rests 126 = .ok (.imul, 1) := by decide +kernel
theorem dX12_rests_127 : decode cX12_rests 127 = .ok (.iload 10, 2) := by decide +kernel
theorem dX12_rests_129 : decode cX12_rests 129 = .ok (.iadd, 1) := by decide +kernel
theorem dX12_rests_130 : decode cX12_rests 130 = .ok (.ireturn, 1) := by decide +kernel
theorem dX12_rests_131 : decode cX12_rests 131 = .ok (.iinc 7 1, 3) := by decide +kernel
theorem dX12_rests_134 : decode cX12_rests 134 = .ok (.iinc 8 1, 3) := by decide +kernel
theorem dX12_rests_137 : decode cX12_rests 137 = .ok (.goto (-104), 3) := by decide +kernel
theorem dX12_rests_140 : decode cX12_rests 140 = .ok (.iload 6, 2) := by decide +kernel
theorem dX12_rests_142 : decode cX12_rests 142 = .ok (.iconst (-1), 1) := by decide +kernel
theorem dX12_rests_143 : decode cX12_rests 143 = .ok (.if_icmp .ne 8, 3) := by decide +kernel
theorem dX12_rests_146 : decode cX12_rests 146 = .ok (.iload 7, 2) := by decide +kernel
theorem dX12_rests_148 : decode cX12_rests 148 = .ok (.goto 4, 3) := by decide +kernel
theorem dX12_rests_151 : decode cX12_rests 151 = .ok (.iconst (-1), 1) := by decide +kernel
theorem dX12_rests_152 : decode cX12_rests 152 = .ok (.ireturn, 1) := by decide +kernel
theorem dX12_reads_0 : decode cX12_reads 0 = .ok (.aload_n 0, 1) := by decide +kernel
theorem dX12_reads_1 : decode cX12_reads 1 = .ok (.iconst 0, 1) := by decide +kernel
theorem dX12_reads_2 : decode cX12_reads 2 = .ok (.putfield 96, 3) := by decide +kernel
theorem dX12_reads_5 : decode cX12_reads 5 = .ok (.aload_n 0, 1) := by decide +kernel
theorem dX12_reads_6 : decode cX12_reads 6 = .ok (.getfield 294, 3) := by decide +kernel
theorem dX12_reads_9 : decode cX12_reads 9 = .ok (.ifCond .eq 15, 3) := by decide +kernel
theorem dX12_reads_12 : decode cX12_reads 12 = .ok (.iload_n 1, 1) := by decide +kernel
theorem dX12_reads_13 : decode cX12_reads 13 = .ok (.i2l, 1) := by decide +kernel
theorem dX12_reads_14 : decode cX12_reads 14 = .ok (.lconst 0, 1) := by decide +kernel
theorem dX12_reads_15 : decode cX12_reads 15 = .ok (.ldc2_w 423, 3) := by decide +kernel
theorem dX12_reads_18 : decode cX12_reads 18 = .ok (.invokestatic 217, 3) := by decide +kernel
theorem dX12_reads_21 : decode cX12_reads 21 = .ok (.ifCond .ne 5, 3) := by decide +kernel
theorem dX12_reads_24 : decode cX12_reads 24 = .ok (.iconst (-1), 1) := by decide +kernel
theorem dX12_reads_25 : decode cX12_reads 25 = .ok (.ireturn, 1) := by decide +kernel
theorem dX12_reads_26 : decode cX12_reads 26 = .ok (.aload_n 0, 1) := by decide +kernel
theorem dX12_reads_27 : decode cX12_reads 27 = .ok (.iload_n 1, 1) := by decide +kernel
theorem dX12_reads_28 : decode cX12_reads 28 = .ok (.aload_n 0, 1) := by decide +kernel
theorem dX12_reads_29 : decode cX12_reads 29 = .ok (.getfield 61, 3) := by decide +kernel
theorem dX12_reads_32 : decode cX12_reads 32 = .ok (.bipush 21, 2) := by decide +kernel
theorem dX12_reads_34 : decode cX12_reads 34 = .ok (.iaload, 1) := by decide +kernel
theorem dX12_reads_35 : decode cX12_reads 35 = .ok (.invokevirtual 425, 3) := by decide +kernel
theorem dX12_reads_38 : decode cX12_reads 38 = .ok (.iconst 0, 1) := by decide +kernel
theorem dX12_reads_39 : decode cX12_reads 39 = .ok (.istore_n 2, 1) := by decide +kernel
theorem dX12_reads_40 : decode cX12_reads 40 = .ok (.iconst 0, 1) := by decide +kernel
theorem dX12_reads_41 : decode cX12_reads 41 = .ok (.istore_n 3, 1) := by decide +kernel
theorem dX12_reads_42 : decode cX12_reads 42 = .ok (.iload_n 3, 1) := by decide +kernel
theorem dX12_reads_43 : decode cX12_reads 43 = .ok (.aload_n 0, 1) := by decide +kernel
theorem dX12_reads_44 : decode cX12_reads 44 = .ok (.getfield 294, 3) := by decide +kernel
theorem dX12_reads_47 : decode cX12_reads 47 = .ok (.if_icmp .ge 37, 3) := by decide +kernel
theorem dX12_reads_50 : decode cX12_reads 50 = .ok (.iload_n 2, 1) := by decide +kernel
theorem dX12_reads_51 : decode cX12_reads 51 = .ok (.aload_n 0, 1) := by decide +kernel
theorem dX12_reads_52 : decode cX12_reads 52 = .ok (.getfield 64, 3) := by decide +kernel
theorem dX12_reads_55 : decode cX12_reads 55 = .ok (.iload_n 3, 1) := by decide +kernel
theorem dX12_reads_56 : decode cX12_reads 56 = .ok (.invokestatic 312, 3) := by decide +kernel
theorem dX12_reads_59 : decode cX12_reads 59 = .ok (.aload_n 0, 1) := by decide +kernel
theorem dX12_reads_60 : decode cX12_reads 60 = .ok (.iload_n 3, 1) := by decide +kernel
theorem dX12_reads_61 : decode cX12_reads 61 = .ok (.bipush 6, 2) := by decide +kernel
theorem dX12_reads_63 : decode cX12_reads 63 = .ok (.invokevirtual 300, 3) := by decide +kernel
theorem dX12_reads_66 : decode cX12_reads 66 = .ok (.if_icmp .gt 9, 3) := by decide +kernel
theorem dX12_reads_69 : decode cX12_reads 69 = .ok (.iconst 1, 1) := by decide +kernel
theorem dX12_reads_70 : decode cX12_reads 70 = .ok (.iload_n 3, 1) := by decide +kernel
theorem dX12_reads_71 : decode cX12_reads 71 = .ok (.ishl, 1) := by decide +kernel
theorem dX12_reads_72 : decode cX12_reads 72 = .ok (.goto 4, 3) := by decide +kernel
theorem dX12_reads_75 : decode cX12_reads 75 = .ok (.iconst 0, 1) := by decide +kernel
theorem dX12_reads_76 : decode cX12_reads 76 = .ok (.ior, 1) := by decide +kernel
theorem dX12_reads_77 : decode cX12_reads 77 = .ok (.istore_n 2, 1) := by decide +kernel
theorem dX12_reads_78 : decode cX12_reads 78 = .ok (.iinc 3 1, 3) := by decide +kernel
theorem dX12_reads_81 : decode cX12_reads 81 = .ok (.goto (-39), 3) := by decide +kernel
theorem dX12_reads_84 : decode cX12_reads 84 = .ok (.iload_n 2, 1) := by decide +kernel
theorem dX12_reads_85 : decode cX12_reads 85 = .ok (.ireturn, 1) := by decide +kernel
theorem dX12_darkest_0 : decode cX12_darkest 0 = .ok (.aload_n 0, 1) := by decide +kernel
theorem dX12_darkest_1 : decode cX12_darkest 1 = .ok (.iconst 0, 1) := by decide +kernel
theorem dX12_darkest_2 : decode cX12_darkest 2 = .ok (.putfield 96, 3) := by decide +kernel
theorem dX12_darkest_5 : decode cX12_darkest 5 = .ok (.iconst (-1), 1) := by decide +kernel
theorem dX12_darkest_6 : decode cX12_darkest 6 = .ok (.istore_n 1, 1) := by decide +kernel
theorem dX12_darkest_7 : decode cX12_darkest 7 = .ok (.iconst 0, 1) := by decide +kernel
theorem dX12_darkest_8 : decode cX12_darkest 8 = .ok (.istore_n 2, 1) := by decide +kernel
theorem dX12_darkest_9 : decode cX12_darkest 9 = .ok (.iconst 0, 1) := by decide +kernel
theorem dX12_darkest_10 : decode cX12_darkest 10 = .ok (.istore_n 3, 1) := by decide +kernel
theorem dX12_darkest_11 : decode cX12_darkest 11 = .ok (.iload_n 3, 1) := by decide +kernel
theorem dX12_darkest_12 : decode cX12_darkest 12 = .ok (.aload_n 0, 1) := by decide +kernel
theorem dX12_darkest_13 : decode cX12_darkest 13 = .ok (.getfield 294, 3) := by decide +kernel
theorem dX12_darkest_16 : decode cX12_darkest 16 = .ok (.if_icmp .ge 41, 3) := by decide +kernel
theorem dX12_darkest_19 : decode cX12_darkest 19 = .ok (.aload_n 0, 1) := by decide +kernel
theorem dX12_darkest_20 : decode cX12_darkest 20 = .ok (.getfield 61, 3) := by decide +kernel
theorem dX12_darkest_23 : decode cX12_darkest 23 = .ok (.iload_n 3, 1) := by decide +kernel
theorem dX12_darkest_24 : decode cX12_darkest 24 = .ok (.invokestatic 312, 3) := by decide +kernel
theorem dX12_darkest_27 : decode cX12_darkest 27 = .ok (.aload_n 0, 1) := by decide +kernel
theorem dX12_darkest_28 : decode cX12_darkest 28 = .ok (.iload_n 3, 1) := by decide +kernel
theorem dX12_darkest_29 : decode cX12_darkest 29 = .ok (.bipush 6, 2) := by decide +kernel
theorem dX12_darkest_31 : decode cX12_darkest 31 = .ok (.invokevirtual 300, 3) := by decide +kernel
theorem dX12_darkest_34 : decode cX12_darkest 34 = .ok (.isub, 1) := by decide +kernel
theorem dX12_darkest_35 : decode cX12_darkest 35 = .ok (.istore 4, 2) := by decide +kernel
theorem dX12_darkest_37 : decode cX12_darkest 37 = .ok (.iload 4, 2) := by decide +kernel
theorem dX12_darkest_39 : decode cX12_darkest 39 = .ok (.iload_n 2, 1) := by decide +kernel
theorem dX12_darkest_40 : decode cX12_darkest 40 = .ok (.if_icmp .gt 6, 3) := by decide +kernel
theorem dX12_darkest_43 : decode cX12_darkest 43 = .ok (.goto 8, 3) := by decide +kernel
theorem dX12_darkest_46 : decode cX12_darkest 46 = .ok (.iload_n 3, 1) := by decide +kernel
theorem dX12_darkest_47 : decode cX12_darkest 47 = .ok (.istore_n 1, 1) := by decide +kernel
theorem dX12_darkest_48 : decode cX12_darkest 48 = .ok (.iload 4, 2) := by decide +kernel
theorem dX12_darkest_50 : decode cX12_darkest 50 = .ok (.istore_n 2, 1) := by decide +kernel
theorem dX12_darkest_51 : decode cX12_darkest 51 = .ok (.iinc 3 1, 3) := by decide +kernel
theorem dX12_darkest_54 : decode cX12_darkest 54 = .ok (.goto (-43), 3) := by decide +kernel
theorem dX12_darkest_57 : decode cX12_darkest 57 = .ok (.iload_n 1, 1) := by decide +kernel
theorem dX12_darkest_58 : decode cX12_darkest 58 = .ok (.ireturn, 1) := by decide +kernel
theorem dX12_rent_0 : decode cX12_rent 0 = .ok (.aload_n 0, 1) := by decide +kernel
theorem dX12_rent_1 : decode cX12_rent 1 = .ok (.iconst 0, 1) := by decide +kernel
theorem dX12_rent_2 : decode cX12_rent 2 = .ok (.putfield 96, 3) := by decide +kernel
theorem dX12_rent_5 : decode cX12_rent 5 = .ok (.aload_n 0, 1) := by decide +kernel
theorem dX12_rent_6 : decode cX12_rent 6 = .ok (.iload_n 1, 1) := by decide +kernel
theorem dX12_rent_7 : decode cX12_rent 7 = .ok (.invokevirtual 364, 3) := by decide +kernel
theorem dX12_rent_10 : decode cX12_rent 10 = .ok (.ifCond .ne 7, 3) := by decide +kernel
theorem dX12_rent_13 : decode cX12_rent 13 = .ok (.ldc_w 408, 3) := by decide +kernel
theorem dX12_rent_16 : decode cX12_rent 16 = .ok (.ireturn, 1) := by decide +kernel
theorem dX12_rent_17 : decode cX12_rent 17 = .ok (.aload_n 0, 1) := by decide +kernel
theorem dX12_rent_18 : decode cX12_rent 18 = .ok (.getfield 61, 3) := by decide +kernel
theorem dX12_rent_21 : decode cX12_rent 21 = .ok (.iload_n 1, 1) := by decide +kernel
theorem dX12_rent_22 : decode cX12_rent 22 = .ok (.invokestatic 312, 3) := by decide +kernel
theorem dX12_rent_25 : decode cX12_rent 25 = .ok (.aload_n 0, 1) := by decide +kernel
theorem dX12_rent_26 : decode cX12_rent 26 = .ok (.aload_n 0, 1) := by decide +kernel
theorem dX12_rent_27 : decode cX12_rent 27 = .ok (.getfield 61, 3) := by decide +kernel
theorem dX12_rent_30 : decode cX12_rent 30 = .ok (.invokevirtual 360, 3) := by decide +kernel
theorem dX12_rent_33 : decode cX12_rent 33 = .ok (.iload_n 1, 1) := by decide +kernel
theorem dX12_rent_34 : decode cX12_rent 34 = .ok (.invokestatic 229, 3) := by decide +kernel
theorem dX12_rent_37 : decode cX12_rent 37 = .ok (.ifCond .eq 8, 3) := by decide +kernel
theorem dX12_rent_40 : decode cX12_rent 40 = .ok (.bipush 10, 2) := by decide +kernel
theorem dX12_rent_42 : decode cX12_rent 42 = .ok (.goto 4, 3) := by decide +kernel
theorem dX12_rent_45 : decode cX12_rent 45 = .ok (.iconst 0, 1) := by decide +kernel
theorem dX12_rent_46 : decode cX12_rent 46 = .ok (.isub, 1) := by decide +kernel
theorem dX12_rent_47 : decode cX12_rent 47 = .ok (.istore_n 2, 1) := by decide +kernel
theorem dX12_rent_48 : decode cX12_rent 48 = .ok (.iconst 0, 1) := by decide +kernel
theorem dX12_rent_49 : decode cX12_rent 49 = .ok (.istore_n 3, 1) := by decide +kernel
theorem dX12_rent_50 : decode cX12_rent 50 = .ok (.iload_n 3, 1) := by decide +kernel
theorem dX12_rent_51 : decode cX12_rent 51 = .ok (.aload_n 0, 1) := by decide +kernel
theorem dX12_rent_52 : decode cX12_rent 52 = .ok (.getfield 297, 3) := by decide +kernel
theorem dX12_rent_55 : decode cX12_rent 55 = .ok (.if_icmp .ge 43, 3) := by decide +kernel
theorem dX12_rent_58 : decode cX12_rent 58 = .ok (.iload_n 2, 1) := by decide +kernel
theorem dX12_rent_59 : decode cX12_rent 59 = .ok (.aload_n 0, 1) := by decide +kernel
theorem dX12_rent_60 : decode cX12_rent 60 = .ok (.getfield 49, 3) := by decide +kernel
theorem dX12_rent_63 : decode cX12_rent 63 = .ok (.iconst 5, 1) := by decide +kernel
theorem dX12_rent_64 : decode cX12_rent 64 = .ok (.iload_n 3, 1) := by decide +kernel
theorem dX12_rent_65 : decode cX12_rent 65 = .ok (.imul, 1) := by decide +kernel
theorem dX12_rent_66 : decode cX12_rent 66 = .ok (.iaload, 1) := by decide +kernel
theorem dX12_rent_67 : decode cX12_rent 67 = .ok (.iload_n 1, 1) := by decide +kernel
theorem dX12_rent_68 : decode cX12_rent 68 = .ok (.if_icmp .eq 17, 3) := by decide +kernel
theorem dX12_rent_71 : decode cX12_rent 71 = .ok (.aload_n 0, 1) := by decide +kernel
theorem dX12_rent_72 : decode cX12_rent 72 = .ok (.getfield 49, 3) := by decide +kernel
theorem dX12_rent_75 : decode cX12_rent 75 = .ok (.iconst 5, 1) := by decide +kernel
theorem dX12_rent_76 : decode cX12_rent 76 = .ok (.iload_n 3, 1) := by decide +kernel
theorem dX12_rent_77 : decode cX12_rent 77 = .ok (.imul, 1) := by decide +kernel
theorem dX12_rent_78 : decode cX12_rent 78 = .ok (.iconst 1, 1) := by decide +kernel
theorem dX12_rent_79 : decode cX12_rent 79 = .ok (.iadd, 1) := by decide +kernel
theorem dX12_rent_80 : decode cX12_rent 80 = .ok (.iaload, 1) := by decide +kernel
theorem dX12_rent_81 : decode cX12_rent 81 = .ok (.iload_n 1, 1) := by decide +kernel
theorem dX12_rent_82 : decode cX12_rent 82 = .ok (.if_icmp .ne 7, 3) := by decide +kernel
theorem dX12_rent_85 : decode cX12_rent 85 = .ok (.iconst 5, 1) := by decide +kernel
theorem dX12_rent_86 : decode cX12_rent 86 = .ok (.goto 4, 3) := by decide +kernel
theorem dX12_rent_89 : decode cX12_rent 89 = .ok (.iconst 0, 1) := by decide +kernel
theorem dX12_rent_90 : decode cX12_rent 90 = .ok (.iadd, 1) := by decide +kernel
theorem dX12_rent_91 : decode cX12_rent 91 = .ok (.istore_n 2, 1) := by decide +kernel
theorem dX12_rent_92 : decode cX12_rent 92 = .ok (.iinc 3 1, 3) := by decide +kernel
theorem dX12_rent_95 : decode cX12_rent 95 = .ok (.goto (-45), 3) := by decide +kernel
theorem dX12_rent_98 : decode cX12_rent 98 = .ok (.iload_n 2, 1) := by decide +kernel
theorem dX12_rent_99 : decode cX12_rent 99 = .ok (.ireturn, 1) := by decide +kernel
theorem dX12_trend_0 : decode cX12_trend 0 = .ok (.aload_n 0, 1) := by decide +kernel
theorem dX12_trend_1 : decode cX12_trend 1 = .ok (.iconst 0, 1) := by decide +kernel
theorem dX12_trend_2 : decode cX12_trend 2 = .ok (.putfield 96, 3) := by decide +kernel
theorem dX12_trend_5 : decode cX12_trend 5 = .ok (.aload_n 0, 1) := by decide +kernel
theorem dX12_trend_6 : decode cX12_trend 6 = .ok (.iload_n 1, 1) := by decide +kernel
theorem dX12_trend_7 : decode cX12_trend 7 = .ok (.invokevirtual 364, 3) := by decide +kernel
theorem dX12_trend_10 : decode cX12_trend 10 = .ok (.ifCond .ne 7, 3) := by decide +kernel
theorem dX12_trend_13 : decode cX12_trend 13 = .ok (.ldc_w 408, 3) := by decide +kernel
theorem dX12_trend_16 : decode cX12_trend 16 = .ok (.ireturn, 1) := by decide +kernel
theorem dX12_trend_17 : decode cX12_trend 17 = .ok (.aload_n 0, 1) := by decide +kernel
theorem dX12_trend_18 : decode cX12_trend 18 = .ok (.iconst 1, 1) := by decide +kernel
theorem dX12_trend_19 : decode cX12_trend 19 = .ok (.aload_n 0, 1) := by decide +kernel
theorem dX12_trend_20 : decode cX12_trend 20 = .ok (.getfield 61, 3) := by decide +kernel
theorem dX12_trend_23 : decode cX12_trend 23 = .ok (.bipush 21, 2) := by decide +kernel
theorem dX12_trend_25 : decode cX12_trend 25 = .ok (.iaload, 1) := by decide +kernel
theorem dX12_trend_26 : decode cX12_trend 26 = .ok (.invokevirtual 425, 3) := by decide +kernel
theorem dX12_trend_29 : decode cX12_trend 29 = .ok (.aload_n 0, 1) := by decide +kernel
theorem dX12_trend_30 : decode cX12_trend 30 = .ok (.getfield 64, 3) := by decide +kernel
theorem dX12_trend_33 : decode cX12_trend 33 = .ok (.iload_n 1, 1) := by decide +kernel
theorem dX12_trend_34 : decode cX12_trend 34 = .ok (.invokestatic 312, 3) := by decide +kernel
theorem dX12_trend_37 : decode cX12_trend 37 = .ok (.aload_n 0, 1) := by decide +kernel
theorem dX12_trend_38 : decode cX12_trend 38 = .ok (.getfield 61, 3) := by decide +kernel
theorem dX12_trend_41 : decode cX12_trend 41 = .ok (.iload_n 1, 1) := by decide +kernel
theorem dX12_trend_42 : decode cX12_trend 42 = .ok (.invokestatic 312, 3) := by decide +kernel
theorem dX12_trend_45 : decode cX12_trend 45 = .ok (.isub, 1) := by decide +kernel
theorem dX12_trend_46 : decode cX12_trend 46 = .ok (.ireturn, 1) := by decide +kernel
theorem dX12_shares_0 : decode cX12_shares 0 = .ok (.aload_n 0, 1) := by decide +kernel
theorem dX12_shares_1 : decode cX12_shares 1 = .ok (.iconst 0, 1) := by decide +kernel
theorem dX12_shares_2 : decode cX12_shares 2 = .ok (.putfield 96, 3) := by decide +kernel
theorem dX12_shares_5 : decode cX12_shares 5 = .ok (.aload_n 0, 1) := by decide +kernel
theorem dX12_shares_6 : decode cX12_shares 6 = .ok (.getfield 294, 3) := by decide +kernel
theorem dX12_shares_9 : decode cX12_shares 9 = .ok (.ifCond .ne 5, 3) := by decide +kernel
theorem dX12_shares_12 : decode cX12_shares 12 = .ok (.iconst (-1), 1) := by decide +kernel
theorem dX12_shares_13 : decode cX12_shares 13 = .ok (.ireturn, 1) := by decide +kernel
theorem dX12_shares_14 : decode cX12_shares 14 = .ok (.iconst 0, 1) := by decide +kernel
theorem dX12_shares_15 : decode cX12_shares 15 = .ok (.istore_n 1, 1) := by decide +kernel
theorem dX12_shares_16 : decode cX12_shares 16 = .ok (.iconst 0, 1) := by decide +kernel
theorem dX12_shares_17 : decode cX12_shares 17 = .ok (.istore_n 2, 1) := by decide +kernel
theorem dX12_shares_18 : decode cX12_shares 18 = .ok (.iload_n 2, 1) := by decide +kernel
theorem dX12_shares_19 : decode cX12_shares 19 = .ok (.aload_n 0, 1) := by decide +kernel
theorem dX12_shares_20 : decode cX12_shares 20 = .ok (.getfield 294, 3) := by decide +kernel
theorem dX12_shares_23 : decode cX12_shares 23 = .ok (.if_icmp .ge 36, 3) := by decide +kernel
theorem dX12_shares_26 : decode cX12_shares 26 = .ok (.iload_n 1, 1) := by decide +kernel
theorem dX12_shares_27 : decode cX12_shares 27 = .ok (.aload_n 0, 1) := by decide +kernel
theorem dX12_shares_28 : decode cX12_shares 28 = .ok (.iload_n 2, 1) := by decide +kernel
theorem dX12_shares_29 : decode cX12_shares 29 = .ok (.aload_n 0, 1) := by decide +kernel
theorem dX12_shares_30 : decode cX12_shares 30 = .ok (.getfield 61, 3) := by decide +kernel
theorem dX12_shares_33 : decode cX12_shares 33 = .ok (.bipush 21, 2) := by decide +kernel
theorem dX12_shares_35 : decode cX12_shares 35 = .ok (.iaload, 1) := by decide +kernel
theorem dX12_shares_36 : decode cX12_shares 36 = .ok (.invokevirtual 437, 3) := by decide +kernel
theorem dX12_shares_39 : decode cX12_shares 39 = .ok (.invokestatic 465, 3) := by decide +kernel
theorem dX12_shares_42 : decode cX12_shares 42 = .ok (.iload_n 2, 1) := by decide +kernel
theorem dX12_shares_43 : decode cX12_shares 43 = .ok (.if_icmp .ne 7, 3) := by decide +kernel
theorem dX12_shares_46 : decode cX12_shares 46 = .ok (.iconst 1, 1) := by decide +kernel
theorem dX12_shares_47 : decode cX12_shares 47 = .ok (.goto 4, 3) := by decide +kernel
theorem dX12_shares_50 : decode cX12_shares 50 = .ok (.iconst 0, 1) := by decide +kernel
theorem dX12_shares_51 : decode cX12_shares 51 = .ok (.iadd, 1) := by decide +kernel
theorem dX12_shares_52 : decode cX12_shares 52 = .ok (.istore_n 1, 1) := by decide +kernel
theorem dX12_shares_53 : decode cX12_shares 53 = .ok (.iinc 2 1, 3) := by decide +kernel
theorem dX12_shares_56 : decode cX12_shares 56 = .ok (.goto (-38), 3) := by decide +kernel
theorem dX12_shares_59 : decode cX12_shares 59 = .ok (.iload_n 1, 1) := by decide +kernel
theorem dX12_shares_60 : decode cX12_shares 60 = .ok (.ireturn, 1) := by decide +kernel
theorem dX12_largest_0 : decode cX12_largest 0 = .ok (.aload_n 0, 1) := by decide +kernel
theorem dX12_largest_1 : decode cX12_largest 1 = .ok (.iconst 0, 1) := by decide +kernel
theorem dX12_largest_2 : decode cX12_largest 2 = .ok (.putfield 96, 3) := by decide +kernel
theorem dX12_largest_5 : decode cX12_largest 5 = .ok (.iconst (-1), 1) := by decide +kernel
theorem dX12_largest_6 : decode cX12_largest 6 = .ok (.istore_n 1, 1) := by decide +kernel
theorem dX12_largest_7 : decode cX12_largest 7 = .ok (.iconst 0, 1) := by decide +kernel
theorem dX12_largest_8 : decode cX12_largest 8 = .ok (.istore_n 2, 1) := by decide +kernel
theorem dX12_largest_9 : decode cX12_largest 9 = .ok (.iconst 0, 1) := by decide +kernel
theorem dX12_largest_10 : decode cX12_largest 10 = .ok (.istore_n 3, 1) := by decide +kernel
theorem dX12_largest_11 : decode cX12_largest 11 = .ok (.iload_n 3, 1) := by decide +kernel
theorem dX12_largest_12 : decode cX12_largest 12 = .ok (.aload_n 0, 1) := by decide +kernel
theorem dX12_largest_13 : decode cX12_largest 13 = .ok (.getfield 297, 3) := by decide +kernel
theorem dX12_largest_16 : decode cX12_largest 16 = .ok (.if_icmp .ge 52, 3) := by decide +kernel
theorem dX12_largest_19 : decode cX12_largest 19 = .ok (.aload_n 0, 1) := by decide +kernel
theorem dX12_largest_20 : decode cX12_largest 20 = .ok (.getfield 61, 3) := by decide +kernel
theorem dX12_largest_23 : decode cX12_largest 23 = .ok (.bipush 21, 2) := by decide +kernel
theorem dX12_largest_25 : decode cX12_largest 25 = .ok (.iaload, 1) := by decide +kernel
theorem dX12_largest_26 : decode cX12_largest 26 = .ok (.iload_n 3, 1) := by decide +kernel
theorem dX12_largest_27 : decode cX12_largest 27 = .ok (.invokestatic 229, 3) := by decide +kernel
theorem dX12_largest_30 : decode cX12_largest 30 = .ok (.ifCond .eq 15, 3) := by decide +kernel
theorem dX12_largest_33 : decode cX12_largest 33 = .ok (.aload_n 0, 1) := by decide +kernel
theorem dX12_largest_34 : decode cX12_largest 34 = .ok (.aload_n 0, 1) := by decide +kernel
theorem dX12_largest_35 : decode cX12_largest 35 = .ok (.getfield 61, 3) := by decide +kernel
theorem dX12_largest_38 : decode cX12_largest 38 = .ok (.iload_n 3, 1) := by decide +kernel
theorem dX12_largest_39 : decode cX12_largest 39 = .ok (.invokevirtual 342, 3) := by decide +kernel
theorem dX12_largest_42 : decode cX12_largest 42 = .ok (.goto 4, 3) := by decide +kernel
theorem dX12_largest_45 : decode cX12_largest 45 = .ok (.iconst 0, 1) := by decide +kernel
theorem dX12_largest_46 : decode cX12_largest 46 = .ok (.istore 4, 2) := by decide +kernel
theorem dX12_largest_48 : decode cX12_largest 48 = .ok (.iload 4, 2) := by decide +kernel
theorem dX12_largest_50 : decode cX12_largest 50 = .ok (.iload_n 2, 1) := by decide +kernel
theorem dX12_largest_51 : decode cX12_largest 51 = .ok (.if_icmp .gt 6, 3) := by decide +kernel
theorem dX12_largest_54 : decode cX12_largest 54 = .ok (.goto 8, 3) := by decide +kernel
theorem dX12_largest_57 : decode cX12_largest 57 = .ok (.iload_n 3, 1) := by decide +kernel
theorem dX12_largest_58 : decode cX12_largest 58 = .ok (.istore_n 1, 1) := by decide +kernel
theorem dX12_largest_59 : decode cX12_largest 59 = .ok (.iload 4, 2) := by decide +kernel
theorem dX12_largest_61 : decode cX12_largest 61 = .ok (.istore_n 2, 1) := by decide +kernel
theorem dX12_largest_62 : decode cX12_largest 62 = .ok (.iinc 3 1, 3) := by decide +kernel
theorem dX12_largest_65 : decode cX12_largest 65 = .ok (.goto (-54), 3) := by decide +kernel
theorem dX12_largest_68 : decode cX12_largest 68 = .ok (.iload_n 1, 1) := by decide +kernel
theorem dX12_largest_69 : decode cX12_largest 69 = .ok (.ireturn, 1) := by decide +kernel
theorem dX12_eaten_0 : decode cX12_eaten 0 = .ok (.aload_n 0, 1) := by decide +kernel
theorem dX12_eaten_1 : decode cX12_eaten 1 = .ok (.iconst 0, 1) := by decide +kernel
theorem dX12_eaten_2 : decode cX12_eaten 2 = .ok (.putfield 96, 3) := by decide +kernel
theorem dX12_eaten_5 : decode cX12_eaten 5 = .ok (.aload_n 0, 1) := by decide +kernel
theorem dX12_eaten_6 : decode cX12_eaten 6 = .ok (.getfield 294, 3) := by decide +kernel
theorem dX12_eaten_9 : decode cX12_eaten 9 = .ok (.ifCond .eq 15, 3) := by decide +kernel
theorem dX12_eaten_12 : decode cX12_eaten 12 = .ok (.iload_n 1, 1) := by decide +kernel
theorem dX12_eaten_13 : decode cX12_eaten 13 = .ok (.i2l, 1) := by decide +kernel
theorem dX12_eaten_14 : decode cX12_eaten 14 = .ok (.lconst 1, 1) := by decide +kernel
theorem dX12_eaten_15 : decode cX12_eaten 15 = .ok (.ldc2_w 423, 3) := by decide +kernel
theorem dX12_eaten_18 : decode cX12_eaten 18 = .ok (.invokestatic 217, 3) := by decide +kernel
theorem dX12_eaten_21 : decode cX12_eaten 21 = .ok (.ifCond .ne 7, 3) := by decide +kernel
theorem dX12_eaten_24 : decode cX12_eaten 24 = .ok (.ldc_w 408, 3) := by decide +kernel
theorem dX12_eaten_27 : decode cX12_eaten 27 = .ok (.ireturn, 1) := by decide +kernel
theorem dX12_eaten_28 : decode cX12_eaten 28 = .ok (.aload_n 0, 1) := by decide +kernel
theorem dX12_eaten_29 : decode cX12_eaten 29 = .ok (.iload_n 1, 1) := by decide +kernel
theorem dX12_eaten_30 : decode cX12_eaten 30 = .ok (.aload_n 0, 1) := by decide +kernel
theorem dX12_eaten_31 : decode cX12_eaten 31 = .ok (.getfield 61, 3) := by decide +kernel
theorem dX12_eaten_34 : decode cX12_eaten 34 = .ok (.bipush 21, 2) := by decide +kernel
theorem dX12_eaten_36 : decode cX12_eaten 36 = .ok (.iaload, 1) := by decide +kernel
theorem dX12_eaten_37 : decode cX12_eaten 37 = .ok (.invokevirtual 425, 3) := by decide +kernel
theorem dX12_eaten_40 : decode cX12_eaten 40 = .ok (.aload_n 0, 1) := by decide +kernel
theorem dX12_eaten_41 : decode cX12_eaten 41 = .ok (.aload_n 0, 1) := by decide +kernel
theorem dX12_eaten_42 : decode cX12_eaten 42 = .ok (.getfield 61, 3) := by decide +kernel
theorem dX12_eaten_45 : decode cX12_eaten 45 = .ok (.iconst 1, 1) := by decide +kernel
theorem dX12_eaten_46 : decode cX12_eaten 46 = .ok (.invokevirtual 357, 3) := by decide +kernel
theorem dX12_eaten_49 : decode cX12_eaten 49 = .ok (.aload_n 0, 1) := by decide +kernel
theorem dX12_eaten_50 : decode cX12_eaten 50 = .ok (.aload_n 0, 1) := by decide +kernel
theorem dX12_eaten_51 : decode cX12_eaten 51 = .ok (.getfield 64, 3) := by decide +kernel
theorem dX12_eaten_54 : decode cX12_eaten 54 = .ok (.iconst 1, 1) := by decide +kernel
theorem dX12_eaten_55 : decode cX12_eaten 55 = .ok (.invokevirtual 357, 3) := by decide +kernel
theorem dX12_eaten_58 : decode cX12_eaten 58 = .ok (.isub, 1) := by decide +kernel
theorem dX12_eaten_59 : decode cX12_eaten 59 = .ok (.ireturn, 1) := by decide +kernel
theorem dX12_image_0 : decode cX12_image 0 = .ok (.aload_n 0, 1) := by decide +kernel
theorem dX12_image_1 : decode cX12_image 1 = .ok (.iconst 0, 1) := by decide +kernel
theorem dX12_image_2 : decode cX12_image 2 = .ok (.putfield 96, 3) := by decide +kernel
theorem dX12_image_5 : decode cX12_image 5 = .ok (.aload_n 0, 1) := by decide +kernel
theorem dX12_image_6 : decode cX12_image 6 = .ok (.getfield 294, 3) := by decide +kernel
theorem dX12_image_9 : decode cX12_image 9 = .ok (.ifCond .ne 5, 3) := by decide +kernel
theorem dX12_image_12 : decode cX12_image 12 = .ok (.iconst (-1), 1) := by decide +kernel
theorem dX12_image_13 : decode cX12_image 13 = .ok (.ireturn, 1) := by decide +kernel
theorem dX12_image_14 : decode cX12_image 14 = .ok (.aload_n 0, 1) := by decide +kernel
theorem dX12_image_15 : decode cX12_image 15 = .ok (.getfield 61, 3) := by decide +kernel
theorem dX12_image_18 : decode cX12_image 18 = .ok (.aload_n 0, 1) := by decide +kernel
theorem dX12_image_19 : decode cX12_image 19 = .ok (.getfield 93, 3) := by decide +kernel
theorem dX12_image_22 : decode cX12_image 22 = .ok (.invokestatic 409, 3) := by decide +kernel
theorem dX12_image_25 : decode cX12_image 25 = .ok (.aload_n 0, 1) := by decide +kernel
theorem dX12_image_26 : decode cX12_image 26 = .ok (.iconst 1, 1) := by decide +kernel
theorem dX12_image_27 : decode cX12_image 27 = .ok (.putfield 309, 3) := by decide +kernel
theorem dX12_image_30 : decode cX12_image 30 = .ok (.aload_n 0, 1) := by decide +kernel
theorem dX12_image_31 : decode cX12_image 31 = .ok (.getfield 61, 3) := by decide +kernel
theorem dX12_image_34 : decode cX12_image 34 = .ok (.bipush 23, 2) := by decide +kernel
theorem dX12_image_36 : decode cX12_image 36 = .ok (.iaload, 1) := by decide +kernel
theorem dX12_image_37 : decode cX12_image 37 = .ok (.ireturn, 1) := by decide +kernel
theorem dX12_back_0 : decode cX12_back 0 = .ok (.aload_n 0, 1) := by decide +kernel
theorem dX12_back_1 : decode cX12_back 1 = .ok (.iconst 0, 1) := by decide +kernel
theorem dX12_back_2 : decode cX12_back 2 = .ok (.putfield 96, 3) := by decide +kernel
theorem dX12_back_5 : decode cX12_back 5 = .ok (.aload_n 0, 1) := by decide +kernel
theorem dX12_back_6 : decode cX12_back 6 = .ok (.getfield 309, 3) := by decide +kernel
theorem dX12_back_9 : decode cX12_back 9 = .ok (.ifCond .ne 5, 3) := by decide +kernel
theorem dX12_back_12 : decode cX12_back 12 = .ok (.iconst (-1), 1) := by decide +kernel
theorem dX12_back_13 : decode cX12_back 13 = .ok (.ireturn, 1) := by decide +kernel
theorem dX12_back_14 : decode cX12_back 14 = .ok (.aload_n 0, 1) := by decide +kernel
theorem dX12_back_15 : decode cX12_back 15 = .ok (.getfield 93, 3) := by decide +kernel
theorem dX12_back_18 : decode cX12_back 18 = .ok (.aload_n 0, 1) := by decide +kernel
theorem dX12_back_19 : decode cX12_back 19 = .ok (.getfield 61, 3) := by decide +kernel
theorem dX12_back_22 : decode cX12_back 22 = .ok (.invokestatic 409, 3) := by decide +kernel
theorem dX12_back_25 : decode cX12_back 25 = .ok (.aload_n 0, 1) := by decide +kernel
theorem dX12_back_26 : decode cX12_back 26 = .ok (.iconst 0, 1) := by decide +kernel
theorem dX12_back_27 : decode cX12_back 27 = .ok (.putfield 306, 3) := by decide +kernel
theorem dX12_back_30 : decode cX12_back 30 = .ok (.aload_n 0, 1) := by decide +kernel
theorem dX12_back_31 : decode cX12_back 31 = .ok (.getfield 61, 3) := by decide +kernel
theorem dX12_back_34 : decode cX12_back 34 = .ok (.bipush 23, 2) := by decide +kernel
theorem dX12_back_36 : decode cX12_back 36 = .ok (.iaload, 1) := by decide +kernel
theorem dX12_back_37 : decode cX12_back 37 = .ok (.ireturn, 1) := by decide +kernel
theorem dX12_sumTold_0 : decode cX12_sumTold 0 = .ok (.iconst 0, 1) := by decide +kernel
theorem dX12_sumTold_1 : decode cX12_sumTold 1 = .ok (.istore_n 2, 1) := by decide +kernel
theorem dX12_sumTold_2 : decode cX12_sumTold 2 = .ok (.iconst 0, 1) := by decide +kernel
theorem dX12_sumTold_3 : decode cX12_sumTold 3 = .ok (.istore_n 3, 1) := by decide +kernel
theorem dX12_sumTold_4 : decode cX12_sumTold 4 = .ok (.iload_n 3, 1) := by decide +kernel
theorem dX12_sumTold_5 : decode cX12_sumTold 5 = .ok (.aload_n 0, 1) := by decide +kernel
theorem dX12_sumTold_6 : decode cX12_sumTold 6 = .ok (.getfield 294, 3) := by decide +kernel
theorem dX12_sumTold_9 : decode cX12_sumTold 9 = .ok (.if_icmp .ge 18, 3) := by decide +kernel
theorem dX12_sumTold_12 : decode cX12_sumTold 12 = .ok (.iload_n 2, 1) := by decide +kernel
theorem dX12_sumTold_13 : decode cX12_sumTold 13 = .ok (.aload_n 0, 1) := by decide +kernel
theorem dX12_sumTold_14 : decode cX12_sumTold 14 = .ok (.iload_n 3, 1) := by decide +kernel
theorem dX12_sumTold_15 : decode cX12_sumTold 15 = .ok (.iload_n 1, 1) := by decide +kernel
theorem dX12_sumTold_16 : decode cX12_sumTold 16 = .ok (.invokevirtual 300, 3) := by decide +kernel
theorem dX12_sumTold_19 : decode cX12_sumTold 19 = .ok (.iadd, 1) := by decide +kernel
theorem dX12_sumTold_20 : decode cX12_sumTold 20 = .ok (.istore_n 2, 1) := by decide +kernel
theorem dX12_sumTold_21 : decode cX12_sumTold 21 = .ok (.iinc 3 1, 3) := by decide +kernel
theorem dX12_sumTold_24 : decode cX12_sumTold 24 = .ok (.goto (-20), 3) := by decide +kernel
theorem dX12_sumTold_27 : decode cX12_sumTold 27 = .ok (.iload_n 2, 1) := by decide +kernel
theorem dX12_sumTold_28 : decode cX12_sumTold 28 = .ok (.ireturn, 1) := by decide +kernel
theorem dX12_count_0 : decode cX12_count 0 = .ok (.aload_n 0, 1) := by decide +kernel
theorem dX12_count_1 : decode cX12_count 1 = .ok (.iconst 0, 1) := by decide +kernel
theorem dX12_count_2 : decode cX12_count 2 = .ok (.putfield 96, 3) := by decide +kernel
theorem dX12_count_5 : decode cX12_count 5 = .ok (.iload_n 1, 1) := by decide +kernel
theorem dX12_count_6 : decode cX12_count 6 = .ok (.tableswitch 234 0 18 #[90, 95, 100, 105, 110, 115, 120, 128, 138, 148, 158, 166, 182, 198, 203, 208, 216, 221, 229], 90) := by decide +kernel
theorem dX12_count_96 : decode cX12_count 96 = .ok (.aload_n 0, 1) := by decide +kernel
theorem dX12_count_97 : decode cX12_count 97 = .ok (.getfield 294, 3) := by decide +kernel
theorem dX12_count_100 : decode cX12_count 100 = .ok (.ireturn, 1) := by decide +kernel
theorem dX12_count_101 : decode cX12_count 101 = .ok (.aload_n 0, 1) := by decide +kernel
theorem dX12_count_102 : decode cX12_count 102 = .ok (.getfield 297, 3) := by decide +kernel
theorem dX12_count_105 : decode cX12_count 105 = .ok (.ireturn, 1) := by decide +kernel
theorem dX12_count_106 : decode cX12_count 106 = .ok (.aload_n 0, 1) := by decide +kernel
theorem dX12_count_107 : decode cX12_count 107 = .ok (.getfield 286, 3) := by decide +kernel
theorem dX12_count_110 : decode cX12_count 110 = .ok (.ireturn, 1) := by decide +kernel
theorem dX12_count_111 : decode cX12_count 111 = .ok (.aload_n 0, 1) := by decide +kernel
theorem dX12_count_112 : decode cX12_count 112 = .ok (.getfield 289, 3) := by decide +kernel
theorem dX12_count_115 : decode cX12_count 115 = .ok (.ireturn, 1) := by decide +kernel
theorem dX12_count_116 : decode cX12_count 116 = .ok (.aload_n 0, 1) := by decide +kernel
theorem dX12_count_117 : decode cX12_count 117 = .ok (.getfield 109, 3) := by decide +kernel
theorem dX12_count_120 : decode cX12_count 120 = .ok (.ireturn, 1) := by decide +kernel
theorem dX12_count_121 : decode cX12_count 121 = .ok (.aload_n 0, 1) := by decide +kernel
theorem dX12_count_122 : decode cX12_count 122 = .ok (.getfield 67, 3) := by decide +kernel
theorem dX12_count_125 : decode cX12_count 125 = .ok (.ireturn, 1) := by decide +kernel
theorem dX12_count_126 : decode cX12_count 126 = .ok (.aload_n 0, 1) := by decide +kernel
theorem dX12_count_127 : decode cX12_count 127 = .ok (.getfield 61, 3) := by decide +kernel
theorem dX12_count_130 : decode cX12_count 130 = .ok (.bipush 23, 2) := by decide +kernel
theorem dX12_count_132 : decode cX12_count 132 = .ok (.iaload, 1) := by decide +kernel
theorem dX12_count_133 : decode cX12_count 133 = .ok (.ireturn, 1) := by decide +kernel
theorem dX12_count_134 : decode cX12_count 134 = .ok (.aload_n 0, 1) := by decide +kernel
theorem dX12_count_135 : decode cX12_count 135 = .ok (.aload_n 0, 1) := by decide +kernel
theorem dX12_count_136 : decode cX12_count 136 = .ok (.getfield 61, 3) := by decide +kernel
theorem dX12_count_139 : decode cX12_count 139 = .ok (.iconst 0, 1) := by decide +kernel
theorem dX12_count_140 : decode cX12_count 140 = .ok (.invokevirtual 357, 3) := by decide +kernel
theorem dX12_count_143 : decode cX12_count 143 = .ok (.ireturn, 1) := by decide +kernel
theorem dX12_count_144 : decode cX12_count 144 = .ok (.aload_n 0, 1) := by decide +kernel
theorem dX12_count_145 : decode cX12_count 145 = .ok (.aload_n 0, 1) := by decide +kernel
theorem dX12_count_146 : decode cX12_count 146 = .ok (.getfield 61, 3) := by decide +kernel
theorem dX12_count_149 : decode cX12_count 149 = .ok (.iconst 1, 1) := by decide +kernel
theorem dX12_count_150 : decode cX12_count 150 = .ok (.invokevirtual 357, 3) := by decide +kernel
theorem dX12_count_153 : decode cX12_count 153 = .ok (.ireturn, 1) := by decide +kernel
theorem dX12_count_154 : decode cX12_count 154 = .ok (.aload_n 0, 1) := by decide +kernel
theorem dX12_count_155 : decode cX12_count 155 = .ok (.aload_n 0, 1) := by decide +kernel
theorem dX12_count_156 : decode cX12_count 156 = .ok (.getfield 61, 3) := by decide +kernel
theorem dX12_count_159 : decode cX12_count 159 = .ok (.iconst 2, 1) := by decide +kernel
theorem dX12_count_160 : decode cX12_count 160 = .ok (.invokevirtual 357, 3) := by decide +kernel
theorem dX12_count_163 : decode cX12_count 163 = .ok (.ireturn, 1) := by decide +kernel
theorem dX12_count_164 : decode cX12_count 164 = .ok (.aload_n 0, 1) := by decide +kernel
theorem dX12_count_165 : decode cX12_count 165 = .ok (.getfield 61, 3) := by decide +kernel
theorem dX12_count_168 : decode cX12_count 168 = .ok (.bipush 22, 2) := by decide +kernel
theorem dX12_count_170 : decode cX12_count 170 = .ok (.iaload, 1) := by decide +kernel
theorem dX12_count_171 : decode cX12_count 171 = .ok (.ireturn, 1) := by decide +kernel
theorem dX12_count_172 : decode cX12_count 172 = .ok (.aload_n 0, 1) := by decide +kernel
theorem dX12_count_173 : decode cX12_count 173 = .ok (.aload_n 0, 1) := by decide +kernel
theorem dX12_count_174 : decode cX12_count 174 = .ok (.getfield 61, 3) := by decide +kernel
theorem dX12_count_177 : decode cX12_count 177 = .ok (.iconst 0, 1) := by decide +kernel
theorem dX12_count_178 : decode cX12_count 178 = .ok (.invokevirtual 357, 3) := by decide +kernel
theorem dX12_count_181 : decode cX12_count 181 = .ok (.aload_n 0, 1) := by decide +kernel
theorem dX12_count_182 : decode cX12_count 182 = .ok (.iconst 3, 1) := by decide +kernel
theorem dX12_count_183 : decode cX12_count 183 = .ok (.invokevirtual 468, 3) := by decide +kernel
theorem dX12_count_186 : decode cX12_count 186 = .ok (.isub, 1) := by decide +kernel
theorem dX12_count_187 : decode cX12_count 187 = .ok (.ireturn, 1) := by decide +kernel
theorem dX12_count_188 : decode cX12_count 188 = .ok (.aload_n 0, 1) := by decide +kernel
theorem dX12_count_189 : decode cX12_count 189 = .ok (.iconst 1, 1) := by decide +kernel
theorem dX12_count_190 : decode cX12_count 190 = .ok (.invokevirtual 468, 3) := by decide +kernel
theorem dX12_count_193 : decode cX12_count 193 = .ok (.aload_n 0, 1) := by decide +kernel
theorem dX12_count_194 : decode cX12_count 194 = .ok (.aload_n 0, 1) := by decide +kernel
theorem dX12_count_195 : decode cX12_count 195 = .ok (.getfield 61, 3) := by decide +kernel
theorem dX12_count_198 : decode cX12_count 198 = .ok (.iconst 0, 1) := by decide +kernel
theorem dX12_count_199 : decode cX12_count 199 = .ok (.invokevirtual 357, 3) := by decide +kernel
theorem dX12_count_202 : decode cX12_count 202 = .ok (.isub, 1) := by decide +kernel
theorem dX12_count_203 : decode cX12_count 203 = .ok (.ireturn, 1) := by decide +kernel
theorem dX12_count_204 : decode cX12_count 204 = .ok (.aload_n 0, 1) := by decide +kernel
theorem dX12_count_205 : decode cX12_count 205 = .ok (.getfield 71, 3) := by decide +kernel
theorem dX12_count_208 : decode cX12_count 208 = .ok (.ireturn, 1) := by decide +kernel
theorem dX12_count_209 : decode cX12_count 209 = .ok (.aload_n 0, 1) := by decide +kernel
theorem dX12_count_210 : decode cX12_count 210 = .ok (.getfield 374, 3) := by decide +kernel
theorem dX12_count_213 : decode cX12_count 213 = .ok (.ireturn, 1) := by decide +kernel
theorem dX12_count_214 : decode cX12_count 214 = .ok (.aload_n 0, 1) := by decide +kernel
theorem dX12_count_215 : decode cX12_count 215 = .ok (.getfield 61, 3) := by decide +kernel
theorem dX12_count_218 : decode cX12_count 218 = .ok (.bipush 21, 2) := by decide +kernel
theorem dX12_count_220 : decode cX12_count 220 = .ok (.iaload, 1) := by decide +kernel
theorem dX12_count_221 : decode cX12_count 221 = .ok (.ireturn, 1) := by decide +kernel
theorem dX12_count_222 : decode cX12_count 222 = .ok (.aload_n 0, 1) := by decide +kernel
theorem dX12_count_223 : decode cX12_count 223 = .ok (.getfield 303, 3) := by decide +kernel
theorem dX12_count_226 : decode cX12_count 226 = .ok (.ireturn, 1) := by decide +kernel
theorem dX12_count_227 : decode cX12_count 227 = .ok (.aload_n 0, 1) := by decide +kernel
theorem dX12_count_228 : decode cX12_count 228 = .ok (.getfield 61, 3) := by decide +kernel
theorem dX12_count_231 : decode cX12_count 231 = .ok (.bipush 24, 2) := by decide +kernel
theorem dX12_count_233 : decode cX12_count 233 = .ok (.iaload, 1) := by decide +kernel
theorem dX12_count_234 : decode cX12_count 234 = .ok (.ireturn, 1) := by decide +kernel
theorem dX12_count_235 : decode cX12_count 235 = .ok (.aload_n 0, 1) := by decide +kernel
theorem dX12_count_236 : decode cX12_count 236 = .ok (.getfield 306, 3) := by decide +kernel
theorem dX12_count_239 : decode cX12_count 239 = .ok (.ireturn, 1) := by decide +kernel
theorem dX12_count_240 : decode cX12_count 240 = .ok (.ldc_w 408, 3) := by decide +kernel
theorem dX12_count_243 : decode cX12_count 243 = .ok (.ireturn, 1) := by decide +kernel
